abbrev cX1_hasRoom : ByteArray := prog_3_method_6_code
def yX1_hasRoom : MethodName := ⟨RX1, "hasRoom", "(I)Z"⟩
abbrev cX1_awaitInt : ByteArray := prog_3_method_10_code
def yX1_awaitInt : MethodName := ⟨RX1, "awaitInt", "(I)V"⟩
abbrev cX1_recordRead : ByteArray := prog_3_method_11_code
def yX1_recordRead : MethodName := ⟨RX1, "recordRead", "([BI)V"⟩
abbrev cX1_recordOn : ByteArray := prog_3_method_12_code
def yX1_recordOn : MethodName := ⟨RX1, "recordOn", "(IZ)V"⟩
abbrev cX11_read : ByteArray := prog_1_method_13_code
def yX11_read : MethodName := ⟨RX11, "read", "()I"⟩
abbrev cX11_useTape : ByteArray := prog_1_method_14_code
def yX11_useTape : MethodName := ⟨RX11, "useTape", "()I"⟩
abbrev cX11_faulted : ByteArray := prog_1_method_15_code
def yX11_faulted : MethodName := ⟨RX11, "faulted", "()I"⟩
abbrev cX11_fault : ByteArray := prog_1_method_16_code
def yX11_fault : MethodName := ⟨RX11, "fault", "()I"⟩
abbrev cX11_on : ByteArray := prog_1_method_17_code
def yX11_on : MethodName := ⟨RX11, "on", "(IZ)I"⟩
abbrev cX12_note : ByteArray := prog_14_method_6_code
def yX12_note : MethodName := ⟨RX12, "note", "(I)V"⟩
abbrev cX12_noteInt : ByteArray := prog_14_method_7_code
def yX12_noteInt : MethodName := ⟨RX12, "noteInt", "(I)V"⟩
abbrev cX12_takeTape : ByteArray := prog_14_method_8_code
def yX12_takeTape : MethodName := ⟨RX12, "takeTape", "()V"⟩
abbrev cX12_call : ByteArray := prog_14_method_9_code
def yX12_call : MethodName := ⟨RX12, "call", "(I)I"⟩
abbrev cX12_read : ByteArray := prog_14_method_92_code
def yX12_read : MethodName := ⟨RX12, "read", "()I"⟩
abbrev cX12_fault : ByteArray := prog_14_method_93_code
def yX12_fault : MethodName := ⟨RX12, "fault", "()I"⟩
abbrev cX12_count : ByteArray := prog_14_method_97_code
def yX12_count : MethodName := ⟨RX12, "count", "(I)I"⟩
def wsJ6_bitCount_0f7a4 : List Cond := .code yJ6_bitCount_0f7a4 cJ6_bitCount_0f7a4 1 (some .int) :: ([.constant RJ6 265 (1431655765), .constant RJ6 266 (858993459), .constant RJ6 267 (252645135)])
def wsX1_hasRoom : List Cond := .code yX1_hasRoom cX1_hasRoom 2 (some .boolean) :: ([.fieldLink RX1 40 "IntegerHouse$Disk" "waiting" "I", .fieldLink RX1 43 "IntegerHouse$Disk" "used" "I"] ++ wsX10)
def wsX1_await : List Cond := .code yX1_await cX1_await 2 none :: ([.fieldLink RX1 40 "IntegerHouse$Disk" "waiting" "I", .fieldLink RX1 22 "IntegerHouse$Disk" "waits" "[B"] ++ wsX10)
def wsX1_recordRead : List Cond := .code yX1_recordRead cX1_recordRead 4 none :: ([.methodLink RX1 50 yX1_await, .instanceMethod yX1_await, .selects RX1 yX1_await yX1_await, .initialized RX1, .code yX1_await cX1_await 2 none, .fieldLink RX1 40 "IntegerHouse$Disk" "waiting" "I", .fieldLink RX1 22 "IntegerHouse$Disk" "waits" "[B"] ++ wsX10)
def wsX2_isClaim : List Cond := .code yX2_isClaim cX2_isClaim 2 (some .boolean) :: ([.fieldLink RX2 55 "IntegerHouse$House" "claims" "I"] ++ wsX20)
def wsX2_turnOnFrom : List Cond := .code yX2_turnOnFrom cX2_turnOnFrom 2 none :: ([.fieldLink RX2 61 "IntegerHouse$House" "on" "I", .fieldLink RX2 55 "IntegerHouse$House" "claims" "I"] ++ wsX20)
def wsX3_behindBlanks : List Cond := .code yX3_behindBlanks cX3_behindBlanks 3 (some .int) :: ([.fieldLink RX3 52 "IntegerHouse$Lexer" "stop" "I", .methodLink RX3 63 yX3_byteAt, .instanceMethod yX3_byteAt, .selects RX3 yX3_byteAt yX3_byteAt, .initialized RX3, .code yX3_byteAt cX3_byteAt 2 (some .int), .fieldLink RX3 55 "IntegerHouse$Lexer" "begin" "I", .fieldLink RX3 28 "IntegerHouse$Lexer" "source" "[B"] ++ wsX30)
def wsX3_scan_r1 : List Cond := [Cond.fieldLink RX3 28 "IntegerHouse$Lexer" "source" "[B", Cond.fieldLink RX3 55 "IntegerHouse$Lexer" "begin" "I", Cond.fieldLink RX3 52 "IntegerHouse$Lexer" "stop" "I", Cond.fieldLink RX3 48 "IntegerHouse$Lexer" "size" "I", Cond.fieldLink RX3 19 "IntegerHouse$Lexer" "spots" "[I", Cond.fieldLink RX3 15 "IntegerHouse$Lexer" "kinds" "[I", Cond.methodLink RX3 59 yX3_behindBlanks, Cond.instanceMethod yX3_behindBlanks, Cond.selects RX3 yX3_behindBlanks yX3_behindBlanks, Cond.initialized RX3, Cond.code yX3_behindBlanks cX3_behindBlanks 3 (some .int), Cond.methodLink RX3 63 yX3_byteAt, Cond.instanceMethod yX3_byteAt, Cond.selects RX3 yX3_byteAt yX3_byteAt, Cond.code yX3_byteAt cX3_byteAt 2 (some .int), Cond.methodLink RX3 66 yX3_isLetter, Cond.static yX3_isLetter, Cond.code yX3_isLetter cX3_isLetter 1 (some .boolean), Cond.methodLink RX3 70 yX3_word, Cond.instanceMethod yX3_word, Cond.selects RX3 yX3_word yX3_word, Cond.code yX3_word cX3_word 9 (some .int), Cond.fieldLink RX3 11 "IntegerHouse$Lexer" "words" "[J", Cond.fieldLink RX3 25 "IntegerHouse$Lexer" "names" "[J"]
def wsX3_scan_r2 : List Cond := [Cond.methodLink RX3 74 yX3_isDigit, Cond.static yX3_isDigit, Cond.code yX3_isDigit cX3_isDigit 1 (some .boolean), Cond.methodLink RX3 77 yX3_digits, Cond.instanceMethod yX3_digits, Cond.selects RX3 yX3_digits yX3_digits, Cond.code yX3_digits cX3_digits 6 (some .int), Cond.fieldLink RX3 22 "IntegerHouse$Lexer" "numbers" "[I", Cond.methodLink RX3 81 yX3_sign, Cond.instanceMethod yX3_sign, Cond.selects RX3 yX3_sign yX3_sign, Cond.code yX3_sign cX3_sign 6 (some .int), Cond.methodLink RX3 44 yJ0_charAt_5068e, Cond.instanceMethod yJ0_charAt_5068e, Cond.selects RJ0 yJ0_charAt_5068e yJ0_charAt_5068e, Cond.initialized RJ0, Cond.code yJ0_charAt_5068e cJ0_charAt_5068e 2 (some .char), Cond.fieldLink RJ0 9 "java/lang/String" "value" "[B", Cond.methodLink RJ0 492 yJ0_isLatin1_aae02, Cond.instanceMethod yJ0_isLatin1_aae02, Cond.selects RJ0 yJ0_isLatin1_aae02 yJ0_isLatin1_aae02, Cond.code yJ0_isLatin1_aae02 cJ0_isLatin1_aae02 1 (some .boolean), Cond.fieldLink RJ0 38 "java/lang/String" "COMPACT_STRINGS" "Z", Cond.fieldLink RJ0 15 "java/lang/String" "coder" "B"]
def wsX3_scan_r3 : List Cond := [Cond.methodLink RJ0 495 yJ1_charAt_3b067, Cond.static yJ1_charAt_3b067, Cond.initialized RJ1, Cond.code yJ1_charAt_3b067 cJ1_charAt_3b067 2 (some .char), Cond.methodLink RJ1 9 yJ0_checkIndex_df160, Cond.static yJ0_checkIndex_df160, Cond.code yJ0_checkIndex_df160 cJ0_checkIndex_df160 2 none, Cond.fieldLink RJ0 1053 "jdk/internal/util/Preconditions" "SIOOBE_FORMATTER" "Ljava/util/function/BiFunction;", Cond.methodLink RJ0 1059 yJ3_checkIndex_8e157, Cond.static yJ3_checkIndex_8e157, Cond.initialized RJ3, Cond.code yJ3_checkIndex_8e157 cJ3_checkIndex_8e157 3 (some .int), Cond.methodLink RJ0 498 yJ2_charAt_3b067, Cond.static yJ2_charAt_3b067, Cond.initialized RJ2, Cond.code yJ2_charAt_3b067 cJ2_charAt_3b067 2 (some .char), Cond.methodLink RJ2 67 yJ2_checkIndex_2214a, Cond.static yJ2_checkIndex_2214a, Cond.code yJ2_checkIndex_2214a cJ2_checkIndex_2214a 2 none, Cond.methodLink RJ2 48 yJ2_length_9d52b, Cond.static yJ2_length_9d52b, Cond.code yJ2_length_9d52b cJ2_length_9d52b 1 (some .int), Cond.methodLink RJ2 414 yJ0_checkIndex_df160, Cond.methodLink RJ2 71 yJ2_getChar_3b067]
def wsX3_scan_r4 : List Cond := [Cond.static yJ2_getChar_3b067, Cond.code yJ2_getChar_3b067 cJ2_getChar_3b067 2 (some .char), Cond.fieldLink RJ2 44 "java/lang/StringUTF16" "$assertionsDisabled" "Z", Cond.fieldLink RJ2 59 "java/lang/StringUTF16" "HI_BYTE_SHIFT" "I", Cond.fieldLink RJ2 63 "java/lang/StringUTF16" "LO_BYTE_SHIFT" "I"]
def wsX3_scan : List Cond := .code yX3_scan cX3_scan 9 none :: ((wsX3_scan_r1 ++ (wsX3_scan_r2 ++ (wsX3_scan_r3 ++ wsX3_scan_r4))) ++ wsX30)
def wsX8_next : List Cond := .code yX8_next cX8_next 1 none :: ([.fieldLink RX8 79 "IntegerHouse$Reader" "at" "I", .fieldLink RX8 9 "IntegerHouse$Reader" "lexer" "LIntegerHouse$Lexer;", .fieldLink RX8 39 "IntegerHouse$Reader" "kind" "I", .fieldLink RX8 136 "IntegerHouse$Reader" "place" "I"] ++ wsX80 ++ wsX30)
def wsX8_begin_r1 : List Cond := [Cond.fieldLink RX8 9 "IntegerHouse$Reader" "lexer" "LIntegerHouse$Lexer;", Cond.fieldLink RX8 62 "IntegerHouse$Reader" "faultKind" "I", Cond.fieldLink RX8 123 "IntegerHouse$Reader" "faultPlace" "I", Cond.fieldLink RX8 101 "IntegerHouse$Reader" "hasFormula" "Z", Cond.fieldLink RX8 79 "IntegerHouse$Reader" "at" "I", Cond.methodLink RX8 119 yX3_scan, Cond.instanceMethod yX3_scan, Cond.selects RX3 yX3_scan yX3_scan, Cond.initialized RX3, Cond.code yX3_scan cX3_scan 9 none, Cond.fieldLink RX3 28 "IntegerHouse$Lexer" "source" "[B", Cond.fieldLink RX3 55 "IntegerHouse$Lexer" "begin" "I", Cond.fieldLink RX3 52 "IntegerHouse$Lexer" "stop" "I", Cond.fieldLink RX3 48 "IntegerHouse$Lexer" "size" "I", Cond.fieldLink RX3 19 "IntegerHouse$Lexer" "spots" "[I", Cond.fieldLink RX3 15 "IntegerHouse$Lexer" "kinds" "[I", Cond.methodLink RX3 59 yX3_behindBlanks, Cond.instanceMethod yX3_behindBlanks, Cond.selects RX3 yX3_behindBlanks yX3_behindBlanks, Cond.code yX3_behindBlanks cX3_behindBlanks 3 (some .int), Cond.methodLink RX3 63 yX3_byteAt, Cond.instanceMethod yX3_byteAt, Cond.selects RX3 yX3_byteAt yX3_byteAt, Cond.code yX3_byteAt cX3_byteAt 2 (some .int)]
def wsX8_begin_r2 : List Cond := [Cond.methodLink RX3 66 yX3_isLetter, Cond.static yX3_isLetter, Cond.code yX3_isLetter cX3_isLetter 1 (some .boolean), Cond.methodLink RX3 70 yX3_word, Cond.instanceMethod yX3_word, Cond.selects RX3 yX3_word yX3_word, Cond.code yX3_word cX3_word 9 (some .int), Cond.fieldLink RX3 11 "IntegerHouse$Lexer" "words" "[J", Cond.fieldLink RX3 25 "IntegerHouse$Lexer" "names" "[J", Cond.methodLink RX3 74 yX3_isDigit, Cond.static yX3_isDigit, Cond.code yX3_isDigit cX3_isDigit 1 (some .boolean), Cond.methodLink RX3 77 yX3_digits, Cond.instanceMethod yX3_digits, Cond.selects RX3 yX3_digits yX3_digits, Cond.code yX3_digits cX3_digits 6 (some .int), Cond.fieldLink RX3 22 "IntegerHouse$Lexer" "numbers" "[I", Cond.methodLink RX3 81 yX3_sign, Cond.instanceMethod yX3_sign, Cond.selects RX3 yX3_sign yX3_sign, Cond.code yX3_sign cX3_sign 6 (some .int), Cond.methodLink RX3 44 yJ0_charAt_5068e, Cond.instanceMethod yJ0_charAt_5068e, Cond.selects RJ0 yJ0_charAt_5068e yJ0_charAt_5068e]
def wsX8_begin_r3 : List Cond := [Cond.initialized RJ0, Cond.code yJ0_charAt_5068e cJ0_charAt_5068e 2 (some .char), Cond.fieldLink RJ0 9 "java/lang/String" "value" "[B", Cond.methodLink RJ0 492 yJ0_isLatin1_aae02, Cond.instanceMethod yJ0_isLatin1_aae02, Cond.selects RJ0 yJ0_isLatin1_aae02 yJ0_isLatin1_aae02, Cond.code yJ0_isLatin1_aae02 cJ0_isLatin1_aae02 1 (some .boolean), Cond.fieldLink RJ0 38 "java/lang/String" "COMPACT_STRINGS" "Z", Cond.fieldLink RJ0 15 "java/lang/String" "coder" "B", Cond.methodLink RJ0 495 yJ1_charAt_3b067, Cond.static yJ1_charAt_3b067, Cond.initialized RJ1, Cond.code yJ1_charAt_3b067 cJ1_charAt_3b067 2 (some .char), Cond.methodLink RJ1 9 yJ0_checkIndex_df160, Cond.static yJ0_checkIndex_df160, Cond.code yJ0_checkIndex_df160 cJ0_checkIndex_df160 2 none, Cond.fieldLink RJ0 1053 "jdk/internal/util/Preconditions" "SIOOBE_FORMATTER" "Ljava/util/function/BiFunction;", Cond.methodLink RJ0 1059 yJ3_checkIndex_8e157, Cond.static yJ3_checkIndex_8e157, Cond.initialized RJ3, Cond.code yJ3_checkIndex_8e157 cJ3_checkIndex_8e157 3 (some .int), Cond.methodLink RJ0 498 yJ2_charAt_3b067, Cond.static yJ2_charAt_3b067, Cond.initialized RJ2]
def wsX8_begin_r4 : List Cond := [Cond.code yJ2_charAt_3b067 cJ2_charAt_3b067 2 (some .char), Cond.methodLink RJ2 67 yJ2_checkIndex_2214a, Cond.static yJ2_checkIndex_2214a, Cond.code yJ2_checkIndex_2214a cJ2_checkIndex_2214a 2 none, Cond.methodLink RJ2 48 yJ2_length_9d52b, Cond.static yJ2_length_9d52b, Cond.code yJ2_length_9d52b cJ2_length_9d52b 1 (some .int), Cond.methodLink RJ2 414 yJ0_checkIndex_df160, Cond.methodLink RJ2 71 yJ2_getChar_3b067, Cond.static yJ2_getChar_3b067, Cond.code yJ2_getChar_3b067 cJ2_getChar_3b067 2 (some .char), Cond.fieldLink RJ2 44 "java/lang/StringUTF16" "$assertionsDisabled" "Z", Cond.fieldLink RJ2 59 "java/lang/StringUTF16" "HI_BYTE_SHIFT" "I", Cond.fieldLink RJ2 63 "java/lang/StringUTF16" "LO_BYTE_SHIFT" "I", Cond.methodLink RX8 98 yX8_next, Cond.instanceMethod yX8_next, Cond.selects RX8 yX8_next yX8_next, Cond.initialized RX8, Cond.code yX8_next cX8_next 1 none, Cond.fieldLink RX8 39 "IntegerHouse$Reader" "kind" "I", Cond.fieldLink RX8 136 "IntegerHouse$Reader" "place" "I"]
def wsX8_begin : List Cond := .code yX8_begin cX8_begin 4 none :: ((wsX8_begin_r1 ++ (wsX8_begin_r2 ++ (wsX8_begin_r3 ++ wsX8_begin_r4))) ++ wsX80 ++ wsX30)
def wsX8_expectEnd : List Cond := .code yX8_expectEnd cX8_expectEnd 1 none :: ([.fieldLink RX8 39 "IntegerHouse$Reader" "kind" "I", .methodLink RX8 95 yX8_fail, .instanceMethod yX8_fail, .selects RX8 yX8_fail yX8_fail, .initialized RX8, .code yX8_fail cX8_fail 2 none, .fieldLink RX8 62 "IntegerHouse$Reader" "faultKind" "I", .fieldLink RX8 136 "IntegerHouse$Reader" "place" "I", .fieldLink RX8 123 "IntegerHouse$Reader" "faultPlace" "I"] ++ wsX80)
def wsX8_readText_r1 : List Cond := [Cond.fieldLink RX8 15 "IntegerHouse$Reader" "house" "LIntegerHouse$House;", Cond.fieldLink RX8 39 "IntegerHouse$Reader" "kind" "I", Cond.fieldLink RX8 62 "IntegerHouse$Reader" "faultKind" "I", Cond.fieldLink RX8 19 "IntegerHouse$Reader" "maker" "LIntegerHouse$Maker;", Cond.methodLink RX8 23 yX8_begin, Cond.instanceMethod yX8_begin, Cond.selects RX8 yX8_begin yX8_begin, Cond.initialized RX8, Cond.code yX8_begin cX8_begin 4 none, Cond.fieldLink RX8 9 "IntegerHouse$Reader" "lexer" "LIntegerHouse$Lexer;", Cond.fieldLink RX8 123 "IntegerHouse$Reader" "faultPlace" "I", Cond.fieldLink RX8 101 "IntegerHouse$Reader" "hasFormula" "Z", Cond.fieldLink RX8 79 "IntegerHouse$Reader" "at" "I", Cond.methodLink RX8 119 yX3_scan, Cond.instanceMethod yX3_scan, Cond.selects RX3 yX3_scan yX3_scan, Cond.initialized RX3, Cond.code yX3_scan cX3_scan 9 none, Cond.fieldLink RX3 28 "IntegerHouse$Lexer" "source" "[B", Cond.fieldLink RX3 55 "IntegerHouse$Lexer" "begin" "I", Cond.fieldLink RX3 52 "IntegerHouse$Lexer" "stop" "I", Cond.fieldLink RX3 48 "IntegerHouse$Lexer" "size" "I", Cond.fieldLink RX3 19 "IntegerHouse$Lexer" "spots" "[I", Cond.fieldLink RX3 15 "IntegerHouse$Lexer" "kinds" "[I"]
def wsX8_readText_r2 : List Cond := [Cond.methodLink RX3 59 yX3_behindBlanks, Cond.instanceMethod yX3_behindBlanks, Cond.selects RX3 yX3_behindBlanks yX3_behindBlanks, Cond.code yX3_behindBlanks cX3_behindBlanks 3 (some .int), Cond.methodLink RX3 63 yX3_byteAt, Cond.instanceMethod yX3_byteAt, Cond.selects RX3 yX3_byteAt yX3_byteAt, Cond.code yX3_byteAt cX3_byteAt 2 (some .int), Cond.methodLink RX3 66 yX3_isLetter, Cond.static yX3_isLetter, Cond.code yX3_isLetter cX3_isLetter 1 (some .boolean), Cond.methodLink RX3 70 yX3_word, Cond.instanceMethod yX3_word, Cond.selects RX3 yX3_word yX3_word, Cond.code yX3_word cX3_word 9 (some .int), Cond.fieldLink RX3 11 "IntegerHouse$Lexer" "words" "[J", Cond.fieldLink RX3 25 "IntegerHouse$Lexer" "names" "[J", Cond.methodLink RX3 74 yX3_isDigit, Cond.static yX3_isDigit, Cond.code yX3_isDigit cX3_isDigit 1 (some .boolean), Cond.methodLink RX3 77 yX3_digits, Cond.instanceMethod yX3_digits, Cond.selects RX3 yX3_digits yX3_digits, Cond.code yX3_digits cX3_digits 6 (some .int)]
def wsX8_readText_r3 : List Cond := [Cond.fieldLink RX3 22 "IntegerHouse$Lexer" "numbers" "[I", Cond.methodLink RX3 81 yX3_sign, Cond.instanceMethod yX3_sign, Cond.selects RX3 yX3_sign yX3_sign, Cond.code yX3_sign cX3_sign 6 (some .int), Cond.methodLink RX3 44 yJ0_charAt_5068e, Cond.instanceMethod yJ0_charAt_5068e, Cond.selects RJ0 yJ0_charAt_5068e yJ0_charAt_5068e, Cond.initialized RJ0, Cond.code yJ0_charAt_5068e cJ0_charAt_5068e 2 (some .char), Cond.fieldLink RJ0 9 "java/lang/String" "value" "[B", Cond.methodLink RJ0 492 yJ0_isLatin1_aae02, Cond.instanceMethod yJ0_isLatin1_aae02, Cond.selects RJ0 yJ0_isLatin1_aae02 yJ0_isLatin1_aae02, Cond.code yJ0_isLatin1_aae02 cJ0_isLatin1_aae02 1 (some .boolean), Cond.fieldLink RJ0 38 "java/lang/String" "COMPACT_STRINGS" "Z", Cond.fieldLink RJ0 15 "java/lang/String" "coder" "B", Cond.methodLink RJ0 495 yJ1_charAt_3b067, Cond.static yJ1_charAt_3b067, Cond.initialized RJ1, Cond.code yJ1_charAt_3b067 cJ1_charAt_3b067 2 (some .char), Cond.methodLink RJ1 9 yJ0_checkIndex_df160, Cond.static yJ0_checkIndex_df160, Cond.code yJ0_checkIndex_df160 cJ0_checkIndex_df160 2 none]
def wsX8_readText_r4 : List Cond := [Cond.fieldLink RJ0 1053 "jdk/internal/util/Preconditions" "SIOOBE_FORMATTER" "Ljava/util/function/BiFunction;", Cond.methodLink RJ0 1059 yJ3_checkIndex_8e157, Cond.static yJ3_checkIndex_8e157, Cond.initialized RJ3, Cond.code yJ3_checkIndex_8e157 cJ3_checkIndex_8e157 3 (some .int), Cond.methodLink RJ0 498 yJ2_charAt_3b067, Cond.static yJ2_charAt_3b067, Cond.initialized RJ2, Cond.code yJ2_charAt_3b067 cJ2_charAt_3b067 2 (some .char), Cond.methodLink RJ2 67 yJ2_checkIndex_2214a, Cond.static yJ2_checkIndex_2214a, Cond.code yJ2_checkIndex_2214a cJ2_checkIndex_2214a 2 none, Cond.methodLink RJ2 48 yJ2_length_9d52b, Cond.static yJ2_length_9d52b, Cond.code yJ2_length_9d52b cJ2_length_9d52b 1 (some .int), Cond.methodLink RJ2 414 yJ0_checkIndex_df160, Cond.methodLink RJ2 71 yJ2_getChar_3b067, Cond.static yJ2_getChar_3b067, Cond.code yJ2_getChar_3b067 cJ2_getChar_3b067 2 (some .char), Cond.fieldLink RJ2 44 "java/lang/StringUTF16" "$assertionsDisabled" "Z", Cond.fieldLink RJ2 59 "java/lang/StringUTF16" "HI_BYTE_SHIFT" "I", Cond.fieldLink RJ2 63 "java/lang/StringUTF16" "LO_BYTE_SHIFT" "I", Cond.methodLink RX8 98 yX8_next, Cond.instanceMethod yX8_next]
def wsX8_readText_r5 : List Cond := [Cond.selects RX8 yX8_next yX8_next, Cond.code yX8_next cX8_next 1 none, Cond.fieldLink RX8 136 "IntegerHouse$Reader" "place" "I", Cond.methodLink RX8 42 yX8_readVariables, Cond.instanceMethod yX8_readVariables, Cond.selects RX8 yX8_readVariables yX8_readVariables, Cond.code yX8_readVariables cX8_readVariables 2 none, Cond.methodLink RX8 143 yX8_readVariable, Cond.instanceMethod yX8_readVariable, Cond.selects RX8 yX8_readVariable yX8_readVariable, Cond.code yX8_readVariable cX8_readVariable 3 none, Cond.methodLink RX8 82 yX3_nameAt, Cond.instanceMethod yX3_nameAt, Cond.selects RX3 yX3_nameAt yX3_nameAt, Cond.code yX3_nameAt cX3_nameAt 2 (some .long), Cond.methodLink RX8 95 yX8_fail, Cond.instanceMethod yX8_fail, Cond.selects RX8 yX8_fail yX8_fail, Cond.code yX8_fail cX8_fail 2 none, Cond.methodLink RX8 92 yX2_variableOf, Cond.instanceMethod yX2_variableOf, Cond.selects RX2 yX2_variableOf yX2_variableOf, Cond.initialized RX2, Cond.code yX2_variableOf cX2_variableOf 4 (some .int)]
def wsX8_readText_r6 : List Cond := [Cond.fieldLink RX2 52 "IntegerHouse$House" "variables" "I", Cond.fieldLink RX2 9 "IntegerHouse$House" "variableNames" "[J", Cond.methodLink RX8 88 yX2_claimOf, Cond.instanceMethod yX2_claimOf, Cond.selects RX2 yX2_claimOf yX2_claimOf, Cond.code yX2_claimOf cX2_claimOf 4 (some .int), Cond.fieldLink RX2 55 "IntegerHouse$House" "claims" "I", Cond.fieldLink RX2 15 "IntegerHouse$House" "claimNames" "[J", Cond.methodLink RX8 146 yX2_addVariable, Cond.instanceMethod yX2_addVariable, Cond.selects RX2 yX2_addVariable yX2_addVariable, Cond.code yX2_addVariable cX2_addVariable 3 (some .boolean), Cond.methodLink RX8 45 yX8_beginClaim, Cond.instanceMethod yX8_beginClaim, Cond.selects RX8 yX8_beginClaim yX8_beginClaim, Cond.code yX8_beginClaim cX8_beginClaim 1 (some .boolean), Cond.fieldLink RX8 150 "IntegerHouse$Reader" "claimName" "J", Cond.fieldLink RX8 154 "IntegerHouse$Reader" "claimPlace" "I", Cond.methodLink RX8 56 yX8_expect, Cond.instanceMethod yX8_expect, Cond.selects RX8 yX8_expect yX8_expect, Cond.code yX8_expect cX8_expect 2 none, Cond.methodLink RX8 49 yX8_readInto, Cond.instanceMethod yX8_readInto]
def wsX8_readText_r7 : List Cond := [Cond.selects RX8 yX8_readInto yX8_readInto, Cond.code yX8_readInto cX8_readInto 2 none, Cond.fieldLink RX8 164 "IntegerHouse$Reader" "slot" "I", Cond.fieldLink RX8 167 "IntegerHouse$Reader" "tokens" "I", Cond.fieldLink RX8 170 "IntegerHouse$Reader" "steps" "I", Cond.fieldLink RX8 173 "IntegerHouse$Reader" "open" "I", Cond.methodLink RX8 157 yX2_setFact, Cond.instanceMethod yX2_setFact, Cond.selects RX2 yX2_setFact yX2_setFact, Cond.code yX2_setFact cX2_setFact 4 none, Cond.fieldLink RX2 28 "IntegerHouse$House" "facts" "[I", Cond.methodLink RX8 176 yX8_term, Cond.instanceMethod yX8_term, Cond.selects RX8 yX8_term yX8_term, Cond.code yX8_term cX8_term 3 none, Cond.methodLink RX8 191 yX8_accept, Cond.instanceMethod yX8_accept, Cond.selects RX8 yX8_accept yX8_accept, Cond.code yX8_accept cX8_accept 4 none, Cond.methodLink RX8 185 yX2_setToken, Cond.instanceMethod yX2_setToken, Cond.selects RX2 yX2_setToken yX2_setToken, Cond.code yX2_setToken cX2_setToken 4 none, Cond.fieldLink RX2 18 "IntegerHouse$House" "tokens" "[I"]
def wsX8_readText_r8 : List Cond := [Cond.methodLink RX8 219 yX8_part, Cond.instanceMethod yX8_part, Cond.selects RX8 yX8_part yX8_part, Cond.methodLink RX8 194 yX8_step, Cond.instanceMethod yX8_step, Cond.selects RX8 yX8_step yX8_step, Cond.code yX8_step cX8_step 2 none, Cond.methodLink RX8 182 yX2_setStep, Cond.instanceMethod yX2_setStep, Cond.selects RX2 yX2_setStep yX2_setStep, Cond.code yX2_setStep cX2_setStep 4 none, Cond.fieldLink RX2 22 "IntegerHouse$House" "steps" "[I", Cond.code yX8_bracketed cX8_bracketed 3 none, Cond.methodLink RX8 206 yX3_numberAt, Cond.instanceMethod yX3_numberAt, Cond.selects RX3 yX3_numberAt yX3_numberAt, Cond.code yX3_numberAt cX3_numberAt 2 (some .int), Cond.constant RX3 58 (1048575), Cond.methodLink RX8 209 yX8_checkDivisor, Cond.instanceMethod yX8_checkDivisor, Cond.selects RX8 yX8_checkDivisor yX8_checkDivisor, Cond.code yX8_checkDivisor cX8_checkDivisor 2 none, Cond.methodLink RX8 212 yX3_writtenAt, Cond.instanceMethod yX3_writtenAt]
def wsX8_readText_r9 : List Cond := [Cond.selects RX3 yX3_writtenAt yX3_writtenAt, Cond.code yX3_writtenAt cX3_writtenAt 2 (some .int), Cond.code yX8_factor cX8_factor 3 none, Cond.methodLink RX8 226 yX8_bracketed, Cond.instanceMethod yX8_bracketed, Cond.selects RX8 yX8_bracketed yX8_bracketed, Cond.code yX8_part cX8_part 5 none, Cond.methodLink RX8 223 yX8_factor, Cond.instanceMethod yX8_factor, Cond.selects RX8 yX8_factor yX8_factor, Cond.methodLink RX8 179 yX8_formula, Cond.instanceMethod yX8_formula, Cond.selects RX8 yX8_formula yX8_formula, Cond.code yX8_formula cX8_formula 2 none, Cond.methodLink RX8 188 yX8_side, Cond.instanceMethod yX8_side, Cond.selects RX8 yX8_side yX8_side, Cond.code yX8_both cX8_both 2 none, Cond.methodLink RX8 200 yX8_one, Cond.instanceMethod yX8_one, Cond.selects RX8 yX8_one yX8_one, Cond.code yX8_one cX8_one 4 none, Cond.methodLink RX8 203 yX3_kindAt, Cond.instanceMethod yX3_kindAt]
def wsX8_readText_r10 : List Cond := [Cond.selects RX3 yX3_kindAt yX3_kindAt, Cond.code yX3_kindAt cX3_kindAt 2 (some .int), Cond.static yX11_isComparison, Cond.initialized RX11, Cond.code yX11_isComparison cX11_isComparison 1 (some .boolean), Cond.code yX8_side cX8_side 2 none, Cond.methodLink RX8 197 yX8_both, Cond.instanceMethod yX8_both, Cond.selects RX8 yX8_both yX8_both, Cond.methodLink RX8 53 yX8_endClaim, Cond.instanceMethod yX8_endClaim, Cond.selects RX8 yX8_endClaim yX8_endClaim, Cond.code yX8_endClaim cX8_endClaim 1 none, Cond.methodLink RX8 160 yX2_addClaim, Cond.instanceMethod yX2_addClaim, Cond.selects RX2 yX2_addClaim yX2_addClaim, Cond.code yX2_addClaim cX2_addClaim 3 none, Cond.fieldLink RX2 48 "IntegerHouse$House" "layers" "I", Cond.methodLink RX2 64 yX2_setFact, Cond.methodLink RX8 59 yX8_expectEnd, Cond.instanceMethod yX8_expectEnd, Cond.selects RX8 yX8_expectEnd yX8_expectEnd, Cond.code yX8_expectEnd cX8_expectEnd 1 none, Cond.methodLink RX8 65 yX4_make]
def wsX8_readText_r11 : List Cond := [Cond.instanceMethod yX4_make, Cond.selects RX4 yX4_make yX4_make, Cond.initialized RX4, Cond.code yX4_make cX4_make 10 (some .int), Cond.fieldLink RX4 25 "IntegerHouse$Maker" "house" "LIntegerHouse$House;", Cond.fieldLink RX4 33 "IntegerHouse$Maker" "slot" "I", Cond.methodLink RX4 56 Lib.Math.min.name, Cond.static Lib.Math.min.name, Cond.initialized "java/lang/Math", Cond.code Lib.Math.min.name Lib.Math.min.code 2 (some .int), Cond.fieldLink RX4 61 "IntegerHouse$Maker" "great" "Z", Cond.fieldLink RX4 15 "IntegerHouse$Maker" "tops" "[I", Cond.fieldLink RX4 83 "IntegerHouse$Maker" "falsehood" "I", Cond.fieldLink RX4 86 "IntegerHouse$Maker" "codeSize" "I", Cond.fieldLink RX4 89 "IntegerHouse$Maker" "crowded" "Z", Cond.methodLink RX4 29 yX4_begin, Cond.instanceMethod yX4_begin, Cond.selects RX4 yX4_begin yX4_begin, Cond.code yX4_begin cX4_begin 2 none, Cond.methodLink RX4 79 yX2_setFact, Cond.methodLink RX4 39 yX2_fact, Cond.instanceMethod yX2_fact, Cond.selects RX2 yX2_fact yX2_fact, Cond.code yX2_fact cX2_fact 3 (some .int)]
def wsX8_readText_r12 : List Cond := [Cond.methodLink RX4 43 yX2_step, Cond.instanceMethod yX2_step, Cond.selects RX2 yX2_step yX2_step, Cond.code yX2_step cX2_step 3 (some .int), Cond.methodLink RX4 46 yX4_isPlain, Cond.instanceMethod yX4_isPlain, Cond.selects RX4 yX4_isPlain yX4_isPlain, Cond.code yX4_isPlain cX4_isPlain 4 (some .boolean), Cond.methodLink RX4 50 yX4_lastOf, Cond.instanceMethod yX4_lastOf, Cond.selects RX4 yX4_lastOf yX4_lastOf, Cond.code yX4_lastOf cX4_lastOf 4 (some .int), Cond.methodLink RX4 102 yX4_isConclusion, Cond.static yX4_isConclusion, Cond.code yX4_isConclusion cX4_isConclusion 1 (some .boolean), Cond.methodLink RX4 53 yX4_casesOf, Cond.instanceMethod yX4_casesOf, Cond.selects RX4 yX4_casesOf yX4_casesOf, Cond.code yX4_casesOf cX4_casesOf 5 (some .int), Cond.methodLink RX4 108 yX4_waysOf, Cond.static yX4_waysOf, Cond.code yX4_waysOf cX4_waysOf 2 (some .int), Cond.methodLink RX4 65 yX4_fall, Cond.instanceMethod yX4_fall]
def wsX8_readText_r13 : List Cond := [Cond.selects RX4 yX4_fall yX4_fall, Cond.code yX4_fall cX4_fall 7 none, Cond.methodLink RX4 121 yX4_split, Cond.instanceMethod yX4_split, Cond.selects RX4 yX4_split yX4_split, Cond.methodLink RX4 124 yX4_conclude, Cond.instanceMethod yX4_conclude, Cond.selects RX4 yX4_conclude yX4_conclude, Cond.code yX4_conclude cX4_conclude 6 none, Cond.methodLink RX4 137 yX4_top, Cond.instanceMethod yX4_top, Cond.selects RX4 yX4_top yX4_top, Cond.code yX4_top cX4_top 2 (some .int), Cond.methodLink RX4 95 yX4_form, Cond.static yX4_form, Cond.code yX4_form cX4_form 2 (some .int), Cond.methodLink RX4 166 yX4_divisorOf, Cond.instanceMethod yX4_divisorOf, Cond.selects RX4 yX4_divisorOf yX4_divisorOf, Cond.code yX4_divisorOf cX4_divisorOf 7 (some .int), Cond.fieldLink RX4 11 "IntegerHouse$Maker" "forms" "[J", Cond.methodLink RX4 172 Lib.MathLoose.max_long.x, Cond.static Lib.MathLoose.max_long.x, Cond.code Lib.MathLoose.max_long.x Lib.MathLoose.max_long.code 4 (some .long)]
def wsX8_readText_r14 : List Cond := [Cond.constantLong RX4 185 (12), Cond.fieldLink RX4 19 "IntegerHouse$Maker" "row" "[I", Cond.methodLink RX4 187 yJ9_floorMod_f86c9, Cond.static yJ9_floorMod_f86c9, Cond.initialized RJ9, Cond.code yJ9_floorMod_f86c9 cJ9_floorMod_f86c9 6 (some .long), Cond.methodLink RX4 144 yX4_add, Cond.instanceMethod yX4_add, Cond.selects RX4 yX4_add yX4_add, Cond.code yX4_add cX4_add 3 none, Cond.methodLink RX4 76 yX4_emit, Cond.instanceMethod yX4_emit, Cond.selects RX4 yX4_emit yX4_emit, Cond.code yX4_emit cX4_emit 2 none, Cond.methodLink RX4 190 yX2_poolNumber, Cond.instanceMethod yX2_poolNumber, Cond.selects RX2 yX2_poolNumber yX2_poolNumber, Cond.code yX2_poolNumber cX2_poolNumber 6 (some .int), Cond.fieldLink RX2 58 "IntegerHouse$House" "poolSize" "I", Cond.fieldLink RX2 34 "IntegerHouse$House" "pool" "[I", Cond.methodLink RX4 115 yX2_addAtom, Cond.instanceMethod yX2_addAtom, Cond.selects RX2 yX2_addAtom yX2_addAtom, Cond.code yX2_addAtom cX2_addAtom 5 (some .boolean)]
def wsX8_readText_r15 : List Cond := [Cond.fieldLink RX2 31 "IntegerHouse$House" "atoms" "[I", Cond.methodLink RX4 153 yX4_combine, Cond.instanceMethod yX4_combine, Cond.selects RX4 yX4_combine yX4_combine, Cond.code yX4_combine cX4_combine 12 none, Cond.static yX11_commonDivisor, Cond.code yX11_commonDivisor cX11_commonDivisor 11 (some .long), Cond.methodLink RX4 157 yX4_check, Cond.instanceMethod yX4_check, Cond.selects RX4 yX4_check yX4_check, Cond.code yX4_check cX4_check 3 none, Cond.methodLink RX4 98 Lib.MathLoose.abs_long.x, Cond.static Lib.MathLoose.abs_long.x, Cond.code Lib.MathLoose.abs_long.x Lib.MathLoose.abs_long.code 2 (some .long), Cond.constantLong RX4 179 (1000000), Cond.methodLink RX4 140 yX4_lineOf, Cond.instanceMethod yX4_lineOf, Cond.selects RX4 yX4_lineOf yX4_lineOf, Cond.code yX4_lineOf cX4_lineOf 8 (some .int), Cond.constantLong RX4 181 (20), Cond.constantLong RX4 183 (99999), Cond.methodLink RX4 92 yX4_work, Cond.instanceMethod yX4_work, Cond.selects RX4 yX4_work yX4_work]
def wsX8_readText_r16 : List Cond := [Cond.code yX4_work cX4_work 5 none, Cond.methodLink RX4 169 yX4_pushForm, Cond.instanceMethod yX4_pushForm, Cond.selects RX4 yX4_pushForm yX4_pushForm, Cond.code yX4_pushForm cX4_pushForm 6 none, Cond.methodLink RX4 160 yX4_setTop, Cond.instanceMethod yX4_setTop, Cond.selects RX4 yX4_setTop yX4_setTop, Cond.code yX4_setTop cX4_setTop 3 none, Cond.methodLink RX4 150 yX4_multiply, Cond.instanceMethod yX4_multiply, Cond.selects RX4 yX4_multiply yX4_multiply, Cond.code yX4_multiply cX4_multiply 4 none, Cond.code yX4_split cX4_split 7 none, Cond.methodLink RX4 127 yX4_splitSign, Cond.instanceMethod yX4_splitSign, Cond.selects RX4 yX4_splitSign yX4_splitSign, Cond.code yX4_splitSign cX4_splitSign 4 none, Cond.methodLink RX4 147 yX4_copyLevel, Cond.instanceMethod yX4_copyLevel, Cond.selects RX4 yX4_copyLevel yX4_copyLevel, Cond.code yX4_copyLevel cX4_copyLevel 4 none, Cond.methodLink RX4 163 yX4_copyForm, Cond.instanceMethod yX4_copyForm]
def wsX8_readText_r17 : List Cond := [Cond.selects RX4 yX4_copyForm yX4_copyForm, Cond.code yX4_copyForm cX4_copyForm 4 none, Cond.methodLink RX4 130 yX4_splitOrder, Cond.instanceMethod yX4_splitOrder, Cond.selects RX4 yX4_splitOrder yX4_splitOrder, Cond.code yX4_splitOrder cX4_splitOrder 6 none, Cond.methodLink RX4 133 yX4_splitRest, Cond.instanceMethod yX4_splitRest, Cond.selects RX4 yX4_splitRest yX4_splitRest, Cond.code yX4_splitRest cX4_splitRest 7 none, Cond.methodLink RX4 69 yX4_arePlain, Cond.instanceMethod yX4_arePlain, Cond.selects RX4 yX4_arePlain yX4_arePlain, Cond.code yX4_arePlain cX4_arePlain 5 (some .boolean), Cond.methodLink RX4 73 yX4_takeNamed, Cond.instanceMethod yX4_takeNamed, Cond.selects RX4 yX4_takeNamed yX4_takeNamed, Cond.code yX4_takeNamed cX4_takeNamed 4 none, Cond.methodLink RX4 112 yX2_atomOf, Cond.instanceMethod yX2_atomOf, Cond.selects RX2 yX2_atomOf yX2_atomOf, Cond.code yX2_atomOf cX2_atomOf 3 (some .int), Cond.methodLink RX8 71 yX8_failIf, Cond.instanceMethod yX8_failIf]
def wsX8_readText_r18 : List Cond := [Cond.selects RX8 yX8_failIf yX8_failIf, Cond.code yX8_failIf cX8_failIf 3 none, Cond.methodLink RX8 139 yX2_fact, Cond.methodLink RX8 75 yX2_cutBack, Cond.instanceMethod yX2_cutBack, Cond.selects RX2 yX2_cutBack yX2_cutBack, Cond.code yX2_cutBack cX2_cutBack 4 none, Cond.fieldLink RX2 61 "IntegerHouse$House" "on" "I"]
def wsX8_readText : List Cond := .code yX8_readText cX8_readText 8 (some .boolean) :: ((wsX8_readText_r1 ++ (wsX8_readText_r2 ++ (wsX8_readText_r3 ++ (wsX8_readText_r4 ++ (wsX8_readText_r5 ++ (wsX8_readText_r6 ++ (wsX8_readText_r7 ++ (wsX8_readText_r8 ++ (wsX8_readText_r9 ++ (wsX8_readText_r10 ++ (wsX8_readText_r11 ++ (wsX8_readText_r12 ++ (wsX8_readText_r13 ++ (wsX8_readText_r14 ++ (wsX8_readText_r15 ++ (wsX8_readText_r16 ++ (wsX8_readText_r17 ++ wsX8_readText_r18))))))))))))))))) ++ wsX80 ++ wsX20 ++ wsX30 ++ wsX40)
def wsX11_useTape : List Cond := .code yX11_useTape cX11_useTape 2 (some .int) :: ([.fieldLink RX11 102 "IntegerHouse" "tapeLength" "I"] ++ wsX110)
def wsX11_read_r1 : List Cond := [Cond.fieldLink RX11 16 "IntegerHouse" "disk" "LIntegerHouse$Disk;", Cond.fieldLink RX11 23 "IntegerHouse" "house" "LIntegerHouse$House;", Cond.fieldLink RX11 48 "IntegerHouse" "reader" "LIntegerHouse$Reader;", Cond.fieldLink RX11 9 "IntegerHouse" "tape" "[B", Cond.fieldLink RX11 137 "IntegerHouse" "acts" "I", Cond.methodLink RX11 230 yX11_useTape, Cond.instanceMethod yX11_useTape, Cond.selects RX11 yX11_useTape yX11_useTape, Cond.initialized RX11, Cond.code yX11_useTape cX11_useTape 2 (some .int), Cond.fieldLink RX11 102 "IntegerHouse" "tapeLength" "I", Cond.methodLink RX11 166 yX8_readText, Cond.instanceMethod yX8_readText, Cond.selects RX8 yX8_readText yX8_readText, Cond.initialized RX8, Cond.code yX8_readText cX8_readText 8 (some .boolean), Cond.fieldLink RX8 15 "IntegerHouse$Reader" "house" "LIntegerHouse$House;", Cond.fieldLink RX8 39 "IntegerHouse$Reader" "kind" "I", Cond.fieldLink RX8 62 "IntegerHouse$Reader" "faultKind" "I", Cond.fieldLink RX8 19 "IntegerHouse$Reader" "maker" "LIntegerHouse$Maker;", Cond.methodLink RX8 23 yX8_begin, Cond.instanceMethod yX8_begin, Cond.selects RX8 yX8_begin yX8_begin, Cond.code yX8_begin cX8_begin 4 none]
def wsX11_read_r2 : List Cond := [Cond.fieldLink RX8 9 "IntegerHouse$Reader" "lexer" "LIntegerHouse$Lexer;", Cond.fieldLink RX8 123 "IntegerHouse$Reader" "faultPlace" "I", Cond.fieldLink RX8 101 "IntegerHouse$Reader" "hasFormula" "Z", Cond.fieldLink RX8 79 "IntegerHouse$Reader" "at" "I", Cond.methodLink RX8 119 yX3_scan, Cond.instanceMethod yX3_scan, Cond.selects RX3 yX3_scan yX3_scan, Cond.initialized RX3, Cond.code yX3_scan cX3_scan 9 none, Cond.fieldLink RX3 28 "IntegerHouse$Lexer" "source" "[B", Cond.fieldLink RX3 55 "IntegerHouse$Lexer" "begin" "I", Cond.fieldLink RX3 52 "IntegerHouse$Lexer" "stop" "I", Cond.fieldLink RX3 48 "IntegerHouse$Lexer" "size" "I", Cond.fieldLink RX3 19 "IntegerHouse$Lexer" "spots" "[I", Cond.fieldLink RX3 15 "IntegerHouse$Lexer" "kinds" "[I", Cond.methodLink RX3 59 yX3_behindBlanks, Cond.instanceMethod yX3_behindBlanks, Cond.selects RX3 yX3_behindBlanks yX3_behindBlanks, Cond.code yX3_behindBlanks cX3_behindBlanks 3 (some .int), Cond.methodLink RX3 63 yX3_byteAt, Cond.instanceMethod yX3_byteAt, Cond.selects RX3 yX3_byteAt yX3_byteAt, Cond.code yX3_byteAt cX3_byteAt 2 (some .int), Cond.methodLink RX3 66 yX3_isLetter]
def wsX11_read_r3 : List Cond := [Cond.static yX3_isLetter, Cond.code yX3_isLetter cX3_isLetter 1 (some .boolean), Cond.methodLink RX3 70 yX3_word, Cond.instanceMethod yX3_word, Cond.selects RX3 yX3_word yX3_word, Cond.code yX3_word cX3_word 9 (some .int), Cond.fieldLink RX3 11 "IntegerHouse$Lexer" "words" "[J", Cond.fieldLink RX3 25 "IntegerHouse$Lexer" "names" "[J", Cond.methodLink RX3 74 yX3_isDigit, Cond.static yX3_isDigit, Cond.code yX3_isDigit cX3_isDigit 1 (some .boolean), Cond.methodLink RX3 77 yX3_digits, Cond.instanceMethod yX3_digits, Cond.selects RX3 yX3_digits yX3_digits, Cond.code yX3_digits cX3_digits 6 (some .int), Cond.fieldLink RX3 22 "IntegerHouse$Lexer" "numbers" "[I", Cond.methodLink RX3 81 yX3_sign, Cond.instanceMethod yX3_sign, Cond.selects RX3 yX3_sign yX3_sign, Cond.code yX3_sign cX3_sign 6 (some .int), Cond.methodLink RX3 44 yJ0_charAt_5068e, Cond.instanceMethod yJ0_charAt_5068e, Cond.selects RJ0 yJ0_charAt_5068e yJ0_charAt_5068e, Cond.initialized RJ0]
def wsX11_read_r4 : List Cond := [Cond.code yJ0_charAt_5068e cJ0_charAt_5068e 2 (some .char), Cond.fieldLink RJ0 9 "java/lang/String" "value" "[B", Cond.methodLink RJ0 492 yJ0_isLatin1_aae02, Cond.instanceMethod yJ0_isLatin1_aae02, Cond.selects RJ0 yJ0_isLatin1_aae02 yJ0_isLatin1_aae02, Cond.code yJ0_isLatin1_aae02 cJ0_isLatin1_aae02 1 (some .boolean), Cond.fieldLink RJ0 38 "java/lang/String" "COMPACT_STRINGS" "Z", Cond.fieldLink RJ0 15 "java/lang/String" "coder" "B", Cond.methodLink RJ0 495 yJ1_charAt_3b067, Cond.static yJ1_charAt_3b067, Cond.initialized RJ1, Cond.code yJ1_charAt_3b067 cJ1_charAt_3b067 2 (some .char), Cond.methodLink RJ1 9 yJ0_checkIndex_df160, Cond.static yJ0_checkIndex_df160, Cond.code yJ0_checkIndex_df160 cJ0_checkIndex_df160 2 none, Cond.fieldLink RJ0 1053 "jdk/internal/util/Preconditions" "SIOOBE_FORMATTER" "Ljava/util/function/BiFunction;", Cond.methodLink RJ0 1059 yJ3_checkIndex_8e157, Cond.static yJ3_checkIndex_8e157, Cond.initialized RJ3, Cond.code yJ3_checkIndex_8e157 cJ3_checkIndex_8e157 3 (some .int), Cond.methodLink RJ0 498 yJ2_charAt_3b067, Cond.static yJ2_charAt_3b067, Cond.initialized RJ2, Cond.code yJ2_charAt_3b067 cJ2_charAt_3b067 2 (some .char)]
def wsX11_read_r5 : List Cond := [Cond.methodLink RJ2 67 yJ2_checkIndex_2214a, Cond.static yJ2_checkIndex_2214a, Cond.code yJ2_checkIndex_2214a cJ2_checkIndex_2214a 2 none, Cond.methodLink RJ2 48 yJ2_length_9d52b, Cond.static yJ2_length_9d52b, Cond.code yJ2_length_9d52b cJ2_length_9d52b 1 (some .int), Cond.methodLink RJ2 414 yJ0_checkIndex_df160, Cond.methodLink RJ2 71 yJ2_getChar_3b067, Cond.static yJ2_getChar_3b067, Cond.code yJ2_getChar_3b067 cJ2_getChar_3b067 2 (some .char), Cond.fieldLink RJ2 44 "java/lang/StringUTF16" "$assertionsDisabled" "Z", Cond.fieldLink RJ2 59 "java/lang/StringUTF16" "HI_BYTE_SHIFT" "I", Cond.fieldLink RJ2 63 "java/lang/StringUTF16" "LO_BYTE_SHIFT" "I", Cond.methodLink RX8 98 yX8_next, Cond.instanceMethod yX8_next, Cond.selects RX8 yX8_next yX8_next, Cond.code yX8_next cX8_next 1 none, Cond.fieldLink RX8 136 "IntegerHouse$Reader" "place" "I", Cond.methodLink RX8 42 yX8_readVariables, Cond.instanceMethod yX8_readVariables, Cond.selects RX8 yX8_readVariables yX8_readVariables, Cond.code yX8_readVariables cX8_readVariables 2 none, Cond.methodLink RX8 143 yX8_readVariable, Cond.instanceMethod yX8_readVariable]
def wsX11_read_r6 : List Cond := [Cond.selects RX8 yX8_readVariable yX8_readVariable, Cond.code yX8_readVariable cX8_readVariable 3 none, Cond.methodLink RX8 82 yX3_nameAt, Cond.instanceMethod yX3_nameAt, Cond.selects RX3 yX3_nameAt yX3_nameAt, Cond.code yX3_nameAt cX3_nameAt 2 (some .long), Cond.methodLink RX8 95 yX8_fail, Cond.instanceMethod yX8_fail, Cond.selects RX8 yX8_fail yX8_fail, Cond.code yX8_fail cX8_fail 2 none, Cond.methodLink RX8 92 yX2_variableOf, Cond.instanceMethod yX2_variableOf, Cond.selects RX2 yX2_variableOf yX2_variableOf, Cond.initialized RX2, Cond.code yX2_variableOf cX2_variableOf 4 (some .int), Cond.fieldLink RX2 52 "IntegerHouse$House" "variables" "I", Cond.fieldLink RX2 9 "IntegerHouse$House" "variableNames" "[J", Cond.methodLink RX8 88 yX2_claimOf, Cond.instanceMethod yX2_claimOf, Cond.selects RX2 yX2_claimOf yX2_claimOf, Cond.code yX2_claimOf cX2_claimOf 4 (some .int), Cond.fieldLink RX2 55 "IntegerHouse$House" "claims" "I", Cond.fieldLink RX2 15 "IntegerHouse$House" "claimNames" "[J", Cond.methodLink RX8 146 yX2_addVariable]
def wsX11_read_r7 : List Cond := [Cond.instanceMethod yX2_addVariable, Cond.selects RX2 yX2_addVariable yX2_addVariable, Cond.code yX2_addVariable cX2_addVariable 3 (some .boolean), Cond.methodLink RX8 45 yX8_beginClaim, Cond.instanceMethod yX8_beginClaim, Cond.selects RX8 yX8_beginClaim yX8_beginClaim, Cond.code yX8_beginClaim cX8_beginClaim 1 (some .boolean), Cond.fieldLink RX8 150 "IntegerHouse$Reader" "claimName" "J", Cond.fieldLink RX8 154 "IntegerHouse$Reader" "claimPlace" "I", Cond.methodLink RX8 56 yX8_expect, Cond.instanceMethod yX8_expect, Cond.selects RX8 yX8_expect yX8_expect, Cond.code yX8_expect cX8_expect 2 none, Cond.methodLink RX8 49 yX8_readInto, Cond.instanceMethod yX8_readInto, Cond.selects RX8 yX8_readInto yX8_readInto, Cond.code yX8_readInto cX8_readInto 2 none, Cond.fieldLink RX8 164 "IntegerHouse$Reader" "slot" "I", Cond.fieldLink RX8 167 "IntegerHouse$Reader" "tokens" "I", Cond.fieldLink RX8 170 "IntegerHouse$Reader" "steps" "I", Cond.fieldLink RX8 173 "IntegerHouse$Reader" "open" "I", Cond.methodLink RX8 157 yX2_setFact, Cond.instanceMethod yX2_setFact, Cond.selects RX2 yX2_setFact yX2_setFact]
def wsX11_read_r8 : List Cond := [Cond.code yX2_setFact cX2_setFact 4 none, Cond.fieldLink RX2 28 "IntegerHouse$House" "facts" "[I", Cond.methodLink RX8 176 yX8_term, Cond.instanceMethod yX8_term, Cond.selects RX8 yX8_term yX8_term, Cond.code yX8_term cX8_term 3 none, Cond.methodLink RX8 191 yX8_accept, Cond.instanceMethod yX8_accept, Cond.selects RX8 yX8_accept yX8_accept, Cond.code yX8_accept cX8_accept 4 none, Cond.methodLink RX8 185 yX2_setToken, Cond.instanceMethod yX2_setToken, Cond.selects RX2 yX2_setToken yX2_setToken, Cond.code yX2_setToken cX2_setToken 4 none, Cond.fieldLink RX2 18 "IntegerHouse$House" "tokens" "[I", Cond.methodLink RX8 219 yX8_part, Cond.instanceMethod yX8_part, Cond.selects RX8 yX8_part yX8_part, Cond.methodLink RX8 194 yX8_step, Cond.instanceMethod yX8_step, Cond.selects RX8 yX8_step yX8_step, Cond.code yX8_step cX8_step 2 none, Cond.methodLink RX8 182 yX2_setStep, Cond.instanceMethod yX2_setStep]
def wsX11_read_r9 : List Cond := [Cond.selects RX2 yX2_setStep yX2_setStep, Cond.code yX2_setStep cX2_setStep 4 none, Cond.fieldLink RX2 22 "IntegerHouse$House" "steps" "[I", Cond.code yX8_bracketed cX8_bracketed 3 none, Cond.methodLink RX8 206 yX3_numberAt, Cond.instanceMethod yX3_numberAt, Cond.selects RX3 yX3_numberAt yX3_numberAt, Cond.code yX3_numberAt cX3_numberAt 2 (some .int), Cond.constant RX3 58 (1048575), Cond.methodLink RX8 209 yX8_checkDivisor, Cond.instanceMethod yX8_checkDivisor, Cond.selects RX8 yX8_checkDivisor yX8_checkDivisor, Cond.code yX8_checkDivisor cX8_checkDivisor 2 none, Cond.methodLink RX8 212 yX3_writtenAt, Cond.instanceMethod yX3_writtenAt, Cond.selects RX3 yX3_writtenAt yX3_writtenAt, Cond.code yX3_writtenAt cX3_writtenAt 2 (some .int), Cond.code yX8_factor cX8_factor 3 none, Cond.methodLink RX8 226 yX8_bracketed, Cond.instanceMethod yX8_bracketed, Cond.selects RX8 yX8_bracketed yX8_bracketed, Cond.code yX8_part cX8_part 5 none, Cond.methodLink RX8 223 yX8_factor, Cond.instanceMethod yX8_factor]
def wsX11_read_r10 : List Cond := [Cond.selects RX8 yX8_factor yX8_factor, Cond.methodLink RX8 179 yX8_formula, Cond.instanceMethod yX8_formula, Cond.selects RX8 yX8_formula yX8_formula, Cond.code yX8_formula cX8_formula 2 none, Cond.methodLink RX8 188 yX8_side, Cond.instanceMethod yX8_side, Cond.selects RX8 yX8_side yX8_side, Cond.code yX8_both cX8_both 2 none, Cond.methodLink RX8 200 yX8_one, Cond.instanceMethod yX8_one, Cond.selects RX8 yX8_one yX8_one, Cond.code yX8_one cX8_one 4 none, Cond.methodLink RX8 203 yX3_kindAt, Cond.instanceMethod yX3_kindAt, Cond.selects RX3 yX3_kindAt yX3_kindAt, Cond.code yX3_kindAt cX3_kindAt 2 (some .int), Cond.static yX11_isComparison, Cond.code yX11_isComparison cX11_isComparison 1 (some .boolean), Cond.code yX8_side cX8_side 2 none, Cond.methodLink RX8 197 yX8_both, Cond.instanceMethod yX8_both, Cond.selects RX8 yX8_both yX8_both, Cond.methodLink RX8 53 yX8_endClaim]
def wsX11_read_r11 : List Cond := [Cond.instanceMethod yX8_endClaim, Cond.selects RX8 yX8_endClaim yX8_endClaim, Cond.code yX8_endClaim cX8_endClaim 1 none, Cond.methodLink RX8 160 yX2_addClaim, Cond.instanceMethod yX2_addClaim, Cond.selects RX2 yX2_addClaim yX2_addClaim, Cond.code yX2_addClaim cX2_addClaim 3 none, Cond.fieldLink RX2 48 "IntegerHouse$House" "layers" "I", Cond.methodLink RX2 64 yX2_setFact, Cond.methodLink RX8 59 yX8_expectEnd, Cond.instanceMethod yX8_expectEnd, Cond.selects RX8 yX8_expectEnd yX8_expectEnd, Cond.code yX8_expectEnd cX8_expectEnd 1 none, Cond.methodLink RX8 65 yX4_make, Cond.instanceMethod yX4_make, Cond.selects RX4 yX4_make yX4_make, Cond.initialized RX4, Cond.code yX4_make cX4_make 10 (some .int), Cond.fieldLink RX4 25 "IntegerHouse$Maker" "house" "LIntegerHouse$House;", Cond.fieldLink RX4 33 "IntegerHouse$Maker" "slot" "I", Cond.methodLink RX4 56 Lib.Math.min.name, Cond.static Lib.Math.min.name, Cond.initialized "java/lang/Math", Cond.code Lib.Math.min.name Lib.Math.min.code 2 (some .int)]
def wsX11_read_r12 : List Cond := [Cond.fieldLink RX4 61 "IntegerHouse$Maker" "great" "Z", Cond.fieldLink RX4 15 "IntegerHouse$Maker" "tops" "[I", Cond.fieldLink RX4 83 "IntegerHouse$Maker" "falsehood" "I", Cond.fieldLink RX4 86 "IntegerHouse$Maker" "codeSize" "I", Cond.fieldLink RX4 89 "IntegerHouse$Maker" "crowded" "Z", Cond.methodLink RX4 29 yX4_begin, Cond.instanceMethod yX4_begin, Cond.selects RX4 yX4_begin yX4_begin, Cond.code yX4_begin cX4_begin 2 none, Cond.methodLink RX4 79 yX2_setFact, Cond.methodLink RX4 39 yX2_fact, Cond.instanceMethod yX2_fact, Cond.selects RX2 yX2_fact yX2_fact, Cond.code yX2_fact cX2_fact 3 (some .int), Cond.methodLink RX4 43 yX2_step, Cond.instanceMethod yX2_step, Cond.selects RX2 yX2_step yX2_step, Cond.code yX2_step cX2_step 3 (some .int), Cond.methodLink RX4 46 yX4_isPlain, Cond.instanceMethod yX4_isPlain, Cond.selects RX4 yX4_isPlain yX4_isPlain, Cond.code yX4_isPlain cX4_isPlain 4 (some .boolean), Cond.methodLink RX4 50 yX4_lastOf, Cond.instanceMethod yX4_lastOf]
def wsX11_read_r13 : List Cond := [Cond.selects RX4 yX4_lastOf yX4_lastOf, Cond.code yX4_lastOf cX4_lastOf 4 (some .int), Cond.methodLink RX4 102 yX4_isConclusion, Cond.static yX4_isConclusion, Cond.code yX4_isConclusion cX4_isConclusion 1 (some .boolean), Cond.methodLink RX4 53 yX4_casesOf, Cond.instanceMethod yX4_casesOf, Cond.selects RX4 yX4_casesOf yX4_casesOf, Cond.code yX4_casesOf cX4_casesOf 5 (some .int), Cond.methodLink RX4 108 yX4_waysOf, Cond.static yX4_waysOf, Cond.code yX4_waysOf cX4_waysOf 2 (some .int), Cond.methodLink RX4 65 yX4_fall, Cond.instanceMethod yX4_fall, Cond.selects RX4 yX4_fall yX4_fall, Cond.code yX4_fall cX4_fall 7 none, Cond.methodLink RX4 121 yX4_split, Cond.instanceMethod yX4_split, Cond.selects RX4 yX4_split yX4_split, Cond.methodLink RX4 124 yX4_conclude, Cond.instanceMethod yX4_conclude, Cond.selects RX4 yX4_conclude yX4_conclude, Cond.code yX4_conclude cX4_conclude 6 none, Cond.methodLink RX4 137 yX4_top]
def wsX11_read_r14 : List Cond := [Cond.instanceMethod yX4_top, Cond.selects RX4 yX4_top yX4_top, Cond.code yX4_top cX4_top 2 (some .int), Cond.methodLink RX4 95 yX4_form, Cond.static yX4_form, Cond.code yX4_form cX4_form 2 (some .int), Cond.methodLink RX4 166 yX4_divisorOf, Cond.instanceMethod yX4_divisorOf, Cond.selects RX4 yX4_divisorOf yX4_divisorOf, Cond.code yX4_divisorOf cX4_divisorOf 7 (some .int), Cond.fieldLink RX4 11 "IntegerHouse$Maker" "forms" "[J", Cond.methodLink RX4 172 Lib.MathLoose.max_long.x, Cond.static Lib.MathLoose.max_long.x, Cond.code Lib.MathLoose.max_long.x Lib.MathLoose.max_long.code 4 (some .long), Cond.constantLong RX4 185 (12), Cond.fieldLink RX4 19 "IntegerHouse$Maker" "row" "[I", Cond.methodLink RX4 187 yJ9_floorMod_f86c9, Cond.static yJ9_floorMod_f86c9, Cond.initialized RJ9, Cond.code yJ9_floorMod_f86c9 cJ9_floorMod_f86c9 6 (some .long), Cond.methodLink RX4 144 yX4_add, Cond.instanceMethod yX4_add, Cond.selects RX4 yX4_add yX4_add, Cond.code yX4_add cX4_add 3 none]
def wsX11_read_r15 : List Cond := [Cond.methodLink RX4 76 yX4_emit, Cond.instanceMethod yX4_emit, Cond.selects RX4 yX4_emit yX4_emit, Cond.code yX4_emit cX4_emit 2 none, Cond.methodLink RX4 190 yX2_poolNumber, Cond.instanceMethod yX2_poolNumber, Cond.selects RX2 yX2_poolNumber yX2_poolNumber, Cond.code yX2_poolNumber cX2_poolNumber 6 (some .int), Cond.fieldLink RX2 58 "IntegerHouse$House" "poolSize" "I", Cond.fieldLink RX2 34 "IntegerHouse$House" "pool" "[I", Cond.methodLink RX4 115 yX2_addAtom, Cond.instanceMethod yX2_addAtom, Cond.selects RX2 yX2_addAtom yX2_addAtom, Cond.code yX2_addAtom cX2_addAtom 5 (some .boolean), Cond.fieldLink RX2 31 "IntegerHouse$House" "atoms" "[I", Cond.methodLink RX4 153 yX4_combine, Cond.instanceMethod yX4_combine, Cond.selects RX4 yX4_combine yX4_combine, Cond.code yX4_combine cX4_combine 12 none, Cond.static yX11_commonDivisor, Cond.code yX11_commonDivisor cX11_commonDivisor 11 (some .long), Cond.methodLink RX4 157 yX4_check, Cond.instanceMethod yX4_check, Cond.selects RX4 yX4_check yX4_check]
def wsX11_read_r16 : List Cond := [Cond.code yX4_check cX4_check 3 none, Cond.methodLink RX4 98 Lib.MathLoose.abs_long.x, Cond.static Lib.MathLoose.abs_long.x, Cond.code Lib.MathLoose.abs_long.x Lib.MathLoose.abs_long.code 2 (some .long), Cond.constantLong RX4 179 (1000000), Cond.methodLink RX4 140 yX4_lineOf, Cond.instanceMethod yX4_lineOf, Cond.selects RX4 yX4_lineOf yX4_lineOf, Cond.code yX4_lineOf cX4_lineOf 8 (some .int), Cond.constantLong RX4 181 (20), Cond.constantLong RX4 183 (99999), Cond.methodLink RX4 92 yX4_work, Cond.instanceMethod yX4_work, Cond.selects RX4 yX4_work yX4_work, Cond.code yX4_work cX4_work 5 none, Cond.methodLink RX4 169 yX4_pushForm, Cond.instanceMethod yX4_pushForm, Cond.selects RX4 yX4_pushForm yX4_pushForm, Cond.code yX4_pushForm cX4_pushForm 6 none, Cond.methodLink RX4 160 yX4_setTop, Cond.instanceMethod yX4_setTop, Cond.selects RX4 yX4_setTop yX4_setTop, Cond.code yX4_setTop cX4_setTop 3 none, Cond.methodLink RX4 150 yX4_multiply]
def wsX11_read_r17 : List Cond := [Cond.instanceMethod yX4_multiply, Cond.selects RX4 yX4_multiply yX4_multiply, Cond.code yX4_multiply cX4_multiply 4 none, Cond.code yX4_split cX4_split 7 none, Cond.methodLink RX4 127 yX4_splitSign, Cond.instanceMethod yX4_splitSign, Cond.selects RX4 yX4_splitSign yX4_splitSign, Cond.code yX4_splitSign cX4_splitSign 4 none, Cond.methodLink RX4 147 yX4_copyLevel, Cond.instanceMethod yX4_copyLevel, Cond.selects RX4 yX4_copyLevel yX4_copyLevel, Cond.code yX4_copyLevel cX4_copyLevel 4 none, Cond.methodLink RX4 163 yX4_copyForm, Cond.instanceMethod yX4_copyForm, Cond.selects RX4 yX4_copyForm yX4_copyForm, Cond.code yX4_copyForm cX4_copyForm 4 none, Cond.methodLink RX4 130 yX4_splitOrder, Cond.instanceMethod yX4_splitOrder, Cond.selects RX4 yX4_splitOrder yX4_splitOrder, Cond.code yX4_splitOrder cX4_splitOrder 6 none, Cond.methodLink RX4 133 yX4_splitRest, Cond.instanceMethod yX4_splitRest, Cond.selects RX4 yX4_splitRest yX4_splitRest, Cond.code yX4_splitRest cX4_splitRest 7 none]
def wsX11_read_r18 : List Cond := [Cond.methodLink RX4 69 yX4_arePlain, Cond.instanceMethod yX4_arePlain, Cond.selects RX4 yX4_arePlain yX4_arePlain, Cond.code yX4_arePlain cX4_arePlain 5 (some .boolean), Cond.methodLink RX4 73 yX4_takeNamed, Cond.instanceMethod yX4_takeNamed, Cond.selects RX4 yX4_takeNamed yX4_takeNamed, Cond.code yX4_takeNamed cX4_takeNamed 4 none, Cond.methodLink RX4 112 yX2_atomOf, Cond.instanceMethod yX2_atomOf, Cond.selects RX2 yX2_atomOf yX2_atomOf, Cond.code yX2_atomOf cX2_atomOf 3 (some .int), Cond.methodLink RX8 71 yX8_failIf, Cond.instanceMethod yX8_failIf, Cond.selects RX8 yX8_failIf yX8_failIf, Cond.code yX8_failIf cX8_failIf 3 none, Cond.methodLink RX8 139 yX2_fact, Cond.methodLink RX8 75 yX2_cutBack, Cond.instanceMethod yX2_cutBack, Cond.selects RX2 yX2_cutBack yX2_cutBack, Cond.code yX2_cutBack cX2_cutBack 4 none, Cond.fieldLink RX2 61 "IntegerHouse$House" "on" "I", Cond.methodLink RX11 236 yX11_faulted, Cond.instanceMethod yX11_faulted]
def wsX11_read_r19 : List Cond := [Cond.selects RX11 yX11_faulted yX11_faulted, Cond.code yX11_faulted cX11_faulted 1 (some .int), Cond.fieldLink RX11 253 "IntegerHouse" "latestFault" "I", Cond.methodLink RX11 239 yX1_hasRoom, Cond.instanceMethod yX1_hasRoom, Cond.selects RX1 yX1_hasRoom yX1_hasRoom, Cond.initialized RX1, Cond.code yX1_hasRoom cX1_hasRoom 2 (some .boolean), Cond.fieldLink RX1 40 "IntegerHouse$Disk" "waiting" "I", Cond.fieldLink RX1 43 "IntegerHouse$Disk" "used" "I", Cond.methodLink RX11 242 yX2_cutBack, Cond.methodLink RX11 170 yX2_turnOnFrom, Cond.instanceMethod yX2_turnOnFrom, Cond.selects RX2 yX2_turnOnFrom yX2_turnOnFrom, Cond.code yX2_turnOnFrom cX2_turnOnFrom 2 none, Cond.methodLink RX11 246 yX1_recordRead, Cond.instanceMethod yX1_recordRead, Cond.selects RX1 yX1_recordRead yX1_recordRead, Cond.code yX1_recordRead cX1_recordRead 4 none, Cond.methodLink RX1 50 yX1_await, Cond.instanceMethod yX1_await, Cond.selects RX1 yX1_await yX1_await, Cond.code yX1_await cX1_await 2 none, Cond.fieldLink RX1 22 "IntegerHouse$Disk" "waits" "[B"]
def wsX11_read : List Cond := .code yX11_read cX11_read 5 (some .int) :: ((wsX11_read_r1 ++ (wsX11_read_r2 ++ (wsX11_read_r3 ++ (wsX11_read_r4 ++ (wsX11_read_r5 ++ (wsX11_read_r6 ++ (wsX11_read_r7 ++ (wsX11_read_r8 ++ (wsX11_read_r9 ++ (wsX11_read_r10 ++ (wsX11_read_r11 ++ (wsX11_read_r12 ++ (wsX11_read_r13 ++ (wsX11_read_r14 ++ (wsX11_read_r15 ++ (wsX11_read_r16 ++ (wsX11_read_r17 ++ (wsX11_read_r18 ++ wsX11_read_r19)))))))))))))))))) ++ wsX110 ++ wsX10 ++ wsX20 ++ wsX80 ++ wsX30 ++ wsX40)
def wsX11_fault : List Cond := .code yX11_fault cX11_fault 1 (some .int) :: ([.fieldLink RX11 253 "IntegerHouse" "latestFault" "I"] ++ wsX110)
def wsX11_on_r1 : List Cond := [Cond.fieldLink RX11 16 "IntegerHouse" "disk" "LIntegerHouse$Disk;", Cond.fieldLink RX11 23 "IntegerHouse" "house" "LIntegerHouse$House;", Cond.fieldLink RX11 137 "IntegerHouse" "acts" "I", Cond.methodLink RX11 176 yX2_isClaim, Cond.instanceMethod yX2_isClaim, Cond.selects RX2 yX2_isClaim yX2_isClaim, Cond.initialized RX2, Cond.code yX2_isClaim cX2_isClaim 2 (some .boolean), Cond.fieldLink RX2 55 "IntegerHouse$House" "claims" "I", Cond.methodLink RX11 239 yX1_hasRoom, Cond.instanceMethod yX1_hasRoom, Cond.selects RX1 yX1_hasRoom yX1_hasRoom, Cond.initialized RX1, Cond.code yX1_hasRoom cX1_hasRoom 2 (some .boolean), Cond.fieldLink RX1 40 "IntegerHouse$Disk" "waiting" "I", Cond.fieldLink RX1 43 "IntegerHouse$Disk" "used" "I", Cond.methodLink RX11 180 yX2_turn, Cond.instanceMethod yX2_turn, Cond.selects RX2 yX2_turn yX2_turn, Cond.code yX2_turn cX2_turn 4 (some .boolean), Cond.fieldLink RX2 61 "IntegerHouse$House" "on" "I", Cond.methodLink RX11 259 yX1_recordOn, Cond.instanceMethod yX1_recordOn, Cond.selects RX1 yX1_recordOn yX1_recordOn]
def wsX11_on_r2 : List Cond := [Cond.code yX1_recordOn cX1_recordOn 3 none, Cond.methodLink RX1 50 yX1_await, Cond.instanceMethod yX1_await, Cond.selects RX1 yX1_await yX1_await, Cond.code yX1_await cX1_await 2 none, Cond.fieldLink RX1 22 "IntegerHouse$Disk" "waits" "[B", Cond.methodLink RX1 54 yX1_awaitInt, Cond.instanceMethod yX1_awaitInt, Cond.selects RX1 yX1_awaitInt yX1_awaitInt, Cond.code yX1_awaitInt cX1_awaitInt 3 none]
def wsX11_on : List Cond := .code yX11_on cX11_on 4 (some .int) :: ((wsX11_on_r1 ++ wsX11_on_r2) ++ wsX110 ++ wsX10 ++ wsX20)
def wsX12_full : List Cond := .code yX12_full cX12_full 2 (some .boolean) :: ([.fieldLink RX12 466 "IntegerHouseModel" "number" "I", .fieldLink RX12 469 "IntegerHouseModel" "docSize" "I", .fieldLink RX12 472 "IntegerHouseModel" "replay" "Z", .fieldLink RX12 475 "IntegerHouseModel" "waitBytes" "I", .fieldLink RX12 478 "IntegerHouseModel" "used" "I"] ++ wsX120)
def wsX12_note : List Cond := .code yX12_note cX12_note 2 none :: ([.fieldLink RX12 25 "IntegerHouseModel" "waits" "[B", .fieldLink RX12 475 "IntegerHouseModel" "waitBytes" "I"] ++ wsX120)
def wsX12_takeTape : List Cond := .code yX12_takeTape cX12_takeTape 2 none :: ([.fieldLink RX12 485 "IntegerHouseModel" "taped" "I", .fieldLink RX12 469 "IntegerHouseModel" "docSize" "I", .fieldLink RX12 32 "IntegerHouseModel" "doc" "[B", .fieldLink RX12 15 "IntegerHouseModel" "tape" "[B"] ++ wsX120)
def wsX12_char1 : List Cond := .code yX12_char1 cX12_char1 2 (some .int) :: ([.fieldLink RX12 469 "IntegerHouseModel" "docSize" "I", .fieldLink RX12 32 "IntegerHouseModel" "doc" "[B"] ++ wsX120)
def wsX12_scan_r1 : List Cond := [Cond.fieldLink RX12 594 "IntegerHouseModel" "tokens" "I", Cond.fieldLink RX12 562 "IntegerHouseModel" "faulty" "Z", Cond.fieldLink RX12 597 "IntegerHouseModel" "now" "I", Cond.fieldLink RX12 81 "IntegerHouseModel" "tokenAt" "[I", Cond.fieldLink RX12 84 "IntegerHouseModel" "tokenSize" "[I", Cond.fieldLink RX12 87 "IntegerHouseModel" "tokenKind" "[I", Cond.fieldLink RX12 90 "IntegerHouseModel" "tokenValue" "[I", Cond.fieldLink RX12 469 "IntegerHouseModel" "docSize" "I", Cond.fieldLink RX12 77 "IntegerHouseModel" "words" "[Ljava/lang/String;", Cond.methodLink RX12 586 yX12_char1, Cond.instanceMethod yX12_char1, Cond.selects RX12 yX12_char1 yX12_char1, Cond.initialized RX12, Cond.code yX12_char1 cX12_char1 2 (some .int), Cond.fieldLink RX12 32 "IntegerHouseModel" "doc" "[B", Cond.methodLink RX12 600 yX12_isLetter, Cond.static yX12_isLetter, Cond.code yX12_isLetter cX12_isLetter 1 (some .boolean), Cond.constantLong RX12 571 (97), Cond.constantLong RX12 573 (122), Cond.constantLong RX12 575 (65), Cond.constantLong RX12 577 (90), Cond.methodLink RX12 504 yX12_in, Cond.static yX12_in]
def wsX12_scan_r2 : List Cond := [Cond.code yX12_in cX12_in 6 (some .boolean), Cond.methodLink RX12 603 yX12_isDigit, Cond.static yX12_isDigit, Cond.code yX12_isDigit cX12_isDigit 1 (some .boolean), Cond.constantLong RX12 579 (48), Cond.constantLong RX12 581 (57), Cond.methodLink RX12 606 yX12_longSign, Cond.static yX12_longSign, Cond.code yX12_longSign cX12_longSign 2 (some .int), Cond.methodLink RX12 609 yX12_signOf, Cond.static yX12_signOf, Cond.code yX12_signOf cX12_signOf 1 (some .int), Cond.methodLink RX12 612 yX12_isText, Cond.instanceMethod yX12_isText, Cond.selects RX12 yX12_isText yX12_isText, Cond.code yX12_isText cX12_isText 4 (some .boolean), Cond.methodLink RX12 583 yJ0_length_8abf5, Cond.instanceMethod yJ0_length_8abf5, Cond.selects RJ0 yJ0_length_8abf5 yJ0_length_8abf5, Cond.initialized RJ0, Cond.code yJ0_length_8abf5 cJ0_length_8abf5 1 (some .int), Cond.fieldLink RJ0 9 "java/lang/String" "value" "[B", Cond.methodLink RJ0 335 yJ0_coder_7d493, Cond.instanceMethod yJ0_coder_7d493]
def wsX12_scan_r3 : List Cond := [Cond.selects RJ0 yJ0_coder_7d493 yJ0_coder_7d493, Cond.code yJ0_coder_7d493 cJ0_coder_7d493 1 (some .byte), Cond.fieldLink RJ0 38 "java/lang/String" "COMPACT_STRINGS" "Z", Cond.fieldLink RJ0 15 "java/lang/String" "coder" "B", Cond.methodLink RX12 590 yJ0_charAt_5068e, Cond.instanceMethod yJ0_charAt_5068e, Cond.selects RJ0 yJ0_charAt_5068e yJ0_charAt_5068e, Cond.code yJ0_charAt_5068e cJ0_charAt_5068e 2 (some .char), Cond.methodLink RJ0 492 yJ0_isLatin1_aae02, Cond.instanceMethod yJ0_isLatin1_aae02, Cond.selects RJ0 yJ0_isLatin1_aae02 yJ0_isLatin1_aae02, Cond.code yJ0_isLatin1_aae02 cJ0_isLatin1_aae02 1 (some .boolean), Cond.methodLink RJ0 495 yJ1_charAt_3b067, Cond.static yJ1_charAt_3b067, Cond.initialized RJ1, Cond.code yJ1_charAt_3b067 cJ1_charAt_3b067 2 (some .char), Cond.methodLink RJ1 9 yJ0_checkIndex_df160, Cond.static yJ0_checkIndex_df160, Cond.code yJ0_checkIndex_df160 cJ0_checkIndex_df160 2 none, Cond.fieldLink RJ0 1053 "jdk/internal/util/Preconditions" "SIOOBE_FORMATTER" "Ljava/util/function/BiFunction;", Cond.methodLink RJ0 1059 yJ3_checkIndex_8e157, Cond.static yJ3_checkIndex_8e157, Cond.initialized RJ3, Cond.code yJ3_checkIndex_8e157 cJ3_checkIndex_8e157 3 (some .int)]
def wsX12_scan_r4 : List Cond := [Cond.methodLink RJ0 498 yJ2_charAt_3b067, Cond.static yJ2_charAt_3b067, Cond.initialized RJ2, Cond.code yJ2_charAt_3b067 cJ2_charAt_3b067 2 (some .char), Cond.methodLink RJ2 67 yJ2_checkIndex_2214a, Cond.static yJ2_checkIndex_2214a, Cond.code yJ2_checkIndex_2214a cJ2_checkIndex_2214a 2 none, Cond.methodLink RJ2 48 yJ2_length_9d52b, Cond.static yJ2_length_9d52b, Cond.code yJ2_length_9d52b cJ2_length_9d52b 1 (some .int), Cond.methodLink RJ2 414 yJ0_checkIndex_df160, Cond.methodLink RJ2 71 yJ2_getChar_3b067, Cond.static yJ2_getChar_3b067, Cond.code yJ2_getChar_3b067 cJ2_getChar_3b067 2 (some .char), Cond.fieldLink RJ2 44 "java/lang/StringUTF16" "$assertionsDisabled" "Z", Cond.fieldLink RJ2 59 "java/lang/StringUTF16" "HI_BYTE_SHIFT" "I", Cond.fieldLink RJ2 63 "java/lang/StringUTF16" "LO_BYTE_SHIFT" "I"]
def wsX12_scan : List Cond := .code yX12_scan cX12_scan 8 none :: ((wsX12_scan_r1 ++ (wsX12_scan_r2 ++ (wsX12_scan_r3 ++ wsX12_scan_r4))) ++ wsX120)
def wsX12_readText_r1 : List Cond := [Cond.fieldLink RX12 815 "IntegerHouseModel" "variables" "I", Cond.fieldLink RX12 620 "IntegerHouseModel" "knownVariables" "I", Cond.fieldLink RX12 818 "IntegerHouseModel" "claims" "I", Cond.fieldLink RX12 627 "IntegerHouseModel" "knownClaims" "I", Cond.fieldLink RX12 562 "IntegerHouseModel" "faulty" "Z", Cond.fieldLink RX12 87 "IntegerHouseModel" "tokenKind" "[I", Cond.fieldLink RX12 597 "IntegerHouseModel" "now" "I", Cond.fieldLink RX12 630 "IntegerHouseModel" "slot" "I", Cond.fieldLink RX12 280 "IntegerHouseModel" "namedAt" "[I", Cond.fieldLink RX12 265 "IntegerHouseModel" "isOn" "[Z", Cond.fieldLink RX12 268 "IntegerHouseModel" "claimLayer" "[I", Cond.fieldLink RX12 821 "IntegerHouseModel" "layers" "I", Cond.methodLink RX12 848 yX12_scan, Cond.instanceMethod yX12_scan, Cond.selects RX12 yX12_scan yX12_scan, Cond.initialized RX12, Cond.code yX12_scan cX12_scan 8 none, Cond.fieldLink RX12 594 "IntegerHouseModel" "tokens" "I", Cond.fieldLink RX12 81 "IntegerHouseModel" "tokenAt" "[I", Cond.fieldLink RX12 84 "IntegerHouseModel" "tokenSize" "[I", Cond.fieldLink RX12 90 "IntegerHouseModel" "tokenValue" "[I", Cond.fieldLink RX12 469 "IntegerHouseModel" "docSize" "I", Cond.fieldLink RX12 77 "IntegerHouseModel" "words" "[Ljava/lang/String;", Cond.methodLink RX12 586 yX12_char1]
def wsX12_readText_r2 : List Cond := [Cond.instanceMethod yX12_char1, Cond.selects RX12 yX12_char1 yX12_char1, Cond.code yX12_char1 cX12_char1 2 (some .int), Cond.fieldLink RX12 32 "IntegerHouseModel" "doc" "[B", Cond.methodLink RX12 600 yX12_isLetter, Cond.static yX12_isLetter, Cond.code yX12_isLetter cX12_isLetter 1 (some .boolean), Cond.constantLong RX12 571 (97), Cond.constantLong RX12 573 (122), Cond.constantLong RX12 575 (65), Cond.constantLong RX12 577 (90), Cond.methodLink RX12 504 yX12_in, Cond.static yX12_in, Cond.code yX12_in cX12_in 6 (some .boolean), Cond.methodLink RX12 603 yX12_isDigit, Cond.static yX12_isDigit, Cond.code yX12_isDigit cX12_isDigit 1 (some .boolean), Cond.constantLong RX12 579 (48), Cond.constantLong RX12 581 (57), Cond.methodLink RX12 606 yX12_longSign, Cond.static yX12_longSign, Cond.code yX12_longSign cX12_longSign 2 (some .int), Cond.methodLink RX12 609 yX12_signOf, Cond.static yX12_signOf]
def wsX12_readText_r3 : List Cond := [Cond.code yX12_signOf cX12_signOf 1 (some .int), Cond.methodLink RX12 612 yX12_isText, Cond.instanceMethod yX12_isText, Cond.selects RX12 yX12_isText yX12_isText, Cond.code yX12_isText cX12_isText 4 (some .boolean), Cond.methodLink RX12 583 yJ0_length_8abf5, Cond.instanceMethod yJ0_length_8abf5, Cond.selects RJ0 yJ0_length_8abf5 yJ0_length_8abf5, Cond.initialized RJ0, Cond.code yJ0_length_8abf5 cJ0_length_8abf5 1 (some .int), Cond.fieldLink RJ0 9 "java/lang/String" "value" "[B", Cond.methodLink RJ0 335 yJ0_coder_7d493, Cond.instanceMethod yJ0_coder_7d493, Cond.selects RJ0 yJ0_coder_7d493 yJ0_coder_7d493, Cond.code yJ0_coder_7d493 cJ0_coder_7d493 1 (some .byte), Cond.fieldLink RJ0 38 "java/lang/String" "COMPACT_STRINGS" "Z", Cond.fieldLink RJ0 15 "java/lang/String" "coder" "B", Cond.methodLink RX12 590 yJ0_charAt_5068e, Cond.instanceMethod yJ0_charAt_5068e, Cond.selects RJ0 yJ0_charAt_5068e yJ0_charAt_5068e, Cond.code yJ0_charAt_5068e cJ0_charAt_5068e 2 (some .char), Cond.methodLink RJ0 492 yJ0_isLatin1_aae02, Cond.instanceMethod yJ0_isLatin1_aae02, Cond.selects RJ0 yJ0_isLatin1_aae02 yJ0_isLatin1_aae02]
def wsX12_readText_r4 : List Cond := [Cond.code yJ0_isLatin1_aae02 cJ0_isLatin1_aae02 1 (some .boolean), Cond.methodLink RJ0 495 yJ1_charAt_3b067, Cond.static yJ1_charAt_3b067, Cond.initialized RJ1, Cond.code yJ1_charAt_3b067 cJ1_charAt_3b067 2 (some .char), Cond.methodLink RJ1 9 yJ0_checkIndex_df160, Cond.static yJ0_checkIndex_df160, Cond.code yJ0_checkIndex_df160 cJ0_checkIndex_df160 2 none, Cond.fieldLink RJ0 1053 "jdk/internal/util/Preconditions" "SIOOBE_FORMATTER" "Ljava/util/function/BiFunction;", Cond.methodLink RJ0 1059 yJ3_checkIndex_8e157, Cond.static yJ3_checkIndex_8e157, Cond.initialized RJ3, Cond.code yJ3_checkIndex_8e157 cJ3_checkIndex_8e157 3 (some .int), Cond.methodLink RJ0 498 yJ2_charAt_3b067, Cond.static yJ2_charAt_3b067, Cond.initialized RJ2, Cond.code yJ2_charAt_3b067 cJ2_charAt_3b067 2 (some .char), Cond.methodLink RJ2 67 yJ2_checkIndex_2214a, Cond.static yJ2_checkIndex_2214a, Cond.code yJ2_checkIndex_2214a cJ2_checkIndex_2214a 2 none, Cond.methodLink RJ2 48 yJ2_length_9d52b, Cond.static yJ2_length_9d52b, Cond.code yJ2_length_9d52b cJ2_length_9d52b 1 (some .int), Cond.methodLink RJ2 414 yJ0_checkIndex_df160]
def wsX12_readText_r5 : List Cond := [Cond.methodLink RJ2 71 yJ2_getChar_3b067, Cond.static yJ2_getChar_3b067, Cond.code yJ2_getChar_3b067 cJ2_getChar_3b067 2 (some .char), Cond.fieldLink RJ2 44 "java/lang/StringUTF16" "$assertionsDisabled" "Z", Cond.fieldLink RJ2 59 "java/lang/StringUTF16" "HI_BYTE_SHIFT" "I", Cond.fieldLink RJ2 63 "java/lang/StringUTF16" "LO_BYTE_SHIFT" "I", Cond.methodLink RX12 666 yX12_isWord, Cond.instanceMethod yX12_isWord, Cond.selects RX12 yX12_isWord yX12_isWord, Cond.code yX12_isWord cX12_isWord 2 (some .boolean), Cond.methodLink RX12 851 yX12_readVariables, Cond.instanceMethod yX12_readVariables, Cond.selects RX12 yX12_readVariables yX12_readVariables, Cond.code yX12_readVariables cX12_readVariables 1 none, Cond.methodLink RX12 698 yX12_cannot, Cond.instanceMethod yX12_cannot, Cond.selects RX12 yX12_cannot yX12_cannot, Cond.code yX12_cannot cX12_cannot 1 none, Cond.methodLink RX12 616 yX12_fail, Cond.instanceMethod yX12_fail, Cond.selects RX12 yX12_fail yX12_fail, Cond.code yX12_fail cX12_fail 3 none, Cond.fieldLink RX12 565 "IntegerHouseModel" "faultKind" "I", Cond.fieldLink RX12 568 "IntegerHouseModel" "faultPlace" "I"]
def wsX12_readText_r6 : List Cond := [Cond.methodLink RX12 685 yX12_variableAt, Cond.instanceMethod yX12_variableAt, Cond.selects RX12 yX12_variableAt yX12_variableAt, Cond.code yX12_variableAt cX12_variableAt 3 (some .int), Cond.methodLink RX12 623 yX12_isCalled, Cond.instanceMethod yX12_isCalled, Cond.selects RX12 yX12_isCalled yX12_isCalled, Cond.code yX12_isCalled cX12_isCalled 4 (some .boolean), Cond.fieldLink RX12 96 "IntegerHouseModel" "nameSize" "[I", Cond.fieldLink RX12 93 "IntegerHouseModel" "nameText" "[B", Cond.methodLink RX12 682 yX12_claimAt, Cond.instanceMethod yX12_claimAt, Cond.selects RX12 yX12_claimAt yX12_claimAt, Cond.code yX12_claimAt cX12_claimAt 3 (some .int), Cond.methodLink RX12 839 yX12_callIt, Cond.instanceMethod yX12_callIt, Cond.selects RX12 yX12_callIt yX12_callIt, Cond.code yX12_callIt cX12_callIt 4 none, Cond.methodLink RX12 854 yX12_readClaim, Cond.instanceMethod yX12_readClaim, Cond.selects RX12 yX12_readClaim yX12_readClaim, Cond.code yX12_readClaim cX12_readClaim 3 none, Cond.methodLink RX12 672 yX12_isSign, Cond.instanceMethod yX12_isSign]
def wsX12_readText_r7 : List Cond := [Cond.selects RX12 yX12_isSign yX12_isSign, Cond.code yX12_isSign cX12_isSign 2 (some .boolean), Cond.methodLink RX12 842 yX12_beginSlot, Cond.instanceMethod yX12_beginSlot, Cond.selects RX12 yX12_beginSlot yX12_beginSlot, Cond.code yX12_beginSlot cX12_beginSlot 2 none, Cond.fieldLink RX12 633 "IntegerHouseModel" "open" "I", Cond.fieldLink RX12 105 "IntegerHouseModel" "textCount" "[I", Cond.fieldLink RX12 120 "IntegerHouseModel" "nodeCount" "[I", Cond.fieldLink RX12 153 "IntegerHouseModel" "leafCount" "[I", Cond.fieldLink RX12 165 "IntegerHouseModel" "termCount" "[I", Cond.fieldLink RX12 181 "IntegerHouseModel" "partCount" "[I", Cond.methodLink RX12 845 yX12_readFormula, Cond.instanceMethod yX12_readFormula, Cond.selects RX12 yX12_readFormula yX12_readFormula, Cond.code yX12_readFormula cX12_readFormula 1 (some .int), Cond.fieldLink RX12 639 "IntegerHouseModel" "formulas" "I", Cond.fieldLink RX12 642 "IntegerHouseModel" "terms" "I", Cond.fieldLink RX12 648 "IntegerHouseModel" "state" "I", Cond.fieldLink RX12 184 "IntegerHouseModel" "rootOf" "[I", Cond.fieldLink RX12 660 "IntegerHouseModel" "current" "I", Cond.methodLink RX12 645 yX12_openFormula, Cond.instanceMethod yX12_openFormula, Cond.selects RX12 yX12_openFormula yX12_openFormula]
def wsX12_readText_r8 : List Cond := [Cond.code yX12_openFormula cX12_openFormula 1 none, Cond.fieldLink RX12 187 "IntegerHouseModel" "openJoin" "[I", Cond.fieldLink RX12 190 "IntegerHouseModel" "openLeft" "[I", Cond.fieldLink RX12 193 "IntegerHouseModel" "openOr" "[I", Cond.fieldLink RX12 199 "IntegerHouseModel" "openAnd" "[I", Cond.fieldLink RX12 205 "IntegerHouseModel" "openNots" "[I", Cond.methodLink RX12 651 yX12_readOne, Cond.instanceMethod yX12_readOne, Cond.selects RX12 yX12_readOne yX12_readOne, Cond.code yX12_readOne cX12_readOne 5 none, Cond.fieldLink RX12 135 "IntegerHouseModel" "leafFrom" "[I", Cond.constantLong RX12 694 (8), Cond.constantLong RX12 696 (12), Cond.methodLink RX12 669 yX12_takeOpen, Cond.instanceMethod yX12_takeOpen, Cond.selects RX12 yX12_takeOpen yX12_takeOpen, Cond.code yX12_takeOpen cX12_takeOpen 1 none, Cond.methodLink RX12 636 yX12_take, Cond.instanceMethod yX12_take, Cond.selects RX12 yX12_take yX12_take, Cond.code yX12_take cX12_take 3 none, Cond.fieldLink RX12 102 "IntegerHouseModel" "textSize" "[I", Cond.fieldLink RX12 99 "IntegerHouseModel" "textBytes" "[B", Cond.methodLink RX12 675 yX12_newNode]
def wsX12_readText_r9 : List Cond := [Cond.instanceMethod yX12_newNode, Cond.selects RX12 yX12_newNode yX12_newNode, Cond.code yX12_newNode cX12_newNode 5 (some .int), Cond.fieldLink RX12 108 "IntegerHouseModel" "nodeKind" "[I", Cond.fieldLink RX12 111 "IntegerHouseModel" "nodeA" "[I", Cond.fieldLink RX12 114 "IntegerHouseModel" "nodeB" "[I", Cond.fieldLink RX12 117 "IntegerHouseModel" "nodeNext" "[I", Cond.methodLink RX12 679 yX12_endOne, Cond.instanceMethod yX12_endOne, Cond.selects RX12 yX12_endOne yX12_endOne, Cond.code yX12_endOne cX12_endOne 2 none, Cond.fieldLink RX12 202 "IntegerHouseModel" "openAndLast" "[I", Cond.methodLink RX12 688 yX12_beginLeaf, Cond.instanceMethod yX12_beginLeaf, Cond.selects RX12 yX12_beginLeaf yX12_beginLeaf, Cond.code yX12_beginLeaf cX12_beginLeaf 4 none, Cond.fieldLink RX12 123 "IntegerHouseModel" "leafOp" "[I", Cond.fieldLink RX12 126 "IntegerHouseModel" "leafNumber" "[I", Cond.fieldLink RX12 129 "IntegerHouseModel" "leafLeft" "[I", Cond.fieldLink RX12 141 "IntegerHouseModel" "leafTerms" "[I", Cond.methodLink RX12 663 yX12_openTerm, Cond.instanceMethod yX12_openTerm, Cond.selects RX12 yX12_openTerm yX12_openTerm, Cond.code yX12_openTerm cX12_openTerm 2 none]
def wsX12_readText_r10 : List Cond := [Cond.fieldLink RX12 208 "IntegerHouseModel" "inKind" "[I", Cond.fieldLink RX12 211 "IntegerHouseModel" "inFirst" "[I", Cond.fieldLink RX12 217 "IntegerHouseModel" "inSign" "[I", Cond.fieldLink RX12 220 "IntegerHouseModel" "inTimes" "[J", Cond.fieldLink RX12 223 "IntegerHouseModel" "inOne" "[I", Cond.methodLink RX12 691 yX12_takeNumber, Cond.instanceMethod yX12_takeNumber, Cond.selects RX12 yX12_takeNumber yX12_takeNumber, Cond.code yX12_takeNumber cX12_takeNumber 1 none, Cond.constantLong RX12 701 (2), Cond.methodLink RX12 654 yX12_readAfter, Cond.instanceMethod yX12_readAfter, Cond.selects RX12 yX12_readAfter yX12_readAfter, Cond.code yX12_readAfter cX12_readAfter 4 none, Cond.fieldLink RX12 196 "IntegerHouseModel" "openOrLast" "[I", Cond.methodLink RX12 703 yX12_join, Cond.instanceMethod yX12_join, Cond.selects RX12 yX12_join yX12_join, Cond.code yX12_join cX12_join 8 (some .int), Cond.methodLink RX12 657 yX12_readInTerm, Cond.instanceMethod yX12_readInTerm, Cond.selects RX12 yX12_readInTerm yX12_readInTerm, Cond.code yX12_readInTerm cX12_readInTerm 1 none, Cond.methodLink RX12 706 yX12_addPart]
def wsX12_readText_r11 : List Cond := [Cond.instanceMethod yX12_addPart, Cond.selects RX12 yX12_addPart yX12_addPart, Cond.code yX12_addPart cX12_addPart 3 none, Cond.fieldLink RX12 168 "IntegerHouseModel" "partSign" "[I", Cond.fieldLink RX12 171 "IntegerHouseModel" "partTimes" "[J", Cond.fieldLink RX12 175 "IntegerHouseModel" "partOf" "[I", Cond.fieldLink RX12 178 "IntegerHouseModel" "partNext" "[I", Cond.fieldLink RX12 214 "IntegerHouseModel" "inLast" "[I", Cond.methodLink RX12 709 yX12_readAtom, Cond.instanceMethod yX12_readAtom, Cond.selects RX12 yX12_readAtom yX12_readAtom, Cond.code yX12_readAtom cX12_readAtom 3 none, Cond.methodLink RX12 715 yX12_newTerm, Cond.instanceMethod yX12_newTerm, Cond.selects RX12 yX12_newTerm yX12_newTerm, Cond.code yX12_newTerm cX12_newTerm 5 (some .int), Cond.fieldLink RX12 156 "IntegerHouseModel" "termKind" "[I", Cond.fieldLink RX12 159 "IntegerHouseModel" "termA" "[I", Cond.fieldLink RX12 162 "IntegerHouseModel" "termB" "[I", Cond.methodLink RX12 712 yX12_endTerm, Cond.instanceMethod yX12_endTerm, Cond.selects RX12 yX12_endTerm yX12_endTerm, Cond.code yX12_endTerm cX12_endTerm 7 none, Cond.methodLink RX12 718 yX12_endSide]
def wsX12_readText_r12 : List Cond := [Cond.instanceMethod yX12_endSide, Cond.selects RX12 yX12_endSide yX12_endSide, Cond.code yX12_endSide cX12_endSide 5 none, Cond.constantLong RX12 721 (11), Cond.constantLong RX12 723 (15), Cond.fieldLink RX12 132 "IntegerHouseModel" "leafRight" "[I", Cond.fieldLink RX12 138 "IntegerHouseModel" "leafTo" "[I", Cond.fieldLink RX12 144 "IntegerHouseModel" "leafTermsTo" "[I", Cond.methodLink RX12 857 yX12_build, Cond.instanceMethod yX12_build, Cond.selects RX12 yX12_build yX12_build, Cond.code yX12_build cX12_build 7 (some .int), Cond.fieldLink RX12 725 "IntegerHouseModel" "great" "Z", Cond.fieldLink RX12 747 "IntegerHouseModel" "crowded" "Z", Cond.fieldLink RX12 235 "IntegerHouseModel" "atomCount" "[I", Cond.fieldLink RX12 241 "IntegerHouseModel" "caseCount" "[I", Cond.fieldLink RX12 247 "IntegerHouseModel" "falseAt" "[I", Cond.fieldLink RX12 244 "IntegerHouseModel" "isPlain" "[Z", Cond.constantLong RX12 806 (64), Cond.fieldLink RX12 262 "IntegerHouseModel" "hereF" "[J", Cond.fieldLink RX12 226 "IntegerHouseModel" "atomF" "[I", Cond.fieldLink RX12 232 "IntegerHouseModel" "atomN" "[I", Cond.fieldLink RX12 229 "IntegerHouseModel" "atomC" "[I", Cond.methodLink RX12 808 yX12_casesOf]
def wsX12_readText_r13 : List Cond := [Cond.instanceMethod yX12_casesOf, Cond.selects RX12 yX12_casesOf yX12_casesOf, Cond.code yX12_casesOf cX12_casesOf 8 (some .long), Cond.methodLink RX12 800 yX12_ways, Cond.instanceMethod yX12_ways, Cond.selects RX12 yX12_ways yX12_ways, Cond.code yX12_ways cX12_ways 3 (some .int), Cond.methodLink RX12 812 yX12_makeCases, Cond.instanceMethod yX12_makeCases, Cond.selects RX12 yX12_makeCases yX12_makeCases, Cond.code yX12_makeCases cX12_makeCases 5 none, Cond.fieldLink RX12 259 "IntegerHouseModel" "chosen" "[I", Cond.fieldLink RX12 147 "IntegerHouseModel" "leafCase" "[I", Cond.fieldLink RX12 150 "IntegerHouseModel" "leafCases" "[I", Cond.methodLink RX12 803 yX12_makeCase, Cond.instanceMethod yX12_makeCase, Cond.selects RX12 yX12_makeCase yX12_makeCase, Cond.code yX12_makeCase cX12_makeCase 7 none, Cond.fieldLink RX12 238 "IntegerHouseModel" "caseLit" "[I", Cond.constantLong RX12 526 (-1), Cond.methodLink RX12 797 yX12_shape, Cond.instanceMethod yX12_shape, Cond.selects RX12 yX12_shape yX12_shape, Cond.code yX12_shape cX12_shape 8 (some .int)]
def wsX12_readText_r14 : List Cond := [Cond.fieldLink RX12 736 "IntegerHouseModel" "hereC" "J", Cond.fieldLink RX12 740 "IntegerHouseModel" "hereD" "J", Cond.methodLink RX12 771 yX12_clearHere, Cond.instanceMethod yX12_clearHere, Cond.selects RX12 yX12_clearHere yX12_clearHere, Cond.code yX12_clearHere cX12_clearHere 4 none, Cond.methodLink RX12 774 yX12_total, Cond.instanceMethod yX12_total, Cond.selects RX12 yX12_total yX12_total, Cond.code yX12_total cX12_total 22 none, Cond.methodLink RX12 783 yX12_add, Cond.instanceMethod yX12_add, Cond.selects RX12 yX12_add yX12_add, Cond.code yX12_add cX12_add 7 none, Cond.fieldLink RX12 256 "IntegerHouseModel" "formD" "[J", Cond.fieldLink RX12 250 "IntegerHouseModel" "formF" "[J", Cond.fieldLink RX12 253 "IntegerHouseModel" "formC" "[J", Cond.methodLink RX12 743 yX12_divisor, Cond.static yX12_divisor, Cond.code yX12_divisor cX12_divisor 10 (some .long), Cond.methodLink RX12 787 yX12_lookHere, Cond.instanceMethod yX12_lookHere, Cond.selects RX12 yX12_lookHere yX12_lookHere, Cond.code yX12_lookHere cX12_lookHere 2 none]
def wsX12_readText_r15 : List Cond := [Cond.methodLink RX12 732 yX12_look, Cond.instanceMethod yX12_look, Cond.selects RX12 yX12_look yX12_look, Cond.code yX12_look cX12_look 3 none, Cond.constantLong RX12 728 (1000000), Cond.constantLong RX12 730 (-1000000), Cond.methodLink RX12 777 yX12_hereIs, Cond.instanceMethod yX12_hereIs, Cond.selects RX12 yX12_hereIs yX12_hereIs, Cond.code yX12_hereIs cX12_hereIs 4 none, Cond.methodLink RX12 780 yX12_lineOf, Cond.instanceMethod yX12_lineOf, Cond.selects RX12 yX12_lineOf yX12_lineOf, Cond.code yX12_lineOf cX12_lineOf 7 (some .int), Cond.constantLong RX12 750 (20), Cond.constantLong RX12 752 (-20), Cond.constantLong RX12 754 (99999), Cond.constantLong RX12 756 (-99999), Cond.methodLink RX12 758 yX12_isFlat, Cond.instanceMethod yX12_isFlat, Cond.selects RX12 yX12_isFlat yX12_isFlat, Cond.code yX12_isFlat cX12_isFlat 1 (some .boolean), Cond.methodLink RX12 761 yX12_isFalseHere, Cond.instanceMethod yX12_isFalseHere]
def wsX12_readText_r16 : List Cond := [Cond.selects RX12 yX12_isFalseHere yX12_isFalseHere, Cond.code yX12_isFalseHere cX12_isFalseHere 1 none, Cond.methodLink RX12 764 yX12_atomOf, Cond.instanceMethod yX12_atomOf, Cond.selects RX12 yX12_atomOf yX12_atomOf, Cond.code yX12_atomOf cX12_atomOf 8 (some .int), Cond.methodLink RX12 790 yX12_divides, Cond.instanceMethod yX12_divides, Cond.selects RX12 yX12_divides yX12_divides, Cond.code yX12_divides cX12_divides 6 (some .int), Cond.methodLink RX12 768 yX12_rest, Cond.static yX12_rest, Cond.code yX12_rest cX12_rest 6 (some .long), Cond.methodLink RX12 792 yX12_keep, Cond.instanceMethod yX12_keep, Cond.selects RX12 yX12_keep yX12_keep, Cond.code yX12_keep cX12_keep 3 none, Cond.methodLink RX12 795 yX12_not, Cond.static yX12_not, Cond.code yX12_not cX12_not 1 (some .int), Cond.methodLink RX12 860 yX12_told, Cond.instanceMethod yX12_told, Cond.selects RX12 yX12_told yX12_told, Cond.code yX12_told cX12_told 1 (some .int)]
def wsX12_readText_r17 : List Cond := [Cond.fieldLink RX12 472 "IntegerHouseModel" "replay" "Z", Cond.fieldLink RX12 836 "IntegerHouseModel" "latestFault" "I", Cond.methodLink RX12 862 yX12_no, Cond.instanceMethod yX12_no, Cond.selects RX12 yX12_no yX12_no, Cond.code yX12_no cX12_no 2 (some .int), Cond.fieldLink RX12 462 "IntegerHouseModel" "refused" "Z", Cond.methodLink RX12 865 yX12_full, Cond.instanceMethod yX12_full, Cond.selects RX12 yX12_full yX12_full, Cond.code yX12_full cX12_full 2 (some .boolean), Cond.fieldLink RX12 466 "IntegerHouseModel" "number" "I", Cond.fieldLink RX12 475 "IntegerHouseModel" "waitBytes" "I", Cond.fieldLink RX12 478 "IntegerHouseModel" "used" "I"]
def wsX12_readText : List Cond := .code yX12_readText cX12_readText 3 (some .int) :: ((wsX12_readText_r1 ++ (wsX12_readText_r2 ++ (wsX12_readText_r3 ++ (wsX12_readText_r4 ++ (wsX12_readText_r5 ++ (wsX12_readText_r6 ++ (wsX12_readText_r7 ++ (wsX12_readText_r8 ++ (wsX12_readText_r9 ++ (wsX12_readText_r10 ++ (wsX12_readText_r11 ++ (wsX12_readText_r12 ++ (wsX12_readText_r13 ++ (wsX12_readText_r14 ++ (wsX12_readText_r15 ++ (wsX12_readText_r16 ++ wsX12_readText_r17)))))))))))))))) ++ wsX120)
def wsX12_act_r1 : List Cond := [Cond.fieldLink RX12 466 "IntegerHouseModel" "number" "I", Cond.methodLink RX12 824 yX12_readText, Cond.instanceMethod yX12_readText, Cond.selects RX12 yX12_readText yX12_readText, Cond.initialized RX12, Cond.code yX12_readText cX12_readText 3 (some .int), Cond.fieldLink RX12 815 "IntegerHouseModel" "variables" "I", Cond.fieldLink RX12 620 "IntegerHouseModel" "knownVariables" "I", Cond.fieldLink RX12 818 "IntegerHouseModel" "claims" "I", Cond.fieldLink RX12 627 "IntegerHouseModel" "knownClaims" "I", Cond.fieldLink RX12 562 "IntegerHouseModel" "faulty" "Z", Cond.fieldLink RX12 87 "IntegerHouseModel" "tokenKind" "[I", Cond.fieldLink RX12 597 "IntegerHouseModel" "now" "I", Cond.fieldLink RX12 630 "IntegerHouseModel" "slot" "I", Cond.fieldLink RX12 280 "IntegerHouseModel" "namedAt" "[I", Cond.fieldLink RX12 265 "IntegerHouseModel" "isOn" "[Z", Cond.fieldLink RX12 268 "IntegerHouseModel" "claimLayer" "[I", Cond.fieldLink RX12 821 "IntegerHouseModel" "layers" "I", Cond.methodLink RX12 848 yX12_scan, Cond.instanceMethod yX12_scan, Cond.selects RX12 yX12_scan yX12_scan, Cond.code yX12_scan cX12_scan 8 none, Cond.fieldLink RX12 594 "IntegerHouseModel" "tokens" "I", Cond.fieldLink RX12 81 "IntegerHouseModel" "tokenAt" "[I"]
def wsX12_act_r2 : List Cond := [Cond.fieldLink RX12 84 "IntegerHouseModel" "tokenSize" "[I", Cond.fieldLink RX12 90 "IntegerHouseModel" "tokenValue" "[I", Cond.fieldLink RX12 469 "IntegerHouseModel" "docSize" "I", Cond.fieldLink RX12 77 "IntegerHouseModel" "words" "[Ljava/lang/String;", Cond.methodLink RX12 586 yX12_char1, Cond.instanceMethod yX12_char1, Cond.selects RX12 yX12_char1 yX12_char1, Cond.code yX12_char1 cX12_char1 2 (some .int), Cond.fieldLink RX12 32 "IntegerHouseModel" "doc" "[B", Cond.methodLink RX12 600 yX12_isLetter, Cond.static yX12_isLetter, Cond.code yX12_isLetter cX12_isLetter 1 (some .boolean), Cond.constantLong RX12 571 (97), Cond.constantLong RX12 573 (122), Cond.constantLong RX12 575 (65), Cond.constantLong RX12 577 (90), Cond.methodLink RX12 504 yX12_in, Cond.static yX12_in, Cond.code yX12_in cX12_in 6 (some .boolean), Cond.methodLink RX12 603 yX12_isDigit, Cond.static yX12_isDigit, Cond.code yX12_isDigit cX12_isDigit 1 (some .boolean), Cond.constantLong RX12 579 (48), Cond.constantLong RX12 581 (57)]
def wsX12_act_r3 : List Cond := [Cond.methodLink RX12 606 yX12_longSign, Cond.static yX12_longSign, Cond.code yX12_longSign cX12_longSign 2 (some .int), Cond.methodLink RX12 609 yX12_signOf, Cond.static yX12_signOf, Cond.code yX12_signOf cX12_signOf 1 (some .int), Cond.methodLink RX12 612 yX12_isText, Cond.instanceMethod yX12_isText, Cond.selects RX12 yX12_isText yX12_isText, Cond.code yX12_isText cX12_isText 4 (some .boolean), Cond.methodLink RX12 583 yJ0_length_8abf5, Cond.instanceMethod yJ0_length_8abf5, Cond.selects RJ0 yJ0_length_8abf5 yJ0_length_8abf5, Cond.initialized RJ0, Cond.code yJ0_length_8abf5 cJ0_length_8abf5 1 (some .int), Cond.fieldLink RJ0 9 "java/lang/String" "value" "[B", Cond.methodLink RJ0 335 yJ0_coder_7d493, Cond.instanceMethod yJ0_coder_7d493, Cond.selects RJ0 yJ0_coder_7d493 yJ0_coder_7d493, Cond.code yJ0_coder_7d493 cJ0_coder_7d493 1 (some .byte), Cond.fieldLink RJ0 38 "java/lang/String" "COMPACT_STRINGS" "Z", Cond.fieldLink RJ0 15 "java/lang/String" "coder" "B", Cond.methodLink RX12 590 yJ0_charAt_5068e, Cond.instanceMethod yJ0_charAt_5068e]
def wsX12_act_r4 : List Cond := [Cond.selects RJ0 yJ0_charAt_5068e yJ0_charAt_5068e, Cond.code yJ0_charAt_5068e cJ0_charAt_5068e 2 (some .char), Cond.methodLink RJ0 492 yJ0_isLatin1_aae02, Cond.instanceMethod yJ0_isLatin1_aae02, Cond.selects RJ0 yJ0_isLatin1_aae02 yJ0_isLatin1_aae02, Cond.code yJ0_isLatin1_aae02 cJ0_isLatin1_aae02 1 (some .boolean), Cond.methodLink RJ0 495 yJ1_charAt_3b067, Cond.static yJ1_charAt_3b067, Cond.initialized RJ1, Cond.code yJ1_charAt_3b067 cJ1_charAt_3b067 2 (some .char), Cond.methodLink RJ1 9 yJ0_checkIndex_df160, Cond.static yJ0_checkIndex_df160, Cond.code yJ0_checkIndex_df160 cJ0_checkIndex_df160 2 none, Cond.fieldLink RJ0 1053 "jdk/internal/util/Preconditions" "SIOOBE_FORMATTER" "Ljava/util/function/BiFunction;", Cond.methodLink RJ0 1059 yJ3_checkIndex_8e157, Cond.static yJ3_checkIndex_8e157, Cond.initialized RJ3, Cond.code yJ3_checkIndex_8e157 cJ3_checkIndex_8e157 3 (some .int), Cond.methodLink RJ0 498 yJ2_charAt_3b067, Cond.static yJ2_charAt_3b067, Cond.initialized RJ2, Cond.code yJ2_charAt_3b067 cJ2_charAt_3b067 2 (some .char), Cond.methodLink RJ2 67 yJ2_checkIndex_2214a, Cond.static yJ2_checkIndex_2214a]
def wsX12_act_r5 : List Cond := [Cond.code yJ2_checkIndex_2214a cJ2_checkIndex_2214a 2 none, Cond.methodLink RJ2 48 yJ2_length_9d52b, Cond.static yJ2_length_9d52b, Cond.code yJ2_length_9d52b cJ2_length_9d52b 1 (some .int), Cond.methodLink RJ2 414 yJ0_checkIndex_df160, Cond.methodLink RJ2 71 yJ2_getChar_3b067, Cond.static yJ2_getChar_3b067, Cond.code yJ2_getChar_3b067 cJ2_getChar_3b067 2 (some .char), Cond.fieldLink RJ2 44 "java/lang/StringUTF16" "$assertionsDisabled" "Z", Cond.fieldLink RJ2 59 "java/lang/StringUTF16" "HI_BYTE_SHIFT" "I", Cond.fieldLink RJ2 63 "java/lang/StringUTF16" "LO_BYTE_SHIFT" "I", Cond.methodLink RX12 666 yX12_isWord, Cond.instanceMethod yX12_isWord, Cond.selects RX12 yX12_isWord yX12_isWord, Cond.code yX12_isWord cX12_isWord 2 (some .boolean), Cond.methodLink RX12 851 yX12_readVariables, Cond.instanceMethod yX12_readVariables, Cond.selects RX12 yX12_readVariables yX12_readVariables, Cond.code yX12_readVariables cX12_readVariables 1 none, Cond.methodLink RX12 698 yX12_cannot, Cond.instanceMethod yX12_cannot, Cond.selects RX12 yX12_cannot yX12_cannot, Cond.code yX12_cannot cX12_cannot 1 none, Cond.methodLink RX12 616 yX12_fail]
def wsX12_act_r6 : List Cond := [Cond.instanceMethod yX12_fail, Cond.selects RX12 yX12_fail yX12_fail, Cond.code yX12_fail cX12_fail 3 none, Cond.fieldLink RX12 565 "IntegerHouseModel" "faultKind" "I", Cond.fieldLink RX12 568 "IntegerHouseModel" "faultPlace" "I", Cond.methodLink RX12 685 yX12_variableAt, Cond.instanceMethod yX12_variableAt, Cond.selects RX12 yX12_variableAt yX12_variableAt, Cond.code yX12_variableAt cX12_variableAt 3 (some .int), Cond.methodLink RX12 623 yX12_isCalled, Cond.instanceMethod yX12_isCalled, Cond.selects RX12 yX12_isCalled yX12_isCalled, Cond.code yX12_isCalled cX12_isCalled 4 (some .boolean), Cond.fieldLink RX12 96 "IntegerHouseModel" "nameSize" "[I", Cond.fieldLink RX12 93 "IntegerHouseModel" "nameText" "[B", Cond.methodLink RX12 682 yX12_claimAt, Cond.instanceMethod yX12_claimAt, Cond.selects RX12 yX12_claimAt yX12_claimAt, Cond.code yX12_claimAt cX12_claimAt 3 (some .int), Cond.methodLink RX12 839 yX12_callIt, Cond.instanceMethod yX12_callIt, Cond.selects RX12 yX12_callIt yX12_callIt, Cond.code yX12_callIt cX12_callIt 4 none, Cond.methodLink RX12 854 yX12_readClaim]
def wsX12_act_r7 : List Cond := [Cond.instanceMethod yX12_readClaim, Cond.selects RX12 yX12_readClaim yX12_readClaim, Cond.code yX12_readClaim cX12_readClaim 3 none, Cond.methodLink RX12 672 yX12_isSign, Cond.instanceMethod yX12_isSign, Cond.selects RX12 yX12_isSign yX12_isSign, Cond.code yX12_isSign cX12_isSign 2 (some .boolean), Cond.methodLink RX12 842 yX12_beginSlot, Cond.instanceMethod yX12_beginSlot, Cond.selects RX12 yX12_beginSlot yX12_beginSlot, Cond.code yX12_beginSlot cX12_beginSlot 2 none, Cond.fieldLink RX12 633 "IntegerHouseModel" "open" "I", Cond.fieldLink RX12 105 "IntegerHouseModel" "textCount" "[I", Cond.fieldLink RX12 120 "IntegerHouseModel" "nodeCount" "[I", Cond.fieldLink RX12 153 "IntegerHouseModel" "leafCount" "[I", Cond.fieldLink RX12 165 "IntegerHouseModel" "termCount" "[I", Cond.fieldLink RX12 181 "IntegerHouseModel" "partCount" "[I", Cond.methodLink RX12 845 yX12_readFormula, Cond.instanceMethod yX12_readFormula, Cond.selects RX12 yX12_readFormula yX12_readFormula, Cond.code yX12_readFormula cX12_readFormula 1 (some .int), Cond.fieldLink RX12 639 "IntegerHouseModel" "formulas" "I", Cond.fieldLink RX12 642 "IntegerHouseModel" "terms" "I", Cond.fieldLink RX12 648 "IntegerHouseModel" "state" "I"]
def wsX12_act_r8 : List Cond := [Cond.fieldLink RX12 184 "IntegerHouseModel" "rootOf" "[I", Cond.fieldLink RX12 660 "IntegerHouseModel" "current" "I", Cond.methodLink RX12 645 yX12_openFormula, Cond.instanceMethod yX12_openFormula, Cond.selects RX12 yX12_openFormula yX12_openFormula, Cond.code yX12_openFormula cX12_openFormula 1 none, Cond.fieldLink RX12 187 "IntegerHouseModel" "openJoin" "[I", Cond.fieldLink RX12 190 "IntegerHouseModel" "openLeft" "[I", Cond.fieldLink RX12 193 "IntegerHouseModel" "openOr" "[I", Cond.fieldLink RX12 199 "IntegerHouseModel" "openAnd" "[I", Cond.fieldLink RX12 205 "IntegerHouseModel" "openNots" "[I", Cond.methodLink RX12 651 yX12_readOne, Cond.instanceMethod yX12_readOne, Cond.selects RX12 yX12_readOne yX12_readOne, Cond.code yX12_readOne cX12_readOne 5 none, Cond.fieldLink RX12 135 "IntegerHouseModel" "leafFrom" "[I", Cond.constantLong RX12 694 (8), Cond.constantLong RX12 696 (12), Cond.methodLink RX12 669 yX12_takeOpen, Cond.instanceMethod yX12_takeOpen, Cond.selects RX12 yX12_takeOpen yX12_takeOpen, Cond.code yX12_takeOpen cX12_takeOpen 1 none, Cond.methodLink RX12 636 yX12_take, Cond.instanceMethod yX12_take]
def wsX12_act_r9 : List Cond := [Cond.selects RX12 yX12_take yX12_take, Cond.code yX12_take cX12_take 3 none, Cond.fieldLink RX12 102 "IntegerHouseModel" "textSize" "[I", Cond.fieldLink RX12 99 "IntegerHouseModel" "textBytes" "[B", Cond.methodLink RX12 675 yX12_newNode, Cond.instanceMethod yX12_newNode, Cond.selects RX12 yX12_newNode yX12_newNode, Cond.code yX12_newNode cX12_newNode 5 (some .int), Cond.fieldLink RX12 108 "IntegerHouseModel" "nodeKind" "[I", Cond.fieldLink RX12 111 "IntegerHouseModel" "nodeA" "[I", Cond.fieldLink RX12 114 "IntegerHouseModel" "nodeB" "[I", Cond.fieldLink RX12 117 "IntegerHouseModel" "nodeNext" "[I", Cond.methodLink RX12 679 yX12_endOne, Cond.instanceMethod yX12_endOne, Cond.selects RX12 yX12_endOne yX12_endOne, Cond.code yX12_endOne cX12_endOne 2 none, Cond.fieldLink RX12 202 "IntegerHouseModel" "openAndLast" "[I", Cond.methodLink RX12 688 yX12_beginLeaf, Cond.instanceMethod yX12_beginLeaf, Cond.selects RX12 yX12_beginLeaf yX12_beginLeaf, Cond.code yX12_beginLeaf cX12_beginLeaf 4 none, Cond.fieldLink RX12 123 "IntegerHouseModel" "leafOp" "[I", Cond.fieldLink RX12 126 "IntegerHouseModel" "leafNumber" "[I", Cond.fieldLink RX12 129 "IntegerHouseModel" "leafLeft" "[I"]
def wsX12_act_r10 : List Cond := [Cond.fieldLink RX12 141 "IntegerHouseModel" "leafTerms" "[I", Cond.methodLink RX12 663 yX12_openTerm, Cond.instanceMethod yX12_openTerm, Cond.selects RX12 yX12_openTerm yX12_openTerm, Cond.code yX12_openTerm cX12_openTerm 2 none, Cond.fieldLink RX12 208 "IntegerHouseModel" "inKind" "[I", Cond.fieldLink RX12 211 "IntegerHouseModel" "inFirst" "[I", Cond.fieldLink RX12 217 "IntegerHouseModel" "inSign" "[I", Cond.fieldLink RX12 220 "IntegerHouseModel" "inTimes" "[J", Cond.fieldLink RX12 223 "IntegerHouseModel" "inOne" "[I", Cond.methodLink RX12 691 yX12_takeNumber, Cond.instanceMethod yX12_takeNumber, Cond.selects RX12 yX12_takeNumber yX12_takeNumber, Cond.code yX12_takeNumber cX12_takeNumber 1 none, Cond.constantLong RX12 701 (2), Cond.methodLink RX12 654 yX12_readAfter, Cond.instanceMethod yX12_readAfter, Cond.selects RX12 yX12_readAfter yX12_readAfter, Cond.code yX12_readAfter cX12_readAfter 4 none, Cond.fieldLink RX12 196 "IntegerHouseModel" "openOrLast" "[I", Cond.methodLink RX12 703 yX12_join, Cond.instanceMethod yX12_join, Cond.selects RX12 yX12_join yX12_join, Cond.code yX12_join cX12_join 8 (some .int)]
def wsX12_act_r11 : List Cond := [Cond.methodLink RX12 657 yX12_readInTerm, Cond.instanceMethod yX12_readInTerm, Cond.selects RX12 yX12_readInTerm yX12_readInTerm, Cond.code yX12_readInTerm cX12_readInTerm 1 none, Cond.methodLink RX12 706 yX12_addPart, Cond.instanceMethod yX12_addPart, Cond.selects RX12 yX12_addPart yX12_addPart, Cond.code yX12_addPart cX12_addPart 3 none, Cond.fieldLink RX12 168 "IntegerHouseModel" "partSign" "[I", Cond.fieldLink RX12 171 "IntegerHouseModel" "partTimes" "[J", Cond.fieldLink RX12 175 "IntegerHouseModel" "partOf" "[I", Cond.fieldLink RX12 178 "IntegerHouseModel" "partNext" "[I", Cond.fieldLink RX12 214 "IntegerHouseModel" "inLast" "[I", Cond.methodLink RX12 709 yX12_readAtom, Cond.instanceMethod yX12_readAtom, Cond.selects RX12 yX12_readAtom yX12_readAtom, Cond.code yX12_readAtom cX12_readAtom 3 none, Cond.methodLink RX12 715 yX12_newTerm, Cond.instanceMethod yX12_newTerm, Cond.selects RX12 yX12_newTerm yX12_newTerm, Cond.code yX12_newTerm cX12_newTerm 5 (some .int), Cond.fieldLink RX12 156 "IntegerHouseModel" "termKind" "[I", Cond.fieldLink RX12 159 "IntegerHouseModel" "termA" "[I", Cond.fieldLink RX12 162 "IntegerHouseModel" "termB" "[I"]
def wsX12_act_r12 : List Cond := [Cond.methodLink RX12 712 yX12_endTerm, Cond.instanceMethod yX12_endTerm, Cond.selects RX12 yX12_endTerm yX12_endTerm, Cond.code yX12_endTerm cX12_endTerm 7 none, Cond.methodLink RX12 718 yX12_endSide, Cond.instanceMethod yX12_endSide, Cond.selects RX12 yX12_endSide yX12_endSide, Cond.code yX12_endSide cX12_endSide 5 none, Cond.constantLong RX12 721 (11), Cond.constantLong RX12 723 (15), Cond.fieldLink RX12 132 "IntegerHouseModel" "leafRight" "[I", Cond.fieldLink RX12 138 "IntegerHouseModel" "leafTo" "[I", Cond.fieldLink RX12 144 "IntegerHouseModel" "leafTermsTo" "[I", Cond.methodLink RX12 857 yX12_build, Cond.instanceMethod yX12_build, Cond.selects RX12 yX12_build yX12_build, Cond.code yX12_build cX12_build 7 (some .int), Cond.fieldLink RX12 725 "IntegerHouseModel" "great" "Z", Cond.fieldLink RX12 747 "IntegerHouseModel" "crowded" "Z", Cond.fieldLink RX12 235 "IntegerHouseModel" "atomCount" "[I", Cond.fieldLink RX12 241 "IntegerHouseModel" "caseCount" "[I", Cond.fieldLink RX12 247 "IntegerHouseModel" "falseAt" "[I", Cond.fieldLink RX12 244 "IntegerHouseModel" "isPlain" "[Z", Cond.constantLong RX12 806 (64)]
def wsX12_act_r13 : List Cond := [Cond.fieldLink RX12 262 "IntegerHouseModel" "hereF" "[J", Cond.fieldLink RX12 226 "IntegerHouseModel" "atomF" "[I", Cond.fieldLink RX12 232 "IntegerHouseModel" "atomN" "[I", Cond.fieldLink RX12 229 "IntegerHouseModel" "atomC" "[I", Cond.methodLink RX12 808 yX12_casesOf, Cond.instanceMethod yX12_casesOf, Cond.selects RX12 yX12_casesOf yX12_casesOf, Cond.code yX12_casesOf cX12_casesOf 8 (some .long), Cond.methodLink RX12 800 yX12_ways, Cond.instanceMethod yX12_ways, Cond.selects RX12 yX12_ways yX12_ways, Cond.code yX12_ways cX12_ways 3 (some .int), Cond.methodLink RX12 812 yX12_makeCases, Cond.instanceMethod yX12_makeCases, Cond.selects RX12 yX12_makeCases yX12_makeCases, Cond.code yX12_makeCases cX12_makeCases 5 none, Cond.fieldLink RX12 259 "IntegerHouseModel" "chosen" "[I", Cond.fieldLink RX12 147 "IntegerHouseModel" "leafCase" "[I", Cond.fieldLink RX12 150 "IntegerHouseModel" "leafCases" "[I", Cond.methodLink RX12 803 yX12_makeCase, Cond.instanceMethod yX12_makeCase, Cond.selects RX12 yX12_makeCase yX12_makeCase, Cond.code yX12_makeCase cX12_makeCase 7 none, Cond.fieldLink RX12 238 "IntegerHouseModel" "caseLit" "[I"]
def wsX12_act_r14 : List Cond := [Cond.constantLong RX12 526 (-1), Cond.methodLink RX12 797 yX12_shape, Cond.instanceMethod yX12_shape, Cond.selects RX12 yX12_shape yX12_shape, Cond.code yX12_shape cX12_shape 8 (some .int), Cond.fieldLink RX12 736 "IntegerHouseModel" "hereC" "J", Cond.fieldLink RX12 740 "IntegerHouseModel" "hereD" "J", Cond.methodLink RX12 771 yX12_clearHere, Cond.instanceMethod yX12_clearHere, Cond.selects RX12 yX12_clearHere yX12_clearHere, Cond.code yX12_clearHere cX12_clearHere 4 none, Cond.methodLink RX12 774 yX12_total, Cond.instanceMethod yX12_total, Cond.selects RX12 yX12_total yX12_total, Cond.code yX12_total cX12_total 22 none, Cond.methodLink RX12 783 yX12_add, Cond.instanceMethod yX12_add, Cond.selects RX12 yX12_add yX12_add, Cond.code yX12_add cX12_add 7 none, Cond.fieldLink RX12 256 "IntegerHouseModel" "formD" "[J", Cond.fieldLink RX12 250 "IntegerHouseModel" "formF" "[J", Cond.fieldLink RX12 253 "IntegerHouseModel" "formC" "[J", Cond.methodLink RX12 743 yX12_divisor, Cond.static yX12_divisor]
def wsX12_act_r15 : List Cond := [Cond.code yX12_divisor cX12_divisor 10 (some .long), Cond.methodLink RX12 787 yX12_lookHere, Cond.instanceMethod yX12_lookHere, Cond.selects RX12 yX12_lookHere yX12_lookHere, Cond.code yX12_lookHere cX12_lookHere 2 none, Cond.methodLink RX12 732 yX12_look, Cond.instanceMethod yX12_look, Cond.selects RX12 yX12_look yX12_look, Cond.code yX12_look cX12_look 3 none, Cond.constantLong RX12 728 (1000000), Cond.constantLong RX12 730 (-1000000), Cond.methodLink RX12 777 yX12_hereIs, Cond.instanceMethod yX12_hereIs, Cond.selects RX12 yX12_hereIs yX12_hereIs, Cond.code yX12_hereIs cX12_hereIs 4 none, Cond.methodLink RX12 780 yX12_lineOf, Cond.instanceMethod yX12_lineOf, Cond.selects RX12 yX12_lineOf yX12_lineOf, Cond.code yX12_lineOf cX12_lineOf 7 (some .int), Cond.constantLong RX12 750 (20), Cond.constantLong RX12 752 (-20), Cond.constantLong RX12 754 (99999), Cond.constantLong RX12 756 (-99999), Cond.methodLink RX12 758 yX12_isFlat]
def wsX12_act_r16 : List Cond := [Cond.instanceMethod yX12_isFlat, Cond.selects RX12 yX12_isFlat yX12_isFlat, Cond.code yX12_isFlat cX12_isFlat 1 (some .boolean), Cond.methodLink RX12 761 yX12_isFalseHere, Cond.instanceMethod yX12_isFalseHere, Cond.selects RX12 yX12_isFalseHere yX12_isFalseHere, Cond.code yX12_isFalseHere cX12_isFalseHere 1 none, Cond.methodLink RX12 764 yX12_atomOf, Cond.instanceMethod yX12_atomOf, Cond.selects RX12 yX12_atomOf yX12_atomOf, Cond.code yX12_atomOf cX12_atomOf 8 (some .int), Cond.methodLink RX12 790 yX12_divides, Cond.instanceMethod yX12_divides, Cond.selects RX12 yX12_divides yX12_divides, Cond.code yX12_divides cX12_divides 6 (some .int), Cond.methodLink RX12 768 yX12_rest, Cond.static yX12_rest, Cond.code yX12_rest cX12_rest 6 (some .long), Cond.methodLink RX12 792 yX12_keep, Cond.instanceMethod yX12_keep, Cond.selects RX12 yX12_keep yX12_keep, Cond.code yX12_keep cX12_keep 3 none, Cond.methodLink RX12 795 yX12_not, Cond.static yX12_not]
def wsX12_act_r17 : List Cond := [Cond.code yX12_not cX12_not 1 (some .int), Cond.methodLink RX12 860 yX12_told, Cond.instanceMethod yX12_told, Cond.selects RX12 yX12_told yX12_told, Cond.code yX12_told cX12_told 1 (some .int), Cond.fieldLink RX12 472 "IntegerHouseModel" "replay" "Z", Cond.fieldLink RX12 836 "IntegerHouseModel" "latestFault" "I", Cond.methodLink RX12 862 yX12_no, Cond.instanceMethod yX12_no, Cond.selects RX12 yX12_no yX12_no, Cond.code yX12_no cX12_no 2 (some .int), Cond.fieldLink RX12 462 "IntegerHouseModel" "refused" "Z", Cond.methodLink RX12 865 yX12_full, Cond.instanceMethod yX12_full, Cond.selects RX12 yX12_full yX12_full, Cond.code yX12_full cX12_full 2 (some .boolean), Cond.fieldLink RX12 475 "IntegerHouseModel" "waitBytes" "I", Cond.fieldLink RX12 478 "IntegerHouseModel" "used" "I", Cond.methodLink RX12 827 yX12_turn, Cond.instanceMethod yX12_turn, Cond.selects RX12 yX12_turn yX12_turn, Cond.code yX12_turn cX12_turn 4 (some .int), Cond.fieldLink RX12 28 "IntegerHouseModel" "arg" "[I", Cond.methodLink RX12 830 yX12_layer]
def wsX12_act_r18 : List Cond := [Cond.instanceMethod yX12_layer, Cond.selects RX12 yX12_layer yX12_layer, Cond.code yX12_layer cX12_layer 2 (some .int), Cond.fieldLink RX12 271 "IntegerHouseModel" "layerVariables" "[I", Cond.fieldLink RX12 274 "IntegerHouseModel" "layerClaims" "[I", Cond.fieldLink RX12 277 "IntegerHouseModel" "layerOn" "[Z", Cond.methodLink RX12 833 yX12_leave, Cond.instanceMethod yX12_leave, Cond.selects RX12 yX12_leave yX12_leave, Cond.code yX12_leave cX12_leave 2 (some .int)]
def wsX12_act : List Cond := .code yX12_act cX12_act 1 (some .int) :: ((wsX12_act_r1 ++ (wsX12_act_r2 ++ (wsX12_act_r3 ++ (wsX12_act_r4 ++ (wsX12_act_r5 ++ (wsX12_act_r6 ++ (wsX12_act_r7 ++ (wsX12_act_r8 ++ (wsX12_act_r9 ++ (wsX12_act_r10 ++ (wsX12_act_r11 ++ (wsX12_act_r12 ++ (wsX12_act_r13 ++ (wsX12_act_r14 ++ (wsX12_act_r15 ++ (wsX12_act_r16 ++ (wsX12_act_r17 ++ wsX12_act_r18))))))))))))))))) ++ wsX120)
def wsX12_call_r1 : List Cond := [Cond.fieldLink RX12 3 "IntegerHouseModel" "thrown" "I", Cond.fieldLink RX12 488 "IntegerHouseModel" "down" "Z", Cond.fieldLink RX12 466 "IntegerHouseModel" "number" "I", Cond.fieldLink RX12 472 "IntegerHouseModel" "replay" "Z", Cond.fieldLink RX12 462 "IntegerHouseModel" "refused" "Z", Cond.fieldLink RX12 498 "IntegerHouseModel" "done" "I", Cond.fieldLink RX12 28 "IntegerHouseModel" "arg" "[I", Cond.fieldLink RX12 469 "IntegerHouseModel" "docSize" "I", Cond.fieldLink RX12 32 "IntegerHouseModel" "doc" "[B", Cond.methodLink RX12 491 yX12_takeTape, Cond.instanceMethod yX12_takeTape, Cond.selects RX12 yX12_takeTape yX12_takeTape, Cond.initialized RX12, Cond.code yX12_takeTape cX12_takeTape 2 none, Cond.fieldLink RX12 485 "IntegerHouseModel" "taped" "I", Cond.fieldLink RX12 15 "IntegerHouseModel" "tape" "[B", Cond.methodLink RX12 494 yX12_act, Cond.instanceMethod yX12_act, Cond.selects RX12 yX12_act yX12_act, Cond.code yX12_act cX12_act 1 (some .int), Cond.methodLink RX12 824 yX12_readText, Cond.instanceMethod yX12_readText, Cond.selects RX12 yX12_readText yX12_readText, Cond.code yX12_readText cX12_readText 3 (some .int)]
def wsX12_call_r2 : List Cond := [Cond.fieldLink RX12 815 "IntegerHouseModel" "variables" "I", Cond.fieldLink RX12 620 "IntegerHouseModel" "knownVariables" "I", Cond.fieldLink RX12 818 "IntegerHouseModel" "claims" "I", Cond.fieldLink RX12 627 "IntegerHouseModel" "knownClaims" "I", Cond.fieldLink RX12 562 "IntegerHouseModel" "faulty" "Z", Cond.fieldLink RX12 87 "IntegerHouseModel" "tokenKind" "[I", Cond.fieldLink RX12 597 "IntegerHouseModel" "now" "I", Cond.fieldLink RX12 630 "IntegerHouseModel" "slot" "I", Cond.fieldLink RX12 280 "IntegerHouseModel" "namedAt" "[I", Cond.fieldLink RX12 265 "IntegerHouseModel" "isOn" "[Z", Cond.fieldLink RX12 268 "IntegerHouseModel" "claimLayer" "[I", Cond.fieldLink RX12 821 "IntegerHouseModel" "layers" "I", Cond.methodLink RX12 848 yX12_scan, Cond.instanceMethod yX12_scan, Cond.selects RX12 yX12_scan yX12_scan, Cond.code yX12_scan cX12_scan 8 none, Cond.fieldLink RX12 594 "IntegerHouseModel" "tokens" "I", Cond.fieldLink RX12 81 "IntegerHouseModel" "tokenAt" "[I", Cond.fieldLink RX12 84 "IntegerHouseModel" "tokenSize" "[I", Cond.fieldLink RX12 90 "IntegerHouseModel" "tokenValue" "[I", Cond.fieldLink RX12 77 "IntegerHouseModel" "words" "[Ljava/lang/String;", Cond.methodLink RX12 586 yX12_char1, Cond.instanceMethod yX12_char1, Cond.selects RX12 yX12_char1 yX12_char1]
def wsX12_call_r3 : List Cond := [Cond.code yX12_char1 cX12_char1 2 (some .int), Cond.methodLink RX12 600 yX12_isLetter, Cond.static yX12_isLetter, Cond.code yX12_isLetter cX12_isLetter 1 (some .boolean), Cond.constantLong RX12 571 (97), Cond.constantLong RX12 573 (122), Cond.constantLong RX12 575 (65), Cond.constantLong RX12 577 (90), Cond.methodLink RX12 504 yX12_in, Cond.static yX12_in, Cond.code yX12_in cX12_in 6 (some .boolean), Cond.methodLink RX12 603 yX12_isDigit, Cond.static yX12_isDigit, Cond.code yX12_isDigit cX12_isDigit 1 (some .boolean), Cond.constantLong RX12 579 (48), Cond.constantLong RX12 581 (57), Cond.methodLink RX12 606 yX12_longSign, Cond.static yX12_longSign, Cond.code yX12_longSign cX12_longSign 2 (some .int), Cond.methodLink RX12 609 yX12_signOf, Cond.static yX12_signOf, Cond.code yX12_signOf cX12_signOf 1 (some .int), Cond.methodLink RX12 612 yX12_isText, Cond.instanceMethod yX12_isText]
def wsX12_call_r4 : List Cond := [Cond.selects RX12 yX12_isText yX12_isText, Cond.code yX12_isText cX12_isText 4 (some .boolean), Cond.methodLink RX12 583 yJ0_length_8abf5, Cond.instanceMethod yJ0_length_8abf5, Cond.selects RJ0 yJ0_length_8abf5 yJ0_length_8abf5, Cond.initialized RJ0, Cond.code yJ0_length_8abf5 cJ0_length_8abf5 1 (some .int), Cond.fieldLink RJ0 9 "java/lang/String" "value" "[B", Cond.methodLink RJ0 335 yJ0_coder_7d493, Cond.instanceMethod yJ0_coder_7d493, Cond.selects RJ0 yJ0_coder_7d493 yJ0_coder_7d493, Cond.code yJ0_coder_7d493 cJ0_coder_7d493 1 (some .byte), Cond.fieldLink RJ0 38 "java/lang/String" "COMPACT_STRINGS" "Z", Cond.fieldLink RJ0 15 "java/lang/String" "coder" "B", Cond.methodLink RX12 590 yJ0_charAt_5068e, Cond.instanceMethod yJ0_charAt_5068e, Cond.selects RJ0 yJ0_charAt_5068e yJ0_charAt_5068e, Cond.code yJ0_charAt_5068e cJ0_charAt_5068e 2 (some .char), Cond.methodLink RJ0 492 yJ0_isLatin1_aae02, Cond.instanceMethod yJ0_isLatin1_aae02, Cond.selects RJ0 yJ0_isLatin1_aae02 yJ0_isLatin1_aae02, Cond.code yJ0_isLatin1_aae02 cJ0_isLatin1_aae02 1 (some .boolean), Cond.methodLink RJ0 495 yJ1_charAt_3b067, Cond.static yJ1_charAt_3b067]
def wsX12_call_r5 : List Cond := [Cond.initialized RJ1, Cond.code yJ1_charAt_3b067 cJ1_charAt_3b067 2 (some .char), Cond.methodLink RJ1 9 yJ0_checkIndex_df160, Cond.static yJ0_checkIndex_df160, Cond.code yJ0_checkIndex_df160 cJ0_checkIndex_df160 2 none, Cond.fieldLink RJ0 1053 "jdk/internal/util/Preconditions" "SIOOBE_FORMATTER" "Ljava/util/function/BiFunction;", Cond.methodLink RJ0 1059 yJ3_checkIndex_8e157, Cond.static yJ3_checkIndex_8e157, Cond.initialized RJ3, Cond.code yJ3_checkIndex_8e157 cJ3_checkIndex_8e157 3 (some .int), Cond.methodLink RJ0 498 yJ2_charAt_3b067, Cond.static yJ2_charAt_3b067, Cond.initialized RJ2, Cond.code yJ2_charAt_3b067 cJ2_charAt_3b067 2 (some .char), Cond.methodLink RJ2 67 yJ2_checkIndex_2214a, Cond.static yJ2_checkIndex_2214a, Cond.code yJ2_checkIndex_2214a cJ2_checkIndex_2214a 2 none, Cond.methodLink RJ2 48 yJ2_length_9d52b, Cond.static yJ2_length_9d52b, Cond.code yJ2_length_9d52b cJ2_length_9d52b 1 (some .int), Cond.methodLink RJ2 414 yJ0_checkIndex_df160, Cond.methodLink RJ2 71 yJ2_getChar_3b067, Cond.static yJ2_getChar_3b067, Cond.code yJ2_getChar_3b067 cJ2_getChar_3b067 2 (some .char)]
def wsX12_call_r6 : List Cond := [Cond.fieldLink RJ2 44 "java/lang/StringUTF16" "$assertionsDisabled" "Z", Cond.fieldLink RJ2 59 "java/lang/StringUTF16" "HI_BYTE_SHIFT" "I", Cond.fieldLink RJ2 63 "java/lang/StringUTF16" "LO_BYTE_SHIFT" "I", Cond.methodLink RX12 666 yX12_isWord, Cond.instanceMethod yX12_isWord, Cond.selects RX12 yX12_isWord yX12_isWord, Cond.code yX12_isWord cX12_isWord 2 (some .boolean), Cond.methodLink RX12 851 yX12_readVariables, Cond.instanceMethod yX12_readVariables, Cond.selects RX12 yX12_readVariables yX12_readVariables, Cond.code yX12_readVariables cX12_readVariables 1 none, Cond.methodLink RX12 698 yX12_cannot, Cond.instanceMethod yX12_cannot, Cond.selects RX12 yX12_cannot yX12_cannot, Cond.code yX12_cannot cX12_cannot 1 none, Cond.methodLink RX12 616 yX12_fail, Cond.instanceMethod yX12_fail, Cond.selects RX12 yX12_fail yX12_fail, Cond.code yX12_fail cX12_fail 3 none, Cond.fieldLink RX12 565 "IntegerHouseModel" "faultKind" "I", Cond.fieldLink RX12 568 "IntegerHouseModel" "faultPlace" "I", Cond.methodLink RX12 685 yX12_variableAt, Cond.instanceMethod yX12_variableAt, Cond.selects RX12 yX12_variableAt yX12_variableAt]
def wsX12_call_r7 : List Cond := [Cond.code yX12_variableAt cX12_variableAt 3 (some .int), Cond.methodLink RX12 623 yX12_isCalled, Cond.instanceMethod yX12_isCalled, Cond.selects RX12 yX12_isCalled yX12_isCalled, Cond.code yX12_isCalled cX12_isCalled 4 (some .boolean), Cond.fieldLink RX12 96 "IntegerHouseModel" "nameSize" "[I", Cond.fieldLink RX12 93 "IntegerHouseModel" "nameText" "[B", Cond.methodLink RX12 682 yX12_claimAt, Cond.instanceMethod yX12_claimAt, Cond.selects RX12 yX12_claimAt yX12_claimAt, Cond.code yX12_claimAt cX12_claimAt 3 (some .int), Cond.methodLink RX12 839 yX12_callIt, Cond.instanceMethod yX12_callIt, Cond.selects RX12 yX12_callIt yX12_callIt, Cond.code yX12_callIt cX12_callIt 4 none, Cond.methodLink RX12 854 yX12_readClaim, Cond.instanceMethod yX12_readClaim, Cond.selects RX12 yX12_readClaim yX12_readClaim, Cond.code yX12_readClaim cX12_readClaim 3 none, Cond.methodLink RX12 672 yX12_isSign, Cond.instanceMethod yX12_isSign, Cond.selects RX12 yX12_isSign yX12_isSign, Cond.code yX12_isSign cX12_isSign 2 (some .boolean), Cond.methodLink RX12 842 yX12_beginSlot]
def wsX12_call_r8 : List Cond := [Cond.instanceMethod yX12_beginSlot, Cond.selects RX12 yX12_beginSlot yX12_beginSlot, Cond.code yX12_beginSlot cX12_beginSlot 2 none, Cond.fieldLink RX12 633 "IntegerHouseModel" "open" "I", Cond.fieldLink RX12 105 "IntegerHouseModel" "textCount" "[I", Cond.fieldLink RX12 120 "IntegerHouseModel" "nodeCount" "[I", Cond.fieldLink RX12 153 "IntegerHouseModel" "leafCount" "[I", Cond.fieldLink RX12 165 "IntegerHouseModel" "termCount" "[I", Cond.fieldLink RX12 181 "IntegerHouseModel" "partCount" "[I", Cond.methodLink RX12 845 yX12_readFormula, Cond.instanceMethod yX12_readFormula, Cond.selects RX12 yX12_readFormula yX12_readFormula, Cond.code yX12_readFormula cX12_readFormula 1 (some .int), Cond.fieldLink RX12 639 "IntegerHouseModel" "formulas" "I", Cond.fieldLink RX12 642 "IntegerHouseModel" "terms" "I", Cond.fieldLink RX12 648 "IntegerHouseModel" "state" "I", Cond.fieldLink RX12 184 "IntegerHouseModel" "rootOf" "[I", Cond.fieldLink RX12 660 "IntegerHouseModel" "current" "I", Cond.methodLink RX12 645 yX12_openFormula, Cond.instanceMethod yX12_openFormula, Cond.selects RX12 yX12_openFormula yX12_openFormula, Cond.code yX12_openFormula cX12_openFormula 1 none, Cond.fieldLink RX12 187 "IntegerHouseModel" "openJoin" "[I", Cond.fieldLink RX12 190 "IntegerHouseModel" "openLeft" "[I"]
def wsX12_call_r9 : List Cond := [Cond.fieldLink RX12 193 "IntegerHouseModel" "openOr" "[I", Cond.fieldLink RX12 199 "IntegerHouseModel" "openAnd" "[I", Cond.fieldLink RX12 205 "IntegerHouseModel" "openNots" "[I", Cond.methodLink RX12 651 yX12_readOne, Cond.instanceMethod yX12_readOne, Cond.selects RX12 yX12_readOne yX12_readOne, Cond.code yX12_readOne cX12_readOne 5 none, Cond.fieldLink RX12 135 "IntegerHouseModel" "leafFrom" "[I", Cond.constantLong RX12 694 (8), Cond.constantLong RX12 696 (12), Cond.methodLink RX12 669 yX12_takeOpen, Cond.instanceMethod yX12_takeOpen, Cond.selects RX12 yX12_takeOpen yX12_takeOpen, Cond.code yX12_takeOpen cX12_takeOpen 1 none, Cond.methodLink RX12 636 yX12_take, Cond.instanceMethod yX12_take, Cond.selects RX12 yX12_take yX12_take, Cond.code yX12_take cX12_take 3 none, Cond.fieldLink RX12 102 "IntegerHouseModel" "textSize" "[I", Cond.fieldLink RX12 99 "IntegerHouseModel" "textBytes" "[B", Cond.methodLink RX12 675 yX12_newNode, Cond.instanceMethod yX12_newNode, Cond.selects RX12 yX12_newNode yX12_newNode, Cond.code yX12_newNode cX12_newNode 5 (some .int)]
def wsX12_call_r10 : List Cond := [Cond.fieldLink RX12 108 "IntegerHouseModel" "nodeKind" "[I", Cond.fieldLink RX12 111 "IntegerHouseModel" "nodeA" "[I", Cond.fieldLink RX12 114 "IntegerHouseModel" "nodeB" "[I", Cond.fieldLink RX12 117 "IntegerHouseModel" "nodeNext" "[I", Cond.methodLink RX12 679 yX12_endOne, Cond.instanceMethod yX12_endOne, Cond.selects RX12 yX12_endOne yX12_endOne, Cond.code yX12_endOne cX12_endOne 2 none, Cond.fieldLink RX12 202 "IntegerHouseModel" "openAndLast" "[I", Cond.methodLink RX12 688 yX12_beginLeaf, Cond.instanceMethod yX12_beginLeaf, Cond.selects RX12 yX12_beginLeaf yX12_beginLeaf, Cond.code yX12_beginLeaf cX12_beginLeaf 4 none, Cond.fieldLink RX12 123 "IntegerHouseModel" "leafOp" "[I", Cond.fieldLink RX12 126 "IntegerHouseModel" "leafNumber" "[I", Cond.fieldLink RX12 129 "IntegerHouseModel" "leafLeft" "[I", Cond.fieldLink RX12 141 "IntegerHouseModel" "leafTerms" "[I", Cond.methodLink RX12 663 yX12_openTerm, Cond.instanceMethod yX12_openTerm, Cond.selects RX12 yX12_openTerm yX12_openTerm, Cond.code yX12_openTerm cX12_openTerm 2 none, Cond.fieldLink RX12 208 "IntegerHouseModel" "inKind" "[I", Cond.fieldLink RX12 211 "IntegerHouseModel" "inFirst" "[I", Cond.fieldLink RX12 217 "IntegerHouseModel" "inSign" "[I"]
def wsX12_call_r11 : List Cond := [Cond.fieldLink RX12 220 "IntegerHouseModel" "inTimes" "[J", Cond.fieldLink RX12 223 "IntegerHouseModel" "inOne" "[I", Cond.methodLink RX12 691 yX12_takeNumber, Cond.instanceMethod yX12_takeNumber, Cond.selects RX12 yX12_takeNumber yX12_takeNumber, Cond.code yX12_takeNumber cX12_takeNumber 1 none, Cond.constantLong RX12 701 (2), Cond.methodLink RX12 654 yX12_readAfter, Cond.instanceMethod yX12_readAfter, Cond.selects RX12 yX12_readAfter yX12_readAfter, Cond.code yX12_readAfter cX12_readAfter 4 none, Cond.fieldLink RX12 196 "IntegerHouseModel" "openOrLast" "[I", Cond.methodLink RX12 703 yX12_join, Cond.instanceMethod yX12_join, Cond.selects RX12 yX12_join yX12_join, Cond.code yX12_join cX12_join 8 (some .int), Cond.methodLink RX12 657 yX12_readInTerm, Cond.instanceMethod yX12_readInTerm, Cond.selects RX12 yX12_readInTerm yX12_readInTerm, Cond.code yX12_readInTerm cX12_readInTerm 1 none, Cond.methodLink RX12 706 yX12_addPart, Cond.instanceMethod yX12_addPart, Cond.selects RX12 yX12_addPart yX12_addPart, Cond.code yX12_addPart cX12_addPart 3 none]
def wsX12_call_r12 : List Cond := [Cond.fieldLink RX12 168 "IntegerHouseModel" "partSign" "[I", Cond.fieldLink RX12 171 "IntegerHouseModel" "partTimes" "[J", Cond.fieldLink RX12 175 "IntegerHouseModel" "partOf" "[I", Cond.fieldLink RX12 178 "IntegerHouseModel" "partNext" "[I", Cond.fieldLink RX12 214 "IntegerHouseModel" "inLast" "[I", Cond.methodLink RX12 709 yX12_readAtom, Cond.instanceMethod yX12_readAtom, Cond.selects RX12 yX12_readAtom yX12_readAtom, Cond.code yX12_readAtom cX12_readAtom 3 none, Cond.methodLink RX12 715 yX12_newTerm, Cond.instanceMethod yX12_newTerm, Cond.selects RX12 yX12_newTerm yX12_newTerm, Cond.code yX12_newTerm cX12_newTerm 5 (some .int), Cond.fieldLink RX12 156 "IntegerHouseModel" "termKind" "[I", Cond.fieldLink RX12 159 "IntegerHouseModel" "termA" "[I", Cond.fieldLink RX12 162 "IntegerHouseModel" "termB" "[I", Cond.methodLink RX12 712 yX12_endTerm, Cond.instanceMethod yX12_endTerm, Cond.selects RX12 yX12_endTerm yX12_endTerm, Cond.code yX12_endTerm cX12_endTerm 7 none, Cond.methodLink RX12 718 yX12_endSide, Cond.instanceMethod yX12_endSide, Cond.selects RX12 yX12_endSide yX12_endSide, Cond.code yX12_endSide cX12_endSide 5 none]
def wsX12_call_r13 : List Cond := [Cond.constantLong RX12 721 (11), Cond.constantLong RX12 723 (15), Cond.fieldLink RX12 132 "IntegerHouseModel" "leafRight" "[I", Cond.fieldLink RX12 138 "IntegerHouseModel" "leafTo" "[I", Cond.fieldLink RX12 144 "IntegerHouseModel" "leafTermsTo" "[I", Cond.methodLink RX12 857 yX12_build, Cond.instanceMethod yX12_build, Cond.selects RX12 yX12_build yX12_build, Cond.code yX12_build cX12_build 7 (some .int), Cond.fieldLink RX12 725 "IntegerHouseModel" "great" "Z", Cond.fieldLink RX12 747 "IntegerHouseModel" "crowded" "Z", Cond.fieldLink RX12 235 "IntegerHouseModel" "atomCount" "[I", Cond.fieldLink RX12 241 "IntegerHouseModel" "caseCount" "[I", Cond.fieldLink RX12 247 "IntegerHouseModel" "falseAt" "[I", Cond.fieldLink RX12 244 "IntegerHouseModel" "isPlain" "[Z", Cond.constantLong RX12 806 (64), Cond.fieldLink RX12 262 "IntegerHouseModel" "hereF" "[J", Cond.fieldLink RX12 226 "IntegerHouseModel" "atomF" "[I", Cond.fieldLink RX12 232 "IntegerHouseModel" "atomN" "[I", Cond.fieldLink RX12 229 "IntegerHouseModel" "atomC" "[I", Cond.methodLink RX12 808 yX12_casesOf, Cond.instanceMethod yX12_casesOf, Cond.selects RX12 yX12_casesOf yX12_casesOf, Cond.code yX12_casesOf cX12_casesOf 8 (some .long)]
def wsX12_call_r14 : List Cond := [Cond.methodLink RX12 800 yX12_ways, Cond.instanceMethod yX12_ways, Cond.selects RX12 yX12_ways yX12_ways, Cond.code yX12_ways cX12_ways 3 (some .int), Cond.methodLink RX12 812 yX12_makeCases, Cond.instanceMethod yX12_makeCases, Cond.selects RX12 yX12_makeCases yX12_makeCases, Cond.code yX12_makeCases cX12_makeCases 5 none, Cond.fieldLink RX12 259 "IntegerHouseModel" "chosen" "[I", Cond.fieldLink RX12 147 "IntegerHouseModel" "leafCase" "[I", Cond.fieldLink RX12 150 "IntegerHouseModel" "leafCases" "[I", Cond.methodLink RX12 803 yX12_makeCase, Cond.instanceMethod yX12_makeCase, Cond.selects RX12 yX12_makeCase yX12_makeCase, Cond.code yX12_makeCase cX12_makeCase 7 none, Cond.fieldLink RX12 238 "IntegerHouseModel" "caseLit" "[I", Cond.constantLong RX12 526 (-1), Cond.methodLink RX12 797 yX12_shape, Cond.instanceMethod yX12_shape, Cond.selects RX12 yX12_shape yX12_shape, Cond.code yX12_shape cX12_shape 8 (some .int), Cond.fieldLink RX12 736 "IntegerHouseModel" "hereC" "J", Cond.fieldLink RX12 740 "IntegerHouseModel" "hereD" "J", Cond.methodLink RX12 771 yX12_clearHere]
def wsX12_call_r15 : List Cond := [Cond.instanceMethod yX12_clearHere, Cond.selects RX12 yX12_clearHere yX12_clearHere, Cond.code yX12_clearHere cX12_clearHere 4 none, Cond.methodLink RX12 774 yX12_total, Cond.instanceMethod yX12_total, Cond.selects RX12 yX12_total yX12_total, Cond.code yX12_total cX12_total 22 none, Cond.methodLink RX12 783 yX12_add, Cond.instanceMethod yX12_add, Cond.selects RX12 yX12_add yX12_add, Cond.code yX12_add cX12_add 7 none, Cond.fieldLink RX12 256 "IntegerHouseModel" "formD" "[J", Cond.fieldLink RX12 250 "IntegerHouseModel" "formF" "[J", Cond.fieldLink RX12 253 "IntegerHouseModel" "formC" "[J", Cond.methodLink RX12 743 yX12_divisor, Cond.static yX12_divisor, Cond.code yX12_divisor cX12_divisor 10 (some .long), Cond.methodLink RX12 787 yX12_lookHere, Cond.instanceMethod yX12_lookHere, Cond.selects RX12 yX12_lookHere yX12_lookHere, Cond.code yX12_lookHere cX12_lookHere 2 none, Cond.methodLink RX12 732 yX12_look, Cond.instanceMethod yX12_look, Cond.selects RX12 yX12_look yX12_look]
def wsX12_call_r16 : List Cond := [Cond.code yX12_look cX12_look 3 none, Cond.constantLong RX12 728 (1000000), Cond.constantLong RX12 730 (-1000000), Cond.methodLink RX12 777 yX12_hereIs, Cond.instanceMethod yX12_hereIs, Cond.selects RX12 yX12_hereIs yX12_hereIs, Cond.code yX12_hereIs cX12_hereIs 4 none, Cond.methodLink RX12 780 yX12_lineOf, Cond.instanceMethod yX12_lineOf, Cond.selects RX12 yX12_lineOf yX12_lineOf, Cond.code yX12_lineOf cX12_lineOf 7 (some .int), Cond.constantLong RX12 750 (20), Cond.constantLong RX12 752 (-20), Cond.constantLong RX12 754 (99999), Cond.constantLong RX12 756 (-99999), Cond.methodLink RX12 758 yX12_isFlat, Cond.instanceMethod yX12_isFlat, Cond.selects RX12 yX12_isFlat yX12_isFlat, Cond.code yX12_isFlat cX12_isFlat 1 (some .boolean), Cond.methodLink RX12 761 yX12_isFalseHere, Cond.instanceMethod yX12_isFalseHere, Cond.selects RX12 yX12_isFalseHere yX12_isFalseHere, Cond.code yX12_isFalseHere cX12_isFalseHere 1 none, Cond.methodLink RX12 764 yX12_atomOf]
def wsX12_call_r17 : List Cond := [Cond.instanceMethod yX12_atomOf, Cond.selects RX12 yX12_atomOf yX12_atomOf, Cond.code yX12_atomOf cX12_atomOf 8 (some .int), Cond.methodLink RX12 790 yX12_divides, Cond.instanceMethod yX12_divides, Cond.selects RX12 yX12_divides yX12_divides, Cond.code yX12_divides cX12_divides 6 (some .int), Cond.methodLink RX12 768 yX12_rest, Cond.static yX12_rest, Cond.code yX12_rest cX12_rest 6 (some .long), Cond.methodLink RX12 792 yX12_keep, Cond.instanceMethod yX12_keep, Cond.selects RX12 yX12_keep yX12_keep, Cond.code yX12_keep cX12_keep 3 none, Cond.methodLink RX12 795 yX12_not, Cond.static yX12_not, Cond.code yX12_not cX12_not 1 (some .int), Cond.methodLink RX12 860 yX12_told, Cond.instanceMethod yX12_told, Cond.selects RX12 yX12_told yX12_told, Cond.code yX12_told cX12_told 1 (some .int), Cond.fieldLink RX12 836 "IntegerHouseModel" "latestFault" "I", Cond.methodLink RX12 862 yX12_no, Cond.instanceMethod yX12_no]
def wsX12_call_r18 : List Cond := [Cond.selects RX12 yX12_no yX12_no, Cond.code yX12_no cX12_no 2 (some .int), Cond.methodLink RX12 865 yX12_full, Cond.instanceMethod yX12_full, Cond.selects RX12 yX12_full yX12_full, Cond.code yX12_full cX12_full 2 (some .boolean), Cond.fieldLink RX12 475 "IntegerHouseModel" "waitBytes" "I", Cond.fieldLink RX12 478 "IntegerHouseModel" "used" "I", Cond.methodLink RX12 827 yX12_turn, Cond.instanceMethod yX12_turn, Cond.selects RX12 yX12_turn yX12_turn, Cond.code yX12_turn cX12_turn 4 (some .int), Cond.methodLink RX12 830 yX12_layer, Cond.instanceMethod yX12_layer, Cond.selects RX12 yX12_layer yX12_layer, Cond.code yX12_layer cX12_layer 2 (some .int), Cond.fieldLink RX12 271 "IntegerHouseModel" "layerVariables" "[I", Cond.fieldLink RX12 274 "IntegerHouseModel" "layerClaims" "[I", Cond.fieldLink RX12 277 "IntegerHouseModel" "layerOn" "[Z", Cond.methodLink RX12 833 yX12_leave, Cond.instanceMethod yX12_leave, Cond.selects RX12 yX12_leave yX12_leave, Cond.code yX12_leave cX12_leave 2 (some .int), Cond.methodLink RX12 481 yX12_note]
def wsX12_call_r19 : List Cond := [Cond.instanceMethod yX12_note, Cond.selects RX12 yX12_note yX12_note, Cond.code yX12_note cX12_note 2 none, Cond.fieldLink RX12 25 "IntegerHouseModel" "waits" "[B", Cond.methodLink RX12 501 yX12_noteInt, Cond.instanceMethod yX12_noteInt, Cond.selects RX12 yX12_noteInt yX12_noteInt, Cond.code yX12_noteInt cX12_noteInt 3 none]
def wsX12_call : List Cond := .code yX12_call cX12_call 4 (some .int) :: ((wsX12_call_r1 ++ (wsX12_call_r2 ++ (wsX12_call_r3 ++ (wsX12_call_r4 ++ (wsX12_call_r5 ++ (wsX12_call_r6 ++ (wsX12_call_r7 ++ (wsX12_call_r8 ++ (wsX12_call_r9 ++ (wsX12_call_r10 ++ (wsX12_call_r11 ++ (wsX12_call_r12 ++ (wsX12_call_r13 ++ (wsX12_call_r14 ++ (wsX12_call_r15 ++ (wsX12_call_r16 ++ (wsX12_call_r17 ++ (wsX12_call_r18 ++ wsX12_call_r19)))))))))))))))))) ++ wsX120)
def wsX12_read_r1 : List Cond := [Cond.methodLink RX12 868 yX12_call, Cond.instanceMethod yX12_call, Cond.selects RX12 yX12_call yX12_call, Cond.initialized RX12, Cond.code yX12_call cX12_call 4 (some .int), Cond.fieldLink RX12 3 "IntegerHouseModel" "thrown" "I", Cond.fieldLink RX12 488 "IntegerHouseModel" "down" "Z", Cond.fieldLink RX12 466 "IntegerHouseModel" "number" "I", Cond.fieldLink RX12 472 "IntegerHouseModel" "replay" "Z", Cond.fieldLink RX12 462 "IntegerHouseModel" "refused" "Z", Cond.fieldLink RX12 498 "IntegerHouseModel" "done" "I", Cond.fieldLink RX12 28 "IntegerHouseModel" "arg" "[I", Cond.fieldLink RX12 469 "IntegerHouseModel" "docSize" "I", Cond.fieldLink RX12 32 "IntegerHouseModel" "doc" "[B", Cond.methodLink RX12 491 yX12_takeTape, Cond.instanceMethod yX12_takeTape, Cond.selects RX12 yX12_takeTape yX12_takeTape, Cond.code yX12_takeTape cX12_takeTape 2 none, Cond.fieldLink RX12 485 "IntegerHouseModel" "taped" "I", Cond.fieldLink RX12 15 "IntegerHouseModel" "tape" "[B", Cond.methodLink RX12 494 yX12_act, Cond.instanceMethod yX12_act, Cond.selects RX12 yX12_act yX12_act, Cond.code yX12_act cX12_act 1 (some .int)]
def wsX12_read_r2 : List Cond := [Cond.methodLink RX12 824 yX12_readText, Cond.instanceMethod yX12_readText, Cond.selects RX12 yX12_readText yX12_readText, Cond.code yX12_readText cX12_readText 3 (some .int), Cond.fieldLink RX12 815 "IntegerHouseModel" "variables" "I", Cond.fieldLink RX12 620 "IntegerHouseModel" "knownVariables" "I", Cond.fieldLink RX12 818 "IntegerHouseModel" "claims" "I", Cond.fieldLink RX12 627 "IntegerHouseModel" "knownClaims" "I", Cond.fieldLink RX12 562 "IntegerHouseModel" "faulty" "Z", Cond.fieldLink RX12 87 "IntegerHouseModel" "tokenKind" "[I", Cond.fieldLink RX12 597 "IntegerHouseModel" "now" "I", Cond.fieldLink RX12 630 "IntegerHouseModel" "slot" "I", Cond.fieldLink RX12 280 "IntegerHouseModel" "namedAt" "[I", Cond.fieldLink RX12 265 "IntegerHouseModel" "isOn" "[Z", Cond.fieldLink RX12 268 "IntegerHouseModel" "claimLayer" "[I", Cond.fieldLink RX12 821 "IntegerHouseModel" "layers" "I", Cond.methodLink RX12 848 yX12_scan, Cond.instanceMethod yX12_scan, Cond.selects RX12 yX12_scan yX12_scan, Cond.code yX12_scan cX12_scan 8 none, Cond.fieldLink RX12 594 "IntegerHouseModel" "tokens" "I", Cond.fieldLink RX12 81 "IntegerHouseModel" "tokenAt" "[I", Cond.fieldLink RX12 84 "IntegerHouseModel" "tokenSize" "[I", Cond.fieldLink RX12 90 "IntegerHouseModel" "tokenValue" "[I"]
def wsX12_read_r3 : List Cond := [Cond.fieldLink RX12 77 "IntegerHouseModel" "words" "[Ljava/lang/String;", Cond.methodLink RX12 586 yX12_char1, Cond.instanceMethod yX12_char1, Cond.selects RX12 yX12_char1 yX12_char1, Cond.code yX12_char1 cX12_char1 2 (some .int), Cond.methodLink RX12 600 yX12_isLetter, Cond.static yX12_isLetter, Cond.code yX12_isLetter cX12_isLetter 1 (some .boolean), Cond.constantLong RX12 571 (97), Cond.constantLong RX12 573 (122), Cond.constantLong RX12 575 (65), Cond.constantLong RX12 577 (90), Cond.methodLink RX12 504 yX12_in, Cond.static yX12_in, Cond.code yX12_in cX12_in 6 (some .boolean), Cond.methodLink RX12 603 yX12_isDigit, Cond.static yX12_isDigit, Cond.code yX12_isDigit cX12_isDigit 1 (some .boolean), Cond.constantLong RX12 579 (48), Cond.constantLong RX12 581 (57), Cond.methodLink RX12 606 yX12_longSign, Cond.static yX12_longSign, Cond.code yX12_longSign cX12_longSign 2 (some .int), Cond.methodLink RX12 609 yX12_signOf]
def wsX12_read_r4 : List Cond := [Cond.static yX12_signOf, Cond.code yX12_signOf cX12_signOf 1 (some .int), Cond.methodLink RX12 612 yX12_isText, Cond.instanceMethod yX12_isText, Cond.selects RX12 yX12_isText yX12_isText, Cond.code yX12_isText cX12_isText 4 (some .boolean), Cond.methodLink RX12 583 yJ0_length_8abf5, Cond.instanceMethod yJ0_length_8abf5, Cond.selects RJ0 yJ0_length_8abf5 yJ0_length_8abf5, Cond.initialized RJ0, Cond.code yJ0_length_8abf5 cJ0_length_8abf5 1 (some .int), Cond.fieldLink RJ0 9 "java/lang/String" "value" "[B", Cond.methodLink RJ0 335 yJ0_coder_7d493, Cond.instanceMethod yJ0_coder_7d493, Cond.selects RJ0 yJ0_coder_7d493 yJ0_coder_7d493, Cond.code yJ0_coder_7d493 cJ0_coder_7d493 1 (some .byte), Cond.fieldLink RJ0 38 "java/lang/String" "COMPACT_STRINGS" "Z", Cond.fieldLink RJ0 15 "java/lang/String" "coder" "B", Cond.methodLink RX12 590 yJ0_charAt_5068e, Cond.instanceMethod yJ0_charAt_5068e, Cond.selects RJ0 yJ0_charAt_5068e yJ0_charAt_5068e, Cond.code yJ0_charAt_5068e cJ0_charAt_5068e 2 (some .char), Cond.methodLink RJ0 492 yJ0_isLatin1_aae02, Cond.instanceMethod yJ0_isLatin1_aae02]
def wsX12_read_r5 : List Cond := [Cond.selects RJ0 yJ0_isLatin1_aae02 yJ0_isLatin1_aae02, Cond.code yJ0_isLatin1_aae02 cJ0_isLatin1_aae02 1 (some .boolean), Cond.methodLink RJ0 495 yJ1_charAt_3b067, Cond.static yJ1_charAt_3b067, Cond.initialized RJ1, Cond.code yJ1_charAt_3b067 cJ1_charAt_3b067 2 (some .char), Cond.methodLink RJ1 9 yJ0_checkIndex_df160, Cond.static yJ0_checkIndex_df160, Cond.code yJ0_checkIndex_df160 cJ0_checkIndex_df160 2 none, Cond.fieldLink RJ0 1053 "jdk/internal/util/Preconditions" "SIOOBE_FORMATTER" "Ljava/util/function/BiFunction;", Cond.methodLink RJ0 1059 yJ3_checkIndex_8e157, Cond.static yJ3_checkIndex_8e157, Cond.initialized RJ3, Cond.code yJ3_checkIndex_8e157 cJ3_checkIndex_8e157 3 (some .int), Cond.methodLink RJ0 498 yJ2_charAt_3b067, Cond.static yJ2_charAt_3b067, Cond.initialized RJ2, Cond.code yJ2_charAt_3b067 cJ2_charAt_3b067 2 (some .char), Cond.methodLink RJ2 67 yJ2_checkIndex_2214a, Cond.static yJ2_checkIndex_2214a, Cond.code yJ2_checkIndex_2214a cJ2_checkIndex_2214a 2 none, Cond.methodLink RJ2 48 yJ2_length_9d52b, Cond.static yJ2_length_9d52b, Cond.code yJ2_length_9d52b cJ2_length_9d52b 1 (some .int)]
def wsX12_read_r6 : List Cond := [Cond.methodLink RJ2 414 yJ0_checkIndex_df160, Cond.methodLink RJ2 71 yJ2_getChar_3b067, Cond.static yJ2_getChar_3b067, Cond.code yJ2_getChar_3b067 cJ2_getChar_3b067 2 (some .char), Cond.fieldLink RJ2 44 "java/lang/StringUTF16" "$assertionsDisabled" "Z", Cond.fieldLink RJ2 59 "java/lang/StringUTF16" "HI_BYTE_SHIFT" "I", Cond.fieldLink RJ2 63 "java/lang/StringUTF16" "LO_BYTE_SHIFT" "I", Cond.methodLink RX12 666 yX12_isWord, Cond.instanceMethod yX12_isWord, Cond.selects RX12 yX12_isWord yX12_isWord, Cond.code yX12_isWord cX12_isWord 2 (some .boolean), Cond.methodLink RX12 851 yX12_readVariables, Cond.instanceMethod yX12_readVariables, Cond.selects RX12 yX12_readVariables yX12_readVariables, Cond.code yX12_readVariables cX12_readVariables 1 none, Cond.methodLink RX12 698 yX12_cannot, Cond.instanceMethod yX12_cannot, Cond.selects RX12 yX12_cannot yX12_cannot, Cond.code yX12_cannot cX12_cannot 1 none, Cond.methodLink RX12 616 yX12_fail, Cond.instanceMethod yX12_fail, Cond.selects RX12 yX12_fail yX12_fail, Cond.code yX12_fail cX12_fail 3 none, Cond.fieldLink RX12 565 "IntegerHouseModel" "faultKind" "I"]
def wsX12_read_r7 : List Cond := [Cond.fieldLink RX12 568 "IntegerHouseModel" "faultPlace" "I", Cond.methodLink RX12 685 yX12_variableAt, Cond.instanceMethod yX12_variableAt, Cond.selects RX12 yX12_variableAt yX12_variableAt, Cond.code yX12_variableAt cX12_variableAt 3 (some .int), Cond.methodLink RX12 623 yX12_isCalled, Cond.instanceMethod yX12_isCalled, Cond.selects RX12 yX12_isCalled yX12_isCalled, Cond.code yX12_isCalled cX12_isCalled 4 (some .boolean), Cond.fieldLink RX12 96 "IntegerHouseModel" "nameSize" "[I", Cond.fieldLink RX12 93 "IntegerHouseModel" "nameText" "[B", Cond.methodLink RX12 682 yX12_claimAt, Cond.instanceMethod yX12_claimAt, Cond.selects RX12 yX12_claimAt yX12_claimAt, Cond.code yX12_claimAt cX12_claimAt 3 (some .int), Cond.methodLink RX12 839 yX12_callIt, Cond.instanceMethod yX12_callIt, Cond.selects RX12 yX12_callIt yX12_callIt, Cond.code yX12_callIt cX12_callIt 4 none, Cond.methodLink RX12 854 yX12_readClaim, Cond.instanceMethod yX12_readClaim, Cond.selects RX12 yX12_readClaim yX12_readClaim, Cond.code yX12_readClaim cX12_readClaim 3 none, Cond.methodLink RX12 672 yX12_isSign]
def wsX12_read_r8 : List Cond := [Cond.instanceMethod yX12_isSign, Cond.selects RX12 yX12_isSign yX12_isSign, Cond.code yX12_isSign cX12_isSign 2 (some .boolean), Cond.methodLink RX12 842 yX12_beginSlot, Cond.instanceMethod yX12_beginSlot, Cond.selects RX12 yX12_beginSlot yX12_beginSlot, Cond.code yX12_beginSlot cX12_beginSlot 2 none, Cond.fieldLink RX12 633 "IntegerHouseModel" "open" "I", Cond.fieldLink RX12 105 "IntegerHouseModel" "textCount" "[I", Cond.fieldLink RX12 120 "IntegerHouseModel" "nodeCount" "[I", Cond.fieldLink RX12 153 "IntegerHouseModel" "leafCount" "[I", Cond.fieldLink RX12 165 "IntegerHouseModel" "termCount" "[I", Cond.fieldLink RX12 181 "IntegerHouseModel" "partCount" "[I", Cond.methodLink RX12 845 yX12_readFormula, Cond.instanceMethod yX12_readFormula, Cond.selects RX12 yX12_readFormula yX12_readFormula, Cond.code yX12_readFormula cX12_readFormula 1 (some .int), Cond.fieldLink RX12 639 "IntegerHouseModel" "formulas" "I", Cond.fieldLink RX12 642 "IntegerHouseModel" "terms" "I", Cond.fieldLink RX12 648 "IntegerHouseModel" "state" "I", Cond.fieldLink RX12 184 "IntegerHouseModel" "rootOf" "[I", Cond.fieldLink RX12 660 "IntegerHouseModel" "current" "I", Cond.methodLink RX12 645 yX12_openFormula, Cond.instanceMethod yX12_openFormula]
def wsX12_read_r9 : List Cond := [Cond.selects RX12 yX12_openFormula yX12_openFormula, Cond.code yX12_openFormula cX12_openFormula 1 none, Cond.fieldLink RX12 187 "IntegerHouseModel" "openJoin" "[I", Cond.fieldLink RX12 190 "IntegerHouseModel" "openLeft" "[I", Cond.fieldLink RX12 193 "IntegerHouseModel" "openOr" "[I", Cond.fieldLink RX12 199 "IntegerHouseModel" "openAnd" "[I", Cond.fieldLink RX12 205 "IntegerHouseModel" "openNots" "[I", Cond.methodLink RX12 651 yX12_readOne, Cond.instanceMethod yX12_readOne, Cond.selects RX12 yX12_readOne yX12_readOne, Cond.code yX12_readOne cX12_readOne 5 none, Cond.fieldLink RX12 135 "IntegerHouseModel" "leafFrom" "[I", Cond.constantLong RX12 694 (8), Cond.constantLong RX12 696 (12), Cond.methodLink RX12 669 yX12_takeOpen, Cond.instanceMethod yX12_takeOpen, Cond.selects RX12 yX12_takeOpen yX12_takeOpen, Cond.code yX12_takeOpen cX12_takeOpen 1 none, Cond.methodLink RX12 636 yX12_take, Cond.instanceMethod yX12_take, Cond.selects RX12 yX12_take yX12_take, Cond.code yX12_take cX12_take 3 none, Cond.fieldLink RX12 102 "IntegerHouseModel" "textSize" "[I", Cond.fieldLink RX12 99 "IntegerHouseModel" "textBytes" "[B"]
def wsX12_read_r10 : List Cond := [Cond.methodLink RX12 675 yX12_newNode, Cond.instanceMethod yX12_newNode, Cond.selects RX12 yX12_newNode yX12_newNode, Cond.code yX12_newNode cX12_newNode 5 (some .int), Cond.fieldLink RX12 108 "IntegerHouseModel" "nodeKind" "[I", Cond.fieldLink RX12 111 "IntegerHouseModel" "nodeA" "[I", Cond.fieldLink RX12 114 "IntegerHouseModel" "nodeB" "[I", Cond.fieldLink RX12 117 "IntegerHouseModel" "nodeNext" "[I", Cond.methodLink RX12 679 yX12_endOne, Cond.instanceMethod yX12_endOne, Cond.selects RX12 yX12_endOne yX12_endOne, Cond.code yX12_endOne cX12_endOne 2 none, Cond.fieldLink RX12 202 "IntegerHouseModel" "openAndLast" "[I", Cond.methodLink RX12 688 yX12_beginLeaf, Cond.instanceMethod yX12_beginLeaf, Cond.selects RX12 yX12_beginLeaf yX12_beginLeaf, Cond.code yX12_beginLeaf cX12_beginLeaf 4 none, Cond.fieldLink RX12 123 "IntegerHouseModel" "leafOp" "[I", Cond.fieldLink RX12 126 "IntegerHouseModel" "leafNumber" "[I", Cond.fieldLink RX12 129 "IntegerHouseModel" "leafLeft" "[I", Cond.fieldLink RX12 141 "IntegerHouseModel" "leafTerms" "[I", Cond.methodLink RX12 663 yX12_openTerm, Cond.instanceMethod yX12_openTerm, Cond.selects RX12 yX12_openTerm yX12_openTerm]
def wsX12_read_r11 : List Cond := [Cond.code yX12_openTerm cX12_openTerm 2 none, Cond.fieldLink RX12 208 "IntegerHouseModel" "inKind" "[I", Cond.fieldLink RX12 211 "IntegerHouseModel" "inFirst" "[I", Cond.fieldLink RX12 217 "IntegerHouseModel" "inSign" "[I", Cond.fieldLink RX12 220 "IntegerHouseModel" "inTimes" "[J", Cond.fieldLink RX12 223 "IntegerHouseModel" "inOne" "[I", Cond.methodLink RX12 691 yX12_takeNumber, Cond.instanceMethod yX12_takeNumber, Cond.selects RX12 yX12_takeNumber yX12_takeNumber, Cond.code yX12_takeNumber cX12_takeNumber 1 none, Cond.constantLong RX12 701 (2), Cond.methodLink RX12 654 yX12_readAfter, Cond.instanceMethod yX12_readAfter, Cond.selects RX12 yX12_readAfter yX12_readAfter, Cond.code yX12_readAfter cX12_readAfter 4 none, Cond.fieldLink RX12 196 "IntegerHouseModel" "openOrLast" "[I", Cond.methodLink RX12 703 yX12_join, Cond.instanceMethod yX12_join, Cond.selects RX12 yX12_join yX12_join, Cond.code yX12_join cX12_join 8 (some .int), Cond.methodLink RX12 657 yX12_readInTerm, Cond.instanceMethod yX12_readInTerm, Cond.selects RX12 yX12_readInTerm yX12_readInTerm, Cond.code yX12_readInTerm cX12_readInTerm 1 none]
def wsX12_read_r12 : List Cond := [Cond.methodLink RX12 706 yX12_addPart, Cond.instanceMethod yX12_addPart, Cond.selects RX12 yX12_addPart yX12_addPart, Cond.code yX12_addPart cX12_addPart 3 none, Cond.fieldLink RX12 168 "IntegerHouseModel" "partSign" "[I", Cond.fieldLink RX12 171 "IntegerHouseModel" "partTimes" "[J", Cond.fieldLink RX12 175 "IntegerHouseModel" "partOf" "[I", Cond.fieldLink RX12 178 "IntegerHouseModel" "partNext" "[I", Cond.fieldLink RX12 214 "IntegerHouseModel" "inLast" "[I", Cond.methodLink RX12 709 yX12_readAtom, Cond.instanceMethod yX12_readAtom, Cond.selects RX12 yX12_readAtom yX12_readAtom, Cond.code yX12_readAtom cX12_readAtom 3 none, Cond.methodLink RX12 715 yX12_newTerm, Cond.instanceMethod yX12_newTerm, Cond.selects RX12 yX12_newTerm yX12_newTerm, Cond.code yX12_newTerm cX12_newTerm 5 (some .int), Cond.fieldLink RX12 156 "IntegerHouseModel" "termKind" "[I", Cond.fieldLink RX12 159 "IntegerHouseModel" "termA" "[I", Cond.fieldLink RX12 162 "IntegerHouseModel" "termB" "[I", Cond.methodLink RX12 712 yX12_endTerm, Cond.instanceMethod yX12_endTerm, Cond.selects RX12 yX12_endTerm yX12_endTerm, Cond.code yX12_endTerm cX12_endTerm 7 none]
def wsX12_read_r13 : List Cond := [Cond.methodLink RX12 718 yX12_endSide, Cond.instanceMethod yX12_endSide, Cond.selects RX12 yX12_endSide yX12_endSide, Cond.code yX12_endSide cX12_endSide 5 none, Cond.constantLong RX12 721 (11), Cond.constantLong RX12 723 (15), Cond.fieldLink RX12 132 "IntegerHouseModel" "leafRight" "[I", Cond.fieldLink RX12 138 "IntegerHouseModel" "leafTo" "[I", Cond.fieldLink RX12 144 "IntegerHouseModel" "leafTermsTo" "[I", Cond.methodLink RX12 857 yX12_build, Cond.instanceMethod yX12_build, Cond.selects RX12 yX12_build yX12_build, Cond.code yX12_build cX12_build 7 (some .int), Cond.fieldLink RX12 725 "IntegerHouseModel" "great" "Z", Cond.fieldLink RX12 747 "IntegerHouseModel" "crowded" "Z", Cond.fieldLink RX12 235 "IntegerHouseModel" "atomCount" "[I", Cond.fieldLink RX12 241 "IntegerHouseModel" "caseCount" "[I", Cond.fieldLink RX12 247 "IntegerHouseModel" "falseAt" "[I", Cond.fieldLink RX12 244 "IntegerHouseModel" "isPlain" "[Z", Cond.constantLong RX12 806 (64), Cond.fieldLink RX12 262 "IntegerHouseModel" "hereF" "[J", Cond.fieldLink RX12 226 "IntegerHouseModel" "atomF" "[I", Cond.fieldLink RX12 232 "IntegerHouseModel" "atomN" "[I", Cond.fieldLink RX12 229 "IntegerHouseModel" "atomC" "[I"]
def wsX12_read_r14 : List Cond := [Cond.methodLink RX12 808 yX12_casesOf, Cond.instanceMethod yX12_casesOf, Cond.selects RX12 yX12_casesOf yX12_casesOf, Cond.code yX12_casesOf cX12_casesOf 8 (some .long), Cond.methodLink RX12 800 yX12_ways, Cond.instanceMethod yX12_ways, Cond.selects RX12 yX12_ways yX12_ways, Cond.code yX12_ways cX12_ways 3 (some .int), Cond.methodLink RX12 812 yX12_makeCases, Cond.instanceMethod yX12_makeCases, Cond.selects RX12 yX12_makeCases yX12_makeCases, Cond.code yX12_makeCases cX12_makeCases 5 none, Cond.fieldLink RX12 259 "IntegerHouseModel" "chosen" "[I", Cond.fieldLink RX12 147 "IntegerHouseModel" "leafCase" "[I", Cond.fieldLink RX12 150 "IntegerHouseModel" "leafCases" "[I", Cond.methodLink RX12 803 yX12_makeCase, Cond.instanceMethod yX12_makeCase, Cond.selects RX12 yX12_makeCase yX12_makeCase, Cond.code yX12_makeCase cX12_makeCase 7 none, Cond.fieldLink RX12 238 "IntegerHouseModel" "caseLit" "[I", Cond.constantLong RX12 526 (-1), Cond.methodLink RX12 797 yX12_shape, Cond.instanceMethod yX12_shape, Cond.selects RX12 yX12_shape yX12_shape]
def wsX12_read_r15 : List Cond := [Cond.code yX12_shape cX12_shape 8 (some .int), Cond.fieldLink RX12 736 "IntegerHouseModel" "hereC" "J", Cond.fieldLink RX12 740 "IntegerHouseModel" "hereD" "J", Cond.methodLink RX12 771 yX12_clearHere, Cond.instanceMethod yX12_clearHere, Cond.selects RX12 yX12_clearHere yX12_clearHere, Cond.code yX12_clearHere cX12_clearHere 4 none, Cond.methodLink RX12 774 yX12_total, Cond.instanceMethod yX12_total, Cond.selects RX12 yX12_total yX12_total, Cond.code yX12_total cX12_total 22 none, Cond.methodLink RX12 783 yX12_add, Cond.instanceMethod yX12_add, Cond.selects RX12 yX12_add yX12_add, Cond.code yX12_add cX12_add 7 none, Cond.fieldLink RX12 256 "IntegerHouseModel" "formD" "[J", Cond.fieldLink RX12 250 "IntegerHouseModel" "formF" "[J", Cond.fieldLink RX12 253 "IntegerHouseModel" "formC" "[J", Cond.methodLink RX12 743 yX12_divisor, Cond.static yX12_divisor, Cond.code yX12_divisor cX12_divisor 10 (some .long), Cond.methodLink RX12 787 yX12_lookHere, Cond.instanceMethod yX12_lookHere, Cond.selects RX12 yX12_lookHere yX12_lookHere]
def wsX12_read_r16 : List Cond := [Cond.code yX12_lookHere cX12_lookHere 2 none, Cond.methodLink RX12 732 yX12_look, Cond.instanceMethod yX12_look, Cond.selects RX12 yX12_look yX12_look, Cond.code yX12_look cX12_look 3 none, Cond.constantLong RX12 728 (1000000), Cond.constantLong RX12 730 (-1000000), Cond.methodLink RX12 777 yX12_hereIs, Cond.instanceMethod yX12_hereIs, Cond.selects RX12 yX12_hereIs yX12_hereIs, Cond.code yX12_hereIs cX12_hereIs 4 none, Cond.methodLink RX12 780 yX12_lineOf, Cond.instanceMethod yX12_lineOf, Cond.selects RX12 yX12_lineOf yX12_lineOf, Cond.code yX12_lineOf cX12_lineOf 7 (some .int), Cond.constantLong RX12 750 (20), Cond.constantLong RX12 752 (-20), Cond.constantLong RX12 754 (99999), Cond.constantLong RX12 756 (-99999), Cond.methodLink RX12 758 yX12_isFlat, Cond.instanceMethod yX12_isFlat, Cond.selects RX12 yX12_isFlat yX12_isFlat, Cond.code yX12_isFlat cX12_isFlat 1 (some .boolean), Cond.methodLink RX12 761 yX12_isFalseHere]
def wsX12_read_r17 : List Cond := [Cond.instanceMethod yX12_isFalseHere, Cond.selects RX12 yX12_isFalseHere yX12_isFalseHere, Cond.code yX12_isFalseHere cX12_isFalseHere 1 none, Cond.methodLink RX12 764 yX12_atomOf, Cond.instanceMethod yX12_atomOf, Cond.selects RX12 yX12_atomOf yX12_atomOf, Cond.code yX12_atomOf cX12_atomOf 8 (some .int), Cond.methodLink RX12 790 yX12_divides, Cond.instanceMethod yX12_divides, Cond.selects RX12 yX12_divides yX12_divides, Cond.code yX12_divides cX12_divides 6 (some .int), Cond.methodLink RX12 768 yX12_rest, Cond.static yX12_rest, Cond.code yX12_rest cX12_rest 6 (some .long), Cond.methodLink RX12 792 yX12_keep, Cond.instanceMethod yX12_keep, Cond.selects RX12 yX12_keep yX12_keep, Cond.code yX12_keep cX12_keep 3 none, Cond.methodLink RX12 795 yX12_not, Cond.static yX12_not, Cond.code yX12_not cX12_not 1 (some .int), Cond.methodLink RX12 860 yX12_told, Cond.instanceMethod yX12_told, Cond.selects RX12 yX12_told yX12_told]
def wsX12_read_r18 : List Cond := [Cond.code yX12_told cX12_told 1 (some .int), Cond.fieldLink RX12 836 "IntegerHouseModel" "latestFault" "I", Cond.methodLink RX12 862 yX12_no, Cond.instanceMethod yX12_no, Cond.selects RX12 yX12_no yX12_no, Cond.code yX12_no cX12_no 2 (some .int), Cond.methodLink RX12 865 yX12_full, Cond.instanceMethod yX12_full, Cond.selects RX12 yX12_full yX12_full, Cond.code yX12_full cX12_full 2 (some .boolean), Cond.fieldLink RX12 475 "IntegerHouseModel" "waitBytes" "I", Cond.fieldLink RX12 478 "IntegerHouseModel" "used" "I", Cond.methodLink RX12 827 yX12_turn, Cond.instanceMethod yX12_turn, Cond.selects RX12 yX12_turn yX12_turn, Cond.code yX12_turn cX12_turn 4 (some .int), Cond.methodLink RX12 830 yX12_layer, Cond.instanceMethod yX12_layer, Cond.selects RX12 yX12_layer yX12_layer, Cond.code yX12_layer cX12_layer 2 (some .int), Cond.fieldLink RX12 271 "IntegerHouseModel" "layerVariables" "[I", Cond.fieldLink RX12 274 "IntegerHouseModel" "layerClaims" "[I", Cond.fieldLink RX12 277 "IntegerHouseModel" "layerOn" "[Z", Cond.methodLink RX12 833 yX12_leave]
def wsX12_read_r19 : List Cond := [Cond.instanceMethod yX12_leave, Cond.selects RX12 yX12_leave yX12_leave, Cond.code yX12_leave cX12_leave 2 (some .int), Cond.methodLink RX12 481 yX12_note, Cond.instanceMethod yX12_note, Cond.selects RX12 yX12_note yX12_note, Cond.code yX12_note cX12_note 2 none, Cond.fieldLink RX12 25 "IntegerHouseModel" "waits" "[B", Cond.methodLink RX12 501 yX12_noteInt, Cond.instanceMethod yX12_noteInt, Cond.selects RX12 yX12_noteInt yX12_noteInt, Cond.code yX12_noteInt cX12_noteInt 3 none]
def wsX12_read : List Cond := .code yX12_read cX12_read 1 (some .int) :: ((wsX12_read_r1 ++ (wsX12_read_r2 ++ (wsX12_read_r3 ++ (wsX12_read_r4 ++ (wsX12_read_r5 ++ (wsX12_read_r6 ++ (wsX12_read_r7 ++ (wsX12_read_r8 ++ (wsX12_read_r9 ++ (wsX12_read_r10 ++ (wsX12_read_r11 ++ (wsX12_read_r12 ++ (wsX12_read_r13 ++ (wsX12_read_r14 ++ (wsX12_read_r15 ++ (wsX12_read_r16 ++ (wsX12_read_r17 ++ (wsX12_read_r18 ++ wsX12_read_r19)))))))))))))))))) ++ wsX120)
def wsX12_fault : List Cond := .code yX12_fault cX12_fault 1 (some .int) :: ([.fieldLink RX12 3 "IntegerHouseModel" "thrown" "I", .fieldLink RX12 836 "IntegerHouseModel" "latestFault" "I"] ++ wsX120)
def wsX12_count : List Cond := .code yX12_count cX12_count 4 (some .int) :: ([.fieldLink RX12 3 "IntegerHouseModel" "thrown" "I", .fieldLink RX12 485 "IntegerHouseModel" "taped" "I", .fieldLink RX12 488 "IntegerHouseModel" "down" "Z", .fieldLink RX12 818 "IntegerHouseModel" "claims" "I", .fieldLink RX12 265 "IntegerHouseModel" "isOn" "[Z", .fieldLink RX12 815 "IntegerHouseModel" "variables" "I", .fieldLink RX12 821 "IntegerHouseModel" "layers" "I", .fieldLink RX12 475 "IntegerHouseModel" "waitBytes" "I", .fieldLink RX12 478 "IntegerHouseModel" "used" "I", .fieldLink RX12 498 "IntegerHouseModel" "done" "I"] ++ wsX120)
theorem dX1_hasRoom_0 : decode cX1_hasRoom 0 = .ok (.aload_n 0, 1) := by decide +kernel
theorem dX1_hasRoom_1 : decode cX1_hasRoom 1 = .ok (.getfield 40, 3) := by decide +kernel
theorem dX1_hasRoom_4 : decode cX1_hasRoom 4 = .ok (.iload_n 1, 1) := by decide +kernel
theorem dX1_hasRoom_5 : decode cX1_hasRoom 5 = .ok (.iadd, 1) := by decide +kernel
theorem dX1_hasRoom_6 : decode cX1_hasRoom 6 = .ok (.sipush 248, 3) := by decide +kernel
theorem dX1_hasRoom_9 : decode cX1_hasRoom 9 = .ok (.iadd, 1) := by decide +kernel
theorem dX1_hasRoom_10 : decode cX1_hasRoom 10 = .ok (.iconst 1, 1) := by decide +kernel
theorem dX1_hasRoom_11 : decode cX1_hasRoom 11 = .ok (.isub, 1) := by decide +kernel
theorem dX1_hasRoom_12 : decode cX1_hasRoom 12 = .ok (.sipush 248, 3) := by decide +kernel
theorem dX1_hasRoom_15 : decode cX1_hasRoom 15 = .ok (.idiv, 1) := by decide +kernel
theorem dX1_hasRoom_16 : decode cX1_hasRoom 16 = .ok (.bipush 100, 2) := by decide +kernel
theorem dX1_hasRoom_18 : decode cX1_hasRoom 18 = .ok (.aload_n 0, 1) := by decide +kernel
theorem dX1_hasRoom_19 : decode cX1_hasRoom 19 = .ok (.getfield 43, 3) := by decide +kernel
theorem dX1_hasRoom_22 : decode cX1_hasRoom 22 = .ok (.isub, 1) := by decide +kernel
theorem dX1_hasRoom_23 : decode cX1_hasRoom 23 = .ok (.if_icmp .gt 7, 3) := by decide +kernel
theorem dX1_hasRoom_26 : decode cX1_hasRoom 26 = .ok (.iconst 1, 1) := by decide +kernel
theorem dX1_hasRoom_27 : decode cX1_hasRoom 27 = .ok (.goto 4, 3) := by decide +kernel
theorem dX1_hasRoom_31 : decode cX1_hasRoom 31 = .ok (.ireturn, 1) := by decide +kernel
theorem dX1_await_0 : decode cX1_await 0 = .ok (.aload_n 0, 1) := by decide +kernel
theorem dX1_await_1 : decode cX1_await 1 = .ok (.getfield 40, 3) := by decide +kernel
theorem dX1_await_4 : decode cX1_await 4 = .ok (.ifCond .lt 34, 3) := by decide +kernel
theorem dX1_await_7 : decode cX1_await 7 = .ok (.aload_n 0, 1) := by decide +kernel
theorem dX1_await_8 : decode cX1_await 8 = .ok (.getfield 40, 3) := by decide +kernel
theorem dX1_await_11 : decode cX1_await 11 = .ok (.sipush 24800, 3) := by decide +kernel
theorem dX1_await_14 : decode cX1_await 14 = .ok (.if_icmp .ge 24, 3) := by decide +kernel
theorem dX1_await_17 : decode cX1_await 17 = .ok (.aload_n 0, 1) := by decide +kernel
theorem dX1_await_18 : decode cX1_await 18 = .ok (.getfield 22, 3) := by decide +kernel
theorem dX1_await_21 : decode cX1_await 21 = .ok (.aload_n 0, 1) := by decide +kernel
theorem dX1_await_22 : decode cX1_await 22 = .ok (.getfield 40, 3) := by decide +kernel
theorem dX1_await_25 : decode cX1_await 25 = .ok (.iload_n 1, 1) := by decide +kernel
theorem dX1_await_26 : decode cX1_await 26 = .ok (.i2b, 1) := by decide +kernel
theorem dX1_await_27 : decode cX1_await 27 = .ok (.bastore, 1) := by decide +kernel
theorem dX1_await_28 : decode cX1_await 28 = .ok (.aload_n 0, 1) := by decide +kernel
theorem dX1_await_29 : decode cX1_await 29 = .ok (.dup, 1) := by decide +kernel
theorem dX1_await_30 : decode cX1_await 30 = .ok (.getfield 40, 3) := by decide +kernel
theorem dX1_await_33 : decode cX1_await 33 = .ok (.iconst 1, 1) := by decide +kernel
theorem dX1_await_34 : decode cX1_await 34 = .ok (.iadd, 1) := by decide +kernel
theorem dX1_await_35 : decode cX1_await 35 = .ok (.putfield 40, 3) := by decide +kernel
theorem dX1_await_38 : decode cX1_await 38 = .ok (.return_, 1) := by decide +kernel
set_option maxRecDepth 20000 in
theorem ggX1_recordRead_X1_await : GoodIn wsX1_recordRead wsX1_await := goodIn_r _ [5, 6, 7, 8, 9, 10, 11, 12, 13, 14, 15, 16] (by decide +kernel) (by decide +kernel)
set_option maxRecDepth 20000 in
theorem gX1_recordRead_X1_await : GoodIn wsX1_recordRead (wsV RX1 50 RX1 yX1_await wsX1_await) := goodIn_app (goodIn_of _ (by decide +kernel)) ggX1_recordRead_X1_await
theorem dX1_recordRead_0 : decode cX1_recordRead 0 = .ok (.aload_n 0, 1) := by decide +kernel
theorem dX1_recordRead_1 : decode cX1_recordRead 1 = .ok (.iconst 1, 1) := by decide +kernel
theorem dX1_recordRead_2 : decode cX1_recordRead 2 = .ok (.invokevirtual 50, 3) := by decide +kernel
theorem dX1_recordRead_5 : decode cX1_recordRead 5 = .ok (.aload_n 0, 1) := by decide +kernel
theorem dX1_recordRead_6 : decode cX1_recordRead 6 = .ok (.iload_n 2, 1) := by decide +kernel
theorem dX1_recordRead_7 : decode cX1_recordRead 7 = .ok (.bipush 8, 2) := by decide +kernel
theorem dX1_recordRead_9 : decode cX1_recordRead 9 = .ok (.ishr, 1) := by decide +kernel
theorem dX1_recordRead_10 : decode cX1_recordRead 10 = .ok (.invokevirtual 50, 3) := by decide +kernel
theorem dX1_recordRead_13 : decode cX1_recordRead 13 = .ok (.aload_n 0, 1) := by decide +kernel
theorem dX1_recordRead_14 : decode cX1_recordRead 14 = .ok (.iload_n 2, 1) := by decide +kernel
theorem dX1_recordRead_15 : decode cX1_recordRead 15 = .ok (.invokevirtual 50, 3) := by decide +kernel
theorem dX1_recordRead_18 : decode cX1_recordRead 18 = .ok (.iconst 0, 1) := by decide +kernel
theorem dX1_recordRead_19 : decode cX1_recordRead 19 = .ok (.istore_n 3, 1) := by decide +kernel
theorem dX1_recordRead_20 : decode cX1_recordRead 20 = .ok (.iload_n 3, 1) := by decide +kernel
theorem dX1_recordRead_21 : decode cX1_recordRead 21 = .ok (.iload_n 2, 1) := by decide +kernel
theorem dX1_recordRead_22 : decode cX1_recordRead 22 = .ok (.if_icmp .ge 22, 3) := by decide +kernel
theorem dX1_recordRead_44 : decode cX1_recordRead 44 = .ok (.return_, 1) := by decide +kernel
theorem dX2_isClaim_0 : decode cX2_isClaim 0 = .ok (.iload_n 1, 1) := by decide +kernel
theorem dX2_isClaim_1 : decode cX2_isClaim 1 = .ok (.ifCond .lt 15, 3) := by decide +kernel
theorem dX2_isClaim_4 : decode cX2_isClaim 4 = .ok (.iload_n 1, 1) := by decide +kernel
theorem dX2_isClaim_5 : decode cX2_isClaim 5 = .ok (.aload_n 0, 1) := by decide +kernel
theorem dX2_isClaim_6 : decode cX2_isClaim 6 = .ok (.getfield 55, 3) := by decide +kernel
theorem dX2_isClaim_9 : decode cX2_isClaim 9 = .ok (.if_icmp .ge 7, 3) := by decide +kernel
theorem dX2_isClaim_16 : decode cX2_isClaim 16 = .ok (.iconst 0, 1) := by decide +kernel
theorem dX2_isClaim_17 : decode cX2_isClaim 17 = .ok (.ireturn, 1) := by decide +kernel
theorem dX2_turnOnFrom_0 : decode cX2_turnOnFrom 0 = .ok (.aload_n 0, 1) := by decide +kernel
theorem dX2_turnOnFrom_1 : decode cX2_turnOnFrom 1 = .ok (.dup, 1) := by decide +kernel
theorem dX2_turnOnFrom_2 : decode cX2_turnOnFrom 2 = .ok (.getfield 61, 3) := by decide +kernel
theorem dX2_turnOnFrom_5 : decode cX2_turnOnFrom 5 = .ok (.iconst 1, 1) := by decide +kernel
theorem dX2_turnOnFrom_6 : decode cX2_turnOnFrom 6 = .ok (.aload_n 0, 1) := by decide +kernel
theorem dX2_turnOnFrom_7 : decode cX2_turnOnFrom 7 = .ok (.getfield 55, 3) := by decide +kernel
theorem dX2_turnOnFrom_10 : decode cX2_turnOnFrom 10 = .ok (.ishl, 1) := by decide +kernel
theorem dX2_turnOnFrom_11 : decode cX2_turnOnFrom 11 = .ok (.iconst 1, 1) := by decide +kernel
theorem dX2_turnOnFrom_12 : decode cX2_turnOnFrom 12 = .ok (.iload_n 1, 1) := by decide +kernel
theorem dX2_turnOnFrom_13 : decode cX2_turnOnFrom 13 = .ok (.ishl, 1) := by decide +kernel
theorem dX2_turnOnFrom_14 : decode cX2_turnOnFrom 14 = .ok (.isub, 1) := by decide +kernel
theorem dX2_turnOnFrom_15 : decode cX2_turnOnFrom 15 = .ok (.ior, 1) := by decide +kernel
theorem dX2_turnOnFrom_16 : decode cX2_turnOnFrom 16 = .ok (.putfield 61, 3) := by decide +kernel
theorem dX2_turnOnFrom_19 : decode cX2_turnOnFrom 19 = .ok (.return_, 1) := by decide +kernel
set_option maxRecDepth 20000 in
theorem ggX3_scan_X3_behindBlanks : GoodIn wsX3_scan wsX3_behindBlanks := goodIn_r _ [11, 3, 12, 13, 14, 10, 15, 2, 1, 78, 79, 80, 81, 82, 83, 84, 85, 86] (by decide +kernel) (by decide +kernel)
set_option maxRecDepth 20000 in
theorem gX3_scan_X3_behindBlanks : GoodIn wsX3_scan (wsV RX3 59 RX3 yX3_behindBlanks wsX3_behindBlanks) := goodIn_app (goodIn_of _ (by decide +kernel)) ggX3_scan_X3_behindBlanks
theorem dX3_scan_0 : decode cX3_scan 0 = .ok (.aload_n 0, 1) := by decide +kernel
theorem dX3_scan_1 : decode cX3_scan 1 = .ok (.aload_n 1, 1) := by decide +kernel
theorem dX3_scan_2 : decode cX3_scan 2 = .ok (.putfield 28, 3) := by decide +kernel
theorem dX3_scan_5 : decode cX3_scan 5 = .ok (.aload_n 0, 1) := by decide +kernel
theorem dX3_scan_6 : decode cX3_scan 6 = .ok (.iload_n 2, 1) := by decide +kernel
theorem dX3_scan_7 : decode cX3_scan 7 = .ok (.putfield 55, 3) := by decide +kernel
theorem dX3_scan_10 : decode cX3_scan 10 = .ok (.aload_n 0, 1) := by decide +kernel
theorem dX3_scan_11 : decode cX3_scan 11 = .ok (.iload_n 2, 1) := by decide +kernel
theorem dX3_scan_12 : decode cX3_scan 12 = .ok (.iload_n 3, 1) := by decide +kernel
theorem dX3_scan_13 : decode cX3_scan 13 = .ok (.iadd, 1) := by decide +kernel
theorem dX3_scan_14 : decode cX3_scan 14 = .ok (.putfield 52, 3) := by decide +kernel
theorem dX3_scan_17 : decode cX3_scan 17 = .ok (.aload_n 0, 1) := by decide +kernel
theorem dX3_scan_18 : decode cX3_scan 18 = .ok (.iconst 0, 1) := by decide +kernel
theorem dX3_scan_19 : decode cX3_scan 19 = .ok (.putfield 48, 3) := by decide +kernel
theorem dX3_scan_22 : decode cX3_scan 22 = .ok (.aload_n 0, 1) := by decide +kernel
theorem dX3_scan_23 : decode cX3_scan 23 = .ok (.iload_n 2, 1) := by decide +kernel
theorem dX3_scan_24 : decode cX3_scan 24 = .ok (.invokevirtual 59, 3) := by decide +kernel
theorem dX3_scan_27 : decode cX3_scan 27 = .ok (.istore 5, 2) := by decide +kernel
theorem dX3_scan_29 : decode cX3_scan 29 = .ok (.iload 4, 2) := by decide +kernel
theorem dX3_scan_31 : decode cX3_scan 31 = .ok (.ifCond .eq 8, 3) := by decide +kernel
theorem dX3_scan_39 : decode cX3_scan 39 = .ok (.bipush 14, 2) := by decide +kernel
theorem dX3_scan_41 : decode cX3_scan 41 = .ok (.istore 6, 2) := by decide +kernel
theorem dX3_scan_43 : decode cX3_scan 43 = .ok (.iconst 0, 1) := by decide +kernel
theorem dX3_scan_44 : decode cX3_scan 44 = .ok (.istore 7, 2) := by decide +kernel
theorem dX3_scan_46 : decode cX3_scan 46 = .ok (.iload 7, 2) := by decide +kernel
theorem dX3_scan_48 : decode cX3_scan 48 = .ok (.sipush 2000, 3) := by decide +kernel
theorem dX3_scan_51 : decode cX3_scan 51 = .ok (.if_icmp .ge 128, 3) := by decide +kernel
theorem dX3_scan_54 : decode cX3_scan 54 = .ok (.iload 5, 2) := by decide +kernel
theorem dX3_scan_56 : decode cX3_scan 56 = .ok (.aload_n 0, 1) := by decide +kernel
theorem dX3_scan_57 : decode cX3_scan 57 = .ok (.getfield 52, 3) := by decide +kernel
theorem dX3_scan_60 : decode cX3_scan 60 = .ok (.if_icmp .ge 119, 3) := by decide +kernel
theorem dX3_scan_179 : decode cX3_scan 179 = .ok (.aload_n 0, 1) := by decide +kernel
theorem dX3_scan_180 : decode cX3_scan 180 = .ok (.getfield 15, 3) := by decide +kernel
theorem dX3_scan_183 : decode cX3_scan 183 = .ok (.aload_n 0, 1) := by decide +kernel
theorem dX3_scan_184 : decode cX3_scan 184 = .ok (.getfield 48, 3) := by decide +kernel
theorem dX3_scan_187 : decode cX3_scan 187 = .ok (.iconst 0, 1) := by decide +kernel
theorem dX3_scan_188 : decode cX3_scan 188 = .ok (.iastore, 1) := by decide +kernel
theorem dX3_scan_189 : decode cX3_scan 189 = .ok (.aload_n 0, 1) := by decide +kernel
theorem dX3_scan_190 : decode cX3_scan 190 = .ok (.getfield 19, 3) := by decide +kernel
theorem dX3_scan_193 : decode cX3_scan 193 = .ok (.aload_n 0, 1) := by decide +kernel
theorem dX3_scan_194 : decode cX3_scan 194 = .ok (.getfield 48, 3) := by decide +kernel
theorem dX3_scan_197 : decode cX3_scan 197 = .ok (.iload_n 3, 1) := by decide +kernel
theorem dX3_scan_198 : decode cX3_scan 198 = .ok (.iastore, 1) := by decide +kernel
theorem dX3_scan_199 : decode cX3_scan 199 = .ok (.return_, 1) := by decide +kernel
theorem dX3_behindBlanks_0 : decode cX3_behindBlanks 0 = .ok (.iload_n 1, 1) := by decide +kernel
theorem dX3_behindBlanks_1 : decode cX3_behindBlanks 1 = .ok (.istore_n 2, 1) := by decide +kernel
theorem dX3_behindBlanks_2 : decode cX3_behindBlanks 2 = .ok (.iload_n 2, 1) := by decide +kernel
theorem dX3_behindBlanks_3 : decode cX3_behindBlanks 3 = .ok (.aload_n 0, 1) := by decide +kernel
theorem dX3_behindBlanks_4 : decode cX3_behindBlanks 4 = .ok (.getfield 52, 3) := by decide +kernel
theorem dX3_behindBlanks_7 : decode cX3_behindBlanks 7 = .ok (.if_icmp .ge 29, 3) := by decide +kernel
theorem dX3_behindBlanks_36 : decode cX3_behindBlanks 36 = .ok (.iload_n 2, 1) := by decide +kernel
theorem dX3_behindBlanks_37 : decode cX3_behindBlanks 37 = .ok (.ireturn, 1) := by decide +kernel
set_option maxRecDepth 20000 in
theorem ggX8_readText_X8_begin : GoodIn wsX8_readText wsX8_begin := goodIn_r _ [9, 10, 3, 11, 12, 13, 14, 15, 16, 17, 18, 19, 20, 21, 22, 23, 24, 25, 26, 27, 28, 29, 30, 31, 32, 33, 34, 35, 36, 37, 38, 39, 40, 41, 42, 43, 44, 45, 46, 47, 48, 49, 50, 51, 52, 53, 54, 55, 56, 57, 58, 59, 60, 61, 62, 63, 64, 65, 66, 67, 68, 69, 70, 71, 72, 73, 74, 75, 76, 77, 78, 79, 80, 81, 82, 83, 84, 85, 86, 87, 88, 89, 90, 91, 92, 93, 94, 95, 96, 97, 8, 98, 2, 99, 417, 418, 419, 420, 421, 422, 423, 424, 425, 426, 427, 428, 429, 430, 431, 448, 449, 450, 451, 452, 453, 454, 455, 456] (by decide +kernel) (by decide +kernel)
set_option maxRecDepth 20000 in
theorem gX8_readText_X8_begin : GoodIn wsX8_readText (wsV RX8 23 RX8 yX8_begin wsX8_begin) := goodIn_app (goodIn_of _ (by decide +kernel)) ggX8_readText_X8_begin
set_option maxRecDepth 20000 in
theorem ggX8_readText_X8_expectEnd : GoodIn wsX8_readText wsX8_expectEnd := goodIn_r _ [239, 2, 112, 113, 114, 8, 115, 3, 99, 11, 417, 418, 419, 420, 421, 422, 423, 424, 425, 426, 427, 428, 429, 430, 431] (by decide +kernel) (by decide +kernel)
set_option maxRecDepth 20000 in
theorem gX8_readText_X8_expectEnd : GoodIn wsX8_readText (wsV RX8 59 RX8 yX8_expectEnd wsX8_expectEnd) := goodIn_app (goodIn_of _ (by decide +kernel)) ggX8_readText_X8_expectEnd
theorem dX8_readText_0 : decode cX8_readText 0 = .ok (.aload_n 0, 1) := by decide +kernel
theorem dX8_readText_1 : decode cX8_readText 1 = .ok (.aload_n 1, 1) := by decide +kernel
theorem dX8_readText_2 : decode cX8_readText 2 = .ok (.iload_n 2, 1) := by decide +kernel
theorem dX8_readText_3 : decode cX8_readText 3 = .ok (.iload_n 3, 1) := by decide +kernel
theorem dX8_readText_4 : decode cX8_readText 4 = .ok (.invokevirtual 23, 3) := by decide +kernel
theorem dX8_readText_7 : decode cX8_readText 7 = .ok (.aload_n 0, 1) := by decide +kernel
theorem dX8_readText_8 : decode cX8_readText 8 = .ok (.getfield 15, 3) := by decide +kernel
theorem dX8_readText_11 : decode cX8_readText 11 = .ok (.getfield 27, 3) := by decide +kernel
theorem dX8_readText_14 : decode cX8_readText 14 = .ok (.istore 4, 2) := by decide +kernel
theorem dX8_readText_16 : decode cX8_readText 16 = .ok (.aload_n 0, 1) := by decide +kernel
theorem dX8_readText_17 : decode cX8_readText 17 = .ok (.getfield 15, 3) := by decide +kernel
theorem dX8_readText_20 : decode cX8_readText 20 = .ok (.getfield 33, 3) := by decide +kernel
theorem dX8_readText_23 : decode cX8_readText 23 = .ok (.istore 5, 2) := by decide +kernel
theorem dX8_readText_25 : decode cX8_readText 25 = .ok (.aload_n 0, 1) := by decide +kernel
theorem dX8_readText_26 : decode cX8_readText 26 = .ok (.getfield 15, 3) := by decide +kernel
theorem dX8_readText_29 : decode cX8_readText 29 = .ok (.getfield 36, 3) := by decide +kernel
theorem dX8_readText_32 : decode cX8_readText 32 = .ok (.istore 6, 2) := by decide +kernel
theorem dX8_readText_34 : decode cX8_readText 34 = .ok (.iconst 0, 1) := by decide +kernel
theorem dX8_readText_35 : decode cX8_readText 35 = .ok (.istore 7, 2) := by decide +kernel
theorem dX8_readText_37 : decode cX8_readText 37 = .ok (.iload 7, 2) := by decide +kernel
theorem dX8_readText_39 : decode cX8_readText 39 = .ok (.sipush 2000, 3) := by decide +kernel
theorem dX8_readText_42 : decode cX8_readText 42 = .ok (.if_icmp .ge 71, 3) := by decide +kernel
theorem dX8_readText_45 : decode cX8_readText 45 = .ok (.aload_n 0, 1) := by decide +kernel
theorem dX8_readText_46 : decode cX8_readText 46 = .ok (.getfield 39, 3) := by decide +kernel
theorem dX8_readText_49 : decode cX8_readText 49 = .ok (.bipush 21, 2) := by decide +kernel
theorem dX8_readText_51 : decode cX8_readText 51 = .ok (.if_icmp .eq 12, 3) := by decide +kernel
theorem dX8_readText_54 : decode cX8_readText 54 = .ok (.aload_n 0, 1) := by decide +kernel
theorem dX8_readText_55 : decode cX8_readText 55 = .ok (.getfield 39, 3) := by decide +kernel
theorem dX8_readText_58 : decode cX8_readText 58 = .ok (.bipush 22, 2) := by decide +kernel
theorem dX8_readText_60 : decode cX8_readText 60 = .ok (.if_icmp .ne 53, 3) := by decide +kernel
theorem dX8_readText_113 : decode cX8_readText 113 = .ok (.aload_n 0, 1) := by decide +kernel
theorem dX8_readText_114 : decode cX8_readText 114 = .ok (.invokevirtual 59, 3) := by decide +kernel
theorem dX8_readText_117 : decode cX8_readText 117 = .ok (.iload 5, 2) := by decide +kernel
theorem dX8_readText_119 : decode cX8_readText 119 = .ok (.istore 7, 2) := by decide +kernel
theorem dX8_readText_121 : decode cX8_readText 121 = .ok (.iload 7, 2) := by decide +kernel
theorem dX8_readText_123 : decode cX8_readText 123 = .ok (.aload_n 0, 1) := by decide +kernel
theorem dX8_readText_124 : decode cX8_readText 124 = .ok (.getfield 15, 3) := by decide +kernel
theorem dX8_readText_127 : decode cX8_readText 127 = .ok (.getfield 33, 3) := by decide +kernel
theorem dX8_readText_130 : decode cX8_readText 130 = .ok (.if_icmp .ge 31, 3) := by decide +kernel
theorem dX8_readText_161 : decode cX8_readText 161 = .ok (.aload_n 0, 1) := by decide +kernel
theorem dX8_readText_162 : decode cX8_readText 162 = .ok (.getfield 62, 3) := by decide +kernel
theorem dX8_readText_165 : decode cX8_readText 165 = .ok (.ifCond .eq 16, 3) := by decide +kernel
theorem dX8_readText_181 : decode cX8_readText 181 = .ok (.aload_n 0, 1) := by decide +kernel
theorem dX8_readText_182 : decode cX8_readText 182 = .ok (.getfield 62, 3) := by decide +kernel
theorem dX8_readText_185 : decode cX8_readText 185 = .ok (.ifCond .ne 7, 3) := by decide +kernel
theorem dX8_readText_188 : decode cX8_readText 188 = .ok (.iconst 1, 1) := by decide +kernel
theorem dX8_readText_189 : decode cX8_readText 189 = .ok (.goto 4, 3) := by decide +kernel
theorem dX8_readText_193 : decode cX8_readText 193 = .ok (.ireturn, 1) := by decide +kernel
set_option maxRecDepth 20000 in
theorem ggX8_begin_X3_scan : GoodIn wsX8_begin wsX3_scan := goodIn_r _ [10, 11, 12, 13, 14, 15, 16, 17, 18, 19, 9, 20, 21, 22, 23, 24, 25, 26, 27, 28, 29, 30, 31, 32, 33, 34, 35, 36, 37, 38, 39, 40, 41, 42, 43, 44, 45, 46, 47, 48, 49, 50, 51, 52, 53, 54, 55, 56, 57, 58, 59, 60, 61, 62, 63, 64, 65, 66, 67, 68, 69, 70, 71, 72, 73, 74, 75, 76, 77, 78, 79, 80, 81, 82, 83, 84, 85, 86, 109, 110, 111, 112, 113, 114, 115, 116, 117] (by decide +kernel) (by decide +kernel)
set_option maxRecDepth 20000 in
theorem gX8_begin_X3_scan : GoodIn wsX8_begin (wsV RX8 119 RX3 yX3_scan wsX3_scan) := goodIn_app (goodIn_of _ (by decide +kernel)) ggX8_begin_X3_scan
set_option maxRecDepth 20000 in
theorem ggX8_begin_X8_next : GoodIn wsX8_begin wsX8_next := goodIn_r _ [91, 5, 1, 92, 93, 94, 95, 96, 97, 98, 99, 100, 101, 102, 103, 104, 105, 106, 107, 108, 109, 110, 111, 112, 113, 114, 115, 116, 117] (by decide +kernel) (by decide +kernel)
set_option maxRecDepth 20000 in
theorem gX8_begin_X8_next : GoodIn wsX8_begin (wsV RX8 98 RX8 yX8_next wsX8_next) := goodIn_app (goodIn_of _ (by decide +kernel)) ggX8_begin_X8_next
theorem dX8_begin_0 : decode cX8_begin 0 = .ok (.aload_n 0, 1) := by decide +kernel
theorem dX8_begin_1 : decode cX8_begin 1 = .ok (.getfield 9, 3) := by decide +kernel
theorem dX8_begin_4 : decode cX8_begin 4 = .ok (.aload_n 1, 1) := by decide +kernel
theorem dX8_begin_5 : decode cX8_begin 5 = .ok (.iload_n 2, 1) := by decide +kernel
theorem dX8_begin_6 : decode cX8_begin 6 = .ok (.iload_n 3, 1) := by decide +kernel
theorem dX8_begin_7 : decode cX8_begin 7 = .ok (.iconst 0, 1) := by decide +kernel
theorem dX8_begin_8 : decode cX8_begin 8 = .ok (.invokevirtual 119, 3) := by decide +kernel
theorem dX8_begin_11 : decode cX8_begin 11 = .ok (.aload_n 0, 1) := by decide +kernel
theorem dX8_begin_12 : decode cX8_begin 12 = .ok (.iconst 0, 1) := by decide +kernel
theorem dX8_begin_13 : decode cX8_begin 13 = .ok (.putfield 62, 3) := by decide +kernel
theorem dX8_begin_16 : decode cX8_begin 16 = .ok (.aload_n 0, 1) := by decide +kernel
theorem dX8_begin_17 : decode cX8_begin 17 = .ok (.iconst 0, 1) := by decide +kernel
theorem dX8_begin_18 : decode cX8_begin 18 = .ok (.putfield 123, 3) := by decide +kernel
theorem dX8_begin_21 : decode cX8_begin 21 = .ok (.aload_n 0, 1) := by decide +kernel
theorem dX8_begin_22 : decode cX8_begin 22 = .ok (.iconst 0, 1) := by decide +kernel
theorem dX8_begin_23 : decode cX8_begin 23 = .ok (.putfield 101, 3) := by decide +kernel
theorem dX8_begin_26 : decode cX8_begin 26 = .ok (.aload_n 0, 1) := by decide +kernel
theorem dX8_begin_27 : decode cX8_begin 27 = .ok (.iconst (-1), 1) := by decide +kernel
theorem dX8_begin_28 : decode cX8_begin 28 = .ok (.putfield 79, 3) := by decide +kernel
theorem dX8_begin_31 : decode cX8_begin 31 = .ok (.aload_n 0, 1) := by decide +kernel
theorem dX8_begin_32 : decode cX8_begin 32 = .ok (.invokevirtual 98, 3) := by decide +kernel
theorem dX8_begin_35 : decode cX8_begin 35 = .ok (.return_, 1) := by decide +kernel
theorem dX8_next_0 : decode cX8_next 0 = .ok (.aload_n 0, 1) := by decide +kernel
theorem dX8_next_1 : decode cX8_next 1 = .ok (.aload_n 0, 1) := by decide +kernel
theorem dX8_next_2 : decode cX8_next 2 = .ok (.getfield 79, 3) := by decide +kernel
theorem dX8_next_5 : decode cX8_next 5 = .ok (.aload_n 0, 1) := by decide +kernel
theorem dX8_next_6 : decode cX8_next 6 = .ok (.getfield 9, 3) := by decide +kernel
theorem dX8_next_9 : decode cX8_next 9 = .ok (.getfield 126, 3) := by decide +kernel
theorem dX8_next_12 : decode cX8_next 12 = .ok (.if_icmp .ge 12, 3) := by decide +kernel
theorem dX8_next_15 : decode cX8_next 15 = .ok (.aload_n 0, 1) := by decide +kernel
theorem dX8_next_16 : decode cX8_next 16 = .ok (.getfield 79, 3) := by decide +kernel
theorem dX8_next_19 : decode cX8_next 19 = .ok (.iconst 1, 1) := by decide +kernel
theorem dX8_next_20 : decode cX8_next 20 = .ok (.iadd, 1) := by decide +kernel
theorem dX8_next_21 : decode cX8_next 21 = .ok (.goto 7, 3) := by decide +kernel
theorem dX8_next_28 : decode cX8_next 28 = .ok (.putfield 79, 3) := by decide +kernel
theorem dX8_next_31 : decode cX8_next 31 = .ok (.aload_n 0, 1) := by decide +kernel
theorem dX8_next_32 : decode cX8_next 32 = .ok (.getfield 79, 3) := by decide +kernel
theorem dX8_next_35 : decode cX8_next 35 = .ok (.ifCond .lt 45, 3) := by decide +kernel
theorem dX8_next_38 : decode cX8_next 38 = .ok (.aload_n 0, 1) := by decide +kernel
theorem dX8_next_39 : decode cX8_next 39 = .ok (.getfield 79, 3) := by decide +kernel
theorem dX8_next_42 : decode cX8_next 42 = .ok (.sipush 2000, 3) := by decide +kernel
theorem dX8_next_45 : decode cX8_next 45 = .ok (.if_icmp .gt 35, 3) := by decide +kernel
theorem dX8_next_48 : decode cX8_next 48 = .ok (.aload_n 0, 1) := by decide +kernel
theorem dX8_next_49 : decode cX8_next 49 = .ok (.aload_n 0, 1) := by decide +kernel
theorem dX8_next_50 : decode cX8_next 50 = .ok (.getfield 9, 3) := by decide +kernel
theorem dX8_next_53 : decode cX8_next 53 = .ok (.getfield 129, 3) := by decide +kernel
theorem dX8_next_56 : decode cX8_next 56 = .ok (.aload_n 0, 1) := by decide +kernel
theorem dX8_next_57 : decode cX8_next 57 = .ok (.getfield 79, 3) := by decide +kernel
theorem dX8_next_60 : decode cX8_next 60 = .ok (.iaload, 1) := by decide +kernel
theorem dX8_next_61 : decode cX8_next 61 = .ok (.putfield 39, 3) := by decide +kernel
theorem dX8_next_64 : decode cX8_next 64 = .ok (.aload_n 0, 1) := by decide +kernel
theorem dX8_next_65 : decode cX8_next 65 = .ok (.aload_n 0, 1) := by decide +kernel
theorem dX8_next_66 : decode cX8_next 66 = .ok (.getfield 9, 3) := by decide +kernel
theorem dX8_next_69 : decode cX8_next 69 = .ok (.getfield 133, 3) := by decide +kernel
theorem dX8_next_72 : decode cX8_next 72 = .ok (.aload_n 0, 1) := by decide +kernel
theorem dX8_next_73 : decode cX8_next 73 = .ok (.getfield 79, 3) := by decide +kernel
theorem dX8_next_76 : decode cX8_next 76 = .ok (.iaload, 1) := by decide +kernel
theorem dX8_next_77 : decode cX8_next 77 = .ok (.putfield 136, 3) := by decide +kernel
theorem dX8_next_80 : decode cX8_next 80 = .ok (.return_, 1) := by decide +kernel
theorem dX8_expectEnd_0 : decode cX8_expectEnd 0 = .ok (.aload_n 0, 1) := by decide +kernel
theorem dX8_expectEnd_1 : decode cX8_expectEnd 1 = .ok (.getfield 39, 3) := by decide +kernel
theorem dX8_expectEnd_4 : decode cX8_expectEnd 4 = .ok (.ifCond .eq 8, 3) := by decide +kernel
theorem dX8_expectEnd_12 : decode cX8_expectEnd 12 = .ok (.return_, 1) := by decide +kernel
set_option maxRecDepth 20000 in
theorem ggX11_count_J6_bitCount_0f7a4 : GoodIn wsX11_count wsJ6_bitCount_0f7a4 := goodIn_r _ [8, 9, 10, 11] (by decide +kernel) (by decide +kernel)
set_option maxRecDepth 20000 in
theorem gX11_count_J6_bitCount_0f7a4 : GoodIn wsX11_count (va_wsS RX11 216 yJ6_bitCount_0f7a4 wsJ6_bitCount_0f7a4) := goodIn_app (goodIn_of _ (by decide +kernel)) ggX11_count_J6_bitCount_0f7a4
theorem dX11_count_5 : decode cX11_count 5 = .ok (.aload_n 0, 1) := by decide +kernel
theorem dX11_count_6 : decode cX11_count 6 = .ok (.getfield 102, 3) := by decide +kernel
theorem dX11_count_9 : decode cX11_count 9 = .ok (.ireturn, 1) := by decide +kernel
theorem dX11_count_72 : decode cX11_count 72 = .ok (.aload_n 0, 1) := by decide +kernel
theorem dX11_count_73 : decode cX11_count 73 = .ok (.getfield 23, 3) := by decide +kernel
theorem dX11_count_76 : decode cX11_count 76 = .ok (.getfield 210, 3) := by decide +kernel
theorem dX11_count_79 : decode cX11_count 79 = .ok (.ireturn, 1) := by decide +kernel
theorem dX11_count_88 : decode cX11_count 88 = .ok (.aload_n 0, 1) := by decide +kernel
theorem dX11_count_89 : decode cX11_count 89 = .ok (.getfield 23, 3) := by decide +kernel
theorem dX11_count_92 : decode cX11_count 92 = .ok (.getfield 213, 3) := by decide +kernel
theorem dX11_count_95 : decode cX11_count 95 = .ok (.invokestatic 216, 3) := by decide +kernel
theorem dX11_count_98 : decode cX11_count 98 = .ok (.ireturn, 1) := by decide +kernel
theorem dX11_count_99 : decode cX11_count 99 = .ok (.aload_n 0, 1) := by decide +kernel
theorem dX11_count_100 : decode cX11_count 100 = .ok (.getfield 23, 3) := by decide +kernel
theorem dX11_count_103 : decode cX11_count 103 = .ok (.getfield 221, 3) := by decide +kernel
theorem dX11_count_106 : decode cX11_count 106 = .ok (.ireturn, 1) := by decide +kernel
theorem dX11_count_107 : decode cX11_count 107 = .ok (.aload_n 0, 1) := by decide +kernel
theorem dX11_count_108 : decode cX11_count 108 = .ok (.getfield 16, 3) := by decide +kernel
theorem dX11_count_111 : decode cX11_count 111 = .ok (.getfield 224, 3) := by decide +kernel
theorem dX11_count_114 : decode cX11_count 114 = .ok (.ireturn, 1) := by decide +kernel
theorem dX11_count_115 : decode cX11_count 115 = .ok (.aload_n 0, 1) := by decide +kernel
theorem dX11_count_116 : decode cX11_count 116 = .ok (.getfield 16, 3) := by decide +kernel
theorem dX11_count_119 : decode cX11_count 119 = .ok (.getfield 227, 3) := by decide +kernel
theorem dX11_count_122 : decode cX11_count 122 = .ok (.ireturn, 1) := by decide +kernel
theorem dX11_count_123 : decode cX11_count 123 = .ok (.aload_n 0, 1) := by decide +kernel
theorem dX11_count_124 : decode cX11_count 124 = .ok (.getfield 137, 3) := by decide +kernel
theorem dX11_count_127 : decode cX11_count 127 = .ok (.ireturn, 1) := by decide +kernel
theorem dX11_count_128 : decode cX11_count 128 = .ok (.iconst (-1), 1) := by decide +kernel
theorem dX11_count_129 : decode cX11_count 129 = .ok (.ireturn, 1) := by decide +kernel
set_option maxRecDepth 20000 in
theorem ggX11_read_X11_useTape : GoodIn wsX11_read wsX11_useTape := goodIn_r _ [10, 11, 457, 458, 459, 460, 461, 462, 463, 464, 465, 466, 467, 468, 469, 470, 471] (by decide +kernel) (by decide +kernel)
set_option maxRecDepth 20000 in
theorem gX11_read_X11_useTape : GoodIn wsX11_read (wsV RX11 230 RX11 yX11_useTape wsX11_useTape) := goodIn_app (goodIn_of _ (by decide +kernel)) ggX11_read_X11_useTape
set_option maxRecDepth 20000 in
theorem ggX11_read_X8_readText : GoodIn wsX11_read wsX8_readText := goodIn_r _ [16, 17, 18, 19, 20, 21, 22, 23, 15, 24, 25, 26, 27, 28, 29, 30, 31, 32, 33, 34, 35, 36, 37, 38, 39, 40, 41, 42, 43, 44, 45, 46, 47, 48, 49, 50, 51, 52, 53, 54, 55, 56, 57, 58, 59, 60, 61, 62, 63, 64, 65, 66, 67, 68, 69, 70, 71, 72, 73, 74, 75, 76, 77, 78, 79, 80, 81, 82, 83, 84, 85, 86, 87, 88, 89, 90, 91, 92, 93, 94, 95, 96, 97, 98, 99, 100, 101, 102, 103, 104, 105, 106, 107, 108, 109, 110, 111, 112, 113, 114, 115, 116, 117, 118, 119, 120, 121, 122, 123, 124, 125, 126, 127, 128, 129, 130, 131, 132, 133, 134, 135, 136, 137, 138, 139, 140, 141, 142, 143, 144, 145, 146, 147, 148, 149, 150, 151, 152, 153, 154, 155, 156, 157, 158, 159, 160, 161, 162, 163, 164, 165, 166, 167, 168, 169, 170, 171, 172, 173, 174, 175, 176, 177, 178, 179, 180, 181, 182, 183, 184, 185, 186, 187, 188, 189, 190, 191, 192, 193, 194, 195, 196, 197, 198, 199, 200, 201, 202, 203, 204, 205, 206, 207, 208, 209, 210, 211, 212, 213, 214, 215, 216, 217, 218, 219, 220, 221, 222, 223, 224, 225, 226, 227, 228, 229, 230, 231, 232, 233, 234, 9, 235, 236, 237, 238, 239, 240, 241, 242, 243, 244, 245, 246, 247, 248, 249, 250, 251, 252, 253, 254, 255, 256, 257, 258, 259, 260, 261, 262, 263, 264, 265, 266, 267, 268, 269, 270, 271, 272, 273, 274, 275, 276, 277, 278, 279, 280, 281, 282, 283, 284, 285, 286, 287, 288, 289, 290, 291, 292, 293, 294, 295, 296, 297, 298, 299, 300, 301, 302, 303, 304, 305, 306, 307, 308, 309, 310, 311, 312, 313, 314, 315, 316, 317, 318, 319, 320, 321, 322, 323, 324, 325, 326, 327, 328, 329, 330, 331, 332, 333, 334, 335, 336, 337, 338, 339, 340, 341, 342, 343, 344, 345, 346, 347, 348, 349, 350, 351, 352, 353, 354, 355, 356, 357, 358, 359, 360, 361, 362, 363, 364, 365, 366, 367, 368, 369, 370, 371, 372, 373, 374, 375, 376, 377, 378, 379, 380, 381, 382, 383, 384, 385, 386, 387, 388, 389, 390, 391, 392, 393, 394, 395, 396, 397, 398, 399, 400, 401, 402, 403, 404, 405, 406, 407, 408, 409, 410, 411, 412, 413, 414, 415, 416, 417, 418, 419, 420, 421, 422, 423, 424, 425, 426, 427, 428, 429, 430, 497, 498, 499, 500, 501, 502, 503, 504, 505, 506, 507, 508, 509, 510, 511, 481, 482, 483, 484, 485, 486, 487, 488, 489, 490, 491, 492, 493, 494, 495, 496, 512, 513, 514, 515, 516, 517, 518, 519, 520, 521, 522, 523, 524, 525, 526, 527, 528, 529, 530] (by decide +kernel) (by decide +kernel)
set_option maxRecDepth 20000 in
theorem gX11_read_X8_readText : GoodIn wsX11_read (wsV RX11 166 RX8 yX8_readText wsX8_readText) := goodIn_app (goodIn_of _ (by decide +kernel)) ggX11_read_X8_readText
set_option maxRecDepth 20000 in
theorem ggX11_read_X1_hasRoom : GoodIn wsX11_read wsX1_hasRoom := goodIn_r _ [440, 441, 442, 472, 473, 474, 475, 476, 477, 478, 479, 480] (by decide +kernel) (by decide +kernel)
set_option maxRecDepth 20000 in
theorem gX11_read_X1_hasRoom : GoodIn wsX11_read (wsV RX11 239 RX1 yX1_hasRoom wsX1_hasRoom) := goodIn_app (goodIn_of _ (by decide +kernel)) ggX11_read_X1_hasRoom
set_option maxRecDepth 20000 in
theorem ggX11_read_X2_turnOnFrom : GoodIn wsX11_read wsX2_turnOnFrom := goodIn_r _ [447, 430, 142, 481, 482, 483, 484, 485, 486, 487, 488, 489, 490, 491, 492, 493, 494, 495, 496] (by decide +kernel) (by decide +kernel)
set_option maxRecDepth 20000 in
theorem gX11_read_X2_turnOnFrom : GoodIn wsX11_read (wsV RX11 170 RX2 yX2_turnOnFrom wsX2_turnOnFrom) := goodIn_app (goodIn_of _ (by decide +kernel)) ggX11_read_X2_turnOnFrom
set_option maxRecDepth 20000 in
theorem ggX11_read_X1_recordRead : GoodIn wsX11_read wsX1_recordRead := goodIn_r _ [451, 452, 453, 454, 439, 455, 441, 456, 472, 473, 474, 475, 476, 477, 478, 479, 480] (by decide +kernel) (by decide +kernel)
set_option maxRecDepth 20000 in
theorem gX11_read_X1_recordRead : GoodIn wsX11_read (wsV RX11 246 RX1 yX1_recordRead wsX1_recordRead) := goodIn_app (goodIn_of _ (by decide +kernel)) ggX11_read_X1_recordRead
theorem dX11_read_0 : decode cX11_read 0 = .ok (.aload_n 0, 1) := by decide +kernel
theorem dX11_read_1 : decode cX11_read 1 = .ok (.getfield 16, 3) := by decide +kernel
theorem dX11_read_4 : decode cX11_read 4 = .ok (.getfield 122, 3) := by decide +kernel
theorem dX11_read_7 : decode cX11_read 7 = .ok (.ifCond .eq 6, 3) := by decide +kernel
theorem dX11_read_13 : decode cX11_read 13 = .ok (.aload_n 0, 1) := by decide +kernel
theorem dX11_read_14 : decode cX11_read 14 = .ok (.invokevirtual 230, 3) := by decide +kernel
theorem dX11_read_17 : decode cX11_read 17 = .ok (.istore_n 1, 1) := by decide +kernel
theorem dX11_read_18 : decode cX11_read 18 = .ok (.aload_n 0, 1) := by decide +kernel
theorem dX11_read_19 : decode cX11_read 19 = .ok (.getfield 23, 3) := by decide +kernel
theorem dX11_read_22 : decode cX11_read 22 = .ok (.getfield 210, 3) := by decide +kernel
theorem dX11_read_25 : decode cX11_read 25 = .ok (.istore_n 2, 1) := by decide +kernel
theorem dX11_read_26 : decode cX11_read 26 = .ok (.aload_n 0, 1) := by decide +kernel
theorem dX11_read_27 : decode cX11_read 27 = .ok (.getfield 23, 3) := by decide +kernel
theorem dX11_read_30 : decode cX11_read 30 = .ok (.getfield 160, 3) := by decide +kernel
theorem dX11_read_33 : decode cX11_read 33 = .ok (.istore_n 3, 1) := by decide +kernel
theorem dX11_read_34 : decode cX11_read 34 = .ok (.aload_n 0, 1) := by decide +kernel
theorem dX11_read_35 : decode cX11_read 35 = .ok (.getfield 23, 3) := by decide +kernel
theorem dX11_read_38 : decode cX11_read 38 = .ok (.getfield 233, 3) := by decide +kernel
theorem dX11_read_41 : decode cX11_read 41 = .ok (.istore 4, 2) := by decide +kernel
theorem dX11_read_43 : decode cX11_read 43 = .ok (.aload_n 0, 1) := by decide +kernel
theorem dX11_read_44 : decode cX11_read 44 = .ok (.getfield 48, 3) := by decide +kernel
theorem dX11_read_47 : decode cX11_read 47 = .ok (.aload_n 0, 1) := by decide +kernel
theorem dX11_read_48 : decode cX11_read 48 = .ok (.getfield 9, 3) := by decide +kernel
theorem dX11_read_51 : decode cX11_read 51 = .ok (.iconst 0, 1) := by decide +kernel
theorem dX11_read_52 : decode cX11_read 52 = .ok (.iload_n 1, 1) := by decide +kernel
theorem dX11_read_53 : decode cX11_read 53 = .ok (.invokevirtual 166, 3) := by decide +kernel
theorem dX11_read_56 : decode cX11_read 56 = .ok (.ifCond .ne 8, 3) := by decide +kernel
theorem dX11_read_64 : decode cX11_read 64 = .ok (.aload_n 0, 1) := by decide +kernel
theorem dX11_read_65 : decode cX11_read 65 = .ok (.getfield 16, 3) := by decide +kernel
theorem dX11_read_68 : decode cX11_read 68 = .ok (.iconst 3, 1) := by decide +kernel
theorem dX11_read_69 : decode cX11_read 69 = .ok (.iload_n 1, 1) := by decide +kernel
theorem dX11_read_70 : decode cX11_read 70 = .ok (.iadd, 1) := by decide +kernel
theorem dX11_read_71 : decode cX11_read 71 = .ok (.invokevirtual 239, 3) := by decide +kernel
theorem dX11_read_74 : decode cX11_read 74 = .ok (.ifCond .ne 17, 3) := by decide +kernel
theorem dX11_read_91 : decode cX11_read 91 = .ok (.aload_n 0, 1) := by decide +kernel
theorem dX11_read_92 : decode cX11_read 92 = .ok (.getfield 23, 3) := by decide +kernel
theorem dX11_read_95 : decode cX11_read 95 = .ok (.iload_n 3, 1) := by decide +kernel
theorem dX11_read_96 : decode cX11_read 96 = .ok (.invokevirtual 170, 3) := by decide +kernel
theorem dX11_read_99 : decode cX11_read 99 = .ok (.aload_n 0, 1) := by decide +kernel
theorem dX11_read_100 : decode cX11_read 100 = .ok (.getfield 16, 3) := by decide +kernel
theorem dX11_read_103 : decode cX11_read 103 = .ok (.aload_n 0, 1) := by decide +kernel
theorem dX11_read_104 : decode cX11_read 104 = .ok (.getfield 9, 3) := by decide +kernel
theorem dX11_read_107 : decode cX11_read 107 = .ok (.iload_n 1, 1) := by decide +kernel
theorem dX11_read_108 : decode cX11_read 108 = .ok (.invokevirtual 246, 3) := by decide +kernel
theorem dX11_read_111 : decode cX11_read 111 = .ok (.aload_n 0, 1) := by decide +kernel
theorem dX11_read_112 : decode cX11_read 112 = .ok (.dup, 1) := by decide +kernel
theorem dX11_read_113 : decode cX11_read 113 = .ok (.getfield 137, 3) := by decide +kernel
theorem dX11_read_116 : decode cX11_read 116 = .ok (.iconst 1, 1) := by decide +kernel
theorem dX11_read_117 : decode cX11_read 117 = .ok (.iadd, 1) := by decide +kernel
theorem dX11_read_118 : decode cX11_read 118 = .ok (.putfield 137, 3) := by decide +kernel
theorem dX11_read_121 : decode cX11_read 121 = .ok (.aload_n 0, 1) := by decide +kernel
theorem dX11_read_122 : decode cX11_read 122 = .ok (.getfield 23, 3) := by decide +kernel
theorem dX11_read_125 : decode cX11_read 125 = .ok (.getfield 160, 3) := by decide +kernel
theorem dX11_read_128 : decode cX11_read 128 = .ok (.iload_n 3, 1) := by decide +kernel
theorem dX11_read_129 : decode cX11_read 129 = .ok (.isub, 1) := by decide +kernel
theorem dX11_read_130 : decode cX11_read 130 = .ok (.ireturn, 1) := by decide +kernel
theorem dX11_useTape_0 : decode cX11_useTape 0 = .ok (.aload_n 0, 1) := by decide +kernel
theorem dX11_useTape_1 : decode cX11_useTape 1 = .ok (.getfield 102, 3) := by decide +kernel
theorem dX11_useTape_4 : decode cX11_useTape 4 = .ok (.istore_n 1, 1) := by decide +kernel
theorem dX11_useTape_5 : decode cX11_useTape 5 = .ok (.aload_n 0, 1) := by decide +kernel
theorem dX11_useTape_6 : decode cX11_useTape 6 = .ok (.iconst 0, 1) := by decide +kernel
theorem dX11_useTape_7 : decode cX11_useTape 7 = .ok (.putfield 102, 3) := by decide +kernel
theorem dX11_useTape_10 : decode cX11_useTape 10 = .ok (.iload_n 1, 1) := by decide +kernel
theorem dX11_useTape_11 : decode cX11_useTape 11 = .ok (.ireturn, 1) := by decide +kernel
theorem dX11_fault_0 : decode cX11_fault 0 = .ok (.aload_n 0, 1) := by decide +kernel
theorem dX11_fault_1 : decode cX11_fault 1 = .ok (.getfield 253, 3) := by decide +kernel
theorem dX11_fault_4 : decode cX11_fault 4 = .ok (.ireturn, 1) := by decide +kernel
set_option maxRecDepth 20000 in
theorem ggX11_on_X2_isClaim : GoodIn wsX11_on wsX2_isClaim := goodIn_r _ [8, 9, 59, 60, 61, 62, 63, 64, 65, 66, 67, 68, 69, 70, 71, 72, 73, 74] (by decide +kernel) (by decide +kernel)
set_option maxRecDepth 20000 in
theorem gX11_on_X2_isClaim : GoodIn wsX11_on (wsV RX11 176 RX2 yX2_isClaim wsX2_isClaim) := goodIn_app (goodIn_of _ (by decide +kernel)) ggX11_on_X2_isClaim
theorem dX11_on_0 : decode cX11_on 0 = .ok (.aload_n 0, 1) := by decide +kernel
theorem dX11_on_1 : decode cX11_on 1 = .ok (.getfield 16, 3) := by decide +kernel
theorem dX11_on_4 : decode cX11_on 4 = .ok (.getfield 122, 3) := by decide +kernel
theorem dX11_on_7 : decode cX11_on 7 = .ok (.ifCond .eq 6, 3) := by decide +kernel
theorem dX11_on_13 : decode cX11_on 13 = .ok (.aload_n 0, 1) := by decide +kernel
theorem dX11_on_14 : decode cX11_on 14 = .ok (.getfield 23, 3) := by decide +kernel
theorem dX11_on_17 : decode cX11_on 17 = .ok (.iload_n 1, 1) := by decide +kernel
theorem dX11_on_18 : decode cX11_on 18 = .ok (.invokevirtual 176, 3) := by decide +kernel
theorem dX11_on_21 : decode cX11_on 21 = .ok (.ifCond .ne 6, 3) := by decide +kernel
theorem dX11_on_24 : decode cX11_on 24 = .ok (.bipush (-101), 2) := by decide +kernel
theorem dX11_on_26 : decode cX11_on 26 = .ok (.ireturn, 1) := by decide +kernel
theorem dX12_full_0 : decode cX12_full 0 = .ok (.iconst 1, 1) := by decide +kernel
theorem dX12_full_1 : decode cX12_full 1 = .ok (.aload_n 0, 1) := by decide +kernel
theorem dX12_full_2 : decode cX12_full 2 = .ok (.getfield 466, 3) := by decide +kernel
theorem dX12_full_5 : decode cX12_full 5 = .ok (.iconst 2, 1) := by decide +kernel
theorem dX12_full_6 : decode cX12_full 6 = .ok (.if_icmp .ne 8, 3) := by decide +kernel
theorem dX12_full_14 : decode cX12_full 14 = .ok (.iconst 0, 1) := by decide +kernel
theorem dX12_full_15 : decode cX12_full 15 = .ok (.iadd, 1) := by decide +kernel
theorem dX12_full_16 : decode cX12_full 16 = .ok (.aload_n 0, 1) := by decide +kernel
theorem dX12_full_17 : decode cX12_full 17 = .ok (.getfield 466, 3) := by decide +kernel
theorem dX12_full_20 : decode cX12_full 20 = .ok (.iconst 1, 1) := by decide +kernel
theorem dX12_full_21 : decode cX12_full 21 = .ok (.if_icmp .ne 12, 3) := by decide +kernel
theorem dX12_full_24 : decode cX12_full 24 = .ok (.iconst 2, 1) := by decide +kernel
theorem dX12_full_25 : decode cX12_full 25 = .ok (.aload_n 0, 1) := by decide +kernel
theorem dX12_full_26 : decode cX12_full 26 = .ok (.getfield 469, 3) := by decide +kernel
theorem dX12_full_29 : decode cX12_full 29 = .ok (.iadd, 1) := by decide +kernel
theorem dX12_full_30 : decode cX12_full 30 = .ok (.goto 4, 3) := by decide +kernel
theorem dX12_full_34 : decode cX12_full 34 = .ok (.iadd, 1) := by decide +kernel
theorem dX12_full_35 : decode cX12_full 35 = .ok (.istore_n 1, 1) := by decide +kernel
theorem dX12_full_36 : decode cX12_full 36 = .ok (.aload_n 0, 1) := by decide +kernel
theorem dX12_full_37 : decode cX12_full 37 = .ok (.getfield 472, 3) := by decide +kernel
theorem dX12_full_40 : decode cX12_full 40 = .ok (.ifCond .ne 33, 3) := by decide +kernel
theorem dX12_full_43 : decode cX12_full 43 = .ok (.aload_n 0, 1) := by decide +kernel
theorem dX12_full_44 : decode cX12_full 44 = .ok (.getfield 475, 3) := by decide +kernel
theorem dX12_full_47 : decode cX12_full 47 = .ok (.iload_n 1, 1) := by decide +kernel
theorem dX12_full_48 : decode cX12_full 48 = .ok (.iadd, 1) := by decide +kernel
theorem dX12_full_49 : decode cX12_full 49 = .ok (.sipush 248, 3) := by decide +kernel
theorem dX12_full_52 : decode cX12_full 52 = .ok (.iadd, 1) := by decide +kernel
theorem dX12_full_53 : decode cX12_full 53 = .ok (.iconst 1, 1) := by decide +kernel
theorem dX12_full_54 : decode cX12_full 54 = .ok (.isub, 1) := by decide +kernel
theorem dX12_full_55 : decode cX12_full 55 = .ok (.sipush 248, 3) := by decide +kernel
theorem dX12_full_58 : decode cX12_full 58 = .ok (.idiv, 1) := by decide +kernel
theorem dX12_full_59 : decode cX12_full 59 = .ok (.bipush 100, 2) := by decide +kernel
theorem dX12_full_61 : decode cX12_full 61 = .ok (.aload_n 0, 1) := by decide +kernel
theorem dX12_full_62 : decode cX12_full 62 = .ok (.getfield 478, 3) := by decide +kernel
theorem dX12_full_65 : decode cX12_full 65 = .ok (.isub, 1) := by decide +kernel
theorem dX12_full_66 : decode cX12_full 66 = .ok (.if_icmp .le 7, 3) := by decide +kernel
theorem dX12_full_73 : decode cX12_full 73 = .ok (.iconst 0, 1) := by decide +kernel
theorem dX12_full_74 : decode cX12_full 74 = .ok (.ireturn, 1) := by decide +kernel
theorem dX12_note_0 : decode cX12_note 0 = .ok (.aload_n 0, 1) := by decide +kernel
theorem dX12_note_1 : decode cX12_note 1 = .ok (.getfield 25, 3) := by decide +kernel
theorem dX12_note_4 : decode cX12_note 4 = .ok (.aload_n 0, 1) := by decide +kernel
theorem dX12_note_5 : decode cX12_note 5 = .ok (.getfield 475, 3) := by decide +kernel
theorem dX12_note_8 : decode cX12_note 8 = .ok (.iload_n 1, 1) := by decide +kernel
theorem dX12_note_9 : decode cX12_note 9 = .ok (.i2b, 1) := by decide +kernel
theorem dX12_note_10 : decode cX12_note 10 = .ok (.bastore, 1) := by decide +kernel
theorem dX12_note_11 : decode cX12_note 11 = .ok (.aload_n 0, 1) := by decide +kernel
theorem dX12_note_12 : decode cX12_note 12 = .ok (.dup, 1) := by decide +kernel
theorem dX12_note_13 : decode cX12_note 13 = .ok (.getfield 475, 3) := by decide +kernel
theorem dX12_note_16 : decode cX12_note 16 = .ok (.iconst 1, 1) := by decide +kernel
theorem dX12_note_17 : decode cX12_note 17 = .ok (.iadd, 1) := by decide +kernel
theorem dX12_note_18 : decode cX12_note 18 = .ok (.putfield 475, 3) := by decide +kernel
theorem dX12_note_21 : decode cX12_note 21 = .ok (.return_, 1) := by decide +kernel
theorem dX12_takeTape_0 : decode cX12_takeTape 0 = .ok (.aload_n 0, 1) := by decide +kernel
theorem dX12_takeTape_1 : decode cX12_takeTape 1 = .ok (.aload_n 0, 1) := by decide +kernel
theorem dX12_takeTape_2 : decode cX12_takeTape 2 = .ok (.getfield 485, 3) := by decide +kernel
theorem dX12_takeTape_5 : decode cX12_takeTape 5 = .ok (.putfield 469, 3) := by decide +kernel
theorem dX12_takeTape_8 : decode cX12_takeTape 8 = .ok (.aload_n 0, 1) := by decide +kernel
theorem dX12_takeTape_9 : decode cX12_takeTape 9 = .ok (.iconst 0, 1) := by decide +kernel
theorem dX12_takeTape_10 : decode cX12_takeTape 10 = .ok (.putfield 485, 3) := by decide +kernel
theorem dX12_takeTape_13 : decode cX12_takeTape 13 = .ok (.iconst 0, 1) := by decide +kernel
theorem dX12_takeTape_14 : decode cX12_takeTape 14 = .ok (.istore_n 1, 1) := by decide +kernel
theorem dX12_takeTape_15 : decode cX12_takeTape 15 = .ok (.iload_n 1, 1) := by decide +kernel
theorem dX12_takeTape_16 : decode cX12_takeTape 16 = .ok (.aload_n 0, 1) := by decide +kernel
theorem dX12_takeTape_17 : decode cX12_takeTape 17 = .ok (.getfield 469, 3) := by decide +kernel
theorem dX12_takeTape_20 : decode cX12_takeTape 20 = .ok (.if_icmp .ge 21, 3) := by decide +kernel
theorem dX12_takeTape_41 : decode cX12_takeTape 41 = .ok (.return_, 1) := by decide +kernel
set_option maxRecDepth 20000 in
theorem ggX12_call_X12_takeTape : GoodIn wsX12_call wsX12_takeTape := goodIn_r _ [14, 15, 8, 9, 16, 441, 442, 443, 444, 445, 446, 447, 448, 449, 450, 451, 452, 453, 454, 455, 456, 457, 458, 459, 460, 461, 462, 463, 464, 465, 466, 467, 468, 469, 470, 471, 472, 473, 474, 475, 476, 477, 478, 479, 480, 481, 482, 483, 484, 485, 486, 487, 488, 489, 490, 491, 492, 493, 494, 495, 496, 497, 498, 499, 500, 501, 502, 503, 504, 505, 506, 507, 508, 509, 510, 511, 512, 513, 514, 515, 516, 517, 518, 519, 520, 521, 522, 523, 524, 525, 526, 527, 528, 529, 530, 531, 532, 533, 534, 535, 536, 537, 538, 539, 540, 541, 542, 543, 544, 545, 546, 547, 548, 549, 550, 551, 552, 553, 554, 555, 556, 557, 558, 559, 560, 561, 562, 563, 564, 565, 566, 567, 568, 569, 570, 571, 572, 573, 574, 575, 576, 577, 578, 579, 580, 581, 582, 583, 584, 585, 586, 587, 588, 589, 590, 591, 592, 593, 594, 595, 596, 597, 598, 599, 600, 601, 602, 603, 604, 605, 606, 607, 608, 609, 610, 611, 612, 613, 614, 615, 616, 617, 618, 619, 620, 621, 622, 623, 624, 625, 626, 627, 628, 629, 630, 631, 632, 633, 634, 635] (by decide +kernel) (by decide +kernel)
set_option maxRecDepth 20000 in
theorem gX12_call_X12_takeTape : GoodIn wsX12_call (wsV RX12 491 RX12 yX12_takeTape wsX12_takeTape) := goodIn_app (goodIn_of _ (by decide +kernel)) ggX12_call_X12_takeTape
set_option maxRecDepth 20000 in
theorem ggX12_call_X12_act : GoodIn wsX12_call wsX12_act := goodIn_r _ [20, 3, 21, 22, 23, 13, 24, 25, 26, 27, 28, 29, 30, 31, 32, 33, 34, 35, 36, 37, 38, 39, 40, 41, 42, 43, 44, 8, 45, 46, 47, 48, 49, 9, 50, 51, 52, 53, 54, 55, 56, 57, 58, 59, 60, 61, 62, 63, 64, 65, 66, 67, 68, 69, 70, 71, 72, 73, 74, 75, 76, 77, 78, 79, 80, 81, 82, 83, 84, 85, 86, 87, 88, 89, 90, 91, 92, 93, 94, 95, 96, 97, 98, 99, 100, 101, 102, 103, 104, 105, 106, 107, 108, 109, 110, 111, 112, 113, 114, 115, 116, 117, 118, 119, 120, 121, 122, 123, 124, 125, 126, 127, 128, 129, 130, 131, 132, 133, 134, 135, 136, 137, 138, 139, 140, 141, 142, 143, 144, 145, 146, 147, 148, 149, 150, 151, 152, 153, 154, 155, 156, 157, 158, 159, 160, 161, 162, 163, 164, 165, 166, 167, 168, 169, 170, 171, 172, 173, 174, 175, 176, 177, 178, 179, 180, 181, 182, 183, 184, 185, 186, 187, 188, 189, 190, 191, 192, 193, 194, 195, 196, 197, 198, 199, 200, 201, 202, 203, 204, 205, 206, 207, 208, 209, 210, 211, 212, 213, 214, 215, 216, 217, 218, 219, 220, 221, 222, 223, 224, 225, 226, 227, 228, 229, 230, 231, 232, 233, 234, 235, 236, 237, 238, 239, 240, 241, 242, 243, 244, 245, 246, 247, 248, 249, 250, 251, 252, 253, 254, 255, 256, 257, 258, 259, 260, 261, 262, 263, 264, 265, 266, 267, 268, 269, 270, 271, 272, 273, 274, 275, 276, 277, 278, 279, 280, 281, 282, 283, 284, 285, 286, 287, 288, 289, 290, 291, 292, 293, 294, 295, 296, 297, 298, 299, 300, 301, 302, 303, 304, 305, 306, 307, 308, 309, 310, 311, 312, 313, 314, 315, 316, 317, 318, 319, 320, 321, 322, 323, 324, 325, 326, 327, 328, 329, 330, 331, 332, 333, 334, 335, 336, 337, 338, 339, 340, 341, 342, 343, 344, 345, 346, 347, 348, 349, 350, 351, 352, 353, 354, 355, 356, 357, 358, 359, 360, 361, 362, 363, 364, 365, 366, 367, 368, 369, 370, 371, 372, 373, 374, 375, 376, 377, 378, 379, 380, 381, 382, 383, 384, 385, 386, 387, 388, 389, 390, 391, 392, 393, 394, 395, 396, 397, 398, 399, 400, 401, 402, 403, 404, 405, 4, 406, 407, 408, 409, 410, 5, 411, 412, 413, 414, 415, 416, 417, 418, 419, 420, 7, 421, 422, 423, 424, 425, 426, 427, 428, 429, 430, 431, 441, 442, 443, 444, 445, 446, 447, 448, 449, 450, 451, 452, 453, 454, 455, 456, 457, 458, 459, 460, 461, 462, 463, 464, 465, 466, 467, 468, 469, 470, 471, 472, 473, 474, 475, 476, 477, 478, 479, 480, 481, 482, 483, 484, 485, 486, 487, 488, 489, 490, 491, 492, 493, 494, 495, 496, 497, 498, 499, 500, 501, 502, 503, 504, 505, 506, 507, 508, 509, 510, 511, 512, 513, 514, 515, 516, 517, 518, 519, 520, 521, 522, 523, 524, 525, 526, 527, 528, 529, 530, 531, 532, 533, 534, 535, 536, 537, 538, 539, 540, 541, 542, 543, 544, 545, 546, 547, 548, 549, 550, 551, 552, 553, 554, 555, 556, 557, 558, 559, 560, 561, 562, 563, 564, 565, 566, 567, 568, 569, 570, 571, 572, 573, 574, 575, 576, 577, 578, 579, 580, 581, 582, 583, 584, 585, 586, 587, 588, 589, 590, 591, 592, 593, 594, 595, 596, 597, 598, 599, 600, 601, 602, 603, 604, 605, 606, 607, 608, 609, 610, 611, 612, 613, 614, 615, 616, 617, 618, 619, 620, 621, 622, 623, 624, 625, 626, 627, 628, 629, 630, 631, 632, 633, 634, 635] (by decide +kernel) (by decide +kernel)
set_option maxRecDepth 20000 in
theorem gX12_call_X12_act : GoodIn wsX12_call (wsV RX12 494 RX12 yX12_act wsX12_act) := goodIn_app (goodIn_of _ (by decide +kernel)) ggX12_call_X12_act
set_option maxRecDepth 20000 in
theorem ggX12_call_X12_note : GoodIn wsX12_call wsX12_note := goodIn_r _ [435, 436, 415, 441, 442, 443, 444, 445, 446, 447, 448, 449, 450, 451, 452, 453, 454, 455, 456, 457, 458, 459, 460, 461, 462, 463, 464, 465, 466, 467, 468, 469, 470, 471, 472, 473, 474, 475, 476, 477, 478, 479, 480, 481, 482, 483, 484, 485, 486, 487, 488, 489, 490, 491, 492, 493, 494, 495, 496, 497, 498, 499, 500, 501, 502, 503, 504, 505, 506, 507, 508, 509, 510, 511, 512, 513, 514, 515, 516, 517, 518, 519, 520, 521, 522, 523, 524, 525, 526, 527, 528, 529, 530, 531, 532, 533, 534, 535, 536, 537, 538, 539, 540, 541, 542, 543, 544, 545, 546, 547, 548, 549, 550, 551, 552, 553, 554, 555, 556, 557, 558, 559, 560, 561, 562, 563, 564, 565, 566, 567, 568, 569, 570, 571, 572, 573, 574, 575, 576, 577, 578, 579, 580, 581, 582, 583, 584, 585, 586, 587, 588, 589, 590, 591, 592, 593, 594, 595, 596, 597, 598, 599, 600, 601, 602, 603, 604, 605, 606, 607, 608, 609, 610, 611, 612, 613, 614, 615, 616, 617, 618, 619, 620, 621, 622, 623, 624, 625, 626, 627, 628, 629, 630, 631, 632, 633, 634, 635] (by decide +kernel) (by decide +kernel)
set_option maxRecDepth 20000 in
theorem gX12_call_X12_note : GoodIn wsX12_call (wsV RX12 481 RX12 yX12_note wsX12_note) := goodIn_app (goodIn_of _ (by decide +kernel)) ggX12_call_X12_note
theorem dX12_call_0 : decode cX12_call 0 = .ok (.aload_n 0, 1) := by decide +kernel
theorem dX12_call_1 : decode cX12_call 1 = .ok (.iconst 0, 1) := by decide +kernel
theorem dX12_call_2 : decode cX12_call 2 = .ok (.putfield 3, 3) := by decide +kernel
theorem dX12_call_5 : decode cX12_call 5 = .ok (.aload_n 0, 1) := by decide +kernel
theorem dX12_call_6 : decode cX12_call 6 = .ok (.getfield 488, 3) := by decide +kernel
theorem dX12_call_9 : decode cX12_call 9 = .ok (.ifCond .eq 6, 3) := by decide +kernel
theorem dX12_call_15 : decode cX12_call 15 = .ok (.aload_n 0, 1) := by decide +kernel
theorem dX12_call_16 : decode cX12_call 16 = .ok (.iload_n 1, 1) := by decide +kernel
theorem dX12_call_17 : decode cX12_call 17 = .ok (.putfield 466, 3) := by decide +kernel
theorem dX12_call_20 : decode cX12_call 20 = .ok (.aload_n 0, 1) := by decide +kernel
theorem dX12_call_21 : decode cX12_call 21 = .ok (.iconst 0, 1) := by decide +kernel
theorem dX12_call_22 : decode cX12_call 22 = .ok (.putfield 472, 3) := by decide +kernel
theorem dX12_call_25 : decode cX12_call 25 = .ok (.aload_n 0, 1) := by decide +kernel
theorem dX12_call_26 : decode cX12_call 26 = .ok (.iconst 0, 1) := by decide +kernel
theorem dX12_call_27 : decode cX12_call 27 = .ok (.putfield 462, 3) := by decide +kernel
theorem dX12_call_30 : decode cX12_call 30 = .ok (.iload_n 1, 1) := by decide +kernel
theorem dX12_call_31 : decode cX12_call 31 = .ok (.iconst 1, 1) := by decide +kernel
theorem dX12_call_32 : decode cX12_call 32 = .ok (.if_icmp .ne 7, 3) := by decide +kernel
theorem dX12_call_35 : decode cX12_call 35 = .ok (.aload_n 0, 1) := by decide +kernel
theorem dX12_call_36 : decode cX12_call 36 = .ok (.invokevirtual 491, 3) := by decide +kernel
theorem dX12_call_39 : decode cX12_call 39 = .ok (.aload_n 0, 1) := by decide +kernel
theorem dX12_call_40 : decode cX12_call 40 = .ok (.invokevirtual 494, 3) := by decide +kernel
theorem dX12_call_43 : decode cX12_call 43 = .ok (.istore_n 2, 1) := by decide +kernel
theorem dX12_call_44 : decode cX12_call 44 = .ok (.aload_n 0, 1) := by decide +kernel
theorem dX12_call_45 : decode cX12_call 45 = .ok (.getfield 462, 3) := by decide +kernel
theorem dX12_call_48 : decode cX12_call 48 = .ok (.ifCond .ne 93, 3) := by decide +kernel
theorem dX12_call_51 : decode cX12_call 51 = .ok (.aload_n 0, 1) := by decide +kernel
theorem dX12_call_52 : decode cX12_call 52 = .ok (.dup, 1) := by decide +kernel
theorem dX12_call_53 : decode cX12_call 53 = .ok (.getfield 498, 3) := by decide +kernel
theorem dX12_call_56 : decode cX12_call 56 = .ok (.iconst 1, 1) := by decide +kernel
theorem dX12_call_57 : decode cX12_call 57 = .ok (.iadd, 1) := by decide +kernel
theorem dX12_call_58 : decode cX12_call 58 = .ok (.putfield 498, 3) := by decide +kernel
theorem dX12_call_61 : decode cX12_call 61 = .ok (.aload_n 0, 1) := by decide +kernel
theorem dX12_call_62 : decode cX12_call 62 = .ok (.iload_n 1, 1) := by decide +kernel
theorem dX12_call_63 : decode cX12_call 63 = .ok (.invokevirtual 481, 3) := by decide +kernel
theorem dX12_call_66 : decode cX12_call 66 = .ok (.iload_n 1, 1) := by decide +kernel
theorem dX12_call_67 : decode cX12_call 67 = .ok (.iconst 2, 1) := by decide +kernel
theorem dX12_call_68 : decode cX12_call 68 = .ok (.if_icmp .ne 23, 3) := by decide +kernel
theorem dX12_call_91 : decode cX12_call 91 = .ok (.iload_n 1, 1) := by decide +kernel
theorem dX12_call_92 : decode cX12_call 92 = .ok (.iconst 1, 1) := by decide +kernel
theorem dX12_call_93 : decode cX12_call 93 = .ok (.if_icmp .ne 48, 3) := by decide +kernel
theorem dX12_call_96 : decode cX12_call 96 = .ok (.aload_n 0, 1) := by decide +kernel
theorem dX12_call_97 : decode cX12_call 97 = .ok (.aload_n 0, 1) := by decide +kernel
theorem dX12_call_98 : decode cX12_call 98 = .ok (.getfield 469, 3) := by decide +kernel
theorem dX12_call_101 : decode cX12_call 101 = .ok (.bipush 8, 2) := by decide +kernel
theorem dX12_call_103 : decode cX12_call 103 = .ok (.ishr, 1) := by decide +kernel
theorem dX12_call_104 : decode cX12_call 104 = .ok (.invokevirtual 481, 3) := by decide +kernel
theorem dX12_call_107 : decode cX12_call 107 = .ok (.aload_n 0, 1) := by decide +kernel
theorem dX12_call_108 : decode cX12_call 108 = .ok (.aload_n 0, 1) := by decide +kernel
theorem dX12_call_109 : decode cX12_call 109 = .ok (.getfield 469, 3) := by decide +kernel
theorem dX12_call_112 : decode cX12_call 112 = .ok (.invokevirtual 481, 3) := by decide +kernel
theorem dX12_call_115 : decode cX12_call 115 = .ok (.iconst 0, 1) := by decide +kernel
theorem dX12_call_116 : decode cX12_call 116 = .ok (.istore_n 3, 1) := by decide +kernel
theorem dX12_call_117 : decode cX12_call 117 = .ok (.iload_n 3, 1) := by decide +kernel
theorem dX12_call_118 : decode cX12_call 118 = .ok (.aload_n 0, 1) := by decide +kernel
theorem dX12_call_119 : decode cX12_call 119 = .ok (.getfield 469, 3) := by decide +kernel
theorem dX12_call_122 : decode cX12_call 122 = .ok (.if_icmp .ge 19, 3) := by decide +kernel
theorem dX12_call_141 : decode cX12_call 141 = .ok (.iload_n 2, 1) := by decide +kernel
theorem dX12_call_142 : decode cX12_call 142 = .ok (.ireturn, 1) := by decide +kernel
theorem dX12_char1_0 : decode cX12_char1 0 = .ok (.iload_n 1, 1) := by decide +kernel
theorem dX12_char1_1 : decode cX12_char1 1 = .ok (.aload_n 0, 1) := by decide +kernel
theorem dX12_char1_2 : decode cX12_char1 2 = .ok (.getfield 469, 3) := by decide +kernel
theorem dX12_char1_5 : decode cX12_char1 5 = .ok (.if_icmp .ge 16, 3) := by decide +kernel
theorem dX12_char1_21 : decode cX12_char1 21 = .ok (.iconst 0, 1) := by decide +kernel
theorem dX12_char1_22 : decode cX12_char1 22 = .ok (.ireturn, 1) := by decide +kernel
set_option maxRecDepth 20000 in
theorem ggX12_scan_X12_char1 : GoodIn wsX12_scan wsX12_char1 := goodIn_r _ [14, 8, 15, 90, 91, 92, 93, 94, 95, 96, 97, 98, 99, 100, 101, 102, 103, 104, 105, 106, 107, 108, 109, 110, 111, 112, 113, 114, 115, 116, 117, 118, 119, 120, 121, 122, 123, 124, 125, 126, 127, 128, 129, 130, 131, 132, 133, 134, 135, 136, 137, 138, 139, 140, 141, 142, 143, 144, 145, 146, 147, 148, 149, 150, 151, 152, 153, 154, 155, 156, 157, 158, 159, 160, 161, 162, 163, 164, 165, 166, 167, 168, 169, 170, 171, 172, 173, 174, 175, 176, 177, 178, 179, 180, 181, 182, 183, 184, 185, 186, 187, 188, 189, 190, 191, 192, 193, 194, 195, 196, 197, 198, 199, 200, 201, 202, 203, 204, 205, 206, 207, 208, 209, 210, 211, 212, 213, 214, 215, 216, 217, 218, 219, 220, 221, 222, 223, 224, 225, 226, 227, 228, 229, 230, 231, 232, 233, 234, 235, 236, 237, 238, 239, 240, 241, 242, 243, 244, 245, 246, 247, 248, 249, 250, 251, 252, 253, 254, 255, 256, 257, 258, 259, 260, 261, 262, 263, 264, 265, 266, 267, 268, 269, 270, 271, 272, 273, 274, 275, 276, 277, 278, 279, 280, 281, 282, 283, 284] (by decide +kernel) (by decide +kernel)
set_option maxRecDepth 20000 in
theorem gX12_scan_X12_char1 : GoodIn wsX12_scan (wsV RX12 586 RX12 yX12_char1 wsX12_char1) := goodIn_app (goodIn_of _ (by decide +kernel)) ggX12_scan_X12_char1
theorem dX12_scan_0 : decode cX12_scan 0 = .ok (.aload_n 0, 1) := by decide +kernel
theorem dX12_scan_1 : decode cX12_scan 1 = .ok (.iconst 0, 1) := by decide +kernel
theorem dX12_scan_2 : decode cX12_scan 2 = .ok (.putfield 594, 3) := by decide +kernel
theorem dX12_scan_5 : decode cX12_scan 5 = .ok (.aload_n 0, 1) := by decide +kernel
theorem dX12_scan_6 : decode cX12_scan 6 = .ok (.iconst 0, 1) := by decide +kernel
theorem dX12_scan_7 : decode cX12_scan 7 = .ok (.putfield 562, 3) := by decide +kernel
theorem dX12_scan_10 : decode cX12_scan 10 = .ok (.aload_n 0, 1) := by decide +kernel
theorem dX12_scan_11 : decode cX12_scan 11 = .ok (.iconst 0, 1) := by decide +kernel
theorem dX12_scan_12 : decode cX12_scan 12 = .ok (.putfield 597, 3) := by decide +kernel
theorem dX12_scan_15 : decode cX12_scan 15 = .ok (.iconst 0, 1) := by decide +kernel
theorem dX12_scan_16 : decode cX12_scan 16 = .ok (.istore_n 1, 1) := by decide +kernel
theorem dX12_scan_17 : decode cX12_scan 17 = .ok (.iconst 1, 1) := by decide +kernel
theorem dX12_scan_18 : decode cX12_scan 18 = .ok (.istore_n 2, 1) := by decide +kernel
theorem dX12_scan_19 : decode cX12_scan 19 = .ok (.iload_n 2, 1) := by decide +kernel
theorem dX12_scan_20 : decode cX12_scan 20 = .ok (.ifCond .eq 434, 3) := by decide +kernel
theorem dX12_scan_23 : decode cX12_scan 23 = .ok (.aload_n 0, 1) := by decide +kernel
theorem dX12_scan_24 : decode cX12_scan 24 = .ok (.iload_n 1, 1) := by decide +kernel
theorem dX12_scan_25 : decode cX12_scan 25 = .ok (.invokevirtual 586, 3) := by decide +kernel
theorem dX12_scan_28 : decode cX12_scan 28 = .ok (.bipush 32, 2) := by decide +kernel
theorem dX12_scan_30 : decode cX12_scan 30 = .ok (.if_icmp .eq 13, 3) := by decide +kernel
theorem dX12_scan_33 : decode cX12_scan 33 = .ok (.aload_n 0, 1) := by decide +kernel
theorem dX12_scan_34 : decode cX12_scan 34 = .ok (.iload_n 1, 1) := by decide +kernel
theorem dX12_scan_35 : decode cX12_scan 35 = .ok (.invokevirtual 586, 3) := by decide +kernel
theorem dX12_scan_38 : decode cX12_scan 38 = .ok (.bipush 10, 2) := by decide +kernel
theorem dX12_scan_40 : decode cX12_scan 40 = .ok (.if_icmp .ne 9, 3) := by decide +kernel
theorem dX12_scan_49 : decode cX12_scan 49 = .ok (.aload_n 0, 1) := by decide +kernel
theorem dX12_scan_50 : decode cX12_scan 50 = .ok (.getfield 81, 3) := by decide +kernel
theorem dX12_scan_53 : decode cX12_scan 53 = .ok (.aload_n 0, 1) := by decide +kernel
theorem dX12_scan_54 : decode cX12_scan 54 = .ok (.getfield 594, 3) := by decide +kernel
theorem dX12_scan_57 : decode cX12_scan 57 = .ok (.iload_n 1, 1) := by decide +kernel
theorem dX12_scan_58 : decode cX12_scan 58 = .ok (.iastore, 1) := by decide +kernel
theorem dX12_scan_59 : decode cX12_scan 59 = .ok (.aload_n 0, 1) := by decide +kernel
theorem dX12_scan_60 : decode cX12_scan 60 = .ok (.getfield 84, 3) := by decide +kernel
theorem dX12_scan_63 : decode cX12_scan 63 = .ok (.aload_n 0, 1) := by decide +kernel
theorem dX12_scan_64 : decode cX12_scan 64 = .ok (.getfield 594, 3) := by decide +kernel
theorem dX12_scan_67 : decode cX12_scan 67 = .ok (.iconst 0, 1) := by decide +kernel
theorem dX12_scan_68 : decode cX12_scan 68 = .ok (.iastore, 1) := by decide +kernel
theorem dX12_scan_69 : decode cX12_scan 69 = .ok (.aload_n 0, 1) := by decide +kernel
theorem dX12_scan_70 : decode cX12_scan 70 = .ok (.getfield 87, 3) := by decide +kernel
theorem dX12_scan_73 : decode cX12_scan 73 = .ok (.aload_n 0, 1) := by decide +kernel
theorem dX12_scan_74 : decode cX12_scan 74 = .ok (.getfield 594, 3) := by decide +kernel
theorem dX12_scan_77 : decode cX12_scan 77 = .ok (.iconst 0, 1) := by decide +kernel
theorem dX12_scan_78 : decode cX12_scan 78 = .ok (.iastore, 1) := by decide +kernel
theorem dX12_scan_79 : decode cX12_scan 79 = .ok (.aload_n 0, 1) := by decide +kernel
theorem dX12_scan_80 : decode cX12_scan 80 = .ok (.getfield 90, 3) := by decide +kernel
theorem dX12_scan_83 : decode cX12_scan 83 = .ok (.aload_n 0, 1) := by decide +kernel
theorem dX12_scan_84 : decode cX12_scan 84 = .ok (.getfield 594, 3) := by decide +kernel
theorem dX12_scan_87 : decode cX12_scan 87 = .ok (.iconst 0, 1) := by decide +kernel
theorem dX12_scan_88 : decode cX12_scan 88 = .ok (.iastore, 1) := by decide +kernel
theorem dX12_scan_89 : decode cX12_scan 89 = .ok (.iload_n 1, 1) := by decide +kernel
theorem dX12_scan_90 : decode cX12_scan 90 = .ok (.aload_n 0, 1) := by decide +kernel
theorem dX12_scan_91 : decode cX12_scan 91 = .ok (.getfield 469, 3) := by decide +kernel
theorem dX12_scan_94 : decode cX12_scan 94 = .ok (.if_icmp .ge 7, 3) := by decide +kernel
theorem dX12_scan_101 : decode cX12_scan 101 = .ok (.iconst 0, 1) := by decide +kernel
theorem dX12_scan_102 : decode cX12_scan 102 = .ok (.istore_n 2, 1) := by decide +kernel
theorem dX12_scan_103 : decode cX12_scan 103 = .ok (.iload_n 2, 1) := by decide +kernel
theorem dX12_scan_104 : decode cX12_scan 104 = .ok (.ifCond .eq (-85), 3) := by decide +kernel
theorem dX12_scan_454 : decode cX12_scan 454 = .ok (.return_, 1) := by decide +kernel
set_option maxRecDepth 20000 in
theorem ggX12_act_X12_readText : GoodIn wsX12_act wsX12_readText := goodIn_r _ [6, 7, 8, 9, 10, 11, 12, 13, 14, 15, 16, 17, 18, 19, 20, 21, 5, 22, 23, 24, 25, 26, 27, 28, 29, 30, 31, 32, 33, 34, 35, 36, 37, 38, 39, 40, 41, 42, 43, 44, 45, 46, 47, 48, 49, 50, 51, 52, 53, 54, 55, 56, 57, 58, 59, 60, 61, 62, 63, 64, 65, 66, 67, 68, 69, 70, 71, 72, 73, 74, 75, 76, 77, 78, 79, 80, 81, 82, 83, 84, 85, 86, 87, 88, 89, 90, 91, 92, 93, 94, 95, 96, 97, 98, 99, 100, 101, 102, 103, 104, 105, 106, 107, 108, 109, 110, 111, 112, 113, 114, 115, 116, 117, 118, 119, 120, 121, 122, 123, 124, 125, 126, 127, 128, 129, 130, 131, 132, 133, 134, 135, 136, 137, 138, 139, 140, 141, 142, 143, 144, 145, 146, 147, 148, 149, 150, 151, 152, 153, 154, 155, 156, 157, 158, 159, 160, 161, 162, 163, 164, 165, 166, 167, 168, 169, 170, 171, 172, 173, 174, 175, 176, 177, 178, 179, 180, 181, 182, 183, 184, 185, 186, 187, 188, 189, 190, 191, 192, 193, 194, 195, 196, 197, 198, 199, 200, 201, 202, 203, 204, 205, 206, 207, 208, 209, 210, 211, 212, 213, 214, 215, 216, 217, 218, 219, 220, 221, 222, 223, 224, 225, 226, 227, 228, 229, 230, 231, 232, 233, 234, 235, 236, 237, 238, 239, 240, 241, 242, 243, 244, 245, 246, 247, 248, 249, 250, 251, 252, 253, 254, 255, 256, 257, 258, 259, 260, 261, 262, 263, 264, 265, 266, 267, 268, 269, 270, 271, 272, 273, 274, 275, 276, 277, 278, 279, 280, 281, 282, 283, 284, 285, 286, 287, 288, 289, 290, 291, 292, 293, 294, 295, 296, 297, 298, 299, 300, 301, 302, 303, 304, 305, 306, 307, 308, 309, 310, 311, 312, 313, 314, 315, 316, 317, 318, 319, 320, 321, 322, 323, 324, 325, 326, 327, 328, 329, 330, 331, 332, 333, 334, 335, 336, 337, 338, 339, 340, 341, 342, 343, 344, 345, 346, 347, 348, 349, 350, 351, 352, 353, 354, 355, 356, 357, 358, 359, 360, 361, 362, 363, 364, 365, 366, 367, 368, 369, 370, 371, 372, 373, 374, 375, 376, 377, 378, 379, 380, 381, 382, 383, 384, 385, 386, 387, 388, 389, 390, 391, 392, 393, 394, 395, 396, 397, 398, 399, 400, 1, 401, 402, 419, 420, 421, 422, 423, 424, 425, 426, 427, 428, 429, 430, 431, 432, 433, 434, 435, 436, 437, 438, 439, 440, 441, 442, 443, 444, 445, 446, 447, 448, 449, 450, 451, 452, 453, 454, 455, 456, 457, 458, 459, 460, 461, 462, 463, 464, 465, 466, 467, 468, 469, 470, 471, 472, 473, 474, 475, 476, 477, 478, 479, 480, 481, 482, 483, 484, 485, 486, 487, 488, 489, 490, 491, 492, 493, 494, 495, 496, 497, 498, 499, 500, 501, 502, 503, 504, 505, 506, 507, 508, 509, 510, 511, 512, 513, 514, 515, 516, 517, 518, 519, 520, 521, 522, 523, 524, 525, 526, 527, 528, 529, 530, 531, 532, 533, 534, 535, 536, 537, 538, 539, 540, 541, 542, 543, 544, 545, 546, 547, 548, 549, 550, 551, 552, 553, 554, 555, 556, 557, 558, 559, 560, 561, 562, 563, 564, 565, 566, 567, 568, 569, 570, 571, 572, 573, 574, 575, 576, 577, 578, 579, 580, 581, 582, 583, 584, 585, 586, 587, 588, 589, 590, 591, 592, 593, 594, 595, 596, 597, 598, 599, 600, 601, 602, 603, 604, 605, 606, 607, 608, 609, 610, 611, 612, 613] (by decide +kernel) (by decide +kernel)
set_option maxRecDepth 20000 in
theorem gX12_act_X12_readText : GoodIn wsX12_act (wsV RX12 824 RX12 yX12_readText wsX12_readText) := goodIn_app (goodIn_of _ (by decide +kernel)) ggX12_act_X12_readText
theorem dX12_act_0 : decode cX12_act 0 = .ok (.aload_n 0, 1) := by decide +kernel
theorem dX12_act_1 : decode cX12_act 1 = .ok (.getfield 466, 3) := by decide +kernel
theorem dX12_act_4 : decode cX12_act 4 = .ok (.tableswitch 43 1 3 #[28, 33, 38], 28) := by decide +kernel
theorem dX12_act_32 : decode cX12_act 32 = .ok (.aload_n 0, 1) := by decide +kernel
theorem dX12_act_33 : decode cX12_act 33 = .ok (.invokevirtual 824, 3) := by decide +kernel
theorem dX12_act_36 : decode cX12_act 36 = .ok (.ireturn, 1) := by decide +kernel
set_option maxRecDepth 20000 in
theorem ggX12_readText_X12_scan : GoodIn wsX12_readText wsX12_scan := goodIn_r _ [17, 18, 5, 7, 19, 20, 6, 21, 22, 23, 24, 25, 26, 16, 27, 28, 29, 30, 31, 32, 33, 34, 35, 36, 37, 38, 39, 40, 41, 42, 43, 44, 45, 46, 47, 48, 49, 50, 51, 52, 53, 54, 55, 56, 57, 58, 59, 60, 61, 62, 63, 64, 65, 66, 67, 68, 69, 70, 71, 72, 73, 74, 75, 76, 77, 78, 79, 80, 81, 82, 83, 84, 85, 86, 87, 88, 89, 90, 91, 92, 93, 94, 95, 96, 97, 98, 99, 100, 101, 102, 399, 400, 401, 402, 403, 404, 405, 406, 407, 408, 409, 410, 411, 412, 413, 414, 415, 416, 417, 418, 419, 420, 421, 422, 423, 424, 425, 426, 427, 428, 429, 430, 431, 432, 433, 434, 435, 436, 437, 438, 439, 440, 441, 442, 443, 444, 445, 446, 447, 448, 449, 450, 451, 452, 453, 454, 455, 456, 457, 458, 459, 460, 461, 462, 463, 464, 465, 466, 467, 468, 469, 470, 471, 472, 473, 474, 475, 476, 477, 478, 479, 480, 481, 482, 483, 484, 485, 486, 487, 488, 489, 490, 491, 492, 493, 494, 495, 496, 497, 498, 499, 500, 501, 502, 503, 504, 505, 506, 507, 508, 509, 510, 511, 512, 513, 514, 515, 516, 517, 518, 519, 520, 521, 522, 523, 524, 525, 526, 527, 528, 529, 530, 531, 532, 533, 534, 535, 536, 537, 538, 539, 540, 541, 542, 543, 544, 545, 546, 547, 548, 549, 550, 551, 552, 553, 554, 555, 556, 557, 558, 559, 560, 561, 562, 563, 564, 565, 566, 567, 568, 569, 570, 571, 572, 573, 574, 575, 576, 577, 578, 579, 580, 581, 582, 583, 584, 585, 586, 587, 588, 589, 590, 591, 592, 593] (by decide +kernel) (by decide +kernel)
set_option maxRecDepth 20000 in
theorem gX12_readText_X12_scan : GoodIn wsX12_readText (wsV RX12 848 RX12 yX12_scan wsX12_scan) := goodIn_app (goodIn_of _ (by decide +kernel)) ggX12_readText_X12_scan
set_option maxRecDepth 20000 in
theorem ggX12_readText_X12_full : GoodIn wsX12_readText wsX12_full := goodIn_r _ [395, 396, 22, 385, 397, 398, 399, 400, 401, 402, 403, 404, 405, 406, 407, 408, 409, 410, 411, 412, 413, 414, 415, 416, 417, 418, 419, 420, 421, 422, 423, 424, 425, 426, 427, 428, 429, 430, 431, 432, 433, 434, 435, 436, 437, 438, 439, 440, 441, 442, 443, 444, 445, 446, 447, 448, 449, 450, 451, 452, 453, 454, 455, 456, 457, 458, 459, 460, 461, 462, 463, 464, 465, 466, 467, 468, 469, 470, 471, 472, 473, 474, 475, 476, 477, 478, 479, 480, 481, 482, 483, 484, 485, 486, 487, 488, 489, 490, 491, 492, 493, 494, 495, 496, 497, 498, 499, 500, 501, 502, 503, 504, 505, 506, 507, 508, 509, 510, 511, 512, 513, 514, 515, 516, 517, 518, 519, 520, 521, 522, 523, 524, 525, 526, 527, 528, 529, 530, 531, 532, 533, 534, 535, 536, 537, 538, 539, 540, 541, 542, 543, 544, 545, 546, 547, 548, 549, 550, 551, 552, 553, 554, 555, 556, 557, 558, 559, 560, 561, 562, 563, 564, 565, 566, 567, 568, 569, 570, 571, 572, 573, 574, 575, 576, 577, 578, 579, 580, 581, 582, 583, 584, 585, 586, 587, 588, 589, 590, 591, 592, 593] (by decide +kernel) (by decide +kernel)
set_option maxRecDepth 20000 in
theorem gX12_readText_X12_full : GoodIn wsX12_readText (wsV RX12 865 RX12 yX12_full wsX12_full) := goodIn_app (goodIn_of _ (by decide +kernel)) ggX12_readText_X12_full
theorem dX12_readText_0 : decode cX12_readText 0 = .ok (.aload_n 0, 1) := by decide +kernel
theorem dX12_readText_1 : decode cX12_readText 1 = .ok (.aload_n 0, 1) := by decide +kernel
theorem dX12_readText_2 : decode cX12_readText 2 = .ok (.getfield 815, 3) := by decide +kernel
theorem dX12_readText_5 : decode cX12_readText 5 = .ok (.putfield 620, 3) := by decide +kernel
theorem dX12_readText_8 : decode cX12_readText 8 = .ok (.aload_n 0, 1) := by decide +kernel
theorem dX12_readText_9 : decode cX12_readText 9 = .ok (.aload_n 0, 1) := by decide +kernel
theorem dX12_readText_10 : decode cX12_readText 10 = .ok (.getfield 818, 3) := by decide +kernel
theorem dX12_readText_13 : decode cX12_readText 13 = .ok (.putfield 627, 3) := by decide +kernel
theorem dX12_readText_16 : decode cX12_readText 16 = .ok (.aload_n 0, 1) := by decide +kernel
theorem dX12_readText_17 : decode cX12_readText 17 = .ok (.invokevirtual 848, 3) := by decide +kernel
theorem dX12_readText_20 : decode cX12_readText 20 = .ok (.aload_n 0, 1) := by decide +kernel
theorem dX12_readText_21 : decode cX12_readText 21 = .ok (.getfield 562, 3) := by decide +kernel
theorem dX12_readText_24 : decode cX12_readText 24 = .ok (.ifCond .ne 82, 3) := by decide +kernel
theorem dX12_readText_27 : decode cX12_readText 27 = .ok (.aload_n 0, 1) := by decide +kernel
theorem dX12_readText_28 : decode cX12_readText 28 = .ok (.getfield 87, 3) := by decide +kernel
theorem dX12_readText_31 : decode cX12_readText 31 = .ok (.aload_n 0, 1) := by decide +kernel
theorem dX12_readText_32 : decode cX12_readText 32 = .ok (.getfield 597, 3) := by decide +kernel
theorem dX12_readText_35 : decode cX12_readText 35 = .ok (.iaload, 1) := by decide +kernel
theorem dX12_readText_36 : decode cX12_readText 36 = .ok (.ifCond .eq 70, 3) := by decide +kernel
theorem dX12_readText_106 : decode cX12_readText 106 = .ok (.aload_n 0, 1) := by decide +kernel
theorem dX12_readText_107 : decode cX12_readText 107 = .ok (.getfield 818, 3) := by decide +kernel
theorem dX12_readText_110 : decode cX12_readText 110 = .ok (.istore_n 1, 1) := by decide +kernel
theorem dX12_readText_111 : decode cX12_readText 111 = .ok (.iload_n 1, 1) := by decide +kernel
theorem dX12_readText_112 : decode cX12_readText 112 = .ok (.aload_n 0, 1) := by decide +kernel
theorem dX12_readText_113 : decode cX12_readText 113 = .ok (.getfield 627, 3) := by decide +kernel
theorem dX12_readText_116 : decode cX12_readText 116 = .ok (.if_icmp .ge 41, 3) := by decide +kernel
theorem dX12_readText_157 : decode cX12_readText 157 = .ok (.aload_n 0, 1) := by decide +kernel
theorem dX12_readText_158 : decode cX12_readText 158 = .ok (.getfield 562, 3) := by decide +kernel
theorem dX12_readText_161 : decode cX12_readText 161 = .ok (.ifCond .eq 12, 3) := by decide +kernel
theorem dX12_readText_173 : decode cX12_readText 173 = .ok (.aload_n 0, 1) := by decide +kernel
theorem dX12_readText_174 : decode cX12_readText 174 = .ok (.invokevirtual 865, 3) := by decide +kernel
theorem dX12_readText_177 : decode cX12_readText 177 = .ok (.ifCond .eq 10, 3) := by decide +kernel
theorem dX12_readText_187 : decode cX12_readText 187 = .ok (.aload_n 0, 1) := by decide +kernel
theorem dX12_readText_188 : decode cX12_readText 188 = .ok (.getfield 627, 3) := by decide +kernel
theorem dX12_readText_191 : decode cX12_readText 191 = .ok (.aload_n 0, 1) := by decide +kernel
theorem dX12_readText_192 : decode cX12_readText 192 = .ok (.getfield 818, 3) := by decide +kernel
theorem dX12_readText_195 : decode cX12_readText 195 = .ok (.isub, 1) := by decide +kernel
theorem dX12_readText_196 : decode cX12_readText 196 = .ok (.istore_n 1, 1) := by decide +kernel
theorem dX12_readText_197 : decode cX12_readText 197 = .ok (.aload_n 0, 1) := by decide +kernel
theorem dX12_readText_198 : decode cX12_readText 198 = .ok (.getfield 818, 3) := by decide +kernel
theorem dX12_readText_201 : decode cX12_readText 201 = .ok (.istore_n 2, 1) := by decide +kernel
theorem dX12_readText_202 : decode cX12_readText 202 = .ok (.iload_n 2, 1) := by decide +kernel
theorem dX12_readText_203 : decode cX12_readText 203 = .ok (.aload_n 0, 1) := by decide +kernel
theorem dX12_readText_204 : decode cX12_readText 204 = .ok (.getfield 627, 3) := by decide +kernel
theorem dX12_readText_207 : decode cX12_readText 207 = .ok (.if_icmp .ge 26, 3) := by decide +kernel
theorem dX12_readText_233 : decode cX12_readText 233 = .ok (.aload_n 0, 1) := by decide +kernel
theorem dX12_readText_234 : decode cX12_readText 234 = .ok (.aload_n 0, 1) := by decide +kernel
theorem dX12_readText_235 : decode cX12_readText 235 = .ok (.getfield 620, 3) := by decide +kernel
theorem dX12_readText_238 : decode cX12_readText 238 = .ok (.putfield 815, 3) := by decide +kernel
theorem dX12_readText_241 : decode cX12_readText 241 = .ok (.aload_n 0, 1) := by decide +kernel
theorem dX12_readText_242 : decode cX12_readText 242 = .ok (.aload_n 0, 1) := by decide +kernel
theorem dX12_readText_243 : decode cX12_readText 243 = .ok (.getfield 627, 3) := by decide +kernel
theorem dX12_readText_246 : decode cX12_readText 246 = .ok (.putfield 818, 3) := by decide +kernel
theorem dX12_readText_249 : decode cX12_readText 249 = .ok (.iload_n 1, 1) := by decide +kernel
theorem dX12_readText_250 : decode cX12_readText 250 = .ok (.ireturn, 1) := by decide +kernel
set_option maxRecDepth 20000 in
theorem ggX12_read_X12_call : GoodIn wsX12_read wsX12_call := goodIn_r _ [5, 6, 7, 8, 9, 10, 11, 12, 13, 14, 15, 16, 17, 4, 18, 19, 20, 21, 22, 23, 24, 25, 26, 27, 28, 29, 30, 31, 32, 33, 34, 35, 36, 37, 38, 39, 40, 41, 42, 43, 44, 45, 46, 47, 48, 49, 50, 51, 52, 53, 54, 55, 56, 57, 58, 59, 60, 61, 62, 63, 64, 65, 66, 67, 68, 69, 70, 71, 72, 73, 74, 75, 76, 77, 78, 79, 80, 81, 82, 83, 84, 85, 86, 87, 88, 89, 90, 91, 92, 93, 94, 95, 96, 97, 98, 99, 100, 101, 102, 103, 104, 105, 106, 107, 108, 109, 110, 111, 112, 113, 114, 115, 116, 117, 118, 119, 120, 121, 122, 123, 124, 125, 126, 127, 128, 129, 130, 131, 132, 133, 134, 135, 136, 137, 138, 139, 140, 141, 142, 143, 144, 145, 146, 147, 148, 149, 150, 151, 152, 153, 154, 155, 156, 157, 158, 159, 160, 161, 162, 163, 164, 165, 166, 167, 168, 169, 170, 171, 172, 173, 174, 175, 176, 177, 178, 179, 180, 181, 182, 183, 184, 185, 186, 187, 188, 189, 190, 191, 192, 193, 194, 195, 196, 197, 198, 199, 200, 201, 202, 203, 204, 205, 206, 207, 208, 209, 210, 211, 212, 213, 214, 215, 216, 217, 218, 219, 220, 221, 222, 223, 224, 225, 226, 227, 228, 229, 230, 231, 232, 233, 234, 235, 236, 237, 238, 239, 240, 241, 242, 243, 244, 245, 246, 247, 248, 249, 250, 251, 252, 253, 254, 255, 256, 257, 258, 259, 260, 261, 262, 263, 264, 265, 266, 267, 268, 269, 270, 271, 272, 273, 274, 275, 276, 277, 278, 279, 280, 281, 282, 283, 284, 285, 286, 287, 288, 289, 290, 291, 292, 293, 294, 295, 296, 297, 298, 299, 300, 301, 302, 303, 304, 305, 306, 307, 308, 309, 310, 311, 312, 313, 314, 315, 316, 317, 318, 319, 320, 321, 322, 323, 324, 325, 326, 327, 328, 329, 330, 331, 332, 333, 334, 335, 336, 337, 338, 339, 340, 341, 342, 343, 344, 345, 346, 347, 348, 349, 350, 351, 352, 353, 354, 355, 356, 357, 358, 359, 360, 361, 362, 363, 364, 365, 366, 367, 368, 369, 370, 371, 372, 373, 374, 375, 376, 377, 378, 379, 380, 381, 382, 383, 384, 385, 386, 387, 388, 389, 390, 391, 392, 393, 394, 395, 396, 397, 398, 399, 400, 401, 402, 403, 404, 405, 406, 407, 408, 409, 410, 411, 412, 413, 414, 415, 416, 417, 418, 419, 420, 421, 422, 423, 424, 425, 426, 427, 428, 429, 430, 431, 432, 433, 434, 435, 436, 437, 438, 439, 440, 441, 442, 443, 444, 445, 446, 447, 448, 449, 450, 451, 452, 453, 454, 455, 456, 457, 458, 459, 460, 461, 462, 463, 464, 465, 466, 467, 468, 469, 470, 471, 472, 473, 474, 475, 476, 477, 478, 479, 480, 481, 482, 483, 484, 485, 486, 487, 488, 489, 490, 491, 492, 493, 494, 495, 496, 497, 498, 499, 500, 501, 502, 503, 504, 505, 506, 507, 508, 509, 510, 511, 512, 513, 514, 515, 516, 517, 518, 519, 520, 521, 522, 523, 524, 525, 526, 527, 528, 529, 530, 531, 532, 533, 534, 535, 536, 537, 538, 539, 540, 541, 542, 543, 544, 545, 546, 547, 548, 549, 550, 551, 552, 553, 554, 555, 556, 557, 558, 559, 560, 561, 562, 563, 564, 565, 566, 567, 568, 569, 570, 571, 572, 573, 574, 575, 576, 577, 578, 579, 580, 581, 582, 583, 584, 585, 586, 587, 588, 589, 590, 591, 592, 593, 594, 595, 596, 597, 598, 599, 600, 601, 602, 603, 604, 605, 606, 607, 608, 609, 610, 611, 612, 613, 614, 615, 616, 617, 618, 619, 620, 621, 622, 623, 624, 625, 626, 627, 628, 629, 630, 631, 632, 633, 634, 635, 636, 637, 638, 639] (by decide +kernel) (by decide +kernel)
set_option maxRecDepth 20000 in
theorem gX12_read_X12_call : GoodIn wsX12_read (wsV RX12 868 RX12 yX12_call wsX12_call) := goodIn_app (goodIn_of _ (by decide +kernel)) ggX12_read_X12_call
theorem dX12_read_0 : decode cX12_read 0 = .ok (.aload_n 0, 1) := by decide +kernel
theorem dX12_read_1 : decode cX12_read 1 = .ok (.iconst 1, 1) := by decide +kernel
theorem dX12_read_2 : decode cX12_read 2 = .ok (.invokevirtual 868, 3) := by decide +kernel
theorem dX12_read_5 : decode cX12_read 5 = .ok (.ireturn, 1) := by decide +kernel
theorem dX12_fault_0 : decode cX12_fault 0 = .ok (.aload_n 0, 1) := by decide +kernel
theorem dX12_fault_1 : decode cX12_fault 1 = .ok (.iconst 0, 1) := by decide +kernel
theorem dX12_fault_2 : decode cX12_fault 2 = .ok (.putfield 3, 3) := by decide +kernel
theorem dX12_fault_5 : decode cX12_fault 5 = .ok (.aload_n 0, 1) := by decide +kernel
theorem dX12_fault_6 : decode cX12_fault 6 = .ok (.getfield 836, 3) := by decide +kernel
theorem dX12_fault_9 : decode cX12_fault 9 = .ok (.ireturn, 1) := by decide +kernel
theorem dX12_count_0 : decode cX12_count 0 = .ok (.aload_n 0, 1) := by decide +kernel
theorem dX12_count_1 : decode cX12_count 1 = .ok (.iconst 0, 1) := by decide +kernel
theorem dX12_count_2 : decode cX12_count 2 = .ok (.putfield 3, 3) := by decide +kernel
theorem dX12_count_5 : decode cX12_count 5 = .ok (.iload_n 1, 1) := by decide +kernel
theorem dX12_count_6 : decode cX12_count 6 = .ok (.iconst 4, 1) := by decide +kernel
theorem dX12_count_7 : decode cX12_count 7 = .ok (.if_icmp .ne 8, 3) := by decide +kernel
theorem dX12_count_10 : decode cX12_count 10 = .ok (.aload_n 0, 1) := by decide +kernel
theorem dX12_count_11 : decode cX12_count 11 = .ok (.getfield 485, 3) := by decide +kernel
theorem dX12_count_14 : decode cX12_count 14 = .ok (.ireturn, 1) := by decide +kernel
theorem dX12_count_15 : decode cX12_count 15 = .ok (.aload_n 0, 1) := by decide +kernel
theorem dX12_count_16 : decode cX12_count 16 = .ok (.getfield 488, 3) := by decide +kernel
theorem dX12_count_19 : decode cX12_count 19 = .ok (.ifCond .eq 6, 3) := by decide +kernel
theorem dX12_count_25 : decode cX12_count 25 = .ok (.iconst 0, 1) := by decide +kernel
theorem dX12_count_26 : decode cX12_count 26 = .ok (.istore_n 2, 1) := by decide +kernel
theorem dX12_count_27 : decode cX12_count 27 = .ok (.iconst 0, 1) := by decide +kernel
theorem dX12_count_28 : decode cX12_count 28 = .ok (.istore_n 3, 1) := by decide +kernel
theorem dX12_count_29 : decode cX12_count 29 = .ok (.iload_n 3, 1) := by decide +kernel
theorem dX12_count_30 : decode cX12_count 30 = .ok (.aload_n 0, 1) := by decide +kernel
theorem dX12_count_31 : decode cX12_count 31 = .ok (.getfield 818, 3) := by decide +kernel
theorem dX12_count_34 : decode cX12_count 34 = .ok (.if_icmp .ge 26, 3) := by decide +kernel
theorem dX12_count_60 : decode cX12_count 60 = .ok (.iload_n 1, 1) := by decide +kernel
theorem dX12_count_61 : decode cX12_count 61 = .ok (.tableswitch 79 0 7 #[47, 52, 57, 59, 79, 64, 69, 74], 47) := by decide +kernel
theorem dX12_count_108 : decode cX12_count 108 = .ok (.aload_n 0, 1) := by decide +kernel
theorem dX12_count_109 : decode cX12_count 109 = .ok (.getfield 815, 3) := by decide +kernel
theorem dX12_count_112 : decode cX12_count 112 = .ok (.ireturn, 1) := by decide +kernel
theorem dX12_count_113 : decode cX12_count 113 = .ok (.aload_n 0, 1) := by decide +kernel
theorem dX12_count_114 : decode cX12_count 114 = .ok (.getfield 818, 3) := by decide +kernel
theorem dX12_count_117 : decode cX12_count 117 = .ok (.ireturn, 1) := by decide +kernel
theorem dX12_count_118 : decode cX12_count 118 = .ok (.iload_n 2, 1) := by decide +kernel
theorem dX12_count_119 : decode cX12_count 119 = .ok (.ireturn, 1) := by decide +kernel
theorem dX12_count_120 : decode cX12_count 120 = .ok (.aload_n 0, 1) := by decide +kernel
theorem dX12_count_121 : decode cX12_count 121 = .ok (.getfield 821, 3) := by decide +kernel
theorem dX12_count_124 : decode cX12_count 124 = .ok (.ireturn, 1) := by decide +kernel
theorem dX12_count_125 : decode cX12_count 125 = .ok (.aload_n 0, 1) := by decide +kernel
theorem dX12_count_126 : decode cX12_count 126 = .ok (.getfield 475, 3) := by decide +kernel
theorem dX12_count_129 : decode cX12_count 129 = .ok (.ireturn, 1) := by decide +kernel
theorem dX12_count_130 : decode cX12_count 130 = .ok (.aload_n 0, 1) := by decide +kernel
theorem dX12_count_131 : decode cX12_count 131 = .ok (.getfield 478, 3) := by decide +kernel
theorem dX12_count_134 : decode cX12_count 134 = .ok (.ireturn, 1) := by decide +kernel
theorem dX12_count_135 : decode cX12_count 135 = .ok (.aload_n 0, 1) := by decide +kernel
theorem dX12_count_136 : decode cX12_count 136 = .ok (.getfield 498, 3) := by decide +kernel
theorem dX12_count_139 : decode cX12_count 139 = .ok (.ireturn, 1) := by decide +kernel
theorem dX12_count_140 : decode cX12_count 140 = .ok (.iconst (-1), 1) := by decide +kernel
theorem dX12_count_141 : decode cX12_count 141 = .ok (.ireturn, 1) := by decide +kernel
theorem dJ6_bitCount_0f7a4_0 : decode cJ6_bitCount_0f7a4 0 = .ok (.iload_n 0, 1) := by decide +kernel
theorem dJ6_bitCount_0f7a4_1 : decode cJ6_bitCount_0f7a4 1 = .ok (.iload_n 0, 1) := by decide +kernel
theorem dJ6_bitCount_0f7a4_2 : decode cJ6_bitCount_0f7a4 2 = .ok (.iconst 1, 1) := by decide +kernel
theorem dJ6_bitCount_0f7a4_3 : decode cJ6_bitCount_0f7a4 3 = .ok (.iushr, 1) := by decide +kernel
theorem dJ6_bitCount_0f7a4_4 : decode cJ6_bitCount_0f7a4 4 = .ok (.ldc_w 265, 3) := by decide +kernel
theorem dJ6_bitCount_0f7a4_7 : decode cJ6_bitCount_0f7a4 7 = .ok (.iand, 1) := by decide +kernel
theorem dJ6_bitCount_0f7a4_8 : decode cJ6_bitCount_0f7a4 8 = .ok (.isub, 1) := by decide +kernel
theorem dJ6_bitCount_0f7a4_9 : decode cJ6_bitCount_0f7a4 9 = .ok (.istore_n 0, 1) := by decide +kernel
theorem dJ6_bitCount_0f7a4_10 : decode cJ6_bitCount_0f7a4 10 = .ok (.iload_n 0, 1) := by decide +kernel
theorem dJ6_bitCount_0f7a4_11 : decode cJ6_bitCount_0f7a4 11 = .ok (.ldc_w 266, 3) := by decide +kernel
theorem dJ6_bitCount_0f7a4_14 : decode cJ6_bitCount_0f7a4 14 = .ok (.iand, 1) := by decide +kernel
theorem dJ6_bitCount_0f7a4_15 : decode cJ6_bitCount_0f7a4 15 = .ok (.iload_n 0, 1) := by decide +kernel
theorem dJ6_bitCount_0f7a4_16 : decode cJ6_bitCount_0f7a4 16 = .ok (.iconst 2, 1) := by decide +kernel
theorem dJ6_bitCount_0f7a4_17 : decode cJ6_bitCount_0f7a4 17 = .ok (.iushr, 1) := by decide +kernel
theorem dJ6_bitCount_0f7a4_18 : decode cJ6_bitCount_0f7a4 18 = .ok (.ldc_w 266, 3) := by decide +kernel
theorem dJ6_bitCount_0f7a4_21 : decode cJ6_bitCount_0f7a4 21 = .ok (.iand, 1) := by decide +kernel
theorem dJ6_bitCount_0f7a4_22 : decode cJ6_bitCount_0f7a4 22 = .ok (.iadd, 1) := by decide +kernel
theorem dJ6_bitCount_0f7a4_23 : decode cJ6_bitCount_0f7a4 23 = .ok (.istore_n 0, 1) := by decide +kernel
theorem dJ6_bitCount_0f7a4_24 : decode cJ6_bitCount_0f7a4 24 = .ok (.iload_n 0, 1) := by decide +kernel
theorem dJ6_bitCount_0f7a4_25 : decode cJ6_bitCount_0f7a4 25 = .ok (.iload_n 0, 1) := by decide +kernel
theorem dJ6_bitCount_0f7a4_26 : decode cJ6_bitCount_0f7a4 26 = .ok (.iconst 4, 1) := by decide +kernel
theorem dJ6_bitCount_0f7a4_27 : decode cJ6_bitCount_0f7a4 27 = .ok (.iushr, 1) := by decide +kernel
theorem dJ6_bitCount_0f7a4_28 : decode cJ6_bitCount_0f7a4 28 = .ok (.iadd, 1) := by decide +kernel
theorem dJ6_bitCount_0f7a4_29 : decode cJ6_bitCount_0f7a4 29 = .ok (.ldc_w 267, 3) := by decide +kernel
theorem dJ6_bitCount_0f7a4_32 : decode cJ6_bitCount_0f7a4 32 = .ok (.iand, 1) := by decide +kernel
theorem dJ6_bitCount_0f7a4_33 : decode cJ6_bitCount_0f7a4 33 = .ok (.istore_n 0, 1) := by decide +kernel
theorem dJ6_bitCount_0f7a4_34 : decode cJ6_bitCount_0f7a4 34 = .ok (.iload_n 0, 1) := by decide +kernel
theorem dJ6_bitCount_0f7a4_35 : decode cJ6_bitCount_0f7a4 35 = .ok (.iload_n 0, 1) := by decide +kernel
theorem dJ6_bitCount_0f7a4_36 : decode cJ6_bitCount_0f7a4 36 = .ok (.bipush 8, 2) := by decide +kernel
theorem dJ6_bitCount_0f7a4_38 : decode cJ6_bitCount_0f7a4 38 = .ok (.iushr, 1) := by decide +kernel
theorem dJ6_bitCount_0f7a4_39 : decode cJ6_bitCount_0f7a4 39 = .ok (.iadd, 1) := by decide +kernel
theorem dJ6_bitCount_0f7a4_40 : decode cJ6_bitCount_0f7a4 40 = .ok (.istore_n 0, 1) := by decide +kernel
theorem dJ6_bitCount_0f7a4_41 : decode cJ6_bitCount_0f7a4 41 = .ok (.iload_n 0, 1) := by decide +kernel
theorem dJ6_bitCount_0f7a4_42 : decode cJ6_bitCount_0f7a4 42 = .ok (.iload_n 0, 1) := by decide +kernel
theorem dJ6_bitCount_0f7a4_43 : decode cJ6_bitCount_0f7a4 43 = .ok (.bipush 16, 2) := by decide +kernel
theorem dJ6_bitCount_0f7a4_45 : decode cJ6_bitCount_0f7a4 45 = .ok (.iushr, 1) := by decide +kernel
theorem dJ6_bitCount_0f7a4_46 : decode cJ6_bitCount_0f7a4 46 = .ok (.iadd, 1) := by decide +kernel
theorem dJ6_bitCount_0f7a4_47 : decode cJ6_bitCount_0f7a4 47 = .ok (.istore_n 0, 1) := by decide +kernel
theorem dJ6_bitCount_0f7a4_48 : decode cJ6_bitCount_0f7a4 48 = .ok (.iload_n 0, 1) := by decide +kernel
theorem dJ6_bitCount_0f7a4_49 : decode cJ6_bitCount_0f7a4 49 = .ok (.bipush 63, 2) := by decide +kernel
theorem dJ6_bitCount_0f7a4_51 : decode cJ6_bitCount_0f7a4 51 = .ok (.iand, 1) := by decide +kernel
theorem dJ6_bitCount_0f7a4_52 : decode cJ6_bitCount_0f7a4 52 = .ok (.ireturn, 1) := by decide +kernel
set_option maxHeartbeats 400000000 in
set_option maxRecDepth 100000 in
theorem c_X12_count_0 (l : Launch) (E : kE) (D : va_G) (cI cJ cB cZ : ClassId) (h0 : Nat) (x0 : Int32) (f0 : List Value) (e0 : f0[0]? = some (.int 0)) (e1 : ¬ ((x0 : Int32) = 4)) (e2 : f0[5]? = some (.int 0)) (e3 : f0[33]? = some (.int 0)) (e4 : (x0 : Int32) = 1) : kI l E D (kT cI cJ cB cZ) yX12_count wsX12_count ({ frames := 0, cells := 0, slots := 0, locals := 0 }) [.ref h0, .int x0] [(h0, .inr (12, f0))] (0) [(h0, .inr (12, (f0.set 0 (.int 0))))] 0 0 := by
  intro sz
  refine Met.ofW (cc := cX12_count) (maxL := 4) (ret := (some .int)) (by decide) rfl ?_
  intro p e s m args below meth c s₁ B hml hv
  obtain ⟨rfl, hsz, hP, hK, hD0, hN, hX⟩ := hv
  have hx := B.exec
  have hb := B.bytes
  have hr := B.returns
  have hts := atoms_spec (ws := wsX12_count) B.pre
  have hown : s.vm.findClass RX12 = some m.cls := findClass_of_methodNamed B.named
  have hlocks := B.notSynchronized
  have hin12 : ∀ w ∈ wsX120, w ∈ wsX12_count := (fun w h => (List.mem_cons_of_mem _ (List.mem_append_right _ h)))
  subst hsz
  have hD := hD0.self (sz := s.heap.size)
  have hAE := k_AE hD0 hX
  generalize hAe : va_A [(h0, .inr (12, f0))] s.heap.size = A at hD hAE ⊢
  have hA : ∀ q : Nat, s.heap.size ≤ q → A q := fun q h => by rw [← hAe]; exact Or.inr h
  have hS : va_S A s.heap s.heap [] := va_S.rf
  have hP : va_P D vwCl [(h0, .inr (12, f0))] s.heap := hP
  have hl := lv_entry ([.ref h0, .int x0] : List Value) (n := 4) (Nat.le_of_ble_eq_true rfl)
  rw [lg_entry_eq]
  generalize (lg_sl ([.ref h0, .int x0]) ++ List.replicate (4 - (lg_sl ([.ref h0, .int x0])).length) Slot.unset).toArray = ls at hl ⊢
  have hl : lv_has ls 4 [(0, .ref h0), (1, .int x0)] := hl
  refine lv_aload_n hx hb dX12_count_0 rfl (lv_at hl 0 rfl) ?_
  refine lv_iconst (v := 0) hx hb dX12_count_1 (by decide) ?_
  refine va_put (D := D) (ref := "IntegerHouseModel") (ci := 12) (v := .int 0) (ty := .int) (C := RX12) (T := TX12) (N := 195) hx hb hts hin12 tyX12 tyX12_ok nmX12 hown hK hP hD hS 0 rfl rfl 0 (by decide) (hts (.fieldLink RX12 3 "IntegerHouseModel" "thrown" "I") (List.mem_cons_of_mem _ (List.mem_append_left _ (List.mem_of_getElem? (i := 0) rfl)))) (fun _ h9 => h9) rfl (by decide +kernel) rfl rfl (k_len e0) dX12_count_2 (fun H locs hP hD hS => ?_)
  have hP : va_P D vwCl [(h0, .inr (12, (f0.set 0 (.int 0))))] H := hP
  have hD : va_D A [(h0, .inr (12, (f0.set 0 (.int 0))))] := hD
  refine lv_iload_n hx hb dX12_count_5 rfl (lv_at hl 1 rfl) ?_
  refine lv_iconst (v := 4) hx hb dX12_count_6 (by decide) ?_
  refine lv_icmp_ne (tgt := 15) hx hb dX12_count_7 (by decide) (fun _ => ?_) (fun c9 => absurd c9 e1)
  refine lv_aload_n hx hb dX12_count_15 rfl (lv_at hl 0 rfl) ?_
  refine va_get (D := D) (ref := "IntegerHouseModel") (ci := 12) (v := .int 0) (C := RX12) (T := TX12) (N := 195) hx hb hts hin12 hown hK hP 0 rfl rfl 5 (by decide) (hts (.fieldLink RX12 488 "IntegerHouseModel" "down" "Z") (List.mem_cons_of_mem _ (List.mem_append_left _ (List.mem_of_getElem? (i := 2) rfl)))) (fun _ h9 => h9) (k_ne (by decide) e2) dX12_count_16 ?_
  refine lv_if_eq (tgt := 25) hx hb dX12_count_19 (by decide) (fun _ => ?_) (fun c9 => absurd (by decide) c9)
  refine lv_iconst (v := 0) hx hb dX12_count_25 (by decide) ?_
  refine lv_istore_n (lv' := [(2, .int 0), (0, .ref h0), (1, .int x0)]) hx hb dX12_count_26 rfl hl (by decide) rfl (fun ls hl => ?_)
  refine lv_iconst (v := 0) hx hb dX12_count_27 (by decide) ?_
  refine lv_istore_n (lv' := [(3, .int 0), (2, .int 0), (0, .ref h0), (1, .int x0)]) hx hb dX12_count_28 rfl hl (by decide) rfl (fun ls hl => ?_)
  refine lv_iload_n hx hb dX12_count_29 rfl (lv_at hl 0 rfl) ?_
  refine lv_aload_n hx hb dX12_count_30 rfl (lv_at hl 2 rfl) ?_
  refine va_get (D := D) (ref := "IntegerHouseModel") (ci := 12) (v := .int 0) (C := RX12) (T := TX12) (N := 195) hx hb hts hin12 hown hK hP 0 rfl rfl 33 (by decide) (hts (.fieldLink RX12 818 "IntegerHouseModel" "claims" "I") (List.mem_cons_of_mem _ (List.mem_append_left _ (List.mem_of_getElem? (i := 3) rfl)))) (fun _ h9 => h9) (k_ne (by decide) e3) dX12_count_31 ?_
  refine lv_icmp_ge (tgt := 60) hx hb dX12_count_34 (by decide) (fun _ => ?_) (fun c9 => absurd (by decide) c9)
  refine lv_iload_n hx hb dX12_count_60 rfl (lv_at hl 3 rfl) ?_
  refine lv_tableIn (off := 52) (tgt := 113) hx hb dX12_count_61 (by rw [e4]; decide) (by rw [e4]; decide) (by rw [e4]; rfl) (by decide) ?_
  refine lv_aload_n hx hb dX12_count_113 rfl (lv_at hl 2 rfl) ?_
  refine va_get (D := D) (ref := "IntegerHouseModel") (ci := 12) (v := .int 0) (C := RX12) (T := TX12) (N := 195) hx hb hts hin12 hown hK hP 0 rfl rfl 33 (by decide) (hts (.fieldLink RX12 818 "IntegerHouseModel" "claims" "I") (List.mem_cons_of_mem _ (List.mem_append_left _ (List.mem_of_getElem? (i := 3) rfl)))) (fun _ h9 => h9) (k_ne (by decide) e3) dX12_count_114 ?_
  exact W.iret (v := 0) hx hb hr (fun t ht hW => ⟨⟨0, (), rfl, rfl, kB_mk ht hW hP hK hD⟩, hS.F ht⟩) hS.2.2 dX12_count_117
set_option maxHeartbeats 400000000 in
set_option maxRecDepth 100000 in
theorem c_X11_count_1 (l : Launch) (E : kE) (D : va_G) (cI cJ cB cZ : ClassId) (h0 : Nat) (x0 : Int32) (f0 : List Value) (e0 : (x0 : Int32) = 4) (e1 : f0[12]? = some (.int 0)) : kI l E D (kT cI cJ cB cZ) yX11_count wsX11_count ({ frames := 0, cells := 0, slots := 0, locals := 0 }) [.ref h0, .int x0] [(h0, .inr (11, f0))] (0) [(h0, .inr (11, f0))] 0 0 := by
  intro sz
  refine Met.ofW (cc := cX11_count) (maxL := 2) (ret := (some .int)) (by decide) rfl ?_
  intro p e s m args below meth c s₁ B hml hv
  obtain ⟨rfl, hsz, hP, hK, hD0, hN, hX⟩ := hv
  have hx := B.exec
  have hb := B.bytes
  have hr := B.returns
  have hts := atoms_spec (ws := wsX11_count) B.pre
  have hown : s.vm.findClass RX11 = some m.cls := findClass_of_methodNamed B.named
  have hlocks := B.notSynchronized
  have hin11 : ∀ w ∈ wsX110, w ∈ wsX11_count := (fun w h => (List.mem_cons_of_mem _ (List.mem_append_left _ (List.mem_append_left _ (List.mem_append_right _ h)))))
  subst hsz
  have hD := hD0.self (sz := s.heap.size)
  have hAE := k_AE hD0 hX
  generalize hAe : va_A [(h0, .inr (11, f0))] s.heap.size = A at hD hAE ⊢
  have hA : ∀ q : Nat, s.heap.size ≤ q → A q := fun q h => by rw [← hAe]; exact Or.inr h
  have hS : va_S A s.heap s.heap [] := va_S.rf
  have hP : va_P D vwCl [(h0, .inr (11, f0))] s.heap := hP
  have hl := lv_entry ([.ref h0, .int x0] : List Value) (n := 2) (Nat.le_of_ble_eq_true rfl)
  rw [lg_entry_eq]
  generalize (lg_sl ([.ref h0, .int x0]) ++ List.replicate (2 - (lg_sl ([.ref h0, .int x0])).length) Slot.unset).toArray = ls at hl ⊢
  have hl : lv_has ls 2 [(0, .ref h0), (1, .int x0)] := hl
  refine lv_iload_n hx hb dX11_count_0 rfl (lv_at hl 1 rfl) ?_
  refine lv_iconst (v := 4) hx hb dX11_count_1 (by decide) ?_
  refine lv_icmp_ne (tgt := 10) hx hb dX11_count_2 (by decide) (fun c9 => absurd e0 c9) (fun _ => ?_)
  refine lv_aload_n hx hb dX11_count_5 rfl (lv_at hl 0 rfl) ?_
  refine va_get (D := D) (ref := "IntegerHouse") (ci := 11) (v := .int 0) (C := RX11) (T := TX11) (N := 15) hx hb hts hin11 hown hK hP 0 rfl rfl 12 (by decide) (hts (.fieldLink RX11 102 "IntegerHouse" "tapeLength" "I") (List.mem_cons_of_mem _ (List.mem_append_left _ (List.mem_append_left _ (List.mem_append_left _ (List.mem_of_getElem? (i := 0) rfl)))))) (fun _ h9 => h9) e1 dX11_count_6 ?_
  exact W.iret (v := 0) hx hb hr (fun t ht hW => ⟨⟨0, (), rfl, rfl, kB_mk ht hW hP hK hD⟩, hS.F ht⟩) hS.2.2 dX11_count_9
set_option maxHeartbeats 400000000 in
set_option maxRecDepth 100000 in
theorem c_X12_count_1 (l : Launch) (E : kE) (D : va_G) (cI cJ cB cZ : ClassId) (h0 : Nat) (x0 : Int32) (f0 : List Value) (e0 : f0[0]? = some (.int 0)) (e1 : (x0 : Int32) = 4) (e2 : f0[2]? = some (.int 0)) : kI l E D (kT cI cJ cB cZ) yX12_count wsX12_count ({ frames := 0, cells := 0, slots := 0, locals := 0 }) [.ref h0, .int x0] [(h0, .inr (12, f0))] (0) [(h0, .inr (12, (f0.set 0 (.int 0))))] 0 0 := by
  intro sz
  refine Met.ofW (cc := cX12_count) (maxL := 4) (ret := (some .int)) (by decide) rfl ?_
  intro p e s m args below meth c s₁ B hml hv
  obtain ⟨rfl, hsz, hP, hK, hD0, hN, hX⟩ := hv
  have hx := B.exec
  have hb := B.bytes
  have hr := B.returns
  have hts := atoms_spec (ws := wsX12_count) B.pre
  have hown : s.vm.findClass RX12 = some m.cls := findClass_of_methodNamed B.named
  have hlocks := B.notSynchronized
  have hin12 : ∀ w ∈ wsX120, w ∈ wsX12_count := (fun w h => (List.mem_cons_of_mem _ (List.mem_append_right _ h)))
  subst hsz
  have hD := hD0.self (sz := s.heap.size)
  have hAE := k_AE hD0 hX
  generalize hAe : va_A [(h0, .inr (12, f0))] s.heap.size = A at hD hAE ⊢
  have hA : ∀ q : Nat, s.heap.size ≤ q → A q := fun q h => by rw [← hAe]; exact Or.inr h
  have hS : va_S A s.heap s.heap [] := va_S.rf
  have hP : va_P D vwCl [(h0, .inr (12, f0))] s.heap := hP
  have hl := lv_entry ([.ref h0, .int x0] : List Value) (n := 4) (Nat.le_of_ble_eq_true rfl)
  rw [lg_entry_eq]
  generalize (lg_sl ([.ref h0, .int x0]) ++ List.replicate (4 - (lg_sl ([.ref h0, .int x0])).length) Slot.unset).toArray = ls at hl ⊢
  have hl : lv_has ls 4 [(0, .ref h0), (1, .int x0)] := hl
  refine lv_aload_n hx hb dX12_count_0 rfl (lv_at hl 0 rfl) ?_
  refine lv_iconst (v := 0) hx hb dX12_count_1 (by decide) ?_
  refine va_put (D := D) (ref := "IntegerHouseModel") (ci := 12) (v := .int 0) (ty := .int) (C := RX12) (T := TX12) (N := 195) hx hb hts hin12 tyX12 tyX12_ok nmX12 hown hK hP hD hS 0 rfl rfl 0 (by decide) (hts (.fieldLink RX12 3 "IntegerHouseModel" "thrown" "I") (List.mem_cons_of_mem _ (List.mem_append_left _ (List.mem_of_getElem? (i := 0) rfl)))) (fun _ h9 => h9) rfl (by decide +kernel) rfl rfl (k_len e0) dX12_count_2 (fun H locs hP hD hS => ?_)
  have hP : va_P D vwCl [(h0, .inr (12, (f0.set 0 (.int 0))))] H := hP
  have hD : va_D A [(h0, .inr (12, (f0.set 0 (.int 0))))] := hD
  refine lv_iload_n hx hb dX12_count_5 rfl (lv_at hl 1 rfl) ?_
  refine lv_iconst (v := 4) hx hb dX12_count_6 (by decide) ?_
  refine lv_icmp_ne (tgt := 15) hx hb dX12_count_7 (by decide) (fun c9 => absurd e1 c9) (fun _ => ?_)
  refine lv_aload_n hx hb dX12_count_10 rfl (lv_at hl 0 rfl) ?_
  refine va_get (D := D) (ref := "IntegerHouseModel") (ci := 12) (v := .int 0) (C := RX12) (T := TX12) (N := 195) hx hb hts hin12 hown hK hP 0 rfl rfl 2 (by decide) (hts (.fieldLink RX12 485 "IntegerHouseModel" "taped" "I") (List.mem_cons_of_mem _ (List.mem_append_left _ (List.mem_of_getElem? (i := 1) rfl)))) (fun _ h9 => h9) (k_ne (by decide) e2) dX12_count_11 ?_
  exact W.iret (v := 0) hx hb hr (fun t ht hW => ⟨⟨0, (), rfl, rfl, kB_mk ht hW hP hK hD⟩, hS.F ht⟩) hS.2.2 dX12_count_14
set_option maxHeartbeats 400000000 in
set_option maxRecDepth 100000 in
theorem c_X11_count_2 (l : Launch) (E : kE) (D : va_G) (cI cJ cB cZ : ClassId) (h0 : Nat) (x0 : Int32) (f0 : List Value) (h1 : Nat) (f1 : List Value) (h2 : Nat) (f2 : List Value) (e0 : ¬ ((x0 : Int32) = 4)) (e1 : f0[1]? = some (.ref h1)) (e2 : f1[8]? = some (.int 0)) (e3 : (x0 : Int32) = 0) (e4 : f0[2]? = some (.ref h2)) (e5 : f2[10]? = some (.int 0)) : kI l E D (kT cI cJ cB cZ) yX11_count wsX11_count ({ frames := 0, cells := 0, slots := 0, locals := 0 }) [.ref h0, .int x0] [(h0, .inr (11, f0)), (h1, .inr (1, f1)), (h2, .inr (2, f2))] (0) [(h0, .inr (11, f0)), (h1, .inr (1, f1)), (h2, .inr (2, f2))] 0 0 := by
  intro sz
  refine Met.ofW (cc := cX11_count) (maxL := 2) (ret := (some .int)) (by decide) rfl ?_
  intro p e s m args below meth c s₁ B hml hv
  obtain ⟨rfl, hsz, hP, hK, hD0, hN, hX⟩ := hv
  have hx := B.exec
  have hb := B.bytes
  have hr := B.returns
  have hts := atoms_spec (ws := wsX11_count) B.pre
  have hown : s.vm.findClass RX11 = some m.cls := findClass_of_methodNamed B.named
  have hlocks := B.notSynchronized
  have hin11 : ∀ w ∈ wsX110, w ∈ wsX11_count := (fun w h => (List.mem_cons_of_mem _ (List.mem_append_left _ (List.mem_append_left _ (List.mem_append_right _ h)))))
  have hin1 : ∀ w ∈ wsX10, w ∈ wsX11_count := (fun w h => (List.mem_cons_of_mem _ (List.mem_append_left _ (List.mem_append_right _ h))))
  have hin2 : ∀ w ∈ wsX20, w ∈ wsX11_count := (fun w h => (List.mem_cons_of_mem _ (List.mem_append_right _ h)))
  subst hsz
  have hD := hD0.self (sz := s.heap.size)
  have hAE := k_AE hD0 hX
  generalize hAe : va_A [(h0, .inr (11, f0)), (h1, .inr (1, f1)), (h2, .inr (2, f2))] s.heap.size = A at hD hAE ⊢
  have hA : ∀ q : Nat, s.heap.size ≤ q → A q := fun q h => by rw [← hAe]; exact Or.inr h
  have hS : va_S A s.heap s.heap [] := va_S.rf
  have hP : va_P D vwCl [(h0, .inr (11, f0)), (h1, .inr (1, f1)), (h2, .inr (2, f2))] s.heap := hP
  have hl := lv_entry ([.ref h0, .int x0] : List Value) (n := 2) (Nat.le_of_ble_eq_true rfl)
  rw [lg_entry_eq]
  generalize (lg_sl ([.ref h0, .int x0]) ++ List.replicate (2 - (lg_sl ([.ref h0, .int x0])).length) Slot.unset).toArray = ls at hl ⊢
  have hl : lv_has ls 2 [(0, .ref h0), (1, .int x0)] := hl
  refine lv_iload_n hx hb dX11_count_0 rfl (lv_at hl 1 rfl) ?_
  refine lv_iconst (v := 4) hx hb dX11_count_1 (by decide) ?_
  refine lv_icmp_ne (tgt := 10) hx hb dX11_count_2 (by decide) (fun _ => ?_) (fun c9 => absurd c9 e0)
  refine lv_aload_n hx hb dX11_count_10 rfl (lv_at hl 0 rfl) ?_
  refine va_get (D := D) (ref := "IntegerHouse") (ci := 11) (v := .ref h1) (C := RX11) (T := TX11) (N := 15) hx hb hts hin11 hown hK hP 0 rfl rfl 1 (by decide) (hts (.fieldLink RX11 16 "IntegerHouse" "disk" "LIntegerHouse$Disk;") (List.mem_cons_of_mem _ (List.mem_append_left _ (List.mem_append_left _ (List.mem_append_left _ (List.mem_of_getElem? (i := 1) rfl)))))) (fun _ h9 => h9) e1 dX11_count_11 ?_
  refine va_getN (host := "IntegerHouse") (D := D) (ref := "IntegerHouse$Disk") (ci := 1) (v := .int 0) (C := RX1) (T := TX1) (N := 9) hx hb hts hin1 hown hK hP 1 rfl rfl 8 (by decide) (va_Nw.use rfl (hN.1 ("IntegerHouse", 122, "IntegerHouse$Disk", "down", "Z", "IntegerHouse") (List.mem_of_getElem? (i := 3) rfl))) (fun _ h9 => h9) e2 dX11_count_14 ?_
  refine lv_if_eq (tgt := 23) hx hb dX11_count_17 (by decide) (fun _ => ?_) (fun c9 => absurd (by decide) c9)
  refine lv_iload_n hx hb dX11_count_23 rfl (lv_at hl 1 rfl) ?_
  refine lv_tableIn (off := 48) (tgt := 72) hx hb dX11_count_24 (by rw [e3]; decide) (by rw [e3]; decide) (by rw [e3]; rfl) (by decide) ?_
  refine lv_aload_n hx hb dX11_count_72 rfl (lv_at hl 0 rfl) ?_
  refine va_get (D := D) (ref := "IntegerHouse") (ci := 11) (v := .ref h2) (C := RX11) (T := TX11) (N := 15) hx hb hts hin11 hown hK hP 0 rfl rfl 2 (by decide) (hts (.fieldLink RX11 23 "IntegerHouse" "house" "LIntegerHouse$House;") (List.mem_cons_of_mem _ (List.mem_append_left _ (List.mem_append_left _ (List.mem_append_left _ (List.mem_of_getElem? (i := 2) rfl)))))) (fun _ h9 => h9) e4 dX11_count_73 ?_
  refine va_getN (host := "IntegerHouse") (D := D) (ref := "IntegerHouse$House") (ci := 2) (v := .int 0) (C := RX2) (T := TX2) (N := 16) hx hb hts hin2 hown hK hP 2 rfl rfl 10 (by decide) (va_Nw.use rfl (hN.1 ("IntegerHouse", 210, "IntegerHouse$House", "variables", "I", "IntegerHouse") (List.mem_of_getElem? (i := 10) rfl))) (fun _ h9 => h9) e5 dX11_count_76 ?_
  exact W.iret (v := 0) hx hb hr (fun t ht hW => ⟨⟨0, (), rfl, rfl, kB_mk ht hW hP hK hD⟩, hS.F ht⟩) hS.2.2 dX11_count_79
set_option maxHeartbeats 400000000 in
set_option maxRecDepth 100000 in
theorem c_X12_count_2 (l : Launch) (E : kE) (D : va_G) (cI cJ cB cZ : ClassId) (h0 : Nat) (x0 : Int32) (f0 : List Value) (e0 : f0[0]? = some (.int 0)) (e1 : ¬ ((x0 : Int32) = 4)) (e2 : f0[5]? = some (.int 0)) (e3 : f0[33]? = some (.int 0)) (e4 : (x0 : Int32) = 0) (e5 : f0[32]? = some (.int 0)) : kI l E D (kT cI cJ cB cZ) yX12_count wsX12_count ({ frames := 0, cells := 0, slots := 0, locals := 0 }) [.ref h0, .int x0] [(h0, .inr (12, f0))] (0) [(h0, .inr (12, (f0.set 0 (.int 0))))] 0 0 := by
  intro sz
  refine Met.ofW (cc := cX12_count) (maxL := 4) (ret := (some .int)) (by decide) rfl ?_
  intro p e s m args below meth c s₁ B hml hv
  obtain ⟨rfl, hsz, hP, hK, hD0, hN, hX⟩ := hv
  have hx := B.exec
  have hb := B.bytes
  have hr := B.returns
  have hts := atoms_spec (ws := wsX12_count) B.pre
  have hown : s.vm.findClass RX12 = some m.cls := findClass_of_methodNamed B.named
  have hlocks := B.notSynchronized
  have hin12 : ∀ w ∈ wsX120, w ∈ wsX12_count := (fun w h => (List.mem_cons_of_mem _ (List.mem_append_right _ h)))
  subst hsz
  have hD := hD0.self (sz := s.heap.size)
  have hAE := k_AE hD0 hX
  generalize hAe : va_A [(h0, .inr (12, f0))] s.heap.size = A at hD hAE ⊢
  have hA : ∀ q : Nat, s.heap.size ≤ q → A q := fun q h => by rw [← hAe]; exact Or.inr h
  have hS : va_S A s.heap s.heap [] := va_S.rf
  have hP : va_P D vwCl [(h0, .inr (12, f0))] s.heap := hP
  have hl := lv_entry ([.ref h0, .int x0] : List Value) (n := 4) (Nat.le_of_ble_eq_true rfl)
  rw [lg_entry_eq]
  generalize (lg_sl ([.ref h0, .int x0]) ++ List.replicate (4 - (lg_sl ([.ref h0, .int x0])).length) Slot.unset).toArray = ls at hl ⊢
  have hl : lv_has ls 4 [(0, .ref h0), (1, .int x0)] := hl
  refine lv_aload_n hx hb dX12_count_0 rfl (lv_at hl 0 rfl) ?_
  refine lv_iconst (v := 0) hx hb dX12_count_1 (by decide) ?_
  refine va_put (D := D) (ref := "IntegerHouseModel") (ci := 12) (v := .int 0) (ty := .int) (C := RX12) (T := TX12) (N := 195) hx hb hts hin12 tyX12 tyX12_ok nmX12 hown hK hP hD hS 0 rfl rfl 0 (by decide) (hts (.fieldLink RX12 3 "IntegerHouseModel" "thrown" "I") (List.mem_cons_of_mem _ (List.mem_append_left _ (List.mem_of_getElem? (i := 0) rfl)))) (fun _ h9 => h9) rfl (by decide +kernel) rfl rfl (k_len e0) dX12_count_2 (fun H locs hP hD hS => ?_)
  have hP : va_P D vwCl [(h0, .inr (12, (f0.set 0 (.int 0))))] H := hP
  have hD : va_D A [(h0, .inr (12, (f0.set 0 (.int 0))))] := hD
  refine lv_iload_n hx hb dX12_count_5 rfl (lv_at hl 1 rfl) ?_
  refine lv_iconst (v := 4) hx hb dX12_count_6 (by decide) ?_
  refine lv_icmp_ne (tgt := 15) hx hb dX12_count_7 (by decide) (fun _ => ?_) (fun c9 => absurd c9 e1)
  refine lv_aload_n hx hb dX12_count_15 rfl (lv_at hl 0 rfl) ?_
  refine va_get (D := D) (ref := "IntegerHouseModel") (ci := 12) (v := .int 0) (C := RX12) (T := TX12) (N := 195) hx hb hts hin12 hown hK hP 0 rfl rfl 5 (by decide) (hts (.fieldLink RX12 488 "IntegerHouseModel" "down" "Z") (List.mem_cons_of_mem _ (List.mem_append_left _ (List.mem_of_getElem? (i := 2) rfl)))) (fun _ h9 => h9) (k_ne (by decide) e2) dX12_count_16 ?_
  refine lv_if_eq (tgt := 25) hx hb dX12_count_19 (by decide) (fun _ => ?_) (fun c9 => absurd (by decide) c9)
  refine lv_iconst (v := 0) hx hb dX12_count_25 (by decide) ?_
  refine lv_istore_n (lv' := [(2, .int 0), (0, .ref h0), (1, .int x0)]) hx hb dX12_count_26 rfl hl (by decide) rfl (fun ls hl => ?_)
  refine lv_iconst (v := 0) hx hb dX12_count_27 (by decide) ?_
  refine lv_istore_n (lv' := [(3, .int 0), (2, .int 0), (0, .ref h0), (1, .int x0)]) hx hb dX12_count_28 rfl hl (by decide) rfl (fun ls hl => ?_)
  refine lv_iload_n hx hb dX12_count_29 rfl (lv_at hl 0 rfl) ?_
  refine lv_aload_n hx hb dX12_count_30 rfl (lv_at hl 2 rfl) ?_
  refine va_get (D := D) (ref := "IntegerHouseModel") (ci := 12) (v := .int 0) (C := RX12) (T := TX12) (N := 195) hx hb hts hin12 hown hK hP 0 rfl rfl 33 (by decide) (hts (.fieldLink RX12 818 "IntegerHouseModel" "claims" "I") (List.mem_cons_of_mem _ (List.mem_append_left _ (List.mem_of_getElem? (i := 3) rfl)))) (fun _ h9 => h9) (k_ne (by decide) e3) dX12_count_31 ?_
  refine lv_icmp_ge (tgt := 60) hx hb dX12_count_34 (by decide) (fun _ => ?_) (fun c9 => absurd (by decide) c9)
  refine lv_iload_n hx hb dX12_count_60 rfl (lv_at hl 3 rfl) ?_
  refine lv_tableIn (off := 47) (tgt := 108) hx hb dX12_count_61 (by rw [e4]; decide) (by rw [e4]; decide) (by rw [e4]; rfl) (by decide) ?_
  refine lv_aload_n hx hb dX12_count_108 rfl (lv_at hl 2 rfl) ?_
  refine va_get (D := D) (ref := "IntegerHouseModel") (ci := 12) (v := .int 0) (C := RX12) (T := TX12) (N := 195) hx hb hts hin12 hown hK hP 0 rfl rfl 32 (by decide) (hts (.fieldLink RX12 815 "IntegerHouseModel" "variables" "I") (List.mem_cons_of_mem _ (List.mem_append_left _ (List.mem_of_getElem? (i := 5) rfl)))) (fun _ h9 => h9) (k_ne (by decide) e5) dX12_count_109 ?_
  exact W.iret (v := 0) hx hb hr (fun t ht hW => ⟨⟨0, (), rfl, rfl, kB_mk ht hW hP hK hD⟩, hS.F ht⟩) hS.2.2 dX12_count_112
set_option maxHeartbeats 400000000 in
set_option maxRecDepth 100000 in
theorem c_J6_bitCount_0f7a4_0 (l : Launch) (E : kE) (D : va_G) (cI cJ cB cZ : ClassId)   : kI l E D (kT cI cJ cB cZ) yJ6_bitCount_0f7a4 wsJ6_bitCount_0f7a4 ({ frames := 0, cells := 0, slots := 0, locals := 0 }) [.int 0] [] (0) [] 0 0 := by
  intro sz
  refine Met.ofW (cc := cJ6_bitCount_0f7a4) (maxL := 1) (ret := (some .int)) (by decide) rfl ?_
  intro p e s m args below meth c s₁ B hml hv
  obtain ⟨rfl, hsz, hP, hK, hD0, hN, hX⟩ := hv
  have hx := B.exec
  have hb := B.bytes
  have hr := B.returns
  have hts := atoms_spec (ws := wsJ6_bitCount_0f7a4) B.pre
  have hown : s.vm.findClass RJ6 = some m.cls := findClass_of_methodNamed B.named
  have hlocks := B.notSynchronized
  subst hsz
  have hD := hD0.self (sz := s.heap.size)
  have hAE := k_AE hD0 hX
  generalize hAe : va_A [] s.heap.size = A at hD hAE ⊢
  have hA : ∀ q : Nat, s.heap.size ≤ q → A q := fun q h => by rw [← hAe]; exact Or.inr h
  have hS : va_S A s.heap s.heap [] := va_S.rf
  have hP : va_P D vwCl [] s.heap := hP
  have hl := lv_entry ([.int 0] : List Value) (n := 1) (Nat.le_of_ble_eq_true rfl)
  rw [lg_entry_eq]
  generalize (lg_sl ([.int 0]) ++ List.replicate (1 - (lg_sl ([.int 0])).length) Slot.unset).toArray = ls at hl ⊢
  have hl : lv_has ls 1 [(0, .int 0)] := hl
  refine lv_iload_n hx hb dJ6_bitCount_0f7a4_0 rfl (lv_at hl 0 rfl) ?_
  refine lv_iload_n hx hb dJ6_bitCount_0f7a4_1 rfl (lv_at hl 0 rfl) ?_
  refine lv_iconst (v := 1) hx hb dJ6_bitCount_0f7a4_2 (by decide) ?_
  refine lv_iushr (v := 0) hx hb dJ6_bitCount_0f7a4_3 (by decide) ?_
  refine lv_ldcw (own := RJ6) (index := 265) (v := 1431655765) hx hb hown (hts (.constant RJ6 265 (1431655765)) (List.mem_cons_of_mem _ (List.mem_of_getElem? (i := 0) rfl))) dJ6_bitCount_0f7a4_4 ?_
  refine lv_iand hx hb dJ6_bitCount_0f7a4_7 ?_
  refine k_topi (y := 0) (by decide) ?_
  refine lv_isub hx hb dJ6_bitCount_0f7a4_8 ?_
  refine k_topi (y := 0) (by decide) ?_
  refine lv_istore_n (lv' := [(0, .int 0)]) hx hb dJ6_bitCount_0f7a4_9 rfl hl (by decide) rfl (fun ls hl => ?_)
  refine lv_iload_n hx hb dJ6_bitCount_0f7a4_10 rfl (lv_at hl 0 rfl) ?_
  refine lv_ldcw (own := RJ6) (index := 266) (v := 858993459) hx hb hown (hts (.constant RJ6 266 (858993459)) (List.mem_cons_of_mem _ (List.mem_of_getElem? (i := 1) rfl))) dJ6_bitCount_0f7a4_11 ?_
  refine lv_iand hx hb dJ6_bitCount_0f7a4_14 ?_
  refine k_topi (y := 0) (by decide) ?_
  refine lv_iload_n hx hb dJ6_bitCount_0f7a4_15 rfl (lv_at hl 0 rfl) ?_
  refine lv_iconst (v := 2) hx hb dJ6_bitCount_0f7a4_16 (by decide) ?_
  refine lv_iushr (v := 0) hx hb dJ6_bitCount_0f7a4_17 (by decide) ?_
  refine lv_ldcw (own := RJ6) (index := 266) (v := 858993459) hx hb hown (hts (.constant RJ6 266 (858993459)) (List.mem_cons_of_mem _ (List.mem_of_getElem? (i := 1) rfl))) dJ6_bitCount_0f7a4_18 ?_
  refine lv_iand hx hb dJ6_bitCount_0f7a4_21 ?_
  refine k_topi (y := 0) (by decide) ?_
  refine lv_iadd hx hb dJ6_bitCount_0f7a4_22 ?_
  refine k_topi (y := 0) (by decide) ?_
  refine lv_istore_n (lv' := [(0, .int 0)]) hx hb dJ6_bitCount_0f7a4_23 rfl hl (by decide) rfl (fun ls hl => ?_)
  refine lv_iload_n hx hb dJ6_bitCount_0f7a4_24 rfl (lv_at hl 0 rfl) ?_
  refine lv_iload_n hx hb dJ6_bitCount_0f7a4_25 rfl (lv_at hl 0 rfl) ?_
  refine lv_iconst (v := 4) hx hb dJ6_bitCount_0f7a4_26 (by decide) ?_
  refine lv_iushr (v := 0) hx hb dJ6_bitCount_0f7a4_27 (by decide) ?_
  refine lv_iadd hx hb dJ6_bitCount_0f7a4_28 ?_
  refine k_topi (y := 0) (by decide) ?_
  refine lv_ldcw (own := RJ6) (index := 267) (v := 252645135) hx hb hown (hts (.constant RJ6 267 (252645135)) (List.mem_cons_of_mem _ (List.mem_of_getElem? (i := 2) rfl))) dJ6_bitCount_0f7a4_29 ?_
  refine lv_iand hx hb dJ6_bitCount_0f7a4_32 ?_
  refine k_topi (y := 0) (by decide) ?_
  refine lv_istore_n (lv' := [(0, .int 0)]) hx hb dJ6_bitCount_0f7a4_33 rfl hl (by decide) rfl (fun ls hl => ?_)
  refine lv_iload_n hx hb dJ6_bitCount_0f7a4_34 rfl (lv_at hl 0 rfl) ?_
  refine lv_iload_n hx hb dJ6_bitCount_0f7a4_35 rfl (lv_at hl 0 rfl) ?_
  refine lv_bipush (v := 8) hx hb dJ6_bitCount_0f7a4_36 (by decide) ?_
  refine lv_iushr (v := 0) hx hb dJ6_bitCount_0f7a4_38 (by decide) ?_
  refine lv_iadd hx hb dJ6_bitCount_0f7a4_39 ?_
  refine k_topi (y := 0) (by decide) ?_
  refine lv_istore_n (lv' := [(0, .int 0)]) hx hb dJ6_bitCount_0f7a4_40 rfl hl (by decide) rfl (fun ls hl => ?_)
  refine lv_iload_n hx hb dJ6_bitCount_0f7a4_41 rfl (lv_at hl 0 rfl) ?_
  refine lv_iload_n hx hb dJ6_bitCount_0f7a4_42 rfl (lv_at hl 0 rfl) ?_
  refine lv_bipush (v := 16) hx hb dJ6_bitCount_0f7a4_43 (by decide) ?_
  refine lv_iushr (v := 0) hx hb dJ6_bitCount_0f7a4_45 (by decide) ?_
  refine lv_iadd hx hb dJ6_bitCount_0f7a4_46 ?_
  refine k_topi (y := 0) (by decide) ?_
  refine lv_istore_n (lv' := [(0, .int 0)]) hx hb dJ6_bitCount_0f7a4_47 rfl hl (by decide) rfl (fun ls hl => ?_)
  refine lv_iload_n hx hb dJ6_bitCount_0f7a4_48 rfl (lv_at hl 0 rfl) ?_
  refine lv_bipush (v := 63) hx hb dJ6_bitCount_0f7a4_49 (by decide) ?_
  refine lv_iand hx hb dJ6_bitCount_0f7a4_51 ?_
  refine k_topi (y := 0) (by decide) ?_
  exact W.iret (v := 0) hx hb hr (fun t ht hW => ⟨⟨0, (), rfl, rfl, kB_mk ht hW hP hK hD⟩, hS.F ht⟩) hS.2.2 dJ6_bitCount_0f7a4_52
set_option maxHeartbeats 400000000 in
set_option maxRecDepth 100000 in
theorem c_X11_count_3 (l : Launch) (E : kE) (D : va_G) (cI cJ cB cZ : ClassId) (h0 : Nat) (x0 : Int32) (f0 : List Value) (h1 : Nat) (f1 : List Value) (h2 : Nat) (f2 : List Value) (e0 : ¬ ((x0 : Int32) = 4)) (e1 : f0[1]? = some (.ref h1)) (e2 : f1[8]? = some (.int 0)) (e3 : (x0 : Int32) = 2) (e4 : f0[2]? = some (.ref h2)) (e5 : f2[13]? = some (.int 0)) : kI l E D (kT cI cJ cB cZ) yX11_count wsX11_count ({ frames := 1, cells := 0, slots := 0, locals := 20 }) [.ref h0, .int x0] [(h0, .inr (11, f0)), (h1, .inr (1, f1)), (h2, .inr (2, f2))] (0) [(h0, .inr (11, f0)), (h1, .inr (1, f1)), (h2, .inr (2, f2))] 0 0 := by
  intro sz
  refine Met.ofW (cc := cX11_count) (maxL := 2) (ret := (some .int)) (by decide) rfl ?_
  intro p e s m args below meth c s₁ B hml hv
  obtain ⟨rfl, hsz, hP, hK, hD0, hN, hX⟩ := hv
  have hx := B.exec
  have hb := B.bytes
  have hr := B.returns
  have hts := atoms_spec (ws := wsX11_count) B.pre
  have hown : s.vm.findClass RX11 = some m.cls := findClass_of_methodNamed B.named
  have hlocks := B.notSynchronized
  have hin11 : ∀ w ∈ wsX110, w ∈ wsX11_count := (fun w h => (List.mem_cons_of_mem _ (List.mem_append_left _ (List.mem_append_left _ (List.mem_append_right _ h)))))
  have hin1 : ∀ w ∈ wsX10, w ∈ wsX11_count := (fun w h => (List.mem_cons_of_mem _ (List.mem_append_left _ (List.mem_append_right _ h))))
  have hin2 : ∀ w ∈ wsX20, w ∈ wsX11_count := (fun w h => (List.mem_cons_of_mem _ (List.mem_append_right _ h)))
  subst hsz
  have hD := hD0.self (sz := s.heap.size)
  have hAE := k_AE hD0 hX
  generalize hAe : va_A [(h0, .inr (11, f0)), (h1, .inr (1, f1)), (h2, .inr (2, f2))] s.heap.size = A at hD hAE ⊢
  have hA : ∀ q : Nat, s.heap.size ≤ q → A q := fun q h => by rw [← hAe]; exact Or.inr h
  have hS : va_S A s.heap s.heap [] := va_S.rf
  have hP : va_P D vwCl [(h0, .inr (11, f0)), (h1, .inr (1, f1)), (h2, .inr (2, f2))] s.heap := hP
  have hl := lv_entry ([.ref h0, .int x0] : List Value) (n := 2) (Nat.le_of_ble_eq_true rfl)
  rw [lg_entry_eq]
  generalize (lg_sl ([.ref h0, .int x0]) ++ List.replicate (2 - (lg_sl ([.ref h0, .int x0])).length) Slot.unset).toArray = ls at hl ⊢
  have hl : lv_has ls 2 [(0, .ref h0), (1, .int x0)] := hl
  refine lv_iload_n hx hb dX11_count_0 rfl (lv_at hl 1 rfl) ?_
  refine lv_iconst (v := 4) hx hb dX11_count_1 (by decide) ?_
  refine lv_icmp_ne (tgt := 10) hx hb dX11_count_2 (by decide) (fun _ => ?_) (fun c9 => absurd c9 e0)
  refine lv_aload_n hx hb dX11_count_10 rfl (lv_at hl 0 rfl) ?_
  refine va_get (D := D) (ref := "IntegerHouse") (ci := 11) (v := .ref h1) (C := RX11) (T := TX11) (N := 15) hx hb hts hin11 hown hK hP 0 rfl rfl 1 (by decide) (hts (.fieldLink RX11 16 "IntegerHouse" "disk" "LIntegerHouse$Disk;") (List.mem_cons_of_mem _ (List.mem_append_left _ (List.mem_append_left _ (List.mem_append_left _ (List.mem_of_getElem? (i := 1) rfl)))))) (fun _ h9 => h9) e1 dX11_count_11 ?_
  refine va_getN (host := "IntegerHouse") (D := D) (ref := "IntegerHouse$Disk") (ci := 1) (v := .int 0) (C := RX1) (T := TX1) (N := 9) hx hb hts hin1 hown hK hP 1 rfl rfl 8 (by decide) (va_Nw.use rfl (hN.1 ("IntegerHouse", 122, "IntegerHouse$Disk", "down", "Z", "IntegerHouse") (List.mem_of_getElem? (i := 3) rfl))) (fun _ h9 => h9) e2 dX11_count_14 ?_
  refine lv_if_eq (tgt := 23) hx hb dX11_count_17 (by decide) (fun _ => ?_) (fun c9 => absurd (by decide) c9)
  refine lv_iload_n hx hb dX11_count_23 rfl (lv_at hl 1 rfl) ?_
  refine lv_tableIn (off := 64) (tgt := 88) hx hb dX11_count_24 (by rw [e3]; decide) (by rw [e3]; decide) (by rw [e3]; rfl) (by decide) ?_
  refine lv_aload_n hx hb dX11_count_88 rfl (lv_at hl 0 rfl) ?_
  refine va_get (D := D) (ref := "IntegerHouse") (ci := 11) (v := .ref h2) (C := RX11) (T := TX11) (N := 15) hx hb hts hin11 hown hK hP 0 rfl rfl 2 (by decide) (hts (.fieldLink RX11 23 "IntegerHouse" "house" "LIntegerHouse$House;") (List.mem_cons_of_mem _ (List.mem_append_left _ (List.mem_append_left _ (List.mem_append_left _ (List.mem_of_getElem? (i := 2) rfl)))))) (fun _ h9 => h9) e4 dX11_count_89 ?_
  refine va_getN (host := "IntegerHouse") (D := D) (ref := "IntegerHouse$House") (ci := 2) (v := .int 0) (C := RX2) (T := TX2) (N := 16) hx hb hts hin2 hown hK hP 2 rfl rfl 13 (by decide) (va_Nw.use rfl (hN.1 ("IntegerHouse", 213, "IntegerHouse$House", "on", "I", "IntegerHouse") (List.mem_of_getElem? (i := 20) rfl))) (fun _ h9 => h9) e5 dX11_count_92 ?_
  refine k_cSi (As := [.int 0]) (rest := []) (wc := []) (wr := [(h0, .inr (11, f0)), (h1, .inr (1, f1)), (h2, .inr (2, f2))]) (w1 := []) ⟨hx, hb, hml, hown, hts⟩ hN hX hAE hK hP hD hS hA [] [0, 1, 2] rfl rfl (by decide +kernel) (by decide +kernel) (by decide +kernel) (c_J6_bitCount_0f7a4_0 l E D cI cJ cB cZ  ) (va_cwS 1 hts gX11_count_J6_bitCount_0f7a4 rfl rfl rfl (by decide +kernel) ⟨Nat.le_of_ble_eq_true rfl, Nat.le_of_ble_eq_true rfl⟩) rfl hl.1 (Nat.le_of_ble_eq_true rfl) dX11_count_95 ⟨Nat.le_of_ble_eq_true rfl, Nat.le_of_ble_eq_true rfl⟩ (fun H locs hP hD hS => ?_)
  have hP : va_P D vwCl [(h0, .inr (11, f0)), (h1, .inr (1, f1)), (h2, .inr (2, f2))] H := hP
  have hD : va_D A [(h0, .inr (11, f0)), (h1, .inr (1, f1)), (h2, .inr (2, f2))] := hD
  exact W.iret (v := 0) hx hb hr (fun t ht hW => ⟨⟨0, (), rfl, rfl, kB_mk ht hW hP hK hD⟩, hS.F ht⟩) hS.2.2 dX11_count_98
set_option maxHeartbeats 400000000 in
set_option maxRecDepth 100000 in
theorem c_X12_count_3 (l : Launch) (E : kE) (D : va_G) (cI cJ cB cZ : ClassId) (h0 : Nat) (x0 : Int32) (f0 : List Value) (e0 : f0[0]? = some (.int 0)) (e1 : ¬ ((x0 : Int32) = 4)) (e2 : f0[5]? = some (.int 0)) (e3 : f0[33]? = some (.int 0)) (e4 : (x0 : Int32) = 2) : kI l E D (kT cI cJ cB cZ) yX12_count wsX12_count ({ frames := 0, cells := 0, slots := 0, locals := 0 }) [.ref h0, .int x0] [(h0, .inr (12, f0))] (0) [(h0, .inr (12, (f0.set 0 (.int 0))))] 0 0 := by
  intro sz
  refine Met.ofW (cc := cX12_count) (maxL := 4) (ret := (some .int)) (by decide) rfl ?_
  intro p e s m args below meth c s₁ B hml hv
  obtain ⟨rfl, hsz, hP, hK, hD0, hN, hX⟩ := hv
  have hx := B.exec
  have hb := B.bytes
  have hr := B.returns
  have hts := atoms_spec (ws := wsX12_count) B.pre
  have hown : s.vm.findClass RX12 = some m.cls := findClass_of_methodNamed B.named
  have hlocks := B.notSynchronized
  have hin12 : ∀ w ∈ wsX120, w ∈ wsX12_count := (fun w h => (List.mem_cons_of_mem _ (List.mem_append_right _ h)))
  subst hsz
  have hD := hD0.self (sz := s.heap.size)
  have hAE := k_AE hD0 hX
  generalize hAe : va_A [(h0, .inr (12, f0))] s.heap.size = A at hD hAE ⊢
  have hA : ∀ q : Nat, s.heap.size ≤ q → A q := fun q h => by rw [← hAe]; exact Or.inr h
  have hS : va_S A s.heap s.heap [] := va_S.rf
  have hP : va_P D vwCl [(h0, .inr (12, f0))] s.heap := hP
  have hl := lv_entry ([.ref h0, .int x0] : List Value) (n := 4) (Nat.le_of_ble_eq_true rfl)
  rw [lg_entry_eq]
  generalize (lg_sl ([.ref h0, .int x0]) ++ List.replicate (4 - (lg_sl ([.ref h0, .int x0])).length) Slot.unset).toArray = ls at hl ⊢
  have hl : lv_has ls 4 [(0, .ref h0), (1, .int x0)] := hl
  refine lv_aload_n hx hb dX12_count_0 rfl (lv_at hl 0 rfl) ?_
  refine lv_iconst (v := 0) hx hb dX12_count_1 (by decide) ?_
  refine va_put (D := D) (ref := "IntegerHouseModel") (ci := 12) (v := .int 0) (ty := .int) (C := RX12) (T := TX12) (N := 195) hx hb hts hin12 tyX12 tyX12_ok nmX12 hown hK hP hD hS 0 rfl rfl 0 (by decide) (hts (.fieldLink RX12 3 "IntegerHouseModel" "thrown" "I") (List.mem_cons_of_mem _ (List.mem_append_left _ (List.mem_of_getElem? (i := 0) rfl)))) (fun _ h9 => h9) rfl (by decide +kernel) rfl rfl (k_len e0) dX12_count_2 (fun H locs hP hD hS => ?_)
  have hP : va_P D vwCl [(h0, .inr (12, (f0.set 0 (.int 0))))] H := hP
  have hD : va_D A [(h0, .inr (12, (f0.set 0 (.int 0))))] := hD
  refine lv_iload_n hx hb dX12_count_5 rfl (lv_at hl 1 rfl) ?_
  refine lv_iconst (v := 4) hx hb dX12_count_6 (by decide) ?_
  refine lv_icmp_ne (tgt := 15) hx hb dX12_count_7 (by decide) (fun _ => ?_) (fun c9 => absurd c9 e1)
  refine lv_aload_n hx hb dX12_count_15 rfl (lv_at hl 0 rfl) ?_
  refine va_get (D := D) (ref := "IntegerHouseModel") (ci := 12) (v := .int 0) (C := RX12) (T := TX12) (N := 195) hx hb hts hin12 hown hK hP 0 rfl rfl 5 (by decide) (hts (.fieldLink RX12 488 "IntegerHouseModel" "down" "Z") (List.mem_cons_of_mem _ (List.mem_append_left _ (List.mem_of_getElem? (i := 2) rfl)))) (fun _ h9 => h9) (k_ne (by decide) e2) dX12_count_16 ?_
  refine lv_if_eq (tgt := 25) hx hb dX12_count_19 (by decide) (fun _ => ?_) (fun c9 => absurd (by decide) c9)
  refine lv_iconst (v := 0) hx hb dX12_count_25 (by decide) ?_
  refine lv_istore_n (lv' := [(2, .int 0), (0, .ref h0), (1, .int x0)]) hx hb dX12_count_26 rfl hl (by decide) rfl (fun ls hl => ?_)
  refine lv_iconst (v := 0) hx hb dX12_count_27 (by decide) ?_
  refine lv_istore_n (lv' := [(3, .int 0), (2, .int 0), (0, .ref h0), (1, .int x0)]) hx hb dX12_count_28 rfl hl (by decide) rfl (fun ls hl => ?_)
  refine lv_iload_n hx hb dX12_count_29 rfl (lv_at hl 0 rfl) ?_
  refine lv_aload_n hx hb dX12_count_30 rfl (lv_at hl 2 rfl) ?_
  refine va_get (D := D) (ref := "IntegerHouseModel") (ci := 12) (v := .int 0) (C := RX12) (T := TX12) (N := 195) hx hb hts hin12 hown hK hP 0 rfl rfl 33 (by decide) (hts (.fieldLink RX12 818 "IntegerHouseModel" "claims" "I") (List.mem_cons_of_mem _ (List.mem_append_left _ (List.mem_of_getElem? (i := 3) rfl)))) (fun _ h9 => h9) (k_ne (by decide) e3) dX12_count_31 ?_
  refine lv_icmp_ge (tgt := 60) hx hb dX12_count_34 (by decide) (fun _ => ?_) (fun c9 => absurd (by decide) c9)
  refine lv_iload_n hx hb dX12_count_60 rfl (lv_at hl 3 rfl) ?_
  refine lv_tableIn (off := 57) (tgt := 118) hx hb dX12_count_61 (by rw [e4]; decide) (by rw [e4]; decide) (by rw [e4]; rfl) (by decide) ?_
  refine lv_iload_n hx hb dX12_count_118 rfl (lv_at hl 1 rfl) ?_
  exact W.iret (v := 0) hx hb hr (fun t ht hW => ⟨⟨0, (), rfl, rfl, kB_mk ht hW hP hK hD⟩, hS.F ht⟩) hS.2.2 dX12_count_119
set_option maxHeartbeats 400000000 in
set_option maxRecDepth 100000 in
theorem c_X11_count_4 (l : Launch) (E : kE) (D : va_G) (cI cJ cB cZ : ClassId) (h0 : Nat) (x0 : Int32) (f0 : List Value) (h1 : Nat) (f1 : List Value) (h2 : Nat) (f2 : List Value) (e0 : ¬ ((x0 : Int32) = 4)) (e1 : f0[1]? = some (.ref h1)) (e2 : f1[8]? = some (.int 0)) (e3 : (x0 : Int32) = 3) (e4 : f0[2]? = some (.ref h2)) (e5 : f2[14]? = some (.int 0)) : kI l E D (kT cI cJ cB cZ) yX11_count wsX11_count ({ frames := 0, cells := 0, slots := 0, locals := 0 }) [.ref h0, .int x0] [(h0, .inr (11, f0)), (h1, .inr (1, f1)), (h2, .inr (2, f2))] (0) [(h0, .inr (11, f0)), (h1, .inr (1, f1)), (h2, .inr (2, f2))] 0 0 := by
  intro sz
  refine Met.ofW (cc := cX11_count) (maxL := 2) (ret := (some .int)) (by decide) rfl ?_
  intro p e s m args below meth c s₁ B hml hv
  obtain ⟨rfl, hsz, hP, hK, hD0, hN, hX⟩ := hv
  have hx := B.exec
  have hb := B.bytes
  have hr := B.returns
  have hts := atoms_spec (ws := wsX11_count) B.pre
  have hown : s.vm.findClass RX11 = some m.cls := findClass_of_methodNamed B.named
  have hlocks := B.notSynchronized
  have hin11 : ∀ w ∈ wsX110, w ∈ wsX11_count := (fun w h => (List.mem_cons_of_mem _ (List.mem_append_left _ (List.mem_append_left _ (List.mem_append_right _ h)))))
  have hin1 : ∀ w ∈ wsX10, w ∈ wsX11_count := (fun w h => (List.mem_cons_of_mem _ (List.mem_append_left _ (List.mem_append_right _ h))))
  have hin2 : ∀ w ∈ wsX20, w ∈ wsX11_count := (fun w h => (List.mem_cons_of_mem _ (List.mem_append_right _ h)))
  subst hsz
  have hD := hD0.self (sz := s.heap.size)
  have hAE := k_AE hD0 hX
  generalize hAe : va_A [(h0, .inr (11, f0)), (h1, .inr (1, f1)), (h2, .inr (2, f2))] s.heap.size = A at hD hAE ⊢
  have hA : ∀ q : Nat, s.heap.size ≤ q → A q := fun q h => by rw [← hAe]; exact Or.inr h
  have hS : va_S A s.heap s.heap [] := va_S.rf
  have hP : va_P D vwCl [(h0, .inr (11, f0)), (h1, .inr (1, f1)), (h2, .inr (2, f2))] s.heap := hP
  have hl := lv_entry ([.ref h0, .int x0] : List Value) (n := 2) (Nat.le_of_ble_eq_true rfl)
  rw [lg_entry_eq]
  generalize (lg_sl ([.ref h0, .int x0]) ++ List.replicate (2 - (lg_sl ([.ref h0, .int x0])).length) Slot.unset).toArray = ls at hl ⊢
  have hl : lv_has ls 2 [(0, .ref h0), (1, .int x0)] := hl
  refine lv_iload_n hx hb dX11_count_0 rfl (lv_at hl 1 rfl) ?_
  refine lv_iconst (v := 4) hx hb dX11_count_1 (by decide) ?_
  refine lv_icmp_ne (tgt := 10) hx hb dX11_count_2 (by decide) (fun _ => ?_) (fun c9 => absurd c9 e0)
  refine lv_aload_n hx hb dX11_count_10 rfl (lv_at hl 0 rfl) ?_
  refine va_get (D := D) (ref := "IntegerHouse") (ci := 11) (v := .ref h1) (C := RX11) (T := TX11) (N := 15) hx hb hts hin11 hown hK hP 0 rfl rfl 1 (by decide) (hts (.fieldLink RX11 16 "IntegerHouse" "disk" "LIntegerHouse$Disk;") (List.mem_cons_of_mem _ (List.mem_append_left _ (List.mem_append_left _ (List.mem_append_left _ (List.mem_of_getElem? (i := 1) rfl)))))) (fun _ h9 => h9) e1 dX11_count_11 ?_
  refine va_getN (host := "IntegerHouse") (D := D) (ref := "IntegerHouse$Disk") (ci := 1) (v := .int 0) (C := RX1) (T := TX1) (N := 9) hx hb hts hin1 hown hK hP 1 rfl rfl 8 (by decide) (va_Nw.use rfl (hN.1 ("IntegerHouse", 122, "IntegerHouse$Disk", "down", "Z", "IntegerHouse") (List.mem_of_getElem? (i := 3) rfl))) (fun _ h9 => h9) e2 dX11_count_14 ?_
  refine lv_if_eq (tgt := 23) hx hb dX11_count_17 (by decide) (fun _ => ?_) (fun c9 => absurd (by decide) c9)
  refine lv_iload_n hx hb dX11_count_23 rfl (lv_at hl 1 rfl) ?_
  refine lv_tableIn (off := 75) (tgt := 99) hx hb dX11_count_24 (by rw [e3]; decide) (by rw [e3]; decide) (by rw [e3]; rfl) (by decide) ?_
  refine lv_aload_n hx hb dX11_count_99 rfl (lv_at hl 0 rfl) ?_
  refine va_get (D := D) (ref := "IntegerHouse") (ci := 11) (v := .ref h2) (C := RX11) (T := TX11) (N := 15) hx hb hts hin11 hown hK hP 0 rfl rfl 2 (by decide) (hts (.fieldLink RX11 23 "IntegerHouse" "house" "LIntegerHouse$House;") (List.mem_cons_of_mem _ (List.mem_append_left _ (List.mem_append_left _ (List.mem_append_left _ (List.mem_of_getElem? (i := 2) rfl)))))) (fun _ h9 => h9) e4 dX11_count_100 ?_
  refine va_getN (host := "IntegerHouse") (D := D) (ref := "IntegerHouse$House") (ci := 2) (v := .int 0) (C := RX2) (T := TX2) (N := 16) hx hb hts hin2 hown hK hP 2 rfl rfl 14 (by decide) (va_Nw.use rfl (hN.1 ("IntegerHouse", 221, "IntegerHouse$House", "layers", "I", "IntegerHouse") (List.mem_of_getElem? (i := 22) rfl))) (fun _ h9 => h9) e5 dX11_count_103 ?_
  exact W.iret (v := 0) hx hb hr (fun t ht hW => ⟨⟨0, (), rfl, rfl, kB_mk ht hW hP hK hD⟩, hS.F ht⟩) hS.2.2 dX11_count_106
set_option maxHeartbeats 400000000 in
set_option maxRecDepth 100000 in
theorem c_X12_count_4 (l : Launch) (E : kE) (D : va_G) (cI cJ cB cZ : ClassId) (h0 : Nat) (x0 : Int32) (f0 : List Value) (e0 : f0[0]? = some (.int 0)) (e1 : ¬ ((x0 : Int32) = 4)) (e2 : f0[5]? = some (.int 0)) (e3 : f0[33]? = some (.int 0)) (e4 : (x0 : Int32) = 3) (e5 : f0[105]? = some (.int 0)) : kI l E D (kT cI cJ cB cZ) yX12_count wsX12_count ({ frames := 0, cells := 0, slots := 0, locals := 0 }) [.ref h0, .int x0] [(h0, .inr (12, f0))] (0) [(h0, .inr (12, (f0.set 0 (.int 0))))] 0 0 := by
  intro sz
  refine Met.ofW (cc := cX12_count) (maxL := 4) (ret := (some .int)) (by decide) rfl ?_
  intro p e s m args below meth c s₁ B hml hv
  obtain ⟨rfl, hsz, hP, hK, hD0, hN, hX⟩ := hv
  have hx := B.exec
  have hb := B.bytes
  have hr := B.returns
  have hts := atoms_spec (ws := wsX12_count) B.pre
  have hown : s.vm.findClass RX12 = some m.cls := findClass_of_methodNamed B.named
  have hlocks := B.notSynchronized
  have hin12 : ∀ w ∈ wsX120, w ∈ wsX12_count := (fun w h => (List.mem_cons_of_mem _ (List.mem_append_right _ h)))
  subst hsz
  have hD := hD0.self (sz := s.heap.size)
  have hAE := k_AE hD0 hX
  generalize hAe : va_A [(h0, .inr (12, f0))] s.heap.size = A at hD hAE ⊢
  have hA : ∀ q : Nat, s.heap.size ≤ q → A q := fun q h => by rw [← hAe]; exact Or.inr h
  have hS : va_S A s.heap s.heap [] := va_S.rf
  have hP : va_P D vwCl [(h0, .inr (12, f0))] s.heap := hP
  have hl := lv_entry ([.ref h0, .int x0] : List Value) (n := 4) (Nat.le_of_ble_eq_true rfl)
  rw [lg_entry_eq]
  generalize (lg_sl ([.ref h0, .int x0]) ++ List.replicate (4 - (lg_sl ([.ref h0, .int x0])).length) Slot.unset).toArray = ls at hl ⊢
  have hl : lv_has ls 4 [(0, .ref h0), (1, .int x0)] := hl
  refine lv_aload_n hx hb dX12_count_0 rfl (lv_at hl 0 rfl) ?_
  refine lv_iconst (v := 0) hx hb dX12_count_1 (by decide) ?_
  refine va_put (D := D) (ref := "IntegerHouseModel") (ci := 12) (v := .int 0) (ty := .int) (C := RX12) (T := TX12) (N := 195) hx hb hts hin12 tyX12 tyX12_ok nmX12 hown hK hP hD hS 0 rfl rfl 0 (by decide) (hts (.fieldLink RX12 3 "IntegerHouseModel" "thrown" "I") (List.mem_cons_of_mem _ (List.mem_append_left _ (List.mem_of_getElem? (i := 0) rfl)))) (fun _ h9 => h9) rfl (by decide +kernel) rfl rfl (k_len e0) dX12_count_2 (fun H locs hP hD hS => ?_)
  have hP : va_P D vwCl [(h0, .inr (12, (f0.set 0 (.int 0))))] H := hP
  have hD : va_D A [(h0, .inr (12, (f0.set 0 (.int 0))))] := hD
  refine lv_iload_n hx hb dX12_count_5 rfl (lv_at hl 1 rfl) ?_
  refine lv_iconst (v := 4) hx hb dX12_count_6 (by decide) ?_
  refine lv_icmp_ne (tgt := 15) hx hb dX12_count_7 (by decide) (fun _ => ?_) (fun c9 => absurd c9 e1)
  refine lv_aload_n hx hb dX12_count_15 rfl (lv_at hl 0 rfl) ?_
  refine va_get (D := D) (ref := "IntegerHouseModel") (ci := 12) (v := .int 0) (C := RX12) (T := TX12) (N := 195) hx hb hts hin12 hown hK hP 0 rfl rfl 5 (by decide) (hts (.fieldLink RX12 488 "IntegerHouseModel" "down" "Z") (List.mem_cons_of_mem _ (List.mem_append_left _ (List.mem_of_getElem? (i := 2) rfl)))) (fun _ h9 => h9) (k_ne (by decide) e2) dX12_count_16 ?_
  refine lv_if_eq (tgt := 25) hx hb dX12_count_19 (by decide) (fun _ => ?_) (fun c9 => absurd (by decide) c9)
  refine lv_iconst (v := 0) hx hb dX12_count_25 (by decide) ?_
  refine lv_istore_n (lv' := [(2, .int 0), (0, .ref h0), (1, .int x0)]) hx hb dX12_count_26 rfl hl (by decide) rfl (fun ls hl => ?_)
  refine lv_iconst (v := 0) hx hb dX12_count_27 (by decide) ?_
  refine lv_istore_n (lv' := [(3, .int 0), (2, .int 0), (0, .ref h0), (1, .int x0)]) hx hb dX12_count_28 rfl hl (by decide) rfl (fun ls hl => ?_)
  refine lv_iload_n hx hb dX12_count_29 rfl (lv_at hl 0 rfl) ?_
  refine lv_aload_n hx hb dX12_count_30 rfl (lv_at hl 2 rfl) ?_
  refine va_get (D := D) (ref := "IntegerHouseModel") (ci := 12) (v := .int 0) (C := RX12) (T := TX12) (N := 195) hx hb hts hin12 hown hK hP 0 rfl rfl 33 (by decide) (hts (.fieldLink RX12 818 "IntegerHouseModel" "claims" "I") (List.mem_cons_of_mem _ (List.mem_append_left _ (List.mem_of_getElem? (i := 3) rfl)))) (fun _ h9 => h9) (k_ne (by decide) e3) dX12_count_31 ?_
  refine lv_icmp_ge (tgt := 60) hx hb dX12_count_34 (by decide) (fun _ => ?_) (fun c9 => absurd (by decide) c9)
  refine lv_iload_n hx hb dX12_count_60 rfl (lv_at hl 3 rfl) ?_
  refine lv_tableIn (off := 59) (tgt := 120) hx hb dX12_count_61 (by rw [e4]; decide) (by rw [e4]; decide) (by rw [e4]; rfl) (by decide) ?_
  refine lv_aload_n hx hb dX12_count_120 rfl (lv_at hl 2 rfl) ?_
  refine va_get (D := D) (ref := "IntegerHouseModel") (ci := 12) (v := .int 0) (C := RX12) (T := TX12) (N := 195) hx hb hts hin12 hown hK hP 0 rfl rfl 105 (by decide) (hts (.fieldLink RX12 821 "IntegerHouseModel" "layers" "I") (List.mem_cons_of_mem _ (List.mem_append_left _ (List.mem_of_getElem? (i := 6) rfl)))) (fun _ h9 => h9) (k_ne (by decide) e5) dX12_count_121 ?_
  exact W.iret (v := 0) hx hb hr (fun t ht hW => ⟨⟨0, (), rfl, rfl, kB_mk ht hW hP hK hD⟩, hS.F ht⟩) hS.2.2 dX12_count_124
set_option maxHeartbeats 400000000 in
set_option maxRecDepth 100000 in
theorem c_X11_count_5 (l : Launch) (E : kE) (D : va_G) (cI cJ cB cZ : ClassId) (h0 : Nat) (x0 : Int32) (f0 : List Value) (h1 : Nat) (f1 : List Value) (e0 : ¬ ((x0 : Int32) = 4)) (e1 : f0[1]? = some (.ref h1)) (e2 : f1[8]? = some (.int 0)) (e3 : (x0 : Int32) = 5) (e4 : f1[4]? = some (.int 0)) : kI l E D (kT cI cJ cB cZ) yX11_count wsX11_count ({ frames := 0, cells := 0, slots := 0, locals := 0 }) [.ref h0, .int x0] [(h0, .inr (11, f0)), (h1, .inr (1, f1))] (0) [(h0, .inr (11, f0)), (h1, .inr (1, f1))] 0 0 := by
  intro sz
  refine Met.ofW (cc := cX11_count) (maxL := 2) (ret := (some .int)) (by decide) rfl ?_
  intro p e s m args below meth c s₁ B hml hv
  obtain ⟨rfl, hsz, hP, hK, hD0, hN, hX⟩ := hv
  have hx := B.exec
  have hb := B.bytes
  have hr := B.returns
  have hts := atoms_spec (ws := wsX11_count) B.pre
  have hown : s.vm.findClass RX11 = some m.cls := findClass_of_methodNamed B.named
  have hlocks := B.notSynchronized
  have hin11 : ∀ w ∈ wsX110, w ∈ wsX11_count := (fun w h => (List.mem_cons_of_mem _ (List.mem_append_left _ (List.mem_append_left _ (List.mem_append_right _ h)))))
  have hin1 : ∀ w ∈ wsX10, w ∈ wsX11_count := (fun w h => (List.mem_cons_of_mem _ (List.mem_append_left _ (List.mem_append_right _ h))))
  subst hsz
  have hD := hD0.self (sz := s.heap.size)
  have hAE := k_AE hD0 hX
  generalize hAe : va_A [(h0, .inr (11, f0)), (h1, .inr (1, f1))] s.heap.size = A at hD hAE ⊢
  have hA : ∀ q : Nat, s.heap.size ≤ q → A q := fun q h => by rw [← hAe]; exact Or.inr h
  have hS : va_S A s.heap s.heap [] := va_S.rf
  have hP : va_P D vwCl [(h0, .inr (11, f0)), (h1, .inr (1, f1))] s.heap := hP
  have hl := lv_entry ([.ref h0, .int x0] : List Value) (n := 2) (Nat.le_of_ble_eq_true rfl)
  rw [lg_entry_eq]
  generalize (lg_sl ([.ref h0, .int x0]) ++ List.replicate (2 - (lg_sl ([.ref h0, .int x0])).length) Slot.unset).toArray = ls at hl ⊢
  have hl : lv_has ls 2 [(0, .ref h0), (1, .int x0)] := hl
  refine lv_iload_n hx hb dX11_count_0 rfl (lv_at hl 1 rfl) ?_
  refine lv_iconst (v := 4) hx hb dX11_count_1 (by decide) ?_
  refine lv_icmp_ne (tgt := 10) hx hb dX11_count_2 (by decide) (fun _ => ?_) (fun c9 => absurd c9 e0)
  refine lv_aload_n hx hb dX11_count_10 rfl (lv_at hl 0 rfl) ?_
  refine va_get (D := D) (ref := "IntegerHouse") (ci := 11) (v := .ref h1) (C := RX11) (T := TX11) (N := 15) hx hb hts hin11 hown hK hP 0 rfl rfl 1 (by decide) (hts (.fieldLink RX11 16 "IntegerHouse" "disk" "LIntegerHouse$Disk;") (List.mem_cons_of_mem _ (List.mem_append_left _ (List.mem_append_left _ (List.mem_append_left _ (List.mem_of_getElem? (i := 1) rfl)))))) (fun _ h9 => h9) e1 dX11_count_11 ?_
  refine va_getN (host := "IntegerHouse") (D := D) (ref := "IntegerHouse$Disk") (ci := 1) (v := .int 0) (C := RX1) (T := TX1) (N := 9) hx hb hts hin1 hown hK hP 1 rfl rfl 8 (by decide) (va_Nw.use rfl (hN.1 ("IntegerHouse", 122, "IntegerHouse$Disk", "down", "Z", "IntegerHouse") (List.mem_of_getElem? (i := 3) rfl))) (fun _ h9 => h9) e2 dX11_count_14 ?_
  refine lv_if_eq (tgt := 23) hx hb dX11_count_17 (by decide) (fun _ => ?_) (fun c9 => absurd (by decide) c9)
  refine lv_iload_n hx hb dX11_count_23 rfl (lv_at hl 1 rfl) ?_
  refine lv_tableIn (off := 83) (tgt := 107) hx hb dX11_count_24 (by rw [e3]; decide) (by rw [e3]; decide) (by rw [e3]; rfl) (by decide) ?_
  refine lv_aload_n hx hb dX11_count_107 rfl (lv_at hl 0 rfl) ?_
  refine va_get (D := D) (ref := "IntegerHouse") (ci := 11) (v := .ref h1) (C := RX11) (T := TX11) (N := 15) hx hb hts hin11 hown hK hP 0 rfl rfl 1 (by decide) (hts (.fieldLink RX11 16 "IntegerHouse" "disk" "LIntegerHouse$Disk;") (List.mem_cons_of_mem _ (List.mem_append_left _ (List.mem_append_left _ (List.mem_append_left _ (List.mem_of_getElem? (i := 1) rfl)))))) (fun _ h9 => h9) e1 dX11_count_108 ?_
  refine va_getN (host := "IntegerHouse") (D := D) (ref := "IntegerHouse$Disk") (ci := 1) (v := .int 0) (C := RX1) (T := TX1) (N := 9) hx hb hts hin1 hown hK hP 1 rfl rfl 4 (by decide) (va_Nw.use rfl (hN.1 ("IntegerHouse", 224, "IntegerHouse$Disk", "waiting", "I", "IntegerHouse") (List.mem_of_getElem? (i := 1) rfl))) (fun _ h9 => h9) e4 dX11_count_111 ?_
  exact W.iret (v := 0) hx hb hr (fun t ht hW => ⟨⟨0, (), rfl, rfl, kB_mk ht hW hP hK hD⟩, hS.F ht⟩) hS.2.2 dX11_count_114
set_option maxHeartbeats 400000000 in
set_option maxRecDepth 100000 in
theorem c_X12_count_5 (l : Launch) (E : kE) (D : va_G) (cI cJ cB cZ : ClassId) (h0 : Nat) (x0 : Int32) (f0 : List Value) (e0 : f0[0]? = some (.int 0)) (e1 : ¬ ((x0 : Int32) = 4)) (e2 : f0[5]? = some (.int 0)) (e3 : f0[33]? = some (.int 0)) (e4 : (x0 : Int32) = 5) (e5 : f0[9]? = some (.int 0)) : kI l E D (kT cI cJ cB cZ) yX12_count wsX12_count ({ frames := 0, cells := 0, slots := 0, locals := 0 }) [.ref h0, .int x0] [(h0, .inr (12, f0))] (0) [(h0, .inr (12, (f0.set 0 (.int 0))))] 0 0 := by
  intro sz
  refine Met.ofW (cc := cX12_count) (maxL := 4) (ret := (some .int)) (by decide) rfl ?_
  intro p e s m args below meth c s₁ B hml hv
  obtain ⟨rfl, hsz, hP, hK, hD0, hN, hX⟩ := hv
  have hx := B.exec
  have hb := B.bytes
  have hr := B.returns
  have hts := atoms_spec (ws := wsX12_count) B.pre
  have hown : s.vm.findClass RX12 = some m.cls := findClass_of_methodNamed B.named
  have hlocks := B.notSynchronized
  have hin12 : ∀ w ∈ wsX120, w ∈ wsX12_count := (fun w h => (List.mem_cons_of_mem _ (List.mem_append_right _ h)))
  subst hsz
  have hD := hD0.self (sz := s.heap.size)
  have hAE := k_AE hD0 hX
  generalize hAe : va_A [(h0, .inr (12, f0))] s.heap.size = A at hD hAE ⊢
  have hA : ∀ q : Nat, s.heap.size ≤ q → A q := fun q h => by rw [← hAe]; exact Or.inr h
  have hS : va_S A s.heap s.heap [] := va_S.rf
  have hP : va_P D vwCl [(h0, .inr (12, f0))] s.heap := hP
  have hl := lv_entry ([.ref h0, .int x0] : List Value) (n := 4) (Nat.le_of_ble_eq_true rfl)
  rw [lg_entry_eq]
  generalize (lg_sl ([.ref h0, .int x0]) ++ List.replicate (4 - (lg_sl ([.ref h0, .int x0])).length) Slot.unset).toArray = ls at hl ⊢
  have hl : lv_has ls 4 [(0, .ref h0), (1, .int x0)] := hl
  refine lv_aload_n hx hb dX12_count_0 rfl (lv_at hl 0 rfl) ?_
  refine lv_iconst (v := 0) hx hb dX12_count_1 (by decide) ?_
  refine va_put (D := D) (ref := "IntegerHouseModel") (ci := 12) (v := .int 0) (ty := .int) (C := RX12) (T := TX12) (N := 195) hx hb hts hin12 tyX12 tyX12_ok nmX12 hown hK hP hD hS 0 rfl rfl 0 (by decide) (hts (.fieldLink RX12 3 "IntegerHouseModel" "thrown" "I") (List.mem_cons_of_mem _ (List.mem_append_left _ (List.mem_of_getElem? (i := 0) rfl)))) (fun _ h9 => h9) rfl (by decide +kernel) rfl rfl (k_len e0) dX12_count_2 (fun H locs hP hD hS => ?_)
  have hP : va_P D vwCl [(h0, .inr (12, (f0.set 0 (.int 0))))] H := hP
  have hD : va_D A [(h0, .inr (12, (f0.set 0 (.int 0))))] := hD
  refine lv_iload_n hx hb dX12_count_5 rfl (lv_at hl 1 rfl) ?_
  refine lv_iconst (v := 4) hx hb dX12_count_6 (by decide) ?_
  refine lv_icmp_ne (tgt := 15) hx hb dX12_count_7 (by decide) (fun _ => ?_) (fun c9 => absurd c9 e1)
  refine lv_aload_n hx hb dX12_count_15 rfl (lv_at hl 0 rfl) ?_
  refine va_get (D := D) (ref := "IntegerHouseModel") (ci := 12) (v := .int 0) (C := RX12) (T := TX12) (N := 195) hx hb hts hin12 hown hK hP 0 rfl rfl 5 (by decide) (hts (.fieldLink RX12 488 "IntegerHouseModel" "down" "Z") (List.mem_cons_of_mem _ (List.mem_append_left _ (List.mem_of_getElem? (i := 2) rfl)))) (fun _ h9 => h9) (k_ne (by decide) e2) dX12_count_16 ?_
  refine lv_if_eq (tgt := 25) hx hb dX12_count_19 (by decide) (fun _ => ?_) (fun c9 => absurd (by decide) c9)
  refine lv_iconst (v := 0) hx hb dX12_count_25 (by decide) ?_
  refine lv_istore_n (lv' := [(2, .int 0), (0, .ref h0), (1, .int x0)]) hx hb dX12_count_26 rfl hl (by decide) rfl (fun ls hl => ?_)
  refine lv_iconst (v := 0) hx hb dX12_count_27 (by decide) ?_
  refine lv_istore_n (lv' := [(3, .int 0), (2, .int 0), (0, .ref h0), (1, .int x0)]) hx hb dX12_count_28 rfl hl (by decide) rfl (fun ls hl => ?_)
  refine lv_iload_n hx hb dX12_count_29 rfl (lv_at hl 0 rfl) ?_
  refine lv_aload_n hx hb dX12_count_30 rfl (lv_at hl 2 rfl) ?_
  refine va_get (D := D) (ref := "IntegerHouseModel") (ci := 12) (v := .int 0) (C := RX12) (T := TX12) (N := 195) hx hb hts hin12 hown hK hP 0 rfl rfl 33 (by decide) (hts (.fieldLink RX12 818 "IntegerHouseModel" "claims" "I") (List.mem_cons_of_mem _ (List.mem_append_left _ (List.mem_of_getElem? (i := 3) rfl)))) (fun _ h9 => h9) (k_ne (by decide) e3) dX12_count_31 ?_
  refine lv_icmp_ge (tgt := 60) hx hb dX12_count_34 (by decide) (fun _ => ?_) (fun c9 => absurd (by decide) c9)
  refine lv_iload_n hx hb dX12_count_60 rfl (lv_at hl 3 rfl) ?_
  refine lv_tableIn (off := 64) (tgt := 125) hx hb dX12_count_61 (by rw [e4]; decide) (by rw [e4]; decide) (by rw [e4]; rfl) (by decide) ?_
  refine lv_aload_n hx hb dX12_count_125 rfl (lv_at hl 2 rfl) ?_
  refine va_get (D := D) (ref := "IntegerHouseModel") (ci := 12) (v := .int 0) (C := RX12) (T := TX12) (N := 195) hx hb hts hin12 hown hK hP 0 rfl rfl 9 (by decide) (hts (.fieldLink RX12 475 "IntegerHouseModel" "waitBytes" "I") (List.mem_cons_of_mem _ (List.mem_append_left _ (List.mem_of_getElem? (i := 7) rfl)))) (fun _ h9 => h9) (k_ne (by decide) e5) dX12_count_126 ?_
  exact W.iret (v := 0) hx hb hr (fun t ht hW => ⟨⟨0, (), rfl, rfl, kB_mk ht hW hP hK hD⟩, hS.F ht⟩) hS.2.2 dX12_count_129
set_option maxHeartbeats 400000000 in
set_option maxRecDepth 100000 in
theorem c_X11_count_6 (l : Launch) (E : kE) (D : va_G) (cI cJ cB cZ : ClassId) (h0 : Nat) (x0 : Int32) (f0 : List Value) (h1 : Nat) (f1 : List Value) (e0 : ¬ ((x0 : Int32) = 4)) (e1 : f0[1]? = some (.ref h1)) (e2 : f1[8]? = some (.int 0)) (e3 : (x0 : Int32) < 0) : kI l E D (kT cI cJ cB cZ) yX11_count wsX11_count ({ frames := 0, cells := 0, slots := 0, locals := 0 }) [.ref h0, .int x0] [(h0, .inr (11, f0)), (h1, .inr (1, f1))] ((-1)) [(h0, .inr (11, f0)), (h1, .inr (1, f1))] 0 0 := by
  intro sz
  refine Met.ofW (cc := cX11_count) (maxL := 2) (ret := (some .int)) (by decide) rfl ?_
  intro p e s m args below meth c s₁ B hml hv
  obtain ⟨rfl, hsz, hP, hK, hD0, hN, hX⟩ := hv
  have hx := B.exec
  have hb := B.bytes
  have hr := B.returns
  have hts := atoms_spec (ws := wsX11_count) B.pre
  have hown : s.vm.findClass RX11 = some m.cls := findClass_of_methodNamed B.named
  have hlocks := B.notSynchronized
  have hin11 : ∀ w ∈ wsX110, w ∈ wsX11_count := (fun w h => (List.mem_cons_of_mem _ (List.mem_append_left _ (List.mem_append_left _ (List.mem_append_right _ h)))))
  have hin1 : ∀ w ∈ wsX10, w ∈ wsX11_count := (fun w h => (List.mem_cons_of_mem _ (List.mem_append_left _ (List.mem_append_right _ h))))
  subst hsz
  have hD := hD0.self (sz := s.heap.size)
  have hAE := k_AE hD0 hX
  generalize hAe : va_A [(h0, .inr (11, f0)), (h1, .inr (1, f1))] s.heap.size = A at hD hAE ⊢
  have hA : ∀ q : Nat, s.heap.size ≤ q → A q := fun q h => by rw [← hAe]; exact Or.inr h
  have hS : va_S A s.heap s.heap [] := va_S.rf
  have hP : va_P D vwCl [(h0, .inr (11, f0)), (h1, .inr (1, f1))] s.heap := hP
  have hl := lv_entry ([.ref h0, .int x0] : List Value) (n := 2) (Nat.le_of_ble_eq_true rfl)
  rw [lg_entry_eq]
  generalize (lg_sl ([.ref h0, .int x0]) ++ List.replicate (2 - (lg_sl ([.ref h0, .int x0])).length) Slot.unset).toArray = ls at hl ⊢
  have hl : lv_has ls 2 [(0, .ref h0), (1, .int x0)] := hl
  refine lv_iload_n hx hb dX11_count_0 rfl (lv_at hl 1 rfl) ?_
  refine lv_iconst (v := 4) hx hb dX11_count_1 (by decide) ?_
  refine lv_icmp_ne (tgt := 10) hx hb dX11_count_2 (by decide) (fun _ => ?_) (fun c9 => absurd c9 e0)
  refine lv_aload_n hx hb dX11_count_10 rfl (lv_at hl 0 rfl) ?_
  refine va_get (D := D) (ref := "IntegerHouse") (ci := 11) (v := .ref h1) (C := RX11) (T := TX11) (N := 15) hx hb hts hin11 hown hK hP 0 rfl rfl 1 (by decide) (hts (.fieldLink RX11 16 "IntegerHouse" "disk" "LIntegerHouse$Disk;") (List.mem_cons_of_mem _ (List.mem_append_left _ (List.mem_append_left _ (List.mem_append_left _ (List.mem_of_getElem? (i := 1) rfl)))))) (fun _ h9 => h9) e1 dX11_count_11 ?_
  refine va_getN (host := "IntegerHouse") (D := D) (ref := "IntegerHouse$Disk") (ci := 1) (v := .int 0) (C := RX1) (T := TX1) (N := 9) hx hb hts hin1 hown hK hP 1 rfl rfl 8 (by decide) (va_Nw.use rfl (hN.1 ("IntegerHouse", 122, "IntegerHouse$Disk", "down", "Z", "IntegerHouse") (List.mem_of_getElem? (i := 3) rfl))) (fun _ h9 => h9) e2 dX11_count_14 ?_
  refine lv_if_eq (tgt := 23) hx hb dX11_count_17 (by decide) (fun _ => ?_) (fun c9 => absurd (by decide) c9)
  refine lv_iload_n hx hb dX11_count_23 rfl (lv_at hl 1 rfl) ?_
  refine lv_tableOut (tgt := 128) hx hb dX11_count_24 (Or.inl (k_lt e3)) (by decide) ?_
  refine lv_iconst (v := (-1)) hx hb dX11_count_128 (by decide) ?_
  exact W.iret (v := (-1)) hx hb hr (fun t ht hW => ⟨⟨(-1), (), rfl, rfl, kB_mk ht hW hP hK hD⟩, hS.F ht⟩) hS.2.2 dX11_count_129
set_option maxHeartbeats 400000000 in
set_option maxRecDepth 100000 in
theorem c_X12_count_6 (l : Launch) (E : kE) (D : va_G) (cI cJ cB cZ : ClassId) (h0 : Nat) (x0 : Int32) (f0 : List Value) (e0 : f0[0]? = some (.int 0)) (e1 : ¬ ((x0 : Int32) = 4)) (e2 : f0[5]? = some (.int 0)) (e3 : f0[33]? = some (.int 0)) (e4 : (x0 : Int32) < 0) : kI l E D (kT cI cJ cB cZ) yX12_count wsX12_count ({ frames := 0, cells := 0, slots := 0, locals := 0 }) [.ref h0, .int x0] [(h0, .inr (12, f0))] ((-1)) [(h0, .inr (12, (f0.set 0 (.int 0))))] 0 0 := by
  intro sz
  refine Met.ofW (cc := cX12_count) (maxL := 4) (ret := (some .int)) (by decide) rfl ?_
  intro p e s m args below meth c s₁ B hml hv
  obtain ⟨rfl, hsz, hP, hK, hD0, hN, hX⟩ := hv
  have hx := B.exec
  have hb := B.bytes
  have hr := B.returns
  have hts := atoms_spec (ws := wsX12_count) B.pre
  have hown : s.vm.findClass RX12 = some m.cls := findClass_of_methodNamed B.named
  have hlocks := B.notSynchronized
  have hin12 : ∀ w ∈ wsX120, w ∈ wsX12_count := (fun w h => (List.mem_cons_of_mem _ (List.mem_append_right _ h)))
  subst hsz
  have hD := hD0.self (sz := s.heap.size)
  have hAE := k_AE hD0 hX
  generalize hAe : va_A [(h0, .inr (12, f0))] s.heap.size = A at hD hAE ⊢
  have hA : ∀ q : Nat, s.heap.size ≤ q → A q := fun q h => by rw [← hAe]; exact Or.inr h
  have hS : va_S A s.heap s.heap [] := va_S.rf
  have hP : va_P D vwCl [(h0, .inr (12, f0))] s.heap := hP
  have hl := lv_entry ([.ref h0, .int x0] : List Value) (n := 4) (Nat.le_of_ble_eq_true rfl)
  rw [lg_entry_eq]
  generalize (lg_sl ([.ref h0, .int x0]) ++ List.replicate (4 - (lg_sl ([.ref h0, .int x0])).length) Slot.unset).toArray = ls at hl ⊢
  have hl : lv_has ls 4 [(0, .ref h0), (1, .int x0)] := hl
  refine lv_aload_n hx hb dX12_count_0 rfl (lv_at hl 0 rfl) ?_
  refine lv_iconst (v := 0) hx hb dX12_count_1 (by decide) ?_
  refine va_put (D := D) (ref := "IntegerHouseModel") (ci := 12) (v := .int 0) (ty := .int) (C := RX12) (T := TX12) (N := 195) hx hb hts hin12 tyX12 tyX12_ok nmX12 hown hK hP hD hS 0 rfl rfl 0 (by decide) (hts (.fieldLink RX12 3 "IntegerHouseModel" "thrown" "I") (List.mem_cons_of_mem _ (List.mem_append_left _ (List.mem_of_getElem? (i := 0) rfl)))) (fun _ h9 => h9) rfl (by decide +kernel) rfl rfl (k_len e0) dX12_count_2 (fun H locs hP hD hS => ?_)
  have hP : va_P D vwCl [(h0, .inr (12, (f0.set 0 (.int 0))))] H := hP
  have hD : va_D A [(h0, .inr (12, (f0.set 0 (.int 0))))] := hD
  refine lv_iload_n hx hb dX12_count_5 rfl (lv_at hl 1 rfl) ?_
  refine lv_iconst (v := 4) hx hb dX12_count_6 (by decide) ?_
  refine lv_icmp_ne (tgt := 15) hx hb dX12_count_7 (by decide) (fun _ => ?_) (fun c9 => absurd c9 e1)
  refine lv_aload_n hx hb dX12_count_15 rfl (lv_at hl 0 rfl) ?_
  refine va_get (D := D) (ref := "IntegerHouseModel") (ci := 12) (v := .int 0) (C := RX12) (T := TX12) (N := 195) hx hb hts hin12 hown hK hP 0 rfl rfl 5 (by decide) (hts (.fieldLink RX12 488 "IntegerHouseModel" "down" "Z") (List.mem_cons_of_mem _ (List.mem_append_left _ (List.mem_of_getElem? (i := 2) rfl)))) (fun _ h9 => h9) (k_ne (by decide) e2) dX12_count_16 ?_
  refine lv_if_eq (tgt := 25) hx hb dX12_count_19 (by decide) (fun _ => ?_) (fun c9 => absurd (by decide) c9)
  refine lv_iconst (v := 0) hx hb dX12_count_25 (by decide) ?_
  refine lv_istore_n (lv' := [(2, .int 0), (0, .ref h0), (1, .int x0)]) hx hb dX12_count_26 rfl hl (by decide) rfl (fun ls hl => ?_)
  refine lv_iconst (v := 0) hx hb dX12_count_27 (by decide) ?_
  refine lv_istore_n (lv' := [(3, .int 0), (2, .int 0), (0, .ref h0), (1, .int x0)]) hx hb dX12_count_28 rfl hl (by decide) rfl (fun ls hl => ?_)
  refine lv_iload_n hx hb dX12_count_29 rfl (lv_at hl 0 rfl) ?_
  refine lv_aload_n hx hb dX12_count_30 rfl (lv_at hl 2 rfl) ?_
  refine va_get (D := D) (ref := "IntegerHouseModel") (ci := 12) (v := .int 0) (C := RX12) (T := TX12) (N := 195) hx hb hts hin12 hown hK hP 0 rfl rfl 33 (by decide) (hts (.fieldLink RX12 818 "IntegerHouseModel" "claims" "I") (List.mem_cons_of_mem _ (List.mem_append_left _ (List.mem_of_getElem? (i := 3) rfl)))) (fun _ h9 => h9) (k_ne (by decide) e3) dX12_count_31 ?_
  refine lv_icmp_ge (tgt := 60) hx hb dX12_count_34 (by decide) (fun _ => ?_) (fun c9 => absurd (by decide) c9)
  refine lv_iload_n hx hb dX12_count_60 rfl (lv_at hl 3 rfl) ?_
  refine lv_tableOut (tgt := 140) hx hb dX12_count_61 (Or.inl (k_lt e4)) (by decide) ?_
  refine lv_iconst (v := (-1)) hx hb dX12_count_140 (by decide) ?_
  exact W.iret (v := (-1)) hx hb hr (fun t ht hW => ⟨⟨(-1), (), rfl, rfl, kB_mk ht hW hP hK hD⟩, hS.F ht⟩) hS.2.2 dX12_count_141
set_option maxHeartbeats 400000000 in
set_option maxRecDepth 100000 in
theorem c_X11_count_7 (l : Launch) (E : kE) (D : va_G) (cI cJ cB cZ : ClassId) (h0 : Nat) (x0 : Int32) (f0 : List Value) (h1 : Nat) (f1 : List Value) (e0 : ¬ ((x0 : Int32) = 4)) (e1 : f0[1]? = some (.ref h1)) (e2 : f1[8]? = some (.int 0)) (e3 : ¬ ((x0 : Int32) < 8)) : kI l E D (kT cI cJ cB cZ) yX11_count wsX11_count ({ frames := 0, cells := 0, slots := 0, locals := 0 }) [.ref h0, .int x0] [(h0, .inr (11, f0)), (h1, .inr (1, f1))] ((-1)) [(h0, .inr (11, f0)), (h1, .inr (1, f1))] 0 0 := by
  intro sz
  refine Met.ofW (cc := cX11_count) (maxL := 2) (ret := (some .int)) (by decide) rfl ?_
  intro p e s m args below meth c s₁ B hml hv
  obtain ⟨rfl, hsz, hP, hK, hD0, hN, hX⟩ := hv
  have hx := B.exec
  have hb := B.bytes
  have hr := B.returns
  have hts := atoms_spec (ws := wsX11_count) B.pre
  have hown : s.vm.findClass RX11 = some m.cls := findClass_of_methodNamed B.named
  have hlocks := B.notSynchronized
  have hin11 : ∀ w ∈ wsX110, w ∈ wsX11_count := (fun w h => (List.mem_cons_of_mem _ (List.mem_append_left _ (List.mem_append_left _ (List.mem_append_right _ h)))))
  have hin1 : ∀ w ∈ wsX10, w ∈ wsX11_count := (fun w h => (List.mem_cons_of_mem _ (List.mem_append_left _ (List.mem_append_right _ h))))
  subst hsz
  have hD := hD0.self (sz := s.heap.size)
  have hAE := k_AE hD0 hX
  generalize hAe : va_A [(h0, .inr (11, f0)), (h1, .inr (1, f1))] s.heap.size = A at hD hAE ⊢
  have hA : ∀ q : Nat, s.heap.size ≤ q → A q := fun q h => by rw [← hAe]; exact Or.inr h
  have hS : va_S A s.heap s.heap [] := va_S.rf
  have hP : va_P D vwCl [(h0, .inr (11, f0)), (h1, .inr (1, f1))] s.heap := hP
  have hl := lv_entry ([.ref h0, .int x0] : List Value) (n := 2) (Nat.le_of_ble_eq_true rfl)
  rw [lg_entry_eq]
  generalize (lg_sl ([.ref h0, .int x0]) ++ List.replicate (2 - (lg_sl ([.ref h0, .int x0])).length) Slot.unset).toArray = ls at hl ⊢
  have hl : lv_has ls 2 [(0, .ref h0), (1, .int x0)] := hl
  refine lv_iload_n hx hb dX11_count_0 rfl (lv_at hl 1 rfl) ?_
  refine lv_iconst (v := 4) hx hb dX11_count_1 (by decide) ?_
  refine lv_icmp_ne (tgt := 10) hx hb dX11_count_2 (by decide) (fun _ => ?_) (fun c9 => absurd c9 e0)
  refine lv_aload_n hx hb dX11_count_10 rfl (lv_at hl 0 rfl) ?_
  refine va_get (D := D) (ref := "IntegerHouse") (ci := 11) (v := .ref h1) (C := RX11) (T := TX11) (N := 15) hx hb hts hin11 hown hK hP 0 rfl rfl 1 (by decide) (hts (.fieldLink RX11 16 "IntegerHouse" "disk" "LIntegerHouse$Disk;") (List.mem_cons_of_mem _ (List.mem_append_left _ (List.mem_append_left _ (List.mem_append_left _ (List.mem_of_getElem? (i := 1) rfl)))))) (fun _ h9 => h9) e1 dX11_count_11 ?_
  refine va_getN (host := "IntegerHouse") (D := D) (ref := "IntegerHouse$Disk") (ci := 1) (v := .int 0) (C := RX1) (T := TX1) (N := 9) hx hb hts hin1 hown hK hP 1 rfl rfl 8 (by decide) (va_Nw.use rfl (hN.1 ("IntegerHouse", 122, "IntegerHouse$Disk", "down", "Z", "IntegerHouse") (List.mem_of_getElem? (i := 3) rfl))) (fun _ h9 => h9) e2 dX11_count_14 ?_
  refine lv_if_eq (tgt := 23) hx hb dX11_count_17 (by decide) (fun _ => ?_) (fun c9 => absurd (by decide) c9)
  refine lv_iload_n hx hb dX11_count_23 rfl (lv_at hl 1 rfl) ?_
  refine lv_tableOut (tgt := 128) hx hb dX11_count_24 (Or.inr (k_lt ((k_n3 (x := x0) (c := 7) (d := 8) (by decide)).mpr e3))) (by decide) ?_
  refine lv_iconst (v := (-1)) hx hb dX11_count_128 (by decide) ?_
  exact W.iret (v := (-1)) hx hb hr (fun t ht hW => ⟨⟨(-1), (), rfl, rfl, kB_mk ht hW hP hK hD⟩, hS.F ht⟩) hS.2.2 dX11_count_129
set_option maxHeartbeats 400000000 in
set_option maxRecDepth 100000 in
theorem c_X12_count_7 (l : Launch) (E : kE) (D : va_G) (cI cJ cB cZ : ClassId) (h0 : Nat) (x0 : Int32) (f0 : List Value) (e0 : f0[0]? = some (.int 0)) (e1 : ¬ ((x0 : Int32) = 4)) (e2 : f0[5]? = some (.int 0)) (e3 : f0[33]? = some (.int 0)) (e4 : ¬ ((x0 : Int32) < 8)) : kI l E D (kT cI cJ cB cZ) yX12_count wsX12_count ({ frames := 0, cells := 0, slots := 0, locals := 0 }) [.ref h0, .int x0] [(h0, .inr (12, f0))] ((-1)) [(h0, .inr (12, (f0.set 0 (.int 0))))] 0 0 := by
  intro sz
  refine Met.ofW (cc := cX12_count) (maxL := 4) (ret := (some .int)) (by decide) rfl ?_
  intro p e s m args below meth c s₁ B hml hv
  obtain ⟨rfl, hsz, hP, hK, hD0, hN, hX⟩ := hv
  have hx := B.exec
  have hb := B.bytes
  have hr := B.returns
  have hts := atoms_spec (ws := wsX12_count) B.pre
  have hown : s.vm.findClass RX12 = some m.cls := findClass_of_methodNamed B.named
  have hlocks := B.notSynchronized
  have hin12 : ∀ w ∈ wsX120, w ∈ wsX12_count := (fun w h => (List.mem_cons_of_mem _ (List.mem_append_right _ h)))
  subst hsz
  have hD := hD0.self (sz := s.heap.size)
  have hAE := k_AE hD0 hX
  generalize hAe : va_A [(h0, .inr (12, f0))] s.heap.size = A at hD hAE ⊢
  have hA : ∀ q : Nat, s.heap.size ≤ q → A q := fun q h => by rw [← hAe]; exact Or.inr h
  have hS : va_S A s.heap s.heap [] := va_S.rf
  have hP : va_P D vwCl [(h0, .inr (12, f0))] s.heap := hP
  have hl := lv_entry ([.ref h0, .int x0] : List Value) (n := 4) (Nat.le_of_ble_eq_true rfl)
  rw [lg_entry_eq]
  generalize (lg_sl ([.ref h0, .int x0]) ++ List.replicate (4 - (lg_sl ([.ref h0, .int x0])).length) Slot.unset).toArray = ls at hl ⊢
  have hl : lv_has ls 4 [(0, .ref h0), (1, .int x0)] := hl
  refine lv_aload_n hx hb dX12_count_0 rfl (lv_at hl 0 rfl) ?_
  refine lv_iconst (v := 0) hx hb dX12_count_1 (by decide) ?_
  refine va_put (D := D) (ref := "IntegerHouseModel") (ci := 12) (v := .int 0) (ty := .int) (C := RX12) (T := TX12) (N := 195) hx hb hts hin12 tyX12 tyX12_ok nmX12 hown hK hP hD hS 0 rfl rfl 0 (by decide) (hts (.fieldLink RX12 3 "IntegerHouseModel" "thrown" "I") (List.mem_cons_of_mem _ (List.mem_append_left _ (List.mem_of_getElem? (i := 0) rfl)))) (fun _ h9 => h9) rfl (by decide +kernel) rfl rfl (k_len e0) dX12_count_2 (fun H locs hP hD hS => ?_)
  have hP : va_P D vwCl [(h0, .inr (12, (f0.set 0 (.int 0))))] H := hP
  have hD : va_D A [(h0, .inr (12, (f0.set 0 (.int 0))))] := hD
  refine lv_iload_n hx hb dX12_count_5 rfl (lv_at hl 1 rfl) ?_
  refine lv_iconst (v := 4) hx hb dX12_count_6 (by decide) ?_
  refine lv_icmp_ne (tgt := 15) hx hb dX12_count_7 (by decide) (fun _ => ?_) (fun c9 => absurd c9 e1)
  refine lv_aload_n hx hb dX12_count_15 rfl (lv_at hl 0 rfl) ?_
  refine va_get (D := D) (ref := "IntegerHouseModel") (ci := 12) (v := .int 0) (C := RX12) (T := TX12) (N := 195) hx hb hts hin12 hown hK hP 0 rfl rfl 5 (by decide) (hts (.fieldLink RX12 488 "IntegerHouseModel" "down" "Z") (List.mem_cons_of_mem _ (List.mem_append_left _ (List.mem_of_getElem? (i := 2) rfl)))) (fun _ h9 => h9) (k_ne (by decide) e2) dX12_count_16 ?_
  refine lv_if_eq (tgt := 25) hx hb dX12_count_19 (by decide) (fun _ => ?_) (fun c9 => absurd (by decide) c9)
  refine lv_iconst (v := 0) hx hb dX12_count_25 (by decide) ?_
  refine lv_istore_n (lv' := [(2, .int 0), (0, .ref h0), (1, .int x0)]) hx hb dX12_count_26 rfl hl (by decide) rfl (fun ls hl => ?_)
  refine lv_iconst (v := 0) hx hb dX12_count_27 (by decide) ?_
  refine lv_istore_n (lv' := [(3, .int 0), (2, .int 0), (0, .ref h0), (1, .int x0)]) hx hb dX12_count_28 rfl hl (by decide) rfl (fun ls hl => ?_)
  refine lv_iload_n hx hb dX12_count_29 rfl (lv_at hl 0 rfl) ?_
  refine lv_aload_n hx hb dX12_count_30 rfl (lv_at hl 2 rfl) ?_
  refine va_get (D := D) (ref := "IntegerHouseModel") (ci := 12) (v := .int 0) (C := RX12) (T := TX12) (N := 195) hx hb hts hin12 hown hK hP 0 rfl rfl 33 (by decide) (hts (.fieldLink RX12 818 "IntegerHouseModel" "claims" "I") (List.mem_cons_of_mem _ (List.mem_append_left _ (List.mem_of_getElem? (i := 3) rfl)))) (fun _ h9 => h9) (k_ne (by decide) e3) dX12_count_31 ?_
  refine lv_icmp_ge (tgt := 60) hx hb dX12_count_34 (by decide) (fun _ => ?_) (fun c9 => absurd (by decide) c9)
  refine lv_iload_n hx hb dX12_count_60 rfl (lv_at hl 3 rfl) ?_
  refine lv_tableOut (tgt := 140) hx hb dX12_count_61 (Or.inr (k_lt ((k_n3 (x := x0) (c := 7) (d := 8) (by decide)).mpr e4))) (by decide) ?_
  refine lv_iconst (v := (-1)) hx hb dX12_count_140 (by decide) ?_
  exact W.iret (v := (-1)) hx hb hr (fun t ht hW => ⟨⟨(-1), (), rfl, rfl, kB_mk ht hW hP hK hD⟩, hS.F ht⟩) hS.2.2 dX12_count_141
set_option maxHeartbeats 400000000 in
set_option maxRecDepth 100000 in
theorem c_X11_count_8 (l : Launch) (E : kE) (D : va_G) (cI cJ cB cZ : ClassId) (h0 : Nat) (x0 : Int32) (f0 : List Value) (h1 : Nat) (f1 : List Value) (e0 : ¬ ((x0 : Int32) = 4)) (e1 : f0[1]? = some (.ref h1)) (e2 : f1[8]? = some (.int 0)) (e3 : (x0 : Int32) = 6) (e4 : f1[5]? = some (.int 0)) : kI l E D (kT cI cJ cB cZ) yX11_count wsX11_count ({ frames := 0, cells := 0, slots := 0, locals := 0 }) [.ref h0, .int x0] [(h0, .inr (11, f0)), (h1, .inr (1, f1))] (0) [(h0, .inr (11, f0)), (h1, .inr (1, f1))] 0 0 := by
  intro sz
  refine Met.ofW (cc := cX11_count) (maxL := 2) (ret := (some .int)) (by decide) rfl ?_
  intro p e s m args below meth c s₁ B hml hv
  obtain ⟨rfl, hsz, hP, hK, hD0, hN, hX⟩ := hv
  have hx := B.exec
  have hb := B.bytes
  have hr := B.returns
  have hts := atoms_spec (ws := wsX11_count) B.pre
  have hown : s.vm.findClass RX11 = some m.cls := findClass_of_methodNamed B.named
  have hlocks := B.notSynchronized
  have hin11 : ∀ w ∈ wsX110, w ∈ wsX11_count := (fun w h => (List.mem_cons_of_mem _ (List.mem_append_left _ (List.mem_append_left _ (List.mem_append_right _ h)))))
  have hin1 : ∀ w ∈ wsX10, w ∈ wsX11_count := (fun w h => (List.mem_cons_of_mem _ (List.mem_append_left _ (List.mem_append_right _ h))))
  subst hsz
  have hD := hD0.self (sz := s.heap.size)
  have hAE := k_AE hD0 hX
  generalize hAe : va_A [(h0, .inr (11, f0)), (h1, .inr (1, f1))] s.heap.size = A at hD hAE ⊢
  have hA : ∀ q : Nat, s.heap.size ≤ q → A q := fun q h => by rw [← hAe]; exact Or.inr h
  have hS : va_S A s.heap s.heap [] := va_S.rf
  have hP : va_P D vwCl [(h0, .inr (11, f0)), (h1, .inr (1, f1))] s.heap := hP
  have hl := lv_entry ([.ref h0, .int x0] : List Value) (n := 2) (Nat.le_of_ble_eq_true rfl)
  rw [lg_entry_eq]
  generalize (lg_sl ([.ref h0, .int x0]) ++ List.replicate (2 - (lg_sl ([.ref h0, .int x0])).length) Slot.unset).toArray = ls at hl ⊢
  have hl : lv_has ls 2 [(0, .ref h0), (1, .int x0)] := hl
  refine lv_iload_n hx hb dX11_count_0 rfl (lv_at hl 1 rfl) ?_
  refine lv_iconst (v := 4) hx hb dX11_count_1 (by decide) ?_
  refine lv_icmp_ne (tgt := 10) hx hb dX11_count_2 (by decide) (fun _ => ?_) (fun c9 => absurd c9 e0)
  refine lv_aload_n hx hb dX11_count_10 rfl (lv_at hl 0 rfl) ?_
  refine va_get (D := D) (ref := "IntegerHouse") (ci := 11) (v := .ref h1) (C := RX11) (T := TX11) (N := 15) hx hb hts hin11 hown hK hP 0 rfl rfl 1 (by decide) (hts (.fieldLink RX11 16 "IntegerHouse" "disk" "LIntegerHouse$Disk;") (List.mem_cons_of_mem _ (List.mem_append_left _ (List.mem_append_left _ (List.mem_append_left _ (List.mem_of_getElem? (i := 1) rfl)))))) (fun _ h9 => h9) e1 dX11_count_11 ?_
  refine va_getN (host := "IntegerHouse") (D := D) (ref := "IntegerHouse$Disk") (ci := 1) (v := .int 0) (C := RX1) (T := TX1) (N := 9) hx hb hts hin1 hown hK hP 1 rfl rfl 8 (by decide) (va_Nw.use rfl (hN.1 ("IntegerHouse", 122, "IntegerHouse$Disk", "down", "Z", "IntegerHouse") (List.mem_of_getElem? (i := 3) rfl))) (fun _ h9 => h9) e2 dX11_count_14 ?_
  refine lv_if_eq (tgt := 23) hx hb dX11_count_17 (by decide) (fun _ => ?_) (fun c9 => absurd (by decide) c9)
  refine lv_iload_n hx hb dX11_count_23 rfl (lv_at hl 1 rfl) ?_
  refine lv_tableIn (off := 91) (tgt := 115) hx hb dX11_count_24 (by rw [e3]; decide) (by rw [e3]; decide) (by rw [e3]; rfl) (by decide) ?_
  refine lv_aload_n hx hb dX11_count_115 rfl (lv_at hl 0 rfl) ?_
  refine va_get (D := D) (ref := "IntegerHouse") (ci := 11) (v := .ref h1) (C := RX11) (T := TX11) (N := 15) hx hb hts hin11 hown hK hP 0 rfl rfl 1 (by decide) (hts (.fieldLink RX11 16 "IntegerHouse" "disk" "LIntegerHouse$Disk;") (List.mem_cons_of_mem _ (List.mem_append_left _ (List.mem_append_left _ (List.mem_append_left _ (List.mem_of_getElem? (i := 1) rfl)))))) (fun _ h9 => h9) e1 dX11_count_116 ?_
  refine va_getN (host := "IntegerHouse") (D := D) (ref := "IntegerHouse$Disk") (ci := 1) (v := .int 0) (C := RX1) (T := TX1) (N := 9) hx hb hts hin1 hown hK hP 1 rfl rfl 5 (by decide) (va_Nw.use rfl (hN.1 ("IntegerHouse", 227, "IntegerHouse$Disk", "used", "I", "IntegerHouse") (List.mem_of_getElem? (i := 2) rfl))) (fun _ h9 => h9) e4 dX11_count_119 ?_
  exact W.iret (v := 0) hx hb hr (fun t ht hW => ⟨⟨0, (), rfl, rfl, kB_mk ht hW hP hK hD⟩, hS.F ht⟩) hS.2.2 dX11_count_122
set_option maxHeartbeats 400000000 in
set_option maxRecDepth 100000 in
theorem c_X12_count_8 (l : Launch) (E : kE) (D : va_G) (cI cJ cB cZ : ClassId) (h0 : Nat) (x0 : Int32) (f0 : List Value) (e0 : f0[0]? = some (.int 0)) (e1 : ¬ ((x0 : Int32) = 4)) (e2 : f0[5]? = some (.int 0)) (e3 : f0[33]? = some (.int 0)) (e4 : (x0 : Int32) = 6) (e5 : f0[4]? = some (.int 0)) : kI l E D (kT cI cJ cB cZ) yX12_count wsX12_count ({ frames := 0, cells := 0, slots := 0, locals := 0 }) [.ref h0, .int x0] [(h0, .inr (12, f0))] (0) [(h0, .inr (12, (f0.set 0 (.int 0))))] 0 0 := by
  intro sz
  refine Met.ofW (cc := cX12_count) (maxL := 4) (ret := (some .int)) (by decide) rfl ?_
  intro p e s m args below meth c s₁ B hml hv
  obtain ⟨rfl, hsz, hP, hK, hD0, hN, hX⟩ := hv
  have hx := B.exec
  have hb := B.bytes
  have hr := B.returns
  have hts := atoms_spec (ws := wsX12_count) B.pre
  have hown : s.vm.findClass RX12 = some m.cls := findClass_of_methodNamed B.named
  have hlocks := B.notSynchronized
  have hin12 : ∀ w ∈ wsX120, w ∈ wsX12_count := (fun w h => (List.mem_cons_of_mem _ (List.mem_append_right _ h)))
  subst hsz
  have hD := hD0.self (sz := s.heap.size)
  have hAE := k_AE hD0 hX
  generalize hAe : va_A [(h0, .inr (12, f0))] s.heap.size = A at hD hAE ⊢
  have hA : ∀ q : Nat, s.heap.size ≤ q → A q := fun q h => by rw [← hAe]; exact Or.inr h
  have hS : va_S A s.heap s.heap [] := va_S.rf
  have hP : va_P D vwCl [(h0, .inr (12, f0))] s.heap := hP
  have hl := lv_entry ([.ref h0, .int x0] : List Value) (n := 4) (Nat.le_of_ble_eq_true rfl)
  rw [lg_entry_eq]
  generalize (lg_sl ([.ref h0, .int x0]) ++ List.replicate (4 - (lg_sl ([.ref h0, .int x0])).length) Slot.unset).toArray = ls at hl ⊢
  have hl : lv_has ls 4 [(0, .ref h0), (1, .int x0)] := hl
  refine lv_aload_n hx hb dX12_count_0 rfl (lv_at hl 0 rfl) ?_
  refine lv_iconst (v := 0) hx hb dX12_count_1 (by decide) ?_
  refine va_put (D := D) (ref := "IntegerHouseModel") (ci := 12) (v := .int 0) (ty := .int) (C := RX12) (T := TX12) (N := 195) hx hb hts hin12 tyX12 tyX12_ok nmX12 hown hK hP hD hS 0 rfl rfl 0 (by decide) (hts (.fieldLink RX12 3 "IntegerHouseModel" "thrown" "I") (List.mem_cons_of_mem _ (List.mem_append_left _ (List.mem_of_getElem? (i := 0) rfl)))) (fun _ h9 => h9) rfl (by decide +kernel) rfl rfl (k_len e0) dX12_count_2 (fun H locs hP hD hS => ?_)
  have hP : va_P D vwCl [(h0, .inr (12, (f0.set 0 (.int 0))))] H := hP
  have hD : va_D A [(h0, .inr (12, (f0.set 0 (.int 0))))] := hD
  refine lv_iload_n hx hb dX12_count_5 rfl (lv_at hl 1 rfl) ?_
  refine lv_iconst (v := 4) hx hb dX12_count_6 (by decide) ?_
  refine lv_icmp_ne (tgt := 15) hx hb dX12_count_7 (by decide) (fun _ => ?_) (fun c9 => absurd c9 e1)
  refine lv_aload_n hx hb dX12_count_15 rfl (lv_at hl 0 rfl) ?_
  refine va_get (D := D) (ref := "IntegerHouseModel") (ci := 12) (v := .int 0) (C := RX12) (T := TX12) (N := 195) hx hb hts hin12 hown hK hP 0 rfl rfl 5 (by decide) (hts (.fieldLink RX12 488 "IntegerHouseModel" "down" "Z") (List.mem_cons_of_mem _ (List.mem_append_left _ (List.mem_of_getElem? (i := 2) rfl)))) (fun _ h9 => h9) (k_ne (by decide) e2) dX12_count_16 ?_
  refine lv_if_eq (tgt := 25) hx hb dX12_count_19 (by decide) (fun _ => ?_) (fun c9 => absurd (by decide) c9)
  refine lv_iconst (v := 0) hx hb dX12_count_25 (by decide) ?_
  refine lv_istore_n (lv' := [(2, .int 0), (0, .ref h0), (1, .int x0)]) hx hb dX12_count_26 rfl hl (by decide) rfl (fun ls hl => ?_)
  refine lv_iconst (v := 0) hx hb dX12_count_27 (by decide) ?_
  refine lv_istore_n (lv' := [(3, .int 0), (2, .int 0), (0, .ref h0), (1, .int x0)]) hx hb dX12_count_28 rfl hl (by decide) rfl (fun ls hl => ?_)
  refine lv_iload_n hx hb dX12_count_29 rfl (lv_at hl 0 rfl) ?_
  refine lv_aload_n hx hb dX12_count_30 rfl (lv_at hl 2 rfl) ?_
  refine va_get (D := D) (ref := "IntegerHouseModel") (ci := 12) (v := .int 0) (C := RX12) (T := TX12) (N := 195) hx hb hts hin12 hown hK hP 0 rfl rfl 33 (by decide) (hts (.fieldLink RX12 818 "IntegerHouseModel" "claims" "I") (List.mem_cons_of_mem _ (List.mem_append_left _ (List.mem_of_getElem? (i := 3) rfl)))) (fun _ h9 => h9) (k_ne (by decide) e3) dX12_count_31 ?_
  refine lv_icmp_ge (tgt := 60) hx hb dX12_count_34 (by decide) (fun _ => ?_) (fun c9 => absurd (by decide) c9)
  refine lv_iload_n hx hb dX12_count_60 rfl (lv_at hl 3 rfl) ?_
  refine lv_tableIn (off := 69) (tgt := 130) hx hb dX12_count_61 (by rw [e4]; decide) (by rw [e4]; decide) (by rw [e4]; rfl) (by decide) ?_
  refine lv_aload_n hx hb dX12_count_130 rfl (lv_at hl 2 rfl) ?_
  refine va_get (D := D) (ref := "IntegerHouseModel") (ci := 12) (v := .int 0) (C := RX12) (T := TX12) (N := 195) hx hb hts hin12 hown hK hP 0 rfl rfl 4 (by decide) (hts (.fieldLink RX12 478 "IntegerHouseModel" "used" "I") (List.mem_cons_of_mem _ (List.mem_append_left _ (List.mem_of_getElem? (i := 8) rfl)))) (fun _ h9 => h9) (k_ne (by decide) e5) dX12_count_131 ?_
  exact W.iret (v := 0) hx hb hr (fun t ht hW => ⟨⟨0, (), rfl, rfl, kB_mk ht hW hP hK hD⟩, hS.F ht⟩) hS.2.2 dX12_count_134
set_option maxHeartbeats 400000000 in
set_option maxRecDepth 100000 in
theorem c_X11_count_9 (l : Launch) (E : kE) (D : va_G) (cI cJ cB cZ : ClassId) (h0 : Nat) (x0 : Int32) (f0 : List Value) (h1 : Nat) (f1 : List Value) (e0 : ¬ ((x0 : Int32) = 4)) (e1 : f0[1]? = some (.ref h1)) (e2 : f1[8]? = some (.int 0)) (e3 : (x0 : Int32) = 7) (e4 : f0[14]? = some (.int 0)) : kI l E D (kT cI cJ cB cZ) yX11_count wsX11_count ({ frames := 0, cells := 0, slots := 0, locals := 0 }) [.ref h0, .int x0] [(h0, .inr (11, f0)), (h1, .inr (1, f1))] (0) [(h0, .inr (11, f0)), (h1, .inr (1, f1))] 0 0 := by
  intro sz
  refine Met.ofW (cc := cX11_count) (maxL := 2) (ret := (some .int)) (by decide) rfl ?_
  intro p e s m args below meth c s₁ B hml hv
  obtain ⟨rfl, hsz, hP, hK, hD0, hN, hX⟩ := hv
  have hx := B.exec
  have hb := B.bytes
  have hr := B.returns
  have hts := atoms_spec (ws := wsX11_count) B.pre
  have hown : s.vm.findClass RX11 = some m.cls := findClass_of_methodNamed B.named
  have hlocks := B.notSynchronized
  have hin11 : ∀ w ∈ wsX110, w ∈ wsX11_count := (fun w h => (List.mem_cons_of_mem _ (List.mem_append_left _ (List.mem_append_left _ (List.mem_append_right _ h)))))
  have hin1 : ∀ w ∈ wsX10, w ∈ wsX11_count := (fun w h => (List.mem_cons_of_mem _ (List.mem_append_left _ (List.mem_append_right _ h))))
  subst hsz
  have hD := hD0.self (sz := s.heap.size)
  have hAE := k_AE hD0 hX
  generalize hAe : va_A [(h0, .inr (11, f0)), (h1, .inr (1, f1))] s.heap.size = A at hD hAE ⊢
  have hA : ∀ q : Nat, s.heap.size ≤ q → A q := fun q h => by rw [← hAe]; exact Or.inr h
  have hS : va_S A s.heap s.heap [] := va_S.rf
  have hP : va_P D vwCl [(h0, .inr (11, f0)), (h1, .inr (1, f1))] s.heap := hP
  have hl := lv_entry ([.ref h0, .int x0] : List Value) (n := 2) (Nat.le_of_ble_eq_true rfl)
  rw [lg_entry_eq]
  generalize (lg_sl ([.ref h0, .int x0]) ++ List.replicate (2 - (lg_sl ([.ref h0, .int x0])).length) Slot.unset).toArray = ls at hl ⊢
  have hl : lv_has ls 2 [(0, .ref h0), (1, .int x0)] := hl
  refine lv_iload_n hx hb dX11_count_0 rfl (lv_at hl 1 rfl) ?_
  refine lv_iconst (v := 4) hx hb dX11_count_1 (by decide) ?_
  refine lv_icmp_ne (tgt := 10) hx hb dX11_count_2 (by decide) (fun _ => ?_) (fun c9 => absurd c9 e0)
  refine lv_aload_n hx hb dX11_count_10 rfl (lv_at hl 0 rfl) ?_
  refine va_get (D := D) (ref := "IntegerHouse") (ci := 11) (v := .ref h1) (C := RX11) (T := TX11) (N := 15) hx hb hts hin11 hown hK hP 0 rfl rfl 1 (by decide) (hts (.fieldLink RX11 16 "IntegerHouse" "disk" "LIntegerHouse$Disk;") (List.mem_cons_of_mem _ (List.mem_append_left _ (List.mem_append_left _ (List.mem_append_left _ (List.mem_of_getElem? (i := 1) rfl)))))) (fun _ h9 => h9) e1 dX11_count_11 ?_
  refine va_getN (host := "IntegerHouse") (D := D) (ref := "IntegerHouse$Disk") (ci := 1) (v := .int 0) (C := RX1) (T := TX1) (N := 9) hx hb hts hin1 hown hK hP 1 rfl rfl 8 (by decide) (va_Nw.use rfl (hN.1 ("IntegerHouse", 122, "IntegerHouse$Disk", "down", "Z", "IntegerHouse") (List.mem_of_getElem? (i := 3) rfl))) (fun _ h9 => h9) e2 dX11_count_14 ?_
  refine lv_if_eq (tgt := 23) hx hb dX11_count_17 (by decide) (fun _ => ?_) (fun c9 => absurd (by decide) c9)
  refine lv_iload_n hx hb dX11_count_23 rfl (lv_at hl 1 rfl) ?_
  refine lv_tableIn (off := 99) (tgt := 123) hx hb dX11_count_24 (by rw [e3]; decide) (by rw [e3]; decide) (by rw [e3]; rfl) (by decide) ?_
  refine lv_aload_n hx hb dX11_count_123 rfl (lv_at hl 0 rfl) ?_
  refine va_get (D := D) (ref := "IntegerHouse") (ci := 11) (v := .int 0) (C := RX11) (T := TX11) (N := 15) hx hb hts hin11 hown hK hP 0 rfl rfl 14 (by decide) (hts (.fieldLink RX11 137 "IntegerHouse" "acts" "I") (List.mem_cons_of_mem _ (List.mem_append_left _ (List.mem_append_left _ (List.mem_append_left _ (List.mem_of_getElem? (i := 3) rfl)))))) (fun _ h9 => h9) e4 dX11_count_124 ?_
  exact W.iret (v := 0) hx hb hr (fun t ht hW => ⟨⟨0, (), rfl, rfl, kB_mk ht hW hP hK hD⟩, hS.F ht⟩) hS.2.2 dX11_count_127
set_option maxHeartbeats 400000000 in
set_option maxRecDepth 100000 in
theorem c_X12_count_9 (l : Launch) (E : kE) (D : va_G) (cI cJ cB cZ : ClassId) (h0 : Nat) (x0 : Int32) (f0 : List Value) (e0 : f0[0]? = some (.int 0)) (e1 : ¬ ((x0 : Int32) = 4)) (e2 : f0[5]? = some (.int 0)) (e3 : f0[33]? = some (.int 0)) (e4 : (x0 : Int32) = 7) (e5 : f0[16]? = some (.int 0)) : kI l E D (kT cI cJ cB cZ) yX12_count wsX12_count ({ frames := 0, cells := 0, slots := 0, locals := 0 }) [.ref h0, .int x0] [(h0, .inr (12, f0))] (0) [(h0, .inr (12, (f0.set 0 (.int 0))))] 0 0 := by
  intro sz
  refine Met.ofW (cc := cX12_count) (maxL := 4) (ret := (some .int)) (by decide) rfl ?_
  intro p e s m args below meth c s₁ B hml hv
  obtain ⟨rfl, hsz, hP, hK, hD0, hN, hX⟩ := hv
  have hx := B.exec
  have hb := B.bytes
  have hr := B.returns
  have hts := atoms_spec (ws := wsX12_count) B.pre
  have hown : s.vm.findClass RX12 = some m.cls := findClass_of_methodNamed B.named
  have hlocks := B.notSynchronized
  have hin12 : ∀ w ∈ wsX120, w ∈ wsX12_count := (fun w h => (List.mem_cons_of_mem _ (List.mem_append_right _ h)))
  subst hsz
  have hD := hD0.self (sz := s.heap.size)
  have hAE := k_AE hD0 hX
  generalize hAe : va_A [(h0, .inr (12, f0))] s.heap.size = A at hD hAE ⊢
  have hA : ∀ q : Nat, s.heap.size ≤ q → A q := fun q h => by rw [← hAe]; exact Or.inr h
  have hS : va_S A s.heap s.heap [] := va_S.rf
  have hP : va_P D vwCl [(h0, .inr (12, f0))] s.heap := hP
  have hl := lv_entry ([.ref h0, .int x0] : List Value) (n := 4) (Nat.le_of_ble_eq_true rfl)
  rw [lg_entry_eq]
  generalize (lg_sl ([.ref h0, .int x0]) ++ List.replicate (4 - (lg_sl ([.ref h0, .int x0])).length) Slot.unset).toArray = ls at hl ⊢
  have hl : lv_has ls 4 [(0, .ref h0), (1, .int x0)] := hl
  refine lv_aload_n hx hb dX12_count_0 rfl (lv_at hl 0 rfl) ?_
  refine lv_iconst (v := 0) hx hb dX12_count_1 (by decide) ?_
  refine va_put (D := D) (ref := "IntegerHouseModel") (ci := 12) (v := .int 0) (ty := .int) (C := RX12) (T := TX12) (N := 195) hx hb hts hin12 tyX12 tyX12_ok nmX12 hown hK hP hD hS 0 rfl rfl 0 (by decide) (hts (.fieldLink RX12 3 "IntegerHouseModel" "thrown" "I") (List.mem_cons_of_mem _ (List.mem_append_left _ (List.mem_of_getElem? (i := 0) rfl)))) (fun _ h9 => h9) rfl (by decide +kernel) rfl rfl (k_len e0) dX12_count_2 (fun H locs hP hD hS => ?_)
  have hP : va_P D vwCl [(h0, .inr (12, (f0.set 0 (.int 0))))] H := hP
  have hD : va_D A [(h0, .inr (12, (f0.set 0 (.int 0))))] := hD
  refine lv_iload_n hx hb dX12_count_5 rfl (lv_at hl 1 rfl) ?_
  refine lv_iconst (v := 4) hx hb dX12_count_6 (by decide) ?_
  refine lv_icmp_ne (tgt := 15) hx hb dX12_count_7 (by decide) (fun _ => ?_) (fun c9 => absurd c9 e1)
  refine lv_aload_n hx hb dX12_count_15 rfl (lv_at hl 0 rfl) ?_
  refine va_get (D := D) (ref := "IntegerHouseModel") (ci := 12) (v := .int 0) (C := RX12) (T := TX12) (N := 195) hx hb hts hin12 hown hK hP 0 rfl rfl 5 (by decide) (hts (.fieldLink RX12 488 "IntegerHouseModel" "down" "Z") (List.mem_cons_of_mem _ (List.mem_append_left _ (List.mem_of_getElem? (i := 2) rfl)))) (fun _ h9 => h9) (k_ne (by decide) e2) dX12_count_16 ?_
  refine lv_if_eq (tgt := 25) hx hb dX12_count_19 (by decide) (fun _ => ?_) (fun c9 => absurd (by decide) c9)
  refine lv_iconst (v := 0) hx hb dX12_count_25 (by decide) ?_
  refine lv_istore_n (lv' := [(2, .int 0), (0, .ref h0), (1, .int x0)]) hx hb dX12_count_26 rfl hl (by decide) rfl (fun ls hl => ?_)
  refine lv_iconst (v := 0) hx hb dX12_count_27 (by decide) ?_
  refine lv_istore_n (lv' := [(3, .int 0), (2, .int 0), (0, .ref h0), (1, .int x0)]) hx hb dX12_count_28 rfl hl (by decide) rfl (fun ls hl => ?_)
  refine lv_iload_n hx hb dX12_count_29 rfl (lv_at hl 0 rfl) ?_
  refine lv_aload_n hx hb dX12_count_30 rfl (lv_at hl 2 rfl) ?_
  refine va_get (D := D) (ref := "IntegerHouseModel") (ci := 12) (v := .int 0) (C := RX12) (T := TX12) (N := 195) hx hb hts hin12 hown hK hP 0 rfl rfl 33 (by decide) (hts (.fieldLink RX12 818 "IntegerHouseModel" "claims" "I") (List.mem_cons_of_mem _ (List.mem_append_left _ (List.mem_of_getElem? (i := 3) rfl)))) (fun _ h9 => h9) (k_ne (by decide) e3) dX12_count_31 ?_
  refine lv_icmp_ge (tgt := 60) hx hb dX12_count_34 (by decide) (fun _ => ?_) (fun c9 => absurd (by decide) c9)
  refine lv_iload_n hx hb dX12_count_60 rfl (lv_at hl 3 rfl) ?_
  refine lv_tableIn (off := 74) (tgt := 135) hx hb dX12_count_61 (by rw [e4]; decide) (by rw [e4]; decide) (by rw [e4]; rfl) (by decide) ?_
  refine lv_aload_n hx hb dX12_count_135 rfl (lv_at hl 2 rfl) ?_
  refine va_get (D := D) (ref := "IntegerHouseModel") (ci := 12) (v := .int 0) (C := RX12) (T := TX12) (N := 195) hx hb hts hin12 hown hK hP 0 rfl rfl 16 (by decide) (hts (.fieldLink RX12 498 "IntegerHouseModel" "done" "I") (List.mem_cons_of_mem _ (List.mem_append_left _ (List.mem_of_getElem? (i := 9) rfl)))) (fun _ h9 => h9) (k_ne (by decide) e5) dX12_count_136 ?_
  exact W.iret (v := 0) hx hb hr (fun t ht hW => ⟨⟨0, (), rfl, rfl, kB_mk ht hW hP hK hD⟩, hS.F ht⟩) hS.2.2 dX12_count_139
set_option maxHeartbeats 400000000 in
set_option maxRecDepth 100000 in
theorem c_X11_useTape_0 (l : Launch) (E : kE) (D : va_G) (cI cJ cB cZ : ClassId) (h0 : Nat) (f0 : List Value) (e0 : f0[12]? = some (.int 0)) : kI l E D (kT cI cJ cB cZ) yX11_useTape wsX11_useTape ({ frames := 0, cells := 0, slots := 0, locals := 0 }) [.ref h0] [(h0, .inr (11, f0))] (0) [(h0, .inr (11, (f0.set 12 (.int 0))))] 0 0 := by
  intro sz
  refine Met.ofW (cc := cX11_useTape) (maxL := 2) (ret := (some .int)) (by decide) rfl ?_
  intro p e s m args below meth c s₁ B hml hv
  obtain ⟨rfl, hsz, hP, hK, hD0, hN, hX⟩ := hv
  have hx := B.exec
  have hb := B.bytes
  have hr := B.returns
  have hts := atoms_spec (ws := wsX11_useTape) B.pre
  have hown : s.vm.findClass RX11 = some m.cls := findClass_of_methodNamed B.named
  have hlocks := B.notSynchronized
  have hin11 : ∀ w ∈ wsX110, w ∈ wsX11_useTape := (fun w h => (List.mem_cons_of_mem _ (List.mem_append_right _ h)))
  subst hsz
  have hD := hD0.self (sz := s.heap.size)
  have hAE := k_AE hD0 hX
  generalize hAe : va_A [(h0, .inr (11, f0))] s.heap.size = A at hD hAE ⊢
  have hA : ∀ q : Nat, s.heap.size ≤ q → A q := fun q h => by rw [← hAe]; exact Or.inr h
  have hS : va_S A s.heap s.heap [] := va_S.rf
  have hP : va_P D vwCl [(h0, .inr (11, f0))] s.heap := hP
  have hl := lv_entry ([.ref h0] : List Value) (n := 2) (Nat.le_of_ble_eq_true rfl)
  rw [lg_entry_eq]
  generalize (lg_sl ([.ref h0]) ++ List.replicate (2 - (lg_sl ([.ref h0])).length) Slot.unset).toArray = ls at hl ⊢
  have hl : lv_has ls 2 [(0, .ref h0)] := hl
  refine lv_aload_n hx hb dX11_useTape_0 rfl (lv_at hl 0 rfl) ?_
  refine va_get (D := D) (ref := "IntegerHouse") (ci := 11) (v := .int 0) (C := RX11) (T := TX11) (N := 15) hx hb hts hin11 hown hK hP 0 rfl rfl 12 (by decide) (hts (.fieldLink RX11 102 "IntegerHouse" "tapeLength" "I") (List.mem_cons_of_mem _ (List.mem_append_left _ (List.mem_of_getElem? (i := 0) rfl)))) (fun _ h9 => h9) e0 dX11_useTape_1 ?_
  refine lv_istore_n (lv' := [(1, .int 0), (0, .ref h0)]) hx hb dX11_useTape_4 rfl hl (by decide) rfl (fun ls hl => ?_)
  refine lv_aload_n hx hb dX11_useTape_5 rfl (lv_at hl 1 rfl) ?_
  refine lv_iconst (v := 0) hx hb dX11_useTape_6 (by decide) ?_
  refine va_put (D := D) (ref := "IntegerHouse") (ci := 11) (v := .int 0) (ty := .int) (C := RX11) (T := TX11) (N := 15) hx hb hts hin11 tyX11 tyX11_ok nmX11 hown hK hP hD hS 0 rfl rfl 12 (by decide) (hts (.fieldLink RX11 102 "IntegerHouse" "tapeLength" "I") (List.mem_cons_of_mem _ (List.mem_append_left _ (List.mem_of_getElem? (i := 0) rfl)))) (fun _ h9 => h9) rfl (by decide +kernel) rfl rfl (k_len e0) dX11_useTape_7 (fun H locs hP hD hS => ?_)
  have hP : va_P D vwCl [(h0, .inr (11, (f0.set 12 (.int 0))))] H := hP
  have hD : va_D A [(h0, .inr (11, (f0.set 12 (.int 0))))] := hD
  refine lv_iload_n hx hb dX11_useTape_10 rfl (lv_at hl 0 rfl) ?_
  exact W.iret (v := 0) hx hb hr (fun t ht hW => ⟨⟨0, (), rfl, rfl, kB_mk ht hW hP hK hD⟩, hS.F ht⟩) hS.2.2 dX11_useTape_11
set_option maxHeartbeats 400000000 in
set_option maxRecDepth 100000 in
theorem c_X3_behindBlanks_0 (l : Launch) (E : kE) (D : va_G) (cI cJ cB cZ : ClassId) (h0 : Nat) (f0 : List Value) (e0 : f0[8]? = some (.int 0)) : kI l E D (kT cI cJ cB cZ) yX3_behindBlanks wsX3_behindBlanks ({ frames := 0, cells := 0, slots := 0, locals := 0 }) [.ref h0, .int 0] [(h0, .inr (3, f0))] (0) [(h0, .inr (3, f0))] 0 0 := by
  intro sz
  refine Met.ofW (cc := cX3_behindBlanks) (maxL := 3) (ret := (some .int)) (by decide) rfl ?_
  intro p e s m args below meth c s₁ B hml hv
  obtain ⟨rfl, hsz, hP, hK, hD0, hN, hX⟩ := hv
  have hx := B.exec
  have hb := B.bytes
  have hr := B.returns
  have hts := atoms_spec (ws := wsX3_behindBlanks) B.pre
  have hown : s.vm.findClass RX3 = some m.cls := findClass_of_methodNamed B.named
  have hlocks := B.notSynchronized
  have hin3 : ∀ w ∈ wsX30, w ∈ wsX3_behindBlanks := (fun w h => (List.mem_cons_of_mem _ (List.mem_append_right _ h)))
  subst hsz
  have hD := hD0.self (sz := s.heap.size)
  have hAE := k_AE hD0 hX
  generalize hAe : va_A [(h0, .inr (3, f0))] s.heap.size = A at hD hAE ⊢
  have hA : ∀ q : Nat, s.heap.size ≤ q → A q := fun q h => by rw [← hAe]; exact Or.inr h
  have hS : va_S A s.heap s.heap [] := va_S.rf
  have hP : va_P D vwCl [(h0, .inr (3, f0))] s.heap := hP
  have hl := lv_entry ([.ref h0, .int 0] : List Value) (n := 3) (Nat.le_of_ble_eq_true rfl)
  rw [lg_entry_eq]
  generalize (lg_sl ([.ref h0, .int 0]) ++ List.replicate (3 - (lg_sl ([.ref h0, .int 0])).length) Slot.unset).toArray = ls at hl ⊢
  have hl : lv_has ls 3 [(0, .ref h0), (1, .int 0)] := hl
  refine lv_iload_n hx hb dX3_behindBlanks_0 rfl (lv_at hl 1 rfl) ?_
  refine lv_istore_n (lv' := [(2, .int 0), (0, .ref h0), (1, .int 0)]) hx hb dX3_behindBlanks_1 rfl hl (by decide) rfl (fun ls hl => ?_)
  refine lv_iload_n hx hb dX3_behindBlanks_2 rfl (lv_at hl 0 rfl) ?_
  refine lv_aload_n hx hb dX3_behindBlanks_3 rfl (lv_at hl 1 rfl) ?_
  refine va_get (D := D) (ref := "IntegerHouse$Lexer") (ci := 3) (v := .int 0) (C := RX3) (T := TX3) (N := 9) hx hb hts hin3 hown hK hP 0 rfl rfl 8 (by decide) (hts (.fieldLink RX3 52 "IntegerHouse$Lexer" "stop" "I") (List.mem_cons_of_mem _ (List.mem_append_left _ (List.mem_of_getElem? (i := 0) rfl)))) (fun _ h9 => h9) e0 dX3_behindBlanks_4 ?_
  refine lv_icmp_ge (tgt := 36) hx hb dX3_behindBlanks_7 (by decide) (fun _ => ?_) (fun c9 => absurd (by decide) c9)
  refine lv_iload_n hx hb dX3_behindBlanks_36 rfl (lv_at hl 0 rfl) ?_
  exact W.iret (v := 0) hx hb hr (fun t ht hW => ⟨⟨0, (), rfl, rfl, kB_mk ht hW hP hK hD⟩, hS.F ht⟩) hS.2.2 dX3_behindBlanks_37
set_option maxHeartbeats 400000000 in
set_option maxRecDepth 100000 in
theorem c_X3_scan_0 (l : Launch) (E : kE) (D : va_G) (cI cJ cB cZ : ClassId) (h0 : Nat) (h1 : Nat) (f0 : List Value) (h2 : Nat) (h3 : Nat) (g0 : Nat → Int32) (h4 : Nat) (g1 : Nat → Int32) (e0 : f0[6]? = some (.ref h2)) (e1 : f0[7]? = some (.int 0)) (e2 : f0[8]? = some (.int 0)) (e3 : f0[5]? = some (.int 0)) (e4 : f0[1]? = some (.ref h3)) (e5 : f0[2]? = some (.ref h4)) : kV l E D (kT cI cJ cB cZ) yX3_scan wsX3_scan ({ frames := 1, cells := 0, slots := 0, locals := 22 }) [.ref h0, .ref h1, .int 0, .int 0, .int 0] [(h0, .inr (3, f0)), (h3, .inl (cI, 2001, .inl g0)), (h4, .inl (cI, 2001, .inl g1))] (fun _ : Unit => [(h0, .inr (3, ((((f0.set 6 (.ref h1)).set 7 (.int 0)).set 8 (.int 0)).set 5 (.int 0)))), (h3, .inl (cI, 2001, .inl (upd g0 0 0))), (h4, .inl (cI, 2001, .inl (upd g1 0 0)))]) 0 0 := by
  intro sz
  refine Met.ofW (cc := cX3_scan) (maxL := 9) (ret := none) (by decide) rfl ?_
  intro p e s m args below meth c s₁ B hml hv
  obtain ⟨rfl, hsz, hP, hK, hD0, hN, hX⟩ := hv
  have hx := B.exec
  have hb := B.bytes
  have hr := B.returns
  have hts := atoms_spec (ws := wsX3_scan) B.pre
  have hown : s.vm.findClass RX3 = some m.cls := findClass_of_methodNamed B.named
  have hlocks := B.notSynchronized
  have hin3 : ∀ w ∈ wsX30, w ∈ wsX3_scan := (fun w h => (List.mem_cons_of_mem _ (List.mem_append_right _ h)))
  subst hsz
  have hD := hD0.self (sz := s.heap.size)
  have hAE := k_AE hD0 hX
  generalize hAe : va_A [(h0, .inr (3, f0)), (h3, .inl (cI, 2001, .inl g0)), (h4, .inl (cI, 2001, .inl g1))] s.heap.size = A at hD hAE ⊢
  have hA : ∀ q : Nat, s.heap.size ≤ q → A q := fun q h => by rw [← hAe]; exact Or.inr h
  have hS : va_S A s.heap s.heap [] := va_S.rf
  have hP : va_P D vwCl [(h0, .inr (3, f0)), (h3, .inl (cI, 2001, .inl g0)), (h4, .inl (cI, 2001, .inl g1))] s.heap := hP
  have hl := lv_entry ([.ref h0, .ref h1, .int 0, .int 0, .int 0] : List Value) (n := 9) (Nat.le_of_ble_eq_true rfl)
  rw [lg_entry_eq]
  generalize (lg_sl ([.ref h0, .ref h1, .int 0, .int 0, .int 0]) ++ List.replicate (9 - (lg_sl ([.ref h0, .ref h1, .int 0, .int 0, .int 0])).length) Slot.unset).toArray = ls at hl ⊢
  have hl : lv_has ls 9 [(0, .ref h0), (1, .ref h1), (2, .int 0), (3, .int 0), (4, .int 0)] := hl
  refine lv_aload_n hx hb dX3_scan_0 rfl (lv_at hl 0 rfl) ?_
  refine lv_aload_n hx hb dX3_scan_1 rfl (lv_at hl 1 rfl) ?_
  refine va_put (D := D) (ref := "IntegerHouse$Lexer") (ci := 3) (v := .ref h1) (ty := (.array .byte)) (C := RX3) (T := TX3) (N := 9) hx hb hts hin3 tyX3 tyX3_ok nmX3 hown hK hP hD hS 0 rfl rfl 6 (by decide) (hts (.fieldLink RX3 28 "IntegerHouse$Lexer" "source" "[B") (List.mem_cons_of_mem _ (List.mem_append_left _ (List.mem_append_left _ (List.mem_of_getElem? (i := 0) rfl))))) (fun _ h9 => h9) rfl (by decide +kernel) rfl rfl (k_len e0) dX3_scan_2 (fun H locs hP hD hS => ?_)
  have hP : va_P D vwCl [(h0, .inr (3, (f0.set 6 (.ref h1)))), (h3, .inl (cI, 2001, .inl g0)), (h4, .inl (cI, 2001, .inl g1))] H := hP
  have hD : va_D A [(h0, .inr (3, (f0.set 6 (.ref h1)))), (h3, .inl (cI, 2001, .inl g0)), (h4, .inl (cI, 2001, .inl g1))] := hD
  refine lv_aload_n hx hb dX3_scan_5 rfl (lv_at hl 0 rfl) ?_
  refine lv_iload_n hx hb dX3_scan_6 rfl (lv_at hl 2 rfl) ?_
  refine va_put (D := D) (ref := "IntegerHouse$Lexer") (ci := 3) (v := .int 0) (ty := .int) (C := RX3) (T := TX3) (N := 9) hx hb hts hin3 tyX3 tyX3_ok nmX3 hown hK hP hD hS 0 rfl rfl 7 (by decide) (hts (.fieldLink RX3 55 "IntegerHouse$Lexer" "begin" "I") (List.mem_cons_of_mem _ (List.mem_append_left _ (List.mem_append_left _ (List.mem_of_getElem? (i := 1) rfl))))) (fun _ h9 => h9) rfl (by decide +kernel) rfl rfl (k_len (k_ne (by decide) e1)) dX3_scan_7 (fun H locs hP hD hS => ?_)
  have hP : va_P D vwCl [(h0, .inr (3, ((f0.set 6 (.ref h1)).set 7 (.int 0)))), (h3, .inl (cI, 2001, .inl g0)), (h4, .inl (cI, 2001, .inl g1))] H := hP
  have hD : va_D A [(h0, .inr (3, ((f0.set 6 (.ref h1)).set 7 (.int 0)))), (h3, .inl (cI, 2001, .inl g0)), (h4, .inl (cI, 2001, .inl g1))] := hD
  refine lv_aload_n hx hb dX3_scan_10 rfl (lv_at hl 0 rfl) ?_
  refine lv_iload_n hx hb dX3_scan_11 rfl (lv_at hl 2 rfl) ?_
  refine lv_iload_n hx hb dX3_scan_12 rfl (lv_at hl 3 rfl) ?_
  refine lv_iadd hx hb dX3_scan_13 ?_
  refine k_topi (y := 0) (by decide) ?_
  refine va_put (D := D) (ref := "IntegerHouse$Lexer") (ci := 3) (v := .int 0) (ty := .int) (C := RX3) (T := TX3) (N := 9) hx hb hts hin3 tyX3 tyX3_ok nmX3 hown hK hP hD hS 0 rfl rfl 8 (by decide) (hts (.fieldLink RX3 52 "IntegerHouse$Lexer" "stop" "I") (List.mem_cons_of_mem _ (List.mem_append_left _ (List.mem_append_left _ (List.mem_of_getElem? (i := 2) rfl))))) (fun _ h9 => h9) rfl (by decide +kernel) rfl rfl (k_len (k_ne (by decide) (k_ne (by decide) e2))) dX3_scan_14 (fun H locs hP hD hS => ?_)
  have hP : va_P D vwCl [(h0, .inr (3, (((f0.set 6 (.ref h1)).set 7 (.int 0)).set 8 (.int 0)))), (h3, .inl (cI, 2001, .inl g0)), (h4, .inl (cI, 2001, .inl g1))] H := hP
  have hD : va_D A [(h0, .inr (3, (((f0.set 6 (.ref h1)).set 7 (.int 0)).set 8 (.int 0)))), (h3, .inl (cI, 2001, .inl g0)), (h4, .inl (cI, 2001, .inl g1))] := hD
  refine lv_aload_n hx hb dX3_scan_17 rfl (lv_at hl 0 rfl) ?_
  refine lv_iconst (v := 0) hx hb dX3_scan_18 (by decide) ?_
  refine va_put (D := D) (ref := "IntegerHouse$Lexer") (ci := 3) (v := .int 0) (ty := .int) (C := RX3) (T := TX3) (N := 9) hx hb hts hin3 tyX3 tyX3_ok nmX3 hown hK hP hD hS 0 rfl rfl 5 (by decide) (hts (.fieldLink RX3 48 "IntegerHouse$Lexer" "size" "I") (List.mem_cons_of_mem _ (List.mem_append_left _ (List.mem_append_left _ (List.mem_of_getElem? (i := 3) rfl))))) (fun _ h9 => h9) rfl (by decide +kernel) rfl rfl (k_len (k_ne (by decide) (k_ne (by decide) (k_ne (by decide) e3)))) dX3_scan_19 (fun H locs hP hD hS => ?_)
  have hP : va_P D vwCl [(h0, .inr (3, ((((f0.set 6 (.ref h1)).set 7 (.int 0)).set 8 (.int 0)).set 5 (.int 0)))), (h3, .inl (cI, 2001, .inl g0)), (h4, .inl (cI, 2001, .inl g1))] H := hP
  have hD : va_D A [(h0, .inr (3, ((((f0.set 6 (.ref h1)).set 7 (.int 0)).set 8 (.int 0)).set 5 (.int 0)))), (h3, .inl (cI, 2001, .inl g0)), (h4, .inl (cI, 2001, .inl g1))] := hD
  refine lv_aload_n hx hb dX3_scan_22 rfl (lv_at hl 0 rfl) ?_
  refine lv_iload_n hx hb dX3_scan_23 rfl (lv_at hl 2 rfl) ?_
  refine k_cVi (As := [.int 0]) (rest := []) (wc := [(h0, .inr (3, ((((f0.set 6 (.ref h1)).set 7 (.int 0)).set 8 (.int 0)).set 5 (.int 0))))]) (wr := [(h3, .inl (cI, 2001, .inl g0)), (h4, .inl (cI, 2001, .inl g1))]) (w1 := [(h0, .inr (3, ((((f0.set 6 (.ref h1)).set 7 (.int 0)).set 8 (.int 0)).set 5 (.int 0))))]) ⟨hx, hb, hml, hown, hts⟩ hN hX hAE hK hP hD hS hA [0] [1, 2] (ci := 3) rfl rfl rfl rfl (by decide +kernel) (by decide +kernel) (by decide +kernel) (c_X3_behindBlanks_0 l E D cI cJ cB cZ h0 (((((f0.set 6 (.ref h1)).set 7 (.int 0)).set 8 (.int 0)).set 5 (.int 0))) (k_ne (by decide) (k_set (k_ne (by decide) (k_ne (by decide) e2))))) (cwV 1 hts gX3_scan_X3_behindBlanks rfl rfl rfl (by decide +kernel) ⟨Nat.le_of_ble_eq_true rfl, Nat.le_of_ble_eq_true rfl⟩) rfl hl.1 (Nat.le_of_ble_eq_true rfl) dX3_scan_24 ⟨Nat.le_of_ble_eq_true rfl, Nat.le_of_ble_eq_true rfl⟩ (fun H locs hP hD hS => ?_)
  have hP : va_P D vwCl [(h3, .inl (cI, 2001, .inl g0)), (h4, .inl (cI, 2001, .inl g1)), (h0, .inr (3, ((((f0.set 6 (.ref h1)).set 7 (.int 0)).set 8 (.int 0)).set 5 (.int 0))))] H := hP
  have hD : va_D A [(h3, .inl (cI, 2001, .inl g0)), (h4, .inl (cI, 2001, .inl g1)), (h0, .inr (3, ((((f0.set 6 (.ref h1)).set 7 (.int 0)).set 8 (.int 0)).set 5 (.int 0))))] := hD
  refine lv_istore (lv' := [(5, .int 0), (0, .ref h0), (1, .ref h1), (2, .int 0), (3, .int 0), (4, .int 0)]) hx hb dX3_scan_27 hl (by decide) rfl (fun ls hl => ?_)
  refine lv_iload hx hb dX3_scan_29 (lv_at hl 5 rfl) ?_
  refine lv_if_eq (tgt := 39) hx hb dX3_scan_31 (by decide) (fun _ => ?_) (fun c9 => absurd (by decide) c9)
  refine lv_bipush (v := 14) hx hb dX3_scan_39 (by decide) ?_
  refine lv_istore (lv' := [(6, .int 14), (5, .int 0), (0, .ref h0), (1, .ref h1), (2, .int 0), (3, .int 0), (4, .int 0)]) hx hb dX3_scan_41 hl (by decide) rfl (fun ls hl => ?_)
  refine lv_iconst (v := 0) hx hb dX3_scan_43 (by decide) ?_
  refine lv_istore (lv' := [(7, .int 0), (6, .int 14), (5, .int 0), (0, .ref h0), (1, .ref h1), (2, .int 0), (3, .int 0), (4, .int 0)]) hx hb dX3_scan_44 hl (by decide) rfl (fun ls hl => ?_)
  refine lv_iload hx hb dX3_scan_46 (lv_at hl 0 rfl) ?_
  refine lv_sipush (v := 2000) hx hb dX3_scan_48 (by decide) ?_
  refine lv_icmp_ge (tgt := 179) hx hb dX3_scan_51 (by decide) (fun c9 => absurd c9 (by decide)) (fun _ => ?_)
  refine lv_iload hx hb dX3_scan_54 (lv_at hl 2 rfl) ?_
  refine lv_aload_n hx hb dX3_scan_56 rfl (lv_at hl 3 rfl) ?_
  refine va_get (D := D) (ref := "IntegerHouse$Lexer") (ci := 3) (v := .int 0) (C := RX3) (T := TX3) (N := 9) hx hb hts hin3 hown hK hP 2 rfl rfl 8 (by decide) (hts (.fieldLink RX3 52 "IntegerHouse$Lexer" "stop" "I") (List.mem_cons_of_mem _ (List.mem_append_left _ (List.mem_append_left _ (List.mem_of_getElem? (i := 2) rfl))))) (fun _ h9 => h9) (k_ne (by decide) (k_set (k_ne (by decide) (k_ne (by decide) e2)))) dX3_scan_57 ?_
  refine lv_icmp_ge (tgt := 179) hx hb dX3_scan_60 (by decide) (fun _ => ?_) (fun c9 => absurd (by decide) c9)
  refine lv_aload_n hx hb dX3_scan_179 rfl (lv_at hl 3 rfl) ?_
  refine va_get (D := D) (ref := "IntegerHouse$Lexer") (ci := 3) (v := .ref h3) (C := RX3) (T := TX3) (N := 9) hx hb hts hin3 hown hK hP 2 rfl rfl 1 (by decide) (hts (.fieldLink RX3 15 "IntegerHouse$Lexer" "kinds" "[I") (List.mem_cons_of_mem _ (List.mem_append_left _ (List.mem_append_left _ (List.mem_of_getElem? (i := 5) rfl))))) (fun _ h9 => h9) (k_ne (by decide) (k_ne (by decide) (k_ne (by decide) (k_ne (by decide) e4)))) dX3_scan_180 ?_
  refine lv_aload_n hx hb dX3_scan_183 rfl (lv_at hl 3 rfl) ?_
  refine va_get (D := D) (ref := "IntegerHouse$Lexer") (ci := 3) (v := .int 0) (C := RX3) (T := TX3) (N := 9) hx hb hts hin3 hown hK hP 2 rfl rfl 5 (by decide) (hts (.fieldLink RX3 48 "IntegerHouse$Lexer" "size" "I") (List.mem_cons_of_mem _ (List.mem_append_left _ (List.mem_append_left _ (List.mem_of_getElem? (i := 3) rfl))))) (fun _ h9 => h9) (k_set (k_ne (by decide) (k_ne (by decide) (k_ne (by decide) e3)))) dX3_scan_184 ?_
  refine lv_iconst (v := 0) hx hb dX3_scan_187 (by decide) ?_
  refine va_iast hx hb hK hP hD hS 0 0 rfl rfl (k_in (by decide)) dX3_scan_188 (fun H locs hP hD hS => ?_)
  have hP : va_P D vwCl [(h3, .inl (cI, 2001, .inl (upd g0 0 0))), (h4, .inl (cI, 2001, .inl g1)), (h0, .inr (3, ((((f0.set 6 (.ref h1)).set 7 (.int 0)).set 8 (.int 0)).set 5 (.int 0))))] H := hP
  have hD : va_D A [(h3, .inl (cI, 2001, .inl (upd g0 0 0))), (h4, .inl (cI, 2001, .inl g1)), (h0, .inr (3, ((((f0.set 6 (.ref h1)).set 7 (.int 0)).set 8 (.int 0)).set 5 (.int 0))))] := hD
  refine lv_aload_n hx hb dX3_scan_189 rfl (lv_at hl 3 rfl) ?_
  refine va_get (D := D) (ref := "IntegerHouse$Lexer") (ci := 3) (v := .ref h4) (C := RX3) (T := TX3) (N := 9) hx hb hts hin3 hown hK hP 2 rfl rfl 2 (by decide) (hts (.fieldLink RX3 19 "IntegerHouse$Lexer" "spots" "[I") (List.mem_cons_of_mem _ (List.mem_append_left _ (List.mem_append_left _ (List.mem_of_getElem? (i := 4) rfl))))) (fun _ h9 => h9) (k_ne (by decide) (k_ne (by decide) (k_ne (by decide) (k_ne (by decide) e5)))) dX3_scan_190 ?_
  refine lv_aload_n hx hb dX3_scan_193 rfl (lv_at hl 3 rfl) ?_
  refine va_get (D := D) (ref := "IntegerHouse$Lexer") (ci := 3) (v := .int 0) (C := RX3) (T := TX3) (N := 9) hx hb hts hin3 hown hK hP 2 rfl rfl 5 (by decide) (hts (.fieldLink RX3 48 "IntegerHouse$Lexer" "size" "I") (List.mem_cons_of_mem _ (List.mem_append_left _ (List.mem_append_left _ (List.mem_of_getElem? (i := 3) rfl))))) (fun _ h9 => h9) (k_set (k_ne (by decide) (k_ne (by decide) (k_ne (by decide) e3)))) dX3_scan_194 ?_
  refine lv_iload_n hx hb dX3_scan_197 rfl (lv_at hl 6 rfl) ?_
  refine va_iast hx hb hK hP hD hS 1 0 rfl rfl (k_in (by decide)) dX3_scan_198 (fun H locs hP hD hS => ?_)
  have hP : va_P D vwCl [(h3, .inl (cI, 2001, .inl (upd g0 0 0))), (h4, .inl (cI, 2001, .inl (upd g1 0 0))), (h0, .inr (3, ((((f0.set 6 (.ref h1)).set 7 (.int 0)).set 8 (.int 0)).set 5 (.int 0))))] H := hP
  have hD : va_D A [(h3, .inl (cI, 2001, .inl (upd g0 0 0))), (h4, .inl (cI, 2001, .inl (upd g1 0 0))), (h0, .inr (3, ((((f0.set 6 (.ref h1)).set 7 (.int 0)).set 8 (.int 0)).set 5 (.int 0))))] := hD
  have hP := hP.sub (ws' := [(h0, .inr (3, ((((f0.set 6 (.ref h1)).set 7 (.int 0)).set 8 (.int 0)).set 5 (.int 0)))), (h3, .inl (cI, 2001, .inl (upd g0 0 0))), (h4, .inl (cI, 2001, .inl (upd g1 0 0)))]) [2, 0, 1] rfl
  have hD := hD.sub (ws' := [(h0, .inr (3, ((((f0.set 6 (.ref h1)).set 7 (.int 0)).set 8 (.int 0)).set 5 (.int 0)))), (h3, .inl (cI, 2001, .inl (upd g0 0 0))), (h4, .inl (cI, 2001, .inl (upd g1 0 0)))]) [2, 0, 1] (by decide +kernel) rfl
  exact W.vret hx hb hr (fun t ht hW => ⟨⟨(), rfl, trivial, kB_mk ht hW hP hK hD⟩, hS.F ht⟩) hS.2.2 dX3_scan_199
set_option maxHeartbeats 400000000 in
set_option maxRecDepth 100000 in
theorem c_X8_next_0 (l : Launch) (E : kE) (D : va_G) (cI cJ cB cZ : ClassId) (h0 : Nat) (f0 : List Value) (h1 : Nat) (f1 : List Value) (h2 : Nat) (g0 : Nat → Int32) (h3 : Nat) (g1 : Nat → Int32) (e0 : f0[6]? = some (.int (-1))) (e1 : f0[0]? = some (.ref h1)) (e2 : f1[5]? = some (.int 0)) (e3 : f1[1]? = some (.ref h2)) (e4 : g0 0 = 0) (e5 : f0[7]? = some (.int 0)) (e6 : f1[2]? = some (.ref h3)) (e7 : g1 0 = 0) (e8 : f0[8]? = some (.int 0)) : kV l E D (kT cI cJ cB cZ) yX8_next wsX8_next ({ frames := 0, cells := 0, slots := 0, locals := 0 }) [.ref h0] [(h0, .inr (8, f0)), (h1, .inr (3, f1)), (h2, .inl (cI, 2001, .inl g0)), (h3, .inl (cI, 2001, .inl g1))] (fun _ : Unit => [(h0, .inr (8, (((f0.set 6 (.int 0)).set 7 (.int 0)).set 8 (.int 0)))), (h1, .inr (3, f1)), (h2, .inl (cI, 2001, .inl g0)), (h3, .inl (cI, 2001, .inl g1))]) 0 0 := by
  intro sz
  refine Met.ofW (cc := cX8_next) (maxL := 1) (ret := none) (by decide) rfl ?_
  intro p e s m args below meth c s₁ B hml hv
  obtain ⟨rfl, hsz, hP, hK, hD0, hN, hX⟩ := hv
  have hx := B.exec
  have hb := B.bytes
  have hr := B.returns
  have hts := atoms_spec (ws := wsX8_next) B.pre
  have hown : s.vm.findClass RX8 = some m.cls := findClass_of_methodNamed B.named
  have hlocks := B.notSynchronized
  have hin8 : ∀ w ∈ wsX80, w ∈ wsX8_next := (fun w h => (List.mem_cons_of_mem _ (List.mem_append_left _ (List.mem_append_right _ h))))
  have hin3 : ∀ w ∈ wsX30, w ∈ wsX8_next := (fun w h => (List.mem_cons_of_mem _ (List.mem_append_right _ h)))
  subst hsz
  have hD := hD0.self (sz := s.heap.size)
  have hAE := k_AE hD0 hX
  generalize hAe : va_A [(h0, .inr (8, f0)), (h1, .inr (3, f1)), (h2, .inl (cI, 2001, .inl g0)), (h3, .inl (cI, 2001, .inl g1))] s.heap.size = A at hD hAE ⊢
  have hA : ∀ q : Nat, s.heap.size ≤ q → A q := fun q h => by rw [← hAe]; exact Or.inr h
  have hS : va_S A s.heap s.heap [] := va_S.rf
  have hP : va_P D vwCl [(h0, .inr (8, f0)), (h1, .inr (3, f1)), (h2, .inl (cI, 2001, .inl g0)), (h3, .inl (cI, 2001, .inl g1))] s.heap := hP
  have hl := lv_entry ([.ref h0] : List Value) (n := 1) (Nat.le_of_ble_eq_true rfl)
  rw [lg_entry_eq]
  generalize (lg_sl ([.ref h0]) ++ List.replicate (1 - (lg_sl ([.ref h0])).length) Slot.unset).toArray = ls at hl ⊢
  have hl : lv_has ls 1 [(0, .ref h0)] := hl
  refine lv_aload_n hx hb dX8_next_0 rfl (lv_at hl 0 rfl) ?_
  refine lv_aload_n hx hb dX8_next_1 rfl (lv_at hl 0 rfl) ?_
  refine va_get (D := D) (ref := "IntegerHouse$Reader") (ci := 8) (v := .int (-1)) (C := RX8) (T := TX8) (N := 15) hx hb hts hin8 hown hK hP 0 rfl rfl 6 (by decide) (hts (.fieldLink RX8 79 "IntegerHouse$Reader" "at" "I") (List.mem_cons_of_mem _ (List.mem_append_left _ (List.mem_append_left _ (List.mem_of_getElem? (i := 0) rfl))))) (fun _ h9 => h9) e0 dX8_next_2 ?_
  refine lv_aload_n hx hb dX8_next_5 rfl (lv_at hl 0 rfl) ?_
  refine va_get (D := D) (ref := "IntegerHouse$Reader") (ci := 8) (v := .ref h1) (C := RX8) (T := TX8) (N := 15) hx hb hts hin8 hown hK hP 0 rfl rfl 0 (by decide) (hts (.fieldLink RX8 9 "IntegerHouse$Reader" "lexer" "LIntegerHouse$Lexer;") (List.mem_cons_of_mem _ (List.mem_append_left _ (List.mem_append_left _ (List.mem_of_getElem? (i := 1) rfl))))) (fun _ h9 => h9) e1 dX8_next_6 ?_
  refine va_getN (host := "IntegerHouse") (D := D) (ref := "IntegerHouse$Lexer") (ci := 3) (v := .int 0) (C := RX3) (T := TX3) (N := 9) hx hb hts hin3 hown hK hP 1 rfl rfl 5 (by decide) (va_Nw.use rfl (hN.1 ("IntegerHouse$Reader", 126, "IntegerHouse$Lexer", "size", "I", "IntegerHouse") (List.mem_of_getElem? (i := 25) rfl))) (fun _ h9 => h9) e2 dX8_next_9 ?_
  refine lv_icmp_ge (tgt := 24) hx hb dX8_next_12 (by decide) (fun c9 => absurd c9 (by decide)) (fun _ => ?_)
  refine lv_aload_n hx hb dX8_next_15 rfl (lv_at hl 0 rfl) ?_
  refine va_get (D := D) (ref := "IntegerHouse$Reader") (ci := 8) (v := .int (-1)) (C := RX8) (T := TX8) (N := 15) hx hb hts hin8 hown hK hP 0 rfl rfl 6 (by decide) (hts (.fieldLink RX8 79 "IntegerHouse$Reader" "at" "I") (List.mem_cons_of_mem _ (List.mem_append_left _ (List.mem_append_left _ (List.mem_of_getElem? (i := 0) rfl))))) (fun _ h9 => h9) e0 dX8_next_16 ?_
  refine lv_iconst (v := 1) hx hb dX8_next_19 (by decide) ?_
  refine lv_iadd hx hb dX8_next_20 ?_
  refine k_topi (y := 0) (by decide) ?_
  refine lv_goto (tgt := 28) hx hb dX8_next_21 (by decide) ?_
  refine va_put (D := D) (ref := "IntegerHouse$Reader") (ci := 8) (v := .int 0) (ty := .int) (C := RX8) (T := TX8) (N := 15) hx hb hts hin8 tyX8 tyX8_ok nmX8 hown hK hP hD hS 0 rfl rfl 6 (by decide) (hts (.fieldLink RX8 79 "IntegerHouse$Reader" "at" "I") (List.mem_cons_of_mem _ (List.mem_append_left _ (List.mem_append_left _ (List.mem_of_getElem? (i := 0) rfl))))) (fun _ h9 => h9) rfl (by decide +kernel) rfl rfl (k_len e0) dX8_next_28 (fun H locs hP hD hS => ?_)
  have hP : va_P D vwCl [(h0, .inr (8, (f0.set 6 (.int 0)))), (h1, .inr (3, f1)), (h2, .inl (cI, 2001, .inl g0)), (h3, .inl (cI, 2001, .inl g1))] H := hP
  have hD : va_D A [(h0, .inr (8, (f0.set 6 (.int 0)))), (h1, .inr (3, f1)), (h2, .inl (cI, 2001, .inl g0)), (h3, .inl (cI, 2001, .inl g1))] := hD
  refine lv_aload_n hx hb dX8_next_31 rfl (lv_at hl 0 rfl) ?_
  refine va_get (D := D) (ref := "IntegerHouse$Reader") (ci := 8) (v := .int 0) (C := RX8) (T := TX8) (N := 15) hx hb hts hin8 hown hK hP 0 rfl rfl 6 (by decide) (hts (.fieldLink RX8 79 "IntegerHouse$Reader" "at" "I") (List.mem_cons_of_mem _ (List.mem_append_left _ (List.mem_append_left _ (List.mem_of_getElem? (i := 0) rfl))))) (fun _ h9 => h9) (k_set e0) dX8_next_32 ?_
  refine lv_if_lt (tgt := 80) hx hb dX8_next_35 (by decide) (fun c9 => absurd c9 (by decide)) (fun _ => ?_)
  refine lv_aload_n hx hb dX8_next_38 rfl (lv_at hl 0 rfl) ?_
  refine va_get (D := D) (ref := "IntegerHouse$Reader") (ci := 8) (v := .int 0) (C := RX8) (T := TX8) (N := 15) hx hb hts hin8 hown hK hP 0 rfl rfl 6 (by decide) (hts (.fieldLink RX8 79 "IntegerHouse$Reader" "at" "I") (List.mem_cons_of_mem _ (List.mem_append_left _ (List.mem_append_left _ (List.mem_of_getElem? (i := 0) rfl))))) (fun _ h9 => h9) (k_set e0) dX8_next_39 ?_
  refine lv_sipush (v := 2000) hx hb dX8_next_42 (by decide) ?_
  refine lv_icmp_gt (tgt := 80) hx hb dX8_next_45 (by decide) (fun c9 => absurd c9 (by decide)) (fun _ => ?_)
  refine lv_aload_n hx hb dX8_next_48 rfl (lv_at hl 0 rfl) ?_
  refine lv_aload_n hx hb dX8_next_49 rfl (lv_at hl 0 rfl) ?_
  refine va_get (D := D) (ref := "IntegerHouse$Reader") (ci := 8) (v := .ref h1) (C := RX8) (T := TX8) (N := 15) hx hb hts hin8 hown hK hP 0 rfl rfl 0 (by decide) (hts (.fieldLink RX8 9 "IntegerHouse$Reader" "lexer" "LIntegerHouse$Lexer;") (List.mem_cons_of_mem _ (List.mem_append_left _ (List.mem_append_left _ (List.mem_of_getElem? (i := 1) rfl))))) (fun _ h9 => h9) (k_ne (by decide) e1) dX8_next_50 ?_
  refine va_getN (host := "IntegerHouse") (D := D) (ref := "IntegerHouse$Lexer") (ci := 3) (v := .ref h2) (C := RX3) (T := TX3) (N := 9) hx hb hts hin3 hown hK hP 1 rfl rfl 1 (by decide) (va_Nw.use rfl (hN.1 ("IntegerHouse$Reader", 129, "IntegerHouse$Lexer", "kinds", "[I", "IntegerHouse") (List.mem_of_getElem? (i := 23) rfl))) (fun _ h9 => h9) e3 dX8_next_53 ?_
  refine lv_aload_n hx hb dX8_next_56 rfl (lv_at hl 0 rfl) ?_
  refine va_get (D := D) (ref := "IntegerHouse$Reader") (ci := 8) (v := .int 0) (C := RX8) (T := TX8) (N := 15) hx hb hts hin8 hown hK hP 0 rfl rfl 6 (by decide) (hts (.fieldLink RX8 79 "IntegerHouse$Reader" "at" "I") (List.mem_cons_of_mem _ (List.mem_append_left _ (List.mem_append_left _ (List.mem_of_getElem? (i := 0) rfl))))) (fun _ h9 => h9) (k_set e0) dX8_next_57 ?_
  refine va_iald hx hb hK hP 2 0 rfl rfl (k_in (by decide)) dX8_next_60 ?_
  refine k_topi (y := 0) e4 ?_
  refine va_put (D := D) (ref := "IntegerHouse$Reader") (ci := 8) (v := .int 0) (ty := .int) (C := RX8) (T := TX8) (N := 15) hx hb hts hin8 tyX8 tyX8_ok nmX8 hown hK hP hD hS 0 rfl rfl 7 (by decide) (hts (.fieldLink RX8 39 "IntegerHouse$Reader" "kind" "I") (List.mem_cons_of_mem _ (List.mem_append_left _ (List.mem_append_left _ (List.mem_of_getElem? (i := 2) rfl))))) (fun _ h9 => h9) rfl (by decide +kernel) rfl rfl (k_len (k_ne (by decide) e5)) dX8_next_61 (fun H locs hP hD hS => ?_)
  have hP : va_P D vwCl [(h0, .inr (8, ((f0.set 6 (.int 0)).set 7 (.int 0)))), (h1, .inr (3, f1)), (h2, .inl (cI, 2001, .inl g0)), (h3, .inl (cI, 2001, .inl g1))] H := hP
  have hD : va_D A [(h0, .inr (8, ((f0.set 6 (.int 0)).set 7 (.int 0)))), (h1, .inr (3, f1)), (h2, .inl (cI, 2001, .inl g0)), (h3, .inl (cI, 2001, .inl g1))] := hD
  refine lv_aload_n hx hb dX8_next_64 rfl (lv_at hl 0 rfl) ?_
  refine lv_aload_n hx hb dX8_next_65 rfl (lv_at hl 0 rfl) ?_
  refine va_get (D := D) (ref := "IntegerHouse$Reader") (ci := 8) (v := .ref h1) (C := RX8) (T := TX8) (N := 15) hx hb hts hin8 hown hK hP 0 rfl rfl 0 (by decide) (hts (.fieldLink RX8 9 "IntegerHouse$Reader" "lexer" "LIntegerHouse$Lexer;") (List.mem_cons_of_mem _ (List.mem_append_left _ (List.mem_append_left _ (List.mem_of_getElem? (i := 1) rfl))))) (fun _ h9 => h9) (k_ne (by decide) (k_ne (by decide) e1)) dX8_next_66 ?_
  refine va_getN (host := "IntegerHouse") (D := D) (ref := "IntegerHouse$Lexer") (ci := 3) (v := .ref h3) (C := RX3) (T := TX3) (N := 9) hx hb hts hin3 hown hK hP 1 rfl rfl 2 (by decide) (va_Nw.use rfl (hN.1 ("IntegerHouse$Reader", 133, "IntegerHouse$Lexer", "spots", "[I", "IntegerHouse") (List.mem_of_getElem? (i := 24) rfl))) (fun _ h9 => h9) e6 dX8_next_69 ?_
  refine lv_aload_n hx hb dX8_next_72 rfl (lv_at hl 0 rfl) ?_
  refine va_get (D := D) (ref := "IntegerHouse$Reader") (ci := 8) (v := .int 0) (C := RX8) (T := TX8) (N := 15) hx hb hts hin8 hown hK hP 0 rfl rfl 6 (by decide) (hts (.fieldLink RX8 79 "IntegerHouse$Reader" "at" "I") (List.mem_cons_of_mem _ (List.mem_append_left _ (List.mem_append_left _ (List.mem_of_getElem? (i := 0) rfl))))) (fun _ h9 => h9) (k_ne (by decide) (k_set e0)) dX8_next_73 ?_
  refine va_iald hx hb hK hP 3 0 rfl rfl (k_in (by decide)) dX8_next_76 ?_
  refine k_topi (y := 0) e7 ?_
  refine va_put (D := D) (ref := "IntegerHouse$Reader") (ci := 8) (v := .int 0) (ty := .int) (C := RX8) (T := TX8) (N := 15) hx hb hts hin8 tyX8 tyX8_ok nmX8 hown hK hP hD hS 0 rfl rfl 8 (by decide) (hts (.fieldLink RX8 136 "IntegerHouse$Reader" "place" "I") (List.mem_cons_of_mem _ (List.mem_append_left _ (List.mem_append_left _ (List.mem_of_getElem? (i := 3) rfl))))) (fun _ h9 => h9) rfl (by decide +kernel) rfl rfl (k_len (k_ne (by decide) (k_ne (by decide) e8))) dX8_next_77 (fun H locs hP hD hS => ?_)
  have hP : va_P D vwCl [(h0, .inr (8, (((f0.set 6 (.int 0)).set 7 (.int 0)).set 8 (.int 0)))), (h1, .inr (3, f1)), (h2, .inl (cI, 2001, .inl g0)), (h3, .inl (cI, 2001, .inl g1))] H := hP
  have hD : va_D A [(h0, .inr (8, (((f0.set 6 (.int 0)).set 7 (.int 0)).set 8 (.int 0)))), (h1, .inr (3, f1)), (h2, .inl (cI, 2001, .inl g0)), (h3, .inl (cI, 2001, .inl g1))] := hD
  exact W.vret hx hb hr (fun t ht hW => ⟨⟨(), rfl, trivial, kB_mk ht hW hP hK hD⟩, hS.F ht⟩) hS.2.2 dX8_next_80
set_option maxHeartbeats 400000000 in
set_option maxRecDepth 100000 in
theorem c_X8_begin_0 (l : Launch) (E : kE) (D : va_G) (cI cJ cB cZ : ClassId) (h0 : Nat) (h1 : Nat) (f0 : List Value) (h2 : Nat) (f1 : List Value) (h3 : Nat) (h4 : Nat) (h5 : Nat) (g0 : Nat → Int32) (g1 : Nat → Int32) (e0 : f0[0]? = some (.ref h2)) (e1 : f1[6]? = some (.ref h3)) (e2 : f1[7]? = some (.int 0)) (e3 : f1[8]? = some (.int 0)) (e4 : f1[5]? = some (.int 0)) (e5 : f1[1]? = some (.ref h4)) (e6 : f1[2]? = some (.ref h5)) (e7 : f0[3]? = some (.int 0)) (e8 : f0[4]? = some (.int 0)) (e9 : f0[5]? = some (.int 0)) (e10 : f0[6]? = some (.int 0)) (e11 : f0[7]? = some (.int 0)) (e12 : f0[8]? = some (.int 0)) : kV l E D (kT cI cJ cB cZ) yX8_begin wsX8_begin ({ frames := 2, cells := 0, slots := 0, locals := 50 }) [.ref h0, .ref h1, .int 0, .int 0] [(h0, .inr (8, f0)), (h2, .inr (3, f1)), (h4, .inl (cI, 2001, .inl g0)), (h5, .inl (cI, 2001, .inl g1))] (fun _ : Unit => [(h0, .inr (8, (((((((f0.set 3 (.int 0)).set 4 (.int 0)).set 5 (.int 0)).set 6 (.int (-1))).set 6 (.int 0)).set 7 (.int 0)).set 8 (.int 0)))), (h2, .inr (3, ((((f1.set 6 (.ref h1)).set 7 (.int 0)).set 8 (.int 0)).set 5 (.int 0)))), (h4, .inl (cI, 2001, .inl (upd g0 0 0))), (h5, .inl (cI, 2001, .inl (upd g1 0 0)))]) 0 0 := by
  intro sz
  refine Met.ofW (cc := cX8_begin) (maxL := 4) (ret := none) (by decide) rfl ?_
  intro p e s m args below meth c s₁ B hml hv
  obtain ⟨rfl, hsz, hP, hK, hD0, hN, hX⟩ := hv
  have hx := B.exec
  have hb := B.bytes
  have hr := B.returns
  have hts := atoms_spec (ws := wsX8_begin) B.pre
  have hown : s.vm.findClass RX8 = some m.cls := findClass_of_methodNamed B.named
  have hlocks := B.notSynchronized
  have hin8 : ∀ w ∈ wsX80, w ∈ wsX8_begin := (fun w h => (List.mem_cons_of_mem _ (List.mem_append_left _ (List.mem_append_right _ h))))
  subst hsz
  have hD := hD0.self (sz := s.heap.size)
  have hAE := k_AE hD0 hX
  generalize hAe : va_A [(h0, .inr (8, f0)), (h2, .inr (3, f1)), (h4, .inl (cI, 2001, .inl g0)), (h5, .inl (cI, 2001, .inl g1))] s.heap.size = A at hD hAE ⊢
  have hA : ∀ q : Nat, s.heap.size ≤ q → A q := fun q h => by rw [← hAe]; exact Or.inr h
  have hS : va_S A s.heap s.heap [] := va_S.rf
  have hP : va_P D vwCl [(h0, .inr (8, f0)), (h2, .inr (3, f1)), (h4, .inl (cI, 2001, .inl g0)), (h5, .inl (cI, 2001, .inl g1))] s.heap := hP
  have hl := lv_entry ([.ref h0, .ref h1, .int 0, .int 0] : List Value) (n := 4) (Nat.le_of_ble_eq_true rfl)
  rw [lg_entry_eq]
  generalize (lg_sl ([.ref h0, .ref h1, .int 0, .int 0]) ++ List.replicate (4 - (lg_sl ([.ref h0, .ref h1, .int 0, .int 0])).length) Slot.unset).toArray = ls at hl ⊢
  have hl : lv_has ls 4 [(0, .ref h0), (1, .ref h1), (2, .int 0), (3, .int 0)] := hl
  refine lv_aload_n hx hb dX8_begin_0 rfl (lv_at hl 0 rfl) ?_
  refine va_get (D := D) (ref := "IntegerHouse$Reader") (ci := 8) (v := .ref h2) (C := RX8) (T := TX8) (N := 15) hx hb hts hin8 hown hK hP 0 rfl rfl 0 (by decide) (hts (.fieldLink RX8 9 "IntegerHouse$Reader" "lexer" "LIntegerHouse$Lexer;") (List.mem_cons_of_mem _ (List.mem_append_left _ (List.mem_append_left _ (List.mem_append_left _ (List.mem_of_getElem? (i := 0) rfl)))))) (fun _ h9 => h9) e0 dX8_begin_1 ?_
  refine lv_aload_n hx hb dX8_begin_4 rfl (lv_at hl 1 rfl) ?_
  refine lv_iload_n hx hb dX8_begin_5 rfl (lv_at hl 2 rfl) ?_
  refine lv_iload_n hx hb dX8_begin_6 rfl (lv_at hl 3 rfl) ?_
  refine lv_iconst (v := 0) hx hb dX8_begin_7 (by decide) ?_
  refine k_cVv (As := [.ref h1, .int 0, .int 0, .int 0]) (rest := []) (wc := [(h2, .inr (3, f1)), (h4, .inl (cI, 2001, .inl g0)), (h5, .inl (cI, 2001, .inl g1))]) (wr := [(h0, .inr (8, f0))]) (w1 := (fun _ : Unit => [(h2, .inr (3, ((((f1.set 6 (.ref h1)).set 7 (.int 0)).set 8 (.int 0)).set 5 (.int 0)))), (h4, .inl (cI, 2001, .inl (upd g0 0 0))), (h5, .inl (cI, 2001, .inl (upd g1 0 0)))])) ⟨hx, hb, hml, hown, hts⟩ hN hX hAE hK hP hD hS hA [1, 2, 3] [0] (ci := 3) rfl rfl rfl rfl (by decide +kernel) (by decide +kernel) (by decide +kernel) (c_X3_scan_0 l E D cI cJ cB cZ h2 h1 f1 h3 h4 g0 h5 g1 e1 e2 e3 e4 e5 e6) (cwV 4 hts gX8_begin_X3_scan rfl rfl rfl (by decide +kernel) ⟨Nat.le_of_ble_eq_true rfl, Nat.le_of_ble_eq_true rfl⟩) rfl hl.1 (Nat.le_of_ble_eq_true rfl) dX8_begin_8 ⟨Nat.le_of_ble_eq_true rfl, Nat.le_of_ble_eq_true rfl⟩ (fun _ H locs hP hD hS => ?_)
  have hP : va_P D vwCl [(h0, .inr (8, f0)), (h2, .inr (3, ((((f1.set 6 (.ref h1)).set 7 (.int 0)).set 8 (.int 0)).set 5 (.int 0)))), (h4, .inl (cI, 2001, .inl (upd g0 0 0))), (h5, .inl (cI, 2001, .inl (upd g1 0 0)))] H := hP
  have hD : va_D A [(h0, .inr (8, f0)), (h2, .inr (3, ((((f1.set 6 (.ref h1)).set 7 (.int 0)).set 8 (.int 0)).set 5 (.int 0)))), (h4, .inl (cI, 2001, .inl (upd g0 0 0))), (h5, .inl (cI, 2001, .inl (upd g1 0 0)))] := hD
  refine lv_aload_n hx hb dX8_begin_11 rfl (lv_at hl 0 rfl) ?_
  refine lv_iconst (v := 0) hx hb dX8_begin_12 (by decide) ?_
  refine va_put (D := D) (ref := "IntegerHouse$Reader") (ci := 8) (v := .int 0) (ty := .int) (C := RX8) (T := TX8) (N := 15) hx hb hts hin8 tyX8 tyX8_ok nmX8 hown hK hP hD hS 0 rfl rfl 3 (by decide) (hts (.fieldLink RX8 62 "IntegerHouse$Reader" "faultKind" "I") (List.mem_cons_of_mem _ (List.mem_append_left _ (List.mem_append_left _ (List.mem_append_left _ (List.mem_of_getElem? (i := 1) rfl)))))) (fun _ h9 => h9) rfl (by decide +kernel) rfl rfl (k_len e7) dX8_begin_13 (fun H locs hP hD hS => ?_)
  have hP : va_P D vwCl [(h0, .inr (8, (f0.set 3 (.int 0)))), (h2, .inr (3, ((((f1.set 6 (.ref h1)).set 7 (.int 0)).set 8 (.int 0)).set 5 (.int 0)))), (h4, .inl (cI, 2001, .inl (upd g0 0 0))), (h5, .inl (cI, 2001, .inl (upd g1 0 0)))] H := hP
  have hD : va_D A [(h0, .inr (8, (f0.set 3 (.int 0)))), (h2, .inr (3, ((((f1.set 6 (.ref h1)).set 7 (.int 0)).set 8 (.int 0)).set 5 (.int 0)))), (h4, .inl (cI, 2001, .inl (upd g0 0 0))), (h5, .inl (cI, 2001, .inl (upd g1 0 0)))] := hD
  refine lv_aload_n hx hb dX8_begin_16 rfl (lv_at hl 0 rfl) ?_
  refine lv_iconst (v := 0) hx hb dX8_begin_17 (by decide) ?_
  refine va_put (D := D) (ref := "IntegerHouse$Reader") (ci := 8) (v := .int 0) (ty := .int) (C := RX8) (T := TX8) (N := 15) hx hb hts hin8 tyX8 tyX8_ok nmX8 hown hK hP hD hS 0 rfl rfl 4 (by decide) (hts (.fieldLink RX8 123 "IntegerHouse$Reader" "faultPlace" "I") (List.mem_cons_of_mem _ (List.mem_append_left _ (List.mem_append_left _ (List.mem_append_left _ (List.mem_of_getElem? (i := 2) rfl)))))) (fun _ h9 => h9) rfl (by decide +kernel) rfl rfl (k_len (k_ne (by decide) e8)) dX8_begin_18 (fun H locs hP hD hS => ?_)
  have hP : va_P D vwCl [(h0, .inr (8, ((f0.set 3 (.int 0)).set 4 (.int 0)))), (h2, .inr (3, ((((f1.set 6 (.ref h1)).set 7 (.int 0)).set 8 (.int 0)).set 5 (.int 0)))), (h4, .inl (cI, 2001, .inl (upd g0 0 0))), (h5, .inl (cI, 2001, .inl (upd g1 0 0)))] H := hP
  have hD : va_D A [(h0, .inr (8, ((f0.set 3 (.int 0)).set 4 (.int 0)))), (h2, .inr (3, ((((f1.set 6 (.ref h1)).set 7 (.int 0)).set 8 (.int 0)).set 5 (.int 0)))), (h4, .inl (cI, 2001, .inl (upd g0 0 0))), (h5, .inl (cI, 2001, .inl (upd g1 0 0)))] := hD
  refine lv_aload_n hx hb dX8_begin_21 rfl (lv_at hl 0 rfl) ?_
  refine lv_iconst (v := 0) hx hb dX8_begin_22 (by decide) ?_
  refine va_put (D := D) (ref := "IntegerHouse$Reader") (ci := 8) (v := .int 0) (ty := .boolean) (C := RX8) (T := TX8) (N := 15) hx hb hts hin8 tyX8 tyX8_ok nmX8 hown hK hP hD hS 0 rfl rfl 5 (by decide) (hts (.fieldLink RX8 101 "IntegerHouse$Reader" "hasFormula" "Z") (List.mem_cons_of_mem _ (List.mem_append_left _ (List.mem_append_left _ (List.mem_append_left _ (List.mem_of_getElem? (i := 3) rfl)))))) (fun _ h9 => h9) rfl (by decide +kernel) rfl rfl (k_len (k_ne (by decide) (k_ne (by decide) e9))) dX8_begin_23 (fun H locs hP hD hS => ?_)
  have hP : va_P D vwCl [(h0, .inr (8, (((f0.set 3 (.int 0)).set 4 (.int 0)).set 5 (.int 0)))), (h2, .inr (3, ((((f1.set 6 (.ref h1)).set 7 (.int 0)).set 8 (.int 0)).set 5 (.int 0)))), (h4, .inl (cI, 2001, .inl (upd g0 0 0))), (h5, .inl (cI, 2001, .inl (upd g1 0 0)))] H := hP
  have hD : va_D A [(h0, .inr (8, (((f0.set 3 (.int 0)).set 4 (.int 0)).set 5 (.int 0)))), (h2, .inr (3, ((((f1.set 6 (.ref h1)).set 7 (.int 0)).set 8 (.int 0)).set 5 (.int 0)))), (h4, .inl (cI, 2001, .inl (upd g0 0 0))), (h5, .inl (cI, 2001, .inl (upd g1 0 0)))] := hD
  refine lv_aload_n hx hb dX8_begin_26 rfl (lv_at hl 0 rfl) ?_
  refine lv_iconst (v := (-1)) hx hb dX8_begin_27 (by decide) ?_
  refine va_put (D := D) (ref := "IntegerHouse$Reader") (ci := 8) (v := .int (-1)) (ty := .int) (C := RX8) (T := TX8) (N := 15) hx hb hts hin8 tyX8 tyX8_ok nmX8 hown hK hP hD hS 0 rfl rfl 6 (by decide) (hts (.fieldLink RX8 79 "IntegerHouse$Reader" "at" "I") (List.mem_cons_of_mem _ (List.mem_append_left _ (List.mem_append_left _ (List.mem_append_left _ (List.mem_of_getElem? (i := 4) rfl)))))) (fun _ h9 => h9) rfl (by decide +kernel) rfl rfl (k_len (k_ne (by decide) (k_ne (by decide) (k_ne (by decide) e10)))) dX8_begin_28 (fun H locs hP hD hS => ?_)
  have hP : va_P D vwCl [(h0, .inr (8, ((((f0.set 3 (.int 0)).set 4 (.int 0)).set 5 (.int 0)).set 6 (.int (-1))))), (h2, .inr (3, ((((f1.set 6 (.ref h1)).set 7 (.int 0)).set 8 (.int 0)).set 5 (.int 0)))), (h4, .inl (cI, 2001, .inl (upd g0 0 0))), (h5, .inl (cI, 2001, .inl (upd g1 0 0)))] H := hP
  have hD : va_D A [(h0, .inr (8, ((((f0.set 3 (.int 0)).set 4 (.int 0)).set 5 (.int 0)).set 6 (.int (-1))))), (h2, .inr (3, ((((f1.set 6 (.ref h1)).set 7 (.int 0)).set 8 (.int 0)).set 5 (.int 0)))), (h4, .inl (cI, 2001, .inl (upd g0 0 0))), (h5, .inl (cI, 2001, .inl (upd g1 0 0)))] := hD
  refine lv_aload_n hx hb dX8_begin_31 rfl (lv_at hl 0 rfl) ?_
  refine k_cVv (As := []) (rest := []) (wc := [(h0, .inr (8, ((((f0.set 3 (.int 0)).set 4 (.int 0)).set 5 (.int 0)).set 6 (.int (-1))))), (h2, .inr (3, ((((f1.set 6 (.ref h1)).set 7 (.int 0)).set 8 (.int 0)).set 5 (.int 0)))), (h4, .inl (cI, 2001, .inl (upd g0 0 0))), (h5, .inl (cI, 2001, .inl (upd g1 0 0)))]) (wr := []) (w1 := (fun _ : Unit => [(h0, .inr (8, (((((((f0.set 3 (.int 0)).set 4 (.int 0)).set 5 (.int 0)).set 6 (.int (-1))).set 6 (.int 0)).set 7 (.int 0)).set 8 (.int 0)))), (h2, .inr (3, ((((f1.set 6 (.ref h1)).set 7 (.int 0)).set 8 (.int 0)).set 5 (.int 0)))), (h4, .inl (cI, 2001, .inl (upd g0 0 0))), (h5, .inl (cI, 2001, .inl (upd g1 0 0)))])) ⟨hx, hb, hml, hown, hts⟩ hN hX hAE hK hP hD hS hA [0, 1, 2, 3] [] (ci := 8) rfl rfl rfl rfl (by decide +kernel) (by decide +kernel) (by decide +kernel) (c_X8_next_0 l E D cI cJ cB cZ h0 (((((f0.set 3 (.int 0)).set 4 (.int 0)).set 5 (.int 0)).set 6 (.int (-1)))) h2 (((((f1.set 6 (.ref h1)).set 7 (.int 0)).set 8 (.int 0)).set 5 (.int 0))) h4 ((upd g0 0 0)) h5 ((upd g1 0 0)) (k_set (k_ne (by decide) (k_ne (by decide) (k_ne (by decide) e10)))) (k_ne (by decide) (k_ne (by decide) (k_ne (by decide) (k_ne (by decide) e0)))) (k_set (k_ne (by decide) (k_ne (by decide) (k_ne (by decide) e4)))) (k_ne (by decide) (k_ne (by decide) (k_ne (by decide) (k_ne (by decide) e5)))) rfl (k_ne (by decide) (k_ne (by decide) (k_ne (by decide) (k_ne (by decide) e11)))) (k_ne (by decide) (k_ne (by decide) (k_ne (by decide) (k_ne (by decide) e6)))) rfl (k_ne (by decide) (k_ne (by decide) (k_ne (by decide) (k_ne (by decide) e12))))) (cwV 0 hts gX8_begin_X8_next rfl rfl rfl (by decide +kernel) ⟨Nat.le_of_ble_eq_true rfl, Nat.le_of_ble_eq_true rfl⟩) rfl hl.1 (Nat.le_of_ble_eq_true rfl) dX8_begin_32 ⟨Nat.le_of_ble_eq_true rfl, Nat.le_of_ble_eq_true rfl⟩ (fun _ H locs hP hD hS => ?_)
  have hP : va_P D vwCl [(h0, .inr (8, (((((((f0.set 3 (.int 0)).set 4 (.int 0)).set 5 (.int 0)).set 6 (.int (-1))).set 6 (.int 0)).set 7 (.int 0)).set 8 (.int 0)))), (h2, .inr (3, ((((f1.set 6 (.ref h1)).set 7 (.int 0)).set 8 (.int 0)).set 5 (.int 0)))), (h4, .inl (cI, 2001, .inl (upd g0 0 0))), (h5, .inl (cI, 2001, .inl (upd g1 0 0)))] H := hP
  have hD : va_D A [(h0, .inr (8, (((((((f0.set 3 (.int 0)).set 4 (.int 0)).set 5 (.int 0)).set 6 (.int (-1))).set 6 (.int 0)).set 7 (.int 0)).set 8 (.int 0)))), (h2, .inr (3, ((((f1.set 6 (.ref h1)).set 7 (.int 0)).set 8 (.int 0)).set 5 (.int 0)))), (h4, .inl (cI, 2001, .inl (upd g0 0 0))), (h5, .inl (cI, 2001, .inl (upd g1 0 0)))] := hD
  exact W.vret hx hb hr (fun t ht hW => ⟨⟨(), rfl, trivial, kB_mk ht hW hP hK hD⟩, hS.F ht⟩) hS.2.2 dX8_begin_35
set_option maxHeartbeats 400000000 in
set_option maxRecDepth 100000 in
theorem c_X8_expectEnd_0 (l : Launch) (E : kE) (D : va_G) (cI cJ cB cZ : ClassId) (h0 : Nat) (f0 : List Value) (e0 : f0[7]? = some (.int 0)) : kV l E D (kT cI cJ cB cZ) yX8_expectEnd wsX8_expectEnd ({ frames := 0, cells := 0, slots := 0, locals := 0 }) [.ref h0] [(h0, .inr (8, f0))] (fun _ : Unit => [(h0, .inr (8, f0))]) 0 0 := by
  intro sz
  refine Met.ofW (cc := cX8_expectEnd) (maxL := 1) (ret := none) (by decide) rfl ?_
  intro p e s m args below meth c s₁ B hml hv
  obtain ⟨rfl, hsz, hP, hK, hD0, hN, hX⟩ := hv
  have hx := B.exec
  have hb := B.bytes
  have hr := B.returns
  have hts := atoms_spec (ws := wsX8_expectEnd) B.pre
  have hown : s.vm.findClass RX8 = some m.cls := findClass_of_methodNamed B.named
  have hlocks := B.notSynchronized
  have hin8 : ∀ w ∈ wsX80, w ∈ wsX8_expectEnd := (fun w h => (List.mem_cons_of_mem _ (List.mem_append_right _ h)))
  subst hsz
  have hD := hD0.self (sz := s.heap.size)
  have hAE := k_AE hD0 hX
  generalize hAe : va_A [(h0, .inr (8, f0))] s.heap.size = A at hD hAE ⊢
  have hA : ∀ q : Nat, s.heap.size ≤ q → A q := fun q h => by rw [← hAe]; exact Or.inr h
  have hS : va_S A s.heap s.heap [] := va_S.rf
  have hP : va_P D vwCl [(h0, .inr (8, f0))] s.heap := hP
  have hl := lv_entry ([.ref h0] : List Value) (n := 1) (Nat.le_of_ble_eq_true rfl)
  rw [lg_entry_eq]
  generalize (lg_sl ([.ref h0]) ++ List.replicate (1 - (lg_sl ([.ref h0])).length) Slot.unset).toArray = ls at hl ⊢
  have hl : lv_has ls 1 [(0, .ref h0)] := hl
  refine lv_aload_n hx hb dX8_expectEnd_0 rfl (lv_at hl 0 rfl) ?_
  refine va_get (D := D) (ref := "IntegerHouse$Reader") (ci := 8) (v := .int 0) (C := RX8) (T := TX8) (N := 15) hx hb hts hin8 hown hK hP 0 rfl rfl 7 (by decide) (hts (.fieldLink RX8 39 "IntegerHouse$Reader" "kind" "I") (List.mem_cons_of_mem _ (List.mem_append_left _ (List.mem_of_getElem? (i := 0) rfl)))) (fun _ h9 => h9) e0 dX8_expectEnd_1 ?_
  refine lv_if_eq (tgt := 12) hx hb dX8_expectEnd_4 (by decide) (fun _ => ?_) (fun c9 => absurd (by decide) c9)
  exact W.vret hx hb hr (fun t ht hW => ⟨⟨(), rfl, trivial, kB_mk ht hW hP hK hD⟩, hS.F ht⟩) hS.2.2 dX8_expectEnd_12
set_option maxHeartbeats 400000000 in
set_option maxRecDepth 100000 in
theorem c_X8_readText_0 (l : Launch) (E : kE) (D : va_G) (cI cJ cB cZ : ClassId) (h0 : Nat) (h1 : Nat) (f0 : List Value) (h2 : Nat) (f1 : List Value) (h3 : Nat) (h4 : Nat) (h5 : Nat) (g0 : Nat → Int32) (g1 : Nat → Int32) (h6 : Nat) (f2 : List Value) (e0 : f0[0]? = some (.ref h2)) (e1 : f1[6]? = some (.ref h3)) (e2 : f1[7]? = some (.int 0)) (e3 : f1[8]? = some (.int 0)) (e4 : f1[5]? = some (.int 0)) (e5 : f1[1]? = some (.ref h4)) (e6 : f1[2]? = some (.ref h5)) (e7 : f0[3]? = some (.int 0)) (e8 : f0[4]? = some (.int 0)) (e9 : f0[5]? = some (.int 0)) (e10 : f0[6]? = some (.int 0)) (e11 : f0[7]? = some (.int 0)) (e12 : f0[8]? = some (.int 0)) (e13 : f0[1]? = some (.ref h6)) (e14 : f2[10]? = some (.int 0)) (e15 : f2[11]? = some (.int 0)) (e16 : f2[12]? = some (.int 0)) : kI l E D (kT cI cJ cB cZ) yX8_readText wsX8_readText ({ frames := 3, cells := 0, slots := 0, locals := 73 }) [.ref h0, .ref h1, .int 0, .int 0] [(h0, .inr (8, f0)), (h2, .inr (3, f1)), (h4, .inl (cI, 2001, .inl g0)), (h5, .inl (cI, 2001, .inl g1)), (h6, .inr (2, f2))] (1) [(h0, .inr (8, (((((((f0.set 3 (.int 0)).set 4 (.int 0)).set 5 (.int 0)).set 6 (.int (-1))).set 6 (.int 0)).set 7 (.int 0)).set 8 (.int 0)))), (h2, .inr (3, ((((f1.set 6 (.ref h1)).set 7 (.int 0)).set 8 (.int 0)).set 5 (.int 0)))), (h4, .inl (cI, 2001, .inl (upd g0 0 0))), (h5, .inl (cI, 2001, .inl (upd g1 0 0))), (h6, .inr (2, f2))] 0 0 := by
  intro sz
  refine Met.ofW (cc := cX8_readText) (maxL := 8) (ret := (some .boolean)) (by decide) rfl ?_
  intro p e s m args below meth c s₁ B hml hv
  obtain ⟨rfl, hsz, hP, hK, hD0, hN, hX⟩ := hv
  have hx := B.exec
  have hb := B.bytes
  have hr := B.returns
  have hts := atoms_spec (ws := wsX8_readText) B.pre
  have hown : s.vm.findClass RX8 = some m.cls := findClass_of_methodNamed B.named
  have hlocks := B.notSynchronized
  have hin8 : ∀ w ∈ wsX80, w ∈ wsX8_readText := (fun w h => (List.mem_cons_of_mem _ (List.mem_append_left _ (List.mem_append_left _ (List.mem_append_left _ (List.mem_append_right _ h))))))
  have hin2 : ∀ w ∈ wsX20, w ∈ wsX8_readText := (fun w h => (List.mem_cons_of_mem _ (List.mem_append_left _ (List.mem_append_left _ (List.mem_append_right _ h)))))
  subst hsz
  have hD := hD0.self (sz := s.heap.size)
  have hAE := k_AE hD0 hX
  generalize hAe : va_A [(h0, .inr (8, f0)), (h2, .inr (3, f1)), (h4, .inl (cI, 2001, .inl g0)), (h5, .inl (cI, 2001, .inl g1)), (h6, .inr (2, f2))] s.heap.size = A at hD hAE ⊢
  have hA : ∀ q : Nat, s.heap.size ≤ q → A q := fun q h => by rw [← hAe]; exact Or.inr h
  have hS : va_S A s.heap s.heap [] := va_S.rf
  have hP : va_P D vwCl [(h0, .inr (8, f0)), (h2, .inr (3, f1)), (h4, .inl (cI, 2001, .inl g0)), (h5, .inl (cI, 2001, .inl g1)), (h6, .inr (2, f2))] s.heap := hP
  have hl := lv_entry ([.ref h0, .ref h1, .int 0, .int 0] : List Value) (n := 8) (Nat.le_of_ble_eq_true rfl)
  rw [lg_entry_eq]
  generalize (lg_sl ([.ref h0, .ref h1, .int 0, .int 0]) ++ List.replicate (8 - (lg_sl ([.ref h0, .ref h1, .int 0, .int 0])).length) Slot.unset).toArray = ls at hl ⊢
  have hl : lv_has ls 8 [(0, .ref h0), (1, .ref h1), (2, .int 0), (3, .int 0)] := hl
  refine lv_aload_n hx hb dX8_readText_0 rfl (lv_at hl 0 rfl) ?_
  refine lv_aload_n hx hb dX8_readText_1 rfl (lv_at hl 1 rfl) ?_
  refine lv_iload_n hx hb dX8_readText_2 rfl (lv_at hl 2 rfl) ?_
  refine lv_iload_n hx hb dX8_readText_3 rfl (lv_at hl 3 rfl) ?_
  refine k_cVv (As := [.ref h1, .int 0, .int 0]) (rest := []) (wc := [(h0, .inr (8, f0)), (h2, .inr (3, f1)), (h4, .inl (cI, 2001, .inl g0)), (h5, .inl (cI, 2001, .inl g1))]) (wr := [(h6, .inr (2, f2))]) (w1 := (fun _ : Unit => [(h0, .inr (8, (((((((f0.set 3 (.int 0)).set 4 (.int 0)).set 5 (.int 0)).set 6 (.int (-1))).set 6 (.int 0)).set 7 (.int 0)).set 8 (.int 0)))), (h2, .inr (3, ((((f1.set 6 (.ref h1)).set 7 (.int 0)).set 8 (.int 0)).set 5 (.int 0)))), (h4, .inl (cI, 2001, .inl (upd g0 0 0))), (h5, .inl (cI, 2001, .inl (upd g1 0 0)))])) ⟨hx, hb, hml, hown, hts⟩ hN hX hAE hK hP hD hS hA [0, 1, 2, 3] [4] (ci := 8) rfl rfl rfl rfl (by decide +kernel) (by decide +kernel) (by decide +kernel) (c_X8_begin_0 l E D cI cJ cB cZ h0 h1 f0 h2 f1 h3 h4 h5 g0 g1 e0 e1 e2 e3 e4 e5 e6 e7 e8 e9 e10 e11 e12) (cwV 3 hts gX8_readText_X8_begin rfl rfl rfl (by decide +kernel) ⟨Nat.le_of_ble_eq_true rfl, Nat.le_of_ble_eq_true rfl⟩) rfl hl.1 (Nat.le_of_ble_eq_true rfl) dX8_readText_4 ⟨Nat.le_of_ble_eq_true rfl, Nat.le_of_ble_eq_true rfl⟩ (fun _ H locs hP hD hS => ?_)
  have hP : va_P D vwCl [(h6, .inr (2, f2)), (h0, .inr (8, (((((((f0.set 3 (.int 0)).set 4 (.int 0)).set 5 (.int 0)).set 6 (.int (-1))).set 6 (.int 0)).set 7 (.int 0)).set 8 (.int 0)))), (h2, .inr (3, ((((f1.set 6 (.ref h1)).set 7 (.int 0)).set 8 (.int 0)).set 5 (.int 0)))), (h4, .inl (cI, 2001, .inl (upd g0 0 0))), (h5, .inl (cI, 2001, .inl (upd g1 0 0)))] H := hP
  have hD : va_D A [(h6, .inr (2, f2)), (h0, .inr (8, (((((((f0.set 3 (.int 0)).set 4 (.int 0)).set 5 (.int 0)).set 6 (.int (-1))).set 6 (.int 0)).set 7 (.int 0)).set 8 (.int 0)))), (h2, .inr (3, ((((f1.set 6 (.ref h1)).set 7 (.int 0)).set 8 (.int 0)).set 5 (.int 0)))), (h4, .inl (cI, 2001, .inl (upd g0 0 0))), (h5, .inl (cI, 2001, .inl (upd g1 0 0)))] := hD
  refine lv_aload_n hx hb dX8_readText_7 rfl (lv_at hl 0 rfl) ?_
  refine va_get (D := D) (ref := "IntegerHouse$Reader") (ci := 8) (v := .ref h6) (C := RX8) (T := TX8) (N := 15) hx hb hts hin8 hown hK hP 1 rfl rfl 1 (by decide) (hts (.fieldLink RX8 15 "IntegerHouse$Reader" "house" "LIntegerHouse$House;") (List.mem_cons_of_mem _ (List.mem_append_left _ (List.mem_append_left _ (List.mem_append_left _ (List.mem_append_left _ (List.mem_append_left _ (List.mem_of_getElem? (i := 0) rfl)))))))) (fun _ h9 => h9) (k_ne (by decide) (k_ne (by decide) (k_ne (by decide) (k_ne (by decide) (k_ne (by decide) (k_ne (by decide) (k_ne (by decide) e13))))))) dX8_readText_8 ?_
  refine va_getN (host := "IntegerHouse") (D := D) (ref := "IntegerHouse$House") (ci := 2) (v := .int 0) (C := RX2) (T := TX2) (N := 16) hx hb hts hin2 hown hK hP 0 rfl rfl 10 (by decide) (va_Nw.use rfl (hN.1 ("IntegerHouse$Reader", 27, "IntegerHouse$House", "variables", "I", "IntegerHouse") (List.mem_of_getElem? (i := 7) rfl))) (fun _ h9 => h9) e14 dX8_readText_11 ?_
  refine lv_istore (lv' := [(4, .int 0), (0, .ref h0), (1, .ref h1), (2, .int 0), (3, .int 0)]) hx hb dX8_readText_14 hl (by decide) rfl (fun ls hl => ?_)
  refine lv_aload_n hx hb dX8_readText_16 rfl (lv_at hl 1 rfl) ?_
  refine va_get (D := D) (ref := "IntegerHouse$Reader") (ci := 8) (v := .ref h6) (C := RX8) (T := TX8) (N := 15) hx hb hts hin8 hown hK hP 1 rfl rfl 1 (by decide) (hts (.fieldLink RX8 15 "IntegerHouse$Reader" "house" "LIntegerHouse$House;") (List.mem_cons_of_mem _ (List.mem_append_left _ (List.mem_append_left _ (List.mem_append_left _ (List.mem_append_left _ (List.mem_append_left _ (List.mem_of_getElem? (i := 0) rfl)))))))) (fun _ h9 => h9) (k_ne (by decide) (k_ne (by decide) (k_ne (by decide) (k_ne (by decide) (k_ne (by decide) (k_ne (by decide) (k_ne (by decide) e13))))))) dX8_readText_17 ?_
  refine va_getN (host := "IntegerHouse") (D := D) (ref := "IntegerHouse$House") (ci := 2) (v := .int 0) (C := RX2) (T := TX2) (N := 16) hx hb hts hin2 hown hK hP 0 rfl rfl 11 (by decide) (va_Nw.use rfl (hN.1 ("IntegerHouse$Reader", 33, "IntegerHouse$House", "claims", "I", "IntegerHouse") (List.mem_of_getElem? (i := 11) rfl))) (fun _ h9 => h9) e15 dX8_readText_20 ?_
  refine lv_istore (lv' := [(5, .int 0), (4, .int 0), (0, .ref h0), (1, .ref h1), (2, .int 0), (3, .int 0)]) hx hb dX8_readText_23 hl (by decide) rfl (fun ls hl => ?_)
  refine lv_aload_n hx hb dX8_readText_25 rfl (lv_at hl 2 rfl) ?_
  refine va_get (D := D) (ref := "IntegerHouse$Reader") (ci := 8) (v := .ref h6) (C := RX8) (T := TX8) (N := 15) hx hb hts hin8 hown hK hP 1 rfl rfl 1 (by decide) (hts (.fieldLink RX8 15 "IntegerHouse$Reader" "house" "LIntegerHouse$House;") (List.mem_cons_of_mem _ (List.mem_append_left _ (List.mem_append_left _ (List.mem_append_left _ (List.mem_append_left _ (List.mem_append_left _ (List.mem_of_getElem? (i := 0) rfl)))))))) (fun _ h9 => h9) (k_ne (by decide) (k_ne (by decide) (k_ne (by decide) (k_ne (by decide) (k_ne (by decide) (k_ne (by decide) (k_ne (by decide) e13))))))) dX8_readText_26 ?_
  refine va_getN (host := "IntegerHouse") (D := D) (ref := "IntegerHouse$House") (ci := 2) (v := .int 0) (C := RX2) (T := TX2) (N := 16) hx hb hts hin2 hown hK hP 0 rfl rfl 12 (by decide) (va_Nw.use rfl (hN.1 ("IntegerHouse$Reader", 36, "IntegerHouse$House", "poolSize", "I", "IntegerHouse") (List.mem_of_getElem? (i := 15) rfl))) (fun _ h9 => h9) e16 dX8_readText_29 ?_
  refine lv_istore (lv' := [(6, .int 0), (5, .int 0), (4, .int 0), (0, .ref h0), (1, .ref h1), (2, .int 0), (3, .int 0)]) hx hb dX8_readText_32 hl (by decide) rfl (fun ls hl => ?_)
  refine lv_iconst (v := 0) hx hb dX8_readText_34 (by decide) ?_
  refine lv_istore (lv' := [(7, .int 0), (6, .int 0), (5, .int 0), (4, .int 0), (0, .ref h0), (1, .ref h1), (2, .int 0), (3, .int 0)]) hx hb dX8_readText_35 hl (by decide) rfl (fun ls hl => ?_)
  refine lv_iload hx hb dX8_readText_37 (lv_at hl 0 rfl) ?_
  refine lv_sipush (v := 2000) hx hb dX8_readText_39 (by decide) ?_
  refine lv_icmp_ge (tgt := 113) hx hb dX8_readText_42 (by decide) (fun c9 => absurd c9 (by decide)) (fun _ => ?_)
  refine lv_aload_n hx hb dX8_readText_45 rfl (lv_at hl 4 rfl) ?_
  refine va_get (D := D) (ref := "IntegerHouse$Reader") (ci := 8) (v := .int 0) (C := RX8) (T := TX8) (N := 15) hx hb hts hin8 hown hK hP 1 rfl rfl 7 (by decide) (hts (.fieldLink RX8 39 "IntegerHouse$Reader" "kind" "I") (List.mem_cons_of_mem _ (List.mem_append_left _ (List.mem_append_left _ (List.mem_append_left _ (List.mem_append_left _ (List.mem_append_left _ (List.mem_of_getElem? (i := 1) rfl)))))))) (fun _ h9 => h9) (k_ne (by decide) (k_set (k_ne (by decide) (k_ne (by decide) (k_ne (by decide) (k_ne (by decide) (k_ne (by decide) e11))))))) dX8_readText_46 ?_
  refine lv_bipush (v := 21) hx hb dX8_readText_49 (by decide) ?_
  refine lv_icmp_eq (tgt := 63) hx hb dX8_readText_51 (by decide) (fun c9 => absurd c9 (by decide)) (fun _ => ?_)
  refine lv_aload_n hx hb dX8_readText_54 rfl (lv_at hl 4 rfl) ?_
  refine va_get (D := D) (ref := "IntegerHouse$Reader") (ci := 8) (v := .int 0) (C := RX8) (T := TX8) (N := 15) hx hb hts hin8 hown hK hP 1 rfl rfl 7 (by decide) (hts (.fieldLink RX8 39 "IntegerHouse$Reader" "kind" "I") (List.mem_cons_of_mem _ (List.mem_append_left _ (List.mem_append_left _ (List.mem_append_left _ (List.mem_append_left _ (List.mem_append_left _ (List.mem_of_getElem? (i := 1) rfl)))))))) (fun _ h9 => h9) (k_ne (by decide) (k_set (k_ne (by decide) (k_ne (by decide) (k_ne (by decide) (k_ne (by decide) (k_ne (by decide) e11))))))) dX8_readText_55 ?_
  refine lv_bipush (v := 22) hx hb dX8_readText_58 (by decide) ?_
  refine lv_icmp_ne (tgt := 113) hx hb dX8_readText_60 (by decide) (fun _ => ?_) (fun c9 => absurd c9 (by decide))
  refine lv_aload_n hx hb dX8_readText_113 rfl (lv_at hl 4 rfl) ?_
  refine k_cVv (As := []) (rest := []) (wc := [(h0, .inr (8, (((((((f0.set 3 (.int 0)).set 4 (.int 0)).set 5 (.int 0)).set 6 (.int (-1))).set 6 (.int 0)).set 7 (.int 0)).set 8 (.int 0))))]) (wr := [(h6, .inr (2, f2)), (h2, .inr (3, ((((f1.set 6 (.ref h1)).set 7 (.int 0)).set 8 (.int 0)).set 5 (.int 0)))), (h4, .inl (cI, 2001, .inl (upd g0 0 0))), (h5, .inl (cI, 2001, .inl (upd g1 0 0)))]) (w1 := (fun _ : Unit => [(h0, .inr (8, (((((((f0.set 3 (.int 0)).set 4 (.int 0)).set 5 (.int 0)).set 6 (.int (-1))).set 6 (.int 0)).set 7 (.int 0)).set 8 (.int 0))))])) ⟨hx, hb, hml, hown, hts⟩ hN hX hAE hK hP hD hS hA [1] [0, 2, 3, 4] (ci := 8) rfl rfl rfl rfl (by decide +kernel) (by decide +kernel) (by decide +kernel) (c_X8_expectEnd_0 l E D cI cJ cB cZ h0 ((((((((f0.set 3 (.int 0)).set 4 (.int 0)).set 5 (.int 0)).set 6 (.int (-1))).set 6 (.int 0)).set 7 (.int 0)).set 8 (.int 0))) (k_ne (by decide) (k_set (k_ne (by decide) (k_ne (by decide) (k_ne (by decide) (k_ne (by decide) (k_ne (by decide) e11)))))))) (cwV 0 hts gX8_readText_X8_expectEnd rfl rfl rfl (by decide +kernel) ⟨Nat.le_of_ble_eq_true rfl, Nat.le_of_ble_eq_true rfl⟩) rfl hl.1 (Nat.le_of_ble_eq_true rfl) dX8_readText_114 ⟨Nat.le_of_ble_eq_true rfl, Nat.le_of_ble_eq_true rfl⟩ (fun _ H locs hP hD hS => ?_)
  have hP : va_P D vwCl [(h6, .inr (2, f2)), (h2, .inr (3, ((((f1.set 6 (.ref h1)).set 7 (.int 0)).set 8 (.int 0)).set 5 (.int 0)))), (h4, .inl (cI, 2001, .inl (upd g0 0 0))), (h5, .inl (cI, 2001, .inl (upd g1 0 0))), (h0, .inr (8, (((((((f0.set 3 (.int 0)).set 4 (.int 0)).set 5 (.int 0)).set 6 (.int (-1))).set 6 (.int 0)).set 7 (.int 0)).set 8 (.int 0))))] H := hP
  have hD : va_D A [(h6, .inr (2, f2)), (h2, .inr (3, ((((f1.set 6 (.ref h1)).set 7 (.int 0)).set 8 (.int 0)).set 5 (.int 0)))), (h4, .inl (cI, 2001, .inl (upd g0 0 0))), (h5, .inl (cI, 2001, .inl (upd g1 0 0))), (h0, .inr (8, (((((((f0.set 3 (.int 0)).set 4 (.int 0)).set 5 (.int 0)).set 6 (.int (-1))).set 6 (.int 0)).set 7 (.int 0)).set 8 (.int 0))))] := hD
  refine lv_iload hx hb dX8_readText_117 (lv_at hl 2 rfl) ?_
  refine lv_istore (lv' := [(7, .int 0), (6, .int 0), (5, .int 0), (4, .int 0), (0, .ref h0), (1, .ref h1), (2, .int 0), (3, .int 0)]) hx hb dX8_readText_119 hl (by decide) rfl (fun ls hl => ?_)
  refine lv_iload hx hb dX8_readText_121 (lv_at hl 0 rfl) ?_
  refine lv_aload_n hx hb dX8_readText_123 rfl (lv_at hl 4 rfl) ?_
  refine va_get (D := D) (ref := "IntegerHouse$Reader") (ci := 8) (v := .ref h6) (C := RX8) (T := TX8) (N := 15) hx hb hts hin8 hown hK hP 4 rfl rfl 1 (by decide) (hts (.fieldLink RX8 15 "IntegerHouse$Reader" "house" "LIntegerHouse$House;") (List.mem_cons_of_mem _ (List.mem_append_left _ (List.mem_append_left _ (List.mem_append_left _ (List.mem_append_left _ (List.mem_append_left _ (List.mem_of_getElem? (i := 0) rfl)))))))) (fun _ h9 => h9) (k_ne (by decide) (k_ne (by decide) (k_ne (by decide) (k_ne (by decide) (k_ne (by decide) (k_ne (by decide) (k_ne (by decide) e13))))))) dX8_readText_124 ?_
  refine va_getN (host := "IntegerHouse") (D := D) (ref := "IntegerHouse$House") (ci := 2) (v := .int 0) (C := RX2) (T := TX2) (N := 16) hx hb hts hin2 hown hK hP 0 rfl rfl 11 (by decide) (va_Nw.use rfl (hN.1 ("IntegerHouse$Reader", 33, "IntegerHouse$House", "claims", "I", "IntegerHouse") (List.mem_of_getElem? (i := 11) rfl))) (fun _ h9 => h9) e15 dX8_readText_127 ?_
  refine lv_icmp_ge (tgt := 161) hx hb dX8_readText_130 (by decide) (fun _ => ?_) (fun c9 => absurd (by decide) c9)
  refine lv_aload_n hx hb dX8_readText_161 rfl (lv_at hl 4 rfl) ?_
  refine va_get (D := D) (ref := "IntegerHouse$Reader") (ci := 8) (v := .int 0) (C := RX8) (T := TX8) (N := 15) hx hb hts hin8 hown hK hP 4 rfl rfl 3 (by decide) (hts (.fieldLink RX8 62 "IntegerHouse$Reader" "faultKind" "I") (List.mem_cons_of_mem _ (List.mem_append_left _ (List.mem_append_left _ (List.mem_append_left _ (List.mem_append_left _ (List.mem_append_left _ (List.mem_of_getElem? (i := 2) rfl)))))))) (fun _ h9 => h9) (k_ne (by decide) (k_ne (by decide) (k_ne (by decide) (k_ne (by decide) (k_ne (by decide) (k_ne (by decide) (k_set e7))))))) dX8_readText_162 ?_
  refine lv_if_eq (tgt := 181) hx hb dX8_readText_165 (by decide) (fun _ => ?_) (fun c9 => absurd (by decide) c9)
  refine lv_aload_n hx hb dX8_readText_181 rfl (lv_at hl 4 rfl) ?_
  refine va_get (D := D) (ref := "IntegerHouse$Reader") (ci := 8) (v := .int 0) (C := RX8) (T := TX8) (N := 15) hx hb hts hin8 hown hK hP 4 rfl rfl 3 (by decide) (hts (.fieldLink RX8 62 "IntegerHouse$Reader" "faultKind" "I") (List.mem_cons_of_mem _ (List.mem_append_left _ (List.mem_append_left _ (List.mem_append_left _ (List.mem_append_left _ (List.mem_append_left _ (List.mem_of_getElem? (i := 2) rfl)))))))) (fun _ h9 => h9) (k_ne (by decide) (k_ne (by decide) (k_ne (by decide) (k_ne (by decide) (k_ne (by decide) (k_ne (by decide) (k_set e7))))))) dX8_readText_182 ?_
  refine lv_if_ne (tgt := 192) hx hb dX8_readText_185 (by decide) (fun c9 => absurd (by decide) c9) (fun _ => ?_)
  refine lv_iconst (v := 1) hx hb dX8_readText_188 (by decide) ?_
  refine lv_goto (tgt := 193) hx hb dX8_readText_189 (by decide) ?_
  have hP := hP.sub (ws' := [(h0, .inr (8, (((((((f0.set 3 (.int 0)).set 4 (.int 0)).set 5 (.int 0)).set 6 (.int (-1))).set 6 (.int 0)).set 7 (.int 0)).set 8 (.int 0)))), (h2, .inr (3, ((((f1.set 6 (.ref h1)).set 7 (.int 0)).set 8 (.int 0)).set 5 (.int 0)))), (h4, .inl (cI, 2001, .inl (upd g0 0 0))), (h5, .inl (cI, 2001, .inl (upd g1 0 0))), (h6, .inr (2, f2))]) [4, 1, 2, 3, 0] rfl
  have hD := hD.sub (ws' := [(h0, .inr (8, (((((((f0.set 3 (.int 0)).set 4 (.int 0)).set 5 (.int 0)).set 6 (.int (-1))).set 6 (.int 0)).set 7 (.int 0)).set 8 (.int 0)))), (h2, .inr (3, ((((f1.set 6 (.ref h1)).set 7 (.int 0)).set 8 (.int 0)).set 5 (.int 0)))), (h4, .inl (cI, 2001, .inl (upd g0 0 0))), (h5, .inl (cI, 2001, .inl (upd g1 0 0))), (h6, .inr (2, f2))]) [4, 1, 2, 3, 0] (by decide +kernel) rfl
  exact W.zret (v := 1) hx hb hr rfl (fun t ht hW => ⟨⟨1, (), rfl, rfl, kB_mk ht hW hP hK hD⟩, hS.F ht⟩) hS.2.2 dX8_readText_193
set_option maxHeartbeats 400000000 in
set_option maxRecDepth 100000 in
theorem c_X1_hasRoom_0 (l : Launch) (E : kE) (D : va_G) (cI cJ cB cZ : ClassId) (h0 : Nat) (f0 : List Value) (e0 : f0[4]? = some (.int 0)) (e1 : f0[5]? = some (.int 0)) : kI l E D (kT cI cJ cB cZ) yX1_hasRoom wsX1_hasRoom ({ frames := 0, cells := 0, slots := 0, locals := 0 }) [.ref h0, .int 3] [(h0, .inr (1, f0))] (1) [(h0, .inr (1, f0))] 0 0 := by
  intro sz
  refine Met.ofW (cc := cX1_hasRoom) (maxL := 2) (ret := (some .boolean)) (by decide) rfl ?_
  intro p e s m args below meth c s₁ B hml hv
  obtain ⟨rfl, hsz, hP, hK, hD0, hN, hX⟩ := hv
  have hx := B.exec
  have hb := B.bytes
  have hr := B.returns
  have hts := atoms_spec (ws := wsX1_hasRoom) B.pre
  have hown : s.vm.findClass RX1 = some m.cls := findClass_of_methodNamed B.named
  have hlocks := B.notSynchronized
  have hin1 : ∀ w ∈ wsX10, w ∈ wsX1_hasRoom := (fun w h => (List.mem_cons_of_mem _ (List.mem_append_right _ h)))
  subst hsz
  have hD := hD0.self (sz := s.heap.size)
  have hAE := k_AE hD0 hX
  generalize hAe : va_A [(h0, .inr (1, f0))] s.heap.size = A at hD hAE ⊢
  have hA : ∀ q : Nat, s.heap.size ≤ q → A q := fun q h => by rw [← hAe]; exact Or.inr h
  have hS : va_S A s.heap s.heap [] := va_S.rf
  have hP : va_P D vwCl [(h0, .inr (1, f0))] s.heap := hP
  have hl := lv_entry ([.ref h0, .int 3] : List Value) (n := 2) (Nat.le_of_ble_eq_true rfl)
  rw [lg_entry_eq]
  generalize (lg_sl ([.ref h0, .int 3]) ++ List.replicate (2 - (lg_sl ([.ref h0, .int 3])).length) Slot.unset).toArray = ls at hl ⊢
  have hl : lv_has ls 2 [(0, .ref h0), (1, .int 3)] := hl
  refine lv_aload_n hx hb dX1_hasRoom_0 rfl (lv_at hl 0 rfl) ?_
  refine va_get (D := D) (ref := "IntegerHouse$Disk") (ci := 1) (v := .int 0) (C := RX1) (T := TX1) (N := 9) hx hb hts hin1 hown hK hP 0 rfl rfl 4 (by decide) (hts (.fieldLink RX1 40 "IntegerHouse$Disk" "waiting" "I") (List.mem_cons_of_mem _ (List.mem_append_left _ (List.mem_of_getElem? (i := 0) rfl)))) (fun _ h9 => h9) e0 dX1_hasRoom_1 ?_
  refine lv_iload_n hx hb dX1_hasRoom_4 rfl (lv_at hl 1 rfl) ?_
  refine lv_iadd hx hb dX1_hasRoom_5 ?_
  refine k_topi (y := 3) (by decide) ?_
  refine lv_sipush (v := 248) hx hb dX1_hasRoom_6 (by decide) ?_
  refine lv_iadd hx hb dX1_hasRoom_9 ?_
  refine k_topi (y := 251) (by decide) ?_
  refine lv_iconst (v := 1) hx hb dX1_hasRoom_10 (by decide) ?_
  refine lv_isub hx hb dX1_hasRoom_11 ?_
  refine k_topi (y := 250) (by decide) ?_
  refine lv_sipush (v := 248) hx hb dX1_hasRoom_12 (by decide) ?_
  refine lv_idiv hx hb dX1_hasRoom_15 (by decide) ?_
  refine k_topi (y := 1) (by decide) ?_
  refine lv_bipush (v := 100) hx hb dX1_hasRoom_16 (by decide) ?_
  refine lv_aload_n hx hb dX1_hasRoom_18 rfl (lv_at hl 0 rfl) ?_
  refine va_get (D := D) (ref := "IntegerHouse$Disk") (ci := 1) (v := .int 0) (C := RX1) (T := TX1) (N := 9) hx hb hts hin1 hown hK hP 0 rfl rfl 5 (by decide) (hts (.fieldLink RX1 43 "IntegerHouse$Disk" "used" "I") (List.mem_cons_of_mem _ (List.mem_append_left _ (List.mem_of_getElem? (i := 1) rfl)))) (fun _ h9 => h9) e1 dX1_hasRoom_19 ?_
  refine lv_isub hx hb dX1_hasRoom_22 ?_
  refine k_topi (y := 100) (by decide) ?_
  refine lv_icmp_gt (tgt := 30) hx hb dX1_hasRoom_23 (by decide) (fun c9 => absurd c9 (by decide)) (fun _ => ?_)
  refine lv_iconst (v := 1) hx hb dX1_hasRoom_26 (by decide) ?_
  refine lv_goto (tgt := 31) hx hb dX1_hasRoom_27 (by decide) ?_
  exact W.zret (v := 1) hx hb hr rfl (fun t ht hW => ⟨⟨1, (), rfl, rfl, kB_mk ht hW hP hK hD⟩, hS.F ht⟩) hS.2.2 dX1_hasRoom_31
set_option maxHeartbeats 400000000 in
set_option maxRecDepth 100000 in
theorem c_X2_turnOnFrom_0 (l : Launch) (E : kE) (D : va_G) (cI cJ cB cZ : ClassId) (h0 : Nat) (f0 : List Value) (e0 : f0[13]? = some (.int 0)) (e1 : f0[11]? = some (.int 0)) : kV l E D (kT cI cJ cB cZ) yX2_turnOnFrom wsX2_turnOnFrom ({ frames := 0, cells := 0, slots := 0, locals := 0 }) [.ref h0, .int 0] [(h0, .inr (2, f0))] (fun _ : Unit => [(h0, .inr (2, (f0.set 13 (.int 0))))]) 0 0 := by
  intro sz
  refine Met.ofW (cc := cX2_turnOnFrom) (maxL := 2) (ret := none) (by decide) rfl ?_
  intro p e s m args below meth c s₁ B hml hv
  obtain ⟨rfl, hsz, hP, hK, hD0, hN, hX⟩ := hv
  have hx := B.exec
  have hb := B.bytes
  have hr := B.returns
  have hts := atoms_spec (ws := wsX2_turnOnFrom) B.pre
  have hown : s.vm.findClass RX2 = some m.cls := findClass_of_methodNamed B.named
  have hlocks := B.notSynchronized
  have hin2 : ∀ w ∈ wsX20, w ∈ wsX2_turnOnFrom := (fun w h => (List.mem_cons_of_mem _ (List.mem_append_right _ h)))
  subst hsz
  have hD := hD0.self (sz := s.heap.size)
  have hAE := k_AE hD0 hX
  generalize hAe : va_A [(h0, .inr (2, f0))] s.heap.size = A at hD hAE ⊢
  have hA : ∀ q : Nat, s.heap.size ≤ q → A q := fun q h => by rw [← hAe]; exact Or.inr h
  have hS : va_S A s.heap s.heap [] := va_S.rf
  have hP : va_P D vwCl [(h0, .inr (2, f0))] s.heap := hP
  have hl := lv_entry ([.ref h0, .int 0] : List Value) (n := 2) (Nat.le_of_ble_eq_true rfl)
  rw [lg_entry_eq]
  generalize (lg_sl ([.ref h0, .int 0]) ++ List.replicate (2 - (lg_sl ([.ref h0, .int 0])).length) Slot.unset).toArray = ls at hl ⊢
  have hl : lv_has ls 2 [(0, .ref h0), (1, .int 0)] := hl
  refine lv_aload_n hx hb dX2_turnOnFrom_0 rfl (lv_at hl 0 rfl) ?_
  refine lv_dup hx hb dX2_turnOnFrom_1 rfl ?_
  refine va_get (D := D) (ref := "IntegerHouse$House") (ci := 2) (v := .int 0) (C := RX2) (T := TX2) (N := 16) hx hb hts hin2 hown hK hP 0 rfl rfl 13 (by decide) (hts (.fieldLink RX2 61 "IntegerHouse$House" "on" "I") (List.mem_cons_of_mem _ (List.mem_append_left _ (List.mem_of_getElem? (i := 0) rfl)))) (fun _ h9 => h9) e0 dX2_turnOnFrom_2 ?_
  refine lv_iconst (v := 1) hx hb dX2_turnOnFrom_5 (by decide) ?_
  refine lv_aload_n hx hb dX2_turnOnFrom_6 rfl (lv_at hl 0 rfl) ?_
  refine va_get (D := D) (ref := "IntegerHouse$House") (ci := 2) (v := .int 0) (C := RX2) (T := TX2) (N := 16) hx hb hts hin2 hown hK hP 0 rfl rfl 11 (by decide) (hts (.fieldLink RX2 55 "IntegerHouse$House" "claims" "I") (List.mem_cons_of_mem _ (List.mem_append_left _ (List.mem_of_getElem? (i := 1) rfl)))) (fun _ h9 => h9) e1 dX2_turnOnFrom_7 ?_
  refine lv_ishl hx hb dX2_turnOnFrom_10 ?_
  refine k_topi (y := 1) (by decide) ?_
  refine lv_iconst (v := 1) hx hb dX2_turnOnFrom_11 (by decide) ?_
  refine lv_iload_n hx hb dX2_turnOnFrom_12 rfl (lv_at hl 1 rfl) ?_
  refine lv_ishl hx hb dX2_turnOnFrom_13 ?_
  refine k_topi (y := 1) (by decide) ?_
  refine lv_isub hx hb dX2_turnOnFrom_14 ?_
  refine k_topi (y := 0) (by decide) ?_
  refine lv_ior hx hb dX2_turnOnFrom_15 ?_
  refine k_topi (y := 0) (by decide) ?_
  refine va_put (D := D) (ref := "IntegerHouse$House") (ci := 2) (v := .int 0) (ty := .int) (C := RX2) (T := TX2) (N := 16) hx hb hts hin2 tyX2 tyX2_ok nmX2 hown hK hP hD hS 0 rfl rfl 13 (by decide) (hts (.fieldLink RX2 61 "IntegerHouse$House" "on" "I") (List.mem_cons_of_mem _ (List.mem_append_left _ (List.mem_of_getElem? (i := 0) rfl)))) (fun _ h9 => h9) rfl (by decide +kernel) rfl rfl (k_len e0) dX2_turnOnFrom_16 (fun H locs hP hD hS => ?_)
  have hP : va_P D vwCl [(h0, .inr (2, (f0.set 13 (.int 0))))] H := hP
  have hD : va_D A [(h0, .inr (2, (f0.set 13 (.int 0))))] := hD
  exact W.vret hx hb hr (fun t ht hW => ⟨⟨(), rfl, trivial, kB_mk ht hW hP hK hD⟩, hS.F ht⟩) hS.2.2 dX2_turnOnFrom_19
set_option maxHeartbeats 400000000 in
set_option maxRecDepth 100000 in
theorem c_X1_await_0 (l : Launch) (E : kE) (D : va_G) (cI cJ cB cZ : ClassId) (h0 : Nat) (f0 : List Value) (h1 : Nat) (g0 : Nat → Int32) (e0 : f0[4]? = some (.int 0)) (e1 : f0[3]? = some (.ref h1)) : kV l E D (kT cI cJ cB cZ) yX1_await wsX1_await ({ frames := 0, cells := 0, slots := 0, locals := 0 }) [.ref h0, .int 1] [(h0, .inr (1, f0)), (h1, .inl (cB, 24800, .inl g0))] (fun _ : Unit => [(h0, .inr (1, (f0.set 4 (.int 1)))), (h1, .inl (cB, 24800, .inl (upd g0 0 1)))]) 0 0 := by
  intro sz
  refine Met.ofW (cc := cX1_await) (maxL := 2) (ret := none) (by decide) rfl ?_
  intro p e s m args below meth c s₁ B hml hv
  obtain ⟨rfl, hsz, hP, hK, hD0, hN, hX⟩ := hv
  have hx := B.exec
  have hb := B.bytes
  have hr := B.returns
  have hts := atoms_spec (ws := wsX1_await) B.pre
  have hown : s.vm.findClass RX1 = some m.cls := findClass_of_methodNamed B.named
  have hlocks := B.notSynchronized
  have hin1 : ∀ w ∈ wsX10, w ∈ wsX1_await := (fun w h => (List.mem_cons_of_mem _ (List.mem_append_right _ h)))
  subst hsz
  have hD := hD0.self (sz := s.heap.size)
  have hAE := k_AE hD0 hX
  generalize hAe : va_A [(h0, .inr (1, f0)), (h1, .inl (cB, 24800, .inl g0))] s.heap.size = A at hD hAE ⊢
  have hA : ∀ q : Nat, s.heap.size ≤ q → A q := fun q h => by rw [← hAe]; exact Or.inr h
  have hS : va_S A s.heap s.heap [] := va_S.rf
  have hP : va_P D vwCl [(h0, .inr (1, f0)), (h1, .inl (cB, 24800, .inl g0))] s.heap := hP
  have hl := lv_entry ([.ref h0, .int 1] : List Value) (n := 2) (Nat.le_of_ble_eq_true rfl)
  rw [lg_entry_eq]
  generalize (lg_sl ([.ref h0, .int 1]) ++ List.replicate (2 - (lg_sl ([.ref h0, .int 1])).length) Slot.unset).toArray = ls at hl ⊢
  have hl : lv_has ls 2 [(0, .ref h0), (1, .int 1)] := hl
  refine lv_aload_n hx hb dX1_await_0 rfl (lv_at hl 0 rfl) ?_
  refine va_get (D := D) (ref := "IntegerHouse$Disk") (ci := 1) (v := .int 0) (C := RX1) (T := TX1) (N := 9) hx hb hts hin1 hown hK hP 0 rfl rfl 4 (by decide) (hts (.fieldLink RX1 40 "IntegerHouse$Disk" "waiting" "I") (List.mem_cons_of_mem _ (List.mem_append_left _ (List.mem_of_getElem? (i := 0) rfl)))) (fun _ h9 => h9) e0 dX1_await_1 ?_
  refine lv_if_lt (tgt := 38) hx hb dX1_await_4 (by decide) (fun c9 => absurd c9 (by decide)) (fun _ => ?_)
  refine lv_aload_n hx hb dX1_await_7 rfl (lv_at hl 0 rfl) ?_
  refine va_get (D := D) (ref := "IntegerHouse$Disk") (ci := 1) (v := .int 0) (C := RX1) (T := TX1) (N := 9) hx hb hts hin1 hown hK hP 0 rfl rfl 4 (by decide) (hts (.fieldLink RX1 40 "IntegerHouse$Disk" "waiting" "I") (List.mem_cons_of_mem _ (List.mem_append_left _ (List.mem_of_getElem? (i := 0) rfl)))) (fun _ h9 => h9) e0 dX1_await_8 ?_
  refine lv_sipush (v := 24800) hx hb dX1_await_11 (by decide) ?_
  refine lv_icmp_ge (tgt := 38) hx hb dX1_await_14 (by decide) (fun c9 => absurd c9 (by decide)) (fun _ => ?_)
  refine lv_aload_n hx hb dX1_await_17 rfl (lv_at hl 0 rfl) ?_
  refine va_get (D := D) (ref := "IntegerHouse$Disk") (ci := 1) (v := .ref h1) (C := RX1) (T := TX1) (N := 9) hx hb hts hin1 hown hK hP 0 rfl rfl 3 (by decide) (hts (.fieldLink RX1 22 "IntegerHouse$Disk" "waits" "[B") (List.mem_cons_of_mem _ (List.mem_append_left _ (List.mem_of_getElem? (i := 1) rfl)))) (fun _ h9 => h9) e1 dX1_await_18 ?_
  refine lv_aload_n hx hb dX1_await_21 rfl (lv_at hl 0 rfl) ?_
  refine va_get (D := D) (ref := "IntegerHouse$Disk") (ci := 1) (v := .int 0) (C := RX1) (T := TX1) (N := 9) hx hb hts hin1 hown hK hP 0 rfl rfl 4 (by decide) (hts (.fieldLink RX1 40 "IntegerHouse$Disk" "waiting" "I") (List.mem_cons_of_mem _ (List.mem_append_left _ (List.mem_of_getElem? (i := 0) rfl)))) (fun _ h9 => h9) e0 dX1_await_22 ?_
  refine lv_iload_n hx hb dX1_await_25 rfl (lv_at hl 1 rfl) ?_
  refine lv_i2b (v := 1) hx hb dX1_await_26 (by decide) ?_
  refine va_bast hx hb hK hP hD hS 1 2 rfl rfl (k_in (by decide)) dX1_await_27 (fun H locs hP hD hS => ?_)
  have hP : va_P D vwCl [(h0, .inr (1, f0)), (h1, .inl (cB, 24800, .inl (upd g0 0 1)))] H := hP
  have hD : va_D A [(h0, .inr (1, f0)), (h1, .inl (cB, 24800, .inl (upd g0 0 1)))] := hD
  refine lv_aload_n hx hb dX1_await_28 rfl (lv_at hl 0 rfl) ?_
  refine lv_dup hx hb dX1_await_29 rfl ?_
  refine va_get (D := D) (ref := "IntegerHouse$Disk") (ci := 1) (v := .int 0) (C := RX1) (T := TX1) (N := 9) hx hb hts hin1 hown hK hP 0 rfl rfl 4 (by decide) (hts (.fieldLink RX1 40 "IntegerHouse$Disk" "waiting" "I") (List.mem_cons_of_mem _ (List.mem_append_left _ (List.mem_of_getElem? (i := 0) rfl)))) (fun _ h9 => h9) e0 dX1_await_30 ?_
  refine lv_iconst (v := 1) hx hb dX1_await_33 (by decide) ?_
  refine lv_iadd hx hb dX1_await_34 ?_
  refine k_topi (y := 1) (by decide) ?_
  refine va_put (D := D) (ref := "IntegerHouse$Disk") (ci := 1) (v := .int 1) (ty := .int) (C := RX1) (T := TX1) (N := 9) hx hb hts hin1 tyX1 tyX1_ok nmX1 hown hK hP hD hS 0 rfl rfl 4 (by decide) (hts (.fieldLink RX1 40 "IntegerHouse$Disk" "waiting" "I") (List.mem_cons_of_mem _ (List.mem_append_left _ (List.mem_of_getElem? (i := 0) rfl)))) (fun _ h9 => h9) rfl (by decide +kernel) rfl rfl (k_len e0) dX1_await_35 (fun H locs hP hD hS => ?_)
  have hP : va_P D vwCl [(h0, .inr (1, (f0.set 4 (.int 1)))), (h1, .inl (cB, 24800, .inl (upd g0 0 1)))] H := hP
  have hD : va_D A [(h0, .inr (1, (f0.set 4 (.int 1)))), (h1, .inl (cB, 24800, .inl (upd g0 0 1)))] := hD
  exact W.vret hx hb hr (fun t ht hW => ⟨⟨(), rfl, trivial, kB_mk ht hW hP hK hD⟩, hS.F ht⟩) hS.2.2 dX1_await_38
set_option maxHeartbeats 400000000 in
set_option maxRecDepth 100000 in
theorem c_X1_await_1 (l : Launch) (E : kE) (D : va_G) (cI cJ cB cZ : ClassId) (h0 : Nat) (f0 : List Value) (h1 : Nat) (g0 : Nat → Int32) (e0 : f0[4]? = some (.int 1)) (e1 : f0[3]? = some (.ref h1)) : kV l E D (kT cI cJ cB cZ) yX1_await wsX1_await ({ frames := 0, cells := 0, slots := 0, locals := 0 }) [.ref h0, .int 0] [(h0, .inr (1, f0)), (h1, .inl (cB, 24800, .inl g0))] (fun _ : Unit => [(h0, .inr (1, (f0.set 4 (.int 2)))), (h1, .inl (cB, 24800, .inl (upd g0 1 0)))]) 0 0 := by
  intro sz
  refine Met.ofW (cc := cX1_await) (maxL := 2) (ret := none) (by decide) rfl ?_
  intro p e s m args below meth c s₁ B hml hv
  obtain ⟨rfl, hsz, hP, hK, hD0, hN, hX⟩ := hv
  have hx := B.exec
  have hb := B.bytes
  have hr := B.returns
  have hts := atoms_spec (ws := wsX1_await) B.pre
  have hown : s.vm.findClass RX1 = some m.cls := findClass_of_methodNamed B.named
  have hlocks := B.notSynchronized
  have hin1 : ∀ w ∈ wsX10, w ∈ wsX1_await := (fun w h => (List.mem_cons_of_mem _ (List.mem_append_right _ h)))
  subst hsz
  have hD := hD0.self (sz := s.heap.size)
  have hAE := k_AE hD0 hX
  generalize hAe : va_A [(h0, .inr (1, f0)), (h1, .inl (cB, 24800, .inl g0))] s.heap.size = A at hD hAE ⊢
  have hA : ∀ q : Nat, s.heap.size ≤ q → A q := fun q h => by rw [← hAe]; exact Or.inr h
  have hS : va_S A s.heap s.heap [] := va_S.rf
  have hP : va_P D vwCl [(h0, .inr (1, f0)), (h1, .inl (cB, 24800, .inl g0))] s.heap := hP
  have hl := lv_entry ([.ref h0, .int 0] : List Value) (n := 2) (Nat.le_of_ble_eq_true rfl)
  rw [lg_entry_eq]
  generalize (lg_sl ([.ref h0, .int 0]) ++ List.replicate (2 - (lg_sl ([.ref h0, .int 0])).length) Slot.unset).toArray = ls at hl ⊢
  have hl : lv_has ls 2 [(0, .ref h0), (1, .int 0)] := hl
  refine lv_aload_n hx hb dX1_await_0 rfl (lv_at hl 0 rfl) ?_
  refine va_get (D := D) (ref := "IntegerHouse$Disk") (ci := 1) (v := .int 1) (C := RX1) (T := TX1) (N := 9) hx hb hts hin1 hown hK hP 0 rfl rfl 4 (by decide) (hts (.fieldLink RX1 40 "IntegerHouse$Disk" "waiting" "I") (List.mem_cons_of_mem _ (List.mem_append_left _ (List.mem_of_getElem? (i := 0) rfl)))) (fun _ h9 => h9) e0 dX1_await_1 ?_
  refine lv_if_lt (tgt := 38) hx hb dX1_await_4 (by decide) (fun c9 => absurd c9 (by decide)) (fun _ => ?_)
  refine lv_aload_n hx hb dX1_await_7 rfl (lv_at hl 0 rfl) ?_
  refine va_get (D := D) (ref := "IntegerHouse$Disk") (ci := 1) (v := .int 1) (C := RX1) (T := TX1) (N := 9) hx hb hts hin1 hown hK hP 0 rfl rfl 4 (by decide) (hts (.fieldLink RX1 40 "IntegerHouse$Disk" "waiting" "I") (List.mem_cons_of_mem _ (List.mem_append_left _ (List.mem_of_getElem? (i := 0) rfl)))) (fun _ h9 => h9) e0 dX1_await_8 ?_
  refine lv_sipush (v := 24800) hx hb dX1_await_11 (by decide) ?_
  refine lv_icmp_ge (tgt := 38) hx hb dX1_await_14 (by decide) (fun c9 => absurd c9 (by decide)) (fun _ => ?_)
  refine lv_aload_n hx hb dX1_await_17 rfl (lv_at hl 0 rfl) ?_
  refine va_get (D := D) (ref := "IntegerHouse$Disk") (ci := 1) (v := .ref h1) (C := RX1) (T := TX1) (N := 9) hx hb hts hin1 hown hK hP 0 rfl rfl 3 (by decide) (hts (.fieldLink RX1 22 "IntegerHouse$Disk" "waits" "[B") (List.mem_cons_of_mem _ (List.mem_append_left _ (List.mem_of_getElem? (i := 1) rfl)))) (fun _ h9 => h9) e1 dX1_await_18 ?_
  refine lv_aload_n hx hb dX1_await_21 rfl (lv_at hl 0 rfl) ?_
  refine va_get (D := D) (ref := "IntegerHouse$Disk") (ci := 1) (v := .int 1) (C := RX1) (T := TX1) (N := 9) hx hb hts hin1 hown hK hP 0 rfl rfl 4 (by decide) (hts (.fieldLink RX1 40 "IntegerHouse$Disk" "waiting" "I") (List.mem_cons_of_mem _ (List.mem_append_left _ (List.mem_of_getElem? (i := 0) rfl)))) (fun _ h9 => h9) e0 dX1_await_22 ?_
  refine lv_iload_n hx hb dX1_await_25 rfl (lv_at hl 1 rfl) ?_
  refine lv_i2b (v := 0) hx hb dX1_await_26 (by decide) ?_
  refine va_bast hx hb hK hP hD hS 1 2 rfl rfl (k_in (by decide)) dX1_await_27 (fun H locs hP hD hS => ?_)
  have hP : va_P D vwCl [(h0, .inr (1, f0)), (h1, .inl (cB, 24800, .inl (upd g0 1 0)))] H := hP
  have hD : va_D A [(h0, .inr (1, f0)), (h1, .inl (cB, 24800, .inl (upd g0 1 0)))] := hD
  refine lv_aload_n hx hb dX1_await_28 rfl (lv_at hl 0 rfl) ?_
  refine lv_dup hx hb dX1_await_29 rfl ?_
  refine va_get (D := D) (ref := "IntegerHouse$Disk") (ci := 1) (v := .int 1) (C := RX1) (T := TX1) (N := 9) hx hb hts hin1 hown hK hP 0 rfl rfl 4 (by decide) (hts (.fieldLink RX1 40 "IntegerHouse$Disk" "waiting" "I") (List.mem_cons_of_mem _ (List.mem_append_left _ (List.mem_of_getElem? (i := 0) rfl)))) (fun _ h9 => h9) e0 dX1_await_30 ?_
  refine lv_iconst (v := 1) hx hb dX1_await_33 (by decide) ?_
  refine lv_iadd hx hb dX1_await_34 ?_
  refine k_topi (y := 2) (by decide) ?_
  refine va_put (D := D) (ref := "IntegerHouse$Disk") (ci := 1) (v := .int 2) (ty := .int) (C := RX1) (T := TX1) (N := 9) hx hb hts hin1 tyX1 tyX1_ok nmX1 hown hK hP hD hS 0 rfl rfl 4 (by decide) (hts (.fieldLink RX1 40 "IntegerHouse$Disk" "waiting" "I") (List.mem_cons_of_mem _ (List.mem_append_left _ (List.mem_of_getElem? (i := 0) rfl)))) (fun _ h9 => h9) rfl (by decide +kernel) rfl rfl (k_len e0) dX1_await_35 (fun H locs hP hD hS => ?_)
  have hP : va_P D vwCl [(h0, .inr (1, (f0.set 4 (.int 2)))), (h1, .inl (cB, 24800, .inl (upd g0 1 0)))] H := hP
  have hD : va_D A [(h0, .inr (1, (f0.set 4 (.int 2)))), (h1, .inl (cB, 24800, .inl (upd g0 1 0)))] := hD
  exact W.vret hx hb hr (fun t ht hW => ⟨⟨(), rfl, trivial, kB_mk ht hW hP hK hD⟩, hS.F ht⟩) hS.2.2 dX1_await_38
set_option maxHeartbeats 400000000 in
set_option maxRecDepth 100000 in
theorem c_X1_await_2 (l : Launch) (E : kE) (D : va_G) (cI cJ cB cZ : ClassId) (h0 : Nat) (f0 : List Value) (h1 : Nat) (g0 : Nat → Int32) (e0 : f0[4]? = some (.int 2)) (e1 : f0[3]? = some (.ref h1)) : kV l E D (kT cI cJ cB cZ) yX1_await wsX1_await ({ frames := 0, cells := 0, slots := 0, locals := 0 }) [.ref h0, .int 0] [(h0, .inr (1, f0)), (h1, .inl (cB, 24800, .inl g0))] (fun _ : Unit => [(h0, .inr (1, (f0.set 4 (.int 3)))), (h1, .inl (cB, 24800, .inl (upd g0 2 0)))]) 0 0 := by
  intro sz
  refine Met.ofW (cc := cX1_await) (maxL := 2) (ret := none) (by decide) rfl ?_
  intro p e s m args below meth c s₁ B hml hv
  obtain ⟨rfl, hsz, hP, hK, hD0, hN, hX⟩ := hv
  have hx := B.exec
  have hb := B.bytes
  have hr := B.returns
  have hts := atoms_spec (ws := wsX1_await) B.pre
  have hown : s.vm.findClass RX1 = some m.cls := findClass_of_methodNamed B.named
  have hlocks := B.notSynchronized
  have hin1 : ∀ w ∈ wsX10, w ∈ wsX1_await := (fun w h => (List.mem_cons_of_mem _ (List.mem_append_right _ h)))
  subst hsz
  have hD := hD0.self (sz := s.heap.size)
  have hAE := k_AE hD0 hX
  generalize hAe : va_A [(h0, .inr (1, f0)), (h1, .inl (cB, 24800, .inl g0))] s.heap.size = A at hD hAE ⊢
  have hA : ∀ q : Nat, s.heap.size ≤ q → A q := fun q h => by rw [← hAe]; exact Or.inr h
  have hS : va_S A s.heap s.heap [] := va_S.rf
  have hP : va_P D vwCl [(h0, .inr (1, f0)), (h1, .inl (cB, 24800, .inl g0))] s.heap := hP
  have hl := lv_entry ([.ref h0, .int 0] : List Value) (n := 2) (Nat.le_of_ble_eq_true rfl)
  rw [lg_entry_eq]
  generalize (lg_sl ([.ref h0, .int 0]) ++ List.replicate (2 - (lg_sl ([.ref h0, .int 0])).length) Slot.unset).toArray = ls at hl ⊢
  have hl : lv_has ls 2 [(0, .ref h0), (1, .int 0)] := hl
  refine lv_aload_n hx hb dX1_await_0 rfl (lv_at hl 0 rfl) ?_
  refine va_get (D := D) (ref := "IntegerHouse$Disk") (ci := 1) (v := .int 2) (C := RX1) (T := TX1) (N := 9) hx hb hts hin1 hown hK hP 0 rfl rfl 4 (by decide) (hts (.fieldLink RX1 40 "IntegerHouse$Disk" "waiting" "I") (List.mem_cons_of_mem _ (List.mem_append_left _ (List.mem_of_getElem? (i := 0) rfl)))) (fun _ h9 => h9) e0 dX1_await_1 ?_
  refine lv_if_lt (tgt := 38) hx hb dX1_await_4 (by decide) (fun c9 => absurd c9 (by decide)) (fun _ => ?_)
  refine lv_aload_n hx hb dX1_await_7 rfl (lv_at hl 0 rfl) ?_
  refine va_get (D := D) (ref := "IntegerHouse$Disk") (ci := 1) (v := .int 2) (C := RX1) (T := TX1) (N := 9) hx hb hts hin1 hown hK hP 0 rfl rfl 4 (by decide) (hts (.fieldLink RX1 40 "IntegerHouse$Disk" "waiting" "I") (List.mem_cons_of_mem _ (List.mem_append_left _ (List.mem_of_getElem? (i := 0) rfl)))) (fun _ h9 => h9) e0 dX1_await_8 ?_
  refine lv_sipush (v := 24800) hx hb dX1_await_11 (by decide) ?_
  refine lv_icmp_ge (tgt := 38) hx hb dX1_await_14 (by decide) (fun c9 => absurd c9 (by decide)) (fun _ => ?_)
  refine lv_aload_n hx hb dX1_await_17 rfl (lv_at hl 0 rfl) ?_
  refine va_get (D := D) (ref := "IntegerHouse$Disk") (ci := 1) (v := .ref h1) (C := RX1) (T := TX1) (N := 9) hx hb hts hin1 hown hK hP 0 rfl rfl 3 (by decide) (hts (.fieldLink RX1 22 "IntegerHouse$Disk" "waits" "[B") (List.mem_cons_of_mem _ (List.mem_append_left _ (List.mem_of_getElem? (i := 1) rfl)))) (fun _ h9 => h9) e1 dX1_await_18 ?_
  refine lv_aload_n hx hb dX1_await_21 rfl (lv_at hl 0 rfl) ?_
  refine va_get (D := D) (ref := "IntegerHouse$Disk") (ci := 1) (v := .int 2) (C := RX1) (T := TX1) (N := 9) hx hb hts hin1 hown hK hP 0 rfl rfl 4 (by decide) (hts (.fieldLink RX1 40 "IntegerHouse$Disk" "waiting" "I") (List.mem_cons_of_mem _ (List.mem_append_left _ (List.mem_of_getElem? (i := 0) rfl)))) (fun _ h9 => h9) e0 dX1_await_22 ?_
  refine lv_iload_n hx hb dX1_await_25 rfl (lv_at hl 1 rfl) ?_
  refine lv_i2b (v := 0) hx hb dX1_await_26 (by decide) ?_
  refine va_bast hx hb hK hP hD hS 1 2 rfl rfl (k_in (by decide)) dX1_await_27 (fun H locs hP hD hS => ?_)
  have hP : va_P D vwCl [(h0, .inr (1, f0)), (h1, .inl (cB, 24800, .inl (upd g0 2 0)))] H := hP
  have hD : va_D A [(h0, .inr (1, f0)), (h1, .inl (cB, 24800, .inl (upd g0 2 0)))] := hD
  refine lv_aload_n hx hb dX1_await_28 rfl (lv_at hl 0 rfl) ?_
  refine lv_dup hx hb dX1_await_29 rfl ?_
  refine va_get (D := D) (ref := "IntegerHouse$Disk") (ci := 1) (v := .int 2) (C := RX1) (T := TX1) (N := 9) hx hb hts hin1 hown hK hP 0 rfl rfl 4 (by decide) (hts (.fieldLink RX1 40 "IntegerHouse$Disk" "waiting" "I") (List.mem_cons_of_mem _ (List.mem_append_left _ (List.mem_of_getElem? (i := 0) rfl)))) (fun _ h9 => h9) e0 dX1_await_30 ?_
  refine lv_iconst (v := 1) hx hb dX1_await_33 (by decide) ?_
  refine lv_iadd hx hb dX1_await_34 ?_
  refine k_topi (y := 3) (by decide) ?_
  refine va_put (D := D) (ref := "IntegerHouse$Disk") (ci := 1) (v := .int 3) (ty := .int) (C := RX1) (T := TX1) (N := 9) hx hb hts hin1 tyX1 tyX1_ok nmX1 hown hK hP hD hS 0 rfl rfl 4 (by decide) (hts (.fieldLink RX1 40 "IntegerHouse$Disk" "waiting" "I") (List.mem_cons_of_mem _ (List.mem_append_left _ (List.mem_of_getElem? (i := 0) rfl)))) (fun _ h9 => h9) rfl (by decide +kernel) rfl rfl (k_len e0) dX1_await_35 (fun H locs hP hD hS => ?_)
  have hP : va_P D vwCl [(h0, .inr (1, (f0.set 4 (.int 3)))), (h1, .inl (cB, 24800, .inl (upd g0 2 0)))] H := hP
  have hD : va_D A [(h0, .inr (1, (f0.set 4 (.int 3)))), (h1, .inl (cB, 24800, .inl (upd g0 2 0)))] := hD
  exact W.vret hx hb hr (fun t ht hW => ⟨⟨(), rfl, trivial, kB_mk ht hW hP hK hD⟩, hS.F ht⟩) hS.2.2 dX1_await_38
set_option maxHeartbeats 400000000 in
set_option maxRecDepth 100000 in
theorem c_X1_recordRead_0 (l : Launch) (E : kE) (D : va_G) (cI cJ cB cZ : ClassId) (h0 : Nat) (h1 : Nat) (f0 : List Value) (h2 : Nat) (g0 : Nat → Int32) (e0 : f0[4]? = some (.int 0)) (e1 : f0[3]? = some (.ref h2)) : kV l E D (kT cI cJ cB cZ) yX1_recordRead wsX1_recordRead ({ frames := 1, cells := 0, slots := 0, locals := 21 }) [.ref h0, .ref h1, .int 0] [(h0, .inr (1, f0)), (h2, .inl (cB, 24800, .inl g0))] (fun _ : Unit => [(h0, .inr (1, (((f0.set 4 (.int 1)).set 4 (.int 2)).set 4 (.int 3)))), (h2, .inl (cB, 24800, .inl (upd (upd (upd g0 0 1) 1 0) 2 0)))]) 0 0 := by
  intro sz
  refine Met.ofW (cc := cX1_recordRead) (maxL := 4) (ret := none) (by decide) rfl ?_
  intro p e s m args below meth c s₁ B hml hv
  obtain ⟨rfl, hsz, hP, hK, hD0, hN, hX⟩ := hv
  have hx := B.exec
  have hb := B.bytes
  have hr := B.returns
  have hts := atoms_spec (ws := wsX1_recordRead) B.pre
  have hown : s.vm.findClass RX1 = some m.cls := findClass_of_methodNamed B.named
  have hlocks := B.notSynchronized
  subst hsz
  have hD := hD0.self (sz := s.heap.size)
  have hAE := k_AE hD0 hX
  generalize hAe : va_A [(h0, .inr (1, f0)), (h2, .inl (cB, 24800, .inl g0))] s.heap.size = A at hD hAE ⊢
  have hA : ∀ q : Nat, s.heap.size ≤ q → A q := fun q h => by rw [← hAe]; exact Or.inr h
  have hS : va_S A s.heap s.heap [] := va_S.rf
  have hP : va_P D vwCl [(h0, .inr (1, f0)), (h2, .inl (cB, 24800, .inl g0))] s.heap := hP
  have hl := lv_entry ([.ref h0, .ref h1, .int 0] : List Value) (n := 4) (Nat.le_of_ble_eq_true rfl)
  rw [lg_entry_eq]
  generalize (lg_sl ([.ref h0, .ref h1, .int 0]) ++ List.replicate (4 - (lg_sl ([.ref h0, .ref h1, .int 0])).length) Slot.unset).toArray = ls at hl ⊢
  have hl : lv_has ls 4 [(0, .ref h0), (1, .ref h1), (2, .int 0)] := hl
  refine lv_aload_n hx hb dX1_recordRead_0 rfl (lv_at hl 0 rfl) ?_
  refine lv_iconst (v := 1) hx hb dX1_recordRead_1 (by decide) ?_
  refine k_cVv (As := [.int 1]) (rest := []) (wc := [(h0, .inr (1, f0)), (h2, .inl (cB, 24800, .inl g0))]) (wr := []) (w1 := (fun _ : Unit => [(h0, .inr (1, (f0.set 4 (.int 1)))), (h2, .inl (cB, 24800, .inl (upd g0 0 1)))])) ⟨hx, hb, hml, hown, hts⟩ hN hX hAE hK hP hD hS hA [0, 1] [] (ci := 1) rfl rfl rfl rfl (by decide +kernel) (by decide +kernel) (by decide +kernel) (c_X1_await_0 l E D cI cJ cB cZ h0 f0 h2 g0 e0 e1) (cwV 1 hts gX1_recordRead_X1_await rfl rfl rfl (by decide +kernel) ⟨Nat.le_of_ble_eq_true rfl, Nat.le_of_ble_eq_true rfl⟩) rfl hl.1 (Nat.le_of_ble_eq_true rfl) dX1_recordRead_2 ⟨Nat.le_of_ble_eq_true rfl, Nat.le_of_ble_eq_true rfl⟩ (fun _ H locs hP hD hS => ?_)
  have hP : va_P D vwCl [(h0, .inr (1, (f0.set 4 (.int 1)))), (h2, .inl (cB, 24800, .inl (upd g0 0 1)))] H := hP
  have hD : va_D A [(h0, .inr (1, (f0.set 4 (.int 1)))), (h2, .inl (cB, 24800, .inl (upd g0 0 1)))] := hD
  refine lv_aload_n hx hb dX1_recordRead_5 rfl (lv_at hl 0 rfl) ?_
  refine lv_iload_n hx hb dX1_recordRead_6 rfl (lv_at hl 2 rfl) ?_
  refine lv_bipush (v := 8) hx hb dX1_recordRead_7 (by decide) ?_
  refine lv_ishr hx hb dX1_recordRead_9 ?_
  refine k_topi (y := 0) (by decide) ?_
  refine k_cVv (As := [.int 0]) (rest := []) (wc := [(h0, .inr (1, (f0.set 4 (.int 1)))), (h2, .inl (cB, 24800, .inl (upd g0 0 1)))]) (wr := []) (w1 := (fun _ : Unit => [(h0, .inr (1, ((f0.set 4 (.int 1)).set 4 (.int 2)))), (h2, .inl (cB, 24800, .inl (upd (upd g0 0 1) 1 0)))])) ⟨hx, hb, hml, hown, hts⟩ hN hX hAE hK hP hD hS hA [0, 1] [] (ci := 1) rfl rfl rfl rfl (by decide +kernel) (by decide +kernel) (by decide +kernel) (c_X1_await_1 l E D cI cJ cB cZ h0 ((f0.set 4 (.int 1))) h2 ((upd g0 0 1)) (k_set e0) (k_ne (by decide) e1)) (cwV 1 hts gX1_recordRead_X1_await rfl rfl rfl (by decide +kernel) ⟨Nat.le_of_ble_eq_true rfl, Nat.le_of_ble_eq_true rfl⟩) rfl hl.1 (Nat.le_of_ble_eq_true rfl) dX1_recordRead_10 ⟨Nat.le_of_ble_eq_true rfl, Nat.le_of_ble_eq_true rfl⟩ (fun _ H locs hP hD hS => ?_)
  have hP : va_P D vwCl [(h0, .inr (1, ((f0.set 4 (.int 1)).set 4 (.int 2)))), (h2, .inl (cB, 24800, .inl (upd (upd g0 0 1) 1 0)))] H := hP
  have hD : va_D A [(h0, .inr (1, ((f0.set 4 (.int 1)).set 4 (.int 2)))), (h2, .inl (cB, 24800, .inl (upd (upd g0 0 1) 1 0)))] := hD
  refine lv_aload_n hx hb dX1_recordRead_13 rfl (lv_at hl 0 rfl) ?_
  refine lv_iload_n hx hb dX1_recordRead_14 rfl (lv_at hl 2 rfl) ?_
  refine k_cVv (As := [.int 0]) (rest := []) (wc := [(h0, .inr (1, ((f0.set 4 (.int 1)).set 4 (.int 2)))), (h2, .inl (cB, 24800, .inl (upd (upd g0 0 1) 1 0)))]) (wr := []) (w1 := (fun _ : Unit => [(h0, .inr (1, (((f0.set 4 (.int 1)).set 4 (.int 2)).set 4 (.int 3)))), (h2, .inl (cB, 24800, .inl (upd (upd (upd g0 0 1) 1 0) 2 0)))])) ⟨hx, hb, hml, hown, hts⟩ hN hX hAE hK hP hD hS hA [0, 1] [] (ci := 1) rfl rfl rfl rfl (by decide +kernel) (by decide +kernel) (by decide +kernel) (c_X1_await_2 l E D cI cJ cB cZ h0 (((f0.set 4 (.int 1)).set 4 (.int 2))) h2 ((upd (upd g0 0 1) 1 0)) (k_set (k_set e0)) (k_ne (by decide) (k_ne (by decide) e1))) (cwV 1 hts gX1_recordRead_X1_await rfl rfl rfl (by decide +kernel) ⟨Nat.le_of_ble_eq_true rfl, Nat.le_of_ble_eq_true rfl⟩) rfl hl.1 (Nat.le_of_ble_eq_true rfl) dX1_recordRead_15 ⟨Nat.le_of_ble_eq_true rfl, Nat.le_of_ble_eq_true rfl⟩ (fun _ H locs hP hD hS => ?_)
  have hP : va_P D vwCl [(h0, .inr (1, (((f0.set 4 (.int 1)).set 4 (.int 2)).set 4 (.int 3)))), (h2, .inl (cB, 24800, .inl (upd (upd (upd g0 0 1) 1 0) 2 0)))] H := hP
  have hD : va_D A [(h0, .inr (1, (((f0.set 4 (.int 1)).set 4 (.int 2)).set 4 (.int 3)))), (h2, .inl (cB, 24800, .inl (upd (upd (upd g0 0 1) 1 0) 2 0)))] := hD
  refine lv_iconst (v := 0) hx hb dX1_recordRead_18 (by decide) ?_
  refine lv_istore_n (lv' := [(3, .int 0), (0, .ref h0), (1, .ref h1), (2, .int 0)]) hx hb dX1_recordRead_19 rfl hl (by decide) rfl (fun ls hl => ?_)
  refine lv_iload_n hx hb dX1_recordRead_20 rfl (lv_at hl 0 rfl) ?_
  refine lv_iload_n hx hb dX1_recordRead_21 rfl (lv_at hl 3 rfl) ?_
  refine lv_icmp_ge (tgt := 44) hx hb dX1_recordRead_22 (by decide) (fun _ => ?_) (fun c9 => absurd (by decide) c9)
  exact W.vret hx hb hr (fun t ht hW => ⟨⟨(), rfl, trivial, kB_mk ht hW hP hK hD⟩, hS.F ht⟩) hS.2.2 dX1_recordRead_44
set_option maxHeartbeats 400000000 in
set_option maxRecDepth 100000 in
theorem c_X11_read_0 (l : Launch) (E : kE) (D : va_G) (cI cJ cB cZ : ClassId) (h0 : Nat) (f0 : List Value) (h1 : Nat) (f1 : List Value) (h2 : Nat) (f2 : List Value) (h3 : Nat) (h4 : Nat) (f3 : List Value) (h5 : Nat) (f4 : List Value) (h6 : Nat) (h7 : Nat) (h8 : Nat) (g0 : Nat → Int32) (g1 : Nat → Int32) (h9 : Nat) (g2 : Nat → Int32) (e0 : f0[1]? = some (.ref h1)) (e1 : f1[8]? = some (.int 0)) (e2 : f0[12]? = some (.int 0)) (e3 : f0[2]? = some (.ref h2)) (e4 : f2[10]? = some (.int 0)) (e5 : f2[11]? = some (.int 0)) (e6 : f2[12]? = some (.int 0)) (e7 : f0[5]? = some (.ref h3)) (e8 : f0[0]? = some (.ref h4)) (e9 : f3[0]? = some (.ref h5)) (e10 : f4[6]? = some (.ref h6)) (e11 : f4[7]? = some (.int 0)) (e12 : f4[8]? = some (.int 0)) (e13 : f4[5]? = some (.int 0)) (e14 : f4[1]? = some (.ref h7)) (e15 : f4[2]? = some (.ref h8)) (e16 : f3[3]? = some (.int 0)) (e17 : f3[4]? = some (.int 0)) (e18 : f3[5]? = some (.int 0)) (e19 : f3[6]? = some (.int 0)) (e20 : f3[7]? = some (.int 0)) (e21 : f3[8]? = some (.int 0)) (e22 : f3[1]? = some (.ref h2)) (e23 : f1[4]? = some (.int 0)) (e24 : f1[5]? = some (.int 0)) (e25 : f2[13]? = some (.int 0)) (e26 : f1[3]? = some (.ref h9)) (e27 : f0[14]? = some (.int 0)) : kI l E D (kT cI cJ cB cZ) yX11_read wsX11_read ({ frames := 4, cells := 0, slots := 0, locals := 100 }) [.ref h0] [(h0, .inr (11, f0)), (h1, .inr (1, f1)), (h2, .inr (2, f2)), (h3, .inr (8, f3)), (h5, .inr (3, f4)), (h7, .inl (cI, 2001, .inl g0)), (h8, .inl (cI, 2001, .inl g1)), (h9, .inl (cB, 24800, .inl g2))] (0) [(h0, .inr (11, ((f0.set 12 (.int 0)).set 14 (.int 1)))), (h1, .inr (1, (((f1.set 4 (.int 1)).set 4 (.int 2)).set 4 (.int 3)))), (h2, .inr (2, (f2.set 13 (.int 0)))), (h3, .inr (8, (((((((f3.set 3 (.int 0)).set 4 (.int 0)).set 5 (.int 0)).set 6 (.int (-1))).set 6 (.int 0)).set 7 (.int 0)).set 8 (.int 0)))), (h5, .inr (3, ((((f4.set 6 (.ref h4)).set 7 (.int 0)).set 8 (.int 0)).set 5 (.int 0)))), (h7, .inl (cI, 2001, .inl (upd g0 0 0))), (h8, .inl (cI, 2001, .inl (upd g1 0 0))), (h9, .inl (cB, 24800, .inl (upd (upd (upd g2 0 1) 1 0) 2 0)))] 0 0 := by
  intro sz
  refine Met.ofW (cc := cX11_read) (maxL := 5) (ret := (some .int)) (by decide) rfl ?_
  intro p e s m args below meth c s₁ B hml hv
  obtain ⟨rfl, hsz, hP, hK, hD0, hN, hX⟩ := hv
  have hx := B.exec
  have hb := B.bytes
  have hr := B.returns
  have hts := atoms_spec (ws := wsX11_read) B.pre
  have hown : s.vm.findClass RX11 = some m.cls := findClass_of_methodNamed B.named
  have hlocks := B.notSynchronized
  have hin11 : ∀ w ∈ wsX110, w ∈ wsX11_read := (fun w h => (List.mem_cons_of_mem _ (List.mem_append_left _ (List.mem_append_left _ (List.mem_append_left _ (List.mem_append_left _ (List.mem_append_left _ (List.mem_append_right _ h))))))))
  have hin1 : ∀ w ∈ wsX10, w ∈ wsX11_read := (fun w h => (List.mem_cons_of_mem _ (List.mem_append_left _ (List.mem_append_left _ (List.mem_append_left _ (List.mem_append_left _ (List.mem_append_right _ h)))))))
  have hin2 : ∀ w ∈ wsX20, w ∈ wsX11_read := (fun w h => (List.mem_cons_of_mem _ (List.mem_append_left _ (List.mem_append_left _ (List.mem_append_left _ (List.mem_append_right _ h))))))
  subst hsz
  have hD := hD0.self (sz := s.heap.size)
  have hAE := k_AE hD0 hX
  generalize hAe : va_A [(h0, .inr (11, f0)), (h1, .inr (1, f1)), (h2, .inr (2, f2)), (h3, .inr (8, f3)), (h5, .inr (3, f4)), (h7, .inl (cI, 2001, .inl g0)), (h8, .inl (cI, 2001, .inl g1)), (h9, .inl (cB, 24800, .inl g2))] s.heap.size = A at hD hAE ⊢
  have hA : ∀ q : Nat, s.heap.size ≤ q → A q := fun q h => by rw [← hAe]; exact Or.inr h
  have hS : va_S A s.heap s.heap [] := va_S.rf
  have hP : va_P D vwCl [(h0, .inr (11, f0)), (h1, .inr (1, f1)), (h2, .inr (2, f2)), (h3, .inr (8, f3)), (h5, .inr (3, f4)), (h7, .inl (cI, 2001, .inl g0)), (h8, .inl (cI, 2001, .inl g1)), (h9, .inl (cB, 24800, .inl g2))] s.heap := hP
  have hl := lv_entry ([.ref h0] : List Value) (n := 5) (Nat.le_of_ble_eq_true rfl)
  rw [lg_entry_eq]
  generalize (lg_sl ([.ref h0]) ++ List.replicate (5 - (lg_sl ([.ref h0])).length) Slot.unset).toArray = ls at hl ⊢
  have hl : lv_has ls 5 [(0, .ref h0)] := hl
  refine lv_aload_n hx hb dX11_read_0 rfl (lv_at hl 0 rfl) ?_
  refine va_get (D := D) (ref := "IntegerHouse") (ci := 11) (v := .ref h1) (C := RX11) (T := TX11) (N := 15) hx hb hts hin11 hown hK hP 0 rfl rfl 1 (by decide) (hts (.fieldLink RX11 16 "IntegerHouse" "disk" "LIntegerHouse$Disk;") (List.mem_cons_of_mem _ (List.mem_append_left _ (List.mem_append_left _ (List.mem_append_left _ (List.mem_append_left _ (List.mem_append_left _ (List.mem_append_left _ (List.mem_append_left _ (List.mem_of_getElem? (i := 0) rfl)))))))))) (fun _ h9 => h9) e0 dX11_read_1 ?_
  refine va_getN (host := "IntegerHouse") (D := D) (ref := "IntegerHouse$Disk") (ci := 1) (v := .int 0) (C := RX1) (T := TX1) (N := 9) hx hb hts hin1 hown hK hP 1 rfl rfl 8 (by decide) (va_Nw.use rfl (hN.1 ("IntegerHouse", 122, "IntegerHouse$Disk", "down", "Z", "IntegerHouse") (List.mem_of_getElem? (i := 3) rfl))) (fun _ h9 => h9) e1 dX11_read_4 ?_
  refine lv_if_eq (tgt := 13) hx hb dX11_read_7 (by decide) (fun _ => ?_) (fun c9 => absurd (by decide) c9)
  refine lv_aload_n hx hb dX11_read_13 rfl (lv_at hl 0 rfl) ?_
  refine k_cVi (As := []) (rest := []) (wc := [(h0, .inr (11, f0))]) (wr := [(h1, .inr (1, f1)), (h2, .inr (2, f2)), (h3, .inr (8, f3)), (h5, .inr (3, f4)), (h7, .inl (cI, 2001, .inl g0)), (h8, .inl (cI, 2001, .inl g1)), (h9, .inl (cB, 24800, .inl g2))]) (w1 := [(h0, .inr (11, (f0.set 12 (.int 0))))]) ⟨hx, hb, hml, hown, hts⟩ hN hX hAE hK hP hD hS hA [0] [1, 2, 3, 4, 5, 6, 7] (ci := 11) rfl rfl rfl rfl (by decide +kernel) (by decide +kernel) (by decide +kernel) (c_X11_useTape_0 l E D cI cJ cB cZ h0 f0 e2) (cwV 0 hts gX11_read_X11_useTape rfl rfl rfl (by decide +kernel) ⟨Nat.le_of_ble_eq_true rfl, Nat.le_of_ble_eq_true rfl⟩) rfl hl.1 (Nat.le_of_ble_eq_true rfl) dX11_read_14 ⟨Nat.le_of_ble_eq_true rfl, Nat.le_of_ble_eq_true rfl⟩ (fun H locs hP hD hS => ?_)
  have hP : va_P D vwCl [(h1, .inr (1, f1)), (h2, .inr (2, f2)), (h3, .inr (8, f3)), (h5, .inr (3, f4)), (h7, .inl (cI, 2001, .inl g0)), (h8, .inl (cI, 2001, .inl g1)), (h9, .inl (cB, 24800, .inl g2)), (h0, .inr (11, (f0.set 12 (.int 0))))] H := hP
  have hD : va_D A [(h1, .inr (1, f1)), (h2, .inr (2, f2)), (h3, .inr (8, f3)), (h5, .inr (3, f4)), (h7, .inl (cI, 2001, .inl g0)), (h8, .inl (cI, 2001, .inl g1)), (h9, .inl (cB, 24800, .inl g2)), (h0, .inr (11, (f0.set 12 (.int 0))))] := hD
  refine lv_istore_n (lv' := [(1, .int 0), (0, .ref h0)]) hx hb dX11_read_17 rfl hl (by decide) rfl (fun ls hl => ?_)
  refine lv_aload_n hx hb dX11_read_18 rfl (lv_at hl 1 rfl) ?_
  refine va_get (D := D) (ref := "IntegerHouse") (ci := 11) (v := .ref h2) (C := RX11) (T := TX11) (N := 15) hx hb hts hin11 hown hK hP 7 rfl rfl 2 (by decide) (hts (.fieldLink RX11 23 "IntegerHouse" "house" "LIntegerHouse$House;") (List.mem_cons_of_mem _ (List.mem_append_left _ (List.mem_append_left _ (List.mem_append_left _ (List.mem_append_left _ (List.mem_append_left _ (List.mem_append_left _ (List.mem_append_left _ (List.mem_of_getElem? (i := 1) rfl)))))))))) (fun _ h9 => h9) (k_ne (by decide) e3) dX11_read_19 ?_
  refine va_getN (host := "IntegerHouse") (D := D) (ref := "IntegerHouse$House") (ci := 2) (v := .int 0) (C := RX2) (T := TX2) (N := 16) hx hb hts hin2 hown hK hP 1 rfl rfl 10 (by decide) (va_Nw.use rfl (hN.1 ("IntegerHouse", 210, "IntegerHouse$House", "variables", "I", "IntegerHouse") (List.mem_of_getElem? (i := 10) rfl))) (fun _ h9 => h9) e4 dX11_read_22 ?_
  refine lv_istore_n (lv' := [(2, .int 0), (1, .int 0), (0, .ref h0)]) hx hb dX11_read_25 rfl hl (by decide) rfl (fun ls hl => ?_)
  refine lv_aload_n hx hb dX11_read_26 rfl (lv_at hl 2 rfl) ?_
  refine va_get (D := D) (ref := "IntegerHouse") (ci := 11) (v := .ref h2) (C := RX11) (T := TX11) (N := 15) hx hb hts hin11 hown hK hP 7 rfl rfl 2 (by decide) (hts (.fieldLink RX11 23 "IntegerHouse" "house" "LIntegerHouse$House;") (List.mem_cons_of_mem _ (List.mem_append_left _ (List.mem_append_left _ (List.mem_append_left _ (List.mem_append_left _ (List.mem_append_left _ (List.mem_append_left _ (List.mem_append_left _ (List.mem_of_getElem? (i := 1) rfl)))))))))) (fun _ h9 => h9) (k_ne (by decide) e3) dX11_read_27 ?_
  refine va_getN (host := "IntegerHouse") (D := D) (ref := "IntegerHouse$House") (ci := 2) (v := .int 0) (C := RX2) (T := TX2) (N := 16) hx hb hts hin2 hown hK hP 1 rfl rfl 11 (by decide) (va_Nw.use rfl (hN.1 ("IntegerHouse", 160, "IntegerHouse$House", "claims", "I", "IntegerHouse") (List.mem_of_getElem? (i := 13) rfl))) (fun _ h9 => h9) e5 dX11_read_30 ?_
  refine lv_istore_n (lv' := [(3, .int 0), (2, .int 0), (1, .int 0), (0, .ref h0)]) hx hb dX11_read_33 rfl hl (by decide) rfl (fun ls hl => ?_)
  refine lv_aload_n hx hb dX11_read_34 rfl (lv_at hl 3 rfl) ?_
  refine va_get (D := D) (ref := "IntegerHouse") (ci := 11) (v := .ref h2) (C := RX11) (T := TX11) (N := 15) hx hb hts hin11 hown hK hP 7 rfl rfl 2 (by decide) (hts (.fieldLink RX11 23 "IntegerHouse" "house" "LIntegerHouse$House;") (List.mem_cons_of_mem _ (List.mem_append_left _ (List.mem_append_left _ (List.mem_append_left _ (List.mem_append_left _ (List.mem_append_left _ (List.mem_append_left _ (List.mem_append_left _ (List.mem_of_getElem? (i := 1) rfl)))))))))) (fun _ h9 => h9) (k_ne (by decide) e3) dX11_read_35 ?_
  refine va_getN (host := "IntegerHouse") (D := D) (ref := "IntegerHouse$House") (ci := 2) (v := .int 0) (C := RX2) (T := TX2) (N := 16) hx hb hts hin2 hown hK hP 1 rfl rfl 12 (by decide) (va_Nw.use rfl (hN.1 ("IntegerHouse", 233, "IntegerHouse$House", "poolSize", "I", "IntegerHouse") (List.mem_of_getElem? (i := 16) rfl))) (fun _ h9 => h9) e6 dX11_read_38 ?_
  refine lv_istore (lv' := [(4, .int 0), (3, .int 0), (2, .int 0), (1, .int 0), (0, .ref h0)]) hx hb dX11_read_41 hl (by decide) rfl (fun ls hl => ?_)
  refine lv_aload_n hx hb dX11_read_43 rfl (lv_at hl 4 rfl) ?_
  refine va_get (D := D) (ref := "IntegerHouse") (ci := 11) (v := .ref h3) (C := RX11) (T := TX11) (N := 15) hx hb hts hin11 hown hK hP 7 rfl rfl 5 (by decide) (hts (.fieldLink RX11 48 "IntegerHouse" "reader" "LIntegerHouse$Reader;") (List.mem_cons_of_mem _ (List.mem_append_left _ (List.mem_append_left _ (List.mem_append_left _ (List.mem_append_left _ (List.mem_append_left _ (List.mem_append_left _ (List.mem_append_left _ (List.mem_of_getElem? (i := 2) rfl)))))))))) (fun _ h9 => h9) (k_ne (by decide) e7) dX11_read_44 ?_
  refine lv_aload_n hx hb dX11_read_47 rfl (lv_at hl 4 rfl) ?_
  refine va_get (D := D) (ref := "IntegerHouse") (ci := 11) (v := .ref h4) (C := RX11) (T := TX11) (N := 15) hx hb hts hin11 hown hK hP 7 rfl rfl 0 (by decide) (hts (.fieldLink RX11 9 "IntegerHouse" "tape" "[B") (List.mem_cons_of_mem _ (List.mem_append_left _ (List.mem_append_left _ (List.mem_append_left _ (List.mem_append_left _ (List.mem_append_left _ (List.mem_append_left _ (List.mem_append_left _ (List.mem_of_getElem? (i := 3) rfl)))))))))) (fun _ h9 => h9) (k_ne (by decide) e8) dX11_read_48 ?_
  refine lv_iconst (v := 0) hx hb dX11_read_51 (by decide) ?_
  refine lv_iload_n hx hb dX11_read_52 rfl (lv_at hl 3 rfl) ?_
  refine k_cVi (As := [.ref h4, .int 0, .int 0]) (rest := []) (wc := [(h3, .inr (8, f3)), (h5, .inr (3, f4)), (h7, .inl (cI, 2001, .inl g0)), (h8, .inl (cI, 2001, .inl g1)), (h2, .inr (2, f2))]) (wr := [(h1, .inr (1, f1)), (h9, .inl (cB, 24800, .inl g2)), (h0, .inr (11, (f0.set 12 (.int 0))))]) (w1 := [(h3, .inr (8, (((((((f3.set 3 (.int 0)).set 4 (.int 0)).set 5 (.int 0)).set 6 (.int (-1))).set 6 (.int 0)).set 7 (.int 0)).set 8 (.int 0)))), (h5, .inr (3, ((((f4.set 6 (.ref h4)).set 7 (.int 0)).set 8 (.int 0)).set 5 (.int 0)))), (h7, .inl (cI, 2001, .inl (upd g0 0 0))), (h8, .inl (cI, 2001, .inl (upd g1 0 0))), (h2, .inr (2, f2))]) ⟨hx, hb, hml, hown, hts⟩ hN hX hAE hK hP hD hS hA [2, 3, 4, 5, 1] [0, 6, 7] (ci := 8) rfl rfl rfl rfl (by decide +kernel) (by decide +kernel) (by decide +kernel) (c_X8_readText_0 l E D cI cJ cB cZ h3 h4 f3 h5 f4 h6 h7 h8 g0 g1 h2 f2 e9 e10 e11 e12 e13 e14 e15 e16 e17 e18 e19 e20 e21 e22 e4 e5 e6) (cwV 3 hts gX11_read_X8_readText rfl rfl rfl (by decide +kernel) ⟨Nat.le_of_ble_eq_true rfl, Nat.le_of_ble_eq_true rfl⟩) rfl hl.1 (Nat.le_of_ble_eq_true rfl) dX11_read_53 ⟨Nat.le_of_ble_eq_true rfl, Nat.le_of_ble_eq_true rfl⟩ (fun H locs hP hD hS => ?_)
  have hP : va_P D vwCl [(h1, .inr (1, f1)), (h9, .inl (cB, 24800, .inl g2)), (h0, .inr (11, (f0.set 12 (.int 0)))), (h3, .inr (8, (((((((f3.set 3 (.int 0)).set 4 (.int 0)).set 5 (.int 0)).set 6 (.int (-1))).set 6 (.int 0)).set 7 (.int 0)).set 8 (.int 0)))), (h5, .inr (3, ((((f4.set 6 (.ref h4)).set 7 (.int 0)).set 8 (.int 0)).set 5 (.int 0)))), (h7, .inl (cI, 2001, .inl (upd g0 0 0))), (h8, .inl (cI, 2001, .inl (upd g1 0 0))), (h2, .inr (2, f2))] H := hP
  have hD : va_D A [(h1, .inr (1, f1)), (h9, .inl (cB, 24800, .inl g2)), (h0, .inr (11, (f0.set 12 (.int 0)))), (h3, .inr (8, (((((((f3.set 3 (.int 0)).set 4 (.int 0)).set 5 (.int 0)).set 6 (.int (-1))).set 6 (.int 0)).set 7 (.int 0)).set 8 (.int 0)))), (h5, .inr (3, ((((f4.set 6 (.ref h4)).set 7 (.int 0)).set 8 (.int 0)).set 5 (.int 0)))), (h7, .inl (cI, 2001, .inl (upd g0 0 0))), (h8, .inl (cI, 2001, .inl (upd g1 0 0))), (h2, .inr (2, f2))] := hD
  refine lv_if_ne (tgt := 64) hx hb dX11_read_56 (by decide) (fun _ => ?_) (fun c9 => absurd c9 (by decide))
  refine lv_aload_n hx hb dX11_read_64 rfl (lv_at hl 4 rfl) ?_
  refine va_get (D := D) (ref := "IntegerHouse") (ci := 11) (v := .ref h1) (C := RX11) (T := TX11) (N := 15) hx hb hts hin11 hown hK hP 2 rfl rfl 1 (by decide) (hts (.fieldLink RX11 16 "IntegerHouse" "disk" "LIntegerHouse$Disk;") (List.mem_cons_of_mem _ (List.mem_append_left _ (List.mem_append_left _ (List.mem_append_left _ (List.mem_append_left _ (List.mem_append_left _ (List.mem_append_left _ (List.mem_append_left _ (List.mem_of_getElem? (i := 0) rfl)))))))))) (fun _ h9 => h9) (k_ne (by decide) e0) dX11_read_65 ?_
  refine lv_iconst (v := 3) hx hb dX11_read_68 (by decide) ?_
  refine lv_iload_n hx hb dX11_read_69 rfl (lv_at hl 3 rfl) ?_
  refine lv_iadd hx hb dX11_read_70 ?_
  refine k_topi (y := 3) (by decide) ?_
  refine k_cVi (As := [.int 3]) (rest := []) (wc := [(h1, .inr (1, f1))]) (wr := [(h9, .inl (cB, 24800, .inl g2)), (h0, .inr (11, (f0.set 12 (.int 0)))), (h3, .inr (8, (((((((f3.set 3 (.int 0)).set 4 (.int 0)).set 5 (.int 0)).set 6 (.int (-1))).set 6 (.int 0)).set 7 (.int 0)).set 8 (.int 0)))), (h5, .inr (3, ((((f4.set 6 (.ref h4)).set 7 (.int 0)).set 8 (.int 0)).set 5 (.int 0)))), (h7, .inl (cI, 2001, .inl (upd g0 0 0))), (h8, .inl (cI, 2001, .inl (upd g1 0 0))), (h2, .inr (2, f2))]) (w1 := [(h1, .inr (1, f1))]) ⟨hx, hb, hml, hown, hts⟩ hN hX hAE hK hP hD hS hA [0] [1, 2, 3, 4, 5, 6, 7] (ci := 1) rfl rfl rfl rfl (by decide +kernel) (by decide +kernel) (by decide +kernel) (c_X1_hasRoom_0 l E D cI cJ cB cZ h1 f1 e23 e24) (cwV 1 hts gX11_read_X1_hasRoom rfl rfl rfl (by decide +kernel) ⟨Nat.le_of_ble_eq_true rfl, Nat.le_of_ble_eq_true rfl⟩) rfl hl.1 (Nat.le_of_ble_eq_true rfl) dX11_read_71 ⟨Nat.le_of_ble_eq_true rfl, Nat.le_of_ble_eq_true rfl⟩ (fun H locs hP hD hS => ?_)
  have hP : va_P D vwCl [(h9, .inl (cB, 24800, .inl g2)), (h0, .inr (11, (f0.set 12 (.int 0)))), (h3, .inr (8, (((((((f3.set 3 (.int 0)).set 4 (.int 0)).set 5 (.int 0)).set 6 (.int (-1))).set 6 (.int 0)).set 7 (.int 0)).set 8 (.int 0)))), (h5, .inr (3, ((((f4.set 6 (.ref h4)).set 7 (.int 0)).set 8 (.int 0)).set 5 (.int 0)))), (h7, .inl (cI, 2001, .inl (upd g0 0 0))), (h8, .inl (cI, 2001, .inl (upd g1 0 0))), (h2, .inr (2, f2)), (h1, .inr (1, f1))] H := hP
  have hD : va_D A [(h9, .inl (cB, 24800, .inl g2)), (h0, .inr (11, (f0.set 12 (.int 0)))), (h3, .inr (8, (((((((f3.set 3 (.int 0)).set 4 (.int 0)).set 5 (.int 0)).set 6 (.int (-1))).set 6 (.int 0)).set 7 (.int 0)).set 8 (.int 0)))), (h5, .inr (3, ((((f4.set 6 (.ref h4)).set 7 (.int 0)).set 8 (.int 0)).set 5 (.int 0)))), (h7, .inl (cI, 2001, .inl (upd g0 0 0))), (h8, .inl (cI, 2001, .inl (upd g1 0 0))), (h2, .inr (2, f2)), (h1, .inr (1, f1))] := hD
  refine lv_if_ne (tgt := 91) hx hb dX11_read_74 (by decide) (fun _ => ?_) (fun c9 => absurd c9 (by decide))
  refine lv_aload_n hx hb dX11_read_91 rfl (lv_at hl 4 rfl) ?_
  refine va_get (D := D) (ref := "IntegerHouse") (ci := 11) (v := .ref h2) (C := RX11) (T := TX11) (N := 15) hx hb hts hin11 hown hK hP 1 rfl rfl 2 (by decide) (hts (.fieldLink RX11 23 "IntegerHouse" "house" "LIntegerHouse$House;") (List.mem_cons_of_mem _ (List.mem_append_left _ (List.mem_append_left _ (List.mem_append_left _ (List.mem_append_left _ (List.mem_append_left _ (List.mem_append_left _ (List.mem_append_left _ (List.mem_of_getElem? (i := 1) rfl)))))))))) (fun _ h9 => h9) (k_ne (by decide) e3) dX11_read_92 ?_
  refine lv_iload_n hx hb dX11_read_95 rfl (lv_at hl 1 rfl) ?_
  refine k_cVv (As := [.int 0]) (rest := []) (wc := [(h2, .inr (2, f2))]) (wr := [(h9, .inl (cB, 24800, .inl g2)), (h0, .inr (11, (f0.set 12 (.int 0)))), (h3, .inr (8, (((((((f3.set 3 (.int 0)).set 4 (.int 0)).set 5 (.int 0)).set 6 (.int (-1))).set 6 (.int 0)).set 7 (.int 0)).set 8 (.int 0)))), (h5, .inr (3, ((((f4.set 6 (.ref h4)).set 7 (.int 0)).set 8 (.int 0)).set 5 (.int 0)))), (h7, .inl (cI, 2001, .inl (upd g0 0 0))), (h8, .inl (cI, 2001, .inl (upd g1 0 0))), (h1, .inr (1, f1))]) (w1 := (fun _ : Unit => [(h2, .inr (2, (f2.set 13 (.int 0))))])) ⟨hx, hb, hml, hown, hts⟩ hN hX hAE hK hP hD hS hA [6] [0, 1, 2, 3, 4, 5, 7] (ci := 2) rfl rfl rfl rfl (by decide +kernel) (by decide +kernel) (by decide +kernel) (c_X2_turnOnFrom_0 l E D cI cJ cB cZ h2 f2 e25 e5) (cwV 1 hts gX11_read_X2_turnOnFrom rfl rfl rfl (by decide +kernel) ⟨Nat.le_of_ble_eq_true rfl, Nat.le_of_ble_eq_true rfl⟩) rfl hl.1 (Nat.le_of_ble_eq_true rfl) dX11_read_96 ⟨Nat.le_of_ble_eq_true rfl, Nat.le_of_ble_eq_true rfl⟩ (fun _ H locs hP hD hS => ?_)
  have hP : va_P D vwCl [(h9, .inl (cB, 24800, .inl g2)), (h0, .inr (11, (f0.set 12 (.int 0)))), (h3, .inr (8, (((((((f3.set 3 (.int 0)).set 4 (.int 0)).set 5 (.int 0)).set 6 (.int (-1))).set 6 (.int 0)).set 7 (.int 0)).set 8 (.int 0)))), (h5, .inr (3, ((((f4.set 6 (.ref h4)).set 7 (.int 0)).set 8 (.int 0)).set 5 (.int 0)))), (h7, .inl (cI, 2001, .inl (upd g0 0 0))), (h8, .inl (cI, 2001, .inl (upd g1 0 0))), (h1, .inr (1, f1)), (h2, .inr (2, (f2.set 13 (.int 0))))] H := hP
  have hD : va_D A [(h9, .inl (cB, 24800, .inl g2)), (h0, .inr (11, (f0.set 12 (.int 0)))), (h3, .inr (8, (((((((f3.set 3 (.int 0)).set 4 (.int 0)).set 5 (.int 0)).set 6 (.int (-1))).set 6 (.int 0)).set 7 (.int 0)).set 8 (.int 0)))), (h5, .inr (3, ((((f4.set 6 (.ref h4)).set 7 (.int 0)).set 8 (.int 0)).set 5 (.int 0)))), (h7, .inl (cI, 2001, .inl (upd g0 0 0))), (h8, .inl (cI, 2001, .inl (upd g1 0 0))), (h1, .inr (1, f1)), (h2, .inr (2, (f2.set 13 (.int 0))))] := hD
  refine lv_aload_n hx hb dX11_read_99 rfl (lv_at hl 4 rfl) ?_
  refine va_get (D := D) (ref := "IntegerHouse") (ci := 11) (v := .ref h1) (C := RX11) (T := TX11) (N := 15) hx hb hts hin11 hown hK hP 1 rfl rfl 1 (by decide) (hts (.fieldLink RX11 16 "IntegerHouse" "disk" "LIntegerHouse$Disk;") (List.mem_cons_of_mem _ (List.mem_append_left _ (List.mem_append_left _ (List.mem_append_left _ (List.mem_append_left _ (List.mem_append_left _ (List.mem_append_left _ (List.mem_append_left _ (List.mem_of_getElem? (i := 0) rfl)))))))))) (fun _ h9 => h9) (k_ne (by decide) e0) dX11_read_100 ?_
  refine lv_aload_n hx hb dX11_read_103 rfl (lv_at hl 4 rfl) ?_
  refine va_get (D := D) (ref := "IntegerHouse") (ci := 11) (v := .ref h4) (C := RX11) (T := TX11) (N := 15) hx hb hts hin11 hown hK hP 1 rfl rfl 0 (by decide) (hts (.fieldLink RX11 9 "IntegerHouse" "tape" "[B") (List.mem_cons_of_mem _ (List.mem_append_left _ (List.mem_append_left _ (List.mem_append_left _ (List.mem_append_left _ (List.mem_append_left _ (List.mem_append_left _ (List.mem_append_left _ (List.mem_of_getElem? (i := 3) rfl)))))))))) (fun _ h9 => h9) (k_ne (by decide) e8) dX11_read_104 ?_
  refine lv_iload_n hx hb dX11_read_107 rfl (lv_at hl 3 rfl) ?_
  refine k_cVv (As := [.ref h4, .int 0]) (rest := []) (wc := [(h1, .inr (1, f1)), (h9, .inl (cB, 24800, .inl g2))]) (wr := [(h0, .inr (11, (f0.set 12 (.int 0)))), (h3, .inr (8, (((((((f3.set 3 (.int 0)).set 4 (.int 0)).set 5 (.int 0)).set 6 (.int (-1))).set 6 (.int 0)).set 7 (.int 0)).set 8 (.int 0)))), (h5, .inr (3, ((((f4.set 6 (.ref h4)).set 7 (.int 0)).set 8 (.int 0)).set 5 (.int 0)))), (h7, .inl (cI, 2001, .inl (upd g0 0 0))), (h8, .inl (cI, 2001, .inl (upd g1 0 0))), (h2, .inr (2, (f2.set 13 (.int 0))))]) (w1 := (fun _ : Unit => [(h1, .inr (1, (((f1.set 4 (.int 1)).set 4 (.int 2)).set 4 (.int 3)))), (h9, .inl (cB, 24800, .inl (upd (upd (upd g2 0 1) 1 0) 2 0)))])) ⟨hx, hb, hml, hown, hts⟩ hN hX hAE hK hP hD hS hA [6, 0] [1, 2, 3, 4, 5, 7] (ci := 1) rfl rfl rfl rfl (by decide +kernel) (by decide +kernel) (by decide +kernel) (c_X1_recordRead_0 l E D cI cJ cB cZ h1 h4 f1 h9 g2 e23 e26) (cwV 2 hts gX11_read_X1_recordRead rfl rfl rfl (by decide +kernel) ⟨Nat.le_of_ble_eq_true rfl, Nat.le_of_ble_eq_true rfl⟩) rfl hl.1 (Nat.le_of_ble_eq_true rfl) dX11_read_108 ⟨Nat.le_of_ble_eq_true rfl, Nat.le_of_ble_eq_true rfl⟩ (fun _ H locs hP hD hS => ?_)
  have hP : va_P D vwCl [(h0, .inr (11, (f0.set 12 (.int 0)))), (h3, .inr (8, (((((((f3.set 3 (.int 0)).set 4 (.int 0)).set 5 (.int 0)).set 6 (.int (-1))).set 6 (.int 0)).set 7 (.int 0)).set 8 (.int 0)))), (h5, .inr (3, ((((f4.set 6 (.ref h4)).set 7 (.int 0)).set 8 (.int 0)).set 5 (.int 0)))), (h7, .inl (cI, 2001, .inl (upd g0 0 0))), (h8, .inl (cI, 2001, .inl (upd g1 0 0))), (h2, .inr (2, (f2.set 13 (.int 0)))), (h1, .inr (1, (((f1.set 4 (.int 1)).set 4 (.int 2)).set 4 (.int 3)))), (h9, .inl (cB, 24800, .inl (upd (upd (upd g2 0 1) 1 0) 2 0)))] H := hP
  have hD : va_D A [(h0, .inr (11, (f0.set 12 (.int 0)))), (h3, .inr (8, (((((((f3.set 3 (.int 0)).set 4 (.int 0)).set 5 (.int 0)).set 6 (.int (-1))).set 6 (.int 0)).set 7 (.int 0)).set 8 (.int 0)))), (h5, .inr (3, ((((f4.set 6 (.ref h4)).set 7 (.int 0)).set 8 (.int 0)).set 5 (.int 0)))), (h7, .inl (cI, 2001, .inl (upd g0 0 0))), (h8, .inl (cI, 2001, .inl (upd g1 0 0))), (h2, .inr (2, (f2.set 13 (.int 0)))), (h1, .inr (1, (((f1.set 4 (.int 1)).set 4 (.int 2)).set 4 (.int 3)))), (h9, .inl (cB, 24800, .inl (upd (upd (upd g2 0 1) 1 0) 2 0)))] := hD
  refine lv_aload_n hx hb dX11_read_111 rfl (lv_at hl 4 rfl) ?_
  refine lv_dup hx hb dX11_read_112 rfl ?_
  refine va_get (D := D) (ref := "IntegerHouse") (ci := 11) (v := .int 0) (C := RX11) (T := TX11) (N := 15) hx hb hts hin11 hown hK hP 0 rfl rfl 14 (by decide) (hts (.fieldLink RX11 137 "IntegerHouse" "acts" "I") (List.mem_cons_of_mem _ (List.mem_append_left _ (List.mem_append_left _ (List.mem_append_left _ (List.mem_append_left _ (List.mem_append_left _ (List.mem_append_left _ (List.mem_append_left _ (List.mem_of_getElem? (i := 4) rfl)))))))))) (fun _ h9 => h9) (k_ne (by decide) e27) dX11_read_113 ?_
  refine lv_iconst (v := 1) hx hb dX11_read_116 (by decide) ?_
  refine lv_iadd hx hb dX11_read_117 ?_
  refine k_topi (y := 1) (by decide) ?_
  refine va_put (D := D) (ref := "IntegerHouse") (ci := 11) (v := .int 1) (ty := .int) (C := RX11) (T := TX11) (N := 15) hx hb hts hin11 tyX11 tyX11_ok nmX11 hown hK hP hD hS 0 rfl rfl 14 (by decide) (hts (.fieldLink RX11 137 "IntegerHouse" "acts" "I") (List.mem_cons_of_mem _ (List.mem_append_left _ (List.mem_append_left _ (List.mem_append_left _ (List.mem_append_left _ (List.mem_append_left _ (List.mem_append_left _ (List.mem_append_left _ (List.mem_of_getElem? (i := 4) rfl)))))))))) (fun _ h9 => h9) rfl (by decide +kernel) rfl rfl (k_len (k_ne (by decide) e27)) dX11_read_118 (fun H locs hP hD hS => ?_)
  have hP : va_P D vwCl [(h0, .inr (11, ((f0.set 12 (.int 0)).set 14 (.int 1)))), (h3, .inr (8, (((((((f3.set 3 (.int 0)).set 4 (.int 0)).set 5 (.int 0)).set 6 (.int (-1))).set 6 (.int 0)).set 7 (.int 0)).set 8 (.int 0)))), (h5, .inr (3, ((((f4.set 6 (.ref h4)).set 7 (.int 0)).set 8 (.int 0)).set 5 (.int 0)))), (h7, .inl (cI, 2001, .inl (upd g0 0 0))), (h8, .inl (cI, 2001, .inl (upd g1 0 0))), (h2, .inr (2, (f2.set 13 (.int 0)))), (h1, .inr (1, (((f1.set 4 (.int 1)).set 4 (.int 2)).set 4 (.int 3)))), (h9, .inl (cB, 24800, .inl (upd (upd (upd g2 0 1) 1 0) 2 0)))] H := hP
  have hD : va_D A [(h0, .inr (11, ((f0.set 12 (.int 0)).set 14 (.int 1)))), (h3, .inr (8, (((((((f3.set 3 (.int 0)).set 4 (.int 0)).set 5 (.int 0)).set 6 (.int (-1))).set 6 (.int 0)).set 7 (.int 0)).set 8 (.int 0)))), (h5, .inr (3, ((((f4.set 6 (.ref h4)).set 7 (.int 0)).set 8 (.int 0)).set 5 (.int 0)))), (h7, .inl (cI, 2001, .inl (upd g0 0 0))), (h8, .inl (cI, 2001, .inl (upd g1 0 0))), (h2, .inr (2, (f2.set 13 (.int 0)))), (h1, .inr (1, (((f1.set 4 (.int 1)).set 4 (.int 2)).set 4 (.int 3)))), (h9, .inl (cB, 24800, .inl (upd (upd (upd g2 0 1) 1 0) 2 0)))] := hD
  refine lv_aload_n hx hb dX11_read_121 rfl (lv_at hl 4 rfl) ?_
  refine va_get (D := D) (ref := "IntegerHouse") (ci := 11) (v := .ref h2) (C := RX11) (T := TX11) (N := 15) hx hb hts hin11 hown hK hP 0 rfl rfl 2 (by decide) (hts (.fieldLink RX11 23 "IntegerHouse" "house" "LIntegerHouse$House;") (List.mem_cons_of_mem _ (List.mem_append_left _ (List.mem_append_left _ (List.mem_append_left _ (List.mem_append_left _ (List.mem_append_left _ (List.mem_append_left _ (List.mem_append_left _ (List.mem_of_getElem? (i := 1) rfl)))))))))) (fun _ h9 => h9) (k_ne (by decide) (k_ne (by decide) e3)) dX11_read_122 ?_
  refine va_getN (host := "IntegerHouse") (D := D) (ref := "IntegerHouse$House") (ci := 2) (v := .int 0) (C := RX2) (T := TX2) (N := 16) hx hb hts hin2 hown hK hP 5 rfl rfl 11 (by decide) (va_Nw.use rfl (hN.1 ("IntegerHouse", 160, "IntegerHouse$House", "claims", "I", "IntegerHouse") (List.mem_of_getElem? (i := 13) rfl))) (fun _ h9 => h9) (k_ne (by decide) e5) dX11_read_125 ?_
  refine lv_iload_n hx hb dX11_read_128 rfl (lv_at hl 1 rfl) ?_
  refine lv_isub hx hb dX11_read_129 ?_
  refine k_topi (y := 0) (by decide) ?_
  have hP := hP.sub (ws' := [(h0, .inr (11, ((f0.set 12 (.int 0)).set 14 (.int 1)))), (h1, .inr (1, (((f1.set 4 (.int 1)).set 4 (.int 2)).set 4 (.int 3)))), (h2, .inr (2, (f2.set 13 (.int 0)))), (h3, .inr (8, (((((((f3.set 3 (.int 0)).set 4 (.int 0)).set 5 (.int 0)).set 6 (.int (-1))).set 6 (.int 0)).set 7 (.int 0)).set 8 (.int 0)))), (h5, .inr (3, ((((f4.set 6 (.ref h4)).set 7 (.int 0)).set 8 (.int 0)).set 5 (.int 0)))), (h7, .inl (cI, 2001, .inl (upd g0 0 0))), (h8, .inl (cI, 2001, .inl (upd g1 0 0))), (h9, .inl (cB, 24800, .inl (upd (upd (upd g2 0 1) 1 0) 2 0)))]) [0, 6, 5, 1, 2, 3, 4, 7] rfl
  have hD := hD.sub (ws' := [(h0, .inr (11, ((f0.set 12 (.int 0)).set 14 (.int 1)))), (h1, .inr (1, (((f1.set 4 (.int 1)).set 4 (.int 2)).set 4 (.int 3)))), (h2, .inr (2, (f2.set 13 (.int 0)))), (h3, .inr (8, (((((((f3.set 3 (.int 0)).set 4 (.int 0)).set 5 (.int 0)).set 6 (.int (-1))).set 6 (.int 0)).set 7 (.int 0)).set 8 (.int 0)))), (h5, .inr (3, ((((f4.set 6 (.ref h4)).set 7 (.int 0)).set 8 (.int 0)).set 5 (.int 0)))), (h7, .inl (cI, 2001, .inl (upd g0 0 0))), (h8, .inl (cI, 2001, .inl (upd g1 0 0))), (h9, .inl (cB, 24800, .inl (upd (upd (upd g2 0 1) 1 0) 2 0)))]) [0, 6, 5, 1, 2, 3, 4, 7] (by decide +kernel) rfl
  exact W.iret (v := 0) hx hb hr (fun t ht hW => ⟨⟨0, (), rfl, rfl, kB_mk ht hW hP hK hD⟩, hS.F ht⟩) hS.2.2 dX11_read_130
set_option maxHeartbeats 400000000 in
set_option maxRecDepth 100000 in
theorem c_X12_takeTape_0 (l : Launch) (E : kE) (D : va_G) (cI cJ cB cZ : ClassId) (h0 : Nat) (f0 : List Value) (e0 : f0[2]? = some (.int 0)) (e1 : f0[12]? = some (.int 0)) : kV l E D (kT cI cJ cB cZ) yX12_takeTape wsX12_takeTape ({ frames := 0, cells := 0, slots := 0, locals := 0 }) [.ref h0] [(h0, .inr (12, f0))] (fun _ : Unit => [(h0, .inr (12, ((f0.set 12 (.int 0)).set 2 (.int 0))))]) 0 0 := by
  intro sz
  refine Met.ofW (cc := cX12_takeTape) (maxL := 2) (ret := none) (by decide) rfl ?_
  intro p e s m args below meth c s₁ B hml hv
  obtain ⟨rfl, hsz, hP, hK, hD0, hN, hX⟩ := hv
  have hx := B.exec
  have hb := B.bytes
  have hr := B.returns
  have hts := atoms_spec (ws := wsX12_takeTape) B.pre
  have hown : s.vm.findClass RX12 = some m.cls := findClass_of_methodNamed B.named
  have hlocks := B.notSynchronized
  have hin12 : ∀ w ∈ wsX120, w ∈ wsX12_takeTape := (fun w h => (List.mem_cons_of_mem _ (List.mem_append_right _ h)))
  subst hsz
  have hD := hD0.self (sz := s.heap.size)
  have hAE := k_AE hD0 hX
  generalize hAe : va_A [(h0, .inr (12, f0))] s.heap.size = A at hD hAE ⊢
  have hA : ∀ q : Nat, s.heap.size ≤ q → A q := fun q h => by rw [← hAe]; exact Or.inr h
  have hS : va_S A s.heap s.heap [] := va_S.rf
  have hP : va_P D vwCl [(h0, .inr (12, f0))] s.heap := hP
  have hl := lv_entry ([.ref h0] : List Value) (n := 2) (Nat.le_of_ble_eq_true rfl)
  rw [lg_entry_eq]
  generalize (lg_sl ([.ref h0]) ++ List.replicate (2 - (lg_sl ([.ref h0])).length) Slot.unset).toArray = ls at hl ⊢
  have hl : lv_has ls 2 [(0, .ref h0)] := hl
  refine lv_aload_n hx hb dX12_takeTape_0 rfl (lv_at hl 0 rfl) ?_
  refine lv_aload_n hx hb dX12_takeTape_1 rfl (lv_at hl 0 rfl) ?_
  refine va_get (D := D) (ref := "IntegerHouseModel") (ci := 12) (v := .int 0) (C := RX12) (T := TX12) (N := 195) hx hb hts hin12 hown hK hP 0 rfl rfl 2 (by decide) (hts (.fieldLink RX12 485 "IntegerHouseModel" "taped" "I") (List.mem_cons_of_mem _ (List.mem_append_left _ (List.mem_of_getElem? (i := 0) rfl)))) (fun _ h9 => h9) e0 dX12_takeTape_2 ?_
  refine va_put (D := D) (ref := "IntegerHouseModel") (ci := 12) (v := .int 0) (ty := .int) (C := RX12) (T := TX12) (N := 195) hx hb hts hin12 tyX12 tyX12_ok nmX12 hown hK hP hD hS 0 rfl rfl 12 (by decide) (hts (.fieldLink RX12 469 "IntegerHouseModel" "docSize" "I") (List.mem_cons_of_mem _ (List.mem_append_left _ (List.mem_of_getElem? (i := 1) rfl)))) (fun _ h9 => h9) rfl (by decide +kernel) rfl rfl (k_len e1) dX12_takeTape_5 (fun H locs hP hD hS => ?_)
  have hP : va_P D vwCl [(h0, .inr (12, (f0.set 12 (.int 0))))] H := hP
  have hD : va_D A [(h0, .inr (12, (f0.set 12 (.int 0))))] := hD
  refine lv_aload_n hx hb dX12_takeTape_8 rfl (lv_at hl 0 rfl) ?_
  refine lv_iconst (v := 0) hx hb dX12_takeTape_9 (by decide) ?_
  refine va_put (D := D) (ref := "IntegerHouseModel") (ci := 12) (v := .int 0) (ty := .int) (C := RX12) (T := TX12) (N := 195) hx hb hts hin12 tyX12 tyX12_ok nmX12 hown hK hP hD hS 0 rfl rfl 2 (by decide) (hts (.fieldLink RX12 485 "IntegerHouseModel" "taped" "I") (List.mem_cons_of_mem _ (List.mem_append_left _ (List.mem_of_getElem? (i := 0) rfl)))) (fun _ h9 => h9) rfl (by decide +kernel) rfl rfl (k_len (k_ne (by decide) e0)) dX12_takeTape_10 (fun H locs hP hD hS => ?_)
  have hP : va_P D vwCl [(h0, .inr (12, ((f0.set 12 (.int 0)).set 2 (.int 0))))] H := hP
  have hD : va_D A [(h0, .inr (12, ((f0.set 12 (.int 0)).set 2 (.int 0))))] := hD
  refine lv_iconst (v := 0) hx hb dX12_takeTape_13 (by decide) ?_
  refine lv_istore_n (lv' := [(1, .int 0), (0, .ref h0)]) hx hb dX12_takeTape_14 rfl hl (by decide) rfl (fun ls hl => ?_)
  refine lv_iload_n hx hb dX12_takeTape_15 rfl (lv_at hl 0 rfl) ?_
  refine lv_aload_n hx hb dX12_takeTape_16 rfl (lv_at hl 1 rfl) ?_
  refine va_get (D := D) (ref := "IntegerHouseModel") (ci := 12) (v := .int 0) (C := RX12) (T := TX12) (N := 195) hx hb hts hin12 hown hK hP 0 rfl rfl 12 (by decide) (hts (.fieldLink RX12 469 "IntegerHouseModel" "docSize" "I") (List.mem_cons_of_mem _ (List.mem_append_left _ (List.mem_of_getElem? (i := 1) rfl)))) (fun _ h9 => h9) (k_ne (by decide) (k_set e1)) dX12_takeTape_17 ?_
  refine lv_icmp_ge (tgt := 41) hx hb dX12_takeTape_20 (by decide) (fun _ => ?_) (fun c9 => absurd (by decide) c9)
  exact W.vret hx hb hr (fun t ht hW => ⟨⟨(), rfl, trivial, kB_mk ht hW hP hK hD⟩, hS.F ht⟩) hS.2.2 dX12_takeTape_41
set_option maxHeartbeats 400000000 in
set_option maxRecDepth 100000 in
theorem c_X12_char1_0 (l : Launch) (E : kE) (D : va_G) (cI cJ cB cZ : ClassId) (h0 : Nat) (f0 : List Value) (e0 : f0[12]? = some (.int 0)) : kI l E D (kT cI cJ cB cZ) yX12_char1 wsX12_char1 ({ frames := 0, cells := 0, slots := 0, locals := 0 }) [.ref h0, .int 0] [(h0, .inr (12, f0))] (0) [(h0, .inr (12, f0))] 0 0 := by
  intro sz
  refine Met.ofW (cc := cX12_char1) (maxL := 2) (ret := (some .int)) (by decide) rfl ?_
  intro p e s m args below meth c s₁ B hml hv
  obtain ⟨rfl, hsz, hP, hK, hD0, hN, hX⟩ := hv
  have hx := B.exec
  have hb := B.bytes
  have hr := B.returns
  have hts := atoms_spec (ws := wsX12_char1) B.pre
  have hown : s.vm.findClass RX12 = some m.cls := findClass_of_methodNamed B.named
  have hlocks := B.notSynchronized
  have hin12 : ∀ w ∈ wsX120, w ∈ wsX12_char1 := (fun w h => (List.mem_cons_of_mem _ (List.mem_append_right _ h)))
  subst hsz
  have hD := hD0.self (sz := s.heap.size)
  have hAE := k_AE hD0 hX
  generalize hAe : va_A [(h0, .inr (12, f0))] s.heap.size = A at hD hAE ⊢
  have hA : ∀ q : Nat, s.heap.size ≤ q → A q := fun q h => by rw [← hAe]; exact Or.inr h
  have hS : va_S A s.heap s.heap [] := va_S.rf
  have hP : va_P D vwCl [(h0, .inr (12, f0))] s.heap := hP
  have hl := lv_entry ([.ref h0, .int 0] : List Value) (n := 2) (Nat.le_of_ble_eq_true rfl)
  rw [lg_entry_eq]
  generalize (lg_sl ([.ref h0, .int 0]) ++ List.replicate (2 - (lg_sl ([.ref h0, .int 0])).length) Slot.unset).toArray = ls at hl ⊢
  have hl : lv_has ls 2 [(0, .ref h0), (1, .int 0)] := hl
  refine lv_iload_n hx hb dX12_char1_0 rfl (lv_at hl 1 rfl) ?_
  refine lv_aload_n hx hb dX12_char1_1 rfl (lv_at hl 0 rfl) ?_
  refine va_get (D := D) (ref := "IntegerHouseModel") (ci := 12) (v := .int 0) (C := RX12) (T := TX12) (N := 195) hx hb hts hin12 hown hK hP 0 rfl rfl 12 (by decide) (hts (.fieldLink RX12 469 "IntegerHouseModel" "docSize" "I") (List.mem_cons_of_mem _ (List.mem_append_left _ (List.mem_of_getElem? (i := 0) rfl)))) (fun _ h9 => h9) e0 dX12_char1_2 ?_
  refine lv_icmp_ge (tgt := 21) hx hb dX12_char1_5 (by decide) (fun _ => ?_) (fun c9 => absurd (by decide) c9)
  refine lv_iconst (v := 0) hx hb dX12_char1_21 (by decide) ?_
  exact W.iret (v := 0) hx hb hr (fun t ht hW => ⟨⟨0, (), rfl, rfl, kB_mk ht hW hP hK hD⟩, hS.F ht⟩) hS.2.2 dX12_char1_22
set_option maxHeartbeats 400000000 in
set_option maxRecDepth 100000 in
theorem c_X12_scan_0 (l : Launch) (E : kE) (D : va_G) (cI cJ cB cZ : ClassId) (h0 : Nat) (f0 : List Value) (h1 : Nat) (g0 : Nat → Int32) (h2 : Nat) (g1 : Nat → Int32) (h3 : Nat) (g2 : Nat → Int32) (h4 : Nat) (g3 : Nat → Int32) (e0 : f0[27]? = some (.int 0)) (e1 : f0[31]? = some (.int 0)) (e2 : f0[28]? = some (.int 0)) (e3 : f0[12]? = some (.int 0)) (e4 : f0[23]? = some (.ref h1)) (e5 : f0[24]? = some (.ref h2)) (e6 : f0[25]? = some (.ref h3)) (e7 : f0[26]? = some (.ref h4)) : kV l E D (kT cI cJ cB cZ) yX12_scan wsX12_scan ({ frames := 1, cells := 0, slots := 0, locals := 21 }) [.ref h0] [(h0, .inr (12, f0)), (h1, .inl (cI, 2001, .inl g0)), (h2, .inl (cI, 2001, .inl g1)), (h3, .inl (cI, 2001, .inl g2)), (h4, .inl (cI, 2001, .inl g3))] (fun _ : Unit => [(h0, .inr (12, (((f0.set 27 (.int 0)).set 31 (.int 0)).set 28 (.int 0)))), (h1, .inl (cI, 2001, .inl (upd g0 0 0))), (h2, .inl (cI, 2001, .inl (upd g1 0 0))), (h3, .inl (cI, 2001, .inl (upd g2 0 0))), (h4, .inl (cI, 2001, .inl (upd g3 0 0)))]) 0 0 := by
  intro sz
  refine Met.ofW (cc := cX12_scan) (maxL := 8) (ret := none) (by decide) rfl ?_
  intro p e s m args below meth c s₁ B hml hv
  obtain ⟨rfl, hsz, hP, hK, hD0, hN, hX⟩ := hv
  have hx := B.exec
  have hb := B.bytes
  have hr := B.returns
  have hts := atoms_spec (ws := wsX12_scan) B.pre
  have hown : s.vm.findClass RX12 = some m.cls := findClass_of_methodNamed B.named
  have hlocks := B.notSynchronized
  have hin12 : ∀ w ∈ wsX120, w ∈ wsX12_scan := (fun w h => (List.mem_cons_of_mem _ (List.mem_append_right _ h)))
  subst hsz
  have hD := hD0.self (sz := s.heap.size)
  have hAE := k_AE hD0 hX
  generalize hAe : va_A [(h0, .inr (12, f0)), (h1, .inl (cI, 2001, .inl g0)), (h2, .inl (cI, 2001, .inl g1)), (h3, .inl (cI, 2001, .inl g2)), (h4, .inl (cI, 2001, .inl g3))] s.heap.size = A at hD hAE ⊢
  have hA : ∀ q : Nat, s.heap.size ≤ q → A q := fun q h => by rw [← hAe]; exact Or.inr h
  have hS : va_S A s.heap s.heap [] := va_S.rf
  have hP : va_P D vwCl [(h0, .inr (12, f0)), (h1, .inl (cI, 2001, .inl g0)), (h2, .inl (cI, 2001, .inl g1)), (h3, .inl (cI, 2001, .inl g2)), (h4, .inl (cI, 2001, .inl g3))] s.heap := hP
  have hl := lv_entry ([.ref h0] : List Value) (n := 8) (Nat.le_of_ble_eq_true rfl)
  rw [lg_entry_eq]
  generalize (lg_sl ([.ref h0]) ++ List.replicate (8 - (lg_sl ([.ref h0])).length) Slot.unset).toArray = ls at hl ⊢
  have hl : lv_has ls 8 [(0, .ref h0)] := hl
  refine lv_aload_n hx hb dX12_scan_0 rfl (lv_at hl 0 rfl) ?_
  refine lv_iconst (v := 0) hx hb dX12_scan_1 (by decide) ?_
  refine va_put (D := D) (ref := "IntegerHouseModel") (ci := 12) (v := .int 0) (ty := .int) (C := RX12) (T := TX12) (N := 195) hx hb hts hin12 tyX12 tyX12_ok nmX12 hown hK hP hD hS 0 rfl rfl 27 (by decide) (hts (.fieldLink RX12 594 "IntegerHouseModel" "tokens" "I") (List.mem_cons_of_mem _ (List.mem_append_left _ (List.mem_append_left _ (List.mem_of_getElem? (i := 0) rfl))))) (fun _ h9 => h9) rfl (by decide +kernel) rfl rfl (k_len e0) dX12_scan_2 (fun H locs hP hD hS => ?_)
  have hP : va_P D vwCl [(h0, .inr (12, (f0.set 27 (.int 0)))), (h1, .inl (cI, 2001, .inl g0)), (h2, .inl (cI, 2001, .inl g1)), (h3, .inl (cI, 2001, .inl g2)), (h4, .inl (cI, 2001, .inl g3))] H := hP
  have hD : va_D A [(h0, .inr (12, (f0.set 27 (.int 0)))), (h1, .inl (cI, 2001, .inl g0)), (h2, .inl (cI, 2001, .inl g1)), (h3, .inl (cI, 2001, .inl g2)), (h4, .inl (cI, 2001, .inl g3))] := hD
  refine lv_aload_n hx hb dX12_scan_5 rfl (lv_at hl 0 rfl) ?_
  refine lv_iconst (v := 0) hx hb dX12_scan_6 (by decide) ?_
  refine va_put (D := D) (ref := "IntegerHouseModel") (ci := 12) (v := .int 0) (ty := .boolean) (C := RX12) (T := TX12) (N := 195) hx hb hts hin12 tyX12 tyX12_ok nmX12 hown hK hP hD hS 0 rfl rfl 31 (by decide) (hts (.fieldLink RX12 562 "IntegerHouseModel" "faulty" "Z") (List.mem_cons_of_mem _ (List.mem_append_left _ (List.mem_append_left _ (List.mem_of_getElem? (i := 1) rfl))))) (fun _ h9 => h9) rfl (by decide +kernel) rfl rfl (k_len (k_ne (by decide) e1)) dX12_scan_7 (fun H locs hP hD hS => ?_)
  have hP : va_P D vwCl [(h0, .inr (12, ((f0.set 27 (.int 0)).set 31 (.int 0)))), (h1, .inl (cI, 2001, .inl g0)), (h2, .inl (cI, 2001, .inl g1)), (h3, .inl (cI, 2001, .inl g2)), (h4, .inl (cI, 2001, .inl g3))] H := hP
  have hD : va_D A [(h0, .inr (12, ((f0.set 27 (.int 0)).set 31 (.int 0)))), (h1, .inl (cI, 2001, .inl g0)), (h2, .inl (cI, 2001, .inl g1)), (h3, .inl (cI, 2001, .inl g2)), (h4, .inl (cI, 2001, .inl g3))] := hD
  refine lv_aload_n hx hb dX12_scan_10 rfl (lv_at hl 0 rfl) ?_
  refine lv_iconst (v := 0) hx hb dX12_scan_11 (by decide) ?_
  refine va_put (D := D) (ref := "IntegerHouseModel") (ci := 12) (v := .int 0) (ty := .int) (C := RX12) (T := TX12) (N := 195) hx hb hts hin12 tyX12 tyX12_ok nmX12 hown hK hP hD hS 0 rfl rfl 28 (by decide) (hts (.fieldLink RX12 597 "IntegerHouseModel" "now" "I") (List.mem_cons_of_mem _ (List.mem_append_left _ (List.mem_append_left _ (List.mem_of_getElem? (i := 2) rfl))))) (fun _ h9 => h9) rfl (by decide +kernel) rfl rfl (k_len (k_ne (by decide) (k_ne (by decide) e2))) dX12_scan_12 (fun H locs hP hD hS => ?_)
  have hP : va_P D vwCl [(h0, .inr (12, (((f0.set 27 (.int 0)).set 31 (.int 0)).set 28 (.int 0)))), (h1, .inl (cI, 2001, .inl g0)), (h2, .inl (cI, 2001, .inl g1)), (h3, .inl (cI, 2001, .inl g2)), (h4, .inl (cI, 2001, .inl g3))] H := hP
  have hD : va_D A [(h0, .inr (12, (((f0.set 27 (.int 0)).set 31 (.int 0)).set 28 (.int 0)))), (h1, .inl (cI, 2001, .inl g0)), (h2, .inl (cI, 2001, .inl g1)), (h3, .inl (cI, 2001, .inl g2)), (h4, .inl (cI, 2001, .inl g3))] := hD
  refine lv_iconst (v := 0) hx hb dX12_scan_15 (by decide) ?_
  refine lv_istore_n (lv' := [(1, .int 0), (0, .ref h0)]) hx hb dX12_scan_16 rfl hl (by decide) rfl (fun ls hl => ?_)
  refine lv_iconst (v := 1) hx hb dX12_scan_17 (by decide) ?_
  refine lv_istore_n (lv' := [(2, .int 1), (1, .int 0), (0, .ref h0)]) hx hb dX12_scan_18 rfl hl (by decide) rfl (fun ls hl => ?_)
  refine lv_iload_n hx hb dX12_scan_19 rfl (lv_at hl 0 rfl) ?_
  refine lv_if_eq (tgt := 454) hx hb dX12_scan_20 (by decide) (fun c9 => absurd c9 (by decide)) (fun _ => ?_)
  refine lv_aload_n hx hb dX12_scan_23 rfl (lv_at hl 2 rfl) ?_
  refine lv_iload_n hx hb dX12_scan_24 rfl (lv_at hl 1 rfl) ?_
  refine k_cVi (As := [.int 0]) (rest := []) (wc := [(h0, .inr (12, (((f0.set 27 (.int 0)).set 31 (.int 0)).set 28 (.int 0))))]) (wr := [(h1, .inl (cI, 2001, .inl g0)), (h2, .inl (cI, 2001, .inl g1)), (h3, .inl (cI, 2001, .inl g2)), (h4, .inl (cI, 2001, .inl g3))]) (w1 := [(h0, .inr (12, (((f0.set 27 (.int 0)).set 31 (.int 0)).set 28 (.int 0))))]) ⟨hx, hb, hml, hown, hts⟩ hN hX hAE hK hP hD hS hA [0] [1, 2, 3, 4] (ci := 12) rfl rfl rfl rfl (by decide +kernel) (by decide +kernel) (by decide +kernel) (c_X12_char1_0 l E D cI cJ cB cZ h0 ((((f0.set 27 (.int 0)).set 31 (.int 0)).set 28 (.int 0))) (k_ne (by decide) (k_ne (by decide) (k_ne (by decide) e3)))) (cwV 1 hts gX12_scan_X12_char1 rfl rfl rfl (by decide +kernel) ⟨Nat.le_of_ble_eq_true rfl, Nat.le_of_ble_eq_true rfl⟩) rfl hl.1 (Nat.le_of_ble_eq_true rfl) dX12_scan_25 ⟨Nat.le_of_ble_eq_true rfl, Nat.le_of_ble_eq_true rfl⟩ (fun H locs hP hD hS => ?_)
  have hP : va_P D vwCl [(h1, .inl (cI, 2001, .inl g0)), (h2, .inl (cI, 2001, .inl g1)), (h3, .inl (cI, 2001, .inl g2)), (h4, .inl (cI, 2001, .inl g3)), (h0, .inr (12, (((f0.set 27 (.int 0)).set 31 (.int 0)).set 28 (.int 0))))] H := hP
  have hD : va_D A [(h1, .inl (cI, 2001, .inl g0)), (h2, .inl (cI, 2001, .inl g1)), (h3, .inl (cI, 2001, .inl g2)), (h4, .inl (cI, 2001, .inl g3)), (h0, .inr (12, (((f0.set 27 (.int 0)).set 31 (.int 0)).set 28 (.int 0))))] := hD
  refine lv_bipush (v := 32) hx hb dX12_scan_28 (by decide) ?_
  refine lv_icmp_eq (tgt := 43) hx hb dX12_scan_30 (by decide) (fun c9 => absurd c9 (by decide)) (fun _ => ?_)
  refine lv_aload_n hx hb dX12_scan_33 rfl (lv_at hl 2 rfl) ?_
  refine lv_iload_n hx hb dX12_scan_34 rfl (lv_at hl 1 rfl) ?_
  refine k_cVi (As := [.int 0]) (rest := []) (wc := [(h0, .inr (12, (((f0.set 27 (.int 0)).set 31 (.int 0)).set 28 (.int 0))))]) (wr := [(h1, .inl (cI, 2001, .inl g0)), (h2, .inl (cI, 2001, .inl g1)), (h3, .inl (cI, 2001, .inl g2)), (h4, .inl (cI, 2001, .inl g3))]) (w1 := [(h0, .inr (12, (((f0.set 27 (.int 0)).set 31 (.int 0)).set 28 (.int 0))))]) ⟨hx, hb, hml, hown, hts⟩ hN hX hAE hK hP hD hS hA [4] [0, 1, 2, 3] (ci := 12) rfl rfl rfl rfl (by decide +kernel) (by decide +kernel) (by decide +kernel) (c_X12_char1_0 l E D cI cJ cB cZ h0 ((((f0.set 27 (.int 0)).set 31 (.int 0)).set 28 (.int 0))) (k_ne (by decide) (k_ne (by decide) (k_ne (by decide) e3)))) (cwV 1 hts gX12_scan_X12_char1 rfl rfl rfl (by decide +kernel) ⟨Nat.le_of_ble_eq_true rfl, Nat.le_of_ble_eq_true rfl⟩) rfl hl.1 (Nat.le_of_ble_eq_true rfl) dX12_scan_35 ⟨Nat.le_of_ble_eq_true rfl, Nat.le_of_ble_eq_true rfl⟩ (fun H locs hP hD hS => ?_)
  have hP : va_P D vwCl [(h1, .inl (cI, 2001, .inl g0)), (h2, .inl (cI, 2001, .inl g1)), (h3, .inl (cI, 2001, .inl g2)), (h4, .inl (cI, 2001, .inl g3)), (h0, .inr (12, (((f0.set 27 (.int 0)).set 31 (.int 0)).set 28 (.int 0))))] H := hP
  have hD : va_D A [(h1, .inl (cI, 2001, .inl g0)), (h2, .inl (cI, 2001, .inl g1)), (h3, .inl (cI, 2001, .inl g2)), (h4, .inl (cI, 2001, .inl g3)), (h0, .inr (12, (((f0.set 27 (.int 0)).set 31 (.int 0)).set 28 (.int 0))))] := hD
  refine lv_bipush (v := 10) hx hb dX12_scan_38 (by decide) ?_
  refine lv_icmp_ne (tgt := 49) hx hb dX12_scan_40 (by decide) (fun _ => ?_) (fun c9 => absurd c9 (by decide))
  refine lv_aload_n hx hb dX12_scan_49 rfl (lv_at hl 2 rfl) ?_
  refine va_get (D := D) (ref := "IntegerHouseModel") (ci := 12) (v := .ref h1) (C := RX12) (T := TX12) (N := 195) hx hb hts hin12 hown hK hP 4 rfl rfl 23 (by decide) (hts (.fieldLink RX12 81 "IntegerHouseModel" "tokenAt" "[I") (List.mem_cons_of_mem _ (List.mem_append_left _ (List.mem_append_left _ (List.mem_of_getElem? (i := 3) rfl))))) (fun _ h9 => h9) (k_ne (by decide) (k_ne (by decide) (k_ne (by decide) e4))) dX12_scan_50 ?_
  refine lv_aload_n hx hb dX12_scan_53 rfl (lv_at hl 2 rfl) ?_
  refine va_get (D := D) (ref := "IntegerHouseModel") (ci := 12) (v := .int 0) (C := RX12) (T := TX12) (N := 195) hx hb hts hin12 hown hK hP 4 rfl rfl 27 (by decide) (hts (.fieldLink RX12 594 "IntegerHouseModel" "tokens" "I") (List.mem_cons_of_mem _ (List.mem_append_left _ (List.mem_append_left _ (List.mem_of_getElem? (i := 0) rfl))))) (fun _ h9 => h9) (k_ne (by decide) (k_ne (by decide) (k_set e0))) dX12_scan_54 ?_
  refine lv_iload_n hx hb dX12_scan_57 rfl (lv_at hl 1 rfl) ?_
  refine va_iast hx hb hK hP hD hS 0 0 rfl rfl (k_in (by decide)) dX12_scan_58 (fun H locs hP hD hS => ?_)
  have hP : va_P D vwCl [(h1, .inl (cI, 2001, .inl (upd g0 0 0))), (h2, .inl (cI, 2001, .inl g1)), (h3, .inl (cI, 2001, .inl g2)), (h4, .inl (cI, 2001, .inl g3)), (h0, .inr (12, (((f0.set 27 (.int 0)).set 31 (.int 0)).set 28 (.int 0))))] H := hP
  have hD : va_D A [(h1, .inl (cI, 2001, .inl (upd g0 0 0))), (h2, .inl (cI, 2001, .inl g1)), (h3, .inl (cI, 2001, .inl g2)), (h4, .inl (cI, 2001, .inl g3)), (h0, .inr (12, (((f0.set 27 (.int 0)).set 31 (.int 0)).set 28 (.int 0))))] := hD
  refine lv_aload_n hx hb dX12_scan_59 rfl (lv_at hl 2 rfl) ?_
  refine va_get (D := D) (ref := "IntegerHouseModel") (ci := 12) (v := .ref h2) (C := RX12) (T := TX12) (N := 195) hx hb hts hin12 hown hK hP 4 rfl rfl 24 (by decide) (hts (.fieldLink RX12 84 "IntegerHouseModel" "tokenSize" "[I") (List.mem_cons_of_mem _ (List.mem_append_left _ (List.mem_append_left _ (List.mem_of_getElem? (i := 4) rfl))))) (fun _ h9 => h9) (k_ne (by decide) (k_ne (by decide) (k_ne (by decide) e5))) dX12_scan_60 ?_
  refine lv_aload_n hx hb dX12_scan_63 rfl (lv_at hl 2 rfl) ?_
  refine va_get (D := D) (ref := "IntegerHouseModel") (ci := 12) (v := .int 0) (C := RX12) (T := TX12) (N := 195) hx hb hts hin12 hown hK hP 4 rfl rfl 27 (by decide) (hts (.fieldLink RX12 594 "IntegerHouseModel" "tokens" "I") (List.mem_cons_of_mem _ (List.mem_append_left _ (List.mem_append_left _ (List.mem_of_getElem? (i := 0) rfl))))) (fun _ h9 => h9) (k_ne (by decide) (k_ne (by decide) (k_set e0))) dX12_scan_64 ?_
  refine lv_iconst (v := 0) hx hb dX12_scan_67 (by decide) ?_
  refine va_iast hx hb hK hP hD hS 1 0 rfl rfl (k_in (by decide)) dX12_scan_68 (fun H locs hP hD hS => ?_)
  have hP : va_P D vwCl [(h1, .inl (cI, 2001, .inl (upd g0 0 0))), (h2, .inl (cI, 2001, .inl (upd g1 0 0))), (h3, .inl (cI, 2001, .inl g2)), (h4, .inl (cI, 2001, .inl g3)), (h0, .inr (12, (((f0.set 27 (.int 0)).set 31 (.int 0)).set 28 (.int 0))))] H := hP
  have hD : va_D A [(h1, .inl (cI, 2001, .inl (upd g0 0 0))), (h2, .inl (cI, 2001, .inl (upd g1 0 0))), (h3, .inl (cI, 2001, .inl g2)), (h4, .inl (cI, 2001, .inl g3)), (h0, .inr (12, (((f0.set 27 (.int 0)).set 31 (.int 0)).set 28 (.int 0))))] := hD
  refine lv_aload_n hx hb dX12_scan_69 rfl (lv_at hl 2 rfl) ?_
  refine va_get (D := D) (ref := "IntegerHouseModel") (ci := 12) (v := .ref h3) (C := RX12) (T := TX12) (N := 195) hx hb hts hin12 hown hK hP 4 rfl rfl 25 (by decide) (hts (.fieldLink RX12 87 "IntegerHouseModel" "tokenKind" "[I") (List.mem_cons_of_mem _ (List.mem_append_left _ (List.mem_append_left _ (List.mem_of_getElem? (i := 5) rfl))))) (fun _ h9 => h9) (k_ne (by decide) (k_ne (by decide) (k_ne (by decide) e6))) dX12_scan_70 ?_
  refine lv_aload_n hx hb dX12_scan_73 rfl (lv_at hl 2 rfl) ?_
  refine va_get (D := D) (ref := "IntegerHouseModel") (ci := 12) (v := .int 0) (C := RX12) (T := TX12) (N := 195) hx hb hts hin12 hown hK hP 4 rfl rfl 27 (by decide) (hts (.fieldLink RX12 594 "IntegerHouseModel" "tokens" "I") (List.mem_cons_of_mem _ (List.mem_append_left _ (List.mem_append_left _ (List.mem_of_getElem? (i := 0) rfl))))) (fun _ h9 => h9) (k_ne (by decide) (k_ne (by decide) (k_set e0))) dX12_scan_74 ?_
  refine lv_iconst (v := 0) hx hb dX12_scan_77 (by decide) ?_
  refine va_iast hx hb hK hP hD hS 2 0 rfl rfl (k_in (by decide)) dX12_scan_78 (fun H locs hP hD hS => ?_)
  have hP : va_P D vwCl [(h1, .inl (cI, 2001, .inl (upd g0 0 0))), (h2, .inl (cI, 2001, .inl (upd g1 0 0))), (h3, .inl (cI, 2001, .inl (upd g2 0 0))), (h4, .inl (cI, 2001, .inl g3)), (h0, .inr (12, (((f0.set 27 (.int 0)).set 31 (.int 0)).set 28 (.int 0))))] H := hP
  have hD : va_D A [(h1, .inl (cI, 2001, .inl (upd g0 0 0))), (h2, .inl (cI, 2001, .inl (upd g1 0 0))), (h3, .inl (cI, 2001, .inl (upd g2 0 0))), (h4, .inl (cI, 2001, .inl g3)), (h0, .inr (12, (((f0.set 27 (.int 0)).set 31 (.int 0)).set 28 (.int 0))))] := hD
  refine lv_aload_n hx hb dX12_scan_79 rfl (lv_at hl 2 rfl) ?_
  refine va_get (D := D) (ref := "IntegerHouseModel") (ci := 12) (v := .ref h4) (C := RX12) (T := TX12) (N := 195) hx hb hts hin12 hown hK hP 4 rfl rfl 26 (by decide) (hts (.fieldLink RX12 90 "IntegerHouseModel" "tokenValue" "[I") (List.mem_cons_of_mem _ (List.mem_append_left _ (List.mem_append_left _ (List.mem_of_getElem? (i := 6) rfl))))) (fun _ h9 => h9) (k_ne (by decide) (k_ne (by decide) (k_ne (by decide) e7))) dX12_scan_80 ?_
  refine lv_aload_n hx hb dX12_scan_83 rfl (lv_at hl 2 rfl) ?_
  refine va_get (D := D) (ref := "IntegerHouseModel") (ci := 12) (v := .int 0) (C := RX12) (T := TX12) (N := 195) hx hb hts hin12 hown hK hP 4 rfl rfl 27 (by decide) (hts (.fieldLink RX12 594 "IntegerHouseModel" "tokens" "I") (List.mem_cons_of_mem _ (List.mem_append_left _ (List.mem_append_left _ (List.mem_of_getElem? (i := 0) rfl))))) (fun _ h9 => h9) (k_ne (by decide) (k_ne (by decide) (k_set e0))) dX12_scan_84 ?_
  refine lv_iconst (v := 0) hx hb dX12_scan_87 (by decide) ?_
  refine va_iast hx hb hK hP hD hS 3 0 rfl rfl (k_in (by decide)) dX12_scan_88 (fun H locs hP hD hS => ?_)
  have hP : va_P D vwCl [(h1, .inl (cI, 2001, .inl (upd g0 0 0))), (h2, .inl (cI, 2001, .inl (upd g1 0 0))), (h3, .inl (cI, 2001, .inl (upd g2 0 0))), (h4, .inl (cI, 2001, .inl (upd g3 0 0))), (h0, .inr (12, (((f0.set 27 (.int 0)).set 31 (.int 0)).set 28 (.int 0))))] H := hP
  have hD : va_D A [(h1, .inl (cI, 2001, .inl (upd g0 0 0))), (h2, .inl (cI, 2001, .inl (upd g1 0 0))), (h3, .inl (cI, 2001, .inl (upd g2 0 0))), (h4, .inl (cI, 2001, .inl (upd g3 0 0))), (h0, .inr (12, (((f0.set 27 (.int 0)).set 31 (.int 0)).set 28 (.int 0))))] := hD
  refine lv_iload_n hx hb dX12_scan_89 rfl (lv_at hl 1 rfl) ?_
  refine lv_aload_n hx hb dX12_scan_90 rfl (lv_at hl 2 rfl) ?_
  refine va_get (D := D) (ref := "IntegerHouseModel") (ci := 12) (v := .int 0) (C := RX12) (T := TX12) (N := 195) hx hb hts hin12 hown hK hP 4 rfl rfl 12 (by decide) (hts (.fieldLink RX12 469 "IntegerHouseModel" "docSize" "I") (List.mem_cons_of_mem _ (List.mem_append_left _ (List.mem_append_left _ (List.mem_of_getElem? (i := 7) rfl))))) (fun _ h9 => h9) (k_ne (by decide) (k_ne (by decide) (k_ne (by decide) e3))) dX12_scan_91 ?_
  refine lv_icmp_ge (tgt := 101) hx hb dX12_scan_94 (by decide) (fun _ => ?_) (fun c9 => absurd (by decide) c9)
  refine lv_iconst (v := 0) hx hb dX12_scan_101 (by decide) ?_
  refine lv_istore_n (lv' := [(2, .int 0), (1, .int 0), (0, .ref h0)]) hx hb dX12_scan_102 rfl hl (by decide) rfl (fun ls hl => ?_)
  refine lv_iload_n hx hb dX12_scan_103 rfl (lv_at hl 0 rfl) ?_
  refine lv_if_eq (tgt := 19) hx hb dX12_scan_104 (by decide) (fun _ => ?_) (fun c9 => absurd (by decide) c9)
  refine lv_iload_n hx hb dX12_scan_19 rfl (lv_at hl 0 rfl) ?_
  refine lv_if_eq (tgt := 454) hx hb dX12_scan_20 (by decide) (fun _ => ?_) (fun c9 => absurd (by decide) c9)
  have hP := hP.sub (ws' := [(h0, .inr (12, (((f0.set 27 (.int 0)).set 31 (.int 0)).set 28 (.int 0)))), (h1, .inl (cI, 2001, .inl (upd g0 0 0))), (h2, .inl (cI, 2001, .inl (upd g1 0 0))), (h3, .inl (cI, 2001, .inl (upd g2 0 0))), (h4, .inl (cI, 2001, .inl (upd g3 0 0)))]) [4, 0, 1, 2, 3] rfl
  have hD := hD.sub (ws' := [(h0, .inr (12, (((f0.set 27 (.int 0)).set 31 (.int 0)).set 28 (.int 0)))), (h1, .inl (cI, 2001, .inl (upd g0 0 0))), (h2, .inl (cI, 2001, .inl (upd g1 0 0))), (h3, .inl (cI, 2001, .inl (upd g2 0 0))), (h4, .inl (cI, 2001, .inl (upd g3 0 0)))]) [4, 0, 1, 2, 3] (by decide +kernel) rfl
  exact W.vret hx hb hr (fun t ht hW => ⟨⟨(), rfl, trivial, kB_mk ht hW hP hK hD⟩, hS.F ht⟩) hS.2.2 dX12_scan_454
set_option maxHeartbeats 400000000 in
set_option maxRecDepth 100000 in
theorem c_X12_full_0 (l : Launch) (E : kE) (D : va_G) (cI cJ cB cZ : ClassId) (h0 : Nat) (f0 : List Value) (e0 : f0[15]? = some (.int 1)) (e1 : f0[12]? = some (.int 0)) (e2 : f0[13]? = some (.int 0)) (e3 : f0[9]? = some (.int 0)) (e4 : f0[4]? = some (.int 0)) : kI l E D (kT cI cJ cB cZ) yX12_full wsX12_full ({ frames := 0, cells := 0, slots := 0, locals := 0 }) [.ref h0] [(h0, .inr (12, f0))] (0) [(h0, .inr (12, f0))] 0 0 := by
  intro sz
  refine Met.ofW (cc := cX12_full) (maxL := 2) (ret := (some .boolean)) (by decide) rfl ?_
  intro p e s m args below meth c s₁ B hml hv
  obtain ⟨rfl, hsz, hP, hK, hD0, hN, hX⟩ := hv
  have hx := B.exec
  have hb := B.bytes
  have hr := B.returns
  have hts := atoms_spec (ws := wsX12_full) B.pre
  have hown : s.vm.findClass RX12 = some m.cls := findClass_of_methodNamed B.named
  have hlocks := B.notSynchronized
  have hin12 : ∀ w ∈ wsX120, w ∈ wsX12_full := (fun w h => (List.mem_cons_of_mem _ (List.mem_append_right _ h)))
  subst hsz
  have hD := hD0.self (sz := s.heap.size)
  have hAE := k_AE hD0 hX
  generalize hAe : va_A [(h0, .inr (12, f0))] s.heap.size = A at hD hAE ⊢
  have hA : ∀ q : Nat, s.heap.size ≤ q → A q := fun q h => by rw [← hAe]; exact Or.inr h
  have hS : va_S A s.heap s.heap [] := va_S.rf
  have hP : va_P D vwCl [(h0, .inr (12, f0))] s.heap := hP
  have hl := lv_entry ([.ref h0] : List Value) (n := 2) (Nat.le_of_ble_eq_true rfl)
  rw [lg_entry_eq]
  generalize (lg_sl ([.ref h0]) ++ List.replicate (2 - (lg_sl ([.ref h0])).length) Slot.unset).toArray = ls at hl ⊢
  have hl : lv_has ls 2 [(0, .ref h0)] := hl
  refine lv_iconst (v := 1) hx hb dX12_full_0 (by decide) ?_
  refine lv_aload_n hx hb dX12_full_1 rfl (lv_at hl 0 rfl) ?_
  refine va_get (D := D) (ref := "IntegerHouseModel") (ci := 12) (v := .int 1) (C := RX12) (T := TX12) (N := 195) hx hb hts hin12 hown hK hP 0 rfl rfl 15 (by decide) (hts (.fieldLink RX12 466 "IntegerHouseModel" "number" "I") (List.mem_cons_of_mem _ (List.mem_append_left _ (List.mem_of_getElem? (i := 0) rfl)))) (fun _ h9 => h9) e0 dX12_full_2 ?_
  refine lv_iconst (v := 2) hx hb dX12_full_5 (by decide) ?_
  refine lv_icmp_ne (tgt := 14) hx hb dX12_full_6 (by decide) (fun _ => ?_) (fun c9 => absurd c9 (by decide))
  refine lv_iconst (v := 0) hx hb dX12_full_14 (by decide) ?_
  refine lv_iadd hx hb dX12_full_15 ?_
  refine k_topi (y := 1) (by decide) ?_
  refine lv_aload_n hx hb dX12_full_16 rfl (lv_at hl 0 rfl) ?_
  refine va_get (D := D) (ref := "IntegerHouseModel") (ci := 12) (v := .int 1) (C := RX12) (T := TX12) (N := 195) hx hb hts hin12 hown hK hP 0 rfl rfl 15 (by decide) (hts (.fieldLink RX12 466 "IntegerHouseModel" "number" "I") (List.mem_cons_of_mem _ (List.mem_append_left _ (List.mem_of_getElem? (i := 0) rfl)))) (fun _ h9 => h9) e0 dX12_full_17 ?_
  refine lv_iconst (v := 1) hx hb dX12_full_20 (by decide) ?_
  refine lv_icmp_ne (tgt := 33) hx hb dX12_full_21 (by decide) (fun c9 => absurd (by decide) c9) (fun _ => ?_)
  refine lv_iconst (v := 2) hx hb dX12_full_24 (by decide) ?_
  refine lv_aload_n hx hb dX12_full_25 rfl (lv_at hl 0 rfl) ?_
  refine va_get (D := D) (ref := "IntegerHouseModel") (ci := 12) (v := .int 0) (C := RX12) (T := TX12) (N := 195) hx hb hts hin12 hown hK hP 0 rfl rfl 12 (by decide) (hts (.fieldLink RX12 469 "IntegerHouseModel" "docSize" "I") (List.mem_cons_of_mem _ (List.mem_append_left _ (List.mem_of_getElem? (i := 1) rfl)))) (fun _ h9 => h9) e1 dX12_full_26 ?_
  refine lv_iadd hx hb dX12_full_29 ?_
  refine k_topi (y := 2) (by decide) ?_
  refine lv_goto (tgt := 34) hx hb dX12_full_30 (by decide) ?_
  refine lv_iadd hx hb dX12_full_34 ?_
  refine k_topi (y := 3) (by decide) ?_
  refine lv_istore_n (lv' := [(1, .int 3), (0, .ref h0)]) hx hb dX12_full_35 rfl hl (by decide) rfl (fun ls hl => ?_)
  refine lv_aload_n hx hb dX12_full_36 rfl (lv_at hl 1 rfl) ?_
  refine va_get (D := D) (ref := "IntegerHouseModel") (ci := 12) (v := .int 0) (C := RX12) (T := TX12) (N := 195) hx hb hts hin12 hown hK hP 0 rfl rfl 13 (by decide) (hts (.fieldLink RX12 472 "IntegerHouseModel" "replay" "Z") (List.mem_cons_of_mem _ (List.mem_append_left _ (List.mem_of_getElem? (i := 2) rfl)))) (fun _ h9 => h9) e2 dX12_full_37 ?_
  refine lv_if_ne (tgt := 73) hx hb dX12_full_40 (by decide) (fun c9 => absurd (by decide) c9) (fun _ => ?_)
  refine lv_aload_n hx hb dX12_full_43 rfl (lv_at hl 1 rfl) ?_
  refine va_get (D := D) (ref := "IntegerHouseModel") (ci := 12) (v := .int 0) (C := RX12) (T := TX12) (N := 195) hx hb hts hin12 hown hK hP 0 rfl rfl 9 (by decide) (hts (.fieldLink RX12 475 "IntegerHouseModel" "waitBytes" "I") (List.mem_cons_of_mem _ (List.mem_append_left _ (List.mem_of_getElem? (i := 3) rfl)))) (fun _ h9 => h9) e3 dX12_full_44 ?_
  refine lv_iload_n hx hb dX12_full_47 rfl (lv_at hl 0 rfl) ?_
  refine lv_iadd hx hb dX12_full_48 ?_
  refine k_topi (y := 3) (by decide) ?_
  refine lv_sipush (v := 248) hx hb dX12_full_49 (by decide) ?_
  refine lv_iadd hx hb dX12_full_52 ?_
  refine k_topi (y := 251) (by decide) ?_
  refine lv_iconst (v := 1) hx hb dX12_full_53 (by decide) ?_
  refine lv_isub hx hb dX12_full_54 ?_
  refine k_topi (y := 250) (by decide) ?_
  refine lv_sipush (v := 248) hx hb dX12_full_55 (by decide) ?_
  refine lv_idiv hx hb dX12_full_58 (by decide) ?_
  refine k_topi (y := 1) (by decide) ?_
  refine lv_bipush (v := 100) hx hb dX12_full_59 (by decide) ?_
  refine lv_aload_n hx hb dX12_full_61 rfl (lv_at hl 1 rfl) ?_
  refine va_get (D := D) (ref := "IntegerHouseModel") (ci := 12) (v := .int 0) (C := RX12) (T := TX12) (N := 195) hx hb hts hin12 hown hK hP 0 rfl rfl 4 (by decide) (hts (.fieldLink RX12 478 "IntegerHouseModel" "used" "I") (List.mem_cons_of_mem _ (List.mem_append_left _ (List.mem_of_getElem? (i := 4) rfl)))) (fun _ h9 => h9) e4 dX12_full_62 ?_
  refine lv_isub hx hb dX12_full_65 ?_
  refine k_topi (y := 100) (by decide) ?_
  refine lv_icmp_le (tgt := 73) hx hb dX12_full_66 (by decide) (fun _ => ?_) (fun c9 => absurd (by decide) c9)
  refine lv_iconst (v := 0) hx hb dX12_full_73 (by decide) ?_
  exact W.zret (v := 0) hx hb hr rfl (fun t ht hW => ⟨⟨0, (), rfl, rfl, kB_mk ht hW hP hK hD⟩, hS.F ht⟩) hS.2.2 dX12_full_74
set_option maxHeartbeats 400000000 in
set_option maxRecDepth 100000 in
theorem c_X12_readText_0 (l : Launch) (E : kE) (D : va_G) (cI cJ cB cZ : ClassId) (h0 : Nat) (f0 : List Value) (h1 : Nat) (h2 : Nat) (h3 : Nat) (h4 : Nat) (g0 : Nat → Int32) (g1 : Nat → Int32) (g2 : Nat → Int32) (g3 : Nat → Int32) (e0 : f0[32]? = some (.int 0)) (e1 : f0[36]? = some (.int 0)) (e2 : f0[33]? = some (.int 0)) (e3 : f0[37]? = some (.int 0)) (e4 : f0[27]? = some (.int 0)) (e5 : f0[31]? = some (.int 0)) (e6 : f0[28]? = some (.int 0)) (e7 : f0[12]? = some (.int 0)) (e8 : f0[23]? = some (.ref h1)) (e9 : f0[24]? = some (.ref h2)) (e10 : f0[25]? = some (.ref h3)) (e11 : f0[26]? = some (.ref h4)) (e12 : f0[15]? = some (.int 1)) (e13 : f0[13]? = some (.int 0)) (e14 : f0[9]? = some (.int 0)) (e15 : f0[4]? = some (.int 0)) : kI l E D (kT cI cJ cB cZ) yX12_readText wsX12_readText ({ frames := 2, cells := 0, slots := 0, locals := 48 }) [.ref h0] [(h0, .inr (12, f0)), (h1, .inl (cI, 2001, .inl g0)), (h2, .inl (cI, 2001, .inl g1)), (h3, .inl (cI, 2001, .inl g2)), (h4, .inl (cI, 2001, .inl g3))] (0) [(h0, .inr (12, (((((((f0.set 36 (.int 0)).set 37 (.int 0)).set 27 (.int 0)).set 31 (.int 0)).set 28 (.int 0)).set 32 (.int 0)).set 33 (.int 0)))), (h1, .inl (cI, 2001, .inl (upd g0 0 0))), (h2, .inl (cI, 2001, .inl (upd g1 0 0))), (h3, .inl (cI, 2001, .inl (upd g2 0 0))), (h4, .inl (cI, 2001, .inl (upd g3 0 0)))] 0 0 := by
  intro sz
  refine Met.ofW (cc := cX12_readText) (maxL := 3) (ret := (some .int)) (by decide) rfl ?_
  intro p e s m args below meth c s₁ B hml hv
  obtain ⟨rfl, hsz, hP, hK, hD0, hN, hX⟩ := hv
  have hx := B.exec
  have hb := B.bytes
  have hr := B.returns
  have hts := atoms_spec (ws := wsX12_readText) B.pre
  have hown : s.vm.findClass RX12 = some m.cls := findClass_of_methodNamed B.named
  have hlocks := B.notSynchronized
  have hin12 : ∀ w ∈ wsX120, w ∈ wsX12_readText := (fun w h => (List.mem_cons_of_mem _ (List.mem_append_right _ h)))
  subst hsz
  have hD := hD0.self (sz := s.heap.size)
  have hAE := k_AE hD0 hX
  generalize hAe : va_A [(h0, .inr (12, f0)), (h1, .inl (cI, 2001, .inl g0)), (h2, .inl (cI, 2001, .inl g1)), (h3, .inl (cI, 2001, .inl g2)), (h4, .inl (cI, 2001, .inl g3))] s.heap.size = A at hD hAE ⊢
  have hA : ∀ q : Nat, s.heap.size ≤ q → A q := fun q h => by rw [← hAe]; exact Or.inr h
  have hS : va_S A s.heap s.heap [] := va_S.rf
  have hP : va_P D vwCl [(h0, .inr (12, f0)), (h1, .inl (cI, 2001, .inl g0)), (h2, .inl (cI, 2001, .inl g1)), (h3, .inl (cI, 2001, .inl g2)), (h4, .inl (cI, 2001, .inl g3))] s.heap := hP
  have hl := lv_entry ([.ref h0] : List Value) (n := 3) (Nat.le_of_ble_eq_true rfl)
  rw [lg_entry_eq]
  generalize (lg_sl ([.ref h0]) ++ List.replicate (3 - (lg_sl ([.ref h0])).length) Slot.unset).toArray = ls at hl ⊢
  have hl : lv_has ls 3 [(0, .ref h0)] := hl
  refine lv_aload_n hx hb dX12_readText_0 rfl (lv_at hl 0 rfl) ?_
  refine lv_aload_n hx hb dX12_readText_1 rfl (lv_at hl 0 rfl) ?_
  refine va_get (D := D) (ref := "IntegerHouseModel") (ci := 12) (v := .int 0) (C := RX12) (T := TX12) (N := 195) hx hb hts hin12 hown hK hP 0 rfl rfl 32 (by decide) (hts (.fieldLink RX12 815 "IntegerHouseModel" "variables" "I") (List.mem_cons_of_mem _ (List.mem_append_left _ (List.mem_append_left _ (List.mem_of_getElem? (i := 0) rfl))))) (fun _ h9 => h9) e0 dX12_readText_2 ?_
  refine va_put (D := D) (ref := "IntegerHouseModel") (ci := 12) (v := .int 0) (ty := .int) (C := RX12) (T := TX12) (N := 195) hx hb hts hin12 tyX12 tyX12_ok nmX12 hown hK hP hD hS 0 rfl rfl 36 (by decide) (hts (.fieldLink RX12 620 "IntegerHouseModel" "knownVariables" "I") (List.mem_cons_of_mem _ (List.mem_append_left _ (List.mem_append_left _ (List.mem_of_getElem? (i := 1) rfl))))) (fun _ h9 => h9) rfl (by decide +kernel) rfl rfl (k_len e1) dX12_readText_5 (fun H locs hP hD hS => ?_)
  have hP : va_P D vwCl [(h0, .inr (12, (f0.set 36 (.int 0)))), (h1, .inl (cI, 2001, .inl g0)), (h2, .inl (cI, 2001, .inl g1)), (h3, .inl (cI, 2001, .inl g2)), (h4, .inl (cI, 2001, .inl g3))] H := hP
  have hD : va_D A [(h0, .inr (12, (f0.set 36 (.int 0)))), (h1, .inl (cI, 2001, .inl g0)), (h2, .inl (cI, 2001, .inl g1)), (h3, .inl (cI, 2001, .inl g2)), (h4, .inl (cI, 2001, .inl g3))] := hD
  refine lv_aload_n hx hb dX12_readText_8 rfl (lv_at hl 0 rfl) ?_
  refine lv_aload_n hx hb dX12_readText_9 rfl (lv_at hl 0 rfl) ?_
  refine va_get (D := D) (ref := "IntegerHouseModel") (ci := 12) (v := .int 0) (C := RX12) (T := TX12) (N := 195) hx hb hts hin12 hown hK hP 0 rfl rfl 33 (by decide) (hts (.fieldLink RX12 818 "IntegerHouseModel" "claims" "I") (List.mem_cons_of_mem _ (List.mem_append_left _ (List.mem_append_left _ (List.mem_of_getElem? (i := 2) rfl))))) (fun _ h9 => h9) (k_ne (by decide) e2) dX12_readText_10 ?_
  refine va_put (D := D) (ref := "IntegerHouseModel") (ci := 12) (v := .int 0) (ty := .int) (C := RX12) (T := TX12) (N := 195) hx hb hts hin12 tyX12 tyX12_ok nmX12 hown hK hP hD hS 0 rfl rfl 37 (by decide) (hts (.fieldLink RX12 627 "IntegerHouseModel" "knownClaims" "I") (List.mem_cons_of_mem _ (List.mem_append_left _ (List.mem_append_left _ (List.mem_of_getElem? (i := 3) rfl))))) (fun _ h9 => h9) rfl (by decide +kernel) rfl rfl (k_len (k_ne (by decide) e3)) dX12_readText_13 (fun H locs hP hD hS => ?_)
  have hP : va_P D vwCl [(h0, .inr (12, ((f0.set 36 (.int 0)).set 37 (.int 0)))), (h1, .inl (cI, 2001, .inl g0)), (h2, .inl (cI, 2001, .inl g1)), (h3, .inl (cI, 2001, .inl g2)), (h4, .inl (cI, 2001, .inl g3))] H := hP
  have hD : va_D A [(h0, .inr (12, ((f0.set 36 (.int 0)).set 37 (.int 0)))), (h1, .inl (cI, 2001, .inl g0)), (h2, .inl (cI, 2001, .inl g1)), (h3, .inl (cI, 2001, .inl g2)), (h4, .inl (cI, 2001, .inl g3))] := hD
  refine lv_aload_n hx hb dX12_readText_16 rfl (lv_at hl 0 rfl) ?_
  refine k_cVv (As := []) (rest := []) (wc := [(h0, .inr (12, ((f0.set 36 (.int 0)).set 37 (.int 0)))), (h1, .inl (cI, 2001, .inl g0)), (h2, .inl (cI, 2001, .inl g1)), (h3, .inl (cI, 2001, .inl g2)), (h4, .inl (cI, 2001, .inl g3))]) (wr := []) (w1 := (fun _ : Unit => [(h0, .inr (12, (((((f0.set 36 (.int 0)).set 37 (.int 0)).set 27 (.int 0)).set 31 (.int 0)).set 28 (.int 0)))), (h1, .inl (cI, 2001, .inl (upd g0 0 0))), (h2, .inl (cI, 2001, .inl (upd g1 0 0))), (h3, .inl (cI, 2001, .inl (upd g2 0 0))), (h4, .inl (cI, 2001, .inl (upd g3 0 0)))])) ⟨hx, hb, hml, hown, hts⟩ hN hX hAE hK hP hD hS hA [0, 1, 2, 3, 4] [] (ci := 12) rfl rfl rfl rfl (by decide +kernel) (by decide +kernel) (by decide +kernel) (c_X12_scan_0 l E D cI cJ cB cZ h0 (((f0.set 36 (.int 0)).set 37 (.int 0))) h1 g0 h2 g1 h3 g2 h4 g3 (k_ne (by decide) (k_ne (by decide) e4)) (k_ne (by decide) (k_ne (by decide) e5)) (k_ne (by decide) (k_ne (by decide) e6)) (k_ne (by decide) (k_ne (by decide) e7)) (k_ne (by decide) (k_ne (by decide) e8)) (k_ne (by decide) (k_ne (by decide) e9)) (k_ne (by decide) (k_ne (by decide) e10)) (k_ne (by decide) (k_ne (by decide) e11))) (cwV 0 hts gX12_readText_X12_scan rfl rfl rfl (by decide +kernel) ⟨Nat.le_of_ble_eq_true rfl, Nat.le_of_ble_eq_true rfl⟩) rfl hl.1 (Nat.le_of_ble_eq_true rfl) dX12_readText_17 ⟨Nat.le_of_ble_eq_true rfl, Nat.le_of_ble_eq_true rfl⟩ (fun _ H locs hP hD hS => ?_)
  have hP : va_P D vwCl [(h0, .inr (12, (((((f0.set 36 (.int 0)).set 37 (.int 0)).set 27 (.int 0)).set 31 (.int 0)).set 28 (.int 0)))), (h1, .inl (cI, 2001, .inl (upd g0 0 0))), (h2, .inl (cI, 2001, .inl (upd g1 0 0))), (h3, .inl (cI, 2001, .inl (upd g2 0 0))), (h4, .inl (cI, 2001, .inl (upd g3 0 0)))] H := hP
  have hD : va_D A [(h0, .inr (12, (((((f0.set 36 (.int 0)).set 37 (.int 0)).set 27 (.int 0)).set 31 (.int 0)).set 28 (.int 0)))), (h1, .inl (cI, 2001, .inl (upd g0 0 0))), (h2, .inl (cI, 2001, .inl (upd g1 0 0))), (h3, .inl (cI, 2001, .inl (upd g2 0 0))), (h4, .inl (cI, 2001, .inl (upd g3 0 0)))] := hD
  refine lv_aload_n hx hb dX12_readText_20 rfl (lv_at hl 0 rfl) ?_
  refine va_get (D := D) (ref := "IntegerHouseModel") (ci := 12) (v := .int 0) (C := RX12) (T := TX12) (N := 195) hx hb hts hin12 hown hK hP 0 rfl rfl 31 (by decide) (hts (.fieldLink RX12 562 "IntegerHouseModel" "faulty" "Z") (List.mem_cons_of_mem _ (List.mem_append_left _ (List.mem_append_left _ (List.mem_of_getElem? (i := 4) rfl))))) (fun _ h9 => h9) (k_ne (by decide) (k_set (k_ne (by decide) (k_ne (by decide) (k_ne (by decide) e5))))) dX12_readText_21 ?_
  refine lv_if_ne (tgt := 106) hx hb dX12_readText_24 (by decide) (fun c9 => absurd (by decide) c9) (fun _ => ?_)
  refine lv_aload_n hx hb dX12_readText_27 rfl (lv_at hl 0 rfl) ?_
  refine va_get (D := D) (ref := "IntegerHouseModel") (ci := 12) (v := .ref h3) (C := RX12) (T := TX12) (N := 195) hx hb hts hin12 hown hK hP 0 rfl rfl 25 (by decide) (hts (.fieldLink RX12 87 "IntegerHouseModel" "tokenKind" "[I") (List.mem_cons_of_mem _ (List.mem_append_left _ (List.mem_append_left _ (List.mem_of_getElem? (i := 5) rfl))))) (fun _ h9 => h9) (k_ne (by decide) (k_ne (by decide) (k_ne (by decide) (k_ne (by decide) (k_ne (by decide) e10))))) dX12_readText_28 ?_
  refine lv_aload_n hx hb dX12_readText_31 rfl (lv_at hl 0 rfl) ?_
  refine va_get (D := D) (ref := "IntegerHouseModel") (ci := 12) (v := .int 0) (C := RX12) (T := TX12) (N := 195) hx hb hts hin12 hown hK hP 0 rfl rfl 28 (by decide) (hts (.fieldLink RX12 597 "IntegerHouseModel" "now" "I") (List.mem_cons_of_mem _ (List.mem_append_left _ (List.mem_append_left _ (List.mem_of_getElem? (i := 6) rfl))))) (fun _ h9 => h9) (k_set (k_ne (by decide) (k_ne (by decide) (k_ne (by decide) (k_ne (by decide) e6))))) dX12_readText_32 ?_
  refine va_iald hx hb hK hP 3 0 rfl rfl (k_in (by decide)) dX12_readText_35 ?_
  refine k_topi (y := 0) rfl ?_
  refine lv_if_eq (tgt := 106) hx hb dX12_readText_36 (by decide) (fun _ => ?_) (fun c9 => absurd (by decide) c9)
  refine lv_aload_n hx hb dX12_readText_106 rfl (lv_at hl 0 rfl) ?_
  refine va_get (D := D) (ref := "IntegerHouseModel") (ci := 12) (v := .int 0) (C := RX12) (T := TX12) (N := 195) hx hb hts hin12 hown hK hP 0 rfl rfl 33 (by decide) (hts (.fieldLink RX12 818 "IntegerHouseModel" "claims" "I") (List.mem_cons_of_mem _ (List.mem_append_left _ (List.mem_append_left _ (List.mem_of_getElem? (i := 2) rfl))))) (fun _ h9 => h9) (k_ne (by decide) (k_ne (by decide) (k_ne (by decide) (k_ne (by decide) (k_ne (by decide) e2))))) dX12_readText_107 ?_
  refine lv_istore_n (lv' := [(1, .int 0), (0, .ref h0)]) hx hb dX12_readText_110 rfl hl (by decide) rfl (fun ls hl => ?_)
  refine lv_iload_n hx hb dX12_readText_111 rfl (lv_at hl 0 rfl) ?_
  refine lv_aload_n hx hb dX12_readText_112 rfl (lv_at hl 1 rfl) ?_
  refine va_get (D := D) (ref := "IntegerHouseModel") (ci := 12) (v := .int 0) (C := RX12) (T := TX12) (N := 195) hx hb hts hin12 hown hK hP 0 rfl rfl 37 (by decide) (hts (.fieldLink RX12 627 "IntegerHouseModel" "knownClaims" "I") (List.mem_cons_of_mem _ (List.mem_append_left _ (List.mem_append_left _ (List.mem_of_getElem? (i := 3) rfl))))) (fun _ h9 => h9) (k_ne (by decide) (k_ne (by decide) (k_ne (by decide) (k_set (k_ne (by decide) e3))))) dX12_readText_113 ?_
  refine lv_icmp_ge (tgt := 157) hx hb dX12_readText_116 (by decide) (fun _ => ?_) (fun c9 => absurd (by decide) c9)
  refine lv_aload_n hx hb dX12_readText_157 rfl (lv_at hl 1 rfl) ?_
  refine va_get (D := D) (ref := "IntegerHouseModel") (ci := 12) (v := .int 0) (C := RX12) (T := TX12) (N := 195) hx hb hts hin12 hown hK hP 0 rfl rfl 31 (by decide) (hts (.fieldLink RX12 562 "IntegerHouseModel" "faulty" "Z") (List.mem_cons_of_mem _ (List.mem_append_left _ (List.mem_append_left _ (List.mem_of_getElem? (i := 4) rfl))))) (fun _ h9 => h9) (k_ne (by decide) (k_set (k_ne (by decide) (k_ne (by decide) (k_ne (by decide) e5))))) dX12_readText_158 ?_
  refine lv_if_eq (tgt := 173) hx hb dX12_readText_161 (by decide) (fun _ => ?_) (fun c9 => absurd (by decide) c9)
  refine lv_aload_n hx hb dX12_readText_173 rfl (lv_at hl 1 rfl) ?_
  refine k_cVi (As := []) (rest := []) (wc := [(h0, .inr (12, (((((f0.set 36 (.int 0)).set 37 (.int 0)).set 27 (.int 0)).set 31 (.int 0)).set 28 (.int 0))))]) (wr := [(h1, .inl (cI, 2001, .inl (upd g0 0 0))), (h2, .inl (cI, 2001, .inl (upd g1 0 0))), (h3, .inl (cI, 2001, .inl (upd g2 0 0))), (h4, .inl (cI, 2001, .inl (upd g3 0 0)))]) (w1 := [(h0, .inr (12, (((((f0.set 36 (.int 0)).set 37 (.int 0)).set 27 (.int 0)).set 31 (.int 0)).set 28 (.int 0))))]) ⟨hx, hb, hml, hown, hts⟩ hN hX hAE hK hP hD hS hA [0] [1, 2, 3, 4] (ci := 12) rfl rfl rfl rfl (by decide +kernel) (by decide +kernel) (by decide +kernel) (c_X12_full_0 l E D cI cJ cB cZ h0 ((((((f0.set 36 (.int 0)).set 37 (.int 0)).set 27 (.int 0)).set 31 (.int 0)).set 28 (.int 0))) (k_ne (by decide) (k_ne (by decide) (k_ne (by decide) (k_ne (by decide) (k_ne (by decide) e12))))) (k_ne (by decide) (k_ne (by decide) (k_ne (by decide) (k_ne (by decide) (k_ne (by decide) e7))))) (k_ne (by decide) (k_ne (by decide) (k_ne (by decide) (k_ne (by decide) (k_ne (by decide) e13))))) (k_ne (by decide) (k_ne (by decide) (k_ne (by decide) (k_ne (by decide) (k_ne (by decide) e14))))) (k_ne (by decide) (k_ne (by decide) (k_ne (by decide) (k_ne (by decide) (k_ne (by decide) e15)))))) (cwV 0 hts gX12_readText_X12_full rfl rfl rfl (by decide +kernel) ⟨Nat.le_of_ble_eq_true rfl, Nat.le_of_ble_eq_true rfl⟩) rfl hl.1 (Nat.le_of_ble_eq_true rfl) dX12_readText_174 ⟨Nat.le_of_ble_eq_true rfl, Nat.le_of_ble_eq_true rfl⟩ (fun H locs hP hD hS => ?_)
  have hP : va_P D vwCl [(h1, .inl (cI, 2001, .inl (upd g0 0 0))), (h2, .inl (cI, 2001, .inl (upd g1 0 0))), (h3, .inl (cI, 2001, .inl (upd g2 0 0))), (h4, .inl (cI, 2001, .inl (upd g3 0 0))), (h0, .inr (12, (((((f0.set 36 (.int 0)).set 37 (.int 0)).set 27 (.int 0)).set 31 (.int 0)).set 28 (.int 0))))] H := hP
  have hD : va_D A [(h1, .inl (cI, 2001, .inl (upd g0 0 0))), (h2, .inl (cI, 2001, .inl (upd g1 0 0))), (h3, .inl (cI, 2001, .inl (upd g2 0 0))), (h4, .inl (cI, 2001, .inl (upd g3 0 0))), (h0, .inr (12, (((((f0.set 36 (.int 0)).set 37 (.int 0)).set 27 (.int 0)).set 31 (.int 0)).set 28 (.int 0))))] := hD
  refine lv_if_eq (tgt := 187) hx hb dX12_readText_177 (by decide) (fun _ => ?_) (fun c9 => absurd (by decide) c9)
  refine lv_aload_n hx hb dX12_readText_187 rfl (lv_at hl 1 rfl) ?_
  refine va_get (D := D) (ref := "IntegerHouseModel") (ci := 12) (v := .int 0) (C := RX12) (T := TX12) (N := 195) hx hb hts hin12 hown hK hP 4 rfl rfl 37 (by decide) (hts (.fieldLink RX12 627 "IntegerHouseModel" "knownClaims" "I") (List.mem_cons_of_mem _ (List.mem_append_left _ (List.mem_append_left _ (List.mem_of_getElem? (i := 3) rfl))))) (fun _ h9 => h9) (k_ne (by decide) (k_ne (by decide) (k_ne (by decide) (k_set (k_ne (by decide) e3))))) dX12_readText_188 ?_
  refine lv_aload_n hx hb dX12_readText_191 rfl (lv_at hl 1 rfl) ?_
  refine va_get (D := D) (ref := "IntegerHouseModel") (ci := 12) (v := .int 0) (C := RX12) (T := TX12) (N := 195) hx hb hts hin12 hown hK hP 4 rfl rfl 33 (by decide) (hts (.fieldLink RX12 818 "IntegerHouseModel" "claims" "I") (List.mem_cons_of_mem _ (List.mem_append_left _ (List.mem_append_left _ (List.mem_of_getElem? (i := 2) rfl))))) (fun _ h9 => h9) (k_ne (by decide) (k_ne (by decide) (k_ne (by decide) (k_ne (by decide) (k_ne (by decide) e2))))) dX12_readText_192 ?_
  refine lv_isub hx hb dX12_readText_195 ?_
  refine k_topi (y := 0) (by decide) ?_
  refine lv_istore_n (lv' := [(1, .int 0), (0, .ref h0)]) hx hb dX12_readText_196 rfl hl (by decide) rfl (fun ls hl => ?_)
  refine lv_aload_n hx hb dX12_readText_197 rfl (lv_at hl 1 rfl) ?_
  refine va_get (D := D) (ref := "IntegerHouseModel") (ci := 12) (v := .int 0) (C := RX12) (T := TX12) (N := 195) hx hb hts hin12 hown hK hP 4 rfl rfl 33 (by decide) (hts (.fieldLink RX12 818 "IntegerHouseModel" "claims" "I") (List.mem_cons_of_mem _ (List.mem_append_left _ (List.mem_append_left _ (List.mem_of_getElem? (i := 2) rfl))))) (fun _ h9 => h9) (k_ne (by decide) (k_ne (by decide) (k_ne (by decide) (k_ne (by decide) (k_ne (by decide) e2))))) dX12_readText_198 ?_
  refine lv_istore_n (lv' := [(2, .int 0), (1, .int 0), (0, .ref h0)]) hx hb dX12_readText_201 rfl hl (by decide) rfl (fun ls hl => ?_)
  refine lv_iload_n hx hb dX12_readText_202 rfl (lv_at hl 0 rfl) ?_
  refine lv_aload_n hx hb dX12_readText_203 rfl (lv_at hl 2 rfl) ?_
  refine va_get (D := D) (ref := "IntegerHouseModel") (ci := 12) (v := .int 0) (C := RX12) (T := TX12) (N := 195) hx hb hts hin12 hown hK hP 4 rfl rfl 37 (by decide) (hts (.fieldLink RX12 627 "IntegerHouseModel" "knownClaims" "I") (List.mem_cons_of_mem _ (List.mem_append_left _ (List.mem_append_left _ (List.mem_of_getElem? (i := 3) rfl))))) (fun _ h9 => h9) (k_ne (by decide) (k_ne (by decide) (k_ne (by decide) (k_set (k_ne (by decide) e3))))) dX12_readText_204 ?_
  refine lv_icmp_ge (tgt := 233) hx hb dX12_readText_207 (by decide) (fun _ => ?_) (fun c9 => absurd (by decide) c9)
  refine lv_aload_n hx hb dX12_readText_233 rfl (lv_at hl 2 rfl) ?_
  refine lv_aload_n hx hb dX12_readText_234 rfl (lv_at hl 2 rfl) ?_
  refine va_get (D := D) (ref := "IntegerHouseModel") (ci := 12) (v := .int 0) (C := RX12) (T := TX12) (N := 195) hx hb hts hin12 hown hK hP 4 rfl rfl 36 (by decide) (hts (.fieldLink RX12 620 "IntegerHouseModel" "knownVariables" "I") (List.mem_cons_of_mem _ (List.mem_append_left _ (List.mem_append_left _ (List.mem_of_getElem? (i := 1) rfl))))) (fun _ h9 => h9) (k_ne (by decide) (k_ne (by decide) (k_ne (by decide) (k_ne (by decide) (k_set e1))))) dX12_readText_235 ?_
  refine va_put (D := D) (ref := "IntegerHouseModel") (ci := 12) (v := .int 0) (ty := .int) (C := RX12) (T := TX12) (N := 195) hx hb hts hin12 tyX12 tyX12_ok nmX12 hown hK hP hD hS 4 rfl rfl 32 (by decide) (hts (.fieldLink RX12 815 "IntegerHouseModel" "variables" "I") (List.mem_cons_of_mem _ (List.mem_append_left _ (List.mem_append_left _ (List.mem_of_getElem? (i := 0) rfl))))) (fun _ h9 => h9) rfl (by decide +kernel) rfl rfl (k_len (k_ne (by decide) (k_ne (by decide) (k_ne (by decide) (k_ne (by decide) (k_ne (by decide) e0)))))) dX12_readText_238 (fun H locs hP hD hS => ?_)
  have hP : va_P D vwCl [(h1, .inl (cI, 2001, .inl (upd g0 0 0))), (h2, .inl (cI, 2001, .inl (upd g1 0 0))), (h3, .inl (cI, 2001, .inl (upd g2 0 0))), (h4, .inl (cI, 2001, .inl (upd g3 0 0))), (h0, .inr (12, ((((((f0.set 36 (.int 0)).set 37 (.int 0)).set 27 (.int 0)).set 31 (.int 0)).set 28 (.int 0)).set 32 (.int 0))))] H := hP
  have hD : va_D A [(h1, .inl (cI, 2001, .inl (upd g0 0 0))), (h2, .inl (cI, 2001, .inl (upd g1 0 0))), (h3, .inl (cI, 2001, .inl (upd g2 0 0))), (h4, .inl (cI, 2001, .inl (upd g3 0 0))), (h0, .inr (12, ((((((f0.set 36 (.int 0)).set 37 (.int 0)).set 27 (.int 0)).set 31 (.int 0)).set 28 (.int 0)).set 32 (.int 0))))] := hD
  refine lv_aload_n hx hb dX12_readText_241 rfl (lv_at hl 2 rfl) ?_
  refine lv_aload_n hx hb dX12_readText_242 rfl (lv_at hl 2 rfl) ?_
  refine va_get (D := D) (ref := "IntegerHouseModel") (ci := 12) (v := .int 0) (C := RX12) (T := TX12) (N := 195) hx hb hts hin12 hown hK hP 4 rfl rfl 37 (by decide) (hts (.fieldLink RX12 627 "IntegerHouseModel" "knownClaims" "I") (List.mem_cons_of_mem _ (List.mem_append_left _ (List.mem_append_left _ (List.mem_of_getElem? (i := 3) rfl))))) (fun _ h9 => h9) (k_ne (by decide) (k_ne (by decide) (k_ne (by decide) (k_ne (by decide) (k_set (k_ne (by decide) e3)))))) dX12_readText_243 ?_
  refine va_put (D := D) (ref := "IntegerHouseModel") (ci := 12) (v := .int 0) (ty := .int) (C := RX12) (T := TX12) (N := 195) hx hb hts hin12 tyX12 tyX12_ok nmX12 hown hK hP hD hS 4 rfl rfl 33 (by decide) (hts (.fieldLink RX12 818 "IntegerHouseModel" "claims" "I") (List.mem_cons_of_mem _ (List.mem_append_left _ (List.mem_append_left _ (List.mem_of_getElem? (i := 2) rfl))))) (fun _ h9 => h9) rfl (by decide +kernel) rfl rfl (k_len (k_ne (by decide) (k_ne (by decide) (k_ne (by decide) (k_ne (by decide) (k_ne (by decide) (k_ne (by decide) e2))))))) dX12_readText_246 (fun H locs hP hD hS => ?_)
  have hP : va_P D vwCl [(h1, .inl (cI, 2001, .inl (upd g0 0 0))), (h2, .inl (cI, 2001, .inl (upd g1 0 0))), (h3, .inl (cI, 2001, .inl (upd g2 0 0))), (h4, .inl (cI, 2001, .inl (upd g3 0 0))), (h0, .inr (12, (((((((f0.set 36 (.int 0)).set 37 (.int 0)).set 27 (.int 0)).set 31 (.int 0)).set 28 (.int 0)).set 32 (.int 0)).set 33 (.int 0))))] H := hP
  have hD : va_D A [(h1, .inl (cI, 2001, .inl (upd g0 0 0))), (h2, .inl (cI, 2001, .inl (upd g1 0 0))), (h3, .inl (cI, 2001, .inl (upd g2 0 0))), (h4, .inl (cI, 2001, .inl (upd g3 0 0))), (h0, .inr (12, (((((((f0.set 36 (.int 0)).set 37 (.int 0)).set 27 (.int 0)).set 31 (.int 0)).set 28 (.int 0)).set 32 (.int 0)).set 33 (.int 0))))] := hD
  refine lv_iload_n hx hb dX12_readText_249 rfl (lv_at hl 1 rfl) ?_
  have hP := hP.sub (ws' := [(h0, .inr (12, (((((((f0.set 36 (.int 0)).set 37 (.int 0)).set 27 (.int 0)).set 31 (.int 0)).set 28 (.int 0)).set 32 (.int 0)).set 33 (.int 0)))), (h1, .inl (cI, 2001, .inl (upd g0 0 0))), (h2, .inl (cI, 2001, .inl (upd g1 0 0))), (h3, .inl (cI, 2001, .inl (upd g2 0 0))), (h4, .inl (cI, 2001, .inl (upd g3 0 0)))]) [4, 0, 1, 2, 3] rfl
  have hD := hD.sub (ws' := [(h0, .inr (12, (((((((f0.set 36 (.int 0)).set 37 (.int 0)).set 27 (.int 0)).set 31 (.int 0)).set 28 (.int 0)).set 32 (.int 0)).set 33 (.int 0)))), (h1, .inl (cI, 2001, .inl (upd g0 0 0))), (h2, .inl (cI, 2001, .inl (upd g1 0 0))), (h3, .inl (cI, 2001, .inl (upd g2 0 0))), (h4, .inl (cI, 2001, .inl (upd g3 0 0)))]) [4, 0, 1, 2, 3] (by decide +kernel) rfl
  exact W.iret (v := 0) hx hb hr (fun t ht hW => ⟨⟨0, (), rfl, rfl, kB_mk ht hW hP hK hD⟩, hS.F ht⟩) hS.2.2 dX12_readText_250
set_option maxHeartbeats 400000000 in
set_option maxRecDepth 100000 in
theorem c_X12_act_0 (l : Launch) (E : kE) (D : va_G) (cI cJ cB cZ : ClassId) (h0 : Nat) (f0 : List Value) (h1 : Nat) (h2 : Nat) (h3 : Nat) (h4 : Nat) (g0 : Nat → Int32) (g1 : Nat → Int32) (g2 : Nat → Int32) (g3 : Nat → Int32) (e0 : f0[15]? = some (.int 1)) (e1 : f0[32]? = some (.int 0)) (e2 : f0[36]? = some (.int 0)) (e3 : f0[33]? = some (.int 0)) (e4 : f0[37]? = some (.int 0)) (e5 : f0[27]? = some (.int 0)) (e6 : f0[31]? = some (.int 0)) (e7 : f0[28]? = some (.int 0)) (e8 : f0[12]? = some (.int 0)) (e9 : f0[23]? = some (.ref h1)) (e10 : f0[24]? = some (.ref h2)) (e11 : f0[25]? = some (.ref h3)) (e12 : f0[26]? = some (.ref h4)) (e13 : f0[13]? = some (.int 0)) (e14 : f0[9]? = some (.int 0)) (e15 : f0[4]? = some (.int 0)) : kI l E D (kT cI cJ cB cZ) yX12_act wsX12_act ({ frames := 3, cells := 0, slots := 0, locals := 70 }) [.ref h0] [(h0, .inr (12, f0)), (h1, .inl (cI, 2001, .inl g0)), (h2, .inl (cI, 2001, .inl g1)), (h3, .inl (cI, 2001, .inl g2)), (h4, .inl (cI, 2001, .inl g3))] (0) [(h0, .inr (12, (((((((f0.set 36 (.int 0)).set 37 (.int 0)).set 27 (.int 0)).set 31 (.int 0)).set 28 (.int 0)).set 32 (.int 0)).set 33 (.int 0)))), (h1, .inl (cI, 2001, .inl (upd g0 0 0))), (h2, .inl (cI, 2001, .inl (upd g1 0 0))), (h3, .inl (cI, 2001, .inl (upd g2 0 0))), (h4, .inl (cI, 2001, .inl (upd g3 0 0)))] 0 0 := by
  intro sz
  refine Met.ofW (cc := cX12_act) (maxL := 1) (ret := (some .int)) (by decide) rfl ?_
  intro p e s m args below meth c s₁ B hml hv
  obtain ⟨rfl, hsz, hP, hK, hD0, hN, hX⟩ := hv
  have hx := B.exec
  have hb := B.bytes
  have hr := B.returns
  have hts := atoms_spec (ws := wsX12_act) B.pre
  have hown : s.vm.findClass RX12 = some m.cls := findClass_of_methodNamed B.named
  have hlocks := B.notSynchronized
  have hin12 : ∀ w ∈ wsX120, w ∈ wsX12_act := (fun w h => (List.mem_cons_of_mem _ (List.mem_append_right _ h)))
  subst hsz
  have hD := hD0.self (sz := s.heap.size)
  have hAE := k_AE hD0 hX
  generalize hAe : va_A [(h0, .inr (12, f0)), (h1, .inl (cI, 2001, .inl g0)), (h2, .inl (cI, 2001, .inl g1)), (h3, .inl (cI, 2001, .inl g2)), (h4, .inl (cI, 2001, .inl g3))] s.heap.size = A at hD hAE ⊢
  have hA : ∀ q : Nat, s.heap.size ≤ q → A q := fun q h => by rw [← hAe]; exact Or.inr h
  have hS : va_S A s.heap s.heap [] := va_S.rf
  have hP : va_P D vwCl [(h0, .inr (12, f0)), (h1, .inl (cI, 2001, .inl g0)), (h2, .inl (cI, 2001, .inl g1)), (h3, .inl (cI, 2001, .inl g2)), (h4, .inl (cI, 2001, .inl g3))] s.heap := hP
  have hl := lv_entry ([.ref h0] : List Value) (n := 1) (Nat.le_of_ble_eq_true rfl)
  rw [lg_entry_eq]
  generalize (lg_sl ([.ref h0]) ++ List.replicate (1 - (lg_sl ([.ref h0])).length) Slot.unset).toArray = ls at hl ⊢
  have hl : lv_has ls 1 [(0, .ref h0)] := hl
  refine lv_aload_n hx hb dX12_act_0 rfl (lv_at hl 0 rfl) ?_
  refine va_get (D := D) (ref := "IntegerHouseModel") (ci := 12) (v := .int 1) (C := RX12) (T := TX12) (N := 195) hx hb hts hin12 hown hK hP 0 rfl rfl 15 (by decide) (hts (.fieldLink RX12 466 "IntegerHouseModel" "number" "I") (List.mem_cons_of_mem _ (List.mem_append_left _ (List.mem_append_left _ (List.mem_of_getElem? (i := 0) rfl))))) (fun _ h9 => h9) e0 dX12_act_1 ?_
  refine lv_tableIn (off := 28) (tgt := 32) hx hb dX12_act_4 (by decide) (by decide) rfl (by decide) ?_
  refine lv_aload_n hx hb dX12_act_32 rfl (lv_at hl 0 rfl) ?_
  refine k_cVi (As := []) (rest := []) (wc := [(h0, .inr (12, f0)), (h1, .inl (cI, 2001, .inl g0)), (h2, .inl (cI, 2001, .inl g1)), (h3, .inl (cI, 2001, .inl g2)), (h4, .inl (cI, 2001, .inl g3))]) (wr := []) (w1 := [(h0, .inr (12, (((((((f0.set 36 (.int 0)).set 37 (.int 0)).set 27 (.int 0)).set 31 (.int 0)).set 28 (.int 0)).set 32 (.int 0)).set 33 (.int 0)))), (h1, .inl (cI, 2001, .inl (upd g0 0 0))), (h2, .inl (cI, 2001, .inl (upd g1 0 0))), (h3, .inl (cI, 2001, .inl (upd g2 0 0))), (h4, .inl (cI, 2001, .inl (upd g3 0 0)))]) ⟨hx, hb, hml, hown, hts⟩ hN hX hAE hK hP hD hS hA [0, 1, 2, 3, 4] [] (ci := 12) rfl rfl rfl rfl (by decide +kernel) (by decide +kernel) (by decide +kernel) (c_X12_readText_0 l E D cI cJ cB cZ h0 f0 h1 h2 h3 h4 g0 g1 g2 g3 e1 e2 e3 e4 e5 e6 e7 e8 e9 e10 e11 e12 e0 e13 e14 e15) (cwV 0 hts gX12_act_X12_readText rfl rfl rfl (by decide +kernel) ⟨Nat.le_of_ble_eq_true rfl, Nat.le_of_ble_eq_true rfl⟩) rfl hl.1 (Nat.le_of_ble_eq_true rfl) dX12_act_33 ⟨Nat.le_of_ble_eq_true rfl, Nat.le_of_ble_eq_true rfl⟩ (fun H locs hP hD hS => ?_)
  have hP : va_P D vwCl [(h0, .inr (12, (((((((f0.set 36 (.int 0)).set 37 (.int 0)).set 27 (.int 0)).set 31 (.int 0)).set 28 (.int 0)).set 32 (.int 0)).set 33 (.int 0)))), (h1, .inl (cI, 2001, .inl (upd g0 0 0))), (h2, .inl (cI, 2001, .inl (upd g1 0 0))), (h3, .inl (cI, 2001, .inl (upd g2 0 0))), (h4, .inl (cI, 2001, .inl (upd g3 0 0)))] H := hP
  have hD : va_D A [(h0, .inr (12, (((((((f0.set 36 (.int 0)).set 37 (.int 0)).set 27 (.int 0)).set 31 (.int 0)).set 28 (.int 0)).set 32 (.int 0)).set 33 (.int 0)))), (h1, .inl (cI, 2001, .inl (upd g0 0 0))), (h2, .inl (cI, 2001, .inl (upd g1 0 0))), (h3, .inl (cI, 2001, .inl (upd g2 0 0))), (h4, .inl (cI, 2001, .inl (upd g3 0 0)))] := hD
  exact W.iret (v := 0) hx hb hr (fun t ht hW => ⟨⟨0, (), rfl, rfl, kB_mk ht hW hP hK hD⟩, hS.F ht⟩) hS.2.2 dX12_act_36
set_option maxHeartbeats 400000000 in
set_option maxRecDepth 100000 in
theorem c_X12_note_0 (l : Launch) (E : kE) (D : va_G) (cI cJ cB cZ : ClassId) (h0 : Nat) (f0 : List Value) (h1 : Nat) (g0 : Nat → Int32) (e0 : f0[8]? = some (.ref h1)) (e1 : f0[9]? = some (.int 0)) : kV l E D (kT cI cJ cB cZ) yX12_note wsX12_note ({ frames := 0, cells := 0, slots := 0, locals := 0 }) [.ref h0, .int 1] [(h0, .inr (12, f0)), (h1, .inl (cB, 24800, .inl g0))] (fun _ : Unit => [(h0, .inr (12, (f0.set 9 (.int 1)))), (h1, .inl (cB, 24800, .inl (upd g0 0 1)))]) 0 0 := by
  intro sz
  refine Met.ofW (cc := cX12_note) (maxL := 2) (ret := none) (by decide) rfl ?_
  intro p e s m args below meth c s₁ B hml hv
  obtain ⟨rfl, hsz, hP, hK, hD0, hN, hX⟩ := hv
  have hx := B.exec
  have hb := B.bytes
  have hr := B.returns
  have hts := atoms_spec (ws := wsX12_note) B.pre
  have hown : s.vm.findClass RX12 = some m.cls := findClass_of_methodNamed B.named
  have hlocks := B.notSynchronized
  have hin12 : ∀ w ∈ wsX120, w ∈ wsX12_note := (fun w h => (List.mem_cons_of_mem _ (List.mem_append_right _ h)))
  subst hsz
  have hD := hD0.self (sz := s.heap.size)
  have hAE := k_AE hD0 hX
  generalize hAe : va_A [(h0, .inr (12, f0)), (h1, .inl (cB, 24800, .inl g0))] s.heap.size = A at hD hAE ⊢
  have hA : ∀ q : Nat, s.heap.size ≤ q → A q := fun q h => by rw [← hAe]; exact Or.inr h
  have hS : va_S A s.heap s.heap [] := va_S.rf
  have hP : va_P D vwCl [(h0, .inr (12, f0)), (h1, .inl (cB, 24800, .inl g0))] s.heap := hP
  have hl := lv_entry ([.ref h0, .int 1] : List Value) (n := 2) (Nat.le_of_ble_eq_true rfl)
  rw [lg_entry_eq]
  generalize (lg_sl ([.ref h0, .int 1]) ++ List.replicate (2 - (lg_sl ([.ref h0, .int 1])).length) Slot.unset).toArray = ls at hl ⊢
  have hl : lv_has ls 2 [(0, .ref h0), (1, .int 1)] := hl
  refine lv_aload_n hx hb dX12_note_0 rfl (lv_at hl 0 rfl) ?_
  refine va_get (D := D) (ref := "IntegerHouseModel") (ci := 12) (v := .ref h1) (C := RX12) (T := TX12) (N := 195) hx hb hts hin12 hown hK hP 0 rfl rfl 8 (by decide) (hts (.fieldLink RX12 25 "IntegerHouseModel" "waits" "[B") (List.mem_cons_of_mem _ (List.mem_append_left _ (List.mem_of_getElem? (i := 0) rfl)))) (fun _ h9 => h9) e0 dX12_note_1 ?_
  refine lv_aload_n hx hb dX12_note_4 rfl (lv_at hl 0 rfl) ?_
  refine va_get (D := D) (ref := "IntegerHouseModel") (ci := 12) (v := .int 0) (C := RX12) (T := TX12) (N := 195) hx hb hts hin12 hown hK hP 0 rfl rfl 9 (by decide) (hts (.fieldLink RX12 475 "IntegerHouseModel" "waitBytes" "I") (List.mem_cons_of_mem _ (List.mem_append_left _ (List.mem_of_getElem? (i := 1) rfl)))) (fun _ h9 => h9) e1 dX12_note_5 ?_
  refine lv_iload_n hx hb dX12_note_8 rfl (lv_at hl 1 rfl) ?_
  refine lv_i2b (v := 1) hx hb dX12_note_9 (by decide) ?_
  refine va_bast hx hb hK hP hD hS 1 2 rfl rfl (k_in (by decide)) dX12_note_10 (fun H locs hP hD hS => ?_)
  have hP : va_P D vwCl [(h0, .inr (12, f0)), (h1, .inl (cB, 24800, .inl (upd g0 0 1)))] H := hP
  have hD : va_D A [(h0, .inr (12, f0)), (h1, .inl (cB, 24800, .inl (upd g0 0 1)))] := hD
  refine lv_aload_n hx hb dX12_note_11 rfl (lv_at hl 0 rfl) ?_
  refine lv_dup hx hb dX12_note_12 rfl ?_
  refine va_get (D := D) (ref := "IntegerHouseModel") (ci := 12) (v := .int 0) (C := RX12) (T := TX12) (N := 195) hx hb hts hin12 hown hK hP 0 rfl rfl 9 (by decide) (hts (.fieldLink RX12 475 "IntegerHouseModel" "waitBytes" "I") (List.mem_cons_of_mem _ (List.mem_append_left _ (List.mem_of_getElem? (i := 1) rfl)))) (fun _ h9 => h9) e1 dX12_note_13 ?_
  refine lv_iconst (v := 1) hx hb dX12_note_16 (by decide) ?_
  refine lv_iadd hx hb dX12_note_17 ?_
  refine k_topi (y := 1) (by decide) ?_
  refine va_put (D := D) (ref := "IntegerHouseModel") (ci := 12) (v := .int 1) (ty := .int) (C := RX12) (T := TX12) (N := 195) hx hb hts hin12 tyX12 tyX12_ok nmX12 hown hK hP hD hS 0 rfl rfl 9 (by decide) (hts (.fieldLink RX12 475 "IntegerHouseModel" "waitBytes" "I") (List.mem_cons_of_mem _ (List.mem_append_left _ (List.mem_of_getElem? (i := 1) rfl)))) (fun _ h9 => h9) rfl (by decide +kernel) rfl rfl (k_len e1) dX12_note_18 (fun H locs hP hD hS => ?_)
  have hP : va_P D vwCl [(h0, .inr (12, (f0.set 9 (.int 1)))), (h1, .inl (cB, 24800, .inl (upd g0 0 1)))] H := hP
  have hD : va_D A [(h0, .inr (12, (f0.set 9 (.int 1)))), (h1, .inl (cB, 24800, .inl (upd g0 0 1)))] := hD
  exact W.vret hx hb hr (fun t ht hW => ⟨⟨(), rfl, trivial, kB_mk ht hW hP hK hD⟩, hS.F ht⟩) hS.2.2 dX12_note_21
set_option maxHeartbeats 400000000 in
set_option maxRecDepth 100000 in
theorem c_X12_note_1 (l : Launch) (E : kE) (D : va_G) (cI cJ cB cZ : ClassId) (h0 : Nat) (f0 : List Value) (h1 : Nat) (g0 : Nat → Int32) (e0 : f0[8]? = some (.ref h1)) (e1 : f0[9]? = some (.int 1)) : kV l E D (kT cI cJ cB cZ) yX12_note wsX12_note ({ frames := 0, cells := 0, slots := 0, locals := 0 }) [.ref h0, .int 0] [(h0, .inr (12, f0)), (h1, .inl (cB, 24800, .inl g0))] (fun _ : Unit => [(h0, .inr (12, (f0.set 9 (.int 2)))), (h1, .inl (cB, 24800, .inl (upd g0 1 0)))]) 0 0 := by
  intro sz
  refine Met.ofW (cc := cX12_note) (maxL := 2) (ret := none) (by decide) rfl ?_
  intro p e s m args below meth c s₁ B hml hv
  obtain ⟨rfl, hsz, hP, hK, hD0, hN, hX⟩ := hv
  have hx := B.exec
  have hb := B.bytes
  have hr := B.returns
  have hts := atoms_spec (ws := wsX12_note) B.pre
  have hown : s.vm.findClass RX12 = some m.cls := findClass_of_methodNamed B.named
  have hlocks := B.notSynchronized
  have hin12 : ∀ w ∈ wsX120, w ∈ wsX12_note := (fun w h => (List.mem_cons_of_mem _ (List.mem_append_right _ h)))
  subst hsz
  have hD := hD0.self (sz := s.heap.size)
  have hAE := k_AE hD0 hX
  generalize hAe : va_A [(h0, .inr (12, f0)), (h1, .inl (cB, 24800, .inl g0))] s.heap.size = A at hD hAE ⊢
  have hA : ∀ q : Nat, s.heap.size ≤ q → A q := fun q h => by rw [← hAe]; exact Or.inr h
  have hS : va_S A s.heap s.heap [] := va_S.rf
  have hP : va_P D vwCl [(h0, .inr (12, f0)), (h1, .inl (cB, 24800, .inl g0))] s.heap := hP
  have hl := lv_entry ([.ref h0, .int 0] : List Value) (n := 2) (Nat.le_of_ble_eq_true rfl)
  rw [lg_entry_eq]
  generalize (lg_sl ([.ref h0, .int 0]) ++ List.replicate (2 - (lg_sl ([.ref h0, .int 0])).length) Slot.unset).toArray = ls at hl ⊢
  have hl : lv_has ls 2 [(0, .ref h0), (1, .int 0)] := hl
  refine lv_aload_n hx hb dX12_note_0 rfl (lv_at hl 0 rfl) ?_
  refine va_get (D := D) (ref := "IntegerHouseModel") (ci := 12) (v := .ref h1) (C := RX12) (T := TX12) (N := 195) hx hb hts hin12 hown hK hP 0 rfl rfl 8 (by decide) (hts (.fieldLink RX12 25 "IntegerHouseModel" "waits" "[B") (List.mem_cons_of_mem _ (List.mem_append_left _ (List.mem_of_getElem? (i := 0) rfl)))) (fun _ h9 => h9) e0 dX12_note_1 ?_
  refine lv_aload_n hx hb dX12_note_4 rfl (lv_at hl 0 rfl) ?_
  refine va_get (D := D) (ref := "IntegerHouseModel") (ci := 12) (v := .int 1) (C := RX12) (T := TX12) (N := 195) hx hb hts hin12 hown hK hP 0 rfl rfl 9 (by decide) (hts (.fieldLink RX12 475 "IntegerHouseModel" "waitBytes" "I") (List.mem_cons_of_mem _ (List.mem_append_left _ (List.mem_of_getElem? (i := 1) rfl)))) (fun _ h9 => h9) e1 dX12_note_5 ?_
  refine lv_iload_n hx hb dX12_note_8 rfl (lv_at hl 1 rfl) ?_
  refine lv_i2b (v := 0) hx hb dX12_note_9 (by decide) ?_
  refine va_bast hx hb hK hP hD hS 1 2 rfl rfl (k_in (by decide)) dX12_note_10 (fun H locs hP hD hS => ?_)
  have hP : va_P D vwCl [(h0, .inr (12, f0)), (h1, .inl (cB, 24800, .inl (upd g0 1 0)))] H := hP
  have hD : va_D A [(h0, .inr (12, f0)), (h1, .inl (cB, 24800, .inl (upd g0 1 0)))] := hD
  refine lv_aload_n hx hb dX12_note_11 rfl (lv_at hl 0 rfl) ?_
  refine lv_dup hx hb dX12_note_12 rfl ?_
  refine va_get (D := D) (ref := "IntegerHouseModel") (ci := 12) (v := .int 1) (C := RX12) (T := TX12) (N := 195) hx hb hts hin12 hown hK hP 0 rfl rfl 9 (by decide) (hts (.fieldLink RX12 475 "IntegerHouseModel" "waitBytes" "I") (List.mem_cons_of_mem _ (List.mem_append_left _ (List.mem_of_getElem? (i := 1) rfl)))) (fun _ h9 => h9) e1 dX12_note_13 ?_
  refine lv_iconst (v := 1) hx hb dX12_note_16 (by decide) ?_
  refine lv_iadd hx hb dX12_note_17 ?_
  refine k_topi (y := 2) (by decide) ?_
  refine va_put (D := D) (ref := "IntegerHouseModel") (ci := 12) (v := .int 2) (ty := .int) (C := RX12) (T := TX12) (N := 195) hx hb hts hin12 tyX12 tyX12_ok nmX12 hown hK hP hD hS 0 rfl rfl 9 (by decide) (hts (.fieldLink RX12 475 "IntegerHouseModel" "waitBytes" "I") (List.mem_cons_of_mem _ (List.mem_append_left _ (List.mem_of_getElem? (i := 1) rfl)))) (fun _ h9 => h9) rfl (by decide +kernel) rfl rfl (k_len e1) dX12_note_18 (fun H locs hP hD hS => ?_)
  have hP : va_P D vwCl [(h0, .inr (12, (f0.set 9 (.int 2)))), (h1, .inl (cB, 24800, .inl (upd g0 1 0)))] H := hP
  have hD : va_D A [(h0, .inr (12, (f0.set 9 (.int 2)))), (h1, .inl (cB, 24800, .inl (upd g0 1 0)))] := hD
  exact W.vret hx hb hr (fun t ht hW => ⟨⟨(), rfl, trivial, kB_mk ht hW hP hK hD⟩, hS.F ht⟩) hS.2.2 dX12_note_21
set_option maxHeartbeats 400000000 in
set_option maxRecDepth 100000 in
theorem c_X12_note_2 (l : Launch) (E : kE) (D : va_G) (cI cJ cB cZ : ClassId) (h0 : Nat) (f0 : List Value) (h1 : Nat) (g0 : Nat → Int32) (e0 : f0[8]? = some (.ref h1)) (e1 : f0[9]? = some (.int 2)) : kV l E D (kT cI cJ cB cZ) yX12_note wsX12_note ({ frames := 0, cells := 0, slots := 0, locals := 0 }) [.ref h0, .int 0] [(h0, .inr (12, f0)), (h1, .inl (cB, 24800, .inl g0))] (fun _ : Unit => [(h0, .inr (12, (f0.set 9 (.int 3)))), (h1, .inl (cB, 24800, .inl (upd g0 2 0)))]) 0 0 := by
  intro sz
  refine Met.ofW (cc := cX12_note) (maxL := 2) (ret := none) (by decide) rfl ?_
  intro p e s m args below meth c s₁ B hml hv
  obtain ⟨rfl, hsz, hP, hK, hD0, hN, hX⟩ := hv
  have hx := B.exec
  have hb := B.bytes
  have hr := B.returns
  have hts := atoms_spec (ws := wsX12_note) B.pre
  have hown : s.vm.findClass RX12 = some m.cls := findClass_of_methodNamed B.named
  have hlocks := B.notSynchronized
  have hin12 : ∀ w ∈ wsX120, w ∈ wsX12_note := (fun w h => (List.mem_cons_of_mem _ (List.mem_append_right _ h)))
  subst hsz
  have hD := hD0.self (sz := s.heap.size)
  have hAE := k_AE hD0 hX
  generalize hAe : va_A [(h0, .inr (12, f0)), (h1, .inl (cB, 24800, .inl g0))] s.heap.size = A at hD hAE ⊢
  have hA : ∀ q : Nat, s.heap.size ≤ q → A q := fun q h => by rw [← hAe]; exact Or.inr h
  have hS : va_S A s.heap s.heap [] := va_S.rf
  have hP : va_P D vwCl [(h0, .inr (12, f0)), (h1, .inl (cB, 24800, .inl g0))] s.heap := hP
  have hl := lv_entry ([.ref h0, .int 0] : List Value) (n := 2) (Nat.le_of_ble_eq_true rfl)
  rw [lg_entry_eq]
  generalize (lg_sl ([.ref h0, .int 0]) ++ List.replicate (2 - (lg_sl ([.ref h0, .int 0])).length) Slot.unset).toArray = ls at hl ⊢
  have hl : lv_has ls 2 [(0, .ref h0), (1, .int 0)] := hl
  refine lv_aload_n hx hb dX12_note_0 rfl (lv_at hl 0 rfl) ?_
  refine va_get (D := D) (ref := "IntegerHouseModel") (ci := 12) (v := .ref h1) (C := RX12) (T := TX12) (N := 195) hx hb hts hin12 hown hK hP 0 rfl rfl 8 (by decide) (hts (.fieldLink RX12 25 "IntegerHouseModel" "waits" "[B") (List.mem_cons_of_mem _ (List.mem_append_left _ (List.mem_of_getElem? (i := 0) rfl)))) (fun _ h9 => h9) e0 dX12_note_1 ?_
  refine lv_aload_n hx hb dX12_note_4 rfl (lv_at hl 0 rfl) ?_
  refine va_get (D := D) (ref := "IntegerHouseModel") (ci := 12) (v := .int 2) (C := RX12) (T := TX12) (N := 195) hx hb hts hin12 hown hK hP 0 rfl rfl 9 (by decide) (hts (.fieldLink RX12 475 "IntegerHouseModel" "waitBytes" "I") (List.mem_cons_of_mem _ (List.mem_append_left _ (List.mem_of_getElem? (i := 1) rfl)))) (fun _ h9 => h9) e1 dX12_note_5 ?_
  refine lv_iload_n hx hb dX12_note_8 rfl (lv_at hl 1 rfl) ?_
  refine lv_i2b (v := 0) hx hb dX12_note_9 (by decide) ?_
  refine va_bast hx hb hK hP hD hS 1 2 rfl rfl (k_in (by decide)) dX12_note_10 (fun H locs hP hD hS => ?_)
  have hP : va_P D vwCl [(h0, .inr (12, f0)), (h1, .inl (cB, 24800, .inl (upd g0 2 0)))] H := hP
  have hD : va_D A [(h0, .inr (12, f0)), (h1, .inl (cB, 24800, .inl (upd g0 2 0)))] := hD
  refine lv_aload_n hx hb dX12_note_11 rfl (lv_at hl 0 rfl) ?_
  refine lv_dup hx hb dX12_note_12 rfl ?_
  refine va_get (D := D) (ref := "IntegerHouseModel") (ci := 12) (v := .int 2) (C := RX12) (T := TX12) (N := 195) hx hb hts hin12 hown hK hP 0 rfl rfl 9 (by decide) (hts (.fieldLink RX12 475 "IntegerHouseModel" "waitBytes" "I") (List.mem_cons_of_mem _ (List.mem_append_left _ (List.mem_of_getElem? (i := 1) rfl)))) (fun _ h9 => h9) e1 dX12_note_13 ?_
  refine lv_iconst (v := 1) hx hb dX12_note_16 (by decide) ?_
  refine lv_iadd hx hb dX12_note_17 ?_
  refine k_topi (y := 3) (by decide) ?_
  refine va_put (D := D) (ref := "IntegerHouseModel") (ci := 12) (v := .int 3) (ty := .int) (C := RX12) (T := TX12) (N := 195) hx hb hts hin12 tyX12 tyX12_ok nmX12 hown hK hP hD hS 0 rfl rfl 9 (by decide) (hts (.fieldLink RX12 475 "IntegerHouseModel" "waitBytes" "I") (List.mem_cons_of_mem _ (List.mem_append_left _ (List.mem_of_getElem? (i := 1) rfl)))) (fun _ h9 => h9) rfl (by decide +kernel) rfl rfl (k_len e1) dX12_note_18 (fun H locs hP hD hS => ?_)
  have hP : va_P D vwCl [(h0, .inr (12, (f0.set 9 (.int 3)))), (h1, .inl (cB, 24800, .inl (upd g0 2 0)))] H := hP
  have hD : va_D A [(h0, .inr (12, (f0.set 9 (.int 3)))), (h1, .inl (cB, 24800, .inl (upd g0 2 0)))] := hD
  exact W.vret hx hb hr (fun t ht hW => ⟨⟨(), rfl, trivial, kB_mk ht hW hP hK hD⟩, hS.F ht⟩) hS.2.2 dX12_note_21
set_option maxHeartbeats 400000000 in
set_option maxRecDepth 100000 in
theorem c_X12_call_0 (l : Launch) (E : kE) (D : va_G) (cI cJ cB cZ : ClassId) (h0 : Nat) (f0 : List Value) (h1 : Nat) (h2 : Nat) (h3 : Nat) (h4 : Nat) (g0 : Nat → Int32) (g1 : Nat → Int32) (g2 : Nat → Int32) (g3 : Nat → Int32) (h5 : Nat) (g4 : Nat → Int32) (e0 : f0[0]? = some (.int 0)) (e1 : f0[5]? = some (.int 0)) (e2 : f0[15]? = some (.int 0)) (e3 : f0[13]? = some (.int 0)) (e4 : f0[14]? = some (.int 0)) (e5 : f0[2]? = some (.int 0)) (e6 : f0[12]? = some (.int 0)) (e7 : f0[32]? = some (.int 0)) (e8 : f0[36]? = some (.int 0)) (e9 : f0[33]? = some (.int 0)) (e10 : f0[37]? = some (.int 0)) (e11 : f0[27]? = some (.int 0)) (e12 : f0[31]? = some (.int 0)) (e13 : f0[28]? = some (.int 0)) (e14 : f0[23]? = some (.ref h1)) (e15 : f0[24]? = some (.ref h2)) (e16 : f0[25]? = some (.ref h3)) (e17 : f0[26]? = some (.ref h4)) (e18 : f0[9]? = some (.int 0)) (e19 : f0[4]? = some (.int 0)) (e20 : f0[16]? = some (.int 0)) (e21 : f0[8]? = some (.ref h5)) : kI l E D (kT cI cJ cB cZ) yX12_call wsX12_call ({ frames := 4, cells := 0, slots := 0, locals := 90 }) [.ref h0, .int 1] [(h0, .inr (12, f0)), (h1, .inl (cI, 2001, .inl g0)), (h2, .inl (cI, 2001, .inl g1)), (h3, .inl (cI, 2001, .inl g2)), (h4, .inl (cI, 2001, .inl g3)), (h5, .inl (cB, 24800, .inl g4))] (0) [(h0, .inr (12, (((((((((((((((((f0.set 0 (.int 0)).set 15 (.int 1)).set 13 (.int 0)).set 14 (.int 0)).set 12 (.int 0)).set 2 (.int 0)).set 36 (.int 0)).set 37 (.int 0)).set 27 (.int 0)).set 31 (.int 0)).set 28 (.int 0)).set 32 (.int 0)).set 33 (.int 0)).set 16 (.int 1)).set 9 (.int 1)).set 9 (.int 2)).set 9 (.int 3)))), (h1, .inl (cI, 2001, .inl (upd g0 0 0))), (h2, .inl (cI, 2001, .inl (upd g1 0 0))), (h3, .inl (cI, 2001, .inl (upd g2 0 0))), (h4, .inl (cI, 2001, .inl (upd g3 0 0))), (h5, .inl (cB, 24800, .inl (upd (upd (upd g4 0 1) 1 0) 2 0)))] 0 0 := by
  intro sz
  refine Met.ofW (cc := cX12_call) (maxL := 4) (ret := (some .int)) (by decide) rfl ?_
  intro p e s m args below meth c s₁ B hml hv
  obtain ⟨rfl, hsz, hP, hK, hD0, hN, hX⟩ := hv
  have hx := B.exec
  have hb := B.bytes
  have hr := B.returns
  have hts := atoms_spec (ws := wsX12_call) B.pre
  have hown : s.vm.findClass RX12 = some m.cls := findClass_of_methodNamed B.named
  have hlocks := B.notSynchronized
  have hin12 : ∀ w ∈ wsX120, w ∈ wsX12_call := (fun w h => (List.mem_cons_of_mem _ (List.mem_append_right _ h)))
  subst hsz
  have hD := hD0.self (sz := s.heap.size)
  have hAE := k_AE hD0 hX
  generalize hAe : va_A [(h0, .inr (12, f0)), (h1, .inl (cI, 2001, .inl g0)), (h2, .inl (cI, 2001, .inl g1)), (h3, .inl (cI, 2001, .inl g2)), (h4, .inl (cI, 2001, .inl g3)), (h5, .inl (cB, 24800, .inl g4))] s.heap.size = A at hD hAE ⊢
  have hA : ∀ q : Nat, s.heap.size ≤ q → A q := fun q h => by rw [← hAe]; exact Or.inr h
  have hS : va_S A s.heap s.heap [] := va_S.rf
  have hP : va_P D vwCl [(h0, .inr (12, f0)), (h1, .inl (cI, 2001, .inl g0)), (h2, .inl (cI, 2001, .inl g1)), (h3, .inl (cI, 2001, .inl g2)), (h4, .inl (cI, 2001, .inl g3)), (h5, .inl (cB, 24800, .inl g4))] s.heap := hP
  have hl := lv_entry ([.ref h0, .int 1] : List Value) (n := 4) (Nat.le_of_ble_eq_true rfl)
  rw [lg_entry_eq]
  generalize (lg_sl ([.ref h0, .int 1]) ++ List.replicate (4 - (lg_sl ([.ref h0, .int 1])).length) Slot.unset).toArray = ls at hl ⊢
  have hl : lv_has ls 4 [(0, .ref h0), (1, .int 1)] := hl
  refine lv_aload_n hx hb dX12_call_0 rfl (lv_at hl 0 rfl) ?_
  refine lv_iconst (v := 0) hx hb dX12_call_1 (by decide) ?_
  refine va_put (D := D) (ref := "IntegerHouseModel") (ci := 12) (v := .int 0) (ty := .int) (C := RX12) (T := TX12) (N := 195) hx hb hts hin12 tyX12 tyX12_ok nmX12 hown hK hP hD hS 0 rfl rfl 0 (by decide) (hts (.fieldLink RX12 3 "IntegerHouseModel" "thrown" "I") (List.mem_cons_of_mem _ (List.mem_append_left _ (List.mem_append_left _ (List.mem_of_getElem? (i := 0) rfl))))) (fun _ h9 => h9) rfl (by decide +kernel) rfl rfl (k_len e0) dX12_call_2 (fun H locs hP hD hS => ?_)
  have hP : va_P D vwCl [(h0, .inr (12, (f0.set 0 (.int 0)))), (h1, .inl (cI, 2001, .inl g0)), (h2, .inl (cI, 2001, .inl g1)), (h3, .inl (cI, 2001, .inl g2)), (h4, .inl (cI, 2001, .inl g3)), (h5, .inl (cB, 24800, .inl g4))] H := hP
  have hD : va_D A [(h0, .inr (12, (f0.set 0 (.int 0)))), (h1, .inl (cI, 2001, .inl g0)), (h2, .inl (cI, 2001, .inl g1)), (h3, .inl (cI, 2001, .inl g2)), (h4, .inl (cI, 2001, .inl g3)), (h5, .inl (cB, 24800, .inl g4))] := hD
  refine lv_aload_n hx hb dX12_call_5 rfl (lv_at hl 0 rfl) ?_
  refine va_get (D := D) (ref := "IntegerHouseModel") (ci := 12) (v := .int 0) (C := RX12) (T := TX12) (N := 195) hx hb hts hin12 hown hK hP 0 rfl rfl 5 (by decide) (hts (.fieldLink RX12 488 "IntegerHouseModel" "down" "Z") (List.mem_cons_of_mem _ (List.mem_append_left _ (List.mem_append_left _ (List.mem_of_getElem? (i := 1) rfl))))) (fun _ h9 => h9) (k_ne (by decide) e1) dX12_call_6 ?_
  refine lv_if_eq (tgt := 15) hx hb dX12_call_9 (by decide) (fun _ => ?_) (fun c9 => absurd (by decide) c9)
  refine lv_aload_n hx hb dX12_call_15 rfl (lv_at hl 0 rfl) ?_
  refine lv_iload_n hx hb dX12_call_16 rfl (lv_at hl 1 rfl) ?_
  refine va_put (D := D) (ref := "IntegerHouseModel") (ci := 12) (v := .int 1) (ty := .int) (C := RX12) (T := TX12) (N := 195) hx hb hts hin12 tyX12 tyX12_ok nmX12 hown hK hP hD hS 0 rfl rfl 15 (by decide) (hts (.fieldLink RX12 466 "IntegerHouseModel" "number" "I") (List.mem_cons_of_mem _ (List.mem_append_left _ (List.mem_append_left _ (List.mem_of_getElem? (i := 2) rfl))))) (fun _ h9 => h9) rfl (by decide +kernel) rfl rfl (k_len (k_ne (by decide) e2)) dX12_call_17 (fun H locs hP hD hS => ?_)
  have hP : va_P D vwCl [(h0, .inr (12, ((f0.set 0 (.int 0)).set 15 (.int 1)))), (h1, .inl (cI, 2001, .inl g0)), (h2, .inl (cI, 2001, .inl g1)), (h3, .inl (cI, 2001, .inl g2)), (h4, .inl (cI, 2001, .inl g3)), (h5, .inl (cB, 24800, .inl g4))] H := hP
  have hD : va_D A [(h0, .inr (12, ((f0.set 0 (.int 0)).set 15 (.int 1)))), (h1, .inl (cI, 2001, .inl g0)), (h2, .inl (cI, 2001, .inl g1)), (h3, .inl (cI, 2001, .inl g2)), (h4, .inl (cI, 2001, .inl g3)), (h5, .inl (cB, 24800, .inl g4))] := hD
  refine lv_aload_n hx hb dX12_call_20 rfl (lv_at hl 0 rfl) ?_
  refine lv_iconst (v := 0) hx hb dX12_call_21 (by decide) ?_
  refine va_put (D := D) (ref := "IntegerHouseModel") (ci := 12) (v := .int 0) (ty := .boolean) (C := RX12) (T := TX12) (N := 195) hx hb hts hin12 tyX12 tyX12_ok nmX12 hown hK hP hD hS 0 rfl rfl 13 (by decide) (hts (.fieldLink RX12 472 "IntegerHouseModel" "replay" "Z") (List.mem_cons_of_mem _ (List.mem_append_left _ (List.mem_append_left _ (List.mem_of_getElem? (i := 3) rfl))))) (fun _ h9 => h9) rfl (by decide +kernel) rfl rfl (k_len (k_ne (by decide) (k_ne (by decide) e3))) dX12_call_22 (fun H locs hP hD hS => ?_)
  have hP : va_P D vwCl [(h0, .inr (12, (((f0.set 0 (.int 0)).set 15 (.int 1)).set 13 (.int 0)))), (h1, .inl (cI, 2001, .inl g0)), (h2, .inl (cI, 2001, .inl g1)), (h3, .inl (cI, 2001, .inl g2)), (h4, .inl (cI, 2001, .inl g3)), (h5, .inl (cB, 24800, .inl g4))] H := hP
  have hD : va_D A [(h0, .inr (12, (((f0.set 0 (.int 0)).set 15 (.int 1)).set 13 (.int 0)))), (h1, .inl (cI, 2001, .inl g0)), (h2, .inl (cI, 2001, .inl g1)), (h3, .inl (cI, 2001, .inl g2)), (h4, .inl (cI, 2001, .inl g3)), (h5, .inl (cB, 24800, .inl g4))] := hD
  refine lv_aload_n hx hb dX12_call_25 rfl (lv_at hl 0 rfl) ?_
  refine lv_iconst (v := 0) hx hb dX12_call_26 (by decide) ?_
  refine va_put (D := D) (ref := "IntegerHouseModel") (ci := 12) (v := .int 0) (ty := .boolean) (C := RX12) (T := TX12) (N := 195) hx hb hts hin12 tyX12 tyX12_ok nmX12 hown hK hP hD hS 0 rfl rfl 14 (by decide) (hts (.fieldLink RX12 462 "IntegerHouseModel" "refused" "Z") (List.mem_cons_of_mem _ (List.mem_append_left _ (List.mem_append_left _ (List.mem_of_getElem? (i := 4) rfl))))) (fun _ h9 => h9) rfl (by decide +kernel) rfl rfl (k_len (k_ne (by decide) (k_ne (by decide) (k_ne (by decide) e4)))) dX12_call_27 (fun H locs hP hD hS => ?_)
  have hP : va_P D vwCl [(h0, .inr (12, ((((f0.set 0 (.int 0)).set 15 (.int 1)).set 13 (.int 0)).set 14 (.int 0)))), (h1, .inl (cI, 2001, .inl g0)), (h2, .inl (cI, 2001, .inl g1)), (h3, .inl (cI, 2001, .inl g2)), (h4, .inl (cI, 2001, .inl g3)), (h5, .inl (cB, 24800, .inl g4))] H := hP
  have hD : va_D A [(h0, .inr (12, ((((f0.set 0 (.int 0)).set 15 (.int 1)).set 13 (.int 0)).set 14 (.int 0)))), (h1, .inl (cI, 2001, .inl g0)), (h2, .inl (cI, 2001, .inl g1)), (h3, .inl (cI, 2001, .inl g2)), (h4, .inl (cI, 2001, .inl g3)), (h5, .inl (cB, 24800, .inl g4))] := hD
  refine lv_iload_n hx hb dX12_call_30 rfl (lv_at hl 1 rfl) ?_
  refine lv_iconst (v := 1) hx hb dX12_call_31 (by decide) ?_
  refine lv_icmp_ne (tgt := 39) hx hb dX12_call_32 (by decide) (fun c9 => absurd (by decide) c9) (fun _ => ?_)
  refine lv_aload_n hx hb dX12_call_35 rfl (lv_at hl 0 rfl) ?_
  refine k_cVv (As := []) (rest := []) (wc := [(h0, .inr (12, ((((f0.set 0 (.int 0)).set 15 (.int 1)).set 13 (.int 0)).set 14 (.int 0))))]) (wr := [(h1, .inl (cI, 2001, .inl g0)), (h2, .inl (cI, 2001, .inl g1)), (h3, .inl (cI, 2001, .inl g2)), (h4, .inl (cI, 2001, .inl g3)), (h5, .inl (cB, 24800, .inl g4))]) (w1 := (fun _ : Unit => [(h0, .inr (12, ((((((f0.set 0 (.int 0)).set 15 (.int 1)).set 13 (.int 0)).set 14 (.int 0)).set 12 (.int 0)).set 2 (.int 0))))])) ⟨hx, hb, hml, hown, hts⟩ hN hX hAE hK hP hD hS hA [0] [1, 2, 3, 4, 5] (ci := 12) rfl rfl rfl rfl (by decide +kernel) (by decide +kernel) (by decide +kernel) (c_X12_takeTape_0 l E D cI cJ cB cZ h0 (((((f0.set 0 (.int 0)).set 15 (.int 1)).set 13 (.int 0)).set 14 (.int 0))) (k_ne (by decide) (k_ne (by decide) (k_ne (by decide) (k_ne (by decide) e5)))) (k_ne (by decide) (k_ne (by decide) (k_ne (by decide) (k_ne (by decide) e6))))) (cwV 0 hts gX12_call_X12_takeTape rfl rfl rfl (by decide +kernel) ⟨Nat.le_of_ble_eq_true rfl, Nat.le_of_ble_eq_true rfl⟩) rfl hl.1 (Nat.le_of_ble_eq_true rfl) dX12_call_36 ⟨Nat.le_of_ble_eq_true rfl, Nat.le_of_ble_eq_true rfl⟩ (fun _ H locs hP hD hS => ?_)
  have hP : va_P D vwCl [(h1, .inl (cI, 2001, .inl g0)), (h2, .inl (cI, 2001, .inl g1)), (h3, .inl (cI, 2001, .inl g2)), (h4, .inl (cI, 2001, .inl g3)), (h5, .inl (cB, 24800, .inl g4)), (h0, .inr (12, ((((((f0.set 0 (.int 0)).set 15 (.int 1)).set 13 (.int 0)).set 14 (.int 0)).set 12 (.int 0)).set 2 (.int 0))))] H := hP
  have hD : va_D A [(h1, .inl (cI, 2001, .inl g0)), (h2, .inl (cI, 2001, .inl g1)), (h3, .inl (cI, 2001, .inl g2)), (h4, .inl (cI, 2001, .inl g3)), (h5, .inl (cB, 24800, .inl g4)), (h0, .inr (12, ((((((f0.set 0 (.int 0)).set 15 (.int 1)).set 13 (.int 0)).set 14 (.int 0)).set 12 (.int 0)).set 2 (.int 0))))] := hD
  refine lv_aload_n hx hb dX12_call_39 rfl (lv_at hl 0 rfl) ?_
  refine k_cVi (As := []) (rest := []) (wc := [(h0, .inr (12, ((((((f0.set 0 (.int 0)).set 15 (.int 1)).set 13 (.int 0)).set 14 (.int 0)).set 12 (.int 0)).set 2 (.int 0)))), (h1, .inl (cI, 2001, .inl g0)), (h2, .inl (cI, 2001, .inl g1)), (h3, .inl (cI, 2001, .inl g2)), (h4, .inl (cI, 2001, .inl g3))]) (wr := [(h5, .inl (cB, 24800, .inl g4))]) (w1 := [(h0, .inr (12, (((((((((((((f0.set 0 (.int 0)).set 15 (.int 1)).set 13 (.int 0)).set 14 (.int 0)).set 12 (.int 0)).set 2 (.int 0)).set 36 (.int 0)).set 37 (.int 0)).set 27 (.int 0)).set 31 (.int 0)).set 28 (.int 0)).set 32 (.int 0)).set 33 (.int 0)))), (h1, .inl (cI, 2001, .inl (upd g0 0 0))), (h2, .inl (cI, 2001, .inl (upd g1 0 0))), (h3, .inl (cI, 2001, .inl (upd g2 0 0))), (h4, .inl (cI, 2001, .inl (upd g3 0 0)))]) ⟨hx, hb, hml, hown, hts⟩ hN hX hAE hK hP hD hS hA [5, 0, 1, 2, 3] [4] (ci := 12) rfl rfl rfl rfl (by decide +kernel) (by decide +kernel) (by decide +kernel) (c_X12_act_0 l E D cI cJ cB cZ h0 (((((((f0.set 0 (.int 0)).set 15 (.int 1)).set 13 (.int 0)).set 14 (.int 0)).set 12 (.int 0)).set 2 (.int 0))) h1 h2 h3 h4 g0 g1 g2 g3 (k_ne (by decide) (k_ne (by decide) (k_ne (by decide) (k_ne (by decide) (k_set (k_ne (by decide) e2)))))) (k_ne (by decide) (k_ne (by decide) (k_ne (by decide) (k_ne (by decide) (k_ne (by decide) (k_ne (by decide) e7)))))) (k_ne (by decide) (k_ne (by decide) (k_ne (by decide) (k_ne (by decide) (k_ne (by decide) (k_ne (by decide) e8)))))) (k_ne (by decide) (k_ne (by decide) (k_ne (by decide) (k_ne (by decide) (k_ne (by decide) (k_ne (by decide) e9)))))) (k_ne (by decide) (k_ne (by decide) (k_ne (by decide) (k_ne (by decide) (k_ne (by decide) (k_ne (by decide) e10)))))) (k_ne (by decide) (k_ne (by decide) (k_ne (by decide) (k_ne (by decide) (k_ne (by decide) (k_ne (by decide) e11)))))) (k_ne (by decide) (k_ne (by decide) (k_ne (by decide) (k_ne (by decide) (k_ne (by decide) (k_ne (by decide) e12)))))) (k_ne (by decide) (k_ne (by decide) (k_ne (by decide) (k_ne (by decide) (k_ne (by decide) (k_ne (by decide) e13)))))) (k_ne (by decide) (k_set (k_ne (by decide) (k_ne (by decide) (k_ne (by decide) (k_ne (by decide) e6)))))) (k_ne (by decide) (k_ne (by decide) (k_ne (by decide) (k_ne (by decide) (k_ne (by decide) (k_ne (by decide) e14)))))) (k_ne (by decide) (k_ne (by decide) (k_ne (by decide) (k_ne (by decide) (k_ne (by decide) (k_ne (by decide) e15)))))) (k_ne (by decide) (k_ne (by decide) (k_ne (by decide) (k_ne (by decide) (k_ne (by decide) (k_ne (by decide) e16)))))) (k_ne (by decide) (k_ne (by decide) (k_ne (by decide) (k_ne (by decide) (k_ne (by decide) (k_ne (by decide) e17)))))) (k_ne (by decide) (k_ne (by decide) (k_ne (by decide) (k_set (k_ne (by decide) (k_ne (by decide) e3)))))) (k_ne (by decide) (k_ne (by decide) (k_ne (by decide) (k_ne (by decide) (k_ne (by decide) (k_ne (by decide) e18)))))) (k_ne (by decide) (k_ne (by decide) (k_ne (by decide) (k_ne (by decide) (k_ne (by decide) (k_ne (by decide) e19))))))) (cwV 0 hts gX12_call_X12_act rfl rfl rfl (by decide +kernel) ⟨Nat.le_of_ble_eq_true rfl, Nat.le_of_ble_eq_true rfl⟩) rfl hl.1 (Nat.le_of_ble_eq_true rfl) dX12_call_40 ⟨Nat.le_of_ble_eq_true rfl, Nat.le_of_ble_eq_true rfl⟩ (fun H locs hP hD hS => ?_)
  have hP : va_P D vwCl [(h5, .inl (cB, 24800, .inl g4)), (h0, .inr (12, (((((((((((((f0.set 0 (.int 0)).set 15 (.int 1)).set 13 (.int 0)).set 14 (.int 0)).set 12 (.int 0)).set 2 (.int 0)).set 36 (.int 0)).set 37 (.int 0)).set 27 (.int 0)).set 31 (.int 0)).set 28 (.int 0)).set 32 (.int 0)).set 33 (.int 0)))), (h1, .inl (cI, 2001, .inl (upd g0 0 0))), (h2, .inl (cI, 2001, .inl (upd g1 0 0))), (h3, .inl (cI, 2001, .inl (upd g2 0 0))), (h4, .inl (cI, 2001, .inl (upd g3 0 0)))] H := hP
  have hD : va_D A [(h5, .inl (cB, 24800, .inl g4)), (h0, .inr (12, (((((((((((((f0.set 0 (.int 0)).set 15 (.int 1)).set 13 (.int 0)).set 14 (.int 0)).set 12 (.int 0)).set 2 (.int 0)).set 36 (.int 0)).set 37 (.int 0)).set 27 (.int 0)).set 31 (.int 0)).set 28 (.int 0)).set 32 (.int 0)).set 33 (.int 0)))), (h1, .inl (cI, 2001, .inl (upd g0 0 0))), (h2, .inl (cI, 2001, .inl (upd g1 0 0))), (h3, .inl (cI, 2001, .inl (upd g2 0 0))), (h4, .inl (cI, 2001, .inl (upd g3 0 0)))] := hD
  refine lv_istore_n (lv' := [(2, .int 0), (0, .ref h0), (1, .int 1)]) hx hb dX12_call_43 rfl hl (by decide) rfl (fun ls hl => ?_)
  refine lv_aload_n hx hb dX12_call_44 rfl (lv_at hl 1 rfl) ?_
  refine va_get (D := D) (ref := "IntegerHouseModel") (ci := 12) (v := .int 0) (C := RX12) (T := TX12) (N := 195) hx hb hts hin12 hown hK hP 1 rfl rfl 14 (by decide) (hts (.fieldLink RX12 462 "IntegerHouseModel" "refused" "Z") (List.mem_cons_of_mem _ (List.mem_append_left _ (List.mem_append_left _ (List.mem_of_getElem? (i := 4) rfl))))) (fun _ h9 => h9) (k_ne (by decide) (k_ne (by decide) (k_ne (by decide) (k_ne (by decide) (k_ne (by decide) (k_ne (by decide) (k_ne (by decide) (k_ne (by decide) (k_ne (by decide) (k_set (k_ne (by decide) (k_ne (by decide) (k_ne (by decide) e4))))))))))))) dX12_call_45 ?_
  refine lv_if_ne (tgt := 141) hx hb dX12_call_48 (by decide) (fun c9 => absurd (by decide) c9) (fun _ => ?_)
  refine lv_aload_n hx hb dX12_call_51 rfl (lv_at hl 1 rfl) ?_
  refine lv_dup hx hb dX12_call_52 rfl ?_
  refine va_get (D := D) (ref := "IntegerHouseModel") (ci := 12) (v := .int 0) (C := RX12) (T := TX12) (N := 195) hx hb hts hin12 hown hK hP 1 rfl rfl 16 (by decide) (hts (.fieldLink RX12 498 "IntegerHouseModel" "done" "I") (List.mem_cons_of_mem _ (List.mem_append_left _ (List.mem_append_left _ (List.mem_of_getElem? (i := 5) rfl))))) (fun _ h9 => h9) (k_ne (by decide) (k_ne (by decide) (k_ne (by decide) (k_ne (by decide) (k_ne (by decide) (k_ne (by decide) (k_ne (by decide) (k_ne (by decide) (k_ne (by decide) (k_ne (by decide) (k_ne (by decide) (k_ne (by decide) (k_ne (by decide) e20))))))))))))) dX12_call_53 ?_
  refine lv_iconst (v := 1) hx hb dX12_call_56 (by decide) ?_
  refine lv_iadd hx hb dX12_call_57 ?_
  refine k_topi (y := 1) (by decide) ?_
  refine va_put (D := D) (ref := "IntegerHouseModel") (ci := 12) (v := .int 1) (ty := .int) (C := RX12) (T := TX12) (N := 195) hx hb hts hin12 tyX12 tyX12_ok nmX12 hown hK hP hD hS 1 rfl rfl 16 (by decide) (hts (.fieldLink RX12 498 "IntegerHouseModel" "done" "I") (List.mem_cons_of_mem _ (List.mem_append_left _ (List.mem_append_left _ (List.mem_of_getElem? (i := 5) rfl))))) (fun _ h9 => h9) rfl (by decide +kernel) rfl rfl (k_len (k_ne (by decide) (k_ne (by decide) (k_ne (by decide) (k_ne (by decide) (k_ne (by decide) (k_ne (by decide) (k_ne (by decide) (k_ne (by decide) (k_ne (by decide) (k_ne (by decide) (k_ne (by decide) (k_ne (by decide) (k_ne (by decide) e20)))))))))))))) dX12_call_58 (fun H locs hP hD hS => ?_)
  have hP : va_P D vwCl [(h5, .inl (cB, 24800, .inl g4)), (h0, .inr (12, ((((((((((((((f0.set 0 (.int 0)).set 15 (.int 1)).set 13 (.int 0)).set 14 (.int 0)).set 12 (.int 0)).set 2 (.int 0)).set 36 (.int 0)).set 37 (.int 0)).set 27 (.int 0)).set 31 (.int 0)).set 28 (.int 0)).set 32 (.int 0)).set 33 (.int 0)).set 16 (.int 1)))), (h1, .inl (cI, 2001, .inl (upd g0 0 0))), (h2, .inl (cI, 2001, .inl (upd g1 0 0))), (h3, .inl (cI, 2001, .inl (upd g2 0 0))), (h4, .inl (cI, 2001, .inl (upd g3 0 0)))] H := hP
  have hD : va_D A [(h5, .inl (cB, 24800, .inl g4)), (h0, .inr (12, ((((((((((((((f0.set 0 (.int 0)).set 15 (.int 1)).set 13 (.int 0)).set 14 (.int 0)).set 12 (.int 0)).set 2 (.int 0)).set 36 (.int 0)).set 37 (.int 0)).set 27 (.int 0)).set 31 (.int 0)).set 28 (.int 0)).set 32 (.int 0)).set 33 (.int 0)).set 16 (.int 1)))), (h1, .inl (cI, 2001, .inl (upd g0 0 0))), (h2, .inl (cI, 2001, .inl (upd g1 0 0))), (h3, .inl (cI, 2001, .inl (upd g2 0 0))), (h4, .inl (cI, 2001, .inl (upd g3 0 0)))] := hD
  refine lv_aload_n hx hb dX12_call_61 rfl (lv_at hl 1 rfl) ?_
  refine lv_iload_n hx hb dX12_call_62 rfl (lv_at hl 2 rfl) ?_
  refine k_cVv (As := [.int 1]) (rest := []) (wc := [(h0, .inr (12, ((((((((((((((f0.set 0 (.int 0)).set 15 (.int 1)).set 13 (.int 0)).set 14 (.int 0)).set 12 (.int 0)).set 2 (.int 0)).set 36 (.int 0)).set 37 (.int 0)).set 27 (.int 0)).set 31 (.int 0)).set 28 (.int 0)).set 32 (.int 0)).set 33 (.int 0)).set 16 (.int 1)))), (h5, .inl (cB, 24800, .inl g4))]) (wr := [(h1, .inl (cI, 2001, .inl (upd g0 0 0))), (h2, .inl (cI, 2001, .inl (upd g1 0 0))), (h3, .inl (cI, 2001, .inl (upd g2 0 0))), (h4, .inl (cI, 2001, .inl (upd g3 0 0)))]) (w1 := (fun _ : Unit => [(h0, .inr (12, (((((((((((((((f0.set 0 (.int 0)).set 15 (.int 1)).set 13 (.int 0)).set 14 (.int 0)).set 12 (.int 0)).set 2 (.int 0)).set 36 (.int 0)).set 37 (.int 0)).set 27 (.int 0)).set 31 (.int 0)).set 28 (.int 0)).set 32 (.int 0)).set 33 (.int 0)).set 16 (.int 1)).set 9 (.int 1)))), (h5, .inl (cB, 24800, .inl (upd g4 0 1)))])) ⟨hx, hb, hml, hown, hts⟩ hN hX hAE hK hP hD hS hA [1, 0] [2, 3, 4, 5] (ci := 12) rfl rfl rfl rfl (by decide +kernel) (by decide +kernel) (by decide +kernel) (c_X12_note_0 l E D cI cJ cB cZ h0 (((((((((((((((f0.set 0 (.int 0)).set 15 (.int 1)).set 13 (.int 0)).set 14 (.int 0)).set 12 (.int 0)).set 2 (.int 0)).set 36 (.int 0)).set 37 (.int 0)).set 27 (.int 0)).set 31 (.int 0)).set 28 (.int 0)).set 32 (.int 0)).set 33 (.int 0)).set 16 (.int 1))) h5 g4 (k_ne (by decide) (k_ne (by decide) (k_ne (by decide) (k_ne (by decide) (k_ne (by decide) (k_ne (by decide) (k_ne (by decide) (k_ne (by decide) (k_ne (by decide) (k_ne (by decide) (k_ne (by decide) (k_ne (by decide) (k_ne (by decide) (k_ne (by decide) e21)))))))))))))) (k_ne (by decide) (k_ne (by decide) (k_ne (by decide) (k_ne (by decide) (k_ne (by decide) (k_ne (by decide) (k_ne (by decide) (k_ne (by decide) (k_ne (by decide) (k_ne (by decide) (k_ne (by decide) (k_ne (by decide) (k_ne (by decide) (k_ne (by decide) e18))))))))))))))) (cwV 1 hts gX12_call_X12_note rfl rfl rfl (by decide +kernel) ⟨Nat.le_of_ble_eq_true rfl, Nat.le_of_ble_eq_true rfl⟩) rfl hl.1 (Nat.le_of_ble_eq_true rfl) dX12_call_63 ⟨Nat.le_of_ble_eq_true rfl, Nat.le_of_ble_eq_true rfl⟩ (fun _ H locs hP hD hS => ?_)
  have hP : va_P D vwCl [(h1, .inl (cI, 2001, .inl (upd g0 0 0))), (h2, .inl (cI, 2001, .inl (upd g1 0 0))), (h3, .inl (cI, 2001, .inl (upd g2 0 0))), (h4, .inl (cI, 2001, .inl (upd g3 0 0))), (h0, .inr (12, (((((((((((((((f0.set 0 (.int 0)).set 15 (.int 1)).set 13 (.int 0)).set 14 (.int 0)).set 12 (.int 0)).set 2 (.int 0)).set 36 (.int 0)).set 37 (.int 0)).set 27 (.int 0)).set 31 (.int 0)).set 28 (.int 0)).set 32 (.int 0)).set 33 (.int 0)).set 16 (.int 1)).set 9 (.int 1)))), (h5, .inl (cB, 24800, .inl (upd g4 0 1)))] H := hP
  have hD : va_D A [(h1, .inl (cI, 2001, .inl (upd g0 0 0))), (h2, .inl (cI, 2001, .inl (upd g1 0 0))), (h3, .inl (cI, 2001, .inl (upd g2 0 0))), (h4, .inl (cI, 2001, .inl (upd g3 0 0))), (h0, .inr (12, (((((((((((((((f0.set 0 (.int 0)).set 15 (.int 1)).set 13 (.int 0)).set 14 (.int 0)).set 12 (.int 0)).set 2 (.int 0)).set 36 (.int 0)).set 37 (.int 0)).set 27 (.int 0)).set 31 (.int 0)).set 28 (.int 0)).set 32 (.int 0)).set 33 (.int 0)).set 16 (.int 1)).set 9 (.int 1)))), (h5, .inl (cB, 24800, .inl (upd g4 0 1)))] := hD
  refine lv_iload_n hx hb dX12_call_66 rfl (lv_at hl 2 rfl) ?_
  refine lv_iconst (v := 2) hx hb dX12_call_67 (by decide) ?_
  refine lv_icmp_ne (tgt := 91) hx hb dX12_call_68 (by decide) (fun _ => ?_) (fun c9 => absurd c9 (by decide))
  refine lv_iload_n hx hb dX12_call_91 rfl (lv_at hl 2 rfl) ?_
  refine lv_iconst (v := 1) hx hb dX12_call_92 (by decide) ?_
  refine lv_icmp_ne (tgt := 141) hx hb dX12_call_93 (by decide) (fun c9 => absurd (by decide) c9) (fun _ => ?_)
  refine lv_aload_n hx hb dX12_call_96 rfl (lv_at hl 1 rfl) ?_
  refine lv_aload_n hx hb dX12_call_97 rfl (lv_at hl 1 rfl) ?_
  refine va_get (D := D) (ref := "IntegerHouseModel") (ci := 12) (v := .int 0) (C := RX12) (T := TX12) (N := 195) hx hb hts hin12 hown hK hP 4 rfl rfl 12 (by decide) (hts (.fieldLink RX12 469 "IntegerHouseModel" "docSize" "I") (List.mem_cons_of_mem _ (List.mem_append_left _ (List.mem_append_left _ (List.mem_of_getElem? (i := 7) rfl))))) (fun _ h9 => h9) (k_ne (by decide) (k_ne (by decide) (k_ne (by decide) (k_ne (by decide) (k_ne (by decide) (k_ne (by decide) (k_ne (by decide) (k_ne (by decide) (k_ne (by decide) (k_ne (by decide) (k_set (k_ne (by decide) (k_ne (by decide) (k_ne (by decide) (k_ne (by decide) e6))))))))))))))) dX12_call_98 ?_
  refine lv_bipush (v := 8) hx hb dX12_call_101 (by decide) ?_
  refine lv_ishr hx hb dX12_call_103 ?_
  refine k_topi (y := 0) (by decide) ?_
  refine k_cVv (As := [.int 0]) (rest := []) (wc := [(h0, .inr (12, (((((((((((((((f0.set 0 (.int 0)).set 15 (.int 1)).set 13 (.int 0)).set 14 (.int 0)).set 12 (.int 0)).set 2 (.int 0)).set 36 (.int 0)).set 37 (.int 0)).set 27 (.int 0)).set 31 (.int 0)).set 28 (.int 0)).set 32 (.int 0)).set 33 (.int 0)).set 16 (.int 1)).set 9 (.int 1)))), (h5, .inl (cB, 24800, .inl (upd g4 0 1)))]) (wr := [(h1, .inl (cI, 2001, .inl (upd g0 0 0))), (h2, .inl (cI, 2001, .inl (upd g1 0 0))), (h3, .inl (cI, 2001, .inl (upd g2 0 0))), (h4, .inl (cI, 2001, .inl (upd g3 0 0)))]) (w1 := (fun _ : Unit => [(h0, .inr (12, ((((((((((((((((f0.set 0 (.int 0)).set 15 (.int 1)).set 13 (.int 0)).set 14 (.int 0)).set 12 (.int 0)).set 2 (.int 0)).set 36 (.int 0)).set 37 (.int 0)).set 27 (.int 0)).set 31 (.int 0)).set 28 (.int 0)).set 32 (.int 0)).set 33 (.int 0)).set 16 (.int 1)).set 9 (.int 1)).set 9 (.int 2)))), (h5, .inl (cB, 24800, .inl (upd (upd g4 0 1) 1 0)))])) ⟨hx, hb, hml, hown, hts⟩ hN hX hAE hK hP hD hS hA [4, 5] [0, 1, 2, 3] (ci := 12) rfl rfl rfl rfl (by decide +kernel) (by decide +kernel) (by decide +kernel) (c_X12_note_1 l E D cI cJ cB cZ h0 ((((((((((((((((f0.set 0 (.int 0)).set 15 (.int 1)).set 13 (.int 0)).set 14 (.int 0)).set 12 (.int 0)).set 2 (.int 0)).set 36 (.int 0)).set 37 (.int 0)).set 27 (.int 0)).set 31 (.int 0)).set 28 (.int 0)).set 32 (.int 0)).set 33 (.int 0)).set 16 (.int 1)).set 9 (.int 1))) h5 ((upd g4 0 1)) (k_ne (by decide) (k_ne (by decide) (k_ne (by decide) (k_ne (by decide) (k_ne (by decide) (k_ne (by decide) (k_ne (by decide) (k_ne (by decide) (k_ne (by decide) (k_ne (by decide) (k_ne (by decide) (k_ne (by decide) (k_ne (by decide) (k_ne (by decide) (k_ne (by decide) e21))))))))))))))) (k_set (k_ne (by decide) (k_ne (by decide) (k_ne (by decide) (k_ne (by decide) (k_ne (by decide) (k_ne (by decide) (k_ne (by decide) (k_ne (by decide) (k_ne (by decide) (k_ne (by decide) (k_ne (by decide) (k_ne (by decide) (k_ne (by decide) (k_ne (by decide) e18)))))))))))))))) (cwV 1 hts gX12_call_X12_note rfl rfl rfl (by decide +kernel) ⟨Nat.le_of_ble_eq_true rfl, Nat.le_of_ble_eq_true rfl⟩) rfl hl.1 (Nat.le_of_ble_eq_true rfl) dX12_call_104 ⟨Nat.le_of_ble_eq_true rfl, Nat.le_of_ble_eq_true rfl⟩ (fun _ H locs hP hD hS => ?_)
  have hP : va_P D vwCl [(h1, .inl (cI, 2001, .inl (upd g0 0 0))), (h2, .inl (cI, 2001, .inl (upd g1 0 0))), (h3, .inl (cI, 2001, .inl (upd g2 0 0))), (h4, .inl (cI, 2001, .inl (upd g3 0 0))), (h0, .inr (12, ((((((((((((((((f0.set 0 (.int 0)).set 15 (.int 1)).set 13 (.int 0)).set 14 (.int 0)).set 12 (.int 0)).set 2 (.int 0)).set 36 (.int 0)).set 37 (.int 0)).set 27 (.int 0)).set 31 (.int 0)).set 28 (.int 0)).set 32 (.int 0)).set 33 (.int 0)).set 16 (.int 1)).set 9 (.int 1)).set 9 (.int 2)))), (h5, .inl (cB, 24800, .inl (upd (upd g4 0 1) 1 0)))] H := hP
  have hD : va_D A [(h1, .inl (cI, 2001, .inl (upd g0 0 0))), (h2, .inl (cI, 2001, .inl (upd g1 0 0))), (h3, .inl (cI, 2001, .inl (upd g2 0 0))), (h4, .inl (cI, 2001, .inl (upd g3 0 0))), (h0, .inr (12, ((((((((((((((((f0.set 0 (.int 0)).set 15 (.int 1)).set 13 (.int 0)).set 14 (.int 0)).set 12 (.int 0)).set 2 (.int 0)).set 36 (.int 0)).set 37 (.int 0)).set 27 (.int 0)).set 31 (.int 0)).set 28 (.int 0)).set 32 (.int 0)).set 33 (.int 0)).set 16 (.int 1)).set 9 (.int 1)).set 9 (.int 2)))), (h5, .inl (cB, 24800, .inl (upd (upd g4 0 1) 1 0)))] := hD
  refine lv_aload_n hx hb dX12_call_107 rfl (lv_at hl 1 rfl) ?_
  refine lv_aload_n hx hb dX12_call_108 rfl (lv_at hl 1 rfl) ?_
  refine va_get (D := D) (ref := "IntegerHouseModel") (ci := 12) (v := .int 0) (C := RX12) (T := TX12) (N := 195) hx hb hts hin12 hown hK hP 4 rfl rfl 12 (by decide) (hts (.fieldLink RX12 469 "IntegerHouseModel" "docSize" "I") (List.mem_cons_of_mem _ (List.mem_append_left _ (List.mem_append_left _ (List.mem_of_getElem? (i := 7) rfl))))) (fun _ h9 => h9) (k_ne (by decide) (k_ne (by decide) (k_ne (by decide) (k_ne (by decide) (k_ne (by decide) (k_ne (by decide) (k_ne (by decide) (k_ne (by decide) (k_ne (by decide) (k_ne (by decide) (k_ne (by decide) (k_set (k_ne (by decide) (k_ne (by decide) (k_ne (by decide) (k_ne (by decide) e6)))))))))))))))) dX12_call_109 ?_
  refine k_cVv (As := [.int 0]) (rest := []) (wc := [(h0, .inr (12, ((((((((((((((((f0.set 0 (.int 0)).set 15 (.int 1)).set 13 (.int 0)).set 14 (.int 0)).set 12 (.int 0)).set 2 (.int 0)).set 36 (.int 0)).set 37 (.int 0)).set 27 (.int 0)).set 31 (.int 0)).set 28 (.int 0)).set 32 (.int 0)).set 33 (.int 0)).set 16 (.int 1)).set 9 (.int 1)).set 9 (.int 2)))), (h5, .inl (cB, 24800, .inl (upd (upd g4 0 1) 1 0)))]) (wr := [(h1, .inl (cI, 2001, .inl (upd g0 0 0))), (h2, .inl (cI, 2001, .inl (upd g1 0 0))), (h3, .inl (cI, 2001, .inl (upd g2 0 0))), (h4, .inl (cI, 2001, .inl (upd g3 0 0)))]) (w1 := (fun _ : Unit => [(h0, .inr (12, (((((((((((((((((f0.set 0 (.int 0)).set 15 (.int 1)).set 13 (.int 0)).set 14 (.int 0)).set 12 (.int 0)).set 2 (.int 0)).set 36 (.int 0)).set 37 (.int 0)).set 27 (.int 0)).set 31 (.int 0)).set 28 (.int 0)).set 32 (.int 0)).set 33 (.int 0)).set 16 (.int 1)).set 9 (.int 1)).set 9 (.int 2)).set 9 (.int 3)))), (h5, .inl (cB, 24800, .inl (upd (upd (upd g4 0 1) 1 0) 2 0)))])) ⟨hx, hb, hml, hown, hts⟩ hN hX hAE hK hP hD hS hA [4, 5] [0, 1, 2, 3] (ci := 12) rfl rfl rfl rfl (by decide +kernel) (by decide +kernel) (by decide +kernel) (c_X12_note_2 l E D cI cJ cB cZ h0 (((((((((((((((((f0.set 0 (.int 0)).set 15 (.int 1)).set 13 (.int 0)).set 14 (.int 0)).set 12 (.int 0)).set 2 (.int 0)).set 36 (.int 0)).set 37 (.int 0)).set 27 (.int 0)).set 31 (.int 0)).set 28 (.int 0)).set 32 (.int 0)).set 33 (.int 0)).set 16 (.int 1)).set 9 (.int 1)).set 9 (.int 2))) h5 ((upd (upd g4 0 1) 1 0)) (k_ne (by decide) (k_ne (by decide) (k_ne (by decide) (k_ne (by decide) (k_ne (by decide) (k_ne (by decide) (k_ne (by decide) (k_ne (by decide) (k_ne (by decide) (k_ne (by decide) (k_ne (by decide) (k_ne (by decide) (k_ne (by decide) (k_ne (by decide) (k_ne (by decide) (k_ne (by decide) e21)))))))))))))))) (k_set (k_set (k_ne (by decide) (k_ne (by decide) (k_ne (by decide) (k_ne (by decide) (k_ne (by decide) (k_ne (by decide) (k_ne (by decide) (k_ne (by decide) (k_ne (by decide) (k_ne (by decide) (k_ne (by decide) (k_ne (by decide) (k_ne (by decide) (k_ne (by decide) e18))))))))))))))))) (cwV 1 hts gX12_call_X12_note rfl rfl rfl (by decide +kernel) ⟨Nat.le_of_ble_eq_true rfl, Nat.le_of_ble_eq_true rfl⟩) rfl hl.1 (Nat.le_of_ble_eq_true rfl) dX12_call_112 ⟨Nat.le_of_ble_eq_true rfl, Nat.le_of_ble_eq_true rfl⟩ (fun _ H locs hP hD hS => ?_)
  have hP : va_P D vwCl [(h1, .inl (cI, 2001, .inl (upd g0 0 0))), (h2, .inl (cI, 2001, .inl (upd g1 0 0))), (h3, .inl (cI, 2001, .inl (upd g2 0 0))), (h4, .inl (cI, 2001, .inl (upd g3 0 0))), (h0, .inr (12, (((((((((((((((((f0.set 0 (.int 0)).set 15 (.int 1)).set 13 (.int 0)).set 14 (.int 0)).set 12 (.int 0)).set 2 (.int 0)).set 36 (.int 0)).set 37 (.int 0)).set 27 (.int 0)).set 31 (.int 0)).set 28 (.int 0)).set 32 (.int 0)).set 33 (.int 0)).set 16 (.int 1)).set 9 (.int 1)).set 9 (.int 2)).set 9 (.int 3)))), (h5, .inl (cB, 24800, .inl (upd (upd (upd g4 0 1) 1 0) 2 0)))] H := hP
  have hD : va_D A [(h1, .inl (cI, 2001, .inl (upd g0 0 0))), (h2, .inl (cI, 2001, .inl (upd g1 0 0))), (h3, .inl (cI, 2001, .inl (upd g2 0 0))), (h4, .inl (cI, 2001, .inl (upd g3 0 0))), (h0, .inr (12, (((((((((((((((((f0.set 0 (.int 0)).set 15 (.int 1)).set 13 (.int 0)).set 14 (.int 0)).set 12 (.int 0)).set 2 (.int 0)).set 36 (.int 0)).set 37 (.int 0)).set 27 (.int 0)).set 31 (.int 0)).set 28 (.int 0)).set 32 (.int 0)).set 33 (.int 0)).set 16 (.int 1)).set 9 (.int 1)).set 9 (.int 2)).set 9 (.int 3)))), (h5, .inl (cB, 24800, .inl (upd (upd (upd g4 0 1) 1 0) 2 0)))] := hD
  refine lv_iconst (v := 0) hx hb dX12_call_115 (by decide) ?_
  refine lv_istore_n (lv' := [(3, .int 0), (2, .int 0), (0, .ref h0), (1, .int 1)]) hx hb dX12_call_116 rfl hl (by decide) rfl (fun ls hl => ?_)
  refine lv_iload_n hx hb dX12_call_117 rfl (lv_at hl 0 rfl) ?_
  refine lv_aload_n hx hb dX12_call_118 rfl (lv_at hl 2 rfl) ?_
  refine va_get (D := D) (ref := "IntegerHouseModel") (ci := 12) (v := .int 0) (C := RX12) (T := TX12) (N := 195) hx hb hts hin12 hown hK hP 4 rfl rfl 12 (by decide) (hts (.fieldLink RX12 469 "IntegerHouseModel" "docSize" "I") (List.mem_cons_of_mem _ (List.mem_append_left _ (List.mem_append_left _ (List.mem_of_getElem? (i := 7) rfl))))) (fun _ h9 => h9) (k_ne (by decide) (k_ne (by decide) (k_ne (by decide) (k_ne (by decide) (k_ne (by decide) (k_ne (by decide) (k_ne (by decide) (k_ne (by decide) (k_ne (by decide) (k_ne (by decide) (k_ne (by decide) (k_ne (by decide) (k_set (k_ne (by decide) (k_ne (by decide) (k_ne (by decide) (k_ne (by decide) e6))))))))))))))))) dX12_call_119 ?_
  refine lv_icmp_ge (tgt := 141) hx hb dX12_call_122 (by decide) (fun _ => ?_) (fun c9 => absurd (by decide) c9)
  refine lv_iload_n hx hb dX12_call_141 rfl (lv_at hl 1 rfl) ?_
  have hP := hP.sub (ws' := [(h0, .inr (12, (((((((((((((((((f0.set 0 (.int 0)).set 15 (.int 1)).set 13 (.int 0)).set 14 (.int 0)).set 12 (.int 0)).set 2 (.int 0)).set 36 (.int 0)).set 37 (.int 0)).set 27 (.int 0)).set 31 (.int 0)).set 28 (.int 0)).set 32 (.int 0)).set 33 (.int 0)).set 16 (.int 1)).set 9 (.int 1)).set 9 (.int 2)).set 9 (.int 3)))), (h1, .inl (cI, 2001, .inl (upd g0 0 0))), (h2, .inl (cI, 2001, .inl (upd g1 0 0))), (h3, .inl (cI, 2001, .inl (upd g2 0 0))), (h4, .inl (cI, 2001, .inl (upd g3 0 0))), (h5, .inl (cB, 24800, .inl (upd (upd (upd g4 0 1) 1 0) 2 0)))]) [4, 0, 1, 2, 3, 5] rfl
  have hD := hD.sub (ws' := [(h0, .inr (12, (((((((((((((((((f0.set 0 (.int 0)).set 15 (.int 1)).set 13 (.int 0)).set 14 (.int 0)).set 12 (.int 0)).set 2 (.int 0)).set 36 (.int 0)).set 37 (.int 0)).set 27 (.int 0)).set 31 (.int 0)).set 28 (.int 0)).set 32 (.int 0)).set 33 (.int 0)).set 16 (.int 1)).set 9 (.int 1)).set 9 (.int 2)).set 9 (.int 3)))), (h1, .inl (cI, 2001, .inl (upd g0 0 0))), (h2, .inl (cI, 2001, .inl (upd g1 0 0))), (h3, .inl (cI, 2001, .inl (upd g2 0 0))), (h4, .inl (cI, 2001, .inl (upd g3 0 0))), (h5, .inl (cB, 24800, .inl (upd (upd (upd g4 0 1) 1 0) 2 0)))]) [4, 0, 1, 2, 3, 5] (by decide +kernel) rfl
  exact W.iret (v := 0) hx hb hr (fun t ht hW => ⟨⟨0, (), rfl, rfl, kB_mk ht hW hP hK hD⟩, hS.F ht⟩) hS.2.2 dX12_call_142
set_option maxHeartbeats 400000000 in
set_option maxRecDepth 100000 in
theorem c_X12_read_0 (l : Launch) (E : kE) (D : va_G) (cI cJ cB cZ : ClassId) (h0 : Nat) (f0 : List Value) (h1 : Nat) (h2 : Nat) (h3 : Nat) (h4 : Nat) (h5 : Nat) (g0 : Nat → Int32) (g1 : Nat → Int32) (g2 : Nat → Int32) (g3 : Nat → Int32) (g4 : Nat → Int32) (e0 : f0[0]? = some (.int 0)) (e1 : f0[5]? = some (.int 0)) (e2 : f0[15]? = some (.int 0)) (e3 : f0[13]? = some (.int 0)) (e4 : f0[14]? = some (.int 0)) (e5 : f0[2]? = some (.int 0)) (e6 : f0[12]? = some (.int 0)) (e7 : f0[32]? = some (.int 0)) (e8 : f0[36]? = some (.int 0)) (e9 : f0[33]? = some (.int 0)) (e10 : f0[37]? = some (.int 0)) (e11 : f0[27]? = some (.int 0)) (e12 : f0[31]? = some (.int 0)) (e13 : f0[28]? = some (.int 0)) (e14 : f0[23]? = some (.ref h1)) (e15 : f0[24]? = some (.ref h2)) (e16 : f0[25]? = some (.ref h3)) (e17 : f0[26]? = some (.ref h4)) (e18 : f0[9]? = some (.int 0)) (e19 : f0[4]? = some (.int 0)) (e20 : f0[16]? = some (.int 0)) (e21 : f0[8]? = some (.ref h5)) : kI l E D (kT cI cJ cB cZ) yX12_read wsX12_read ({ frames := 5, cells := 0, slots := 0, locals := 113 }) [.ref h0] [(h0, .inr (12, f0)), (h1, .inl (cI, 2001, .inl g0)), (h2, .inl (cI, 2001, .inl g1)), (h3, .inl (cI, 2001, .inl g2)), (h4, .inl (cI, 2001, .inl g3)), (h5, .inl (cB, 24800, .inl g4))] (0) [(h0, .inr (12, (((((((((((((((((f0.set 0 (.int 0)).set 15 (.int 1)).set 13 (.int 0)).set 14 (.int 0)).set 12 (.int 0)).set 2 (.int 0)).set 36 (.int 0)).set 37 (.int 0)).set 27 (.int 0)).set 31 (.int 0)).set 28 (.int 0)).set 32 (.int 0)).set 33 (.int 0)).set 16 (.int 1)).set 9 (.int 1)).set 9 (.int 2)).set 9 (.int 3)))), (h1, .inl (cI, 2001, .inl (upd g0 0 0))), (h2, .inl (cI, 2001, .inl (upd g1 0 0))), (h3, .inl (cI, 2001, .inl (upd g2 0 0))), (h4, .inl (cI, 2001, .inl (upd g3 0 0))), (h5, .inl (cB, 24800, .inl (upd (upd (upd g4 0 1) 1 0) 2 0)))] 0 0 := by
  intro sz
  refine Met.ofW (cc := cX12_read) (maxL := 1) (ret := (some .int)) (by decide) rfl ?_
  intro p e s m args below meth c s₁ B hml hv
  obtain ⟨rfl, hsz, hP, hK, hD0, hN, hX⟩ := hv
  have hx := B.exec
  have hb := B.bytes
  have hr := B.returns
  have hts := atoms_spec (ws := wsX12_read) B.pre
  have hown : s.vm.findClass RX12 = some m.cls := findClass_of_methodNamed B.named
  have hlocks := B.notSynchronized
  subst hsz
  have hD := hD0.self (sz := s.heap.size)
  have hAE := k_AE hD0 hX
  generalize hAe : va_A [(h0, .inr (12, f0)), (h1, .inl (cI, 2001, .inl g0)), (h2, .inl (cI, 2001, .inl g1)), (h3, .inl (cI, 2001, .inl g2)), (h4, .inl (cI, 2001, .inl g3)), (h5, .inl (cB, 24800, .inl g4))] s.heap.size = A at hD hAE ⊢
  have hA : ∀ q : Nat, s.heap.size ≤ q → A q := fun q h => by rw [← hAe]; exact Or.inr h
  have hS : va_S A s.heap s.heap [] := va_S.rf
  have hP : va_P D vwCl [(h0, .inr (12, f0)), (h1, .inl (cI, 2001, .inl g0)), (h2, .inl (cI, 2001, .inl g1)), (h3, .inl (cI, 2001, .inl g2)), (h4, .inl (cI, 2001, .inl g3)), (h5, .inl (cB, 24800, .inl g4))] s.heap := hP
  have hl := lv_entry ([.ref h0] : List Value) (n := 1) (Nat.le_of_ble_eq_true rfl)
  rw [lg_entry_eq]
  generalize (lg_sl ([.ref h0]) ++ List.replicate (1 - (lg_sl ([.ref h0])).length) Slot.unset).toArray = ls at hl ⊢
  have hl : lv_has ls 1 [(0, .ref h0)] := hl
  refine lv_aload_n hx hb dX12_read_0 rfl (lv_at hl 0 rfl) ?_
  refine lv_iconst (v := 1) hx hb dX12_read_1 (by decide) ?_
  refine k_cVi (As := [.int 1]) (rest := []) (wc := [(h0, .inr (12, f0)), (h1, .inl (cI, 2001, .inl g0)), (h2, .inl (cI, 2001, .inl g1)), (h3, .inl (cI, 2001, .inl g2)), (h4, .inl (cI, 2001, .inl g3)), (h5, .inl (cB, 24800, .inl g4))]) (wr := []) (w1 := [(h0, .inr (12, (((((((((((((((((f0.set 0 (.int 0)).set 15 (.int 1)).set 13 (.int 0)).set 14 (.int 0)).set 12 (.int 0)).set 2 (.int 0)).set 36 (.int 0)).set 37 (.int 0)).set 27 (.int 0)).set 31 (.int 0)).set 28 (.int 0)).set 32 (.int 0)).set 33 (.int 0)).set 16 (.int 1)).set 9 (.int 1)).set 9 (.int 2)).set 9 (.int 3)))), (h1, .inl (cI, 2001, .inl (upd g0 0 0))), (h2, .inl (cI, 2001, .inl (upd g1 0 0))), (h3, .inl (cI, 2001, .inl (upd g2 0 0))), (h4, .inl (cI, 2001, .inl (upd g3 0 0))), (h5, .inl (cB, 24800, .inl (upd (upd (upd g4 0 1) 1 0) 2 0)))]) ⟨hx, hb, hml, hown, hts⟩ hN hX hAE hK hP hD hS hA [0, 1, 2, 3, 4, 5] [] (ci := 12) rfl rfl rfl rfl (by decide +kernel) (by decide +kernel) (by decide +kernel) (c_X12_call_0 l E D cI cJ cB cZ h0 f0 h1 h2 h3 h4 g0 g1 g2 g3 h5 g4 e0 e1 e2 e3 e4 e5 e6 e7 e8 e9 e10 e11 e12 e13 e14 e15 e16 e17 e18 e19 e20 e21) (cwV 1 hts gX12_read_X12_call rfl rfl rfl (by decide +kernel) ⟨Nat.le_of_ble_eq_true rfl, Nat.le_of_ble_eq_true rfl⟩) rfl hl.1 (Nat.le_of_ble_eq_true rfl) dX12_read_2 ⟨Nat.le_of_ble_eq_true rfl, Nat.le_of_ble_eq_true rfl⟩ (fun H locs hP hD hS => ?_)
  have hP : va_P D vwCl [(h0, .inr (12, (((((((((((((((((f0.set 0 (.int 0)).set 15 (.int 1)).set 13 (.int 0)).set 14 (.int 0)).set 12 (.int 0)).set 2 (.int 0)).set 36 (.int 0)).set 37 (.int 0)).set 27 (.int 0)).set 31 (.int 0)).set 28 (.int 0)).set 32 (.int 0)).set 33 (.int 0)).set 16 (.int 1)).set 9 (.int 1)).set 9 (.int 2)).set 9 (.int 3)))), (h1, .inl (cI, 2001, .inl (upd g0 0 0))), (h2, .inl (cI, 2001, .inl (upd g1 0 0))), (h3, .inl (cI, 2001, .inl (upd g2 0 0))), (h4, .inl (cI, 2001, .inl (upd g3 0 0))), (h5, .inl (cB, 24800, .inl (upd (upd (upd g4 0 1) 1 0) 2 0)))] H := hP
  have hD : va_D A [(h0, .inr (12, (((((((((((((((((f0.set 0 (.int 0)).set 15 (.int 1)).set 13 (.int 0)).set 14 (.int 0)).set 12 (.int 0)).set 2 (.int 0)).set 36 (.int 0)).set 37 (.int 0)).set 27 (.int 0)).set 31 (.int 0)).set 28 (.int 0)).set 32 (.int 0)).set 33 (.int 0)).set 16 (.int 1)).set 9 (.int 1)).set 9 (.int 2)).set 9 (.int 3)))), (h1, .inl (cI, 2001, .inl (upd g0 0 0))), (h2, .inl (cI, 2001, .inl (upd g1 0 0))), (h3, .inl (cI, 2001, .inl (upd g2 0 0))), (h4, .inl (cI, 2001, .inl (upd g3 0 0))), (h5, .inl (cB, 24800, .inl (upd (upd (upd g4 0 1) 1 0) 2 0)))] := hD
  exact W.iret (v := 0) hx hb hr (fun t ht hW => ⟨⟨0, (), rfl, rfl, kB_mk ht hW hP hK hD⟩, hS.F ht⟩) hS.2.2 dX12_read_5
set_option maxHeartbeats 400000000 in
set_option maxRecDepth 100000 in
theorem c_X11_fault_0 (l : Launch) (E : kE) (D : va_G) (cI cJ cB cZ : ClassId) (h0 : Nat) (f0 : List Value) (e0 : f0[13]? = some (.int 0)) : kI l E D (kT cI cJ cB cZ) yX11_fault wsX11_fault ({ frames := 0, cells := 0, slots := 0, locals := 0 }) [.ref h0] [(h0, .inr (11, f0))] (0) [(h0, .inr (11, f0))] 0 0 := by
  intro sz
  refine Met.ofW (cc := cX11_fault) (maxL := 1) (ret := (some .int)) (by decide) rfl ?_
  intro p e s m args below meth c s₁ B hml hv
  obtain ⟨rfl, hsz, hP, hK, hD0, hN, hX⟩ := hv
  have hx := B.exec
  have hb := B.bytes
  have hr := B.returns
  have hts := atoms_spec (ws := wsX11_fault) B.pre
  have hown : s.vm.findClass RX11 = some m.cls := findClass_of_methodNamed B.named
  have hlocks := B.notSynchronized
  have hin11 : ∀ w ∈ wsX110, w ∈ wsX11_fault := (fun w h => (List.mem_cons_of_mem _ (List.mem_append_right _ h)))
  subst hsz
  have hD := hD0.self (sz := s.heap.size)
  have hAE := k_AE hD0 hX
  generalize hAe : va_A [(h0, .inr (11, f0))] s.heap.size = A at hD hAE ⊢
  have hA : ∀ q : Nat, s.heap.size ≤ q → A q := fun q h => by rw [← hAe]; exact Or.inr h
  have hS : va_S A s.heap s.heap [] := va_S.rf
  have hP : va_P D vwCl [(h0, .inr (11, f0))] s.heap := hP
  have hl := lv_entry ([.ref h0] : List Value) (n := 1) (Nat.le_of_ble_eq_true rfl)
  rw [lg_entry_eq]
  generalize (lg_sl ([.ref h0]) ++ List.replicate (1 - (lg_sl ([.ref h0])).length) Slot.unset).toArray = ls at hl ⊢
  have hl : lv_has ls 1 [(0, .ref h0)] := hl
  refine lv_aload_n hx hb dX11_fault_0 rfl (lv_at hl 0 rfl) ?_
  refine va_get (D := D) (ref := "IntegerHouse") (ci := 11) (v := .int 0) (C := RX11) (T := TX11) (N := 15) hx hb hts hin11 hown hK hP 0 rfl rfl 13 (by decide) (hts (.fieldLink RX11 253 "IntegerHouse" "latestFault" "I") (List.mem_cons_of_mem _ (List.mem_append_left _ (List.mem_of_getElem? (i := 0) rfl)))) (fun _ h9 => h9) e0 dX11_fault_1 ?_
  exact W.iret (v := 0) hx hb hr (fun t ht hW => ⟨⟨0, (), rfl, rfl, kB_mk ht hW hP hK hD⟩, hS.F ht⟩) hS.2.2 dX11_fault_4
set_option maxHeartbeats 400000000 in
set_option maxRecDepth 100000 in
theorem c_X12_fault_0 (l : Launch) (E : kE) (D : va_G) (cI cJ cB cZ : ClassId) (h0 : Nat) (f0 : List Value) (e0 : f0[0]? = some (.int 0)) (e1 : f0[109]? = some (.int 0)) : kI l E D (kT cI cJ cB cZ) yX12_fault wsX12_fault ({ frames := 0, cells := 0, slots := 0, locals := 0 }) [.ref h0] [(h0, .inr (12, f0))] (0) [(h0, .inr (12, (f0.set 0 (.int 0))))] 0 0 := by
  intro sz
  refine Met.ofW (cc := cX12_fault) (maxL := 1) (ret := (some .int)) (by decide) rfl ?_
  intro p e s m args below meth c s₁ B hml hv
  obtain ⟨rfl, hsz, hP, hK, hD0, hN, hX⟩ := hv
  have hx := B.exec
  have hb := B.bytes
  have hr := B.returns
  have hts := atoms_spec (ws := wsX12_fault) B.pre
  have hown : s.vm.findClass RX12 = some m.cls := findClass_of_methodNamed B.named
  have hlocks := B.notSynchronized
  have hin12 : ∀ w ∈ wsX120, w ∈ wsX12_fault := (fun w h => (List.mem_cons_of_mem _ (List.mem_append_right _ h)))
  subst hsz
  have hD := hD0.self (sz := s.heap.size)
  have hAE := k_AE hD0 hX
  generalize hAe : va_A [(h0, .inr (12, f0))] s.heap.size = A at hD hAE ⊢
  have hA : ∀ q : Nat, s.heap.size ≤ q → A q := fun q h => by rw [← hAe]; exact Or.inr h
  have hS : va_S A s.heap s.heap [] := va_S.rf
  have hP : va_P D vwCl [(h0, .inr (12, f0))] s.heap := hP
  have hl := lv_entry ([.ref h0] : List Value) (n := 1) (Nat.le_of_ble_eq_true rfl)
  rw [lg_entry_eq]
  generalize (lg_sl ([.ref h0]) ++ List.replicate (1 - (lg_sl ([.ref h0])).length) Slot.unset).toArray = ls at hl ⊢
  have hl : lv_has ls 1 [(0, .ref h0)] := hl
  refine lv_aload_n hx hb dX12_fault_0 rfl (lv_at hl 0 rfl) ?_
  refine lv_iconst (v := 0) hx hb dX12_fault_1 (by decide) ?_
  refine va_put (D := D) (ref := "IntegerHouseModel") (ci := 12) (v := .int 0) (ty := .int) (C := RX12) (T := TX12) (N := 195) hx hb hts hin12 tyX12 tyX12_ok nmX12 hown hK hP hD hS 0 rfl rfl 0 (by decide) (hts (.fieldLink RX12 3 "IntegerHouseModel" "thrown" "I") (List.mem_cons_of_mem _ (List.mem_append_left _ (List.mem_of_getElem? (i := 0) rfl)))) (fun _ h9 => h9) rfl (by decide +kernel) rfl rfl (k_len e0) dX12_fault_2 (fun H locs hP hD hS => ?_)
  have hP : va_P D vwCl [(h0, .inr (12, (f0.set 0 (.int 0))))] H := hP
  have hD : va_D A [(h0, .inr (12, (f0.set 0 (.int 0))))] := hD
  refine lv_aload_n hx hb dX12_fault_5 rfl (lv_at hl 0 rfl) ?_
  refine va_get (D := D) (ref := "IntegerHouseModel") (ci := 12) (v := .int 0) (C := RX12) (T := TX12) (N := 195) hx hb hts hin12 hown hK hP 0 rfl rfl 109 (by decide) (hts (.fieldLink RX12 836 "IntegerHouseModel" "latestFault" "I") (List.mem_cons_of_mem _ (List.mem_append_left _ (List.mem_of_getElem? (i := 1) rfl)))) (fun _ h9 => h9) (k_ne (by decide) e1) dX12_fault_6 ?_
  exact W.iret (v := 0) hx hb hr (fun t ht hW => ⟨⟨0, (), rfl, rfl, kB_mk ht hW hP hK hD⟩, hS.F ht⟩) hS.2.2 dX12_fault_9
set_option maxHeartbeats 400000000 in
set_option maxRecDepth 100000 in
theorem c_X2_isClaim_0 (l : Launch) (E : kE) (D : va_G) (cI cJ cB cZ : ClassId) (h0 : Nat) (x0 : Int32) (f0 : List Value) (e0 : ¬ ((x0 : Int32) < 0)) (e1 : f0[11]? = some (.int 0)) : kI l E D (kT cI cJ cB cZ) yX2_isClaim wsX2_isClaim ({ frames := 0, cells := 0, slots := 0, locals := 0 }) [.ref h0, .int x0] [(h0, .inr (2, f0))] (0) [(h0, .inr (2, f0))] 0 0 := by
  intro sz
  refine Met.ofW (cc := cX2_isClaim) (maxL := 2) (ret := (some .boolean)) (by decide) rfl ?_
  intro p e s m args below meth c s₁ B hml hv
  obtain ⟨rfl, hsz, hP, hK, hD0, hN, hX⟩ := hv
  have hx := B.exec
  have hb := B.bytes
  have hr := B.returns
  have hts := atoms_spec (ws := wsX2_isClaim) B.pre
  have hown : s.vm.findClass RX2 = some m.cls := findClass_of_methodNamed B.named
  have hlocks := B.notSynchronized
  have hin2 : ∀ w ∈ wsX20, w ∈ wsX2_isClaim := (fun w h => (List.mem_cons_of_mem _ (List.mem_append_right _ h)))
  subst hsz
  have hD := hD0.self (sz := s.heap.size)
  have hAE := k_AE hD0 hX
  generalize hAe : va_A [(h0, .inr (2, f0))] s.heap.size = A at hD hAE ⊢
  have hA : ∀ q : Nat, s.heap.size ≤ q → A q := fun q h => by rw [← hAe]; exact Or.inr h
  have hS : va_S A s.heap s.heap [] := va_S.rf
  have hP : va_P D vwCl [(h0, .inr (2, f0))] s.heap := hP
  have hl := lv_entry ([.ref h0, .int x0] : List Value) (n := 2) (Nat.le_of_ble_eq_true rfl)
  rw [lg_entry_eq]
  generalize (lg_sl ([.ref h0, .int x0]) ++ List.replicate (2 - (lg_sl ([.ref h0, .int x0])).length) Slot.unset).toArray = ls at hl ⊢
  have hl : lv_has ls 2 [(0, .ref h0), (1, .int x0)] := hl
  refine lv_iload_n hx hb dX2_isClaim_0 rfl (lv_at hl 1 rfl) ?_
  refine lv_if_lt (tgt := 16) hx hb dX2_isClaim_1 (by decide) (fun c9 => absurd c9 e0) (fun _ => ?_)
  refine lv_iload_n hx hb dX2_isClaim_4 rfl (lv_at hl 1 rfl) ?_
  refine lv_aload_n hx hb dX2_isClaim_5 rfl (lv_at hl 0 rfl) ?_
  refine va_get (D := D) (ref := "IntegerHouse$House") (ci := 2) (v := .int 0) (C := RX2) (T := TX2) (N := 16) hx hb hts hin2 hown hK hP 0 rfl rfl 11 (by decide) (hts (.fieldLink RX2 55 "IntegerHouse$House" "claims" "I") (List.mem_cons_of_mem _ (List.mem_append_left _ (List.mem_of_getElem? (i := 0) rfl)))) (fun _ h9 => h9) e1 dX2_isClaim_6 ?_
  refine lv_icmp_ge (tgt := 16) hx hb dX2_isClaim_9 (by decide) (fun _ => ?_) (fun c9 => absurd ((k_n2 (x := x0) (c := 0)).mpr e0) c9)
  refine lv_iconst (v := 0) hx hb dX2_isClaim_16 (by decide) ?_
  exact W.zret (v := 0) hx hb hr rfl (fun t ht hW => ⟨⟨0, (), rfl, rfl, kB_mk ht hW hP hK hD⟩, hS.F ht⟩) hS.2.2 dX2_isClaim_17
set_option maxHeartbeats 400000000 in
set_option maxRecDepth 100000 in
theorem c_X11_on_0 (l : Launch) (E : kE) (D : va_G) (cI cJ cB cZ : ClassId) (h0 : Nat) (x0 : Int32) (f0 : List Value) (h1 : Nat) (f1 : List Value) (h2 : Nat) (f2 : List Value) (e0 : f0[1]? = some (.ref h1)) (e1 : f1[8]? = some (.int 0)) (e2 : f0[2]? = some (.ref h2)) (e3 : f2[11]? = some (.int 0)) (e4 : ¬ ((x0 : Int32) < 0)) : kI l E D (kT cI cJ cB cZ) yX11_on wsX11_on ({ frames := 1, cells := 0, slots := 0, locals := 21 }) [.ref h0, .int x0, .int 1] [(h0, .inr (11, f0)), (h1, .inr (1, f1)), (h2, .inr (2, f2))] ((-101)) [(h0, .inr (11, f0)), (h1, .inr (1, f1)), (h2, .inr (2, f2))] 0 0 := by
  intro sz
  refine Met.ofW (cc := cX11_on) (maxL := 4) (ret := (some .int)) (by decide) rfl ?_
  intro p e s m args below meth c s₁ B hml hv
  obtain ⟨rfl, hsz, hP, hK, hD0, hN, hX⟩ := hv
  have hx := B.exec
  have hb := B.bytes
  have hr := B.returns
  have hts := atoms_spec (ws := wsX11_on) B.pre
  have hown : s.vm.findClass RX11 = some m.cls := findClass_of_methodNamed B.named
  have hlocks := B.notSynchronized
  have hin11 : ∀ w ∈ wsX110, w ∈ wsX11_on := (fun w h => (List.mem_cons_of_mem _ (List.mem_append_left _ (List.mem_append_left _ (List.mem_append_right _ h)))))
  have hin1 : ∀ w ∈ wsX10, w ∈ wsX11_on := (fun w h => (List.mem_cons_of_mem _ (List.mem_append_left _ (List.mem_append_right _ h))))
  subst hsz
  have hD := hD0.self (sz := s.heap.size)
  have hAE := k_AE hD0 hX
  generalize hAe : va_A [(h0, .inr (11, f0)), (h1, .inr (1, f1)), (h2, .inr (2, f2))] s.heap.size = A at hD hAE ⊢
  have hA : ∀ q : Nat, s.heap.size ≤ q → A q := fun q h => by rw [← hAe]; exact Or.inr h
  have hS : va_S A s.heap s.heap [] := va_S.rf
  have hP : va_P D vwCl [(h0, .inr (11, f0)), (h1, .inr (1, f1)), (h2, .inr (2, f2))] s.heap := hP
  have hl := lv_entry ([.ref h0, .int x0, .int 1] : List Value) (n := 4) (Nat.le_of_ble_eq_true rfl)
  rw [lg_entry_eq]
  generalize (lg_sl ([.ref h0, .int x0, .int 1]) ++ List.replicate (4 - (lg_sl ([.ref h0, .int x0, .int 1])).length) Slot.unset).toArray = ls at hl ⊢
  have hl : lv_has ls 4 [(0, .ref h0), (1, .int x0), (2, .int 1)] := hl
  refine lv_aload_n hx hb dX11_on_0 rfl (lv_at hl 0 rfl) ?_
  refine va_get (D := D) (ref := "IntegerHouse") (ci := 11) (v := .ref h1) (C := RX11) (T := TX11) (N := 15) hx hb hts hin11 hown hK hP 0 rfl rfl 1 (by decide) (hts (.fieldLink RX11 16 "IntegerHouse" "disk" "LIntegerHouse$Disk;") (List.mem_cons_of_mem _ (List.mem_append_left _ (List.mem_append_left _ (List.mem_append_left _ (List.mem_append_left _ (List.mem_of_getElem? (i := 0) rfl))))))) (fun _ h9 => h9) e0 dX11_on_1 ?_
  refine va_getN (host := "IntegerHouse") (D := D) (ref := "IntegerHouse$Disk") (ci := 1) (v := .int 0) (C := RX1) (T := TX1) (N := 9) hx hb hts hin1 hown hK hP 1 rfl rfl 8 (by decide) (va_Nw.use rfl (hN.1 ("IntegerHouse", 122, "IntegerHouse$Disk", "down", "Z", "IntegerHouse") (List.mem_of_getElem? (i := 3) rfl))) (fun _ h9 => h9) e1 dX11_on_4 ?_
  refine lv_if_eq (tgt := 13) hx hb dX11_on_7 (by decide) (fun _ => ?_) (fun c9 => absurd (by decide) c9)
  refine lv_aload_n hx hb dX11_on_13 rfl (lv_at hl 0 rfl) ?_
  refine va_get (D := D) (ref := "IntegerHouse") (ci := 11) (v := .ref h2) (C := RX11) (T := TX11) (N := 15) hx hb hts hin11 hown hK hP 0 rfl rfl 2 (by decide) (hts (.fieldLink RX11 23 "IntegerHouse" "house" "LIntegerHouse$House;") (List.mem_cons_of_mem _ (List.mem_append_left _ (List.mem_append_left _ (List.mem_append_left _ (List.mem_append_left _ (List.mem_of_getElem? (i := 1) rfl))))))) (fun _ h9 => h9) e2 dX11_on_14 ?_
  refine lv_iload_n hx hb dX11_on_17 rfl (lv_at hl 1 rfl) ?_
  refine k_cVi (As := [.int x0]) (rest := []) (wc := [(h2, .inr (2, f2))]) (wr := [(h0, .inr (11, f0)), (h1, .inr (1, f1))]) (w1 := [(h2, .inr (2, f2))]) ⟨hx, hb, hml, hown, hts⟩ hN hX hAE hK hP hD hS hA [2] [0, 1] (ci := 2) rfl rfl rfl rfl (by decide +kernel) (by decide +kernel) (by decide +kernel) (c_X2_isClaim_0 l E D cI cJ cB cZ h2 x0 f2 e4 e3) (cwV 1 hts gX11_on_X2_isClaim rfl rfl rfl (by decide +kernel) ⟨Nat.le_of_ble_eq_true rfl, Nat.le_of_ble_eq_true rfl⟩) rfl hl.1 (Nat.le_of_ble_eq_true rfl) dX11_on_18 ⟨Nat.le_of_ble_eq_true rfl, Nat.le_of_ble_eq_true rfl⟩ (fun H locs hP hD hS => ?_)
  have hP : va_P D vwCl [(h0, .inr (11, f0)), (h1, .inr (1, f1)), (h2, .inr (2, f2))] H := hP
  have hD : va_D A [(h0, .inr (11, f0)), (h1, .inr (1, f1)), (h2, .inr (2, f2))] := hD
  refine lv_if_ne (tgt := 27) hx hb dX11_on_21 (by decide) (fun c9 => absurd (by decide) c9) (fun _ => ?_)
  refine lv_bipush (v := (-101)) hx hb dX11_on_24 (by decide) ?_
  exact W.iret (v := (-101)) hx hb hr (fun t ht hW => ⟨⟨(-101), (), rfl, rfl, kB_mk ht hW hP hK hD⟩, hS.F ht⟩) hS.2.2 dX11_on_26
set_option maxHeartbeats 400000000 in
set_option maxRecDepth 100000 in
theorem c_X12_in_12 (l : Launch) (E : kE) (D : va_G) (cI cJ cB cZ : ClassId) (y0 : Int64) (e0 : ¬ (((lg_cmp y0 0) : Int32) < 0)) (e1 : (0 : Int32) < (lg_cmp y0 (-1))) : kI l E D (kT cI cJ cB cZ) yX12_in wsX12_in ({ frames := 0, cells := 0, slots := 0, locals := 0 }) [.long y0, .long 0, .long (-1)] [] (0) [] 0 0 := by
  intro sz
  refine Met.ofW (cc := cX12_in) (maxL := 6) (ret := (some .boolean)) (by decide) rfl ?_
  intro p e s m args below meth c s₁ B hml hv
  obtain ⟨rfl, hsz, hP, hK, hD0, hN, hX⟩ := hv
  have hx := B.exec
  have hb := B.bytes
  have hr := B.returns
  have hts := atoms_spec (ws := wsX12_in) B.pre
  have hown : s.vm.findClass RX12 = some m.cls := findClass_of_methodNamed B.named
  have hlocks := B.notSynchronized
  subst hsz
  have hD := hD0.self (sz := s.heap.size)
  have hAE := k_AE hD0 hX
  generalize hAe : va_A [] s.heap.size = A at hD hAE ⊢
  have hA : ∀ q : Nat, s.heap.size ≤ q → A q := fun q h => by rw [← hAe]; exact Or.inr h
  have hS : va_S A s.heap s.heap [] := va_S.rf
  have hP : va_P D vwCl [] s.heap := hP
  have hl := lv_entry ([.long y0, .long 0, .long (-1)] : List Value) (n := 6) (Nat.le_of_ble_eq_true rfl)
  rw [lg_entry_eq]
  generalize (lg_sl ([.long y0, .long 0, .long (-1)]) ++ List.replicate (6 - (lg_sl ([.long y0, .long 0, .long (-1)])).length) Slot.unset).toArray = ls at hl ⊢
  have hl : lv_has ls 6 [(0, .long y0), (2, .long 0), (4, .long (-1))] := hl
  refine lv_lload_n hx hb dX12_in_0 rfl (lv_at hl 0 rfl) ?_
  refine lv_lload_n hx hb dX12_in_1 rfl (lv_at hl 1 rfl) ?_
  refine W.lcmp hx hb dX12_in_2 ?_
  refine lv_if_lt (tgt := 17) hx hb dX12_in_3 (by decide) (fun c9 => absurd c9 e0) (fun _ => ?_)
  refine lv_lload_n hx hb dX12_in_6 rfl (lv_at hl 0 rfl) ?_
  refine lv_lload hx hb dX12_in_7 (lv_at hl 2 rfl) ?_
  refine W.lcmp hx hb dX12_in_9 ?_
  refine lv_if_gt (tgt := 17) hx hb dX12_in_10 (by decide) (fun _ => ?_) (fun c9 => absurd e1 c9)
  refine lv_iconst (v := 0) hx hb dX12_in_17 (by decide) ?_
  exact W.zret (v := 0) hx hb hr rfl (fun t ht hW => ⟨⟨0, (), rfl, rfl, kB_mk ht hW hP hK hD⟩, hS.F ht⟩) hS.2.2 dX12_in_18
