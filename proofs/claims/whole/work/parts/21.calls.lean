abbrev cX0_boundDigit : ByteArray := prog_2_method_24_code
def yX0_boundDigit : MethodName := ⟨RX0, "boundDigit", "(I)I"⟩
abbrev cX0_isOn : ByteArray := prog_2_method_25_code
def yX0_isOn : MethodName := ⟨RX0, "isOn", "(I)Z"⟩
abbrev cX0_raise : ByteArray := prog_2_method_26_code
def yX0_raise : MethodName := ⟨RX0, "raise", "(IIJ)V"⟩
abbrev cX3_placeAt : ByteArray := prog_5_method_4_code
def yX3_placeAt : MethodName := ⟨RX3, "placeAt", "(I)I"⟩
abbrev cX7_isLine : ByteArray := prog_9_method_2_code
def yX7_isLine : MethodName := ⟨RX7, "isLine", "(I)Z"⟩
abbrev cX7_lineNumber : ByteArray := prog_9_method_3_code
def yX7_lineNumber : MethodName := ⟨RX7, "lineNumber", "(II)J"⟩
abbrev cX7_check : ByteArray := prog_9_method_4_code
def yX7_check : MethodName := ⟨RX7, "check", "([BI)I"⟩
abbrev cX7_readLine : ByteArray := prog_9_method_5_code
def yX7_readLine : MethodName := ⟨RX7, "readLine", "()V"⟩
abbrev cX7_expect : ByteArray := prog_9_method_6_code
def yX7_expect : MethodName := ⟨RX7, "expect", "(I)V"⟩
abbrev cX7_takeNumber : ByteArray := prog_9_method_7_code
def yX7_takeNumber : MethodName := ⟨RX7, "takeNumber", "(Z)V"⟩
abbrev cX7_isDone : ByteArray := prog_9_method_8_code
def yX7_isDone : MethodName := ⟨RX7, "isDone", "(I)Z"⟩
abbrev cX7_addLine : ByteArray := prog_9_method_9_code
def yX7_addLine : MethodName := ⟨RX7, "addLine", "()Z"⟩
abbrev cX7_takeAtom : ByteArray := prog_9_method_10_code
def yX7_takeAtom : MethodName := ⟨RX7, "takeAtom", "()Z"⟩
abbrev cX7_isKnown : ByteArray := prog_9_method_11_code
def yX7_isKnown : MethodName := ⟨RX7, "isKnown", "(I)Z"⟩
abbrev cX7_takeSum : ByteArray := prog_9_method_12_code
def yX7_takeSum : MethodName := ⟨RX7, "takeSum", "()Z"⟩
abbrev cX7_takeCut : ByteArray := prog_9_method_13_code
def yX7_takeCut : MethodName := ⟨RX7, "takeCut", "()Z"⟩
abbrev cX7_openCase : ByteArray := prog_9_method_14_code
def yX7_openCase : MethodName := ⟨RX7, "openCase", "()Z"⟩
abbrev cX7_endFirst : ByteArray := prog_9_method_15_code
def yX7_endFirst : MethodName := ⟨RX7, "endFirst", "()Z"⟩
abbrev cX7_endSecond : ByteArray := prog_9_method_16_code
def yX7_endSecond : MethodName := ⟨RX7, "endSecond", "()Z"⟩
abbrev cX7_endPart : ByteArray := prog_9_method_17_code
def yX7_endPart : MethodName := ⟨RX7, "endPart", "(Z)Z"⟩
abbrev cX7_isLatestFalse : ByteArray := prog_9_method_18_code
def yX7_isLatestFalse : MethodName := ⟨RX7, "isLatestFalse", "()Z"⟩
abbrev cX11_prove : ByteArray := prog_1_method_45_code
def yX11_prove : MethodName := ⟨RX11, "prove", "()I"⟩
abbrev cX11_line : ByteArray := prog_1_method_46_code
def yX11_line : MethodName := ⟨RX11, "line", "(II)J"⟩
abbrev cX11_bound : ByteArray := prog_1_method_47_code
def yX11_bound : MethodName := ⟨RX11, "bound", "(I)I"⟩
abbrev cX11_audit : ByteArray := prog_1_method_48_code
def yX11_audit : MethodName := ⟨RX11, "audit", "()I"⟩
abbrev cX12_proofWord : ByteArray := prog_14_method_197_code
def yX12_proofWord : MethodName := ⟨RX12, "proofWord", "(I)I"⟩
abbrev cX12_wantNumbers : ByteArray := prog_14_method_198_code
def yX12_wantNumbers : MethodName := ⟨RX12, "wantNumbers", "(I)V"⟩
abbrev cX12_wantName : ByteArray := prog_14_method_199_code
def yX12_wantName : MethodName := ⟨RX12, "wantName", "()V"⟩
abbrev cX12_readProofLine : ByteArray := prog_14_method_200_code
def yX12_readProofLine : MethodName := ⟨RX12, "readProofLine", "()V"⟩
abbrev cX12_isLine : ByteArray := prog_14_method_201_code
def yX12_isLine : MethodName := ⟨RX12, "isLine", "(I)Z"⟩
abbrev cX12_isFalse : ByteArray := prog_14_method_202_code
def yX12_isFalse : MethodName := ⟨RX12, "isFalse", "(I)Z"⟩
abbrev cX12_isEnded : ByteArray := prog_14_method_203_code
def yX12_isEnded : MethodName := ⟨RX12, "isEnded", "()Z"⟩
abbrev cX12_forget : ByteArray := prog_14_method_204_code
def yX12_forget : MethodName := ⟨RX12, "forget", "(I)V"⟩
abbrev cX12_isProofSize : ByteArray := prog_14_method_205_code
def yX12_isProofSize : MethodName := ⟨RX12, "isProofSize", "(J)Z"⟩
abbrev cX12_addLine : ByteArray := prog_14_method_206_code
def yX12_addLine : MethodName := ⟨RX12, "addLine", "()Z"⟩
abbrev cX12_takesAtom : ByteArray := prog_14_method_207_code
def yX12_takesAtom : MethodName := ⟨RX12, "takesAtom", "(II)Z"⟩
abbrev cX12_takesSum : ByteArray := prog_14_method_208_code
def yX12_takesSum : MethodName := ⟨RX12, "takesSum", "(IIII)Z"⟩
abbrev cX12_takesCut : ByteArray := prog_14_method_209_code
def yX12_takesCut : MethodName := ⟨RX12, "takesCut", "(II)Z"⟩
abbrev cX12_takesCase : ByteArray := prog_14_method_210_code
def yX12_takesCase : MethodName := ⟨RX12, "takesCase", "(IZI)Z"⟩
abbrev cX12_takesElse : ByteArray := prog_14_method_211_code
def yX12_takesElse : MethodName := ⟨RX12, "takesElse", "()Z"⟩
abbrev cX12_takesDone : ByteArray := prog_14_method_212_code
def yX12_takesDone : MethodName := ⟨RX12, "takesDone", "()Z"⟩
abbrev cX12_doesProofLine : ByteArray := prog_14_method_213_code
def yX12_doesProofLine : MethodName := ⟨RX12, "doesProofLine", "(I)Z"⟩
abbrev cX12_prove : ByteArray := prog_14_method_214_code
def yX12_prove : MethodName := ⟨RX12, "prove", "()I"⟩
abbrev cX12_line : ByteArray := prog_14_method_215_code
def yX12_line : MethodName := ⟨RX12, "line", "(II)J"⟩
abbrev cX12_times : ByteArray := prog_14_method_216_code
def yX12_times : MethodName := ⟨RX12, "times", "(J)V"⟩
abbrev cX12_bound : ByteArray := prog_14_method_217_code
def yX12_bound : MethodName := ⟨RX12, "bound", "(I)I"⟩
abbrev cX12_audit : ByteArray := prog_14_method_218_code
def yX12_audit : MethodName := ⟨RX12, "audit", "()I"⟩
abbrev cL_line : ByteArray := method_12_code
def yL_line : MethodName := ⟨RL, "line", "(LIntegerHouse;II[J)I"⟩
def wsX0_boundDigit_r1 : List Cond := [Cond.fieldLink RX0 44 "IntegerHouse$Answers" "house" "LIntegerHouse$House;", Cond.methodLink RX0 182 Lib.Math.abs.name, Cond.static Lib.Math.abs.name, Cond.initialized "java/lang/Math", Cond.code Lib.Math.abs.name Lib.Math.abs.code 1 (some .int), Cond.methodLink RX0 121 Lib.MathLoose.max_long.x, Cond.static Lib.MathLoose.max_long.x, Cond.code Lib.MathLoose.max_long.x Lib.MathLoose.max_long.code 4 (some .long), Cond.fieldLink RX0 189 "IntegerHouse$Answers" "limbsUsed" "I", Cond.fieldLink RX0 37 "IntegerHouse$Answers" "limbs" "[J", Cond.constantLong RX0 192 (10), Cond.methodLink RX0 176 yX2_pooled, Cond.instanceMethod yX2_pooled, Cond.selects RX2 yX2_pooled yX2_pooled, Cond.initialized RX2, Cond.code yX2_pooled cX2_pooled 3 (some .int), Cond.fieldLink RX2 34 "IntegerHouse$House" "pool" "[I", Cond.methodLink RX0 179 yX0_isOn, Cond.instanceMethod yX0_isOn, Cond.selects RX0 yX0_isOn yX0_isOn, Cond.initialized RX0, Cond.code yX0_isOn cX0_isOn 5 (some .boolean), Cond.methodLink RX0 200 yX2_fact, Cond.instanceMethod yX2_fact]
def wsX0_boundDigit_r2 : List Cond := [Cond.selects RX2 yX2_fact yX2_fact, Cond.code yX2_fact cX2_fact 3 (some .int), Cond.fieldLink RX2 28 "IntegerHouse$House" "facts" "[I", Cond.methodLink RX0 203 yX2_atomOf, Cond.instanceMethod yX2_atomOf, Cond.selects RX2 yX2_atomOf yX2_atomOf, Cond.code yX2_atomOf cX2_atomOf 3 (some .int), Cond.fieldLink RX2 31 "IntegerHouse$House" "atoms" "[I", Cond.methodLink RX0 185 yX0_raise, Cond.instanceMethod yX0_raise, Cond.selects RX0 yX0_raise yX0_raise, Cond.code yX0_raise cX0_raise 11 none, Cond.fieldLink RX0 206 "IntegerHouse$Answers" "powerVariables" "I", Cond.fieldLink RX0 209 "IntegerHouse$Answers" "powerLines" "I", Cond.fieldLink RX0 212 "IntegerHouse$Answers" "powerBase" "J", Cond.constantLong RX0 163 (1000000000)]
def wsX0_boundDigit : List Cond := .code yX0_boundDigit cX0_boundDigit 8 (some .int) :: ((wsX0_boundDigit_r1 ++ wsX0_boundDigit_r2) ++ wsX00 ++ wsX20)
def wsX3_kindAt : List Cond := .code yX3_kindAt cX3_kindAt 2 (some .int) :: ([.fieldLink RX3 48 "IntegerHouse$Lexer" "size" "I", .fieldLink RX3 15 "IntegerHouse$Lexer" "kinds" "[I"] ++ wsX30)
def wsX7_isLine : List Cond := .code yX7_isLine cX7_isLine 2 (some .boolean) :: ([.fieldLink RX7 46 "IntegerHouse$Prover" "size" "I"] ++ wsX70)
def wsX7_lineNumber : List Cond := .code yX7_lineNumber cX7_lineNumber 3 (some .long) :: ([.fieldLink RX7 11 "IntegerHouse$Prover" "lines" "[J"] ++ wsX70)
def wsX7_isLatestFalse : List Cond := .code yX7_isLatestFalse cX7_isLatestFalse 3 (some .boolean) :: ([.fieldLink RX7 46 "IntegerHouse$Prover" "size" "I", .methodLink RX7 165 yX7_lineNumber, .instanceMethod yX7_lineNumber, .selects RX7 yX7_lineNumber yX7_lineNumber, .initialized RX7, .code yX7_lineNumber cX7_lineNumber 3 (some .long), .fieldLink RX7 11 "IntegerHouse$Prover" "lines" "[J"] ++ wsX70)
def wsX7_check_r1 : List Cond := [Cond.fieldLink RX7 38 "IntegerHouse$Prover" "lexer" "LIntegerHouse$Lexer;", Cond.fieldLink RX7 46 "IntegerHouse$Prover" "size" "I", Cond.fieldLink RX7 56 "IntegerHouse$Prover" "open" "I", Cond.fieldLink RX7 59 "IntegerHouse$Prover" "at" "I", Cond.fieldLink RX7 62 "IntegerHouse$Prover" "faultKind" "I", Cond.fieldLink RX7 65 "IntegerHouse$Prover" "faultPlace" "I", Cond.methodLink RX7 50 yX3_scan, Cond.instanceMethod yX3_scan, Cond.selects RX3 yX3_scan yX3_scan, Cond.initialized RX3, Cond.code yX3_scan cX3_scan 9 none, Cond.fieldLink RX3 28 "IntegerHouse$Lexer" "source" "[B", Cond.fieldLink RX3 55 "IntegerHouse$Lexer" "begin" "I", Cond.fieldLink RX3 52 "IntegerHouse$Lexer" "stop" "I", Cond.fieldLink RX3 48 "IntegerHouse$Lexer" "size" "I", Cond.fieldLink RX3 19 "IntegerHouse$Lexer" "spots" "[I", Cond.fieldLink RX3 15 "IntegerHouse$Lexer" "kinds" "[I", Cond.methodLink RX3 59 yX3_behindBlanks, Cond.instanceMethod yX3_behindBlanks, Cond.selects RX3 yX3_behindBlanks yX3_behindBlanks, Cond.code yX3_behindBlanks cX3_behindBlanks 3 (some .int), Cond.methodLink RX3 63 yX3_byteAt, Cond.instanceMethod yX3_byteAt, Cond.selects RX3 yX3_byteAt yX3_byteAt]
def wsX7_check_r2 : List Cond := [Cond.code yX3_byteAt cX3_byteAt 2 (some .int), Cond.methodLink RX3 66 yX3_isLetter, Cond.static yX3_isLetter, Cond.code yX3_isLetter cX3_isLetter 1 (some .boolean), Cond.methodLink RX3 70 yX3_word, Cond.instanceMethod yX3_word, Cond.selects RX3 yX3_word yX3_word, Cond.code yX3_word cX3_word 9 (some .int), Cond.fieldLink RX3 11 "IntegerHouse$Lexer" "words" "[J", Cond.fieldLink RX3 25 "IntegerHouse$Lexer" "names" "[J", Cond.methodLink RX3 74 yX3_isDigit, Cond.static yX3_isDigit, Cond.code yX3_isDigit cX3_isDigit 1 (some .boolean), Cond.methodLink RX3 77 yX3_digits, Cond.instanceMethod yX3_digits, Cond.selects RX3 yX3_digits yX3_digits, Cond.code yX3_digits cX3_digits 6 (some .int), Cond.fieldLink RX3 22 "IntegerHouse$Lexer" "numbers" "[I", Cond.methodLink RX3 81 yX3_sign, Cond.instanceMethod yX3_sign, Cond.selects RX3 yX3_sign yX3_sign, Cond.code yX3_sign cX3_sign 6 (some .int), Cond.methodLink RX3 44 yJ0_charAt_5068e, Cond.instanceMethod yJ0_charAt_5068e]
def wsX7_check_r3 : List Cond := [Cond.selects RJ0 yJ0_charAt_5068e yJ0_charAt_5068e, Cond.initialized RJ0, Cond.code yJ0_charAt_5068e cJ0_charAt_5068e 2 (some .char), Cond.fieldLink RJ0 9 "java/lang/String" "value" "[B", Cond.methodLink RJ0 492 yJ0_isLatin1_aae02, Cond.instanceMethod yJ0_isLatin1_aae02, Cond.selects RJ0 yJ0_isLatin1_aae02 yJ0_isLatin1_aae02, Cond.code yJ0_isLatin1_aae02 cJ0_isLatin1_aae02 1 (some .boolean), Cond.fieldLink RJ0 38 "java/lang/String" "COMPACT_STRINGS" "Z", Cond.fieldLink RJ0 15 "java/lang/String" "coder" "B", Cond.methodLink RJ0 495 yJ1_charAt_3b067, Cond.static yJ1_charAt_3b067, Cond.initialized RJ1, Cond.code yJ1_charAt_3b067 cJ1_charAt_3b067 2 (some .char), Cond.methodLink RJ1 9 yJ0_checkIndex_df160, Cond.static yJ0_checkIndex_df160, Cond.code yJ0_checkIndex_df160 cJ0_checkIndex_df160 2 none, Cond.fieldLink RJ0 1053 "jdk/internal/util/Preconditions" "SIOOBE_FORMATTER" "Ljava/util/function/BiFunction;", Cond.methodLink RJ0 1059 yJ3_checkIndex_8e157, Cond.static yJ3_checkIndex_8e157, Cond.initialized RJ3, Cond.code yJ3_checkIndex_8e157 cJ3_checkIndex_8e157 3 (some .int), Cond.methodLink RJ0 498 yJ2_charAt_3b067, Cond.static yJ2_charAt_3b067]
def wsX7_check_r4 : List Cond := [Cond.initialized RJ2, Cond.code yJ2_charAt_3b067 cJ2_charAt_3b067 2 (some .char), Cond.methodLink RJ2 67 yJ2_checkIndex_2214a, Cond.static yJ2_checkIndex_2214a, Cond.code yJ2_checkIndex_2214a cJ2_checkIndex_2214a 2 none, Cond.methodLink RJ2 48 yJ2_length_9d52b, Cond.static yJ2_length_9d52b, Cond.code yJ2_length_9d52b cJ2_length_9d52b 1 (some .int), Cond.methodLink RJ2 414 yJ0_checkIndex_df160, Cond.methodLink RJ2 71 yJ2_getChar_3b067, Cond.static yJ2_getChar_3b067, Cond.code yJ2_getChar_3b067 cJ2_getChar_3b067 2 (some .char), Cond.fieldLink RJ2 44 "java/lang/StringUTF16" "$assertionsDisabled" "Z", Cond.fieldLink RJ2 59 "java/lang/StringUTF16" "HI_BYTE_SHIFT" "I", Cond.fieldLink RJ2 63 "java/lang/StringUTF16" "LO_BYTE_SHIFT" "I", Cond.methodLink RX7 68 yX3_kindAt, Cond.instanceMethod yX3_kindAt, Cond.selects RX3 yX3_kindAt yX3_kindAt, Cond.code yX3_kindAt cX3_kindAt 2 (some .int), Cond.methodLink RX7 72 yX7_readLine, Cond.instanceMethod yX7_readLine, Cond.selects RX7 yX7_readLine yX7_readLine, Cond.initialized RX7, Cond.code yX7_readLine cX7_readLine 6 none]
def wsX7_check_r5 : List Cond := [Cond.fieldLink RX7 82 "IntegerHouse$Prover" "given" "I", Cond.fieldLink RX7 93 "IntegerHouse$Prover" "name" "J", Cond.methodLink RX7 79 yX3_placeAt, Cond.instanceMethod yX3_placeAt, Cond.selects RX3 yX3_placeAt yX3_placeAt, Cond.code yX3_placeAt cX3_placeAt 2 (some .int), Cond.methodLink RX7 85 yX7_expect, Cond.instanceMethod yX7_expect, Cond.selects RX7 yX7_expect yX7_expect, Cond.code yX7_expect cX7_expect 2 none, Cond.methodLink RX7 89 yX3_nameAt, Cond.instanceMethod yX3_nameAt, Cond.selects RX3 yX3_nameAt yX3_nameAt, Cond.code yX3_nameAt cX3_nameAt 2 (some .long), Cond.methodLink RX7 97 yX7_takeNumber, Cond.instanceMethod yX7_takeNumber, Cond.selects RX7 yX7_takeNumber yX7_takeNumber, Cond.code yX7_takeNumber cX7_takeNumber 3 none, Cond.fieldLink RX7 22 "IntegerHouse$Prover" "numbers" "[I", Cond.methodLink RX7 105 yX3_numberAt, Cond.instanceMethod yX3_numberAt, Cond.selects RX3 yX3_numberAt yX3_numberAt, Cond.code yX3_numberAt cX3_numberAt 2 (some .int), Cond.constant RX3 58 (1048575)]
def wsX7_check_r6 : List Cond := [Cond.methodLink RX7 101 yX7_isDone, Cond.instanceMethod yX7_isDone, Cond.selects RX7 yX7_isDone yX7_isDone, Cond.code yX7_isDone cX7_isDone 2 (some .boolean), Cond.fieldLink RX7 19 "IntegerHouse$Prover" "row" "[J", Cond.methodLink RX7 108 yJ7_fill_d0a16, Cond.static yJ7_fill_d0a16, Cond.initialized RJ7, Cond.code yJ7_fill_d0a16 cJ7_fill_d0a16 5 none, Cond.methodLink RX7 114 yX7_takeAtom, Cond.instanceMethod yX7_takeAtom, Cond.selects RX7 yX7_takeAtom yX7_takeAtom, Cond.code yX7_takeAtom cX7_takeAtom 5 (some .boolean), Cond.fieldLink RX7 42 "IntegerHouse$Prover" "house" "LIntegerHouse$House;", Cond.methodLink RX7 143 yX2_claimOf, Cond.instanceMethod yX2_claimOf, Cond.selects RX2 yX2_claimOf yX2_claimOf, Cond.initialized RX2, Cond.code yX2_claimOf cX2_claimOf 4 (some .int), Cond.fieldLink RX2 55 "IntegerHouse$House" "claims" "I", Cond.fieldLink RX2 15 "IntegerHouse$House" "claimNames" "[J", Cond.methodLink RX7 149 yX2_fact, Cond.instanceMethod yX2_fact, Cond.selects RX2 yX2_fact yX2_fact]
def wsX7_check_r7 : List Cond := [Cond.code yX2_fact cX2_fact 3 (some .int), Cond.fieldLink RX2 28 "IntegerHouse$House" "facts" "[I", Cond.methodLink RX7 156 yX2_atomOf, Cond.instanceMethod yX2_atomOf, Cond.selects RX2 yX2_atomOf yX2_atomOf, Cond.code yX2_atomOf cX2_atomOf 3 (some .int), Cond.fieldLink RX2 31 "IntegerHouse$House" "atoms" "[I", Cond.methodLink RX7 159 yX2_pooled, Cond.instanceMethod yX2_pooled, Cond.selects RX2 yX2_pooled yX2_pooled, Cond.code yX2_pooled cX2_pooled 3 (some .int), Cond.fieldLink RX2 34 "IntegerHouse$House" "pool" "[I", Cond.methodLink RX7 117 yX7_addLine, Cond.instanceMethod yX7_addLine, Cond.selects RX7 yX7_addLine yX7_addLine, Cond.code yX7_addLine cX7_addLine 2 (some .boolean), Cond.methodLink RX7 135 Lib.MathLoose.abs_long.x, Cond.static Lib.MathLoose.abs_long.x, Cond.initialized "java/lang/Math", Cond.code Lib.MathLoose.abs_long.x Lib.MathLoose.abs_long.code 2 (some .long), Cond.constantLong RX7 141 (1000000000000), Cond.fieldLink RX7 11 "IntegerHouse$Prover" "lines" "[J", Cond.fieldLink RX7 15 "IntegerHouse$Prover" "known" "[Z", Cond.methodLink RX7 120 yX7_takeSum]
def wsX7_check_r8 : List Cond := [Cond.instanceMethod yX7_takeSum, Cond.selects RX7 yX7_takeSum yX7_takeSum, Cond.code yX7_takeSum cX7_takeSum 2 (some .boolean), Cond.methodLink RX7 162 yX7_isKnown, Cond.instanceMethod yX7_isKnown, Cond.selects RX7 yX7_isKnown yX7_isKnown, Cond.code yX7_isKnown cX7_isKnown 2 (some .boolean), Cond.methodLink RX7 165 yX7_lineNumber, Cond.instanceMethod yX7_lineNumber, Cond.selects RX7 yX7_lineNumber yX7_lineNumber, Cond.code yX7_lineNumber cX7_lineNumber 3 (some .long), Cond.methodLink RX7 123 yX7_takeCut, Cond.instanceMethod yX7_takeCut, Cond.selects RX7 yX7_takeCut yX7_takeCut, Cond.code yX7_takeCut cX7_takeCut 6 (some .boolean), Cond.methodLink RX7 169 yJ9_floorDiv_f86c9, Cond.static yJ9_floorDiv_f86c9, Cond.initialized RJ9, Cond.code yJ9_floorDiv_f86c9 cJ9_floorDiv_f86c9 6 (some .long), Cond.methodLink RX7 126 yX7_openCase, Cond.instanceMethod yX7_openCase, Cond.selects RX7 yX7_openCase yX7_openCase, Cond.code yX7_openCase cX7_openCase 2 (some .boolean), Cond.fieldLink RX7 26 "IntegerHouse$Prover" "caseVariable" "[I"]
def wsX7_check_r9 : List Cond := [Cond.fieldLink RX7 29 "IntegerHouse$Prover" "caseNumber" "[I", Cond.fieldLink RX7 32 "IntegerHouse$Prover" "partBegins" "[I", Cond.fieldLink RX7 35 "IntegerHouse$Prover" "isSecond" "[Z", Cond.methodLink RX7 173 yX2_variableOf, Cond.instanceMethod yX2_variableOf, Cond.selects RX2 yX2_variableOf yX2_variableOf, Cond.code yX2_variableOf cX2_variableOf 4 (some .int), Cond.fieldLink RX2 52 "IntegerHouse$House" "variables" "I", Cond.fieldLink RX2 9 "IntegerHouse$House" "variableNames" "[J", Cond.methodLink RX7 129 yX7_endFirst, Cond.instanceMethod yX7_endFirst, Cond.selects RX7 yX7_endFirst yX7_endFirst, Cond.code yX7_endFirst cX7_endFirst 2 (some .boolean), Cond.constantLong RX7 180 (-1), Cond.methodLink RX7 176 yX7_endPart, Cond.instanceMethod yX7_endPart, Cond.selects RX7 yX7_endPart yX7_endPart, Cond.code yX7_endPart cX7_endPart 3 (some .boolean), Cond.methodLink RX7 182 Lib.Math.max.name, Cond.static Lib.Math.max.name, Cond.code Lib.Math.max.name Lib.Math.max.code 2 (some .int), Cond.methodLink RX7 75 yX7_isLatestFalse, Cond.instanceMethod yX7_isLatestFalse, Cond.selects RX7 yX7_isLatestFalse yX7_isLatestFalse]
def wsX7_check_r10 : List Cond := [Cond.code yX7_isLatestFalse cX7_isLatestFalse 3 (some .boolean), Cond.methodLink RX7 132 yX7_endSecond, Cond.instanceMethod yX7_endSecond, Cond.selects RX7 yX7_endSecond yX7_endSecond, Cond.code yX7_endSecond cX7_endSecond 1 (some .boolean)]
def wsX7_check : List Cond := .code yX7_check cX7_check 4 (some .int) :: ((wsX7_check_r1 ++ (wsX7_check_r2 ++ (wsX7_check_r3 ++ (wsX7_check_r4 ++ (wsX7_check_r5 ++ (wsX7_check_r6 ++ (wsX7_check_r7 ++ (wsX7_check_r8 ++ (wsX7_check_r9 ++ wsX7_check_r10))))))))) ++ wsX70 ++ wsX30 ++ wsX20)
def wsX11_prove_r1 : List Cond := [Cond.fieldLink RX11 16 "IntegerHouse" "disk" "LIntegerHouse$Disk;", Cond.fieldLink RX11 98 "IntegerHouse" "prover" "LIntegerHouse$Prover;", Cond.fieldLink RX11 9 "IntegerHouse" "tape" "[B", Cond.fieldLink RX11 253 "IntegerHouse" "latestFault" "I", Cond.methodLink RX11 230 yX11_useTape, Cond.instanceMethod yX11_useTape, Cond.selects RX11 yX11_useTape yX11_useTape, Cond.initialized RX11, Cond.code yX11_useTape cX11_useTape 2 (some .int), Cond.fieldLink RX11 102 "IntegerHouse" "tapeLength" "I", Cond.methodLink RX11 395 yX7_check, Cond.instanceMethod yX7_check, Cond.selects RX7 yX7_check yX7_check, Cond.initialized RX7, Cond.code yX7_check cX7_check 4 (some .int), Cond.fieldLink RX7 38 "IntegerHouse$Prover" "lexer" "LIntegerHouse$Lexer;", Cond.fieldLink RX7 46 "IntegerHouse$Prover" "size" "I", Cond.fieldLink RX7 56 "IntegerHouse$Prover" "open" "I", Cond.fieldLink RX7 59 "IntegerHouse$Prover" "at" "I", Cond.fieldLink RX7 62 "IntegerHouse$Prover" "faultKind" "I", Cond.fieldLink RX7 65 "IntegerHouse$Prover" "faultPlace" "I", Cond.methodLink RX7 50 yX3_scan, Cond.instanceMethod yX3_scan, Cond.selects RX3 yX3_scan yX3_scan]
def wsX11_prove_r2 : List Cond := [Cond.initialized RX3, Cond.code yX3_scan cX3_scan 9 none, Cond.fieldLink RX3 28 "IntegerHouse$Lexer" "source" "[B", Cond.fieldLink RX3 55 "IntegerHouse$Lexer" "begin" "I", Cond.fieldLink RX3 52 "IntegerHouse$Lexer" "stop" "I", Cond.fieldLink RX3 48 "IntegerHouse$Lexer" "size" "I", Cond.fieldLink RX3 19 "IntegerHouse$Lexer" "spots" "[I", Cond.fieldLink RX3 15 "IntegerHouse$Lexer" "kinds" "[I", Cond.methodLink RX3 59 yX3_behindBlanks, Cond.instanceMethod yX3_behindBlanks, Cond.selects RX3 yX3_behindBlanks yX3_behindBlanks, Cond.code yX3_behindBlanks cX3_behindBlanks 3 (some .int), Cond.methodLink RX3 63 yX3_byteAt, Cond.instanceMethod yX3_byteAt, Cond.selects RX3 yX3_byteAt yX3_byteAt, Cond.code yX3_byteAt cX3_byteAt 2 (some .int), Cond.methodLink RX3 66 yX3_isLetter, Cond.static yX3_isLetter, Cond.code yX3_isLetter cX3_isLetter 1 (some .boolean), Cond.methodLink RX3 70 yX3_word, Cond.instanceMethod yX3_word, Cond.selects RX3 yX3_word yX3_word, Cond.code yX3_word cX3_word 9 (some .int), Cond.fieldLink RX3 11 "IntegerHouse$Lexer" "words" "[J"]
def wsX11_prove_r3 : List Cond := [Cond.fieldLink RX3 25 "IntegerHouse$Lexer" "names" "[J", Cond.methodLink RX3 74 yX3_isDigit, Cond.static yX3_isDigit, Cond.code yX3_isDigit cX3_isDigit 1 (some .boolean), Cond.methodLink RX3 77 yX3_digits, Cond.instanceMethod yX3_digits, Cond.selects RX3 yX3_digits yX3_digits, Cond.code yX3_digits cX3_digits 6 (some .int), Cond.fieldLink RX3 22 "IntegerHouse$Lexer" "numbers" "[I", Cond.methodLink RX3 81 yX3_sign, Cond.instanceMethod yX3_sign, Cond.selects RX3 yX3_sign yX3_sign, Cond.code yX3_sign cX3_sign 6 (some .int), Cond.methodLink RX3 44 yJ0_charAt_5068e, Cond.instanceMethod yJ0_charAt_5068e, Cond.selects RJ0 yJ0_charAt_5068e yJ0_charAt_5068e, Cond.initialized RJ0, Cond.code yJ0_charAt_5068e cJ0_charAt_5068e 2 (some .char), Cond.fieldLink RJ0 9 "java/lang/String" "value" "[B", Cond.methodLink RJ0 492 yJ0_isLatin1_aae02, Cond.instanceMethod yJ0_isLatin1_aae02, Cond.selects RJ0 yJ0_isLatin1_aae02 yJ0_isLatin1_aae02, Cond.code yJ0_isLatin1_aae02 cJ0_isLatin1_aae02 1 (some .boolean), Cond.fieldLink RJ0 38 "java/lang/String" "COMPACT_STRINGS" "Z"]
def wsX11_prove_r4 : List Cond := [Cond.fieldLink RJ0 15 "java/lang/String" "coder" "B", Cond.methodLink RJ0 495 yJ1_charAt_3b067, Cond.static yJ1_charAt_3b067, Cond.initialized RJ1, Cond.code yJ1_charAt_3b067 cJ1_charAt_3b067 2 (some .char), Cond.methodLink RJ1 9 yJ0_checkIndex_df160, Cond.static yJ0_checkIndex_df160, Cond.code yJ0_checkIndex_df160 cJ0_checkIndex_df160 2 none, Cond.fieldLink RJ0 1053 "jdk/internal/util/Preconditions" "SIOOBE_FORMATTER" "Ljava/util/function/BiFunction;", Cond.methodLink RJ0 1059 yJ3_checkIndex_8e157, Cond.static yJ3_checkIndex_8e157, Cond.initialized RJ3, Cond.code yJ3_checkIndex_8e157 cJ3_checkIndex_8e157 3 (some .int), Cond.methodLink RJ0 498 yJ2_charAt_3b067, Cond.static yJ2_charAt_3b067, Cond.initialized RJ2, Cond.code yJ2_charAt_3b067 cJ2_charAt_3b067 2 (some .char), Cond.methodLink RJ2 67 yJ2_checkIndex_2214a, Cond.static yJ2_checkIndex_2214a, Cond.code yJ2_checkIndex_2214a cJ2_checkIndex_2214a 2 none, Cond.methodLink RJ2 48 yJ2_length_9d52b, Cond.static yJ2_length_9d52b, Cond.code yJ2_length_9d52b cJ2_length_9d52b 1 (some .int), Cond.methodLink RJ2 414 yJ0_checkIndex_df160]
def wsX11_prove_r5 : List Cond := [Cond.methodLink RJ2 71 yJ2_getChar_3b067, Cond.static yJ2_getChar_3b067, Cond.code yJ2_getChar_3b067 cJ2_getChar_3b067 2 (some .char), Cond.fieldLink RJ2 44 "java/lang/StringUTF16" "$assertionsDisabled" "Z", Cond.fieldLink RJ2 59 "java/lang/StringUTF16" "HI_BYTE_SHIFT" "I", Cond.fieldLink RJ2 63 "java/lang/StringUTF16" "LO_BYTE_SHIFT" "I", Cond.methodLink RX7 68 yX3_kindAt, Cond.instanceMethod yX3_kindAt, Cond.selects RX3 yX3_kindAt yX3_kindAt, Cond.code yX3_kindAt cX3_kindAt 2 (some .int), Cond.methodLink RX7 72 yX7_readLine, Cond.instanceMethod yX7_readLine, Cond.selects RX7 yX7_readLine yX7_readLine, Cond.code yX7_readLine cX7_readLine 6 none, Cond.fieldLink RX7 82 "IntegerHouse$Prover" "given" "I", Cond.fieldLink RX7 93 "IntegerHouse$Prover" "name" "J", Cond.methodLink RX7 79 yX3_placeAt, Cond.instanceMethod yX3_placeAt, Cond.selects RX3 yX3_placeAt yX3_placeAt, Cond.code yX3_placeAt cX3_placeAt 2 (some .int), Cond.methodLink RX7 85 yX7_expect, Cond.instanceMethod yX7_expect, Cond.selects RX7 yX7_expect yX7_expect, Cond.code yX7_expect cX7_expect 2 none]
def wsX11_prove_r6 : List Cond := [Cond.methodLink RX7 89 yX3_nameAt, Cond.instanceMethod yX3_nameAt, Cond.selects RX3 yX3_nameAt yX3_nameAt, Cond.code yX3_nameAt cX3_nameAt 2 (some .long), Cond.methodLink RX7 97 yX7_takeNumber, Cond.instanceMethod yX7_takeNumber, Cond.selects RX7 yX7_takeNumber yX7_takeNumber, Cond.code yX7_takeNumber cX7_takeNumber 3 none, Cond.fieldLink RX7 22 "IntegerHouse$Prover" "numbers" "[I", Cond.methodLink RX7 105 yX3_numberAt, Cond.instanceMethod yX3_numberAt, Cond.selects RX3 yX3_numberAt yX3_numberAt, Cond.code yX3_numberAt cX3_numberAt 2 (some .int), Cond.constant RX3 58 (1048575), Cond.methodLink RX7 101 yX7_isDone, Cond.instanceMethod yX7_isDone, Cond.selects RX7 yX7_isDone yX7_isDone, Cond.code yX7_isDone cX7_isDone 2 (some .boolean), Cond.fieldLink RX7 19 "IntegerHouse$Prover" "row" "[J", Cond.methodLink RX7 108 yJ7_fill_d0a16, Cond.static yJ7_fill_d0a16, Cond.initialized RJ7, Cond.code yJ7_fill_d0a16 cJ7_fill_d0a16 5 none, Cond.methodLink RX7 114 yX7_takeAtom]
def wsX11_prove_r7 : List Cond := [Cond.instanceMethod yX7_takeAtom, Cond.selects RX7 yX7_takeAtom yX7_takeAtom, Cond.code yX7_takeAtom cX7_takeAtom 5 (some .boolean), Cond.fieldLink RX7 42 "IntegerHouse$Prover" "house" "LIntegerHouse$House;", Cond.methodLink RX7 143 yX2_claimOf, Cond.instanceMethod yX2_claimOf, Cond.selects RX2 yX2_claimOf yX2_claimOf, Cond.initialized RX2, Cond.code yX2_claimOf cX2_claimOf 4 (some .int), Cond.fieldLink RX2 55 "IntegerHouse$House" "claims" "I", Cond.fieldLink RX2 15 "IntegerHouse$House" "claimNames" "[J", Cond.methodLink RX7 149 yX2_fact, Cond.instanceMethod yX2_fact, Cond.selects RX2 yX2_fact yX2_fact, Cond.code yX2_fact cX2_fact 3 (some .int), Cond.fieldLink RX2 28 "IntegerHouse$House" "facts" "[I", Cond.methodLink RX7 156 yX2_atomOf, Cond.instanceMethod yX2_atomOf, Cond.selects RX2 yX2_atomOf yX2_atomOf, Cond.code yX2_atomOf cX2_atomOf 3 (some .int), Cond.fieldLink RX2 31 "IntegerHouse$House" "atoms" "[I", Cond.methodLink RX7 159 yX2_pooled, Cond.instanceMethod yX2_pooled, Cond.selects RX2 yX2_pooled yX2_pooled]
def wsX11_prove_r8 : List Cond := [Cond.code yX2_pooled cX2_pooled 3 (some .int), Cond.fieldLink RX2 34 "IntegerHouse$House" "pool" "[I", Cond.methodLink RX7 117 yX7_addLine, Cond.instanceMethod yX7_addLine, Cond.selects RX7 yX7_addLine yX7_addLine, Cond.code yX7_addLine cX7_addLine 2 (some .boolean), Cond.methodLink RX7 135 Lib.MathLoose.abs_long.x, Cond.static Lib.MathLoose.abs_long.x, Cond.initialized "java/lang/Math", Cond.code Lib.MathLoose.abs_long.x Lib.MathLoose.abs_long.code 2 (some .long), Cond.constantLong RX7 141 (1000000000000), Cond.fieldLink RX7 11 "IntegerHouse$Prover" "lines" "[J", Cond.fieldLink RX7 15 "IntegerHouse$Prover" "known" "[Z", Cond.methodLink RX7 120 yX7_takeSum, Cond.instanceMethod yX7_takeSum, Cond.selects RX7 yX7_takeSum yX7_takeSum, Cond.code yX7_takeSum cX7_takeSum 2 (some .boolean), Cond.methodLink RX7 162 yX7_isKnown, Cond.instanceMethod yX7_isKnown, Cond.selects RX7 yX7_isKnown yX7_isKnown, Cond.code yX7_isKnown cX7_isKnown 2 (some .boolean), Cond.methodLink RX7 165 yX7_lineNumber, Cond.instanceMethod yX7_lineNumber, Cond.selects RX7 yX7_lineNumber yX7_lineNumber]
def wsX11_prove_r9 : List Cond := [Cond.code yX7_lineNumber cX7_lineNumber 3 (some .long), Cond.methodLink RX7 123 yX7_takeCut, Cond.instanceMethod yX7_takeCut, Cond.selects RX7 yX7_takeCut yX7_takeCut, Cond.code yX7_takeCut cX7_takeCut 6 (some .boolean), Cond.methodLink RX7 169 yJ9_floorDiv_f86c9, Cond.static yJ9_floorDiv_f86c9, Cond.initialized RJ9, Cond.code yJ9_floorDiv_f86c9 cJ9_floorDiv_f86c9 6 (some .long), Cond.methodLink RX7 126 yX7_openCase, Cond.instanceMethod yX7_openCase, Cond.selects RX7 yX7_openCase yX7_openCase, Cond.code yX7_openCase cX7_openCase 2 (some .boolean), Cond.fieldLink RX7 26 "IntegerHouse$Prover" "caseVariable" "[I", Cond.fieldLink RX7 29 "IntegerHouse$Prover" "caseNumber" "[I", Cond.fieldLink RX7 32 "IntegerHouse$Prover" "partBegins" "[I", Cond.fieldLink RX7 35 "IntegerHouse$Prover" "isSecond" "[Z", Cond.methodLink RX7 173 yX2_variableOf, Cond.instanceMethod yX2_variableOf, Cond.selects RX2 yX2_variableOf yX2_variableOf, Cond.code yX2_variableOf cX2_variableOf 4 (some .int), Cond.fieldLink RX2 52 "IntegerHouse$House" "variables" "I", Cond.fieldLink RX2 9 "IntegerHouse$House" "variableNames" "[J", Cond.methodLink RX7 129 yX7_endFirst]
def wsX11_prove_r10 : List Cond := [Cond.instanceMethod yX7_endFirst, Cond.selects RX7 yX7_endFirst yX7_endFirst, Cond.code yX7_endFirst cX7_endFirst 2 (some .boolean), Cond.constantLong RX7 180 (-1), Cond.methodLink RX7 176 yX7_endPart, Cond.instanceMethod yX7_endPart, Cond.selects RX7 yX7_endPart yX7_endPart, Cond.code yX7_endPart cX7_endPart 3 (some .boolean), Cond.methodLink RX7 182 Lib.Math.max.name, Cond.static Lib.Math.max.name, Cond.code Lib.Math.max.name Lib.Math.max.code 2 (some .int), Cond.methodLink RX7 75 yX7_isLatestFalse, Cond.instanceMethod yX7_isLatestFalse, Cond.selects RX7 yX7_isLatestFalse yX7_isLatestFalse, Cond.code yX7_isLatestFalse cX7_isLatestFalse 3 (some .boolean), Cond.methodLink RX7 132 yX7_endSecond, Cond.instanceMethod yX7_endSecond, Cond.selects RX7 yX7_endSecond yX7_endSecond, Cond.code yX7_endSecond cX7_endSecond 1 (some .boolean)]
def wsX11_prove : List Cond := .code yX11_prove cX11_prove 2 (some .int) :: ((wsX11_prove_r1 ++ (wsX11_prove_r2 ++ (wsX11_prove_r3 ++ (wsX11_prove_r4 ++ (wsX11_prove_r5 ++ (wsX11_prove_r6 ++ (wsX11_prove_r7 ++ (wsX11_prove_r8 ++ (wsX11_prove_r9 ++ wsX11_prove_r10))))))))) ++ wsX110 ++ wsX10 ++ wsX70 ++ wsX30 ++ wsX20)
def wsX11_line : List Cond := .code yX11_line cX11_line 3 (some .long) :: ([.classLink RX11 197 "java/lang/IndexOutOfBoundsException", .initialized "java/lang/IndexOutOfBoundsException", .fieldLink RX11 98 "IntegerHouse" "prover" "LIntegerHouse$Prover;", .methodLink RX11 400 yX7_isLine, .instanceMethod yX7_isLine, .selects RX7 yX7_isLine yX7_isLine, .initialized RX7, .code yX7_isLine cX7_isLine 2 (some .boolean), .fieldLink RX7 46 "IntegerHouse$Prover" "size" "I", .methodLink RX11 405 yX7_lineNumber, .instanceMethod yX7_lineNumber, .selects RX7 yX7_lineNumber yX7_lineNumber, .code yX7_lineNumber cX7_lineNumber 3 (some .long), .fieldLink RX7 11 "IntegerHouse$Prover" "lines" "[J"] ++ wsX110 ++ wsX70 ++ (vx_atS RX11 201 "java/lang/IndexOutOfBoundsException" ["java/lang/RuntimeException", "java/lang/Exception"]).filter goodWord)
def wsX11_bound_r1 : List Cond := [Cond.fieldLink RX11 16 "IntegerHouse" "disk" "LIntegerHouse$Disk;", Cond.fieldLink RX11 64 "IntegerHouse" "answers" "LIntegerHouse$Answers;", Cond.methodLink RX11 409 yX0_boundDigit, Cond.instanceMethod yX0_boundDigit, Cond.selects RX0 yX0_boundDigit yX0_boundDigit, Cond.initialized RX0, Cond.code yX0_boundDigit cX0_boundDigit 8 (some .int), Cond.fieldLink RX0 44 "IntegerHouse$Answers" "house" "LIntegerHouse$House;", Cond.methodLink RX0 182 Lib.Math.abs.name, Cond.static Lib.Math.abs.name, Cond.initialized "java/lang/Math", Cond.code Lib.Math.abs.name Lib.Math.abs.code 1 (some .int), Cond.methodLink RX0 121 Lib.MathLoose.max_long.x, Cond.static Lib.MathLoose.max_long.x, Cond.code Lib.MathLoose.max_long.x Lib.MathLoose.max_long.code 4 (some .long), Cond.fieldLink RX0 189 "IntegerHouse$Answers" "limbsUsed" "I", Cond.fieldLink RX0 37 "IntegerHouse$Answers" "limbs" "[J", Cond.constantLong RX0 192 (10), Cond.methodLink RX0 176 yX2_pooled, Cond.instanceMethod yX2_pooled, Cond.selects RX2 yX2_pooled yX2_pooled, Cond.initialized RX2, Cond.code yX2_pooled cX2_pooled 3 (some .int), Cond.fieldLink RX2 34 "IntegerHouse$House" "pool" "[I"]
def wsX11_bound_r2 : List Cond := [Cond.methodLink RX0 179 yX0_isOn, Cond.instanceMethod yX0_isOn, Cond.selects RX0 yX0_isOn yX0_isOn, Cond.code yX0_isOn cX0_isOn 5 (some .boolean), Cond.methodLink RX0 200 yX2_fact, Cond.instanceMethod yX2_fact, Cond.selects RX2 yX2_fact yX2_fact, Cond.code yX2_fact cX2_fact 3 (some .int), Cond.fieldLink RX2 28 "IntegerHouse$House" "facts" "[I", Cond.methodLink RX0 203 yX2_atomOf, Cond.instanceMethod yX2_atomOf, Cond.selects RX2 yX2_atomOf yX2_atomOf, Cond.code yX2_atomOf cX2_atomOf 3 (some .int), Cond.fieldLink RX2 31 "IntegerHouse$House" "atoms" "[I", Cond.methodLink RX0 185 yX0_raise, Cond.instanceMethod yX0_raise, Cond.selects RX0 yX0_raise yX0_raise, Cond.code yX0_raise cX0_raise 11 none, Cond.fieldLink RX0 206 "IntegerHouse$Answers" "powerVariables" "I", Cond.fieldLink RX0 209 "IntegerHouse$Answers" "powerLines" "I", Cond.fieldLink RX0 212 "IntegerHouse$Answers" "powerBase" "J", Cond.constantLong RX0 163 (1000000000)]
def wsX11_bound : List Cond := .code yX11_bound cX11_bound 2 (some .int) :: ((wsX11_bound_r1 ++ wsX11_bound_r2) ++ wsX110 ++ wsX10 ++ wsX00 ++ wsX20)
def wsX11_audit : List Cond := .code yX11_audit cX11_audit 1 (some .int) :: ([.fieldLink RX11 16 "IntegerHouse" "disk" "LIntegerHouse$Disk;"] ++ wsX110 ++ wsX10)
def wsX12_prove_r1 : List Cond := [Cond.fieldLink RX12 1247 "IntegerHouseModel" "lines" "I", Cond.fieldLink RX12 1250 "IntegerHouseModel" "openCases" "I", Cond.fieldLink RX12 562 "IntegerHouseModel" "faulty" "Z", Cond.fieldLink RX12 87 "IntegerHouseModel" "tokenKind" "[I", Cond.fieldLink RX12 597 "IntegerHouseModel" "now" "I", Cond.methodLink RX12 871 yX12_asks, Cond.instanceMethod yX12_asks, Cond.selects RX12 yX12_asks yX12_asks, Cond.initialized RX12, Cond.code yX12_asks cX12_asks 1 (some .boolean), Cond.fieldLink RX12 3 "IntegerHouseModel" "thrown" "I", Cond.fieldLink RX12 488 "IntegerHouseModel" "down" "Z", Cond.methodLink RX12 874 yX12_begin, Cond.instanceMethod yX12_begin, Cond.selects RX12 yX12_begin yX12_begin, Cond.code yX12_begin cX12_begin 1 none, Cond.fieldLink RX12 815 "IntegerHouseModel" "variables" "I", Cond.fieldLink RX12 620 "IntegerHouseModel" "knownVariables" "I", Cond.fieldLink RX12 818 "IntegerHouseModel" "claims" "I", Cond.fieldLink RX12 627 "IntegerHouseModel" "knownClaims" "I", Cond.methodLink RX12 491 yX12_takeTape, Cond.instanceMethod yX12_takeTape, Cond.selects RX12 yX12_takeTape yX12_takeTape, Cond.code yX12_takeTape cX12_takeTape 2 none]
def wsX12_prove_r2 : List Cond := [Cond.fieldLink RX12 485 "IntegerHouseModel" "taped" "I", Cond.fieldLink RX12 469 "IntegerHouseModel" "docSize" "I", Cond.fieldLink RX12 32 "IntegerHouseModel" "doc" "[B", Cond.fieldLink RX12 15 "IntegerHouseModel" "tape" "[B", Cond.methodLink RX12 848 yX12_scan, Cond.instanceMethod yX12_scan, Cond.selects RX12 yX12_scan yX12_scan, Cond.code yX12_scan cX12_scan 8 none, Cond.fieldLink RX12 594 "IntegerHouseModel" "tokens" "I", Cond.fieldLink RX12 81 "IntegerHouseModel" "tokenAt" "[I", Cond.fieldLink RX12 84 "IntegerHouseModel" "tokenSize" "[I", Cond.fieldLink RX12 90 "IntegerHouseModel" "tokenValue" "[I", Cond.fieldLink RX12 77 "IntegerHouseModel" "words" "[Ljava/lang/String;", Cond.methodLink RX12 586 yX12_char1, Cond.instanceMethod yX12_char1, Cond.selects RX12 yX12_char1 yX12_char1, Cond.code yX12_char1 cX12_char1 2 (some .int), Cond.methodLink RX12 600 yX12_isLetter, Cond.static yX12_isLetter, Cond.code yX12_isLetter cX12_isLetter 1 (some .boolean), Cond.constantLong RX12 571 (97), Cond.constantLong RX12 573 (122), Cond.constantLong RX12 575 (65), Cond.constantLong RX12 577 (90)]
def wsX12_prove_r3 : List Cond := [Cond.methodLink RX12 504 yX12_in, Cond.static yX12_in, Cond.code yX12_in cX12_in 6 (some .boolean), Cond.methodLink RX12 603 yX12_isDigit, Cond.static yX12_isDigit, Cond.code yX12_isDigit cX12_isDigit 1 (some .boolean), Cond.constantLong RX12 579 (48), Cond.constantLong RX12 581 (57), Cond.methodLink RX12 606 yX12_longSign, Cond.static yX12_longSign, Cond.code yX12_longSign cX12_longSign 2 (some .int), Cond.methodLink RX12 609 yX12_signOf, Cond.static yX12_signOf, Cond.code yX12_signOf cX12_signOf 1 (some .int), Cond.methodLink RX12 612 yX12_isText, Cond.instanceMethod yX12_isText, Cond.selects RX12 yX12_isText yX12_isText, Cond.code yX12_isText cX12_isText 4 (some .boolean), Cond.methodLink RX12 583 yJ0_length_8abf5, Cond.instanceMethod yJ0_length_8abf5, Cond.selects RJ0 yJ0_length_8abf5 yJ0_length_8abf5, Cond.initialized RJ0, Cond.code yJ0_length_8abf5 cJ0_length_8abf5 1 (some .int), Cond.fieldLink RJ0 9 "java/lang/String" "value" "[B"]
def wsX12_prove_r4 : List Cond := [Cond.methodLink RJ0 335 yJ0_coder_7d493, Cond.instanceMethod yJ0_coder_7d493, Cond.selects RJ0 yJ0_coder_7d493 yJ0_coder_7d493, Cond.code yJ0_coder_7d493 cJ0_coder_7d493 1 (some .byte), Cond.fieldLink RJ0 38 "java/lang/String" "COMPACT_STRINGS" "Z", Cond.fieldLink RJ0 15 "java/lang/String" "coder" "B", Cond.methodLink RX12 590 yJ0_charAt_5068e, Cond.instanceMethod yJ0_charAt_5068e, Cond.selects RJ0 yJ0_charAt_5068e yJ0_charAt_5068e, Cond.code yJ0_charAt_5068e cJ0_charAt_5068e 2 (some .char), Cond.methodLink RJ0 492 yJ0_isLatin1_aae02, Cond.instanceMethod yJ0_isLatin1_aae02, Cond.selects RJ0 yJ0_isLatin1_aae02 yJ0_isLatin1_aae02, Cond.code yJ0_isLatin1_aae02 cJ0_isLatin1_aae02 1 (some .boolean), Cond.methodLink RJ0 495 yJ1_charAt_3b067, Cond.static yJ1_charAt_3b067, Cond.initialized RJ1, Cond.code yJ1_charAt_3b067 cJ1_charAt_3b067 2 (some .char), Cond.methodLink RJ1 9 yJ0_checkIndex_df160, Cond.static yJ0_checkIndex_df160, Cond.code yJ0_checkIndex_df160 cJ0_checkIndex_df160 2 none, Cond.fieldLink RJ0 1053 "jdk/internal/util/Preconditions" "SIOOBE_FORMATTER" "Ljava/util/function/BiFunction;", Cond.methodLink RJ0 1059 yJ3_checkIndex_8e157, Cond.static yJ3_checkIndex_8e157]
def wsX12_prove_r5 : List Cond := [Cond.initialized RJ3, Cond.code yJ3_checkIndex_8e157 cJ3_checkIndex_8e157 3 (some .int), Cond.methodLink RJ0 498 yJ2_charAt_3b067, Cond.static yJ2_charAt_3b067, Cond.initialized RJ2, Cond.code yJ2_charAt_3b067 cJ2_charAt_3b067 2 (some .char), Cond.methodLink RJ2 67 yJ2_checkIndex_2214a, Cond.static yJ2_checkIndex_2214a, Cond.code yJ2_checkIndex_2214a cJ2_checkIndex_2214a 2 none, Cond.methodLink RJ2 48 yJ2_length_9d52b, Cond.static yJ2_length_9d52b, Cond.code yJ2_length_9d52b cJ2_length_9d52b 1 (some .int), Cond.methodLink RJ2 414 yJ0_checkIndex_df160, Cond.methodLink RJ2 71 yJ2_getChar_3b067, Cond.static yJ2_getChar_3b067, Cond.code yJ2_getChar_3b067 cJ2_getChar_3b067 2 (some .char), Cond.fieldLink RJ2 44 "java/lang/StringUTF16" "$assertionsDisabled" "Z", Cond.fieldLink RJ2 59 "java/lang/StringUTF16" "HI_BYTE_SHIFT" "I", Cond.fieldLink RJ2 63 "java/lang/StringUTF16" "LO_BYTE_SHIFT" "I", Cond.methodLink RX12 1293 yX12_readProofLine, Cond.instanceMethod yX12_readProofLine, Cond.selects RX12 yX12_readProofLine yX12_readProofLine, Cond.code yX12_readProofLine cX12_readProofLine 2 none, Cond.methodLink RX12 1238 yX12_proofWord]
def wsX12_prove_r6 : List Cond := [Cond.instanceMethod yX12_proofWord, Cond.selects RX12 yX12_proofWord yX12_proofWord, Cond.code yX12_proofWord cX12_proofWord 2 (some .int), Cond.methodLink RX12 698 yX12_cannot, Cond.instanceMethod yX12_cannot, Cond.selects RX12 yX12_cannot yX12_cannot, Cond.code yX12_cannot cX12_cannot 1 none, Cond.methodLink RX12 616 yX12_fail, Cond.instanceMethod yX12_fail, Cond.selects RX12 yX12_fail yX12_fail, Cond.code yX12_fail cX12_fail 3 none, Cond.fieldLink RX12 565 "IntegerHouseModel" "faultKind" "I", Cond.fieldLink RX12 568 "IntegerHouseModel" "faultPlace" "I", Cond.methodLink RX12 1241 yX12_wantName, Cond.instanceMethod yX12_wantName, Cond.selects RX12 yX12_wantName yX12_wantName, Cond.code yX12_wantName cX12_wantName 1 none, Cond.methodLink RX12 1244 yX12_wantNumbers, Cond.instanceMethod yX12_wantNumbers, Cond.selects RX12 yX12_wantNumbers yX12_wantNumbers, Cond.code yX12_wantNumbers cX12_wantNumbers 3 none, Cond.methodLink RX12 672 yX12_isSign, Cond.instanceMethod yX12_isSign, Cond.selects RX12 yX12_isSign yX12_isSign]
def wsX12_prove_r7 : List Cond := [Cond.code yX12_isSign cX12_isSign 2 (some .boolean), Cond.methodLink RX12 1296 yX12_doesProofLine, Cond.instanceMethod yX12_doesProofLine, Cond.selects RX12 yX12_doesProofLine yX12_doesProofLine, Cond.code yX12_doesProofLine cX12_doesProofLine 4 (some .boolean), Cond.methodLink RX12 1273 yX12_takesAtom, Cond.instanceMethod yX12_takesAtom, Cond.selects RX12 yX12_takesAtom yX12_takesAtom, Cond.code yX12_takesAtom cX12_takesAtom 6 (some .boolean), Cond.fieldLink RX12 265 "IntegerHouseModel" "isOn" "[Z", Cond.fieldLink RX12 244 "IntegerHouseModel" "isPlain" "[Z", Cond.fieldLink RX12 235 "IntegerHouseModel" "atomCount" "[I", Cond.fieldLink RX12 262 "IntegerHouseModel" "hereF" "[J", Cond.fieldLink RX12 226 "IntegerHouseModel" "atomF" "[I", Cond.fieldLink RX12 229 "IntegerHouseModel" "atomC" "[I", Cond.fieldLink RX12 736 "IntegerHouseModel" "hereC" "J", Cond.methodLink RX12 682 yX12_claimAt, Cond.instanceMethod yX12_claimAt, Cond.selects RX12 yX12_claimAt yX12_claimAt, Cond.code yX12_claimAt cX12_claimAt 3 (some .int), Cond.methodLink RX12 623 yX12_isCalled, Cond.instanceMethod yX12_isCalled, Cond.selects RX12 yX12_isCalled yX12_isCalled, Cond.code yX12_isCalled cX12_isCalled 4 (some .boolean)]
def wsX12_prove_r8 : List Cond := [Cond.fieldLink RX12 96 "IntegerHouseModel" "nameSize" "[I", Cond.fieldLink RX12 93 "IntegerHouseModel" "nameText" "[B", Cond.methodLink RX12 1261 yX12_addLine, Cond.instanceMethod yX12_addLine, Cond.selects RX12 yX12_addLine yX12_addLine, Cond.code yX12_addLine cX12_addLine 3 (some .boolean), Cond.fieldLink RX12 435 "IntegerHouseModel" "proofF" "[J", Cond.fieldLink RX12 438 "IntegerHouseModel" "proofC" "[J", Cond.fieldLink RX12 441 "IntegerHouseModel" "isKnown" "[Z", Cond.methodLink RX12 1258 yX12_isProofSize, Cond.instanceMethod yX12_isProofSize, Cond.selects RX12 yX12_isProofSize yX12_isProofSize, Cond.code yX12_isProofSize cX12_isProofSize 3 (some .boolean), Cond.constantLong RX12 1256 (-1000000000000), Cond.constantLong RX12 949 (1000000000000), Cond.methodLink RX12 1276 yX12_takesSum, Cond.instanceMethod yX12_takesSum, Cond.selects RX12 yX12_takesSum yX12_takesSum, Cond.code yX12_takesSum cX12_takesSum 6 (some .boolean), Cond.methodLink RX12 1264 yX12_isLine, Cond.instanceMethod yX12_isLine, Cond.selects RX12 yX12_isLine yX12_isLine, Cond.code yX12_isLine cX12_isLine 2 (some .boolean), Cond.methodLink RX12 1280 yX12_takesCut]
def wsX12_prove_r9 : List Cond := [Cond.instanceMethod yX12_takesCut, Cond.selects RX12 yX12_takesCut yX12_takesCut, Cond.code yX12_takesCut cX12_takesCut 5 (some .boolean), Cond.methodLink RX12 1175 yX12_floor, Cond.static yX12_floor, Cond.code yX12_floor cX12_floor 6 (some .long), Cond.methodLink RX12 1283 yX12_takesCase, Cond.instanceMethod yX12_takesCase, Cond.selects RX12 yX12_takesCase yX12_takesCase, Cond.code yX12_takesCase cX12_takesCase 5 (some .boolean), Cond.fieldLink RX12 444 "IntegerHouseModel" "caseOf" "[I", Cond.fieldLink RX12 447 "IntegerHouseModel" "caseMost" "[J", Cond.fieldLink RX12 450 "IntegerHouseModel" "caseLine" "[I", Cond.fieldLink RX12 453 "IntegerHouseModel" "caseSecond" "[Z", Cond.methodLink RX12 685 yX12_variableAt, Cond.instanceMethod yX12_variableAt, Cond.selects RX12 yX12_variableAt yX12_variableAt, Cond.code yX12_variableAt cX12_variableAt 3 (some .int), Cond.methodLink RX12 771 yX12_clearHere, Cond.instanceMethod yX12_clearHere, Cond.selects RX12 yX12_clearHere yX12_clearHere, Cond.code yX12_clearHere cX12_clearHere 4 none, Cond.fieldLink RX12 740 "IntegerHouseModel" "hereD" "J", Cond.methodLink RX12 1287 yX12_takesElse]
def wsX12_prove_r10 : List Cond := [Cond.instanceMethod yX12_takesElse, Cond.selects RX12 yX12_takesElse yX12_takesElse, Cond.code yX12_takesElse cX12_takesElse 3 (some .boolean), Cond.constantLong RX12 526 (-1), Cond.methodLink RX12 1267 yX12_isEnded, Cond.instanceMethod yX12_isEnded, Cond.selects RX12 yX12_isEnded yX12_isEnded, Cond.code yX12_isEnded cX12_isEnded 1 (some .boolean), Cond.methodLink RX12 1253 yX12_isFalse, Cond.instanceMethod yX12_isFalse, Cond.selects RX12 yX12_isFalse yX12_isFalse, Cond.code yX12_isFalse cX12_isFalse 2 (some .boolean), Cond.methodLink RX12 1270 yX12_forget, Cond.instanceMethod yX12_forget, Cond.selects RX12 yX12_forget yX12_forget, Cond.code yX12_forget cX12_forget 3 none, Cond.methodLink RX12 1290 yX12_takesDone, Cond.instanceMethod yX12_takesDone, Cond.selects RX12 yX12_takesDone yX12_takesDone, Cond.code yX12_takesDone cX12_takesDone 2 (some .boolean), Cond.methodLink RX12 860 yX12_told, Cond.instanceMethod yX12_told, Cond.selects RX12 yX12_told yX12_told, Cond.code yX12_told cX12_told 1 (some .int)]
def wsX12_prove_r11 : List Cond := [Cond.fieldLink RX12 472 "IntegerHouseModel" "replay" "Z", Cond.fieldLink RX12 836 "IntegerHouseModel" "latestFault" "I"]
def wsX12_prove : List Cond := .code yX12_prove cX12_prove 2 (some .int) :: ((wsX12_prove_r1 ++ (wsX12_prove_r2 ++ (wsX12_prove_r3 ++ (wsX12_prove_r4 ++ (wsX12_prove_r5 ++ (wsX12_prove_r6 ++ (wsX12_prove_r7 ++ (wsX12_prove_r8 ++ (wsX12_prove_r9 ++ (wsX12_prove_r10 ++ wsX12_prove_r11)))))))))) ++ wsX120)
def wsX12_line : List Cond := .code yX12_line cX12_line 3 (some .long) :: ([.fieldLink RX12 1247 "IntegerHouseModel" "lines" "I", .constantLong RX12 541 (4), .fieldLink RX12 3 "IntegerHouseModel" "thrown" "I", .fieldLink RX12 438 "IntegerHouseModel" "proofC" "[J", .fieldLink RX12 435 "IntegerHouseModel" "proofF" "[J", .methodLink RX12 504 yX12_in, .static yX12_in, .initialized RX12, .code yX12_in cX12_in 6 (some .boolean)] ++ wsX120)
def wsX12_bound_r1 : List Cond := [Cond.fieldLink RX12 928 "IntegerHouseModel" "work" "I", Cond.fieldLink RX12 298 "IntegerHouseModel" "workN" "[I", Cond.fieldLink RX12 295 "IntegerHouseModel" "workC" "[I", Cond.fieldLink RX12 292 "IntegerHouseModel" "workF" "[I", Cond.fieldLink RX12 815 "IntegerHouseModel" "variables" "I", Cond.fieldLink RX12 456 "IntegerHouseModel" "big" "[I", Cond.fieldLink RX12 1299 "IntegerHouseModel" "bigSize" "I", Cond.constantLong RX12 701 (2), Cond.methodLink RX12 871 yX12_asks, Cond.instanceMethod yX12_asks, Cond.selects RX12 yX12_asks yX12_asks, Cond.initialized RX12, Cond.code yX12_asks cX12_asks 1 (some .boolean), Cond.fieldLink RX12 3 "IntegerHouseModel" "thrown" "I", Cond.fieldLink RX12 488 "IntegerHouseModel" "down" "Z", Cond.methodLink RX12 982 yX12_putOn, Cond.instanceMethod yX12_putOn, Cond.selects RX12 yX12_putOn yX12_putOn, Cond.code yX12_putOn cX12_putOn 2 none, Cond.fieldLink RX12 818 "IntegerHouseModel" "claims" "I", Cond.fieldLink RX12 265 "IntegerHouseModel" "isOn" "[Z", Cond.methodLink RX12 934 yX12_idle, Cond.instanceMethod yX12_idle, Cond.selects RX12 yX12_idle yX12_idle]
def wsX12_bound_r2 : List Cond := [Cond.code yX12_idle cX12_idle 2 none, Cond.fieldLink RX12 304 "IntegerHouseModel" "needed" "[Z", Cond.methodLink RX12 937 yX12_put, Cond.instanceMethod yX12_put, Cond.selects RX12 yX12_put yX12_put, Cond.code yX12_put cX12_put 5 none, Cond.fieldLink RX12 235 "IntegerHouseModel" "atomCount" "[I", Cond.fieldLink RX12 232 "IntegerHouseModel" "atomN" "[I", Cond.fieldLink RX12 229 "IntegerHouseModel" "atomC" "[I", Cond.fieldLink RX12 226 "IntegerHouseModel" "atomF" "[I", Cond.methodLink RX12 931 yX12_workAt, Cond.instanceMethod yX12_workAt, Cond.selects RX12 yX12_workAt yX12_workAt, Cond.code yX12_workAt cX12_workAt 5 (some .int), Cond.methodLink RX12 1009 yX12_max, Cond.static yX12_max, Cond.code yX12_max cX12_max 4 (some .long), Cond.methodLink RX12 1304 yX12_times, Cond.instanceMethod yX12_times, Cond.selects RX12 yX12_times yX12_times, Cond.code yX12_times cX12_times 8 none, Cond.constantLong RX12 1302 (10000)]
def wsX12_bound : List Cond := .code yX12_bound cX12_bound 8 (some .int) :: ((wsX12_bound_r1 ++ wsX12_bound_r2) ++ wsX120)
def wsX12_audit : List Cond := .code yX12_audit cX12_audit 1 (some .int) :: ([.methodLink RX12 871 yX12_asks, .instanceMethod yX12_asks, .selects RX12 yX12_asks yX12_asks, .initialized RX12, .code yX12_asks cX12_asks 1 (some .boolean), .fieldLink RX12 3 "IntegerHouseModel" "thrown" "I", .fieldLink RX12 488 "IntegerHouseModel" "down" "Z"] ++ wsX120)
def wsL_line : List Cond := .codeWith yL_line cL_line 5 (some .int) [(0, 9, 12, 25)] :: ([.classLink RL 25 "java/lang/IndexOutOfBoundsException", .methodLink RL 47 yX11_line, .instanceMethod yX11_line, .selects RX11 yX11_line yX11_line, .initialized RX11, .code yX11_line cX11_line 3 (some .long), .classLink RX11 197 "java/lang/IndexOutOfBoundsException", .initialized "java/lang/IndexOutOfBoundsException", .fieldLink RX11 98 "IntegerHouse" "prover" "LIntegerHouse$Prover;", .methodLink RX11 400 yX7_isLine, .instanceMethod yX7_isLine, .selects RX7 yX7_isLine yX7_isLine, .initialized RX7, .code yX7_isLine cX7_isLine 2 (some .boolean), .fieldLink RX7 46 "IntegerHouse$Prover" "size" "I", .methodLink RX11 405 yX7_lineNumber, .instanceMethod yX7_lineNumber, .selects RX7 yX7_lineNumber yX7_lineNumber, .code yX7_lineNumber cX7_lineNumber 3 (some .long), .fieldLink RX7 11 "IntegerHouse$Prover" "lines" "[J"] ++ wsX110 ++ wsX70 ++ (vx_atS RX11 201 "java/lang/IndexOutOfBoundsException" ["java/lang/RuntimeException", "java/lang/Exception"]).filter goodWord)
theorem dX0_boundDigit_0 : decode cX0_boundDigit 0 = .ok (.iconst 0, 1) := by decide +kernel
theorem dX0_boundDigit_1 : decode cX0_boundDigit 1 = .ok (.istore_n 2, 1) := by decide +kernel
theorem dX0_boundDigit_2 : decode cX0_boundDigit 2 = .ok (.lconst 1, 1) := by decide +kernel
theorem dX0_boundDigit_3 : decode cX0_boundDigit 3 = .ok (.lstore_n 3, 1) := by decide +kernel
theorem dX0_boundDigit_4 : decode cX0_boundDigit 4 = .ok (.iconst 0, 1) := by decide +kernel
theorem dX0_boundDigit_5 : decode cX0_boundDigit 5 = .ok (.istore 5, 2) := by decide +kernel
theorem dX0_boundDigit_7 : decode cX0_boundDigit 7 = .ok (.iload 5, 2) := by decide +kernel
theorem dX0_boundDigit_9 : decode cX0_boundDigit 9 = .ok (.aload_n 0, 1) := by decide +kernel
theorem dX0_boundDigit_10 : decode cX0_boundDigit 10 = .ok (.getfield 44, 3) := by decide +kernel
theorem dX0_boundDigit_13 : decode cX0_boundDigit 13 = .ok (.getfield 173, 3) := by decide +kernel
theorem dX0_boundDigit_16 : decode cX0_boundDigit 16 = .ok (.if_icmp .ge 69, 3) := by decide +kernel
theorem dX0_boundDigit_85 : decode cX0_boundDigit 85 = .ok (.iload_n 2, 1) := by decide +kernel
theorem dX0_boundDigit_86 : decode cX0_boundDigit 86 = .ok (.ifCond .eq 17, 3) := by decide +kernel
theorem dX0_boundDigit_103 : decode cX0_boundDigit 103 = .ok (.iconst 0, 1) := by decide +kernel
theorem dX0_boundDigit_104 : decode cX0_boundDigit 104 = .ok (.ireturn, 1) := by decide +kernel
theorem dX3_kindAt_0 : decode cX3_kindAt 0 = .ok (.iload_n 1, 1) := by decide +kernel
theorem dX3_kindAt_1 : decode cX3_kindAt 1 = .ok (.ifCond .lt 20, 3) := by decide +kernel
theorem dX3_kindAt_4 : decode cX3_kindAt 4 = .ok (.iload_n 1, 1) := by decide +kernel
theorem dX3_kindAt_5 : decode cX3_kindAt 5 = .ok (.aload_n 0, 1) := by decide +kernel
theorem dX3_kindAt_6 : decode cX3_kindAt 6 = .ok (.getfield 48, 3) := by decide +kernel
theorem dX3_kindAt_9 : decode cX3_kindAt 9 = .ok (.if_icmp .ge 12, 3) := by decide +kernel
theorem dX3_kindAt_21 : decode cX3_kindAt 21 = .ok (.iconst 0, 1) := by decide +kernel
theorem dX3_kindAt_22 : decode cX3_kindAt 22 = .ok (.ireturn, 1) := by decide +kernel
theorem dX7_isLine_0 : decode cX7_isLine 0 = .ok (.iload_n 1, 1) := by decide +kernel
theorem dX7_isLine_1 : decode cX7_isLine 1 = .ok (.iconst 1, 1) := by decide +kernel
theorem dX7_isLine_2 : decode cX7_isLine 2 = .ok (.if_icmp .lt 15, 3) := by decide +kernel
theorem dX7_isLine_5 : decode cX7_isLine 5 = .ok (.iload_n 1, 1) := by decide +kernel
theorem dX7_isLine_6 : decode cX7_isLine 6 = .ok (.aload_n 0, 1) := by decide +kernel
theorem dX7_isLine_7 : decode cX7_isLine 7 = .ok (.getfield 46, 3) := by decide +kernel
theorem dX7_isLine_10 : decode cX7_isLine 10 = .ok (.if_icmp .gt 7, 3) := by decide +kernel
theorem dX7_isLine_17 : decode cX7_isLine 17 = .ok (.iconst 0, 1) := by decide +kernel
theorem dX7_isLine_18 : decode cX7_isLine 18 = .ok (.ireturn, 1) := by decide +kernel
theorem dX7_lineNumber_0 : decode cX7_lineNumber 0 = .ok (.iload_n 1, 1) := by decide +kernel
theorem dX7_lineNumber_1 : decode cX7_lineNumber 1 = .ok (.iconst 1, 1) := by decide +kernel
theorem dX7_lineNumber_2 : decode cX7_lineNumber 2 = .ok (.if_icmp .lt 34, 3) := by decide +kernel
theorem dX7_lineNumber_36 : decode cX7_lineNumber 36 = .ok (.lconst 0, 1) := by decide +kernel
theorem dX7_lineNumber_37 : decode cX7_lineNumber 37 = .ok (.lreturn, 1) := by decide +kernel
set_option maxRecDepth 20000 in
theorem ggX7_check_X3_scan : GoodIn wsX7_check wsX3_scan := goodIn_r _ [11, 12, 13, 14, 15, 16, 17, 18, 19, 20, 10, 21, 22, 23, 24, 25, 26, 27, 28, 29, 30, 31, 32, 33, 34, 35, 36, 37, 38, 39, 40, 41, 42, 43, 44, 45, 46, 47, 48, 49, 50, 51, 52, 53, 54, 55, 56, 57, 58, 59, 60, 61, 62, 63, 64, 65, 66, 67, 68, 69, 70, 71, 72, 73, 74, 75, 76, 77, 78, 79, 80, 81, 82, 83, 84, 85, 86, 87, 239, 240, 241, 242, 243, 244, 245, 246, 247] (by decide +kernel) (by decide +kernel)
set_option maxRecDepth 20000 in
theorem gX7_check_X3_scan : GoodIn wsX7_check (wsV RX7 50 RX3 yX3_scan wsX3_scan) := goodIn_app (goodIn_of _ (by decide +kernel)) ggX7_check_X3_scan
set_option maxRecDepth 20000 in
theorem ggX7_check_X3_kindAt : GoodIn wsX7_check wsX3_kindAt := goodIn_r _ [91, 15, 17, 239, 240, 241, 242, 243, 244, 245, 246, 247] (by decide +kernel) (by decide +kernel)
set_option maxRecDepth 20000 in
theorem gX7_check_X3_kindAt : GoodIn wsX7_check (wsV RX7 68 RX3 yX3_kindAt wsX3_kindAt) := goodIn_app (goodIn_of _ (by decide +kernel)) ggX7_check_X3_kindAt
set_option maxRecDepth 20000 in
theorem ggX7_check_X7_isLatestFalse : GoodIn wsX7_check wsX7_isLatestFalse := goodIn_r _ [217, 2, 176, 177, 178, 95, 179, 166, 222, 223, 224, 225, 226, 227, 228, 229, 230, 231, 232, 233, 234, 235, 236, 237, 238] (by decide +kernel) (by decide +kernel)
set_option maxRecDepth 20000 in
theorem gX7_check_X7_isLatestFalse : GoodIn wsX7_check (wsV RX7 75 RX7 yX7_isLatestFalse wsX7_isLatestFalse) := goodIn_app (goodIn_of _ (by decide +kernel)) ggX7_check_X7_isLatestFalse
theorem dX7_check_0 : decode cX7_check 0 = .ok (.aload_n 0, 1) := by decide +kernel
theorem dX7_check_1 : decode cX7_check 1 = .ok (.getfield 38, 3) := by decide +kernel
theorem dX7_check_4 : decode cX7_check 4 = .ok (.aload_n 1, 1) := by decide +kernel
theorem dX7_check_5 : decode cX7_check 5 = .ok (.iconst 0, 1) := by decide +kernel
theorem dX7_check_6 : decode cX7_check 6 = .ok (.iload_n 2, 1) := by decide +kernel
theorem dX7_check_7 : decode cX7_check 7 = .ok (.iconst 1, 1) := by decide +kernel
theorem dX7_check_8 : decode cX7_check 8 = .ok (.invokevirtual 50, 3) := by decide +kernel
theorem dX7_check_11 : decode cX7_check 11 = .ok (.aload_n 0, 1) := by decide +kernel
theorem dX7_check_12 : decode cX7_check 12 = .ok (.iconst 0, 1) := by decide +kernel
theorem dX7_check_13 : decode cX7_check 13 = .ok (.putfield 46, 3) := by decide +kernel
theorem dX7_check_16 : decode cX7_check 16 = .ok (.aload_n 0, 1) := by decide +kernel
theorem dX7_check_17 : decode cX7_check 17 = .ok (.iconst 0, 1) := by decide +kernel
theorem dX7_check_18 : decode cX7_check 18 = .ok (.putfield 56, 3) := by decide +kernel
theorem dX7_check_21 : decode cX7_check 21 = .ok (.aload_n 0, 1) := by decide +kernel
theorem dX7_check_22 : decode cX7_check 22 = .ok (.iconst 0, 1) := by decide +kernel
theorem dX7_check_23 : decode cX7_check 23 = .ok (.putfield 59, 3) := by decide +kernel
theorem dX7_check_26 : decode cX7_check 26 = .ok (.aload_n 0, 1) := by decide +kernel
theorem dX7_check_27 : decode cX7_check 27 = .ok (.iconst 0, 1) := by decide +kernel
theorem dX7_check_28 : decode cX7_check 28 = .ok (.putfield 62, 3) := by decide +kernel
theorem dX7_check_31 : decode cX7_check 31 = .ok (.aload_n 0, 1) := by decide +kernel
theorem dX7_check_32 : decode cX7_check 32 = .ok (.iconst 0, 1) := by decide +kernel
theorem dX7_check_33 : decode cX7_check 33 = .ok (.putfield 65, 3) := by decide +kernel
theorem dX7_check_36 : decode cX7_check 36 = .ok (.iconst 0, 1) := by decide +kernel
theorem dX7_check_37 : decode cX7_check 37 = .ok (.istore_n 3, 1) := by decide +kernel
theorem dX7_check_38 : decode cX7_check 38 = .ok (.iload_n 3, 1) := by decide +kernel
theorem dX7_check_39 : decode cX7_check 39 = .ok (.sipush 2000, 3) := by decide +kernel
theorem dX7_check_42 : decode cX7_check 42 = .ok (.if_icmp .ge 34, 3) := by decide +kernel
theorem dX7_check_45 : decode cX7_check 45 = .ok (.aload_n 0, 1) := by decide +kernel
theorem dX7_check_46 : decode cX7_check 46 = .ok (.getfield 62, 3) := by decide +kernel
theorem dX7_check_49 : decode cX7_check 49 = .ok (.ifCond .ne 27, 3) := by decide +kernel
theorem dX7_check_52 : decode cX7_check 52 = .ok (.aload_n 0, 1) := by decide +kernel
theorem dX7_check_53 : decode cX7_check 53 = .ok (.getfield 38, 3) := by decide +kernel
theorem dX7_check_56 : decode cX7_check 56 = .ok (.aload_n 0, 1) := by decide +kernel
theorem dX7_check_57 : decode cX7_check 57 = .ok (.getfield 59, 3) := by decide +kernel
theorem dX7_check_60 : decode cX7_check 60 = .ok (.invokevirtual 68, 3) := by decide +kernel
theorem dX7_check_63 : decode cX7_check 63 = .ok (.ifCond .eq 13, 3) := by decide +kernel
theorem dX7_check_76 : decode cX7_check 76 = .ok (.aload_n 0, 1) := by decide +kernel
theorem dX7_check_77 : decode cX7_check 77 = .ok (.getfield 62, 3) := by decide +kernel
theorem dX7_check_80 : decode cX7_check 80 = .ok (.ifCond .eq 5, 3) := by decide +kernel
theorem dX7_check_85 : decode cX7_check 85 = .ok (.aload_n 0, 1) := by decide +kernel
theorem dX7_check_86 : decode cX7_check 86 = .ok (.getfield 56, 3) := by decide +kernel
theorem dX7_check_89 : decode cX7_check 89 = .ok (.ifCond .ne 14, 3) := by decide +kernel
theorem dX7_check_92 : decode cX7_check 92 = .ok (.aload_n 0, 1) := by decide +kernel
theorem dX7_check_93 : decode cX7_check 93 = .ok (.invokevirtual 75, 3) := by decide +kernel
theorem dX7_check_96 : decode cX7_check 96 = .ok (.ifCond .eq 7, 3) := by decide +kernel
theorem dX7_check_103 : decode cX7_check 103 = .ok (.iconst 0, 1) := by decide +kernel
theorem dX7_check_104 : decode cX7_check 104 = .ok (.ireturn, 1) := by decide +kernel
set_option maxRecDepth 20000 in
theorem ggX7_isLatestFalse_X7_lineNumber : GoodIn wsX7_isLatestFalse wsX7_lineNumber := goodIn_r _ [6, 7, 8, 9, 10, 11, 12, 13, 14, 15, 16, 17, 18, 19, 20, 21, 22, 23, 24] (by decide +kernel) (by decide +kernel)
set_option maxRecDepth 20000 in
theorem gX7_isLatestFalse_X7_lineNumber : GoodIn wsX7_isLatestFalse (wsV RX7 165 RX7 yX7_lineNumber wsX7_lineNumber) := goodIn_app (goodIn_of _ (by decide +kernel)) ggX7_isLatestFalse_X7_lineNumber
theorem dX7_isLatestFalse_0 : decode cX7_isLatestFalse 0 = .ok (.aload_n 0, 1) := by decide +kernel
theorem dX7_isLatestFalse_1 : decode cX7_isLatestFalse 1 = .ok (.getfield 46, 3) := by decide +kernel
theorem dX7_isLatestFalse_4 : decode cX7_isLatestFalse 4 = .ok (.ifCond .le 21, 3) := by decide +kernel
theorem dX7_isLatestFalse_25 : decode cX7_isLatestFalse 25 = .ok (.iconst 0, 1) := by decide +kernel
theorem dX7_isLatestFalse_26 : decode cX7_isLatestFalse 26 = .ok (.istore_n 1, 1) := by decide +kernel
theorem dX7_isLatestFalse_27 : decode cX7_isLatestFalse 27 = .ok (.iconst 0, 1) := by decide +kernel
theorem dX7_isLatestFalse_28 : decode cX7_isLatestFalse 28 = .ok (.istore_n 2, 1) := by decide +kernel
theorem dX7_isLatestFalse_29 : decode cX7_isLatestFalse 29 = .ok (.iload_n 2, 1) := by decide +kernel
theorem dX7_isLatestFalse_30 : decode cX7_isLatestFalse 30 = .ok (.iconst 4, 1) := by decide +kernel
theorem dX7_isLatestFalse_31 : decode cX7_isLatestFalse 31 = .ok (.if_icmp .ge 31, 3) := by decide +kernel
theorem dX7_isLatestFalse_34 : decode cX7_isLatestFalse 34 = .ok (.iload_n 1, 1) := by decide +kernel
theorem dX7_isLatestFalse_35 : decode cX7_isLatestFalse 35 = .ok (.aload_n 0, 1) := by decide +kernel
theorem dX7_isLatestFalse_36 : decode cX7_isLatestFalse 36 = .ok (.aload_n 0, 1) := by decide +kernel
theorem dX7_isLatestFalse_37 : decode cX7_isLatestFalse 37 = .ok (.getfield 46, 3) := by decide +kernel
theorem dX7_isLatestFalse_40 : decode cX7_isLatestFalse 40 = .ok (.iload_n 2, 1) := by decide +kernel
theorem dX7_isLatestFalse_41 : decode cX7_isLatestFalse 41 = .ok (.invokevirtual 165, 3) := by decide +kernel
theorem dX7_isLatestFalse_44 : decode cX7_isLatestFalse 44 = .ok (.lconst 0, 1) := by decide +kernel
theorem dX7_isLatestFalse_45 : decode cX7_isLatestFalse 45 = .ok (.lcmp, 1) := by decide +kernel
theorem dX7_isLatestFalse_46 : decode cX7_isLatestFalse 46 = .ok (.ifCond .ne 7, 3) := by decide +kernel
theorem dX7_isLatestFalse_49 : decode cX7_isLatestFalse 49 = .ok (.iconst 1, 1) := by decide +kernel
theorem dX7_isLatestFalse_50 : decode cX7_isLatestFalse 50 = .ok (.goto 4, 3) := by decide +kernel
theorem dX7_isLatestFalse_54 : decode cX7_isLatestFalse 54 = .ok (.iand, 1) := by decide +kernel
theorem dX7_isLatestFalse_55 : decode cX7_isLatestFalse 55 = .ok (.istore_n 1, 1) := by decide +kernel
theorem dX7_isLatestFalse_56 : decode cX7_isLatestFalse 56 = .ok (.iinc 2 1, 3) := by decide +kernel
theorem dX7_isLatestFalse_59 : decode cX7_isLatestFalse 59 = .ok (.goto (-30), 3) := by decide +kernel
theorem dX7_isLatestFalse_62 : decode cX7_isLatestFalse 62 = .ok (.iload_n 1, 1) := by decide +kernel
theorem dX7_isLatestFalse_63 : decode cX7_isLatestFalse 63 = .ok (.ireturn, 1) := by decide +kernel
set_option maxRecDepth 20000 in
theorem ggX11_prove_X11_useTape : GoodIn wsX11_prove wsX11_useTape := goodIn_r _ [9, 10, 236, 237, 238, 239, 240, 241, 242, 243, 244, 245, 246, 247, 248, 249, 250] (by decide +kernel) (by decide +kernel)
set_option maxRecDepth 20000 in
theorem gX11_prove_X11_useTape : GoodIn wsX11_prove (wsV RX11 230 RX11 yX11_useTape wsX11_useTape) := goodIn_app (goodIn_of _ (by decide +kernel)) ggX11_prove_X11_useTape
set_option maxRecDepth 20000 in
theorem ggX11_prove_X7_check : GoodIn wsX11_prove wsX7_check := goodIn_r _ [15, 16, 17, 18, 19, 20, 21, 22, 23, 24, 25, 26, 27, 28, 29, 30, 31, 32, 33, 34, 35, 36, 37, 38, 39, 40, 41, 42, 43, 44, 45, 46, 47, 48, 49, 50, 51, 52, 53, 54, 55, 56, 57, 58, 59, 60, 61, 62, 63, 64, 65, 66, 67, 68, 69, 70, 71, 72, 73, 74, 75, 76, 77, 78, 79, 80, 81, 82, 83, 84, 85, 86, 87, 88, 89, 90, 91, 92, 93, 94, 95, 96, 97, 98, 99, 100, 101, 102, 103, 104, 105, 106, 107, 108, 109, 14, 110, 111, 112, 113, 114, 115, 116, 117, 118, 119, 120, 121, 122, 123, 124, 125, 126, 127, 128, 129, 130, 131, 132, 133, 134, 135, 136, 137, 138, 139, 140, 141, 142, 143, 144, 145, 146, 147, 148, 149, 150, 151, 152, 153, 154, 155, 156, 157, 158, 159, 160, 161, 162, 163, 164, 165, 166, 167, 168, 169, 170, 171, 172, 173, 174, 175, 176, 177, 178, 179, 180, 181, 182, 183, 184, 185, 186, 187, 188, 189, 190, 191, 192, 193, 194, 195, 196, 197, 198, 199, 200, 201, 202, 203, 204, 205, 206, 207, 208, 209, 210, 211, 212, 213, 214, 215, 216, 217, 218, 219, 220, 221, 222, 223, 224, 225, 226, 227, 228, 229, 230, 231, 232, 233, 234, 235, 260, 261, 262, 263, 264, 265, 266, 267, 268, 269, 270, 271, 272, 273, 274, 275, 276, 277, 278, 279, 280, 281, 282, 283, 284, 285, 286, 287, 288, 289, 290, 291, 292, 293, 294, 295, 296, 297, 298, 299, 300, 301] (by decide +kernel) (by decide +kernel)
set_option maxRecDepth 20000 in
theorem gX11_prove_X7_check : GoodIn wsX11_prove (wsV RX11 395 RX7 yX7_check wsX7_check) := goodIn_app (goodIn_of _ (by decide +kernel)) ggX11_prove_X7_check
theorem dX11_prove_0 : decode cX11_prove 0 = .ok (.aload_n 0, 1) := by decide +kernel
theorem dX11_prove_1 : decode cX11_prove 1 = .ok (.getfield 16, 3) := by decide +kernel
theorem dX11_prove_4 : decode cX11_prove 4 = .ok (.getfield 122, 3) := by decide +kernel
theorem dX11_prove_7 : decode cX11_prove 7 = .ok (.ifCond .eq 6, 3) := by decide +kernel
theorem dX11_prove_13 : decode cX11_prove 13 = .ok (.aload_n 0, 1) := by decide +kernel
theorem dX11_prove_14 : decode cX11_prove 14 = .ok (.getfield 98, 3) := by decide +kernel
theorem dX11_prove_17 : decode cX11_prove 17 = .ok (.aload_n 0, 1) := by decide +kernel
theorem dX11_prove_18 : decode cX11_prove 18 = .ok (.getfield 9, 3) := by decide +kernel
theorem dX11_prove_21 : decode cX11_prove 21 = .ok (.aload_n 0, 1) := by decide +kernel
theorem dX11_prove_22 : decode cX11_prove 22 = .ok (.invokevirtual 230, 3) := by decide +kernel
theorem dX11_prove_25 : decode cX11_prove 25 = .ok (.invokevirtual 395, 3) := by decide +kernel
theorem dX11_prove_28 : decode cX11_prove 28 = .ok (.istore_n 1, 1) := by decide +kernel
theorem dX11_prove_29 : decode cX11_prove 29 = .ok (.iload_n 1, 1) := by decide +kernel
theorem dX11_prove_30 : decode cX11_prove 30 = .ok (.iconst (-1), 1) := by decide +kernel
theorem dX11_prove_31 : decode cX11_prove 31 = .ok (.if_icmp .ne 26, 3) := by decide +kernel
theorem dX11_prove_57 : decode cX11_prove 57 = .ok (.iload_n 1, 1) := by decide +kernel
theorem dX11_prove_58 : decode cX11_prove 58 = .ok (.ireturn, 1) := by decide +kernel
set_option maxRecDepth 20000 in
theorem ggX11_line_X7_isLine : GoodIn wsX11_line wsX7_isLine := goodIn_r _ [8, 9, 30, 31, 32, 33, 34, 35, 36, 37, 38, 39, 40, 41, 42, 43, 44, 45, 46] (by decide +kernel) (by decide +kernel)
set_option maxRecDepth 20000 in
theorem gX11_line_X7_isLine : GoodIn wsX11_line (wsV RX11 400 RX7 yX7_isLine wsX7_isLine) := goodIn_app (goodIn_of _ (by decide +kernel)) ggX11_line_X7_isLine
theorem dX11_line_0 : decode cX11_line 0 = .ok (.aload_n 0, 1) := by decide +kernel
theorem dX11_line_1 : decode cX11_line 1 = .ok (.getfield 98, 3) := by decide +kernel
theorem dX11_line_4 : decode cX11_line 4 = .ok (.iload_n 1, 1) := by decide +kernel
theorem dX11_line_5 : decode cX11_line 5 = .ok (.invokevirtual 400, 3) := by decide +kernel
theorem dX11_line_8 : decode cX11_line 8 = .ok (.ifCond .eq 12, 3) := by decide +kernel
theorem dX11_line_20 : decode cX11_line 20 = .ok (.new 197, 3) := by decide +kernel
theorem dX11_line_23 : decode cX11_line 23 = .ok (.dup, 1) := by decide +kernel
theorem dX11_line_24 : decode cX11_line 24 = .ok (.ldc_w 403, 3) := by decide +kernel
theorem dX11_line_27 : decode cX11_line 27 = .ok (.invokespecial 201, 3) := by decide +kernel
theorem dX11_line_30 : decode cX11_line 30 = .ok (.athrow, 1) := by decide +kernel
set_option maxRecDepth 20000 in
theorem ggX11_bound_X0_boundDigit : GoodIn wsX11_bound wsX0_boundDigit := goodIn_r _ [7, 8, 9, 10, 11, 12, 13, 14, 15, 16, 17, 18, 19, 20, 21, 22, 23, 24, 25, 26, 27, 6, 28, 29, 30, 31, 32, 33, 34, 35, 36, 37, 38, 39, 40, 41, 42, 43, 44, 45, 46, 71, 72, 73, 74, 75, 76, 77, 78, 79, 80, 81, 82, 83, 84, 85, 86, 87, 88, 89, 90, 91, 92, 93, 94, 95, 96, 97, 98, 99, 100, 101, 102, 103, 104, 105] (by decide +kernel) (by decide +kernel)
set_option maxRecDepth 20000 in
theorem gX11_bound_X0_boundDigit : GoodIn wsX11_bound (wsV RX11 409 RX0 yX0_boundDigit wsX0_boundDigit) := goodIn_app (goodIn_of _ (by decide +kernel)) ggX11_bound_X0_boundDigit
theorem dX11_bound_0 : decode cX11_bound 0 = .ok (.aload_n 0, 1) := by decide +kernel
theorem dX11_bound_1 : decode cX11_bound 1 = .ok (.getfield 16, 3) := by decide +kernel
theorem dX11_bound_4 : decode cX11_bound 4 = .ok (.getfield 122, 3) := by decide +kernel
theorem dX11_bound_7 : decode cX11_bound 7 = .ok (.ifCond .eq 8, 3) := by decide +kernel
theorem dX11_bound_15 : decode cX11_bound 15 = .ok (.aload_n 0, 1) := by decide +kernel
theorem dX11_bound_16 : decode cX11_bound 16 = .ok (.getfield 64, 3) := by decide +kernel
theorem dX11_bound_19 : decode cX11_bound 19 = .ok (.iload_n 1, 1) := by decide +kernel
theorem dX11_bound_20 : decode cX11_bound 20 = .ok (.invokevirtual 409, 3) := by decide +kernel
theorem dX11_bound_23 : decode cX11_bound 23 = .ok (.ireturn, 1) := by decide +kernel
theorem dX11_audit_0 : decode cX11_audit 0 = .ok (.aload_n 0, 1) := by decide +kernel
theorem dX11_audit_1 : decode cX11_audit 1 = .ok (.getfield 16, 3) := by decide +kernel
theorem dX11_audit_4 : decode cX11_audit 4 = .ok (.getfield 122, 3) := by decide +kernel
theorem dX11_audit_7 : decode cX11_audit 7 = .ok (.ifCond .eq 8, 3) := by decide +kernel
theorem dX11_audit_15 : decode cX11_audit 15 = .ok (.iconst 0, 1) := by decide +kernel
theorem dX11_audit_16 : decode cX11_audit 16 = .ok (.ireturn, 1) := by decide +kernel
set_option maxRecDepth 20000 in
theorem ggX12_prove_X12_asks : GoodIn wsX12_prove wsX12_asks := goodIn_r _ [10, 11, 12, 243, 244, 245, 246, 247, 248, 249, 250, 251, 252, 253, 254, 255, 256, 257, 258, 259, 260, 261, 262, 263, 264, 265, 266, 267, 268, 269, 270, 271, 272, 273, 274, 275, 276, 277, 278, 279, 280, 281, 282, 283, 284, 285, 286, 287, 288, 289, 290, 291, 292, 293, 294, 295, 296, 297, 298, 299, 300, 301, 302, 303, 304, 305, 306, 307, 308, 309, 310, 311, 312, 313, 314, 315, 316, 317, 318, 319, 320, 321, 322, 323, 324, 325, 326, 327, 328, 329, 330, 331, 332, 333, 334, 335, 336, 337, 338, 339, 340, 341, 342, 343, 344, 345, 346, 347, 348, 349, 350, 351, 352, 353, 354, 355, 356, 357, 358, 359, 360, 361, 362, 363, 364, 365, 366, 367, 368, 369, 370, 371, 372, 373, 374, 375, 376, 377, 378, 379, 380, 381, 382, 383, 384, 385, 386, 387, 388, 389, 390, 391, 392, 393, 394, 395, 396, 397, 398, 399, 400, 401, 402, 403, 404, 405, 406, 407, 408, 409, 410, 411, 412, 413, 414, 415, 416, 417, 418, 419, 420, 421, 422, 423, 424, 425, 426, 427, 428, 429, 430, 431, 432, 433, 434, 435, 436, 437] (by decide +kernel) (by decide +kernel)
set_option maxRecDepth 20000 in
theorem gX12_prove_X12_asks : GoodIn wsX12_prove (wsV RX12 871 RX12 yX12_asks wsX12_asks) := goodIn_app (goodIn_of _ (by decide +kernel)) ggX12_prove_X12_asks
set_option maxRecDepth 20000 in
theorem ggX12_prove_X12_begin : GoodIn wsX12_prove wsX12_begin := goodIn_r _ [16, 17, 18, 19, 20, 21, 22, 23, 9, 24, 25, 26, 27, 28, 29, 30, 31, 32, 33, 3, 5, 34, 35, 4, 36, 37, 38, 39, 40, 41, 42, 43, 44, 45, 46, 47, 48, 49, 50, 51, 52, 53, 54, 55, 56, 57, 58, 59, 60, 61, 62, 63, 64, 65, 66, 67, 68, 69, 70, 71, 72, 73, 74, 75, 76, 77, 78, 79, 80, 81, 82, 83, 84, 85, 86, 87, 88, 89, 90, 91, 92, 93, 94, 95, 96, 97, 98, 99, 100, 101, 102, 103, 104, 105, 106, 107, 108, 109, 110, 111, 112, 113, 114, 115, 243, 244, 245, 246, 247, 248, 249, 250, 251, 252, 253, 254, 255, 256, 257, 258, 259, 260, 261, 262, 263, 264, 265, 266, 267, 268, 269, 270, 271, 272, 273, 274, 275, 276, 277, 278, 279, 280, 281, 282, 283, 284, 285, 286, 287, 288, 289, 290, 291, 292, 293, 294, 295, 296, 297, 298, 299, 300, 301, 302, 303, 304, 305, 306, 307, 308, 309, 310, 311, 312, 313, 314, 315, 316, 317, 318, 319, 320, 321, 322, 323, 324, 325, 326, 327, 328, 329, 330, 331, 332, 333, 334, 335, 336, 337, 338, 339, 340, 341, 342, 343, 344, 345, 346, 347, 348, 349, 350, 351, 352, 353, 354, 355, 356, 357, 358, 359, 360, 361, 362, 363, 364, 365, 366, 367, 368, 369, 370, 371, 372, 373, 374, 375, 376, 377, 378, 379, 380, 381, 382, 383, 384, 385, 386, 387, 388, 389, 390, 391, 392, 393, 394, 395, 396, 397, 398, 399, 400, 401, 402, 403, 404, 405, 406, 407, 408, 409, 410, 411, 412, 413, 414, 415, 416, 417, 418, 419, 420, 421, 422, 423, 424, 425, 426, 427, 428, 429, 430, 431, 432, 433, 434, 435, 436, 437] (by decide +kernel) (by decide +kernel)
set_option maxRecDepth 20000 in
theorem gX12_prove_X12_begin : GoodIn wsX12_prove (wsV RX12 874 RX12 yX12_begin wsX12_begin) := goodIn_app (goodIn_of _ (by decide +kernel)) ggX12_prove_X12_begin
theorem dX12_prove_0 : decode cX12_prove 0 = .ok (.aload_n 0, 1) := by decide +kernel
theorem dX12_prove_1 : decode cX12_prove 1 = .ok (.invokevirtual 871, 3) := by decide +kernel
theorem dX12_prove_4 : decode cX12_prove 4 = .ok (.ifCond .ne 6, 3) := by decide +kernel
theorem dX12_prove_10 : decode cX12_prove 10 = .ok (.aload_n 0, 1) := by decide +kernel
theorem dX12_prove_11 : decode cX12_prove 11 = .ok (.invokevirtual 874, 3) := by decide +kernel
theorem dX12_prove_14 : decode cX12_prove 14 = .ok (.aload_n 0, 1) := by decide +kernel
theorem dX12_prove_15 : decode cX12_prove 15 = .ok (.iconst 0, 1) := by decide +kernel
theorem dX12_prove_16 : decode cX12_prove 16 = .ok (.putfield 1247, 3) := by decide +kernel
theorem dX12_prove_19 : decode cX12_prove 19 = .ok (.aload_n 0, 1) := by decide +kernel
theorem dX12_prove_20 : decode cX12_prove 20 = .ok (.iconst 0, 1) := by decide +kernel
theorem dX12_prove_21 : decode cX12_prove 21 = .ok (.putfield 1250, 3) := by decide +kernel
theorem dX12_prove_24 : decode cX12_prove 24 = .ok (.aload_n 0, 1) := by decide +kernel
theorem dX12_prove_25 : decode cX12_prove 25 = .ok (.getfield 562, 3) := by decide +kernel
theorem dX12_prove_28 : decode cX12_prove 28 = .ok (.ifCond .ne 48, 3) := by decide +kernel
theorem dX12_prove_31 : decode cX12_prove 31 = .ok (.aload_n 0, 1) := by decide +kernel
theorem dX12_prove_32 : decode cX12_prove 32 = .ok (.getfield 87, 3) := by decide +kernel
theorem dX12_prove_35 : decode cX12_prove 35 = .ok (.aload_n 0, 1) := by decide +kernel
theorem dX12_prove_36 : decode cX12_prove 36 = .ok (.getfield 597, 3) := by decide +kernel
theorem dX12_prove_39 : decode cX12_prove 39 = .ok (.iaload, 1) := by decide +kernel
theorem dX12_prove_40 : decode cX12_prove 40 = .ok (.ifCond .eq 36, 3) := by decide +kernel
theorem dX12_prove_76 : decode cX12_prove 76 = .ok (.aload_n 0, 1) := by decide +kernel
theorem dX12_prove_77 : decode cX12_prove 77 = .ok (.getfield 562, 3) := by decide +kernel
theorem dX12_prove_80 : decode cX12_prove 80 = .ok (.ifCond .eq 8, 3) := by decide +kernel
theorem dX12_prove_88 : decode cX12_prove 88 = .ok (.aload_n 0, 1) := by decide +kernel
theorem dX12_prove_89 : decode cX12_prove 89 = .ok (.getfield 1250, 3) := by decide +kernel
theorem dX12_prove_92 : decode cX12_prove 92 = .ok (.ifCond .ne 25, 3) := by decide +kernel
theorem dX12_prove_95 : decode cX12_prove 95 = .ok (.aload_n 0, 1) := by decide +kernel
theorem dX12_prove_96 : decode cX12_prove 96 = .ok (.getfield 1247, 3) := by decide +kernel
theorem dX12_prove_99 : decode cX12_prove 99 = .ok (.ifCond .le 18, 3) := by decide +kernel
theorem dX12_prove_117 : decode cX12_prove 117 = .ok (.iconst 0, 1) := by decide +kernel
theorem dX12_prove_118 : decode cX12_prove 118 = .ok (.ireturn, 1) := by decide +kernel
set_option maxRecDepth 20000 in
theorem ggX12_line_X12_in : GoodIn wsX12_line wsX12_in := goodIn_r _ [9] (by decide +kernel) (by decide +kernel)
set_option maxRecDepth 20000 in
theorem gX12_line_X12_in : GoodIn wsX12_line (va_wsS RX12 504 yX12_in wsX12_in) := goodIn_app (goodIn_of _ (by decide +kernel)) ggX12_line_X12_in
theorem dX12_line_0 : decode cX12_line 0 = .ok (.aload_n 0, 1) := by decide +kernel
theorem dX12_line_1 : decode cX12_line 1 = .ok (.iload_n 1, 1) := by decide +kernel
theorem dX12_line_2 : decode cX12_line 2 = .ok (.i2l, 1) := by decide +kernel
theorem dX12_line_3 : decode cX12_line 3 = .ok (.lconst 1, 1) := by decide +kernel
theorem dX12_line_4 : decode cX12_line 4 = .ok (.aload_n 0, 1) := by decide +kernel
theorem dX12_line_5 : decode cX12_line 5 = .ok (.getfield 1247, 3) := by decide +kernel
theorem dX12_line_8 : decode cX12_line 8 = .ok (.i2l, 1) := by decide +kernel
theorem dX12_line_9 : decode cX12_line 9 = .ok (.invokestatic 504, 3) := by decide +kernel
theorem dX12_line_12 : decode cX12_line 12 = .ok (.ifCond .eq 19, 3) := by decide +kernel
theorem dX12_line_31 : decode cX12_line 31 = .ok (.iconst 1, 1) := by decide +kernel
theorem dX12_line_32 : decode cX12_line 32 = .ok (.putfield 3, 3) := by decide +kernel
theorem dX12_line_35 : decode cX12_line 35 = .ok (.aload_n 0, 1) := by decide +kernel
theorem dX12_line_36 : decode cX12_line 36 = .ok (.getfield 3, 3) := by decide +kernel
theorem dX12_line_39 : decode cX12_line 39 = .ok (.ifCond .le 7, 3) := by decide +kernel
theorem dX12_line_42 : decode cX12_line 42 = .ok (.lconst 0, 1) := by decide +kernel
theorem dX12_line_43 : decode cX12_line 43 = .ok (.goto 27, 3) := by decide +kernel
theorem dX12_line_70 : decode cX12_line 70 = .ok (.lreturn, 1) := by decide +kernel
set_option maxRecDepth 20000 in
theorem ggX12_bound_X12_asks : GoodIn wsX12_bound wsX12_asks := goodIn_r _ [13, 14, 15, 47, 48, 49, 50, 51, 52, 53, 54, 55, 56, 57, 58, 59, 60, 61, 62, 63, 64, 65, 66, 67, 68, 69, 70, 71, 72, 73, 74, 75, 76, 77, 78, 79, 80, 81, 82, 83, 84, 85, 86, 87, 88, 89, 90, 91, 92, 93, 94, 95, 96, 97, 98, 99, 100, 101, 102, 103, 104, 105, 106, 107, 108, 109, 110, 111, 112, 113, 114, 115, 116, 117, 118, 119, 120, 121, 122, 123, 124, 125, 126, 127, 128, 129, 130, 131, 132, 133, 134, 135, 136, 137, 138, 139, 140, 141, 142, 143, 144, 145, 146, 147, 148, 149, 150, 151, 152, 153, 154, 155, 156, 157, 158, 159, 160, 161, 162, 163, 164, 165, 166, 167, 168, 169, 170, 171, 172, 173, 174, 175, 176, 177, 178, 179, 180, 181, 182, 183, 184, 185, 186, 187, 188, 189, 190, 191, 192, 193, 194, 195, 196, 197, 198, 199, 200, 201, 202, 203, 204, 205, 206, 207, 208, 209, 210, 211, 212, 213, 214, 215, 216, 217, 218, 219, 220, 221, 222, 223, 224, 225, 226, 227, 228, 229, 230, 231, 232, 233, 234, 235, 236, 237, 238, 239, 240, 241] (by decide +kernel) (by decide +kernel)
set_option maxRecDepth 20000 in
theorem gX12_bound_X12_asks : GoodIn wsX12_bound (wsV RX12 871 RX12 yX12_asks wsX12_asks) := goodIn_app (goodIn_of _ (by decide +kernel)) ggX12_bound_X12_asks
set_option maxRecDepth 20000 in
theorem ggX12_bound_X12_putOn : GoodIn wsX12_bound wsX12_putOn := goodIn_r _ [19, 20, 21, 22, 23, 24, 12, 25, 1, 26, 27, 28, 29, 30, 31, 2, 32, 3, 33, 4, 34, 35, 36, 37, 38, 47, 48, 49, 50, 51, 52, 53, 54, 55, 56, 57, 58, 59, 60, 61, 62, 63, 64, 65, 66, 67, 68, 69, 70, 71, 72, 73, 74, 75, 76, 77, 78, 79, 80, 81, 82, 83, 84, 85, 86, 87, 88, 89, 90, 91, 92, 93, 94, 95, 96, 97, 98, 99, 100, 101, 102, 103, 104, 105, 106, 107, 108, 109, 110, 111, 112, 113, 114, 115, 116, 117, 118, 119, 120, 121, 122, 123, 124, 125, 126, 127, 128, 129, 130, 131, 132, 133, 134, 135, 136, 137, 138, 139, 140, 141, 142, 143, 144, 145, 146, 147, 148, 149, 150, 151, 152, 153, 154, 155, 156, 157, 158, 159, 160, 161, 162, 163, 164, 165, 166, 167, 168, 169, 170, 171, 172, 173, 174, 175, 176, 177, 178, 179, 180, 181, 182, 183, 184, 185, 186, 187, 188, 189, 190, 191, 192, 193, 194, 195, 196, 197, 198, 199, 200, 201, 202, 203, 204, 205, 206, 207, 208, 209, 210, 211, 212, 213, 214, 215, 216, 217, 218, 219, 220, 221, 222, 223, 224, 225, 226, 227, 228, 229, 230, 231, 232, 233, 234, 235, 236, 237, 238, 239, 240, 241] (by decide +kernel) (by decide +kernel)
set_option maxRecDepth 20000 in
theorem gX12_bound_X12_putOn : GoodIn wsX12_bound (wsV RX12 982 RX12 yX12_putOn wsX12_putOn) := goodIn_app (goodIn_of _ (by decide +kernel)) ggX12_bound_X12_putOn
theorem dX12_bound_0 : decode cX12_bound 0 = .ok (.aload_n 0, 1) := by decide +kernel
theorem dX12_bound_1 : decode cX12_bound 1 = .ok (.invokevirtual 871, 3) := by decide +kernel
theorem dX12_bound_4 : decode cX12_bound 4 = .ok (.ifCond .ne 6, 3) := by decide +kernel
theorem dX12_bound_10 : decode cX12_bound 10 = .ok (.aload_n 0, 1) := by decide +kernel
theorem dX12_bound_11 : decode cX12_bound 11 = .ok (.invokevirtual 982, 3) := by decide +kernel
theorem dX12_bound_14 : decode cX12_bound 14 = .ok (.lconst 0, 1) := by decide +kernel
theorem dX12_bound_15 : decode cX12_bound 15 = .ok (.lstore_n 2, 1) := by decide +kernel
theorem dX12_bound_16 : decode cX12_bound 16 = .ok (.lconst 1, 1) := by decide +kernel
theorem dX12_bound_17 : decode cX12_bound 17 = .ok (.lstore 4, 2) := by decide +kernel
theorem dX12_bound_19 : decode cX12_bound 19 = .ok (.iconst 0, 1) := by decide +kernel
theorem dX12_bound_20 : decode cX12_bound 20 = .ok (.istore 6, 2) := by decide +kernel
theorem dX12_bound_22 : decode cX12_bound 22 = .ok (.iload 6, 2) := by decide +kernel
theorem dX12_bound_24 : decode cX12_bound 24 = .ok (.aload_n 0, 1) := by decide +kernel
theorem dX12_bound_25 : decode cX12_bound 25 = .ok (.getfield 928, 3) := by decide +kernel
theorem dX12_bound_28 : decode cX12_bound 28 = .ok (.if_icmp .ge 129, 3) := by decide +kernel
theorem dX12_bound_157 : decode cX12_bound 157 = .ok (.lload_n 2, 1) := by decide +kernel
theorem dX12_bound_158 : decode cX12_bound 158 = .ok (.lconst 0, 1) := by decide +kernel
theorem dX12_bound_159 : decode cX12_bound 159 = .ok (.lcmp, 1) := by decide +kernel
theorem dX12_bound_160 : decode cX12_bound 160 = .ok (.ifCond .eq 14, 3) := by decide +kernel
theorem dX12_bound_174 : decode cX12_bound 174 = .ok (.iconst 0, 1) := by decide +kernel
theorem dX12_bound_175 : decode cX12_bound 175 = .ok (.ireturn, 1) := by decide +kernel
set_option maxRecDepth 20000 in
theorem ggX12_audit_X12_asks : GoodIn wsX12_audit wsX12_asks := goodIn_r _ [5, 6, 7, 8, 9, 10, 11, 12, 13, 14, 15, 16, 17, 18, 19, 20, 21, 22, 23, 24, 25, 26, 27, 28, 29, 30, 31, 32, 33, 34, 35, 36, 37, 38, 39, 40, 41, 42, 43, 44, 45, 46, 47, 48, 49, 50, 51, 52, 53, 54, 55, 56, 57, 58, 59, 60, 61, 62, 63, 64, 65, 66, 67, 68, 69, 70, 71, 72, 73, 74, 75, 76, 77, 78, 79, 80, 81, 82, 83, 84, 85, 86, 87, 88, 89, 90, 91, 92, 93, 94, 95, 96, 97, 98, 99, 100, 101, 102, 103, 104, 105, 106, 107, 108, 109, 110, 111, 112, 113, 114, 115, 116, 117, 118, 119, 120, 121, 122, 123, 124, 125, 126, 127, 128, 129, 130, 131, 132, 133, 134, 135, 136, 137, 138, 139, 140, 141, 142, 143, 144, 145, 146, 147, 148, 149, 150, 151, 152, 153, 154, 155, 156, 157, 158, 159, 160, 161, 162, 163, 164, 165, 166, 167, 168, 169, 170, 171, 172, 173, 174, 175, 176, 177, 178, 179, 180, 181, 182, 183, 184, 185, 186, 187, 188, 189, 190, 191, 192, 193, 194, 195, 196, 197, 198, 199, 200, 201, 202] (by decide +kernel) (by decide +kernel)
set_option maxRecDepth 20000 in
theorem gX12_audit_X12_asks : GoodIn wsX12_audit (wsV RX12 871 RX12 yX12_asks wsX12_asks) := goodIn_app (goodIn_of _ (by decide +kernel)) ggX12_audit_X12_asks
theorem dX12_audit_0 : decode cX12_audit 0 = .ok (.aload_n 0, 1) := by decide +kernel
theorem dX12_audit_1 : decode cX12_audit 1 = .ok (.invokevirtual 871, 3) := by decide +kernel
theorem dX12_audit_4 : decode cX12_audit 4 = .ok (.ifCond .eq 7, 3) := by decide +kernel
theorem dX12_audit_7 : decode cX12_audit 7 = .ok (.iconst 0, 1) := by decide +kernel
theorem dX12_audit_8 : decode cX12_audit 8 = .ok (.goto 5, 3) := by decide +kernel
theorem dX12_audit_13 : decode cX12_audit 13 = .ok (.ireturn, 1) := by decide +kernel
set_option maxRecDepth 20000 in
theorem ggL_line_X11_line : GoodIn wsL_line wsX11_line := goodIn_ca (goodIn_r _ [6, 7, 8, 9, 10, 11, 12, 13, 14, 15, 16, 17, 18, 19, 20, 21, 22, 23, 24, 25, 26, 27, 28, 29, 30, 31, 32, 33, 34, 35, 36, 37, 38, 39, 40, 41, 42, 43, 44, 45, 46, 47, 48, 49, 50, 51, 52] (by decide +kernel) (by decide +kernel)) (goodIn_sub (fun _ h => List.mem_cons_of_mem _ (List.mem_append_right _ h)) (by decide +kernel))
set_option maxRecDepth 20000 in
theorem gL_line_X11_line : GoodIn wsL_line (wsV RL 47 RX11 yX11_line wsX11_line) := goodIn_app (goodIn_of _ (by decide +kernel)) ggL_line_X11_line
theorem dL_line_0 : decode cL_line 0 = .ok (.aload_n 3, 1) := by decide +kernel
theorem dL_line_1 : decode cL_line 1 = .ok (.iconst 0, 1) := by decide +kernel
theorem dL_line_2 : decode cL_line 2 = .ok (.aload_n 0, 1) := by decide +kernel
theorem dL_line_3 : decode cL_line 3 = .ok (.iload_n 1, 1) := by decide +kernel
theorem dL_line_4 : decode cL_line 4 = .ok (.iload_n 2, 1) := by decide +kernel
theorem dL_line_5 : decode cL_line 5 = .ok (.invokevirtual 47, 3) := by decide +kernel
theorem dL_line_12 : decode cL_line 12 = .ok (.astore 4, 2) := by decide +kernel
theorem dL_line_14 : decode cL_line 14 = .ok (.iconst 1, 1) := by decide +kernel
theorem dL_line_15 : decode cL_line 15 = .ok (.ireturn, 1) := by decide +kernel
set_option maxHeartbeats 400000000 in
set_option maxRecDepth 100000 in
theorem c_X3_kindAt_0 (l : Launch) (E : kE) (D : va_G) (cI cJ cB cZ : ClassId) (h0 : Nat) (f0 : List Value) (e0 : f0[5]? = some (.int 0)) : kI l E D (kT cI cJ cB cZ) yX3_kindAt wsX3_kindAt ({ frames := 0, cells := 0, slots := 0, locals := 0 }) [.ref h0, .int 0] [(h0, .inr (3, f0))] (0) [(h0, .inr (3, f0))] 0 0 := by
  intro sz
  refine Met.ofW (cc := cX3_kindAt) (maxL := 2) (ret := (some .int)) (by decide) rfl ?_
  intro p e s m args below meth c s₁ B hml hv
  obtain ⟨rfl, hsz, hP, hK, hD0, hN, hX⟩ := hv
  have hx := B.exec
  have hb := B.bytes
  have hr := B.returns
  have hts := atoms_spec (ws := wsX3_kindAt) B.pre
  have hown : s.vm.findClass RX3 = some m.cls := findClass_of_methodNamed B.named
  have hlocks := B.notSynchronized
  have hin3 : ∀ w ∈ wsX30, w ∈ wsX3_kindAt := (fun w h => (List.mem_cons_of_mem _ (List.mem_append_right _ h)))
  subst hsz
  have hD := hD0.self (sz := s.heap.size)
  have hAE := k_AE hD0 hX
  generalize hAe : va_A [(h0, .inr (3, f0))] s.heap.size = A at hD hAE ⊢
  have hA : ∀ q : Nat, s.heap.size ≤ q → A q := fun q h => by rw [← hAe]; exact Or.inr h
  have hS : va_S A s.heap s.heap [] := va_S.rf
  have hP : va_P D vwCl [(h0, .inr (3, f0))] s.heap := hP
  have hl := lv_entry ([.ref h0, .int 0] : List Value) (n := 2) (Nat.le_of_ble_eq_true rfl)
  rw [lg_entry_eq]
  generalize (lg_sl ([.ref h0, .int 0]) ++ List.replicate (2 - (lg_sl ([.ref h0, .int 0])).length) Slot.unset).toArray = ls at hl ⊢
  have hl : lv_has ls 2 [(0, .ref h0), (1, .int 0)] := hl
  refine lv_iload_n hx hb dX3_kindAt_0 rfl (lv_at hl 1 rfl) ?_
  refine lv_if_lt (tgt := 21) hx hb dX3_kindAt_1 (by decide) (fun c9 => absurd c9 (by decide)) (fun _ => ?_)
  refine lv_iload_n hx hb dX3_kindAt_4 rfl (lv_at hl 1 rfl) ?_
  refine lv_aload_n hx hb dX3_kindAt_5 rfl (lv_at hl 0 rfl) ?_
  refine va_get (D := D) (ref := "IntegerHouse$Lexer") (ci := 3) (v := .int 0) (C := RX3) (T := TX3) (N := 9) hx hb hts hin3 hown hK hP 0 rfl rfl 5 (by decide) (hts (.fieldLink RX3 48 "IntegerHouse$Lexer" "size" "I") (List.mem_cons_of_mem _ (List.mem_append_left _ (List.mem_of_getElem? (i := 0) rfl)))) (fun _ h9 => h9) e0 dX3_kindAt_6 ?_
  refine lv_icmp_ge (tgt := 21) hx hb dX3_kindAt_9 (by decide) (fun _ => ?_) (fun c9 => absurd (by decide) c9)
  refine lv_iconst (v := 0) hx hb dX3_kindAt_21 (by decide) ?_
  exact W.iret (v := 0) hx hb hr (fun t ht hW => ⟨⟨0, (), rfl, rfl, kB_mk ht hW hP hK hD⟩, hS.F ht⟩) hS.2.2 dX3_kindAt_22
set_option maxHeartbeats 400000000 in
set_option maxRecDepth 100000 in
theorem c_X7_lineNumber_0 (l : Launch) (E : kE) (D : va_G) (cI cJ cB cZ : ClassId) (h0 : Nat)  : kJ l E D (kT cI cJ cB cZ) yX7_lineNumber wsX7_lineNumber ({ frames := 0, cells := 0, slots := 0, locals := 0 }) [.ref h0, .int 0, .int 0] [] (0) [] 0 0 := by
  intro sz
  refine Met.ofW (cc := cX7_lineNumber) (maxL := 3) (ret := (some .long)) (by decide) rfl ?_
  intro p e s m args below meth c s₁ B hml hv
  obtain ⟨rfl, hsz, hP, hK, hD0, hN, hX⟩ := hv
  have hx := B.exec
  have hb := B.bytes
  have hr := B.returns
  have hts := atoms_spec (ws := wsX7_lineNumber) B.pre
  have hown : s.vm.findClass RX7 = some m.cls := findClass_of_methodNamed B.named
  have hlocks := B.notSynchronized
  subst hsz
  have hD := hD0.self (sz := s.heap.size)
  have hAE := k_AE hD0 hX
  generalize hAe : va_A [] s.heap.size = A at hD hAE ⊢
  have hA : ∀ q : Nat, s.heap.size ≤ q → A q := fun q h => by rw [← hAe]; exact Or.inr h
  have hS : va_S A s.heap s.heap [] := va_S.rf
  have hP : va_P D vwCl [] s.heap := hP
  have hl := lv_entry ([.ref h0, .int 0, .int 0] : List Value) (n := 3) (Nat.le_of_ble_eq_true rfl)
  rw [lg_entry_eq]
  generalize (lg_sl ([.ref h0, .int 0, .int 0]) ++ List.replicate (3 - (lg_sl ([.ref h0, .int 0, .int 0])).length) Slot.unset).toArray = ls at hl ⊢
  have hl : lv_has ls 3 [(0, .ref h0), (1, .int 0), (2, .int 0)] := hl
  refine lv_iload_n hx hb dX7_lineNumber_0 rfl (lv_at hl 1 rfl) ?_
  refine lv_iconst (v := 1) hx hb dX7_lineNumber_1 (by decide) ?_
  refine lv_icmp_lt (tgt := 36) hx hb dX7_lineNumber_2 (by decide) (fun _ => ?_) (fun c9 => absurd (by decide) c9)
  refine lv_lconst (v := 0) hx hb dX7_lineNumber_36 (by decide) ?_
  exact W.lret (v := 0) hx hb hr (fun t ht hW => ⟨⟨0, (), rfl, rfl, kB_mk ht hW hP hK hD⟩, hS.F ht⟩) hS.2.2 dX7_lineNumber_37
set_option maxHeartbeats 400000000 in
set_option maxRecDepth 100000 in
theorem c_X7_lineNumber_1 (l : Launch) (E : kE) (D : va_G) (cI cJ cB cZ : ClassId) (h0 : Nat)  : kJ l E D (kT cI cJ cB cZ) yX7_lineNumber wsX7_lineNumber ({ frames := 0, cells := 0, slots := 0, locals := 0 }) [.ref h0, .int 0, .int 1] [] (0) [] 0 0 := by
  intro sz
  refine Met.ofW (cc := cX7_lineNumber) (maxL := 3) (ret := (some .long)) (by decide) rfl ?_
  intro p e s m args below meth c s₁ B hml hv
  obtain ⟨rfl, hsz, hP, hK, hD0, hN, hX⟩ := hv
  have hx := B.exec
  have hb := B.bytes
  have hr := B.returns
  have hts := atoms_spec (ws := wsX7_lineNumber) B.pre
  have hown : s.vm.findClass RX7 = some m.cls := findClass_of_methodNamed B.named
  have hlocks := B.notSynchronized
  subst hsz
  have hD := hD0.self (sz := s.heap.size)
  have hAE := k_AE hD0 hX
  generalize hAe : va_A [] s.heap.size = A at hD hAE ⊢
  have hA : ∀ q : Nat, s.heap.size ≤ q → A q := fun q h => by rw [← hAe]; exact Or.inr h
  have hS : va_S A s.heap s.heap [] := va_S.rf
  have hP : va_P D vwCl [] s.heap := hP
  have hl := lv_entry ([.ref h0, .int 0, .int 1] : List Value) (n := 3) (Nat.le_of_ble_eq_true rfl)
  rw [lg_entry_eq]
  generalize (lg_sl ([.ref h0, .int 0, .int 1]) ++ List.replicate (3 - (lg_sl ([.ref h0, .int 0, .int 1])).length) Slot.unset).toArray = ls at hl ⊢
  have hl : lv_has ls 3 [(0, .ref h0), (1, .int 0), (2, .int 1)] := hl
  refine lv_iload_n hx hb dX7_lineNumber_0 rfl (lv_at hl 1 rfl) ?_
  refine lv_iconst (v := 1) hx hb dX7_lineNumber_1 (by decide) ?_
  refine lv_icmp_lt (tgt := 36) hx hb dX7_lineNumber_2 (by decide) (fun _ => ?_) (fun c9 => absurd (by decide) c9)
  refine lv_lconst (v := 0) hx hb dX7_lineNumber_36 (by decide) ?_
  exact W.lret (v := 0) hx hb hr (fun t ht hW => ⟨⟨0, (), rfl, rfl, kB_mk ht hW hP hK hD⟩, hS.F ht⟩) hS.2.2 dX7_lineNumber_37
set_option maxHeartbeats 400000000 in
set_option maxRecDepth 100000 in
theorem c_X7_lineNumber_2 (l : Launch) (E : kE) (D : va_G) (cI cJ cB cZ : ClassId) (h0 : Nat)  : kJ l E D (kT cI cJ cB cZ) yX7_lineNumber wsX7_lineNumber ({ frames := 0, cells := 0, slots := 0, locals := 0 }) [.ref h0, .int 0, .int 2] [] (0) [] 0 0 := by
  intro sz
  refine Met.ofW (cc := cX7_lineNumber) (maxL := 3) (ret := (some .long)) (by decide) rfl ?_
  intro p e s m args below meth c s₁ B hml hv
  obtain ⟨rfl, hsz, hP, hK, hD0, hN, hX⟩ := hv
  have hx := B.exec
  have hb := B.bytes
  have hr := B.returns
  have hts := atoms_spec (ws := wsX7_lineNumber) B.pre
  have hown : s.vm.findClass RX7 = some m.cls := findClass_of_methodNamed B.named
  have hlocks := B.notSynchronized
  subst hsz
  have hD := hD0.self (sz := s.heap.size)
  have hAE := k_AE hD0 hX
  generalize hAe : va_A [] s.heap.size = A at hD hAE ⊢
  have hA : ∀ q : Nat, s.heap.size ≤ q → A q := fun q h => by rw [← hAe]; exact Or.inr h
  have hS : va_S A s.heap s.heap [] := va_S.rf
  have hP : va_P D vwCl [] s.heap := hP
  have hl := lv_entry ([.ref h0, .int 0, .int 2] : List Value) (n := 3) (Nat.le_of_ble_eq_true rfl)
  rw [lg_entry_eq]
  generalize (lg_sl ([.ref h0, .int 0, .int 2]) ++ List.replicate (3 - (lg_sl ([.ref h0, .int 0, .int 2])).length) Slot.unset).toArray = ls at hl ⊢
  have hl : lv_has ls 3 [(0, .ref h0), (1, .int 0), (2, .int 2)] := hl
  refine lv_iload_n hx hb dX7_lineNumber_0 rfl (lv_at hl 1 rfl) ?_
  refine lv_iconst (v := 1) hx hb dX7_lineNumber_1 (by decide) ?_
  refine lv_icmp_lt (tgt := 36) hx hb dX7_lineNumber_2 (by decide) (fun _ => ?_) (fun c9 => absurd (by decide) c9)
  refine lv_lconst (v := 0) hx hb dX7_lineNumber_36 (by decide) ?_
  exact W.lret (v := 0) hx hb hr (fun t ht hW => ⟨⟨0, (), rfl, rfl, kB_mk ht hW hP hK hD⟩, hS.F ht⟩) hS.2.2 dX7_lineNumber_37
set_option maxHeartbeats 400000000 in
set_option maxRecDepth 100000 in
theorem c_X7_lineNumber_3 (l : Launch) (E : kE) (D : va_G) (cI cJ cB cZ : ClassId) (h0 : Nat)  : kJ l E D (kT cI cJ cB cZ) yX7_lineNumber wsX7_lineNumber ({ frames := 0, cells := 0, slots := 0, locals := 0 }) [.ref h0, .int 0, .int 3] [] (0) [] 0 0 := by
  intro sz
  refine Met.ofW (cc := cX7_lineNumber) (maxL := 3) (ret := (some .long)) (by decide) rfl ?_
  intro p e s m args below meth c s₁ B hml hv
  obtain ⟨rfl, hsz, hP, hK, hD0, hN, hX⟩ := hv
  have hx := B.exec
  have hb := B.bytes
  have hr := B.returns
  have hts := atoms_spec (ws := wsX7_lineNumber) B.pre
  have hown : s.vm.findClass RX7 = some m.cls := findClass_of_methodNamed B.named
  have hlocks := B.notSynchronized
  subst hsz
  have hD := hD0.self (sz := s.heap.size)
  have hAE := k_AE hD0 hX
  generalize hAe : va_A [] s.heap.size = A at hD hAE ⊢
  have hA : ∀ q : Nat, s.heap.size ≤ q → A q := fun q h => by rw [← hAe]; exact Or.inr h
  have hS : va_S A s.heap s.heap [] := va_S.rf
  have hP : va_P D vwCl [] s.heap := hP
  have hl := lv_entry ([.ref h0, .int 0, .int 3] : List Value) (n := 3) (Nat.le_of_ble_eq_true rfl)
  rw [lg_entry_eq]
  generalize (lg_sl ([.ref h0, .int 0, .int 3]) ++ List.replicate (3 - (lg_sl ([.ref h0, .int 0, .int 3])).length) Slot.unset).toArray = ls at hl ⊢
  have hl : lv_has ls 3 [(0, .ref h0), (1, .int 0), (2, .int 3)] := hl
  refine lv_iload_n hx hb dX7_lineNumber_0 rfl (lv_at hl 1 rfl) ?_
  refine lv_iconst (v := 1) hx hb dX7_lineNumber_1 (by decide) ?_
  refine lv_icmp_lt (tgt := 36) hx hb dX7_lineNumber_2 (by decide) (fun _ => ?_) (fun c9 => absurd (by decide) c9)
  refine lv_lconst (v := 0) hx hb dX7_lineNumber_36 (by decide) ?_
  exact W.lret (v := 0) hx hb hr (fun t ht hW => ⟨⟨0, (), rfl, rfl, kB_mk ht hW hP hK hD⟩, hS.F ht⟩) hS.2.2 dX7_lineNumber_37
set_option maxHeartbeats 400000000 in
set_option maxRecDepth 100000 in
theorem c_X7_isLatestFalse_0 (l : Launch) (E : kE) (D : va_G) (cI cJ cB cZ : ClassId) (h0 : Nat) (f0 : List Value) (e0 : f0[10]? = some (.int 0)) : kI l E D (kT cI cJ cB cZ) yX7_isLatestFalse wsX7_isLatestFalse ({ frames := 1, cells := 0, slots := 0, locals := 22 }) [.ref h0] [(h0, .inr (7, f0))] (0) [(h0, .inr (7, f0))] 0 0 := by
  intro sz
  refine Met.ofW (cc := cX7_isLatestFalse) (maxL := 3) (ret := (some .boolean)) (by decide) rfl ?_
  intro p e s m args below meth c s₁ B hml hv
  obtain ⟨rfl, hsz, hP, hK, hD0, hN, hX⟩ := hv
  have hx := B.exec
  have hb := B.bytes
  have hr := B.returns
  have hts := atoms_spec (ws := wsX7_isLatestFalse) B.pre
  have hown : s.vm.findClass RX7 = some m.cls := findClass_of_methodNamed B.named
  have hlocks := B.notSynchronized
  have hin7 : ∀ w ∈ wsX70, w ∈ wsX7_isLatestFalse := (fun w h => (List.mem_cons_of_mem _ (List.mem_append_right _ h)))
  subst hsz
  have hD := hD0.self (sz := s.heap.size)
  have hAE := k_AE hD0 hX
  generalize hAe : va_A [(h0, .inr (7, f0))] s.heap.size = A at hD hAE ⊢
  have hA : ∀ q : Nat, s.heap.size ≤ q → A q := fun q h => by rw [← hAe]; exact Or.inr h
  have hS : va_S A s.heap s.heap [] := va_S.rf
  have hP : va_P D vwCl [(h0, .inr (7, f0))] s.heap := hP
  have hl := lv_entry ([.ref h0] : List Value) (n := 3) (Nat.le_of_ble_eq_true rfl)
  rw [lg_entry_eq]
  generalize (lg_sl ([.ref h0]) ++ List.replicate (3 - (lg_sl ([.ref h0])).length) Slot.unset).toArray = ls at hl ⊢
  have hl : lv_has ls 3 [(0, .ref h0)] := hl
  refine lv_aload_n hx hb dX7_isLatestFalse_0 rfl (lv_at hl 0 rfl) ?_
  refine va_get (D := D) (ref := "IntegerHouse$Prover") (ci := 7) (v := .int 0) (C := RX7) (T := TX7) (N := 17) hx hb hts hin7 hown hK hP 0 rfl rfl 10 (by decide) (hts (.fieldLink RX7 46 "IntegerHouse$Prover" "size" "I") (List.mem_cons_of_mem _ (List.mem_append_left _ (List.mem_of_getElem? (i := 0) rfl)))) (fun _ h9 => h9) e0 dX7_isLatestFalse_1 ?_
  refine lv_if_le (tgt := 25) hx hb dX7_isLatestFalse_4 (by decide) (fun _ => ?_) (fun c9 => absurd (by decide) c9)
  refine lv_iconst (v := 0) hx hb dX7_isLatestFalse_25 (by decide) ?_
  refine lv_istore_n (lv' := [(1, .int 0), (0, .ref h0)]) hx hb dX7_isLatestFalse_26 rfl hl (by decide) rfl (fun ls hl => ?_)
  refine lv_iconst (v := 0) hx hb dX7_isLatestFalse_27 (by decide) ?_
  refine lv_istore_n (lv' := [(2, .int 0), (1, .int 0), (0, .ref h0)]) hx hb dX7_isLatestFalse_28 rfl hl (by decide) rfl (fun ls hl => ?_)
  refine lv_iload_n hx hb dX7_isLatestFalse_29 rfl (lv_at hl 0 rfl) ?_
  refine lv_iconst (v := 4) hx hb dX7_isLatestFalse_30 (by decide) ?_
  refine lv_icmp_ge (tgt := 62) hx hb dX7_isLatestFalse_31 (by decide) (fun c9 => absurd c9 (by decide)) (fun _ => ?_)
  refine lv_iload_n hx hb dX7_isLatestFalse_34 rfl (lv_at hl 1 rfl) ?_
  refine lv_aload_n hx hb dX7_isLatestFalse_35 rfl (lv_at hl 2 rfl) ?_
  refine lv_aload_n hx hb dX7_isLatestFalse_36 rfl (lv_at hl 2 rfl) ?_
  refine va_get (D := D) (ref := "IntegerHouse$Prover") (ci := 7) (v := .int 0) (C := RX7) (T := TX7) (N := 17) hx hb hts hin7 hown hK hP 0 rfl rfl 10 (by decide) (hts (.fieldLink RX7 46 "IntegerHouse$Prover" "size" "I") (List.mem_cons_of_mem _ (List.mem_append_left _ (List.mem_of_getElem? (i := 0) rfl)))) (fun _ h9 => h9) e0 dX7_isLatestFalse_37 ?_
  refine lv_iload_n hx hb dX7_isLatestFalse_40 rfl (lv_at hl 0 rfl) ?_
  refine k_cVl (As := [.int 0, .int 0]) (rest := [.int 0]) (wc := []) (wr := [(h0, .inr (7, f0))]) (w1 := []) ⟨hx, hb, hml, hown, hts⟩ hN hX hAE hK hP hD hS hA [] [0] (ci := 7) rfl rfl rfl rfl (by decide +kernel) (by decide +kernel) (by decide +kernel) (c_X7_lineNumber_0 l E D cI cJ cB cZ h0 ) (cwV 2 hts gX7_isLatestFalse_X7_lineNumber rfl rfl rfl (by decide +kernel) ⟨Nat.le_of_ble_eq_true rfl, Nat.le_of_ble_eq_true rfl⟩) rfl hl.1 (Nat.le_of_ble_eq_true rfl) dX7_isLatestFalse_41 ⟨Nat.le_of_ble_eq_true rfl, Nat.le_of_ble_eq_true rfl⟩ (fun H locs hP hD hS => ?_)
  have hP : va_P D vwCl [(h0, .inr (7, f0))] H := hP
  have hD : va_D A [(h0, .inr (7, f0))] := hD
  refine lv_lconst (v := 0) hx hb dX7_isLatestFalse_44 (by decide) ?_
  refine W.lcmp hx hb dX7_isLatestFalse_45 ?_
  refine k_topi (y := 0) (by decide) ?_
  refine lv_if_ne (tgt := 53) hx hb dX7_isLatestFalse_46 (by decide) (fun c9 => absurd (by decide) c9) (fun _ => ?_)
  refine lv_iconst (v := 1) hx hb dX7_isLatestFalse_49 (by decide) ?_
  refine lv_goto (tgt := 54) hx hb dX7_isLatestFalse_50 (by decide) ?_
  refine lv_iand hx hb dX7_isLatestFalse_54 ?_
  refine k_topi (y := 0) (by decide) ?_
  refine lv_istore_n (lv' := [(1, .int 0), (2, .int 0), (0, .ref h0)]) hx hb dX7_isLatestFalse_55 rfl hl (by decide) rfl (fun ls hl => ?_)
  refine lv_iinc (v := 1) (lv' := [(2, .int 1), (1, .int 0), (0, .ref h0)]) hx hb dX7_isLatestFalse_56 hl (k := 1) rfl (by decide) (by decide) rfl (fun ls hl => ?_)
  refine lv_goto (tgt := 29) hx hb dX7_isLatestFalse_59 (by decide) ?_
  refine lv_iload_n hx hb dX7_isLatestFalse_29 rfl (lv_at hl 0 rfl) ?_
  refine lv_iconst (v := 4) hx hb dX7_isLatestFalse_30 (by decide) ?_
  refine lv_icmp_ge (tgt := 62) hx hb dX7_isLatestFalse_31 (by decide) (fun c9 => absurd c9 (by decide)) (fun _ => ?_)
  refine lv_iload_n hx hb dX7_isLatestFalse_34 rfl (lv_at hl 1 rfl) ?_
  refine lv_aload_n hx hb dX7_isLatestFalse_35 rfl (lv_at hl 2 rfl) ?_
  refine lv_aload_n hx hb dX7_isLatestFalse_36 rfl (lv_at hl 2 rfl) ?_
  refine va_get (D := D) (ref := "IntegerHouse$Prover") (ci := 7) (v := .int 0) (C := RX7) (T := TX7) (N := 17) hx hb hts hin7 hown hK hP 0 rfl rfl 10 (by decide) (hts (.fieldLink RX7 46 "IntegerHouse$Prover" "size" "I") (List.mem_cons_of_mem _ (List.mem_append_left _ (List.mem_of_getElem? (i := 0) rfl)))) (fun _ h9 => h9) e0 dX7_isLatestFalse_37 ?_
  refine lv_iload_n hx hb dX7_isLatestFalse_40 rfl (lv_at hl 0 rfl) ?_
  refine k_cVl (As := [.int 0, .int 1]) (rest := [.int 0]) (wc := []) (wr := [(h0, .inr (7, f0))]) (w1 := []) ⟨hx, hb, hml, hown, hts⟩ hN hX hAE hK hP hD hS hA [] [0] (ci := 7) rfl rfl rfl rfl (by decide +kernel) (by decide +kernel) (by decide +kernel) (c_X7_lineNumber_1 l E D cI cJ cB cZ h0 ) (cwV 2 hts gX7_isLatestFalse_X7_lineNumber rfl rfl rfl (by decide +kernel) ⟨Nat.le_of_ble_eq_true rfl, Nat.le_of_ble_eq_true rfl⟩) rfl hl.1 (Nat.le_of_ble_eq_true rfl) dX7_isLatestFalse_41 ⟨Nat.le_of_ble_eq_true rfl, Nat.le_of_ble_eq_true rfl⟩ (fun H locs hP hD hS => ?_)
  have hP : va_P D vwCl [(h0, .inr (7, f0))] H := hP
  have hD : va_D A [(h0, .inr (7, f0))] := hD
  refine lv_lconst (v := 0) hx hb dX7_isLatestFalse_44 (by decide) ?_
  refine W.lcmp hx hb dX7_isLatestFalse_45 ?_
  refine k_topi (y := 0) (by decide) ?_
  refine lv_if_ne (tgt := 53) hx hb dX7_isLatestFalse_46 (by decide) (fun c9 => absurd (by decide) c9) (fun _ => ?_)
  refine lv_iconst (v := 1) hx hb dX7_isLatestFalse_49 (by decide) ?_
  refine lv_goto (tgt := 54) hx hb dX7_isLatestFalse_50 (by decide) ?_
  refine lv_iand hx hb dX7_isLatestFalse_54 ?_
  refine k_topi (y := 0) (by decide) ?_
  refine lv_istore_n (lv' := [(1, .int 0), (2, .int 1), (0, .ref h0)]) hx hb dX7_isLatestFalse_55 rfl hl (by decide) rfl (fun ls hl => ?_)
  refine lv_iinc (v := 2) (lv' := [(2, .int 2), (1, .int 0), (0, .ref h0)]) hx hb dX7_isLatestFalse_56 hl (k := 1) rfl (by decide) (by decide) rfl (fun ls hl => ?_)
  refine lv_goto (tgt := 29) hx hb dX7_isLatestFalse_59 (by decide) ?_
  refine lv_iload_n hx hb dX7_isLatestFalse_29 rfl (lv_at hl 0 rfl) ?_
  refine lv_iconst (v := 4) hx hb dX7_isLatestFalse_30 (by decide) ?_
  refine lv_icmp_ge (tgt := 62) hx hb dX7_isLatestFalse_31 (by decide) (fun c9 => absurd c9 (by decide)) (fun _ => ?_)
  refine lv_iload_n hx hb dX7_isLatestFalse_34 rfl (lv_at hl 1 rfl) ?_
  refine lv_aload_n hx hb dX7_isLatestFalse_35 rfl (lv_at hl 2 rfl) ?_
  refine lv_aload_n hx hb dX7_isLatestFalse_36 rfl (lv_at hl 2 rfl) ?_
  refine va_get (D := D) (ref := "IntegerHouse$Prover") (ci := 7) (v := .int 0) (C := RX7) (T := TX7) (N := 17) hx hb hts hin7 hown hK hP 0 rfl rfl 10 (by decide) (hts (.fieldLink RX7 46 "IntegerHouse$Prover" "size" "I") (List.mem_cons_of_mem _ (List.mem_append_left _ (List.mem_of_getElem? (i := 0) rfl)))) (fun _ h9 => h9) e0 dX7_isLatestFalse_37 ?_
  refine lv_iload_n hx hb dX7_isLatestFalse_40 rfl (lv_at hl 0 rfl) ?_
  refine k_cVl (As := [.int 0, .int 2]) (rest := [.int 0]) (wc := []) (wr := [(h0, .inr (7, f0))]) (w1 := []) ⟨hx, hb, hml, hown, hts⟩ hN hX hAE hK hP hD hS hA [] [0] (ci := 7) rfl rfl rfl rfl (by decide +kernel) (by decide +kernel) (by decide +kernel) (c_X7_lineNumber_2 l E D cI cJ cB cZ h0 ) (cwV 2 hts gX7_isLatestFalse_X7_lineNumber rfl rfl rfl (by decide +kernel) ⟨Nat.le_of_ble_eq_true rfl, Nat.le_of_ble_eq_true rfl⟩) rfl hl.1 (Nat.le_of_ble_eq_true rfl) dX7_isLatestFalse_41 ⟨Nat.le_of_ble_eq_true rfl, Nat.le_of_ble_eq_true rfl⟩ (fun H locs hP hD hS => ?_)
  have hP : va_P D vwCl [(h0, .inr (7, f0))] H := hP
  have hD : va_D A [(h0, .inr (7, f0))] := hD
  refine lv_lconst (v := 0) hx hb dX7_isLatestFalse_44 (by decide) ?_
  refine W.lcmp hx hb dX7_isLatestFalse_45 ?_
  refine k_topi (y := 0) (by decide) ?_
  refine lv_if_ne (tgt := 53) hx hb dX7_isLatestFalse_46 (by decide) (fun c9 => absurd (by decide) c9) (fun _ => ?_)
  refine lv_iconst (v := 1) hx hb dX7_isLatestFalse_49 (by decide) ?_
  refine lv_goto (tgt := 54) hx hb dX7_isLatestFalse_50 (by decide) ?_
  refine lv_iand hx hb dX7_isLatestFalse_54 ?_
  refine k_topi (y := 0) (by decide) ?_
  refine lv_istore_n (lv' := [(1, .int 0), (2, .int 2), (0, .ref h0)]) hx hb dX7_isLatestFalse_55 rfl hl (by decide) rfl (fun ls hl => ?_)
  refine lv_iinc (v := 3) (lv' := [(2, .int 3), (1, .int 0), (0, .ref h0)]) hx hb dX7_isLatestFalse_56 hl (k := 1) rfl (by decide) (by decide) rfl (fun ls hl => ?_)
  refine lv_goto (tgt := 29) hx hb dX7_isLatestFalse_59 (by decide) ?_
  refine lv_iload_n hx hb dX7_isLatestFalse_29 rfl (lv_at hl 0 rfl) ?_
  refine lv_iconst (v := 4) hx hb dX7_isLatestFalse_30 (by decide) ?_
  refine lv_icmp_ge (tgt := 62) hx hb dX7_isLatestFalse_31 (by decide) (fun c9 => absurd c9 (by decide)) (fun _ => ?_)
  refine lv_iload_n hx hb dX7_isLatestFalse_34 rfl (lv_at hl 1 rfl) ?_
  refine lv_aload_n hx hb dX7_isLatestFalse_35 rfl (lv_at hl 2 rfl) ?_
  refine lv_aload_n hx hb dX7_isLatestFalse_36 rfl (lv_at hl 2 rfl) ?_
  refine va_get (D := D) (ref := "IntegerHouse$Prover") (ci := 7) (v := .int 0) (C := RX7) (T := TX7) (N := 17) hx hb hts hin7 hown hK hP 0 rfl rfl 10 (by decide) (hts (.fieldLink RX7 46 "IntegerHouse$Prover" "size" "I") (List.mem_cons_of_mem _ (List.mem_append_left _ (List.mem_of_getElem? (i := 0) rfl)))) (fun _ h9 => h9) e0 dX7_isLatestFalse_37 ?_
  refine lv_iload_n hx hb dX7_isLatestFalse_40 rfl (lv_at hl 0 rfl) ?_
  refine k_cVl (As := [.int 0, .int 3]) (rest := [.int 0]) (wc := []) (wr := [(h0, .inr (7, f0))]) (w1 := []) ⟨hx, hb, hml, hown, hts⟩ hN hX hAE hK hP hD hS hA [] [0] (ci := 7) rfl rfl rfl rfl (by decide +kernel) (by decide +kernel) (by decide +kernel) (c_X7_lineNumber_3 l E D cI cJ cB cZ h0 ) (cwV 2 hts gX7_isLatestFalse_X7_lineNumber rfl rfl rfl (by decide +kernel) ⟨Nat.le_of_ble_eq_true rfl, Nat.le_of_ble_eq_true rfl⟩) rfl hl.1 (Nat.le_of_ble_eq_true rfl) dX7_isLatestFalse_41 ⟨Nat.le_of_ble_eq_true rfl, Nat.le_of_ble_eq_true rfl⟩ (fun H locs hP hD hS => ?_)
  have hP : va_P D vwCl [(h0, .inr (7, f0))] H := hP
  have hD : va_D A [(h0, .inr (7, f0))] := hD
  refine lv_lconst (v := 0) hx hb dX7_isLatestFalse_44 (by decide) ?_
  refine W.lcmp hx hb dX7_isLatestFalse_45 ?_
  refine k_topi (y := 0) (by decide) ?_
  refine lv_if_ne (tgt := 53) hx hb dX7_isLatestFalse_46 (by decide) (fun c9 => absurd (by decide) c9) (fun _ => ?_)
  refine lv_iconst (v := 1) hx hb dX7_isLatestFalse_49 (by decide) ?_
  refine lv_goto (tgt := 54) hx hb dX7_isLatestFalse_50 (by decide) ?_
  refine lv_iand hx hb dX7_isLatestFalse_54 ?_
  refine k_topi (y := 0) (by decide) ?_
  refine lv_istore_n (lv' := [(1, .int 0), (2, .int 3), (0, .ref h0)]) hx hb dX7_isLatestFalse_55 rfl hl (by decide) rfl (fun ls hl => ?_)
  refine lv_iinc (v := 4) (lv' := [(2, .int 4), (1, .int 0), (0, .ref h0)]) hx hb dX7_isLatestFalse_56 hl (k := 1) rfl (by decide) (by decide) rfl (fun ls hl => ?_)
  refine lv_goto (tgt := 29) hx hb dX7_isLatestFalse_59 (by decide) ?_
  refine lv_iload_n hx hb dX7_isLatestFalse_29 rfl (lv_at hl 0 rfl) ?_
  refine lv_iconst (v := 4) hx hb dX7_isLatestFalse_30 (by decide) ?_
  refine lv_icmp_ge (tgt := 62) hx hb dX7_isLatestFalse_31 (by decide) (fun _ => ?_) (fun c9 => absurd (by decide) c9)
  refine lv_iload_n hx hb dX7_isLatestFalse_62 rfl (lv_at hl 1 rfl) ?_
  exact W.zret (v := 0) hx hb hr rfl (fun t ht hW => ⟨⟨0, (), rfl, rfl, kB_mk ht hW hP hK hD⟩, hS.F ht⟩) hS.2.2 dX7_isLatestFalse_63
set_option maxHeartbeats 400000000 in
set_option maxRecDepth 100000 in
theorem c_X7_check_0 (l : Launch) (E : kE) (D : va_G) (cI cJ cB cZ : ClassId) (h0 : Nat) (h1 : Nat) (f0 : List Value) (h2 : Nat) (f1 : List Value) (h3 : Nat) (h4 : Nat) (h5 : Nat) (g0 : Nat → Int32) (g1 : Nat → Int32) (e0 : f0[0]? = some (.ref h2)) (e1 : f1[6]? = some (.ref h3)) (e2 : f1[7]? = some (.int 0)) (e3 : f1[8]? = some (.int 0)) (e4 : f1[5]? = some (.int 0)) (e5 : f1[1]? = some (.ref h4)) (e6 : f1[2]? = some (.ref h5)) (e7 : f0[10]? = some (.int 0)) (e8 : f0[11]? = some (.int 0)) (e9 : f0[14]? = some (.int 0)) (e10 : f0[12]? = some (.int 0)) (e11 : f0[13]? = some (.int 0)) : kI l E D (kT cI cJ cB cZ) yX7_check wsX7_check ({ frames := 2, cells := 0, slots := 0, locals := 50 }) [.ref h0, .ref h1, .int 0] [(h0, .inr (7, f0)), (h2, .inr (3, f1)), (h4, .inl (cI, 2001, .inl g0)), (h5, .inl (cI, 2001, .inl g1))] (0) [(h0, .inr (7, (((((f0.set 10 (.int 0)).set 11 (.int 0)).set 14 (.int 0)).set 12 (.int 0)).set 13 (.int 0)))), (h2, .inr (3, ((((f1.set 6 (.ref h1)).set 7 (.int 0)).set 8 (.int 0)).set 5 (.int 0)))), (h4, .inl (cI, 2001, .inl (upd g0 0 0))), (h5, .inl (cI, 2001, .inl (upd g1 0 0)))] 0 0 := by
  intro sz
  refine Met.ofW (cc := cX7_check) (maxL := 4) (ret := (some .int)) (by decide) rfl ?_
  intro p e s m args below meth c s₁ B hml hv
  obtain ⟨rfl, hsz, hP, hK, hD0, hN, hX⟩ := hv
  have hx := B.exec
  have hb := B.bytes
  have hr := B.returns
  have hts := atoms_spec (ws := wsX7_check) B.pre
  have hown : s.vm.findClass RX7 = some m.cls := findClass_of_methodNamed B.named
  have hlocks := B.notSynchronized
  have hin7 : ∀ w ∈ wsX70, w ∈ wsX7_check := (fun w h => (List.mem_cons_of_mem _ (List.mem_append_left _ (List.mem_append_left _ (List.mem_append_right _ h)))))
  subst hsz
  have hD := hD0.self (sz := s.heap.size)
  have hAE := k_AE hD0 hX
  generalize hAe : va_A [(h0, .inr (7, f0)), (h2, .inr (3, f1)), (h4, .inl (cI, 2001, .inl g0)), (h5, .inl (cI, 2001, .inl g1))] s.heap.size = A at hD hAE ⊢
  have hA : ∀ q : Nat, s.heap.size ≤ q → A q := fun q h => by rw [← hAe]; exact Or.inr h
  have hS : va_S A s.heap s.heap [] := va_S.rf
  have hP : va_P D vwCl [(h0, .inr (7, f0)), (h2, .inr (3, f1)), (h4, .inl (cI, 2001, .inl g0)), (h5, .inl (cI, 2001, .inl g1))] s.heap := hP
  have hl := lv_entry ([.ref h0, .ref h1, .int 0] : List Value) (n := 4) (Nat.le_of_ble_eq_true rfl)
  rw [lg_entry_eq]
  generalize (lg_sl ([.ref h0, .ref h1, .int 0]) ++ List.replicate (4 - (lg_sl ([.ref h0, .ref h1, .int 0])).length) Slot.unset).toArray = ls at hl ⊢
  have hl : lv_has ls 4 [(0, .ref h0), (1, .ref h1), (2, .int 0)] := hl
  refine lv_aload_n hx hb dX7_check_0 rfl (lv_at hl 0 rfl) ?_
  refine va_get (D := D) (ref := "IntegerHouse$Prover") (ci := 7) (v := .ref h2) (C := RX7) (T := TX7) (N := 17) hx hb hts hin7 hown hK hP 0 rfl rfl 0 (by decide) (hts (.fieldLink RX7 38 "IntegerHouse$Prover" "lexer" "LIntegerHouse$Lexer;") (List.mem_cons_of_mem _ (List.mem_append_left _ (List.mem_append_left _ (List.mem_append_left _ (List.mem_append_left _ (List.mem_of_getElem? (i := 0) rfl))))))) (fun _ h9 => h9) e0 dX7_check_1 ?_
  refine lv_aload_n hx hb dX7_check_4 rfl (lv_at hl 1 rfl) ?_
  refine lv_iconst (v := 0) hx hb dX7_check_5 (by decide) ?_
  refine lv_iload_n hx hb dX7_check_6 rfl (lv_at hl 2 rfl) ?_
  refine lv_iconst (v := 1) hx hb dX7_check_7 (by decide) ?_
  refine k_cVv (As := [.ref h1, .int 0, .int 0, .int 1]) (rest := []) (wc := [(h2, .inr (3, f1)), (h4, .inl (cI, 2001, .inl g0)), (h5, .inl (cI, 2001, .inl g1))]) (wr := [(h0, .inr (7, f0))]) (w1 := (fun _ : Unit => [(h2, .inr (3, ((((f1.set 6 (.ref h1)).set 7 (.int 0)).set 8 (.int 0)).set 5 (.int 0)))), (h4, .inl (cI, 2001, .inl (upd g0 0 0))), (h5, .inl (cI, 2001, .inl (upd g1 0 0)))])) ⟨hx, hb, hml, hown, hts⟩ hN hX hAE hK hP hD hS hA [1, 2, 3] [0] (ci := 3) rfl rfl rfl rfl (by decide +kernel) (by decide +kernel) (by decide +kernel) (c_X3_scan_1 l E D cI cJ cB cZ h2 h1 f1 h3 h4 g0 h5 g1 e1 e2 e3 e4 e5 e6) (cwV 4 hts gX7_check_X3_scan rfl rfl rfl (by decide +kernel) ⟨Nat.le_of_ble_eq_true rfl, Nat.le_of_ble_eq_true rfl⟩) rfl hl.1 (Nat.le_of_ble_eq_true rfl) dX7_check_8 ⟨Nat.le_of_ble_eq_true rfl, Nat.le_of_ble_eq_true rfl⟩ (fun _ H locs hP hD hS => ?_)
  have hP : va_P D vwCl [(h0, .inr (7, f0)), (h2, .inr (3, ((((f1.set 6 (.ref h1)).set 7 (.int 0)).set 8 (.int 0)).set 5 (.int 0)))), (h4, .inl (cI, 2001, .inl (upd g0 0 0))), (h5, .inl (cI, 2001, .inl (upd g1 0 0)))] H := hP
  have hD : va_D A [(h0, .inr (7, f0)), (h2, .inr (3, ((((f1.set 6 (.ref h1)).set 7 (.int 0)).set 8 (.int 0)).set 5 (.int 0)))), (h4, .inl (cI, 2001, .inl (upd g0 0 0))), (h5, .inl (cI, 2001, .inl (upd g1 0 0)))] := hD
  refine lv_aload_n hx hb dX7_check_11 rfl (lv_at hl 0 rfl) ?_
  refine lv_iconst (v := 0) hx hb dX7_check_12 (by decide) ?_
  refine va_put (D := D) (ref := "IntegerHouse$Prover") (ci := 7) (v := .int 0) (ty := .int) (C := RX7) (T := TX7) (N := 17) hx hb hts hin7 tyX7 tyX7_ok nmX7 hown hK hP hD hS 0 rfl rfl 10 (by decide) (hts (.fieldLink RX7 46 "IntegerHouse$Prover" "size" "I") (List.mem_cons_of_mem _ (List.mem_append_left _ (List.mem_append_left _ (List.mem_append_left _ (List.mem_append_left _ (List.mem_of_getElem? (i := 1) rfl))))))) (fun _ h9 => h9) rfl (by decide +kernel) rfl rfl (k_len e7) dX7_check_13 (fun H locs hP hD hS => ?_)
  have hP : va_P D vwCl [(h0, .inr (7, (f0.set 10 (.int 0)))), (h2, .inr (3, ((((f1.set 6 (.ref h1)).set 7 (.int 0)).set 8 (.int 0)).set 5 (.int 0)))), (h4, .inl (cI, 2001, .inl (upd g0 0 0))), (h5, .inl (cI, 2001, .inl (upd g1 0 0)))] H := hP
  have hD : va_D A [(h0, .inr (7, (f0.set 10 (.int 0)))), (h2, .inr (3, ((((f1.set 6 (.ref h1)).set 7 (.int 0)).set 8 (.int 0)).set 5 (.int 0)))), (h4, .inl (cI, 2001, .inl (upd g0 0 0))), (h5, .inl (cI, 2001, .inl (upd g1 0 0)))] := hD
  refine lv_aload_n hx hb dX7_check_16 rfl (lv_at hl 0 rfl) ?_
  refine lv_iconst (v := 0) hx hb dX7_check_17 (by decide) ?_
  refine va_put (D := D) (ref := "IntegerHouse$Prover") (ci := 7) (v := .int 0) (ty := .int) (C := RX7) (T := TX7) (N := 17) hx hb hts hin7 tyX7 tyX7_ok nmX7 hown hK hP hD hS 0 rfl rfl 11 (by decide) (hts (.fieldLink RX7 56 "IntegerHouse$Prover" "open" "I") (List.mem_cons_of_mem _ (List.mem_append_left _ (List.mem_append_left _ (List.mem_append_left _ (List.mem_append_left _ (List.mem_of_getElem? (i := 2) rfl))))))) (fun _ h9 => h9) rfl (by decide +kernel) rfl rfl (k_len (k_ne (by decide) e8)) dX7_check_18 (fun H locs hP hD hS => ?_)
  have hP : va_P D vwCl [(h0, .inr (7, ((f0.set 10 (.int 0)).set 11 (.int 0)))), (h2, .inr (3, ((((f1.set 6 (.ref h1)).set 7 (.int 0)).set 8 (.int 0)).set 5 (.int 0)))), (h4, .inl (cI, 2001, .inl (upd g0 0 0))), (h5, .inl (cI, 2001, .inl (upd g1 0 0)))] H := hP
  have hD : va_D A [(h0, .inr (7, ((f0.set 10 (.int 0)).set 11 (.int 0)))), (h2, .inr (3, ((((f1.set 6 (.ref h1)).set 7 (.int 0)).set 8 (.int 0)).set 5 (.int 0)))), (h4, .inl (cI, 2001, .inl (upd g0 0 0))), (h5, .inl (cI, 2001, .inl (upd g1 0 0)))] := hD
  refine lv_aload_n hx hb dX7_check_21 rfl (lv_at hl 0 rfl) ?_
  refine lv_iconst (v := 0) hx hb dX7_check_22 (by decide) ?_
  refine va_put (D := D) (ref := "IntegerHouse$Prover") (ci := 7) (v := .int 0) (ty := .int) (C := RX7) (T := TX7) (N := 17) hx hb hts hin7 tyX7 tyX7_ok nmX7 hown hK hP hD hS 0 rfl rfl 14 (by decide) (hts (.fieldLink RX7 59 "IntegerHouse$Prover" "at" "I") (List.mem_cons_of_mem _ (List.mem_append_left _ (List.mem_append_left _ (List.mem_append_left _ (List.mem_append_left _ (List.mem_of_getElem? (i := 3) rfl))))))) (fun _ h9 => h9) rfl (by decide +kernel) rfl rfl (k_len (k_ne (by decide) (k_ne (by decide) e9))) dX7_check_23 (fun H locs hP hD hS => ?_)
  have hP : va_P D vwCl [(h0, .inr (7, (((f0.set 10 (.int 0)).set 11 (.int 0)).set 14 (.int 0)))), (h2, .inr (3, ((((f1.set 6 (.ref h1)).set 7 (.int 0)).set 8 (.int 0)).set 5 (.int 0)))), (h4, .inl (cI, 2001, .inl (upd g0 0 0))), (h5, .inl (cI, 2001, .inl (upd g1 0 0)))] H := hP
  have hD : va_D A [(h0, .inr (7, (((f0.set 10 (.int 0)).set 11 (.int 0)).set 14 (.int 0)))), (h2, .inr (3, ((((f1.set 6 (.ref h1)).set 7 (.int 0)).set 8 (.int 0)).set 5 (.int 0)))), (h4, .inl (cI, 2001, .inl (upd g0 0 0))), (h5, .inl (cI, 2001, .inl (upd g1 0 0)))] := hD
  refine lv_aload_n hx hb dX7_check_26 rfl (lv_at hl 0 rfl) ?_
  refine lv_iconst (v := 0) hx hb dX7_check_27 (by decide) ?_
  refine va_put (D := D) (ref := "IntegerHouse$Prover") (ci := 7) (v := .int 0) (ty := .int) (C := RX7) (T := TX7) (N := 17) hx hb hts hin7 tyX7 tyX7_ok nmX7 hown hK hP hD hS 0 rfl rfl 12 (by decide) (hts (.fieldLink RX7 62 "IntegerHouse$Prover" "faultKind" "I") (List.mem_cons_of_mem _ (List.mem_append_left _ (List.mem_append_left _ (List.mem_append_left _ (List.mem_append_left _ (List.mem_of_getElem? (i := 4) rfl))))))) (fun _ h9 => h9) rfl (by decide +kernel) rfl rfl (k_len (k_ne (by decide) (k_ne (by decide) (k_ne (by decide) e10)))) dX7_check_28 (fun H locs hP hD hS => ?_)
  have hP : va_P D vwCl [(h0, .inr (7, ((((f0.set 10 (.int 0)).set 11 (.int 0)).set 14 (.int 0)).set 12 (.int 0)))), (h2, .inr (3, ((((f1.set 6 (.ref h1)).set 7 (.int 0)).set 8 (.int 0)).set 5 (.int 0)))), (h4, .inl (cI, 2001, .inl (upd g0 0 0))), (h5, .inl (cI, 2001, .inl (upd g1 0 0)))] H := hP
  have hD : va_D A [(h0, .inr (7, ((((f0.set 10 (.int 0)).set 11 (.int 0)).set 14 (.int 0)).set 12 (.int 0)))), (h2, .inr (3, ((((f1.set 6 (.ref h1)).set 7 (.int 0)).set 8 (.int 0)).set 5 (.int 0)))), (h4, .inl (cI, 2001, .inl (upd g0 0 0))), (h5, .inl (cI, 2001, .inl (upd g1 0 0)))] := hD
  refine lv_aload_n hx hb dX7_check_31 rfl (lv_at hl 0 rfl) ?_
  refine lv_iconst (v := 0) hx hb dX7_check_32 (by decide) ?_
  refine va_put (D := D) (ref := "IntegerHouse$Prover") (ci := 7) (v := .int 0) (ty := .int) (C := RX7) (T := TX7) (N := 17) hx hb hts hin7 tyX7 tyX7_ok nmX7 hown hK hP hD hS 0 rfl rfl 13 (by decide) (hts (.fieldLink RX7 65 "IntegerHouse$Prover" "faultPlace" "I") (List.mem_cons_of_mem _ (List.mem_append_left _ (List.mem_append_left _ (List.mem_append_left _ (List.mem_append_left _ (List.mem_of_getElem? (i := 5) rfl))))))) (fun _ h9 => h9) rfl (by decide +kernel) rfl rfl (k_len (k_ne (by decide) (k_ne (by decide) (k_ne (by decide) (k_ne (by decide) e11))))) dX7_check_33 (fun H locs hP hD hS => ?_)
  have hP : va_P D vwCl [(h0, .inr (7, (((((f0.set 10 (.int 0)).set 11 (.int 0)).set 14 (.int 0)).set 12 (.int 0)).set 13 (.int 0)))), (h2, .inr (3, ((((f1.set 6 (.ref h1)).set 7 (.int 0)).set 8 (.int 0)).set 5 (.int 0)))), (h4, .inl (cI, 2001, .inl (upd g0 0 0))), (h5, .inl (cI, 2001, .inl (upd g1 0 0)))] H := hP
  have hD : va_D A [(h0, .inr (7, (((((f0.set 10 (.int 0)).set 11 (.int 0)).set 14 (.int 0)).set 12 (.int 0)).set 13 (.int 0)))), (h2, .inr (3, ((((f1.set 6 (.ref h1)).set 7 (.int 0)).set 8 (.int 0)).set 5 (.int 0)))), (h4, .inl (cI, 2001, .inl (upd g0 0 0))), (h5, .inl (cI, 2001, .inl (upd g1 0 0)))] := hD
  refine lv_iconst (v := 0) hx hb dX7_check_36 (by decide) ?_
  refine lv_istore_n (lv' := [(3, .int 0), (0, .ref h0), (1, .ref h1), (2, .int 0)]) hx hb dX7_check_37 rfl hl (by decide) rfl (fun ls hl => ?_)
  refine lv_iload_n hx hb dX7_check_38 rfl (lv_at hl 0 rfl) ?_
  refine lv_sipush (v := 2000) hx hb dX7_check_39 (by decide) ?_
  refine lv_icmp_ge (tgt := 76) hx hb dX7_check_42 (by decide) (fun c9 => absurd c9 (by decide)) (fun _ => ?_)
  refine lv_aload_n hx hb dX7_check_45 rfl (lv_at hl 1 rfl) ?_
  refine va_get (D := D) (ref := "IntegerHouse$Prover") (ci := 7) (v := .int 0) (C := RX7) (T := TX7) (N := 17) hx hb hts hin7 hown hK hP 0 rfl rfl 12 (by decide) (hts (.fieldLink RX7 62 "IntegerHouse$Prover" "faultKind" "I") (List.mem_cons_of_mem _ (List.mem_append_left _ (List.mem_append_left _ (List.mem_append_left _ (List.mem_append_left _ (List.mem_of_getElem? (i := 4) rfl))))))) (fun _ h9 => h9) (k_ne (by decide) (k_set (k_ne (by decide) (k_ne (by decide) (k_ne (by decide) e10))))) dX7_check_46 ?_
  refine lv_if_ne (tgt := 76) hx hb dX7_check_49 (by decide) (fun c9 => absurd (by decide) c9) (fun _ => ?_)
  refine lv_aload_n hx hb dX7_check_52 rfl (lv_at hl 1 rfl) ?_
  refine va_get (D := D) (ref := "IntegerHouse$Prover") (ci := 7) (v := .ref h2) (C := RX7) (T := TX7) (N := 17) hx hb hts hin7 hown hK hP 0 rfl rfl 0 (by decide) (hts (.fieldLink RX7 38 "IntegerHouse$Prover" "lexer" "LIntegerHouse$Lexer;") (List.mem_cons_of_mem _ (List.mem_append_left _ (List.mem_append_left _ (List.mem_append_left _ (List.mem_append_left _ (List.mem_of_getElem? (i := 0) rfl))))))) (fun _ h9 => h9) (k_ne (by decide) (k_ne (by decide) (k_ne (by decide) (k_ne (by decide) (k_ne (by decide) e0))))) dX7_check_53 ?_
  refine lv_aload_n hx hb dX7_check_56 rfl (lv_at hl 1 rfl) ?_
  refine va_get (D := D) (ref := "IntegerHouse$Prover") (ci := 7) (v := .int 0) (C := RX7) (T := TX7) (N := 17) hx hb hts hin7 hown hK hP 0 rfl rfl 14 (by decide) (hts (.fieldLink RX7 59 "IntegerHouse$Prover" "at" "I") (List.mem_cons_of_mem _ (List.mem_append_left _ (List.mem_append_left _ (List.mem_append_left _ (List.mem_append_left _ (List.mem_of_getElem? (i := 3) rfl))))))) (fun _ h9 => h9) (k_ne (by decide) (k_ne (by decide) (k_set (k_ne (by decide) (k_ne (by decide) e9))))) dX7_check_57 ?_
  refine k_cVi (As := [.int 0]) (rest := []) (wc := [(h2, .inr (3, ((((f1.set 6 (.ref h1)).set 7 (.int 0)).set 8 (.int 0)).set 5 (.int 0))))]) (wr := [(h0, .inr (7, (((((f0.set 10 (.int 0)).set 11 (.int 0)).set 14 (.int 0)).set 12 (.int 0)).set 13 (.int 0)))), (h4, .inl (cI, 2001, .inl (upd g0 0 0))), (h5, .inl (cI, 2001, .inl (upd g1 0 0)))]) (w1 := [(h2, .inr (3, ((((f1.set 6 (.ref h1)).set 7 (.int 0)).set 8 (.int 0)).set 5 (.int 0))))]) ⟨hx, hb, hml, hown, hts⟩ hN hX hAE hK hP hD hS hA [1] [0, 2, 3] (ci := 3) rfl rfl rfl rfl (by decide +kernel) (by decide +kernel) (by decide +kernel) (c_X3_kindAt_0 l E D cI cJ cB cZ h2 (((((f1.set 6 (.ref h1)).set 7 (.int 0)).set 8 (.int 0)).set 5 (.int 0))) (k_set (k_ne (by decide) (k_ne (by decide) (k_ne (by decide) e4))))) (cwV 1 hts gX7_check_X3_kindAt rfl rfl rfl (by decide +kernel) ⟨Nat.le_of_ble_eq_true rfl, Nat.le_of_ble_eq_true rfl⟩) rfl hl.1 (Nat.le_of_ble_eq_true rfl) dX7_check_60 ⟨Nat.le_of_ble_eq_true rfl, Nat.le_of_ble_eq_true rfl⟩ (fun H locs hP hD hS => ?_)
  have hP : va_P D vwCl [(h0, .inr (7, (((((f0.set 10 (.int 0)).set 11 (.int 0)).set 14 (.int 0)).set 12 (.int 0)).set 13 (.int 0)))), (h4, .inl (cI, 2001, .inl (upd g0 0 0))), (h5, .inl (cI, 2001, .inl (upd g1 0 0))), (h2, .inr (3, ((((f1.set 6 (.ref h1)).set 7 (.int 0)).set 8 (.int 0)).set 5 (.int 0))))] H := hP
  have hD : va_D A [(h0, .inr (7, (((((f0.set 10 (.int 0)).set 11 (.int 0)).set 14 (.int 0)).set 12 (.int 0)).set 13 (.int 0)))), (h4, .inl (cI, 2001, .inl (upd g0 0 0))), (h5, .inl (cI, 2001, .inl (upd g1 0 0))), (h2, .inr (3, ((((f1.set 6 (.ref h1)).set 7 (.int 0)).set 8 (.int 0)).set 5 (.int 0))))] := hD
  refine lv_if_eq (tgt := 76) hx hb dX7_check_63 (by decide) (fun _ => ?_) (fun c9 => absurd (by decide) c9)
  refine lv_aload_n hx hb dX7_check_76 rfl (lv_at hl 1 rfl) ?_
  refine va_get (D := D) (ref := "IntegerHouse$Prover") (ci := 7) (v := .int 0) (C := RX7) (T := TX7) (N := 17) hx hb hts hin7 hown hK hP 0 rfl rfl 12 (by decide) (hts (.fieldLink RX7 62 "IntegerHouse$Prover" "faultKind" "I") (List.mem_cons_of_mem _ (List.mem_append_left _ (List.mem_append_left _ (List.mem_append_left _ (List.mem_append_left _ (List.mem_of_getElem? (i := 4) rfl))))))) (fun _ h9 => h9) (k_ne (by decide) (k_set (k_ne (by decide) (k_ne (by decide) (k_ne (by decide) e10))))) dX7_check_77 ?_
  refine lv_if_eq (tgt := 85) hx hb dX7_check_80 (by decide) (fun _ => ?_) (fun c9 => absurd (by decide) c9)
  refine lv_aload_n hx hb dX7_check_85 rfl (lv_at hl 1 rfl) ?_
  refine va_get (D := D) (ref := "IntegerHouse$Prover") (ci := 7) (v := .int 0) (C := RX7) (T := TX7) (N := 17) hx hb hts hin7 hown hK hP 0 rfl rfl 11 (by decide) (hts (.fieldLink RX7 56 "IntegerHouse$Prover" "open" "I") (List.mem_cons_of_mem _ (List.mem_append_left _ (List.mem_append_left _ (List.mem_append_left _ (List.mem_append_left _ (List.mem_of_getElem? (i := 2) rfl))))))) (fun _ h9 => h9) (k_ne (by decide) (k_ne (by decide) (k_ne (by decide) (k_set (k_ne (by decide) e8))))) dX7_check_86 ?_
  refine lv_if_ne (tgt := 103) hx hb dX7_check_89 (by decide) (fun c9 => absurd (by decide) c9) (fun _ => ?_)
  refine lv_aload_n hx hb dX7_check_92 rfl (lv_at hl 1 rfl) ?_
  refine k_cVi (As := []) (rest := []) (wc := [(h0, .inr (7, (((((f0.set 10 (.int 0)).set 11 (.int 0)).set 14 (.int 0)).set 12 (.int 0)).set 13 (.int 0))))]) (wr := [(h4, .inl (cI, 2001, .inl (upd g0 0 0))), (h5, .inl (cI, 2001, .inl (upd g1 0 0))), (h2, .inr (3, ((((f1.set 6 (.ref h1)).set 7 (.int 0)).set 8 (.int 0)).set 5 (.int 0))))]) (w1 := [(h0, .inr (7, (((((f0.set 10 (.int 0)).set 11 (.int 0)).set 14 (.int 0)).set 12 (.int 0)).set 13 (.int 0))))]) ⟨hx, hb, hml, hown, hts⟩ hN hX hAE hK hP hD hS hA [0] [1, 2, 3] (ci := 7) rfl rfl rfl rfl (by decide +kernel) (by decide +kernel) (by decide +kernel) (c_X7_isLatestFalse_0 l E D cI cJ cB cZ h0 ((((((f0.set 10 (.int 0)).set 11 (.int 0)).set 14 (.int 0)).set 12 (.int 0)).set 13 (.int 0))) (k_ne (by decide) (k_ne (by decide) (k_ne (by decide) (k_ne (by decide) (k_set e7)))))) (cwV 0 hts gX7_check_X7_isLatestFalse rfl rfl rfl (by decide +kernel) ⟨Nat.le_of_ble_eq_true rfl, Nat.le_of_ble_eq_true rfl⟩) rfl hl.1 (Nat.le_of_ble_eq_true rfl) dX7_check_93 ⟨Nat.le_of_ble_eq_true rfl, Nat.le_of_ble_eq_true rfl⟩ (fun H locs hP hD hS => ?_)
  have hP : va_P D vwCl [(h4, .inl (cI, 2001, .inl (upd g0 0 0))), (h5, .inl (cI, 2001, .inl (upd g1 0 0))), (h2, .inr (3, ((((f1.set 6 (.ref h1)).set 7 (.int 0)).set 8 (.int 0)).set 5 (.int 0)))), (h0, .inr (7, (((((f0.set 10 (.int 0)).set 11 (.int 0)).set 14 (.int 0)).set 12 (.int 0)).set 13 (.int 0))))] H := hP
  have hD : va_D A [(h4, .inl (cI, 2001, .inl (upd g0 0 0))), (h5, .inl (cI, 2001, .inl (upd g1 0 0))), (h2, .inr (3, ((((f1.set 6 (.ref h1)).set 7 (.int 0)).set 8 (.int 0)).set 5 (.int 0)))), (h0, .inr (7, (((((f0.set 10 (.int 0)).set 11 (.int 0)).set 14 (.int 0)).set 12 (.int 0)).set 13 (.int 0))))] := hD
  refine lv_if_eq (tgt := 103) hx hb dX7_check_96 (by decide) (fun _ => ?_) (fun c9 => absurd (by decide) c9)
  refine lv_iconst (v := 0) hx hb dX7_check_103 (by decide) ?_
  have hP := hP.sub (ws' := [(h0, .inr (7, (((((f0.set 10 (.int 0)).set 11 (.int 0)).set 14 (.int 0)).set 12 (.int 0)).set 13 (.int 0)))), (h2, .inr (3, ((((f1.set 6 (.ref h1)).set 7 (.int 0)).set 8 (.int 0)).set 5 (.int 0)))), (h4, .inl (cI, 2001, .inl (upd g0 0 0))), (h5, .inl (cI, 2001, .inl (upd g1 0 0)))]) [3, 2, 0, 1] rfl
  have hD := hD.sub (ws' := [(h0, .inr (7, (((((f0.set 10 (.int 0)).set 11 (.int 0)).set 14 (.int 0)).set 12 (.int 0)).set 13 (.int 0)))), (h2, .inr (3, ((((f1.set 6 (.ref h1)).set 7 (.int 0)).set 8 (.int 0)).set 5 (.int 0)))), (h4, .inl (cI, 2001, .inl (upd g0 0 0))), (h5, .inl (cI, 2001, .inl (upd g1 0 0)))]) [3, 2, 0, 1] (by decide +kernel) rfl
  exact W.iret (v := 0) hx hb hr (fun t ht hW => ⟨⟨0, (), rfl, rfl, kB_mk ht hW hP hK hD⟩, hS.F ht⟩) hS.2.2 dX7_check_104
set_option maxHeartbeats 400000000 in
set_option maxRecDepth 100000 in
theorem c_X11_prove_0 (l : Launch) (E : kE) (D : va_G) (cI cJ cB cZ : ClassId) (h0 : Nat) (f0 : List Value) (h1 : Nat) (f1 : List Value) (h2 : Nat) (h3 : Nat) (f2 : List Value) (h4 : Nat) (f3 : List Value) (h5 : Nat) (h6 : Nat) (h7 : Nat) (g0 : Nat → Int32) (g1 : Nat → Int32) (e0 : f0[1]? = some (.ref h1)) (e1 : f1[8]? = some (.int 0)) (e2 : f0[11]? = some (.ref h2)) (e3 : f0[0]? = some (.ref h3)) (e4 : f0[12]? = some (.int 0)) (e5 : f2[0]? = some (.ref h4)) (e6 : f3[6]? = some (.ref h5)) (e7 : f3[7]? = some (.int 0)) (e8 : f3[8]? = some (.int 0)) (e9 : f3[5]? = some (.int 0)) (e10 : f3[1]? = some (.ref h6)) (e11 : f3[2]? = some (.ref h7)) (e12 : f2[10]? = some (.int 0)) (e13 : f2[11]? = some (.int 0)) (e14 : f2[14]? = some (.int 0)) (e15 : f2[12]? = some (.int 0)) (e16 : f2[13]? = some (.int 0)) : kI l E D (kT cI cJ cB cZ) yX11_prove wsX11_prove ({ frames := 3, cells := 0, slots := 0, locals := 73 }) [.ref h0] [(h0, .inr (11, f0)), (h1, .inr (1, f1)), (h2, .inr (7, f2)), (h4, .inr (3, f3)), (h6, .inl (cI, 2001, .inl g0)), (h7, .inl (cI, 2001, .inl g1))] (0) [(h0, .inr (11, (f0.set 12 (.int 0)))), (h1, .inr (1, f1)), (h2, .inr (7, (((((f2.set 10 (.int 0)).set 11 (.int 0)).set 14 (.int 0)).set 12 (.int 0)).set 13 (.int 0)))), (h4, .inr (3, ((((f3.set 6 (.ref h3)).set 7 (.int 0)).set 8 (.int 0)).set 5 (.int 0)))), (h6, .inl (cI, 2001, .inl (upd g0 0 0))), (h7, .inl (cI, 2001, .inl (upd g1 0 0)))] 0 0 := by
  intro sz
  refine Met.ofW (cc := cX11_prove) (maxL := 2) (ret := (some .int)) (by decide) rfl ?_
  intro p e s m args below meth c s₁ B hml hv
  obtain ⟨rfl, hsz, hP, hK, hD0, hN, hX⟩ := hv
  have hx := B.exec
  have hb := B.bytes
  have hr := B.returns
  have hts := atoms_spec (ws := wsX11_prove) B.pre
  have hown : s.vm.findClass RX11 = some m.cls := findClass_of_methodNamed B.named
  have hlocks := B.notSynchronized
  have hin11 : ∀ w ∈ wsX110, w ∈ wsX11_prove := (fun w h => (List.mem_cons_of_mem _ (List.mem_append_left _ (List.mem_append_left _ (List.mem_append_left _ (List.mem_append_left _ (List.mem_append_right _ h)))))))
  have hin1 : ∀ w ∈ wsX10, w ∈ wsX11_prove := (fun w h => (List.mem_cons_of_mem _ (List.mem_append_left _ (List.mem_append_left _ (List.mem_append_left _ (List.mem_append_right _ h))))))
  subst hsz
  have hD := hD0.self (sz := s.heap.size)
  have hAE := k_AE hD0 hX
  generalize hAe : va_A [(h0, .inr (11, f0)), (h1, .inr (1, f1)), (h2, .inr (7, f2)), (h4, .inr (3, f3)), (h6, .inl (cI, 2001, .inl g0)), (h7, .inl (cI, 2001, .inl g1))] s.heap.size = A at hD hAE ⊢
  have hA : ∀ q : Nat, s.heap.size ≤ q → A q := fun q h => by rw [← hAe]; exact Or.inr h
  have hS : va_S A s.heap s.heap [] := va_S.rf
  have hP : va_P D vwCl [(h0, .inr (11, f0)), (h1, .inr (1, f1)), (h2, .inr (7, f2)), (h4, .inr (3, f3)), (h6, .inl (cI, 2001, .inl g0)), (h7, .inl (cI, 2001, .inl g1))] s.heap := hP
  have hl := lv_entry ([.ref h0] : List Value) (n := 2) (Nat.le_of_ble_eq_true rfl)
  rw [lg_entry_eq]
  generalize (lg_sl ([.ref h0]) ++ List.replicate (2 - (lg_sl ([.ref h0])).length) Slot.unset).toArray = ls at hl ⊢
  have hl : lv_has ls 2 [(0, .ref h0)] := hl
  refine lv_aload_n hx hb dX11_prove_0 rfl (lv_at hl 0 rfl) ?_
  refine va_get (D := D) (ref := "IntegerHouse") (ci := 11) (v := .ref h1) (C := RX11) (T := TX11) (N := 15) hx hb hts hin11 hown hK hP 0 rfl rfl 1 (by decide) (hts (.fieldLink RX11 16 "IntegerHouse" "disk" "LIntegerHouse$Disk;") (List.mem_cons_of_mem _ (List.mem_append_left _ (List.mem_append_left _ (List.mem_append_left _ (List.mem_append_left _ (List.mem_append_left _ (List.mem_append_left _ (List.mem_of_getElem? (i := 0) rfl))))))))) (fun _ h9 => h9) e0 dX11_prove_1 ?_
  refine va_getN (host := "IntegerHouse") (D := D) (ref := "IntegerHouse$Disk") (ci := 1) (v := .int 0) (C := RX1) (T := TX1) (N := 9) hx hb hts hin1 hown hK hP 1 rfl rfl 8 (by decide) (va_Nw.use rfl (hN.1 ("IntegerHouse", 122, "IntegerHouse$Disk", "down", "Z", "IntegerHouse") (List.mem_of_getElem? (i := 3) rfl))) (fun _ h9 => h9) e1 dX11_prove_4 ?_
  refine lv_if_eq (tgt := 13) hx hb dX11_prove_7 (by decide) (fun _ => ?_) (fun c9 => absurd (by decide) c9)
  refine lv_aload_n hx hb dX11_prove_13 rfl (lv_at hl 0 rfl) ?_
  refine va_get (D := D) (ref := "IntegerHouse") (ci := 11) (v := .ref h2) (C := RX11) (T := TX11) (N := 15) hx hb hts hin11 hown hK hP 0 rfl rfl 11 (by decide) (hts (.fieldLink RX11 98 "IntegerHouse" "prover" "LIntegerHouse$Prover;") (List.mem_cons_of_mem _ (List.mem_append_left _ (List.mem_append_left _ (List.mem_append_left _ (List.mem_append_left _ (List.mem_append_left _ (List.mem_append_left _ (List.mem_of_getElem? (i := 1) rfl))))))))) (fun _ h9 => h9) e2 dX11_prove_14 ?_
  refine lv_aload_n hx hb dX11_prove_17 rfl (lv_at hl 0 rfl) ?_
  refine va_get (D := D) (ref := "IntegerHouse") (ci := 11) (v := .ref h3) (C := RX11) (T := TX11) (N := 15) hx hb hts hin11 hown hK hP 0 rfl rfl 0 (by decide) (hts (.fieldLink RX11 9 "IntegerHouse" "tape" "[B") (List.mem_cons_of_mem _ (List.mem_append_left _ (List.mem_append_left _ (List.mem_append_left _ (List.mem_append_left _ (List.mem_append_left _ (List.mem_append_left _ (List.mem_of_getElem? (i := 2) rfl))))))))) (fun _ h9 => h9) e3 dX11_prove_18 ?_
  refine lv_aload_n hx hb dX11_prove_21 rfl (lv_at hl 0 rfl) ?_
  refine k_cVi (As := []) (rest := [.ref h3, .ref h2]) (wc := [(h0, .inr (11, f0))]) (wr := [(h1, .inr (1, f1)), (h2, .inr (7, f2)), (h4, .inr (3, f3)), (h6, .inl (cI, 2001, .inl g0)), (h7, .inl (cI, 2001, .inl g1))]) (w1 := [(h0, .inr (11, (f0.set 12 (.int 0))))]) ⟨hx, hb, hml, hown, hts⟩ hN hX hAE hK hP hD hS hA [0] [1, 2, 3, 4, 5] (ci := 11) rfl rfl rfl rfl (by decide +kernel) (by decide +kernel) (by decide +kernel) (c_X11_useTape_0 l E D cI cJ cB cZ h0 f0 e4) (cwV 0 hts gX11_prove_X11_useTape rfl rfl rfl (by decide +kernel) ⟨Nat.le_of_ble_eq_true rfl, Nat.le_of_ble_eq_true rfl⟩) rfl hl.1 (Nat.le_of_ble_eq_true rfl) dX11_prove_22 ⟨Nat.le_of_ble_eq_true rfl, Nat.le_of_ble_eq_true rfl⟩ (fun H locs hP hD hS => ?_)
  have hP : va_P D vwCl [(h1, .inr (1, f1)), (h2, .inr (7, f2)), (h4, .inr (3, f3)), (h6, .inl (cI, 2001, .inl g0)), (h7, .inl (cI, 2001, .inl g1)), (h0, .inr (11, (f0.set 12 (.int 0))))] H := hP
  have hD : va_D A [(h1, .inr (1, f1)), (h2, .inr (7, f2)), (h4, .inr (3, f3)), (h6, .inl (cI, 2001, .inl g0)), (h7, .inl (cI, 2001, .inl g1)), (h0, .inr (11, (f0.set 12 (.int 0))))] := hD
  refine k_cVi (As := [.ref h3, .int 0]) (rest := []) (wc := [(h2, .inr (7, f2)), (h4, .inr (3, f3)), (h6, .inl (cI, 2001, .inl g0)), (h7, .inl (cI, 2001, .inl g1))]) (wr := [(h1, .inr (1, f1)), (h0, .inr (11, (f0.set 12 (.int 0))))]) (w1 := [(h2, .inr (7, (((((f2.set 10 (.int 0)).set 11 (.int 0)).set 14 (.int 0)).set 12 (.int 0)).set 13 (.int 0)))), (h4, .inr (3, ((((f3.set 6 (.ref h3)).set 7 (.int 0)).set 8 (.int 0)).set 5 (.int 0)))), (h6, .inl (cI, 2001, .inl (upd g0 0 0))), (h7, .inl (cI, 2001, .inl (upd g1 0 0)))]) ⟨hx, hb, hml, hown, hts⟩ hN hX hAE hK hP hD hS hA [1, 2, 3, 4] [0, 5] (ci := 7) rfl rfl rfl rfl (by decide +kernel) (by decide +kernel) (by decide +kernel) (c_X7_check_0 l E D cI cJ cB cZ h2 h3 f2 h4 f3 h5 h6 h7 g0 g1 e5 e6 e7 e8 e9 e10 e11 e12 e13 e14 e15 e16) (cwV 2 hts gX11_prove_X7_check rfl rfl rfl (by decide +kernel) ⟨Nat.le_of_ble_eq_true rfl, Nat.le_of_ble_eq_true rfl⟩) rfl hl.1 (Nat.le_of_ble_eq_true rfl) dX11_prove_25 ⟨Nat.le_of_ble_eq_true rfl, Nat.le_of_ble_eq_true rfl⟩ (fun H locs hP hD hS => ?_)
  have hP : va_P D vwCl [(h1, .inr (1, f1)), (h0, .inr (11, (f0.set 12 (.int 0)))), (h2, .inr (7, (((((f2.set 10 (.int 0)).set 11 (.int 0)).set 14 (.int 0)).set 12 (.int 0)).set 13 (.int 0)))), (h4, .inr (3, ((((f3.set 6 (.ref h3)).set 7 (.int 0)).set 8 (.int 0)).set 5 (.int 0)))), (h6, .inl (cI, 2001, .inl (upd g0 0 0))), (h7, .inl (cI, 2001, .inl (upd g1 0 0)))] H := hP
  have hD : va_D A [(h1, .inr (1, f1)), (h0, .inr (11, (f0.set 12 (.int 0)))), (h2, .inr (7, (((((f2.set 10 (.int 0)).set 11 (.int 0)).set 14 (.int 0)).set 12 (.int 0)).set 13 (.int 0)))), (h4, .inr (3, ((((f3.set 6 (.ref h3)).set 7 (.int 0)).set 8 (.int 0)).set 5 (.int 0)))), (h6, .inl (cI, 2001, .inl (upd g0 0 0))), (h7, .inl (cI, 2001, .inl (upd g1 0 0)))] := hD
  refine lv_istore_n (lv' := [(1, .int 0), (0, .ref h0)]) hx hb dX11_prove_28 rfl hl (by decide) rfl (fun ls hl => ?_)
  refine lv_iload_n hx hb dX11_prove_29 rfl (lv_at hl 0 rfl) ?_
  refine lv_iconst (v := (-1)) hx hb dX11_prove_30 (by decide) ?_
  refine lv_icmp_ne (tgt := 57) hx hb dX11_prove_31 (by decide) (fun _ => ?_) (fun c9 => absurd c9 (by decide))
  refine lv_iload_n hx hb dX11_prove_57 rfl (lv_at hl 0 rfl) ?_
  have hP := hP.sub (ws' := [(h0, .inr (11, (f0.set 12 (.int 0)))), (h1, .inr (1, f1)), (h2, .inr (7, (((((f2.set 10 (.int 0)).set 11 (.int 0)).set 14 (.int 0)).set 12 (.int 0)).set 13 (.int 0)))), (h4, .inr (3, ((((f3.set 6 (.ref h3)).set 7 (.int 0)).set 8 (.int 0)).set 5 (.int 0)))), (h6, .inl (cI, 2001, .inl (upd g0 0 0))), (h7, .inl (cI, 2001, .inl (upd g1 0 0)))]) [1, 0, 2, 3, 4, 5] rfl
  have hD := hD.sub (ws' := [(h0, .inr (11, (f0.set 12 (.int 0)))), (h1, .inr (1, f1)), (h2, .inr (7, (((((f2.set 10 (.int 0)).set 11 (.int 0)).set 14 (.int 0)).set 12 (.int 0)).set 13 (.int 0)))), (h4, .inr (3, ((((f3.set 6 (.ref h3)).set 7 (.int 0)).set 8 (.int 0)).set 5 (.int 0)))), (h6, .inl (cI, 2001, .inl (upd g0 0 0))), (h7, .inl (cI, 2001, .inl (upd g1 0 0)))]) [1, 0, 2, 3, 4, 5] (by decide +kernel) rfl
  exact W.iret (v := 0) hx hb hr (fun t ht hW => ⟨⟨0, (), rfl, rfl, kB_mk ht hW hP hK hD⟩, hS.F ht⟩) hS.2.2 dX11_prove_58
set_option maxHeartbeats 400000000 in
set_option maxRecDepth 100000 in
theorem c_X12_prove_0 (l : Launch) (E : kE) (D : va_G) (cI cJ cB cZ : ClassId) (h0 : Nat) (f0 : List Value) (h1 : Nat) (h2 : Nat) (h3 : Nat) (h4 : Nat) (g0 : Nat → Int32) (g1 : Nat → Int32) (g2 : Nat → Int32) (g3 : Nat → Int32) (e0 : f0[0]? = some (.int 0)) (e1 : f0[5]? = some (.int 0)) (e2 : f0[2]? = some (.int 0)) (e3 : f0[12]? = some (.int 0)) (e4 : f0[32]? = some (.int 0)) (e5 : f0[36]? = some (.int 0)) (e6 : f0[33]? = some (.int 0)) (e7 : f0[37]? = some (.int 0)) (e8 : f0[27]? = some (.int 0)) (e9 : f0[31]? = some (.int 0)) (e10 : f0[28]? = some (.int 0)) (e11 : f0[23]? = some (.ref h1)) (e12 : f0[24]? = some (.ref h2)) (e13 : f0[25]? = some (.ref h3)) (e14 : f0[26]? = some (.ref h4)) (e15 : f0[187]? = some (.int 0)) (e16 : f0[192]? = some (.int 0)) : kI l E D (kT cI cJ cB cZ) yX12_prove wsX12_prove ({ frames := 3, cells := 0, slots := 0, locals := 68 }) [.ref h0] [(h0, .inr (12, f0)), (h1, .inl (cI, 2001, .inl g0)), (h2, .inl (cI, 2001, .inl g1)), (h3, .inl (cI, 2001, .inl g2)), (h4, .inl (cI, 2001, .inl g3))] (0) [(h0, .inr (12, ((((((((((f0.set 0 (.int 0)).set 12 (.int 0)).set 2 (.int 0)).set 36 (.int 0)).set 37 (.int 0)).set 27 (.int 0)).set 31 (.int 0)).set 28 (.int 0)).set 187 (.int 0)).set 192 (.int 0)))), (h1, .inl (cI, 2001, .inl (upd g0 0 0))), (h2, .inl (cI, 2001, .inl (upd g1 0 0))), (h3, .inl (cI, 2001, .inl (upd g2 0 0))), (h4, .inl (cI, 2001, .inl (upd g3 0 0)))] 0 0 := by
  intro sz
  refine Met.ofW (cc := cX12_prove) (maxL := 2) (ret := (some .int)) (by decide) rfl ?_
  intro p e s m args below meth c s₁ B hml hv
  obtain ⟨rfl, hsz, hP, hK, hD0, hN, hX⟩ := hv
  have hx := B.exec
  have hb := B.bytes
  have hr := B.returns
  have hts := atoms_spec (ws := wsX12_prove) B.pre
  have hown : s.vm.findClass RX12 = some m.cls := findClass_of_methodNamed B.named
  have hlocks := B.notSynchronized
  have hin12 : ∀ w ∈ wsX120, w ∈ wsX12_prove := (fun w h => (List.mem_cons_of_mem _ (List.mem_append_right _ h)))
  subst hsz
  have hD := hD0.self (sz := s.heap.size)
  have hAE := k_AE hD0 hX
  generalize hAe : va_A [(h0, .inr (12, f0)), (h1, .inl (cI, 2001, .inl g0)), (h2, .inl (cI, 2001, .inl g1)), (h3, .inl (cI, 2001, .inl g2)), (h4, .inl (cI, 2001, .inl g3))] s.heap.size = A at hD hAE ⊢
  have hA : ∀ q : Nat, s.heap.size ≤ q → A q := fun q h => by rw [← hAe]; exact Or.inr h
  have hS : va_S A s.heap s.heap [] := va_S.rf
  have hP : va_P D vwCl [(h0, .inr (12, f0)), (h1, .inl (cI, 2001, .inl g0)), (h2, .inl (cI, 2001, .inl g1)), (h3, .inl (cI, 2001, .inl g2)), (h4, .inl (cI, 2001, .inl g3))] s.heap := hP
  have hl := lv_entry ([.ref h0] : List Value) (n := 2) (Nat.le_of_ble_eq_true rfl)
  rw [lg_entry_eq]
  generalize (lg_sl ([.ref h0]) ++ List.replicate (2 - (lg_sl ([.ref h0])).length) Slot.unset).toArray = ls at hl ⊢
  have hl : lv_has ls 2 [(0, .ref h0)] := hl
  refine lv_aload_n hx hb dX12_prove_0 rfl (lv_at hl 0 rfl) ?_
  refine k_cVi (As := []) (rest := []) (wc := [(h0, .inr (12, f0))]) (wr := [(h1, .inl (cI, 2001, .inl g0)), (h2, .inl (cI, 2001, .inl g1)), (h3, .inl (cI, 2001, .inl g2)), (h4, .inl (cI, 2001, .inl g3))]) (w1 := [(h0, .inr (12, (f0.set 0 (.int 0))))]) ⟨hx, hb, hml, hown, hts⟩ hN hX hAE hK hP hD hS hA [0] [1, 2, 3, 4] (ci := 12) rfl rfl rfl rfl (by decide +kernel) (by decide +kernel) (by decide +kernel) (c_X12_asks_0 l E D cI cJ cB cZ h0 f0 e0 e1) (cwV 0 hts gX12_prove_X12_asks rfl rfl rfl (by decide +kernel) ⟨Nat.le_of_ble_eq_true rfl, Nat.le_of_ble_eq_true rfl⟩) rfl hl.1 (Nat.le_of_ble_eq_true rfl) dX12_prove_1 ⟨Nat.le_of_ble_eq_true rfl, Nat.le_of_ble_eq_true rfl⟩ (fun H locs hP hD hS => ?_)
  have hP : va_P D vwCl [(h1, .inl (cI, 2001, .inl g0)), (h2, .inl (cI, 2001, .inl g1)), (h3, .inl (cI, 2001, .inl g2)), (h4, .inl (cI, 2001, .inl g3)), (h0, .inr (12, (f0.set 0 (.int 0))))] H := hP
  have hD : va_D A [(h1, .inl (cI, 2001, .inl g0)), (h2, .inl (cI, 2001, .inl g1)), (h3, .inl (cI, 2001, .inl g2)), (h4, .inl (cI, 2001, .inl g3)), (h0, .inr (12, (f0.set 0 (.int 0))))] := hD
  refine lv_if_ne (tgt := 10) hx hb dX12_prove_4 (by decide) (fun _ => ?_) (fun c9 => absurd c9 (by decide))
  refine lv_aload_n hx hb dX12_prove_10 rfl (lv_at hl 0 rfl) ?_
  refine k_cVv (As := []) (rest := []) (wc := [(h0, .inr (12, (f0.set 0 (.int 0)))), (h1, .inl (cI, 2001, .inl g0)), (h2, .inl (cI, 2001, .inl g1)), (h3, .inl (cI, 2001, .inl g2)), (h4, .inl (cI, 2001, .inl g3))]) (wr := []) (w1 := (fun _ : Unit => [(h0, .inr (12, ((((((((f0.set 0 (.int 0)).set 12 (.int 0)).set 2 (.int 0)).set 36 (.int 0)).set 37 (.int 0)).set 27 (.int 0)).set 31 (.int 0)).set 28 (.int 0)))), (h1, .inl (cI, 2001, .inl (upd g0 0 0))), (h2, .inl (cI, 2001, .inl (upd g1 0 0))), (h3, .inl (cI, 2001, .inl (upd g2 0 0))), (h4, .inl (cI, 2001, .inl (upd g3 0 0)))])) ⟨hx, hb, hml, hown, hts⟩ hN hX hAE hK hP hD hS hA [4, 0, 1, 2, 3] [] (ci := 12) rfl rfl rfl rfl (by decide +kernel) (by decide +kernel) (by decide +kernel) (c_X12_begin_0 l E D cI cJ cB cZ h0 ((f0.set 0 (.int 0))) h1 h2 h3 h4 g0 g1 g2 g3 (k_ne (by decide) e2) (k_ne (by decide) e3) (k_ne (by decide) e4) (k_ne (by decide) e5) (k_ne (by decide) e6) (k_ne (by decide) e7) (k_ne (by decide) e8) (k_ne (by decide) e9) (k_ne (by decide) e10) (k_ne (by decide) e11) (k_ne (by decide) e12) (k_ne (by decide) e13) (k_ne (by decide) e14)) (cwV 0 hts gX12_prove_X12_begin rfl rfl rfl (by decide +kernel) ⟨Nat.le_of_ble_eq_true rfl, Nat.le_of_ble_eq_true rfl⟩) rfl hl.1 (Nat.le_of_ble_eq_true rfl) dX12_prove_11 ⟨Nat.le_of_ble_eq_true rfl, Nat.le_of_ble_eq_true rfl⟩ (fun _ H locs hP hD hS => ?_)
  have hP : va_P D vwCl [(h0, .inr (12, ((((((((f0.set 0 (.int 0)).set 12 (.int 0)).set 2 (.int 0)).set 36 (.int 0)).set 37 (.int 0)).set 27 (.int 0)).set 31 (.int 0)).set 28 (.int 0)))), (h1, .inl (cI, 2001, .inl (upd g0 0 0))), (h2, .inl (cI, 2001, .inl (upd g1 0 0))), (h3, .inl (cI, 2001, .inl (upd g2 0 0))), (h4, .inl (cI, 2001, .inl (upd g3 0 0)))] H := hP
  have hD : va_D A [(h0, .inr (12, ((((((((f0.set 0 (.int 0)).set 12 (.int 0)).set 2 (.int 0)).set 36 (.int 0)).set 37 (.int 0)).set 27 (.int 0)).set 31 (.int 0)).set 28 (.int 0)))), (h1, .inl (cI, 2001, .inl (upd g0 0 0))), (h2, .inl (cI, 2001, .inl (upd g1 0 0))), (h3, .inl (cI, 2001, .inl (upd g2 0 0))), (h4, .inl (cI, 2001, .inl (upd g3 0 0)))] := hD
  refine lv_aload_n hx hb dX12_prove_14 rfl (lv_at hl 0 rfl) ?_
  refine lv_iconst (v := 0) hx hb dX12_prove_15 (by decide) ?_
  refine va_put (D := D) (ref := "IntegerHouseModel") (ci := 12) (v := .int 0) (ty := .int) (C := RX12) (T := TX12) (N := 195) hx hb hts hin12 tyX12 tyX12_ok nmX12 hown hK hP hD hS 0 rfl rfl 187 (by decide) (hts (.fieldLink RX12 1247 "IntegerHouseModel" "lines" "I") (List.mem_cons_of_mem _ (List.mem_append_left _ (List.mem_append_left _ (List.mem_of_getElem? (i := 0) rfl))))) (fun _ h9 => h9) rfl (by decide +kernel) rfl rfl (k_len (k_ne (by decide) (k_ne (by decide) (k_ne (by decide) (k_ne (by decide) (k_ne (by decide) (k_ne (by decide) (k_ne (by decide) (k_ne (by decide) e15))))))))) dX12_prove_16 (fun H locs hP hD hS => ?_)
  have hP : va_P D vwCl [(h0, .inr (12, (((((((((f0.set 0 (.int 0)).set 12 (.int 0)).set 2 (.int 0)).set 36 (.int 0)).set 37 (.int 0)).set 27 (.int 0)).set 31 (.int 0)).set 28 (.int 0)).set 187 (.int 0)))), (h1, .inl (cI, 2001, .inl (upd g0 0 0))), (h2, .inl (cI, 2001, .inl (upd g1 0 0))), (h3, .inl (cI, 2001, .inl (upd g2 0 0))), (h4, .inl (cI, 2001, .inl (upd g3 0 0)))] H := hP
  have hD : va_D A [(h0, .inr (12, (((((((((f0.set 0 (.int 0)).set 12 (.int 0)).set 2 (.int 0)).set 36 (.int 0)).set 37 (.int 0)).set 27 (.int 0)).set 31 (.int 0)).set 28 (.int 0)).set 187 (.int 0)))), (h1, .inl (cI, 2001, .inl (upd g0 0 0))), (h2, .inl (cI, 2001, .inl (upd g1 0 0))), (h3, .inl (cI, 2001, .inl (upd g2 0 0))), (h4, .inl (cI, 2001, .inl (upd g3 0 0)))] := hD
  refine lv_aload_n hx hb dX12_prove_19 rfl (lv_at hl 0 rfl) ?_
  refine lv_iconst (v := 0) hx hb dX12_prove_20 (by decide) ?_
  refine va_put (D := D) (ref := "IntegerHouseModel") (ci := 12) (v := .int 0) (ty := .int) (C := RX12) (T := TX12) (N := 195) hx hb hts hin12 tyX12 tyX12_ok nmX12 hown hK hP hD hS 0 rfl rfl 192 (by decide) (hts (.fieldLink RX12 1250 "IntegerHouseModel" "openCases" "I") (List.mem_cons_of_mem _ (List.mem_append_left _ (List.mem_append_left _ (List.mem_of_getElem? (i := 1) rfl))))) (fun _ h9 => h9) rfl (by decide +kernel) rfl rfl (k_len (k_ne (by decide) (k_ne (by decide) (k_ne (by decide) (k_ne (by decide) (k_ne (by decide) (k_ne (by decide) (k_ne (by decide) (k_ne (by decide) (k_ne (by decide) e16)))))))))) dX12_prove_21 (fun H locs hP hD hS => ?_)
  have hP : va_P D vwCl [(h0, .inr (12, ((((((((((f0.set 0 (.int 0)).set 12 (.int 0)).set 2 (.int 0)).set 36 (.int 0)).set 37 (.int 0)).set 27 (.int 0)).set 31 (.int 0)).set 28 (.int 0)).set 187 (.int 0)).set 192 (.int 0)))), (h1, .inl (cI, 2001, .inl (upd g0 0 0))), (h2, .inl (cI, 2001, .inl (upd g1 0 0))), (h3, .inl (cI, 2001, .inl (upd g2 0 0))), (h4, .inl (cI, 2001, .inl (upd g3 0 0)))] H := hP
  have hD : va_D A [(h0, .inr (12, ((((((((((f0.set 0 (.int 0)).set 12 (.int 0)).set 2 (.int 0)).set 36 (.int 0)).set 37 (.int 0)).set 27 (.int 0)).set 31 (.int 0)).set 28 (.int 0)).set 187 (.int 0)).set 192 (.int 0)))), (h1, .inl (cI, 2001, .inl (upd g0 0 0))), (h2, .inl (cI, 2001, .inl (upd g1 0 0))), (h3, .inl (cI, 2001, .inl (upd g2 0 0))), (h4, .inl (cI, 2001, .inl (upd g3 0 0)))] := hD
  refine lv_aload_n hx hb dX12_prove_24 rfl (lv_at hl 0 rfl) ?_
  refine va_get (D := D) (ref := "IntegerHouseModel") (ci := 12) (v := .int 0) (C := RX12) (T := TX12) (N := 195) hx hb hts hin12 hown hK hP 0 rfl rfl 31 (by decide) (hts (.fieldLink RX12 562 "IntegerHouseModel" "faulty" "Z") (List.mem_cons_of_mem _ (List.mem_append_left _ (List.mem_append_left _ (List.mem_of_getElem? (i := 2) rfl))))) (fun _ h9 => h9) (k_ne (by decide) (k_ne (by decide) (k_ne (by decide) (k_set (k_ne (by decide) (k_ne (by decide) (k_ne (by decide) (k_ne (by decide) (k_ne (by decide) (k_ne (by decide) e9)))))))))) dX12_prove_25 ?_
  refine lv_if_ne (tgt := 76) hx hb dX12_prove_28 (by decide) (fun c9 => absurd (by decide) c9) (fun _ => ?_)
  refine lv_aload_n hx hb dX12_prove_31 rfl (lv_at hl 0 rfl) ?_
  refine va_get (D := D) (ref := "IntegerHouseModel") (ci := 12) (v := .ref h3) (C := RX12) (T := TX12) (N := 195) hx hb hts hin12 hown hK hP 0 rfl rfl 25 (by decide) (hts (.fieldLink RX12 87 "IntegerHouseModel" "tokenKind" "[I") (List.mem_cons_of_mem _ (List.mem_append_left _ (List.mem_append_left _ (List.mem_of_getElem? (i := 3) rfl))))) (fun _ h9 => h9) (k_ne (by decide) (k_ne (by decide) (k_ne (by decide) (k_ne (by decide) (k_ne (by decide) (k_ne (by decide) (k_ne (by decide) (k_ne (by decide) (k_ne (by decide) (k_ne (by decide) e13)))))))))) dX12_prove_32 ?_
  refine lv_aload_n hx hb dX12_prove_35 rfl (lv_at hl 0 rfl) ?_
  refine va_get (D := D) (ref := "IntegerHouseModel") (ci := 12) (v := .int 0) (C := RX12) (T := TX12) (N := 195) hx hb hts hin12 hown hK hP 0 rfl rfl 28 (by decide) (hts (.fieldLink RX12 597 "IntegerHouseModel" "now" "I") (List.mem_cons_of_mem _ (List.mem_append_left _ (List.mem_append_left _ (List.mem_of_getElem? (i := 4) rfl))))) (fun _ h9 => h9) (k_ne (by decide) (k_ne (by decide) (k_set (k_ne (by decide) (k_ne (by decide) (k_ne (by decide) (k_ne (by decide) (k_ne (by decide) (k_ne (by decide) (k_ne (by decide) e10)))))))))) dX12_prove_36 ?_
  refine va_iald hx hb hK hP 3 0 rfl rfl (k_in (by decide)) dX12_prove_39 ?_
  refine k_topi (y := 0) rfl ?_
  refine lv_if_eq (tgt := 76) hx hb dX12_prove_40 (by decide) (fun _ => ?_) (fun c9 => absurd (by decide) c9)
  refine lv_aload_n hx hb dX12_prove_76 rfl (lv_at hl 0 rfl) ?_
  refine va_get (D := D) (ref := "IntegerHouseModel") (ci := 12) (v := .int 0) (C := RX12) (T := TX12) (N := 195) hx hb hts hin12 hown hK hP 0 rfl rfl 31 (by decide) (hts (.fieldLink RX12 562 "IntegerHouseModel" "faulty" "Z") (List.mem_cons_of_mem _ (List.mem_append_left _ (List.mem_append_left _ (List.mem_of_getElem? (i := 2) rfl))))) (fun _ h9 => h9) (k_ne (by decide) (k_ne (by decide) (k_ne (by decide) (k_set (k_ne (by decide) (k_ne (by decide) (k_ne (by decide) (k_ne (by decide) (k_ne (by decide) (k_ne (by decide) e9)))))))))) dX12_prove_77 ?_
  refine lv_if_eq (tgt := 88) hx hb dX12_prove_80 (by decide) (fun _ => ?_) (fun c9 => absurd (by decide) c9)
  refine lv_aload_n hx hb dX12_prove_88 rfl (lv_at hl 0 rfl) ?_
  refine va_get (D := D) (ref := "IntegerHouseModel") (ci := 12) (v := .int 0) (C := RX12) (T := TX12) (N := 195) hx hb hts hin12 hown hK hP 0 rfl rfl 192 (by decide) (hts (.fieldLink RX12 1250 "IntegerHouseModel" "openCases" "I") (List.mem_cons_of_mem _ (List.mem_append_left _ (List.mem_append_left _ (List.mem_of_getElem? (i := 1) rfl))))) (fun _ h9 => h9) (k_set (k_ne (by decide) (k_ne (by decide) (k_ne (by decide) (k_ne (by decide) (k_ne (by decide) (k_ne (by decide) (k_ne (by decide) (k_ne (by decide) (k_ne (by decide) e16)))))))))) dX12_prove_89 ?_
  refine lv_if_ne (tgt := 117) hx hb dX12_prove_92 (by decide) (fun c9 => absurd (by decide) c9) (fun _ => ?_)
  refine lv_aload_n hx hb dX12_prove_95 rfl (lv_at hl 0 rfl) ?_
  refine va_get (D := D) (ref := "IntegerHouseModel") (ci := 12) (v := .int 0) (C := RX12) (T := TX12) (N := 195) hx hb hts hin12 hown hK hP 0 rfl rfl 187 (by decide) (hts (.fieldLink RX12 1247 "IntegerHouseModel" "lines" "I") (List.mem_cons_of_mem _ (List.mem_append_left _ (List.mem_append_left _ (List.mem_of_getElem? (i := 0) rfl))))) (fun _ h9 => h9) (k_ne (by decide) (k_set (k_ne (by decide) (k_ne (by decide) (k_ne (by decide) (k_ne (by decide) (k_ne (by decide) (k_ne (by decide) (k_ne (by decide) (k_ne (by decide) e15)))))))))) dX12_prove_96 ?_
  refine lv_if_le (tgt := 117) hx hb dX12_prove_99 (by decide) (fun _ => ?_) (fun c9 => absurd (by decide) c9)
  refine lv_iconst (v := 0) hx hb dX12_prove_117 (by decide) ?_
  exact W.iret (v := 0) hx hb hr (fun t ht hW => ⟨⟨0, (), rfl, rfl, kB_mk ht hW hP hK hD⟩, hS.F ht⟩) hS.2.2 dX12_prove_118
set_option maxHeartbeats 400000000 in
set_option maxRecDepth 100000 in
theorem c_X7_isLine_0 (l : Launch) (E : kE) (D : va_G) (cI cJ cB cZ : ClassId) (h0 : Nat) (x0 : Int32) (f0 : List Value) (e0 : ¬ ((x0 : Int32) < 1)) (e1 : f0[10]? = some (.int 0)) : kI l E D (kT cI cJ cB cZ) yX7_isLine wsX7_isLine ({ frames := 0, cells := 0, slots := 0, locals := 0 }) [.ref h0, .int x0] [(h0, .inr (7, f0))] (0) [(h0, .inr (7, f0))] 0 0 := by
  intro sz
  refine Met.ofW (cc := cX7_isLine) (maxL := 2) (ret := (some .boolean)) (by decide) rfl ?_
  intro p e s m args below meth c s₁ B hml hv
  obtain ⟨rfl, hsz, hP, hK, hD0, hN, hX⟩ := hv
  have hx := B.exec
  have hb := B.bytes
  have hr := B.returns
  have hts := atoms_spec (ws := wsX7_isLine) B.pre
  have hown : s.vm.findClass RX7 = some m.cls := findClass_of_methodNamed B.named
  have hlocks := B.notSynchronized
  have hin7 : ∀ w ∈ wsX70, w ∈ wsX7_isLine := (fun w h => (List.mem_cons_of_mem _ (List.mem_append_right _ h)))
  subst hsz
  have hD := hD0.self (sz := s.heap.size)
  have hAE := k_AE hD0 hX
  generalize hAe : va_A [(h0, .inr (7, f0))] s.heap.size = A at hD hAE ⊢
  have hA : ∀ q : Nat, s.heap.size ≤ q → A q := fun q h => by rw [← hAe]; exact Or.inr h
  have hS : va_S A s.heap s.heap [] := va_S.rf
  have hP : va_P D vwCl [(h0, .inr (7, f0))] s.heap := hP
  have hl := lv_entry ([.ref h0, .int x0] : List Value) (n := 2) (Nat.le_of_ble_eq_true rfl)
  rw [lg_entry_eq]
  generalize (lg_sl ([.ref h0, .int x0]) ++ List.replicate (2 - (lg_sl ([.ref h0, .int x0])).length) Slot.unset).toArray = ls at hl ⊢
  have hl : lv_has ls 2 [(0, .ref h0), (1, .int x0)] := hl
  refine lv_iload_n hx hb dX7_isLine_0 rfl (lv_at hl 1 rfl) ?_
  refine lv_iconst (v := 1) hx hb dX7_isLine_1 (by decide) ?_
  refine lv_icmp_lt (tgt := 17) hx hb dX7_isLine_2 (by decide) (fun c9 => absurd c9 e0) (fun _ => ?_)
  refine lv_iload_n hx hb dX7_isLine_5 rfl (lv_at hl 1 rfl) ?_
  refine lv_aload_n hx hb dX7_isLine_6 rfl (lv_at hl 0 rfl) ?_
  refine va_get (D := D) (ref := "IntegerHouse$Prover") (ci := 7) (v := .int 0) (C := RX7) (T := TX7) (N := 17) hx hb hts hin7 hown hK hP 0 rfl rfl 10 (by decide) (hts (.fieldLink RX7 46 "IntegerHouse$Prover" "size" "I") (List.mem_cons_of_mem _ (List.mem_append_left _ (List.mem_of_getElem? (i := 0) rfl)))) (fun _ h9 => h9) e1 dX7_isLine_7 ?_
  refine lv_icmp_gt (tgt := 17) hx hb dX7_isLine_10 (by decide) (fun _ => ?_) (fun c9 => absurd ((k_n3 (x := x0) (c := 0) (d := 1) (by decide)).mpr e0) c9)
  refine lv_iconst (v := 0) hx hb dX7_isLine_17 (by decide) ?_
  exact W.zret (v := 0) hx hb hr rfl (fun t ht hW => ⟨⟨0, (), rfl, rfl, kB_mk ht hW hP hK hD⟩, hS.F ht⟩) hS.2.2 dX7_isLine_18
set_option maxHeartbeats 400000000 in
set_option maxRecDepth 100000 in
theorem c_X11_line_0 (l : Launch) (E : kE) (D : va_G) (cI cJ cB cZ : ClassId) (h0 : Nat) (x0 : Int32) (x1 : Int32) (f0 : List Value) (h1 : Nat) (f1 : List Value) (e0 : f0[11]? = some (.ref h1)) (e1 : f1[10]? = some (.int 0)) (e2 : ¬ ((x0 : Int32) < 1)) (hl9 : l.stackTraces = false) : kTJ l E D (kT cI cJ cB cZ) yX11_line wsX11_line ({ frames := 6, cells := 1, slots := 6, locals := 82 }) [.ref h0, .int x0, .int x1] [(h0, .inr (11, f0)), (h1, .inr (7, f1))] "java/lang/IndexOutOfBoundsException" 1 6 := by
  intro sz
  refine vx_ofW (cc := cX11_line) (maxL := 3) (ret := (some .long)) (by decide) rfl ?_
  intro p e s m args below meth c s₁ B hml ht9 hv
  obtain ⟨rfl, hsz, hP, hK, hD0, hN, hX⟩ := hv
  have hx := B.exec
  have hb := B.bytes
  have hr := B.returns
  have hts := atoms_spec (ws := wsX11_line) B.pre
  have hown : s.vm.findClass RX11 = some m.cls := findClass_of_methodNamed B.named
  have hlocks := B.notSynchronized
  have hin11 : ∀ w ∈ wsX110, w ∈ wsX11_line := (fun w h => (List.mem_cons_of_mem _ (List.mem_append_left _ (List.mem_append_left _ (List.mem_append_right _ h)))))
  subst hsz
  have hD := hD0.self (sz := s.heap.size)
  have hAE := k_AE hD0 hX
  generalize hAe : va_A [(h0, .inr (11, f0)), (h1, .inr (7, f1))] s.heap.size = A at hD hAE ⊢
  have hA : ∀ q : Nat, s.heap.size ≤ q → A q := fun q h => by rw [← hAe]; exact Or.inr h
  have hS : va_S A s.heap s.heap [] := va_S.rf
  have hP : va_P D vwCl [(h0, .inr (11, f0)), (h1, .inr (7, f1))] s.heap := hP
  have hl := lv_entry ([.ref h0, .int x0, .int x1] : List Value) (n := 3) (Nat.le_of_ble_eq_true rfl)
  rw [lg_entry_eq]
  generalize (lg_sl ([.ref h0, .int x0, .int x1]) ++ List.replicate (3 - (lg_sl ([.ref h0, .int x0, .int x1])).length) Slot.unset).toArray = ls at hl ⊢
  have hl : lv_has ls 3 [(0, .ref h0), (1, .int x0), (2, .int x1)] := hl
  refine lv_aload_n hx hb dX11_line_0 rfl (lv_at hl 0 rfl) ?_
  refine va_get (D := D) (ref := "IntegerHouse") (ci := 11) (v := .ref h1) (C := RX11) (T := TX11) (N := 15) hx hb hts hin11 hown hK hP 0 rfl rfl 11 (by decide) (hts (.fieldLink RX11 98 "IntegerHouse" "prover" "LIntegerHouse$Prover;") (List.mem_cons_of_mem _ (List.mem_append_left _ (List.mem_append_left _ (List.mem_append_left _ (List.mem_of_getElem? (i := 2) rfl)))))) (fun _ h9 => h9) e0 dX11_line_1 ?_
  refine lv_iload_n hx hb dX11_line_4 rfl (lv_at hl 1 rfl) ?_
  refine k_cVi (As := [.int x0]) (rest := []) (wc := [(h1, .inr (7, f1))]) (wr := [(h0, .inr (11, f0))]) (w1 := [(h1, .inr (7, f1))]) ⟨hx, hb, hml, hown, hts⟩ hN hX hAE hK hP hD hS hA [1] [0] (ci := 7) rfl rfl rfl rfl (by decide +kernel) (by decide +kernel) (by decide +kernel) (c_X7_isLine_0 l E D cI cJ cB cZ h1 x0 f1 e2 e1) (cwV 1 hts gX11_line_X7_isLine rfl rfl rfl (by decide +kernel) ⟨Nat.le_of_ble_eq_true rfl, Nat.le_of_ble_eq_true rfl⟩) rfl hl.1 (Nat.le_of_ble_eq_true rfl) dX11_line_5 ⟨Nat.le_of_ble_eq_true rfl, Nat.le_of_ble_eq_true rfl⟩ (fun H locs hP hD hS => ?_)
  have hP : va_P D vwCl [(h0, .inr (11, f0)), (h1, .inr (7, f1))] H := hP
  have hD : va_D A [(h0, .inr (11, f0)), (h1, .inr (7, f1))] := hD
  refine lv_if_eq (tgt := 20) hx hb dX11_line_8 (by decide) (fun _ => ?_) (fun c9 => absurd (by decide) c9)
  obtain ⟨a9, a9r, a9o⟩ := kX.st hX hAE ("IntegerHouse", 403, "no such line or number of it") (List.mem_of_getElem? (i := 9) rfl)
  exact vx_throwSW (names := ["java/lang/RuntimeException", "java/lang/Exception"]) (A := A) hx hb hl9 hown (by decide +kernel) (by decide +kernel) (hts (.classLink RX11 197 "java/lang/IndexOutOfBoundsException") (List.mem_cons_of_mem _ (List.mem_append_left _ (List.mem_append_left _ (List.mem_append_left _ (List.mem_of_getElem? (i := 0) rfl)))))) (hts (.initialized "java/lang/IndexOutOfBoundsException") (List.mem_cons_of_mem _ (List.mem_append_left _ (List.mem_append_left _ (List.mem_append_left _ (List.mem_of_getElem? (i := 1) rfl)))))) a9r (vx_hat (L := vx_atS RX11 201 "java/lang/IndexOutOfBoundsException" ["java/lang/RuntimeException", "java/lang/Exception"]) (B := [.castable "java/lang/IndexOutOfBoundsException" "java/lang/IndexOutOfBoundsException", .declares (Bundle.initS "java/lang/RuntimeException"), .declares (Bundle.initS "java/lang/Exception"), .declares (Bundle.initS "java/lang/Throwable")]) (fun w h => hts w (List.mem_cons_of_mem _ (List.mem_append_right _ h))) (by decide +kernel) (vx_c (va_Nw.use rfl (kX.cast hX "java/lang/IndexOutOfBoundsException" (by decide))) (vx_c (va_Nw.use rfl (kX.decl hX "java/lang/RuntimeException" (by decide))) (vx_c (va_Nw.use rfl (kX.decl hX "java/lang/Exception" (by decide))) (vx_c (va_Nw.use rfl (kX.decl hX "java/lang/Throwable" (by decide))) vx_n))))) (by decide +kernel) (kX.us hX hAE) (kX.ss hX hAE) hS (by rw [hml]; exact hl.1) dX11_line_20 dX11_line_23 dX11_line_24 dX11_line_27 dX11_line_30 (fun x hx => (ht9 x hx).elim) (Nat.le_of_ble_eq_true rfl) (Nat.le_of_ble_eq_true rfl) (Nat.le_of_ble_eq_true rfl) (Nat.le_of_ble_eq_true rfl) hlocks (fun t h1 h2 h3 => k_tx hP hK hD hS t h1 h2 h3) hS.2.2 (Nat.le_of_ble_eq_true rfl) (Nat.le_of_ble_eq_true rfl)
set_option maxHeartbeats 400000000 in
set_option maxRecDepth 100000 in
theorem c_L_line_0 (l : Launch) (E : kE) (D : va_G) (cI cJ cB cZ : ClassId) (h0 : Nat) (x0 : Int32) (x1 : Int32) (h1 : Nat) (f0 : List Value) (h2 : Nat) (f1 : List Value) (e0 : f0[11]? = some (.ref h2)) (e1 : f1[10]? = some (.int 0)) (e2 : ¬ ((x0 : Int32) < 1)) (hl9 : l.stackTraces = false) : kI l E D (kT cI cJ cB cZ) yL_line wsL_line ({ frames := 7, cells := 1, slots := 6, locals := 104 }) [.ref h0, .int x0, .int x1, .ref h1] [(h0, .inr (11, f0)), (h2, .inr (7, f1))] (1) [(h0, .inr (11, f0)), (h2, .inr (7, f1))] 1 6 := by
  intro sz
  refine k_metH (cc := cL_line) (maxL := 5) (ret := (some .int)) (hh := [(0, 9, 12, 25)]) (by decide) rfl ?_
  intro p e s m args below meth c s₁ B hml hv
  obtain ⟨rfl, hsz, hP, hK, hD0, hN, hX⟩ := hv
  have hx := B.exec
  have hb := B.bytes
  have hr := B.returns
  have hts := atoms_spec (ws := wsL_line) B.pre
  have hown : s.vm.findClass RL = some m.cls := findClass_of_methodNamed B.named
  have hlocks := B.notSynchronized
  subst hsz
  have hD := hD0.self (sz := s.heap.size)
  have hAE := k_AE hD0 hX
  generalize hAe : va_A [(h0, .inr (11, f0)), (h2, .inr (7, f1))] s.heap.size = A at hD hAE ⊢
  have hA : ∀ q : Nat, s.heap.size ≤ q → A q := fun q h => by rw [← hAe]; exact Or.inr h
  have hS : va_S A s.heap s.heap [] := va_S.rf
  have hP : va_P D vwCl [(h0, .inr (11, f0)), (h2, .inr (7, f1))] s.heap := hP
  have hl := lv_entry ([.ref h0, .int x0, .int x1, .ref h1] : List Value) (n := 5) (Nat.le_of_ble_eq_true rfl)
  rw [lg_entry_eq]
  generalize (lg_sl ([.ref h0, .int x0, .int x1, .ref h1]) ++ List.replicate (5 - (lg_sl ([.ref h0, .int x0, .int x1, .ref h1])).length) Slot.unset).toArray = ls at hl ⊢
  have hl : lv_has ls 5 [(0, .ref h0), (1, .int x0), (2, .int x1), (3, .ref h1)] := hl
  refine lv_aload_n hx hb dL_line_0 rfl (lv_at hl 3 rfl) ?_
  refine lv_iconst (v := 0) hx hb dL_line_1 (by decide) ?_
  refine lv_aload_n hx hb dL_line_2 rfl (lv_at hl 0 rfl) ?_
  refine lv_iload_n hx hb dL_line_3 rfl (lv_at hl 1 rfl) ?_
  refine lv_iload_n hx hb dL_line_4 rfl (lv_at hl 2 rfl) ?_
  refine k_cTl (As := [.int x0, .int x1]) (rest := [.int 0, .ref h1]) (wc := [(h0, .inr (11, f0)), (h2, .inr (7, f1))]) (wr := []) ⟨hx, hb, hml, hown, hts⟩ hN hX hAE hK hP hD hS hA [0, 1] [] (ci := 11) rfl rfl rfl rfl (by decide +kernel) (by decide +kernel) (by decide +kernel) (c_X11_line_0 l E D cI cJ cB cZ h0 x0 x1 f0 h2 f1 e0 e1 e2 hl9) (cwV 2 hts gL_line_X11_line rfl rfl rfl (by decide +kernel) ⟨Nat.le_of_ble_eq_true rfl, Nat.le_of_ble_eq_true rfl⟩) rfl hl.1 (Nat.le_of_ble_eq_true rfl) dL_line_5 ⟨Nat.le_of_ble_eq_true rfl, Nat.le_of_ble_eq_true rfl⟩ (fun q9 ce H locs hP hD hS hce hcv hcl => ?_)
  have hP : va_P D vwCl [(h0, .inr (11, f0)), (h2, .inr (7, f1))] H := hP
  have hD : va_D A [(h0, .inr (11, f0)), (h2, .inr (7, f1))] := hD
  refine vx_catch (own := RL) (name := "java/lang/IndexOutOfBoundsException") hown [] ⟨0, 9, 12, 25⟩ [] (vx_table B (hts _ List.mem_cons_self)) (fun z hz => absurd hz List.not_mem_nil) (by decide) (by decide) (hts (.classLink RL 25 "java/lang/IndexOutOfBoundsException") (List.mem_cons_of_mem _ (List.mem_append_left _ (List.mem_append_left _ (List.mem_append_left _ (List.mem_of_getElem? (i := 0) rfl)))))) (va_Nw.use rfl (kX.cast hX "java/lang/IndexOutOfBoundsException" (by decide))) hce hcv hcl ?_
  refine W.eq (g2 := F0 m 12 ls [.ref q9]) rfl ?_
  refine W.widen (k := 1) (n := 6) (Nat.le_of_ble_eq_true rfl) (Nat.le_of_ble_eq_true rfl) ?_
  refine lv_astore (lv' := [(4, .ref q9), (0, .ref h0), (1, .int x0), (2, .int x1), (3, .ref h1)]) hx hb dL_line_12 hl (by decide) rfl (fun ls hl => ?_)
  refine lv_iconst (v := 1) hx hb dL_line_14 (by decide) ?_
  exact W.iret (v := 1) hx hb hr (fun t ht hW => ⟨⟨1, (), rfl, rfl, kB_mk ht hW hP hK hD⟩, hS.F ht⟩) hS.2.2 dL_line_15
set_option maxHeartbeats 400000000 in
set_option maxRecDepth 100000 in
theorem c_X12_in_17 (l : Launch) (E : kE) (D : va_G) (cI cJ cB cZ : ClassId) (y0 : Int64) (e0 : ¬ (((lg_cmp y0 1) : Int32) < 0)) (e1 : (0 : Int32) < (lg_cmp y0 0)) : kI l E D (kT cI cJ cB cZ) yX12_in wsX12_in ({ frames := 0, cells := 0, slots := 0, locals := 0 }) [.long y0, .long 1, .long 0] [] (0) [] 0 0 := by
  intro sz
  refine Met.ofW (cc := cX12_in) (maxL := 6) (ret := (some .boolean)) (by decide) rfl ?_
  intro p e s m args below meth c s₁ B hml hv
  obtain ⟨rfl, hsz, hP, hK, hD0, hN, hX⟩ := hv
  have hx := B.exec
  have hb := B.bytes
  have hr := B.returns
  have hts := atoms_spec (ws := wsX12_in) B.pre
  have hown : s.vm.findClass RX12 = some m.cls := findClass_of_methodNamed B.named
  have hlocks := B.notSynchronized
  subst hsz
  have hD := hD0.self (sz := s.heap.size)
  have hAE := k_AE hD0 hX
  generalize hAe : va_A [] s.heap.size = A at hD hAE ⊢
  have hA : ∀ q : Nat, s.heap.size ≤ q → A q := fun q h => by rw [← hAe]; exact Or.inr h
  have hS : va_S A s.heap s.heap [] := va_S.rf
  have hP : va_P D vwCl [] s.heap := hP
  have hl := lv_entry ([.long y0, .long 1, .long 0] : List Value) (n := 6) (Nat.le_of_ble_eq_true rfl)
  rw [lg_entry_eq]
  generalize (lg_sl ([.long y0, .long 1, .long 0]) ++ List.replicate (6 - (lg_sl ([.long y0, .long 1, .long 0])).length) Slot.unset).toArray = ls at hl ⊢
  have hl : lv_has ls 6 [(0, .long y0), (2, .long 1), (4, .long 0)] := hl
  refine lv_lload_n hx hb dX12_in_0 rfl (lv_at hl 0 rfl) ?_
  refine lv_lload_n hx hb dX12_in_1 rfl (lv_at hl 1 rfl) ?_
  refine W.lcmp hx hb dX12_in_2 ?_
  refine lv_if_lt (tgt := 17) hx hb dX12_in_3 (by decide) (fun c9 => absurd c9 e0) (fun _ => ?_)
  refine lv_lload_n hx hb dX12_in_6 rfl (lv_at hl 0 rfl) ?_
  refine lv_lload hx hb dX12_in_7 (lv_at hl 2 rfl) ?_
  refine W.lcmp hx hb dX12_in_9 ?_
  refine lv_if_gt (tgt := 17) hx hb dX12_in_10 (by decide) (fun _ => ?_) (fun c9 => absurd e1 c9)
  refine lv_iconst (v := 0) hx hb dX12_in_17 (by decide) ?_
  exact W.zret (v := 0) hx hb hr rfl (fun t ht hW => ⟨⟨0, (), rfl, rfl, kB_mk ht hW hP hK hD⟩, hS.F ht⟩) hS.2.2 dX12_in_18
set_option maxHeartbeats 400000000 in
set_option maxRecDepth 100000 in
theorem c_X12_line_0 (l : Launch) (E : kE) (D : va_G) (cI cJ cB cZ : ClassId) (h0 : Nat) (x0 : Int32) (x1 : Int32) (f0 : List Value) (e0 : f0[187]? = some (.int 0)) (e1 : ¬ ((x0 : Int32) < 1)) (e2 : f0[0]? = some (.int 0)) : kJ l E D (kT cI cJ cB cZ) yX12_line wsX12_line ({ frames := 1, cells := 0, slots := 0, locals := 25 }) [.ref h0, .int x0, .int x1] [(h0, .inr (12, f0))] (0) [(h0, .inr (12, (f0.set 0 (.int 1))))] 0 0 := by
  intro sz
  refine Met.ofW (cc := cX12_line) (maxL := 3) (ret := (some .long)) (by decide) rfl ?_
  intro p e s m args below meth c s₁ B hml hv
  obtain ⟨rfl, hsz, hP, hK, hD0, hN, hX⟩ := hv
  have hx := B.exec
  have hb := B.bytes
  have hr := B.returns
  have hts := atoms_spec (ws := wsX12_line) B.pre
  have hown : s.vm.findClass RX12 = some m.cls := findClass_of_methodNamed B.named
  have hlocks := B.notSynchronized
  have hin12 : ∀ w ∈ wsX120, w ∈ wsX12_line := (fun w h => (List.mem_cons_of_mem _ (List.mem_append_right _ h)))
  subst hsz
  have hD := hD0.self (sz := s.heap.size)
  have hAE := k_AE hD0 hX
  generalize hAe : va_A [(h0, .inr (12, f0))] s.heap.size = A at hD hAE ⊢
  have hA : ∀ q : Nat, s.heap.size ≤ q → A q := fun q h => by rw [← hAe]; exact Or.inr h
  have hS : va_S A s.heap s.heap [] := va_S.rf
  have hP : va_P D vwCl [(h0, .inr (12, f0))] s.heap := hP
  have hl := lv_entry ([.ref h0, .int x0, .int x1] : List Value) (n := 3) (Nat.le_of_ble_eq_true rfl)
  rw [lg_entry_eq]
  generalize (lg_sl ([.ref h0, .int x0, .int x1]) ++ List.replicate (3 - (lg_sl ([.ref h0, .int x0, .int x1])).length) Slot.unset).toArray = ls at hl ⊢
  have hl : lv_has ls 3 [(0, .ref h0), (1, .int x0), (2, .int x1)] := hl
  refine lv_aload_n hx hb dX12_line_0 rfl (lv_at hl 0 rfl) ?_
  refine lv_iload_n hx hb dX12_line_1 rfl (lv_at hl 1 rfl) ?_
  refine lv_i2l (v := (Int32.toInt64 x0)) hx hb dX12_line_2 rfl ?_
  refine lv_lconst (v := 1) hx hb dX12_line_3 (by decide) ?_
  refine lv_aload_n hx hb dX12_line_4 rfl (lv_at hl 0 rfl) ?_
  refine va_get (D := D) (ref := "IntegerHouseModel") (ci := 12) (v := .int 0) (C := RX12) (T := TX12) (N := 195) hx hb hts hin12 hown hK hP 0 rfl rfl 187 (by decide) (hts (.fieldLink RX12 1247 "IntegerHouseModel" "lines" "I") (List.mem_cons_of_mem _ (List.mem_append_left _ (List.mem_of_getElem? (i := 0) rfl)))) (fun _ h9 => h9) e0 dX12_line_5 ?_
  refine lv_i2l (v := 0) hx hb dX12_line_8 (by decide) ?_
  refine k_cSi (As := [.long (Int32.toInt64 x0), .long 1, .long 0]) (rest := [.ref h0]) (wc := []) (wr := [(h0, .inr (12, f0))]) (w1 := []) ⟨hx, hb, hml, hown, hts⟩ hN hX hAE hK hP hD hS hA [] [0] rfl rfl (by decide +kernel) (by decide +kernel) (by decide +kernel) (c_X12_in_17 l E D cI cJ cB cZ (Int32.toInt64 x0) (fun z9 => e1 ((k_n4 (x := x0) (c := 1) (C := 1) (by decide)).mp z9)) ((k_n5 (x := x0) (c := 0) (d := 1) (C := 0) (by decide) (by decide)).mpr e1)) (va_cwS 3 hts gX12_line_X12_in rfl rfl rfl (by decide +kernel) ⟨Nat.le_of_ble_eq_true rfl, Nat.le_of_ble_eq_true rfl⟩) rfl hl.1 (Nat.le_of_ble_eq_true rfl) dX12_line_9 ⟨Nat.le_of_ble_eq_true rfl, Nat.le_of_ble_eq_true rfl⟩ (fun H locs hP hD hS => ?_)
  have hP : va_P D vwCl [(h0, .inr (12, f0))] H := hP
  have hD : va_D A [(h0, .inr (12, f0))] := hD
  refine lv_if_eq (tgt := 31) hx hb dX12_line_12 (by decide) (fun _ => ?_) (fun c9 => absurd (by decide) c9)
  refine lv_iconst (v := 1) hx hb dX12_line_31 (by decide) ?_
  refine va_put (D := D) (ref := "IntegerHouseModel") (ci := 12) (v := .int 1) (ty := .int) (C := RX12) (T := TX12) (N := 195) hx hb hts hin12 tyX12 tyX12_ok nmX12 hown hK hP hD hS 0 rfl rfl 0 (by decide) (hts (.fieldLink RX12 3 "IntegerHouseModel" "thrown" "I") (List.mem_cons_of_mem _ (List.mem_append_left _ (List.mem_of_getElem? (i := 2) rfl)))) (fun _ h9 => h9) rfl (by decide +kernel) rfl rfl (k_len e2) dX12_line_32 (fun H locs hP hD hS => ?_)
  have hP : va_P D vwCl [(h0, .inr (12, (f0.set 0 (.int 1))))] H := hP
  have hD : va_D A [(h0, .inr (12, (f0.set 0 (.int 1))))] := hD
  refine lv_aload_n hx hb dX12_line_35 rfl (lv_at hl 0 rfl) ?_
  refine va_get (D := D) (ref := "IntegerHouseModel") (ci := 12) (v := .int 1) (C := RX12) (T := TX12) (N := 195) hx hb hts hin12 hown hK hP 0 rfl rfl 0 (by decide) (hts (.fieldLink RX12 3 "IntegerHouseModel" "thrown" "I") (List.mem_cons_of_mem _ (List.mem_append_left _ (List.mem_of_getElem? (i := 2) rfl)))) (fun _ h9 => h9) (k_set e2) dX12_line_36 ?_
  refine lv_if_le (tgt := 46) hx hb dX12_line_39 (by decide) (fun c9 => absurd c9 (by decide)) (fun _ => ?_)
  refine lv_lconst (v := 0) hx hb dX12_line_42 (by decide) ?_
  refine lv_goto (tgt := 70) hx hb dX12_line_43 (by decide) ?_
  exact W.lret (v := 0) hx hb hr (fun t ht hW => ⟨⟨0, (), rfl, rfl, kB_mk ht hW hP hK hD⟩, hS.F ht⟩) hS.2.2 dX12_line_70
set_option maxHeartbeats 400000000 in
set_option maxRecDepth 100000 in
theorem c_X7_isLine_1 (l : Launch) (E : kE) (D : va_G) (cI cJ cB cZ : ClassId) (h0 : Nat) (x0 : Int32) (e0 : (x0 : Int32) < 1) : kI l E D (kT cI cJ cB cZ) yX7_isLine wsX7_isLine ({ frames := 0, cells := 0, slots := 0, locals := 0 }) [.ref h0, .int x0] [] (0) [] 0 0 := by
  intro sz
  refine Met.ofW (cc := cX7_isLine) (maxL := 2) (ret := (some .boolean)) (by decide) rfl ?_
  intro p e s m args below meth c s₁ B hml hv
  obtain ⟨rfl, hsz, hP, hK, hD0, hN, hX⟩ := hv
  have hx := B.exec
  have hb := B.bytes
  have hr := B.returns
  have hts := atoms_spec (ws := wsX7_isLine) B.pre
  have hown : s.vm.findClass RX7 = some m.cls := findClass_of_methodNamed B.named
  have hlocks := B.notSynchronized
  subst hsz
  have hD := hD0.self (sz := s.heap.size)
  have hAE := k_AE hD0 hX
  generalize hAe : va_A [] s.heap.size = A at hD hAE ⊢
  have hA : ∀ q : Nat, s.heap.size ≤ q → A q := fun q h => by rw [← hAe]; exact Or.inr h
  have hS : va_S A s.heap s.heap [] := va_S.rf
  have hP : va_P D vwCl [] s.heap := hP
  have hl := lv_entry ([.ref h0, .int x0] : List Value) (n := 2) (Nat.le_of_ble_eq_true rfl)
  rw [lg_entry_eq]
  generalize (lg_sl ([.ref h0, .int x0]) ++ List.replicate (2 - (lg_sl ([.ref h0, .int x0])).length) Slot.unset).toArray = ls at hl ⊢
  have hl : lv_has ls 2 [(0, .ref h0), (1, .int x0)] := hl
  refine lv_iload_n hx hb dX7_isLine_0 rfl (lv_at hl 1 rfl) ?_
  refine lv_iconst (v := 1) hx hb dX7_isLine_1 (by decide) ?_
  refine lv_icmp_lt (tgt := 17) hx hb dX7_isLine_2 (by decide) (fun _ => ?_) (fun c9 => absurd e0 c9)
  refine lv_iconst (v := 0) hx hb dX7_isLine_17 (by decide) ?_
  exact W.zret (v := 0) hx hb hr rfl (fun t ht hW => ⟨⟨0, (), rfl, rfl, kB_mk ht hW hP hK hD⟩, hS.F ht⟩) hS.2.2 dX7_isLine_18
set_option maxHeartbeats 400000000 in
set_option maxRecDepth 100000 in
theorem c_X11_line_1 (l : Launch) (E : kE) (D : va_G) (cI cJ cB cZ : ClassId) (h0 : Nat) (x0 : Int32) (x1 : Int32) (f0 : List Value) (h1 : Nat) (e0 : f0[11]? = some (.ref h1)) (e1 : (x0 : Int32) < 1) (hl9 : l.stackTraces = false) : kTJ l E D (kT cI cJ cB cZ) yX11_line wsX11_line ({ frames := 6, cells := 1, slots := 6, locals := 82 }) [.ref h0, .int x0, .int x1] [(h0, .inr (11, f0))] "java/lang/IndexOutOfBoundsException" 1 6 := by
  intro sz
  refine vx_ofW (cc := cX11_line) (maxL := 3) (ret := (some .long)) (by decide) rfl ?_
  intro p e s m args below meth c s₁ B hml ht9 hv
  obtain ⟨rfl, hsz, hP, hK, hD0, hN, hX⟩ := hv
  have hx := B.exec
  have hb := B.bytes
  have hr := B.returns
  have hts := atoms_spec (ws := wsX11_line) B.pre
  have hown : s.vm.findClass RX11 = some m.cls := findClass_of_methodNamed B.named
  have hlocks := B.notSynchronized
  have hin11 : ∀ w ∈ wsX110, w ∈ wsX11_line := (fun w h => (List.mem_cons_of_mem _ (List.mem_append_left _ (List.mem_append_left _ (List.mem_append_right _ h)))))
  subst hsz
  have hD := hD0.self (sz := s.heap.size)
  have hAE := k_AE hD0 hX
  generalize hAe : va_A [(h0, .inr (11, f0))] s.heap.size = A at hD hAE ⊢
  have hA : ∀ q : Nat, s.heap.size ≤ q → A q := fun q h => by rw [← hAe]; exact Or.inr h
  have hS : va_S A s.heap s.heap [] := va_S.rf
  have hP : va_P D vwCl [(h0, .inr (11, f0))] s.heap := hP
  have hl := lv_entry ([.ref h0, .int x0, .int x1] : List Value) (n := 3) (Nat.le_of_ble_eq_true rfl)
  rw [lg_entry_eq]
  generalize (lg_sl ([.ref h0, .int x0, .int x1]) ++ List.replicate (3 - (lg_sl ([.ref h0, .int x0, .int x1])).length) Slot.unset).toArray = ls at hl ⊢
  have hl : lv_has ls 3 [(0, .ref h0), (1, .int x0), (2, .int x1)] := hl
  refine lv_aload_n hx hb dX11_line_0 rfl (lv_at hl 0 rfl) ?_
  refine va_get (D := D) (ref := "IntegerHouse") (ci := 11) (v := .ref h1) (C := RX11) (T := TX11) (N := 15) hx hb hts hin11 hown hK hP 0 rfl rfl 11 (by decide) (hts (.fieldLink RX11 98 "IntegerHouse" "prover" "LIntegerHouse$Prover;") (List.mem_cons_of_mem _ (List.mem_append_left _ (List.mem_append_left _ (List.mem_append_left _ (List.mem_of_getElem? (i := 2) rfl)))))) (fun _ h9 => h9) e0 dX11_line_1 ?_
  refine lv_iload_n hx hb dX11_line_4 rfl (lv_at hl 1 rfl) ?_
  refine k_cVi (As := [.int x0]) (rest := []) (wc := []) (wr := [(h0, .inr (11, f0))]) (w1 := []) ⟨hx, hb, hml, hown, hts⟩ hN hX hAE hK hP hD hS hA [] [0] (ci := 7) rfl rfl rfl rfl (by decide +kernel) (by decide +kernel) (by decide +kernel) (c_X7_isLine_1 l E D cI cJ cB cZ h1 x0 e1) (cwV 1 hts gX11_line_X7_isLine rfl rfl rfl (by decide +kernel) ⟨Nat.le_of_ble_eq_true rfl, Nat.le_of_ble_eq_true rfl⟩) rfl hl.1 (Nat.le_of_ble_eq_true rfl) dX11_line_5 ⟨Nat.le_of_ble_eq_true rfl, Nat.le_of_ble_eq_true rfl⟩ (fun H locs hP hD hS => ?_)
  have hP : va_P D vwCl [(h0, .inr (11, f0))] H := hP
  have hD : va_D A [(h0, .inr (11, f0))] := hD
  refine lv_if_eq (tgt := 20) hx hb dX11_line_8 (by decide) (fun _ => ?_) (fun c9 => absurd (by decide) c9)
  obtain ⟨a9, a9r, a9o⟩ := kX.st hX hAE ("IntegerHouse", 403, "no such line or number of it") (List.mem_of_getElem? (i := 9) rfl)
  exact vx_throwSW (names := ["java/lang/RuntimeException", "java/lang/Exception"]) (A := A) hx hb hl9 hown (by decide +kernel) (by decide +kernel) (hts (.classLink RX11 197 "java/lang/IndexOutOfBoundsException") (List.mem_cons_of_mem _ (List.mem_append_left _ (List.mem_append_left _ (List.mem_append_left _ (List.mem_of_getElem? (i := 0) rfl)))))) (hts (.initialized "java/lang/IndexOutOfBoundsException") (List.mem_cons_of_mem _ (List.mem_append_left _ (List.mem_append_left _ (List.mem_append_left _ (List.mem_of_getElem? (i := 1) rfl)))))) a9r (vx_hat (L := vx_atS RX11 201 "java/lang/IndexOutOfBoundsException" ["java/lang/RuntimeException", "java/lang/Exception"]) (B := [.castable "java/lang/IndexOutOfBoundsException" "java/lang/IndexOutOfBoundsException", .declares (Bundle.initS "java/lang/RuntimeException"), .declares (Bundle.initS "java/lang/Exception"), .declares (Bundle.initS "java/lang/Throwable")]) (fun w h => hts w (List.mem_cons_of_mem _ (List.mem_append_right _ h))) (by decide +kernel) (vx_c (va_Nw.use rfl (kX.cast hX "java/lang/IndexOutOfBoundsException" (by decide))) (vx_c (va_Nw.use rfl (kX.decl hX "java/lang/RuntimeException" (by decide))) (vx_c (va_Nw.use rfl (kX.decl hX "java/lang/Exception" (by decide))) (vx_c (va_Nw.use rfl (kX.decl hX "java/lang/Throwable" (by decide))) vx_n))))) (by decide +kernel) (kX.us hX hAE) (kX.ss hX hAE) hS (by rw [hml]; exact hl.1) dX11_line_20 dX11_line_23 dX11_line_24 dX11_line_27 dX11_line_30 (fun x hx => (ht9 x hx).elim) (Nat.le_of_ble_eq_true rfl) (Nat.le_of_ble_eq_true rfl) (Nat.le_of_ble_eq_true rfl) (Nat.le_of_ble_eq_true rfl) hlocks (fun t h1 h2 h3 => k_tx hP hK hD hS t h1 h2 h3) hS.2.2 (Nat.le_of_ble_eq_true rfl) (Nat.le_of_ble_eq_true rfl)
set_option maxHeartbeats 400000000 in
set_option maxRecDepth 100000 in
theorem c_L_line_1 (l : Launch) (E : kE) (D : va_G) (cI cJ cB cZ : ClassId) (h0 : Nat) (x0 : Int32) (x1 : Int32) (h1 : Nat) (f0 : List Value) (h2 : Nat) (e0 : f0[11]? = some (.ref h2)) (e1 : (x0 : Int32) < 1) (hl9 : l.stackTraces = false) : kI l E D (kT cI cJ cB cZ) yL_line wsL_line ({ frames := 7, cells := 1, slots := 6, locals := 104 }) [.ref h0, .int x0, .int x1, .ref h1] [(h0, .inr (11, f0))] (1) [(h0, .inr (11, f0))] 1 6 := by
  intro sz
  refine k_metH (cc := cL_line) (maxL := 5) (ret := (some .int)) (hh := [(0, 9, 12, 25)]) (by decide) rfl ?_
  intro p e s m args below meth c s₁ B hml hv
  obtain ⟨rfl, hsz, hP, hK, hD0, hN, hX⟩ := hv
  have hx := B.exec
  have hb := B.bytes
  have hr := B.returns
  have hts := atoms_spec (ws := wsL_line) B.pre
  have hown : s.vm.findClass RL = some m.cls := findClass_of_methodNamed B.named
  have hlocks := B.notSynchronized
  subst hsz
  have hD := hD0.self (sz := s.heap.size)
  have hAE := k_AE hD0 hX
  generalize hAe : va_A [(h0, .inr (11, f0))] s.heap.size = A at hD hAE ⊢
  have hA : ∀ q : Nat, s.heap.size ≤ q → A q := fun q h => by rw [← hAe]; exact Or.inr h
  have hS : va_S A s.heap s.heap [] := va_S.rf
  have hP : va_P D vwCl [(h0, .inr (11, f0))] s.heap := hP
  have hl := lv_entry ([.ref h0, .int x0, .int x1, .ref h1] : List Value) (n := 5) (Nat.le_of_ble_eq_true rfl)
  rw [lg_entry_eq]
  generalize (lg_sl ([.ref h0, .int x0, .int x1, .ref h1]) ++ List.replicate (5 - (lg_sl ([.ref h0, .int x0, .int x1, .ref h1])).length) Slot.unset).toArray = ls at hl ⊢
  have hl : lv_has ls 5 [(0, .ref h0), (1, .int x0), (2, .int x1), (3, .ref h1)] := hl
  refine lv_aload_n hx hb dL_line_0 rfl (lv_at hl 3 rfl) ?_
  refine lv_iconst (v := 0) hx hb dL_line_1 (by decide) ?_
  refine lv_aload_n hx hb dL_line_2 rfl (lv_at hl 0 rfl) ?_
  refine lv_iload_n hx hb dL_line_3 rfl (lv_at hl 1 rfl) ?_
  refine lv_iload_n hx hb dL_line_4 rfl (lv_at hl 2 rfl) ?_
  refine k_cTl (As := [.int x0, .int x1]) (rest := [.int 0, .ref h1]) (wc := [(h0, .inr (11, f0))]) (wr := []) ⟨hx, hb, hml, hown, hts⟩ hN hX hAE hK hP hD hS hA [0] [] (ci := 11) rfl rfl rfl rfl (by decide +kernel) (by decide +kernel) (by decide +kernel) (c_X11_line_1 l E D cI cJ cB cZ h0 x0 x1 f0 h2 e0 e1 hl9) (cwV 2 hts gL_line_X11_line rfl rfl rfl (by decide +kernel) ⟨Nat.le_of_ble_eq_true rfl, Nat.le_of_ble_eq_true rfl⟩) rfl hl.1 (Nat.le_of_ble_eq_true rfl) dL_line_5 ⟨Nat.le_of_ble_eq_true rfl, Nat.le_of_ble_eq_true rfl⟩ (fun q9 ce H locs hP hD hS hce hcv hcl => ?_)
  have hP : va_P D vwCl [(h0, .inr (11, f0))] H := hP
  have hD : va_D A [(h0, .inr (11, f0))] := hD
  refine vx_catch (own := RL) (name := "java/lang/IndexOutOfBoundsException") hown [] ⟨0, 9, 12, 25⟩ [] (vx_table B (hts _ List.mem_cons_self)) (fun z hz => absurd hz List.not_mem_nil) (by decide) (by decide) (hts (.classLink RL 25 "java/lang/IndexOutOfBoundsException") (List.mem_cons_of_mem _ (List.mem_append_left _ (List.mem_append_left _ (List.mem_append_left _ (List.mem_of_getElem? (i := 0) rfl)))))) (va_Nw.use rfl (kX.cast hX "java/lang/IndexOutOfBoundsException" (by decide))) hce hcv hcl ?_
  refine W.eq (g2 := F0 m 12 ls [.ref q9]) rfl ?_
  refine W.widen (k := 1) (n := 6) (Nat.le_of_ble_eq_true rfl) (Nat.le_of_ble_eq_true rfl) ?_
  refine lv_astore (lv' := [(4, .ref q9), (0, .ref h0), (1, .int x0), (2, .int x1), (3, .ref h1)]) hx hb dL_line_12 hl (by decide) rfl (fun ls hl => ?_)
  refine lv_iconst (v := 1) hx hb dL_line_14 (by decide) ?_
  exact W.iret (v := 1) hx hb hr (fun t ht hW => ⟨⟨1, (), rfl, rfl, kB_mk ht hW hP hK hD⟩, hS.F ht⟩) hS.2.2 dL_line_15
set_option maxHeartbeats 400000000 in
set_option maxRecDepth 100000 in
theorem c_X12_in_18 (l : Launch) (E : kE) (D : va_G) (cI cJ cB cZ : ClassId) (y0 : Int64) (e0 : ((lg_cmp y0 1) : Int32) < 0) : kI l E D (kT cI cJ cB cZ) yX12_in wsX12_in ({ frames := 0, cells := 0, slots := 0, locals := 0 }) [.long y0, .long 1, .long 0] [] (0) [] 0 0 := by
  intro sz
  refine Met.ofW (cc := cX12_in) (maxL := 6) (ret := (some .boolean)) (by decide) rfl ?_
  intro p e s m args below meth c s₁ B hml hv
  obtain ⟨rfl, hsz, hP, hK, hD0, hN, hX⟩ := hv
  have hx := B.exec
  have hb := B.bytes
  have hr := B.returns
  have hts := atoms_spec (ws := wsX12_in) B.pre
  have hown : s.vm.findClass RX12 = some m.cls := findClass_of_methodNamed B.named
  have hlocks := B.notSynchronized
  subst hsz
  have hD := hD0.self (sz := s.heap.size)
  have hAE := k_AE hD0 hX
  generalize hAe : va_A [] s.heap.size = A at hD hAE ⊢
  have hA : ∀ q : Nat, s.heap.size ≤ q → A q := fun q h => by rw [← hAe]; exact Or.inr h
  have hS : va_S A s.heap s.heap [] := va_S.rf
  have hP : va_P D vwCl [] s.heap := hP
  have hl := lv_entry ([.long y0, .long 1, .long 0] : List Value) (n := 6) (Nat.le_of_ble_eq_true rfl)
  rw [lg_entry_eq]
  generalize (lg_sl ([.long y0, .long 1, .long 0]) ++ List.replicate (6 - (lg_sl ([.long y0, .long 1, .long 0])).length) Slot.unset).toArray = ls at hl ⊢
  have hl : lv_has ls 6 [(0, .long y0), (2, .long 1), (4, .long 0)] := hl
  refine lv_lload_n hx hb dX12_in_0 rfl (lv_at hl 0 rfl) ?_
  refine lv_lload_n hx hb dX12_in_1 rfl (lv_at hl 1 rfl) ?_
  refine W.lcmp hx hb dX12_in_2 ?_
  refine lv_if_lt (tgt := 17) hx hb dX12_in_3 (by decide) (fun _ => ?_) (fun c9 => absurd e0 c9)
  refine lv_iconst (v := 0) hx hb dX12_in_17 (by decide) ?_
  exact W.zret (v := 0) hx hb hr rfl (fun t ht hW => ⟨⟨0, (), rfl, rfl, kB_mk ht hW hP hK hD⟩, hS.F ht⟩) hS.2.2 dX12_in_18
set_option maxHeartbeats 400000000 in
set_option maxRecDepth 100000 in
theorem c_X12_line_1 (l : Launch) (E : kE) (D : va_G) (cI cJ cB cZ : ClassId) (h0 : Nat) (x0 : Int32) (x1 : Int32) (f0 : List Value) (e0 : f0[187]? = some (.int 0)) (e1 : (x0 : Int32) < 1) (e2 : f0[0]? = some (.int 0)) : kJ l E D (kT cI cJ cB cZ) yX12_line wsX12_line ({ frames := 1, cells := 0, slots := 0, locals := 25 }) [.ref h0, .int x0, .int x1] [(h0, .inr (12, f0))] (0) [(h0, .inr (12, (f0.set 0 (.int 1))))] 0 0 := by
  intro sz
  refine Met.ofW (cc := cX12_line) (maxL := 3) (ret := (some .long)) (by decide) rfl ?_
  intro p e s m args below meth c s₁ B hml hv
  obtain ⟨rfl, hsz, hP, hK, hD0, hN, hX⟩ := hv
  have hx := B.exec
  have hb := B.bytes
  have hr := B.returns
  have hts := atoms_spec (ws := wsX12_line) B.pre
  have hown : s.vm.findClass RX12 = some m.cls := findClass_of_methodNamed B.named
  have hlocks := B.notSynchronized
  have hin12 : ∀ w ∈ wsX120, w ∈ wsX12_line := (fun w h => (List.mem_cons_of_mem _ (List.mem_append_right _ h)))
  subst hsz
  have hD := hD0.self (sz := s.heap.size)
  have hAE := k_AE hD0 hX
  generalize hAe : va_A [(h0, .inr (12, f0))] s.heap.size = A at hD hAE ⊢
  have hA : ∀ q : Nat, s.heap.size ≤ q → A q := fun q h => by rw [← hAe]; exact Or.inr h
  have hS : va_S A s.heap s.heap [] := va_S.rf
  have hP : va_P D vwCl [(h0, .inr (12, f0))] s.heap := hP
  have hl := lv_entry ([.ref h0, .int x0, .int x1] : List Value) (n := 3) (Nat.le_of_ble_eq_true rfl)
  rw [lg_entry_eq]
  generalize (lg_sl ([.ref h0, .int x0, .int x1]) ++ List.replicate (3 - (lg_sl ([.ref h0, .int x0, .int x1])).length) Slot.unset).toArray = ls at hl ⊢
  have hl : lv_has ls 3 [(0, .ref h0), (1, .int x0), (2, .int x1)] := hl
  refine lv_aload_n hx hb dX12_line_0 rfl (lv_at hl 0 rfl) ?_
  refine lv_iload_n hx hb dX12_line_1 rfl (lv_at hl 1 rfl) ?_
  refine lv_i2l (v := (Int32.toInt64 x0)) hx hb dX12_line_2 rfl ?_
  refine lv_lconst (v := 1) hx hb dX12_line_3 (by decide) ?_
  refine lv_aload_n hx hb dX12_line_4 rfl (lv_at hl 0 rfl) ?_
  refine va_get (D := D) (ref := "IntegerHouseModel") (ci := 12) (v := .int 0) (C := RX12) (T := TX12) (N := 195) hx hb hts hin12 hown hK hP 0 rfl rfl 187 (by decide) (hts (.fieldLink RX12 1247 "IntegerHouseModel" "lines" "I") (List.mem_cons_of_mem _ (List.mem_append_left _ (List.mem_of_getElem? (i := 0) rfl)))) (fun _ h9 => h9) e0 dX12_line_5 ?_
  refine lv_i2l (v := 0) hx hb dX12_line_8 (by decide) ?_
  refine k_cSi (As := [.long (Int32.toInt64 x0), .long 1, .long 0]) (rest := [.ref h0]) (wc := []) (wr := [(h0, .inr (12, f0))]) (w1 := []) ⟨hx, hb, hml, hown, hts⟩ hN hX hAE hK hP hD hS hA [] [0] rfl rfl (by decide +kernel) (by decide +kernel) (by decide +kernel) (c_X12_in_18 l E D cI cJ cB cZ (Int32.toInt64 x0) ((k_n4 (x := x0) (c := 1) (C := 1) (by decide)).mpr e1)) (va_cwS 3 hts gX12_line_X12_in rfl rfl rfl (by decide +kernel) ⟨Nat.le_of_ble_eq_true rfl, Nat.le_of_ble_eq_true rfl⟩) rfl hl.1 (Nat.le_of_ble_eq_true rfl) dX12_line_9 ⟨Nat.le_of_ble_eq_true rfl, Nat.le_of_ble_eq_true rfl⟩ (fun H locs hP hD hS => ?_)
  have hP : va_P D vwCl [(h0, .inr (12, f0))] H := hP
  have hD : va_D A [(h0, .inr (12, f0))] := hD
  refine lv_if_eq (tgt := 31) hx hb dX12_line_12 (by decide) (fun _ => ?_) (fun c9 => absurd (by decide) c9)
  refine lv_iconst (v := 1) hx hb dX12_line_31 (by decide) ?_
  refine va_put (D := D) (ref := "IntegerHouseModel") (ci := 12) (v := .int 1) (ty := .int) (C := RX12) (T := TX12) (N := 195) hx hb hts hin12 tyX12 tyX12_ok nmX12 hown hK hP hD hS 0 rfl rfl 0 (by decide) (hts (.fieldLink RX12 3 "IntegerHouseModel" "thrown" "I") (List.mem_cons_of_mem _ (List.mem_append_left _ (List.mem_of_getElem? (i := 2) rfl)))) (fun _ h9 => h9) rfl (by decide +kernel) rfl rfl (k_len e2) dX12_line_32 (fun H locs hP hD hS => ?_)
  have hP : va_P D vwCl [(h0, .inr (12, (f0.set 0 (.int 1))))] H := hP
  have hD : va_D A [(h0, .inr (12, (f0.set 0 (.int 1))))] := hD
  refine lv_aload_n hx hb dX12_line_35 rfl (lv_at hl 0 rfl) ?_
  refine va_get (D := D) (ref := "IntegerHouseModel") (ci := 12) (v := .int 1) (C := RX12) (T := TX12) (N := 195) hx hb hts hin12 hown hK hP 0 rfl rfl 0 (by decide) (hts (.fieldLink RX12 3 "IntegerHouseModel" "thrown" "I") (List.mem_cons_of_mem _ (List.mem_append_left _ (List.mem_of_getElem? (i := 2) rfl)))) (fun _ h9 => h9) (k_set e2) dX12_line_36 ?_
  refine lv_if_le (tgt := 46) hx hb dX12_line_39 (by decide) (fun c9 => absurd c9 (by decide)) (fun _ => ?_)
  refine lv_lconst (v := 0) hx hb dX12_line_42 (by decide) ?_
  refine lv_goto (tgt := 70) hx hb dX12_line_43 (by decide) ?_
  exact W.lret (v := 0) hx hb hr (fun t ht hW => ⟨⟨0, (), rfl, rfl, kB_mk ht hW hP hK hD⟩, hS.F ht⟩) hS.2.2 dX12_line_70
set_option maxHeartbeats 400000000 in
set_option maxRecDepth 100000 in
theorem c_X0_boundDigit_0 (l : Launch) (E : kE) (D : va_G) (cI cJ cB cZ : ClassId) (h0 : Nat) (x0 : Int32) (f0 : List Value) (h1 : Nat) (f1 : List Value) (e0 : f0[0]? = some (.ref h1)) (e1 : f1[12]? = some (.int 0)) : kI l E D (kT cI cJ cB cZ) yX0_boundDigit wsX0_boundDigit ({ frames := 0, cells := 0, slots := 0, locals := 0 }) [.ref h0, .int x0] [(h0, .inr (0, f0)), (h1, .inr (2, f1))] (0) [(h0, .inr (0, f0)), (h1, .inr (2, f1))] 0 0 := by
  intro sz
  refine Met.ofW (cc := cX0_boundDigit) (maxL := 8) (ret := (some .int)) (by decide) rfl ?_
  intro p e s m args below meth c s₁ B hml hv
  obtain ⟨rfl, hsz, hP, hK, hD0, hN, hX⟩ := hv
  have hx := B.exec
  have hb := B.bytes
  have hr := B.returns
  have hts := atoms_spec (ws := wsX0_boundDigit) B.pre
  have hown : s.vm.findClass RX0 = some m.cls := findClass_of_methodNamed B.named
  have hlocks := B.notSynchronized
  have hin0 : ∀ w ∈ wsX00, w ∈ wsX0_boundDigit := (fun w h => (List.mem_cons_of_mem _ (List.mem_append_left _ (List.mem_append_right _ h))))
  have hin2 : ∀ w ∈ wsX20, w ∈ wsX0_boundDigit := (fun w h => (List.mem_cons_of_mem _ (List.mem_append_right _ h)))
  subst hsz
  have hD := hD0.self (sz := s.heap.size)
  have hAE := k_AE hD0 hX
  generalize hAe : va_A [(h0, .inr (0, f0)), (h1, .inr (2, f1))] s.heap.size = A at hD hAE ⊢
  have hA : ∀ q : Nat, s.heap.size ≤ q → A q := fun q h => by rw [← hAe]; exact Or.inr h
  have hS : va_S A s.heap s.heap [] := va_S.rf
  have hP : va_P D vwCl [(h0, .inr (0, f0)), (h1, .inr (2, f1))] s.heap := hP
  have hl := lv_entry ([.ref h0, .int x0] : List Value) (n := 8) (Nat.le_of_ble_eq_true rfl)
  rw [lg_entry_eq]
  generalize (lg_sl ([.ref h0, .int x0]) ++ List.replicate (8 - (lg_sl ([.ref h0, .int x0])).length) Slot.unset).toArray = ls at hl ⊢
  have hl : lv_has ls 8 [(0, .ref h0), (1, .int x0)] := hl
  refine lv_iconst (v := 0) hx hb dX0_boundDigit_0 (by decide) ?_
  refine lv_istore_n (lv' := [(2, .int 0), (0, .ref h0), (1, .int x0)]) hx hb dX0_boundDigit_1 rfl hl (by decide) rfl (fun ls hl => ?_)
  refine lv_lconst (v := 1) hx hb dX0_boundDigit_2 (by decide) ?_
  refine lv_lstore_n (lv' := [(3, .long 1), (2, .int 0), (0, .ref h0), (1, .int x0)]) hx hb dX0_boundDigit_3 rfl hl (by decide) rfl (fun ls hl => ?_)
  refine lv_iconst (v := 0) hx hb dX0_boundDigit_4 (by decide) ?_
  refine lv_istore (lv' := [(5, .int 0), (3, .long 1), (2, .int 0), (0, .ref h0), (1, .int x0)]) hx hb dX0_boundDigit_5 hl (by decide) rfl (fun ls hl => ?_)
  refine lv_iload hx hb dX0_boundDigit_7 (lv_at hl 0 rfl) ?_
  refine lv_aload_n hx hb dX0_boundDigit_9 rfl (lv_at hl 3 rfl) ?_
  refine va_get (D := D) (ref := "IntegerHouse$Answers") (ci := 0) (v := .ref h1) (C := RX0) (T := TX0) (N := 19) hx hb hts hin0 hown hK hP 0 rfl rfl 0 (by decide) (hts (.fieldLink RX0 44 "IntegerHouse$Answers" "house" "LIntegerHouse$House;") (List.mem_cons_of_mem _ (List.mem_append_left _ (List.mem_append_left _ (List.mem_append_left _ (List.mem_of_getElem? (i := 0) rfl)))))) (fun _ h9 => h9) e0 dX0_boundDigit_10 ?_
  refine va_getN (host := "IntegerHouse") (D := D) (ref := "IntegerHouse$House") (ci := 2) (v := .int 0) (C := RX2) (T := TX2) (N := 16) hx hb hts hin2 hown hK hP 1 rfl rfl 12 (by decide) (va_Nw.use rfl (hN.1 ("IntegerHouse$Answers", 173, "IntegerHouse$House", "poolSize", "I", "IntegerHouse") (List.mem_of_getElem? (i := 17) rfl))) (fun _ h9 => h9) e1 dX0_boundDigit_13 ?_
  refine lv_icmp_ge (tgt := 85) hx hb dX0_boundDigit_16 (by decide) (fun _ => ?_) (fun c9 => absurd (by decide) c9)
  refine lv_iload_n hx hb dX0_boundDigit_85 rfl (lv_at hl 2 rfl) ?_
  refine lv_if_eq (tgt := 103) hx hb dX0_boundDigit_86 (by decide) (fun _ => ?_) (fun c9 => absurd (by decide) c9)
  refine lv_iconst (v := 0) hx hb dX0_boundDigit_103 (by decide) ?_
  exact W.iret (v := 0) hx hb hr (fun t ht hW => ⟨⟨0, (), rfl, rfl, kB_mk ht hW hP hK hD⟩, hS.F ht⟩) hS.2.2 dX0_boundDigit_104
set_option maxHeartbeats 400000000 in
set_option maxRecDepth 100000 in
theorem c_X11_bound_0 (l : Launch) (E : kE) (D : va_G) (cI cJ cB cZ : ClassId) (h0 : Nat) (x0 : Int32) (f0 : List Value) (h1 : Nat) (f1 : List Value) (h2 : Nat) (f2 : List Value) (h3 : Nat) (f3 : List Value) (e0 : f0[1]? = some (.ref h1)) (e1 : f1[8]? = some (.int 0)) (e2 : f0[7]? = some (.ref h2)) (e3 : f2[0]? = some (.ref h3)) (e4 : f3[12]? = some (.int 0)) : kI l E D (kT cI cJ cB cZ) yX11_bound wsX11_bound ({ frames := 1, cells := 0, slots := 0, locals := 27 }) [.ref h0, .int x0] [(h0, .inr (11, f0)), (h1, .inr (1, f1)), (h2, .inr (0, f2)), (h3, .inr (2, f3))] (0) [(h0, .inr (11, f0)), (h1, .inr (1, f1)), (h2, .inr (0, f2)), (h3, .inr (2, f3))] 0 0 := by
  intro sz
  refine Met.ofW (cc := cX11_bound) (maxL := 2) (ret := (some .int)) (by decide) rfl ?_
  intro p e s m args below meth c s₁ B hml hv
  obtain ⟨rfl, hsz, hP, hK, hD0, hN, hX⟩ := hv
  have hx := B.exec
  have hb := B.bytes
  have hr := B.returns
  have hts := atoms_spec (ws := wsX11_bound) B.pre
  have hown : s.vm.findClass RX11 = some m.cls := findClass_of_methodNamed B.named
  have hlocks := B.notSynchronized
  have hin11 : ∀ w ∈ wsX110, w ∈ wsX11_bound := (fun w h => (List.mem_cons_of_mem _ (List.mem_append_left _ (List.mem_append_left _ (List.mem_append_left _ (List.mem_append_right _ h))))))
  have hin1 : ∀ w ∈ wsX10, w ∈ wsX11_bound := (fun w h => (List.mem_cons_of_mem _ (List.mem_append_left _ (List.mem_append_left _ (List.mem_append_right _ h)))))
  subst hsz
  have hD := hD0.self (sz := s.heap.size)
  have hAE := k_AE hD0 hX
  generalize hAe : va_A [(h0, .inr (11, f0)), (h1, .inr (1, f1)), (h2, .inr (0, f2)), (h3, .inr (2, f3))] s.heap.size = A at hD hAE ⊢
  have hA : ∀ q : Nat, s.heap.size ≤ q → A q := fun q h => by rw [← hAe]; exact Or.inr h
  have hS : va_S A s.heap s.heap [] := va_S.rf
  have hP : va_P D vwCl [(h0, .inr (11, f0)), (h1, .inr (1, f1)), (h2, .inr (0, f2)), (h3, .inr (2, f3))] s.heap := hP
  have hl := lv_entry ([.ref h0, .int x0] : List Value) (n := 2) (Nat.le_of_ble_eq_true rfl)
  rw [lg_entry_eq]
  generalize (lg_sl ([.ref h0, .int x0]) ++ List.replicate (2 - (lg_sl ([.ref h0, .int x0])).length) Slot.unset).toArray = ls at hl ⊢
  have hl : lv_has ls 2 [(0, .ref h0), (1, .int x0)] := hl
  refine lv_aload_n hx hb dX11_bound_0 rfl (lv_at hl 0 rfl) ?_
  refine va_get (D := D) (ref := "IntegerHouse") (ci := 11) (v := .ref h1) (C := RX11) (T := TX11) (N := 15) hx hb hts hin11 hown hK hP 0 rfl rfl 1 (by decide) (hts (.fieldLink RX11 16 "IntegerHouse" "disk" "LIntegerHouse$Disk;") (List.mem_cons_of_mem _ (List.mem_append_left _ (List.mem_append_left _ (List.mem_append_left _ (List.mem_append_left _ (List.mem_append_left _ (List.mem_of_getElem? (i := 0) rfl)))))))) (fun _ h9 => h9) e0 dX11_bound_1 ?_
  refine va_getN (host := "IntegerHouse") (D := D) (ref := "IntegerHouse$Disk") (ci := 1) (v := .int 0) (C := RX1) (T := TX1) (N := 9) hx hb hts hin1 hown hK hP 1 rfl rfl 8 (by decide) (va_Nw.use rfl (hN.1 ("IntegerHouse", 122, "IntegerHouse$Disk", "down", "Z", "IntegerHouse") (List.mem_of_getElem? (i := 3) rfl))) (fun _ h9 => h9) e1 dX11_bound_4 ?_
  refine lv_if_eq (tgt := 15) hx hb dX11_bound_7 (by decide) (fun _ => ?_) (fun c9 => absurd (by decide) c9)
  refine lv_aload_n hx hb dX11_bound_15 rfl (lv_at hl 0 rfl) ?_
  refine va_get (D := D) (ref := "IntegerHouse") (ci := 11) (v := .ref h2) (C := RX11) (T := TX11) (N := 15) hx hb hts hin11 hown hK hP 0 rfl rfl 7 (by decide) (hts (.fieldLink RX11 64 "IntegerHouse" "answers" "LIntegerHouse$Answers;") (List.mem_cons_of_mem _ (List.mem_append_left _ (List.mem_append_left _ (List.mem_append_left _ (List.mem_append_left _ (List.mem_append_left _ (List.mem_of_getElem? (i := 1) rfl)))))))) (fun _ h9 => h9) e2 dX11_bound_16 ?_
  refine lv_iload_n hx hb dX11_bound_19 rfl (lv_at hl 1 rfl) ?_
  refine k_cVi (As := [.int x0]) (rest := []) (wc := [(h2, .inr (0, f2)), (h3, .inr (2, f3))]) (wr := [(h0, .inr (11, f0)), (h1, .inr (1, f1))]) (w1 := [(h2, .inr (0, f2)), (h3, .inr (2, f3))]) ⟨hx, hb, hml, hown, hts⟩ hN hX hAE hK hP hD hS hA [2, 3] [0, 1] (ci := 0) rfl rfl rfl rfl (by decide +kernel) (by decide +kernel) (by decide +kernel) (c_X0_boundDigit_0 l E D cI cJ cB cZ h2 x0 f2 h3 f3 e3 e4) (cwV 1 hts gX11_bound_X0_boundDigit rfl rfl rfl (by decide +kernel) ⟨Nat.le_of_ble_eq_true rfl, Nat.le_of_ble_eq_true rfl⟩) rfl hl.1 (Nat.le_of_ble_eq_true rfl) dX11_bound_20 ⟨Nat.le_of_ble_eq_true rfl, Nat.le_of_ble_eq_true rfl⟩ (fun H locs hP hD hS => ?_)
  have hP : va_P D vwCl [(h0, .inr (11, f0)), (h1, .inr (1, f1)), (h2, .inr (0, f2)), (h3, .inr (2, f3))] H := hP
  have hD : va_D A [(h0, .inr (11, f0)), (h1, .inr (1, f1)), (h2, .inr (0, f2)), (h3, .inr (2, f3))] := hD
  exact W.iret (v := 0) hx hb hr (fun t ht hW => ⟨⟨0, (), rfl, rfl, kB_mk ht hW hP hK hD⟩, hS.F ht⟩) hS.2.2 dX11_bound_23
set_option maxHeartbeats 400000000 in
set_option maxRecDepth 100000 in
theorem c_X12_bound_0 (l : Launch) (E : kE) (D : va_G) (cI cJ cB cZ : ClassId) (h0 : Nat) (x0 : Int32) (f0 : List Value) (h1 : Nat) (g0 : Nat → Int32) (e0 : f0[0]? = some (.int 0)) (e1 : f0[5]? = some (.int 0)) (e2 : f0[119]? = some (.int 0)) (e3 : f0[121]? = some (.ref h1)) (e4 : f0[33]? = some (.int 0)) : kI l E D (kT cI cJ cB cZ) yX12_bound wsX12_bound ({ frames := 2, cells := 0, slots := 0, locals := 42 }) [.ref h0, .int x0] [(h0, .inr (12, f0)), (h1, .inl (cZ, 26, .inl g0))] (0) [(h0, .inr (12, ((f0.set 0 (.int 0)).set 119 (.int 0)))), (h1, .inl (cZ, 26, .inl (upd (upd (upd (upd (upd (upd (upd (upd (upd (upd (upd (upd (upd (upd (upd (upd (upd (upd (upd (upd (upd (upd (upd (upd (upd (upd g0 0 0) 1 0) 2 0) 3 0) 4 0) 5 0) 6 0) 7 0) 8 0) 9 0) 10 0) 11 0) 12 0) 13 0) 14 0) 15 0) 16 0) 17 0) 18 0) 19 0) 20 0) 21 0) 22 0) 23 0) 24 0) 25 0)))] 0 0 := by
  intro sz
  refine Met.ofW (cc := cX12_bound) (maxL := 8) (ret := (some .int)) (by decide) rfl ?_
  intro p e s m args below meth c s₁ B hml hv
  obtain ⟨rfl, hsz, hP, hK, hD0, hN, hX⟩ := hv
  have hx := B.exec
  have hb := B.bytes
  have hr := B.returns
  have hts := atoms_spec (ws := wsX12_bound) B.pre
  have hown : s.vm.findClass RX12 = some m.cls := findClass_of_methodNamed B.named
  have hlocks := B.notSynchronized
  have hin12 : ∀ w ∈ wsX120, w ∈ wsX12_bound := (fun w h => (List.mem_cons_of_mem _ (List.mem_append_right _ h)))
  subst hsz
  have hD := hD0.self (sz := s.heap.size)
  have hAE := k_AE hD0 hX
  generalize hAe : va_A [(h0, .inr (12, f0)), (h1, .inl (cZ, 26, .inl g0))] s.heap.size = A at hD hAE ⊢
  have hA : ∀ q : Nat, s.heap.size ≤ q → A q := fun q h => by rw [← hAe]; exact Or.inr h
  have hS : va_S A s.heap s.heap [] := va_S.rf
  have hP : va_P D vwCl [(h0, .inr (12, f0)), (h1, .inl (cZ, 26, .inl g0))] s.heap := hP
  have hl := lv_entry ([.ref h0, .int x0] : List Value) (n := 8) (Nat.le_of_ble_eq_true rfl)
  rw [lg_entry_eq]
  generalize (lg_sl ([.ref h0, .int x0]) ++ List.replicate (8 - (lg_sl ([.ref h0, .int x0])).length) Slot.unset).toArray = ls at hl ⊢
  have hl : lv_has ls 8 [(0, .ref h0), (1, .int x0)] := hl
  refine lv_aload_n hx hb dX12_bound_0 rfl (lv_at hl 0 rfl) ?_
  refine k_cVi (As := []) (rest := []) (wc := [(h0, .inr (12, f0))]) (wr := [(h1, .inl (cZ, 26, .inl g0))]) (w1 := [(h0, .inr (12, (f0.set 0 (.int 0))))]) ⟨hx, hb, hml, hown, hts⟩ hN hX hAE hK hP hD hS hA [0] [1] (ci := 12) rfl rfl rfl rfl (by decide +kernel) (by decide +kernel) (by decide +kernel) (c_X12_asks_0 l E D cI cJ cB cZ h0 f0 e0 e1) (cwV 0 hts gX12_bound_X12_asks rfl rfl rfl (by decide +kernel) ⟨Nat.le_of_ble_eq_true rfl, Nat.le_of_ble_eq_true rfl⟩) rfl hl.1 (Nat.le_of_ble_eq_true rfl) dX12_bound_1 ⟨Nat.le_of_ble_eq_true rfl, Nat.le_of_ble_eq_true rfl⟩ (fun H locs hP hD hS => ?_)
  have hP : va_P D vwCl [(h1, .inl (cZ, 26, .inl g0)), (h0, .inr (12, (f0.set 0 (.int 0))))] H := hP
  have hD : va_D A [(h1, .inl (cZ, 26, .inl g0)), (h0, .inr (12, (f0.set 0 (.int 0))))] := hD
  refine lv_if_ne (tgt := 10) hx hb dX12_bound_4 (by decide) (fun _ => ?_) (fun c9 => absurd c9 (by decide))
  refine lv_aload_n hx hb dX12_bound_10 rfl (lv_at hl 0 rfl) ?_
  refine k_cVv (As := []) (rest := []) (wc := [(h0, .inr (12, (f0.set 0 (.int 0)))), (h1, .inl (cZ, 26, .inl g0))]) (wr := []) (w1 := (fun _ : Unit => [(h0, .inr (12, ((f0.set 0 (.int 0)).set 119 (.int 0)))), (h1, .inl (cZ, 26, .inl (upd (upd (upd (upd (upd (upd (upd (upd (upd (upd (upd (upd (upd (upd (upd (upd (upd (upd (upd (upd (upd (upd (upd (upd (upd (upd g0 0 0) 1 0) 2 0) 3 0) 4 0) 5 0) 6 0) 7 0) 8 0) 9 0) 10 0) 11 0) 12 0) 13 0) 14 0) 15 0) 16 0) 17 0) 18 0) 19 0) 20 0) 21 0) 22 0) 23 0) 24 0) 25 0)))])) ⟨hx, hb, hml, hown, hts⟩ hN hX hAE hK hP hD hS hA [1, 0] [] (ci := 12) rfl rfl rfl rfl (by decide +kernel) (by decide +kernel) (by decide +kernel) (c_X12_putOn_0 l E D cI cJ cB cZ h0 ((f0.set 0 (.int 0))) h1 g0 (k_ne (by decide) e2) (k_ne (by decide) e3) (k_ne (by decide) e4)) (cwV 0 hts gX12_bound_X12_putOn rfl rfl rfl (by decide +kernel) ⟨Nat.le_of_ble_eq_true rfl, Nat.le_of_ble_eq_true rfl⟩) rfl hl.1 (Nat.le_of_ble_eq_true rfl) dX12_bound_11 ⟨Nat.le_of_ble_eq_true rfl, Nat.le_of_ble_eq_true rfl⟩ (fun _ H locs hP hD hS => ?_)
  have hP : va_P D vwCl [(h0, .inr (12, ((f0.set 0 (.int 0)).set 119 (.int 0)))), (h1, .inl (cZ, 26, .inl (upd (upd (upd (upd (upd (upd (upd (upd (upd (upd (upd (upd (upd (upd (upd (upd (upd (upd (upd (upd (upd (upd (upd (upd (upd (upd g0 0 0) 1 0) 2 0) 3 0) 4 0) 5 0) 6 0) 7 0) 8 0) 9 0) 10 0) 11 0) 12 0) 13 0) 14 0) 15 0) 16 0) 17 0) 18 0) 19 0) 20 0) 21 0) 22 0) 23 0) 24 0) 25 0)))] H := hP
  have hD : va_D A [(h0, .inr (12, ((f0.set 0 (.int 0)).set 119 (.int 0)))), (h1, .inl (cZ, 26, .inl (upd (upd (upd (upd (upd (upd (upd (upd (upd (upd (upd (upd (upd (upd (upd (upd (upd (upd (upd (upd (upd (upd (upd (upd (upd (upd g0 0 0) 1 0) 2 0) 3 0) 4 0) 5 0) 6 0) 7 0) 8 0) 9 0) 10 0) 11 0) 12 0) 13 0) 14 0) 15 0) 16 0) 17 0) 18 0) 19 0) 20 0) 21 0) 22 0) 23 0) 24 0) 25 0)))] := hD
  refine lv_lconst (v := 0) hx hb dX12_bound_14 (by decide) ?_
  refine lv_lstore_n (lv' := [(2, .long 0), (0, .ref h0), (1, .int x0)]) hx hb dX12_bound_15 rfl hl (by decide) rfl (fun ls hl => ?_)
  refine lv_lconst (v := 1) hx hb dX12_bound_16 (by decide) ?_
  refine lv_lstore (lv' := [(4, .long 1), (2, .long 0), (0, .ref h0), (1, .int x0)]) hx hb dX12_bound_17 hl (by decide) rfl (fun ls hl => ?_)
  refine lv_iconst (v := 0) hx hb dX12_bound_19 (by decide) ?_
  refine lv_istore (lv' := [(6, .int 0), (4, .long 1), (2, .long 0), (0, .ref h0), (1, .int x0)]) hx hb dX12_bound_20 hl (by decide) rfl (fun ls hl => ?_)
  refine lv_iload hx hb dX12_bound_22 (lv_at hl 0 rfl) ?_
  refine lv_aload_n hx hb dX12_bound_24 rfl (lv_at hl 3 rfl) ?_
  refine va_get (D := D) (ref := "IntegerHouseModel") (ci := 12) (v := .int 0) (C := RX12) (T := TX12) (N := 195) hx hb hts hin12 hown hK hP 0 rfl rfl 119 (by decide) (hts (.fieldLink RX12 928 "IntegerHouseModel" "work" "I") (List.mem_cons_of_mem _ (List.mem_append_left _ (List.mem_append_left _ (List.mem_of_getElem? (i := 0) rfl))))) (fun _ h9 => h9) (k_set (k_ne (by decide) e2)) dX12_bound_25 ?_
  refine lv_icmp_ge (tgt := 157) hx hb dX12_bound_28 (by decide) (fun _ => ?_) (fun c9 => absurd (by decide) c9)
  refine lv_lload_n hx hb dX12_bound_157 rfl (lv_at hl 2 rfl) ?_
  refine lv_lconst (v := 0) hx hb dX12_bound_158 (by decide) ?_
  refine W.lcmp hx hb dX12_bound_159 ?_
  refine k_topi (y := 0) (by decide) ?_
  refine lv_if_eq (tgt := 174) hx hb dX12_bound_160 (by decide) (fun _ => ?_) (fun c9 => absurd (by decide) c9)
  refine lv_iconst (v := 0) hx hb dX12_bound_174 (by decide) ?_
  exact W.iret (v := 0) hx hb hr (fun t ht hW => ⟨⟨0, (), rfl, rfl, kB_mk ht hW hP hK hD⟩, hS.F ht⟩) hS.2.2 dX12_bound_175
set_option maxHeartbeats 400000000 in
set_option maxRecDepth 100000 in
theorem c_X11_audit_0 (l : Launch) (E : kE) (D : va_G) (cI cJ cB cZ : ClassId) (h0 : Nat) (f0 : List Value) (h1 : Nat) (f1 : List Value) (e0 : f0[1]? = some (.ref h1)) (e1 : f1[8]? = some (.int 0)) : kI l E D (kT cI cJ cB cZ) yX11_audit wsX11_audit ({ frames := 0, cells := 0, slots := 0, locals := 0 }) [.ref h0] [(h0, .inr (11, f0)), (h1, .inr (1, f1))] (0) [(h0, .inr (11, f0)), (h1, .inr (1, f1))] 0 0 := by
  intro sz
  refine Met.ofW (cc := cX11_audit) (maxL := 1) (ret := (some .int)) (by decide) rfl ?_
  intro p e s m args below meth c s₁ B hml hv
  obtain ⟨rfl, hsz, hP, hK, hD0, hN, hX⟩ := hv
  have hx := B.exec
  have hb := B.bytes
  have hr := B.returns
  have hts := atoms_spec (ws := wsX11_audit) B.pre
  have hown : s.vm.findClass RX11 = some m.cls := findClass_of_methodNamed B.named
  have hlocks := B.notSynchronized
  have hin11 : ∀ w ∈ wsX110, w ∈ wsX11_audit := (fun w h => (List.mem_cons_of_mem _ (List.mem_append_left _ (List.mem_append_right _ h))))
  have hin1 : ∀ w ∈ wsX10, w ∈ wsX11_audit := (fun w h => (List.mem_cons_of_mem _ (List.mem_append_right _ h)))
  subst hsz
  have hD := hD0.self (sz := s.heap.size)
  have hAE := k_AE hD0 hX
  generalize hAe : va_A [(h0, .inr (11, f0)), (h1, .inr (1, f1))] s.heap.size = A at hD hAE ⊢
  have hA : ∀ q : Nat, s.heap.size ≤ q → A q := fun q h => by rw [← hAe]; exact Or.inr h
  have hS : va_S A s.heap s.heap [] := va_S.rf
  have hP : va_P D vwCl [(h0, .inr (11, f0)), (h1, .inr (1, f1))] s.heap := hP
  have hl := lv_entry ([.ref h0] : List Value) (n := 1) (Nat.le_of_ble_eq_true rfl)
  rw [lg_entry_eq]
  generalize (lg_sl ([.ref h0]) ++ List.replicate (1 - (lg_sl ([.ref h0])).length) Slot.unset).toArray = ls at hl ⊢
  have hl : lv_has ls 1 [(0, .ref h0)] := hl
  refine lv_aload_n hx hb dX11_audit_0 rfl (lv_at hl 0 rfl) ?_
  refine va_get (D := D) (ref := "IntegerHouse") (ci := 11) (v := .ref h1) (C := RX11) (T := TX11) (N := 15) hx hb hts hin11 hown hK hP 0 rfl rfl 1 (by decide) (hts (.fieldLink RX11 16 "IntegerHouse" "disk" "LIntegerHouse$Disk;") (List.mem_cons_of_mem _ (List.mem_append_left _ (List.mem_append_left _ (List.mem_of_getElem? (i := 0) rfl))))) (fun _ h9 => h9) e0 dX11_audit_1 ?_
  refine va_getN (host := "IntegerHouse") (D := D) (ref := "IntegerHouse$Disk") (ci := 1) (v := .int 0) (C := RX1) (T := TX1) (N := 9) hx hb hts hin1 hown hK hP 1 rfl rfl 8 (by decide) (va_Nw.use rfl (hN.1 ("IntegerHouse", 122, "IntegerHouse$Disk", "down", "Z", "IntegerHouse") (List.mem_of_getElem? (i := 3) rfl))) (fun _ h9 => h9) e1 dX11_audit_4 ?_
  refine lv_if_eq (tgt := 15) hx hb dX11_audit_7 (by decide) (fun _ => ?_) (fun c9 => absurd (by decide) c9)
  refine lv_iconst (v := 0) hx hb dX11_audit_15 (by decide) ?_
  exact W.iret (v := 0) hx hb hr (fun t ht hW => ⟨⟨0, (), rfl, rfl, kB_mk ht hW hP hK hD⟩, hS.F ht⟩) hS.2.2 dX11_audit_16
set_option maxHeartbeats 400000000 in
set_option maxRecDepth 100000 in
theorem c_X12_audit_0 (l : Launch) (E : kE) (D : va_G) (cI cJ cB cZ : ClassId) (h0 : Nat) (f0 : List Value) (e0 : f0[0]? = some (.int 0)) (e1 : f0[5]? = some (.int 0)) : kI l E D (kT cI cJ cB cZ) yX12_audit wsX12_audit ({ frames := 1, cells := 0, slots := 0, locals := 20 }) [.ref h0] [(h0, .inr (12, f0))] (0) [(h0, .inr (12, (f0.set 0 (.int 0))))] 0 0 := by
  intro sz
  refine Met.ofW (cc := cX12_audit) (maxL := 1) (ret := (some .int)) (by decide) rfl ?_
  intro p e s m args below meth c s₁ B hml hv
  obtain ⟨rfl, hsz, hP, hK, hD0, hN, hX⟩ := hv
  have hx := B.exec
  have hb := B.bytes
  have hr := B.returns
  have hts := atoms_spec (ws := wsX12_audit) B.pre
  have hown : s.vm.findClass RX12 = some m.cls := findClass_of_methodNamed B.named
  have hlocks := B.notSynchronized
  subst hsz
  have hD := hD0.self (sz := s.heap.size)
  have hAE := k_AE hD0 hX
  generalize hAe : va_A [(h0, .inr (12, f0))] s.heap.size = A at hD hAE ⊢
  have hA : ∀ q : Nat, s.heap.size ≤ q → A q := fun q h => by rw [← hAe]; exact Or.inr h
  have hS : va_S A s.heap s.heap [] := va_S.rf
  have hP : va_P D vwCl [(h0, .inr (12, f0))] s.heap := hP
  have hl := lv_entry ([.ref h0] : List Value) (n := 1) (Nat.le_of_ble_eq_true rfl)
  rw [lg_entry_eq]
  generalize (lg_sl ([.ref h0]) ++ List.replicate (1 - (lg_sl ([.ref h0])).length) Slot.unset).toArray = ls at hl ⊢
  have hl : lv_has ls 1 [(0, .ref h0)] := hl
  refine lv_aload_n hx hb dX12_audit_0 rfl (lv_at hl 0 rfl) ?_
  refine k_cVi (As := []) (rest := []) (wc := [(h0, .inr (12, f0))]) (wr := []) (w1 := [(h0, .inr (12, (f0.set 0 (.int 0))))]) ⟨hx, hb, hml, hown, hts⟩ hN hX hAE hK hP hD hS hA [0] [] (ci := 12) rfl rfl rfl rfl (by decide +kernel) (by decide +kernel) (by decide +kernel) (c_X12_asks_0 l E D cI cJ cB cZ h0 f0 e0 e1) (cwV 0 hts gX12_audit_X12_asks rfl rfl rfl (by decide +kernel) ⟨Nat.le_of_ble_eq_true rfl, Nat.le_of_ble_eq_true rfl⟩) rfl hl.1 (Nat.le_of_ble_eq_true rfl) dX12_audit_1 ⟨Nat.le_of_ble_eq_true rfl, Nat.le_of_ble_eq_true rfl⟩ (fun H locs hP hD hS => ?_)
  have hP : va_P D vwCl [(h0, .inr (12, (f0.set 0 (.int 0))))] H := hP
  have hD : va_D A [(h0, .inr (12, (f0.set 0 (.int 0))))] := hD
  refine lv_if_eq (tgt := 11) hx hb dX12_audit_4 (by decide) (fun c9 => absurd c9 (by decide)) (fun _ => ?_)
  refine lv_iconst (v := 0) hx hb dX12_audit_7 (by decide) ?_
  refine lv_goto (tgt := 13) hx hb dX12_audit_8 (by decide) ?_
  exact W.iret (v := 0) hx hb hr (fun t ht hW => ⟨⟨0, (), rfl, rfl, kB_mk ht hW hP hK hD⟩, hS.F ht⟩) hS.2.2 dX12_audit_13
