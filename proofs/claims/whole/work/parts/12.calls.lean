abbrev cX1_isByte : ByteArray := prog_3_method_2_code
def yX1_isByte : MethodName := ⟨RX1, "isByte", "(II)Z"⟩
abbrev cX1_byteOf : ByteArray := prog_3_method_3_code
def yX1_byteOf : MethodName := ⟨RX1, "byteOf", "(II)I"⟩
abbrev cX1_flip : ByteArray := prog_3_method_4_code
def yX1_flip : MethodName := ⟨RX1, "flip", "(III)I"⟩
abbrev cX1_setCut : ByteArray := prog_3_method_5_code
def yX1_setCut : MethodName := ⟨RX1, "setCut", "(II)V"⟩
abbrev cX1_waitingByte : ByteArray := prog_3_method_7_code
def yX1_waitingByte : MethodName := ⟨RX1, "waitingByte", "(I)I"⟩
abbrev cX1_waitingInt : ByteArray := prog_3_method_8_code
def yX1_waitingInt : MethodName := ⟨RX1, "waitingInt", "(I)I"⟩
abbrev cX1_await : ByteArray := prog_3_method_9_code
def yX1_await : MethodName := ⟨RX1, "await", "(I)V"⟩
abbrev cX1_writeAll : ByteArray := prog_3_method_14_code
def yX1_writeAll : MethodName := ⟨RX1, "writeAll", "()I"⟩
abbrev cX1_compose : ByteArray := prog_3_method_15_code
def yX1_compose : MethodName := ⟨RX1, "compose", "(II)V"⟩
abbrev cX1_summed : ByteArray := prog_3_method_16_code
def yX1_summed : MethodName := ⟨RX1, "summed", "(II)I"⟩
abbrev cX1_write : ByteArray := prog_3_method_17_code
def yX1_write : MethodName := ⟨RX1, "write", "(I)Z"⟩
abbrev cX1_isRight : ByteArray := prog_3_method_18_code
def yX1_isRight : MethodName := ⟨RX1, "isRight", "(I)Z"⟩
abbrev cX1_firstWrong : ByteArray := prog_3_method_19_code
def yX1_firstWrong : MethodName := ⟨RX1, "firstWrong", "()I"⟩
abbrev cX1_findUsed : ByteArray := prog_3_method_20_code
def yX1_findUsed : MethodName := ⟨RX1, "findUsed", "()I"⟩
abbrev cX1_loadSync : ByteArray := prog_3_method_21_code
def yX1_loadSync : MethodName := ⟨RX1, "loadSync", "(I)I"⟩
abbrev cX1_recordSize : ByteArray := prog_3_method_22_code
def yX1_recordSize : MethodName := ⟨RX1, "recordSize", "(I)I"⟩
abbrev cX1_comeUp : ByteArray := prog_3_method_23_code
def yX1_comeUp : MethodName := ⟨RX1, "comeUp", "(I)V"⟩
abbrev cX2_clear : ByteArray := prog_4_method_2_code
def yX2_clear : MethodName := ⟨RX2, "clear", "()V"⟩
abbrev cX2_cutBack : ByteArray := prog_4_method_3_code
def yX2_cutBack : MethodName := ⟨RX2, "cutBack", "(III)V"⟩
abbrev cX2_isClaim : ByteArray := prog_4_method_4_code
def yX2_isClaim : MethodName := ⟨RX2, "isClaim", "(I)Z"⟩
abbrev cX2_turnOnFrom : ByteArray := prog_4_method_5_code
def yX2_turnOnFrom : MethodName := ⟨RX2, "turnOnFrom", "(I)V"⟩
abbrev cX2_turn : ByteArray := prog_4_method_6_code
def yX2_turn : MethodName := ⟨RX2, "turn", "(IZ)Z"⟩
abbrev cX2_addLayer : ByteArray := prog_4_method_7_code
def yX2_addLayer : MethodName := ⟨RX2, "addLayer", "()Z"⟩
abbrev cX2_leaveLayer : ByteArray := prog_4_method_8_code
def yX2_leaveLayer : MethodName := ⟨RX2, "leaveLayer", "()Z"⟩
abbrev cX2_variableOf : ByteArray := prog_4_method_9_code
def yX2_variableOf : MethodName := ⟨RX2, "variableOf", "(J)I"⟩
abbrev cX2_claimOf : ByteArray := prog_4_method_10_code
def yX2_claimOf : MethodName := ⟨RX2, "claimOf", "(J)I"⟩
abbrev cX2_addVariable : ByteArray := prog_4_method_11_code
def yX2_addVariable : MethodName := ⟨RX2, "addVariable", "(J)Z"⟩
abbrev cX2_addClaim : ByteArray := prog_4_method_12_code
def yX2_addClaim : MethodName := ⟨RX2, "addClaim", "(J)V"⟩
abbrev cX2_fact : ByteArray := prog_4_method_13_code
def yX2_fact : MethodName := ⟨RX2, "fact", "(II)I"⟩
abbrev cX2_setFact : ByteArray := prog_4_method_14_code
def yX2_setFact : MethodName := ⟨RX2, "setFact", "(III)V"⟩
abbrev cX2_setToken : ByteArray := prog_4_method_15_code
def yX2_setToken : MethodName := ⟨RX2, "setToken", "(III)V"⟩
abbrev cX2_setStep : ByteArray := prog_4_method_17_code
def yX2_setStep : MethodName := ⟨RX2, "setStep", "(III)V"⟩
abbrev cX2_step : ByteArray := prog_4_method_18_code
def yX2_step : MethodName := ⟨RX2, "step", "(II)I"⟩
abbrev cX2_atomOf : ByteArray := prog_4_method_19_code
def yX2_atomOf : MethodName := ⟨RX2, "atomOf", "(II)I"⟩
abbrev cX2_poolNumber : ByteArray := prog_4_method_21_code
def yX2_poolNumber : MethodName := ⟨RX2, "poolNumber", "([I)I"⟩
abbrev cX2_addAtom : ByteArray := prog_4_method_22_code
def yX2_addAtom : MethodName := ⟨RX2, "addAtom", "(II)Z"⟩
abbrev cX3_kindAt : ByteArray := prog_5_method_3_code
def yX3_kindAt : MethodName := ⟨RX3, "kindAt", "(I)I"⟩
abbrev cX3_numberAt : ByteArray := prog_5_method_5_code
def yX3_numberAt : MethodName := ⟨RX3, "numberAt", "(I)I"⟩
abbrev cX3_writtenAt : ByteArray := prog_5_method_6_code
def yX3_writtenAt : MethodName := ⟨RX3, "writtenAt", "(I)I"⟩
abbrev cX3_nameAt : ByteArray := prog_5_method_7_code
def yX3_nameAt : MethodName := ⟨RX3, "nameAt", "(I)J"⟩
abbrev cX3_scan : ByteArray := prog_5_method_8_code
def yX3_scan : MethodName := ⟨RX3, "scan", "([BIIZ)V"⟩
abbrev cX3_byteAt : ByteArray := prog_5_method_9_code
def yX3_byteAt : MethodName := ⟨RX3, "byteAt", "(I)I"⟩
abbrev cX3_behindBlanks : ByteArray := prog_5_method_10_code
def yX3_behindBlanks : MethodName := ⟨RX3, "behindBlanks", "(I)I"⟩
abbrev cX3_isLetter : ByteArray := prog_5_method_11_code
def yX3_isLetter : MethodName := ⟨RX3, "isLetter", "(I)Z"⟩
abbrev cX3_isDigit : ByteArray := prog_5_method_12_code
def yX3_isDigit : MethodName := ⟨RX3, "isDigit", "(I)Z"⟩
abbrev cX3_word : ByteArray := prog_5_method_13_code
def yX3_word : MethodName := ⟨RX3, "word", "(III)I"⟩
abbrev cX3_digits : ByteArray := prog_5_method_14_code
def yX3_digits : MethodName := ⟨RX3, "digits", "(II)I"⟩
abbrev cX3_sign : ByteArray := prog_5_method_15_code
def yX3_sign : MethodName := ⟨RX3, "sign", "(II)I"⟩
abbrev cX4_make : ByteArray := prog_6_method_2_code
def yX4_make : MethodName := ⟨RX4, "make", "(I)I"⟩
abbrev cX4_begin : ByteArray := prog_6_method_3_code
def yX4_begin : MethodName := ⟨RX4, "begin", "(I)V"⟩
abbrev cX4_isPlain : ByteArray := prog_6_method_7_code
def yX4_isPlain : MethodName := ⟨RX4, "isPlain", "(I)Z"⟩
abbrev cX4_arePlain : ByteArray := prog_6_method_8_code
def yX4_arePlain : MethodName := ⟨RX4, "arePlain", "(II)Z"⟩
abbrev cX4_lastOf : ByteArray := prog_6_method_9_code
def yX4_lastOf : MethodName := ⟨RX4, "lastOf", "(II)I"⟩
abbrev cX4_isConclusion : ByteArray := prog_6_method_10_code
def yX4_isConclusion : MethodName := ⟨RX4, "isConclusion", "(I)Z"⟩
abbrev cX4_waysOf : ByteArray := prog_6_method_11_code
def yX4_waysOf : MethodName := ⟨RX4, "waysOf", "(I)I"⟩
abbrev cX4_casesOf : ByteArray := prog_6_method_12_code
def yX4_casesOf : MethodName := ⟨RX4, "casesOf", "(II)I"⟩
abbrev cX4_takeNamed : ByteArray := prog_6_method_13_code
def yX4_takeNamed : MethodName := ⟨RX4, "takeNamed", "(I)V"⟩
abbrev cX4_emit : ByteArray := prog_6_method_14_code
def yX4_emit : MethodName := ⟨RX4, "emit", "(I)V"⟩
abbrev cX4_fall : ByteArray := prog_6_method_15_code
def yX4_fall : MethodName := ⟨RX4, "fall", "(II)V"⟩
abbrev cX4_split : ByteArray := prog_6_method_16_code
def yX4_split : MethodName := ⟨RX4, "split", "(II)V"⟩
abbrev cX4_splitSign : ByteArray := prog_6_method_17_code
def yX4_splitSign : MethodName := ⟨RX4, "splitSign", "(II)V"⟩
abbrev cX4_splitOrder : ByteArray := prog_6_method_18_code
def yX4_splitOrder : MethodName := ⟨RX4, "splitOrder", "(III)V"⟩
abbrev cX4_splitRest : ByteArray := prog_6_method_19_code
def yX4_splitRest : MethodName := ⟨RX4, "splitRest", "(IZII)V"⟩
abbrev cX4_conclude : ByteArray := prog_6_method_20_code
def yX4_conclude : MethodName := ⟨RX4, "conclude", "(III)V"⟩
abbrev cX4_work : ByteArray := prog_6_method_21_code
def yX4_work : MethodName := ⟨RX4, "work", "(III)V"⟩
abbrev cX4_top : ByteArray := prog_6_method_22_code
def yX4_top : MethodName := ⟨RX4, "top", "(I)I"⟩
abbrev cX4_setTop : ByteArray := prog_6_method_23_code
def yX4_setTop : MethodName := ⟨RX4, "setTop", "(II)V"⟩
abbrev cX4_form : ByteArray := prog_6_method_24_code
def yX4_form : MethodName := ⟨RX4, "form", "(II)I"⟩
abbrev cX4_pushForm : ByteArray := prog_6_method_25_code
def yX4_pushForm : MethodName := ⟨RX4, "pushForm", "(III)V"⟩
abbrev cX4_copyForm : ByteArray := prog_6_method_26_code
def yX4_copyForm : MethodName := ⟨RX4, "copyForm", "(II)V"⟩
abbrev cX4_copyLevel : ByteArray := prog_6_method_27_code
def yX4_copyLevel : MethodName := ⟨RX4, "copyLevel", "(I)V"⟩
abbrev cX4_multiply : ByteArray := prog_6_method_28_code
def yX4_multiply : MethodName := ⟨RX4, "multiply", "(II)V"⟩
abbrev cX4_combine : ByteArray := prog_6_method_29_code
def yX4_combine : MethodName := ⟨RX4, "combine", "(IIII)V"⟩
abbrev cX4_check : ByteArray := prog_6_method_30_code
def yX4_check : MethodName := ⟨RX4, "check", "(I)V"⟩
abbrev cX4_lineOf : ByteArray := prog_6_method_31_code
def yX4_lineOf : MethodName := ⟨RX4, "lineOf", "(III)I"⟩
abbrev cX4_divisorOf : ByteArray := prog_6_method_32_code
def yX4_divisorOf : MethodName := ⟨RX4, "divisorOf", "(II)I"⟩
abbrev cX4_add : ByteArray := prog_6_method_33_code
def yX4_add : MethodName := ⟨RX4, "add", "(I)V"⟩
abbrev cX8_readText : ByteArray := prog_10_method_2_code
def yX8_readText : MethodName := ⟨RX8, "readText", "([BII)Z"⟩
abbrev cX8_begin : ByteArray := prog_10_method_7_code
def yX8_begin : MethodName := ⟨RX8, "begin", "([BII)V"⟩
abbrev cX8_next : ByteArray := prog_10_method_8_code
def yX8_next : MethodName := ⟨RX8, "next", "()V"⟩
abbrev cX8_fail : ByteArray := prog_10_method_9_code
def yX8_fail : MethodName := ⟨RX8, "fail", "(I)V"⟩
abbrev cX8_failIf : ByteArray := prog_10_method_10_code
def yX8_failIf : MethodName := ⟨RX8, "failIf", "(II)V"⟩
abbrev cX8_expect : ByteArray := prog_10_method_11_code
def yX8_expect : MethodName := ⟨RX8, "expect", "(I)V"⟩
abbrev cX8_expectEnd : ByteArray := prog_10_method_12_code
def yX8_expectEnd : MethodName := ⟨RX8, "expectEnd", "()V"⟩
abbrev cX8_readVariables : ByteArray := prog_10_method_13_code
def yX8_readVariables : MethodName := ⟨RX8, "readVariables", "()V"⟩
abbrev cX8_readVariable : ByteArray := prog_10_method_14_code
def yX8_readVariable : MethodName := ⟨RX8, "readVariable", "()V"⟩
abbrev cX8_beginClaim : ByteArray := prog_10_method_15_code
def yX8_beginClaim : MethodName := ⟨RX8, "beginClaim", "()Z"⟩
abbrev cX8_endClaim : ByteArray := prog_10_method_16_code
def yX8_endClaim : MethodName := ⟨RX8, "endClaim", "()V"⟩
abbrev cX8_readInto : ByteArray := prog_10_method_17_code
def yX8_readInto : MethodName := ⟨RX8, "readInto", "(I)V"⟩
abbrev cX8_step : ByteArray := prog_10_method_18_code
def yX8_step : MethodName := ⟨RX8, "step", "(I)V"⟩
abbrev cX8_accept : ByteArray := prog_10_method_19_code
def yX8_accept : MethodName := ⟨RX8, "accept", "(II)V"⟩
abbrev cX8_formula : ByteArray := prog_10_method_20_code
def yX8_formula : MethodName := ⟨RX8, "formula", "()V"⟩
abbrev cX8_side : ByteArray := prog_10_method_21_code
def yX8_side : MethodName := ⟨RX8, "side", "()V"⟩
abbrev cX8_both : ByteArray := prog_10_method_22_code
def yX8_both : MethodName := ⟨RX8, "both", "()V"⟩
abbrev cX8_one : ByteArray := prog_10_method_23_code
def yX8_one : MethodName := ⟨RX8, "one", "()V"⟩
abbrev cX8_checkDivisor : ByteArray := prog_10_method_24_code
def yX8_checkDivisor : MethodName := ⟨RX8, "checkDivisor", "()V"⟩
abbrev cX8_term : ByteArray := prog_10_method_25_code
def yX8_term : MethodName := ⟨RX8, "term", "()V"⟩
abbrev cX8_part : ByteArray := prog_10_method_26_code
def yX8_part : MethodName := ⟨RX8, "part", "(Z)V"⟩
abbrev cX8_factor : ByteArray := prog_10_method_27_code
def yX8_factor : MethodName := ⟨RX8, "factor", "()V"⟩
abbrev cX8_bracketed : ByteArray := prog_10_method_28_code
def yX8_bracketed : MethodName := ⟨RX8, "bracketed", "(I)V"⟩
abbrev cX11_end : ByteArray := prog_1_method_4_code
def yX11_end : MethodName := ⟨RX11, "end", "(I)V"⟩
abbrev cX11_sync : ByteArray := prog_1_method_5_code
def yX11_sync : MethodName := ⟨RX11, "sync", "()I"⟩
abbrev cX11_cut : ByteArray := prog_1_method_6_code
def yX11_cut : MethodName := ⟨RX11, "cut", "(II)I"⟩
abbrev cX11_start : ByteArray := prog_1_method_7_code
def yX11_start : MethodName := ⟨RX11, "start", "()I"⟩
abbrev cX11_redo : ByteArray := prog_1_method_8_code
def yX11_redo : MethodName := ⟨RX11, "redo", "(II)Z"⟩
abbrev cX11_verify : ByteArray := prog_1_method_9_code
def yX11_verify : MethodName := ⟨RX11, "verify", "()I"⟩
abbrev cX11_octet : ByteArray := prog_1_method_10_code
def yX11_octet : MethodName := ⟨RX11, "octet", "(II)I"⟩
abbrev cX11_poke : ByteArray := prog_1_method_11_code
def yX11_poke : MethodName := ⟨RX11, "poke", "(III)I"⟩
abbrev cX11_count : ByteArray := prog_1_method_12_code
def yX11_count : MethodName := ⟨RX11, "count", "(I)I"⟩
abbrev cX11_isComparison : ByteArray := prog_1_method_49_code
def yX11_isComparison : MethodName := ⟨RX11, "isComparison", "(I)Z"⟩
abbrev cX11_commonDivisor : ByteArray := prog_1_method_50_code
def yX11_commonDivisor : MethodName := ⟨RX11, "commonDivisor", "(JJ)J"⟩
abbrev cX12_thrown : ByteArray := prog_14_method_1_code
def yX12_thrown : MethodName := ⟨RX12, "thrown", "()I"⟩
abbrev cX12_in : ByteArray := prog_14_method_2_code
def yX12_in : MethodName := ⟨RX12, "in", "(JJJ)Z"⟩
abbrev cX12_no : ByteArray := prog_14_method_4_code
def yX12_no : MethodName := ⟨RX12, "no", "(I)I"⟩
abbrev cX12_full : ByteArray := prog_14_method_5_code
def yX12_full : MethodName := ⟨RX12, "full", "()Z"⟩
abbrev cX12_end : ByteArray := prog_14_method_11_code
def yX12_end : MethodName := ⟨RX12, "end", "(I)V"⟩
abbrev cX12_at : ByteArray := prog_14_method_12_code
def yX12_at : MethodName := ⟨RX12, "at", "(II)I"⟩
abbrev cX12_sum : ByteArray := prog_14_method_13_code
def yX12_sum : MethodName := ⟨RX12, "sum", "([BI)I"⟩
abbrev cX12_isRight : ByteArray := prog_14_method_14_code
def yX12_isRight : MethodName := ⟨RX12, "isRight", "(I)Z"⟩
abbrev cX12_make : ByteArray := prog_14_method_15_code
def yX12_make : MethodName := ⟨RX12, "make", "(IIZ)V"⟩
abbrev cX12_sync : ByteArray := prog_14_method_16_code
def yX12_sync : MethodName := ⟨RX12, "sync", "()I"⟩
abbrev cX12_cut : ByteArray := prog_14_method_17_code
def yX12_cut : MethodName := ⟨RX12, "cut", "(II)I"⟩
abbrev cX12_lacks : ByteArray := prog_14_method_18_code
def yX12_lacks : MethodName := ⟨RX12, "lacks", "(I)Z"⟩
abbrev cX12_next : ByteArray := prog_14_method_19_code
def yX12_next : MethodName := ⟨RX12, "next", "()I"⟩
abbrev cX12_nextInt : ByteArray := prog_14_method_20_code
def yX12_nextInt : MethodName := ⟨RX12, "nextInt", "()I"⟩
abbrev cX12_isRecord : ByteArray := prog_14_method_21_code
def yX12_isRecord : MethodName := ⟨RX12, "isRecord", "()Z"⟩
abbrev cX12_again : ByteArray := prog_14_method_22_code
def yX12_again : MethodName := ⟨RX12, "again", "()V"⟩
abbrev cX12_start : ByteArray := prog_14_method_23_code
def yX12_start : MethodName := ⟨RX12, "start", "()I"⟩
abbrev cX12_verify : ByteArray := prog_14_method_24_code
def yX12_verify : MethodName := ⟨RX12, "verify", "()I"⟩
abbrev cX12_octet : ByteArray := prog_14_method_25_code
def yX12_octet : MethodName := ⟨RX12, "octet", "(II)I"⟩
abbrev cX12_poke : ByteArray := prog_14_method_26_code
def yX12_poke : MethodName := ⟨RX12, "poke", "(III)I"⟩
abbrev cX12_fail : ByteArray := prog_14_method_27_code
def yX12_fail : MethodName := ⟨RX12, "fail", "(II)V"⟩
abbrev cX12_isLetter : ByteArray := prog_14_method_28_code
def yX12_isLetter : MethodName := ⟨RX12, "isLetter", "(I)Z"⟩
abbrev cX12_isDigit : ByteArray := prog_14_method_29_code
def yX12_isDigit : MethodName := ⟨RX12, "isDigit", "(I)Z"⟩
abbrev cX12_char1 : ByteArray := prog_14_method_30_code
def yX12_char1 : MethodName := ⟨RX12, "char1", "(I)I"⟩
abbrev cX12_isText : ByteArray := prog_14_method_31_code
def yX12_isText : MethodName := ⟨RX12, "isText", "(ILjava/lang/String;)Z"⟩
abbrev cX12_signOf : ByteArray := prog_14_method_32_code
def yX12_signOf : MethodName := ⟨RX12, "signOf", "(I)I"⟩
abbrev cX12_longSign : ByteArray := prog_14_method_33_code
def yX12_longSign : MethodName := ⟨RX12, "longSign", "(II)I"⟩
abbrev cX12_scan : ByteArray := prog_14_method_34_code
def yX12_scan : MethodName := ⟨RX12, "scan", "()V"⟩
abbrev cX12_isSign : ByteArray := prog_14_method_35_code
def yX12_isSign : MethodName := ⟨RX12, "isSign", "(I)Z"⟩
abbrev cX12_isWord : ByteArray := prog_14_method_36_code
def yX12_isWord : MethodName := ⟨RX12, "isWord", "(I)Z"⟩
abbrev cX12_cannot : ByteArray := prog_14_method_37_code
def yX12_cannot : MethodName := ⟨RX12, "cannot", "()V"⟩
abbrev cX12_isCalled : ByteArray := prog_14_method_38_code
def yX12_isCalled : MethodName := ⟨RX12, "isCalled", "(II)Z"⟩
abbrev cX12_callIt : ByteArray := prog_14_method_39_code
def yX12_callIt : MethodName := ⟨RX12, "callIt", "(II)V"⟩
abbrev cX12_variableAt : ByteArray := prog_14_method_40_code
def yX12_variableAt : MethodName := ⟨RX12, "variableAt", "(I)I"⟩
abbrev cX12_claimAt : ByteArray := prog_14_method_41_code
def yX12_claimAt : MethodName := ⟨RX12, "claimAt", "(I)I"⟩
abbrev cX12_beginSlot : ByteArray := prog_14_method_42_code
def yX12_beginSlot : MethodName := ⟨RX12, "beginSlot", "(I)V"⟩
abbrev cX12_take : ByteArray := prog_14_method_43_code
def yX12_take : MethodName := ⟨RX12, "take", "()V"⟩
abbrev cX12_takeOpen : ByteArray := prog_14_method_44_code
def yX12_takeOpen : MethodName := ⟨RX12, "takeOpen", "()V"⟩
abbrev cX12_newNode : ByteArray := prog_14_method_45_code
def yX12_newNode : MethodName := ⟨RX12, "newNode", "(III)I"⟩
abbrev cX12_newTerm : ByteArray := prog_14_method_46_code
def yX12_newTerm : MethodName := ⟨RX12, "newTerm", "(III)I"⟩
abbrev cX12_openFormula : ByteArray := prog_14_method_47_code
def yX12_openFormula : MethodName := ⟨RX12, "openFormula", "()V"⟩
abbrev cX12_openTerm : ByteArray := prog_14_method_48_code
def yX12_openTerm : MethodName := ⟨RX12, "openTerm", "(I)V"⟩
abbrev cX12_addPart : ByteArray := prog_14_method_49_code
def yX12_addPart : MethodName := ⟨RX12, "addPart", "(I)V"⟩
abbrev cX12_readFormula : ByteArray := prog_14_method_50_code
def yX12_readFormula : MethodName := ⟨RX12, "readFormula", "()I"⟩
abbrev cX12_beginLeaf : ByteArray := prog_14_method_52_code
def yX12_beginLeaf : MethodName := ⟨RX12, "beginLeaf", "(II)V"⟩
abbrev cX12_readOne : ByteArray := prog_14_method_53_code
def yX12_readOne : MethodName := ⟨RX12, "readOne", "()V"⟩
abbrev cX12_takeNumber : ByteArray := prog_14_method_54_code
def yX12_takeNumber : MethodName := ⟨RX12, "takeNumber", "()V"⟩
abbrev cX12_endOne : ByteArray := prog_14_method_55_code
def yX12_endOne : MethodName := ⟨RX12, "endOne", "(I)V"⟩
abbrev cX12_join : ByteArray := prog_14_method_56_code
def yX12_join : MethodName := ⟨RX12, "join", "(II)I"⟩
abbrev cX12_readAfter : ByteArray := prog_14_method_57_code
def yX12_readAfter : MethodName := ⟨RX12, "readAfter", "()V"⟩
abbrev cX12_readInTerm : ByteArray := prog_14_method_58_code
def yX12_readInTerm : MethodName := ⟨RX12, "readInTerm", "()V"⟩
abbrev cX12_readAtom : ByteArray := prog_14_method_59_code
def yX12_readAtom : MethodName := ⟨RX12, "readAtom", "()V"⟩
abbrev cX12_endTerm : ByteArray := prog_14_method_60_code
def yX12_endTerm : MethodName := ⟨RX12, "endTerm", "()V"⟩
abbrev cX12_endSide : ByteArray := prog_14_method_61_code
def yX12_endSide : MethodName := ⟨RX12, "endSide", "()V"⟩
abbrev cX12_divisor : ByteArray := prog_14_method_62_code
def yX12_divisor : MethodName := ⟨RX12, "divisor", "(JJ)J"⟩
abbrev cX12_look : ByteArray := prog_14_method_63_code
def yX12_look : MethodName := ⟨RX12, "look", "(J)V"⟩
abbrev cX12_lookHere : ByteArray := prog_14_method_64_code
def yX12_lookHere : MethodName := ⟨RX12, "lookHere", "()V"⟩
abbrev cX12_hereIs : ByteArray := prog_14_method_65_code
def yX12_hereIs : MethodName := ⟨RX12, "hereIs", "(II)V"⟩
abbrev cX12_keep : ByteArray := prog_14_method_66_code
def yX12_keep : MethodName := ⟨RX12, "keep", "(I)V"⟩
abbrev cX12_clearHere : ByteArray := prog_14_method_67_code
def yX12_clearHere : MethodName := ⟨RX12, "clearHere", "(J)V"⟩
abbrev cX12_add : ByteArray := prog_14_method_68_code
def yX12_add : MethodName := ⟨RX12, "add", "(IJ)V"⟩
abbrev cX12_atomOf : ByteArray := prog_14_method_69_code
def yX12_atomOf : MethodName := ⟨RX12, "atomOf", "(IJ)I"⟩
abbrev cX12_isFlat : ByteArray := prog_14_method_70_code
def yX12_isFlat : MethodName := ⟨RX12, "isFlat", "()Z"⟩
abbrev cX12_lineOf : ByteArray := prog_14_method_71_code
def yX12_lineOf : MethodName := ⟨RX12, "lineOf", "(I)I"⟩
abbrev cX12_isFalseHere : ByteArray := prog_14_method_72_code
def yX12_isFalseHere : MethodName := ⟨RX12, "isFalseHere", "()V"⟩
abbrev cX12_rest : ByteArray := prog_14_method_73_code
def yX12_rest : MethodName := ⟨RX12, "rest", "(JJ)J"⟩
abbrev cX12_divides : ByteArray := prog_14_method_74_code
def yX12_divides : MethodName := ⟨RX12, "divides", "(I)I"⟩
abbrev cX12_not : ByteArray := prog_14_method_75_code
def yX12_not : MethodName := ⟨RX12, "not", "(I)I"⟩
abbrev cX12_ways : ByteArray := prog_14_method_76_code
def yX12_ways : MethodName := ⟨RX12, "ways", "(I)I"⟩
abbrev cX12_shape : ByteArray := prog_14_method_77_code
def yX12_shape : MethodName := ⟨RX12, "shape", "(II)I"⟩
abbrev cX12_total : ByteArray := prog_14_method_78_code
def yX12_total : MethodName := ⟨RX12, "total", "(II)V"⟩
abbrev cX12_makeCase : ByteArray := prog_14_method_79_code
def yX12_makeCase : MethodName := ⟨RX12, "makeCase", "(II)V"⟩
abbrev cX12_makeCases : ByteArray := prog_14_method_80_code
def yX12_makeCases : MethodName := ⟨RX12, "makeCases", "(I)V"⟩
abbrev cX12_casesOf : ByteArray := prog_14_method_81_code
def yX12_casesOf : MethodName := ⟨RX12, "casesOf", "(I)J"⟩
abbrev cX12_build : ByteArray := prog_14_method_82_code
def yX12_build : MethodName := ⟨RX12, "build", "()I"⟩
abbrev cX12_act : ByteArray := prog_14_method_84_code
def yX12_act : MethodName := ⟨RX12, "act", "()I"⟩
abbrev cX12_told : ByteArray := prog_14_method_85_code
def yX12_told : MethodName := ⟨RX12, "told", "()I"⟩
abbrev cX12_readVariables : ByteArray := prog_14_method_86_code
def yX12_readVariables : MethodName := ⟨RX12, "readVariables", "()V"⟩
abbrev cX12_readClaim : ByteArray := prog_14_method_87_code
def yX12_readClaim : MethodName := ⟨RX12, "readClaim", "()V"⟩
abbrev cX12_readText : ByteArray := prog_14_method_88_code
def yX12_readText : MethodName := ⟨RX12, "readText", "()I"⟩
abbrev cX12_turn : ByteArray := prog_14_method_89_code
def yX12_turn : MethodName := ⟨RX12, "turn", "()I"⟩
abbrev cX12_layer : ByteArray := prog_14_method_90_code
def yX12_layer : MethodName := ⟨RX12, "layer", "()I"⟩
abbrev cX12_leave : ByteArray := prog_14_method_91_code
def yX12_leave : MethodName := ⟨RX12, "leave", "()I"⟩
def RJ6 : String := "java/lang/Integer"
abbrev cJ6_bitCount_0f7a4 : ByteArray := prog_19_method_49_code
def yJ6_bitCount_0f7a4 : MethodName := ⟨RJ6, "bitCount", "(I)I"⟩
def RJ9 : String := "java/lang/Math"
abbrev cJ9_floorMod_f86c9 : ByteArray := prog_20_method_52_code
def yJ9_floorMod_f86c9 : MethodName := ⟨RJ9, "floorMod", "(JJ)J"⟩
abbrev cL_end : ByteArray := method_4_code
def yL_end : MethodName := ⟨RL, "end", "(LIntegerHouse;I)I"⟩
abbrev cL_octet : ByteArray := method_5_code
def yL_octet : MethodName := ⟨RL, "octet", "(LIntegerHouse;II[J)I"⟩
abbrev cL_poke : ByteArray := method_6_code
def yL_poke : MethodName := ⟨RL, "poke", "(LIntegerHouse;III[J)I"⟩
def wsX1_isByte : List Cond := .code yX1_isByte cX1_isByte 2 (some .boolean) :: ([])
def wsX1_byteOf : List Cond := .code yX1_byteOf cX1_byteOf 3 (some .int) :: ([.fieldLink RX1 11 "IntegerHouse$Disk" "blocks" "[B", .methodLink RX1 29 yX1_isByte, .static yX1_isByte, .initialized RX1, .code yX1_isByte cX1_isByte 2 (some .boolean)] ++ wsX10)
def wsX1_flip : List Cond := .code yX1_flip cX1_flip 4 (some .int) :: ([.fieldLink RX1 11 "IntegerHouse$Disk" "blocks" "[B", .methodLink RX1 29 yX1_isByte, .static yX1_isByte, .initialized RX1, .code yX1_isByte cX1_isByte 2 (some .boolean), .methodLink RX1 33 yX1_byteOf, .instanceMethod yX1_byteOf, .selects RX1 yX1_byteOf yX1_byteOf, .code yX1_byteOf cX1_byteOf 3 (some .int)] ++ wsX10)
def wsX1_setCut : List Cond := .code yX1_setCut cX1_setCut 3 none :: ([.fieldLink RX1 25 "IntegerHouse$Disk" "cutAt" "I", .fieldLink RX1 37 "IntegerHouse$Disk" "tear" "I"] ++ wsX10)
def wsX1_writeAll_r1 : List Cond := [Cond.fieldLink RX1 40 "IntegerHouse$Disk" "waiting" "I", Cond.fieldLink RX1 43 "IntegerHouse$Disk" "used" "I", Cond.fieldLink RX1 65 "IntegerHouse$Disk" "down" "Z", Cond.methodLink RX1 57 yX1_compose, Cond.instanceMethod yX1_compose, Cond.selects RX1 yX1_compose yX1_compose, Cond.initialized RX1, Cond.code yX1_compose cX1_compose 6 none, Cond.methodLink RX1 69 Lib.Math.min.name, Cond.static Lib.Math.min.name, Cond.initialized "java/lang/Math", Cond.code Lib.Math.min.name Lib.Math.min.code 2 (some .int), Cond.fieldLink RX1 19 "IntegerHouse$Disk" "image" "[B", Cond.methodLink RX1 46 yX1_waitingByte, Cond.instanceMethod yX1_waitingByte, Cond.selects RX1 yX1_waitingByte yX1_waitingByte, Cond.code yX1_waitingByte cX1_waitingByte 2 (some .int), Cond.fieldLink RX1 22 "IntegerHouse$Disk" "waits" "[B", Cond.methodLink RX1 74 yX1_summed, Cond.static yX1_summed, Cond.code yX1_summed cX1_summed 3 (some .int), Cond.constant RX1 77 (-1640531535), Cond.methodLink RX1 61 yX1_write, Cond.instanceMethod yX1_write]
def wsX1_writeAll_r2 : List Cond := [Cond.selects RX1 yX1_write yX1_write, Cond.code yX1_write cX1_write 5 (some .boolean), Cond.fieldLink RX1 25 "IntegerHouse$Disk" "cutAt" "I", Cond.fieldLink RX1 37 "IntegerHouse$Disk" "tear" "I", Cond.fieldLink RX1 11 "IntegerHouse$Disk" "blocks" "[B", Cond.fieldLink RX1 15 "IntegerHouse$Disk" "torn" "[Z", Cond.methodLink RX1 29 yX1_isByte, Cond.static yX1_isByte, Cond.code yX1_isByte cX1_isByte 2 (some .boolean)]
def wsX1_writeAll : List Cond := .code yX1_writeAll cX1_writeAll 3 (some .int) :: ((wsX1_writeAll_r1 ++ wsX1_writeAll_r2) ++ wsX10)
def wsX1_firstWrong : List Cond := .code yX1_firstWrong cX1_firstWrong 2 (some .int) :: ([.fieldLink RX1 43 "IntegerHouse$Disk" "used" "I", .methodLink RX1 78 yX1_isRight, .instanceMethod yX1_isRight, .selects RX1 yX1_isRight yX1_isRight, .initialized RX1, .code yX1_isRight cX1_isRight 8 (some .boolean), .fieldLink RX1 15 "IntegerHouse$Disk" "torn" "[Z", .methodLink RX1 33 yX1_byteOf, .instanceMethod yX1_byteOf, .selects RX1 yX1_byteOf yX1_byteOf, .code yX1_byteOf cX1_byteOf 3 (some .int), .fieldLink RX1 11 "IntegerHouse$Disk" "blocks" "[B", .methodLink RX1 29 yX1_isByte, .static yX1_isByte, .code yX1_isByte cX1_isByte 2 (some .boolean), .methodLink RX1 74 yX1_summed, .static yX1_summed, .code yX1_summed cX1_summed 3 (some .int), .constant RX1 77 (-1640531535)] ++ wsX10)
def wsX11_end : List Cond := .code yX11_end cX11_end 2 none :: ([.classLink RX11 117 "java/lang/IllegalArgumentException", .initialized "java/lang/IllegalArgumentException", .fieldLink RX11 102 "IntegerHouse" "tapeLength" "I"] ++ wsX110 ++ (vx_atS RX11 121 "java/lang/IllegalArgumentException" ["java/lang/RuntimeException", "java/lang/Exception"]).filter goodWord)
def wsX11_sync_r1 : List Cond := [Cond.fieldLink RX11 16 "IntegerHouse" "disk" "LIntegerHouse$Disk;", Cond.methodLink RX11 126 yX1_writeAll, Cond.instanceMethod yX1_writeAll, Cond.selects RX1 yX1_writeAll yX1_writeAll, Cond.initialized RX1, Cond.code yX1_writeAll cX1_writeAll 3 (some .int), Cond.fieldLink RX1 40 "IntegerHouse$Disk" "waiting" "I", Cond.fieldLink RX1 43 "IntegerHouse$Disk" "used" "I", Cond.fieldLink RX1 65 "IntegerHouse$Disk" "down" "Z", Cond.methodLink RX1 57 yX1_compose, Cond.instanceMethod yX1_compose, Cond.selects RX1 yX1_compose yX1_compose, Cond.code yX1_compose cX1_compose 6 none, Cond.methodLink RX1 69 Lib.Math.min.name, Cond.static Lib.Math.min.name, Cond.initialized "java/lang/Math", Cond.code Lib.Math.min.name Lib.Math.min.code 2 (some .int), Cond.fieldLink RX1 19 "IntegerHouse$Disk" "image" "[B", Cond.methodLink RX1 46 yX1_waitingByte, Cond.instanceMethod yX1_waitingByte, Cond.selects RX1 yX1_waitingByte yX1_waitingByte, Cond.code yX1_waitingByte cX1_waitingByte 2 (some .int), Cond.fieldLink RX1 22 "IntegerHouse$Disk" "waits" "[B", Cond.methodLink RX1 74 yX1_summed]
def wsX11_sync_r2 : List Cond := [Cond.static yX1_summed, Cond.code yX1_summed cX1_summed 3 (some .int), Cond.constant RX1 77 (-1640531535), Cond.methodLink RX1 61 yX1_write, Cond.instanceMethod yX1_write, Cond.selects RX1 yX1_write yX1_write, Cond.code yX1_write cX1_write 5 (some .boolean), Cond.fieldLink RX1 25 "IntegerHouse$Disk" "cutAt" "I", Cond.fieldLink RX1 37 "IntegerHouse$Disk" "tear" "I", Cond.fieldLink RX1 11 "IntegerHouse$Disk" "blocks" "[B", Cond.fieldLink RX1 15 "IntegerHouse$Disk" "torn" "[Z", Cond.methodLink RX1 29 yX1_isByte, Cond.static yX1_isByte, Cond.code yX1_isByte cX1_isByte 2 (some .boolean)]
def wsX11_sync : List Cond := .code yX11_sync cX11_sync 1 (some .int) :: ((wsX11_sync_r1 ++ wsX11_sync_r2) ++ wsX110 ++ wsX10)
def wsX11_cut : List Cond := .code yX11_cut cX11_cut 3 (some .int) :: ([.fieldLink RX11 16 "IntegerHouse" "disk" "LIntegerHouse$Disk;", .methodLink RX11 130 yX1_setCut, .instanceMethod yX1_setCut, .selects RX1 yX1_setCut yX1_setCut, .initialized RX1, .code yX1_setCut cX1_setCut 3 none, .fieldLink RX1 25 "IntegerHouse$Disk" "cutAt" "I", .fieldLink RX1 37 "IntegerHouse$Disk" "tear" "I"] ++ wsX110 ++ wsX10)
def wsX11_start_r1 : List Cond := [Cond.fieldLink RX11 16 "IntegerHouse" "disk" "LIntegerHouse$Disk;", Cond.fieldLink RX11 23 "IntegerHouse" "house" "LIntegerHouse$House;", Cond.fieldLink RX11 137 "IntegerHouse" "acts" "I", Cond.methodLink RX11 134 yX2_clear, Cond.instanceMethod yX2_clear, Cond.selects RX2 yX2_clear yX2_clear, Cond.initialized RX2, Cond.code yX2_clear cX2_clear 1 none, Cond.fieldLink RX2 48 "IntegerHouse$House" "layers" "I", Cond.methodLink RX2 44 yX2_cutBack, Cond.instanceMethod yX2_cutBack, Cond.selects RX2 yX2_cutBack yX2_cutBack, Cond.code yX2_cutBack cX2_cutBack 4 none, Cond.fieldLink RX2 52 "IntegerHouse$House" "variables" "I", Cond.fieldLink RX2 55 "IntegerHouse$House" "claims" "I", Cond.fieldLink RX2 58 "IntegerHouse$House" "poolSize" "I", Cond.fieldLink RX2 61 "IntegerHouse$House" "on" "I", Cond.methodLink RX11 140 yX1_findUsed, Cond.instanceMethod yX1_findUsed, Cond.selects RX1 yX1_findUsed yX1_findUsed, Cond.initialized RX1, Cond.code yX1_findUsed cX1_findUsed 3 (some .int), Cond.methodLink RX1 78 yX1_isRight, Cond.instanceMethod yX1_isRight]
def wsX11_start_r2 : List Cond := [Cond.selects RX1 yX1_isRight yX1_isRight, Cond.code yX1_isRight cX1_isRight 8 (some .boolean), Cond.fieldLink RX1 15 "IntegerHouse$Disk" "torn" "[Z", Cond.methodLink RX1 33 yX1_byteOf, Cond.instanceMethod yX1_byteOf, Cond.selects RX1 yX1_byteOf yX1_byteOf, Cond.code yX1_byteOf cX1_byteOf 3 (some .int), Cond.fieldLink RX1 11 "IntegerHouse$Disk" "blocks" "[B", Cond.methodLink RX1 29 yX1_isByte, Cond.static yX1_isByte, Cond.code yX1_isByte cX1_isByte 2 (some .boolean), Cond.methodLink RX1 74 yX1_summed, Cond.static yX1_summed, Cond.code yX1_summed cX1_summed 3 (some .int), Cond.constant RX1 77 (-1640531535), Cond.methodLink RX11 143 yX1_loadSync, Cond.instanceMethod yX1_loadSync, Cond.selects RX1 yX1_loadSync yX1_loadSync, Cond.code yX1_loadSync cX1_loadSync 7 (some .int), Cond.fieldLink RX1 40 "IntegerHouse$Disk" "waiting" "I", Cond.methodLink RX1 50 yX1_await, Cond.instanceMethod yX1_await, Cond.selects RX1 yX1_await yX1_await, Cond.code yX1_await cX1_await 2 none]
def wsX11_start_r3 : List Cond := [Cond.fieldLink RX1 22 "IntegerHouse$Disk" "waits" "[B", Cond.methodLink RX11 147 yX1_recordSize, Cond.instanceMethod yX1_recordSize, Cond.selects RX1 yX1_recordSize yX1_recordSize, Cond.code yX1_recordSize cX1_recordSize 5 (some .int), Cond.methodLink RX1 46 yX1_waitingByte, Cond.instanceMethod yX1_waitingByte, Cond.selects RX1 yX1_waitingByte yX1_waitingByte, Cond.code yX1_waitingByte cX1_waitingByte 2 (some .int), Cond.methodLink RX1 81 yX1_waitingInt, Cond.instanceMethod yX1_waitingInt, Cond.selects RX1 yX1_waitingInt yX1_waitingInt, Cond.code yX1_waitingInt cX1_waitingInt 2 (some .int), Cond.methodLink RX11 150 yX11_redo, Cond.instanceMethod yX11_redo, Cond.selects RX11 yX11_redo yX11_redo, Cond.initialized RX11, Cond.code yX11_redo cX11_redo 6 (some .boolean), Cond.fieldLink RX11 48 "IntegerHouse" "reader" "LIntegerHouse$Reader;", Cond.methodLink RX11 157 yX1_waitingByte, Cond.methodLink RX11 166 yX8_readText, Cond.instanceMethod yX8_readText, Cond.selects RX8 yX8_readText yX8_readText, Cond.initialized RX8]
def wsX11_start_r4 : List Cond := [Cond.code yX8_readText cX8_readText 8 (some .boolean), Cond.fieldLink RX8 15 "IntegerHouse$Reader" "house" "LIntegerHouse$House;", Cond.fieldLink RX8 39 "IntegerHouse$Reader" "kind" "I", Cond.fieldLink RX8 62 "IntegerHouse$Reader" "faultKind" "I", Cond.fieldLink RX8 19 "IntegerHouse$Reader" "maker" "LIntegerHouse$Maker;", Cond.methodLink RX8 23 yX8_begin, Cond.instanceMethod yX8_begin, Cond.selects RX8 yX8_begin yX8_begin, Cond.code yX8_begin cX8_begin 4 none, Cond.fieldLink RX8 9 "IntegerHouse$Reader" "lexer" "LIntegerHouse$Lexer;", Cond.fieldLink RX8 123 "IntegerHouse$Reader" "faultPlace" "I", Cond.fieldLink RX8 101 "IntegerHouse$Reader" "hasFormula" "Z", Cond.fieldLink RX8 79 "IntegerHouse$Reader" "at" "I", Cond.methodLink RX8 119 yX3_scan, Cond.instanceMethod yX3_scan, Cond.selects RX3 yX3_scan yX3_scan, Cond.initialized RX3, Cond.code yX3_scan cX3_scan 9 none, Cond.fieldLink RX3 28 "IntegerHouse$Lexer" "source" "[B", Cond.fieldLink RX3 55 "IntegerHouse$Lexer" "begin" "I", Cond.fieldLink RX3 52 "IntegerHouse$Lexer" "stop" "I", Cond.fieldLink RX3 48 "IntegerHouse$Lexer" "size" "I", Cond.fieldLink RX3 19 "IntegerHouse$Lexer" "spots" "[I", Cond.fieldLink RX3 15 "IntegerHouse$Lexer" "kinds" "[I"]
def wsX11_start_r5 : List Cond := [Cond.methodLink RX3 59 yX3_behindBlanks, Cond.instanceMethod yX3_behindBlanks, Cond.selects RX3 yX3_behindBlanks yX3_behindBlanks, Cond.code yX3_behindBlanks cX3_behindBlanks 3 (some .int), Cond.methodLink RX3 63 yX3_byteAt, Cond.instanceMethod yX3_byteAt, Cond.selects RX3 yX3_byteAt yX3_byteAt, Cond.code yX3_byteAt cX3_byteAt 2 (some .int), Cond.methodLink RX3 66 yX3_isLetter, Cond.static yX3_isLetter, Cond.code yX3_isLetter cX3_isLetter 1 (some .boolean), Cond.methodLink RX3 70 yX3_word, Cond.instanceMethod yX3_word, Cond.selects RX3 yX3_word yX3_word, Cond.code yX3_word cX3_word 9 (some .int), Cond.fieldLink RX3 11 "IntegerHouse$Lexer" "words" "[J", Cond.fieldLink RX3 25 "IntegerHouse$Lexer" "names" "[J", Cond.methodLink RX3 74 yX3_isDigit, Cond.static yX3_isDigit, Cond.code yX3_isDigit cX3_isDigit 1 (some .boolean), Cond.methodLink RX3 77 yX3_digits, Cond.instanceMethod yX3_digits, Cond.selects RX3 yX3_digits yX3_digits, Cond.code yX3_digits cX3_digits 6 (some .int)]
def wsX11_start_r6 : List Cond := [Cond.fieldLink RX3 22 "IntegerHouse$Lexer" "numbers" "[I", Cond.methodLink RX3 81 yX3_sign, Cond.instanceMethod yX3_sign, Cond.selects RX3 yX3_sign yX3_sign, Cond.code yX3_sign cX3_sign 6 (some .int), Cond.methodLink RX3 44 yJ0_charAt_5068e, Cond.instanceMethod yJ0_charAt_5068e, Cond.selects RJ0 yJ0_charAt_5068e yJ0_charAt_5068e, Cond.initialized RJ0, Cond.code yJ0_charAt_5068e cJ0_charAt_5068e 2 (some .char), Cond.fieldLink RJ0 9 "java/lang/String" "value" "[B", Cond.methodLink RJ0 492 yJ0_isLatin1_aae02, Cond.instanceMethod yJ0_isLatin1_aae02, Cond.selects RJ0 yJ0_isLatin1_aae02 yJ0_isLatin1_aae02, Cond.code yJ0_isLatin1_aae02 cJ0_isLatin1_aae02 1 (some .boolean), Cond.fieldLink RJ0 38 "java/lang/String" "COMPACT_STRINGS" "Z", Cond.fieldLink RJ0 15 "java/lang/String" "coder" "B", Cond.methodLink RJ0 495 yJ1_charAt_3b067, Cond.static yJ1_charAt_3b067, Cond.initialized RJ1, Cond.code yJ1_charAt_3b067 cJ1_charAt_3b067 2 (some .char), Cond.methodLink RJ1 9 yJ0_checkIndex_df160, Cond.static yJ0_checkIndex_df160, Cond.code yJ0_checkIndex_df160 cJ0_checkIndex_df160 2 none]
def wsX11_start_r7 : List Cond := [Cond.fieldLink RJ0 1053 "jdk/internal/util/Preconditions" "SIOOBE_FORMATTER" "Ljava/util/function/BiFunction;", Cond.methodLink RJ0 1059 yJ3_checkIndex_8e157, Cond.static yJ3_checkIndex_8e157, Cond.initialized RJ3, Cond.code yJ3_checkIndex_8e157 cJ3_checkIndex_8e157 3 (some .int), Cond.methodLink RJ0 498 yJ2_charAt_3b067, Cond.static yJ2_charAt_3b067, Cond.initialized RJ2, Cond.code yJ2_charAt_3b067 cJ2_charAt_3b067 2 (some .char), Cond.methodLink RJ2 67 yJ2_checkIndex_2214a, Cond.static yJ2_checkIndex_2214a, Cond.code yJ2_checkIndex_2214a cJ2_checkIndex_2214a 2 none, Cond.methodLink RJ2 48 yJ2_length_9d52b, Cond.static yJ2_length_9d52b, Cond.code yJ2_length_9d52b cJ2_length_9d52b 1 (some .int), Cond.methodLink RJ2 414 yJ0_checkIndex_df160, Cond.methodLink RJ2 71 yJ2_getChar_3b067, Cond.static yJ2_getChar_3b067, Cond.code yJ2_getChar_3b067 cJ2_getChar_3b067 2 (some .char), Cond.fieldLink RJ2 44 "java/lang/StringUTF16" "$assertionsDisabled" "Z", Cond.fieldLink RJ2 59 "java/lang/StringUTF16" "HI_BYTE_SHIFT" "I", Cond.fieldLink RJ2 63 "java/lang/StringUTF16" "LO_BYTE_SHIFT" "I", Cond.methodLink RX8 98 yX8_next, Cond.instanceMethod yX8_next]
def wsX11_start_r8 : List Cond := [Cond.selects RX8 yX8_next yX8_next, Cond.code yX8_next cX8_next 1 none, Cond.fieldLink RX8 136 "IntegerHouse$Reader" "place" "I", Cond.methodLink RX8 42 yX8_readVariables, Cond.instanceMethod yX8_readVariables, Cond.selects RX8 yX8_readVariables yX8_readVariables, Cond.code yX8_readVariables cX8_readVariables 2 none, Cond.methodLink RX8 143 yX8_readVariable, Cond.instanceMethod yX8_readVariable, Cond.selects RX8 yX8_readVariable yX8_readVariable, Cond.code yX8_readVariable cX8_readVariable 3 none, Cond.methodLink RX8 82 yX3_nameAt, Cond.instanceMethod yX3_nameAt, Cond.selects RX3 yX3_nameAt yX3_nameAt, Cond.code yX3_nameAt cX3_nameAt 2 (some .long), Cond.methodLink RX8 95 yX8_fail, Cond.instanceMethod yX8_fail, Cond.selects RX8 yX8_fail yX8_fail, Cond.code yX8_fail cX8_fail 2 none, Cond.methodLink RX8 92 yX2_variableOf, Cond.instanceMethod yX2_variableOf, Cond.selects RX2 yX2_variableOf yX2_variableOf, Cond.code yX2_variableOf cX2_variableOf 4 (some .int), Cond.fieldLink RX2 9 "IntegerHouse$House" "variableNames" "[J"]
def wsX11_start_r9 : List Cond := [Cond.methodLink RX8 88 yX2_claimOf, Cond.instanceMethod yX2_claimOf, Cond.selects RX2 yX2_claimOf yX2_claimOf, Cond.code yX2_claimOf cX2_claimOf 4 (some .int), Cond.fieldLink RX2 15 "IntegerHouse$House" "claimNames" "[J", Cond.methodLink RX8 146 yX2_addVariable, Cond.instanceMethod yX2_addVariable, Cond.selects RX2 yX2_addVariable yX2_addVariable, Cond.code yX2_addVariable cX2_addVariable 3 (some .boolean), Cond.methodLink RX8 45 yX8_beginClaim, Cond.instanceMethod yX8_beginClaim, Cond.selects RX8 yX8_beginClaim yX8_beginClaim, Cond.code yX8_beginClaim cX8_beginClaim 1 (some .boolean), Cond.fieldLink RX8 150 "IntegerHouse$Reader" "claimName" "J", Cond.fieldLink RX8 154 "IntegerHouse$Reader" "claimPlace" "I", Cond.methodLink RX8 56 yX8_expect, Cond.instanceMethod yX8_expect, Cond.selects RX8 yX8_expect yX8_expect, Cond.code yX8_expect cX8_expect 2 none, Cond.methodLink RX8 49 yX8_readInto, Cond.instanceMethod yX8_readInto, Cond.selects RX8 yX8_readInto yX8_readInto, Cond.code yX8_readInto cX8_readInto 2 none, Cond.fieldLink RX8 164 "IntegerHouse$Reader" "slot" "I"]
def wsX11_start_r10 : List Cond := [Cond.fieldLink RX8 167 "IntegerHouse$Reader" "tokens" "I", Cond.fieldLink RX8 170 "IntegerHouse$Reader" "steps" "I", Cond.fieldLink RX8 173 "IntegerHouse$Reader" "open" "I", Cond.methodLink RX8 157 yX2_setFact, Cond.instanceMethod yX2_setFact, Cond.selects RX2 yX2_setFact yX2_setFact, Cond.code yX2_setFact cX2_setFact 4 none, Cond.fieldLink RX2 28 "IntegerHouse$House" "facts" "[I", Cond.methodLink RX8 176 yX8_term, Cond.instanceMethod yX8_term, Cond.selects RX8 yX8_term yX8_term, Cond.code yX8_term cX8_term 3 none, Cond.methodLink RX8 191 yX8_accept, Cond.instanceMethod yX8_accept, Cond.selects RX8 yX8_accept yX8_accept, Cond.code yX8_accept cX8_accept 4 none, Cond.methodLink RX8 185 yX2_setToken, Cond.instanceMethod yX2_setToken, Cond.selects RX2 yX2_setToken yX2_setToken, Cond.code yX2_setToken cX2_setToken 4 none, Cond.fieldLink RX2 18 "IntegerHouse$House" "tokens" "[I", Cond.methodLink RX8 219 yX8_part, Cond.instanceMethod yX8_part, Cond.selects RX8 yX8_part yX8_part]
def wsX11_start_r11 : List Cond := [Cond.methodLink RX8 194 yX8_step, Cond.instanceMethod yX8_step, Cond.selects RX8 yX8_step yX8_step, Cond.code yX8_step cX8_step 2 none, Cond.methodLink RX8 182 yX2_setStep, Cond.instanceMethod yX2_setStep, Cond.selects RX2 yX2_setStep yX2_setStep, Cond.code yX2_setStep cX2_setStep 4 none, Cond.fieldLink RX2 22 "IntegerHouse$House" "steps" "[I", Cond.code yX8_bracketed cX8_bracketed 3 none, Cond.methodLink RX8 206 yX3_numberAt, Cond.instanceMethod yX3_numberAt, Cond.selects RX3 yX3_numberAt yX3_numberAt, Cond.code yX3_numberAt cX3_numberAt 2 (some .int), Cond.constant RX3 58 (1048575), Cond.methodLink RX8 209 yX8_checkDivisor, Cond.instanceMethod yX8_checkDivisor, Cond.selects RX8 yX8_checkDivisor yX8_checkDivisor, Cond.code yX8_checkDivisor cX8_checkDivisor 2 none, Cond.methodLink RX8 212 yX3_writtenAt, Cond.instanceMethod yX3_writtenAt, Cond.selects RX3 yX3_writtenAt yX3_writtenAt, Cond.code yX3_writtenAt cX3_writtenAt 2 (some .int), Cond.code yX8_factor cX8_factor 3 none]
def wsX11_start_r12 : List Cond := [Cond.methodLink RX8 226 yX8_bracketed, Cond.instanceMethod yX8_bracketed, Cond.selects RX8 yX8_bracketed yX8_bracketed, Cond.code yX8_part cX8_part 5 none, Cond.methodLink RX8 223 yX8_factor, Cond.instanceMethod yX8_factor, Cond.selects RX8 yX8_factor yX8_factor, Cond.methodLink RX8 179 yX8_formula, Cond.instanceMethod yX8_formula, Cond.selects RX8 yX8_formula yX8_formula, Cond.code yX8_formula cX8_formula 2 none, Cond.methodLink RX8 188 yX8_side, Cond.instanceMethod yX8_side, Cond.selects RX8 yX8_side yX8_side, Cond.code yX8_both cX8_both 2 none, Cond.methodLink RX8 200 yX8_one, Cond.instanceMethod yX8_one, Cond.selects RX8 yX8_one yX8_one, Cond.code yX8_one cX8_one 4 none, Cond.methodLink RX8 203 yX3_kindAt, Cond.instanceMethod yX3_kindAt, Cond.selects RX3 yX3_kindAt yX3_kindAt, Cond.code yX3_kindAt cX3_kindAt 2 (some .int), Cond.static yX11_isComparison]
def wsX11_start_r13 : List Cond := [Cond.code yX11_isComparison cX11_isComparison 1 (some .boolean), Cond.code yX8_side cX8_side 2 none, Cond.methodLink RX8 197 yX8_both, Cond.instanceMethod yX8_both, Cond.selects RX8 yX8_both yX8_both, Cond.methodLink RX8 53 yX8_endClaim, Cond.instanceMethod yX8_endClaim, Cond.selects RX8 yX8_endClaim yX8_endClaim, Cond.code yX8_endClaim cX8_endClaim 1 none, Cond.methodLink RX8 160 yX2_addClaim, Cond.instanceMethod yX2_addClaim, Cond.selects RX2 yX2_addClaim yX2_addClaim, Cond.code yX2_addClaim cX2_addClaim 3 none, Cond.methodLink RX2 64 yX2_setFact, Cond.methodLink RX8 59 yX8_expectEnd, Cond.instanceMethod yX8_expectEnd, Cond.selects RX8 yX8_expectEnd yX8_expectEnd, Cond.code yX8_expectEnd cX8_expectEnd 1 none, Cond.methodLink RX8 65 yX4_make, Cond.instanceMethod yX4_make, Cond.selects RX4 yX4_make yX4_make, Cond.initialized RX4, Cond.code yX4_make cX4_make 10 (some .int), Cond.fieldLink RX4 25 "IntegerHouse$Maker" "house" "LIntegerHouse$House;"]
def wsX11_start_r14 : List Cond := [Cond.fieldLink RX4 33 "IntegerHouse$Maker" "slot" "I", Cond.methodLink RX4 56 Lib.Math.min.name, Cond.static Lib.Math.min.name, Cond.initialized "java/lang/Math", Cond.code Lib.Math.min.name Lib.Math.min.code 2 (some .int), Cond.fieldLink RX4 61 "IntegerHouse$Maker" "great" "Z", Cond.fieldLink RX4 15 "IntegerHouse$Maker" "tops" "[I", Cond.fieldLink RX4 83 "IntegerHouse$Maker" "falsehood" "I", Cond.fieldLink RX4 86 "IntegerHouse$Maker" "codeSize" "I", Cond.fieldLink RX4 89 "IntegerHouse$Maker" "crowded" "Z", Cond.methodLink RX4 29 yX4_begin, Cond.instanceMethod yX4_begin, Cond.selects RX4 yX4_begin yX4_begin, Cond.code yX4_begin cX4_begin 2 none, Cond.methodLink RX4 79 yX2_setFact, Cond.methodLink RX4 39 yX2_fact, Cond.instanceMethod yX2_fact, Cond.selects RX2 yX2_fact yX2_fact, Cond.code yX2_fact cX2_fact 3 (some .int), Cond.methodLink RX4 43 yX2_step, Cond.instanceMethod yX2_step, Cond.selects RX2 yX2_step yX2_step, Cond.code yX2_step cX2_step 3 (some .int), Cond.methodLink RX4 46 yX4_isPlain]
def wsX11_start_r15 : List Cond := [Cond.instanceMethod yX4_isPlain, Cond.selects RX4 yX4_isPlain yX4_isPlain, Cond.code yX4_isPlain cX4_isPlain 4 (some .boolean), Cond.methodLink RX4 50 yX4_lastOf, Cond.instanceMethod yX4_lastOf, Cond.selects RX4 yX4_lastOf yX4_lastOf, Cond.code yX4_lastOf cX4_lastOf 4 (some .int), Cond.methodLink RX4 102 yX4_isConclusion, Cond.static yX4_isConclusion, Cond.code yX4_isConclusion cX4_isConclusion 1 (some .boolean), Cond.methodLink RX4 53 yX4_casesOf, Cond.instanceMethod yX4_casesOf, Cond.selects RX4 yX4_casesOf yX4_casesOf, Cond.code yX4_casesOf cX4_casesOf 5 (some .int), Cond.methodLink RX4 108 yX4_waysOf, Cond.static yX4_waysOf, Cond.code yX4_waysOf cX4_waysOf 2 (some .int), Cond.methodLink RX4 65 yX4_fall, Cond.instanceMethod yX4_fall, Cond.selects RX4 yX4_fall yX4_fall, Cond.code yX4_fall cX4_fall 7 none, Cond.methodLink RX4 121 yX4_split, Cond.instanceMethod yX4_split, Cond.selects RX4 yX4_split yX4_split]
def wsX11_start_r16 : List Cond := [Cond.methodLink RX4 124 yX4_conclude, Cond.instanceMethod yX4_conclude, Cond.selects RX4 yX4_conclude yX4_conclude, Cond.code yX4_conclude cX4_conclude 6 none, Cond.methodLink RX4 137 yX4_top, Cond.instanceMethod yX4_top, Cond.selects RX4 yX4_top yX4_top, Cond.code yX4_top cX4_top 2 (some .int), Cond.methodLink RX4 95 yX4_form, Cond.static yX4_form, Cond.code yX4_form cX4_form 2 (some .int), Cond.methodLink RX4 166 yX4_divisorOf, Cond.instanceMethod yX4_divisorOf, Cond.selects RX4 yX4_divisorOf yX4_divisorOf, Cond.code yX4_divisorOf cX4_divisorOf 7 (some .int), Cond.fieldLink RX4 11 "IntegerHouse$Maker" "forms" "[J", Cond.methodLink RX4 172 Lib.MathLoose.max_long.x, Cond.static Lib.MathLoose.max_long.x, Cond.code Lib.MathLoose.max_long.x Lib.MathLoose.max_long.code 4 (some .long), Cond.constantLong RX4 185 (12), Cond.fieldLink RX4 19 "IntegerHouse$Maker" "row" "[I", Cond.methodLink RX4 187 yJ9_floorMod_f86c9, Cond.static yJ9_floorMod_f86c9, Cond.initialized RJ9]
def wsX11_start_r17 : List Cond := [Cond.code yJ9_floorMod_f86c9 cJ9_floorMod_f86c9 6 (some .long), Cond.methodLink RX4 144 yX4_add, Cond.instanceMethod yX4_add, Cond.selects RX4 yX4_add yX4_add, Cond.code yX4_add cX4_add 3 none, Cond.methodLink RX4 76 yX4_emit, Cond.instanceMethod yX4_emit, Cond.selects RX4 yX4_emit yX4_emit, Cond.code yX4_emit cX4_emit 2 none, Cond.methodLink RX4 190 yX2_poolNumber, Cond.instanceMethod yX2_poolNumber, Cond.selects RX2 yX2_poolNumber yX2_poolNumber, Cond.code yX2_poolNumber cX2_poolNumber 6 (some .int), Cond.fieldLink RX2 34 "IntegerHouse$House" "pool" "[I", Cond.methodLink RX4 115 yX2_addAtom, Cond.instanceMethod yX2_addAtom, Cond.selects RX2 yX2_addAtom yX2_addAtom, Cond.code yX2_addAtom cX2_addAtom 5 (some .boolean), Cond.fieldLink RX2 31 "IntegerHouse$House" "atoms" "[I", Cond.methodLink RX4 153 yX4_combine, Cond.instanceMethod yX4_combine, Cond.selects RX4 yX4_combine yX4_combine, Cond.code yX4_combine cX4_combine 12 none, Cond.static yX11_commonDivisor]
def wsX11_start_r18 : List Cond := [Cond.code yX11_commonDivisor cX11_commonDivisor 11 (some .long), Cond.methodLink RX4 157 yX4_check, Cond.instanceMethod yX4_check, Cond.selects RX4 yX4_check yX4_check, Cond.code yX4_check cX4_check 3 none, Cond.methodLink RX4 98 Lib.MathLoose.abs_long.x, Cond.static Lib.MathLoose.abs_long.x, Cond.code Lib.MathLoose.abs_long.x Lib.MathLoose.abs_long.code 2 (some .long), Cond.constantLong RX4 179 (1000000), Cond.methodLink RX4 140 yX4_lineOf, Cond.instanceMethod yX4_lineOf, Cond.selects RX4 yX4_lineOf yX4_lineOf, Cond.code yX4_lineOf cX4_lineOf 8 (some .int), Cond.constantLong RX4 181 (20), Cond.constantLong RX4 183 (99999), Cond.methodLink RX4 92 yX4_work, Cond.instanceMethod yX4_work, Cond.selects RX4 yX4_work yX4_work, Cond.code yX4_work cX4_work 5 none, Cond.methodLink RX4 169 yX4_pushForm, Cond.instanceMethod yX4_pushForm, Cond.selects RX4 yX4_pushForm yX4_pushForm, Cond.code yX4_pushForm cX4_pushForm 6 none, Cond.methodLink RX4 160 yX4_setTop]
def wsX11_start_r19 : List Cond := [Cond.instanceMethod yX4_setTop, Cond.selects RX4 yX4_setTop yX4_setTop, Cond.code yX4_setTop cX4_setTop 3 none, Cond.methodLink RX4 150 yX4_multiply, Cond.instanceMethod yX4_multiply, Cond.selects RX4 yX4_multiply yX4_multiply, Cond.code yX4_multiply cX4_multiply 4 none, Cond.code yX4_split cX4_split 7 none, Cond.methodLink RX4 127 yX4_splitSign, Cond.instanceMethod yX4_splitSign, Cond.selects RX4 yX4_splitSign yX4_splitSign, Cond.code yX4_splitSign cX4_splitSign 4 none, Cond.methodLink RX4 147 yX4_copyLevel, Cond.instanceMethod yX4_copyLevel, Cond.selects RX4 yX4_copyLevel yX4_copyLevel, Cond.code yX4_copyLevel cX4_copyLevel 4 none, Cond.methodLink RX4 163 yX4_copyForm, Cond.instanceMethod yX4_copyForm, Cond.selects RX4 yX4_copyForm yX4_copyForm, Cond.code yX4_copyForm cX4_copyForm 4 none, Cond.methodLink RX4 130 yX4_splitOrder, Cond.instanceMethod yX4_splitOrder, Cond.selects RX4 yX4_splitOrder yX4_splitOrder, Cond.code yX4_splitOrder cX4_splitOrder 6 none]
def wsX11_start_r20 : List Cond := [Cond.methodLink RX4 133 yX4_splitRest, Cond.instanceMethod yX4_splitRest, Cond.selects RX4 yX4_splitRest yX4_splitRest, Cond.code yX4_splitRest cX4_splitRest 7 none, Cond.methodLink RX4 69 yX4_arePlain, Cond.instanceMethod yX4_arePlain, Cond.selects RX4 yX4_arePlain yX4_arePlain, Cond.code yX4_arePlain cX4_arePlain 5 (some .boolean), Cond.methodLink RX4 73 yX4_takeNamed, Cond.instanceMethod yX4_takeNamed, Cond.selects RX4 yX4_takeNamed yX4_takeNamed, Cond.code yX4_takeNamed cX4_takeNamed 4 none, Cond.methodLink RX4 112 yX2_atomOf, Cond.instanceMethod yX2_atomOf, Cond.selects RX2 yX2_atomOf yX2_atomOf, Cond.code yX2_atomOf cX2_atomOf 3 (some .int), Cond.methodLink RX8 71 yX8_failIf, Cond.instanceMethod yX8_failIf, Cond.selects RX8 yX8_failIf yX8_failIf, Cond.code yX8_failIf cX8_failIf 3 none, Cond.methodLink RX8 139 yX2_fact, Cond.methodLink RX8 75 yX2_cutBack, Cond.methodLink RX11 170 yX2_turnOnFrom, Cond.instanceMethod yX2_turnOnFrom]
def wsX11_start_r21 : List Cond := [Cond.selects RX2 yX2_turnOnFrom yX2_turnOnFrom, Cond.code yX2_turnOnFrom cX2_turnOnFrom 2 none, Cond.methodLink RX11 173 yX1_waitingInt, Cond.methodLink RX11 176 yX2_isClaim, Cond.instanceMethod yX2_isClaim, Cond.selects RX2 yX2_isClaim yX2_isClaim, Cond.code yX2_isClaim cX2_isClaim 2 (some .boolean), Cond.methodLink RX11 180 yX2_turn, Cond.instanceMethod yX2_turn, Cond.selects RX2 yX2_turn yX2_turn, Cond.code yX2_turn cX2_turn 4 (some .boolean), Cond.methodLink RX11 184 yX2_addLayer, Cond.instanceMethod yX2_addLayer, Cond.selects RX2 yX2_addLayer yX2_addLayer, Cond.code yX2_addLayer cX2_addLayer 2 (some .boolean), Cond.fieldLink RX2 37 "IntegerHouse$House" "marks" "[I", Cond.methodLink RX11 188 yX2_leaveLayer, Cond.instanceMethod yX2_leaveLayer, Cond.selects RX2 yX2_leaveLayer yX2_leaveLayer, Cond.code yX2_leaveLayer cX2_leaveLayer 2 (some .boolean), Cond.methodLink RX11 154 yX1_comeUp, Cond.instanceMethod yX1_comeUp, Cond.selects RX1 yX1_comeUp yX1_comeUp, Cond.code yX1_comeUp cX1_comeUp 2 none]
def wsX11_start_r22 : List Cond := [Cond.fieldLink RX1 43 "IntegerHouse$Disk" "used" "I", Cond.fieldLink RX1 25 "IntegerHouse$Disk" "cutAt" "I", Cond.fieldLink RX1 65 "IntegerHouse$Disk" "down" "Z"]
def wsX11_start : List Cond := .code yX11_start cX11_start 7 (some .int) :: ((wsX11_start_r1 ++ (wsX11_start_r2 ++ (wsX11_start_r3 ++ (wsX11_start_r4 ++ (wsX11_start_r5 ++ (wsX11_start_r6 ++ (wsX11_start_r7 ++ (wsX11_start_r8 ++ (wsX11_start_r9 ++ (wsX11_start_r10 ++ (wsX11_start_r11 ++ (wsX11_start_r12 ++ (wsX11_start_r13 ++ (wsX11_start_r14 ++ (wsX11_start_r15 ++ (wsX11_start_r16 ++ (wsX11_start_r17 ++ (wsX11_start_r18 ++ (wsX11_start_r19 ++ (wsX11_start_r20 ++ (wsX11_start_r21 ++ wsX11_start_r22))))))))))))))))))))) ++ wsX110 ++ wsX10 ++ wsX20 ++ wsX80 ++ wsX30 ++ wsX40)
def wsX11_verify : List Cond := .code yX11_verify cX11_verify 1 (some .int) :: ([.fieldLink RX11 16 "IntegerHouse" "disk" "LIntegerHouse$Disk;", .methodLink RX11 191 yX1_firstWrong, .instanceMethod yX1_firstWrong, .selects RX1 yX1_firstWrong yX1_firstWrong, .initialized RX1, .code yX1_firstWrong cX1_firstWrong 2 (some .int), .fieldLink RX1 43 "IntegerHouse$Disk" "used" "I", .methodLink RX1 78 yX1_isRight, .instanceMethod yX1_isRight, .selects RX1 yX1_isRight yX1_isRight, .code yX1_isRight cX1_isRight 8 (some .boolean), .fieldLink RX1 15 "IntegerHouse$Disk" "torn" "[Z", .methodLink RX1 33 yX1_byteOf, .instanceMethod yX1_byteOf, .selects RX1 yX1_byteOf yX1_byteOf, .code yX1_byteOf cX1_byteOf 3 (some .int), .fieldLink RX1 11 "IntegerHouse$Disk" "blocks" "[B", .methodLink RX1 29 yX1_isByte, .static yX1_isByte, .code yX1_isByte cX1_isByte 2 (some .boolean), .methodLink RX1 74 yX1_summed, .static yX1_summed, .code yX1_summed cX1_summed 3 (some .int), .constant RX1 77 (-1640531535)] ++ wsX110 ++ wsX10)
def wsX11_octet : List Cond := .code yX11_octet cX11_octet 3 (some .int) :: ([.classLink RX11 197 "java/lang/IndexOutOfBoundsException", .initialized "java/lang/IndexOutOfBoundsException", .fieldLink RX11 16 "IntegerHouse" "disk" "LIntegerHouse$Disk;", .methodLink RX11 194 yX1_isByte, .static yX1_isByte, .initialized RX1, .code yX1_isByte cX1_isByte 2 (some .boolean), .methodLink RX11 202 yX1_byteOf, .instanceMethod yX1_byteOf, .selects RX1 yX1_byteOf yX1_byteOf, .code yX1_byteOf cX1_byteOf 3 (some .int), .fieldLink RX1 11 "IntegerHouse$Disk" "blocks" "[B", .methodLink RX1 29 yX1_isByte] ++ wsX110 ++ wsX10 ++ (vx_atS RX11 201 "java/lang/IndexOutOfBoundsException" ["java/lang/RuntimeException", "java/lang/Exception"]).filter goodWord)
def wsX11_poke : List Cond := .code yX11_poke cX11_poke 4 (some .int) :: ([.classLink RX11 197 "java/lang/IndexOutOfBoundsException", .initialized "java/lang/IndexOutOfBoundsException", .fieldLink RX11 16 "IntegerHouse" "disk" "LIntegerHouse$Disk;", .methodLink RX11 194 yX1_isByte, .static yX1_isByte, .initialized RX1, .code yX1_isByte cX1_isByte 2 (some .boolean), .methodLink RX11 206 yX1_flip, .instanceMethod yX1_flip, .selects RX1 yX1_flip yX1_flip, .code yX1_flip cX1_flip 4 (some .int), .fieldLink RX1 11 "IntegerHouse$Disk" "blocks" "[B", .methodLink RX1 29 yX1_isByte, .methodLink RX1 33 yX1_byteOf, .instanceMethod yX1_byteOf, .selects RX1 yX1_byteOf yX1_byteOf, .code yX1_byteOf cX1_byteOf 3 (some .int)] ++ wsX110 ++ wsX10 ++ (vx_atS RX11 201 "java/lang/IndexOutOfBoundsException" ["java/lang/RuntimeException", "java/lang/Exception"]).filter goodWord)
def wsX11_count : List Cond := .code yX11_count cX11_count 2 (some .int) :: ([.fieldLink RX11 102 "IntegerHouse" "tapeLength" "I", .fieldLink RX11 16 "IntegerHouse" "disk" "LIntegerHouse$Disk;", .fieldLink RX11 23 "IntegerHouse" "house" "LIntegerHouse$House;", .fieldLink RX11 137 "IntegerHouse" "acts" "I", .methodLink RX11 216 yJ6_bitCount_0f7a4, .static yJ6_bitCount_0f7a4, .initialized RJ6, .code yJ6_bitCount_0f7a4 cJ6_bitCount_0f7a4 1 (some .int), .constant RJ6 265 (1431655765), .constant RJ6 266 (858993459), .constant RJ6 267 (252645135)] ++ wsX110 ++ wsX10 ++ wsX20)
def wsX12_thrown : List Cond := .code yX12_thrown cX12_thrown 1 (some .int) :: ([.fieldLink RX12 3 "IntegerHouseModel" "thrown" "I"] ++ wsX120)
def wsX12_in : List Cond := .code yX12_in cX12_in 6 (some .boolean) :: ([])
def wsX12_end : List Cond := .code yX12_end cX12_end 2 none :: ([.fieldLink RX12 485 "IntegerHouseModel" "taped" "I", .fieldLink RX12 3 "IntegerHouseModel" "thrown" "I", .methodLink RX12 504 yX12_in, .static yX12_in, .initialized RX12, .code yX12_in cX12_in 6 (some .boolean)] ++ wsX120)
def wsX12_at : List Cond := .code yX12_at cX12_at 3 (some .int) :: ([.fieldLink RX12 19 "IntegerHouseModel" "disk" "[B"] ++ wsX120)
def wsX12_sync : List Cond := .code yX12_sync cX12_sync 6 (some .int) :: ([.fieldLink RX12 3 "IntegerHouseModel" "thrown" "I", .fieldLink RX12 488 "IntegerHouseModel" "down" "Z", .fieldLink RX12 475 "IntegerHouseModel" "waitBytes" "I", .fieldLink RX12 478 "IntegerHouseModel" "used" "I", .fieldLink RX12 22 "IntegerHouseModel" "cutAt" "I", .fieldLink RX12 523 "IntegerHouseModel" "tear" "I", .fieldLink RX12 19 "IntegerHouseModel" "disk" "[B", .fieldLink RX12 39 "IntegerHouseModel" "image" "[B", .fieldLink RX12 35 "IntegerHouseModel" "torn" "[Z", .methodLink RX12 519 yX12_make, .instanceMethod yX12_make, .selects RX12 yX12_make yX12_make, .initialized RX12, .code yX12_make cX12_make 7 none, .fieldLink RX12 25 "IntegerHouseModel" "waits" "[B", .methodLink RX12 515 yX12_sum, .static yX12_sum, .code yX12_sum cX12_sum 5 (some .int), .constant RX12 508 (-1640531535)] ++ wsX120)
def wsX12_cut : List Cond := .code yX12_cut cX12_cut 3 (some .int) :: ([.fieldLink RX12 3 "IntegerHouseModel" "thrown" "I", .fieldLink RX12 488 "IntegerHouseModel" "down" "Z", .constantLong RX12 526 (-1), .constantLong RX12 528 (2000), .constantLong RX12 530 (255), .fieldLink RX12 22 "IntegerHouseModel" "cutAt" "I", .fieldLink RX12 523 "IntegerHouseModel" "tear" "I", .methodLink RX12 504 yX12_in, .static yX12_in, .initialized RX12, .code yX12_in cX12_in 6 (some .boolean)] ++ wsX120)
def wsX12_start_r1 : List Cond := [Cond.fieldLink RX12 3 "IntegerHouseModel" "thrown" "I", Cond.fieldLink RX12 488 "IntegerHouseModel" "down" "Z", Cond.fieldLink RX12 478 "IntegerHouseModel" "used" "I", Cond.fieldLink RX12 22 "IntegerHouseModel" "cutAt" "I", Cond.fieldLink RX12 475 "IntegerHouseModel" "waitBytes" "I", Cond.fieldLink RX12 472 "IntegerHouseModel" "replay" "Z", Cond.fieldLink RX12 498 "IntegerHouseModel" "done" "I", Cond.fieldLink RX12 535 "IntegerHouseModel" "syncSize" "I", Cond.fieldLink RX12 42 "IntegerHouseModel" "sync" "[B", Cond.fieldLink RX12 19 "IntegerHouseModel" "disk" "[B", Cond.methodLink RX12 554 yX12_isRight, Cond.instanceMethod yX12_isRight, Cond.selects RX12 yX12_isRight yX12_isRight, Cond.initialized RX12, Cond.code yX12_isRight cX12_isRight 5 (some .boolean), Cond.constantLong RX12 513 (248), Cond.fieldLink RX12 35 "IntegerHouseModel" "torn" "[Z", Cond.methodLink RX12 509 yX12_at, Cond.instanceMethod yX12_at, Cond.selects RX12 yX12_at yX12_at, Cond.code yX12_at cX12_at 3 (some .int), Cond.methodLink RX12 504 yX12_in, Cond.static yX12_in, Cond.code yX12_in cX12_in 6 (some .boolean)]
def wsX12_start_r2 : List Cond := [Cond.methodLink RX12 515 yX12_sum, Cond.static yX12_sum, Cond.code yX12_sum cX12_sum 5 (some .int), Cond.constant RX12 508 (-1640531535), Cond.methodLink RX12 459 yX12_empty, Cond.instanceMethod yX12_empty, Cond.selects RX12 yX12_empty yX12_empty, Cond.code yX12_empty cX12_empty 1 none, Cond.fieldLink RX12 815 "IntegerHouseModel" "variables" "I", Cond.fieldLink RX12 818 "IntegerHouseModel" "claims" "I", Cond.fieldLink RX12 821 "IntegerHouseModel" "layers" "I", Cond.methodLink RX12 557 yX12_again, Cond.instanceMethod yX12_again, Cond.selects RX12 yX12_again yX12_again, Cond.code yX12_again cX12_again 2 none, Cond.fieldLink RX12 532 "IntegerHouseModel" "syncAt" "I", Cond.fieldLink RX12 462 "IntegerHouseModel" "refused" "Z", Cond.methodLink RX12 550 yX12_isRecord, Cond.instanceMethod yX12_isRecord, Cond.selects RX12 yX12_isRecord yX12_isRecord, Cond.code yX12_isRecord cX12_isRecord 2 (some .boolean), Cond.fieldLink RX12 466 "IntegerHouseModel" "number" "I", Cond.constantLong RX12 541 (4), Cond.fieldLink RX12 28 "IntegerHouseModel" "arg" "[I"]
def wsX12_start_r3 : List Cond := [Cond.fieldLink RX12 469 "IntegerHouseModel" "docSize" "I", Cond.fieldLink RX12 32 "IntegerHouseModel" "doc" "[B", Cond.methodLink RX12 538 yX12_next, Cond.instanceMethod yX12_next, Cond.selects RX12 yX12_next yX12_next, Cond.code yX12_next cX12_next 1 (some .int), Cond.methodLink RX12 543 yX12_lacks, Cond.instanceMethod yX12_lacks, Cond.selects RX12 yX12_lacks yX12_lacks, Cond.code yX12_lacks cX12_lacks 2 (some .boolean), Cond.methodLink RX12 547 yX12_nextInt, Cond.instanceMethod yX12_nextInt, Cond.selects RX12 yX12_nextInt yX12_nextInt, Cond.code yX12_nextInt cX12_nextInt 3 (some .int), Cond.methodLink RX12 494 yX12_act, Cond.instanceMethod yX12_act, Cond.selects RX12 yX12_act yX12_act, Cond.code yX12_act cX12_act 1 (some .int), Cond.methodLink RX12 824 yX12_readText, Cond.instanceMethod yX12_readText, Cond.selects RX12 yX12_readText yX12_readText, Cond.code yX12_readText cX12_readText 3 (some .int), Cond.fieldLink RX12 620 "IntegerHouseModel" "knownVariables" "I", Cond.fieldLink RX12 627 "IntegerHouseModel" "knownClaims" "I"]
def wsX12_start_r4 : List Cond := [Cond.fieldLink RX12 562 "IntegerHouseModel" "faulty" "Z", Cond.fieldLink RX12 87 "IntegerHouseModel" "tokenKind" "[I", Cond.fieldLink RX12 597 "IntegerHouseModel" "now" "I", Cond.fieldLink RX12 630 "IntegerHouseModel" "slot" "I", Cond.fieldLink RX12 280 "IntegerHouseModel" "namedAt" "[I", Cond.fieldLink RX12 265 "IntegerHouseModel" "isOn" "[Z", Cond.fieldLink RX12 268 "IntegerHouseModel" "claimLayer" "[I", Cond.methodLink RX12 848 yX12_scan, Cond.instanceMethod yX12_scan, Cond.selects RX12 yX12_scan yX12_scan, Cond.code yX12_scan cX12_scan 8 none, Cond.fieldLink RX12 594 "IntegerHouseModel" "tokens" "I", Cond.fieldLink RX12 81 "IntegerHouseModel" "tokenAt" "[I", Cond.fieldLink RX12 84 "IntegerHouseModel" "tokenSize" "[I", Cond.fieldLink RX12 90 "IntegerHouseModel" "tokenValue" "[I", Cond.fieldLink RX12 77 "IntegerHouseModel" "words" "[Ljava/lang/String;", Cond.methodLink RX12 586 yX12_char1, Cond.instanceMethod yX12_char1, Cond.selects RX12 yX12_char1 yX12_char1, Cond.code yX12_char1 cX12_char1 2 (some .int), Cond.methodLink RX12 600 yX12_isLetter, Cond.static yX12_isLetter, Cond.code yX12_isLetter cX12_isLetter 1 (some .boolean), Cond.constantLong RX12 571 (97)]
def wsX12_start_r5 : List Cond := [Cond.constantLong RX12 573 (122), Cond.constantLong RX12 575 (65), Cond.constantLong RX12 577 (90), Cond.methodLink RX12 603 yX12_isDigit, Cond.static yX12_isDigit, Cond.code yX12_isDigit cX12_isDigit 1 (some .boolean), Cond.constantLong RX12 579 (48), Cond.constantLong RX12 581 (57), Cond.methodLink RX12 606 yX12_longSign, Cond.static yX12_longSign, Cond.code yX12_longSign cX12_longSign 2 (some .int), Cond.methodLink RX12 609 yX12_signOf, Cond.static yX12_signOf, Cond.code yX12_signOf cX12_signOf 1 (some .int), Cond.methodLink RX12 612 yX12_isText, Cond.instanceMethod yX12_isText, Cond.selects RX12 yX12_isText yX12_isText, Cond.code yX12_isText cX12_isText 4 (some .boolean), Cond.methodLink RX12 583 yJ0_length_8abf5, Cond.instanceMethod yJ0_length_8abf5, Cond.selects RJ0 yJ0_length_8abf5 yJ0_length_8abf5, Cond.initialized RJ0, Cond.code yJ0_length_8abf5 cJ0_length_8abf5 1 (some .int), Cond.fieldLink RJ0 9 "java/lang/String" "value" "[B"]
def wsX12_start_r6 : List Cond := [Cond.methodLink RJ0 335 yJ0_coder_7d493, Cond.instanceMethod yJ0_coder_7d493, Cond.selects RJ0 yJ0_coder_7d493 yJ0_coder_7d493, Cond.code yJ0_coder_7d493 cJ0_coder_7d493 1 (some .byte), Cond.fieldLink RJ0 38 "java/lang/String" "COMPACT_STRINGS" "Z", Cond.fieldLink RJ0 15 "java/lang/String" "coder" "B", Cond.methodLink RX12 590 yJ0_charAt_5068e, Cond.instanceMethod yJ0_charAt_5068e, Cond.selects RJ0 yJ0_charAt_5068e yJ0_charAt_5068e, Cond.code yJ0_charAt_5068e cJ0_charAt_5068e 2 (some .char), Cond.methodLink RJ0 492 yJ0_isLatin1_aae02, Cond.instanceMethod yJ0_isLatin1_aae02, Cond.selects RJ0 yJ0_isLatin1_aae02 yJ0_isLatin1_aae02, Cond.code yJ0_isLatin1_aae02 cJ0_isLatin1_aae02 1 (some .boolean), Cond.methodLink RJ0 495 yJ1_charAt_3b067, Cond.static yJ1_charAt_3b067, Cond.initialized RJ1, Cond.code yJ1_charAt_3b067 cJ1_charAt_3b067 2 (some .char), Cond.methodLink RJ1 9 yJ0_checkIndex_df160, Cond.static yJ0_checkIndex_df160, Cond.code yJ0_checkIndex_df160 cJ0_checkIndex_df160 2 none, Cond.fieldLink RJ0 1053 "jdk/internal/util/Preconditions" "SIOOBE_FORMATTER" "Ljava/util/function/BiFunction;", Cond.methodLink RJ0 1059 yJ3_checkIndex_8e157, Cond.static yJ3_checkIndex_8e157]
def wsX12_start_r7 : List Cond := [Cond.initialized RJ3, Cond.code yJ3_checkIndex_8e157 cJ3_checkIndex_8e157 3 (some .int), Cond.methodLink RJ0 498 yJ2_charAt_3b067, Cond.static yJ2_charAt_3b067, Cond.initialized RJ2, Cond.code yJ2_charAt_3b067 cJ2_charAt_3b067 2 (some .char), Cond.methodLink RJ2 67 yJ2_checkIndex_2214a, Cond.static yJ2_checkIndex_2214a, Cond.code yJ2_checkIndex_2214a cJ2_checkIndex_2214a 2 none, Cond.methodLink RJ2 48 yJ2_length_9d52b, Cond.static yJ2_length_9d52b, Cond.code yJ2_length_9d52b cJ2_length_9d52b 1 (some .int), Cond.methodLink RJ2 414 yJ0_checkIndex_df160, Cond.methodLink RJ2 71 yJ2_getChar_3b067, Cond.static yJ2_getChar_3b067, Cond.code yJ2_getChar_3b067 cJ2_getChar_3b067 2 (some .char), Cond.fieldLink RJ2 44 "java/lang/StringUTF16" "$assertionsDisabled" "Z", Cond.fieldLink RJ2 59 "java/lang/StringUTF16" "HI_BYTE_SHIFT" "I", Cond.fieldLink RJ2 63 "java/lang/StringUTF16" "LO_BYTE_SHIFT" "I", Cond.methodLink RX12 666 yX12_isWord, Cond.instanceMethod yX12_isWord, Cond.selects RX12 yX12_isWord yX12_isWord, Cond.code yX12_isWord cX12_isWord 2 (some .boolean), Cond.methodLink RX12 851 yX12_readVariables]
def wsX12_start_r8 : List Cond := [Cond.instanceMethod yX12_readVariables, Cond.selects RX12 yX12_readVariables yX12_readVariables, Cond.code yX12_readVariables cX12_readVariables 1 none, Cond.methodLink RX12 698 yX12_cannot, Cond.instanceMethod yX12_cannot, Cond.selects RX12 yX12_cannot yX12_cannot, Cond.code yX12_cannot cX12_cannot 1 none, Cond.methodLink RX12 616 yX12_fail, Cond.instanceMethod yX12_fail, Cond.selects RX12 yX12_fail yX12_fail, Cond.code yX12_fail cX12_fail 3 none, Cond.fieldLink RX12 565 "IntegerHouseModel" "faultKind" "I", Cond.fieldLink RX12 568 "IntegerHouseModel" "faultPlace" "I", Cond.methodLink RX12 685 yX12_variableAt, Cond.instanceMethod yX12_variableAt, Cond.selects RX12 yX12_variableAt yX12_variableAt, Cond.code yX12_variableAt cX12_variableAt 3 (some .int), Cond.methodLink RX12 623 yX12_isCalled, Cond.instanceMethod yX12_isCalled, Cond.selects RX12 yX12_isCalled yX12_isCalled, Cond.code yX12_isCalled cX12_isCalled 4 (some .boolean), Cond.fieldLink RX12 96 "IntegerHouseModel" "nameSize" "[I", Cond.fieldLink RX12 93 "IntegerHouseModel" "nameText" "[B", Cond.methodLink RX12 682 yX12_claimAt]
def wsX12_start_r9 : List Cond := [Cond.instanceMethod yX12_claimAt, Cond.selects RX12 yX12_claimAt yX12_claimAt, Cond.code yX12_claimAt cX12_claimAt 3 (some .int), Cond.methodLink RX12 839 yX12_callIt, Cond.instanceMethod yX12_callIt, Cond.selects RX12 yX12_callIt yX12_callIt, Cond.code yX12_callIt cX12_callIt 4 none, Cond.methodLink RX12 854 yX12_readClaim, Cond.instanceMethod yX12_readClaim, Cond.selects RX12 yX12_readClaim yX12_readClaim, Cond.code yX12_readClaim cX12_readClaim 3 none, Cond.methodLink RX12 672 yX12_isSign, Cond.instanceMethod yX12_isSign, Cond.selects RX12 yX12_isSign yX12_isSign, Cond.code yX12_isSign cX12_isSign 2 (some .boolean), Cond.methodLink RX12 842 yX12_beginSlot, Cond.instanceMethod yX12_beginSlot, Cond.selects RX12 yX12_beginSlot yX12_beginSlot, Cond.code yX12_beginSlot cX12_beginSlot 2 none, Cond.fieldLink RX12 633 "IntegerHouseModel" "open" "I", Cond.fieldLink RX12 105 "IntegerHouseModel" "textCount" "[I", Cond.fieldLink RX12 120 "IntegerHouseModel" "nodeCount" "[I", Cond.fieldLink RX12 153 "IntegerHouseModel" "leafCount" "[I", Cond.fieldLink RX12 165 "IntegerHouseModel" "termCount" "[I"]
def wsX12_start_r10 : List Cond := [Cond.fieldLink RX12 181 "IntegerHouseModel" "partCount" "[I", Cond.methodLink RX12 845 yX12_readFormula, Cond.instanceMethod yX12_readFormula, Cond.selects RX12 yX12_readFormula yX12_readFormula, Cond.code yX12_readFormula cX12_readFormula 1 (some .int), Cond.fieldLink RX12 639 "IntegerHouseModel" "formulas" "I", Cond.fieldLink RX12 642 "IntegerHouseModel" "terms" "I", Cond.fieldLink RX12 648 "IntegerHouseModel" "state" "I", Cond.fieldLink RX12 184 "IntegerHouseModel" "rootOf" "[I", Cond.fieldLink RX12 660 "IntegerHouseModel" "current" "I", Cond.methodLink RX12 645 yX12_openFormula, Cond.instanceMethod yX12_openFormula, Cond.selects RX12 yX12_openFormula yX12_openFormula, Cond.code yX12_openFormula cX12_openFormula 1 none, Cond.fieldLink RX12 187 "IntegerHouseModel" "openJoin" "[I", Cond.fieldLink RX12 190 "IntegerHouseModel" "openLeft" "[I", Cond.fieldLink RX12 193 "IntegerHouseModel" "openOr" "[I", Cond.fieldLink RX12 199 "IntegerHouseModel" "openAnd" "[I", Cond.fieldLink RX12 205 "IntegerHouseModel" "openNots" "[I", Cond.methodLink RX12 651 yX12_readOne, Cond.instanceMethod yX12_readOne, Cond.selects RX12 yX12_readOne yX12_readOne, Cond.code yX12_readOne cX12_readOne 5 none, Cond.fieldLink RX12 135 "IntegerHouseModel" "leafFrom" "[I"]
def wsX12_start_r11 : List Cond := [Cond.constantLong RX12 694 (8), Cond.constantLong RX12 696 (12), Cond.methodLink RX12 669 yX12_takeOpen, Cond.instanceMethod yX12_takeOpen, Cond.selects RX12 yX12_takeOpen yX12_takeOpen, Cond.code yX12_takeOpen cX12_takeOpen 1 none, Cond.methodLink RX12 636 yX12_take, Cond.instanceMethod yX12_take, Cond.selects RX12 yX12_take yX12_take, Cond.code yX12_take cX12_take 3 none, Cond.fieldLink RX12 102 "IntegerHouseModel" "textSize" "[I", Cond.fieldLink RX12 99 "IntegerHouseModel" "textBytes" "[B", Cond.methodLink RX12 675 yX12_newNode, Cond.instanceMethod yX12_newNode, Cond.selects RX12 yX12_newNode yX12_newNode, Cond.code yX12_newNode cX12_newNode 5 (some .int), Cond.fieldLink RX12 108 "IntegerHouseModel" "nodeKind" "[I", Cond.fieldLink RX12 111 "IntegerHouseModel" "nodeA" "[I", Cond.fieldLink RX12 114 "IntegerHouseModel" "nodeB" "[I", Cond.fieldLink RX12 117 "IntegerHouseModel" "nodeNext" "[I", Cond.methodLink RX12 679 yX12_endOne, Cond.instanceMethod yX12_endOne, Cond.selects RX12 yX12_endOne yX12_endOne, Cond.code yX12_endOne cX12_endOne 2 none]
def wsX12_start_r12 : List Cond := [Cond.fieldLink RX12 202 "IntegerHouseModel" "openAndLast" "[I", Cond.methodLink RX12 688 yX12_beginLeaf, Cond.instanceMethod yX12_beginLeaf, Cond.selects RX12 yX12_beginLeaf yX12_beginLeaf, Cond.code yX12_beginLeaf cX12_beginLeaf 4 none, Cond.fieldLink RX12 123 "IntegerHouseModel" "leafOp" "[I", Cond.fieldLink RX12 126 "IntegerHouseModel" "leafNumber" "[I", Cond.fieldLink RX12 129 "IntegerHouseModel" "leafLeft" "[I", Cond.fieldLink RX12 141 "IntegerHouseModel" "leafTerms" "[I", Cond.methodLink RX12 663 yX12_openTerm, Cond.instanceMethod yX12_openTerm, Cond.selects RX12 yX12_openTerm yX12_openTerm, Cond.code yX12_openTerm cX12_openTerm 2 none, Cond.fieldLink RX12 208 "IntegerHouseModel" "inKind" "[I", Cond.fieldLink RX12 211 "IntegerHouseModel" "inFirst" "[I", Cond.fieldLink RX12 217 "IntegerHouseModel" "inSign" "[I", Cond.fieldLink RX12 220 "IntegerHouseModel" "inTimes" "[J", Cond.fieldLink RX12 223 "IntegerHouseModel" "inOne" "[I", Cond.methodLink RX12 691 yX12_takeNumber, Cond.instanceMethod yX12_takeNumber, Cond.selects RX12 yX12_takeNumber yX12_takeNumber, Cond.code yX12_takeNumber cX12_takeNumber 1 none, Cond.constantLong RX12 701 (2), Cond.methodLink RX12 654 yX12_readAfter]
def wsX12_start_r13 : List Cond := [Cond.instanceMethod yX12_readAfter, Cond.selects RX12 yX12_readAfter yX12_readAfter, Cond.code yX12_readAfter cX12_readAfter 4 none, Cond.fieldLink RX12 196 "IntegerHouseModel" "openOrLast" "[I", Cond.methodLink RX12 703 yX12_join, Cond.instanceMethod yX12_join, Cond.selects RX12 yX12_join yX12_join, Cond.code yX12_join cX12_join 8 (some .int), Cond.methodLink RX12 657 yX12_readInTerm, Cond.instanceMethod yX12_readInTerm, Cond.selects RX12 yX12_readInTerm yX12_readInTerm, Cond.code yX12_readInTerm cX12_readInTerm 1 none, Cond.methodLink RX12 706 yX12_addPart, Cond.instanceMethod yX12_addPart, Cond.selects RX12 yX12_addPart yX12_addPart, Cond.code yX12_addPart cX12_addPart 3 none, Cond.fieldLink RX12 168 "IntegerHouseModel" "partSign" "[I", Cond.fieldLink RX12 171 "IntegerHouseModel" "partTimes" "[J", Cond.fieldLink RX12 175 "IntegerHouseModel" "partOf" "[I", Cond.fieldLink RX12 178 "IntegerHouseModel" "partNext" "[I", Cond.fieldLink RX12 214 "IntegerHouseModel" "inLast" "[I", Cond.methodLink RX12 709 yX12_readAtom, Cond.instanceMethod yX12_readAtom, Cond.selects RX12 yX12_readAtom yX12_readAtom]
def wsX12_start_r14 : List Cond := [Cond.code yX12_readAtom cX12_readAtom 3 none, Cond.methodLink RX12 715 yX12_newTerm, Cond.instanceMethod yX12_newTerm, Cond.selects RX12 yX12_newTerm yX12_newTerm, Cond.code yX12_newTerm cX12_newTerm 5 (some .int), Cond.fieldLink RX12 156 "IntegerHouseModel" "termKind" "[I", Cond.fieldLink RX12 159 "IntegerHouseModel" "termA" "[I", Cond.fieldLink RX12 162 "IntegerHouseModel" "termB" "[I", Cond.methodLink RX12 712 yX12_endTerm, Cond.instanceMethod yX12_endTerm, Cond.selects RX12 yX12_endTerm yX12_endTerm, Cond.code yX12_endTerm cX12_endTerm 7 none, Cond.methodLink RX12 718 yX12_endSide, Cond.instanceMethod yX12_endSide, Cond.selects RX12 yX12_endSide yX12_endSide, Cond.code yX12_endSide cX12_endSide 5 none, Cond.constantLong RX12 721 (11), Cond.constantLong RX12 723 (15), Cond.fieldLink RX12 132 "IntegerHouseModel" "leafRight" "[I", Cond.fieldLink RX12 138 "IntegerHouseModel" "leafTo" "[I", Cond.fieldLink RX12 144 "IntegerHouseModel" "leafTermsTo" "[I", Cond.methodLink RX12 857 yX12_build, Cond.instanceMethod yX12_build, Cond.selects RX12 yX12_build yX12_build]
def wsX12_start_r15 : List Cond := [Cond.code yX12_build cX12_build 7 (some .int), Cond.fieldLink RX12 725 "IntegerHouseModel" "great" "Z", Cond.fieldLink RX12 747 "IntegerHouseModel" "crowded" "Z", Cond.fieldLink RX12 235 "IntegerHouseModel" "atomCount" "[I", Cond.fieldLink RX12 241 "IntegerHouseModel" "caseCount" "[I", Cond.fieldLink RX12 247 "IntegerHouseModel" "falseAt" "[I", Cond.fieldLink RX12 244 "IntegerHouseModel" "isPlain" "[Z", Cond.constantLong RX12 806 (64), Cond.fieldLink RX12 262 "IntegerHouseModel" "hereF" "[J", Cond.fieldLink RX12 226 "IntegerHouseModel" "atomF" "[I", Cond.fieldLink RX12 232 "IntegerHouseModel" "atomN" "[I", Cond.fieldLink RX12 229 "IntegerHouseModel" "atomC" "[I", Cond.methodLink RX12 808 yX12_casesOf, Cond.instanceMethod yX12_casesOf, Cond.selects RX12 yX12_casesOf yX12_casesOf, Cond.code yX12_casesOf cX12_casesOf 8 (some .long), Cond.methodLink RX12 800 yX12_ways, Cond.instanceMethod yX12_ways, Cond.selects RX12 yX12_ways yX12_ways, Cond.code yX12_ways cX12_ways 3 (some .int), Cond.methodLink RX12 812 yX12_makeCases, Cond.instanceMethod yX12_makeCases, Cond.selects RX12 yX12_makeCases yX12_makeCases, Cond.code yX12_makeCases cX12_makeCases 5 none]
def wsX12_start_r16 : List Cond := [Cond.fieldLink RX12 259 "IntegerHouseModel" "chosen" "[I", Cond.fieldLink RX12 147 "IntegerHouseModel" "leafCase" "[I", Cond.fieldLink RX12 150 "IntegerHouseModel" "leafCases" "[I", Cond.methodLink RX12 803 yX12_makeCase, Cond.instanceMethod yX12_makeCase, Cond.selects RX12 yX12_makeCase yX12_makeCase, Cond.code yX12_makeCase cX12_makeCase 7 none, Cond.fieldLink RX12 238 "IntegerHouseModel" "caseLit" "[I", Cond.constantLong RX12 526 (-1), Cond.methodLink RX12 797 yX12_shape, Cond.instanceMethod yX12_shape, Cond.selects RX12 yX12_shape yX12_shape, Cond.code yX12_shape cX12_shape 8 (some .int), Cond.fieldLink RX12 736 "IntegerHouseModel" "hereC" "J", Cond.fieldLink RX12 740 "IntegerHouseModel" "hereD" "J", Cond.methodLink RX12 771 yX12_clearHere, Cond.instanceMethod yX12_clearHere, Cond.selects RX12 yX12_clearHere yX12_clearHere, Cond.code yX12_clearHere cX12_clearHere 4 none, Cond.methodLink RX12 774 yX12_total, Cond.instanceMethod yX12_total, Cond.selects RX12 yX12_total yX12_total, Cond.code yX12_total cX12_total 22 none, Cond.methodLink RX12 783 yX12_add]
def wsX12_start_r17 : List Cond := [Cond.instanceMethod yX12_add, Cond.selects RX12 yX12_add yX12_add, Cond.code yX12_add cX12_add 7 none, Cond.fieldLink RX12 256 "IntegerHouseModel" "formD" "[J", Cond.fieldLink RX12 250 "IntegerHouseModel" "formF" "[J", Cond.fieldLink RX12 253 "IntegerHouseModel" "formC" "[J", Cond.methodLink RX12 743 yX12_divisor, Cond.static yX12_divisor, Cond.code yX12_divisor cX12_divisor 10 (some .long), Cond.methodLink RX12 787 yX12_lookHere, Cond.instanceMethod yX12_lookHere, Cond.selects RX12 yX12_lookHere yX12_lookHere, Cond.code yX12_lookHere cX12_lookHere 2 none, Cond.methodLink RX12 732 yX12_look, Cond.instanceMethod yX12_look, Cond.selects RX12 yX12_look yX12_look, Cond.code yX12_look cX12_look 3 none, Cond.constantLong RX12 728 (1000000), Cond.constantLong RX12 730 (-1000000), Cond.methodLink RX12 777 yX12_hereIs, Cond.instanceMethod yX12_hereIs, Cond.selects RX12 yX12_hereIs yX12_hereIs, Cond.code yX12_hereIs cX12_hereIs 4 none, Cond.methodLink RX12 780 yX12_lineOf]
def wsX12_start_r18 : List Cond := [Cond.instanceMethod yX12_lineOf, Cond.selects RX12 yX12_lineOf yX12_lineOf, Cond.code yX12_lineOf cX12_lineOf 7 (some .int), Cond.constantLong RX12 750 (20), Cond.constantLong RX12 752 (-20), Cond.constantLong RX12 754 (99999), Cond.constantLong RX12 756 (-99999), Cond.methodLink RX12 758 yX12_isFlat, Cond.instanceMethod yX12_isFlat, Cond.selects RX12 yX12_isFlat yX12_isFlat, Cond.code yX12_isFlat cX12_isFlat 1 (some .boolean), Cond.methodLink RX12 761 yX12_isFalseHere, Cond.instanceMethod yX12_isFalseHere, Cond.selects RX12 yX12_isFalseHere yX12_isFalseHere, Cond.code yX12_isFalseHere cX12_isFalseHere 1 none, Cond.methodLink RX12 764 yX12_atomOf, Cond.instanceMethod yX12_atomOf, Cond.selects RX12 yX12_atomOf yX12_atomOf, Cond.code yX12_atomOf cX12_atomOf 8 (some .int), Cond.methodLink RX12 790 yX12_divides, Cond.instanceMethod yX12_divides, Cond.selects RX12 yX12_divides yX12_divides, Cond.code yX12_divides cX12_divides 6 (some .int), Cond.methodLink RX12 768 yX12_rest]
def wsX12_start_r19 : List Cond := [Cond.static yX12_rest, Cond.code yX12_rest cX12_rest 6 (some .long), Cond.methodLink RX12 792 yX12_keep, Cond.instanceMethod yX12_keep, Cond.selects RX12 yX12_keep yX12_keep, Cond.code yX12_keep cX12_keep 3 none, Cond.methodLink RX12 795 yX12_not, Cond.static yX12_not, Cond.code yX12_not cX12_not 1 (some .int), Cond.methodLink RX12 860 yX12_told, Cond.instanceMethod yX12_told, Cond.selects RX12 yX12_told yX12_told, Cond.code yX12_told cX12_told 1 (some .int), Cond.fieldLink RX12 836 "IntegerHouseModel" "latestFault" "I", Cond.methodLink RX12 862 yX12_no, Cond.instanceMethod yX12_no, Cond.selects RX12 yX12_no yX12_no, Cond.code yX12_no cX12_no 2 (some .int), Cond.methodLink RX12 865 yX12_full, Cond.instanceMethod yX12_full, Cond.selects RX12 yX12_full yX12_full, Cond.code yX12_full cX12_full 2 (some .boolean), Cond.methodLink RX12 827 yX12_turn, Cond.instanceMethod yX12_turn]
def wsX12_start_r20 : List Cond := [Cond.selects RX12 yX12_turn yX12_turn, Cond.code yX12_turn cX12_turn 4 (some .int), Cond.methodLink RX12 830 yX12_layer, Cond.instanceMethod yX12_layer, Cond.selects RX12 yX12_layer yX12_layer, Cond.code yX12_layer cX12_layer 2 (some .int), Cond.fieldLink RX12 271 "IntegerHouseModel" "layerVariables" "[I", Cond.fieldLink RX12 274 "IntegerHouseModel" "layerClaims" "[I", Cond.fieldLink RX12 277 "IntegerHouseModel" "layerOn" "[Z", Cond.methodLink RX12 833 yX12_leave, Cond.instanceMethod yX12_leave, Cond.selects RX12 yX12_leave yX12_leave, Cond.code yX12_leave cX12_leave 2 (some .int)]
def wsX12_start : List Cond := .code yX12_start cX12_start 3 (some .int) :: ((wsX12_start_r1 ++ (wsX12_start_r2 ++ (wsX12_start_r3 ++ (wsX12_start_r4 ++ (wsX12_start_r5 ++ (wsX12_start_r6 ++ (wsX12_start_r7 ++ (wsX12_start_r8 ++ (wsX12_start_r9 ++ (wsX12_start_r10 ++ (wsX12_start_r11 ++ (wsX12_start_r12 ++ (wsX12_start_r13 ++ (wsX12_start_r14 ++ (wsX12_start_r15 ++ (wsX12_start_r16 ++ (wsX12_start_r17 ++ (wsX12_start_r18 ++ (wsX12_start_r19 ++ wsX12_start_r20))))))))))))))))))) ++ wsX120)
def wsX12_verify : List Cond := .code yX12_verify cX12_verify 2 (some .int) :: ([.fieldLink RX12 3 "IntegerHouseModel" "thrown" "I", .fieldLink RX12 488 "IntegerHouseModel" "down" "Z", .fieldLink RX12 478 "IntegerHouseModel" "used" "I", .methodLink RX12 554 yX12_isRight, .instanceMethod yX12_isRight, .selects RX12 yX12_isRight yX12_isRight, .initialized RX12, .code yX12_isRight cX12_isRight 5 (some .boolean), .constantLong RX12 513 (248), .fieldLink RX12 35 "IntegerHouseModel" "torn" "[Z", .fieldLink RX12 19 "IntegerHouseModel" "disk" "[B", .methodLink RX12 509 yX12_at, .instanceMethod yX12_at, .selects RX12 yX12_at yX12_at, .code yX12_at cX12_at 3 (some .int), .methodLink RX12 504 yX12_in, .static yX12_in, .code yX12_in cX12_in 6 (some .boolean), .methodLink RX12 515 yX12_sum, .static yX12_sum, .code yX12_sum cX12_sum 5 (some .int), .constant RX12 508 (-1640531535)] ++ wsX120)
def wsX12_octet : List Cond := .code yX12_octet cX12_octet 3 (some .int) :: ([.constantLong RX12 560 (100), .constantLong RX12 530 (255), .fieldLink RX12 3 "IntegerHouseModel" "thrown" "I", .methodLink RX12 504 yX12_in, .static yX12_in, .initialized RX12, .code yX12_in cX12_in 6 (some .boolean), .methodLink RX12 509 yX12_at, .instanceMethod yX12_at, .selects RX12 yX12_at yX12_at, .code yX12_at cX12_at 3 (some .int), .fieldLink RX12 19 "IntegerHouseModel" "disk" "[B"] ++ wsX120)
def wsX12_poke : List Cond := .code yX12_poke cX12_poke 4 (some .int) :: ([.constantLong RX12 560 (100), .constantLong RX12 530 (255), .fieldLink RX12 3 "IntegerHouseModel" "thrown" "I", .fieldLink RX12 19 "IntegerHouseModel" "disk" "[B", .methodLink RX12 504 yX12_in, .static yX12_in, .initialized RX12, .code yX12_in cX12_in 6 (some .boolean), .methodLink RX12 509 yX12_at, .instanceMethod yX12_at, .selects RX12 yX12_at yX12_at, .code yX12_at cX12_at 3 (some .int)] ++ wsX120)
def wsL_end : List Cond := .codeWith yL_end cL_end 3 (some .int) [(0, 5, 8, 19)] :: ([.classLink RL 19 "java/lang/IllegalArgumentException", .methodLink RL 15 yX11_end, .instanceMethod yX11_end, .selects RX11 yX11_end yX11_end, .initialized RX11, .code yX11_end cX11_end 2 none, .classLink RX11 117 "java/lang/IllegalArgumentException", .initialized "java/lang/IllegalArgumentException", .fieldLink RX11 102 "IntegerHouse" "tapeLength" "I"] ++ wsX110 ++ (vx_atS RX11 121 "java/lang/IllegalArgumentException" ["java/lang/RuntimeException", "java/lang/Exception"]).filter goodWord)
def wsL_octet : List Cond := .codeWith yL_octet cL_octet 5 (some .int) [(0, 10, 13, 25)] :: ([.classLink RL 25 "java/lang/IndexOutOfBoundsException", .methodLink RL 21 yX11_octet, .instanceMethod yX11_octet, .selects RX11 yX11_octet yX11_octet, .initialized RX11, .code yX11_octet cX11_octet 3 (some .int), .classLink RX11 197 "java/lang/IndexOutOfBoundsException", .initialized "java/lang/IndexOutOfBoundsException", .fieldLink RX11 16 "IntegerHouse" "disk" "LIntegerHouse$Disk;", .methodLink RX11 194 yX1_isByte, .static yX1_isByte, .initialized RX1, .code yX1_isByte cX1_isByte 2 (some .boolean), .methodLink RX11 202 yX1_byteOf, .instanceMethod yX1_byteOf, .selects RX1 yX1_byteOf yX1_byteOf, .code yX1_byteOf cX1_byteOf 3 (some .int), .fieldLink RX1 11 "IntegerHouse$Disk" "blocks" "[B", .methodLink RX1 29 yX1_isByte] ++ wsX110 ++ wsX10 ++ (vx_atS RX11 201 "java/lang/IndexOutOfBoundsException" ["java/lang/RuntimeException", "java/lang/Exception"]).filter goodWord)
def wsL_poke : List Cond := .codeWith yL_poke cL_poke 6 (some .int) [(0, 12, 15, 25)] :: ([.classLink RL 25 "java/lang/IndexOutOfBoundsException", .methodLink RL 27 yX11_poke, .instanceMethod yX11_poke, .selects RX11 yX11_poke yX11_poke, .initialized RX11, .code yX11_poke cX11_poke 4 (some .int), .classLink RX11 197 "java/lang/IndexOutOfBoundsException", .initialized "java/lang/IndexOutOfBoundsException", .fieldLink RX11 16 "IntegerHouse" "disk" "LIntegerHouse$Disk;", .methodLink RX11 194 yX1_isByte, .static yX1_isByte, .initialized RX1, .code yX1_isByte cX1_isByte 2 (some .boolean), .methodLink RX11 206 yX1_flip, .instanceMethod yX1_flip, .selects RX1 yX1_flip yX1_flip, .code yX1_flip cX1_flip 4 (some .int), .fieldLink RX1 11 "IntegerHouse$Disk" "blocks" "[B", .methodLink RX1 29 yX1_isByte, .methodLink RX1 33 yX1_byteOf, .instanceMethod yX1_byteOf, .selects RX1 yX1_byteOf yX1_byteOf, .code yX1_byteOf cX1_byteOf 3 (some .int)] ++ wsX110 ++ wsX10 ++ (vx_atS RX11 201 "java/lang/IndexOutOfBoundsException" ["java/lang/RuntimeException", "java/lang/Exception"]).filter goodWord)
theorem dX1_isByte_0 : decode cX1_isByte 0 = .ok (.iload_n 0, 1) := by decide +kernel
theorem dX1_isByte_1 : decode cX1_isByte 1 = .ok (.iconst 1, 1) := by decide +kernel
theorem dX1_isByte_2 : decode cX1_isByte 2 = .ok (.if_icmp .lt 24, 3) := by decide +kernel
theorem dX1_isByte_5 : decode cX1_isByte 5 = .ok (.iload_n 0, 1) := by decide +kernel
theorem dX1_isByte_6 : decode cX1_isByte 6 = .ok (.bipush 100, 2) := by decide +kernel
theorem dX1_isByte_8 : decode cX1_isByte 8 = .ok (.if_icmp .gt 18, 3) := by decide +kernel
theorem dX1_isByte_11 : decode cX1_isByte 11 = .ok (.iload_n 1, 1) := by decide +kernel
theorem dX1_isByte_12 : decode cX1_isByte 12 = .ok (.ifCond .lt 14, 3) := by decide +kernel
theorem dX1_isByte_15 : decode cX1_isByte 15 = .ok (.iload_n 1, 1) := by decide +kernel
theorem dX1_isByte_16 : decode cX1_isByte 16 = .ok (.sipush 256, 3) := by decide +kernel
theorem dX1_isByte_19 : decode cX1_isByte 19 = .ok (.if_icmp .ge 7, 3) := by decide +kernel
theorem dX1_isByte_22 : decode cX1_isByte 22 = .ok (.iconst 1, 1) := by decide +kernel
theorem dX1_isByte_23 : decode cX1_isByte 23 = .ok (.goto 4, 3) := by decide +kernel
theorem dX1_isByte_26 : decode cX1_isByte 26 = .ok (.iconst 0, 1) := by decide +kernel
theorem dX1_isByte_27 : decode cX1_isByte 27 = .ok (.ireturn, 1) := by decide +kernel
set_option maxRecDepth 20000 in
theorem ggX1_byteOf_X1_isByte : GoodIn wsX1_byteOf wsX1_isByte := goodIn_r _ [5] (by decide +kernel) (by decide +kernel)
set_option maxRecDepth 20000 in
theorem gX1_byteOf_X1_isByte : GoodIn wsX1_byteOf (va_wsS RX1 29 yX1_isByte wsX1_isByte) := goodIn_app (goodIn_of _ (by decide +kernel)) ggX1_byteOf_X1_isByte
theorem dX1_byteOf_0 : decode cX1_byteOf 0 = .ok (.iload_n 1, 1) := by decide +kernel
theorem dX1_byteOf_1 : decode cX1_byteOf 1 = .ok (.iload_n 2, 1) := by decide +kernel
theorem dX1_byteOf_2 : decode cX1_byteOf 2 = .ok (.invokestatic 29, 3) := by decide +kernel
theorem dX1_byteOf_5 : decode cX1_byteOf 5 = .ok (.ifCond .eq 24, 3) := by decide +kernel
theorem dX1_byteOf_8 : decode cX1_byteOf 8 = .ok (.aload_n 0, 1) := by decide +kernel
theorem dX1_byteOf_9 : decode cX1_byteOf 9 = .ok (.getfield 11, 3) := by decide +kernel
theorem dX1_byteOf_12 : decode cX1_byteOf 12 = .ok (.iload_n 1, 1) := by decide +kernel
theorem dX1_byteOf_13 : decode cX1_byteOf 13 = .ok (.iconst 1, 1) := by decide +kernel
theorem dX1_byteOf_14 : decode cX1_byteOf 14 = .ok (.isub, 1) := by decide +kernel
theorem dX1_byteOf_15 : decode cX1_byteOf 15 = .ok (.sipush 256, 3) := by decide +kernel
theorem dX1_byteOf_18 : decode cX1_byteOf 18 = .ok (.imul, 1) := by decide +kernel
theorem dX1_byteOf_19 : decode cX1_byteOf 19 = .ok (.iload_n 2, 1) := by decide +kernel
theorem dX1_byteOf_20 : decode cX1_byteOf 20 = .ok (.iadd, 1) := by decide +kernel
theorem dX1_byteOf_21 : decode cX1_byteOf 21 = .ok (.baload, 1) := by decide +kernel
theorem dX1_byteOf_22 : decode cX1_byteOf 22 = .ok (.sipush 255, 3) := by decide +kernel
theorem dX1_byteOf_25 : decode cX1_byteOf 25 = .ok (.iand, 1) := by decide +kernel
theorem dX1_byteOf_26 : decode cX1_byteOf 26 = .ok (.goto 4, 3) := by decide +kernel
theorem dX1_byteOf_30 : decode cX1_byteOf 30 = .ok (.ireturn, 1) := by decide +kernel
set_option maxRecDepth 20000 in
theorem ggX1_flip_X1_isByte : GoodIn wsX1_flip wsX1_isByte := goodIn_r _ [5] (by decide +kernel) (by decide +kernel)
set_option maxRecDepth 20000 in
theorem gX1_flip_X1_isByte : GoodIn wsX1_flip (va_wsS RX1 29 yX1_isByte wsX1_isByte) := goodIn_app (goodIn_of _ (by decide +kernel)) ggX1_flip_X1_isByte
set_option maxRecDepth 20000 in
theorem ggX1_flip_X1_byteOf : GoodIn wsX1_flip wsX1_byteOf := goodIn_r _ [9, 1, 2, 3, 4, 5, 10, 11, 12, 13, 14, 15, 16, 17, 18] (by decide +kernel) (by decide +kernel)
set_option maxRecDepth 20000 in
theorem gX1_flip_X1_byteOf : GoodIn wsX1_flip (wsV RX1 33 RX1 yX1_byteOf wsX1_byteOf) := goodIn_app (goodIn_of _ (by decide +kernel)) ggX1_flip_X1_byteOf
theorem dX1_flip_0 : decode cX1_flip 0 = .ok (.iload_n 1, 1) := by decide +kernel
theorem dX1_flip_1 : decode cX1_flip 1 = .ok (.iload_n 2, 1) := by decide +kernel
theorem dX1_flip_2 : decode cX1_flip 2 = .ok (.invokestatic 29, 3) := by decide +kernel
theorem dX1_flip_5 : decode cX1_flip 5 = .ok (.ifCond .eq 23, 3) := by decide +kernel
theorem dX1_flip_8 : decode cX1_flip 8 = .ok (.aload_n 0, 1) := by decide +kernel
theorem dX1_flip_9 : decode cX1_flip 9 = .ok (.getfield 11, 3) := by decide +kernel
theorem dX1_flip_12 : decode cX1_flip 12 = .ok (.iload_n 1, 1) := by decide +kernel
theorem dX1_flip_13 : decode cX1_flip 13 = .ok (.iconst 1, 1) := by decide +kernel
theorem dX1_flip_14 : decode cX1_flip 14 = .ok (.isub, 1) := by decide +kernel
theorem dX1_flip_15 : decode cX1_flip 15 = .ok (.sipush 256, 3) := by decide +kernel
theorem dX1_flip_18 : decode cX1_flip 18 = .ok (.imul, 1) := by decide +kernel
theorem dX1_flip_19 : decode cX1_flip 19 = .ok (.iload_n 2, 1) := by decide +kernel
theorem dX1_flip_20 : decode cX1_flip 20 = .ok (.iadd, 1) := by decide +kernel
theorem dX1_flip_21 : decode cX1_flip 21 = .ok (.dup2, 1) := by decide +kernel
theorem dX1_flip_22 : decode cX1_flip 22 = .ok (.baload, 1) := by decide +kernel
theorem dX1_flip_23 : decode cX1_flip 23 = .ok (.iload_n 3, 1) := by decide +kernel
theorem dX1_flip_24 : decode cX1_flip 24 = .ok (.i2b, 1) := by decide +kernel
theorem dX1_flip_25 : decode cX1_flip 25 = .ok (.ixor, 1) := by decide +kernel
theorem dX1_flip_26 : decode cX1_flip 26 = .ok (.i2b, 1) := by decide +kernel
theorem dX1_flip_27 : decode cX1_flip 27 = .ok (.bastore, 1) := by decide +kernel
theorem dX1_flip_28 : decode cX1_flip 28 = .ok (.aload_n 0, 1) := by decide +kernel
theorem dX1_flip_29 : decode cX1_flip 29 = .ok (.iload_n 1, 1) := by decide +kernel
theorem dX1_flip_30 : decode cX1_flip 30 = .ok (.iload_n 2, 1) := by decide +kernel
theorem dX1_flip_31 : decode cX1_flip 31 = .ok (.invokevirtual 33, 3) := by decide +kernel
theorem dX1_flip_34 : decode cX1_flip 34 = .ok (.ireturn, 1) := by decide +kernel
theorem dX1_setCut_0 : decode cX1_setCut 0 = .ok (.aload_n 0, 1) := by decide +kernel
theorem dX1_setCut_1 : decode cX1_setCut 1 = .ok (.iload_n 1, 1) := by decide +kernel
theorem dX1_setCut_2 : decode cX1_setCut 2 = .ok (.putfield 25, 3) := by decide +kernel
theorem dX1_setCut_5 : decode cX1_setCut 5 = .ok (.aload_n 0, 1) := by decide +kernel
theorem dX1_setCut_6 : decode cX1_setCut 6 = .ok (.iload_n 2, 1) := by decide +kernel
theorem dX1_setCut_7 : decode cX1_setCut 7 = .ok (.putfield 37, 3) := by decide +kernel
theorem dX1_setCut_10 : decode cX1_setCut 10 = .ok (.return_, 1) := by decide +kernel
theorem dX1_writeAll_0 : decode cX1_writeAll 0 = .ok (.aload_n 0, 1) := by decide +kernel
theorem dX1_writeAll_1 : decode cX1_writeAll 1 = .ok (.getfield 40, 3) := by decide +kernel
theorem dX1_writeAll_4 : decode cX1_writeAll 4 = .ok (.sipush 248, 3) := by decide +kernel
theorem dX1_writeAll_7 : decode cX1_writeAll 7 = .ok (.iadd, 1) := by decide +kernel
theorem dX1_writeAll_8 : decode cX1_writeAll 8 = .ok (.iconst 1, 1) := by decide +kernel
theorem dX1_writeAll_9 : decode cX1_writeAll 9 = .ok (.isub, 1) := by decide +kernel
theorem dX1_writeAll_10 : decode cX1_writeAll 10 = .ok (.sipush 248, 3) := by decide +kernel
theorem dX1_writeAll_13 : decode cX1_writeAll 13 = .ok (.idiv, 1) := by decide +kernel
theorem dX1_writeAll_14 : decode cX1_writeAll 14 = .ok (.istore_n 1, 1) := by decide +kernel
theorem dX1_writeAll_15 : decode cX1_writeAll 15 = .ok (.iconst 0, 1) := by decide +kernel
theorem dX1_writeAll_16 : decode cX1_writeAll 16 = .ok (.istore_n 2, 1) := by decide +kernel
theorem dX1_writeAll_17 : decode cX1_writeAll 17 = .ok (.iload_n 2, 1) := by decide +kernel
theorem dX1_writeAll_18 : decode cX1_writeAll 18 = .ok (.iload_n 1, 1) := by decide +kernel
theorem dX1_writeAll_19 : decode cX1_writeAll 19 = .ok (.if_icmp .ge 49, 3) := by decide +kernel
theorem dX1_writeAll_68 : decode cX1_writeAll 68 = .ok (.aload_n 0, 1) := by decide +kernel
theorem dX1_writeAll_69 : decode cX1_writeAll 69 = .ok (.dup, 1) := by decide +kernel
theorem dX1_writeAll_70 : decode cX1_writeAll 70 = .ok (.getfield 43, 3) := by decide +kernel
theorem dX1_writeAll_73 : decode cX1_writeAll 73 = .ok (.iload_n 1, 1) := by decide +kernel
theorem dX1_writeAll_74 : decode cX1_writeAll 74 = .ok (.iadd, 1) := by decide +kernel
theorem dX1_writeAll_75 : decode cX1_writeAll 75 = .ok (.putfield 43, 3) := by decide +kernel
theorem dX1_writeAll_78 : decode cX1_writeAll 78 = .ok (.aload_n 0, 1) := by decide +kernel
theorem dX1_writeAll_79 : decode cX1_writeAll 79 = .ok (.iconst 0, 1) := by decide +kernel
theorem dX1_writeAll_80 : decode cX1_writeAll 80 = .ok (.putfield 40, 3) := by decide +kernel
theorem dX1_writeAll_83 : decode cX1_writeAll 83 = .ok (.iload_n 1, 1) := by decide +kernel
theorem dX1_writeAll_84 : decode cX1_writeAll 84 = .ok (.ireturn, 1) := by decide +kernel
theorem dX1_firstWrong_0 : decode cX1_firstWrong 0 = .ok (.iconst 1, 1) := by decide +kernel
theorem dX1_firstWrong_1 : decode cX1_firstWrong 1 = .ok (.istore_n 1, 1) := by decide +kernel
theorem dX1_firstWrong_2 : decode cX1_firstWrong 2 = .ok (.iload_n 1, 1) := by decide +kernel
theorem dX1_firstWrong_3 : decode cX1_firstWrong 3 = .ok (.aload_n 0, 1) := by decide +kernel
theorem dX1_firstWrong_4 : decode cX1_firstWrong 4 = .ok (.getfield 43, 3) := by decide +kernel
theorem dX1_firstWrong_7 : decode cX1_firstWrong 7 = .ok (.if_icmp .gt 19, 3) := by decide +kernel
theorem dX1_firstWrong_26 : decode cX1_firstWrong 26 = .ok (.iconst (-1), 1) := by decide +kernel
theorem dX1_firstWrong_27 : decode cX1_firstWrong 27 = .ok (.ireturn, 1) := by decide +kernel
theorem dX11_end_0 : decode cX11_end 0 = .ok (.iload_n 1, 1) := by decide +kernel
theorem dX11_end_1 : decode cX11_end 1 = .ok (.ifCond .lt 11, 3) := by decide +kernel
theorem dX11_end_4 : decode cX11_end 4 = .ok (.iload_n 1, 1) := by decide +kernel
theorem dX11_end_5 : decode cX11_end 5 = .ok (.aload_n 0, 1) := by decide +kernel
theorem dX11_end_6 : decode cX11_end 6 = .ok (.getfield 102, 3) := by decide +kernel
theorem dX11_end_9 : decode cX11_end 9 = .ok (.if_icmp .le 13, 3) := by decide +kernel
theorem dX11_end_12 : decode cX11_end 12 = .ok (.new 117, 3) := by decide +kernel
theorem dX11_end_15 : decode cX11_end 15 = .ok (.dup, 1) := by decide +kernel
theorem dX11_end_16 : decode cX11_end 16 = .ok (.ldc 119, 2) := by decide +kernel
theorem dX11_end_18 : decode cX11_end 18 = .ok (.invokespecial 121, 3) := by decide +kernel
theorem dX11_end_21 : decode cX11_end 21 = .ok (.athrow, 1) := by decide +kernel
theorem dX11_end_22 : decode cX11_end 22 = .ok (.aload_n 0, 1) := by decide +kernel
theorem dX11_end_23 : decode cX11_end 23 = .ok (.iload_n 1, 1) := by decide +kernel
theorem dX11_end_24 : decode cX11_end 24 = .ok (.putfield 102, 3) := by decide +kernel
theorem dX11_end_27 : decode cX11_end 27 = .ok (.return_, 1) := by decide +kernel
set_option maxRecDepth 20000 in
theorem ggX11_sync_X1_writeAll : GoodIn wsX11_sync wsX1_writeAll := goodIn_r _ [6, 7, 8, 9, 10, 11, 12, 5, 13, 14, 15, 16, 17, 18, 19, 20, 21, 22, 23, 24, 25, 26, 27, 28, 29, 30, 31, 32, 33, 34, 35, 36, 37, 38, 54, 55, 56, 57, 58, 59, 60, 61, 62] (by decide +kernel) (by decide +kernel)
set_option maxRecDepth 20000 in
theorem gX11_sync_X1_writeAll : GoodIn wsX11_sync (wsV RX11 126 RX1 yX1_writeAll wsX1_writeAll) := goodIn_app (goodIn_of _ (by decide +kernel)) ggX11_sync_X1_writeAll
theorem dX11_sync_0 : decode cX11_sync 0 = .ok (.aload_n 0, 1) := by decide +kernel
theorem dX11_sync_1 : decode cX11_sync 1 = .ok (.getfield 16, 3) := by decide +kernel
theorem dX11_sync_4 : decode cX11_sync 4 = .ok (.getfield 122, 3) := by decide +kernel
theorem dX11_sync_7 : decode cX11_sync 7 = .ok (.ifCond .eq 8, 3) := by decide +kernel
theorem dX11_sync_15 : decode cX11_sync 15 = .ok (.aload_n 0, 1) := by decide +kernel
theorem dX11_sync_16 : decode cX11_sync 16 = .ok (.getfield 16, 3) := by decide +kernel
theorem dX11_sync_19 : decode cX11_sync 19 = .ok (.invokevirtual 126, 3) := by decide +kernel
theorem dX11_sync_22 : decode cX11_sync 22 = .ok (.ireturn, 1) := by decide +kernel
set_option maxRecDepth 20000 in
theorem ggX11_cut_X1_setCut : GoodIn wsX11_cut wsX1_setCut := goodIn_r _ [6, 7, 8, 24, 25, 26, 27, 28, 29, 30, 31, 32] (by decide +kernel) (by decide +kernel)
set_option maxRecDepth 20000 in
theorem gX11_cut_X1_setCut : GoodIn wsX11_cut (wsV RX11 130 RX1 yX1_setCut wsX1_setCut) := goodIn_app (goodIn_of _ (by decide +kernel)) ggX11_cut_X1_setCut
theorem dX11_cut_0 : decode cX11_cut 0 = .ok (.aload_n 0, 1) := by decide +kernel
theorem dX11_cut_1 : decode cX11_cut 1 = .ok (.getfield 16, 3) := by decide +kernel
theorem dX11_cut_4 : decode cX11_cut 4 = .ok (.getfield 122, 3) := by decide +kernel
theorem dX11_cut_7 : decode cX11_cut 7 = .ok (.ifCond .eq 6, 3) := by decide +kernel
theorem dX11_cut_13 : decode cX11_cut 13 = .ok (.iload_n 1, 1) := by decide +kernel
theorem dX11_cut_14 : decode cX11_cut 14 = .ok (.iconst (-1), 1) := by decide +kernel
theorem dX11_cut_15 : decode cX11_cut 15 = .ok (.if_icmp .lt 21, 3) := by decide +kernel
theorem dX11_cut_18 : decode cX11_cut 18 = .ok (.iload_n 1, 1) := by decide +kernel
theorem dX11_cut_19 : decode cX11_cut 19 = .ok (.sipush 2000, 3) := by decide +kernel
theorem dX11_cut_22 : decode cX11_cut 22 = .ok (.if_icmp .gt 14, 3) := by decide +kernel
theorem dX11_cut_25 : decode cX11_cut 25 = .ok (.iload_n 2, 1) := by decide +kernel
theorem dX11_cut_26 : decode cX11_cut 26 = .ok (.ifCond .lt 10, 3) := by decide +kernel
theorem dX11_cut_29 : decode cX11_cut 29 = .ok (.iload_n 2, 1) := by decide +kernel
theorem dX11_cut_30 : decode cX11_cut 30 = .ok (.sipush 255, 3) := by decide +kernel
theorem dX11_cut_33 : decode cX11_cut 33 = .ok (.if_icmp .le 6, 3) := by decide +kernel
theorem dX11_cut_36 : decode cX11_cut 36 = .ok (.bipush (-102), 2) := by decide +kernel
theorem dX11_cut_38 : decode cX11_cut 38 = .ok (.ireturn, 1) := by decide +kernel
theorem dX11_cut_39 : decode cX11_cut 39 = .ok (.aload_n 0, 1) := by decide +kernel
theorem dX11_cut_40 : decode cX11_cut 40 = .ok (.getfield 16, 3) := by decide +kernel
theorem dX11_cut_43 : decode cX11_cut 43 = .ok (.iload_n 1, 1) := by decide +kernel
theorem dX11_cut_44 : decode cX11_cut 44 = .ok (.iload_n 2, 1) := by decide +kernel
theorem dX11_cut_45 : decode cX11_cut 45 = .ok (.invokevirtual 130, 3) := by decide +kernel
theorem dX11_cut_48 : decode cX11_cut 48 = .ok (.iconst 1, 1) := by decide +kernel
theorem dX11_cut_49 : decode cX11_cut 49 = .ok (.ireturn, 1) := by decide +kernel
theorem dX11_start_0 : decode cX11_start 0 = .ok (.aload_n 0, 1) := by decide +kernel
theorem dX11_start_1 : decode cX11_start 1 = .ok (.getfield 16, 3) := by decide +kernel
theorem dX11_start_4 : decode cX11_start 4 = .ok (.getfield 122, 3) := by decide +kernel
theorem dX11_start_7 : decode cX11_start 7 = .ok (.ifCond .ne 6, 3) := by decide +kernel
theorem dX11_start_10 : decode cX11_start 10 = .ok (.bipush (-103), 2) := by decide +kernel
theorem dX11_start_12 : decode cX11_start 12 = .ok (.ireturn, 1) := by decide +kernel
set_option maxRecDepth 20000 in
theorem ggX11_verify_X1_firstWrong : GoodIn wsX11_verify wsX1_firstWrong := goodIn_r _ [6, 7, 8, 9, 10, 5, 11, 12, 13, 14, 15, 16, 17, 18, 19, 20, 21, 22, 23, 24, 40, 41, 42, 43, 44, 45, 46, 47, 48] (by decide +kernel) (by decide +kernel)
set_option maxRecDepth 20000 in
theorem gX11_verify_X1_firstWrong : GoodIn wsX11_verify (wsV RX11 191 RX1 yX1_firstWrong wsX1_firstWrong) := goodIn_app (goodIn_of _ (by decide +kernel)) ggX11_verify_X1_firstWrong
theorem dX11_verify_0 : decode cX11_verify 0 = .ok (.aload_n 0, 1) := by decide +kernel
theorem dX11_verify_1 : decode cX11_verify 1 = .ok (.getfield 16, 3) := by decide +kernel
theorem dX11_verify_4 : decode cX11_verify 4 = .ok (.getfield 122, 3) := by decide +kernel
theorem dX11_verify_7 : decode cX11_verify 7 = .ok (.ifCond .eq 8, 3) := by decide +kernel
theorem dX11_verify_15 : decode cX11_verify 15 = .ok (.aload_n 0, 1) := by decide +kernel
theorem dX11_verify_16 : decode cX11_verify 16 = .ok (.getfield 16, 3) := by decide +kernel
theorem dX11_verify_19 : decode cX11_verify 19 = .ok (.invokevirtual 191, 3) := by decide +kernel
theorem dX11_verify_22 : decode cX11_verify 22 = .ok (.ireturn, 1) := by decide +kernel
set_option maxRecDepth 20000 in
theorem ggX11_octet_X1_isByte : GoodIn wsX11_octet wsX1_isByte := goodIn_r _ [7] (by decide +kernel) (by decide +kernel)
set_option maxRecDepth 20000 in
theorem gX11_octet_X1_isByte : GoodIn wsX11_octet (va_wsS RX11 194 yX1_isByte wsX1_isByte) := goodIn_app (goodIn_of _ (by decide +kernel)) ggX11_octet_X1_isByte
set_option maxRecDepth 20000 in
theorem ggX11_octet_X1_byteOf : GoodIn wsX11_octet wsX1_byteOf := goodIn_r _ [11, 12, 13, 5, 6, 7, 29, 30, 31, 32, 33, 34, 35, 36, 37] (by decide +kernel) (by decide +kernel)
set_option maxRecDepth 20000 in
theorem gX11_octet_X1_byteOf : GoodIn wsX11_octet (wsV RX11 202 RX1 yX1_byteOf wsX1_byteOf) := goodIn_app (goodIn_of _ (by decide +kernel)) ggX11_octet_X1_byteOf
theorem dX11_octet_0 : decode cX11_octet 0 = .ok (.iload_n 1, 1) := by decide +kernel
theorem dX11_octet_1 : decode cX11_octet 1 = .ok (.iload_n 2, 1) := by decide +kernel
theorem dX11_octet_2 : decode cX11_octet 2 = .ok (.invokestatic 194, 3) := by decide +kernel
theorem dX11_octet_5 : decode cX11_octet 5 = .ok (.ifCond .ne 13, 3) := by decide +kernel
theorem dX11_octet_8 : decode cX11_octet 8 = .ok (.new 197, 3) := by decide +kernel
theorem dX11_octet_11 : decode cX11_octet 11 = .ok (.dup, 1) := by decide +kernel
theorem dX11_octet_12 : decode cX11_octet 12 = .ok (.ldc 199, 2) := by decide +kernel
theorem dX11_octet_14 : decode cX11_octet 14 = .ok (.invokespecial 201, 3) := by decide +kernel
theorem dX11_octet_17 : decode cX11_octet 17 = .ok (.athrow, 1) := by decide +kernel
theorem dX11_octet_18 : decode cX11_octet 18 = .ok (.aload_n 0, 1) := by decide +kernel
theorem dX11_octet_19 : decode cX11_octet 19 = .ok (.getfield 16, 3) := by decide +kernel
theorem dX11_octet_22 : decode cX11_octet 22 = .ok (.iload_n 1, 1) := by decide +kernel
theorem dX11_octet_23 : decode cX11_octet 23 = .ok (.iload_n 2, 1) := by decide +kernel
theorem dX11_octet_24 : decode cX11_octet 24 = .ok (.invokevirtual 202, 3) := by decide +kernel
theorem dX11_octet_27 : decode cX11_octet 27 = .ok (.ireturn, 1) := by decide +kernel
set_option maxRecDepth 20000 in
theorem ggX11_poke_X1_isByte : GoodIn wsX11_poke wsX1_isByte := goodIn_r _ [7] (by decide +kernel) (by decide +kernel)
set_option maxRecDepth 20000 in
theorem gX11_poke_X1_isByte : GoodIn wsX11_poke (va_wsS RX11 194 yX1_isByte wsX1_isByte) := goodIn_app (goodIn_of _ (by decide +kernel)) ggX11_poke_X1_isByte
set_option maxRecDepth 20000 in
theorem ggX11_poke_X1_flip : GoodIn wsX11_poke wsX1_flip := goodIn_r _ [11, 12, 13, 5, 6, 7, 14, 15, 16, 17, 33, 34, 35, 36, 37, 38, 39, 40, 41] (by decide +kernel) (by decide +kernel)
set_option maxRecDepth 20000 in
theorem gX11_poke_X1_flip : GoodIn wsX11_poke (wsV RX11 206 RX1 yX1_flip wsX1_flip) := goodIn_app (goodIn_of _ (by decide +kernel)) ggX11_poke_X1_flip
theorem dX11_poke_0 : decode cX11_poke 0 = .ok (.iload_n 1, 1) := by decide +kernel
theorem dX11_poke_1 : decode cX11_poke 1 = .ok (.iload_n 2, 1) := by decide +kernel
theorem dX11_poke_2 : decode cX11_poke 2 = .ok (.invokestatic 194, 3) := by decide +kernel
theorem dX11_poke_5 : decode cX11_poke 5 = .ok (.ifCond .ne 13, 3) := by decide +kernel
theorem dX11_poke_8 : decode cX11_poke 8 = .ok (.new 197, 3) := by decide +kernel
theorem dX11_poke_11 : decode cX11_poke 11 = .ok (.dup, 1) := by decide +kernel
theorem dX11_poke_12 : decode cX11_poke 12 = .ok (.ldc 199, 2) := by decide +kernel
theorem dX11_poke_14 : decode cX11_poke 14 = .ok (.invokespecial 201, 3) := by decide +kernel
theorem dX11_poke_17 : decode cX11_poke 17 = .ok (.athrow, 1) := by decide +kernel
theorem dX11_poke_18 : decode cX11_poke 18 = .ok (.aload_n 0, 1) := by decide +kernel
theorem dX11_poke_19 : decode cX11_poke 19 = .ok (.getfield 16, 3) := by decide +kernel
theorem dX11_poke_22 : decode cX11_poke 22 = .ok (.iload_n 1, 1) := by decide +kernel
theorem dX11_poke_23 : decode cX11_poke 23 = .ok (.iload_n 2, 1) := by decide +kernel
theorem dX11_poke_24 : decode cX11_poke 24 = .ok (.iload_n 3, 1) := by decide +kernel
theorem dX11_poke_25 : decode cX11_poke 25 = .ok (.invokevirtual 206, 3) := by decide +kernel
theorem dX11_poke_28 : decode cX11_poke 28 = .ok (.ireturn, 1) := by decide +kernel
theorem dX11_count_0 : decode cX11_count 0 = .ok (.iload_n 1, 1) := by decide +kernel
theorem dX11_count_1 : decode cX11_count 1 = .ok (.iconst 4, 1) := by decide +kernel
theorem dX11_count_2 : decode cX11_count 2 = .ok (.if_icmp .ne 8, 3) := by decide +kernel
theorem dX11_count_10 : decode cX11_count 10 = .ok (.aload_n 0, 1) := by decide +kernel
theorem dX11_count_11 : decode cX11_count 11 = .ok (.getfield 16, 3) := by decide +kernel
theorem dX11_count_14 : decode cX11_count 14 = .ok (.getfield 122, 3) := by decide +kernel
theorem dX11_count_17 : decode cX11_count 17 = .ok (.ifCond .eq 6, 3) := by decide +kernel
theorem dX11_count_23 : decode cX11_count 23 = .ok (.iload_n 1, 1) := by decide +kernel
theorem dX11_count_24 : decode cX11_count 24 = .ok (.tableswitch 104 0 7 #[48, 56, 64, 75, 104, 83, 91, 99], 48) := by decide +kernel
theorem dX11_count_80 : decode cX11_count 80 = .ok (.aload_n 0, 1) := by decide +kernel
theorem dX11_count_81 : decode cX11_count 81 = .ok (.getfield 23, 3) := by decide +kernel
theorem dX11_count_84 : decode cX11_count 84 = .ok (.getfield 160, 3) := by decide +kernel
theorem dX11_count_87 : decode cX11_count 87 = .ok (.ireturn, 1) := by decide +kernel
theorem dX12_thrown_0 : decode cX12_thrown 0 = .ok (.aload_n 0, 1) := by decide +kernel
theorem dX12_thrown_1 : decode cX12_thrown 1 = .ok (.getfield 3, 3) := by decide +kernel
theorem dX12_thrown_4 : decode cX12_thrown 4 = .ok (.ireturn, 1) := by decide +kernel
theorem dX12_in_0 : decode cX12_in 0 = .ok (.lload_n 0, 1) := by decide +kernel
theorem dX12_in_1 : decode cX12_in 1 = .ok (.lload_n 2, 1) := by decide +kernel
theorem dX12_in_2 : decode cX12_in 2 = .ok (.lcmp, 1) := by decide +kernel
theorem dX12_in_3 : decode cX12_in 3 = .ok (.ifCond .lt 14, 3) := by decide +kernel
theorem dX12_in_6 : decode cX12_in 6 = .ok (.lload_n 0, 1) := by decide +kernel
theorem dX12_in_7 : decode cX12_in 7 = .ok (.lload 4, 2) := by decide +kernel
theorem dX12_in_9 : decode cX12_in 9 = .ok (.lcmp, 1) := by decide +kernel
theorem dX12_in_10 : decode cX12_in 10 = .ok (.ifCond .gt 7, 3) := by decide +kernel
theorem dX12_in_13 : decode cX12_in 13 = .ok (.iconst 1, 1) := by decide +kernel
theorem dX12_in_14 : decode cX12_in 14 = .ok (.goto 4, 3) := by decide +kernel
theorem dX12_in_17 : decode cX12_in 17 = .ok (.iconst 0, 1) := by decide +kernel
theorem dX12_in_18 : decode cX12_in 18 = .ok (.ireturn, 1) := by decide +kernel
set_option maxRecDepth 20000 in
theorem ggX12_end_X12_in : GoodIn wsX12_end wsX12_in := goodIn_r _ [6] (by decide +kernel) (by decide +kernel)
set_option maxRecDepth 20000 in
theorem gX12_end_X12_in : GoodIn wsX12_end (va_wsS RX12 504 yX12_in wsX12_in) := goodIn_app (goodIn_of _ (by decide +kernel)) ggX12_end_X12_in
theorem dX12_end_0 : decode cX12_end 0 = .ok (.aload_n 0, 1) := by decide +kernel
theorem dX12_end_1 : decode cX12_end 1 = .ok (.iload_n 1, 1) := by decide +kernel
theorem dX12_end_2 : decode cX12_end 2 = .ok (.i2l, 1) := by decide +kernel
theorem dX12_end_3 : decode cX12_end 3 = .ok (.lconst 0, 1) := by decide +kernel
theorem dX12_end_4 : decode cX12_end 4 = .ok (.aload_n 0, 1) := by decide +kernel
theorem dX12_end_5 : decode cX12_end 5 = .ok (.getfield 485, 3) := by decide +kernel
theorem dX12_end_8 : decode cX12_end 8 = .ok (.i2l, 1) := by decide +kernel
theorem dX12_end_9 : decode cX12_end 9 = .ok (.invokestatic 504, 3) := by decide +kernel
theorem dX12_end_12 : decode cX12_end 12 = .ok (.ifCond .eq 7, 3) := by decide +kernel
theorem dX12_end_15 : decode cX12_end 15 = .ok (.iconst 0, 1) := by decide +kernel
theorem dX12_end_16 : decode cX12_end 16 = .ok (.goto 4, 3) := by decide +kernel
theorem dX12_end_19 : decode cX12_end 19 = .ok (.iconst 1, 1) := by decide +kernel
theorem dX12_end_20 : decode cX12_end 20 = .ok (.putfield 3, 3) := by decide +kernel
theorem dX12_end_23 : decode cX12_end 23 = .ok (.aload_n 0, 1) := by decide +kernel
theorem dX12_end_24 : decode cX12_end 24 = .ok (.aload_n 0, 1) := by decide +kernel
theorem dX12_end_25 : decode cX12_end 25 = .ok (.getfield 3, 3) := by decide +kernel
theorem dX12_end_28 : decode cX12_end 28 = .ok (.ifCond .le 10, 3) := by decide +kernel
theorem dX12_end_31 : decode cX12_end 31 = .ok (.aload_n 0, 1) := by decide +kernel
theorem dX12_end_32 : decode cX12_end 32 = .ok (.getfield 485, 3) := by decide +kernel
theorem dX12_end_35 : decode cX12_end 35 = .ok (.goto 4, 3) := by decide +kernel
theorem dX12_end_38 : decode cX12_end 38 = .ok (.iload_n 1, 1) := by decide +kernel
theorem dX12_end_39 : decode cX12_end 39 = .ok (.putfield 485, 3) := by decide +kernel
theorem dX12_end_42 : decode cX12_end 42 = .ok (.return_, 1) := by decide +kernel
theorem dX12_at_0 : decode cX12_at 0 = .ok (.aload_n 0, 1) := by decide +kernel
theorem dX12_at_1 : decode cX12_at 1 = .ok (.getfield 19, 3) := by decide +kernel
theorem dX12_at_4 : decode cX12_at 4 = .ok (.sipush 256, 3) := by decide +kernel
theorem dX12_at_7 : decode cX12_at 7 = .ok (.iload_n 1, 1) := by decide +kernel
theorem dX12_at_8 : decode cX12_at 8 = .ok (.imul, 1) := by decide +kernel
theorem dX12_at_9 : decode cX12_at 9 = .ok (.iload_n 2, 1) := by decide +kernel
theorem dX12_at_10 : decode cX12_at 10 = .ok (.iadd, 1) := by decide +kernel
theorem dX12_at_11 : decode cX12_at 11 = .ok (.baload, 1) := by decide +kernel
theorem dX12_at_12 : decode cX12_at 12 = .ok (.sipush 255, 3) := by decide +kernel
theorem dX12_at_15 : decode cX12_at 15 = .ok (.iand, 1) := by decide +kernel
theorem dX12_at_16 : decode cX12_at 16 = .ok (.ireturn, 1) := by decide +kernel
theorem dX12_sync_0 : decode cX12_sync 0 = .ok (.aload_n 0, 1) := by decide +kernel
theorem dX12_sync_1 : decode cX12_sync 1 = .ok (.iconst 0, 1) := by decide +kernel
theorem dX12_sync_2 : decode cX12_sync 2 = .ok (.putfield 3, 3) := by decide +kernel
theorem dX12_sync_5 : decode cX12_sync 5 = .ok (.aload_n 0, 1) := by decide +kernel
theorem dX12_sync_6 : decode cX12_sync 6 = .ok (.getfield 488, 3) := by decide +kernel
theorem dX12_sync_9 : decode cX12_sync 9 = .ok (.ifCond .eq 6, 3) := by decide +kernel
theorem dX12_sync_15 : decode cX12_sync 15 = .ok (.aload_n 0, 1) := by decide +kernel
theorem dX12_sync_16 : decode cX12_sync 16 = .ok (.getfield 475, 3) := by decide +kernel
theorem dX12_sync_19 : decode cX12_sync 19 = .ok (.sipush 248, 3) := by decide +kernel
theorem dX12_sync_22 : decode cX12_sync 22 = .ok (.iadd, 1) := by decide +kernel
theorem dX12_sync_23 : decode cX12_sync 23 = .ok (.iconst 1, 1) := by decide +kernel
theorem dX12_sync_24 : decode cX12_sync 24 = .ok (.isub, 1) := by decide +kernel
theorem dX12_sync_25 : decode cX12_sync 25 = .ok (.sipush 248, 3) := by decide +kernel
theorem dX12_sync_28 : decode cX12_sync 28 = .ok (.idiv, 1) := by decide +kernel
theorem dX12_sync_29 : decode cX12_sync 29 = .ok (.istore_n 1, 1) := by decide +kernel
theorem dX12_sync_30 : decode cX12_sync 30 = .ok (.iconst 0, 1) := by decide +kernel
theorem dX12_sync_31 : decode cX12_sync 31 = .ok (.istore_n 2, 1) := by decide +kernel
theorem dX12_sync_32 : decode cX12_sync 32 = .ok (.iload_n 2, 1) := by decide +kernel
theorem dX12_sync_33 : decode cX12_sync 33 = .ok (.iload_n 1, 1) := by decide +kernel
theorem dX12_sync_34 : decode cX12_sync 34 = .ok (.if_icmp .ge 149, 3) := by decide +kernel
theorem dX12_sync_183 : decode cX12_sync 183 = .ok (.aload_n 0, 1) := by decide +kernel
theorem dX12_sync_184 : decode cX12_sync 184 = .ok (.aload_n 0, 1) := by decide +kernel
theorem dX12_sync_185 : decode cX12_sync 185 = .ok (.getfield 478, 3) := by decide +kernel
theorem dX12_sync_188 : decode cX12_sync 188 = .ok (.iload_n 1, 1) := by decide +kernel
theorem dX12_sync_189 : decode cX12_sync 189 = .ok (.iadd, 1) := by decide +kernel
theorem dX12_sync_190 : decode cX12_sync 190 = .ok (.putfield 478, 3) := by decide +kernel
theorem dX12_sync_193 : decode cX12_sync 193 = .ok (.aload_n 0, 1) := by decide +kernel
theorem dX12_sync_194 : decode cX12_sync 194 = .ok (.iconst 0, 1) := by decide +kernel
theorem dX12_sync_195 : decode cX12_sync 195 = .ok (.putfield 475, 3) := by decide +kernel
theorem dX12_sync_198 : decode cX12_sync 198 = .ok (.iload_n 1, 1) := by decide +kernel
theorem dX12_sync_199 : decode cX12_sync 199 = .ok (.ireturn, 1) := by decide +kernel
set_option maxRecDepth 20000 in
theorem ggX12_cut_X12_in : GoodIn wsX12_cut wsX12_in := goodIn_r _ [11] (by decide +kernel) (by decide +kernel)
set_option maxRecDepth 20000 in
theorem gX12_cut_X12_in : GoodIn wsX12_cut (va_wsS RX12 504 yX12_in wsX12_in) := goodIn_app (goodIn_of _ (by decide +kernel)) ggX12_cut_X12_in
theorem dX12_cut_0 : decode cX12_cut 0 = .ok (.aload_n 0, 1) := by decide +kernel
theorem dX12_cut_1 : decode cX12_cut 1 = .ok (.iconst 0, 1) := by decide +kernel
theorem dX12_cut_2 : decode cX12_cut 2 = .ok (.putfield 3, 3) := by decide +kernel
theorem dX12_cut_5 : decode cX12_cut 5 = .ok (.aload_n 0, 1) := by decide +kernel
theorem dX12_cut_6 : decode cX12_cut 6 = .ok (.getfield 488, 3) := by decide +kernel
theorem dX12_cut_9 : decode cX12_cut 9 = .ok (.ifCond .eq 6, 3) := by decide +kernel
theorem dX12_cut_15 : decode cX12_cut 15 = .ok (.iload_n 1, 1) := by decide +kernel
theorem dX12_cut_16 : decode cX12_cut 16 = .ok (.i2l, 1) := by decide +kernel
theorem dX12_cut_17 : decode cX12_cut 17 = .ok (.ldc2_w 526, 3) := by decide +kernel
theorem dX12_cut_20 : decode cX12_cut 20 = .ok (.ldc2_w 528, 3) := by decide +kernel
theorem dX12_cut_23 : decode cX12_cut 23 = .ok (.invokestatic 504, 3) := by decide +kernel
theorem dX12_cut_26 : decode cX12_cut 26 = .ok (.ifCond .eq 15, 3) := by decide +kernel
theorem dX12_cut_29 : decode cX12_cut 29 = .ok (.iload_n 2, 1) := by decide +kernel
theorem dX12_cut_30 : decode cX12_cut 30 = .ok (.i2l, 1) := by decide +kernel
theorem dX12_cut_31 : decode cX12_cut 31 = .ok (.lconst 0, 1) := by decide +kernel
theorem dX12_cut_32 : decode cX12_cut 32 = .ok (.ldc2_w 530, 3) := by decide +kernel
theorem dX12_cut_35 : decode cX12_cut 35 = .ok (.invokestatic 504, 3) := by decide +kernel
theorem dX12_cut_38 : decode cX12_cut 38 = .ok (.ifCond .ne 6, 3) := by decide +kernel
theorem dX12_cut_41 : decode cX12_cut 41 = .ok (.bipush (-102), 2) := by decide +kernel
theorem dX12_cut_43 : decode cX12_cut 43 = .ok (.ireturn, 1) := by decide +kernel
theorem dX12_cut_44 : decode cX12_cut 44 = .ok (.aload_n 0, 1) := by decide +kernel
theorem dX12_cut_45 : decode cX12_cut 45 = .ok (.iload_n 1, 1) := by decide +kernel
theorem dX12_cut_46 : decode cX12_cut 46 = .ok (.putfield 22, 3) := by decide +kernel
theorem dX12_cut_49 : decode cX12_cut 49 = .ok (.aload_n 0, 1) := by decide +kernel
theorem dX12_cut_50 : decode cX12_cut 50 = .ok (.iload_n 2, 1) := by decide +kernel
theorem dX12_cut_51 : decode cX12_cut 51 = .ok (.putfield 523, 3) := by decide +kernel
theorem dX12_cut_54 : decode cX12_cut 54 = .ok (.iconst 1, 1) := by decide +kernel
theorem dX12_cut_55 : decode cX12_cut 55 = .ok (.ireturn, 1) := by decide +kernel
theorem dX12_start_0 : decode cX12_start 0 = .ok (.aload_n 0, 1) := by decide +kernel
theorem dX12_start_1 : decode cX12_start 1 = .ok (.iconst 0, 1) := by decide +kernel
theorem dX12_start_2 : decode cX12_start 2 = .ok (.putfield 3, 3) := by decide +kernel
theorem dX12_start_5 : decode cX12_start 5 = .ok (.aload_n 0, 1) := by decide +kernel
theorem dX12_start_6 : decode cX12_start 6 = .ok (.getfield 488, 3) := by decide +kernel
theorem dX12_start_9 : decode cX12_start 9 = .ok (.ifCond .ne 6, 3) := by decide +kernel
theorem dX12_start_12 : decode cX12_start 12 = .ok (.bipush (-103), 2) := by decide +kernel
theorem dX12_start_14 : decode cX12_start 14 = .ok (.ireturn, 1) := by decide +kernel
theorem dX12_verify_0 : decode cX12_verify 0 = .ok (.aload_n 0, 1) := by decide +kernel
theorem dX12_verify_1 : decode cX12_verify 1 = .ok (.iconst 0, 1) := by decide +kernel
theorem dX12_verify_2 : decode cX12_verify 2 = .ok (.putfield 3, 3) := by decide +kernel
theorem dX12_verify_5 : decode cX12_verify 5 = .ok (.aload_n 0, 1) := by decide +kernel
theorem dX12_verify_6 : decode cX12_verify 6 = .ok (.getfield 488, 3) := by decide +kernel
theorem dX12_verify_9 : decode cX12_verify 9 = .ok (.ifCond .eq 6, 3) := by decide +kernel
theorem dX12_verify_15 : decode cX12_verify 15 = .ok (.iconst 1, 1) := by decide +kernel
theorem dX12_verify_16 : decode cX12_verify 16 = .ok (.istore_n 1, 1) := by decide +kernel
theorem dX12_verify_17 : decode cX12_verify 17 = .ok (.iload_n 1, 1) := by decide +kernel
theorem dX12_verify_18 : decode cX12_verify 18 = .ok (.aload_n 0, 1) := by decide +kernel
theorem dX12_verify_19 : decode cX12_verify 19 = .ok (.getfield 478, 3) := by decide +kernel
theorem dX12_verify_22 : decode cX12_verify 22 = .ok (.if_icmp .gt 17, 3) := by decide +kernel
theorem dX12_verify_39 : decode cX12_verify 39 = .ok (.iload_n 1, 1) := by decide +kernel
theorem dX12_verify_40 : decode cX12_verify 40 = .ok (.aload_n 0, 1) := by decide +kernel
theorem dX12_verify_41 : decode cX12_verify 41 = .ok (.getfield 478, 3) := by decide +kernel
theorem dX12_verify_44 : decode cX12_verify 44 = .ok (.if_icmp .gt 7, 3) := by decide +kernel
theorem dX12_verify_51 : decode cX12_verify 51 = .ok (.iconst (-1), 1) := by decide +kernel
theorem dX12_verify_52 : decode cX12_verify 52 = .ok (.ireturn, 1) := by decide +kernel
set_option maxRecDepth 20000 in
theorem ggX12_octet_X12_in : GoodIn wsX12_octet wsX12_in := goodIn_r _ [7] (by decide +kernel) (by decide +kernel)
set_option maxRecDepth 20000 in
theorem gX12_octet_X12_in : GoodIn wsX12_octet (va_wsS RX12 504 yX12_in wsX12_in) := goodIn_app (goodIn_of _ (by decide +kernel)) ggX12_octet_X12_in
set_option maxRecDepth 20000 in
theorem ggX12_octet_X12_at : GoodIn wsX12_octet wsX12_at := goodIn_r _ [11, 12, 13, 14, 15, 16, 17, 18, 19, 20, 21, 22, 23, 24, 25, 26, 27, 28, 29, 30, 31, 32, 33, 34, 35, 36, 37, 38, 39, 40, 41, 42, 43, 44, 45, 46, 47, 48, 49, 50, 51, 52, 53, 54, 55, 56, 57, 58, 59, 60, 61, 62, 63, 64, 65, 66, 67, 68, 69, 70, 71, 72, 73, 74, 75, 76, 77, 78, 79, 80, 81, 82, 83, 84, 85, 86, 87, 88, 89, 90, 91, 92, 93, 94, 95, 96, 97, 98, 99, 100, 101, 102, 103, 104, 105, 106, 107, 108, 109, 110, 111, 112, 113, 114, 115, 116, 117, 118, 119, 120, 121, 122, 123, 124, 125, 126, 127, 128, 129, 130, 131, 132, 133, 134, 135, 136, 137, 138, 139, 140, 141, 142, 143, 144, 145, 146, 147, 148, 149, 150, 151, 152, 153, 154, 155, 156, 157, 158, 159, 160, 161, 162, 163, 164, 165, 166, 167, 168, 169, 170, 171, 172, 173, 174, 175, 176, 177, 178, 179, 180, 181, 182, 183, 184, 185, 186, 187, 188, 189, 190, 191, 192, 193, 194, 195, 196, 197, 198, 199, 200, 201, 202, 203, 204, 205, 206, 207] (by decide +kernel) (by decide +kernel)
set_option maxRecDepth 20000 in
theorem gX12_octet_X12_at : GoodIn wsX12_octet (wsV RX12 509 RX12 yX12_at wsX12_at) := goodIn_app (goodIn_of _ (by decide +kernel)) ggX12_octet_X12_at
theorem dX12_octet_0 : decode cX12_octet 0 = .ok (.aload_n 0, 1) := by decide +kernel
theorem dX12_octet_1 : decode cX12_octet 1 = .ok (.iload_n 1, 1) := by decide +kernel
theorem dX12_octet_2 : decode cX12_octet 2 = .ok (.i2l, 1) := by decide +kernel
theorem dX12_octet_3 : decode cX12_octet 3 = .ok (.lconst 1, 1) := by decide +kernel
theorem dX12_octet_4 : decode cX12_octet 4 = .ok (.ldc2_w 560, 3) := by decide +kernel
theorem dX12_octet_7 : decode cX12_octet 7 = .ok (.invokestatic 504, 3) := by decide +kernel
theorem dX12_octet_10 : decode cX12_octet 10 = .ok (.ifCond .eq 19, 3) := by decide +kernel
theorem dX12_octet_13 : decode cX12_octet 13 = .ok (.iload_n 2, 1) := by decide +kernel
theorem dX12_octet_14 : decode cX12_octet 14 = .ok (.i2l, 1) := by decide +kernel
theorem dX12_octet_15 : decode cX12_octet 15 = .ok (.lconst 0, 1) := by decide +kernel
theorem dX12_octet_16 : decode cX12_octet 16 = .ok (.ldc2_w 530, 3) := by decide +kernel
theorem dX12_octet_19 : decode cX12_octet 19 = .ok (.invokestatic 504, 3) := by decide +kernel
theorem dX12_octet_22 : decode cX12_octet 22 = .ok (.ifCond .eq 7, 3) := by decide +kernel
theorem dX12_octet_25 : decode cX12_octet 25 = .ok (.iconst 0, 1) := by decide +kernel
theorem dX12_octet_26 : decode cX12_octet 26 = .ok (.goto 4, 3) := by decide +kernel
theorem dX12_octet_29 : decode cX12_octet 29 = .ok (.iconst 1, 1) := by decide +kernel
theorem dX12_octet_30 : decode cX12_octet 30 = .ok (.putfield 3, 3) := by decide +kernel
theorem dX12_octet_33 : decode cX12_octet 33 = .ok (.aload_n 0, 1) := by decide +kernel
theorem dX12_octet_34 : decode cX12_octet 34 = .ok (.getfield 3, 3) := by decide +kernel
theorem dX12_octet_37 : decode cX12_octet 37 = .ok (.ifCond .le 7, 3) := by decide +kernel
theorem dX12_octet_40 : decode cX12_octet 40 = .ok (.iconst 0, 1) := by decide +kernel
theorem dX12_octet_41 : decode cX12_octet 41 = .ok (.goto 9, 3) := by decide +kernel
theorem dX12_octet_44 : decode cX12_octet 44 = .ok (.aload_n 0, 1) := by decide +kernel
theorem dX12_octet_45 : decode cX12_octet 45 = .ok (.iload_n 1, 1) := by decide +kernel
theorem dX12_octet_46 : decode cX12_octet 46 = .ok (.iload_n 2, 1) := by decide +kernel
theorem dX12_octet_47 : decode cX12_octet 47 = .ok (.invokevirtual 509, 3) := by decide +kernel
theorem dX12_octet_50 : decode cX12_octet 50 = .ok (.ireturn, 1) := by decide +kernel
set_option maxRecDepth 20000 in
theorem ggX12_poke_X12_in : GoodIn wsX12_poke wsX12_in := goodIn_r _ [8] (by decide +kernel) (by decide +kernel)
set_option maxRecDepth 20000 in
theorem gX12_poke_X12_in : GoodIn wsX12_poke (va_wsS RX12 504 yX12_in wsX12_in) := goodIn_app (goodIn_of _ (by decide +kernel)) ggX12_poke_X12_in
set_option maxRecDepth 20000 in
theorem ggX12_poke_X12_at : GoodIn wsX12_poke wsX12_at := goodIn_r _ [12, 4, 13, 14, 15, 16, 17, 18, 19, 20, 21, 22, 23, 24, 25, 26, 27, 28, 29, 30, 31, 32, 33, 34, 35, 36, 37, 38, 39, 40, 41, 42, 43, 44, 45, 46, 47, 48, 49, 50, 51, 52, 53, 54, 55, 56, 57, 58, 59, 60, 61, 62, 63, 64, 65, 66, 67, 68, 69, 70, 71, 72, 73, 74, 75, 76, 77, 78, 79, 80, 81, 82, 83, 84, 85, 86, 87, 88, 89, 90, 91, 92, 93, 94, 95, 96, 97, 98, 99, 100, 101, 102, 103, 104, 105, 106, 107, 108, 109, 110, 111, 112, 113, 114, 115, 116, 117, 118, 119, 120, 121, 122, 123, 124, 125, 126, 127, 128, 129, 130, 131, 132, 133, 134, 135, 136, 137, 138, 139, 140, 141, 142, 143, 144, 145, 146, 147, 148, 149, 150, 151, 152, 153, 154, 155, 156, 157, 158, 159, 160, 161, 162, 163, 164, 165, 166, 167, 168, 169, 170, 171, 172, 173, 174, 175, 176, 177, 178, 179, 180, 181, 182, 183, 184, 185, 186, 187, 188, 189, 190, 191, 192, 193, 194, 195, 196, 197, 198, 199, 200, 201, 202, 203, 204, 205, 206, 207] (by decide +kernel) (by decide +kernel)
set_option maxRecDepth 20000 in
theorem gX12_poke_X12_at : GoodIn wsX12_poke (wsV RX12 509 RX12 yX12_at wsX12_at) := goodIn_app (goodIn_of _ (by decide +kernel)) ggX12_poke_X12_at
theorem dX12_poke_0 : decode cX12_poke 0 = .ok (.aload_n 0, 1) := by decide +kernel
theorem dX12_poke_1 : decode cX12_poke 1 = .ok (.iload_n 1, 1) := by decide +kernel
theorem dX12_poke_2 : decode cX12_poke 2 = .ok (.i2l, 1) := by decide +kernel
theorem dX12_poke_3 : decode cX12_poke 3 = .ok (.lconst 1, 1) := by decide +kernel
theorem dX12_poke_4 : decode cX12_poke 4 = .ok (.ldc2_w 560, 3) := by decide +kernel
theorem dX12_poke_7 : decode cX12_poke 7 = .ok (.invokestatic 504, 3) := by decide +kernel
theorem dX12_poke_10 : decode cX12_poke 10 = .ok (.ifCond .eq 19, 3) := by decide +kernel
theorem dX12_poke_13 : decode cX12_poke 13 = .ok (.iload_n 2, 1) := by decide +kernel
theorem dX12_poke_14 : decode cX12_poke 14 = .ok (.i2l, 1) := by decide +kernel
theorem dX12_poke_15 : decode cX12_poke 15 = .ok (.lconst 0, 1) := by decide +kernel
theorem dX12_poke_16 : decode cX12_poke 16 = .ok (.ldc2_w 530, 3) := by decide +kernel
theorem dX12_poke_19 : decode cX12_poke 19 = .ok (.invokestatic 504, 3) := by decide +kernel
theorem dX12_poke_22 : decode cX12_poke 22 = .ok (.ifCond .eq 7, 3) := by decide +kernel
theorem dX12_poke_25 : decode cX12_poke 25 = .ok (.iconst 0, 1) := by decide +kernel
theorem dX12_poke_26 : decode cX12_poke 26 = .ok (.goto 4, 3) := by decide +kernel
theorem dX12_poke_29 : decode cX12_poke 29 = .ok (.iconst 1, 1) := by decide +kernel
theorem dX12_poke_30 : decode cX12_poke 30 = .ok (.putfield 3, 3) := by decide +kernel
theorem dX12_poke_33 : decode cX12_poke 33 = .ok (.aload_n 0, 1) := by decide +kernel
theorem dX12_poke_34 : decode cX12_poke 34 = .ok (.getfield 3, 3) := by decide +kernel
theorem dX12_poke_37 : decode cX12_poke 37 = .ok (.ifCond .le 5, 3) := by decide +kernel
theorem dX12_poke_40 : decode cX12_poke 40 = .ok (.iconst 0, 1) := by decide +kernel
theorem dX12_poke_41 : decode cX12_poke 41 = .ok (.ireturn, 1) := by decide +kernel
theorem dX12_poke_42 : decode cX12_poke 42 = .ok (.aload_n 0, 1) := by decide +kernel
theorem dX12_poke_43 : decode cX12_poke 43 = .ok (.getfield 19, 3) := by decide +kernel
theorem dX12_poke_46 : decode cX12_poke 46 = .ok (.sipush 256, 3) := by decide +kernel
theorem dX12_poke_49 : decode cX12_poke 49 = .ok (.iload_n 1, 1) := by decide +kernel
theorem dX12_poke_50 : decode cX12_poke 50 = .ok (.imul, 1) := by decide +kernel
theorem dX12_poke_51 : decode cX12_poke 51 = .ok (.iload_n 2, 1) := by decide +kernel
theorem dX12_poke_52 : decode cX12_poke 52 = .ok (.iadd, 1) := by decide +kernel
theorem dX12_poke_53 : decode cX12_poke 53 = .ok (.aload_n 0, 1) := by decide +kernel
theorem dX12_poke_54 : decode cX12_poke 54 = .ok (.getfield 19, 3) := by decide +kernel
theorem dX12_poke_57 : decode cX12_poke 57 = .ok (.sipush 256, 3) := by decide +kernel
theorem dX12_poke_60 : decode cX12_poke 60 = .ok (.iload_n 1, 1) := by decide +kernel
theorem dX12_poke_61 : decode cX12_poke 61 = .ok (.imul, 1) := by decide +kernel
theorem dX12_poke_62 : decode cX12_poke 62 = .ok (.iload_n 2, 1) := by decide +kernel
theorem dX12_poke_63 : decode cX12_poke 63 = .ok (.iadd, 1) := by decide +kernel
theorem dX12_poke_64 : decode cX12_poke 64 = .ok (.baload, 1) := by decide +kernel
theorem dX12_poke_65 : decode cX12_poke 65 = .ok (.iload_n 3, 1) := by decide +kernel
theorem dX12_poke_66 : decode cX12_poke 66 = .ok (.ixor, 1) := by decide +kernel
theorem dX12_poke_67 : decode cX12_poke 67 = .ok (.i2b, 1) := by decide +kernel
theorem dX12_poke_68 : decode cX12_poke 68 = .ok (.bastore, 1) := by decide +kernel
theorem dX12_poke_69 : decode cX12_poke 69 = .ok (.aload_n 0, 1) := by decide +kernel
theorem dX12_poke_70 : decode cX12_poke 70 = .ok (.iload_n 1, 1) := by decide +kernel
theorem dX12_poke_71 : decode cX12_poke 71 = .ok (.iload_n 2, 1) := by decide +kernel
theorem dX12_poke_72 : decode cX12_poke 72 = .ok (.invokevirtual 509, 3) := by decide +kernel
theorem dX12_poke_75 : decode cX12_poke 75 = .ok (.ireturn, 1) := by decide +kernel
set_option maxRecDepth 20000 in
theorem ggL_end_X11_end : GoodIn wsL_end wsX11_end := goodIn_ca (goodIn_r _ [6, 7, 8, 9, 10, 11, 12, 13, 14, 15, 16, 17, 18, 19, 20, 21, 22, 23, 24] (by decide +kernel) (by decide +kernel)) (goodIn_sub (fun _ h => List.mem_cons_of_mem _ (List.mem_append_right _ h)) (by decide +kernel))
set_option maxRecDepth 20000 in
theorem gL_end_X11_end : GoodIn wsL_end (wsV RL 15 RX11 yX11_end wsX11_end) := goodIn_app (goodIn_of _ (by decide +kernel)) ggL_end_X11_end
theorem dL_end_0 : decode cL_end 0 = .ok (.aload_n 0, 1) := by decide +kernel
theorem dL_end_1 : decode cL_end 1 = .ok (.iload_n 1, 1) := by decide +kernel
theorem dL_end_2 : decode cL_end 2 = .ok (.invokevirtual 15, 3) := by decide +kernel
theorem dL_end_5 : decode cL_end 5 = .ok (.goto 6, 3) := by decide +kernel
theorem dL_end_8 : decode cL_end 8 = .ok (.astore_n 2, 1) := by decide +kernel
theorem dL_end_9 : decode cL_end 9 = .ok (.iconst 1, 1) := by decide +kernel
theorem dL_end_10 : decode cL_end 10 = .ok (.ireturn, 1) := by decide +kernel
theorem dL_end_11 : decode cL_end 11 = .ok (.iconst 0, 1) := by decide +kernel
theorem dL_end_12 : decode cL_end 12 = .ok (.ireturn, 1) := by decide +kernel
set_option maxRecDepth 20000 in
theorem ggL_octet_X11_octet : GoodIn wsL_octet wsX11_octet := goodIn_ca (goodIn_r _ [6, 7, 8, 9, 10, 11, 12, 13, 14, 15, 16, 17, 18, 19, 20, 21, 22, 23, 24, 25, 26, 27, 28, 29, 30, 31, 32, 33, 34, 35, 36, 37, 38, 39, 40, 41, 42, 43] (by decide +kernel) (by decide +kernel)) (goodIn_sub (fun _ h => List.mem_cons_of_mem _ (List.mem_append_right _ h)) (by decide +kernel))
set_option maxRecDepth 20000 in
theorem gL_octet_X11_octet : GoodIn wsL_octet (wsV RL 21 RX11 yX11_octet wsX11_octet) := goodIn_app (goodIn_of _ (by decide +kernel)) ggL_octet_X11_octet
theorem dL_octet_0 : decode cL_octet 0 = .ok (.aload_n 3, 1) := by decide +kernel
theorem dL_octet_1 : decode cL_octet 1 = .ok (.iconst 0, 1) := by decide +kernel
theorem dL_octet_2 : decode cL_octet 2 = .ok (.aload_n 0, 1) := by decide +kernel
theorem dL_octet_3 : decode cL_octet 3 = .ok (.iload_n 1, 1) := by decide +kernel
theorem dL_octet_4 : decode cL_octet 4 = .ok (.iload_n 2, 1) := by decide +kernel
theorem dL_octet_5 : decode cL_octet 5 = .ok (.invokevirtual 21, 3) := by decide +kernel
theorem dL_octet_8 : decode cL_octet 8 = .ok (.i2l, 1) := by decide +kernel
theorem dL_octet_9 : decode cL_octet 9 = .ok (.lastore, 1) := by decide +kernel
theorem dL_octet_10 : decode cL_octet 10 = .ok (.goto 7, 3) := by decide +kernel
theorem dL_octet_13 : decode cL_octet 13 = .ok (.astore 4, 2) := by decide +kernel
theorem dL_octet_15 : decode cL_octet 15 = .ok (.iconst 1, 1) := by decide +kernel
theorem dL_octet_16 : decode cL_octet 16 = .ok (.ireturn, 1) := by decide +kernel
theorem dL_octet_17 : decode cL_octet 17 = .ok (.iconst 0, 1) := by decide +kernel
theorem dL_octet_18 : decode cL_octet 18 = .ok (.ireturn, 1) := by decide +kernel
set_option maxRecDepth 20000 in
theorem ggL_poke_X11_poke : GoodIn wsL_poke wsX11_poke := goodIn_ca (goodIn_r _ [6, 7, 8, 9, 10, 11, 12, 13, 14, 15, 16, 17, 18, 19, 20, 21, 22, 23, 24, 25, 26, 27, 28, 29, 30, 31, 32, 33, 34, 35, 36, 37, 38, 39, 40, 41, 42, 43, 44, 45, 46, 47] (by decide +kernel) (by decide +kernel)) (goodIn_sub (fun _ h => List.mem_cons_of_mem _ (List.mem_append_right _ h)) (by decide +kernel))
set_option maxRecDepth 20000 in
theorem gL_poke_X11_poke : GoodIn wsL_poke (wsV RL 27 RX11 yX11_poke wsX11_poke) := goodIn_app (goodIn_of _ (by decide +kernel)) ggL_poke_X11_poke
theorem dL_poke_0 : decode cL_poke 0 = .ok (.aload 4, 2) := by decide +kernel
theorem dL_poke_2 : decode cL_poke 2 = .ok (.iconst 0, 1) := by decide +kernel
theorem dL_poke_3 : decode cL_poke 3 = .ok (.aload_n 0, 1) := by decide +kernel
theorem dL_poke_4 : decode cL_poke 4 = .ok (.iload_n 1, 1) := by decide +kernel
theorem dL_poke_5 : decode cL_poke 5 = .ok (.iload_n 2, 1) := by decide +kernel
theorem dL_poke_6 : decode cL_poke 6 = .ok (.iload_n 3, 1) := by decide +kernel
theorem dL_poke_7 : decode cL_poke 7 = .ok (.invokevirtual 27, 3) := by decide +kernel
theorem dL_poke_10 : decode cL_poke 10 = .ok (.i2l, 1) := by decide +kernel
theorem dL_poke_11 : decode cL_poke 11 = .ok (.lastore, 1) := by decide +kernel
theorem dL_poke_12 : decode cL_poke 12 = .ok (.goto 7, 3) := by decide +kernel
theorem dL_poke_15 : decode cL_poke 15 = .ok (.astore 5, 2) := by decide +kernel
theorem dL_poke_17 : decode cL_poke 17 = .ok (.iconst 1, 1) := by decide +kernel
theorem dL_poke_18 : decode cL_poke 18 = .ok (.ireturn, 1) := by decide +kernel
theorem dL_poke_19 : decode cL_poke 19 = .ok (.iconst 0, 1) := by decide +kernel
theorem dL_poke_20 : decode cL_poke 20 = .ok (.ireturn, 1) := by decide +kernel
set_option maxHeartbeats 400000000 in
set_option maxRecDepth 100000 in
theorem c_X12_thrown_0 (l : Launch) (E : kE) (D : va_G) (cI cJ cB cZ : ClassId) (h0 : Nat) (f0 : List Value) (e0 : f0[0]? = some (.int 0)) : kI l E D (kT cI cJ cB cZ) yX12_thrown wsX12_thrown ({ frames := 0, cells := 0, slots := 0, locals := 0 }) [.ref h0] [(h0, .inr (12, f0))] (0) [(h0, .inr (12, f0))] 0 0 := by
  intro sz
  refine Met.ofW (cc := cX12_thrown) (maxL := 1) (ret := (some .int)) (by decide) rfl ?_
  intro p e s m args below meth c s₁ B hml hv
  obtain ⟨rfl, hsz, hP, hK, hD0, hN, hX⟩ := hv
  have hx := B.exec
  have hb := B.bytes
  have hr := B.returns
  have hts := atoms_spec (ws := wsX12_thrown) B.pre
  have hown : s.vm.findClass RX12 = some m.cls := findClass_of_methodNamed B.named
  have hlocks := B.notSynchronized
  have hin12 : ∀ w ∈ wsX120, w ∈ wsX12_thrown := (fun w h => (List.mem_cons_of_mem _ (List.mem_append_right _ h)))
  subst hsz
  have hD := hD0.self (sz := s.heap.size)
  have hAE := k_AE hD0 hX
  generalize hAe : va_A [(h0, .inr (12, f0))] s.heap.size = A at hD hAE ⊢
  have hA : ∀ q : Nat, s.heap.size ≤ q → A q := fun q h => by rw [← hAe]; exact Or.inr h
  have hS : va_S A s.heap s.heap [] := va_S.rf
  have hP : va_P D vwCl [(h0, .inr (12, f0))] s.heap := hP
  have hl := lv_entry ([.ref h0] : List Value) (n := 1) (Nat.le_of_ble_eq_true rfl)
  rw [lg_entry_eq]
  generalize (lg_sl ([.ref h0]) ++ List.replicate (1 - (lg_sl ([.ref h0])).length) Slot.unset).toArray = ls at hl ⊢
  have hl : lv_has ls 1 [(0, .ref h0)] := hl
  refine lv_aload_n hx hb dX12_thrown_0 rfl (lv_at hl 0 rfl) ?_
  refine va_get (D := D) (ref := "IntegerHouseModel") (ci := 12) (v := .int 0) (C := RX12) (T := TX12) (N := 195) hx hb hts hin12 hown hK hP 0 rfl rfl 0 (by decide) (hts (.fieldLink RX12 3 "IntegerHouseModel" "thrown" "I") (List.mem_cons_of_mem _ (List.mem_append_left _ (List.mem_of_getElem? (i := 0) rfl)))) (fun _ h9 => h9) e0 dX12_thrown_1 ?_
  exact W.iret (v := 0) hx hb hr (fun t ht hW => ⟨⟨0, (), rfl, rfl, kB_mk ht hW hP hK hD⟩, hS.F ht⟩) hS.2.2 dX12_thrown_4
set_option maxHeartbeats 400000000 in
set_option maxRecDepth 100000 in
theorem c_X11_end_0 (l : Launch) (E : kE) (D : va_G) (cI cJ cB cZ : ClassId) (h0 : Nat) (x0 : Int32) (f0 : List Value) (e0 : ¬ ((x0 : Int32) < 0)) (e1 : f0[12]? = some (.int 0)) (e2 : ¬ ((x0 : Int32) < 1)) (hl9 : l.stackTraces = false) : kTV l E D (kT cI cJ cB cZ) yX11_end wsX11_end ({ frames := 6, cells := 1, slots := 6, locals := 82 }) [.ref h0, .int x0] [(h0, .inr (11, f0))] "java/lang/IllegalArgumentException" 1 6 := by
  intro sz
  refine vx_ofW (cc := cX11_end) (maxL := 2) (ret := none) (by decide) rfl ?_
  intro p e s m args below meth c s₁ B hml ht9 hv
  obtain ⟨rfl, hsz, hP, hK, hD0, hN, hX⟩ := hv
  have hx := B.exec
  have hb := B.bytes
  have hr := B.returns
  have hts := atoms_spec (ws := wsX11_end) B.pre
  have hown : s.vm.findClass RX11 = some m.cls := findClass_of_methodNamed B.named
  have hlocks := B.notSynchronized
  have hin11 : ∀ w ∈ wsX110, w ∈ wsX11_end := (fun w h => (List.mem_cons_of_mem _ (List.mem_append_left _ (List.mem_append_right _ h))))
  subst hsz
  have hD := hD0.self (sz := s.heap.size)
  have hAE := k_AE hD0 hX
  generalize hAe : va_A [(h0, .inr (11, f0))] s.heap.size = A at hD hAE ⊢
  have hA : ∀ q : Nat, s.heap.size ≤ q → A q := fun q h => by rw [← hAe]; exact Or.inr h
  have hS : va_S A s.heap s.heap [] := va_S.rf
  have hP : va_P D vwCl [(h0, .inr (11, f0))] s.heap := hP
  have hl := lv_entry ([.ref h0, .int x0] : List Value) (n := 2) (Nat.le_of_ble_eq_true rfl)
  rw [lg_entry_eq]
  generalize (lg_sl ([.ref h0, .int x0]) ++ List.replicate (2 - (lg_sl ([.ref h0, .int x0])).length) Slot.unset).toArray = ls at hl ⊢
  have hl : lv_has ls 2 [(0, .ref h0), (1, .int x0)] := hl
  refine lv_iload_n hx hb dX11_end_0 rfl (lv_at hl 1 rfl) ?_
  refine lv_if_lt (tgt := 12) hx hb dX11_end_1 (by decide) (fun c9 => absurd c9 e0) (fun _ => ?_)
  refine lv_iload_n hx hb dX11_end_4 rfl (lv_at hl 1 rfl) ?_
  refine lv_aload_n hx hb dX11_end_5 rfl (lv_at hl 0 rfl) ?_
  refine va_get (D := D) (ref := "IntegerHouse") (ci := 11) (v := .int 0) (C := RX11) (T := TX11) (N := 15) hx hb hts hin11 hown hK hP 0 rfl rfl 12 (by decide) (hts (.fieldLink RX11 102 "IntegerHouse" "tapeLength" "I") (List.mem_cons_of_mem _ (List.mem_append_left _ (List.mem_append_left _ (List.mem_of_getElem? (i := 2) rfl))))) (fun _ h9 => h9) e1 dX11_end_6 ?_
  refine lv_icmp_le (tgt := 22) hx hb dX11_end_9 (by decide) (fun c9 => absurd c9 (fun z9 => e2 ((k_n1 (x := x0) (c := 0) (d := 1) (by decide)).mp z9))) (fun _ => ?_)
  obtain ⟨a9, a9r, a9o⟩ := kX.st hX hAE ("IntegerHouse", 119, "the tape has no such length") (List.mem_of_getElem? (i := 4) rfl)
  exact vx_throwS (names := ["java/lang/RuntimeException", "java/lang/Exception"]) (A := A) hx hb hl9 hown (by decide +kernel) (by decide +kernel) (hts (.classLink RX11 117 "java/lang/IllegalArgumentException") (List.mem_cons_of_mem _ (List.mem_append_left _ (List.mem_append_left _ (List.mem_of_getElem? (i := 0) rfl))))) (hts (.initialized "java/lang/IllegalArgumentException") (List.mem_cons_of_mem _ (List.mem_append_left _ (List.mem_append_left _ (List.mem_of_getElem? (i := 1) rfl))))) a9r (vx_hat (L := vx_atS RX11 121 "java/lang/IllegalArgumentException" ["java/lang/RuntimeException", "java/lang/Exception"]) (B := [.castable "java/lang/IllegalArgumentException" "java/lang/IllegalArgumentException", .declares (Bundle.initS "java/lang/RuntimeException"), .declares (Bundle.initS "java/lang/Exception"), .declares (Bundle.initS "java/lang/Throwable")]) (fun w h => hts w (List.mem_cons_of_mem _ (List.mem_append_right _ h))) (by decide +kernel) (vx_c (va_Nw.use rfl (kX.cast hX "java/lang/IllegalArgumentException" (by decide))) (vx_c (va_Nw.use rfl (kX.decl hX "java/lang/RuntimeException" (by decide))) (vx_c (va_Nw.use rfl (kX.decl hX "java/lang/Exception" (by decide))) (vx_c (va_Nw.use rfl (kX.decl hX "java/lang/Throwable" (by decide))) vx_n))))) (by decide +kernel) (kX.us hX hAE) (kX.ss hX hAE) hS (by rw [hml]; exact hl.1) dX11_end_12 dX11_end_15 dX11_end_16 dX11_end_18 dX11_end_21 (fun x hx => (ht9 x hx).elim) (Nat.le_of_ble_eq_true rfl) (Nat.le_of_ble_eq_true rfl) (Nat.le_of_ble_eq_true rfl) (Nat.le_of_ble_eq_true rfl) hlocks (fun t h1 h2 h3 => k_tx hP hK hD hS t h1 h2 h3) hS.2.2 (Nat.le_of_ble_eq_true rfl) (Nat.le_of_ble_eq_true rfl)
set_option maxHeartbeats 400000000 in
set_option maxRecDepth 100000 in
theorem c_L_end_0 (l : Launch) (E : kE) (D : va_G) (cI cJ cB cZ : ClassId) (h0 : Nat) (x0 : Int32) (f0 : List Value) (e0 : f0[12]? = some (.int 0)) (e1 : ¬ ((x0 : Int32) < 0)) (e2 : ¬ ((x0 : Int32) < 1)) (hl9 : l.stackTraces = false) : kI l E D (kT cI cJ cB cZ) yL_end wsL_end ({ frames := 7, cells := 1, slots := 6, locals := 103 }) [.ref h0, .int x0] [(h0, .inr (11, f0))] (1) [(h0, .inr (11, f0))] 1 6 := by
  intro sz
  refine k_metH (cc := cL_end) (maxL := 3) (ret := (some .int)) (hh := [(0, 5, 8, 19)]) (by decide) rfl ?_
  intro p e s m args below meth c s₁ B hml hv
  obtain ⟨rfl, hsz, hP, hK, hD0, hN, hX⟩ := hv
  have hx := B.exec
  have hb := B.bytes
  have hr := B.returns
  have hts := atoms_spec (ws := wsL_end) B.pre
  have hown : s.vm.findClass RL = some m.cls := findClass_of_methodNamed B.named
  have hlocks := B.notSynchronized
  subst hsz
  have hD := hD0.self (sz := s.heap.size)
  have hAE := k_AE hD0 hX
  generalize hAe : va_A [(h0, .inr (11, f0))] s.heap.size = A at hD hAE ⊢
  have hA : ∀ q : Nat, s.heap.size ≤ q → A q := fun q h => by rw [← hAe]; exact Or.inr h
  have hS : va_S A s.heap s.heap [] := va_S.rf
  have hP : va_P D vwCl [(h0, .inr (11, f0))] s.heap := hP
  have hl := lv_entry ([.ref h0, .int x0] : List Value) (n := 3) (Nat.le_of_ble_eq_true rfl)
  rw [lg_entry_eq]
  generalize (lg_sl ([.ref h0, .int x0]) ++ List.replicate (3 - (lg_sl ([.ref h0, .int x0])).length) Slot.unset).toArray = ls at hl ⊢
  have hl : lv_has ls 3 [(0, .ref h0), (1, .int x0)] := hl
  refine lv_aload_n hx hb dL_end_0 rfl (lv_at hl 0 rfl) ?_
  refine lv_iload_n hx hb dL_end_1 rfl (lv_at hl 1 rfl) ?_
  refine k_cTv (As := [.int x0]) (rest := []) (wc := [(h0, .inr (11, f0))]) (wr := []) ⟨hx, hb, hml, hown, hts⟩ hN hX hAE hK hP hD hS hA [0] [] (ci := 11) rfl rfl rfl rfl (by decide +kernel) (by decide +kernel) (by decide +kernel) (c_X11_end_0 l E D cI cJ cB cZ h0 x0 f0 e1 e0 e2 hl9) (cwV 1 hts gL_end_X11_end rfl rfl rfl (by decide +kernel) ⟨Nat.le_of_ble_eq_true rfl, Nat.le_of_ble_eq_true rfl⟩) rfl hl.1 (Nat.le_of_ble_eq_true rfl) dL_end_2 ⟨Nat.le_of_ble_eq_true rfl, Nat.le_of_ble_eq_true rfl⟩ (fun q9 ce H locs hP hD hS hce hcv hcl => ?_)
  have hP : va_P D vwCl [(h0, .inr (11, f0))] H := hP
  have hD : va_D A [(h0, .inr (11, f0))] := hD
  refine vx_catch (own := RL) (name := "java/lang/IllegalArgumentException") hown [] ⟨0, 5, 8, 19⟩ [] (vx_table B (hts _ List.mem_cons_self)) (fun z hz => absurd hz List.not_mem_nil) (by decide) (by decide) (hts (.classLink RL 19 "java/lang/IllegalArgumentException") (List.mem_cons_of_mem _ (List.mem_append_left _ (List.mem_append_left _ (List.mem_of_getElem? (i := 0) rfl))))) (va_Nw.use rfl (kX.cast hX "java/lang/IllegalArgumentException" (by decide))) hce hcv hcl ?_
  refine W.eq (g2 := F0 m 8 ls [.ref q9]) rfl ?_
  refine W.widen (k := 1) (n := 6) (Nat.le_of_ble_eq_true rfl) (Nat.le_of_ble_eq_true rfl) ?_
  refine lv_astore_n (lv' := [(2, .ref q9), (0, .ref h0), (1, .int x0)]) hx hb dL_end_8 rfl hl (by decide) rfl (fun ls hl => ?_)
  refine lv_iconst (v := 1) hx hb dL_end_9 (by decide) ?_
  exact W.iret (v := 1) hx hb hr (fun t ht hW => ⟨⟨1, (), rfl, rfl, kB_mk ht hW hP hK hD⟩, hS.F ht⟩) hS.2.2 dL_end_10
set_option maxHeartbeats 400000000 in
set_option maxRecDepth 100000 in
theorem c_X12_in_0 (l : Launch) (E : kE) (D : va_G) (cI cJ cB cZ : ClassId) (y0 : Int64) (e0 : ¬ (((lg_cmp y0 0) : Int32) < 0)) (e1 : (0 : Int32) < (lg_cmp y0 0)) : kI l E D (kT cI cJ cB cZ) yX12_in wsX12_in ({ frames := 0, cells := 0, slots := 0, locals := 0 }) [.long y0, .long 0, .long 0] [] (0) [] 0 0 := by
  intro sz
  refine Met.ofW (cc := cX12_in) (maxL := 6) (ret := (some .boolean)) (by decide) rfl ?_
  intro p e s m args below meth c s₁ B hml hv
  obtain ⟨rfl, hsz, hP, hK, hD0, hN, hX⟩ := hv
  have hx := B.exec
  have hb := B.bytes
  have hr := B.returns
  have hts := atoms_spec (ws := wsX12_in) B.pre
  have hown : s.vm.findClass RX12 = some m.cls := findClass_of_methodNamed B.named
  have hlocks := B.notSynchronized
  subst hsz
  have hD := hD0.self (sz := s.heap.size)
  have hAE := k_AE hD0 hX
  generalize hAe : va_A [] s.heap.size = A at hD hAE ⊢
  have hA : ∀ q : Nat, s.heap.size ≤ q → A q := fun q h => by rw [← hAe]; exact Or.inr h
  have hS : va_S A s.heap s.heap [] := va_S.rf
  have hP : va_P D vwCl [] s.heap := hP
  have hl := lv_entry ([.long y0, .long 0, .long 0] : List Value) (n := 6) (Nat.le_of_ble_eq_true rfl)
  rw [lg_entry_eq]
  generalize (lg_sl ([.long y0, .long 0, .long 0]) ++ List.replicate (6 - (lg_sl ([.long y0, .long 0, .long 0])).length) Slot.unset).toArray = ls at hl ⊢
  have hl : lv_has ls 6 [(0, .long y0), (2, .long 0), (4, .long 0)] := hl
  refine lv_lload_n hx hb dX12_in_0 rfl (lv_at hl 0 rfl) ?_
  refine lv_lload_n hx hb dX12_in_1 rfl (lv_at hl 1 rfl) ?_
  refine W.lcmp hx hb dX12_in_2 ?_
  refine lv_if_lt (tgt := 17) hx hb dX12_in_3 (by decide) (fun c9 => absurd c9 e0) (fun _ => ?_)
  refine lv_lload_n hx hb dX12_in_6 rfl (lv_at hl 0 rfl) ?_
  refine lv_lload hx hb dX12_in_7 (lv_at hl 2 rfl) ?_
  refine W.lcmp hx hb dX12_in_9 ?_
  refine lv_if_gt (tgt := 17) hx hb dX12_in_10 (by decide) (fun _ => ?_) (fun c9 => absurd e1 c9)
  refine lv_iconst (v := 0) hx hb dX12_in_17 (by decide) ?_
  exact W.zret (v := 0) hx hb hr rfl (fun t ht hW => ⟨⟨0, (), rfl, rfl, kB_mk ht hW hP hK hD⟩, hS.F ht⟩) hS.2.2 dX12_in_18
set_option maxHeartbeats 400000000 in
set_option maxRecDepth 100000 in
theorem c_X12_end_0 (l : Launch) (E : kE) (D : va_G) (cI cJ cB cZ : ClassId) (h0 : Nat) (x0 : Int32) (f0 : List Value) (e0 : f0[2]? = some (.int 0)) (e1 : ¬ ((x0 : Int32) < 0)) (e2 : ¬ ((x0 : Int32) < 1)) (e3 : f0[0]? = some (.int 0)) : kV l E D (kT cI cJ cB cZ) yX12_end wsX12_end ({ frames := 1, cells := 0, slots := 0, locals := 25 }) [.ref h0, .int x0] [(h0, .inr (12, f0))] (fun _ : Unit => [(h0, .inr (12, ((f0.set 0 (.int 1)).set 2 (.int 0))))]) 0 0 := by
  intro sz
  refine Met.ofW (cc := cX12_end) (maxL := 2) (ret := none) (by decide) rfl ?_
  intro p e s m args below meth c s₁ B hml hv
  obtain ⟨rfl, hsz, hP, hK, hD0, hN, hX⟩ := hv
  have hx := B.exec
  have hb := B.bytes
  have hr := B.returns
  have hts := atoms_spec (ws := wsX12_end) B.pre
  have hown : s.vm.findClass RX12 = some m.cls := findClass_of_methodNamed B.named
  have hlocks := B.notSynchronized
  have hin12 : ∀ w ∈ wsX120, w ∈ wsX12_end := (fun w h => (List.mem_cons_of_mem _ (List.mem_append_right _ h)))
  subst hsz
  have hD := hD0.self (sz := s.heap.size)
  have hAE := k_AE hD0 hX
  generalize hAe : va_A [(h0, .inr (12, f0))] s.heap.size = A at hD hAE ⊢
  have hA : ∀ q : Nat, s.heap.size ≤ q → A q := fun q h => by rw [← hAe]; exact Or.inr h
  have hS : va_S A s.heap s.heap [] := va_S.rf
  have hP : va_P D vwCl [(h0, .inr (12, f0))] s.heap := hP
  have hl := lv_entry ([.ref h0, .int x0] : List Value) (n := 2) (Nat.le_of_ble_eq_true rfl)
  rw [lg_entry_eq]
  generalize (lg_sl ([.ref h0, .int x0]) ++ List.replicate (2 - (lg_sl ([.ref h0, .int x0])).length) Slot.unset).toArray = ls at hl ⊢
  have hl : lv_has ls 2 [(0, .ref h0), (1, .int x0)] := hl
  refine lv_aload_n hx hb dX12_end_0 rfl (lv_at hl 0 rfl) ?_
  refine lv_iload_n hx hb dX12_end_1 rfl (lv_at hl 1 rfl) ?_
  refine lv_i2l (v := (Int32.toInt64 x0)) hx hb dX12_end_2 rfl ?_
  refine lv_lconst (v := 0) hx hb dX12_end_3 (by decide) ?_
  refine lv_aload_n hx hb dX12_end_4 rfl (lv_at hl 0 rfl) ?_
  refine va_get (D := D) (ref := "IntegerHouseModel") (ci := 12) (v := .int 0) (C := RX12) (T := TX12) (N := 195) hx hb hts hin12 hown hK hP 0 rfl rfl 2 (by decide) (hts (.fieldLink RX12 485 "IntegerHouseModel" "taped" "I") (List.mem_cons_of_mem _ (List.mem_append_left _ (List.mem_of_getElem? (i := 0) rfl)))) (fun _ h9 => h9) e0 dX12_end_5 ?_
  refine lv_i2l (v := 0) hx hb dX12_end_8 (by decide) ?_
  refine k_cSi (As := [.long (Int32.toInt64 x0), .long 0, .long 0]) (rest := [.ref h0]) (wc := []) (wr := [(h0, .inr (12, f0))]) (w1 := []) ⟨hx, hb, hml, hown, hts⟩ hN hX hAE hK hP hD hS hA [] [0] rfl rfl (by decide +kernel) (by decide +kernel) (by decide +kernel) (c_X12_in_0 l E D cI cJ cB cZ (Int32.toInt64 x0) (fun z9 => e1 ((k_n4 (x := x0) (c := 0) (C := 0) (by decide)).mp z9)) ((k_n5 (x := x0) (c := 0) (d := 1) (C := 0) (by decide) (by decide)).mpr e2)) (va_cwS 3 hts gX12_end_X12_in rfl rfl rfl (by decide +kernel) ⟨Nat.le_of_ble_eq_true rfl, Nat.le_of_ble_eq_true rfl⟩) rfl hl.1 (Nat.le_of_ble_eq_true rfl) dX12_end_9 ⟨Nat.le_of_ble_eq_true rfl, Nat.le_of_ble_eq_true rfl⟩ (fun H locs hP hD hS => ?_)
  have hP : va_P D vwCl [(h0, .inr (12, f0))] H := hP
  have hD : va_D A [(h0, .inr (12, f0))] := hD
  refine lv_if_eq (tgt := 19) hx hb dX12_end_12 (by decide) (fun _ => ?_) (fun c9 => absurd (by decide) c9)
  refine lv_iconst (v := 1) hx hb dX12_end_19 (by decide) ?_
  refine va_put (D := D) (ref := "IntegerHouseModel") (ci := 12) (v := .int 1) (ty := .int) (C := RX12) (T := TX12) (N := 195) hx hb hts hin12 tyX12 tyX12_ok nmX12 hown hK hP hD hS 0 rfl rfl 0 (by decide) (hts (.fieldLink RX12 3 "IntegerHouseModel" "thrown" "I") (List.mem_cons_of_mem _ (List.mem_append_left _ (List.mem_of_getElem? (i := 1) rfl)))) (fun _ h9 => h9) rfl (by decide +kernel) rfl rfl (k_len e3) dX12_end_20 (fun H locs hP hD hS => ?_)
  have hP : va_P D vwCl [(h0, .inr (12, (f0.set 0 (.int 1))))] H := hP
  have hD : va_D A [(h0, .inr (12, (f0.set 0 (.int 1))))] := hD
  refine lv_aload_n hx hb dX12_end_23 rfl (lv_at hl 0 rfl) ?_
  refine lv_aload_n hx hb dX12_end_24 rfl (lv_at hl 0 rfl) ?_
  refine va_get (D := D) (ref := "IntegerHouseModel") (ci := 12) (v := .int 1) (C := RX12) (T := TX12) (N := 195) hx hb hts hin12 hown hK hP 0 rfl rfl 0 (by decide) (hts (.fieldLink RX12 3 "IntegerHouseModel" "thrown" "I") (List.mem_cons_of_mem _ (List.mem_append_left _ (List.mem_of_getElem? (i := 1) rfl)))) (fun _ h9 => h9) (k_set e3) dX12_end_25 ?_
  refine lv_if_le (tgt := 38) hx hb dX12_end_28 (by decide) (fun c9 => absurd c9 (by decide)) (fun _ => ?_)
  refine lv_aload_n hx hb dX12_end_31 rfl (lv_at hl 0 rfl) ?_
  refine va_get (D := D) (ref := "IntegerHouseModel") (ci := 12) (v := .int 0) (C := RX12) (T := TX12) (N := 195) hx hb hts hin12 hown hK hP 0 rfl rfl 2 (by decide) (hts (.fieldLink RX12 485 "IntegerHouseModel" "taped" "I") (List.mem_cons_of_mem _ (List.mem_append_left _ (List.mem_of_getElem? (i := 0) rfl)))) (fun _ h9 => h9) (k_ne (by decide) e0) dX12_end_32 ?_
  refine lv_goto (tgt := 39) hx hb dX12_end_35 (by decide) ?_
  refine va_put (D := D) (ref := "IntegerHouseModel") (ci := 12) (v := .int 0) (ty := .int) (C := RX12) (T := TX12) (N := 195) hx hb hts hin12 tyX12 tyX12_ok nmX12 hown hK hP hD hS 0 rfl rfl 2 (by decide) (hts (.fieldLink RX12 485 "IntegerHouseModel" "taped" "I") (List.mem_cons_of_mem _ (List.mem_append_left _ (List.mem_of_getElem? (i := 0) rfl)))) (fun _ h9 => h9) rfl (by decide +kernel) rfl rfl (k_len (k_ne (by decide) e0)) dX12_end_39 (fun H locs hP hD hS => ?_)
  have hP : va_P D vwCl [(h0, .inr (12, ((f0.set 0 (.int 1)).set 2 (.int 0))))] H := hP
  have hD : va_D A [(h0, .inr (12, ((f0.set 0 (.int 1)).set 2 (.int 0))))] := hD
  exact W.vret hx hb hr (fun t ht hW => ⟨⟨(), rfl, trivial, kB_mk ht hW hP hK hD⟩, hS.F ht⟩) hS.2.2 dX12_end_42
set_option maxHeartbeats 400000000 in
set_option maxRecDepth 100000 in
theorem c_X12_thrown_1 (l : Launch) (E : kE) (D : va_G) (cI cJ cB cZ : ClassId) (h0 : Nat) (f0 : List Value) (e0 : f0[0]? = some (.int 1)) : kI l E D (kT cI cJ cB cZ) yX12_thrown wsX12_thrown ({ frames := 0, cells := 0, slots := 0, locals := 0 }) [.ref h0] [(h0, .inr (12, f0))] (1) [(h0, .inr (12, f0))] 0 0 := by
  intro sz
  refine Met.ofW (cc := cX12_thrown) (maxL := 1) (ret := (some .int)) (by decide) rfl ?_
  intro p e s m args below meth c s₁ B hml hv
  obtain ⟨rfl, hsz, hP, hK, hD0, hN, hX⟩ := hv
  have hx := B.exec
  have hb := B.bytes
  have hr := B.returns
  have hts := atoms_spec (ws := wsX12_thrown) B.pre
  have hown : s.vm.findClass RX12 = some m.cls := findClass_of_methodNamed B.named
  have hlocks := B.notSynchronized
  have hin12 : ∀ w ∈ wsX120, w ∈ wsX12_thrown := (fun w h => (List.mem_cons_of_mem _ (List.mem_append_right _ h)))
  subst hsz
  have hD := hD0.self (sz := s.heap.size)
  have hAE := k_AE hD0 hX
  generalize hAe : va_A [(h0, .inr (12, f0))] s.heap.size = A at hD hAE ⊢
  have hA : ∀ q : Nat, s.heap.size ≤ q → A q := fun q h => by rw [← hAe]; exact Or.inr h
  have hS : va_S A s.heap s.heap [] := va_S.rf
  have hP : va_P D vwCl [(h0, .inr (12, f0))] s.heap := hP
  have hl := lv_entry ([.ref h0] : List Value) (n := 1) (Nat.le_of_ble_eq_true rfl)
  rw [lg_entry_eq]
  generalize (lg_sl ([.ref h0]) ++ List.replicate (1 - (lg_sl ([.ref h0])).length) Slot.unset).toArray = ls at hl ⊢
  have hl : lv_has ls 1 [(0, .ref h0)] := hl
  refine lv_aload_n hx hb dX12_thrown_0 rfl (lv_at hl 0 rfl) ?_
  refine va_get (D := D) (ref := "IntegerHouseModel") (ci := 12) (v := .int 1) (C := RX12) (T := TX12) (N := 195) hx hb hts hin12 hown hK hP 0 rfl rfl 0 (by decide) (hts (.fieldLink RX12 3 "IntegerHouseModel" "thrown" "I") (List.mem_cons_of_mem _ (List.mem_append_left _ (List.mem_of_getElem? (i := 0) rfl)))) (fun _ h9 => h9) e0 dX12_thrown_1 ?_
  exact W.iret (v := 1) hx hb hr (fun t ht hW => ⟨⟨1, (), rfl, rfl, kB_mk ht hW hP hK hD⟩, hS.F ht⟩) hS.2.2 dX12_thrown_4
set_option maxHeartbeats 400000000 in
set_option maxRecDepth 100000 in
theorem c_X11_end_1 (l : Launch) (E : kE) (D : va_G) (cI cJ cB cZ : ClassId) (h0 : Nat) (x0 : Int32) (e0 : (x0 : Int32) < 0) (hl9 : l.stackTraces = false) : kTV l E D (kT cI cJ cB cZ) yX11_end wsX11_end ({ frames := 6, cells := 1, slots := 6, locals := 82 }) [.ref h0, .int x0] [] "java/lang/IllegalArgumentException" 1 6 := by
  intro sz
  refine vx_ofW (cc := cX11_end) (maxL := 2) (ret := none) (by decide) rfl ?_
  intro p e s m args below meth c s₁ B hml ht9 hv
  obtain ⟨rfl, hsz, hP, hK, hD0, hN, hX⟩ := hv
  have hx := B.exec
  have hb := B.bytes
  have hr := B.returns
  have hts := atoms_spec (ws := wsX11_end) B.pre
  have hown : s.vm.findClass RX11 = some m.cls := findClass_of_methodNamed B.named
  have hlocks := B.notSynchronized
  subst hsz
  have hD := hD0.self (sz := s.heap.size)
  have hAE := k_AE hD0 hX
  generalize hAe : va_A [] s.heap.size = A at hD hAE ⊢
  have hA : ∀ q : Nat, s.heap.size ≤ q → A q := fun q h => by rw [← hAe]; exact Or.inr h
  have hS : va_S A s.heap s.heap [] := va_S.rf
  have hP : va_P D vwCl [] s.heap := hP
  have hl := lv_entry ([.ref h0, .int x0] : List Value) (n := 2) (Nat.le_of_ble_eq_true rfl)
  rw [lg_entry_eq]
  generalize (lg_sl ([.ref h0, .int x0]) ++ List.replicate (2 - (lg_sl ([.ref h0, .int x0])).length) Slot.unset).toArray = ls at hl ⊢
  have hl : lv_has ls 2 [(0, .ref h0), (1, .int x0)] := hl
  refine lv_iload_n hx hb dX11_end_0 rfl (lv_at hl 1 rfl) ?_
  refine lv_if_lt (tgt := 12) hx hb dX11_end_1 (by decide) (fun _ => ?_) (fun c9 => absurd e0 c9)
  obtain ⟨a9, a9r, a9o⟩ := kX.st hX hAE ("IntegerHouse", 119, "the tape has no such length") (List.mem_of_getElem? (i := 4) rfl)
  exact vx_throwS (names := ["java/lang/RuntimeException", "java/lang/Exception"]) (A := A) hx hb hl9 hown (by decide +kernel) (by decide +kernel) (hts (.classLink RX11 117 "java/lang/IllegalArgumentException") (List.mem_cons_of_mem _ (List.mem_append_left _ (List.mem_append_left _ (List.mem_of_getElem? (i := 0) rfl))))) (hts (.initialized "java/lang/IllegalArgumentException") (List.mem_cons_of_mem _ (List.mem_append_left _ (List.mem_append_left _ (List.mem_of_getElem? (i := 1) rfl))))) a9r (vx_hat (L := vx_atS RX11 121 "java/lang/IllegalArgumentException" ["java/lang/RuntimeException", "java/lang/Exception"]) (B := [.castable "java/lang/IllegalArgumentException" "java/lang/IllegalArgumentException", .declares (Bundle.initS "java/lang/RuntimeException"), .declares (Bundle.initS "java/lang/Exception"), .declares (Bundle.initS "java/lang/Throwable")]) (fun w h => hts w (List.mem_cons_of_mem _ (List.mem_append_right _ h))) (by decide +kernel) (vx_c (va_Nw.use rfl (kX.cast hX "java/lang/IllegalArgumentException" (by decide))) (vx_c (va_Nw.use rfl (kX.decl hX "java/lang/RuntimeException" (by decide))) (vx_c (va_Nw.use rfl (kX.decl hX "java/lang/Exception" (by decide))) (vx_c (va_Nw.use rfl (kX.decl hX "java/lang/Throwable" (by decide))) vx_n))))) (by decide +kernel) (kX.us hX hAE) (kX.ss hX hAE) hS (by rw [hml]; exact hl.1) dX11_end_12 dX11_end_15 dX11_end_16 dX11_end_18 dX11_end_21 (fun x hx => (ht9 x hx).elim) (Nat.le_of_ble_eq_true rfl) (Nat.le_of_ble_eq_true rfl) (Nat.le_of_ble_eq_true rfl) (Nat.le_of_ble_eq_true rfl) hlocks (fun t h1 h2 h3 => k_tx hP hK hD hS t h1 h2 h3) hS.2.2 (Nat.le_of_ble_eq_true rfl) (Nat.le_of_ble_eq_true rfl)
set_option maxHeartbeats 400000000 in
set_option maxRecDepth 100000 in
theorem c_L_end_1 (l : Launch) (E : kE) (D : va_G) (cI cJ cB cZ : ClassId) (h0 : Nat) (x0 : Int32) (e0 : (x0 : Int32) < 0) (hl9 : l.stackTraces = false) : kI l E D (kT cI cJ cB cZ) yL_end wsL_end ({ frames := 7, cells := 1, slots := 6, locals := 103 }) [.ref h0, .int x0] [] (1) [] 1 6 := by
  intro sz
  refine k_metH (cc := cL_end) (maxL := 3) (ret := (some .int)) (hh := [(0, 5, 8, 19)]) (by decide) rfl ?_
  intro p e s m args below meth c s₁ B hml hv
  obtain ⟨rfl, hsz, hP, hK, hD0, hN, hX⟩ := hv
  have hx := B.exec
  have hb := B.bytes
  have hr := B.returns
  have hts := atoms_spec (ws := wsL_end) B.pre
  have hown : s.vm.findClass RL = some m.cls := findClass_of_methodNamed B.named
  have hlocks := B.notSynchronized
  subst hsz
  have hD := hD0.self (sz := s.heap.size)
  have hAE := k_AE hD0 hX
  generalize hAe : va_A [] s.heap.size = A at hD hAE ⊢
  have hA : ∀ q : Nat, s.heap.size ≤ q → A q := fun q h => by rw [← hAe]; exact Or.inr h
  have hS : va_S A s.heap s.heap [] := va_S.rf
  have hP : va_P D vwCl [] s.heap := hP
  have hl := lv_entry ([.ref h0, .int x0] : List Value) (n := 3) (Nat.le_of_ble_eq_true rfl)
  rw [lg_entry_eq]
  generalize (lg_sl ([.ref h0, .int x0]) ++ List.replicate (3 - (lg_sl ([.ref h0, .int x0])).length) Slot.unset).toArray = ls at hl ⊢
  have hl : lv_has ls 3 [(0, .ref h0), (1, .int x0)] := hl
  refine lv_aload_n hx hb dL_end_0 rfl (lv_at hl 0 rfl) ?_
  refine lv_iload_n hx hb dL_end_1 rfl (lv_at hl 1 rfl) ?_
  refine k_cTv (As := [.int x0]) (rest := []) (wc := []) (wr := []) ⟨hx, hb, hml, hown, hts⟩ hN hX hAE hK hP hD hS hA [] [] (ci := 11) rfl rfl rfl rfl (by decide +kernel) (by decide +kernel) (by decide +kernel) (c_X11_end_1 l E D cI cJ cB cZ h0 x0 e0 hl9) (cwV 1 hts gL_end_X11_end rfl rfl rfl (by decide +kernel) ⟨Nat.le_of_ble_eq_true rfl, Nat.le_of_ble_eq_true rfl⟩) rfl hl.1 (Nat.le_of_ble_eq_true rfl) dL_end_2 ⟨Nat.le_of_ble_eq_true rfl, Nat.le_of_ble_eq_true rfl⟩ (fun q9 ce H locs hP hD hS hce hcv hcl => ?_)
  have hP : va_P D vwCl [] H := hP
  have hD : va_D A [] := hD
  refine vx_catch (own := RL) (name := "java/lang/IllegalArgumentException") hown [] ⟨0, 5, 8, 19⟩ [] (vx_table B (hts _ List.mem_cons_self)) (fun z hz => absurd hz List.not_mem_nil) (by decide) (by decide) (hts (.classLink RL 19 "java/lang/IllegalArgumentException") (List.mem_cons_of_mem _ (List.mem_append_left _ (List.mem_append_left _ (List.mem_of_getElem? (i := 0) rfl))))) (va_Nw.use rfl (kX.cast hX "java/lang/IllegalArgumentException" (by decide))) hce hcv hcl ?_
  refine W.eq (g2 := F0 m 8 ls [.ref q9]) rfl ?_
  refine W.widen (k := 1) (n := 6) (Nat.le_of_ble_eq_true rfl) (Nat.le_of_ble_eq_true rfl) ?_
  refine lv_astore_n (lv' := [(2, .ref q9), (0, .ref h0), (1, .int x0)]) hx hb dL_end_8 rfl hl (by decide) rfl (fun ls hl => ?_)
  refine lv_iconst (v := 1) hx hb dL_end_9 (by decide) ?_
  exact W.iret (v := 1) hx hb hr (fun t ht hW => ⟨⟨1, (), rfl, rfl, kB_mk ht hW hP hK hD⟩, hS.F ht⟩) hS.2.2 dL_end_10
set_option maxHeartbeats 400000000 in
set_option maxRecDepth 100000 in
theorem c_X12_in_1 (l : Launch) (E : kE) (D : va_G) (cI cJ cB cZ : ClassId) (y0 : Int64) (e0 : ((lg_cmp y0 0) : Int32) < 0) : kI l E D (kT cI cJ cB cZ) yX12_in wsX12_in ({ frames := 0, cells := 0, slots := 0, locals := 0 }) [.long y0, .long 0, .long 0] [] (0) [] 0 0 := by
  intro sz
  refine Met.ofW (cc := cX12_in) (maxL := 6) (ret := (some .boolean)) (by decide) rfl ?_
  intro p e s m args below meth c s₁ B hml hv
  obtain ⟨rfl, hsz, hP, hK, hD0, hN, hX⟩ := hv
  have hx := B.exec
  have hb := B.bytes
  have hr := B.returns
  have hts := atoms_spec (ws := wsX12_in) B.pre
  have hown : s.vm.findClass RX12 = some m.cls := findClass_of_methodNamed B.named
  have hlocks := B.notSynchronized
  subst hsz
  have hD := hD0.self (sz := s.heap.size)
  have hAE := k_AE hD0 hX
  generalize hAe : va_A [] s.heap.size = A at hD hAE ⊢
  have hA : ∀ q : Nat, s.heap.size ≤ q → A q := fun q h => by rw [← hAe]; exact Or.inr h
  have hS : va_S A s.heap s.heap [] := va_S.rf
  have hP : va_P D vwCl [] s.heap := hP
  have hl := lv_entry ([.long y0, .long 0, .long 0] : List Value) (n := 6) (Nat.le_of_ble_eq_true rfl)
  rw [lg_entry_eq]
  generalize (lg_sl ([.long y0, .long 0, .long 0]) ++ List.replicate (6 - (lg_sl ([.long y0, .long 0, .long 0])).length) Slot.unset).toArray = ls at hl ⊢
  have hl : lv_has ls 6 [(0, .long y0), (2, .long 0), (4, .long 0)] := hl
  refine lv_lload_n hx hb dX12_in_0 rfl (lv_at hl 0 rfl) ?_
  refine lv_lload_n hx hb dX12_in_1 rfl (lv_at hl 1 rfl) ?_
  refine W.lcmp hx hb dX12_in_2 ?_
  refine lv_if_lt (tgt := 17) hx hb dX12_in_3 (by decide) (fun _ => ?_) (fun c9 => absurd e0 c9)
  refine lv_iconst (v := 0) hx hb dX12_in_17 (by decide) ?_
  exact W.zret (v := 0) hx hb hr rfl (fun t ht hW => ⟨⟨0, (), rfl, rfl, kB_mk ht hW hP hK hD⟩, hS.F ht⟩) hS.2.2 dX12_in_18
set_option maxHeartbeats 400000000 in
set_option maxRecDepth 100000 in
theorem c_X12_end_1 (l : Launch) (E : kE) (D : va_G) (cI cJ cB cZ : ClassId) (h0 : Nat) (x0 : Int32) (f0 : List Value) (e0 : f0[2]? = some (.int 0)) (e1 : (x0 : Int32) < 0) (e2 : f0[0]? = some (.int 0)) : kV l E D (kT cI cJ cB cZ) yX12_end wsX12_end ({ frames := 1, cells := 0, slots := 0, locals := 25 }) [.ref h0, .int x0] [(h0, .inr (12, f0))] (fun _ : Unit => [(h0, .inr (12, ((f0.set 0 (.int 1)).set 2 (.int 0))))]) 0 0 := by
  intro sz
  refine Met.ofW (cc := cX12_end) (maxL := 2) (ret := none) (by decide) rfl ?_
  intro p e s m args below meth c s₁ B hml hv
  obtain ⟨rfl, hsz, hP, hK, hD0, hN, hX⟩ := hv
  have hx := B.exec
  have hb := B.bytes
  have hr := B.returns
  have hts := atoms_spec (ws := wsX12_end) B.pre
  have hown : s.vm.findClass RX12 = some m.cls := findClass_of_methodNamed B.named
  have hlocks := B.notSynchronized
  have hin12 : ∀ w ∈ wsX120, w ∈ wsX12_end := (fun w h => (List.mem_cons_of_mem _ (List.mem_append_right _ h)))
  subst hsz
  have hD := hD0.self (sz := s.heap.size)
  have hAE := k_AE hD0 hX
  generalize hAe : va_A [(h0, .inr (12, f0))] s.heap.size = A at hD hAE ⊢
  have hA : ∀ q : Nat, s.heap.size ≤ q → A q := fun q h => by rw [← hAe]; exact Or.inr h
  have hS : va_S A s.heap s.heap [] := va_S.rf
  have hP : va_P D vwCl [(h0, .inr (12, f0))] s.heap := hP
  have hl := lv_entry ([.ref h0, .int x0] : List Value) (n := 2) (Nat.le_of_ble_eq_true rfl)
  rw [lg_entry_eq]
  generalize (lg_sl ([.ref h0, .int x0]) ++ List.replicate (2 - (lg_sl ([.ref h0, .int x0])).length) Slot.unset).toArray = ls at hl ⊢
  have hl : lv_has ls 2 [(0, .ref h0), (1, .int x0)] := hl
  refine lv_aload_n hx hb dX12_end_0 rfl (lv_at hl 0 rfl) ?_
  refine lv_iload_n hx hb dX12_end_1 rfl (lv_at hl 1 rfl) ?_
  refine lv_i2l (v := (Int32.toInt64 x0)) hx hb dX12_end_2 rfl ?_
  refine lv_lconst (v := 0) hx hb dX12_end_3 (by decide) ?_
  refine lv_aload_n hx hb dX12_end_4 rfl (lv_at hl 0 rfl) ?_
  refine va_get (D := D) (ref := "IntegerHouseModel") (ci := 12) (v := .int 0) (C := RX12) (T := TX12) (N := 195) hx hb hts hin12 hown hK hP 0 rfl rfl 2 (by decide) (hts (.fieldLink RX12 485 "IntegerHouseModel" "taped" "I") (List.mem_cons_of_mem _ (List.mem_append_left _ (List.mem_of_getElem? (i := 0) rfl)))) (fun _ h9 => h9) e0 dX12_end_5 ?_
  refine lv_i2l (v := 0) hx hb dX12_end_8 (by decide) ?_
  refine k_cSi (As := [.long (Int32.toInt64 x0), .long 0, .long 0]) (rest := [.ref h0]) (wc := []) (wr := [(h0, .inr (12, f0))]) (w1 := []) ⟨hx, hb, hml, hown, hts⟩ hN hX hAE hK hP hD hS hA [] [0] rfl rfl (by decide +kernel) (by decide +kernel) (by decide +kernel) (c_X12_in_1 l E D cI cJ cB cZ (Int32.toInt64 x0) ((k_n4 (x := x0) (c := 0) (C := 0) (by decide)).mpr e1)) (va_cwS 3 hts gX12_end_X12_in rfl rfl rfl (by decide +kernel) ⟨Nat.le_of_ble_eq_true rfl, Nat.le_of_ble_eq_true rfl⟩) rfl hl.1 (Nat.le_of_ble_eq_true rfl) dX12_end_9 ⟨Nat.le_of_ble_eq_true rfl, Nat.le_of_ble_eq_true rfl⟩ (fun H locs hP hD hS => ?_)
  have hP : va_P D vwCl [(h0, .inr (12, f0))] H := hP
  have hD : va_D A [(h0, .inr (12, f0))] := hD
  refine lv_if_eq (tgt := 19) hx hb dX12_end_12 (by decide) (fun _ => ?_) (fun c9 => absurd (by decide) c9)
  refine lv_iconst (v := 1) hx hb dX12_end_19 (by decide) ?_
  refine va_put (D := D) (ref := "IntegerHouseModel") (ci := 12) (v := .int 1) (ty := .int) (C := RX12) (T := TX12) (N := 195) hx hb hts hin12 tyX12 tyX12_ok nmX12 hown hK hP hD hS 0 rfl rfl 0 (by decide) (hts (.fieldLink RX12 3 "IntegerHouseModel" "thrown" "I") (List.mem_cons_of_mem _ (List.mem_append_left _ (List.mem_of_getElem? (i := 1) rfl)))) (fun _ h9 => h9) rfl (by decide +kernel) rfl rfl (k_len e2) dX12_end_20 (fun H locs hP hD hS => ?_)
  have hP : va_P D vwCl [(h0, .inr (12, (f0.set 0 (.int 1))))] H := hP
  have hD : va_D A [(h0, .inr (12, (f0.set 0 (.int 1))))] := hD
  refine lv_aload_n hx hb dX12_end_23 rfl (lv_at hl 0 rfl) ?_
  refine lv_aload_n hx hb dX12_end_24 rfl (lv_at hl 0 rfl) ?_
  refine va_get (D := D) (ref := "IntegerHouseModel") (ci := 12) (v := .int 1) (C := RX12) (T := TX12) (N := 195) hx hb hts hin12 hown hK hP 0 rfl rfl 0 (by decide) (hts (.fieldLink RX12 3 "IntegerHouseModel" "thrown" "I") (List.mem_cons_of_mem _ (List.mem_append_left _ (List.mem_of_getElem? (i := 1) rfl)))) (fun _ h9 => h9) (k_set e2) dX12_end_25 ?_
  refine lv_if_le (tgt := 38) hx hb dX12_end_28 (by decide) (fun c9 => absurd c9 (by decide)) (fun _ => ?_)
  refine lv_aload_n hx hb dX12_end_31 rfl (lv_at hl 0 rfl) ?_
  refine va_get (D := D) (ref := "IntegerHouseModel") (ci := 12) (v := .int 0) (C := RX12) (T := TX12) (N := 195) hx hb hts hin12 hown hK hP 0 rfl rfl 2 (by decide) (hts (.fieldLink RX12 485 "IntegerHouseModel" "taped" "I") (List.mem_cons_of_mem _ (List.mem_append_left _ (List.mem_of_getElem? (i := 0) rfl)))) (fun _ h9 => h9) (k_ne (by decide) e0) dX12_end_32 ?_
  refine lv_goto (tgt := 39) hx hb dX12_end_35 (by decide) ?_
  refine va_put (D := D) (ref := "IntegerHouseModel") (ci := 12) (v := .int 0) (ty := .int) (C := RX12) (T := TX12) (N := 195) hx hb hts hin12 tyX12 tyX12_ok nmX12 hown hK hP hD hS 0 rfl rfl 2 (by decide) (hts (.fieldLink RX12 485 "IntegerHouseModel" "taped" "I") (List.mem_cons_of_mem _ (List.mem_append_left _ (List.mem_of_getElem? (i := 0) rfl)))) (fun _ h9 => h9) rfl (by decide +kernel) rfl rfl (k_len (k_ne (by decide) e0)) dX12_end_39 (fun H locs hP hD hS => ?_)
  have hP : va_P D vwCl [(h0, .inr (12, ((f0.set 0 (.int 1)).set 2 (.int 0))))] H := hP
  have hD : va_D A [(h0, .inr (12, ((f0.set 0 (.int 1)).set 2 (.int 0))))] := hD
  exact W.vret hx hb hr (fun t ht hW => ⟨⟨(), rfl, trivial, kB_mk ht hW hP hK hD⟩, hS.F ht⟩) hS.2.2 dX12_end_42
set_option maxHeartbeats 400000000 in
set_option maxRecDepth 100000 in
theorem c_X11_end_2 (l : Launch) (E : kE) (D : va_G) (cI cJ cB cZ : ClassId) (h0 : Nat) (x0 : Int32) (f0 : List Value) (e0 : ¬ ((x0 : Int32) < 0)) (e1 : f0[12]? = some (.int 0)) (e2 : (x0 : Int32) < 1) : kV l E D (kT cI cJ cB cZ) yX11_end wsX11_end ({ frames := 0, cells := 0, slots := 0, locals := 0 }) [.ref h0, .int x0] [(h0, .inr (11, f0))] (fun _ : Unit => [(h0, .inr (11, (f0.set 12 (.int x0))))]) 0 0 := by
  intro sz
  refine Met.ofW (cc := cX11_end) (maxL := 2) (ret := none) (by decide) rfl ?_
  intro p e s m args below meth c s₁ B hml hv
  obtain ⟨rfl, hsz, hP, hK, hD0, hN, hX⟩ := hv
  have hx := B.exec
  have hb := B.bytes
  have hr := B.returns
  have hts := atoms_spec (ws := wsX11_end) B.pre
  have hown : s.vm.findClass RX11 = some m.cls := findClass_of_methodNamed B.named
  have hlocks := B.notSynchronized
  have hin11 : ∀ w ∈ wsX110, w ∈ wsX11_end := (fun w h => (List.mem_cons_of_mem _ (List.mem_append_left _ (List.mem_append_right _ h))))
  subst hsz
  have hD := hD0.self (sz := s.heap.size)
  have hAE := k_AE hD0 hX
  generalize hAe : va_A [(h0, .inr (11, f0))] s.heap.size = A at hD hAE ⊢
  have hA : ∀ q : Nat, s.heap.size ≤ q → A q := fun q h => by rw [← hAe]; exact Or.inr h
  have hS : va_S A s.heap s.heap [] := va_S.rf
  have hP : va_P D vwCl [(h0, .inr (11, f0))] s.heap := hP
  have hl := lv_entry ([.ref h0, .int x0] : List Value) (n := 2) (Nat.le_of_ble_eq_true rfl)
  rw [lg_entry_eq]
  generalize (lg_sl ([.ref h0, .int x0]) ++ List.replicate (2 - (lg_sl ([.ref h0, .int x0])).length) Slot.unset).toArray = ls at hl ⊢
  have hl : lv_has ls 2 [(0, .ref h0), (1, .int x0)] := hl
  refine lv_iload_n hx hb dX11_end_0 rfl (lv_at hl 1 rfl) ?_
  refine lv_if_lt (tgt := 12) hx hb dX11_end_1 (by decide) (fun c9 => absurd c9 e0) (fun _ => ?_)
  refine lv_iload_n hx hb dX11_end_4 rfl (lv_at hl 1 rfl) ?_
  refine lv_aload_n hx hb dX11_end_5 rfl (lv_at hl 0 rfl) ?_
  refine va_get (D := D) (ref := "IntegerHouse") (ci := 11) (v := .int 0) (C := RX11) (T := TX11) (N := 15) hx hb hts hin11 hown hK hP 0 rfl rfl 12 (by decide) (hts (.fieldLink RX11 102 "IntegerHouse" "tapeLength" "I") (List.mem_cons_of_mem _ (List.mem_append_left _ (List.mem_append_left _ (List.mem_of_getElem? (i := 2) rfl))))) (fun _ h9 => h9) e1 dX11_end_6 ?_
  refine lv_icmp_le (tgt := 22) hx hb dX11_end_9 (by decide) (fun _ => ?_) (fun c9 => absurd ((k_n1 (x := x0) (c := 0) (d := 1) (by decide)).mpr e2) c9)
  refine lv_aload_n hx hb dX11_end_22 rfl (lv_at hl 0 rfl) ?_
  refine lv_iload_n hx hb dX11_end_23 rfl (lv_at hl 1 rfl) ?_
  refine va_put (D := D) (ref := "IntegerHouse") (ci := 11) (v := .int x0) (ty := .int) (C := RX11) (T := TX11) (N := 15) hx hb hts hin11 tyX11 tyX11_ok nmX11 hown hK hP hD hS 0 rfl rfl 12 (by decide) (hts (.fieldLink RX11 102 "IntegerHouse" "tapeLength" "I") (List.mem_cons_of_mem _ (List.mem_append_left _ (List.mem_append_left _ (List.mem_of_getElem? (i := 2) rfl))))) (fun _ h9 => h9) rfl (by decide +kernel) rfl rfl (k_len e1) dX11_end_24 (fun H locs hP hD hS => ?_)
  have hP : va_P D vwCl [(h0, .inr (11, (f0.set 12 (.int x0))))] H := hP
  have hD : va_D A [(h0, .inr (11, (f0.set 12 (.int x0))))] := hD
  exact W.vret hx hb hr (fun t ht hW => ⟨⟨(), rfl, trivial, kB_mk ht hW hP hK hD⟩, hS.F ht⟩) hS.2.2 dX11_end_27
set_option maxHeartbeats 400000000 in
set_option maxRecDepth 100000 in
theorem c_L_end_2 (l : Launch) (E : kE) (D : va_G) (cI cJ cB cZ : ClassId) (h0 : Nat) (x0 : Int32) (f0 : List Value) (e0 : f0[12]? = some (.int 0)) (e1 : ¬ ((x0 : Int32) < 0)) (e2 : (x0 : Int32) < 1) : kI l E D (kT cI cJ cB cZ) yL_end wsL_end ({ frames := 1, cells := 0, slots := 0, locals := 21 }) [.ref h0, .int x0] [(h0, .inr (11, f0))] (0) [(h0, .inr (11, (f0.set 12 (.int x0))))] 0 0 := by
  intro sz
  refine k_metH (cc := cL_end) (maxL := 3) (ret := (some .int)) (hh := [(0, 5, 8, 19)]) (by decide) rfl ?_
  intro p e s m args below meth c s₁ B hml hv
  obtain ⟨rfl, hsz, hP, hK, hD0, hN, hX⟩ := hv
  have hx := B.exec
  have hb := B.bytes
  have hr := B.returns
  have hts := atoms_spec (ws := wsL_end) B.pre
  have hown : s.vm.findClass RL = some m.cls := findClass_of_methodNamed B.named
  have hlocks := B.notSynchronized
  subst hsz
  have hD := hD0.self (sz := s.heap.size)
  have hAE := k_AE hD0 hX
  generalize hAe : va_A [(h0, .inr (11, f0))] s.heap.size = A at hD hAE ⊢
  have hA : ∀ q : Nat, s.heap.size ≤ q → A q := fun q h => by rw [← hAe]; exact Or.inr h
  have hS : va_S A s.heap s.heap [] := va_S.rf
  have hP : va_P D vwCl [(h0, .inr (11, f0))] s.heap := hP
  have hl := lv_entry ([.ref h0, .int x0] : List Value) (n := 3) (Nat.le_of_ble_eq_true rfl)
  rw [lg_entry_eq]
  generalize (lg_sl ([.ref h0, .int x0]) ++ List.replicate (3 - (lg_sl ([.ref h0, .int x0])).length) Slot.unset).toArray = ls at hl ⊢
  have hl : lv_has ls 3 [(0, .ref h0), (1, .int x0)] := hl
  refine lv_aload_n hx hb dL_end_0 rfl (lv_at hl 0 rfl) ?_
  refine lv_iload_n hx hb dL_end_1 rfl (lv_at hl 1 rfl) ?_
  refine k_cVv (As := [.int x0]) (rest := []) (wc := [(h0, .inr (11, f0))]) (wr := []) (w1 := (fun _ : Unit => [(h0, .inr (11, (f0.set 12 (.int x0))))])) ⟨hx, hb, hml, hown, hts⟩ hN hX hAE hK hP hD hS hA [0] [] (ci := 11) rfl rfl rfl rfl (by decide +kernel) (by decide +kernel) (by decide +kernel) (c_X11_end_2 l E D cI cJ cB cZ h0 x0 f0 e1 e0 e2) (cwV 1 hts gL_end_X11_end rfl rfl rfl (by decide +kernel) ⟨Nat.le_of_ble_eq_true rfl, Nat.le_of_ble_eq_true rfl⟩) rfl hl.1 (Nat.le_of_ble_eq_true rfl) dL_end_2 ⟨Nat.le_of_ble_eq_true rfl, Nat.le_of_ble_eq_true rfl⟩ (fun _ H locs hP hD hS => ?_)
  have hP : va_P D vwCl [(h0, .inr (11, (f0.set 12 (.int x0))))] H := hP
  have hD : va_D A [(h0, .inr (11, (f0.set 12 (.int x0))))] := hD
  refine lv_goto (tgt := 11) hx hb dL_end_5 (by decide) ?_
  refine lv_iconst (v := 0) hx hb dL_end_11 (by decide) ?_
  exact W.iret (v := 0) hx hb hr (fun t ht hW => ⟨⟨0, (), rfl, rfl, kB_mk ht hW hP hK hD⟩, hS.F ht⟩) hS.2.2 dL_end_12
set_option maxHeartbeats 400000000 in
set_option maxRecDepth 100000 in
theorem c_X12_in_2 (l : Launch) (E : kE) (D : va_G) (cI cJ cB cZ : ClassId) (y0 : Int64) (e0 : ¬ (((lg_cmp y0 0) : Int32) < 0)) (e1 : ¬ ((0 : Int32) < (lg_cmp y0 0))) : kI l E D (kT cI cJ cB cZ) yX12_in wsX12_in ({ frames := 0, cells := 0, slots := 0, locals := 0 }) [.long y0, .long 0, .long 0] [] (1) [] 0 0 := by
  intro sz
  refine Met.ofW (cc := cX12_in) (maxL := 6) (ret := (some .boolean)) (by decide) rfl ?_
  intro p e s m args below meth c s₁ B hml hv
  obtain ⟨rfl, hsz, hP, hK, hD0, hN, hX⟩ := hv
  have hx := B.exec
  have hb := B.bytes
  have hr := B.returns
  have hts := atoms_spec (ws := wsX12_in) B.pre
  have hown : s.vm.findClass RX12 = some m.cls := findClass_of_methodNamed B.named
  have hlocks := B.notSynchronized
  subst hsz
  have hD := hD0.self (sz := s.heap.size)
  have hAE := k_AE hD0 hX
  generalize hAe : va_A [] s.heap.size = A at hD hAE ⊢
  have hA : ∀ q : Nat, s.heap.size ≤ q → A q := fun q h => by rw [← hAe]; exact Or.inr h
  have hS : va_S A s.heap s.heap [] := va_S.rf
  have hP : va_P D vwCl [] s.heap := hP
  have hl := lv_entry ([.long y0, .long 0, .long 0] : List Value) (n := 6) (Nat.le_of_ble_eq_true rfl)
  rw [lg_entry_eq]
  generalize (lg_sl ([.long y0, .long 0, .long 0]) ++ List.replicate (6 - (lg_sl ([.long y0, .long 0, .long 0])).length) Slot.unset).toArray = ls at hl ⊢
  have hl : lv_has ls 6 [(0, .long y0), (2, .long 0), (4, .long 0)] := hl
  refine lv_lload_n hx hb dX12_in_0 rfl (lv_at hl 0 rfl) ?_
  refine lv_lload_n hx hb dX12_in_1 rfl (lv_at hl 1 rfl) ?_
  refine W.lcmp hx hb dX12_in_2 ?_
  refine lv_if_lt (tgt := 17) hx hb dX12_in_3 (by decide) (fun c9 => absurd c9 e0) (fun _ => ?_)
  refine lv_lload_n hx hb dX12_in_6 rfl (lv_at hl 0 rfl) ?_
  refine lv_lload hx hb dX12_in_7 (lv_at hl 2 rfl) ?_
  refine W.lcmp hx hb dX12_in_9 ?_
  refine lv_if_gt (tgt := 17) hx hb dX12_in_10 (by decide) (fun c9 => absurd c9 e1) (fun _ => ?_)
  refine lv_iconst (v := 1) hx hb dX12_in_13 (by decide) ?_
  refine lv_goto (tgt := 18) hx hb dX12_in_14 (by decide) ?_
  exact W.zret (v := 1) hx hb hr rfl (fun t ht hW => ⟨⟨1, (), rfl, rfl, kB_mk ht hW hP hK hD⟩, hS.F ht⟩) hS.2.2 dX12_in_18
set_option maxHeartbeats 400000000 in
set_option maxRecDepth 100000 in
theorem c_X12_end_2 (l : Launch) (E : kE) (D : va_G) (cI cJ cB cZ : ClassId) (h0 : Nat) (x0 : Int32) (f0 : List Value) (e0 : f0[2]? = some (.int 0)) (e1 : ¬ ((x0 : Int32) < 0)) (e2 : (x0 : Int32) < 1) (e3 : f0[0]? = some (.int 0)) : kV l E D (kT cI cJ cB cZ) yX12_end wsX12_end ({ frames := 1, cells := 0, slots := 0, locals := 25 }) [.ref h0, .int x0] [(h0, .inr (12, f0))] (fun _ : Unit => [(h0, .inr (12, ((f0.set 0 (.int 0)).set 2 (.int x0))))]) 0 0 := by
  intro sz
  refine Met.ofW (cc := cX12_end) (maxL := 2) (ret := none) (by decide) rfl ?_
  intro p e s m args below meth c s₁ B hml hv
  obtain ⟨rfl, hsz, hP, hK, hD0, hN, hX⟩ := hv
  have hx := B.exec
  have hb := B.bytes
  have hr := B.returns
  have hts := atoms_spec (ws := wsX12_end) B.pre
  have hown : s.vm.findClass RX12 = some m.cls := findClass_of_methodNamed B.named
  have hlocks := B.notSynchronized
  have hin12 : ∀ w ∈ wsX120, w ∈ wsX12_end := (fun w h => (List.mem_cons_of_mem _ (List.mem_append_right _ h)))
  subst hsz
  have hD := hD0.self (sz := s.heap.size)
  have hAE := k_AE hD0 hX
  generalize hAe : va_A [(h0, .inr (12, f0))] s.heap.size = A at hD hAE ⊢
  have hA : ∀ q : Nat, s.heap.size ≤ q → A q := fun q h => by rw [← hAe]; exact Or.inr h
  have hS : va_S A s.heap s.heap [] := va_S.rf
  have hP : va_P D vwCl [(h0, .inr (12, f0))] s.heap := hP
  have hl := lv_entry ([.ref h0, .int x0] : List Value) (n := 2) (Nat.le_of_ble_eq_true rfl)
  rw [lg_entry_eq]
  generalize (lg_sl ([.ref h0, .int x0]) ++ List.replicate (2 - (lg_sl ([.ref h0, .int x0])).length) Slot.unset).toArray = ls at hl ⊢
  have hl : lv_has ls 2 [(0, .ref h0), (1, .int x0)] := hl
  refine lv_aload_n hx hb dX12_end_0 rfl (lv_at hl 0 rfl) ?_
  refine lv_iload_n hx hb dX12_end_1 rfl (lv_at hl 1 rfl) ?_
  refine lv_i2l (v := (Int32.toInt64 x0)) hx hb dX12_end_2 rfl ?_
  refine lv_lconst (v := 0) hx hb dX12_end_3 (by decide) ?_
  refine lv_aload_n hx hb dX12_end_4 rfl (lv_at hl 0 rfl) ?_
  refine va_get (D := D) (ref := "IntegerHouseModel") (ci := 12) (v := .int 0) (C := RX12) (T := TX12) (N := 195) hx hb hts hin12 hown hK hP 0 rfl rfl 2 (by decide) (hts (.fieldLink RX12 485 "IntegerHouseModel" "taped" "I") (List.mem_cons_of_mem _ (List.mem_append_left _ (List.mem_of_getElem? (i := 0) rfl)))) (fun _ h9 => h9) e0 dX12_end_5 ?_
  refine lv_i2l (v := 0) hx hb dX12_end_8 (by decide) ?_
  refine k_cSi (As := [.long (Int32.toInt64 x0), .long 0, .long 0]) (rest := [.ref h0]) (wc := []) (wr := [(h0, .inr (12, f0))]) (w1 := []) ⟨hx, hb, hml, hown, hts⟩ hN hX hAE hK hP hD hS hA [] [0] rfl rfl (by decide +kernel) (by decide +kernel) (by decide +kernel) (c_X12_in_2 l E D cI cJ cB cZ (Int32.toInt64 x0) (fun z9 => e1 ((k_n4 (x := x0) (c := 0) (C := 0) (by decide)).mp z9)) (fun z9 => (k_n5 (x := x0) (c := 0) (d := 1) (C := 0) (by decide) (by decide)).mp z9 e2)) (va_cwS 3 hts gX12_end_X12_in rfl rfl rfl (by decide +kernel) ⟨Nat.le_of_ble_eq_true rfl, Nat.le_of_ble_eq_true rfl⟩) rfl hl.1 (Nat.le_of_ble_eq_true rfl) dX12_end_9 ⟨Nat.le_of_ble_eq_true rfl, Nat.le_of_ble_eq_true rfl⟩ (fun H locs hP hD hS => ?_)
  have hP : va_P D vwCl [(h0, .inr (12, f0))] H := hP
  have hD : va_D A [(h0, .inr (12, f0))] := hD
  refine lv_if_eq (tgt := 19) hx hb dX12_end_12 (by decide) (fun c9 => absurd c9 (by decide)) (fun _ => ?_)
  refine lv_iconst (v := 0) hx hb dX12_end_15 (by decide) ?_
  refine lv_goto (tgt := 20) hx hb dX12_end_16 (by decide) ?_
  refine va_put (D := D) (ref := "IntegerHouseModel") (ci := 12) (v := .int 0) (ty := .int) (C := RX12) (T := TX12) (N := 195) hx hb hts hin12 tyX12 tyX12_ok nmX12 hown hK hP hD hS 0 rfl rfl 0 (by decide) (hts (.fieldLink RX12 3 "IntegerHouseModel" "thrown" "I") (List.mem_cons_of_mem _ (List.mem_append_left _ (List.mem_of_getElem? (i := 1) rfl)))) (fun _ h9 => h9) rfl (by decide +kernel) rfl rfl (k_len e3) dX12_end_20 (fun H locs hP hD hS => ?_)
  have hP : va_P D vwCl [(h0, .inr (12, (f0.set 0 (.int 0))))] H := hP
  have hD : va_D A [(h0, .inr (12, (f0.set 0 (.int 0))))] := hD
  refine lv_aload_n hx hb dX12_end_23 rfl (lv_at hl 0 rfl) ?_
  refine lv_aload_n hx hb dX12_end_24 rfl (lv_at hl 0 rfl) ?_
  refine va_get (D := D) (ref := "IntegerHouseModel") (ci := 12) (v := .int 0) (C := RX12) (T := TX12) (N := 195) hx hb hts hin12 hown hK hP 0 rfl rfl 0 (by decide) (hts (.fieldLink RX12 3 "IntegerHouseModel" "thrown" "I") (List.mem_cons_of_mem _ (List.mem_append_left _ (List.mem_of_getElem? (i := 1) rfl)))) (fun _ h9 => h9) (k_set e3) dX12_end_25 ?_
  refine lv_if_le (tgt := 38) hx hb dX12_end_28 (by decide) (fun _ => ?_) (fun c9 => absurd (by decide) c9)
  refine lv_iload_n hx hb dX12_end_38 rfl (lv_at hl 1 rfl) ?_
  refine va_put (D := D) (ref := "IntegerHouseModel") (ci := 12) (v := .int x0) (ty := .int) (C := RX12) (T := TX12) (N := 195) hx hb hts hin12 tyX12 tyX12_ok nmX12 hown hK hP hD hS 0 rfl rfl 2 (by decide) (hts (.fieldLink RX12 485 "IntegerHouseModel" "taped" "I") (List.mem_cons_of_mem _ (List.mem_append_left _ (List.mem_of_getElem? (i := 0) rfl)))) (fun _ h9 => h9) rfl (by decide +kernel) rfl rfl (k_len (k_ne (by decide) e0)) dX12_end_39 (fun H locs hP hD hS => ?_)
  have hP : va_P D vwCl [(h0, .inr (12, ((f0.set 0 (.int 0)).set 2 (.int x0))))] H := hP
  have hD : va_D A [(h0, .inr (12, ((f0.set 0 (.int 0)).set 2 (.int x0))))] := hD
  exact W.vret hx hb hr (fun t ht hW => ⟨⟨(), rfl, trivial, kB_mk ht hW hP hK hD⟩, hS.F ht⟩) hS.2.2 dX12_end_42
set_option maxHeartbeats 400000000 in
set_option maxRecDepth 100000 in
theorem c_X1_writeAll_0 (l : Launch) (E : kE) (D : va_G) (cI cJ cB cZ : ClassId) (h0 : Nat) (f0 : List Value) (e0 : f0[4]? = some (.int 0)) (e1 : f0[5]? = some (.int 0)) : kI l E D (kT cI cJ cB cZ) yX1_writeAll wsX1_writeAll ({ frames := 0, cells := 0, slots := 0, locals := 0 }) [.ref h0] [(h0, .inr (1, f0))] (0) [(h0, .inr (1, ((f0.set 5 (.int 0)).set 4 (.int 0))))] 0 0 := by
  intro sz
  refine Met.ofW (cc := cX1_writeAll) (maxL := 3) (ret := (some .int)) (by decide) rfl ?_
  intro p e s m args below meth c s₁ B hml hv
  obtain ⟨rfl, hsz, hP, hK, hD0, hN, hX⟩ := hv
  have hx := B.exec
  have hb := B.bytes
  have hr := B.returns
  have hts := atoms_spec (ws := wsX1_writeAll) B.pre
  have hown : s.vm.findClass RX1 = some m.cls := findClass_of_methodNamed B.named
  have hlocks := B.notSynchronized
  have hin1 : ∀ w ∈ wsX10, w ∈ wsX1_writeAll := (fun w h => (List.mem_cons_of_mem _ (List.mem_append_right _ h)))
  subst hsz
  have hD := hD0.self (sz := s.heap.size)
  have hAE := k_AE hD0 hX
  generalize hAe : va_A [(h0, .inr (1, f0))] s.heap.size = A at hD hAE ⊢
  have hA : ∀ q : Nat, s.heap.size ≤ q → A q := fun q h => by rw [← hAe]; exact Or.inr h
  have hS : va_S A s.heap s.heap [] := va_S.rf
  have hP : va_P D vwCl [(h0, .inr (1, f0))] s.heap := hP
  have hl := lv_entry ([.ref h0] : List Value) (n := 3) (Nat.le_of_ble_eq_true rfl)
  rw [lg_entry_eq]
  generalize (lg_sl ([.ref h0]) ++ List.replicate (3 - (lg_sl ([.ref h0])).length) Slot.unset).toArray = ls at hl ⊢
  have hl : lv_has ls 3 [(0, .ref h0)] := hl
  refine lv_aload_n hx hb dX1_writeAll_0 rfl (lv_at hl 0 rfl) ?_
  refine va_get (D := D) (ref := "IntegerHouse$Disk") (ci := 1) (v := .int 0) (C := RX1) (T := TX1) (N := 9) hx hb hts hin1 hown hK hP 0 rfl rfl 4 (by decide) (hts (.fieldLink RX1 40 "IntegerHouse$Disk" "waiting" "I") (List.mem_cons_of_mem _ (List.mem_append_left _ (List.mem_append_left _ (List.mem_of_getElem? (i := 0) rfl))))) (fun _ h9 => h9) e0 dX1_writeAll_1 ?_
  refine lv_sipush (v := 248) hx hb dX1_writeAll_4 (by decide) ?_
  refine lv_iadd hx hb dX1_writeAll_7 ?_
  refine k_topi (y := 248) (by decide) ?_
  refine lv_iconst (v := 1) hx hb dX1_writeAll_8 (by decide) ?_
  refine lv_isub hx hb dX1_writeAll_9 ?_
  refine k_topi (y := 247) (by decide) ?_
  refine lv_sipush (v := 248) hx hb dX1_writeAll_10 (by decide) ?_
  refine lv_idiv hx hb dX1_writeAll_13 (by decide) ?_
  refine k_topi (y := 0) (by decide) ?_
  refine lv_istore_n (lv' := [(1, .int 0), (0, .ref h0)]) hx hb dX1_writeAll_14 rfl hl (by decide) rfl (fun ls hl => ?_)
  refine lv_iconst (v := 0) hx hb dX1_writeAll_15 (by decide) ?_
  refine lv_istore_n (lv' := [(2, .int 0), (1, .int 0), (0, .ref h0)]) hx hb dX1_writeAll_16 rfl hl (by decide) rfl (fun ls hl => ?_)
  refine lv_iload_n hx hb dX1_writeAll_17 rfl (lv_at hl 0 rfl) ?_
  refine lv_iload_n hx hb dX1_writeAll_18 rfl (lv_at hl 1 rfl) ?_
  refine lv_icmp_ge (tgt := 68) hx hb dX1_writeAll_19 (by decide) (fun _ => ?_) (fun c9 => absurd (by decide) c9)
  refine lv_aload_n hx hb dX1_writeAll_68 rfl (lv_at hl 2 rfl) ?_
  refine lv_dup hx hb dX1_writeAll_69 rfl ?_
  refine va_get (D := D) (ref := "IntegerHouse$Disk") (ci := 1) (v := .int 0) (C := RX1) (T := TX1) (N := 9) hx hb hts hin1 hown hK hP 0 rfl rfl 5 (by decide) (hts (.fieldLink RX1 43 "IntegerHouse$Disk" "used" "I") (List.mem_cons_of_mem _ (List.mem_append_left _ (List.mem_append_left _ (List.mem_of_getElem? (i := 1) rfl))))) (fun _ h9 => h9) e1 dX1_writeAll_70 ?_
  refine lv_iload_n hx hb dX1_writeAll_73 rfl (lv_at hl 1 rfl) ?_
  refine lv_iadd hx hb dX1_writeAll_74 ?_
  refine k_topi (y := 0) (by decide) ?_
  refine va_put (D := D) (ref := "IntegerHouse$Disk") (ci := 1) (v := .int 0) (ty := .int) (C := RX1) (T := TX1) (N := 9) hx hb hts hin1 tyX1 tyX1_ok nmX1 hown hK hP hD hS 0 rfl rfl 5 (by decide) (hts (.fieldLink RX1 43 "IntegerHouse$Disk" "used" "I") (List.mem_cons_of_mem _ (List.mem_append_left _ (List.mem_append_left _ (List.mem_of_getElem? (i := 1) rfl))))) (fun _ h9 => h9) rfl (by decide +kernel) rfl rfl (k_len e1) dX1_writeAll_75 (fun H locs hP hD hS => ?_)
  have hP : va_P D vwCl [(h0, .inr (1, (f0.set 5 (.int 0))))] H := hP
  have hD : va_D A [(h0, .inr (1, (f0.set 5 (.int 0))))] := hD
  refine lv_aload_n hx hb dX1_writeAll_78 rfl (lv_at hl 2 rfl) ?_
  refine lv_iconst (v := 0) hx hb dX1_writeAll_79 (by decide) ?_
  refine va_put (D := D) (ref := "IntegerHouse$Disk") (ci := 1) (v := .int 0) (ty := .int) (C := RX1) (T := TX1) (N := 9) hx hb hts hin1 tyX1 tyX1_ok nmX1 hown hK hP hD hS 0 rfl rfl 4 (by decide) (hts (.fieldLink RX1 40 "IntegerHouse$Disk" "waiting" "I") (List.mem_cons_of_mem _ (List.mem_append_left _ (List.mem_append_left _ (List.mem_of_getElem? (i := 0) rfl))))) (fun _ h9 => h9) rfl (by decide +kernel) rfl rfl (k_len (k_ne (by decide) e0)) dX1_writeAll_80 (fun H locs hP hD hS => ?_)
  have hP : va_P D vwCl [(h0, .inr (1, ((f0.set 5 (.int 0)).set 4 (.int 0))))] H := hP
  have hD : va_D A [(h0, .inr (1, ((f0.set 5 (.int 0)).set 4 (.int 0))))] := hD
  refine lv_iload_n hx hb dX1_writeAll_83 rfl (lv_at hl 1 rfl) ?_
  exact W.iret (v := 0) hx hb hr (fun t ht hW => ⟨⟨0, (), rfl, rfl, kB_mk ht hW hP hK hD⟩, hS.F ht⟩) hS.2.2 dX1_writeAll_84
set_option maxHeartbeats 400000000 in
set_option maxRecDepth 100000 in
theorem c_X11_sync_0 (l : Launch) (E : kE) (D : va_G) (cI cJ cB cZ : ClassId) (h0 : Nat) (f0 : List Value) (h1 : Nat) (f1 : List Value) (e0 : f0[1]? = some (.ref h1)) (e1 : f1[8]? = some (.int 0)) (e2 : f1[4]? = some (.int 0)) (e3 : f1[5]? = some (.int 0)) : kI l E D (kT cI cJ cB cZ) yX11_sync wsX11_sync ({ frames := 1, cells := 0, slots := 0, locals := 22 }) [.ref h0] [(h0, .inr (11, f0)), (h1, .inr (1, f1))] (0) [(h0, .inr (11, f0)), (h1, .inr (1, ((f1.set 5 (.int 0)).set 4 (.int 0))))] 0 0 := by
  intro sz
  refine Met.ofW (cc := cX11_sync) (maxL := 1) (ret := (some .int)) (by decide) rfl ?_
  intro p e s m args below meth c s₁ B hml hv
  obtain ⟨rfl, hsz, hP, hK, hD0, hN, hX⟩ := hv
  have hx := B.exec
  have hb := B.bytes
  have hr := B.returns
  have hts := atoms_spec (ws := wsX11_sync) B.pre
  have hown : s.vm.findClass RX11 = some m.cls := findClass_of_methodNamed B.named
  have hlocks := B.notSynchronized
  have hin11 : ∀ w ∈ wsX110, w ∈ wsX11_sync := (fun w h => (List.mem_cons_of_mem _ (List.mem_append_left _ (List.mem_append_right _ h))))
  have hin1 : ∀ w ∈ wsX10, w ∈ wsX11_sync := (fun w h => (List.mem_cons_of_mem _ (List.mem_append_right _ h)))
  subst hsz
  have hD := hD0.self (sz := s.heap.size)
  have hAE := k_AE hD0 hX
  generalize hAe : va_A [(h0, .inr (11, f0)), (h1, .inr (1, f1))] s.heap.size = A at hD hAE ⊢
  have hA : ∀ q : Nat, s.heap.size ≤ q → A q := fun q h => by rw [← hAe]; exact Or.inr h
  have hS : va_S A s.heap s.heap [] := va_S.rf
  have hP : va_P D vwCl [(h0, .inr (11, f0)), (h1, .inr (1, f1))] s.heap := hP
  have hl := lv_entry ([.ref h0] : List Value) (n := 1) (Nat.le_of_ble_eq_true rfl)
  rw [lg_entry_eq]
  generalize (lg_sl ([.ref h0]) ++ List.replicate (1 - (lg_sl ([.ref h0])).length) Slot.unset).toArray = ls at hl ⊢
  have hl : lv_has ls 1 [(0, .ref h0)] := hl
  refine lv_aload_n hx hb dX11_sync_0 rfl (lv_at hl 0 rfl) ?_
  refine va_get (D := D) (ref := "IntegerHouse") (ci := 11) (v := .ref h1) (C := RX11) (T := TX11) (N := 15) hx hb hts hin11 hown hK hP 0 rfl rfl 1 (by decide) (hts (.fieldLink RX11 16 "IntegerHouse" "disk" "LIntegerHouse$Disk;") (List.mem_cons_of_mem _ (List.mem_append_left _ (List.mem_append_left _ (List.mem_append_left _ (List.mem_of_getElem? (i := 0) rfl)))))) (fun _ h9 => h9) e0 dX11_sync_1 ?_
  refine va_getN (host := "IntegerHouse") (D := D) (ref := "IntegerHouse$Disk") (ci := 1) (v := .int 0) (C := RX1) (T := TX1) (N := 9) hx hb hts hin1 hown hK hP 1 rfl rfl 8 (by decide) (va_Nw.use rfl (hN.1 ("IntegerHouse", 122, "IntegerHouse$Disk", "down", "Z", "IntegerHouse") (List.mem_of_getElem? (i := 3) rfl))) (fun _ h9 => h9) e1 dX11_sync_4 ?_
  refine lv_if_eq (tgt := 15) hx hb dX11_sync_7 (by decide) (fun _ => ?_) (fun c9 => absurd (by decide) c9)
  refine lv_aload_n hx hb dX11_sync_15 rfl (lv_at hl 0 rfl) ?_
  refine va_get (D := D) (ref := "IntegerHouse") (ci := 11) (v := .ref h1) (C := RX11) (T := TX11) (N := 15) hx hb hts hin11 hown hK hP 0 rfl rfl 1 (by decide) (hts (.fieldLink RX11 16 "IntegerHouse" "disk" "LIntegerHouse$Disk;") (List.mem_cons_of_mem _ (List.mem_append_left _ (List.mem_append_left _ (List.mem_append_left _ (List.mem_of_getElem? (i := 0) rfl)))))) (fun _ h9 => h9) e0 dX11_sync_16 ?_
  refine k_cVi (As := []) (rest := []) (wc := [(h1, .inr (1, f1))]) (wr := [(h0, .inr (11, f0))]) (w1 := [(h1, .inr (1, ((f1.set 5 (.int 0)).set 4 (.int 0))))]) ⟨hx, hb, hml, hown, hts⟩ hN hX hAE hK hP hD hS hA [1] [0] (ci := 1) rfl rfl rfl rfl (by decide +kernel) (by decide +kernel) (by decide +kernel) (c_X1_writeAll_0 l E D cI cJ cB cZ h1 f1 e2 e3) (cwV 0 hts gX11_sync_X1_writeAll rfl rfl rfl (by decide +kernel) ⟨Nat.le_of_ble_eq_true rfl, Nat.le_of_ble_eq_true rfl⟩) rfl hl.1 (Nat.le_of_ble_eq_true rfl) dX11_sync_19 ⟨Nat.le_of_ble_eq_true rfl, Nat.le_of_ble_eq_true rfl⟩ (fun H locs hP hD hS => ?_)
  have hP : va_P D vwCl [(h0, .inr (11, f0)), (h1, .inr (1, ((f1.set 5 (.int 0)).set 4 (.int 0))))] H := hP
  have hD : va_D A [(h0, .inr (11, f0)), (h1, .inr (1, ((f1.set 5 (.int 0)).set 4 (.int 0))))] := hD
  exact W.iret (v := 0) hx hb hr (fun t ht hW => ⟨⟨0, (), rfl, rfl, kB_mk ht hW hP hK hD⟩, hS.F ht⟩) hS.2.2 dX11_sync_22
set_option maxHeartbeats 400000000 in
set_option maxRecDepth 100000 in
theorem c_X12_sync_0 (l : Launch) (E : kE) (D : va_G) (cI cJ cB cZ : ClassId) (h0 : Nat) (f0 : List Value) (e0 : f0[0]? = some (.int 0)) (e1 : f0[5]? = some (.int 0)) (e2 : f0[9]? = some (.int 0)) (e3 : f0[4]? = some (.int 0)) : kI l E D (kT cI cJ cB cZ) yX12_sync wsX12_sync ({ frames := 0, cells := 0, slots := 0, locals := 0 }) [.ref h0] [(h0, .inr (12, f0))] (0) [(h0, .inr (12, (((f0.set 0 (.int 0)).set 4 (.int 0)).set 9 (.int 0))))] 0 0 := by
  intro sz
  refine Met.ofW (cc := cX12_sync) (maxL := 6) (ret := (some .int)) (by decide) rfl ?_
  intro p e s m args below meth c s₁ B hml hv
  obtain ⟨rfl, hsz, hP, hK, hD0, hN, hX⟩ := hv
  have hx := B.exec
  have hb := B.bytes
  have hr := B.returns
  have hts := atoms_spec (ws := wsX12_sync) B.pre
  have hown : s.vm.findClass RX12 = some m.cls := findClass_of_methodNamed B.named
  have hlocks := B.notSynchronized
  have hin12 : ∀ w ∈ wsX120, w ∈ wsX12_sync := (fun w h => (List.mem_cons_of_mem _ (List.mem_append_right _ h)))
  subst hsz
  have hD := hD0.self (sz := s.heap.size)
  have hAE := k_AE hD0 hX
  generalize hAe : va_A [(h0, .inr (12, f0))] s.heap.size = A at hD hAE ⊢
  have hA : ∀ q : Nat, s.heap.size ≤ q → A q := fun q h => by rw [← hAe]; exact Or.inr h
  have hS : va_S A s.heap s.heap [] := va_S.rf
  have hP : va_P D vwCl [(h0, .inr (12, f0))] s.heap := hP
  have hl := lv_entry ([.ref h0] : List Value) (n := 6) (Nat.le_of_ble_eq_true rfl)
  rw [lg_entry_eq]
  generalize (lg_sl ([.ref h0]) ++ List.replicate (6 - (lg_sl ([.ref h0])).length) Slot.unset).toArray = ls at hl ⊢
  have hl : lv_has ls 6 [(0, .ref h0)] := hl
  refine lv_aload_n hx hb dX12_sync_0 rfl (lv_at hl 0 rfl) ?_
  refine lv_iconst (v := 0) hx hb dX12_sync_1 (by decide) ?_
  refine va_put (D := D) (ref := "IntegerHouseModel") (ci := 12) (v := .int 0) (ty := .int) (C := RX12) (T := TX12) (N := 195) hx hb hts hin12 tyX12 tyX12_ok nmX12 hown hK hP hD hS 0 rfl rfl 0 (by decide) (hts (.fieldLink RX12 3 "IntegerHouseModel" "thrown" "I") (List.mem_cons_of_mem _ (List.mem_append_left _ (List.mem_of_getElem? (i := 0) rfl)))) (fun _ h9 => h9) rfl (by decide +kernel) rfl rfl (k_len e0) dX12_sync_2 (fun H locs hP hD hS => ?_)
  have hP : va_P D vwCl [(h0, .inr (12, (f0.set 0 (.int 0))))] H := hP
  have hD : va_D A [(h0, .inr (12, (f0.set 0 (.int 0))))] := hD
  refine lv_aload_n hx hb dX12_sync_5 rfl (lv_at hl 0 rfl) ?_
  refine va_get (D := D) (ref := "IntegerHouseModel") (ci := 12) (v := .int 0) (C := RX12) (T := TX12) (N := 195) hx hb hts hin12 hown hK hP 0 rfl rfl 5 (by decide) (hts (.fieldLink RX12 488 "IntegerHouseModel" "down" "Z") (List.mem_cons_of_mem _ (List.mem_append_left _ (List.mem_of_getElem? (i := 1) rfl)))) (fun _ h9 => h9) (k_ne (by decide) e1) dX12_sync_6 ?_
  refine lv_if_eq (tgt := 15) hx hb dX12_sync_9 (by decide) (fun _ => ?_) (fun c9 => absurd (by decide) c9)
  refine lv_aload_n hx hb dX12_sync_15 rfl (lv_at hl 0 rfl) ?_
  refine va_get (D := D) (ref := "IntegerHouseModel") (ci := 12) (v := .int 0) (C := RX12) (T := TX12) (N := 195) hx hb hts hin12 hown hK hP 0 rfl rfl 9 (by decide) (hts (.fieldLink RX12 475 "IntegerHouseModel" "waitBytes" "I") (List.mem_cons_of_mem _ (List.mem_append_left _ (List.mem_of_getElem? (i := 2) rfl)))) (fun _ h9 => h9) (k_ne (by decide) e2) dX12_sync_16 ?_
  refine lv_sipush (v := 248) hx hb dX12_sync_19 (by decide) ?_
  refine lv_iadd hx hb dX12_sync_22 ?_
  refine k_topi (y := 248) (by decide) ?_
  refine lv_iconst (v := 1) hx hb dX12_sync_23 (by decide) ?_
  refine lv_isub hx hb dX12_sync_24 ?_
  refine k_topi (y := 247) (by decide) ?_
  refine lv_sipush (v := 248) hx hb dX12_sync_25 (by decide) ?_
  refine lv_idiv hx hb dX12_sync_28 (by decide) ?_
  refine k_topi (y := 0) (by decide) ?_
  refine lv_istore_n (lv' := [(1, .int 0), (0, .ref h0)]) hx hb dX12_sync_29 rfl hl (by decide) rfl (fun ls hl => ?_)
  refine lv_iconst (v := 0) hx hb dX12_sync_30 (by decide) ?_
  refine lv_istore_n (lv' := [(2, .int 0), (1, .int 0), (0, .ref h0)]) hx hb dX12_sync_31 rfl hl (by decide) rfl (fun ls hl => ?_)
  refine lv_iload_n hx hb dX12_sync_32 rfl (lv_at hl 0 rfl) ?_
  refine lv_iload_n hx hb dX12_sync_33 rfl (lv_at hl 1 rfl) ?_
  refine lv_icmp_ge (tgt := 183) hx hb dX12_sync_34 (by decide) (fun _ => ?_) (fun c9 => absurd (by decide) c9)
  refine lv_aload_n hx hb dX12_sync_183 rfl (lv_at hl 2 rfl) ?_
  refine lv_aload_n hx hb dX12_sync_184 rfl (lv_at hl 2 rfl) ?_
  refine va_get (D := D) (ref := "IntegerHouseModel") (ci := 12) (v := .int 0) (C := RX12) (T := TX12) (N := 195) hx hb hts hin12 hown hK hP 0 rfl rfl 4 (by decide) (hts (.fieldLink RX12 478 "IntegerHouseModel" "used" "I") (List.mem_cons_of_mem _ (List.mem_append_left _ (List.mem_of_getElem? (i := 3) rfl)))) (fun _ h9 => h9) (k_ne (by decide) e3) dX12_sync_185 ?_
  refine lv_iload_n hx hb dX12_sync_188 rfl (lv_at hl 1 rfl) ?_
  refine lv_iadd hx hb dX12_sync_189 ?_
  refine k_topi (y := 0) (by decide) ?_
  refine va_put (D := D) (ref := "IntegerHouseModel") (ci := 12) (v := .int 0) (ty := .int) (C := RX12) (T := TX12) (N := 195) hx hb hts hin12 tyX12 tyX12_ok nmX12 hown hK hP hD hS 0 rfl rfl 4 (by decide) (hts (.fieldLink RX12 478 "IntegerHouseModel" "used" "I") (List.mem_cons_of_mem _ (List.mem_append_left _ (List.mem_of_getElem? (i := 3) rfl)))) (fun _ h9 => h9) rfl (by decide +kernel) rfl rfl (k_len (k_ne (by decide) e3)) dX12_sync_190 (fun H locs hP hD hS => ?_)
  have hP : va_P D vwCl [(h0, .inr (12, ((f0.set 0 (.int 0)).set 4 (.int 0))))] H := hP
  have hD : va_D A [(h0, .inr (12, ((f0.set 0 (.int 0)).set 4 (.int 0))))] := hD
  refine lv_aload_n hx hb dX12_sync_193 rfl (lv_at hl 2 rfl) ?_
  refine lv_iconst (v := 0) hx hb dX12_sync_194 (by decide) ?_
  refine va_put (D := D) (ref := "IntegerHouseModel") (ci := 12) (v := .int 0) (ty := .int) (C := RX12) (T := TX12) (N := 195) hx hb hts hin12 tyX12 tyX12_ok nmX12 hown hK hP hD hS 0 rfl rfl 9 (by decide) (hts (.fieldLink RX12 475 "IntegerHouseModel" "waitBytes" "I") (List.mem_cons_of_mem _ (List.mem_append_left _ (List.mem_of_getElem? (i := 2) rfl)))) (fun _ h9 => h9) rfl (by decide +kernel) rfl rfl (k_len (k_ne (by decide) (k_ne (by decide) e2))) dX12_sync_195 (fun H locs hP hD hS => ?_)
  have hP : va_P D vwCl [(h0, .inr (12, (((f0.set 0 (.int 0)).set 4 (.int 0)).set 9 (.int 0))))] H := hP
  have hD : va_D A [(h0, .inr (12, (((f0.set 0 (.int 0)).set 4 (.int 0)).set 9 (.int 0))))] := hD
  refine lv_iload_n hx hb dX12_sync_198 rfl (lv_at hl 1 rfl) ?_
  exact W.iret (v := 0) hx hb hr (fun t ht hW => ⟨⟨0, (), rfl, rfl, kB_mk ht hW hP hK hD⟩, hS.F ht⟩) hS.2.2 dX12_sync_199
set_option maxHeartbeats 400000000 in
set_option maxRecDepth 100000 in
theorem c_X1_setCut_0 (l : Launch) (E : kE) (D : va_G) (cI cJ cB cZ : ClassId) (h0 : Nat) (x0 : Int32) (x1 : Int32) (f0 : List Value) (e0 : f0[6]? = some (.int (-1))) (e1 : f0[7]? = some (.int 0)) : kV l E D (kT cI cJ cB cZ) yX1_setCut wsX1_setCut ({ frames := 0, cells := 0, slots := 0, locals := 0 }) [.ref h0, .int x0, .int x1] [(h0, .inr (1, f0))] (fun _ : Unit => [(h0, .inr (1, ((f0.set 6 (.int x0)).set 7 (.int x1))))]) 0 0 := by
  intro sz
  refine Met.ofW (cc := cX1_setCut) (maxL := 3) (ret := none) (by decide) rfl ?_
  intro p e s m args below meth c s₁ B hml hv
  obtain ⟨rfl, hsz, hP, hK, hD0, hN, hX⟩ := hv
  have hx := B.exec
  have hb := B.bytes
  have hr := B.returns
  have hts := atoms_spec (ws := wsX1_setCut) B.pre
  have hown : s.vm.findClass RX1 = some m.cls := findClass_of_methodNamed B.named
  have hlocks := B.notSynchronized
  have hin1 : ∀ w ∈ wsX10, w ∈ wsX1_setCut := (fun w h => (List.mem_cons_of_mem _ (List.mem_append_right _ h)))
  subst hsz
  have hD := hD0.self (sz := s.heap.size)
  have hAE := k_AE hD0 hX
  generalize hAe : va_A [(h0, .inr (1, f0))] s.heap.size = A at hD hAE ⊢
  have hA : ∀ q : Nat, s.heap.size ≤ q → A q := fun q h => by rw [← hAe]; exact Or.inr h
  have hS : va_S A s.heap s.heap [] := va_S.rf
  have hP : va_P D vwCl [(h0, .inr (1, f0))] s.heap := hP
  have hl := lv_entry ([.ref h0, .int x0, .int x1] : List Value) (n := 3) (Nat.le_of_ble_eq_true rfl)
  rw [lg_entry_eq]
  generalize (lg_sl ([.ref h0, .int x0, .int x1]) ++ List.replicate (3 - (lg_sl ([.ref h0, .int x0, .int x1])).length) Slot.unset).toArray = ls at hl ⊢
  have hl : lv_has ls 3 [(0, .ref h0), (1, .int x0), (2, .int x1)] := hl
  refine lv_aload_n hx hb dX1_setCut_0 rfl (lv_at hl 0 rfl) ?_
  refine lv_iload_n hx hb dX1_setCut_1 rfl (lv_at hl 1 rfl) ?_
  refine va_put (D := D) (ref := "IntegerHouse$Disk") (ci := 1) (v := .int x0) (ty := .int) (C := RX1) (T := TX1) (N := 9) hx hb hts hin1 tyX1 tyX1_ok nmX1 hown hK hP hD hS 0 rfl rfl 6 (by decide) (hts (.fieldLink RX1 25 "IntegerHouse$Disk" "cutAt" "I") (List.mem_cons_of_mem _ (List.mem_append_left _ (List.mem_of_getElem? (i := 0) rfl)))) (fun _ h9 => h9) rfl (by decide +kernel) rfl rfl (k_len e0) dX1_setCut_2 (fun H locs hP hD hS => ?_)
  have hP : va_P D vwCl [(h0, .inr (1, (f0.set 6 (.int x0))))] H := hP
  have hD : va_D A [(h0, .inr (1, (f0.set 6 (.int x0))))] := hD
  refine lv_aload_n hx hb dX1_setCut_5 rfl (lv_at hl 0 rfl) ?_
  refine lv_iload_n hx hb dX1_setCut_6 rfl (lv_at hl 2 rfl) ?_
  refine va_put (D := D) (ref := "IntegerHouse$Disk") (ci := 1) (v := .int x1) (ty := .int) (C := RX1) (T := TX1) (N := 9) hx hb hts hin1 tyX1 tyX1_ok nmX1 hown hK hP hD hS 0 rfl rfl 7 (by decide) (hts (.fieldLink RX1 37 "IntegerHouse$Disk" "tear" "I") (List.mem_cons_of_mem _ (List.mem_append_left _ (List.mem_of_getElem? (i := 1) rfl)))) (fun _ h9 => h9) rfl (by decide +kernel) rfl rfl (k_len (k_ne (by decide) e1)) dX1_setCut_7 (fun H locs hP hD hS => ?_)
  have hP : va_P D vwCl [(h0, .inr (1, ((f0.set 6 (.int x0)).set 7 (.int x1))))] H := hP
  have hD : va_D A [(h0, .inr (1, ((f0.set 6 (.int x0)).set 7 (.int x1))))] := hD
  exact W.vret hx hb hr (fun t ht hW => ⟨⟨(), rfl, trivial, kB_mk ht hW hP hK hD⟩, hS.F ht⟩) hS.2.2 dX1_setCut_10
set_option maxHeartbeats 400000000 in
set_option maxRecDepth 100000 in
theorem c_X11_cut_0 (l : Launch) (E : kE) (D : va_G) (cI cJ cB cZ : ClassId) (h0 : Nat) (x0 : Int32) (x1 : Int32) (f0 : List Value) (h1 : Nat) (f1 : List Value) (e0 : f0[1]? = some (.ref h1)) (e1 : f1[8]? = some (.int 0)) (e2 : ¬ ((x0 : Int32) < (-1))) (e3 : (x0 : Int32) < 2001) (e4 : ¬ ((x1 : Int32) < 0)) (e5 : (x1 : Int32) < 256) (e6 : f1[6]? = some (.int (-1))) (e7 : f1[7]? = some (.int 0)) : kI l E D (kT cI cJ cB cZ) yX11_cut wsX11_cut ({ frames := 1, cells := 0, slots := 0, locals := 22 }) [.ref h0, .int x0, .int x1] [(h0, .inr (11, f0)), (h1, .inr (1, f1))] (1) [(h0, .inr (11, f0)), (h1, .inr (1, ((f1.set 6 (.int x0)).set 7 (.int x1))))] 0 0 := by
  intro sz
  refine Met.ofW (cc := cX11_cut) (maxL := 3) (ret := (some .int)) (by decide) rfl ?_
  intro p e s m args below meth c s₁ B hml hv
  obtain ⟨rfl, hsz, hP, hK, hD0, hN, hX⟩ := hv
  have hx := B.exec
  have hb := B.bytes
  have hr := B.returns
  have hts := atoms_spec (ws := wsX11_cut) B.pre
  have hown : s.vm.findClass RX11 = some m.cls := findClass_of_methodNamed B.named
  have hlocks := B.notSynchronized
  have hin11 : ∀ w ∈ wsX110, w ∈ wsX11_cut := (fun w h => (List.mem_cons_of_mem _ (List.mem_append_left _ (List.mem_append_right _ h))))
  have hin1 : ∀ w ∈ wsX10, w ∈ wsX11_cut := (fun w h => (List.mem_cons_of_mem _ (List.mem_append_right _ h)))
  subst hsz
  have hD := hD0.self (sz := s.heap.size)
  have hAE := k_AE hD0 hX
  generalize hAe : va_A [(h0, .inr (11, f0)), (h1, .inr (1, f1))] s.heap.size = A at hD hAE ⊢
  have hA : ∀ q : Nat, s.heap.size ≤ q → A q := fun q h => by rw [← hAe]; exact Or.inr h
  have hS : va_S A s.heap s.heap [] := va_S.rf
  have hP : va_P D vwCl [(h0, .inr (11, f0)), (h1, .inr (1, f1))] s.heap := hP
  have hl := lv_entry ([.ref h0, .int x0, .int x1] : List Value) (n := 3) (Nat.le_of_ble_eq_true rfl)
  rw [lg_entry_eq]
  generalize (lg_sl ([.ref h0, .int x0, .int x1]) ++ List.replicate (3 - (lg_sl ([.ref h0, .int x0, .int x1])).length) Slot.unset).toArray = ls at hl ⊢
  have hl : lv_has ls 3 [(0, .ref h0), (1, .int x0), (2, .int x1)] := hl
  refine lv_aload_n hx hb dX11_cut_0 rfl (lv_at hl 0 rfl) ?_
  refine va_get (D := D) (ref := "IntegerHouse") (ci := 11) (v := .ref h1) (C := RX11) (T := TX11) (N := 15) hx hb hts hin11 hown hK hP 0 rfl rfl 1 (by decide) (hts (.fieldLink RX11 16 "IntegerHouse" "disk" "LIntegerHouse$Disk;") (List.mem_cons_of_mem _ (List.mem_append_left _ (List.mem_append_left _ (List.mem_of_getElem? (i := 0) rfl))))) (fun _ h9 => h9) e0 dX11_cut_1 ?_
  refine va_getN (host := "IntegerHouse") (D := D) (ref := "IntegerHouse$Disk") (ci := 1) (v := .int 0) (C := RX1) (T := TX1) (N := 9) hx hb hts hin1 hown hK hP 1 rfl rfl 8 (by decide) (va_Nw.use rfl (hN.1 ("IntegerHouse", 122, "IntegerHouse$Disk", "down", "Z", "IntegerHouse") (List.mem_of_getElem? (i := 3) rfl))) (fun _ h9 => h9) e1 dX11_cut_4 ?_
  refine lv_if_eq (tgt := 13) hx hb dX11_cut_7 (by decide) (fun _ => ?_) (fun c9 => absurd (by decide) c9)
  refine lv_iload_n hx hb dX11_cut_13 rfl (lv_at hl 1 rfl) ?_
  refine lv_iconst (v := (-1)) hx hb dX11_cut_14 (by decide) ?_
  refine lv_icmp_lt (tgt := 36) hx hb dX11_cut_15 (by decide) (fun c9 => absurd c9 e2) (fun _ => ?_)
  refine lv_iload_n hx hb dX11_cut_18 rfl (lv_at hl 1 rfl) ?_
  refine lv_sipush (v := 2000) hx hb dX11_cut_19 (by decide) ?_
  refine lv_icmp_gt (tgt := 36) hx hb dX11_cut_22 (by decide) (fun c9 => absurd c9 (fun z9 => (k_n3 (x := x0) (c := 2000) (d := 2001) (by decide)).mp z9 e3)) (fun _ => ?_)
  refine lv_iload_n hx hb dX11_cut_25 rfl (lv_at hl 2 rfl) ?_
  refine lv_if_lt (tgt := 36) hx hb dX11_cut_26 (by decide) (fun c9 => absurd c9 e4) (fun _ => ?_)
  refine lv_iload_n hx hb dX11_cut_29 rfl (lv_at hl 2 rfl) ?_
  refine lv_sipush (v := 255) hx hb dX11_cut_30 (by decide) ?_
  refine lv_icmp_le (tgt := 39) hx hb dX11_cut_33 (by decide) (fun _ => ?_) (fun c9 => absurd ((k_n1 (x := x1) (c := 255) (d := 256) (by decide)).mpr e5) c9)
  refine lv_aload_n hx hb dX11_cut_39 rfl (lv_at hl 0 rfl) ?_
  refine va_get (D := D) (ref := "IntegerHouse") (ci := 11) (v := .ref h1) (C := RX11) (T := TX11) (N := 15) hx hb hts hin11 hown hK hP 0 rfl rfl 1 (by decide) (hts (.fieldLink RX11 16 "IntegerHouse" "disk" "LIntegerHouse$Disk;") (List.mem_cons_of_mem _ (List.mem_append_left _ (List.mem_append_left _ (List.mem_of_getElem? (i := 0) rfl))))) (fun _ h9 => h9) e0 dX11_cut_40 ?_
  refine lv_iload_n hx hb dX11_cut_43 rfl (lv_at hl 1 rfl) ?_
  refine lv_iload_n hx hb dX11_cut_44 rfl (lv_at hl 2 rfl) ?_
  refine k_cVv (As := [.int x0, .int x1]) (rest := []) (wc := [(h1, .inr (1, f1))]) (wr := [(h0, .inr (11, f0))]) (w1 := (fun _ : Unit => [(h1, .inr (1, ((f1.set 6 (.int x0)).set 7 (.int x1))))])) ⟨hx, hb, hml, hown, hts⟩ hN hX hAE hK hP hD hS hA [1] [0] (ci := 1) rfl rfl rfl rfl (by decide +kernel) (by decide +kernel) (by decide +kernel) (c_X1_setCut_0 l E D cI cJ cB cZ h1 x0 x1 f1 e6 e7) (cwV 2 hts gX11_cut_X1_setCut rfl rfl rfl (by decide +kernel) ⟨Nat.le_of_ble_eq_true rfl, Nat.le_of_ble_eq_true rfl⟩) rfl hl.1 (Nat.le_of_ble_eq_true rfl) dX11_cut_45 ⟨Nat.le_of_ble_eq_true rfl, Nat.le_of_ble_eq_true rfl⟩ (fun _ H locs hP hD hS => ?_)
  have hP : va_P D vwCl [(h0, .inr (11, f0)), (h1, .inr (1, ((f1.set 6 (.int x0)).set 7 (.int x1))))] H := hP
  have hD : va_D A [(h0, .inr (11, f0)), (h1, .inr (1, ((f1.set 6 (.int x0)).set 7 (.int x1))))] := hD
  refine lv_iconst (v := 1) hx hb dX11_cut_48 (by decide) ?_
  exact W.iret (v := 1) hx hb hr (fun t ht hW => ⟨⟨1, (), rfl, rfl, kB_mk ht hW hP hK hD⟩, hS.F ht⟩) hS.2.2 dX11_cut_49
set_option maxHeartbeats 400000000 in
set_option maxRecDepth 100000 in
theorem c_X12_in_3 (l : Launch) (E : kE) (D : va_G) (cI cJ cB cZ : ClassId) (y0 : Int64) (e0 : ¬ (((lg_cmp y0 (-1)) : Int32) < 0)) (e1 : ¬ ((0 : Int32) < (lg_cmp y0 2000))) : kI l E D (kT cI cJ cB cZ) yX12_in wsX12_in ({ frames := 0, cells := 0, slots := 0, locals := 0 }) [.long y0, .long (-1), .long 2000] [] (1) [] 0 0 := by
  intro sz
  refine Met.ofW (cc := cX12_in) (maxL := 6) (ret := (some .boolean)) (by decide) rfl ?_
  intro p e s m args below meth c s₁ B hml hv
  obtain ⟨rfl, hsz, hP, hK, hD0, hN, hX⟩ := hv
  have hx := B.exec
  have hb := B.bytes
  have hr := B.returns
  have hts := atoms_spec (ws := wsX12_in) B.pre
  have hown : s.vm.findClass RX12 = some m.cls := findClass_of_methodNamed B.named
  have hlocks := B.notSynchronized
  subst hsz
  have hD := hD0.self (sz := s.heap.size)
  have hAE := k_AE hD0 hX
  generalize hAe : va_A [] s.heap.size = A at hD hAE ⊢
  have hA : ∀ q : Nat, s.heap.size ≤ q → A q := fun q h => by rw [← hAe]; exact Or.inr h
  have hS : va_S A s.heap s.heap [] := va_S.rf
  have hP : va_P D vwCl [] s.heap := hP
  have hl := lv_entry ([.long y0, .long (-1), .long 2000] : List Value) (n := 6) (Nat.le_of_ble_eq_true rfl)
  rw [lg_entry_eq]
  generalize (lg_sl ([.long y0, .long (-1), .long 2000]) ++ List.replicate (6 - (lg_sl ([.long y0, .long (-1), .long 2000])).length) Slot.unset).toArray = ls at hl ⊢
  have hl : lv_has ls 6 [(0, .long y0), (2, .long (-1)), (4, .long 2000)] := hl
  refine lv_lload_n hx hb dX12_in_0 rfl (lv_at hl 0 rfl) ?_
  refine lv_lload_n hx hb dX12_in_1 rfl (lv_at hl 1 rfl) ?_
  refine W.lcmp hx hb dX12_in_2 ?_
  refine lv_if_lt (tgt := 17) hx hb dX12_in_3 (by decide) (fun c9 => absurd c9 e0) (fun _ => ?_)
  refine lv_lload_n hx hb dX12_in_6 rfl (lv_at hl 0 rfl) ?_
  refine lv_lload hx hb dX12_in_7 (lv_at hl 2 rfl) ?_
  refine W.lcmp hx hb dX12_in_9 ?_
  refine lv_if_gt (tgt := 17) hx hb dX12_in_10 (by decide) (fun c9 => absurd c9 e1) (fun _ => ?_)
  refine lv_iconst (v := 1) hx hb dX12_in_13 (by decide) ?_
  refine lv_goto (tgt := 18) hx hb dX12_in_14 (by decide) ?_
  exact W.zret (v := 1) hx hb hr rfl (fun t ht hW => ⟨⟨1, (), rfl, rfl, kB_mk ht hW hP hK hD⟩, hS.F ht⟩) hS.2.2 dX12_in_18
set_option maxHeartbeats 400000000 in
set_option maxRecDepth 100000 in
theorem c_X12_in_4 (l : Launch) (E : kE) (D : va_G) (cI cJ cB cZ : ClassId) (y0 : Int64) (e0 : ¬ (((lg_cmp y0 0) : Int32) < 0)) (e1 : ¬ ((0 : Int32) < (lg_cmp y0 255))) : kI l E D (kT cI cJ cB cZ) yX12_in wsX12_in ({ frames := 0, cells := 0, slots := 0, locals := 0 }) [.long y0, .long 0, .long 255] [] (1) [] 0 0 := by
  intro sz
  refine Met.ofW (cc := cX12_in) (maxL := 6) (ret := (some .boolean)) (by decide) rfl ?_
  intro p e s m args below meth c s₁ B hml hv
  obtain ⟨rfl, hsz, hP, hK, hD0, hN, hX⟩ := hv
  have hx := B.exec
  have hb := B.bytes
  have hr := B.returns
  have hts := atoms_spec (ws := wsX12_in) B.pre
  have hown : s.vm.findClass RX12 = some m.cls := findClass_of_methodNamed B.named
  have hlocks := B.notSynchronized
  subst hsz
  have hD := hD0.self (sz := s.heap.size)
  have hAE := k_AE hD0 hX
  generalize hAe : va_A [] s.heap.size = A at hD hAE ⊢
  have hA : ∀ q : Nat, s.heap.size ≤ q → A q := fun q h => by rw [← hAe]; exact Or.inr h
  have hS : va_S A s.heap s.heap [] := va_S.rf
  have hP : va_P D vwCl [] s.heap := hP
  have hl := lv_entry ([.long y0, .long 0, .long 255] : List Value) (n := 6) (Nat.le_of_ble_eq_true rfl)
  rw [lg_entry_eq]
  generalize (lg_sl ([.long y0, .long 0, .long 255]) ++ List.replicate (6 - (lg_sl ([.long y0, .long 0, .long 255])).length) Slot.unset).toArray = ls at hl ⊢
  have hl : lv_has ls 6 [(0, .long y0), (2, .long 0), (4, .long 255)] := hl
  refine lv_lload_n hx hb dX12_in_0 rfl (lv_at hl 0 rfl) ?_
  refine lv_lload_n hx hb dX12_in_1 rfl (lv_at hl 1 rfl) ?_
  refine W.lcmp hx hb dX12_in_2 ?_
  refine lv_if_lt (tgt := 17) hx hb dX12_in_3 (by decide) (fun c9 => absurd c9 e0) (fun _ => ?_)
  refine lv_lload_n hx hb dX12_in_6 rfl (lv_at hl 0 rfl) ?_
  refine lv_lload hx hb dX12_in_7 (lv_at hl 2 rfl) ?_
  refine W.lcmp hx hb dX12_in_9 ?_
  refine lv_if_gt (tgt := 17) hx hb dX12_in_10 (by decide) (fun c9 => absurd c9 e1) (fun _ => ?_)
  refine lv_iconst (v := 1) hx hb dX12_in_13 (by decide) ?_
  refine lv_goto (tgt := 18) hx hb dX12_in_14 (by decide) ?_
  exact W.zret (v := 1) hx hb hr rfl (fun t ht hW => ⟨⟨1, (), rfl, rfl, kB_mk ht hW hP hK hD⟩, hS.F ht⟩) hS.2.2 dX12_in_18
set_option maxHeartbeats 400000000 in
set_option maxRecDepth 100000 in
theorem c_X12_cut_0 (l : Launch) (E : kE) (D : va_G) (cI cJ cB cZ : ClassId) (h0 : Nat) (x0 : Int32) (x1 : Int32) (f0 : List Value) (e0 : f0[0]? = some (.int 0)) (e1 : f0[5]? = some (.int 0)) (e2 : ¬ ((x0 : Int32) < (-1))) (e3 : (x0 : Int32) < 2001) (e4 : ¬ ((x1 : Int32) < 0)) (e5 : (x1 : Int32) < 256) (e6 : f0[6]? = some (.int (-1))) (e7 : f0[7]? = some (.int 0)) : kI l E D (kT cI cJ cB cZ) yX12_cut wsX12_cut ({ frames := 1, cells := 0, slots := 0, locals := 25 }) [.ref h0, .int x0, .int x1] [(h0, .inr (12, f0))] (1) [(h0, .inr (12, (((f0.set 0 (.int 0)).set 6 (.int x0)).set 7 (.int x1))))] 0 0 := by
  intro sz
  refine Met.ofW (cc := cX12_cut) (maxL := 3) (ret := (some .int)) (by decide) rfl ?_
  intro p e s m args below meth c s₁ B hml hv
  obtain ⟨rfl, hsz, hP, hK, hD0, hN, hX⟩ := hv
  have hx := B.exec
  have hb := B.bytes
  have hr := B.returns
  have hts := atoms_spec (ws := wsX12_cut) B.pre
  have hown : s.vm.findClass RX12 = some m.cls := findClass_of_methodNamed B.named
  have hlocks := B.notSynchronized
  have hin12 : ∀ w ∈ wsX120, w ∈ wsX12_cut := (fun w h => (List.mem_cons_of_mem _ (List.mem_append_right _ h)))
  subst hsz
  have hD := hD0.self (sz := s.heap.size)
  have hAE := k_AE hD0 hX
  generalize hAe : va_A [(h0, .inr (12, f0))] s.heap.size = A at hD hAE ⊢
  have hA : ∀ q : Nat, s.heap.size ≤ q → A q := fun q h => by rw [← hAe]; exact Or.inr h
  have hS : va_S A s.heap s.heap [] := va_S.rf
  have hP : va_P D vwCl [(h0, .inr (12, f0))] s.heap := hP
  have hl := lv_entry ([.ref h0, .int x0, .int x1] : List Value) (n := 3) (Nat.le_of_ble_eq_true rfl)
  rw [lg_entry_eq]
  generalize (lg_sl ([.ref h0, .int x0, .int x1]) ++ List.replicate (3 - (lg_sl ([.ref h0, .int x0, .int x1])).length) Slot.unset).toArray = ls at hl ⊢
  have hl : lv_has ls 3 [(0, .ref h0), (1, .int x0), (2, .int x1)] := hl
  refine lv_aload_n hx hb dX12_cut_0 rfl (lv_at hl 0 rfl) ?_
  refine lv_iconst (v := 0) hx hb dX12_cut_1 (by decide) ?_
  refine va_put (D := D) (ref := "IntegerHouseModel") (ci := 12) (v := .int 0) (ty := .int) (C := RX12) (T := TX12) (N := 195) hx hb hts hin12 tyX12 tyX12_ok nmX12 hown hK hP hD hS 0 rfl rfl 0 (by decide) (hts (.fieldLink RX12 3 "IntegerHouseModel" "thrown" "I") (List.mem_cons_of_mem _ (List.mem_append_left _ (List.mem_of_getElem? (i := 0) rfl)))) (fun _ h9 => h9) rfl (by decide +kernel) rfl rfl (k_len e0) dX12_cut_2 (fun H locs hP hD hS => ?_)
  have hP : va_P D vwCl [(h0, .inr (12, (f0.set 0 (.int 0))))] H := hP
  have hD : va_D A [(h0, .inr (12, (f0.set 0 (.int 0))))] := hD
  refine lv_aload_n hx hb dX12_cut_5 rfl (lv_at hl 0 rfl) ?_
  refine va_get (D := D) (ref := "IntegerHouseModel") (ci := 12) (v := .int 0) (C := RX12) (T := TX12) (N := 195) hx hb hts hin12 hown hK hP 0 rfl rfl 5 (by decide) (hts (.fieldLink RX12 488 "IntegerHouseModel" "down" "Z") (List.mem_cons_of_mem _ (List.mem_append_left _ (List.mem_of_getElem? (i := 1) rfl)))) (fun _ h9 => h9) (k_ne (by decide) e1) dX12_cut_6 ?_
  refine lv_if_eq (tgt := 15) hx hb dX12_cut_9 (by decide) (fun _ => ?_) (fun c9 => absurd (by decide) c9)
  refine lv_iload_n hx hb dX12_cut_15 rfl (lv_at hl 1 rfl) ?_
  refine lv_i2l (v := (Int32.toInt64 x0)) hx hb dX12_cut_16 rfl ?_
  refine lv_ldc2 (own := RX12) (index := 526) (v := (-1)) hx hb hown (hts (.constantLong RX12 526 (-1)) (List.mem_cons_of_mem _ (List.mem_append_left _ (List.mem_of_getElem? (i := 2) rfl)))) dX12_cut_17 ?_
  refine lv_ldc2 (own := RX12) (index := 528) (v := 2000) hx hb hown (hts (.constantLong RX12 528 (2000)) (List.mem_cons_of_mem _ (List.mem_append_left _ (List.mem_of_getElem? (i := 3) rfl)))) dX12_cut_20 ?_
  refine k_cSi (As := [.long (Int32.toInt64 x0), .long (-1), .long 2000]) (rest := []) (wc := []) (wr := [(h0, .inr (12, (f0.set 0 (.int 0))))]) (w1 := []) ⟨hx, hb, hml, hown, hts⟩ hN hX hAE hK hP hD hS hA [] [0] rfl rfl (by decide +kernel) (by decide +kernel) (by decide +kernel) (c_X12_in_3 l E D cI cJ cB cZ (Int32.toInt64 x0) (fun z9 => e2 ((k_n4 (x := x0) (c := (-1)) (C := (-1)) (by decide)).mp z9)) (fun z9 => (k_n5 (x := x0) (c := 2000) (d := 2001) (C := 2000) (by decide) (by decide)).mp z9 e3)) (va_cwS 3 hts gX12_cut_X12_in rfl rfl rfl (by decide +kernel) ⟨Nat.le_of_ble_eq_true rfl, Nat.le_of_ble_eq_true rfl⟩) rfl hl.1 (Nat.le_of_ble_eq_true rfl) dX12_cut_23 ⟨Nat.le_of_ble_eq_true rfl, Nat.le_of_ble_eq_true rfl⟩ (fun H locs hP hD hS => ?_)
  have hP : va_P D vwCl [(h0, .inr (12, (f0.set 0 (.int 0))))] H := hP
  have hD : va_D A [(h0, .inr (12, (f0.set 0 (.int 0))))] := hD
  refine lv_if_eq (tgt := 41) hx hb dX12_cut_26 (by decide) (fun c9 => absurd c9 (by decide)) (fun _ => ?_)
  refine lv_iload_n hx hb dX12_cut_29 rfl (lv_at hl 2 rfl) ?_
  refine lv_i2l (v := (Int32.toInt64 x1)) hx hb dX12_cut_30 rfl ?_
  refine lv_lconst (v := 0) hx hb dX12_cut_31 (by decide) ?_
  refine lv_ldc2 (own := RX12) (index := 530) (v := 255) hx hb hown (hts (.constantLong RX12 530 (255)) (List.mem_cons_of_mem _ (List.mem_append_left _ (List.mem_of_getElem? (i := 4) rfl)))) dX12_cut_32 ?_
  refine k_cSi (As := [.long (Int32.toInt64 x1), .long 0, .long 255]) (rest := []) (wc := []) (wr := [(h0, .inr (12, (f0.set 0 (.int 0))))]) (w1 := []) ⟨hx, hb, hml, hown, hts⟩ hN hX hAE hK hP hD hS hA [] [0] rfl rfl (by decide +kernel) (by decide +kernel) (by decide +kernel) (c_X12_in_4 l E D cI cJ cB cZ (Int32.toInt64 x1) (fun z9 => e4 ((k_n4 (x := x1) (c := 0) (C := 0) (by decide)).mp z9)) (fun z9 => (k_n5 (x := x1) (c := 255) (d := 256) (C := 255) (by decide) (by decide)).mp z9 e5)) (va_cwS 3 hts gX12_cut_X12_in rfl rfl rfl (by decide +kernel) ⟨Nat.le_of_ble_eq_true rfl, Nat.le_of_ble_eq_true rfl⟩) rfl hl.1 (Nat.le_of_ble_eq_true rfl) dX12_cut_35 ⟨Nat.le_of_ble_eq_true rfl, Nat.le_of_ble_eq_true rfl⟩ (fun H locs hP hD hS => ?_)
  have hP : va_P D vwCl [(h0, .inr (12, (f0.set 0 (.int 0))))] H := hP
  have hD : va_D A [(h0, .inr (12, (f0.set 0 (.int 0))))] := hD
  refine lv_if_ne (tgt := 44) hx hb dX12_cut_38 (by decide) (fun _ => ?_) (fun c9 => absurd c9 (by decide))
  refine lv_aload_n hx hb dX12_cut_44 rfl (lv_at hl 0 rfl) ?_
  refine lv_iload_n hx hb dX12_cut_45 rfl (lv_at hl 1 rfl) ?_
  refine va_put (D := D) (ref := "IntegerHouseModel") (ci := 12) (v := .int x0) (ty := .int) (C := RX12) (T := TX12) (N := 195) hx hb hts hin12 tyX12 tyX12_ok nmX12 hown hK hP hD hS 0 rfl rfl 6 (by decide) (hts (.fieldLink RX12 22 "IntegerHouseModel" "cutAt" "I") (List.mem_cons_of_mem _ (List.mem_append_left _ (List.mem_of_getElem? (i := 5) rfl)))) (fun _ h9 => h9) rfl (by decide +kernel) rfl rfl (k_len (k_ne (by decide) e6)) dX12_cut_46 (fun H locs hP hD hS => ?_)
  have hP : va_P D vwCl [(h0, .inr (12, ((f0.set 0 (.int 0)).set 6 (.int x0))))] H := hP
  have hD : va_D A [(h0, .inr (12, ((f0.set 0 (.int 0)).set 6 (.int x0))))] := hD
  refine lv_aload_n hx hb dX12_cut_49 rfl (lv_at hl 0 rfl) ?_
  refine lv_iload_n hx hb dX12_cut_50 rfl (lv_at hl 2 rfl) ?_
  refine va_put (D := D) (ref := "IntegerHouseModel") (ci := 12) (v := .int x1) (ty := .int) (C := RX12) (T := TX12) (N := 195) hx hb hts hin12 tyX12 tyX12_ok nmX12 hown hK hP hD hS 0 rfl rfl 7 (by decide) (hts (.fieldLink RX12 523 "IntegerHouseModel" "tear" "I") (List.mem_cons_of_mem _ (List.mem_append_left _ (List.mem_of_getElem? (i := 6) rfl)))) (fun _ h9 => h9) rfl (by decide +kernel) rfl rfl (k_len (k_ne (by decide) (k_ne (by decide) e7))) dX12_cut_51 (fun H locs hP hD hS => ?_)
  have hP : va_P D vwCl [(h0, .inr (12, (((f0.set 0 (.int 0)).set 6 (.int x0)).set 7 (.int x1))))] H := hP
  have hD : va_D A [(h0, .inr (12, (((f0.set 0 (.int 0)).set 6 (.int x0)).set 7 (.int x1))))] := hD
  refine lv_iconst (v := 1) hx hb dX12_cut_54 (by decide) ?_
  exact W.iret (v := 1) hx hb hr (fun t ht hW => ⟨⟨1, (), rfl, rfl, kB_mk ht hW hP hK hD⟩, hS.F ht⟩) hS.2.2 dX12_cut_55
set_option maxHeartbeats 400000000 in
set_option maxRecDepth 100000 in
theorem c_X11_cut_1 (l : Launch) (E : kE) (D : va_G) (cI cJ cB cZ : ClassId) (h0 : Nat) (x0 : Int32) (x1 : Int32) (f0 : List Value) (h1 : Nat) (f1 : List Value) (e0 : f0[1]? = some (.ref h1)) (e1 : f1[8]? = some (.int 0)) (e2 : (x0 : Int32) < (-1)) : kI l E D (kT cI cJ cB cZ) yX11_cut wsX11_cut ({ frames := 0, cells := 0, slots := 0, locals := 0 }) [.ref h0, .int x0, .int x1] [(h0, .inr (11, f0)), (h1, .inr (1, f1))] ((-102)) [(h0, .inr (11, f0)), (h1, .inr (1, f1))] 0 0 := by
  intro sz
  refine Met.ofW (cc := cX11_cut) (maxL := 3) (ret := (some .int)) (by decide) rfl ?_
  intro p e s m args below meth c s₁ B hml hv
  obtain ⟨rfl, hsz, hP, hK, hD0, hN, hX⟩ := hv
  have hx := B.exec
  have hb := B.bytes
  have hr := B.returns
  have hts := atoms_spec (ws := wsX11_cut) B.pre
  have hown : s.vm.findClass RX11 = some m.cls := findClass_of_methodNamed B.named
  have hlocks := B.notSynchronized
  have hin11 : ∀ w ∈ wsX110, w ∈ wsX11_cut := (fun w h => (List.mem_cons_of_mem _ (List.mem_append_left _ (List.mem_append_right _ h))))
  have hin1 : ∀ w ∈ wsX10, w ∈ wsX11_cut := (fun w h => (List.mem_cons_of_mem _ (List.mem_append_right _ h)))
  subst hsz
  have hD := hD0.self (sz := s.heap.size)
  have hAE := k_AE hD0 hX
  generalize hAe : va_A [(h0, .inr (11, f0)), (h1, .inr (1, f1))] s.heap.size = A at hD hAE ⊢
  have hA : ∀ q : Nat, s.heap.size ≤ q → A q := fun q h => by rw [← hAe]; exact Or.inr h
  have hS : va_S A s.heap s.heap [] := va_S.rf
  have hP : va_P D vwCl [(h0, .inr (11, f0)), (h1, .inr (1, f1))] s.heap := hP
  have hl := lv_entry ([.ref h0, .int x0, .int x1] : List Value) (n := 3) (Nat.le_of_ble_eq_true rfl)
  rw [lg_entry_eq]
  generalize (lg_sl ([.ref h0, .int x0, .int x1]) ++ List.replicate (3 - (lg_sl ([.ref h0, .int x0, .int x1])).length) Slot.unset).toArray = ls at hl ⊢
  have hl : lv_has ls 3 [(0, .ref h0), (1, .int x0), (2, .int x1)] := hl
  refine lv_aload_n hx hb dX11_cut_0 rfl (lv_at hl 0 rfl) ?_
  refine va_get (D := D) (ref := "IntegerHouse") (ci := 11) (v := .ref h1) (C := RX11) (T := TX11) (N := 15) hx hb hts hin11 hown hK hP 0 rfl rfl 1 (by decide) (hts (.fieldLink RX11 16 "IntegerHouse" "disk" "LIntegerHouse$Disk;") (List.mem_cons_of_mem _ (List.mem_append_left _ (List.mem_append_left _ (List.mem_of_getElem? (i := 0) rfl))))) (fun _ h9 => h9) e0 dX11_cut_1 ?_
  refine va_getN (host := "IntegerHouse") (D := D) (ref := "IntegerHouse$Disk") (ci := 1) (v := .int 0) (C := RX1) (T := TX1) (N := 9) hx hb hts hin1 hown hK hP 1 rfl rfl 8 (by decide) (va_Nw.use rfl (hN.1 ("IntegerHouse", 122, "IntegerHouse$Disk", "down", "Z", "IntegerHouse") (List.mem_of_getElem? (i := 3) rfl))) (fun _ h9 => h9) e1 dX11_cut_4 ?_
  refine lv_if_eq (tgt := 13) hx hb dX11_cut_7 (by decide) (fun _ => ?_) (fun c9 => absurd (by decide) c9)
  refine lv_iload_n hx hb dX11_cut_13 rfl (lv_at hl 1 rfl) ?_
  refine lv_iconst (v := (-1)) hx hb dX11_cut_14 (by decide) ?_
  refine lv_icmp_lt (tgt := 36) hx hb dX11_cut_15 (by decide) (fun _ => ?_) (fun c9 => absurd e2 c9)
  refine lv_bipush (v := (-102)) hx hb dX11_cut_36 (by decide) ?_
  exact W.iret (v := (-102)) hx hb hr (fun t ht hW => ⟨⟨(-102), (), rfl, rfl, kB_mk ht hW hP hK hD⟩, hS.F ht⟩) hS.2.2 dX11_cut_38
set_option maxHeartbeats 400000000 in
set_option maxRecDepth 100000 in
theorem c_X12_in_5 (l : Launch) (E : kE) (D : va_G) (cI cJ cB cZ : ClassId) (y0 : Int64) (e0 : ((lg_cmp y0 (-1)) : Int32) < 0) : kI l E D (kT cI cJ cB cZ) yX12_in wsX12_in ({ frames := 0, cells := 0, slots := 0, locals := 0 }) [.long y0, .long (-1), .long 2000] [] (0) [] 0 0 := by
  intro sz
  refine Met.ofW (cc := cX12_in) (maxL := 6) (ret := (some .boolean)) (by decide) rfl ?_
  intro p e s m args below meth c s₁ B hml hv
  obtain ⟨rfl, hsz, hP, hK, hD0, hN, hX⟩ := hv
  have hx := B.exec
  have hb := B.bytes
  have hr := B.returns
  have hts := atoms_spec (ws := wsX12_in) B.pre
  have hown : s.vm.findClass RX12 = some m.cls := findClass_of_methodNamed B.named
  have hlocks := B.notSynchronized
  subst hsz
  have hD := hD0.self (sz := s.heap.size)
  have hAE := k_AE hD0 hX
  generalize hAe : va_A [] s.heap.size = A at hD hAE ⊢
  have hA : ∀ q : Nat, s.heap.size ≤ q → A q := fun q h => by rw [← hAe]; exact Or.inr h
  have hS : va_S A s.heap s.heap [] := va_S.rf
  have hP : va_P D vwCl [] s.heap := hP
  have hl := lv_entry ([.long y0, .long (-1), .long 2000] : List Value) (n := 6) (Nat.le_of_ble_eq_true rfl)
  rw [lg_entry_eq]
  generalize (lg_sl ([.long y0, .long (-1), .long 2000]) ++ List.replicate (6 - (lg_sl ([.long y0, .long (-1), .long 2000])).length) Slot.unset).toArray = ls at hl ⊢
  have hl : lv_has ls 6 [(0, .long y0), (2, .long (-1)), (4, .long 2000)] := hl
  refine lv_lload_n hx hb dX12_in_0 rfl (lv_at hl 0 rfl) ?_
  refine lv_lload_n hx hb dX12_in_1 rfl (lv_at hl 1 rfl) ?_
  refine W.lcmp hx hb dX12_in_2 ?_
  refine lv_if_lt (tgt := 17) hx hb dX12_in_3 (by decide) (fun _ => ?_) (fun c9 => absurd e0 c9)
  refine lv_iconst (v := 0) hx hb dX12_in_17 (by decide) ?_
  exact W.zret (v := 0) hx hb hr rfl (fun t ht hW => ⟨⟨0, (), rfl, rfl, kB_mk ht hW hP hK hD⟩, hS.F ht⟩) hS.2.2 dX12_in_18
set_option maxHeartbeats 400000000 in
set_option maxRecDepth 100000 in
theorem c_X12_cut_1 (l : Launch) (E : kE) (D : va_G) (cI cJ cB cZ : ClassId) (h0 : Nat) (x0 : Int32) (x1 : Int32) (f0 : List Value) (e0 : f0[0]? = some (.int 0)) (e1 : f0[5]? = some (.int 0)) (e2 : (x0 : Int32) < (-1)) : kI l E D (kT cI cJ cB cZ) yX12_cut wsX12_cut ({ frames := 1, cells := 0, slots := 0, locals := 25 }) [.ref h0, .int x0, .int x1] [(h0, .inr (12, f0))] ((-102)) [(h0, .inr (12, (f0.set 0 (.int 0))))] 0 0 := by
  intro sz
  refine Met.ofW (cc := cX12_cut) (maxL := 3) (ret := (some .int)) (by decide) rfl ?_
  intro p e s m args below meth c s₁ B hml hv
  obtain ⟨rfl, hsz, hP, hK, hD0, hN, hX⟩ := hv
  have hx := B.exec
  have hb := B.bytes
  have hr := B.returns
  have hts := atoms_spec (ws := wsX12_cut) B.pre
  have hown : s.vm.findClass RX12 = some m.cls := findClass_of_methodNamed B.named
  have hlocks := B.notSynchronized
  have hin12 : ∀ w ∈ wsX120, w ∈ wsX12_cut := (fun w h => (List.mem_cons_of_mem _ (List.mem_append_right _ h)))
  subst hsz
  have hD := hD0.self (sz := s.heap.size)
  have hAE := k_AE hD0 hX
  generalize hAe : va_A [(h0, .inr (12, f0))] s.heap.size = A at hD hAE ⊢
  have hA : ∀ q : Nat, s.heap.size ≤ q → A q := fun q h => by rw [← hAe]; exact Or.inr h
  have hS : va_S A s.heap s.heap [] := va_S.rf
  have hP : va_P D vwCl [(h0, .inr (12, f0))] s.heap := hP
  have hl := lv_entry ([.ref h0, .int x0, .int x1] : List Value) (n := 3) (Nat.le_of_ble_eq_true rfl)
  rw [lg_entry_eq]
  generalize (lg_sl ([.ref h0, .int x0, .int x1]) ++ List.replicate (3 - (lg_sl ([.ref h0, .int x0, .int x1])).length) Slot.unset).toArray = ls at hl ⊢
  have hl : lv_has ls 3 [(0, .ref h0), (1, .int x0), (2, .int x1)] := hl
  refine lv_aload_n hx hb dX12_cut_0 rfl (lv_at hl 0 rfl) ?_
  refine lv_iconst (v := 0) hx hb dX12_cut_1 (by decide) ?_
  refine va_put (D := D) (ref := "IntegerHouseModel") (ci := 12) (v := .int 0) (ty := .int) (C := RX12) (T := TX12) (N := 195) hx hb hts hin12 tyX12 tyX12_ok nmX12 hown hK hP hD hS 0 rfl rfl 0 (by decide) (hts (.fieldLink RX12 3 "IntegerHouseModel" "thrown" "I") (List.mem_cons_of_mem _ (List.mem_append_left _ (List.mem_of_getElem? (i := 0) rfl)))) (fun _ h9 => h9) rfl (by decide +kernel) rfl rfl (k_len e0) dX12_cut_2 (fun H locs hP hD hS => ?_)
  have hP : va_P D vwCl [(h0, .inr (12, (f0.set 0 (.int 0))))] H := hP
  have hD : va_D A [(h0, .inr (12, (f0.set 0 (.int 0))))] := hD
  refine lv_aload_n hx hb dX12_cut_5 rfl (lv_at hl 0 rfl) ?_
  refine va_get (D := D) (ref := "IntegerHouseModel") (ci := 12) (v := .int 0) (C := RX12) (T := TX12) (N := 195) hx hb hts hin12 hown hK hP 0 rfl rfl 5 (by decide) (hts (.fieldLink RX12 488 "IntegerHouseModel" "down" "Z") (List.mem_cons_of_mem _ (List.mem_append_left _ (List.mem_of_getElem? (i := 1) rfl)))) (fun _ h9 => h9) (k_ne (by decide) e1) dX12_cut_6 ?_
  refine lv_if_eq (tgt := 15) hx hb dX12_cut_9 (by decide) (fun _ => ?_) (fun c9 => absurd (by decide) c9)
  refine lv_iload_n hx hb dX12_cut_15 rfl (lv_at hl 1 rfl) ?_
  refine lv_i2l (v := (Int32.toInt64 x0)) hx hb dX12_cut_16 rfl ?_
  refine lv_ldc2 (own := RX12) (index := 526) (v := (-1)) hx hb hown (hts (.constantLong RX12 526 (-1)) (List.mem_cons_of_mem _ (List.mem_append_left _ (List.mem_of_getElem? (i := 2) rfl)))) dX12_cut_17 ?_
  refine lv_ldc2 (own := RX12) (index := 528) (v := 2000) hx hb hown (hts (.constantLong RX12 528 (2000)) (List.mem_cons_of_mem _ (List.mem_append_left _ (List.mem_of_getElem? (i := 3) rfl)))) dX12_cut_20 ?_
  refine k_cSi (As := [.long (Int32.toInt64 x0), .long (-1), .long 2000]) (rest := []) (wc := []) (wr := [(h0, .inr (12, (f0.set 0 (.int 0))))]) (w1 := []) ⟨hx, hb, hml, hown, hts⟩ hN hX hAE hK hP hD hS hA [] [0] rfl rfl (by decide +kernel) (by decide +kernel) (by decide +kernel) (c_X12_in_5 l E D cI cJ cB cZ (Int32.toInt64 x0) ((k_n4 (x := x0) (c := (-1)) (C := (-1)) (by decide)).mpr e2)) (va_cwS 3 hts gX12_cut_X12_in rfl rfl rfl (by decide +kernel) ⟨Nat.le_of_ble_eq_true rfl, Nat.le_of_ble_eq_true rfl⟩) rfl hl.1 (Nat.le_of_ble_eq_true rfl) dX12_cut_23 ⟨Nat.le_of_ble_eq_true rfl, Nat.le_of_ble_eq_true rfl⟩ (fun H locs hP hD hS => ?_)
  have hP : va_P D vwCl [(h0, .inr (12, (f0.set 0 (.int 0))))] H := hP
  have hD : va_D A [(h0, .inr (12, (f0.set 0 (.int 0))))] := hD
  refine lv_if_eq (tgt := 41) hx hb dX12_cut_26 (by decide) (fun _ => ?_) (fun c9 => absurd (by decide) c9)
  refine lv_bipush (v := (-102)) hx hb dX12_cut_41 (by decide) ?_
  exact W.iret (v := (-102)) hx hb hr (fun t ht hW => ⟨⟨(-102), (), rfl, rfl, kB_mk ht hW hP hK hD⟩, hS.F ht⟩) hS.2.2 dX12_cut_43
set_option maxHeartbeats 400000000 in
set_option maxRecDepth 100000 in
theorem c_X11_cut_2 (l : Launch) (E : kE) (D : va_G) (cI cJ cB cZ : ClassId) (h0 : Nat) (x0 : Int32) (x1 : Int32) (f0 : List Value) (h1 : Nat) (f1 : List Value) (e0 : f0[1]? = some (.ref h1)) (e1 : f1[8]? = some (.int 0)) (e2 : ¬ ((x0 : Int32) < (-1))) (e3 : (x0 : Int32) < 2001) (e4 : (x1 : Int32) < 0) : kI l E D (kT cI cJ cB cZ) yX11_cut wsX11_cut ({ frames := 0, cells := 0, slots := 0, locals := 0 }) [.ref h0, .int x0, .int x1] [(h0, .inr (11, f0)), (h1, .inr (1, f1))] ((-102)) [(h0, .inr (11, f0)), (h1, .inr (1, f1))] 0 0 := by
  intro sz
  refine Met.ofW (cc := cX11_cut) (maxL := 3) (ret := (some .int)) (by decide) rfl ?_
  intro p e s m args below meth c s₁ B hml hv
  obtain ⟨rfl, hsz, hP, hK, hD0, hN, hX⟩ := hv
  have hx := B.exec
  have hb := B.bytes
  have hr := B.returns
  have hts := atoms_spec (ws := wsX11_cut) B.pre
  have hown : s.vm.findClass RX11 = some m.cls := findClass_of_methodNamed B.named
  have hlocks := B.notSynchronized
  have hin11 : ∀ w ∈ wsX110, w ∈ wsX11_cut := (fun w h => (List.mem_cons_of_mem _ (List.mem_append_left _ (List.mem_append_right _ h))))
  have hin1 : ∀ w ∈ wsX10, w ∈ wsX11_cut := (fun w h => (List.mem_cons_of_mem _ (List.mem_append_right _ h)))
  subst hsz
  have hD := hD0.self (sz := s.heap.size)
  have hAE := k_AE hD0 hX
  generalize hAe : va_A [(h0, .inr (11, f0)), (h1, .inr (1, f1))] s.heap.size = A at hD hAE ⊢
  have hA : ∀ q : Nat, s.heap.size ≤ q → A q := fun q h => by rw [← hAe]; exact Or.inr h
  have hS : va_S A s.heap s.heap [] := va_S.rf
  have hP : va_P D vwCl [(h0, .inr (11, f0)), (h1, .inr (1, f1))] s.heap := hP
  have hl := lv_entry ([.ref h0, .int x0, .int x1] : List Value) (n := 3) (Nat.le_of_ble_eq_true rfl)
  rw [lg_entry_eq]
  generalize (lg_sl ([.ref h0, .int x0, .int x1]) ++ List.replicate (3 - (lg_sl ([.ref h0, .int x0, .int x1])).length) Slot.unset).toArray = ls at hl ⊢
  have hl : lv_has ls 3 [(0, .ref h0), (1, .int x0), (2, .int x1)] := hl
  refine lv_aload_n hx hb dX11_cut_0 rfl (lv_at hl 0 rfl) ?_
  refine va_get (D := D) (ref := "IntegerHouse") (ci := 11) (v := .ref h1) (C := RX11) (T := TX11) (N := 15) hx hb hts hin11 hown hK hP 0 rfl rfl 1 (by decide) (hts (.fieldLink RX11 16 "IntegerHouse" "disk" "LIntegerHouse$Disk;") (List.mem_cons_of_mem _ (List.mem_append_left _ (List.mem_append_left _ (List.mem_of_getElem? (i := 0) rfl))))) (fun _ h9 => h9) e0 dX11_cut_1 ?_
  refine va_getN (host := "IntegerHouse") (D := D) (ref := "IntegerHouse$Disk") (ci := 1) (v := .int 0) (C := RX1) (T := TX1) (N := 9) hx hb hts hin1 hown hK hP 1 rfl rfl 8 (by decide) (va_Nw.use rfl (hN.1 ("IntegerHouse", 122, "IntegerHouse$Disk", "down", "Z", "IntegerHouse") (List.mem_of_getElem? (i := 3) rfl))) (fun _ h9 => h9) e1 dX11_cut_4 ?_
  refine lv_if_eq (tgt := 13) hx hb dX11_cut_7 (by decide) (fun _ => ?_) (fun c9 => absurd (by decide) c9)
  refine lv_iload_n hx hb dX11_cut_13 rfl (lv_at hl 1 rfl) ?_
  refine lv_iconst (v := (-1)) hx hb dX11_cut_14 (by decide) ?_
  refine lv_icmp_lt (tgt := 36) hx hb dX11_cut_15 (by decide) (fun c9 => absurd c9 e2) (fun _ => ?_)
  refine lv_iload_n hx hb dX11_cut_18 rfl (lv_at hl 1 rfl) ?_
  refine lv_sipush (v := 2000) hx hb dX11_cut_19 (by decide) ?_
  refine lv_icmp_gt (tgt := 36) hx hb dX11_cut_22 (by decide) (fun c9 => absurd c9 (fun z9 => (k_n3 (x := x0) (c := 2000) (d := 2001) (by decide)).mp z9 e3)) (fun _ => ?_)
  refine lv_iload_n hx hb dX11_cut_25 rfl (lv_at hl 2 rfl) ?_
  refine lv_if_lt (tgt := 36) hx hb dX11_cut_26 (by decide) (fun _ => ?_) (fun c9 => absurd e4 c9)
  refine lv_bipush (v := (-102)) hx hb dX11_cut_36 (by decide) ?_
  exact W.iret (v := (-102)) hx hb hr (fun t ht hW => ⟨⟨(-102), (), rfl, rfl, kB_mk ht hW hP hK hD⟩, hS.F ht⟩) hS.2.2 dX11_cut_38
set_option maxHeartbeats 400000000 in
set_option maxRecDepth 100000 in
theorem c_X12_in_6 (l : Launch) (E : kE) (D : va_G) (cI cJ cB cZ : ClassId) (y0 : Int64) (e0 : ((lg_cmp y0 0) : Int32) < 0) : kI l E D (kT cI cJ cB cZ) yX12_in wsX12_in ({ frames := 0, cells := 0, slots := 0, locals := 0 }) [.long y0, .long 0, .long 255] [] (0) [] 0 0 := by
  intro sz
  refine Met.ofW (cc := cX12_in) (maxL := 6) (ret := (some .boolean)) (by decide) rfl ?_
  intro p e s m args below meth c s₁ B hml hv
  obtain ⟨rfl, hsz, hP, hK, hD0, hN, hX⟩ := hv
  have hx := B.exec
  have hb := B.bytes
  have hr := B.returns
  have hts := atoms_spec (ws := wsX12_in) B.pre
  have hown : s.vm.findClass RX12 = some m.cls := findClass_of_methodNamed B.named
  have hlocks := B.notSynchronized
  subst hsz
  have hD := hD0.self (sz := s.heap.size)
  have hAE := k_AE hD0 hX
  generalize hAe : va_A [] s.heap.size = A at hD hAE ⊢
  have hA : ∀ q : Nat, s.heap.size ≤ q → A q := fun q h => by rw [← hAe]; exact Or.inr h
  have hS : va_S A s.heap s.heap [] := va_S.rf
  have hP : va_P D vwCl [] s.heap := hP
  have hl := lv_entry ([.long y0, .long 0, .long 255] : List Value) (n := 6) (Nat.le_of_ble_eq_true rfl)
  rw [lg_entry_eq]
  generalize (lg_sl ([.long y0, .long 0, .long 255]) ++ List.replicate (6 - (lg_sl ([.long y0, .long 0, .long 255])).length) Slot.unset).toArray = ls at hl ⊢
  have hl : lv_has ls 6 [(0, .long y0), (2, .long 0), (4, .long 255)] := hl
  refine lv_lload_n hx hb dX12_in_0 rfl (lv_at hl 0 rfl) ?_
  refine lv_lload_n hx hb dX12_in_1 rfl (lv_at hl 1 rfl) ?_
  refine W.lcmp hx hb dX12_in_2 ?_
  refine lv_if_lt (tgt := 17) hx hb dX12_in_3 (by decide) (fun _ => ?_) (fun c9 => absurd e0 c9)
  refine lv_iconst (v := 0) hx hb dX12_in_17 (by decide) ?_
  exact W.zret (v := 0) hx hb hr rfl (fun t ht hW => ⟨⟨0, (), rfl, rfl, kB_mk ht hW hP hK hD⟩, hS.F ht⟩) hS.2.2 dX12_in_18
set_option maxHeartbeats 400000000 in
set_option maxRecDepth 100000 in
theorem c_X12_cut_2 (l : Launch) (E : kE) (D : va_G) (cI cJ cB cZ : ClassId) (h0 : Nat) (x0 : Int32) (x1 : Int32) (f0 : List Value) (e0 : f0[0]? = some (.int 0)) (e1 : f0[5]? = some (.int 0)) (e2 : ¬ ((x0 : Int32) < (-1))) (e3 : (x0 : Int32) < 2001) (e4 : (x1 : Int32) < 0) : kI l E D (kT cI cJ cB cZ) yX12_cut wsX12_cut ({ frames := 1, cells := 0, slots := 0, locals := 25 }) [.ref h0, .int x0, .int x1] [(h0, .inr (12, f0))] ((-102)) [(h0, .inr (12, (f0.set 0 (.int 0))))] 0 0 := by
  intro sz
  refine Met.ofW (cc := cX12_cut) (maxL := 3) (ret := (some .int)) (by decide) rfl ?_
  intro p e s m args below meth c s₁ B hml hv
  obtain ⟨rfl, hsz, hP, hK, hD0, hN, hX⟩ := hv
  have hx := B.exec
  have hb := B.bytes
  have hr := B.returns
  have hts := atoms_spec (ws := wsX12_cut) B.pre
  have hown : s.vm.findClass RX12 = some m.cls := findClass_of_methodNamed B.named
  have hlocks := B.notSynchronized
  have hin12 : ∀ w ∈ wsX120, w ∈ wsX12_cut := (fun w h => (List.mem_cons_of_mem _ (List.mem_append_right _ h)))
  subst hsz
  have hD := hD0.self (sz := s.heap.size)
  have hAE := k_AE hD0 hX
  generalize hAe : va_A [(h0, .inr (12, f0))] s.heap.size = A at hD hAE ⊢
  have hA : ∀ q : Nat, s.heap.size ≤ q → A q := fun q h => by rw [← hAe]; exact Or.inr h
  have hS : va_S A s.heap s.heap [] := va_S.rf
  have hP : va_P D vwCl [(h0, .inr (12, f0))] s.heap := hP
  have hl := lv_entry ([.ref h0, .int x0, .int x1] : List Value) (n := 3) (Nat.le_of_ble_eq_true rfl)
  rw [lg_entry_eq]
  generalize (lg_sl ([.ref h0, .int x0, .int x1]) ++ List.replicate (3 - (lg_sl ([.ref h0, .int x0, .int x1])).length) Slot.unset).toArray = ls at hl ⊢
  have hl : lv_has ls 3 [(0, .ref h0), (1, .int x0), (2, .int x1)] := hl
  refine lv_aload_n hx hb dX12_cut_0 rfl (lv_at hl 0 rfl) ?_
  refine lv_iconst (v := 0) hx hb dX12_cut_1 (by decide) ?_
  refine va_put (D := D) (ref := "IntegerHouseModel") (ci := 12) (v := .int 0) (ty := .int) (C := RX12) (T := TX12) (N := 195) hx hb hts hin12 tyX12 tyX12_ok nmX12 hown hK hP hD hS 0 rfl rfl 0 (by decide) (hts (.fieldLink RX12 3 "IntegerHouseModel" "thrown" "I") (List.mem_cons_of_mem _ (List.mem_append_left _ (List.mem_of_getElem? (i := 0) rfl)))) (fun _ h9 => h9) rfl (by decide +kernel) rfl rfl (k_len e0) dX12_cut_2 (fun H locs hP hD hS => ?_)
  have hP : va_P D vwCl [(h0, .inr (12, (f0.set 0 (.int 0))))] H := hP
  have hD : va_D A [(h0, .inr (12, (f0.set 0 (.int 0))))] := hD
  refine lv_aload_n hx hb dX12_cut_5 rfl (lv_at hl 0 rfl) ?_
  refine va_get (D := D) (ref := "IntegerHouseModel") (ci := 12) (v := .int 0) (C := RX12) (T := TX12) (N := 195) hx hb hts hin12 hown hK hP 0 rfl rfl 5 (by decide) (hts (.fieldLink RX12 488 "IntegerHouseModel" "down" "Z") (List.mem_cons_of_mem _ (List.mem_append_left _ (List.mem_of_getElem? (i := 1) rfl)))) (fun _ h9 => h9) (k_ne (by decide) e1) dX12_cut_6 ?_
  refine lv_if_eq (tgt := 15) hx hb dX12_cut_9 (by decide) (fun _ => ?_) (fun c9 => absurd (by decide) c9)
  refine lv_iload_n hx hb dX12_cut_15 rfl (lv_at hl 1 rfl) ?_
  refine lv_i2l (v := (Int32.toInt64 x0)) hx hb dX12_cut_16 rfl ?_
  refine lv_ldc2 (own := RX12) (index := 526) (v := (-1)) hx hb hown (hts (.constantLong RX12 526 (-1)) (List.mem_cons_of_mem _ (List.mem_append_left _ (List.mem_of_getElem? (i := 2) rfl)))) dX12_cut_17 ?_
  refine lv_ldc2 (own := RX12) (index := 528) (v := 2000) hx hb hown (hts (.constantLong RX12 528 (2000)) (List.mem_cons_of_mem _ (List.mem_append_left _ (List.mem_of_getElem? (i := 3) rfl)))) dX12_cut_20 ?_
  refine k_cSi (As := [.long (Int32.toInt64 x0), .long (-1), .long 2000]) (rest := []) (wc := []) (wr := [(h0, .inr (12, (f0.set 0 (.int 0))))]) (w1 := []) ⟨hx, hb, hml, hown, hts⟩ hN hX hAE hK hP hD hS hA [] [0] rfl rfl (by decide +kernel) (by decide +kernel) (by decide +kernel) (c_X12_in_3 l E D cI cJ cB cZ (Int32.toInt64 x0) (fun z9 => e2 ((k_n4 (x := x0) (c := (-1)) (C := (-1)) (by decide)).mp z9)) (fun z9 => (k_n5 (x := x0) (c := 2000) (d := 2001) (C := 2000) (by decide) (by decide)).mp z9 e3)) (va_cwS 3 hts gX12_cut_X12_in rfl rfl rfl (by decide +kernel) ⟨Nat.le_of_ble_eq_true rfl, Nat.le_of_ble_eq_true rfl⟩) rfl hl.1 (Nat.le_of_ble_eq_true rfl) dX12_cut_23 ⟨Nat.le_of_ble_eq_true rfl, Nat.le_of_ble_eq_true rfl⟩ (fun H locs hP hD hS => ?_)
  have hP : va_P D vwCl [(h0, .inr (12, (f0.set 0 (.int 0))))] H := hP
  have hD : va_D A [(h0, .inr (12, (f0.set 0 (.int 0))))] := hD
  refine lv_if_eq (tgt := 41) hx hb dX12_cut_26 (by decide) (fun c9 => absurd c9 (by decide)) (fun _ => ?_)
  refine lv_iload_n hx hb dX12_cut_29 rfl (lv_at hl 2 rfl) ?_
  refine lv_i2l (v := (Int32.toInt64 x1)) hx hb dX12_cut_30 rfl ?_
  refine lv_lconst (v := 0) hx hb dX12_cut_31 (by decide) ?_
  refine lv_ldc2 (own := RX12) (index := 530) (v := 255) hx hb hown (hts (.constantLong RX12 530 (255)) (List.mem_cons_of_mem _ (List.mem_append_left _ (List.mem_of_getElem? (i := 4) rfl)))) dX12_cut_32 ?_
  refine k_cSi (As := [.long (Int32.toInt64 x1), .long 0, .long 255]) (rest := []) (wc := []) (wr := [(h0, .inr (12, (f0.set 0 (.int 0))))]) (w1 := []) ⟨hx, hb, hml, hown, hts⟩ hN hX hAE hK hP hD hS hA [] [0] rfl rfl (by decide +kernel) (by decide +kernel) (by decide +kernel) (c_X12_in_6 l E D cI cJ cB cZ (Int32.toInt64 x1) ((k_n4 (x := x1) (c := 0) (C := 0) (by decide)).mpr e4)) (va_cwS 3 hts gX12_cut_X12_in rfl rfl rfl (by decide +kernel) ⟨Nat.le_of_ble_eq_true rfl, Nat.le_of_ble_eq_true rfl⟩) rfl hl.1 (Nat.le_of_ble_eq_true rfl) dX12_cut_35 ⟨Nat.le_of_ble_eq_true rfl, Nat.le_of_ble_eq_true rfl⟩ (fun H locs hP hD hS => ?_)
  have hP : va_P D vwCl [(h0, .inr (12, (f0.set 0 (.int 0))))] H := hP
  have hD : va_D A [(h0, .inr (12, (f0.set 0 (.int 0))))] := hD
  refine lv_if_ne (tgt := 44) hx hb dX12_cut_38 (by decide) (fun c9 => absurd (by decide) c9) (fun _ => ?_)
  refine lv_bipush (v := (-102)) hx hb dX12_cut_41 (by decide) ?_
  exact W.iret (v := (-102)) hx hb hr (fun t ht hW => ⟨⟨(-102), (), rfl, rfl, kB_mk ht hW hP hK hD⟩, hS.F ht⟩) hS.2.2 dX12_cut_43
set_option maxHeartbeats 400000000 in
set_option maxRecDepth 100000 in
theorem c_X11_cut_3 (l : Launch) (E : kE) (D : va_G) (cI cJ cB cZ : ClassId) (h0 : Nat) (x0 : Int32) (x1 : Int32) (f0 : List Value) (h1 : Nat) (f1 : List Value) (e0 : f0[1]? = some (.ref h1)) (e1 : f1[8]? = some (.int 0)) (e2 : ¬ ((x0 : Int32) < (-1))) (e3 : (x0 : Int32) < 2001) (e4 : ¬ ((x1 : Int32) < 0)) (e5 : ¬ ((x1 : Int32) < 256)) : kI l E D (kT cI cJ cB cZ) yX11_cut wsX11_cut ({ frames := 0, cells := 0, slots := 0, locals := 0 }) [.ref h0, .int x0, .int x1] [(h0, .inr (11, f0)), (h1, .inr (1, f1))] ((-102)) [(h0, .inr (11, f0)), (h1, .inr (1, f1))] 0 0 := by
  intro sz
  refine Met.ofW (cc := cX11_cut) (maxL := 3) (ret := (some .int)) (by decide) rfl ?_
  intro p e s m args below meth c s₁ B hml hv
  obtain ⟨rfl, hsz, hP, hK, hD0, hN, hX⟩ := hv
  have hx := B.exec
  have hb := B.bytes
  have hr := B.returns
  have hts := atoms_spec (ws := wsX11_cut) B.pre
  have hown : s.vm.findClass RX11 = some m.cls := findClass_of_methodNamed B.named
  have hlocks := B.notSynchronized
  have hin11 : ∀ w ∈ wsX110, w ∈ wsX11_cut := (fun w h => (List.mem_cons_of_mem _ (List.mem_append_left _ (List.mem_append_right _ h))))
  have hin1 : ∀ w ∈ wsX10, w ∈ wsX11_cut := (fun w h => (List.mem_cons_of_mem _ (List.mem_append_right _ h)))
  subst hsz
  have hD := hD0.self (sz := s.heap.size)
  have hAE := k_AE hD0 hX
  generalize hAe : va_A [(h0, .inr (11, f0)), (h1, .inr (1, f1))] s.heap.size = A at hD hAE ⊢
  have hA : ∀ q : Nat, s.heap.size ≤ q → A q := fun q h => by rw [← hAe]; exact Or.inr h
  have hS : va_S A s.heap s.heap [] := va_S.rf
  have hP : va_P D vwCl [(h0, .inr (11, f0)), (h1, .inr (1, f1))] s.heap := hP
  have hl := lv_entry ([.ref h0, .int x0, .int x1] : List Value) (n := 3) (Nat.le_of_ble_eq_true rfl)
  rw [lg_entry_eq]
  generalize (lg_sl ([.ref h0, .int x0, .int x1]) ++ List.replicate (3 - (lg_sl ([.ref h0, .int x0, .int x1])).length) Slot.unset).toArray = ls at hl ⊢
  have hl : lv_has ls 3 [(0, .ref h0), (1, .int x0), (2, .int x1)] := hl
  refine lv_aload_n hx hb dX11_cut_0 rfl (lv_at hl 0 rfl) ?_
  refine va_get (D := D) (ref := "IntegerHouse") (ci := 11) (v := .ref h1) (C := RX11) (T := TX11) (N := 15) hx hb hts hin11 hown hK hP 0 rfl rfl 1 (by decide) (hts (.fieldLink RX11 16 "IntegerHouse" "disk" "LIntegerHouse$Disk;") (List.mem_cons_of_mem _ (List.mem_append_left _ (List.mem_append_left _ (List.mem_of_getElem? (i := 0) rfl))))) (fun _ h9 => h9) e0 dX11_cut_1 ?_
  refine va_getN (host := "IntegerHouse") (D := D) (ref := "IntegerHouse$Disk") (ci := 1) (v := .int 0) (C := RX1) (T := TX1) (N := 9) hx hb hts hin1 hown hK hP 1 rfl rfl 8 (by decide) (va_Nw.use rfl (hN.1 ("IntegerHouse", 122, "IntegerHouse$Disk", "down", "Z", "IntegerHouse") (List.mem_of_getElem? (i := 3) rfl))) (fun _ h9 => h9) e1 dX11_cut_4 ?_
  refine lv_if_eq (tgt := 13) hx hb dX11_cut_7 (by decide) (fun _ => ?_) (fun c9 => absurd (by decide) c9)
  refine lv_iload_n hx hb dX11_cut_13 rfl (lv_at hl 1 rfl) ?_
  refine lv_iconst (v := (-1)) hx hb dX11_cut_14 (by decide) ?_
  refine lv_icmp_lt (tgt := 36) hx hb dX11_cut_15 (by decide) (fun c9 => absurd c9 e2) (fun _ => ?_)
  refine lv_iload_n hx hb dX11_cut_18 rfl (lv_at hl 1 rfl) ?_
  refine lv_sipush (v := 2000) hx hb dX11_cut_19 (by decide) ?_
  refine lv_icmp_gt (tgt := 36) hx hb dX11_cut_22 (by decide) (fun c9 => absurd c9 (fun z9 => (k_n3 (x := x0) (c := 2000) (d := 2001) (by decide)).mp z9 e3)) (fun _ => ?_)
  refine lv_iload_n hx hb dX11_cut_25 rfl (lv_at hl 2 rfl) ?_
  refine lv_if_lt (tgt := 36) hx hb dX11_cut_26 (by decide) (fun c9 => absurd c9 e4) (fun _ => ?_)
  refine lv_iload_n hx hb dX11_cut_29 rfl (lv_at hl 2 rfl) ?_
  refine lv_sipush (v := 255) hx hb dX11_cut_30 (by decide) ?_
  refine lv_icmp_le (tgt := 39) hx hb dX11_cut_33 (by decide) (fun c9 => absurd c9 (fun z9 => e5 ((k_n1 (x := x1) (c := 255) (d := 256) (by decide)).mp z9))) (fun _ => ?_)
  refine lv_bipush (v := (-102)) hx hb dX11_cut_36 (by decide) ?_
  exact W.iret (v := (-102)) hx hb hr (fun t ht hW => ⟨⟨(-102), (), rfl, rfl, kB_mk ht hW hP hK hD⟩, hS.F ht⟩) hS.2.2 dX11_cut_38
set_option maxHeartbeats 400000000 in
set_option maxRecDepth 100000 in
theorem c_X12_in_7 (l : Launch) (E : kE) (D : va_G) (cI cJ cB cZ : ClassId) (y0 : Int64) (e0 : ¬ (((lg_cmp y0 0) : Int32) < 0)) (e1 : (0 : Int32) < (lg_cmp y0 255)) : kI l E D (kT cI cJ cB cZ) yX12_in wsX12_in ({ frames := 0, cells := 0, slots := 0, locals := 0 }) [.long y0, .long 0, .long 255] [] (0) [] 0 0 := by
  intro sz
  refine Met.ofW (cc := cX12_in) (maxL := 6) (ret := (some .boolean)) (by decide) rfl ?_
  intro p e s m args below meth c s₁ B hml hv
  obtain ⟨rfl, hsz, hP, hK, hD0, hN, hX⟩ := hv
  have hx := B.exec
  have hb := B.bytes
  have hr := B.returns
  have hts := atoms_spec (ws := wsX12_in) B.pre
  have hown : s.vm.findClass RX12 = some m.cls := findClass_of_methodNamed B.named
  have hlocks := B.notSynchronized
  subst hsz
  have hD := hD0.self (sz := s.heap.size)
  have hAE := k_AE hD0 hX
  generalize hAe : va_A [] s.heap.size = A at hD hAE ⊢
  have hA : ∀ q : Nat, s.heap.size ≤ q → A q := fun q h => by rw [← hAe]; exact Or.inr h
  have hS : va_S A s.heap s.heap [] := va_S.rf
  have hP : va_P D vwCl [] s.heap := hP
  have hl := lv_entry ([.long y0, .long 0, .long 255] : List Value) (n := 6) (Nat.le_of_ble_eq_true rfl)
  rw [lg_entry_eq]
  generalize (lg_sl ([.long y0, .long 0, .long 255]) ++ List.replicate (6 - (lg_sl ([.long y0, .long 0, .long 255])).length) Slot.unset).toArray = ls at hl ⊢
  have hl : lv_has ls 6 [(0, .long y0), (2, .long 0), (4, .long 255)] := hl
  refine lv_lload_n hx hb dX12_in_0 rfl (lv_at hl 0 rfl) ?_
  refine lv_lload_n hx hb dX12_in_1 rfl (lv_at hl 1 rfl) ?_
  refine W.lcmp hx hb dX12_in_2 ?_
  refine lv_if_lt (tgt := 17) hx hb dX12_in_3 (by decide) (fun c9 => absurd c9 e0) (fun _ => ?_)
  refine lv_lload_n hx hb dX12_in_6 rfl (lv_at hl 0 rfl) ?_
  refine lv_lload hx hb dX12_in_7 (lv_at hl 2 rfl) ?_
  refine W.lcmp hx hb dX12_in_9 ?_
  refine lv_if_gt (tgt := 17) hx hb dX12_in_10 (by decide) (fun _ => ?_) (fun c9 => absurd e1 c9)
  refine lv_iconst (v := 0) hx hb dX12_in_17 (by decide) ?_
  exact W.zret (v := 0) hx hb hr rfl (fun t ht hW => ⟨⟨0, (), rfl, rfl, kB_mk ht hW hP hK hD⟩, hS.F ht⟩) hS.2.2 dX12_in_18
set_option maxHeartbeats 400000000 in
set_option maxRecDepth 100000 in
theorem c_X12_cut_3 (l : Launch) (E : kE) (D : va_G) (cI cJ cB cZ : ClassId) (h0 : Nat) (x0 : Int32) (x1 : Int32) (f0 : List Value) (e0 : f0[0]? = some (.int 0)) (e1 : f0[5]? = some (.int 0)) (e2 : ¬ ((x0 : Int32) < (-1))) (e3 : (x0 : Int32) < 2001) (e4 : ¬ ((x1 : Int32) < 0)) (e5 : ¬ ((x1 : Int32) < 256)) : kI l E D (kT cI cJ cB cZ) yX12_cut wsX12_cut ({ frames := 1, cells := 0, slots := 0, locals := 25 }) [.ref h0, .int x0, .int x1] [(h0, .inr (12, f0))] ((-102)) [(h0, .inr (12, (f0.set 0 (.int 0))))] 0 0 := by
  intro sz
  refine Met.ofW (cc := cX12_cut) (maxL := 3) (ret := (some .int)) (by decide) rfl ?_
  intro p e s m args below meth c s₁ B hml hv
  obtain ⟨rfl, hsz, hP, hK, hD0, hN, hX⟩ := hv
  have hx := B.exec
  have hb := B.bytes
  have hr := B.returns
  have hts := atoms_spec (ws := wsX12_cut) B.pre
  have hown : s.vm.findClass RX12 = some m.cls := findClass_of_methodNamed B.named
  have hlocks := B.notSynchronized
  have hin12 : ∀ w ∈ wsX120, w ∈ wsX12_cut := (fun w h => (List.mem_cons_of_mem _ (List.mem_append_right _ h)))
  subst hsz
  have hD := hD0.self (sz := s.heap.size)
  have hAE := k_AE hD0 hX
  generalize hAe : va_A [(h0, .inr (12, f0))] s.heap.size = A at hD hAE ⊢
  have hA : ∀ q : Nat, s.heap.size ≤ q → A q := fun q h => by rw [← hAe]; exact Or.inr h
  have hS : va_S A s.heap s.heap [] := va_S.rf
  have hP : va_P D vwCl [(h0, .inr (12, f0))] s.heap := hP
  have hl := lv_entry ([.ref h0, .int x0, .int x1] : List Value) (n := 3) (Nat.le_of_ble_eq_true rfl)
  rw [lg_entry_eq]
  generalize (lg_sl ([.ref h0, .int x0, .int x1]) ++ List.replicate (3 - (lg_sl ([.ref h0, .int x0, .int x1])).length) Slot.unset).toArray = ls at hl ⊢
  have hl : lv_has ls 3 [(0, .ref h0), (1, .int x0), (2, .int x1)] := hl
  refine lv_aload_n hx hb dX12_cut_0 rfl (lv_at hl 0 rfl) ?_
  refine lv_iconst (v := 0) hx hb dX12_cut_1 (by decide) ?_
  refine va_put (D := D) (ref := "IntegerHouseModel") (ci := 12) (v := .int 0) (ty := .int) (C := RX12) (T := TX12) (N := 195) hx hb hts hin12 tyX12 tyX12_ok nmX12 hown hK hP hD hS 0 rfl rfl 0 (by decide) (hts (.fieldLink RX12 3 "IntegerHouseModel" "thrown" "I") (List.mem_cons_of_mem _ (List.mem_append_left _ (List.mem_of_getElem? (i := 0) rfl)))) (fun _ h9 => h9) rfl (by decide +kernel) rfl rfl (k_len e0) dX12_cut_2 (fun H locs hP hD hS => ?_)
  have hP : va_P D vwCl [(h0, .inr (12, (f0.set 0 (.int 0))))] H := hP
  have hD : va_D A [(h0, .inr (12, (f0.set 0 (.int 0))))] := hD
  refine lv_aload_n hx hb dX12_cut_5 rfl (lv_at hl 0 rfl) ?_
  refine va_get (D := D) (ref := "IntegerHouseModel") (ci := 12) (v := .int 0) (C := RX12) (T := TX12) (N := 195) hx hb hts hin12 hown hK hP 0 rfl rfl 5 (by decide) (hts (.fieldLink RX12 488 "IntegerHouseModel" "down" "Z") (List.mem_cons_of_mem _ (List.mem_append_left _ (List.mem_of_getElem? (i := 1) rfl)))) (fun _ h9 => h9) (k_ne (by decide) e1) dX12_cut_6 ?_
  refine lv_if_eq (tgt := 15) hx hb dX12_cut_9 (by decide) (fun _ => ?_) (fun c9 => absurd (by decide) c9)
  refine lv_iload_n hx hb dX12_cut_15 rfl (lv_at hl 1 rfl) ?_
  refine lv_i2l (v := (Int32.toInt64 x0)) hx hb dX12_cut_16 rfl ?_
  refine lv_ldc2 (own := RX12) (index := 526) (v := (-1)) hx hb hown (hts (.constantLong RX12 526 (-1)) (List.mem_cons_of_mem _ (List.mem_append_left _ (List.mem_of_getElem? (i := 2) rfl)))) dX12_cut_17 ?_
  refine lv_ldc2 (own := RX12) (index := 528) (v := 2000) hx hb hown (hts (.constantLong RX12 528 (2000)) (List.mem_cons_of_mem _ (List.mem_append_left _ (List.mem_of_getElem? (i := 3) rfl)))) dX12_cut_20 ?_
  refine k_cSi (As := [.long (Int32.toInt64 x0), .long (-1), .long 2000]) (rest := []) (wc := []) (wr := [(h0, .inr (12, (f0.set 0 (.int 0))))]) (w1 := []) ⟨hx, hb, hml, hown, hts⟩ hN hX hAE hK hP hD hS hA [] [0] rfl rfl (by decide +kernel) (by decide +kernel) (by decide +kernel) (c_X12_in_3 l E D cI cJ cB cZ (Int32.toInt64 x0) (fun z9 => e2 ((k_n4 (x := x0) (c := (-1)) (C := (-1)) (by decide)).mp z9)) (fun z9 => (k_n5 (x := x0) (c := 2000) (d := 2001) (C := 2000) (by decide) (by decide)).mp z9 e3)) (va_cwS 3 hts gX12_cut_X12_in rfl rfl rfl (by decide +kernel) ⟨Nat.le_of_ble_eq_true rfl, Nat.le_of_ble_eq_true rfl⟩) rfl hl.1 (Nat.le_of_ble_eq_true rfl) dX12_cut_23 ⟨Nat.le_of_ble_eq_true rfl, Nat.le_of_ble_eq_true rfl⟩ (fun H locs hP hD hS => ?_)
  have hP : va_P D vwCl [(h0, .inr (12, (f0.set 0 (.int 0))))] H := hP
  have hD : va_D A [(h0, .inr (12, (f0.set 0 (.int 0))))] := hD
  refine lv_if_eq (tgt := 41) hx hb dX12_cut_26 (by decide) (fun c9 => absurd c9 (by decide)) (fun _ => ?_)
  refine lv_iload_n hx hb dX12_cut_29 rfl (lv_at hl 2 rfl) ?_
  refine lv_i2l (v := (Int32.toInt64 x1)) hx hb dX12_cut_30 rfl ?_
  refine lv_lconst (v := 0) hx hb dX12_cut_31 (by decide) ?_
  refine lv_ldc2 (own := RX12) (index := 530) (v := 255) hx hb hown (hts (.constantLong RX12 530 (255)) (List.mem_cons_of_mem _ (List.mem_append_left _ (List.mem_of_getElem? (i := 4) rfl)))) dX12_cut_32 ?_
  refine k_cSi (As := [.long (Int32.toInt64 x1), .long 0, .long 255]) (rest := []) (wc := []) (wr := [(h0, .inr (12, (f0.set 0 (.int 0))))]) (w1 := []) ⟨hx, hb, hml, hown, hts⟩ hN hX hAE hK hP hD hS hA [] [0] rfl rfl (by decide +kernel) (by decide +kernel) (by decide +kernel) (c_X12_in_7 l E D cI cJ cB cZ (Int32.toInt64 x1) (fun z9 => e4 ((k_n4 (x := x1) (c := 0) (C := 0) (by decide)).mp z9)) ((k_n5 (x := x1) (c := 255) (d := 256) (C := 255) (by decide) (by decide)).mpr e5)) (va_cwS 3 hts gX12_cut_X12_in rfl rfl rfl (by decide +kernel) ⟨Nat.le_of_ble_eq_true rfl, Nat.le_of_ble_eq_true rfl⟩) rfl hl.1 (Nat.le_of_ble_eq_true rfl) dX12_cut_35 ⟨Nat.le_of_ble_eq_true rfl, Nat.le_of_ble_eq_true rfl⟩ (fun H locs hP hD hS => ?_)
  have hP : va_P D vwCl [(h0, .inr (12, (f0.set 0 (.int 0))))] H := hP
  have hD : va_D A [(h0, .inr (12, (f0.set 0 (.int 0))))] := hD
  refine lv_if_ne (tgt := 44) hx hb dX12_cut_38 (by decide) (fun c9 => absurd (by decide) c9) (fun _ => ?_)
  refine lv_bipush (v := (-102)) hx hb dX12_cut_41 (by decide) ?_
  exact W.iret (v := (-102)) hx hb hr (fun t ht hW => ⟨⟨(-102), (), rfl, rfl, kB_mk ht hW hP hK hD⟩, hS.F ht⟩) hS.2.2 dX12_cut_43
set_option maxHeartbeats 400000000 in
set_option maxRecDepth 100000 in
theorem c_X11_cut_4 (l : Launch) (E : kE) (D : va_G) (cI cJ cB cZ : ClassId) (h0 : Nat) (x0 : Int32) (x1 : Int32) (f0 : List Value) (h1 : Nat) (f1 : List Value) (e0 : f0[1]? = some (.ref h1)) (e1 : f1[8]? = some (.int 0)) (e2 : ¬ ((x0 : Int32) < (-1))) (e3 : ¬ ((x0 : Int32) < 2001)) : kI l E D (kT cI cJ cB cZ) yX11_cut wsX11_cut ({ frames := 0, cells := 0, slots := 0, locals := 0 }) [.ref h0, .int x0, .int x1] [(h0, .inr (11, f0)), (h1, .inr (1, f1))] ((-102)) [(h0, .inr (11, f0)), (h1, .inr (1, f1))] 0 0 := by
  intro sz
  refine Met.ofW (cc := cX11_cut) (maxL := 3) (ret := (some .int)) (by decide) rfl ?_
  intro p e s m args below meth c s₁ B hml hv
  obtain ⟨rfl, hsz, hP, hK, hD0, hN, hX⟩ := hv
  have hx := B.exec
  have hb := B.bytes
  have hr := B.returns
  have hts := atoms_spec (ws := wsX11_cut) B.pre
  have hown : s.vm.findClass RX11 = some m.cls := findClass_of_methodNamed B.named
  have hlocks := B.notSynchronized
  have hin11 : ∀ w ∈ wsX110, w ∈ wsX11_cut := (fun w h => (List.mem_cons_of_mem _ (List.mem_append_left _ (List.mem_append_right _ h))))
  have hin1 : ∀ w ∈ wsX10, w ∈ wsX11_cut := (fun w h => (List.mem_cons_of_mem _ (List.mem_append_right _ h)))
  subst hsz
  have hD := hD0.self (sz := s.heap.size)
  have hAE := k_AE hD0 hX
  generalize hAe : va_A [(h0, .inr (11, f0)), (h1, .inr (1, f1))] s.heap.size = A at hD hAE ⊢
  have hA : ∀ q : Nat, s.heap.size ≤ q → A q := fun q h => by rw [← hAe]; exact Or.inr h
  have hS : va_S A s.heap s.heap [] := va_S.rf
  have hP : va_P D vwCl [(h0, .inr (11, f0)), (h1, .inr (1, f1))] s.heap := hP
  have hl := lv_entry ([.ref h0, .int x0, .int x1] : List Value) (n := 3) (Nat.le_of_ble_eq_true rfl)
  rw [lg_entry_eq]
  generalize (lg_sl ([.ref h0, .int x0, .int x1]) ++ List.replicate (3 - (lg_sl ([.ref h0, .int x0, .int x1])).length) Slot.unset).toArray = ls at hl ⊢
  have hl : lv_has ls 3 [(0, .ref h0), (1, .int x0), (2, .int x1)] := hl
  refine lv_aload_n hx hb dX11_cut_0 rfl (lv_at hl 0 rfl) ?_
  refine va_get (D := D) (ref := "IntegerHouse") (ci := 11) (v := .ref h1) (C := RX11) (T := TX11) (N := 15) hx hb hts hin11 hown hK hP 0 rfl rfl 1 (by decide) (hts (.fieldLink RX11 16 "IntegerHouse" "disk" "LIntegerHouse$Disk;") (List.mem_cons_of_mem _ (List.mem_append_left _ (List.mem_append_left _ (List.mem_of_getElem? (i := 0) rfl))))) (fun _ h9 => h9) e0 dX11_cut_1 ?_
  refine va_getN (host := "IntegerHouse") (D := D) (ref := "IntegerHouse$Disk") (ci := 1) (v := .int 0) (C := RX1) (T := TX1) (N := 9) hx hb hts hin1 hown hK hP 1 rfl rfl 8 (by decide) (va_Nw.use rfl (hN.1 ("IntegerHouse", 122, "IntegerHouse$Disk", "down", "Z", "IntegerHouse") (List.mem_of_getElem? (i := 3) rfl))) (fun _ h9 => h9) e1 dX11_cut_4 ?_
  refine lv_if_eq (tgt := 13) hx hb dX11_cut_7 (by decide) (fun _ => ?_) (fun c9 => absurd (by decide) c9)
  refine lv_iload_n hx hb dX11_cut_13 rfl (lv_at hl 1 rfl) ?_
  refine lv_iconst (v := (-1)) hx hb dX11_cut_14 (by decide) ?_
  refine lv_icmp_lt (tgt := 36) hx hb dX11_cut_15 (by decide) (fun c9 => absurd c9 e2) (fun _ => ?_)
  refine lv_iload_n hx hb dX11_cut_18 rfl (lv_at hl 1 rfl) ?_
  refine lv_sipush (v := 2000) hx hb dX11_cut_19 (by decide) ?_
  refine lv_icmp_gt (tgt := 36) hx hb dX11_cut_22 (by decide) (fun _ => ?_) (fun c9 => absurd ((k_n3 (x := x0) (c := 2000) (d := 2001) (by decide)).mpr e3) c9)
  refine lv_bipush (v := (-102)) hx hb dX11_cut_36 (by decide) ?_
  exact W.iret (v := (-102)) hx hb hr (fun t ht hW => ⟨⟨(-102), (), rfl, rfl, kB_mk ht hW hP hK hD⟩, hS.F ht⟩) hS.2.2 dX11_cut_38
set_option maxHeartbeats 400000000 in
set_option maxRecDepth 100000 in
theorem c_X12_in_8 (l : Launch) (E : kE) (D : va_G) (cI cJ cB cZ : ClassId) (y0 : Int64) (e0 : ¬ (((lg_cmp y0 (-1)) : Int32) < 0)) (e1 : (0 : Int32) < (lg_cmp y0 2000)) : kI l E D (kT cI cJ cB cZ) yX12_in wsX12_in ({ frames := 0, cells := 0, slots := 0, locals := 0 }) [.long y0, .long (-1), .long 2000] [] (0) [] 0 0 := by
  intro sz
  refine Met.ofW (cc := cX12_in) (maxL := 6) (ret := (some .boolean)) (by decide) rfl ?_
  intro p e s m args below meth c s₁ B hml hv
  obtain ⟨rfl, hsz, hP, hK, hD0, hN, hX⟩ := hv
  have hx := B.exec
  have hb := B.bytes
  have hr := B.returns
  have hts := atoms_spec (ws := wsX12_in) B.pre
  have hown : s.vm.findClass RX12 = some m.cls := findClass_of_methodNamed B.named
  have hlocks := B.notSynchronized
  subst hsz
  have hD := hD0.self (sz := s.heap.size)
  have hAE := k_AE hD0 hX
  generalize hAe : va_A [] s.heap.size = A at hD hAE ⊢
  have hA : ∀ q : Nat, s.heap.size ≤ q → A q := fun q h => by rw [← hAe]; exact Or.inr h
  have hS : va_S A s.heap s.heap [] := va_S.rf
  have hP : va_P D vwCl [] s.heap := hP
  have hl := lv_entry ([.long y0, .long (-1), .long 2000] : List Value) (n := 6) (Nat.le_of_ble_eq_true rfl)
  rw [lg_entry_eq]
  generalize (lg_sl ([.long y0, .long (-1), .long 2000]) ++ List.replicate (6 - (lg_sl ([.long y0, .long (-1), .long 2000])).length) Slot.unset).toArray = ls at hl ⊢
  have hl : lv_has ls 6 [(0, .long y0), (2, .long (-1)), (4, .long 2000)] := hl
  refine lv_lload_n hx hb dX12_in_0 rfl (lv_at hl 0 rfl) ?_
  refine lv_lload_n hx hb dX12_in_1 rfl (lv_at hl 1 rfl) ?_
  refine W.lcmp hx hb dX12_in_2 ?_
  refine lv_if_lt (tgt := 17) hx hb dX12_in_3 (by decide) (fun c9 => absurd c9 e0) (fun _ => ?_)
  refine lv_lload_n hx hb dX12_in_6 rfl (lv_at hl 0 rfl) ?_
  refine lv_lload hx hb dX12_in_7 (lv_at hl 2 rfl) ?_
  refine W.lcmp hx hb dX12_in_9 ?_
  refine lv_if_gt (tgt := 17) hx hb dX12_in_10 (by decide) (fun _ => ?_) (fun c9 => absurd e1 c9)
  refine lv_iconst (v := 0) hx hb dX12_in_17 (by decide) ?_
  exact W.zret (v := 0) hx hb hr rfl (fun t ht hW => ⟨⟨0, (), rfl, rfl, kB_mk ht hW hP hK hD⟩, hS.F ht⟩) hS.2.2 dX12_in_18
set_option maxHeartbeats 400000000 in
set_option maxRecDepth 100000 in
theorem c_X12_cut_4 (l : Launch) (E : kE) (D : va_G) (cI cJ cB cZ : ClassId) (h0 : Nat) (x0 : Int32) (x1 : Int32) (f0 : List Value) (e0 : f0[0]? = some (.int 0)) (e1 : f0[5]? = some (.int 0)) (e2 : ¬ ((x0 : Int32) < (-1))) (e3 : ¬ ((x0 : Int32) < 2001)) : kI l E D (kT cI cJ cB cZ) yX12_cut wsX12_cut ({ frames := 1, cells := 0, slots := 0, locals := 25 }) [.ref h0, .int x0, .int x1] [(h0, .inr (12, f0))] ((-102)) [(h0, .inr (12, (f0.set 0 (.int 0))))] 0 0 := by
  intro sz
  refine Met.ofW (cc := cX12_cut) (maxL := 3) (ret := (some .int)) (by decide) rfl ?_
  intro p e s m args below meth c s₁ B hml hv
  obtain ⟨rfl, hsz, hP, hK, hD0, hN, hX⟩ := hv
  have hx := B.exec
  have hb := B.bytes
  have hr := B.returns
  have hts := atoms_spec (ws := wsX12_cut) B.pre
  have hown : s.vm.findClass RX12 = some m.cls := findClass_of_methodNamed B.named
  have hlocks := B.notSynchronized
  have hin12 : ∀ w ∈ wsX120, w ∈ wsX12_cut := (fun w h => (List.mem_cons_of_mem _ (List.mem_append_right _ h)))
  subst hsz
  have hD := hD0.self (sz := s.heap.size)
  have hAE := k_AE hD0 hX
  generalize hAe : va_A [(h0, .inr (12, f0))] s.heap.size = A at hD hAE ⊢
  have hA : ∀ q : Nat, s.heap.size ≤ q → A q := fun q h => by rw [← hAe]; exact Or.inr h
  have hS : va_S A s.heap s.heap [] := va_S.rf
  have hP : va_P D vwCl [(h0, .inr (12, f0))] s.heap := hP
  have hl := lv_entry ([.ref h0, .int x0, .int x1] : List Value) (n := 3) (Nat.le_of_ble_eq_true rfl)
  rw [lg_entry_eq]
  generalize (lg_sl ([.ref h0, .int x0, .int x1]) ++ List.replicate (3 - (lg_sl ([.ref h0, .int x0, .int x1])).length) Slot.unset).toArray = ls at hl ⊢
  have hl : lv_has ls 3 [(0, .ref h0), (1, .int x0), (2, .int x1)] := hl
  refine lv_aload_n hx hb dX12_cut_0 rfl (lv_at hl 0 rfl) ?_
  refine lv_iconst (v := 0) hx hb dX12_cut_1 (by decide) ?_
  refine va_put (D := D) (ref := "IntegerHouseModel") (ci := 12) (v := .int 0) (ty := .int) (C := RX12) (T := TX12) (N := 195) hx hb hts hin12 tyX12 tyX12_ok nmX12 hown hK hP hD hS 0 rfl rfl 0 (by decide) (hts (.fieldLink RX12 3 "IntegerHouseModel" "thrown" "I") (List.mem_cons_of_mem _ (List.mem_append_left _ (List.mem_of_getElem? (i := 0) rfl)))) (fun _ h9 => h9) rfl (by decide +kernel) rfl rfl (k_len e0) dX12_cut_2 (fun H locs hP hD hS => ?_)
  have hP : va_P D vwCl [(h0, .inr (12, (f0.set 0 (.int 0))))] H := hP
  have hD : va_D A [(h0, .inr (12, (f0.set 0 (.int 0))))] := hD
  refine lv_aload_n hx hb dX12_cut_5 rfl (lv_at hl 0 rfl) ?_
  refine va_get (D := D) (ref := "IntegerHouseModel") (ci := 12) (v := .int 0) (C := RX12) (T := TX12) (N := 195) hx hb hts hin12 hown hK hP 0 rfl rfl 5 (by decide) (hts (.fieldLink RX12 488 "IntegerHouseModel" "down" "Z") (List.mem_cons_of_mem _ (List.mem_append_left _ (List.mem_of_getElem? (i := 1) rfl)))) (fun _ h9 => h9) (k_ne (by decide) e1) dX12_cut_6 ?_
  refine lv_if_eq (tgt := 15) hx hb dX12_cut_9 (by decide) (fun _ => ?_) (fun c9 => absurd (by decide) c9)
  refine lv_iload_n hx hb dX12_cut_15 rfl (lv_at hl 1 rfl) ?_
  refine lv_i2l (v := (Int32.toInt64 x0)) hx hb dX12_cut_16 rfl ?_
  refine lv_ldc2 (own := RX12) (index := 526) (v := (-1)) hx hb hown (hts (.constantLong RX12 526 (-1)) (List.mem_cons_of_mem _ (List.mem_append_left _ (List.mem_of_getElem? (i := 2) rfl)))) dX12_cut_17 ?_
  refine lv_ldc2 (own := RX12) (index := 528) (v := 2000) hx hb hown (hts (.constantLong RX12 528 (2000)) (List.mem_cons_of_mem _ (List.mem_append_left _ (List.mem_of_getElem? (i := 3) rfl)))) dX12_cut_20 ?_
  refine k_cSi (As := [.long (Int32.toInt64 x0), .long (-1), .long 2000]) (rest := []) (wc := []) (wr := [(h0, .inr (12, (f0.set 0 (.int 0))))]) (w1 := []) ⟨hx, hb, hml, hown, hts⟩ hN hX hAE hK hP hD hS hA [] [0] rfl rfl (by decide +kernel) (by decide +kernel) (by decide +kernel) (c_X12_in_8 l E D cI cJ cB cZ (Int32.toInt64 x0) (fun z9 => e2 ((k_n4 (x := x0) (c := (-1)) (C := (-1)) (by decide)).mp z9)) ((k_n5 (x := x0) (c := 2000) (d := 2001) (C := 2000) (by decide) (by decide)).mpr e3)) (va_cwS 3 hts gX12_cut_X12_in rfl rfl rfl (by decide +kernel) ⟨Nat.le_of_ble_eq_true rfl, Nat.le_of_ble_eq_true rfl⟩) rfl hl.1 (Nat.le_of_ble_eq_true rfl) dX12_cut_23 ⟨Nat.le_of_ble_eq_true rfl, Nat.le_of_ble_eq_true rfl⟩ (fun H locs hP hD hS => ?_)
  have hP : va_P D vwCl [(h0, .inr (12, (f0.set 0 (.int 0))))] H := hP
  have hD : va_D A [(h0, .inr (12, (f0.set 0 (.int 0))))] := hD
  refine lv_if_eq (tgt := 41) hx hb dX12_cut_26 (by decide) (fun _ => ?_) (fun c9 => absurd (by decide) c9)
  refine lv_bipush (v := (-102)) hx hb dX12_cut_41 (by decide) ?_
  exact W.iret (v := (-102)) hx hb hr (fun t ht hW => ⟨⟨(-102), (), rfl, rfl, kB_mk ht hW hP hK hD⟩, hS.F ht⟩) hS.2.2 dX12_cut_43
set_option maxHeartbeats 400000000 in
set_option maxRecDepth 100000 in
theorem c_X11_start_0 (l : Launch) (E : kE) (D : va_G) (cI cJ cB cZ : ClassId) (h0 : Nat) (f0 : List Value) (h1 : Nat) (f1 : List Value) (e0 : f0[1]? = some (.ref h1)) (e1 : f1[8]? = some (.int 0)) : kI l E D (kT cI cJ cB cZ) yX11_start wsX11_start ({ frames := 0, cells := 0, slots := 0, locals := 0 }) [.ref h0] [(h0, .inr (11, f0)), (h1, .inr (1, f1))] ((-103)) [(h0, .inr (11, f0)), (h1, .inr (1, f1))] 0 0 := by
  intro sz
  refine Met.ofW (cc := cX11_start) (maxL := 7) (ret := (some .int)) (by decide) rfl ?_
  intro p e s m args below meth c s₁ B hml hv
  obtain ⟨rfl, hsz, hP, hK, hD0, hN, hX⟩ := hv
  have hx := B.exec
  have hb := B.bytes
  have hr := B.returns
  have hts := atoms_spec (ws := wsX11_start) B.pre
  have hown : s.vm.findClass RX11 = some m.cls := findClass_of_methodNamed B.named
  have hlocks := B.notSynchronized
  have hin11 : ∀ w ∈ wsX110, w ∈ wsX11_start := (fun w h => (List.mem_cons_of_mem _ (List.mem_append_left _ (List.mem_append_left _ (List.mem_append_left _ (List.mem_append_left _ (List.mem_append_left _ (List.mem_append_right _ h))))))))
  have hin1 : ∀ w ∈ wsX10, w ∈ wsX11_start := (fun w h => (List.mem_cons_of_mem _ (List.mem_append_left _ (List.mem_append_left _ (List.mem_append_left _ (List.mem_append_left _ (List.mem_append_right _ h)))))))
  subst hsz
  have hD := hD0.self (sz := s.heap.size)
  have hAE := k_AE hD0 hX
  generalize hAe : va_A [(h0, .inr (11, f0)), (h1, .inr (1, f1))] s.heap.size = A at hD hAE ⊢
  have hA : ∀ q : Nat, s.heap.size ≤ q → A q := fun q h => by rw [← hAe]; exact Or.inr h
  have hS : va_S A s.heap s.heap [] := va_S.rf
  have hP : va_P D vwCl [(h0, .inr (11, f0)), (h1, .inr (1, f1))] s.heap := hP
  have hl := lv_entry ([.ref h0] : List Value) (n := 7) (Nat.le_of_ble_eq_true rfl)
  rw [lg_entry_eq]
  generalize (lg_sl ([.ref h0]) ++ List.replicate (7 - (lg_sl ([.ref h0])).length) Slot.unset).toArray = ls at hl ⊢
  have hl : lv_has ls 7 [(0, .ref h0)] := hl
  refine lv_aload_n hx hb dX11_start_0 rfl (lv_at hl 0 rfl) ?_
  refine va_get (D := D) (ref := "IntegerHouse") (ci := 11) (v := .ref h1) (C := RX11) (T := TX11) (N := 15) hx hb hts hin11 hown hK hP 0 rfl rfl 1 (by decide) (hts (.fieldLink RX11 16 "IntegerHouse" "disk" "LIntegerHouse$Disk;") (List.mem_cons_of_mem _ (List.mem_append_left _ (List.mem_append_left _ (List.mem_append_left _ (List.mem_append_left _ (List.mem_append_left _ (List.mem_append_left _ (List.mem_append_left _ (List.mem_of_getElem? (i := 0) rfl)))))))))) (fun _ h9 => h9) e0 dX11_start_1 ?_
  refine va_getN (host := "IntegerHouse") (D := D) (ref := "IntegerHouse$Disk") (ci := 1) (v := .int 0) (C := RX1) (T := TX1) (N := 9) hx hb hts hin1 hown hK hP 1 rfl rfl 8 (by decide) (va_Nw.use rfl (hN.1 ("IntegerHouse", 122, "IntegerHouse$Disk", "down", "Z", "IntegerHouse") (List.mem_of_getElem? (i := 3) rfl))) (fun _ h9 => h9) e1 dX11_start_4 ?_
  refine lv_if_ne (tgt := 13) hx hb dX11_start_7 (by decide) (fun c9 => absurd (by decide) c9) (fun _ => ?_)
  refine lv_bipush (v := (-103)) hx hb dX11_start_10 (by decide) ?_
  exact W.iret (v := (-103)) hx hb hr (fun t ht hW => ⟨⟨(-103), (), rfl, rfl, kB_mk ht hW hP hK hD⟩, hS.F ht⟩) hS.2.2 dX11_start_12
set_option maxHeartbeats 400000000 in
set_option maxRecDepth 100000 in
theorem c_X12_start_0 (l : Launch) (E : kE) (D : va_G) (cI cJ cB cZ : ClassId) (h0 : Nat) (f0 : List Value) (e0 : f0[0]? = some (.int 0)) (e1 : f0[5]? = some (.int 0)) : kI l E D (kT cI cJ cB cZ) yX12_start wsX12_start ({ frames := 0, cells := 0, slots := 0, locals := 0 }) [.ref h0] [(h0, .inr (12, f0))] ((-103)) [(h0, .inr (12, (f0.set 0 (.int 0))))] 0 0 := by
  intro sz
  refine Met.ofW (cc := cX12_start) (maxL := 3) (ret := (some .int)) (by decide) rfl ?_
  intro p e s m args below meth c s₁ B hml hv
  obtain ⟨rfl, hsz, hP, hK, hD0, hN, hX⟩ := hv
  have hx := B.exec
  have hb := B.bytes
  have hr := B.returns
  have hts := atoms_spec (ws := wsX12_start) B.pre
  have hown : s.vm.findClass RX12 = some m.cls := findClass_of_methodNamed B.named
  have hlocks := B.notSynchronized
  have hin12 : ∀ w ∈ wsX120, w ∈ wsX12_start := (fun w h => (List.mem_cons_of_mem _ (List.mem_append_right _ h)))
  subst hsz
  have hD := hD0.self (sz := s.heap.size)
  have hAE := k_AE hD0 hX
  generalize hAe : va_A [(h0, .inr (12, f0))] s.heap.size = A at hD hAE ⊢
  have hA : ∀ q : Nat, s.heap.size ≤ q → A q := fun q h => by rw [← hAe]; exact Or.inr h
  have hS : va_S A s.heap s.heap [] := va_S.rf
  have hP : va_P D vwCl [(h0, .inr (12, f0))] s.heap := hP
  have hl := lv_entry ([.ref h0] : List Value) (n := 3) (Nat.le_of_ble_eq_true rfl)
  rw [lg_entry_eq]
  generalize (lg_sl ([.ref h0]) ++ List.replicate (3 - (lg_sl ([.ref h0])).length) Slot.unset).toArray = ls at hl ⊢
  have hl : lv_has ls 3 [(0, .ref h0)] := hl
  refine lv_aload_n hx hb dX12_start_0 rfl (lv_at hl 0 rfl) ?_
  refine lv_iconst (v := 0) hx hb dX12_start_1 (by decide) ?_
  refine va_put (D := D) (ref := "IntegerHouseModel") (ci := 12) (v := .int 0) (ty := .int) (C := RX12) (T := TX12) (N := 195) hx hb hts hin12 tyX12 tyX12_ok nmX12 hown hK hP hD hS 0 rfl rfl 0 (by decide) (hts (.fieldLink RX12 3 "IntegerHouseModel" "thrown" "I") (List.mem_cons_of_mem _ (List.mem_append_left _ (List.mem_append_left _ (List.mem_of_getElem? (i := 0) rfl))))) (fun _ h9 => h9) rfl (by decide +kernel) rfl rfl (k_len e0) dX12_start_2 (fun H locs hP hD hS => ?_)
  have hP : va_P D vwCl [(h0, .inr (12, (f0.set 0 (.int 0))))] H := hP
  have hD : va_D A [(h0, .inr (12, (f0.set 0 (.int 0))))] := hD
  refine lv_aload_n hx hb dX12_start_5 rfl (lv_at hl 0 rfl) ?_
  refine va_get (D := D) (ref := "IntegerHouseModel") (ci := 12) (v := .int 0) (C := RX12) (T := TX12) (N := 195) hx hb hts hin12 hown hK hP 0 rfl rfl 5 (by decide) (hts (.fieldLink RX12 488 "IntegerHouseModel" "down" "Z") (List.mem_cons_of_mem _ (List.mem_append_left _ (List.mem_append_left _ (List.mem_of_getElem? (i := 1) rfl))))) (fun _ h9 => h9) (k_ne (by decide) e1) dX12_start_6 ?_
  refine lv_if_ne (tgt := 15) hx hb dX12_start_9 (by decide) (fun c9 => absurd (by decide) c9) (fun _ => ?_)
  refine lv_bipush (v := (-103)) hx hb dX12_start_12 (by decide) ?_
  exact W.iret (v := (-103)) hx hb hr (fun t ht hW => ⟨⟨(-103), (), rfl, rfl, kB_mk ht hW hP hK hD⟩, hS.F ht⟩) hS.2.2 dX12_start_14
set_option maxHeartbeats 400000000 in
set_option maxRecDepth 100000 in
theorem c_X1_firstWrong_0 (l : Launch) (E : kE) (D : va_G) (cI cJ cB cZ : ClassId) (h0 : Nat) (f0 : List Value) (e0 : f0[5]? = some (.int 0)) : kI l E D (kT cI cJ cB cZ) yX1_firstWrong wsX1_firstWrong ({ frames := 0, cells := 0, slots := 0, locals := 0 }) [.ref h0] [(h0, .inr (1, f0))] ((-1)) [(h0, .inr (1, f0))] 0 0 := by
  intro sz
  refine Met.ofW (cc := cX1_firstWrong) (maxL := 2) (ret := (some .int)) (by decide) rfl ?_
  intro p e s m args below meth c s₁ B hml hv
  obtain ⟨rfl, hsz, hP, hK, hD0, hN, hX⟩ := hv
  have hx := B.exec
  have hb := B.bytes
  have hr := B.returns
  have hts := atoms_spec (ws := wsX1_firstWrong) B.pre
  have hown : s.vm.findClass RX1 = some m.cls := findClass_of_methodNamed B.named
  have hlocks := B.notSynchronized
  have hin1 : ∀ w ∈ wsX10, w ∈ wsX1_firstWrong := (fun w h => (List.mem_cons_of_mem _ (List.mem_append_right _ h)))
  subst hsz
  have hD := hD0.self (sz := s.heap.size)
  have hAE := k_AE hD0 hX
  generalize hAe : va_A [(h0, .inr (1, f0))] s.heap.size = A at hD hAE ⊢
  have hA : ∀ q : Nat, s.heap.size ≤ q → A q := fun q h => by rw [← hAe]; exact Or.inr h
  have hS : va_S A s.heap s.heap [] := va_S.rf
  have hP : va_P D vwCl [(h0, .inr (1, f0))] s.heap := hP
  have hl := lv_entry ([.ref h0] : List Value) (n := 2) (Nat.le_of_ble_eq_true rfl)
  rw [lg_entry_eq]
  generalize (lg_sl ([.ref h0]) ++ List.replicate (2 - (lg_sl ([.ref h0])).length) Slot.unset).toArray = ls at hl ⊢
  have hl : lv_has ls 2 [(0, .ref h0)] := hl
  refine lv_iconst (v := 1) hx hb dX1_firstWrong_0 (by decide) ?_
  refine lv_istore_n (lv' := [(1, .int 1), (0, .ref h0)]) hx hb dX1_firstWrong_1 rfl hl (by decide) rfl (fun ls hl => ?_)
  refine lv_iload_n hx hb dX1_firstWrong_2 rfl (lv_at hl 0 rfl) ?_
  refine lv_aload_n hx hb dX1_firstWrong_3 rfl (lv_at hl 1 rfl) ?_
  refine va_get (D := D) (ref := "IntegerHouse$Disk") (ci := 1) (v := .int 0) (C := RX1) (T := TX1) (N := 9) hx hb hts hin1 hown hK hP 0 rfl rfl 5 (by decide) (hts (.fieldLink RX1 43 "IntegerHouse$Disk" "used" "I") (List.mem_cons_of_mem _ (List.mem_append_left _ (List.mem_of_getElem? (i := 0) rfl)))) (fun _ h9 => h9) e0 dX1_firstWrong_4 ?_
  refine lv_icmp_gt (tgt := 26) hx hb dX1_firstWrong_7 (by decide) (fun _ => ?_) (fun c9 => absurd (by decide) c9)
  refine lv_iconst (v := (-1)) hx hb dX1_firstWrong_26 (by decide) ?_
  exact W.iret (v := (-1)) hx hb hr (fun t ht hW => ⟨⟨(-1), (), rfl, rfl, kB_mk ht hW hP hK hD⟩, hS.F ht⟩) hS.2.2 dX1_firstWrong_27
set_option maxHeartbeats 400000000 in
set_option maxRecDepth 100000 in
theorem c_X11_verify_0 (l : Launch) (E : kE) (D : va_G) (cI cJ cB cZ : ClassId) (h0 : Nat) (f0 : List Value) (h1 : Nat) (f1 : List Value) (e0 : f0[1]? = some (.ref h1)) (e1 : f1[8]? = some (.int 0)) (e2 : f1[5]? = some (.int 0)) : kI l E D (kT cI cJ cB cZ) yX11_verify wsX11_verify ({ frames := 1, cells := 0, slots := 0, locals := 21 }) [.ref h0] [(h0, .inr (11, f0)), (h1, .inr (1, f1))] ((-1)) [(h0, .inr (11, f0)), (h1, .inr (1, f1))] 0 0 := by
  intro sz
  refine Met.ofW (cc := cX11_verify) (maxL := 1) (ret := (some .int)) (by decide) rfl ?_
  intro p e s m args below meth c s₁ B hml hv
  obtain ⟨rfl, hsz, hP, hK, hD0, hN, hX⟩ := hv
  have hx := B.exec
  have hb := B.bytes
  have hr := B.returns
  have hts := atoms_spec (ws := wsX11_verify) B.pre
  have hown : s.vm.findClass RX11 = some m.cls := findClass_of_methodNamed B.named
  have hlocks := B.notSynchronized
  have hin11 : ∀ w ∈ wsX110, w ∈ wsX11_verify := (fun w h => (List.mem_cons_of_mem _ (List.mem_append_left _ (List.mem_append_right _ h))))
  have hin1 : ∀ w ∈ wsX10, w ∈ wsX11_verify := (fun w h => (List.mem_cons_of_mem _ (List.mem_append_right _ h)))
  subst hsz
  have hD := hD0.self (sz := s.heap.size)
  have hAE := k_AE hD0 hX
  generalize hAe : va_A [(h0, .inr (11, f0)), (h1, .inr (1, f1))] s.heap.size = A at hD hAE ⊢
  have hA : ∀ q : Nat, s.heap.size ≤ q → A q := fun q h => by rw [← hAe]; exact Or.inr h
  have hS : va_S A s.heap s.heap [] := va_S.rf
  have hP : va_P D vwCl [(h0, .inr (11, f0)), (h1, .inr (1, f1))] s.heap := hP
  have hl := lv_entry ([.ref h0] : List Value) (n := 1) (Nat.le_of_ble_eq_true rfl)
  rw [lg_entry_eq]
  generalize (lg_sl ([.ref h0]) ++ List.replicate (1 - (lg_sl ([.ref h0])).length) Slot.unset).toArray = ls at hl ⊢
  have hl : lv_has ls 1 [(0, .ref h0)] := hl
  refine lv_aload_n hx hb dX11_verify_0 rfl (lv_at hl 0 rfl) ?_
  refine va_get (D := D) (ref := "IntegerHouse") (ci := 11) (v := .ref h1) (C := RX11) (T := TX11) (N := 15) hx hb hts hin11 hown hK hP 0 rfl rfl 1 (by decide) (hts (.fieldLink RX11 16 "IntegerHouse" "disk" "LIntegerHouse$Disk;") (List.mem_cons_of_mem _ (List.mem_append_left _ (List.mem_append_left _ (List.mem_of_getElem? (i := 0) rfl))))) (fun _ h9 => h9) e0 dX11_verify_1 ?_
  refine va_getN (host := "IntegerHouse") (D := D) (ref := "IntegerHouse$Disk") (ci := 1) (v := .int 0) (C := RX1) (T := TX1) (N := 9) hx hb hts hin1 hown hK hP 1 rfl rfl 8 (by decide) (va_Nw.use rfl (hN.1 ("IntegerHouse", 122, "IntegerHouse$Disk", "down", "Z", "IntegerHouse") (List.mem_of_getElem? (i := 3) rfl))) (fun _ h9 => h9) e1 dX11_verify_4 ?_
  refine lv_if_eq (tgt := 15) hx hb dX11_verify_7 (by decide) (fun _ => ?_) (fun c9 => absurd (by decide) c9)
  refine lv_aload_n hx hb dX11_verify_15 rfl (lv_at hl 0 rfl) ?_
  refine va_get (D := D) (ref := "IntegerHouse") (ci := 11) (v := .ref h1) (C := RX11) (T := TX11) (N := 15) hx hb hts hin11 hown hK hP 0 rfl rfl 1 (by decide) (hts (.fieldLink RX11 16 "IntegerHouse" "disk" "LIntegerHouse$Disk;") (List.mem_cons_of_mem _ (List.mem_append_left _ (List.mem_append_left _ (List.mem_of_getElem? (i := 0) rfl))))) (fun _ h9 => h9) e0 dX11_verify_16 ?_
  refine k_cVi (As := []) (rest := []) (wc := [(h1, .inr (1, f1))]) (wr := [(h0, .inr (11, f0))]) (w1 := [(h1, .inr (1, f1))]) ⟨hx, hb, hml, hown, hts⟩ hN hX hAE hK hP hD hS hA [1] [0] (ci := 1) rfl rfl rfl rfl (by decide +kernel) (by decide +kernel) (by decide +kernel) (c_X1_firstWrong_0 l E D cI cJ cB cZ h1 f1 e2) (cwV 0 hts gX11_verify_X1_firstWrong rfl rfl rfl (by decide +kernel) ⟨Nat.le_of_ble_eq_true rfl, Nat.le_of_ble_eq_true rfl⟩) rfl hl.1 (Nat.le_of_ble_eq_true rfl) dX11_verify_19 ⟨Nat.le_of_ble_eq_true rfl, Nat.le_of_ble_eq_true rfl⟩ (fun H locs hP hD hS => ?_)
  have hP : va_P D vwCl [(h0, .inr (11, f0)), (h1, .inr (1, f1))] H := hP
  have hD : va_D A [(h0, .inr (11, f0)), (h1, .inr (1, f1))] := hD
  exact W.iret (v := (-1)) hx hb hr (fun t ht hW => ⟨⟨(-1), (), rfl, rfl, kB_mk ht hW hP hK hD⟩, hS.F ht⟩) hS.2.2 dX11_verify_22
set_option maxHeartbeats 400000000 in
set_option maxRecDepth 100000 in
theorem c_X12_verify_0 (l : Launch) (E : kE) (D : va_G) (cI cJ cB cZ : ClassId) (h0 : Nat) (f0 : List Value) (e0 : f0[0]? = some (.int 0)) (e1 : f0[5]? = some (.int 0)) (e2 : f0[4]? = some (.int 0)) : kI l E D (kT cI cJ cB cZ) yX12_verify wsX12_verify ({ frames := 0, cells := 0, slots := 0, locals := 0 }) [.ref h0] [(h0, .inr (12, f0))] ((-1)) [(h0, .inr (12, (f0.set 0 (.int 0))))] 0 0 := by
  intro sz
  refine Met.ofW (cc := cX12_verify) (maxL := 2) (ret := (some .int)) (by decide) rfl ?_
  intro p e s m args below meth c s₁ B hml hv
  obtain ⟨rfl, hsz, hP, hK, hD0, hN, hX⟩ := hv
  have hx := B.exec
  have hb := B.bytes
  have hr := B.returns
  have hts := atoms_spec (ws := wsX12_verify) B.pre
  have hown : s.vm.findClass RX12 = some m.cls := findClass_of_methodNamed B.named
  have hlocks := B.notSynchronized
  have hin12 : ∀ w ∈ wsX120, w ∈ wsX12_verify := (fun w h => (List.mem_cons_of_mem _ (List.mem_append_right _ h)))
  subst hsz
  have hD := hD0.self (sz := s.heap.size)
  have hAE := k_AE hD0 hX
  generalize hAe : va_A [(h0, .inr (12, f0))] s.heap.size = A at hD hAE ⊢
  have hA : ∀ q : Nat, s.heap.size ≤ q → A q := fun q h => by rw [← hAe]; exact Or.inr h
  have hS : va_S A s.heap s.heap [] := va_S.rf
  have hP : va_P D vwCl [(h0, .inr (12, f0))] s.heap := hP
  have hl := lv_entry ([.ref h0] : List Value) (n := 2) (Nat.le_of_ble_eq_true rfl)
  rw [lg_entry_eq]
  generalize (lg_sl ([.ref h0]) ++ List.replicate (2 - (lg_sl ([.ref h0])).length) Slot.unset).toArray = ls at hl ⊢
  have hl : lv_has ls 2 [(0, .ref h0)] := hl
  refine lv_aload_n hx hb dX12_verify_0 rfl (lv_at hl 0 rfl) ?_
  refine lv_iconst (v := 0) hx hb dX12_verify_1 (by decide) ?_
  refine va_put (D := D) (ref := "IntegerHouseModel") (ci := 12) (v := .int 0) (ty := .int) (C := RX12) (T := TX12) (N := 195) hx hb hts hin12 tyX12 tyX12_ok nmX12 hown hK hP hD hS 0 rfl rfl 0 (by decide) (hts (.fieldLink RX12 3 "IntegerHouseModel" "thrown" "I") (List.mem_cons_of_mem _ (List.mem_append_left _ (List.mem_of_getElem? (i := 0) rfl)))) (fun _ h9 => h9) rfl (by decide +kernel) rfl rfl (k_len e0) dX12_verify_2 (fun H locs hP hD hS => ?_)
  have hP : va_P D vwCl [(h0, .inr (12, (f0.set 0 (.int 0))))] H := hP
  have hD : va_D A [(h0, .inr (12, (f0.set 0 (.int 0))))] := hD
  refine lv_aload_n hx hb dX12_verify_5 rfl (lv_at hl 0 rfl) ?_
  refine va_get (D := D) (ref := "IntegerHouseModel") (ci := 12) (v := .int 0) (C := RX12) (T := TX12) (N := 195) hx hb hts hin12 hown hK hP 0 rfl rfl 5 (by decide) (hts (.fieldLink RX12 488 "IntegerHouseModel" "down" "Z") (List.mem_cons_of_mem _ (List.mem_append_left _ (List.mem_of_getElem? (i := 1) rfl)))) (fun _ h9 => h9) (k_ne (by decide) e1) dX12_verify_6 ?_
  refine lv_if_eq (tgt := 15) hx hb dX12_verify_9 (by decide) (fun _ => ?_) (fun c9 => absurd (by decide) c9)
  refine lv_iconst (v := 1) hx hb dX12_verify_15 (by decide) ?_
  refine lv_istore_n (lv' := [(1, .int 1), (0, .ref h0)]) hx hb dX12_verify_16 rfl hl (by decide) rfl (fun ls hl => ?_)
  refine lv_iload_n hx hb dX12_verify_17 rfl (lv_at hl 0 rfl) ?_
  refine lv_aload_n hx hb dX12_verify_18 rfl (lv_at hl 1 rfl) ?_
  refine va_get (D := D) (ref := "IntegerHouseModel") (ci := 12) (v := .int 0) (C := RX12) (T := TX12) (N := 195) hx hb hts hin12 hown hK hP 0 rfl rfl 4 (by decide) (hts (.fieldLink RX12 478 "IntegerHouseModel" "used" "I") (List.mem_cons_of_mem _ (List.mem_append_left _ (List.mem_of_getElem? (i := 2) rfl)))) (fun _ h9 => h9) (k_ne (by decide) e2) dX12_verify_19 ?_
  refine lv_icmp_gt (tgt := 39) hx hb dX12_verify_22 (by decide) (fun _ => ?_) (fun c9 => absurd (by decide) c9)
  refine lv_iload_n hx hb dX12_verify_39 rfl (lv_at hl 0 rfl) ?_
  refine lv_aload_n hx hb dX12_verify_40 rfl (lv_at hl 1 rfl) ?_
  refine va_get (D := D) (ref := "IntegerHouseModel") (ci := 12) (v := .int 0) (C := RX12) (T := TX12) (N := 195) hx hb hts hin12 hown hK hP 0 rfl rfl 4 (by decide) (hts (.fieldLink RX12 478 "IntegerHouseModel" "used" "I") (List.mem_cons_of_mem _ (List.mem_append_left _ (List.mem_of_getElem? (i := 2) rfl)))) (fun _ h9 => h9) (k_ne (by decide) e2) dX12_verify_41 ?_
  refine lv_icmp_gt (tgt := 51) hx hb dX12_verify_44 (by decide) (fun _ => ?_) (fun c9 => absurd (by decide) c9)
  refine lv_iconst (v := (-1)) hx hb dX12_verify_51 (by decide) ?_
  exact W.iret (v := (-1)) hx hb hr (fun t ht hW => ⟨⟨(-1), (), rfl, rfl, kB_mk ht hW hP hK hD⟩, hS.F ht⟩) hS.2.2 dX12_verify_52
set_option maxHeartbeats 400000000 in
set_option maxRecDepth 100000 in
theorem c_X1_isByte_0 (l : Launch) (E : kE) (D : va_G) (cI cJ cB cZ : ClassId) (x0 : Int32) (x1 : Int32) (e0 : ¬ ((x0 : Int32) < 1)) (e1 : (x0 : Int32) < 101) (e2 : ¬ ((x1 : Int32) < 0)) (e3 : (x1 : Int32) < 256) : kI l E D (kT cI cJ cB cZ) yX1_isByte wsX1_isByte ({ frames := 0, cells := 0, slots := 0, locals := 0 }) [.int x0, .int x1] [] (1) [] 0 0 := by
  intro sz
  refine Met.ofW (cc := cX1_isByte) (maxL := 2) (ret := (some .boolean)) (by decide) rfl ?_
  intro p e s m args below meth c s₁ B hml hv
  obtain ⟨rfl, hsz, hP, hK, hD0, hN, hX⟩ := hv
  have hx := B.exec
  have hb := B.bytes
  have hr := B.returns
  have hts := atoms_spec (ws := wsX1_isByte) B.pre
  have hown : s.vm.findClass RX1 = some m.cls := findClass_of_methodNamed B.named
  have hlocks := B.notSynchronized
  subst hsz
  have hD := hD0.self (sz := s.heap.size)
  have hAE := k_AE hD0 hX
  generalize hAe : va_A [] s.heap.size = A at hD hAE ⊢
  have hA : ∀ q : Nat, s.heap.size ≤ q → A q := fun q h => by rw [← hAe]; exact Or.inr h
  have hS : va_S A s.heap s.heap [] := va_S.rf
  have hP : va_P D vwCl [] s.heap := hP
  have hl := lv_entry ([.int x0, .int x1] : List Value) (n := 2) (Nat.le_of_ble_eq_true rfl)
  rw [lg_entry_eq]
  generalize (lg_sl ([.int x0, .int x1]) ++ List.replicate (2 - (lg_sl ([.int x0, .int x1])).length) Slot.unset).toArray = ls at hl ⊢
  have hl : lv_has ls 2 [(0, .int x0), (1, .int x1)] := hl
  refine lv_iload_n hx hb dX1_isByte_0 rfl (lv_at hl 0 rfl) ?_
  refine lv_iconst (v := 1) hx hb dX1_isByte_1 (by decide) ?_
  refine lv_icmp_lt (tgt := 26) hx hb dX1_isByte_2 (by decide) (fun c9 => absurd c9 e0) (fun _ => ?_)
  refine lv_iload_n hx hb dX1_isByte_5 rfl (lv_at hl 0 rfl) ?_
  refine lv_bipush (v := 100) hx hb dX1_isByte_6 (by decide) ?_
  refine lv_icmp_gt (tgt := 26) hx hb dX1_isByte_8 (by decide) (fun c9 => absurd c9 (fun z9 => (k_n3 (x := x0) (c := 100) (d := 101) (by decide)).mp z9 e1)) (fun _ => ?_)
  refine lv_iload_n hx hb dX1_isByte_11 rfl (lv_at hl 1 rfl) ?_
  refine lv_if_lt (tgt := 26) hx hb dX1_isByte_12 (by decide) (fun c9 => absurd c9 e2) (fun _ => ?_)
  refine lv_iload_n hx hb dX1_isByte_15 rfl (lv_at hl 1 rfl) ?_
  refine lv_sipush (v := 256) hx hb dX1_isByte_16 (by decide) ?_
  refine lv_icmp_ge (tgt := 26) hx hb dX1_isByte_19 (by decide) (fun c9 => absurd c9 (fun z9 => (k_n2 (x := x1) (c := 256)).mp z9 e3)) (fun _ => ?_)
  refine lv_iconst (v := 1) hx hb dX1_isByte_22 (by decide) ?_
  refine lv_goto (tgt := 27) hx hb dX1_isByte_23 (by decide) ?_
  exact W.zret (v := 1) hx hb hr rfl (fun t ht hW => ⟨⟨1, (), rfl, rfl, kB_mk ht hW hP hK hD⟩, hS.F ht⟩) hS.2.2 dX1_isByte_27
set_option maxHeartbeats 400000000 in
set_option maxRecDepth 100000 in
theorem c_X1_byteOf_0 (l : Launch) (E : kE) (D : va_G) (cI cJ cB cZ : ClassId) (h0 : Nat) (x0 : Int32) (x1 : Int32) (f0 : List Value) (h1 : Nat) (g0 : Nat → Int32) (e0 : ¬ ((x0 : Int32) < 1)) (e1 : (x0 : Int32) < 101) (e2 : ¬ ((x1 : Int32) < 0)) (e3 : (x1 : Int32) < 256) (e4 : f0[0]? = some (.ref h1)) (e5 : vp_in (((x0 - 1) * 256) + x1) 25600) (e6 : g0 (Int32.toNatClampNeg (((x0 - 1) * 256) + x1)) = 0) : kI l E D (kT cI cJ cB cZ) yX1_byteOf wsX1_byteOf ({ frames := 1, cells := 0, slots := 0, locals := 21 }) [.ref h0, .int x0, .int x1] [(h0, .inr (1, f0)), (h1, .inl (cB, 25600, .inl g0))] (0) [(h0, .inr (1, f0)), (h1, .inl (cB, 25600, .inl g0))] 0 0 := by
  intro sz
  refine Met.ofW (cc := cX1_byteOf) (maxL := 3) (ret := (some .int)) (by decide) rfl ?_
  intro p e s m args below meth c s₁ B hml hv
  obtain ⟨rfl, hsz, hP, hK, hD0, hN, hX⟩ := hv
  have hx := B.exec
  have hb := B.bytes
  have hr := B.returns
  have hts := atoms_spec (ws := wsX1_byteOf) B.pre
  have hown : s.vm.findClass RX1 = some m.cls := findClass_of_methodNamed B.named
  have hlocks := B.notSynchronized
  have hin1 : ∀ w ∈ wsX10, w ∈ wsX1_byteOf := (fun w h => (List.mem_cons_of_mem _ (List.mem_append_right _ h)))
  subst hsz
  have hD := hD0.self (sz := s.heap.size)
  have hAE := k_AE hD0 hX
  generalize hAe : va_A [(h0, .inr (1, f0)), (h1, .inl (cB, 25600, .inl g0))] s.heap.size = A at hD hAE ⊢
  have hA : ∀ q : Nat, s.heap.size ≤ q → A q := fun q h => by rw [← hAe]; exact Or.inr h
  have hS : va_S A s.heap s.heap [] := va_S.rf
  have hP : va_P D vwCl [(h0, .inr (1, f0)), (h1, .inl (cB, 25600, .inl g0))] s.heap := hP
  have hl := lv_entry ([.ref h0, .int x0, .int x1] : List Value) (n := 3) (Nat.le_of_ble_eq_true rfl)
  rw [lg_entry_eq]
  generalize (lg_sl ([.ref h0, .int x0, .int x1]) ++ List.replicate (3 - (lg_sl ([.ref h0, .int x0, .int x1])).length) Slot.unset).toArray = ls at hl ⊢
  have hl : lv_has ls 3 [(0, .ref h0), (1, .int x0), (2, .int x1)] := hl
  refine lv_iload_n hx hb dX1_byteOf_0 rfl (lv_at hl 1 rfl) ?_
  refine lv_iload_n hx hb dX1_byteOf_1 rfl (lv_at hl 2 rfl) ?_
  refine k_cSi (As := [.int x0, .int x1]) (rest := []) (wc := []) (wr := [(h0, .inr (1, f0)), (h1, .inl (cB, 25600, .inl g0))]) (w1 := []) ⟨hx, hb, hml, hown, hts⟩ hN hX hAE hK hP hD hS hA [] [0, 1] rfl rfl (by decide +kernel) (by decide +kernel) (by decide +kernel) (c_X1_isByte_0 l E D cI cJ cB cZ x0 x1 e0 e1 e2 e3) (va_cwS 2 hts gX1_byteOf_X1_isByte rfl rfl rfl (by decide +kernel) ⟨Nat.le_of_ble_eq_true rfl, Nat.le_of_ble_eq_true rfl⟩) rfl hl.1 (Nat.le_of_ble_eq_true rfl) dX1_byteOf_2 ⟨Nat.le_of_ble_eq_true rfl, Nat.le_of_ble_eq_true rfl⟩ (fun H locs hP hD hS => ?_)
  have hP : va_P D vwCl [(h0, .inr (1, f0)), (h1, .inl (cB, 25600, .inl g0))] H := hP
  have hD : va_D A [(h0, .inr (1, f0)), (h1, .inl (cB, 25600, .inl g0))] := hD
  refine lv_if_eq (tgt := 29) hx hb dX1_byteOf_5 (by decide) (fun c9 => absurd c9 (by decide)) (fun _ => ?_)
  refine lv_aload_n hx hb dX1_byteOf_8 rfl (lv_at hl 0 rfl) ?_
  refine va_get (D := D) (ref := "IntegerHouse$Disk") (ci := 1) (v := .ref h1) (C := RX1) (T := TX1) (N := 9) hx hb hts hin1 hown hK hP 0 rfl rfl 0 (by decide) (hts (.fieldLink RX1 11 "IntegerHouse$Disk" "blocks" "[B") (List.mem_cons_of_mem _ (List.mem_append_left _ (List.mem_of_getElem? (i := 0) rfl)))) (fun _ h9 => h9) e4 dX1_byteOf_9 ?_
  refine lv_iload_n hx hb dX1_byteOf_12 rfl (lv_at hl 1 rfl) ?_
  refine lv_iconst (v := 1) hx hb dX1_byteOf_13 (by decide) ?_
  refine lv_isub hx hb dX1_byteOf_14 ?_
  refine lv_sipush (v := 256) hx hb dX1_byteOf_15 (by decide) ?_
  refine lv_imul hx hb dX1_byteOf_18 ?_
  refine lv_iload_n hx hb dX1_byteOf_19 rfl (lv_at hl 2 rfl) ?_
  refine lv_iadd hx hb dX1_byteOf_20 ?_
  refine va_bald hx hb hK hP 1 2 rfl rfl e5 dX1_byteOf_21 ?_
  refine k_topi (y := 0) e6 ?_
  refine lv_sipush (v := 255) hx hb dX1_byteOf_22 (by decide) ?_
  refine lv_iand hx hb dX1_byteOf_25 ?_
  refine k_topi (y := 0) (by decide) ?_
  refine lv_goto (tgt := 30) hx hb dX1_byteOf_26 (by decide) ?_
  exact W.iret (v := 0) hx hb hr (fun t ht hW => ⟨⟨0, (), rfl, rfl, kB_mk ht hW hP hK hD⟩, hS.F ht⟩) hS.2.2 dX1_byteOf_30
set_option maxHeartbeats 400000000 in
set_option maxRecDepth 100000 in
theorem c_X11_octet_0 (l : Launch) (E : kE) (D : va_G) (cI cJ cB cZ : ClassId) (h0 : Nat) (x0 : Int32) (x1 : Int32) (f0 : List Value) (h1 : Nat) (f1 : List Value) (h2 : Nat) (g0 : Nat → Int32) (e0 : ¬ ((x0 : Int32) < 1)) (e1 : (x0 : Int32) < 101) (e2 : ¬ ((x1 : Int32) < 0)) (e3 : (x1 : Int32) < 256) (e4 : f0[1]? = some (.ref h1)) (e5 : f1[0]? = some (.ref h2)) (e6 : g0 (Int32.toNatClampNeg (((x0 - 1) * 256) + x1)) = 0) (e7 : vp_in (((x0 - 1) * 256) + x1) 25600) : kI l E D (kT cI cJ cB cZ) yX11_octet wsX11_octet ({ frames := 2, cells := 0, slots := 0, locals := 43 }) [.ref h0, .int x0, .int x1] [(h0, .inr (11, f0)), (h1, .inr (1, f1)), (h2, .inl (cB, 25600, .inl g0))] (0) [(h0, .inr (11, f0)), (h1, .inr (1, f1)), (h2, .inl (cB, 25600, .inl g0))] 0 0 := by
  intro sz
  refine Met.ofW (cc := cX11_octet) (maxL := 3) (ret := (some .int)) (by decide) rfl ?_
  intro p e s m args below meth c s₁ B hml hv
  obtain ⟨rfl, hsz, hP, hK, hD0, hN, hX⟩ := hv
  have hx := B.exec
  have hb := B.bytes
  have hr := B.returns
  have hts := atoms_spec (ws := wsX11_octet) B.pre
  have hown : s.vm.findClass RX11 = some m.cls := findClass_of_methodNamed B.named
  have hlocks := B.notSynchronized
  have hin11 : ∀ w ∈ wsX110, w ∈ wsX11_octet := (fun w h => (List.mem_cons_of_mem _ (List.mem_append_left _ (List.mem_append_left _ (List.mem_append_right _ h)))))
  subst hsz
  have hD := hD0.self (sz := s.heap.size)
  have hAE := k_AE hD0 hX
  generalize hAe : va_A [(h0, .inr (11, f0)), (h1, .inr (1, f1)), (h2, .inl (cB, 25600, .inl g0))] s.heap.size = A at hD hAE ⊢
  have hA : ∀ q : Nat, s.heap.size ≤ q → A q := fun q h => by rw [← hAe]; exact Or.inr h
  have hS : va_S A s.heap s.heap [] := va_S.rf
  have hP : va_P D vwCl [(h0, .inr (11, f0)), (h1, .inr (1, f1)), (h2, .inl (cB, 25600, .inl g0))] s.heap := hP
  have hl := lv_entry ([.ref h0, .int x0, .int x1] : List Value) (n := 3) (Nat.le_of_ble_eq_true rfl)
  rw [lg_entry_eq]
  generalize (lg_sl ([.ref h0, .int x0, .int x1]) ++ List.replicate (3 - (lg_sl ([.ref h0, .int x0, .int x1])).length) Slot.unset).toArray = ls at hl ⊢
  have hl : lv_has ls 3 [(0, .ref h0), (1, .int x0), (2, .int x1)] := hl
  refine lv_iload_n hx hb dX11_octet_0 rfl (lv_at hl 1 rfl) ?_
  refine lv_iload_n hx hb dX11_octet_1 rfl (lv_at hl 2 rfl) ?_
  refine k_cSi (As := [.int x0, .int x1]) (rest := []) (wc := []) (wr := [(h0, .inr (11, f0)), (h1, .inr (1, f1)), (h2, .inl (cB, 25600, .inl g0))]) (w1 := []) ⟨hx, hb, hml, hown, hts⟩ hN hX hAE hK hP hD hS hA [] [0, 1, 2] rfl rfl (by decide +kernel) (by decide +kernel) (by decide +kernel) (c_X1_isByte_0 l E D cI cJ cB cZ x0 x1 e0 e1 e2 e3) (va_cwS 2 hts gX11_octet_X1_isByte rfl rfl rfl (by decide +kernel) ⟨Nat.le_of_ble_eq_true rfl, Nat.le_of_ble_eq_true rfl⟩) rfl hl.1 (Nat.le_of_ble_eq_true rfl) dX11_octet_2 ⟨Nat.le_of_ble_eq_true rfl, Nat.le_of_ble_eq_true rfl⟩ (fun H locs hP hD hS => ?_)
  have hP : va_P D vwCl [(h0, .inr (11, f0)), (h1, .inr (1, f1)), (h2, .inl (cB, 25600, .inl g0))] H := hP
  have hD : va_D A [(h0, .inr (11, f0)), (h1, .inr (1, f1)), (h2, .inl (cB, 25600, .inl g0))] := hD
  refine lv_if_ne (tgt := 18) hx hb dX11_octet_5 (by decide) (fun _ => ?_) (fun c9 => absurd c9 (by decide))
  refine lv_aload_n hx hb dX11_octet_18 rfl (lv_at hl 0 rfl) ?_
  refine va_get (D := D) (ref := "IntegerHouse") (ci := 11) (v := .ref h1) (C := RX11) (T := TX11) (N := 15) hx hb hts hin11 hown hK hP 0 rfl rfl 1 (by decide) (hts (.fieldLink RX11 16 "IntegerHouse" "disk" "LIntegerHouse$Disk;") (List.mem_cons_of_mem _ (List.mem_append_left _ (List.mem_append_left _ (List.mem_append_left _ (List.mem_of_getElem? (i := 2) rfl)))))) (fun _ h9 => h9) e4 dX11_octet_19 ?_
  refine lv_iload_n hx hb dX11_octet_22 rfl (lv_at hl 1 rfl) ?_
  refine lv_iload_n hx hb dX11_octet_23 rfl (lv_at hl 2 rfl) ?_
  refine k_cVi (As := [.int x0, .int x1]) (rest := []) (wc := [(h1, .inr (1, f1)), (h2, .inl (cB, 25600, .inl g0))]) (wr := [(h0, .inr (11, f0))]) (w1 := [(h1, .inr (1, f1)), (h2, .inl (cB, 25600, .inl g0))]) ⟨hx, hb, hml, hown, hts⟩ hN hX hAE hK hP hD hS hA [1, 2] [0] (ci := 1) rfl rfl rfl rfl (by decide +kernel) (by decide +kernel) (by decide +kernel) (c_X1_byteOf_0 l E D cI cJ cB cZ h1 x0 x1 f1 h2 g0 e0 e1 e2 e3 e5 e7 e6) (cwV 2 hts gX11_octet_X1_byteOf rfl rfl rfl (by decide +kernel) ⟨Nat.le_of_ble_eq_true rfl, Nat.le_of_ble_eq_true rfl⟩) rfl hl.1 (Nat.le_of_ble_eq_true rfl) dX11_octet_24 ⟨Nat.le_of_ble_eq_true rfl, Nat.le_of_ble_eq_true rfl⟩ (fun H locs hP hD hS => ?_)
  have hP : va_P D vwCl [(h0, .inr (11, f0)), (h1, .inr (1, f1)), (h2, .inl (cB, 25600, .inl g0))] H := hP
  have hD : va_D A [(h0, .inr (11, f0)), (h1, .inr (1, f1)), (h2, .inl (cB, 25600, .inl g0))] := hD
  exact W.iret (v := 0) hx hb hr (fun t ht hW => ⟨⟨0, (), rfl, rfl, kB_mk ht hW hP hK hD⟩, hS.F ht⟩) hS.2.2 dX11_octet_27
set_option maxHeartbeats 400000000 in
set_option maxRecDepth 100000 in
theorem c_L_octet_0 (l : Launch) (E : kE) (D : va_G) (cI cJ cB cZ : ClassId) (h0 : Nat) (x0 : Int32) (x1 : Int32) (h1 : Nat) (f0 : List Value) (h2 : Nat) (f1 : List Value) (h3 : Nat) (g0 : Nat → Int32) (g1 : Nat → Int64) (e0 : f0[1]? = some (.ref h2)) (e1 : f1[0]? = some (.ref h3)) (e2 : g0 (Int32.toNatClampNeg (((x0 - 1) * 256) + x1)) = 0) (e3 : ¬ ((x0 : Int32) < 1)) (e4 : (x0 : Int32) < 101) (e5 : ¬ ((x1 : Int32) < 0)) (e6 : (x1 : Int32) < 256) (e7 : vp_in (((x0 - 1) * 256) + x1) 25600) : kI l E D (kT cI cJ cB cZ) yL_octet wsL_octet ({ frames := 3, cells := 0, slots := 0, locals := 65 }) [.ref h0, .int x0, .int x1, .ref h1] [(h0, .inr (11, f0)), (h2, .inr (1, f1)), (h3, .inl (cB, 25600, .inl g0)), (h1, .inl (cJ, 1, .inr (.inl g1)))] (0) [(h0, .inr (11, f0)), (h2, .inr (1, f1)), (h3, .inl (cB, 25600, .inl g0)), (h1, .inl (cJ, 1, .inr (.inl (vp_updL g1 0 0))))] 0 0 := by
  intro sz
  refine k_metH (cc := cL_octet) (maxL := 5) (ret := (some .int)) (hh := [(0, 10, 13, 25)]) (by decide) rfl ?_
  intro p e s m args below meth c s₁ B hml hv
  obtain ⟨rfl, hsz, hP, hK, hD0, hN, hX⟩ := hv
  have hx := B.exec
  have hb := B.bytes
  have hr := B.returns
  have hts := atoms_spec (ws := wsL_octet) B.pre
  have hown : s.vm.findClass RL = some m.cls := findClass_of_methodNamed B.named
  have hlocks := B.notSynchronized
  subst hsz
  have hD := hD0.self (sz := s.heap.size)
  have hAE := k_AE hD0 hX
  generalize hAe : va_A [(h0, .inr (11, f0)), (h2, .inr (1, f1)), (h3, .inl (cB, 25600, .inl g0)), (h1, .inl (cJ, 1, .inr (.inl g1)))] s.heap.size = A at hD hAE ⊢
  have hA : ∀ q : Nat, s.heap.size ≤ q → A q := fun q h => by rw [← hAe]; exact Or.inr h
  have hS : va_S A s.heap s.heap [] := va_S.rf
  have hP : va_P D vwCl [(h0, .inr (11, f0)), (h2, .inr (1, f1)), (h3, .inl (cB, 25600, .inl g0)), (h1, .inl (cJ, 1, .inr (.inl g1)))] s.heap := hP
  have hl := lv_entry ([.ref h0, .int x0, .int x1, .ref h1] : List Value) (n := 5) (Nat.le_of_ble_eq_true rfl)
  rw [lg_entry_eq]
  generalize (lg_sl ([.ref h0, .int x0, .int x1, .ref h1]) ++ List.replicate (5 - (lg_sl ([.ref h0, .int x0, .int x1, .ref h1])).length) Slot.unset).toArray = ls at hl ⊢
  have hl : lv_has ls 5 [(0, .ref h0), (1, .int x0), (2, .int x1), (3, .ref h1)] := hl
  refine lv_aload_n hx hb dL_octet_0 rfl (lv_at hl 3 rfl) ?_
  refine lv_iconst (v := 0) hx hb dL_octet_1 (by decide) ?_
  refine lv_aload_n hx hb dL_octet_2 rfl (lv_at hl 0 rfl) ?_
  refine lv_iload_n hx hb dL_octet_3 rfl (lv_at hl 1 rfl) ?_
  refine lv_iload_n hx hb dL_octet_4 rfl (lv_at hl 2 rfl) ?_
  refine k_cVi (As := [.int x0, .int x1]) (rest := [.int 0, .ref h1]) (wc := [(h0, .inr (11, f0)), (h2, .inr (1, f1)), (h3, .inl (cB, 25600, .inl g0))]) (wr := [(h1, .inl (cJ, 1, .inr (.inl g1)))]) (w1 := [(h0, .inr (11, f0)), (h2, .inr (1, f1)), (h3, .inl (cB, 25600, .inl g0))]) ⟨hx, hb, hml, hown, hts⟩ hN hX hAE hK hP hD hS hA [0, 1, 2] [3] (ci := 11) rfl rfl rfl rfl (by decide +kernel) (by decide +kernel) (by decide +kernel) (c_X11_octet_0 l E D cI cJ cB cZ h0 x0 x1 f0 h2 f1 h3 g0 e3 e4 e5 e6 e0 e1 e2 e7) (cwV 2 hts gL_octet_X11_octet rfl rfl rfl (by decide +kernel) ⟨Nat.le_of_ble_eq_true rfl, Nat.le_of_ble_eq_true rfl⟩) rfl hl.1 (Nat.le_of_ble_eq_true rfl) dL_octet_5 ⟨Nat.le_of_ble_eq_true rfl, Nat.le_of_ble_eq_true rfl⟩ (fun H locs hP hD hS => ?_)
  have hP : va_P D vwCl [(h1, .inl (cJ, 1, .inr (.inl g1))), (h0, .inr (11, f0)), (h2, .inr (1, f1)), (h3, .inl (cB, 25600, .inl g0))] H := hP
  have hD : va_D A [(h1, .inl (cJ, 1, .inr (.inl g1))), (h0, .inr (11, f0)), (h2, .inr (1, f1)), (h3, .inl (cB, 25600, .inl g0))] := hD
  refine lv_i2l (v := 0) hx hb dL_octet_8 (by decide) ?_
  refine va_last hx hb hK hP hD hS 0 1 rfl rfl (k_in (by decide)) dL_octet_9 (fun H locs hP hD hS => ?_)
  have hP : va_P D vwCl [(h1, .inl (cJ, 1, .inr (.inl (vp_updL g1 0 0)))), (h0, .inr (11, f0)), (h2, .inr (1, f1)), (h3, .inl (cB, 25600, .inl g0))] H := hP
  have hD : va_D A [(h1, .inl (cJ, 1, .inr (.inl (vp_updL g1 0 0)))), (h0, .inr (11, f0)), (h2, .inr (1, f1)), (h3, .inl (cB, 25600, .inl g0))] := hD
  refine lv_goto (tgt := 17) hx hb dL_octet_10 (by decide) ?_
  refine lv_iconst (v := 0) hx hb dL_octet_17 (by decide) ?_
  have hP := hP.sub (ws' := [(h0, .inr (11, f0)), (h2, .inr (1, f1)), (h3, .inl (cB, 25600, .inl g0)), (h1, .inl (cJ, 1, .inr (.inl (vp_updL g1 0 0))))]) [1, 2, 3, 0] rfl
  have hD := hD.sub (ws' := [(h0, .inr (11, f0)), (h2, .inr (1, f1)), (h3, .inl (cB, 25600, .inl g0)), (h1, .inl (cJ, 1, .inr (.inl (vp_updL g1 0 0))))]) [1, 2, 3, 0] (by decide +kernel) rfl
  exact W.iret (v := 0) hx hb hr (fun t ht hW => ⟨⟨0, (), rfl, rfl, kB_mk ht hW hP hK hD⟩, hS.F ht⟩) hS.2.2 dL_octet_18
set_option maxHeartbeats 400000000 in
set_option maxRecDepth 100000 in
theorem c_X12_in_9 (l : Launch) (E : kE) (D : va_G) (cI cJ cB cZ : ClassId) (y0 : Int64) (e0 : ¬ (((lg_cmp y0 1) : Int32) < 0)) (e1 : ¬ ((0 : Int32) < (lg_cmp y0 100))) : kI l E D (kT cI cJ cB cZ) yX12_in wsX12_in ({ frames := 0, cells := 0, slots := 0, locals := 0 }) [.long y0, .long 1, .long 100] [] (1) [] 0 0 := by
  intro sz
  refine Met.ofW (cc := cX12_in) (maxL := 6) (ret := (some .boolean)) (by decide) rfl ?_
  intro p e s m args below meth c s₁ B hml hv
  obtain ⟨rfl, hsz, hP, hK, hD0, hN, hX⟩ := hv
  have hx := B.exec
  have hb := B.bytes
  have hr := B.returns
  have hts := atoms_spec (ws := wsX12_in) B.pre
  have hown : s.vm.findClass RX12 = some m.cls := findClass_of_methodNamed B.named
  have hlocks := B.notSynchronized
  subst hsz
  have hD := hD0.self (sz := s.heap.size)
  have hAE := k_AE hD0 hX
  generalize hAe : va_A [] s.heap.size = A at hD hAE ⊢
  have hA : ∀ q : Nat, s.heap.size ≤ q → A q := fun q h => by rw [← hAe]; exact Or.inr h
  have hS : va_S A s.heap s.heap [] := va_S.rf
  have hP : va_P D vwCl [] s.heap := hP
  have hl := lv_entry ([.long y0, .long 1, .long 100] : List Value) (n := 6) (Nat.le_of_ble_eq_true rfl)
  rw [lg_entry_eq]
  generalize (lg_sl ([.long y0, .long 1, .long 100]) ++ List.replicate (6 - (lg_sl ([.long y0, .long 1, .long 100])).length) Slot.unset).toArray = ls at hl ⊢
  have hl : lv_has ls 6 [(0, .long y0), (2, .long 1), (4, .long 100)] := hl
  refine lv_lload_n hx hb dX12_in_0 rfl (lv_at hl 0 rfl) ?_
  refine lv_lload_n hx hb dX12_in_1 rfl (lv_at hl 1 rfl) ?_
  refine W.lcmp hx hb dX12_in_2 ?_
  refine lv_if_lt (tgt := 17) hx hb dX12_in_3 (by decide) (fun c9 => absurd c9 e0) (fun _ => ?_)
  refine lv_lload_n hx hb dX12_in_6 rfl (lv_at hl 0 rfl) ?_
  refine lv_lload hx hb dX12_in_7 (lv_at hl 2 rfl) ?_
  refine W.lcmp hx hb dX12_in_9 ?_
  refine lv_if_gt (tgt := 17) hx hb dX12_in_10 (by decide) (fun c9 => absurd c9 e1) (fun _ => ?_)
  refine lv_iconst (v := 1) hx hb dX12_in_13 (by decide) ?_
  refine lv_goto (tgt := 18) hx hb dX12_in_14 (by decide) ?_
  exact W.zret (v := 1) hx hb hr rfl (fun t ht hW => ⟨⟨1, (), rfl, rfl, kB_mk ht hW hP hK hD⟩, hS.F ht⟩) hS.2.2 dX12_in_18
set_option maxHeartbeats 400000000 in
set_option maxRecDepth 100000 in
theorem c_X12_at_0 (l : Launch) (E : kE) (D : va_G) (cI cJ cB cZ : ClassId) (h0 : Nat) (x0 : Int32) (x1 : Int32) (f0 : List Value) (h1 : Nat) (g0 : Nat → Int32) (e0 : f0[3]? = some (.ref h1)) (e1 : vp_in ((256 * x0) + x1) 25856) (e2 : g0 (Int32.toNatClampNeg ((256 * x0) + x1)) = 0) : kI l E D (kT cI cJ cB cZ) yX12_at wsX12_at ({ frames := 0, cells := 0, slots := 0, locals := 0 }) [.ref h0, .int x0, .int x1] [(h0, .inr (12, f0)), (h1, .inl (cB, 25856, .inl g0))] (0) [(h0, .inr (12, f0)), (h1, .inl (cB, 25856, .inl g0))] 0 0 := by
  intro sz
  refine Met.ofW (cc := cX12_at) (maxL := 3) (ret := (some .int)) (by decide) rfl ?_
  intro p e s m args below meth c s₁ B hml hv
  obtain ⟨rfl, hsz, hP, hK, hD0, hN, hX⟩ := hv
  have hx := B.exec
  have hb := B.bytes
  have hr := B.returns
  have hts := atoms_spec (ws := wsX12_at) B.pre
  have hown : s.vm.findClass RX12 = some m.cls := findClass_of_methodNamed B.named
  have hlocks := B.notSynchronized
  have hin12 : ∀ w ∈ wsX120, w ∈ wsX12_at := (fun w h => (List.mem_cons_of_mem _ (List.mem_append_right _ h)))
  subst hsz
  have hD := hD0.self (sz := s.heap.size)
  have hAE := k_AE hD0 hX
  generalize hAe : va_A [(h0, .inr (12, f0)), (h1, .inl (cB, 25856, .inl g0))] s.heap.size = A at hD hAE ⊢
  have hA : ∀ q : Nat, s.heap.size ≤ q → A q := fun q h => by rw [← hAe]; exact Or.inr h
  have hS : va_S A s.heap s.heap [] := va_S.rf
  have hP : va_P D vwCl [(h0, .inr (12, f0)), (h1, .inl (cB, 25856, .inl g0))] s.heap := hP
  have hl := lv_entry ([.ref h0, .int x0, .int x1] : List Value) (n := 3) (Nat.le_of_ble_eq_true rfl)
  rw [lg_entry_eq]
  generalize (lg_sl ([.ref h0, .int x0, .int x1]) ++ List.replicate (3 - (lg_sl ([.ref h0, .int x0, .int x1])).length) Slot.unset).toArray = ls at hl ⊢
  have hl : lv_has ls 3 [(0, .ref h0), (1, .int x0), (2, .int x1)] := hl
  refine lv_aload_n hx hb dX12_at_0 rfl (lv_at hl 0 rfl) ?_
  refine va_get (D := D) (ref := "IntegerHouseModel") (ci := 12) (v := .ref h1) (C := RX12) (T := TX12) (N := 195) hx hb hts hin12 hown hK hP 0 rfl rfl 3 (by decide) (hts (.fieldLink RX12 19 "IntegerHouseModel" "disk" "[B") (List.mem_cons_of_mem _ (List.mem_append_left _ (List.mem_of_getElem? (i := 0) rfl)))) (fun _ h9 => h9) e0 dX12_at_1 ?_
  refine lv_sipush (v := 256) hx hb dX12_at_4 (by decide) ?_
  refine lv_iload_n hx hb dX12_at_7 rfl (lv_at hl 1 rfl) ?_
  refine lv_imul hx hb dX12_at_8 ?_
  refine lv_iload_n hx hb dX12_at_9 rfl (lv_at hl 2 rfl) ?_
  refine lv_iadd hx hb dX12_at_10 ?_
  refine va_bald hx hb hK hP 1 2 rfl rfl e1 dX12_at_11 ?_
  refine k_topi (y := 0) e2 ?_
  refine lv_sipush (v := 255) hx hb dX12_at_12 (by decide) ?_
  refine lv_iand hx hb dX12_at_15 ?_
  refine k_topi (y := 0) (by decide) ?_
  exact W.iret (v := 0) hx hb hr (fun t ht hW => ⟨⟨0, (), rfl, rfl, kB_mk ht hW hP hK hD⟩, hS.F ht⟩) hS.2.2 dX12_at_16
set_option maxHeartbeats 400000000 in
set_option maxRecDepth 100000 in
theorem c_X12_octet_0 (l : Launch) (E : kE) (D : va_G) (cI cJ cB cZ : ClassId) (h0 : Nat) (x0 : Int32) (x1 : Int32) (f0 : List Value) (h1 : Nat) (g0 : Nat → Int32) (e0 : ¬ ((x0 : Int32) < 1)) (e1 : (x0 : Int32) < 101) (e2 : ¬ ((x1 : Int32) < 0)) (e3 : (x1 : Int32) < 256) (e4 : f0[0]? = some (.int 0)) (e5 : f0[3]? = some (.ref h1)) (e6 : g0 (Int32.toNatClampNeg ((256 * x0) + x1)) = 0) (e7 : vp_in ((256 * x0) + x1) 25856) : kI l E D (kT cI cJ cB cZ) yX12_octet wsX12_octet ({ frames := 1, cells := 0, slots := 0, locals := 25 }) [.ref h0, .int x0, .int x1] [(h0, .inr (12, f0)), (h1, .inl (cB, 25856, .inl g0))] (0) [(h0, .inr (12, (f0.set 0 (.int 0)))), (h1, .inl (cB, 25856, .inl g0))] 0 0 := by
  intro sz
  refine Met.ofW (cc := cX12_octet) (maxL := 3) (ret := (some .int)) (by decide) rfl ?_
  intro p e s m args below meth c s₁ B hml hv
  obtain ⟨rfl, hsz, hP, hK, hD0, hN, hX⟩ := hv
  have hx := B.exec
  have hb := B.bytes
  have hr := B.returns
  have hts := atoms_spec (ws := wsX12_octet) B.pre
  have hown : s.vm.findClass RX12 = some m.cls := findClass_of_methodNamed B.named
  have hlocks := B.notSynchronized
  have hin12 : ∀ w ∈ wsX120, w ∈ wsX12_octet := (fun w h => (List.mem_cons_of_mem _ (List.mem_append_right _ h)))
  subst hsz
  have hD := hD0.self (sz := s.heap.size)
  have hAE := k_AE hD0 hX
  generalize hAe : va_A [(h0, .inr (12, f0)), (h1, .inl (cB, 25856, .inl g0))] s.heap.size = A at hD hAE ⊢
  have hA : ∀ q : Nat, s.heap.size ≤ q → A q := fun q h => by rw [← hAe]; exact Or.inr h
  have hS : va_S A s.heap s.heap [] := va_S.rf
  have hP : va_P D vwCl [(h0, .inr (12, f0)), (h1, .inl (cB, 25856, .inl g0))] s.heap := hP
  have hl := lv_entry ([.ref h0, .int x0, .int x1] : List Value) (n := 3) (Nat.le_of_ble_eq_true rfl)
  rw [lg_entry_eq]
  generalize (lg_sl ([.ref h0, .int x0, .int x1]) ++ List.replicate (3 - (lg_sl ([.ref h0, .int x0, .int x1])).length) Slot.unset).toArray = ls at hl ⊢
  have hl : lv_has ls 3 [(0, .ref h0), (1, .int x0), (2, .int x1)] := hl
  refine lv_aload_n hx hb dX12_octet_0 rfl (lv_at hl 0 rfl) ?_
  refine lv_iload_n hx hb dX12_octet_1 rfl (lv_at hl 1 rfl) ?_
  refine lv_i2l (v := (Int32.toInt64 x0)) hx hb dX12_octet_2 rfl ?_
  refine lv_lconst (v := 1) hx hb dX12_octet_3 (by decide) ?_
  refine lv_ldc2 (own := RX12) (index := 560) (v := 100) hx hb hown (hts (.constantLong RX12 560 (100)) (List.mem_cons_of_mem _ (List.mem_append_left _ (List.mem_of_getElem? (i := 0) rfl)))) dX12_octet_4 ?_
  refine k_cSi (As := [.long (Int32.toInt64 x0), .long 1, .long 100]) (rest := [.ref h0]) (wc := []) (wr := [(h0, .inr (12, f0)), (h1, .inl (cB, 25856, .inl g0))]) (w1 := []) ⟨hx, hb, hml, hown, hts⟩ hN hX hAE hK hP hD hS hA [] [0, 1] rfl rfl (by decide +kernel) (by decide +kernel) (by decide +kernel) (c_X12_in_9 l E D cI cJ cB cZ (Int32.toInt64 x0) (fun z9 => e0 ((k_n4 (x := x0) (c := 1) (C := 1) (by decide)).mp z9)) (fun z9 => (k_n5 (x := x0) (c := 100) (d := 101) (C := 100) (by decide) (by decide)).mp z9 e1)) (va_cwS 3 hts gX12_octet_X12_in rfl rfl rfl (by decide +kernel) ⟨Nat.le_of_ble_eq_true rfl, Nat.le_of_ble_eq_true rfl⟩) rfl hl.1 (Nat.le_of_ble_eq_true rfl) dX12_octet_7 ⟨Nat.le_of_ble_eq_true rfl, Nat.le_of_ble_eq_true rfl⟩ (fun H locs hP hD hS => ?_)
  have hP : va_P D vwCl [(h0, .inr (12, f0)), (h1, .inl (cB, 25856, .inl g0))] H := hP
  have hD : va_D A [(h0, .inr (12, f0)), (h1, .inl (cB, 25856, .inl g0))] := hD
  refine lv_if_eq (tgt := 29) hx hb dX12_octet_10 (by decide) (fun c9 => absurd c9 (by decide)) (fun _ => ?_)
  refine lv_iload_n hx hb dX12_octet_13 rfl (lv_at hl 2 rfl) ?_
  refine lv_i2l (v := (Int32.toInt64 x1)) hx hb dX12_octet_14 rfl ?_
  refine lv_lconst (v := 0) hx hb dX12_octet_15 (by decide) ?_
  refine lv_ldc2 (own := RX12) (index := 530) (v := 255) hx hb hown (hts (.constantLong RX12 530 (255)) (List.mem_cons_of_mem _ (List.mem_append_left _ (List.mem_of_getElem? (i := 1) rfl)))) dX12_octet_16 ?_
  refine k_cSi (As := [.long (Int32.toInt64 x1), .long 0, .long 255]) (rest := [.ref h0]) (wc := []) (wr := [(h0, .inr (12, f0)), (h1, .inl (cB, 25856, .inl g0))]) (w1 := []) ⟨hx, hb, hml, hown, hts⟩ hN hX hAE hK hP hD hS hA [] [0, 1] rfl rfl (by decide +kernel) (by decide +kernel) (by decide +kernel) (c_X12_in_4 l E D cI cJ cB cZ (Int32.toInt64 x1) (fun z9 => e2 ((k_n4 (x := x1) (c := 0) (C := 0) (by decide)).mp z9)) (fun z9 => (k_n5 (x := x1) (c := 255) (d := 256) (C := 255) (by decide) (by decide)).mp z9 e3)) (va_cwS 3 hts gX12_octet_X12_in rfl rfl rfl (by decide +kernel) ⟨Nat.le_of_ble_eq_true rfl, Nat.le_of_ble_eq_true rfl⟩) rfl hl.1 (Nat.le_of_ble_eq_true rfl) dX12_octet_19 ⟨Nat.le_of_ble_eq_true rfl, Nat.le_of_ble_eq_true rfl⟩ (fun H locs hP hD hS => ?_)
  have hP : va_P D vwCl [(h0, .inr (12, f0)), (h1, .inl (cB, 25856, .inl g0))] H := hP
  have hD : va_D A [(h0, .inr (12, f0)), (h1, .inl (cB, 25856, .inl g0))] := hD
  refine lv_if_eq (tgt := 29) hx hb dX12_octet_22 (by decide) (fun c9 => absurd c9 (by decide)) (fun _ => ?_)
  refine lv_iconst (v := 0) hx hb dX12_octet_25 (by decide) ?_
  refine lv_goto (tgt := 30) hx hb dX12_octet_26 (by decide) ?_
  refine va_put (D := D) (ref := "IntegerHouseModel") (ci := 12) (v := .int 0) (ty := .int) (C := RX12) (T := TX12) (N := 195) hx hb hts hin12 tyX12 tyX12_ok nmX12 hown hK hP hD hS 0 rfl rfl 0 (by decide) (hts (.fieldLink RX12 3 "IntegerHouseModel" "thrown" "I") (List.mem_cons_of_mem _ (List.mem_append_left _ (List.mem_of_getElem? (i := 2) rfl)))) (fun _ h9 => h9) rfl (by decide +kernel) rfl rfl (k_len e4) dX12_octet_30 (fun H locs hP hD hS => ?_)
  have hP : va_P D vwCl [(h0, .inr (12, (f0.set 0 (.int 0)))), (h1, .inl (cB, 25856, .inl g0))] H := hP
  have hD : va_D A [(h0, .inr (12, (f0.set 0 (.int 0)))), (h1, .inl (cB, 25856, .inl g0))] := hD
  refine lv_aload_n hx hb dX12_octet_33 rfl (lv_at hl 0 rfl) ?_
  refine va_get (D := D) (ref := "IntegerHouseModel") (ci := 12) (v := .int 0) (C := RX12) (T := TX12) (N := 195) hx hb hts hin12 hown hK hP 0 rfl rfl 0 (by decide) (hts (.fieldLink RX12 3 "IntegerHouseModel" "thrown" "I") (List.mem_cons_of_mem _ (List.mem_append_left _ (List.mem_of_getElem? (i := 2) rfl)))) (fun _ h9 => h9) (k_set e4) dX12_octet_34 ?_
  refine lv_if_le (tgt := 44) hx hb dX12_octet_37 (by decide) (fun _ => ?_) (fun c9 => absurd (by decide) c9)
  refine lv_aload_n hx hb dX12_octet_44 rfl (lv_at hl 0 rfl) ?_
  refine lv_iload_n hx hb dX12_octet_45 rfl (lv_at hl 1 rfl) ?_
  refine lv_iload_n hx hb dX12_octet_46 rfl (lv_at hl 2 rfl) ?_
  refine k_cVi (As := [.int x0, .int x1]) (rest := []) (wc := [(h0, .inr (12, (f0.set 0 (.int 0)))), (h1, .inl (cB, 25856, .inl g0))]) (wr := []) (w1 := [(h0, .inr (12, (f0.set 0 (.int 0)))), (h1, .inl (cB, 25856, .inl g0))]) ⟨hx, hb, hml, hown, hts⟩ hN hX hAE hK hP hD hS hA [0, 1] [] (ci := 12) rfl rfl rfl rfl (by decide +kernel) (by decide +kernel) (by decide +kernel) (c_X12_at_0 l E D cI cJ cB cZ h0 x0 x1 ((f0.set 0 (.int 0))) h1 g0 (k_ne (by decide) e5) e7 e6) (cwV 2 hts gX12_octet_X12_at rfl rfl rfl (by decide +kernel) ⟨Nat.le_of_ble_eq_true rfl, Nat.le_of_ble_eq_true rfl⟩) rfl hl.1 (Nat.le_of_ble_eq_true rfl) dX12_octet_47 ⟨Nat.le_of_ble_eq_true rfl, Nat.le_of_ble_eq_true rfl⟩ (fun H locs hP hD hS => ?_)
  have hP : va_P D vwCl [(h0, .inr (12, (f0.set 0 (.int 0)))), (h1, .inl (cB, 25856, .inl g0))] H := hP
  have hD : va_D A [(h0, .inr (12, (f0.set 0 (.int 0)))), (h1, .inl (cB, 25856, .inl g0))] := hD
  exact W.iret (v := 0) hx hb hr (fun t ht hW => ⟨⟨0, (), rfl, rfl, kB_mk ht hW hP hK hD⟩, hS.F ht⟩) hS.2.2 dX12_octet_50
set_option maxHeartbeats 400000000 in
set_option maxRecDepth 100000 in
theorem c_X1_isByte_1 (l : Launch) (E : kE) (D : va_G) (cI cJ cB cZ : ClassId) (x0 : Int32) (x1 : Int32) (e0 : (x0 : Int32) < 1) : kI l E D (kT cI cJ cB cZ) yX1_isByte wsX1_isByte ({ frames := 0, cells := 0, slots := 0, locals := 0 }) [.int x0, .int x1] [] (0) [] 0 0 := by
  intro sz
  refine Met.ofW (cc := cX1_isByte) (maxL := 2) (ret := (some .boolean)) (by decide) rfl ?_
  intro p e s m args below meth c s₁ B hml hv
  obtain ⟨rfl, hsz, hP, hK, hD0, hN, hX⟩ := hv
  have hx := B.exec
  have hb := B.bytes
  have hr := B.returns
  have hts := atoms_spec (ws := wsX1_isByte) B.pre
  have hown : s.vm.findClass RX1 = some m.cls := findClass_of_methodNamed B.named
  have hlocks := B.notSynchronized
  subst hsz
  have hD := hD0.self (sz := s.heap.size)
  have hAE := k_AE hD0 hX
  generalize hAe : va_A [] s.heap.size = A at hD hAE ⊢
  have hA : ∀ q : Nat, s.heap.size ≤ q → A q := fun q h => by rw [← hAe]; exact Or.inr h
  have hS : va_S A s.heap s.heap [] := va_S.rf
  have hP : va_P D vwCl [] s.heap := hP
  have hl := lv_entry ([.int x0, .int x1] : List Value) (n := 2) (Nat.le_of_ble_eq_true rfl)
  rw [lg_entry_eq]
  generalize (lg_sl ([.int x0, .int x1]) ++ List.replicate (2 - (lg_sl ([.int x0, .int x1])).length) Slot.unset).toArray = ls at hl ⊢
  have hl : lv_has ls 2 [(0, .int x0), (1, .int x1)] := hl
  refine lv_iload_n hx hb dX1_isByte_0 rfl (lv_at hl 0 rfl) ?_
  refine lv_iconst (v := 1) hx hb dX1_isByte_1 (by decide) ?_
  refine lv_icmp_lt (tgt := 26) hx hb dX1_isByte_2 (by decide) (fun _ => ?_) (fun c9 => absurd e0 c9)
  refine lv_iconst (v := 0) hx hb dX1_isByte_26 (by decide) ?_
  exact W.zret (v := 0) hx hb hr rfl (fun t ht hW => ⟨⟨0, (), rfl, rfl, kB_mk ht hW hP hK hD⟩, hS.F ht⟩) hS.2.2 dX1_isByte_27
set_option maxHeartbeats 400000000 in
set_option maxRecDepth 100000 in
theorem c_X11_octet_1 (l : Launch) (E : kE) (D : va_G) (cI cJ cB cZ : ClassId) (h0 : Nat) (x0 : Int32) (x1 : Int32) (e0 : (x0 : Int32) < 1) (hl9 : l.stackTraces = false) : kTI l E D (kT cI cJ cB cZ) yX11_octet wsX11_octet ({ frames := 6, cells := 1, slots := 6, locals := 82 }) [.ref h0, .int x0, .int x1] [] "java/lang/IndexOutOfBoundsException" 1 6 := by
  intro sz
  refine vx_ofW (cc := cX11_octet) (maxL := 3) (ret := (some .int)) (by decide) rfl ?_
  intro p e s m args below meth c s₁ B hml ht9 hv
  obtain ⟨rfl, hsz, hP, hK, hD0, hN, hX⟩ := hv
  have hx := B.exec
  have hb := B.bytes
  have hr := B.returns
  have hts := atoms_spec (ws := wsX11_octet) B.pre
  have hown : s.vm.findClass RX11 = some m.cls := findClass_of_methodNamed B.named
  have hlocks := B.notSynchronized
  subst hsz
  have hD := hD0.self (sz := s.heap.size)
  have hAE := k_AE hD0 hX
  generalize hAe : va_A [] s.heap.size = A at hD hAE ⊢
  have hA : ∀ q : Nat, s.heap.size ≤ q → A q := fun q h => by rw [← hAe]; exact Or.inr h
  have hS : va_S A s.heap s.heap [] := va_S.rf
  have hP : va_P D vwCl [] s.heap := hP
  have hl := lv_entry ([.ref h0, .int x0, .int x1] : List Value) (n := 3) (Nat.le_of_ble_eq_true rfl)
  rw [lg_entry_eq]
  generalize (lg_sl ([.ref h0, .int x0, .int x1]) ++ List.replicate (3 - (lg_sl ([.ref h0, .int x0, .int x1])).length) Slot.unset).toArray = ls at hl ⊢
  have hl : lv_has ls 3 [(0, .ref h0), (1, .int x0), (2, .int x1)] := hl
  refine lv_iload_n hx hb dX11_octet_0 rfl (lv_at hl 1 rfl) ?_
  refine lv_iload_n hx hb dX11_octet_1 rfl (lv_at hl 2 rfl) ?_
  refine k_cSi (As := [.int x0, .int x1]) (rest := []) (wc := []) (wr := []) (w1 := []) ⟨hx, hb, hml, hown, hts⟩ hN hX hAE hK hP hD hS hA [] [] rfl rfl (by decide +kernel) (by decide +kernel) (by decide +kernel) (c_X1_isByte_1 l E D cI cJ cB cZ x0 x1 e0) (va_cwS 2 hts gX11_octet_X1_isByte rfl rfl rfl (by decide +kernel) ⟨Nat.le_of_ble_eq_true rfl, Nat.le_of_ble_eq_true rfl⟩) rfl hl.1 (Nat.le_of_ble_eq_true rfl) dX11_octet_2 ⟨Nat.le_of_ble_eq_true rfl, Nat.le_of_ble_eq_true rfl⟩ (fun H locs hP hD hS => ?_)
  have hP : va_P D vwCl [] H := hP
  have hD : va_D A [] := hD
  refine lv_if_ne (tgt := 18) hx hb dX11_octet_5 (by decide) (fun c9 => absurd (by decide) c9) (fun _ => ?_)
  obtain ⟨a9, a9r, a9o⟩ := kX.st hX hAE ("IntegerHouse", 199, "no such byte of a block") (List.mem_of_getElem? (i := 5) rfl)
  exact vx_throwS (names := ["java/lang/RuntimeException", "java/lang/Exception"]) (A := A) hx hb hl9 hown (by decide +kernel) (by decide +kernel) (hts (.classLink RX11 197 "java/lang/IndexOutOfBoundsException") (List.mem_cons_of_mem _ (List.mem_append_left _ (List.mem_append_left _ (List.mem_append_left _ (List.mem_of_getElem? (i := 0) rfl)))))) (hts (.initialized "java/lang/IndexOutOfBoundsException") (List.mem_cons_of_mem _ (List.mem_append_left _ (List.mem_append_left _ (List.mem_append_left _ (List.mem_of_getElem? (i := 1) rfl)))))) a9r (vx_hat (L := vx_atS RX11 201 "java/lang/IndexOutOfBoundsException" ["java/lang/RuntimeException", "java/lang/Exception"]) (B := [.castable "java/lang/IndexOutOfBoundsException" "java/lang/IndexOutOfBoundsException", .declares (Bundle.initS "java/lang/RuntimeException"), .declares (Bundle.initS "java/lang/Exception"), .declares (Bundle.initS "java/lang/Throwable")]) (fun w h => hts w (List.mem_cons_of_mem _ (List.mem_append_right _ h))) (by decide +kernel) (vx_c (va_Nw.use rfl (kX.cast hX "java/lang/IndexOutOfBoundsException" (by decide))) (vx_c (va_Nw.use rfl (kX.decl hX "java/lang/RuntimeException" (by decide))) (vx_c (va_Nw.use rfl (kX.decl hX "java/lang/Exception" (by decide))) (vx_c (va_Nw.use rfl (kX.decl hX "java/lang/Throwable" (by decide))) vx_n))))) (by decide +kernel) (kX.us hX hAE) (kX.ss hX hAE) hS (by rw [hml]; exact hl.1) dX11_octet_8 dX11_octet_11 dX11_octet_12 dX11_octet_14 dX11_octet_17 (fun x hx => (ht9 x hx).elim) (Nat.le_of_ble_eq_true rfl) (Nat.le_of_ble_eq_true rfl) (Nat.le_of_ble_eq_true rfl) (Nat.le_of_ble_eq_true rfl) hlocks (fun t h1 h2 h3 => k_tx hP hK hD hS t h1 h2 h3) hS.2.2 (Nat.le_of_ble_eq_true rfl) (Nat.le_of_ble_eq_true rfl)
set_option maxHeartbeats 400000000 in
set_option maxRecDepth 100000 in
theorem c_L_octet_1 (l : Launch) (E : kE) (D : va_G) (cI cJ cB cZ : ClassId) (h0 : Nat) (x0 : Int32) (x1 : Int32) (h1 : Nat) (e0 : (x0 : Int32) < 1) (hl9 : l.stackTraces = false) : kI l E D (kT cI cJ cB cZ) yL_octet wsL_octet ({ frames := 7, cells := 1, slots := 6, locals := 104 }) [.ref h0, .int x0, .int x1, .ref h1] [] (1) [] 1 6 := by
  intro sz
  refine k_metH (cc := cL_octet) (maxL := 5) (ret := (some .int)) (hh := [(0, 10, 13, 25)]) (by decide) rfl ?_
  intro p e s m args below meth c s₁ B hml hv
  obtain ⟨rfl, hsz, hP, hK, hD0, hN, hX⟩ := hv
  have hx := B.exec
  have hb := B.bytes
  have hr := B.returns
  have hts := atoms_spec (ws := wsL_octet) B.pre
  have hown : s.vm.findClass RL = some m.cls := findClass_of_methodNamed B.named
  have hlocks := B.notSynchronized
  subst hsz
  have hD := hD0.self (sz := s.heap.size)
  have hAE := k_AE hD0 hX
  generalize hAe : va_A [] s.heap.size = A at hD hAE ⊢
  have hA : ∀ q : Nat, s.heap.size ≤ q → A q := fun q h => by rw [← hAe]; exact Or.inr h
  have hS : va_S A s.heap s.heap [] := va_S.rf
  have hP : va_P D vwCl [] s.heap := hP
  have hl := lv_entry ([.ref h0, .int x0, .int x1, .ref h1] : List Value) (n := 5) (Nat.le_of_ble_eq_true rfl)
  rw [lg_entry_eq]
  generalize (lg_sl ([.ref h0, .int x0, .int x1, .ref h1]) ++ List.replicate (5 - (lg_sl ([.ref h0, .int x0, .int x1, .ref h1])).length) Slot.unset).toArray = ls at hl ⊢
  have hl : lv_has ls 5 [(0, .ref h0), (1, .int x0), (2, .int x1), (3, .ref h1)] := hl
  refine lv_aload_n hx hb dL_octet_0 rfl (lv_at hl 3 rfl) ?_
  refine lv_iconst (v := 0) hx hb dL_octet_1 (by decide) ?_
  refine lv_aload_n hx hb dL_octet_2 rfl (lv_at hl 0 rfl) ?_
  refine lv_iload_n hx hb dL_octet_3 rfl (lv_at hl 1 rfl) ?_
  refine lv_iload_n hx hb dL_octet_4 rfl (lv_at hl 2 rfl) ?_
  refine k_cTi (As := [.int x0, .int x1]) (rest := [.int 0, .ref h1]) (wc := []) (wr := []) ⟨hx, hb, hml, hown, hts⟩ hN hX hAE hK hP hD hS hA [] [] (ci := 11) rfl rfl rfl rfl (by decide +kernel) (by decide +kernel) (by decide +kernel) (c_X11_octet_1 l E D cI cJ cB cZ h0 x0 x1 e0 hl9) (cwV 2 hts gL_octet_X11_octet rfl rfl rfl (by decide +kernel) ⟨Nat.le_of_ble_eq_true rfl, Nat.le_of_ble_eq_true rfl⟩) rfl hl.1 (Nat.le_of_ble_eq_true rfl) dL_octet_5 ⟨Nat.le_of_ble_eq_true rfl, Nat.le_of_ble_eq_true rfl⟩ (fun q9 ce H locs hP hD hS hce hcv hcl => ?_)
  have hP : va_P D vwCl [] H := hP
  have hD : va_D A [] := hD
  refine vx_catch (own := RL) (name := "java/lang/IndexOutOfBoundsException") hown [] ⟨0, 10, 13, 25⟩ [] (vx_table B (hts _ List.mem_cons_self)) (fun z hz => absurd hz List.not_mem_nil) (by decide) (by decide) (hts (.classLink RL 25 "java/lang/IndexOutOfBoundsException") (List.mem_cons_of_mem _ (List.mem_append_left _ (List.mem_append_left _ (List.mem_append_left _ (List.mem_of_getElem? (i := 0) rfl)))))) (va_Nw.use rfl (kX.cast hX "java/lang/IndexOutOfBoundsException" (by decide))) hce hcv hcl ?_
  refine W.eq (g2 := F0 m 13 ls [.ref q9]) rfl ?_
  refine W.widen (k := 1) (n := 6) (Nat.le_of_ble_eq_true rfl) (Nat.le_of_ble_eq_true rfl) ?_
  refine lv_astore (lv' := [(4, .ref q9), (0, .ref h0), (1, .int x0), (2, .int x1), (3, .ref h1)]) hx hb dL_octet_13 hl (by decide) rfl (fun ls hl => ?_)
  refine lv_iconst (v := 1) hx hb dL_octet_15 (by decide) ?_
  exact W.iret (v := 1) hx hb hr (fun t ht hW => ⟨⟨1, (), rfl, rfl, kB_mk ht hW hP hK hD⟩, hS.F ht⟩) hS.2.2 dL_octet_16
set_option maxHeartbeats 400000000 in
set_option maxRecDepth 100000 in
theorem c_X12_in_10 (l : Launch) (E : kE) (D : va_G) (cI cJ cB cZ : ClassId) (y0 : Int64) (e0 : ((lg_cmp y0 1) : Int32) < 0) : kI l E D (kT cI cJ cB cZ) yX12_in wsX12_in ({ frames := 0, cells := 0, slots := 0, locals := 0 }) [.long y0, .long 1, .long 100] [] (0) [] 0 0 := by
  intro sz
  refine Met.ofW (cc := cX12_in) (maxL := 6) (ret := (some .boolean)) (by decide) rfl ?_
  intro p e s m args below meth c s₁ B hml hv
  obtain ⟨rfl, hsz, hP, hK, hD0, hN, hX⟩ := hv
  have hx := B.exec
  have hb := B.bytes
  have hr := B.returns
  have hts := atoms_spec (ws := wsX12_in) B.pre
  have hown : s.vm.findClass RX12 = some m.cls := findClass_of_methodNamed B.named
  have hlocks := B.notSynchronized
  subst hsz
  have hD := hD0.self (sz := s.heap.size)
  have hAE := k_AE hD0 hX
  generalize hAe : va_A [] s.heap.size = A at hD hAE ⊢
  have hA : ∀ q : Nat, s.heap.size ≤ q → A q := fun q h => by rw [← hAe]; exact Or.inr h
  have hS : va_S A s.heap s.heap [] := va_S.rf
  have hP : va_P D vwCl [] s.heap := hP
  have hl := lv_entry ([.long y0, .long 1, .long 100] : List Value) (n := 6) (Nat.le_of_ble_eq_true rfl)
  rw [lg_entry_eq]
  generalize (lg_sl ([.long y0, .long 1, .long 100]) ++ List.replicate (6 - (lg_sl ([.long y0, .long 1, .long 100])).length) Slot.unset).toArray = ls at hl ⊢
  have hl : lv_has ls 6 [(0, .long y0), (2, .long 1), (4, .long 100)] := hl
  refine lv_lload_n hx hb dX12_in_0 rfl (lv_at hl 0 rfl) ?_
  refine lv_lload_n hx hb dX12_in_1 rfl (lv_at hl 1 rfl) ?_
  refine W.lcmp hx hb dX12_in_2 ?_
  refine lv_if_lt (tgt := 17) hx hb dX12_in_3 (by decide) (fun _ => ?_) (fun c9 => absurd e0 c9)
  refine lv_iconst (v := 0) hx hb dX12_in_17 (by decide) ?_
  exact W.zret (v := 0) hx hb hr rfl (fun t ht hW => ⟨⟨0, (), rfl, rfl, kB_mk ht hW hP hK hD⟩, hS.F ht⟩) hS.2.2 dX12_in_18
set_option maxHeartbeats 400000000 in
set_option maxRecDepth 100000 in
theorem c_X12_octet_1 (l : Launch) (E : kE) (D : va_G) (cI cJ cB cZ : ClassId) (h0 : Nat) (x0 : Int32) (x1 : Int32) (f0 : List Value) (e0 : (x0 : Int32) < 1) (e1 : f0[0]? = some (.int 0)) : kI l E D (kT cI cJ cB cZ) yX12_octet wsX12_octet ({ frames := 1, cells := 0, slots := 0, locals := 25 }) [.ref h0, .int x0, .int x1] [(h0, .inr (12, f0))] (0) [(h0, .inr (12, (f0.set 0 (.int 1))))] 0 0 := by
  intro sz
  refine Met.ofW (cc := cX12_octet) (maxL := 3) (ret := (some .int)) (by decide) rfl ?_
  intro p e s m args below meth c s₁ B hml hv
  obtain ⟨rfl, hsz, hP, hK, hD0, hN, hX⟩ := hv
  have hx := B.exec
  have hb := B.bytes
  have hr := B.returns
  have hts := atoms_spec (ws := wsX12_octet) B.pre
  have hown : s.vm.findClass RX12 = some m.cls := findClass_of_methodNamed B.named
  have hlocks := B.notSynchronized
  have hin12 : ∀ w ∈ wsX120, w ∈ wsX12_octet := (fun w h => (List.mem_cons_of_mem _ (List.mem_append_right _ h)))
  subst hsz
  have hD := hD0.self (sz := s.heap.size)
  have hAE := k_AE hD0 hX
  generalize hAe : va_A [(h0, .inr (12, f0))] s.heap.size = A at hD hAE ⊢
  have hA : ∀ q : Nat, s.heap.size ≤ q → A q := fun q h => by rw [← hAe]; exact Or.inr h
  have hS : va_S A s.heap s.heap [] := va_S.rf
  have hP : va_P D vwCl [(h0, .inr (12, f0))] s.heap := hP
  have hl := lv_entry ([.ref h0, .int x0, .int x1] : List Value) (n := 3) (Nat.le_of_ble_eq_true rfl)
  rw [lg_entry_eq]
  generalize (lg_sl ([.ref h0, .int x0, .int x1]) ++ List.replicate (3 - (lg_sl ([.ref h0, .int x0, .int x1])).length) Slot.unset).toArray = ls at hl ⊢
  have hl : lv_has ls 3 [(0, .ref h0), (1, .int x0), (2, .int x1)] := hl
  refine lv_aload_n hx hb dX12_octet_0 rfl (lv_at hl 0 rfl) ?_
  refine lv_iload_n hx hb dX12_octet_1 rfl (lv_at hl 1 rfl) ?_
  refine lv_i2l (v := (Int32.toInt64 x0)) hx hb dX12_octet_2 rfl ?_
  refine lv_lconst (v := 1) hx hb dX12_octet_3 (by decide) ?_
  refine lv_ldc2 (own := RX12) (index := 560) (v := 100) hx hb hown (hts (.constantLong RX12 560 (100)) (List.mem_cons_of_mem _ (List.mem_append_left _ (List.mem_of_getElem? (i := 0) rfl)))) dX12_octet_4 ?_
  refine k_cSi (As := [.long (Int32.toInt64 x0), .long 1, .long 100]) (rest := [.ref h0]) (wc := []) (wr := [(h0, .inr (12, f0))]) (w1 := []) ⟨hx, hb, hml, hown, hts⟩ hN hX hAE hK hP hD hS hA [] [0] rfl rfl (by decide +kernel) (by decide +kernel) (by decide +kernel) (c_X12_in_10 l E D cI cJ cB cZ (Int32.toInt64 x0) ((k_n4 (x := x0) (c := 1) (C := 1) (by decide)).mpr e0)) (va_cwS 3 hts gX12_octet_X12_in rfl rfl rfl (by decide +kernel) ⟨Nat.le_of_ble_eq_true rfl, Nat.le_of_ble_eq_true rfl⟩) rfl hl.1 (Nat.le_of_ble_eq_true rfl) dX12_octet_7 ⟨Nat.le_of_ble_eq_true rfl, Nat.le_of_ble_eq_true rfl⟩ (fun H locs hP hD hS => ?_)
  have hP : va_P D vwCl [(h0, .inr (12, f0))] H := hP
  have hD : va_D A [(h0, .inr (12, f0))] := hD
  refine lv_if_eq (tgt := 29) hx hb dX12_octet_10 (by decide) (fun _ => ?_) (fun c9 => absurd (by decide) c9)
  refine lv_iconst (v := 1) hx hb dX12_octet_29 (by decide) ?_
  refine va_put (D := D) (ref := "IntegerHouseModel") (ci := 12) (v := .int 1) (ty := .int) (C := RX12) (T := TX12) (N := 195) hx hb hts hin12 tyX12 tyX12_ok nmX12 hown hK hP hD hS 0 rfl rfl 0 (by decide) (hts (.fieldLink RX12 3 "IntegerHouseModel" "thrown" "I") (List.mem_cons_of_mem _ (List.mem_append_left _ (List.mem_of_getElem? (i := 2) rfl)))) (fun _ h9 => h9) rfl (by decide +kernel) rfl rfl (k_len e1) dX12_octet_30 (fun H locs hP hD hS => ?_)
  have hP : va_P D vwCl [(h0, .inr (12, (f0.set 0 (.int 1))))] H := hP
  have hD : va_D A [(h0, .inr (12, (f0.set 0 (.int 1))))] := hD
  refine lv_aload_n hx hb dX12_octet_33 rfl (lv_at hl 0 rfl) ?_
  refine va_get (D := D) (ref := "IntegerHouseModel") (ci := 12) (v := .int 1) (C := RX12) (T := TX12) (N := 195) hx hb hts hin12 hown hK hP 0 rfl rfl 0 (by decide) (hts (.fieldLink RX12 3 "IntegerHouseModel" "thrown" "I") (List.mem_cons_of_mem _ (List.mem_append_left _ (List.mem_of_getElem? (i := 2) rfl)))) (fun _ h9 => h9) (k_set e1) dX12_octet_34 ?_
  refine lv_if_le (tgt := 44) hx hb dX12_octet_37 (by decide) (fun c9 => absurd c9 (by decide)) (fun _ => ?_)
  refine lv_iconst (v := 0) hx hb dX12_octet_40 (by decide) ?_
  refine lv_goto (tgt := 50) hx hb dX12_octet_41 (by decide) ?_
  exact W.iret (v := 0) hx hb hr (fun t ht hW => ⟨⟨0, (), rfl, rfl, kB_mk ht hW hP hK hD⟩, hS.F ht⟩) hS.2.2 dX12_octet_50
set_option maxHeartbeats 400000000 in
set_option maxRecDepth 100000 in
theorem c_X1_isByte_2 (l : Launch) (E : kE) (D : va_G) (cI cJ cB cZ : ClassId) (x0 : Int32) (x1 : Int32) (e0 : ¬ ((x0 : Int32) < 1)) (e1 : (x0 : Int32) < 101) (e2 : (x1 : Int32) < 0) : kI l E D (kT cI cJ cB cZ) yX1_isByte wsX1_isByte ({ frames := 0, cells := 0, slots := 0, locals := 0 }) [.int x0, .int x1] [] (0) [] 0 0 := by
  intro sz
  refine Met.ofW (cc := cX1_isByte) (maxL := 2) (ret := (some .boolean)) (by decide) rfl ?_
  intro p e s m args below meth c s₁ B hml hv
  obtain ⟨rfl, hsz, hP, hK, hD0, hN, hX⟩ := hv
  have hx := B.exec
  have hb := B.bytes
  have hr := B.returns
  have hts := atoms_spec (ws := wsX1_isByte) B.pre
  have hown : s.vm.findClass RX1 = some m.cls := findClass_of_methodNamed B.named
  have hlocks := B.notSynchronized
  subst hsz
  have hD := hD0.self (sz := s.heap.size)
  have hAE := k_AE hD0 hX
  generalize hAe : va_A [] s.heap.size = A at hD hAE ⊢
  have hA : ∀ q : Nat, s.heap.size ≤ q → A q := fun q h => by rw [← hAe]; exact Or.inr h
  have hS : va_S A s.heap s.heap [] := va_S.rf
  have hP : va_P D vwCl [] s.heap := hP
  have hl := lv_entry ([.int x0, .int x1] : List Value) (n := 2) (Nat.le_of_ble_eq_true rfl)
  rw [lg_entry_eq]
  generalize (lg_sl ([.int x0, .int x1]) ++ List.replicate (2 - (lg_sl ([.int x0, .int x1])).length) Slot.unset).toArray = ls at hl ⊢
  have hl : lv_has ls 2 [(0, .int x0), (1, .int x1)] := hl
  refine lv_iload_n hx hb dX1_isByte_0 rfl (lv_at hl 0 rfl) ?_
  refine lv_iconst (v := 1) hx hb dX1_isByte_1 (by decide) ?_
  refine lv_icmp_lt (tgt := 26) hx hb dX1_isByte_2 (by decide) (fun c9 => absurd c9 e0) (fun _ => ?_)
  refine lv_iload_n hx hb dX1_isByte_5 rfl (lv_at hl 0 rfl) ?_
  refine lv_bipush (v := 100) hx hb dX1_isByte_6 (by decide) ?_
  refine lv_icmp_gt (tgt := 26) hx hb dX1_isByte_8 (by decide) (fun c9 => absurd c9 (fun z9 => (k_n3 (x := x0) (c := 100) (d := 101) (by decide)).mp z9 e1)) (fun _ => ?_)
  refine lv_iload_n hx hb dX1_isByte_11 rfl (lv_at hl 1 rfl) ?_
  refine lv_if_lt (tgt := 26) hx hb dX1_isByte_12 (by decide) (fun _ => ?_) (fun c9 => absurd e2 c9)
  refine lv_iconst (v := 0) hx hb dX1_isByte_26 (by decide) ?_
  exact W.zret (v := 0) hx hb hr rfl (fun t ht hW => ⟨⟨0, (), rfl, rfl, kB_mk ht hW hP hK hD⟩, hS.F ht⟩) hS.2.2 dX1_isByte_27
set_option maxHeartbeats 400000000 in
set_option maxRecDepth 100000 in
theorem c_X11_octet_2 (l : Launch) (E : kE) (D : va_G) (cI cJ cB cZ : ClassId) (h0 : Nat) (x0 : Int32) (x1 : Int32) (e0 : ¬ ((x0 : Int32) < 1)) (e1 : (x0 : Int32) < 101) (e2 : (x1 : Int32) < 0) (hl9 : l.stackTraces = false) : kTI l E D (kT cI cJ cB cZ) yX11_octet wsX11_octet ({ frames := 6, cells := 1, slots := 6, locals := 82 }) [.ref h0, .int x0, .int x1] [] "java/lang/IndexOutOfBoundsException" 1 6 := by
  intro sz
  refine vx_ofW (cc := cX11_octet) (maxL := 3) (ret := (some .int)) (by decide) rfl ?_
  intro p e s m args below meth c s₁ B hml ht9 hv
  obtain ⟨rfl, hsz, hP, hK, hD0, hN, hX⟩ := hv
  have hx := B.exec
  have hb := B.bytes
  have hr := B.returns
  have hts := atoms_spec (ws := wsX11_octet) B.pre
  have hown : s.vm.findClass RX11 = some m.cls := findClass_of_methodNamed B.named
  have hlocks := B.notSynchronized
  subst hsz
  have hD := hD0.self (sz := s.heap.size)
  have hAE := k_AE hD0 hX
  generalize hAe : va_A [] s.heap.size = A at hD hAE ⊢
  have hA : ∀ q : Nat, s.heap.size ≤ q → A q := fun q h => by rw [← hAe]; exact Or.inr h
  have hS : va_S A s.heap s.heap [] := va_S.rf
  have hP : va_P D vwCl [] s.heap := hP
  have hl := lv_entry ([.ref h0, .int x0, .int x1] : List Value) (n := 3) (Nat.le_of_ble_eq_true rfl)
  rw [lg_entry_eq]
  generalize (lg_sl ([.ref h0, .int x0, .int x1]) ++ List.replicate (3 - (lg_sl ([.ref h0, .int x0, .int x1])).length) Slot.unset).toArray = ls at hl ⊢
  have hl : lv_has ls 3 [(0, .ref h0), (1, .int x0), (2, .int x1)] := hl
  refine lv_iload_n hx hb dX11_octet_0 rfl (lv_at hl 1 rfl) ?_
  refine lv_iload_n hx hb dX11_octet_1 rfl (lv_at hl 2 rfl) ?_
  refine k_cSi (As := [.int x0, .int x1]) (rest := []) (wc := []) (wr := []) (w1 := []) ⟨hx, hb, hml, hown, hts⟩ hN hX hAE hK hP hD hS hA [] [] rfl rfl (by decide +kernel) (by decide +kernel) (by decide +kernel) (c_X1_isByte_2 l E D cI cJ cB cZ x0 x1 e0 e1 e2) (va_cwS 2 hts gX11_octet_X1_isByte rfl rfl rfl (by decide +kernel) ⟨Nat.le_of_ble_eq_true rfl, Nat.le_of_ble_eq_true rfl⟩) rfl hl.1 (Nat.le_of_ble_eq_true rfl) dX11_octet_2 ⟨Nat.le_of_ble_eq_true rfl, Nat.le_of_ble_eq_true rfl⟩ (fun H locs hP hD hS => ?_)
  have hP : va_P D vwCl [] H := hP
  have hD : va_D A [] := hD
  refine lv_if_ne (tgt := 18) hx hb dX11_octet_5 (by decide) (fun c9 => absurd (by decide) c9) (fun _ => ?_)
  obtain ⟨a9, a9r, a9o⟩ := kX.st hX hAE ("IntegerHouse", 199, "no such byte of a block") (List.mem_of_getElem? (i := 5) rfl)
  exact vx_throwS (names := ["java/lang/RuntimeException", "java/lang/Exception"]) (A := A) hx hb hl9 hown (by decide +kernel) (by decide +kernel) (hts (.classLink RX11 197 "java/lang/IndexOutOfBoundsException") (List.mem_cons_of_mem _ (List.mem_append_left _ (List.mem_append_left _ (List.mem_append_left _ (List.mem_of_getElem? (i := 0) rfl)))))) (hts (.initialized "java/lang/IndexOutOfBoundsException") (List.mem_cons_of_mem _ (List.mem_append_left _ (List.mem_append_left _ (List.mem_append_left _ (List.mem_of_getElem? (i := 1) rfl)))))) a9r (vx_hat (L := vx_atS RX11 201 "java/lang/IndexOutOfBoundsException" ["java/lang/RuntimeException", "java/lang/Exception"]) (B := [.castable "java/lang/IndexOutOfBoundsException" "java/lang/IndexOutOfBoundsException", .declares (Bundle.initS "java/lang/RuntimeException"), .declares (Bundle.initS "java/lang/Exception"), .declares (Bundle.initS "java/lang/Throwable")]) (fun w h => hts w (List.mem_cons_of_mem _ (List.mem_append_right _ h))) (by decide +kernel) (vx_c (va_Nw.use rfl (kX.cast hX "java/lang/IndexOutOfBoundsException" (by decide))) (vx_c (va_Nw.use rfl (kX.decl hX "java/lang/RuntimeException" (by decide))) (vx_c (va_Nw.use rfl (kX.decl hX "java/lang/Exception" (by decide))) (vx_c (va_Nw.use rfl (kX.decl hX "java/lang/Throwable" (by decide))) vx_n))))) (by decide +kernel) (kX.us hX hAE) (kX.ss hX hAE) hS (by rw [hml]; exact hl.1) dX11_octet_8 dX11_octet_11 dX11_octet_12 dX11_octet_14 dX11_octet_17 (fun x hx => (ht9 x hx).elim) (Nat.le_of_ble_eq_true rfl) (Nat.le_of_ble_eq_true rfl) (Nat.le_of_ble_eq_true rfl) (Nat.le_of_ble_eq_true rfl) hlocks (fun t h1 h2 h3 => k_tx hP hK hD hS t h1 h2 h3) hS.2.2 (Nat.le_of_ble_eq_true rfl) (Nat.le_of_ble_eq_true rfl)
set_option maxHeartbeats 400000000 in
set_option maxRecDepth 100000 in
theorem c_L_octet_2 (l : Launch) (E : kE) (D : va_G) (cI cJ cB cZ : ClassId) (h0 : Nat) (x0 : Int32) (x1 : Int32) (h1 : Nat) (e0 : ¬ ((x0 : Int32) < 1)) (e1 : (x0 : Int32) < 101) (e2 : (x1 : Int32) < 0) (hl9 : l.stackTraces = false) : kI l E D (kT cI cJ cB cZ) yL_octet wsL_octet ({ frames := 7, cells := 1, slots := 6, locals := 104 }) [.ref h0, .int x0, .int x1, .ref h1] [] (1) [] 1 6 := by
  intro sz
  refine k_metH (cc := cL_octet) (maxL := 5) (ret := (some .int)) (hh := [(0, 10, 13, 25)]) (by decide) rfl ?_
  intro p e s m args below meth c s₁ B hml hv
  obtain ⟨rfl, hsz, hP, hK, hD0, hN, hX⟩ := hv
  have hx := B.exec
  have hb := B.bytes
  have hr := B.returns
  have hts := atoms_spec (ws := wsL_octet) B.pre
  have hown : s.vm.findClass RL = some m.cls := findClass_of_methodNamed B.named
  have hlocks := B.notSynchronized
  subst hsz
  have hD := hD0.self (sz := s.heap.size)
  have hAE := k_AE hD0 hX
  generalize hAe : va_A [] s.heap.size = A at hD hAE ⊢
  have hA : ∀ q : Nat, s.heap.size ≤ q → A q := fun q h => by rw [← hAe]; exact Or.inr h
  have hS : va_S A s.heap s.heap [] := va_S.rf
  have hP : va_P D vwCl [] s.heap := hP
  have hl := lv_entry ([.ref h0, .int x0, .int x1, .ref h1] : List Value) (n := 5) (Nat.le_of_ble_eq_true rfl)
  rw [lg_entry_eq]
  generalize (lg_sl ([.ref h0, .int x0, .int x1, .ref h1]) ++ List.replicate (5 - (lg_sl ([.ref h0, .int x0, .int x1, .ref h1])).length) Slot.unset).toArray = ls at hl ⊢
  have hl : lv_has ls 5 [(0, .ref h0), (1, .int x0), (2, .int x1), (3, .ref h1)] := hl
  refine lv_aload_n hx hb dL_octet_0 rfl (lv_at hl 3 rfl) ?_
  refine lv_iconst (v := 0) hx hb dL_octet_1 (by decide) ?_
  refine lv_aload_n hx hb dL_octet_2 rfl (lv_at hl 0 rfl) ?_
  refine lv_iload_n hx hb dL_octet_3 rfl (lv_at hl 1 rfl) ?_
  refine lv_iload_n hx hb dL_octet_4 rfl (lv_at hl 2 rfl) ?_
  refine k_cTi (As := [.int x0, .int x1]) (rest := [.int 0, .ref h1]) (wc := []) (wr := []) ⟨hx, hb, hml, hown, hts⟩ hN hX hAE hK hP hD hS hA [] [] (ci := 11) rfl rfl rfl rfl (by decide +kernel) (by decide +kernel) (by decide +kernel) (c_X11_octet_2 l E D cI cJ cB cZ h0 x0 x1 e0 e1 e2 hl9) (cwV 2 hts gL_octet_X11_octet rfl rfl rfl (by decide +kernel) ⟨Nat.le_of_ble_eq_true rfl, Nat.le_of_ble_eq_true rfl⟩) rfl hl.1 (Nat.le_of_ble_eq_true rfl) dL_octet_5 ⟨Nat.le_of_ble_eq_true rfl, Nat.le_of_ble_eq_true rfl⟩ (fun q9 ce H locs hP hD hS hce hcv hcl => ?_)
  have hP : va_P D vwCl [] H := hP
  have hD : va_D A [] := hD
  refine vx_catch (own := RL) (name := "java/lang/IndexOutOfBoundsException") hown [] ⟨0, 10, 13, 25⟩ [] (vx_table B (hts _ List.mem_cons_self)) (fun z hz => absurd hz List.not_mem_nil) (by decide) (by decide) (hts (.classLink RL 25 "java/lang/IndexOutOfBoundsException") (List.mem_cons_of_mem _ (List.mem_append_left _ (List.mem_append_left _ (List.mem_append_left _ (List.mem_of_getElem? (i := 0) rfl)))))) (va_Nw.use rfl (kX.cast hX "java/lang/IndexOutOfBoundsException" (by decide))) hce hcv hcl ?_
  refine W.eq (g2 := F0 m 13 ls [.ref q9]) rfl ?_
  refine W.widen (k := 1) (n := 6) (Nat.le_of_ble_eq_true rfl) (Nat.le_of_ble_eq_true rfl) ?_
  refine lv_astore (lv' := [(4, .ref q9), (0, .ref h0), (1, .int x0), (2, .int x1), (3, .ref h1)]) hx hb dL_octet_13 hl (by decide) rfl (fun ls hl => ?_)
  refine lv_iconst (v := 1) hx hb dL_octet_15 (by decide) ?_
  exact W.iret (v := 1) hx hb hr (fun t ht hW => ⟨⟨1, (), rfl, rfl, kB_mk ht hW hP hK hD⟩, hS.F ht⟩) hS.2.2 dL_octet_16
set_option maxHeartbeats 400000000 in
set_option maxRecDepth 100000 in
theorem c_X12_octet_2 (l : Launch) (E : kE) (D : va_G) (cI cJ cB cZ : ClassId) (h0 : Nat) (x0 : Int32) (x1 : Int32) (f0 : List Value) (e0 : ¬ ((x0 : Int32) < 1)) (e1 : (x0 : Int32) < 101) (e2 : (x1 : Int32) < 0) (e3 : f0[0]? = some (.int 0)) : kI l E D (kT cI cJ cB cZ) yX12_octet wsX12_octet ({ frames := 1, cells := 0, slots := 0, locals := 25 }) [.ref h0, .int x0, .int x1] [(h0, .inr (12, f0))] (0) [(h0, .inr (12, (f0.set 0 (.int 1))))] 0 0 := by
  intro sz
  refine Met.ofW (cc := cX12_octet) (maxL := 3) (ret := (some .int)) (by decide) rfl ?_
  intro p e s m args below meth c s₁ B hml hv
  obtain ⟨rfl, hsz, hP, hK, hD0, hN, hX⟩ := hv
  have hx := B.exec
  have hb := B.bytes
  have hr := B.returns
  have hts := atoms_spec (ws := wsX12_octet) B.pre
  have hown : s.vm.findClass RX12 = some m.cls := findClass_of_methodNamed B.named
  have hlocks := B.notSynchronized
  have hin12 : ∀ w ∈ wsX120, w ∈ wsX12_octet := (fun w h => (List.mem_cons_of_mem _ (List.mem_append_right _ h)))
  subst hsz
  have hD := hD0.self (sz := s.heap.size)
  have hAE := k_AE hD0 hX
  generalize hAe : va_A [(h0, .inr (12, f0))] s.heap.size = A at hD hAE ⊢
  have hA : ∀ q : Nat, s.heap.size ≤ q → A q := fun q h => by rw [← hAe]; exact Or.inr h
  have hS : va_S A s.heap s.heap [] := va_S.rf
  have hP : va_P D vwCl [(h0, .inr (12, f0))] s.heap := hP
  have hl := lv_entry ([.ref h0, .int x0, .int x1] : List Value) (n := 3) (Nat.le_of_ble_eq_true rfl)
  rw [lg_entry_eq]
  generalize (lg_sl ([.ref h0, .int x0, .int x1]) ++ List.replicate (3 - (lg_sl ([.ref h0, .int x0, .int x1])).length) Slot.unset).toArray = ls at hl ⊢
  have hl : lv_has ls 3 [(0, .ref h0), (1, .int x0), (2, .int x1)] := hl
  refine lv_aload_n hx hb dX12_octet_0 rfl (lv_at hl 0 rfl) ?_
  refine lv_iload_n hx hb dX12_octet_1 rfl (lv_at hl 1 rfl) ?_
  refine lv_i2l (v := (Int32.toInt64 x0)) hx hb dX12_octet_2 rfl ?_
  refine lv_lconst (v := 1) hx hb dX12_octet_3 (by decide) ?_
  refine lv_ldc2 (own := RX12) (index := 560) (v := 100) hx hb hown (hts (.constantLong RX12 560 (100)) (List.mem_cons_of_mem _ (List.mem_append_left _ (List.mem_of_getElem? (i := 0) rfl)))) dX12_octet_4 ?_
  refine k_cSi (As := [.long (Int32.toInt64 x0), .long 1, .long 100]) (rest := [.ref h0]) (wc := []) (wr := [(h0, .inr (12, f0))]) (w1 := []) ⟨hx, hb, hml, hown, hts⟩ hN hX hAE hK hP hD hS hA [] [0] rfl rfl (by decide +kernel) (by decide +kernel) (by decide +kernel) (c_X12_in_9 l E D cI cJ cB cZ (Int32.toInt64 x0) (fun z9 => e0 ((k_n4 (x := x0) (c := 1) (C := 1) (by decide)).mp z9)) (fun z9 => (k_n5 (x := x0) (c := 100) (d := 101) (C := 100) (by decide) (by decide)).mp z9 e1)) (va_cwS 3 hts gX12_octet_X12_in rfl rfl rfl (by decide +kernel) ⟨Nat.le_of_ble_eq_true rfl, Nat.le_of_ble_eq_true rfl⟩) rfl hl.1 (Nat.le_of_ble_eq_true rfl) dX12_octet_7 ⟨Nat.le_of_ble_eq_true rfl, Nat.le_of_ble_eq_true rfl⟩ (fun H locs hP hD hS => ?_)
  have hP : va_P D vwCl [(h0, .inr (12, f0))] H := hP
  have hD : va_D A [(h0, .inr (12, f0))] := hD
  refine lv_if_eq (tgt := 29) hx hb dX12_octet_10 (by decide) (fun c9 => absurd c9 (by decide)) (fun _ => ?_)
  refine lv_iload_n hx hb dX12_octet_13 rfl (lv_at hl 2 rfl) ?_
  refine lv_i2l (v := (Int32.toInt64 x1)) hx hb dX12_octet_14 rfl ?_
  refine lv_lconst (v := 0) hx hb dX12_octet_15 (by decide) ?_
  refine lv_ldc2 (own := RX12) (index := 530) (v := 255) hx hb hown (hts (.constantLong RX12 530 (255)) (List.mem_cons_of_mem _ (List.mem_append_left _ (List.mem_of_getElem? (i := 1) rfl)))) dX12_octet_16 ?_
  refine k_cSi (As := [.long (Int32.toInt64 x1), .long 0, .long 255]) (rest := [.ref h0]) (wc := []) (wr := [(h0, .inr (12, f0))]) (w1 := []) ⟨hx, hb, hml, hown, hts⟩ hN hX hAE hK hP hD hS hA [] [0] rfl rfl (by decide +kernel) (by decide +kernel) (by decide +kernel) (c_X12_in_6 l E D cI cJ cB cZ (Int32.toInt64 x1) ((k_n4 (x := x1) (c := 0) (C := 0) (by decide)).mpr e2)) (va_cwS 3 hts gX12_octet_X12_in rfl rfl rfl (by decide +kernel) ⟨Nat.le_of_ble_eq_true rfl, Nat.le_of_ble_eq_true rfl⟩) rfl hl.1 (Nat.le_of_ble_eq_true rfl) dX12_octet_19 ⟨Nat.le_of_ble_eq_true rfl, Nat.le_of_ble_eq_true rfl⟩ (fun H locs hP hD hS => ?_)
  have hP : va_P D vwCl [(h0, .inr (12, f0))] H := hP
  have hD : va_D A [(h0, .inr (12, f0))] := hD
  refine lv_if_eq (tgt := 29) hx hb dX12_octet_22 (by decide) (fun _ => ?_) (fun c9 => absurd (by decide) c9)
  refine lv_iconst (v := 1) hx hb dX12_octet_29 (by decide) ?_
  refine va_put (D := D) (ref := "IntegerHouseModel") (ci := 12) (v := .int 1) (ty := .int) (C := RX12) (T := TX12) (N := 195) hx hb hts hin12 tyX12 tyX12_ok nmX12 hown hK hP hD hS 0 rfl rfl 0 (by decide) (hts (.fieldLink RX12 3 "IntegerHouseModel" "thrown" "I") (List.mem_cons_of_mem _ (List.mem_append_left _ (List.mem_of_getElem? (i := 2) rfl)))) (fun _ h9 => h9) rfl (by decide +kernel) rfl rfl (k_len e3) dX12_octet_30 (fun H locs hP hD hS => ?_)
  have hP : va_P D vwCl [(h0, .inr (12, (f0.set 0 (.int 1))))] H := hP
  have hD : va_D A [(h0, .inr (12, (f0.set 0 (.int 1))))] := hD
  refine lv_aload_n hx hb dX12_octet_33 rfl (lv_at hl 0 rfl) ?_
  refine va_get (D := D) (ref := "IntegerHouseModel") (ci := 12) (v := .int 1) (C := RX12) (T := TX12) (N := 195) hx hb hts hin12 hown hK hP 0 rfl rfl 0 (by decide) (hts (.fieldLink RX12 3 "IntegerHouseModel" "thrown" "I") (List.mem_cons_of_mem _ (List.mem_append_left _ (List.mem_of_getElem? (i := 2) rfl)))) (fun _ h9 => h9) (k_set e3) dX12_octet_34 ?_
  refine lv_if_le (tgt := 44) hx hb dX12_octet_37 (by decide) (fun c9 => absurd c9 (by decide)) (fun _ => ?_)
  refine lv_iconst (v := 0) hx hb dX12_octet_40 (by decide) ?_
  refine lv_goto (tgt := 50) hx hb dX12_octet_41 (by decide) ?_
  exact W.iret (v := 0) hx hb hr (fun t ht hW => ⟨⟨0, (), rfl, rfl, kB_mk ht hW hP hK hD⟩, hS.F ht⟩) hS.2.2 dX12_octet_50
set_option maxHeartbeats 400000000 in
set_option maxRecDepth 100000 in
theorem c_X1_isByte_3 (l : Launch) (E : kE) (D : va_G) (cI cJ cB cZ : ClassId) (x0 : Int32) (x1 : Int32) (e0 : ¬ ((x0 : Int32) < 1)) (e1 : (x0 : Int32) < 101) (e2 : ¬ ((x1 : Int32) < 0)) (e3 : ¬ ((x1 : Int32) < 256)) : kI l E D (kT cI cJ cB cZ) yX1_isByte wsX1_isByte ({ frames := 0, cells := 0, slots := 0, locals := 0 }) [.int x0, .int x1] [] (0) [] 0 0 := by
  intro sz
  refine Met.ofW (cc := cX1_isByte) (maxL := 2) (ret := (some .boolean)) (by decide) rfl ?_
  intro p e s m args below meth c s₁ B hml hv
  obtain ⟨rfl, hsz, hP, hK, hD0, hN, hX⟩ := hv
  have hx := B.exec
  have hb := B.bytes
  have hr := B.returns
  have hts := atoms_spec (ws := wsX1_isByte) B.pre
  have hown : s.vm.findClass RX1 = some m.cls := findClass_of_methodNamed B.named
  have hlocks := B.notSynchronized
  subst hsz
  have hD := hD0.self (sz := s.heap.size)
  have hAE := k_AE hD0 hX
  generalize hAe : va_A [] s.heap.size = A at hD hAE ⊢
  have hA : ∀ q : Nat, s.heap.size ≤ q → A q := fun q h => by rw [← hAe]; exact Or.inr h
  have hS : va_S A s.heap s.heap [] := va_S.rf
  have hP : va_P D vwCl [] s.heap := hP
  have hl := lv_entry ([.int x0, .int x1] : List Value) (n := 2) (Nat.le_of_ble_eq_true rfl)
  rw [lg_entry_eq]
  generalize (lg_sl ([.int x0, .int x1]) ++ List.replicate (2 - (lg_sl ([.int x0, .int x1])).length) Slot.unset).toArray = ls at hl ⊢
  have hl : lv_has ls 2 [(0, .int x0), (1, .int x1)] := hl
  refine lv_iload_n hx hb dX1_isByte_0 rfl (lv_at hl 0 rfl) ?_
  refine lv_iconst (v := 1) hx hb dX1_isByte_1 (by decide) ?_
  refine lv_icmp_lt (tgt := 26) hx hb dX1_isByte_2 (by decide) (fun c9 => absurd c9 e0) (fun _ => ?_)
  refine lv_iload_n hx hb dX1_isByte_5 rfl (lv_at hl 0 rfl) ?_
  refine lv_bipush (v := 100) hx hb dX1_isByte_6 (by decide) ?_
  refine lv_icmp_gt (tgt := 26) hx hb dX1_isByte_8 (by decide) (fun c9 => absurd c9 (fun z9 => (k_n3 (x := x0) (c := 100) (d := 101) (by decide)).mp z9 e1)) (fun _ => ?_)
  refine lv_iload_n hx hb dX1_isByte_11 rfl (lv_at hl 1 rfl) ?_
  refine lv_if_lt (tgt := 26) hx hb dX1_isByte_12 (by decide) (fun c9 => absurd c9 e2) (fun _ => ?_)
  refine lv_iload_n hx hb dX1_isByte_15 rfl (lv_at hl 1 rfl) ?_
  refine lv_sipush (v := 256) hx hb dX1_isByte_16 (by decide) ?_
  refine lv_icmp_ge (tgt := 26) hx hb dX1_isByte_19 (by decide) (fun _ => ?_) (fun c9 => absurd ((k_n2 (x := x1) (c := 256)).mpr e3) c9)
  refine lv_iconst (v := 0) hx hb dX1_isByte_26 (by decide) ?_
  exact W.zret (v := 0) hx hb hr rfl (fun t ht hW => ⟨⟨0, (), rfl, rfl, kB_mk ht hW hP hK hD⟩, hS.F ht⟩) hS.2.2 dX1_isByte_27
set_option maxHeartbeats 400000000 in
set_option maxRecDepth 100000 in
theorem c_X11_octet_3 (l : Launch) (E : kE) (D : va_G) (cI cJ cB cZ : ClassId) (h0 : Nat) (x0 : Int32) (x1 : Int32) (e0 : ¬ ((x0 : Int32) < 1)) (e1 : (x0 : Int32) < 101) (e2 : ¬ ((x1 : Int32) < 0)) (e3 : ¬ ((x1 : Int32) < 256)) (hl9 : l.stackTraces = false) : kTI l E D (kT cI cJ cB cZ) yX11_octet wsX11_octet ({ frames := 6, cells := 1, slots := 6, locals := 82 }) [.ref h0, .int x0, .int x1] [] "java/lang/IndexOutOfBoundsException" 1 6 := by
  intro sz
  refine vx_ofW (cc := cX11_octet) (maxL := 3) (ret := (some .int)) (by decide) rfl ?_
  intro p e s m args below meth c s₁ B hml ht9 hv
  obtain ⟨rfl, hsz, hP, hK, hD0, hN, hX⟩ := hv
  have hx := B.exec
  have hb := B.bytes
  have hr := B.returns
  have hts := atoms_spec (ws := wsX11_octet) B.pre
  have hown : s.vm.findClass RX11 = some m.cls := findClass_of_methodNamed B.named
  have hlocks := B.notSynchronized
  subst hsz
  have hD := hD0.self (sz := s.heap.size)
  have hAE := k_AE hD0 hX
  generalize hAe : va_A [] s.heap.size = A at hD hAE ⊢
  have hA : ∀ q : Nat, s.heap.size ≤ q → A q := fun q h => by rw [← hAe]; exact Or.inr h
  have hS : va_S A s.heap s.heap [] := va_S.rf
  have hP : va_P D vwCl [] s.heap := hP
  have hl := lv_entry ([.ref h0, .int x0, .int x1] : List Value) (n := 3) (Nat.le_of_ble_eq_true rfl)
  rw [lg_entry_eq]
  generalize (lg_sl ([.ref h0, .int x0, .int x1]) ++ List.replicate (3 - (lg_sl ([.ref h0, .int x0, .int x1])).length) Slot.unset).toArray = ls at hl ⊢
  have hl : lv_has ls 3 [(0, .ref h0), (1, .int x0), (2, .int x1)] := hl
  refine lv_iload_n hx hb dX11_octet_0 rfl (lv_at hl 1 rfl) ?_
  refine lv_iload_n hx hb dX11_octet_1 rfl (lv_at hl 2 rfl) ?_
  refine k_cSi (As := [.int x0, .int x1]) (rest := []) (wc := []) (wr := []) (w1 := []) ⟨hx, hb, hml, hown, hts⟩ hN hX hAE hK hP hD hS hA [] [] rfl rfl (by decide +kernel) (by decide +kernel) (by decide +kernel) (c_X1_isByte_3 l E D cI cJ cB cZ x0 x1 e0 e1 e2 e3) (va_cwS 2 hts gX11_octet_X1_isByte rfl rfl rfl (by decide +kernel) ⟨Nat.le_of_ble_eq_true rfl, Nat.le_of_ble_eq_true rfl⟩) rfl hl.1 (Nat.le_of_ble_eq_true rfl) dX11_octet_2 ⟨Nat.le_of_ble_eq_true rfl, Nat.le_of_ble_eq_true rfl⟩ (fun H locs hP hD hS => ?_)
  have hP : va_P D vwCl [] H := hP
  have hD : va_D A [] := hD
  refine lv_if_ne (tgt := 18) hx hb dX11_octet_5 (by decide) (fun c9 => absurd (by decide) c9) (fun _ => ?_)
  obtain ⟨a9, a9r, a9o⟩ := kX.st hX hAE ("IntegerHouse", 199, "no such byte of a block") (List.mem_of_getElem? (i := 5) rfl)
  exact vx_throwS (names := ["java/lang/RuntimeException", "java/lang/Exception"]) (A := A) hx hb hl9 hown (by decide +kernel) (by decide +kernel) (hts (.classLink RX11 197 "java/lang/IndexOutOfBoundsException") (List.mem_cons_of_mem _ (List.mem_append_left _ (List.mem_append_left _ (List.mem_append_left _ (List.mem_of_getElem? (i := 0) rfl)))))) (hts (.initialized "java/lang/IndexOutOfBoundsException") (List.mem_cons_of_mem _ (List.mem_append_left _ (List.mem_append_left _ (List.mem_append_left _ (List.mem_of_getElem? (i := 1) rfl)))))) a9r (vx_hat (L := vx_atS RX11 201 "java/lang/IndexOutOfBoundsException" ["java/lang/RuntimeException", "java/lang/Exception"]) (B := [.castable "java/lang/IndexOutOfBoundsException" "java/lang/IndexOutOfBoundsException", .declares (Bundle.initS "java/lang/RuntimeException"), .declares (Bundle.initS "java/lang/Exception"), .declares (Bundle.initS "java/lang/Throwable")]) (fun w h => hts w (List.mem_cons_of_mem _ (List.mem_append_right _ h))) (by decide +kernel) (vx_c (va_Nw.use rfl (kX.cast hX "java/lang/IndexOutOfBoundsException" (by decide))) (vx_c (va_Nw.use rfl (kX.decl hX "java/lang/RuntimeException" (by decide))) (vx_c (va_Nw.use rfl (kX.decl hX "java/lang/Exception" (by decide))) (vx_c (va_Nw.use rfl (kX.decl hX "java/lang/Throwable" (by decide))) vx_n))))) (by decide +kernel) (kX.us hX hAE) (kX.ss hX hAE) hS (by rw [hml]; exact hl.1) dX11_octet_8 dX11_octet_11 dX11_octet_12 dX11_octet_14 dX11_octet_17 (fun x hx => (ht9 x hx).elim) (Nat.le_of_ble_eq_true rfl) (Nat.le_of_ble_eq_true rfl) (Nat.le_of_ble_eq_true rfl) (Nat.le_of_ble_eq_true rfl) hlocks (fun t h1 h2 h3 => k_tx hP hK hD hS t h1 h2 h3) hS.2.2 (Nat.le_of_ble_eq_true rfl) (Nat.le_of_ble_eq_true rfl)
set_option maxHeartbeats 400000000 in
set_option maxRecDepth 100000 in
theorem c_L_octet_3 (l : Launch) (E : kE) (D : va_G) (cI cJ cB cZ : ClassId) (h0 : Nat) (x0 : Int32) (x1 : Int32) (h1 : Nat) (e0 : ¬ ((x0 : Int32) < 1)) (e1 : (x0 : Int32) < 101) (e2 : ¬ ((x1 : Int32) < 0)) (e3 : ¬ ((x1 : Int32) < 256)) (hl9 : l.stackTraces = false) : kI l E D (kT cI cJ cB cZ) yL_octet wsL_octet ({ frames := 7, cells := 1, slots := 6, locals := 104 }) [.ref h0, .int x0, .int x1, .ref h1] [] (1) [] 1 6 := by
  intro sz
  refine k_metH (cc := cL_octet) (maxL := 5) (ret := (some .int)) (hh := [(0, 10, 13, 25)]) (by decide) rfl ?_
  intro p e s m args below meth c s₁ B hml hv
  obtain ⟨rfl, hsz, hP, hK, hD0, hN, hX⟩ := hv
  have hx := B.exec
  have hb := B.bytes
  have hr := B.returns
  have hts := atoms_spec (ws := wsL_octet) B.pre
  have hown : s.vm.findClass RL = some m.cls := findClass_of_methodNamed B.named
  have hlocks := B.notSynchronized
  subst hsz
  have hD := hD0.self (sz := s.heap.size)
  have hAE := k_AE hD0 hX
  generalize hAe : va_A [] s.heap.size = A at hD hAE ⊢
  have hA : ∀ q : Nat, s.heap.size ≤ q → A q := fun q h => by rw [← hAe]; exact Or.inr h
  have hS : va_S A s.heap s.heap [] := va_S.rf
  have hP : va_P D vwCl [] s.heap := hP
  have hl := lv_entry ([.ref h0, .int x0, .int x1, .ref h1] : List Value) (n := 5) (Nat.le_of_ble_eq_true rfl)
  rw [lg_entry_eq]
  generalize (lg_sl ([.ref h0, .int x0, .int x1, .ref h1]) ++ List.replicate (5 - (lg_sl ([.ref h0, .int x0, .int x1, .ref h1])).length) Slot.unset).toArray = ls at hl ⊢
  have hl : lv_has ls 5 [(0, .ref h0), (1, .int x0), (2, .int x1), (3, .ref h1)] := hl
  refine lv_aload_n hx hb dL_octet_0 rfl (lv_at hl 3 rfl) ?_
  refine lv_iconst (v := 0) hx hb dL_octet_1 (by decide) ?_
  refine lv_aload_n hx hb dL_octet_2 rfl (lv_at hl 0 rfl) ?_
  refine lv_iload_n hx hb dL_octet_3 rfl (lv_at hl 1 rfl) ?_
  refine lv_iload_n hx hb dL_octet_4 rfl (lv_at hl 2 rfl) ?_
  refine k_cTi (As := [.int x0, .int x1]) (rest := [.int 0, .ref h1]) (wc := []) (wr := []) ⟨hx, hb, hml, hown, hts⟩ hN hX hAE hK hP hD hS hA [] [] (ci := 11) rfl rfl rfl rfl (by decide +kernel) (by decide +kernel) (by decide +kernel) (c_X11_octet_3 l E D cI cJ cB cZ h0 x0 x1 e0 e1 e2 e3 hl9) (cwV 2 hts gL_octet_X11_octet rfl rfl rfl (by decide +kernel) ⟨Nat.le_of_ble_eq_true rfl, Nat.le_of_ble_eq_true rfl⟩) rfl hl.1 (Nat.le_of_ble_eq_true rfl) dL_octet_5 ⟨Nat.le_of_ble_eq_true rfl, Nat.le_of_ble_eq_true rfl⟩ (fun q9 ce H locs hP hD hS hce hcv hcl => ?_)
  have hP : va_P D vwCl [] H := hP
  have hD : va_D A [] := hD
  refine vx_catch (own := RL) (name := "java/lang/IndexOutOfBoundsException") hown [] ⟨0, 10, 13, 25⟩ [] (vx_table B (hts _ List.mem_cons_self)) (fun z hz => absurd hz List.not_mem_nil) (by decide) (by decide) (hts (.classLink RL 25 "java/lang/IndexOutOfBoundsException") (List.mem_cons_of_mem _ (List.mem_append_left _ (List.mem_append_left _ (List.mem_append_left _ (List.mem_of_getElem? (i := 0) rfl)))))) (va_Nw.use rfl (kX.cast hX "java/lang/IndexOutOfBoundsException" (by decide))) hce hcv hcl ?_
  refine W.eq (g2 := F0 m 13 ls [.ref q9]) rfl ?_
  refine W.widen (k := 1) (n := 6) (Nat.le_of_ble_eq_true rfl) (Nat.le_of_ble_eq_true rfl) ?_
  refine lv_astore (lv' := [(4, .ref q9), (0, .ref h0), (1, .int x0), (2, .int x1), (3, .ref h1)]) hx hb dL_octet_13 hl (by decide) rfl (fun ls hl => ?_)
  refine lv_iconst (v := 1) hx hb dL_octet_15 (by decide) ?_
  exact W.iret (v := 1) hx hb hr (fun t ht hW => ⟨⟨1, (), rfl, rfl, kB_mk ht hW hP hK hD⟩, hS.F ht⟩) hS.2.2 dL_octet_16
set_option maxHeartbeats 400000000 in
set_option maxRecDepth 100000 in
theorem c_X12_octet_3 (l : Launch) (E : kE) (D : va_G) (cI cJ cB cZ : ClassId) (h0 : Nat) (x0 : Int32) (x1 : Int32) (f0 : List Value) (e0 : ¬ ((x0 : Int32) < 1)) (e1 : (x0 : Int32) < 101) (e2 : ¬ ((x1 : Int32) < 0)) (e3 : ¬ ((x1 : Int32) < 256)) (e4 : f0[0]? = some (.int 0)) : kI l E D (kT cI cJ cB cZ) yX12_octet wsX12_octet ({ frames := 1, cells := 0, slots := 0, locals := 25 }) [.ref h0, .int x0, .int x1] [(h0, .inr (12, f0))] (0) [(h0, .inr (12, (f0.set 0 (.int 1))))] 0 0 := by
  intro sz
  refine Met.ofW (cc := cX12_octet) (maxL := 3) (ret := (some .int)) (by decide) rfl ?_
  intro p e s m args below meth c s₁ B hml hv
  obtain ⟨rfl, hsz, hP, hK, hD0, hN, hX⟩ := hv
  have hx := B.exec
  have hb := B.bytes
  have hr := B.returns
  have hts := atoms_spec (ws := wsX12_octet) B.pre
  have hown : s.vm.findClass RX12 = some m.cls := findClass_of_methodNamed B.named
  have hlocks := B.notSynchronized
  have hin12 : ∀ w ∈ wsX120, w ∈ wsX12_octet := (fun w h => (List.mem_cons_of_mem _ (List.mem_append_right _ h)))
  subst hsz
  have hD := hD0.self (sz := s.heap.size)
  have hAE := k_AE hD0 hX
  generalize hAe : va_A [(h0, .inr (12, f0))] s.heap.size = A at hD hAE ⊢
  have hA : ∀ q : Nat, s.heap.size ≤ q → A q := fun q h => by rw [← hAe]; exact Or.inr h
  have hS : va_S A s.heap s.heap [] := va_S.rf
  have hP : va_P D vwCl [(h0, .inr (12, f0))] s.heap := hP
  have hl := lv_entry ([.ref h0, .int x0, .int x1] : List Value) (n := 3) (Nat.le_of_ble_eq_true rfl)
  rw [lg_entry_eq]
  generalize (lg_sl ([.ref h0, .int x0, .int x1]) ++ List.replicate (3 - (lg_sl ([.ref h0, .int x0, .int x1])).length) Slot.unset).toArray = ls at hl ⊢
  have hl : lv_has ls 3 [(0, .ref h0), (1, .int x0), (2, .int x1)] := hl
  refine lv_aload_n hx hb dX12_octet_0 rfl (lv_at hl 0 rfl) ?_
  refine lv_iload_n hx hb dX12_octet_1 rfl (lv_at hl 1 rfl) ?_
  refine lv_i2l (v := (Int32.toInt64 x0)) hx hb dX12_octet_2 rfl ?_
  refine lv_lconst (v := 1) hx hb dX12_octet_3 (by decide) ?_
  refine lv_ldc2 (own := RX12) (index := 560) (v := 100) hx hb hown (hts (.constantLong RX12 560 (100)) (List.mem_cons_of_mem _ (List.mem_append_left _ (List.mem_of_getElem? (i := 0) rfl)))) dX12_octet_4 ?_
  refine k_cSi (As := [.long (Int32.toInt64 x0), .long 1, .long 100]) (rest := [.ref h0]) (wc := []) (wr := [(h0, .inr (12, f0))]) (w1 := []) ⟨hx, hb, hml, hown, hts⟩ hN hX hAE hK hP hD hS hA [] [0] rfl rfl (by decide +kernel) (by decide +kernel) (by decide +kernel) (c_X12_in_9 l E D cI cJ cB cZ (Int32.toInt64 x0) (fun z9 => e0 ((k_n4 (x := x0) (c := 1) (C := 1) (by decide)).mp z9)) (fun z9 => (k_n5 (x := x0) (c := 100) (d := 101) (C := 100) (by decide) (by decide)).mp z9 e1)) (va_cwS 3 hts gX12_octet_X12_in rfl rfl rfl (by decide +kernel) ⟨Nat.le_of_ble_eq_true rfl, Nat.le_of_ble_eq_true rfl⟩) rfl hl.1 (Nat.le_of_ble_eq_true rfl) dX12_octet_7 ⟨Nat.le_of_ble_eq_true rfl, Nat.le_of_ble_eq_true rfl⟩ (fun H locs hP hD hS => ?_)
  have hP : va_P D vwCl [(h0, .inr (12, f0))] H := hP
  have hD : va_D A [(h0, .inr (12, f0))] := hD
  refine lv_if_eq (tgt := 29) hx hb dX12_octet_10 (by decide) (fun c9 => absurd c9 (by decide)) (fun _ => ?_)
  refine lv_iload_n hx hb dX12_octet_13 rfl (lv_at hl 2 rfl) ?_
  refine lv_i2l (v := (Int32.toInt64 x1)) hx hb dX12_octet_14 rfl ?_
  refine lv_lconst (v := 0) hx hb dX12_octet_15 (by decide) ?_
  refine lv_ldc2 (own := RX12) (index := 530) (v := 255) hx hb hown (hts (.constantLong RX12 530 (255)) (List.mem_cons_of_mem _ (List.mem_append_left _ (List.mem_of_getElem? (i := 1) rfl)))) dX12_octet_16 ?_
  refine k_cSi (As := [.long (Int32.toInt64 x1), .long 0, .long 255]) (rest := [.ref h0]) (wc := []) (wr := [(h0, .inr (12, f0))]) (w1 := []) ⟨hx, hb, hml, hown, hts⟩ hN hX hAE hK hP hD hS hA [] [0] rfl rfl (by decide +kernel) (by decide +kernel) (by decide +kernel) (c_X12_in_7 l E D cI cJ cB cZ (Int32.toInt64 x1) (fun z9 => e2 ((k_n4 (x := x1) (c := 0) (C := 0) (by decide)).mp z9)) ((k_n5 (x := x1) (c := 255) (d := 256) (C := 255) (by decide) (by decide)).mpr e3)) (va_cwS 3 hts gX12_octet_X12_in rfl rfl rfl (by decide +kernel) ⟨Nat.le_of_ble_eq_true rfl, Nat.le_of_ble_eq_true rfl⟩) rfl hl.1 (Nat.le_of_ble_eq_true rfl) dX12_octet_19 ⟨Nat.le_of_ble_eq_true rfl, Nat.le_of_ble_eq_true rfl⟩ (fun H locs hP hD hS => ?_)
  have hP : va_P D vwCl [(h0, .inr (12, f0))] H := hP
  have hD : va_D A [(h0, .inr (12, f0))] := hD
  refine lv_if_eq (tgt := 29) hx hb dX12_octet_22 (by decide) (fun _ => ?_) (fun c9 => absurd (by decide) c9)
  refine lv_iconst (v := 1) hx hb dX12_octet_29 (by decide) ?_
  refine va_put (D := D) (ref := "IntegerHouseModel") (ci := 12) (v := .int 1) (ty := .int) (C := RX12) (T := TX12) (N := 195) hx hb hts hin12 tyX12 tyX12_ok nmX12 hown hK hP hD hS 0 rfl rfl 0 (by decide) (hts (.fieldLink RX12 3 "IntegerHouseModel" "thrown" "I") (List.mem_cons_of_mem _ (List.mem_append_left _ (List.mem_of_getElem? (i := 2) rfl)))) (fun _ h9 => h9) rfl (by decide +kernel) rfl rfl (k_len e4) dX12_octet_30 (fun H locs hP hD hS => ?_)
  have hP : va_P D vwCl [(h0, .inr (12, (f0.set 0 (.int 1))))] H := hP
  have hD : va_D A [(h0, .inr (12, (f0.set 0 (.int 1))))] := hD
  refine lv_aload_n hx hb dX12_octet_33 rfl (lv_at hl 0 rfl) ?_
  refine va_get (D := D) (ref := "IntegerHouseModel") (ci := 12) (v := .int 1) (C := RX12) (T := TX12) (N := 195) hx hb hts hin12 hown hK hP 0 rfl rfl 0 (by decide) (hts (.fieldLink RX12 3 "IntegerHouseModel" "thrown" "I") (List.mem_cons_of_mem _ (List.mem_append_left _ (List.mem_of_getElem? (i := 2) rfl)))) (fun _ h9 => h9) (k_set e4) dX12_octet_34 ?_
  refine lv_if_le (tgt := 44) hx hb dX12_octet_37 (by decide) (fun c9 => absurd c9 (by decide)) (fun _ => ?_)
  refine lv_iconst (v := 0) hx hb dX12_octet_40 (by decide) ?_
  refine lv_goto (tgt := 50) hx hb dX12_octet_41 (by decide) ?_
  exact W.iret (v := 0) hx hb hr (fun t ht hW => ⟨⟨0, (), rfl, rfl, kB_mk ht hW hP hK hD⟩, hS.F ht⟩) hS.2.2 dX12_octet_50
set_option maxHeartbeats 400000000 in
set_option maxRecDepth 100000 in
theorem c_X1_isByte_4 (l : Launch) (E : kE) (D : va_G) (cI cJ cB cZ : ClassId) (x0 : Int32) (x1 : Int32) (e0 : ¬ ((x0 : Int32) < 1)) (e1 : ¬ ((x0 : Int32) < 101)) : kI l E D (kT cI cJ cB cZ) yX1_isByte wsX1_isByte ({ frames := 0, cells := 0, slots := 0, locals := 0 }) [.int x0, .int x1] [] (0) [] 0 0 := by
  intro sz
  refine Met.ofW (cc := cX1_isByte) (maxL := 2) (ret := (some .boolean)) (by decide) rfl ?_
  intro p e s m args below meth c s₁ B hml hv
  obtain ⟨rfl, hsz, hP, hK, hD0, hN, hX⟩ := hv
  have hx := B.exec
  have hb := B.bytes
  have hr := B.returns
  have hts := atoms_spec (ws := wsX1_isByte) B.pre
  have hown : s.vm.findClass RX1 = some m.cls := findClass_of_methodNamed B.named
  have hlocks := B.notSynchronized
  subst hsz
  have hD := hD0.self (sz := s.heap.size)
  have hAE := k_AE hD0 hX
  generalize hAe : va_A [] s.heap.size = A at hD hAE ⊢
  have hA : ∀ q : Nat, s.heap.size ≤ q → A q := fun q h => by rw [← hAe]; exact Or.inr h
  have hS : va_S A s.heap s.heap [] := va_S.rf
  have hP : va_P D vwCl [] s.heap := hP
  have hl := lv_entry ([.int x0, .int x1] : List Value) (n := 2) (Nat.le_of_ble_eq_true rfl)
  rw [lg_entry_eq]
  generalize (lg_sl ([.int x0, .int x1]) ++ List.replicate (2 - (lg_sl ([.int x0, .int x1])).length) Slot.unset).toArray = ls at hl ⊢
  have hl : lv_has ls 2 [(0, .int x0), (1, .int x1)] := hl
  refine lv_iload_n hx hb dX1_isByte_0 rfl (lv_at hl 0 rfl) ?_
  refine lv_iconst (v := 1) hx hb dX1_isByte_1 (by decide) ?_
  refine lv_icmp_lt (tgt := 26) hx hb dX1_isByte_2 (by decide) (fun c9 => absurd c9 e0) (fun _ => ?_)
  refine lv_iload_n hx hb dX1_isByte_5 rfl (lv_at hl 0 rfl) ?_
  refine lv_bipush (v := 100) hx hb dX1_isByte_6 (by decide) ?_
  refine lv_icmp_gt (tgt := 26) hx hb dX1_isByte_8 (by decide) (fun _ => ?_) (fun c9 => absurd ((k_n3 (x := x0) (c := 100) (d := 101) (by decide)).mpr e1) c9)
  refine lv_iconst (v := 0) hx hb dX1_isByte_26 (by decide) ?_
  exact W.zret (v := 0) hx hb hr rfl (fun t ht hW => ⟨⟨0, (), rfl, rfl, kB_mk ht hW hP hK hD⟩, hS.F ht⟩) hS.2.2 dX1_isByte_27
set_option maxHeartbeats 400000000 in
set_option maxRecDepth 100000 in
theorem c_X11_octet_4 (l : Launch) (E : kE) (D : va_G) (cI cJ cB cZ : ClassId) (h0 : Nat) (x0 : Int32) (x1 : Int32) (e0 : ¬ ((x0 : Int32) < 1)) (e1 : ¬ ((x0 : Int32) < 101)) (hl9 : l.stackTraces = false) : kTI l E D (kT cI cJ cB cZ) yX11_octet wsX11_octet ({ frames := 6, cells := 1, slots := 6, locals := 82 }) [.ref h0, .int x0, .int x1] [] "java/lang/IndexOutOfBoundsException" 1 6 := by
  intro sz
  refine vx_ofW (cc := cX11_octet) (maxL := 3) (ret := (some .int)) (by decide) rfl ?_
  intro p e s m args below meth c s₁ B hml ht9 hv
  obtain ⟨rfl, hsz, hP, hK, hD0, hN, hX⟩ := hv
  have hx := B.exec
  have hb := B.bytes
  have hr := B.returns
  have hts := atoms_spec (ws := wsX11_octet) B.pre
  have hown : s.vm.findClass RX11 = some m.cls := findClass_of_methodNamed B.named
  have hlocks := B.notSynchronized
  subst hsz
  have hD := hD0.self (sz := s.heap.size)
  have hAE := k_AE hD0 hX
  generalize hAe : va_A [] s.heap.size = A at hD hAE ⊢
  have hA : ∀ q : Nat, s.heap.size ≤ q → A q := fun q h => by rw [← hAe]; exact Or.inr h
  have hS : va_S A s.heap s.heap [] := va_S.rf
  have hP : va_P D vwCl [] s.heap := hP
  have hl := lv_entry ([.ref h0, .int x0, .int x1] : List Value) (n := 3) (Nat.le_of_ble_eq_true rfl)
  rw [lg_entry_eq]
  generalize (lg_sl ([.ref h0, .int x0, .int x1]) ++ List.replicate (3 - (lg_sl ([.ref h0, .int x0, .int x1])).length) Slot.unset).toArray = ls at hl ⊢
  have hl : lv_has ls 3 [(0, .ref h0), (1, .int x0), (2, .int x1)] := hl
  refine lv_iload_n hx hb dX11_octet_0 rfl (lv_at hl 1 rfl) ?_
  refine lv_iload_n hx hb dX11_octet_1 rfl (lv_at hl 2 rfl) ?_
  refine k_cSi (As := [.int x0, .int x1]) (rest := []) (wc := []) (wr := []) (w1 := []) ⟨hx, hb, hml, hown, hts⟩ hN hX hAE hK hP hD hS hA [] [] rfl rfl (by decide +kernel) (by decide +kernel) (by decide +kernel) (c_X1_isByte_4 l E D cI cJ cB cZ x0 x1 e0 e1) (va_cwS 2 hts gX11_octet_X1_isByte rfl rfl rfl (by decide +kernel) ⟨Nat.le_of_ble_eq_true rfl, Nat.le_of_ble_eq_true rfl⟩) rfl hl.1 (Nat.le_of_ble_eq_true rfl) dX11_octet_2 ⟨Nat.le_of_ble_eq_true rfl, Nat.le_of_ble_eq_true rfl⟩ (fun H locs hP hD hS => ?_)
  have hP : va_P D vwCl [] H := hP
  have hD : va_D A [] := hD
  refine lv_if_ne (tgt := 18) hx hb dX11_octet_5 (by decide) (fun c9 => absurd (by decide) c9) (fun _ => ?_)
  obtain ⟨a9, a9r, a9o⟩ := kX.st hX hAE ("IntegerHouse", 199, "no such byte of a block") (List.mem_of_getElem? (i := 5) rfl)
  exact vx_throwS (names := ["java/lang/RuntimeException", "java/lang/Exception"]) (A := A) hx hb hl9 hown (by decide +kernel) (by decide +kernel) (hts (.classLink RX11 197 "java/lang/IndexOutOfBoundsException") (List.mem_cons_of_mem _ (List.mem_append_left _ (List.mem_append_left _ (List.mem_append_left _ (List.mem_of_getElem? (i := 0) rfl)))))) (hts (.initialized "java/lang/IndexOutOfBoundsException") (List.mem_cons_of_mem _ (List.mem_append_left _ (List.mem_append_left _ (List.mem_append_left _ (List.mem_of_getElem? (i := 1) rfl)))))) a9r (vx_hat (L := vx_atS RX11 201 "java/lang/IndexOutOfBoundsException" ["java/lang/RuntimeException", "java/lang/Exception"]) (B := [.castable "java/lang/IndexOutOfBoundsException" "java/lang/IndexOutOfBoundsException", .declares (Bundle.initS "java/lang/RuntimeException"), .declares (Bundle.initS "java/lang/Exception"), .declares (Bundle.initS "java/lang/Throwable")]) (fun w h => hts w (List.mem_cons_of_mem _ (List.mem_append_right _ h))) (by decide +kernel) (vx_c (va_Nw.use rfl (kX.cast hX "java/lang/IndexOutOfBoundsException" (by decide))) (vx_c (va_Nw.use rfl (kX.decl hX "java/lang/RuntimeException" (by decide))) (vx_c (va_Nw.use rfl (kX.decl hX "java/lang/Exception" (by decide))) (vx_c (va_Nw.use rfl (kX.decl hX "java/lang/Throwable" (by decide))) vx_n))))) (by decide +kernel) (kX.us hX hAE) (kX.ss hX hAE) hS (by rw [hml]; exact hl.1) dX11_octet_8 dX11_octet_11 dX11_octet_12 dX11_octet_14 dX11_octet_17 (fun x hx => (ht9 x hx).elim) (Nat.le_of_ble_eq_true rfl) (Nat.le_of_ble_eq_true rfl) (Nat.le_of_ble_eq_true rfl) (Nat.le_of_ble_eq_true rfl) hlocks (fun t h1 h2 h3 => k_tx hP hK hD hS t h1 h2 h3) hS.2.2 (Nat.le_of_ble_eq_true rfl) (Nat.le_of_ble_eq_true rfl)
set_option maxHeartbeats 400000000 in
set_option maxRecDepth 100000 in
theorem c_L_octet_4 (l : Launch) (E : kE) (D : va_G) (cI cJ cB cZ : ClassId) (h0 : Nat) (x0 : Int32) (x1 : Int32) (h1 : Nat) (e0 : ¬ ((x0 : Int32) < 1)) (e1 : ¬ ((x0 : Int32) < 101)) (hl9 : l.stackTraces = false) : kI l E D (kT cI cJ cB cZ) yL_octet wsL_octet ({ frames := 7, cells := 1, slots := 6, locals := 104 }) [.ref h0, .int x0, .int x1, .ref h1] [] (1) [] 1 6 := by
  intro sz
  refine k_metH (cc := cL_octet) (maxL := 5) (ret := (some .int)) (hh := [(0, 10, 13, 25)]) (by decide) rfl ?_
  intro p e s m args below meth c s₁ B hml hv
  obtain ⟨rfl, hsz, hP, hK, hD0, hN, hX⟩ := hv
  have hx := B.exec
  have hb := B.bytes
  have hr := B.returns
  have hts := atoms_spec (ws := wsL_octet) B.pre
  have hown : s.vm.findClass RL = some m.cls := findClass_of_methodNamed B.named
  have hlocks := B.notSynchronized
  subst hsz
  have hD := hD0.self (sz := s.heap.size)
  have hAE := k_AE hD0 hX
  generalize hAe : va_A [] s.heap.size = A at hD hAE ⊢
  have hA : ∀ q : Nat, s.heap.size ≤ q → A q := fun q h => by rw [← hAe]; exact Or.inr h
  have hS : va_S A s.heap s.heap [] := va_S.rf
  have hP : va_P D vwCl [] s.heap := hP
  have hl := lv_entry ([.ref h0, .int x0, .int x1, .ref h1] : List Value) (n := 5) (Nat.le_of_ble_eq_true rfl)
  rw [lg_entry_eq]
  generalize (lg_sl ([.ref h0, .int x0, .int x1, .ref h1]) ++ List.replicate (5 - (lg_sl ([.ref h0, .int x0, .int x1, .ref h1])).length) Slot.unset).toArray = ls at hl ⊢
  have hl : lv_has ls 5 [(0, .ref h0), (1, .int x0), (2, .int x1), (3, .ref h1)] := hl
  refine lv_aload_n hx hb dL_octet_0 rfl (lv_at hl 3 rfl) ?_
  refine lv_iconst (v := 0) hx hb dL_octet_1 (by decide) ?_
  refine lv_aload_n hx hb dL_octet_2 rfl (lv_at hl 0 rfl) ?_
  refine lv_iload_n hx hb dL_octet_3 rfl (lv_at hl 1 rfl) ?_
  refine lv_iload_n hx hb dL_octet_4 rfl (lv_at hl 2 rfl) ?_
  refine k_cTi (As := [.int x0, .int x1]) (rest := [.int 0, .ref h1]) (wc := []) (wr := []) ⟨hx, hb, hml, hown, hts⟩ hN hX hAE hK hP hD hS hA [] [] (ci := 11) rfl rfl rfl rfl (by decide +kernel) (by decide +kernel) (by decide +kernel) (c_X11_octet_4 l E D cI cJ cB cZ h0 x0 x1 e0 e1 hl9) (cwV 2 hts gL_octet_X11_octet rfl rfl rfl (by decide +kernel) ⟨Nat.le_of_ble_eq_true rfl, Nat.le_of_ble_eq_true rfl⟩) rfl hl.1 (Nat.le_of_ble_eq_true rfl) dL_octet_5 ⟨Nat.le_of_ble_eq_true rfl, Nat.le_of_ble_eq_true rfl⟩ (fun q9 ce H locs hP hD hS hce hcv hcl => ?_)
  have hP : va_P D vwCl [] H := hP
  have hD : va_D A [] := hD
  refine vx_catch (own := RL) (name := "java/lang/IndexOutOfBoundsException") hown [] ⟨0, 10, 13, 25⟩ [] (vx_table B (hts _ List.mem_cons_self)) (fun z hz => absurd hz List.not_mem_nil) (by decide) (by decide) (hts (.classLink RL 25 "java/lang/IndexOutOfBoundsException") (List.mem_cons_of_mem _ (List.mem_append_left _ (List.mem_append_left _ (List.mem_append_left _ (List.mem_of_getElem? (i := 0) rfl)))))) (va_Nw.use rfl (kX.cast hX "java/lang/IndexOutOfBoundsException" (by decide))) hce hcv hcl ?_
  refine W.eq (g2 := F0 m 13 ls [.ref q9]) rfl ?_
  refine W.widen (k := 1) (n := 6) (Nat.le_of_ble_eq_true rfl) (Nat.le_of_ble_eq_true rfl) ?_
  refine lv_astore (lv' := [(4, .ref q9), (0, .ref h0), (1, .int x0), (2, .int x1), (3, .ref h1)]) hx hb dL_octet_13 hl (by decide) rfl (fun ls hl => ?_)
  refine lv_iconst (v := 1) hx hb dL_octet_15 (by decide) ?_
  exact W.iret (v := 1) hx hb hr (fun t ht hW => ⟨⟨1, (), rfl, rfl, kB_mk ht hW hP hK hD⟩, hS.F ht⟩) hS.2.2 dL_octet_16
set_option maxHeartbeats 400000000 in
set_option maxRecDepth 100000 in
theorem c_X12_in_11 (l : Launch) (E : kE) (D : va_G) (cI cJ cB cZ : ClassId) (y0 : Int64) (e0 : ¬ (((lg_cmp y0 1) : Int32) < 0)) (e1 : (0 : Int32) < (lg_cmp y0 100)) : kI l E D (kT cI cJ cB cZ) yX12_in wsX12_in ({ frames := 0, cells := 0, slots := 0, locals := 0 }) [.long y0, .long 1, .long 100] [] (0) [] 0 0 := by
  intro sz
  refine Met.ofW (cc := cX12_in) (maxL := 6) (ret := (some .boolean)) (by decide) rfl ?_
  intro p e s m args below meth c s₁ B hml hv
  obtain ⟨rfl, hsz, hP, hK, hD0, hN, hX⟩ := hv
  have hx := B.exec
  have hb := B.bytes
  have hr := B.returns
  have hts := atoms_spec (ws := wsX12_in) B.pre
  have hown : s.vm.findClass RX12 = some m.cls := findClass_of_methodNamed B.named
  have hlocks := B.notSynchronized
  subst hsz
  have hD := hD0.self (sz := s.heap.size)
  have hAE := k_AE hD0 hX
  generalize hAe : va_A [] s.heap.size = A at hD hAE ⊢
  have hA : ∀ q : Nat, s.heap.size ≤ q → A q := fun q h => by rw [← hAe]; exact Or.inr h
  have hS : va_S A s.heap s.heap [] := va_S.rf
  have hP : va_P D vwCl [] s.heap := hP
  have hl := lv_entry ([.long y0, .long 1, .long 100] : List Value) (n := 6) (Nat.le_of_ble_eq_true rfl)
  rw [lg_entry_eq]
  generalize (lg_sl ([.long y0, .long 1, .long 100]) ++ List.replicate (6 - (lg_sl ([.long y0, .long 1, .long 100])).length) Slot.unset).toArray = ls at hl ⊢
  have hl : lv_has ls 6 [(0, .long y0), (2, .long 1), (4, .long 100)] := hl
  refine lv_lload_n hx hb dX12_in_0 rfl (lv_at hl 0 rfl) ?_
  refine lv_lload_n hx hb dX12_in_1 rfl (lv_at hl 1 rfl) ?_
  refine W.lcmp hx hb dX12_in_2 ?_
  refine lv_if_lt (tgt := 17) hx hb dX12_in_3 (by decide) (fun c9 => absurd c9 e0) (fun _ => ?_)
  refine lv_lload_n hx hb dX12_in_6 rfl (lv_at hl 0 rfl) ?_
  refine lv_lload hx hb dX12_in_7 (lv_at hl 2 rfl) ?_
  refine W.lcmp hx hb dX12_in_9 ?_
  refine lv_if_gt (tgt := 17) hx hb dX12_in_10 (by decide) (fun _ => ?_) (fun c9 => absurd e1 c9)
  refine lv_iconst (v := 0) hx hb dX12_in_17 (by decide) ?_
  exact W.zret (v := 0) hx hb hr rfl (fun t ht hW => ⟨⟨0, (), rfl, rfl, kB_mk ht hW hP hK hD⟩, hS.F ht⟩) hS.2.2 dX12_in_18
set_option maxHeartbeats 400000000 in
set_option maxRecDepth 100000 in
theorem c_X12_octet_4 (l : Launch) (E : kE) (D : va_G) (cI cJ cB cZ : ClassId) (h0 : Nat) (x0 : Int32) (x1 : Int32) (f0 : List Value) (e0 : ¬ ((x0 : Int32) < 1)) (e1 : ¬ ((x0 : Int32) < 101)) (e2 : f0[0]? = some (.int 0)) : kI l E D (kT cI cJ cB cZ) yX12_octet wsX12_octet ({ frames := 1, cells := 0, slots := 0, locals := 25 }) [.ref h0, .int x0, .int x1] [(h0, .inr (12, f0))] (0) [(h0, .inr (12, (f0.set 0 (.int 1))))] 0 0 := by
  intro sz
  refine Met.ofW (cc := cX12_octet) (maxL := 3) (ret := (some .int)) (by decide) rfl ?_
  intro p e s m args below meth c s₁ B hml hv
  obtain ⟨rfl, hsz, hP, hK, hD0, hN, hX⟩ := hv
  have hx := B.exec
  have hb := B.bytes
  have hr := B.returns
  have hts := atoms_spec (ws := wsX12_octet) B.pre
  have hown : s.vm.findClass RX12 = some m.cls := findClass_of_methodNamed B.named
  have hlocks := B.notSynchronized
  have hin12 : ∀ w ∈ wsX120, w ∈ wsX12_octet := (fun w h => (List.mem_cons_of_mem _ (List.mem_append_right _ h)))
  subst hsz
  have hD := hD0.self (sz := s.heap.size)
  have hAE := k_AE hD0 hX
  generalize hAe : va_A [(h0, .inr (12, f0))] s.heap.size = A at hD hAE ⊢
  have hA : ∀ q : Nat, s.heap.size ≤ q → A q := fun q h => by rw [← hAe]; exact Or.inr h
  have hS : va_S A s.heap s.heap [] := va_S.rf
  have hP : va_P D vwCl [(h0, .inr (12, f0))] s.heap := hP
  have hl := lv_entry ([.ref h0, .int x0, .int x1] : List Value) (n := 3) (Nat.le_of_ble_eq_true rfl)
  rw [lg_entry_eq]
  generalize (lg_sl ([.ref h0, .int x0, .int x1]) ++ List.replicate (3 - (lg_sl ([.ref h0, .int x0, .int x1])).length) Slot.unset).toArray = ls at hl ⊢
  have hl : lv_has ls 3 [(0, .ref h0), (1, .int x0), (2, .int x1)] := hl
  refine lv_aload_n hx hb dX12_octet_0 rfl (lv_at hl 0 rfl) ?_
  refine lv_iload_n hx hb dX12_octet_1 rfl (lv_at hl 1 rfl) ?_
  refine lv_i2l (v := (Int32.toInt64 x0)) hx hb dX12_octet_2 rfl ?_
  refine lv_lconst (v := 1) hx hb dX12_octet_3 (by decide) ?_
  refine lv_ldc2 (own := RX12) (index := 560) (v := 100) hx hb hown (hts (.constantLong RX12 560 (100)) (List.mem_cons_of_mem _ (List.mem_append_left _ (List.mem_of_getElem? (i := 0) rfl)))) dX12_octet_4 ?_
  refine k_cSi (As := [.long (Int32.toInt64 x0), .long 1, .long 100]) (rest := [.ref h0]) (wc := []) (wr := [(h0, .inr (12, f0))]) (w1 := []) ⟨hx, hb, hml, hown, hts⟩ hN hX hAE hK hP hD hS hA [] [0] rfl rfl (by decide +kernel) (by decide +kernel) (by decide +kernel) (c_X12_in_11 l E D cI cJ cB cZ (Int32.toInt64 x0) (fun z9 => e0 ((k_n4 (x := x0) (c := 1) (C := 1) (by decide)).mp z9)) ((k_n5 (x := x0) (c := 100) (d := 101) (C := 100) (by decide) (by decide)).mpr e1)) (va_cwS 3 hts gX12_octet_X12_in rfl rfl rfl (by decide +kernel) ⟨Nat.le_of_ble_eq_true rfl, Nat.le_of_ble_eq_true rfl⟩) rfl hl.1 (Nat.le_of_ble_eq_true rfl) dX12_octet_7 ⟨Nat.le_of_ble_eq_true rfl, Nat.le_of_ble_eq_true rfl⟩ (fun H locs hP hD hS => ?_)
  have hP : va_P D vwCl [(h0, .inr (12, f0))] H := hP
  have hD : va_D A [(h0, .inr (12, f0))] := hD
  refine lv_if_eq (tgt := 29) hx hb dX12_octet_10 (by decide) (fun _ => ?_) (fun c9 => absurd (by decide) c9)
  refine lv_iconst (v := 1) hx hb dX12_octet_29 (by decide) ?_
  refine va_put (D := D) (ref := "IntegerHouseModel") (ci := 12) (v := .int 1) (ty := .int) (C := RX12) (T := TX12) (N := 195) hx hb hts hin12 tyX12 tyX12_ok nmX12 hown hK hP hD hS 0 rfl rfl 0 (by decide) (hts (.fieldLink RX12 3 "IntegerHouseModel" "thrown" "I") (List.mem_cons_of_mem _ (List.mem_append_left _ (List.mem_of_getElem? (i := 2) rfl)))) (fun _ h9 => h9) rfl (by decide +kernel) rfl rfl (k_len e2) dX12_octet_30 (fun H locs hP hD hS => ?_)
  have hP : va_P D vwCl [(h0, .inr (12, (f0.set 0 (.int 1))))] H := hP
  have hD : va_D A [(h0, .inr (12, (f0.set 0 (.int 1))))] := hD
  refine lv_aload_n hx hb dX12_octet_33 rfl (lv_at hl 0 rfl) ?_
  refine va_get (D := D) (ref := "IntegerHouseModel") (ci := 12) (v := .int 1) (C := RX12) (T := TX12) (N := 195) hx hb hts hin12 hown hK hP 0 rfl rfl 0 (by decide) (hts (.fieldLink RX12 3 "IntegerHouseModel" "thrown" "I") (List.mem_cons_of_mem _ (List.mem_append_left _ (List.mem_of_getElem? (i := 2) rfl)))) (fun _ h9 => h9) (k_set e2) dX12_octet_34 ?_
  refine lv_if_le (tgt := 44) hx hb dX12_octet_37 (by decide) (fun c9 => absurd c9 (by decide)) (fun _ => ?_)
  refine lv_iconst (v := 0) hx hb dX12_octet_40 (by decide) ?_
  refine lv_goto (tgt := 50) hx hb dX12_octet_41 (by decide) ?_
  exact W.iret (v := 0) hx hb hr (fun t ht hW => ⟨⟨0, (), rfl, rfl, kB_mk ht hW hP hK hD⟩, hS.F ht⟩) hS.2.2 dX12_octet_50
set_option maxHeartbeats 400000000 in
set_option maxRecDepth 100000 in
theorem c_X1_byteOf_1 (l : Launch) (E : kE) (D : va_G) (cI cJ cB cZ : ClassId) (h0 : Nat) (x0 : Int32) (x1 : Int32) (f0 : List Value) (h1 : Nat) (g0 : Nat → Int32) (x2 : Int32) (e0 : ¬ ((x0 : Int32) < 1)) (e1 : (x0 : Int32) < 101) (e2 : ¬ ((x1 : Int32) < 0)) (e3 : (x1 : Int32) < 256) (e4 : f0[0]? = some (.ref h1)) (e5 : vp_in (((x0 - 1) * 256) + x1) 25600) (e6 : g0 (Int32.toNatClampNeg (((x0 - 1) * 256) + x1)) = x2) : kI l E D (kT cI cJ cB cZ) yX1_byteOf wsX1_byteOf ({ frames := 1, cells := 0, slots := 0, locals := 21 }) [.ref h0, .int x0, .int x1] [(h0, .inr (1, f0)), (h1, .inl (cB, 25600, .inl g0))] ((x2 &&& 255)) [(h0, .inr (1, f0)), (h1, .inl (cB, 25600, .inl g0))] 0 0 := by
  intro sz
  refine Met.ofW (cc := cX1_byteOf) (maxL := 3) (ret := (some .int)) (by decide) rfl ?_
  intro p e s m args below meth c s₁ B hml hv
  obtain ⟨rfl, hsz, hP, hK, hD0, hN, hX⟩ := hv
  have hx := B.exec
  have hb := B.bytes
  have hr := B.returns
  have hts := atoms_spec (ws := wsX1_byteOf) B.pre
  have hown : s.vm.findClass RX1 = some m.cls := findClass_of_methodNamed B.named
  have hlocks := B.notSynchronized
  have hin1 : ∀ w ∈ wsX10, w ∈ wsX1_byteOf := (fun w h => (List.mem_cons_of_mem _ (List.mem_append_right _ h)))
  subst hsz
  have hD := hD0.self (sz := s.heap.size)
  have hAE := k_AE hD0 hX
  generalize hAe : va_A [(h0, .inr (1, f0)), (h1, .inl (cB, 25600, .inl g0))] s.heap.size = A at hD hAE ⊢
  have hA : ∀ q : Nat, s.heap.size ≤ q → A q := fun q h => by rw [← hAe]; exact Or.inr h
  have hS : va_S A s.heap s.heap [] := va_S.rf
  have hP : va_P D vwCl [(h0, .inr (1, f0)), (h1, .inl (cB, 25600, .inl g0))] s.heap := hP
  have hl := lv_entry ([.ref h0, .int x0, .int x1] : List Value) (n := 3) (Nat.le_of_ble_eq_true rfl)
  rw [lg_entry_eq]
  generalize (lg_sl ([.ref h0, .int x0, .int x1]) ++ List.replicate (3 - (lg_sl ([.ref h0, .int x0, .int x1])).length) Slot.unset).toArray = ls at hl ⊢
  have hl : lv_has ls 3 [(0, .ref h0), (1, .int x0), (2, .int x1)] := hl
  refine lv_iload_n hx hb dX1_byteOf_0 rfl (lv_at hl 1 rfl) ?_
  refine lv_iload_n hx hb dX1_byteOf_1 rfl (lv_at hl 2 rfl) ?_
  refine k_cSi (As := [.int x0, .int x1]) (rest := []) (wc := []) (wr := [(h0, .inr (1, f0)), (h1, .inl (cB, 25600, .inl g0))]) (w1 := []) ⟨hx, hb, hml, hown, hts⟩ hN hX hAE hK hP hD hS hA [] [0, 1] rfl rfl (by decide +kernel) (by decide +kernel) (by decide +kernel) (c_X1_isByte_0 l E D cI cJ cB cZ x0 x1 e0 e1 e2 e3) (va_cwS 2 hts gX1_byteOf_X1_isByte rfl rfl rfl (by decide +kernel) ⟨Nat.le_of_ble_eq_true rfl, Nat.le_of_ble_eq_true rfl⟩) rfl hl.1 (Nat.le_of_ble_eq_true rfl) dX1_byteOf_2 ⟨Nat.le_of_ble_eq_true rfl, Nat.le_of_ble_eq_true rfl⟩ (fun H locs hP hD hS => ?_)
  have hP : va_P D vwCl [(h0, .inr (1, f0)), (h1, .inl (cB, 25600, .inl g0))] H := hP
  have hD : va_D A [(h0, .inr (1, f0)), (h1, .inl (cB, 25600, .inl g0))] := hD
  refine lv_if_eq (tgt := 29) hx hb dX1_byteOf_5 (by decide) (fun c9 => absurd c9 (by decide)) (fun _ => ?_)
  refine lv_aload_n hx hb dX1_byteOf_8 rfl (lv_at hl 0 rfl) ?_
  refine va_get (D := D) (ref := "IntegerHouse$Disk") (ci := 1) (v := .ref h1) (C := RX1) (T := TX1) (N := 9) hx hb hts hin1 hown hK hP 0 rfl rfl 0 (by decide) (hts (.fieldLink RX1 11 "IntegerHouse$Disk" "blocks" "[B") (List.mem_cons_of_mem _ (List.mem_append_left _ (List.mem_of_getElem? (i := 0) rfl)))) (fun _ h9 => h9) e4 dX1_byteOf_9 ?_
  refine lv_iload_n hx hb dX1_byteOf_12 rfl (lv_at hl 1 rfl) ?_
  refine lv_iconst (v := 1) hx hb dX1_byteOf_13 (by decide) ?_
  refine lv_isub hx hb dX1_byteOf_14 ?_
  refine lv_sipush (v := 256) hx hb dX1_byteOf_15 (by decide) ?_
  refine lv_imul hx hb dX1_byteOf_18 ?_
  refine lv_iload_n hx hb dX1_byteOf_19 rfl (lv_at hl 2 rfl) ?_
  refine lv_iadd hx hb dX1_byteOf_20 ?_
  refine va_bald hx hb hK hP 1 2 rfl rfl e5 dX1_byteOf_21 ?_
  refine k_topi (y := x2) e6 ?_
  refine lv_sipush (v := 255) hx hb dX1_byteOf_22 (by decide) ?_
  refine lv_iand hx hb dX1_byteOf_25 ?_
  refine lv_goto (tgt := 30) hx hb dX1_byteOf_26 (by decide) ?_
  exact W.iret (v := (x2 &&& 255)) hx hb hr (fun t ht hW => ⟨⟨(x2 &&& 255), (), rfl, rfl, kB_mk ht hW hP hK hD⟩, hS.F ht⟩) hS.2.2 dX1_byteOf_30
set_option maxHeartbeats 400000000 in
set_option maxRecDepth 100000 in
theorem c_X1_flip_0 (l : Launch) (E : kE) (D : va_G) (cI cJ cB cZ : ClassId) (h0 : Nat) (x0 : Int32) (x1 : Int32) (x2 : Int32) (f0 : List Value) (h1 : Nat) (g0 : Nat → Int32) (e0 : ¬ ((x0 : Int32) < 1)) (e1 : (x0 : Int32) < 101) (e2 : ¬ ((x1 : Int32) < 0)) (e3 : (x1 : Int32) < 256) (e4 : f0[0]? = some (.ref h1)) (e5 : vp_in (((x0 - 1) * 256) + x1) 25600) (e6 : g0 (Int32.toNatClampNeg (((x0 - 1) * 256) + x1)) = 0) : kI l E D (kT cI cJ cB cZ) yX1_flip wsX1_flip ({ frames := 2, cells := 0, slots := 0, locals := 43 }) [.ref h0, .int x0, .int x1, .int x2] [(h0, .inr (1, f0)), (h1, .inl (cB, 25600, .inl g0))] (((vp_nar .byte (Int8.toInt32 (Int32.toInt8 (0 ^^^ (Int8.toInt32 (Int32.toInt8 x2)))))) &&& 255)) [(h0, .inr (1, f0)), (h1, .inl (cB, 25600, .inl (upd g0 (Int32.toNatClampNeg (((x0 - 1) * 256) + x1)) (vp_nar .byte (Int8.toInt32 (Int32.toInt8 (0 ^^^ (Int8.toInt32 (Int32.toInt8 x2)))))))))] 0 0 := by
  intro sz
  refine Met.ofW (cc := cX1_flip) (maxL := 4) (ret := (some .int)) (by decide) rfl ?_
  intro p e s m args below meth c s₁ B hml hv
  obtain ⟨rfl, hsz, hP, hK, hD0, hN, hX⟩ := hv
  have hx := B.exec
  have hb := B.bytes
  have hr := B.returns
  have hts := atoms_spec (ws := wsX1_flip) B.pre
  have hown : s.vm.findClass RX1 = some m.cls := findClass_of_methodNamed B.named
  have hlocks := B.notSynchronized
  have hin1 : ∀ w ∈ wsX10, w ∈ wsX1_flip := (fun w h => (List.mem_cons_of_mem _ (List.mem_append_right _ h)))
  subst hsz
  have hD := hD0.self (sz := s.heap.size)
  have hAE := k_AE hD0 hX
  generalize hAe : va_A [(h0, .inr (1, f0)), (h1, .inl (cB, 25600, .inl g0))] s.heap.size = A at hD hAE ⊢
  have hA : ∀ q : Nat, s.heap.size ≤ q → A q := fun q h => by rw [← hAe]; exact Or.inr h
  have hS : va_S A s.heap s.heap [] := va_S.rf
  have hP : va_P D vwCl [(h0, .inr (1, f0)), (h1, .inl (cB, 25600, .inl g0))] s.heap := hP
  have hl := lv_entry ([.ref h0, .int x0, .int x1, .int x2] : List Value) (n := 4) (Nat.le_of_ble_eq_true rfl)
  rw [lg_entry_eq]
  generalize (lg_sl ([.ref h0, .int x0, .int x1, .int x2]) ++ List.replicate (4 - (lg_sl ([.ref h0, .int x0, .int x1, .int x2])).length) Slot.unset).toArray = ls at hl ⊢
  have hl : lv_has ls 4 [(0, .ref h0), (1, .int x0), (2, .int x1), (3, .int x2)] := hl
  refine lv_iload_n hx hb dX1_flip_0 rfl (lv_at hl 1 rfl) ?_
  refine lv_iload_n hx hb dX1_flip_1 rfl (lv_at hl 2 rfl) ?_
  refine k_cSi (As := [.int x0, .int x1]) (rest := []) (wc := []) (wr := [(h0, .inr (1, f0)), (h1, .inl (cB, 25600, .inl g0))]) (w1 := []) ⟨hx, hb, hml, hown, hts⟩ hN hX hAE hK hP hD hS hA [] [0, 1] rfl rfl (by decide +kernel) (by decide +kernel) (by decide +kernel) (c_X1_isByte_0 l E D cI cJ cB cZ x0 x1 e0 e1 e2 e3) (va_cwS 2 hts gX1_flip_X1_isByte rfl rfl rfl (by decide +kernel) ⟨Nat.le_of_ble_eq_true rfl, Nat.le_of_ble_eq_true rfl⟩) rfl hl.1 (Nat.le_of_ble_eq_true rfl) dX1_flip_2 ⟨Nat.le_of_ble_eq_true rfl, Nat.le_of_ble_eq_true rfl⟩ (fun H locs hP hD hS => ?_)
  have hP : va_P D vwCl [(h0, .inr (1, f0)), (h1, .inl (cB, 25600, .inl g0))] H := hP
  have hD : va_D A [(h0, .inr (1, f0)), (h1, .inl (cB, 25600, .inl g0))] := hD
  refine lv_if_eq (tgt := 28) hx hb dX1_flip_5 (by decide) (fun c9 => absurd c9 (by decide)) (fun _ => ?_)
  refine lv_aload_n hx hb dX1_flip_8 rfl (lv_at hl 0 rfl) ?_
  refine va_get (D := D) (ref := "IntegerHouse$Disk") (ci := 1) (v := .ref h1) (C := RX1) (T := TX1) (N := 9) hx hb hts hin1 hown hK hP 0 rfl rfl 0 (by decide) (hts (.fieldLink RX1 11 "IntegerHouse$Disk" "blocks" "[B") (List.mem_cons_of_mem _ (List.mem_append_left _ (List.mem_of_getElem? (i := 0) rfl)))) (fun _ h9 => h9) e4 dX1_flip_9 ?_
  refine lv_iload_n hx hb dX1_flip_12 rfl (lv_at hl 1 rfl) ?_
  refine lv_iconst (v := 1) hx hb dX1_flip_13 (by decide) ?_
  refine lv_isub hx hb dX1_flip_14 ?_
  refine lv_sipush (v := 256) hx hb dX1_flip_15 (by decide) ?_
  refine lv_imul hx hb dX1_flip_18 ?_
  refine lv_iload_n hx hb dX1_flip_19 rfl (lv_at hl 2 rfl) ?_
  refine lv_iadd hx hb dX1_flip_20 ?_
  refine lv_dup2_11 hx hb dX1_flip_21 rfl rfl ?_
  refine va_bald hx hb hK hP 1 2 rfl rfl e5 dX1_flip_22 ?_
  refine k_topi (y := 0) e6 ?_
  refine lv_iload_n hx hb dX1_flip_23 rfl (lv_at hl 3 rfl) ?_
  refine lv_i2b (v := (Int8.toInt32 (Int32.toInt8 x2))) hx hb dX1_flip_24 rfl ?_
  refine lv_ixor hx hb dX1_flip_25 ?_
  refine lv_i2b (v := (Int8.toInt32 (Int32.toInt8 (0 ^^^ (Int8.toInt32 (Int32.toInt8 x2)))))) hx hb dX1_flip_26 rfl ?_
  refine va_bast hx hb hK hP hD hS 1 2 rfl rfl e5 dX1_flip_27 (fun H locs hP hD hS => ?_)
  have hP : va_P D vwCl [(h0, .inr (1, f0)), (h1, .inl (cB, 25600, .inl (upd g0 (Int32.toNatClampNeg (((x0 - 1) * 256) + x1)) (vp_nar .byte (Int8.toInt32 (Int32.toInt8 (0 ^^^ (Int8.toInt32 (Int32.toInt8 x2)))))))))] H := hP
  have hD : va_D A [(h0, .inr (1, f0)), (h1, .inl (cB, 25600, .inl (upd g0 (Int32.toNatClampNeg (((x0 - 1) * 256) + x1)) (vp_nar .byte (Int8.toInt32 (Int32.toInt8 (0 ^^^ (Int8.toInt32 (Int32.toInt8 x2)))))))))] := hD
  refine lv_aload_n hx hb dX1_flip_28 rfl (lv_at hl 0 rfl) ?_
  refine lv_iload_n hx hb dX1_flip_29 rfl (lv_at hl 1 rfl) ?_
  refine lv_iload_n hx hb dX1_flip_30 rfl (lv_at hl 2 rfl) ?_
  refine k_cVi (As := [.int x0, .int x1]) (rest := []) (wc := [(h0, .inr (1, f0)), (h1, .inl (cB, 25600, .inl (upd g0 (Int32.toNatClampNeg (((x0 - 1) * 256) + x1)) (vp_nar .byte (Int8.toInt32 (Int32.toInt8 (0 ^^^ (Int8.toInt32 (Int32.toInt8 x2)))))))))]) (wr := []) (w1 := [(h0, .inr (1, f0)), (h1, .inl (cB, 25600, .inl (upd g0 (Int32.toNatClampNeg (((x0 - 1) * 256) + x1)) (vp_nar .byte (Int8.toInt32 (Int32.toInt8 (0 ^^^ (Int8.toInt32 (Int32.toInt8 x2)))))))))]) ⟨hx, hb, hml, hown, hts⟩ hN hX hAE hK hP hD hS hA [0, 1] [] (ci := 1) rfl rfl rfl rfl (by decide +kernel) (by decide +kernel) (by decide +kernel) (c_X1_byteOf_1 l E D cI cJ cB cZ h0 x0 x1 f0 h1 ((upd g0 (Int32.toNatClampNeg (((x0 - 1) * 256) + x1)) (vp_nar .byte (Int8.toInt32 (Int32.toInt8 (0 ^^^ (Int8.toInt32 (Int32.toInt8 x2)))))))) (vp_nar .byte (Int8.toInt32 (Int32.toInt8 (0 ^^^ (Int8.toInt32 (Int32.toInt8 x2)))))) e0 e1 e2 e3 e4 e5 (if_pos rfl)) (cwV 2 hts gX1_flip_X1_byteOf rfl rfl rfl (by decide +kernel) ⟨Nat.le_of_ble_eq_true rfl, Nat.le_of_ble_eq_true rfl⟩) rfl hl.1 (Nat.le_of_ble_eq_true rfl) dX1_flip_31 ⟨Nat.le_of_ble_eq_true rfl, Nat.le_of_ble_eq_true rfl⟩ (fun H locs hP hD hS => ?_)
  have hP : va_P D vwCl [(h0, .inr (1, f0)), (h1, .inl (cB, 25600, .inl (upd g0 (Int32.toNatClampNeg (((x0 - 1) * 256) + x1)) (vp_nar .byte (Int8.toInt32 (Int32.toInt8 (0 ^^^ (Int8.toInt32 (Int32.toInt8 x2)))))))))] H := hP
  have hD : va_D A [(h0, .inr (1, f0)), (h1, .inl (cB, 25600, .inl (upd g0 (Int32.toNatClampNeg (((x0 - 1) * 256) + x1)) (vp_nar .byte (Int8.toInt32 (Int32.toInt8 (0 ^^^ (Int8.toInt32 (Int32.toInt8 x2)))))))))] := hD
  exact W.iret (v := ((vp_nar .byte (Int8.toInt32 (Int32.toInt8 (0 ^^^ (Int8.toInt32 (Int32.toInt8 x2)))))) &&& 255)) hx hb hr (fun t ht hW => ⟨⟨((vp_nar .byte (Int8.toInt32 (Int32.toInt8 (0 ^^^ (Int8.toInt32 (Int32.toInt8 x2)))))) &&& 255), (), rfl, rfl, kB_mk ht hW hP hK hD⟩, hS.F ht⟩) hS.2.2 dX1_flip_34
set_option maxHeartbeats 400000000 in
set_option maxRecDepth 100000 in
theorem c_X11_poke_0 (l : Launch) (E : kE) (D : va_G) (cI cJ cB cZ : ClassId) (h0 : Nat) (x0 : Int32) (x1 : Int32) (x2 : Int32) (f0 : List Value) (h1 : Nat) (f1 : List Value) (h2 : Nat) (g0 : Nat → Int32) (e0 : ¬ ((x0 : Int32) < 1)) (e1 : (x0 : Int32) < 101) (e2 : ¬ ((x1 : Int32) < 0)) (e3 : (x1 : Int32) < 256) (e4 : f0[1]? = some (.ref h1)) (e5 : f1[0]? = some (.ref h2)) (e6 : g0 (Int32.toNatClampNeg (((x0 - 1) * 256) + x1)) = 0) (e7 : vp_in (((x0 - 1) * 256) + x1) 25600) : kI l E D (kT cI cJ cB cZ) yX11_poke wsX11_poke ({ frames := 3, cells := 0, slots := 0, locals := 66 }) [.ref h0, .int x0, .int x1, .int x2] [(h0, .inr (11, f0)), (h1, .inr (1, f1)), (h2, .inl (cB, 25600, .inl g0))] (((vp_nar .byte (Int8.toInt32 (Int32.toInt8 (0 ^^^ (Int8.toInt32 (Int32.toInt8 x2)))))) &&& 255)) [(h0, .inr (11, f0)), (h1, .inr (1, f1)), (h2, .inl (cB, 25600, .inl (upd g0 (Int32.toNatClampNeg (((x0 - 1) * 256) + x1)) (vp_nar .byte (Int8.toInt32 (Int32.toInt8 (0 ^^^ (Int8.toInt32 (Int32.toInt8 x2)))))))))] 0 0 := by
  intro sz
  refine Met.ofW (cc := cX11_poke) (maxL := 4) (ret := (some .int)) (by decide) rfl ?_
  intro p e s m args below meth c s₁ B hml hv
  obtain ⟨rfl, hsz, hP, hK, hD0, hN, hX⟩ := hv
  have hx := B.exec
  have hb := B.bytes
  have hr := B.returns
  have hts := atoms_spec (ws := wsX11_poke) B.pre
  have hown : s.vm.findClass RX11 = some m.cls := findClass_of_methodNamed B.named
  have hlocks := B.notSynchronized
  have hin11 : ∀ w ∈ wsX110, w ∈ wsX11_poke := (fun w h => (List.mem_cons_of_mem _ (List.mem_append_left _ (List.mem_append_left _ (List.mem_append_right _ h)))))
  subst hsz
  have hD := hD0.self (sz := s.heap.size)
  have hAE := k_AE hD0 hX
  generalize hAe : va_A [(h0, .inr (11, f0)), (h1, .inr (1, f1)), (h2, .inl (cB, 25600, .inl g0))] s.heap.size = A at hD hAE ⊢
  have hA : ∀ q : Nat, s.heap.size ≤ q → A q := fun q h => by rw [← hAe]; exact Or.inr h
  have hS : va_S A s.heap s.heap [] := va_S.rf
  have hP : va_P D vwCl [(h0, .inr (11, f0)), (h1, .inr (1, f1)), (h2, .inl (cB, 25600, .inl g0))] s.heap := hP
  have hl := lv_entry ([.ref h0, .int x0, .int x1, .int x2] : List Value) (n := 4) (Nat.le_of_ble_eq_true rfl)
  rw [lg_entry_eq]
  generalize (lg_sl ([.ref h0, .int x0, .int x1, .int x2]) ++ List.replicate (4 - (lg_sl ([.ref h0, .int x0, .int x1, .int x2])).length) Slot.unset).toArray = ls at hl ⊢
  have hl : lv_has ls 4 [(0, .ref h0), (1, .int x0), (2, .int x1), (3, .int x2)] := hl
  refine lv_iload_n hx hb dX11_poke_0 rfl (lv_at hl 1 rfl) ?_
  refine lv_iload_n hx hb dX11_poke_1 rfl (lv_at hl 2 rfl) ?_
  refine k_cSi (As := [.int x0, .int x1]) (rest := []) (wc := []) (wr := [(h0, .inr (11, f0)), (h1, .inr (1, f1)), (h2, .inl (cB, 25600, .inl g0))]) (w1 := []) ⟨hx, hb, hml, hown, hts⟩ hN hX hAE hK hP hD hS hA [] [0, 1, 2] rfl rfl (by decide +kernel) (by decide +kernel) (by decide +kernel) (c_X1_isByte_0 l E D cI cJ cB cZ x0 x1 e0 e1 e2 e3) (va_cwS 2 hts gX11_poke_X1_isByte rfl rfl rfl (by decide +kernel) ⟨Nat.le_of_ble_eq_true rfl, Nat.le_of_ble_eq_true rfl⟩) rfl hl.1 (Nat.le_of_ble_eq_true rfl) dX11_poke_2 ⟨Nat.le_of_ble_eq_true rfl, Nat.le_of_ble_eq_true rfl⟩ (fun H locs hP hD hS => ?_)
  have hP : va_P D vwCl [(h0, .inr (11, f0)), (h1, .inr (1, f1)), (h2, .inl (cB, 25600, .inl g0))] H := hP
  have hD : va_D A [(h0, .inr (11, f0)), (h1, .inr (1, f1)), (h2, .inl (cB, 25600, .inl g0))] := hD
  refine lv_if_ne (tgt := 18) hx hb dX11_poke_5 (by decide) (fun _ => ?_) (fun c9 => absurd c9 (by decide))
  refine lv_aload_n hx hb dX11_poke_18 rfl (lv_at hl 0 rfl) ?_
  refine va_get (D := D) (ref := "IntegerHouse") (ci := 11) (v := .ref h1) (C := RX11) (T := TX11) (N := 15) hx hb hts hin11 hown hK hP 0 rfl rfl 1 (by decide) (hts (.fieldLink RX11 16 "IntegerHouse" "disk" "LIntegerHouse$Disk;") (List.mem_cons_of_mem _ (List.mem_append_left _ (List.mem_append_left _ (List.mem_append_left _ (List.mem_of_getElem? (i := 2) rfl)))))) (fun _ h9 => h9) e4 dX11_poke_19 ?_
  refine lv_iload_n hx hb dX11_poke_22 rfl (lv_at hl 1 rfl) ?_
  refine lv_iload_n hx hb dX11_poke_23 rfl (lv_at hl 2 rfl) ?_
  refine lv_iload_n hx hb dX11_poke_24 rfl (lv_at hl 3 rfl) ?_
  refine k_cVi (As := [.int x0, .int x1, .int x2]) (rest := []) (wc := [(h1, .inr (1, f1)), (h2, .inl (cB, 25600, .inl g0))]) (wr := [(h0, .inr (11, f0))]) (w1 := [(h1, .inr (1, f1)), (h2, .inl (cB, 25600, .inl (upd g0 (Int32.toNatClampNeg (((x0 - 1) * 256) + x1)) (vp_nar .byte (Int8.toInt32 (Int32.toInt8 (0 ^^^ (Int8.toInt32 (Int32.toInt8 x2)))))))))]) ⟨hx, hb, hml, hown, hts⟩ hN hX hAE hK hP hD hS hA [1, 2] [0] (ci := 1) rfl rfl rfl rfl (by decide +kernel) (by decide +kernel) (by decide +kernel) (c_X1_flip_0 l E D cI cJ cB cZ h1 x0 x1 x2 f1 h2 g0 e0 e1 e2 e3 e5 e7 e6) (cwV 3 hts gX11_poke_X1_flip rfl rfl rfl (by decide +kernel) ⟨Nat.le_of_ble_eq_true rfl, Nat.le_of_ble_eq_true rfl⟩) rfl hl.1 (Nat.le_of_ble_eq_true rfl) dX11_poke_25 ⟨Nat.le_of_ble_eq_true rfl, Nat.le_of_ble_eq_true rfl⟩ (fun H locs hP hD hS => ?_)
  have hP : va_P D vwCl [(h0, .inr (11, f0)), (h1, .inr (1, f1)), (h2, .inl (cB, 25600, .inl (upd g0 (Int32.toNatClampNeg (((x0 - 1) * 256) + x1)) (vp_nar .byte (Int8.toInt32 (Int32.toInt8 (0 ^^^ (Int8.toInt32 (Int32.toInt8 x2)))))))))] H := hP
  have hD : va_D A [(h0, .inr (11, f0)), (h1, .inr (1, f1)), (h2, .inl (cB, 25600, .inl (upd g0 (Int32.toNatClampNeg (((x0 - 1) * 256) + x1)) (vp_nar .byte (Int8.toInt32 (Int32.toInt8 (0 ^^^ (Int8.toInt32 (Int32.toInt8 x2)))))))))] := hD
  exact W.iret (v := ((vp_nar .byte (Int8.toInt32 (Int32.toInt8 (0 ^^^ (Int8.toInt32 (Int32.toInt8 x2)))))) &&& 255)) hx hb hr (fun t ht hW => ⟨⟨((vp_nar .byte (Int8.toInt32 (Int32.toInt8 (0 ^^^ (Int8.toInt32 (Int32.toInt8 x2)))))) &&& 255), (), rfl, rfl, kB_mk ht hW hP hK hD⟩, hS.F ht⟩) hS.2.2 dX11_poke_28
set_option maxHeartbeats 400000000 in
set_option maxRecDepth 100000 in
theorem c_L_poke_0 (l : Launch) (E : kE) (D : va_G) (cI cJ cB cZ : ClassId) (h0 : Nat) (x0 : Int32) (x1 : Int32) (x2 : Int32) (h1 : Nat) (f0 : List Value) (h2 : Nat) (f1 : List Value) (h3 : Nat) (g0 : Nat → Int32) (g1 : Nat → Int64) (e0 : f0[1]? = some (.ref h2)) (e1 : f1[0]? = some (.ref h3)) (e2 : g0 (Int32.toNatClampNeg (((x0 - 1) * 256) + x1)) = 0) (e3 : ¬ ((x0 : Int32) < 1)) (e4 : (x0 : Int32) < 101) (e5 : ¬ ((x1 : Int32) < 0)) (e6 : (x1 : Int32) < 256) (e7 : vp_in (((x0 - 1) * 256) + x1) 25600) : kI l E D (kT cI cJ cB cZ) yL_poke wsL_poke ({ frames := 4, cells := 0, slots := 0, locals := 89 }) [.ref h0, .int x0, .int x1, .int x2, .ref h1] [(h0, .inr (11, f0)), (h2, .inr (1, f1)), (h3, .inl (cB, 25600, .inl g0)), (h1, .inl (cJ, 1, .inr (.inl g1)))] (0) [(h0, .inr (11, f0)), (h2, .inr (1, f1)), (h3, .inl (cB, 25600, .inl (upd g0 (Int32.toNatClampNeg (((x0 - 1) * 256) + x1)) (vp_nar .byte (Int8.toInt32 (Int32.toInt8 (0 ^^^ (Int8.toInt32 (Int32.toInt8 x2))))))))), (h1, .inl (cJ, 1, .inr (.inl (vp_updL g1 0 (Int32.toInt64 ((vp_nar .byte (Int8.toInt32 (Int32.toInt8 (0 ^^^ (Int8.toInt32 (Int32.toInt8 x2)))))) &&& 255))))))] 0 0 := by
  intro sz
  refine k_metH (cc := cL_poke) (maxL := 6) (ret := (some .int)) (hh := [(0, 12, 15, 25)]) (by decide) rfl ?_
  intro p e s m args below meth c s₁ B hml hv
  obtain ⟨rfl, hsz, hP, hK, hD0, hN, hX⟩ := hv
  have hx := B.exec
  have hb := B.bytes
  have hr := B.returns
  have hts := atoms_spec (ws := wsL_poke) B.pre
  have hown : s.vm.findClass RL = some m.cls := findClass_of_methodNamed B.named
  have hlocks := B.notSynchronized
  subst hsz
  have hD := hD0.self (sz := s.heap.size)
  have hAE := k_AE hD0 hX
  generalize hAe : va_A [(h0, .inr (11, f0)), (h2, .inr (1, f1)), (h3, .inl (cB, 25600, .inl g0)), (h1, .inl (cJ, 1, .inr (.inl g1)))] s.heap.size = A at hD hAE ⊢
  have hA : ∀ q : Nat, s.heap.size ≤ q → A q := fun q h => by rw [← hAe]; exact Or.inr h
  have hS : va_S A s.heap s.heap [] := va_S.rf
  have hP : va_P D vwCl [(h0, .inr (11, f0)), (h2, .inr (1, f1)), (h3, .inl (cB, 25600, .inl g0)), (h1, .inl (cJ, 1, .inr (.inl g1)))] s.heap := hP
  have hl := lv_entry ([.ref h0, .int x0, .int x1, .int x2, .ref h1] : List Value) (n := 6) (Nat.le_of_ble_eq_true rfl)
  rw [lg_entry_eq]
  generalize (lg_sl ([.ref h0, .int x0, .int x1, .int x2, .ref h1]) ++ List.replicate (6 - (lg_sl ([.ref h0, .int x0, .int x1, .int x2, .ref h1])).length) Slot.unset).toArray = ls at hl ⊢
  have hl : lv_has ls 6 [(0, .ref h0), (1, .int x0), (2, .int x1), (3, .int x2), (4, .ref h1)] := hl
  refine lv_aload hx hb dL_poke_0 (lv_at hl 4 rfl) ?_
  refine lv_iconst (v := 0) hx hb dL_poke_2 (by decide) ?_
  refine lv_aload_n hx hb dL_poke_3 rfl (lv_at hl 0 rfl) ?_
  refine lv_iload_n hx hb dL_poke_4 rfl (lv_at hl 1 rfl) ?_
  refine lv_iload_n hx hb dL_poke_5 rfl (lv_at hl 2 rfl) ?_
  refine lv_iload_n hx hb dL_poke_6 rfl (lv_at hl 3 rfl) ?_
  refine k_cVi (As := [.int x0, .int x1, .int x2]) (rest := [.int 0, .ref h1]) (wc := [(h0, .inr (11, f0)), (h2, .inr (1, f1)), (h3, .inl (cB, 25600, .inl g0))]) (wr := [(h1, .inl (cJ, 1, .inr (.inl g1)))]) (w1 := [(h0, .inr (11, f0)), (h2, .inr (1, f1)), (h3, .inl (cB, 25600, .inl (upd g0 (Int32.toNatClampNeg (((x0 - 1) * 256) + x1)) (vp_nar .byte (Int8.toInt32 (Int32.toInt8 (0 ^^^ (Int8.toInt32 (Int32.toInt8 x2)))))))))]) ⟨hx, hb, hml, hown, hts⟩ hN hX hAE hK hP hD hS hA [0, 1, 2] [3] (ci := 11) rfl rfl rfl rfl (by decide +kernel) (by decide +kernel) (by decide +kernel) (c_X11_poke_0 l E D cI cJ cB cZ h0 x0 x1 x2 f0 h2 f1 h3 g0 e3 e4 e5 e6 e0 e1 e2 e7) (cwV 3 hts gL_poke_X11_poke rfl rfl rfl (by decide +kernel) ⟨Nat.le_of_ble_eq_true rfl, Nat.le_of_ble_eq_true rfl⟩) rfl hl.1 (Nat.le_of_ble_eq_true rfl) dL_poke_7 ⟨Nat.le_of_ble_eq_true rfl, Nat.le_of_ble_eq_true rfl⟩ (fun H locs hP hD hS => ?_)
  have hP : va_P D vwCl [(h1, .inl (cJ, 1, .inr (.inl g1))), (h0, .inr (11, f0)), (h2, .inr (1, f1)), (h3, .inl (cB, 25600, .inl (upd g0 (Int32.toNatClampNeg (((x0 - 1) * 256) + x1)) (vp_nar .byte (Int8.toInt32 (Int32.toInt8 (0 ^^^ (Int8.toInt32 (Int32.toInt8 x2)))))))))] H := hP
  have hD : va_D A [(h1, .inl (cJ, 1, .inr (.inl g1))), (h0, .inr (11, f0)), (h2, .inr (1, f1)), (h3, .inl (cB, 25600, .inl (upd g0 (Int32.toNatClampNeg (((x0 - 1) * 256) + x1)) (vp_nar .byte (Int8.toInt32 (Int32.toInt8 (0 ^^^ (Int8.toInt32 (Int32.toInt8 x2)))))))))] := hD
  refine lv_i2l (v := (Int32.toInt64 ((vp_nar .byte (Int8.toInt32 (Int32.toInt8 (0 ^^^ (Int8.toInt32 (Int32.toInt8 x2)))))) &&& 255))) hx hb dL_poke_10 rfl ?_
  refine va_last hx hb hK hP hD hS 0 1 rfl rfl (k_in (by decide)) dL_poke_11 (fun H locs hP hD hS => ?_)
  have hP : va_P D vwCl [(h1, .inl (cJ, 1, .inr (.inl (vp_updL g1 0 (Int32.toInt64 ((vp_nar .byte (Int8.toInt32 (Int32.toInt8 (0 ^^^ (Int8.toInt32 (Int32.toInt8 x2)))))) &&& 255)))))), (h0, .inr (11, f0)), (h2, .inr (1, f1)), (h3, .inl (cB, 25600, .inl (upd g0 (Int32.toNatClampNeg (((x0 - 1) * 256) + x1)) (vp_nar .byte (Int8.toInt32 (Int32.toInt8 (0 ^^^ (Int8.toInt32 (Int32.toInt8 x2)))))))))] H := hP
  have hD : va_D A [(h1, .inl (cJ, 1, .inr (.inl (vp_updL g1 0 (Int32.toInt64 ((vp_nar .byte (Int8.toInt32 (Int32.toInt8 (0 ^^^ (Int8.toInt32 (Int32.toInt8 x2)))))) &&& 255)))))), (h0, .inr (11, f0)), (h2, .inr (1, f1)), (h3, .inl (cB, 25600, .inl (upd g0 (Int32.toNatClampNeg (((x0 - 1) * 256) + x1)) (vp_nar .byte (Int8.toInt32 (Int32.toInt8 (0 ^^^ (Int8.toInt32 (Int32.toInt8 x2)))))))))] := hD
  refine lv_goto (tgt := 19) hx hb dL_poke_12 (by decide) ?_
  refine lv_iconst (v := 0) hx hb dL_poke_19 (by decide) ?_
  have hP := hP.sub (ws' := [(h0, .inr (11, f0)), (h2, .inr (1, f1)), (h3, .inl (cB, 25600, .inl (upd g0 (Int32.toNatClampNeg (((x0 - 1) * 256) + x1)) (vp_nar .byte (Int8.toInt32 (Int32.toInt8 (0 ^^^ (Int8.toInt32 (Int32.toInt8 x2))))))))), (h1, .inl (cJ, 1, .inr (.inl (vp_updL g1 0 (Int32.toInt64 ((vp_nar .byte (Int8.toInt32 (Int32.toInt8 (0 ^^^ (Int8.toInt32 (Int32.toInt8 x2)))))) &&& 255))))))]) [1, 2, 3, 0] rfl
  have hD := hD.sub (ws' := [(h0, .inr (11, f0)), (h2, .inr (1, f1)), (h3, .inl (cB, 25600, .inl (upd g0 (Int32.toNatClampNeg (((x0 - 1) * 256) + x1)) (vp_nar .byte (Int8.toInt32 (Int32.toInt8 (0 ^^^ (Int8.toInt32 (Int32.toInt8 x2))))))))), (h1, .inl (cJ, 1, .inr (.inl (vp_updL g1 0 (Int32.toInt64 ((vp_nar .byte (Int8.toInt32 (Int32.toInt8 (0 ^^^ (Int8.toInt32 (Int32.toInt8 x2)))))) &&& 255))))))]) [1, 2, 3, 0] (by decide +kernel) rfl
  exact W.iret (v := 0) hx hb hr (fun t ht hW => ⟨⟨0, (), rfl, rfl, kB_mk ht hW hP hK hD⟩, hS.F ht⟩) hS.2.2 dL_poke_20
set_option maxHeartbeats 400000000 in
set_option maxRecDepth 100000 in
theorem c_X12_at_1 (l : Launch) (E : kE) (D : va_G) (cI cJ cB cZ : ClassId) (h0 : Nat) (x0 : Int32) (x1 : Int32) (f0 : List Value) (h1 : Nat) (g0 : Nat → Int32) (x2 : Int32) (e0 : f0[3]? = some (.ref h1)) (e1 : vp_in ((256 * x0) + x1) 25856) (e2 : g0 (Int32.toNatClampNeg ((256 * x0) + x1)) = x2) : kI l E D (kT cI cJ cB cZ) yX12_at wsX12_at ({ frames := 0, cells := 0, slots := 0, locals := 0 }) [.ref h0, .int x0, .int x1] [(h0, .inr (12, f0)), (h1, .inl (cB, 25856, .inl g0))] ((x2 &&& 255)) [(h0, .inr (12, f0)), (h1, .inl (cB, 25856, .inl g0))] 0 0 := by
  intro sz
  refine Met.ofW (cc := cX12_at) (maxL := 3) (ret := (some .int)) (by decide) rfl ?_
  intro p e s m args below meth c s₁ B hml hv
  obtain ⟨rfl, hsz, hP, hK, hD0, hN, hX⟩ := hv
  have hx := B.exec
  have hb := B.bytes
  have hr := B.returns
  have hts := atoms_spec (ws := wsX12_at) B.pre
  have hown : s.vm.findClass RX12 = some m.cls := findClass_of_methodNamed B.named
  have hlocks := B.notSynchronized
  have hin12 : ∀ w ∈ wsX120, w ∈ wsX12_at := (fun w h => (List.mem_cons_of_mem _ (List.mem_append_right _ h)))
  subst hsz
  have hD := hD0.self (sz := s.heap.size)
  have hAE := k_AE hD0 hX
  generalize hAe : va_A [(h0, .inr (12, f0)), (h1, .inl (cB, 25856, .inl g0))] s.heap.size = A at hD hAE ⊢
  have hA : ∀ q : Nat, s.heap.size ≤ q → A q := fun q h => by rw [← hAe]; exact Or.inr h
  have hS : va_S A s.heap s.heap [] := va_S.rf
  have hP : va_P D vwCl [(h0, .inr (12, f0)), (h1, .inl (cB, 25856, .inl g0))] s.heap := hP
  have hl := lv_entry ([.ref h0, .int x0, .int x1] : List Value) (n := 3) (Nat.le_of_ble_eq_true rfl)
  rw [lg_entry_eq]
  generalize (lg_sl ([.ref h0, .int x0, .int x1]) ++ List.replicate (3 - (lg_sl ([.ref h0, .int x0, .int x1])).length) Slot.unset).toArray = ls at hl ⊢
  have hl : lv_has ls 3 [(0, .ref h0), (1, .int x0), (2, .int x1)] := hl
  refine lv_aload_n hx hb dX12_at_0 rfl (lv_at hl 0 rfl) ?_
  refine va_get (D := D) (ref := "IntegerHouseModel") (ci := 12) (v := .ref h1) (C := RX12) (T := TX12) (N := 195) hx hb hts hin12 hown hK hP 0 rfl rfl 3 (by decide) (hts (.fieldLink RX12 19 "IntegerHouseModel" "disk" "[B") (List.mem_cons_of_mem _ (List.mem_append_left _ (List.mem_of_getElem? (i := 0) rfl)))) (fun _ h9 => h9) e0 dX12_at_1 ?_
  refine lv_sipush (v := 256) hx hb dX12_at_4 (by decide) ?_
  refine lv_iload_n hx hb dX12_at_7 rfl (lv_at hl 1 rfl) ?_
  refine lv_imul hx hb dX12_at_8 ?_
  refine lv_iload_n hx hb dX12_at_9 rfl (lv_at hl 2 rfl) ?_
  refine lv_iadd hx hb dX12_at_10 ?_
  refine va_bald hx hb hK hP 1 2 rfl rfl e1 dX12_at_11 ?_
  refine k_topi (y := x2) e2 ?_
  refine lv_sipush (v := 255) hx hb dX12_at_12 (by decide) ?_
  refine lv_iand hx hb dX12_at_15 ?_
  exact W.iret (v := (x2 &&& 255)) hx hb hr (fun t ht hW => ⟨⟨(x2 &&& 255), (), rfl, rfl, kB_mk ht hW hP hK hD⟩, hS.F ht⟩) hS.2.2 dX12_at_16
set_option maxHeartbeats 400000000 in
set_option maxRecDepth 100000 in
theorem c_X12_poke_0 (l : Launch) (E : kE) (D : va_G) (cI cJ cB cZ : ClassId) (h0 : Nat) (x0 : Int32) (x1 : Int32) (x2 : Int32) (f0 : List Value) (h1 : Nat) (g0 : Nat → Int32) (e0 : ¬ ((x0 : Int32) < 1)) (e1 : (x0 : Int32) < 101) (e2 : ¬ ((x1 : Int32) < 0)) (e3 : (x1 : Int32) < 256) (e4 : f0[0]? = some (.int 0)) (e5 : f0[3]? = some (.ref h1)) (e6 : vp_in ((256 * x0) + x1) 25856) (e7 : g0 (Int32.toNatClampNeg ((256 * x0) + x1)) = 0) : kI l E D (kT cI cJ cB cZ) yX12_poke wsX12_poke ({ frames := 1, cells := 0, slots := 0, locals := 25 }) [.ref h0, .int x0, .int x1, .int x2] [(h0, .inr (12, f0)), (h1, .inl (cB, 25856, .inl g0))] (((vp_nar .byte (Int8.toInt32 (Int32.toInt8 (0 ^^^ x2)))) &&& 255)) [(h0, .inr (12, (f0.set 0 (.int 0)))), (h1, .inl (cB, 25856, .inl (upd g0 (Int32.toNatClampNeg ((256 * x0) + x1)) (vp_nar .byte (Int8.toInt32 (Int32.toInt8 (0 ^^^ x2)))))))] 0 0 := by
  intro sz
  refine Met.ofW (cc := cX12_poke) (maxL := 4) (ret := (some .int)) (by decide) rfl ?_
  intro p e s m args below meth c s₁ B hml hv
  obtain ⟨rfl, hsz, hP, hK, hD0, hN, hX⟩ := hv
  have hx := B.exec
  have hb := B.bytes
  have hr := B.returns
  have hts := atoms_spec (ws := wsX12_poke) B.pre
  have hown : s.vm.findClass RX12 = some m.cls := findClass_of_methodNamed B.named
  have hlocks := B.notSynchronized
  have hin12 : ∀ w ∈ wsX120, w ∈ wsX12_poke := (fun w h => (List.mem_cons_of_mem _ (List.mem_append_right _ h)))
  subst hsz
  have hD := hD0.self (sz := s.heap.size)
  have hAE := k_AE hD0 hX
  generalize hAe : va_A [(h0, .inr (12, f0)), (h1, .inl (cB, 25856, .inl g0))] s.heap.size = A at hD hAE ⊢
  have hA : ∀ q : Nat, s.heap.size ≤ q → A q := fun q h => by rw [← hAe]; exact Or.inr h
  have hS : va_S A s.heap s.heap [] := va_S.rf
  have hP : va_P D vwCl [(h0, .inr (12, f0)), (h1, .inl (cB, 25856, .inl g0))] s.heap := hP
  have hl := lv_entry ([.ref h0, .int x0, .int x1, .int x2] : List Value) (n := 4) (Nat.le_of_ble_eq_true rfl)
  rw [lg_entry_eq]
  generalize (lg_sl ([.ref h0, .int x0, .int x1, .int x2]) ++ List.replicate (4 - (lg_sl ([.ref h0, .int x0, .int x1, .int x2])).length) Slot.unset).toArray = ls at hl ⊢
  have hl : lv_has ls 4 [(0, .ref h0), (1, .int x0), (2, .int x1), (3, .int x2)] := hl
  refine lv_aload_n hx hb dX12_poke_0 rfl (lv_at hl 0 rfl) ?_
  refine lv_iload_n hx hb dX12_poke_1 rfl (lv_at hl 1 rfl) ?_
  refine lv_i2l (v := (Int32.toInt64 x0)) hx hb dX12_poke_2 rfl ?_
  refine lv_lconst (v := 1) hx hb dX12_poke_3 (by decide) ?_
  refine lv_ldc2 (own := RX12) (index := 560) (v := 100) hx hb hown (hts (.constantLong RX12 560 (100)) (List.mem_cons_of_mem _ (List.mem_append_left _ (List.mem_of_getElem? (i := 0) rfl)))) dX12_poke_4 ?_
  refine k_cSi (As := [.long (Int32.toInt64 x0), .long 1, .long 100]) (rest := [.ref h0]) (wc := []) (wr := [(h0, .inr (12, f0)), (h1, .inl (cB, 25856, .inl g0))]) (w1 := []) ⟨hx, hb, hml, hown, hts⟩ hN hX hAE hK hP hD hS hA [] [0, 1] rfl rfl (by decide +kernel) (by decide +kernel) (by decide +kernel) (c_X12_in_9 l E D cI cJ cB cZ (Int32.toInt64 x0) (fun z9 => e0 ((k_n4 (x := x0) (c := 1) (C := 1) (by decide)).mp z9)) (fun z9 => (k_n5 (x := x0) (c := 100) (d := 101) (C := 100) (by decide) (by decide)).mp z9 e1)) (va_cwS 3 hts gX12_poke_X12_in rfl rfl rfl (by decide +kernel) ⟨Nat.le_of_ble_eq_true rfl, Nat.le_of_ble_eq_true rfl⟩) rfl hl.1 (Nat.le_of_ble_eq_true rfl) dX12_poke_7 ⟨Nat.le_of_ble_eq_true rfl, Nat.le_of_ble_eq_true rfl⟩ (fun H locs hP hD hS => ?_)
  have hP : va_P D vwCl [(h0, .inr (12, f0)), (h1, .inl (cB, 25856, .inl g0))] H := hP
  have hD : va_D A [(h0, .inr (12, f0)), (h1, .inl (cB, 25856, .inl g0))] := hD
  refine lv_if_eq (tgt := 29) hx hb dX12_poke_10 (by decide) (fun c9 => absurd c9 (by decide)) (fun _ => ?_)
  refine lv_iload_n hx hb dX12_poke_13 rfl (lv_at hl 2 rfl) ?_
  refine lv_i2l (v := (Int32.toInt64 x1)) hx hb dX12_poke_14 rfl ?_
  refine lv_lconst (v := 0) hx hb dX12_poke_15 (by decide) ?_
  refine lv_ldc2 (own := RX12) (index := 530) (v := 255) hx hb hown (hts (.constantLong RX12 530 (255)) (List.mem_cons_of_mem _ (List.mem_append_left _ (List.mem_of_getElem? (i := 1) rfl)))) dX12_poke_16 ?_
  refine k_cSi (As := [.long (Int32.toInt64 x1), .long 0, .long 255]) (rest := [.ref h0]) (wc := []) (wr := [(h0, .inr (12, f0)), (h1, .inl (cB, 25856, .inl g0))]) (w1 := []) ⟨hx, hb, hml, hown, hts⟩ hN hX hAE hK hP hD hS hA [] [0, 1] rfl rfl (by decide +kernel) (by decide +kernel) (by decide +kernel) (c_X12_in_4 l E D cI cJ cB cZ (Int32.toInt64 x1) (fun z9 => e2 ((k_n4 (x := x1) (c := 0) (C := 0) (by decide)).mp z9)) (fun z9 => (k_n5 (x := x1) (c := 255) (d := 256) (C := 255) (by decide) (by decide)).mp z9 e3)) (va_cwS 3 hts gX12_poke_X12_in rfl rfl rfl (by decide +kernel) ⟨Nat.le_of_ble_eq_true rfl, Nat.le_of_ble_eq_true rfl⟩) rfl hl.1 (Nat.le_of_ble_eq_true rfl) dX12_poke_19 ⟨Nat.le_of_ble_eq_true rfl, Nat.le_of_ble_eq_true rfl⟩ (fun H locs hP hD hS => ?_)
  have hP : va_P D vwCl [(h0, .inr (12, f0)), (h1, .inl (cB, 25856, .inl g0))] H := hP
  have hD : va_D A [(h0, .inr (12, f0)), (h1, .inl (cB, 25856, .inl g0))] := hD
  refine lv_if_eq (tgt := 29) hx hb dX12_poke_22 (by decide) (fun c9 => absurd c9 (by decide)) (fun _ => ?_)
  refine lv_iconst (v := 0) hx hb dX12_poke_25 (by decide) ?_
  refine lv_goto (tgt := 30) hx hb dX12_poke_26 (by decide) ?_
  refine va_put (D := D) (ref := "IntegerHouseModel") (ci := 12) (v := .int 0) (ty := .int) (C := RX12) (T := TX12) (N := 195) hx hb hts hin12 tyX12 tyX12_ok nmX12 hown hK hP hD hS 0 rfl rfl 0 (by decide) (hts (.fieldLink RX12 3 "IntegerHouseModel" "thrown" "I") (List.mem_cons_of_mem _ (List.mem_append_left _ (List.mem_of_getElem? (i := 2) rfl)))) (fun _ h9 => h9) rfl (by decide +kernel) rfl rfl (k_len e4) dX12_poke_30 (fun H locs hP hD hS => ?_)
  have hP : va_P D vwCl [(h0, .inr (12, (f0.set 0 (.int 0)))), (h1, .inl (cB, 25856, .inl g0))] H := hP
  have hD : va_D A [(h0, .inr (12, (f0.set 0 (.int 0)))), (h1, .inl (cB, 25856, .inl g0))] := hD
  refine lv_aload_n hx hb dX12_poke_33 rfl (lv_at hl 0 rfl) ?_
  refine va_get (D := D) (ref := "IntegerHouseModel") (ci := 12) (v := .int 0) (C := RX12) (T := TX12) (N := 195) hx hb hts hin12 hown hK hP 0 rfl rfl 0 (by decide) (hts (.fieldLink RX12 3 "IntegerHouseModel" "thrown" "I") (List.mem_cons_of_mem _ (List.mem_append_left _ (List.mem_of_getElem? (i := 2) rfl)))) (fun _ h9 => h9) (k_set e4) dX12_poke_34 ?_
  refine lv_if_le (tgt := 42) hx hb dX12_poke_37 (by decide) (fun _ => ?_) (fun c9 => absurd (by decide) c9)
  refine lv_aload_n hx hb dX12_poke_42 rfl (lv_at hl 0 rfl) ?_
  refine va_get (D := D) (ref := "IntegerHouseModel") (ci := 12) (v := .ref h1) (C := RX12) (T := TX12) (N := 195) hx hb hts hin12 hown hK hP 0 rfl rfl 3 (by decide) (hts (.fieldLink RX12 19 "IntegerHouseModel" "disk" "[B") (List.mem_cons_of_mem _ (List.mem_append_left _ (List.mem_of_getElem? (i := 3) rfl)))) (fun _ h9 => h9) (k_ne (by decide) e5) dX12_poke_43 ?_
  refine lv_sipush (v := 256) hx hb dX12_poke_46 (by decide) ?_
  refine lv_iload_n hx hb dX12_poke_49 rfl (lv_at hl 1 rfl) ?_
  refine lv_imul hx hb dX12_poke_50 ?_
  refine lv_iload_n hx hb dX12_poke_51 rfl (lv_at hl 2 rfl) ?_
  refine lv_iadd hx hb dX12_poke_52 ?_
  refine lv_aload_n hx hb dX12_poke_53 rfl (lv_at hl 0 rfl) ?_
  refine va_get (D := D) (ref := "IntegerHouseModel") (ci := 12) (v := .ref h1) (C := RX12) (T := TX12) (N := 195) hx hb hts hin12 hown hK hP 0 rfl rfl 3 (by decide) (hts (.fieldLink RX12 19 "IntegerHouseModel" "disk" "[B") (List.mem_cons_of_mem _ (List.mem_append_left _ (List.mem_of_getElem? (i := 3) rfl)))) (fun _ h9 => h9) (k_ne (by decide) e5) dX12_poke_54 ?_
  refine lv_sipush (v := 256) hx hb dX12_poke_57 (by decide) ?_
  refine lv_iload_n hx hb dX12_poke_60 rfl (lv_at hl 1 rfl) ?_
  refine lv_imul hx hb dX12_poke_61 ?_
  refine lv_iload_n hx hb dX12_poke_62 rfl (lv_at hl 2 rfl) ?_
  refine lv_iadd hx hb dX12_poke_63 ?_
  refine va_bald hx hb hK hP 1 2 rfl rfl e6 dX12_poke_64 ?_
  refine k_topi (y := 0) e7 ?_
  refine lv_iload_n hx hb dX12_poke_65 rfl (lv_at hl 3 rfl) ?_
  refine lv_ixor hx hb dX12_poke_66 ?_
  refine lv_i2b (v := (Int8.toInt32 (Int32.toInt8 (0 ^^^ x2)))) hx hb dX12_poke_67 rfl ?_
  refine va_bast hx hb hK hP hD hS 1 2 rfl rfl e6 dX12_poke_68 (fun H locs hP hD hS => ?_)
  have hP : va_P D vwCl [(h0, .inr (12, (f0.set 0 (.int 0)))), (h1, .inl (cB, 25856, .inl (upd g0 (Int32.toNatClampNeg ((256 * x0) + x1)) (vp_nar .byte (Int8.toInt32 (Int32.toInt8 (0 ^^^ x2)))))))] H := hP
  have hD : va_D A [(h0, .inr (12, (f0.set 0 (.int 0)))), (h1, .inl (cB, 25856, .inl (upd g0 (Int32.toNatClampNeg ((256 * x0) + x1)) (vp_nar .byte (Int8.toInt32 (Int32.toInt8 (0 ^^^ x2)))))))] := hD
  refine lv_aload_n hx hb dX12_poke_69 rfl (lv_at hl 0 rfl) ?_
  refine lv_iload_n hx hb dX12_poke_70 rfl (lv_at hl 1 rfl) ?_
  refine lv_iload_n hx hb dX12_poke_71 rfl (lv_at hl 2 rfl) ?_
  refine k_cVi (As := [.int x0, .int x1]) (rest := []) (wc := [(h0, .inr (12, (f0.set 0 (.int 0)))), (h1, .inl (cB, 25856, .inl (upd g0 (Int32.toNatClampNeg ((256 * x0) + x1)) (vp_nar .byte (Int8.toInt32 (Int32.toInt8 (0 ^^^ x2)))))))]) (wr := []) (w1 := [(h0, .inr (12, (f0.set 0 (.int 0)))), (h1, .inl (cB, 25856, .inl (upd g0 (Int32.toNatClampNeg ((256 * x0) + x1)) (vp_nar .byte (Int8.toInt32 (Int32.toInt8 (0 ^^^ x2)))))))]) ⟨hx, hb, hml, hown, hts⟩ hN hX hAE hK hP hD hS hA [0, 1] [] (ci := 12) rfl rfl rfl rfl (by decide +kernel) (by decide +kernel) (by decide +kernel) (c_X12_at_1 l E D cI cJ cB cZ h0 x0 x1 ((f0.set 0 (.int 0))) h1 ((upd g0 (Int32.toNatClampNeg ((256 * x0) + x1)) (vp_nar .byte (Int8.toInt32 (Int32.toInt8 (0 ^^^ x2)))))) (vp_nar .byte (Int8.toInt32 (Int32.toInt8 (0 ^^^ x2)))) (k_ne (by decide) e5) e6 (if_pos rfl)) (cwV 2 hts gX12_poke_X12_at rfl rfl rfl (by decide +kernel) ⟨Nat.le_of_ble_eq_true rfl, Nat.le_of_ble_eq_true rfl⟩) rfl hl.1 (Nat.le_of_ble_eq_true rfl) dX12_poke_72 ⟨Nat.le_of_ble_eq_true rfl, Nat.le_of_ble_eq_true rfl⟩ (fun H locs hP hD hS => ?_)
  have hP : va_P D vwCl [(h0, .inr (12, (f0.set 0 (.int 0)))), (h1, .inl (cB, 25856, .inl (upd g0 (Int32.toNatClampNeg ((256 * x0) + x1)) (vp_nar .byte (Int8.toInt32 (Int32.toInt8 (0 ^^^ x2)))))))] H := hP
  have hD : va_D A [(h0, .inr (12, (f0.set 0 (.int 0)))), (h1, .inl (cB, 25856, .inl (upd g0 (Int32.toNatClampNeg ((256 * x0) + x1)) (vp_nar .byte (Int8.toInt32 (Int32.toInt8 (0 ^^^ x2)))))))] := hD
  exact W.iret (v := ((vp_nar .byte (Int8.toInt32 (Int32.toInt8 (0 ^^^ x2)))) &&& 255)) hx hb hr (fun t ht hW => ⟨⟨((vp_nar .byte (Int8.toInt32 (Int32.toInt8 (0 ^^^ x2)))) &&& 255), (), rfl, rfl, kB_mk ht hW hP hK hD⟩, hS.F ht⟩) hS.2.2 dX12_poke_75
set_option maxHeartbeats 400000000 in
set_option maxRecDepth 100000 in
theorem c_X11_poke_1 (l : Launch) (E : kE) (D : va_G) (cI cJ cB cZ : ClassId) (h0 : Nat) (x0 : Int32) (x1 : Int32) (x2 : Int32) (e0 : (x0 : Int32) < 1) (hl9 : l.stackTraces = false) : kTI l E D (kT cI cJ cB cZ) yX11_poke wsX11_poke ({ frames := 6, cells := 1, slots := 6, locals := 82 }) [.ref h0, .int x0, .int x1, .int x2] [] "java/lang/IndexOutOfBoundsException" 1 6 := by
  intro sz
  refine vx_ofW (cc := cX11_poke) (maxL := 4) (ret := (some .int)) (by decide) rfl ?_
  intro p e s m args below meth c s₁ B hml ht9 hv
  obtain ⟨rfl, hsz, hP, hK, hD0, hN, hX⟩ := hv
  have hx := B.exec
  have hb := B.bytes
  have hr := B.returns
  have hts := atoms_spec (ws := wsX11_poke) B.pre
  have hown : s.vm.findClass RX11 = some m.cls := findClass_of_methodNamed B.named
  have hlocks := B.notSynchronized
  subst hsz
  have hD := hD0.self (sz := s.heap.size)
  have hAE := k_AE hD0 hX
  generalize hAe : va_A [] s.heap.size = A at hD hAE ⊢
  have hA : ∀ q : Nat, s.heap.size ≤ q → A q := fun q h => by rw [← hAe]; exact Or.inr h
  have hS : va_S A s.heap s.heap [] := va_S.rf
  have hP : va_P D vwCl [] s.heap := hP
  have hl := lv_entry ([.ref h0, .int x0, .int x1, .int x2] : List Value) (n := 4) (Nat.le_of_ble_eq_true rfl)
  rw [lg_entry_eq]
  generalize (lg_sl ([.ref h0, .int x0, .int x1, .int x2]) ++ List.replicate (4 - (lg_sl ([.ref h0, .int x0, .int x1, .int x2])).length) Slot.unset).toArray = ls at hl ⊢
  have hl : lv_has ls 4 [(0, .ref h0), (1, .int x0), (2, .int x1), (3, .int x2)] := hl
  refine lv_iload_n hx hb dX11_poke_0 rfl (lv_at hl 1 rfl) ?_
  refine lv_iload_n hx hb dX11_poke_1 rfl (lv_at hl 2 rfl) ?_
  refine k_cSi (As := [.int x0, .int x1]) (rest := []) (wc := []) (wr := []) (w1 := []) ⟨hx, hb, hml, hown, hts⟩ hN hX hAE hK hP hD hS hA [] [] rfl rfl (by decide +kernel) (by decide +kernel) (by decide +kernel) (c_X1_isByte_1 l E D cI cJ cB cZ x0 x1 e0) (va_cwS 2 hts gX11_poke_X1_isByte rfl rfl rfl (by decide +kernel) ⟨Nat.le_of_ble_eq_true rfl, Nat.le_of_ble_eq_true rfl⟩) rfl hl.1 (Nat.le_of_ble_eq_true rfl) dX11_poke_2 ⟨Nat.le_of_ble_eq_true rfl, Nat.le_of_ble_eq_true rfl⟩ (fun H locs hP hD hS => ?_)
  have hP : va_P D vwCl [] H := hP
  have hD : va_D A [] := hD
  refine lv_if_ne (tgt := 18) hx hb dX11_poke_5 (by decide) (fun c9 => absurd (by decide) c9) (fun _ => ?_)
  obtain ⟨a9, a9r, a9o⟩ := kX.st hX hAE ("IntegerHouse", 199, "no such byte of a block") (List.mem_of_getElem? (i := 5) rfl)
  exact vx_throwS (names := ["java/lang/RuntimeException", "java/lang/Exception"]) (A := A) hx hb hl9 hown (by decide +kernel) (by decide +kernel) (hts (.classLink RX11 197 "java/lang/IndexOutOfBoundsException") (List.mem_cons_of_mem _ (List.mem_append_left _ (List.mem_append_left _ (List.mem_append_left _ (List.mem_of_getElem? (i := 0) rfl)))))) (hts (.initialized "java/lang/IndexOutOfBoundsException") (List.mem_cons_of_mem _ (List.mem_append_left _ (List.mem_append_left _ (List.mem_append_left _ (List.mem_of_getElem? (i := 1) rfl)))))) a9r (vx_hat (L := vx_atS RX11 201 "java/lang/IndexOutOfBoundsException" ["java/lang/RuntimeException", "java/lang/Exception"]) (B := [.castable "java/lang/IndexOutOfBoundsException" "java/lang/IndexOutOfBoundsException", .declares (Bundle.initS "java/lang/RuntimeException"), .declares (Bundle.initS "java/lang/Exception"), .declares (Bundle.initS "java/lang/Throwable")]) (fun w h => hts w (List.mem_cons_of_mem _ (List.mem_append_right _ h))) (by decide +kernel) (vx_c (va_Nw.use rfl (kX.cast hX "java/lang/IndexOutOfBoundsException" (by decide))) (vx_c (va_Nw.use rfl (kX.decl hX "java/lang/RuntimeException" (by decide))) (vx_c (va_Nw.use rfl (kX.decl hX "java/lang/Exception" (by decide))) (vx_c (va_Nw.use rfl (kX.decl hX "java/lang/Throwable" (by decide))) vx_n))))) (by decide +kernel) (kX.us hX hAE) (kX.ss hX hAE) hS (by rw [hml]; exact hl.1) dX11_poke_8 dX11_poke_11 dX11_poke_12 dX11_poke_14 dX11_poke_17 (fun x hx => (ht9 x hx).elim) (Nat.le_of_ble_eq_true rfl) (Nat.le_of_ble_eq_true rfl) (Nat.le_of_ble_eq_true rfl) (Nat.le_of_ble_eq_true rfl) hlocks (fun t h1 h2 h3 => k_tx hP hK hD hS t h1 h2 h3) hS.2.2 (Nat.le_of_ble_eq_true rfl) (Nat.le_of_ble_eq_true rfl)
set_option maxHeartbeats 400000000 in
set_option maxRecDepth 100000 in
theorem c_L_poke_1 (l : Launch) (E : kE) (D : va_G) (cI cJ cB cZ : ClassId) (h0 : Nat) (x0 : Int32) (x1 : Int32) (x2 : Int32) (h1 : Nat) (e0 : (x0 : Int32) < 1) (hl9 : l.stackTraces = false) : kI l E D (kT cI cJ cB cZ) yL_poke wsL_poke ({ frames := 7, cells := 1, slots := 6, locals := 105 }) [.ref h0, .int x0, .int x1, .int x2, .ref h1] [] (1) [] 1 6 := by
  intro sz
  refine k_metH (cc := cL_poke) (maxL := 6) (ret := (some .int)) (hh := [(0, 12, 15, 25)]) (by decide) rfl ?_
  intro p e s m args below meth c s₁ B hml hv
  obtain ⟨rfl, hsz, hP, hK, hD0, hN, hX⟩ := hv
  have hx := B.exec
  have hb := B.bytes
  have hr := B.returns
  have hts := atoms_spec (ws := wsL_poke) B.pre
  have hown : s.vm.findClass RL = some m.cls := findClass_of_methodNamed B.named
  have hlocks := B.notSynchronized
  subst hsz
  have hD := hD0.self (sz := s.heap.size)
  have hAE := k_AE hD0 hX
  generalize hAe : va_A [] s.heap.size = A at hD hAE ⊢
  have hA : ∀ q : Nat, s.heap.size ≤ q → A q := fun q h => by rw [← hAe]; exact Or.inr h
  have hS : va_S A s.heap s.heap [] := va_S.rf
  have hP : va_P D vwCl [] s.heap := hP
  have hl := lv_entry ([.ref h0, .int x0, .int x1, .int x2, .ref h1] : List Value) (n := 6) (Nat.le_of_ble_eq_true rfl)
  rw [lg_entry_eq]
  generalize (lg_sl ([.ref h0, .int x0, .int x1, .int x2, .ref h1]) ++ List.replicate (6 - (lg_sl ([.ref h0, .int x0, .int x1, .int x2, .ref h1])).length) Slot.unset).toArray = ls at hl ⊢
  have hl : lv_has ls 6 [(0, .ref h0), (1, .int x0), (2, .int x1), (3, .int x2), (4, .ref h1)] := hl
  refine lv_aload hx hb dL_poke_0 (lv_at hl 4 rfl) ?_
  refine lv_iconst (v := 0) hx hb dL_poke_2 (by decide) ?_
  refine lv_aload_n hx hb dL_poke_3 rfl (lv_at hl 0 rfl) ?_
  refine lv_iload_n hx hb dL_poke_4 rfl (lv_at hl 1 rfl) ?_
  refine lv_iload_n hx hb dL_poke_5 rfl (lv_at hl 2 rfl) ?_
  refine lv_iload_n hx hb dL_poke_6 rfl (lv_at hl 3 rfl) ?_
  refine k_cTi (As := [.int x0, .int x1, .int x2]) (rest := [.int 0, .ref h1]) (wc := []) (wr := []) ⟨hx, hb, hml, hown, hts⟩ hN hX hAE hK hP hD hS hA [] [] (ci := 11) rfl rfl rfl rfl (by decide +kernel) (by decide +kernel) (by decide +kernel) (c_X11_poke_1 l E D cI cJ cB cZ h0 x0 x1 x2 e0 hl9) (cwV 3 hts gL_poke_X11_poke rfl rfl rfl (by decide +kernel) ⟨Nat.le_of_ble_eq_true rfl, Nat.le_of_ble_eq_true rfl⟩) rfl hl.1 (Nat.le_of_ble_eq_true rfl) dL_poke_7 ⟨Nat.le_of_ble_eq_true rfl, Nat.le_of_ble_eq_true rfl⟩ (fun q9 ce H locs hP hD hS hce hcv hcl => ?_)
  have hP : va_P D vwCl [] H := hP
  have hD : va_D A [] := hD
  refine vx_catch (own := RL) (name := "java/lang/IndexOutOfBoundsException") hown [] ⟨0, 12, 15, 25⟩ [] (vx_table B (hts _ List.mem_cons_self)) (fun z hz => absurd hz List.not_mem_nil) (by decide) (by decide) (hts (.classLink RL 25 "java/lang/IndexOutOfBoundsException") (List.mem_cons_of_mem _ (List.mem_append_left _ (List.mem_append_left _ (List.mem_append_left _ (List.mem_of_getElem? (i := 0) rfl)))))) (va_Nw.use rfl (kX.cast hX "java/lang/IndexOutOfBoundsException" (by decide))) hce hcv hcl ?_
  refine W.eq (g2 := F0 m 15 ls [.ref q9]) rfl ?_
  refine W.widen (k := 1) (n := 6) (Nat.le_of_ble_eq_true rfl) (Nat.le_of_ble_eq_true rfl) ?_
  refine lv_astore (lv' := [(5, .ref q9), (0, .ref h0), (1, .int x0), (2, .int x1), (3, .int x2), (4, .ref h1)]) hx hb dL_poke_15 hl (by decide) rfl (fun ls hl => ?_)
  refine lv_iconst (v := 1) hx hb dL_poke_17 (by decide) ?_
  exact W.iret (v := 1) hx hb hr (fun t ht hW => ⟨⟨1, (), rfl, rfl, kB_mk ht hW hP hK hD⟩, hS.F ht⟩) hS.2.2 dL_poke_18
set_option maxHeartbeats 400000000 in
set_option maxRecDepth 100000 in
theorem c_X12_poke_1 (l : Launch) (E : kE) (D : va_G) (cI cJ cB cZ : ClassId) (h0 : Nat) (x0 : Int32) (x1 : Int32) (x2 : Int32) (f0 : List Value) (e0 : (x0 : Int32) < 1) (e1 : f0[0]? = some (.int 0)) : kI l E D (kT cI cJ cB cZ) yX12_poke wsX12_poke ({ frames := 1, cells := 0, slots := 0, locals := 25 }) [.ref h0, .int x0, .int x1, .int x2] [(h0, .inr (12, f0))] (0) [(h0, .inr (12, (f0.set 0 (.int 1))))] 0 0 := by
  intro sz
  refine Met.ofW (cc := cX12_poke) (maxL := 4) (ret := (some .int)) (by decide) rfl ?_
  intro p e s m args below meth c s₁ B hml hv
  obtain ⟨rfl, hsz, hP, hK, hD0, hN, hX⟩ := hv
  have hx := B.exec
  have hb := B.bytes
  have hr := B.returns
  have hts := atoms_spec (ws := wsX12_poke) B.pre
  have hown : s.vm.findClass RX12 = some m.cls := findClass_of_methodNamed B.named
  have hlocks := B.notSynchronized
  have hin12 : ∀ w ∈ wsX120, w ∈ wsX12_poke := (fun w h => (List.mem_cons_of_mem _ (List.mem_append_right _ h)))
  subst hsz
  have hD := hD0.self (sz := s.heap.size)
  have hAE := k_AE hD0 hX
  generalize hAe : va_A [(h0, .inr (12, f0))] s.heap.size = A at hD hAE ⊢
  have hA : ∀ q : Nat, s.heap.size ≤ q → A q := fun q h => by rw [← hAe]; exact Or.inr h
  have hS : va_S A s.heap s.heap [] := va_S.rf
  have hP : va_P D vwCl [(h0, .inr (12, f0))] s.heap := hP
  have hl := lv_entry ([.ref h0, .int x0, .int x1, .int x2] : List Value) (n := 4) (Nat.le_of_ble_eq_true rfl)
  rw [lg_entry_eq]
  generalize (lg_sl ([.ref h0, .int x0, .int x1, .int x2]) ++ List.replicate (4 - (lg_sl ([.ref h0, .int x0, .int x1, .int x2])).length) Slot.unset).toArray = ls at hl ⊢
  have hl : lv_has ls 4 [(0, .ref h0), (1, .int x0), (2, .int x1), (3, .int x2)] := hl
  refine lv_aload_n hx hb dX12_poke_0 rfl (lv_at hl 0 rfl) ?_
  refine lv_iload_n hx hb dX12_poke_1 rfl (lv_at hl 1 rfl) ?_
  refine lv_i2l (v := (Int32.toInt64 x0)) hx hb dX12_poke_2 rfl ?_
  refine lv_lconst (v := 1) hx hb dX12_poke_3 (by decide) ?_
  refine lv_ldc2 (own := RX12) (index := 560) (v := 100) hx hb hown (hts (.constantLong RX12 560 (100)) (List.mem_cons_of_mem _ (List.mem_append_left _ (List.mem_of_getElem? (i := 0) rfl)))) dX12_poke_4 ?_
  refine k_cSi (As := [.long (Int32.toInt64 x0), .long 1, .long 100]) (rest := [.ref h0]) (wc := []) (wr := [(h0, .inr (12, f0))]) (w1 := []) ⟨hx, hb, hml, hown, hts⟩ hN hX hAE hK hP hD hS hA [] [0] rfl rfl (by decide +kernel) (by decide +kernel) (by decide +kernel) (c_X12_in_10 l E D cI cJ cB cZ (Int32.toInt64 x0) ((k_n4 (x := x0) (c := 1) (C := 1) (by decide)).mpr e0)) (va_cwS 3 hts gX12_poke_X12_in rfl rfl rfl (by decide +kernel) ⟨Nat.le_of_ble_eq_true rfl, Nat.le_of_ble_eq_true rfl⟩) rfl hl.1 (Nat.le_of_ble_eq_true rfl) dX12_poke_7 ⟨Nat.le_of_ble_eq_true rfl, Nat.le_of_ble_eq_true rfl⟩ (fun H locs hP hD hS => ?_)
  have hP : va_P D vwCl [(h0, .inr (12, f0))] H := hP
  have hD : va_D A [(h0, .inr (12, f0))] := hD
  refine lv_if_eq (tgt := 29) hx hb dX12_poke_10 (by decide) (fun _ => ?_) (fun c9 => absurd (by decide) c9)
  refine lv_iconst (v := 1) hx hb dX12_poke_29 (by decide) ?_
  refine va_put (D := D) (ref := "IntegerHouseModel") (ci := 12) (v := .int 1) (ty := .int) (C := RX12) (T := TX12) (N := 195) hx hb hts hin12 tyX12 tyX12_ok nmX12 hown hK hP hD hS 0 rfl rfl 0 (by decide) (hts (.fieldLink RX12 3 "IntegerHouseModel" "thrown" "I") (List.mem_cons_of_mem _ (List.mem_append_left _ (List.mem_of_getElem? (i := 2) rfl)))) (fun _ h9 => h9) rfl (by decide +kernel) rfl rfl (k_len e1) dX12_poke_30 (fun H locs hP hD hS => ?_)
  have hP : va_P D vwCl [(h0, .inr (12, (f0.set 0 (.int 1))))] H := hP
  have hD : va_D A [(h0, .inr (12, (f0.set 0 (.int 1))))] := hD
  refine lv_aload_n hx hb dX12_poke_33 rfl (lv_at hl 0 rfl) ?_
  refine va_get (D := D) (ref := "IntegerHouseModel") (ci := 12) (v := .int 1) (C := RX12) (T := TX12) (N := 195) hx hb hts hin12 hown hK hP 0 rfl rfl 0 (by decide) (hts (.fieldLink RX12 3 "IntegerHouseModel" "thrown" "I") (List.mem_cons_of_mem _ (List.mem_append_left _ (List.mem_of_getElem? (i := 2) rfl)))) (fun _ h9 => h9) (k_set e1) dX12_poke_34 ?_
  refine lv_if_le (tgt := 42) hx hb dX12_poke_37 (by decide) (fun c9 => absurd c9 (by decide)) (fun _ => ?_)
  refine lv_iconst (v := 0) hx hb dX12_poke_40 (by decide) ?_
  exact W.iret (v := 0) hx hb hr (fun t ht hW => ⟨⟨0, (), rfl, rfl, kB_mk ht hW hP hK hD⟩, hS.F ht⟩) hS.2.2 dX12_poke_41
set_option maxHeartbeats 400000000 in
set_option maxRecDepth 100000 in
theorem c_X11_poke_2 (l : Launch) (E : kE) (D : va_G) (cI cJ cB cZ : ClassId) (h0 : Nat) (x0 : Int32) (x1 : Int32) (x2 : Int32) (e0 : ¬ ((x0 : Int32) < 1)) (e1 : (x0 : Int32) < 101) (e2 : (x1 : Int32) < 0) (hl9 : l.stackTraces = false) : kTI l E D (kT cI cJ cB cZ) yX11_poke wsX11_poke ({ frames := 6, cells := 1, slots := 6, locals := 82 }) [.ref h0, .int x0, .int x1, .int x2] [] "java/lang/IndexOutOfBoundsException" 1 6 := by
  intro sz
  refine vx_ofW (cc := cX11_poke) (maxL := 4) (ret := (some .int)) (by decide) rfl ?_
  intro p e s m args below meth c s₁ B hml ht9 hv
  obtain ⟨rfl, hsz, hP, hK, hD0, hN, hX⟩ := hv
  have hx := B.exec
  have hb := B.bytes
  have hr := B.returns
  have hts := atoms_spec (ws := wsX11_poke) B.pre
  have hown : s.vm.findClass RX11 = some m.cls := findClass_of_methodNamed B.named
  have hlocks := B.notSynchronized
  subst hsz
  have hD := hD0.self (sz := s.heap.size)
  have hAE := k_AE hD0 hX
  generalize hAe : va_A [] s.heap.size = A at hD hAE ⊢
  have hA : ∀ q : Nat, s.heap.size ≤ q → A q := fun q h => by rw [← hAe]; exact Or.inr h
  have hS : va_S A s.heap s.heap [] := va_S.rf
  have hP : va_P D vwCl [] s.heap := hP
  have hl := lv_entry ([.ref h0, .int x0, .int x1, .int x2] : List Value) (n := 4) (Nat.le_of_ble_eq_true rfl)
  rw [lg_entry_eq]
  generalize (lg_sl ([.ref h0, .int x0, .int x1, .int x2]) ++ List.replicate (4 - (lg_sl ([.ref h0, .int x0, .int x1, .int x2])).length) Slot.unset).toArray = ls at hl ⊢
  have hl : lv_has ls 4 [(0, .ref h0), (1, .int x0), (2, .int x1), (3, .int x2)] := hl
  refine lv_iload_n hx hb dX11_poke_0 rfl (lv_at hl 1 rfl) ?_
  refine lv_iload_n hx hb dX11_poke_1 rfl (lv_at hl 2 rfl) ?_
  refine k_cSi (As := [.int x0, .int x1]) (rest := []) (wc := []) (wr := []) (w1 := []) ⟨hx, hb, hml, hown, hts⟩ hN hX hAE hK hP hD hS hA [] [] rfl rfl (by decide +kernel) (by decide +kernel) (by decide +kernel) (c_X1_isByte_2 l E D cI cJ cB cZ x0 x1 e0 e1 e2) (va_cwS 2 hts gX11_poke_X1_isByte rfl rfl rfl (by decide +kernel) ⟨Nat.le_of_ble_eq_true rfl, Nat.le_of_ble_eq_true rfl⟩) rfl hl.1 (Nat.le_of_ble_eq_true rfl) dX11_poke_2 ⟨Nat.le_of_ble_eq_true rfl, Nat.le_of_ble_eq_true rfl⟩ (fun H locs hP hD hS => ?_)
  have hP : va_P D vwCl [] H := hP
  have hD : va_D A [] := hD
  refine lv_if_ne (tgt := 18) hx hb dX11_poke_5 (by decide) (fun c9 => absurd (by decide) c9) (fun _ => ?_)
  obtain ⟨a9, a9r, a9o⟩ := kX.st hX hAE ("IntegerHouse", 199, "no such byte of a block") (List.mem_of_getElem? (i := 5) rfl)
  exact vx_throwS (names := ["java/lang/RuntimeException", "java/lang/Exception"]) (A := A) hx hb hl9 hown (by decide +kernel) (by decide +kernel) (hts (.classLink RX11 197 "java/lang/IndexOutOfBoundsException") (List.mem_cons_of_mem _ (List.mem_append_left _ (List.mem_append_left _ (List.mem_append_left _ (List.mem_of_getElem? (i := 0) rfl)))))) (hts (.initialized "java/lang/IndexOutOfBoundsException") (List.mem_cons_of_mem _ (List.mem_append_left _ (List.mem_append_left _ (List.mem_append_left _ (List.mem_of_getElem? (i := 1) rfl)))))) a9r (vx_hat (L := vx_atS RX11 201 "java/lang/IndexOutOfBoundsException" ["java/lang/RuntimeException", "java/lang/Exception"]) (B := [.castable "java/lang/IndexOutOfBoundsException" "java/lang/IndexOutOfBoundsException", .declares (Bundle.initS "java/lang/RuntimeException"), .declares (Bundle.initS "java/lang/Exception"), .declares (Bundle.initS "java/lang/Throwable")]) (fun w h => hts w (List.mem_cons_of_mem _ (List.mem_append_right _ h))) (by decide +kernel) (vx_c (va_Nw.use rfl (kX.cast hX "java/lang/IndexOutOfBoundsException" (by decide))) (vx_c (va_Nw.use rfl (kX.decl hX "java/lang/RuntimeException" (by decide))) (vx_c (va_Nw.use rfl (kX.decl hX "java/lang/Exception" (by decide))) (vx_c (va_Nw.use rfl (kX.decl hX "java/lang/Throwable" (by decide))) vx_n))))) (by decide +kernel) (kX.us hX hAE) (kX.ss hX hAE) hS (by rw [hml]; exact hl.1) dX11_poke_8 dX11_poke_11 dX11_poke_12 dX11_poke_14 dX11_poke_17 (fun x hx => (ht9 x hx).elim) (Nat.le_of_ble_eq_true rfl) (Nat.le_of_ble_eq_true rfl) (Nat.le_of_ble_eq_true rfl) (Nat.le_of_ble_eq_true rfl) hlocks (fun t h1 h2 h3 => k_tx hP hK hD hS t h1 h2 h3) hS.2.2 (Nat.le_of_ble_eq_true rfl) (Nat.le_of_ble_eq_true rfl)
set_option maxHeartbeats 400000000 in
set_option maxRecDepth 100000 in
theorem c_L_poke_2 (l : Launch) (E : kE) (D : va_G) (cI cJ cB cZ : ClassId) (h0 : Nat) (x0 : Int32) (x1 : Int32) (x2 : Int32) (h1 : Nat) (e0 : ¬ ((x0 : Int32) < 1)) (e1 : (x0 : Int32) < 101) (e2 : (x1 : Int32) < 0) (hl9 : l.stackTraces = false) : kI l E D (kT cI cJ cB cZ) yL_poke wsL_poke ({ frames := 7, cells := 1, slots := 6, locals := 105 }) [.ref h0, .int x0, .int x1, .int x2, .ref h1] [] (1) [] 1 6 := by
  intro sz
  refine k_metH (cc := cL_poke) (maxL := 6) (ret := (some .int)) (hh := [(0, 12, 15, 25)]) (by decide) rfl ?_
  intro p e s m args below meth c s₁ B hml hv
  obtain ⟨rfl, hsz, hP, hK, hD0, hN, hX⟩ := hv
  have hx := B.exec
  have hb := B.bytes
  have hr := B.returns
  have hts := atoms_spec (ws := wsL_poke) B.pre
  have hown : s.vm.findClass RL = some m.cls := findClass_of_methodNamed B.named
  have hlocks := B.notSynchronized
  subst hsz
  have hD := hD0.self (sz := s.heap.size)
  have hAE := k_AE hD0 hX
  generalize hAe : va_A [] s.heap.size = A at hD hAE ⊢
  have hA : ∀ q : Nat, s.heap.size ≤ q → A q := fun q h => by rw [← hAe]; exact Or.inr h
  have hS : va_S A s.heap s.heap [] := va_S.rf
  have hP : va_P D vwCl [] s.heap := hP
  have hl := lv_entry ([.ref h0, .int x0, .int x1, .int x2, .ref h1] : List Value) (n := 6) (Nat.le_of_ble_eq_true rfl)
  rw [lg_entry_eq]
  generalize (lg_sl ([.ref h0, .int x0, .int x1, .int x2, .ref h1]) ++ List.replicate (6 - (lg_sl ([.ref h0, .int x0, .int x1, .int x2, .ref h1])).length) Slot.unset).toArray = ls at hl ⊢
  have hl : lv_has ls 6 [(0, .ref h0), (1, .int x0), (2, .int x1), (3, .int x2), (4, .ref h1)] := hl
  refine lv_aload hx hb dL_poke_0 (lv_at hl 4 rfl) ?_
  refine lv_iconst (v := 0) hx hb dL_poke_2 (by decide) ?_
  refine lv_aload_n hx hb dL_poke_3 rfl (lv_at hl 0 rfl) ?_
  refine lv_iload_n hx hb dL_poke_4 rfl (lv_at hl 1 rfl) ?_
  refine lv_iload_n hx hb dL_poke_5 rfl (lv_at hl 2 rfl) ?_
  refine lv_iload_n hx hb dL_poke_6 rfl (lv_at hl 3 rfl) ?_
  refine k_cTi (As := [.int x0, .int x1, .int x2]) (rest := [.int 0, .ref h1]) (wc := []) (wr := []) ⟨hx, hb, hml, hown, hts⟩ hN hX hAE hK hP hD hS hA [] [] (ci := 11) rfl rfl rfl rfl (by decide +kernel) (by decide +kernel) (by decide +kernel) (c_X11_poke_2 l E D cI cJ cB cZ h0 x0 x1 x2 e0 e1 e2 hl9) (cwV 3 hts gL_poke_X11_poke rfl rfl rfl (by decide +kernel) ⟨Nat.le_of_ble_eq_true rfl, Nat.le_of_ble_eq_true rfl⟩) rfl hl.1 (Nat.le_of_ble_eq_true rfl) dL_poke_7 ⟨Nat.le_of_ble_eq_true rfl, Nat.le_of_ble_eq_true rfl⟩ (fun q9 ce H locs hP hD hS hce hcv hcl => ?_)
  have hP : va_P D vwCl [] H := hP
  have hD : va_D A [] := hD
  refine vx_catch (own := RL) (name := "java/lang/IndexOutOfBoundsException") hown [] ⟨0, 12, 15, 25⟩ [] (vx_table B (hts _ List.mem_cons_self)) (fun z hz => absurd hz List.not_mem_nil) (by decide) (by decide) (hts (.classLink RL 25 "java/lang/IndexOutOfBoundsException") (List.mem_cons_of_mem _ (List.mem_append_left _ (List.mem_append_left _ (List.mem_append_left _ (List.mem_of_getElem? (i := 0) rfl)))))) (va_Nw.use rfl (kX.cast hX "java/lang/IndexOutOfBoundsException" (by decide))) hce hcv hcl ?_
  refine W.eq (g2 := F0 m 15 ls [.ref q9]) rfl ?_
  refine W.widen (k := 1) (n := 6) (Nat.le_of_ble_eq_true rfl) (Nat.le_of_ble_eq_true rfl) ?_
  refine lv_astore (lv' := [(5, .ref q9), (0, .ref h0), (1, .int x0), (2, .int x1), (3, .int x2), (4, .ref h1)]) hx hb dL_poke_15 hl (by decide) rfl (fun ls hl => ?_)
  refine lv_iconst (v := 1) hx hb dL_poke_17 (by decide) ?_
  exact W.iret (v := 1) hx hb hr (fun t ht hW => ⟨⟨1, (), rfl, rfl, kB_mk ht hW hP hK hD⟩, hS.F ht⟩) hS.2.2 dL_poke_18
set_option maxHeartbeats 400000000 in
set_option maxRecDepth 100000 in
theorem c_X12_poke_2 (l : Launch) (E : kE) (D : va_G) (cI cJ cB cZ : ClassId) (h0 : Nat) (x0 : Int32) (x1 : Int32) (x2 : Int32) (f0 : List Value) (e0 : ¬ ((x0 : Int32) < 1)) (e1 : (x0 : Int32) < 101) (e2 : (x1 : Int32) < 0) (e3 : f0[0]? = some (.int 0)) : kI l E D (kT cI cJ cB cZ) yX12_poke wsX12_poke ({ frames := 1, cells := 0, slots := 0, locals := 25 }) [.ref h0, .int x0, .int x1, .int x2] [(h0, .inr (12, f0))] (0) [(h0, .inr (12, (f0.set 0 (.int 1))))] 0 0 := by
  intro sz
  refine Met.ofW (cc := cX12_poke) (maxL := 4) (ret := (some .int)) (by decide) rfl ?_
  intro p e s m args below meth c s₁ B hml hv
  obtain ⟨rfl, hsz, hP, hK, hD0, hN, hX⟩ := hv
  have hx := B.exec
  have hb := B.bytes
  have hr := B.returns
  have hts := atoms_spec (ws := wsX12_poke) B.pre
  have hown : s.vm.findClass RX12 = some m.cls := findClass_of_methodNamed B.named
  have hlocks := B.notSynchronized
  have hin12 : ∀ w ∈ wsX120, w ∈ wsX12_poke := (fun w h => (List.mem_cons_of_mem _ (List.mem_append_right _ h)))
  subst hsz
  have hD := hD0.self (sz := s.heap.size)
  have hAE := k_AE hD0 hX
  generalize hAe : va_A [(h0, .inr (12, f0))] s.heap.size = A at hD hAE ⊢
  have hA : ∀ q : Nat, s.heap.size ≤ q → A q := fun q h => by rw [← hAe]; exact Or.inr h
  have hS : va_S A s.heap s.heap [] := va_S.rf
  have hP : va_P D vwCl [(h0, .inr (12, f0))] s.heap := hP
  have hl := lv_entry ([.ref h0, .int x0, .int x1, .int x2] : List Value) (n := 4) (Nat.le_of_ble_eq_true rfl)
  rw [lg_entry_eq]
  generalize (lg_sl ([.ref h0, .int x0, .int x1, .int x2]) ++ List.replicate (4 - (lg_sl ([.ref h0, .int x0, .int x1, .int x2])).length) Slot.unset).toArray = ls at hl ⊢
  have hl : lv_has ls 4 [(0, .ref h0), (1, .int x0), (2, .int x1), (3, .int x2)] := hl
  refine lv_aload_n hx hb dX12_poke_0 rfl (lv_at hl 0 rfl) ?_
  refine lv_iload_n hx hb dX12_poke_1 rfl (lv_at hl 1 rfl) ?_
  refine lv_i2l (v := (Int32.toInt64 x0)) hx hb dX12_poke_2 rfl ?_
  refine lv_lconst (v := 1) hx hb dX12_poke_3 (by decide) ?_
  refine lv_ldc2 (own := RX12) (index := 560) (v := 100) hx hb hown (hts (.constantLong RX12 560 (100)) (List.mem_cons_of_mem _ (List.mem_append_left _ (List.mem_of_getElem? (i := 0) rfl)))) dX12_poke_4 ?_
  refine k_cSi (As := [.long (Int32.toInt64 x0), .long 1, .long 100]) (rest := [.ref h0]) (wc := []) (wr := [(h0, .inr (12, f0))]) (w1 := []) ⟨hx, hb, hml, hown, hts⟩ hN hX hAE hK hP hD hS hA [] [0] rfl rfl (by decide +kernel) (by decide +kernel) (by decide +kernel) (c_X12_in_9 l E D cI cJ cB cZ (Int32.toInt64 x0) (fun z9 => e0 ((k_n4 (x := x0) (c := 1) (C := 1) (by decide)).mp z9)) (fun z9 => (k_n5 (x := x0) (c := 100) (d := 101) (C := 100) (by decide) (by decide)).mp z9 e1)) (va_cwS 3 hts gX12_poke_X12_in rfl rfl rfl (by decide +kernel) ⟨Nat.le_of_ble_eq_true rfl, Nat.le_of_ble_eq_true rfl⟩) rfl hl.1 (Nat.le_of_ble_eq_true rfl) dX12_poke_7 ⟨Nat.le_of_ble_eq_true rfl, Nat.le_of_ble_eq_true rfl⟩ (fun H locs hP hD hS => ?_)
  have hP : va_P D vwCl [(h0, .inr (12, f0))] H := hP
  have hD : va_D A [(h0, .inr (12, f0))] := hD
  refine lv_if_eq (tgt := 29) hx hb dX12_poke_10 (by decide) (fun c9 => absurd c9 (by decide)) (fun _ => ?_)
  refine lv_iload_n hx hb dX12_poke_13 rfl (lv_at hl 2 rfl) ?_
  refine lv_i2l (v := (Int32.toInt64 x1)) hx hb dX12_poke_14 rfl ?_
  refine lv_lconst (v := 0) hx hb dX12_poke_15 (by decide) ?_
  refine lv_ldc2 (own := RX12) (index := 530) (v := 255) hx hb hown (hts (.constantLong RX12 530 (255)) (List.mem_cons_of_mem _ (List.mem_append_left _ (List.mem_of_getElem? (i := 1) rfl)))) dX12_poke_16 ?_
  refine k_cSi (As := [.long (Int32.toInt64 x1), .long 0, .long 255]) (rest := [.ref h0]) (wc := []) (wr := [(h0, .inr (12, f0))]) (w1 := []) ⟨hx, hb, hml, hown, hts⟩ hN hX hAE hK hP hD hS hA [] [0] rfl rfl (by decide +kernel) (by decide +kernel) (by decide +kernel) (c_X12_in_6 l E D cI cJ cB cZ (Int32.toInt64 x1) ((k_n4 (x := x1) (c := 0) (C := 0) (by decide)).mpr e2)) (va_cwS 3 hts gX12_poke_X12_in rfl rfl rfl (by decide +kernel) ⟨Nat.le_of_ble_eq_true rfl, Nat.le_of_ble_eq_true rfl⟩) rfl hl.1 (Nat.le_of_ble_eq_true rfl) dX12_poke_19 ⟨Nat.le_of_ble_eq_true rfl, Nat.le_of_ble_eq_true rfl⟩ (fun H locs hP hD hS => ?_)
  have hP : va_P D vwCl [(h0, .inr (12, f0))] H := hP
  have hD : va_D A [(h0, .inr (12, f0))] := hD
  refine lv_if_eq (tgt := 29) hx hb dX12_poke_22 (by decide) (fun _ => ?_) (fun c9 => absurd (by decide) c9)
  refine lv_iconst (v := 1) hx hb dX12_poke_29 (by decide) ?_
  refine va_put (D := D) (ref := "IntegerHouseModel") (ci := 12) (v := .int 1) (ty := .int) (C := RX12) (T := TX12) (N := 195) hx hb hts hin12 tyX12 tyX12_ok nmX12 hown hK hP hD hS 0 rfl rfl 0 (by decide) (hts (.fieldLink RX12 3 "IntegerHouseModel" "thrown" "I") (List.mem_cons_of_mem _ (List.mem_append_left _ (List.mem_of_getElem? (i := 2) rfl)))) (fun _ h9 => h9) rfl (by decide +kernel) rfl rfl (k_len e3) dX12_poke_30 (fun H locs hP hD hS => ?_)
  have hP : va_P D vwCl [(h0, .inr (12, (f0.set 0 (.int 1))))] H := hP
  have hD : va_D A [(h0, .inr (12, (f0.set 0 (.int 1))))] := hD
  refine lv_aload_n hx hb dX12_poke_33 rfl (lv_at hl 0 rfl) ?_
  refine va_get (D := D) (ref := "IntegerHouseModel") (ci := 12) (v := .int 1) (C := RX12) (T := TX12) (N := 195) hx hb hts hin12 hown hK hP 0 rfl rfl 0 (by decide) (hts (.fieldLink RX12 3 "IntegerHouseModel" "thrown" "I") (List.mem_cons_of_mem _ (List.mem_append_left _ (List.mem_of_getElem? (i := 2) rfl)))) (fun _ h9 => h9) (k_set e3) dX12_poke_34 ?_
  refine lv_if_le (tgt := 42) hx hb dX12_poke_37 (by decide) (fun c9 => absurd c9 (by decide)) (fun _ => ?_)
  refine lv_iconst (v := 0) hx hb dX12_poke_40 (by decide) ?_
  exact W.iret (v := 0) hx hb hr (fun t ht hW => ⟨⟨0, (), rfl, rfl, kB_mk ht hW hP hK hD⟩, hS.F ht⟩) hS.2.2 dX12_poke_41
set_option maxHeartbeats 400000000 in
set_option maxRecDepth 100000 in
theorem c_X11_poke_3 (l : Launch) (E : kE) (D : va_G) (cI cJ cB cZ : ClassId) (h0 : Nat) (x0 : Int32) (x1 : Int32) (x2 : Int32) (e0 : ¬ ((x0 : Int32) < 1)) (e1 : (x0 : Int32) < 101) (e2 : ¬ ((x1 : Int32) < 0)) (e3 : ¬ ((x1 : Int32) < 256)) (hl9 : l.stackTraces = false) : kTI l E D (kT cI cJ cB cZ) yX11_poke wsX11_poke ({ frames := 6, cells := 1, slots := 6, locals := 82 }) [.ref h0, .int x0, .int x1, .int x2] [] "java/lang/IndexOutOfBoundsException" 1 6 := by
  intro sz
  refine vx_ofW (cc := cX11_poke) (maxL := 4) (ret := (some .int)) (by decide) rfl ?_
  intro p e s m args below meth c s₁ B hml ht9 hv
  obtain ⟨rfl, hsz, hP, hK, hD0, hN, hX⟩ := hv
  have hx := B.exec
  have hb := B.bytes
  have hr := B.returns
  have hts := atoms_spec (ws := wsX11_poke) B.pre
  have hown : s.vm.findClass RX11 = some m.cls := findClass_of_methodNamed B.named
  have hlocks := B.notSynchronized
  subst hsz
  have hD := hD0.self (sz := s.heap.size)
  have hAE := k_AE hD0 hX
  generalize hAe : va_A [] s.heap.size = A at hD hAE ⊢
  have hA : ∀ q : Nat, s.heap.size ≤ q → A q := fun q h => by rw [← hAe]; exact Or.inr h
  have hS : va_S A s.heap s.heap [] := va_S.rf
  have hP : va_P D vwCl [] s.heap := hP
  have hl := lv_entry ([.ref h0, .int x0, .int x1, .int x2] : List Value) (n := 4) (Nat.le_of_ble_eq_true rfl)
  rw [lg_entry_eq]
  generalize (lg_sl ([.ref h0, .int x0, .int x1, .int x2]) ++ List.replicate (4 - (lg_sl ([.ref h0, .int x0, .int x1, .int x2])).length) Slot.unset).toArray = ls at hl ⊢
  have hl : lv_has ls 4 [(0, .ref h0), (1, .int x0), (2, .int x1), (3, .int x2)] := hl
  refine lv_iload_n hx hb dX11_poke_0 rfl (lv_at hl 1 rfl) ?_
  refine lv_iload_n hx hb dX11_poke_1 rfl (lv_at hl 2 rfl) ?_
  refine k_cSi (As := [.int x0, .int x1]) (rest := []) (wc := []) (wr := []) (w1 := []) ⟨hx, hb, hml, hown, hts⟩ hN hX hAE hK hP hD hS hA [] [] rfl rfl (by decide +kernel) (by decide +kernel) (by decide +kernel) (c_X1_isByte_3 l E D cI cJ cB cZ x0 x1 e0 e1 e2 e3) (va_cwS 2 hts gX11_poke_X1_isByte rfl rfl rfl (by decide +kernel) ⟨Nat.le_of_ble_eq_true rfl, Nat.le_of_ble_eq_true rfl⟩) rfl hl.1 (Nat.le_of_ble_eq_true rfl) dX11_poke_2 ⟨Nat.le_of_ble_eq_true rfl, Nat.le_of_ble_eq_true rfl⟩ (fun H locs hP hD hS => ?_)
  have hP : va_P D vwCl [] H := hP
  have hD : va_D A [] := hD
  refine lv_if_ne (tgt := 18) hx hb dX11_poke_5 (by decide) (fun c9 => absurd (by decide) c9) (fun _ => ?_)
  obtain ⟨a9, a9r, a9o⟩ := kX.st hX hAE ("IntegerHouse", 199, "no such byte of a block") (List.mem_of_getElem? (i := 5) rfl)
  exact vx_throwS (names := ["java/lang/RuntimeException", "java/lang/Exception"]) (A := A) hx hb hl9 hown (by decide +kernel) (by decide +kernel) (hts (.classLink RX11 197 "java/lang/IndexOutOfBoundsException") (List.mem_cons_of_mem _ (List.mem_append_left _ (List.mem_append_left _ (List.mem_append_left _ (List.mem_of_getElem? (i := 0) rfl)))))) (hts (.initialized "java/lang/IndexOutOfBoundsException") (List.mem_cons_of_mem _ (List.mem_append_left _ (List.mem_append_left _ (List.mem_append_left _ (List.mem_of_getElem? (i := 1) rfl)))))) a9r (vx_hat (L := vx_atS RX11 201 "java/lang/IndexOutOfBoundsException" ["java/lang/RuntimeException", "java/lang/Exception"]) (B := [.castable "java/lang/IndexOutOfBoundsException" "java/lang/IndexOutOfBoundsException", .declares (Bundle.initS "java/lang/RuntimeException"), .declares (Bundle.initS "java/lang/Exception"), .declares (Bundle.initS "java/lang/Throwable")]) (fun w h => hts w (List.mem_cons_of_mem _ (List.mem_append_right _ h))) (by decide +kernel) (vx_c (va_Nw.use rfl (kX.cast hX "java/lang/IndexOutOfBoundsException" (by decide))) (vx_c (va_Nw.use rfl (kX.decl hX "java/lang/RuntimeException" (by decide))) (vx_c (va_Nw.use rfl (kX.decl hX "java/lang/Exception" (by decide))) (vx_c (va_Nw.use rfl (kX.decl hX "java/lang/Throwable" (by decide))) vx_n))))) (by decide +kernel) (kX.us hX hAE) (kX.ss hX hAE) hS (by rw [hml]; exact hl.1) dX11_poke_8 dX11_poke_11 dX11_poke_12 dX11_poke_14 dX11_poke_17 (fun x hx => (ht9 x hx).elim) (Nat.le_of_ble_eq_true rfl) (Nat.le_of_ble_eq_true rfl) (Nat.le_of_ble_eq_true rfl) (Nat.le_of_ble_eq_true rfl) hlocks (fun t h1 h2 h3 => k_tx hP hK hD hS t h1 h2 h3) hS.2.2 (Nat.le_of_ble_eq_true rfl) (Nat.le_of_ble_eq_true rfl)
set_option maxHeartbeats 400000000 in
set_option maxRecDepth 100000 in
theorem c_L_poke_3 (l : Launch) (E : kE) (D : va_G) (cI cJ cB cZ : ClassId) (h0 : Nat) (x0 : Int32) (x1 : Int32) (x2 : Int32) (h1 : Nat) (e0 : ¬ ((x0 : Int32) < 1)) (e1 : (x0 : Int32) < 101) (e2 : ¬ ((x1 : Int32) < 0)) (e3 : ¬ ((x1 : Int32) < 256)) (hl9 : l.stackTraces = false) : kI l E D (kT cI cJ cB cZ) yL_poke wsL_poke ({ frames := 7, cells := 1, slots := 6, locals := 105 }) [.ref h0, .int x0, .int x1, .int x2, .ref h1] [] (1) [] 1 6 := by
  intro sz
  refine k_metH (cc := cL_poke) (maxL := 6) (ret := (some .int)) (hh := [(0, 12, 15, 25)]) (by decide) rfl ?_
  intro p e s m args below meth c s₁ B hml hv
  obtain ⟨rfl, hsz, hP, hK, hD0, hN, hX⟩ := hv
  have hx := B.exec
  have hb := B.bytes
  have hr := B.returns
  have hts := atoms_spec (ws := wsL_poke) B.pre
  have hown : s.vm.findClass RL = some m.cls := findClass_of_methodNamed B.named
  have hlocks := B.notSynchronized
  subst hsz
  have hD := hD0.self (sz := s.heap.size)
  have hAE := k_AE hD0 hX
  generalize hAe : va_A [] s.heap.size = A at hD hAE ⊢
  have hA : ∀ q : Nat, s.heap.size ≤ q → A q := fun q h => by rw [← hAe]; exact Or.inr h
  have hS : va_S A s.heap s.heap [] := va_S.rf
  have hP : va_P D vwCl [] s.heap := hP
  have hl := lv_entry ([.ref h0, .int x0, .int x1, .int x2, .ref h1] : List Value) (n := 6) (Nat.le_of_ble_eq_true rfl)
  rw [lg_entry_eq]
  generalize (lg_sl ([.ref h0, .int x0, .int x1, .int x2, .ref h1]) ++ List.replicate (6 - (lg_sl ([.ref h0, .int x0, .int x1, .int x2, .ref h1])).length) Slot.unset).toArray = ls at hl ⊢
  have hl : lv_has ls 6 [(0, .ref h0), (1, .int x0), (2, .int x1), (3, .int x2), (4, .ref h1)] := hl
  refine lv_aload hx hb dL_poke_0 (lv_at hl 4 rfl) ?_
  refine lv_iconst (v := 0) hx hb dL_poke_2 (by decide) ?_
  refine lv_aload_n hx hb dL_poke_3 rfl (lv_at hl 0 rfl) ?_
  refine lv_iload_n hx hb dL_poke_4 rfl (lv_at hl 1 rfl) ?_
  refine lv_iload_n hx hb dL_poke_5 rfl (lv_at hl 2 rfl) ?_
  refine lv_iload_n hx hb dL_poke_6 rfl (lv_at hl 3 rfl) ?_
  refine k_cTi (As := [.int x0, .int x1, .int x2]) (rest := [.int 0, .ref h1]) (wc := []) (wr := []) ⟨hx, hb, hml, hown, hts⟩ hN hX hAE hK hP hD hS hA [] [] (ci := 11) rfl rfl rfl rfl (by decide +kernel) (by decide +kernel) (by decide +kernel) (c_X11_poke_3 l E D cI cJ cB cZ h0 x0 x1 x2 e0 e1 e2 e3 hl9) (cwV 3 hts gL_poke_X11_poke rfl rfl rfl (by decide +kernel) ⟨Nat.le_of_ble_eq_true rfl, Nat.le_of_ble_eq_true rfl⟩) rfl hl.1 (Nat.le_of_ble_eq_true rfl) dL_poke_7 ⟨Nat.le_of_ble_eq_true rfl, Nat.le_of_ble_eq_true rfl⟩ (fun q9 ce H locs hP hD hS hce hcv hcl => ?_)
  have hP : va_P D vwCl [] H := hP
  have hD : va_D A [] := hD
  refine vx_catch (own := RL) (name := "java/lang/IndexOutOfBoundsException") hown [] ⟨0, 12, 15, 25⟩ [] (vx_table B (hts _ List.mem_cons_self)) (fun z hz => absurd hz List.not_mem_nil) (by decide) (by decide) (hts (.classLink RL 25 "java/lang/IndexOutOfBoundsException") (List.mem_cons_of_mem _ (List.mem_append_left _ (List.mem_append_left _ (List.mem_append_left _ (List.mem_of_getElem? (i := 0) rfl)))))) (va_Nw.use rfl (kX.cast hX "java/lang/IndexOutOfBoundsException" (by decide))) hce hcv hcl ?_
  refine W.eq (g2 := F0 m 15 ls [.ref q9]) rfl ?_
  refine W.widen (k := 1) (n := 6) (Nat.le_of_ble_eq_true rfl) (Nat.le_of_ble_eq_true rfl) ?_
  refine lv_astore (lv' := [(5, .ref q9), (0, .ref h0), (1, .int x0), (2, .int x1), (3, .int x2), (4, .ref h1)]) hx hb dL_poke_15 hl (by decide) rfl (fun ls hl => ?_)
  refine lv_iconst (v := 1) hx hb dL_poke_17 (by decide) ?_
  exact W.iret (v := 1) hx hb hr (fun t ht hW => ⟨⟨1, (), rfl, rfl, kB_mk ht hW hP hK hD⟩, hS.F ht⟩) hS.2.2 dL_poke_18
set_option maxHeartbeats 400000000 in
set_option maxRecDepth 100000 in
theorem c_X12_poke_3 (l : Launch) (E : kE) (D : va_G) (cI cJ cB cZ : ClassId) (h0 : Nat) (x0 : Int32) (x1 : Int32) (x2 : Int32) (f0 : List Value) (e0 : ¬ ((x0 : Int32) < 1)) (e1 : (x0 : Int32) < 101) (e2 : ¬ ((x1 : Int32) < 0)) (e3 : ¬ ((x1 : Int32) < 256)) (e4 : f0[0]? = some (.int 0)) : kI l E D (kT cI cJ cB cZ) yX12_poke wsX12_poke ({ frames := 1, cells := 0, slots := 0, locals := 25 }) [.ref h0, .int x0, .int x1, .int x2] [(h0, .inr (12, f0))] (0) [(h0, .inr (12, (f0.set 0 (.int 1))))] 0 0 := by
  intro sz
  refine Met.ofW (cc := cX12_poke) (maxL := 4) (ret := (some .int)) (by decide) rfl ?_
  intro p e s m args below meth c s₁ B hml hv
  obtain ⟨rfl, hsz, hP, hK, hD0, hN, hX⟩ := hv
  have hx := B.exec
  have hb := B.bytes
  have hr := B.returns
  have hts := atoms_spec (ws := wsX12_poke) B.pre
  have hown : s.vm.findClass RX12 = some m.cls := findClass_of_methodNamed B.named
  have hlocks := B.notSynchronized
  have hin12 : ∀ w ∈ wsX120, w ∈ wsX12_poke := (fun w h => (List.mem_cons_of_mem _ (List.mem_append_right _ h)))
  subst hsz
  have hD := hD0.self (sz := s.heap.size)
  have hAE := k_AE hD0 hX
  generalize hAe : va_A [(h0, .inr (12, f0))] s.heap.size = A at hD hAE ⊢
  have hA : ∀ q : Nat, s.heap.size ≤ q → A q := fun q h => by rw [← hAe]; exact Or.inr h
  have hS : va_S A s.heap s.heap [] := va_S.rf
  have hP : va_P D vwCl [(h0, .inr (12, f0))] s.heap := hP
  have hl := lv_entry ([.ref h0, .int x0, .int x1, .int x2] : List Value) (n := 4) (Nat.le_of_ble_eq_true rfl)
  rw [lg_entry_eq]
  generalize (lg_sl ([.ref h0, .int x0, .int x1, .int x2]) ++ List.replicate (4 - (lg_sl ([.ref h0, .int x0, .int x1, .int x2])).length) Slot.unset).toArray = ls at hl ⊢
  have hl : lv_has ls 4 [(0, .ref h0), (1, .int x0), (2, .int x1), (3, .int x2)] := hl
  refine lv_aload_n hx hb dX12_poke_0 rfl (lv_at hl 0 rfl) ?_
  refine lv_iload_n hx hb dX12_poke_1 rfl (lv_at hl 1 rfl) ?_
  refine lv_i2l (v := (Int32.toInt64 x0)) hx hb dX12_poke_2 rfl ?_
  refine lv_lconst (v := 1) hx hb dX12_poke_3 (by decide) ?_
  refine lv_ldc2 (own := RX12) (index := 560) (v := 100) hx hb hown (hts (.constantLong RX12 560 (100)) (List.mem_cons_of_mem _ (List.mem_append_left _ (List.mem_of_getElem? (i := 0) rfl)))) dX12_poke_4 ?_
  refine k_cSi (As := [.long (Int32.toInt64 x0), .long 1, .long 100]) (rest := [.ref h0]) (wc := []) (wr := [(h0, .inr (12, f0))]) (w1 := []) ⟨hx, hb, hml, hown, hts⟩ hN hX hAE hK hP hD hS hA [] [0] rfl rfl (by decide +kernel) (by decide +kernel) (by decide +kernel) (c_X12_in_9 l E D cI cJ cB cZ (Int32.toInt64 x0) (fun z9 => e0 ((k_n4 (x := x0) (c := 1) (C := 1) (by decide)).mp z9)) (fun z9 => (k_n5 (x := x0) (c := 100) (d := 101) (C := 100) (by decide) (by decide)).mp z9 e1)) (va_cwS 3 hts gX12_poke_X12_in rfl rfl rfl (by decide +kernel) ⟨Nat.le_of_ble_eq_true rfl, Nat.le_of_ble_eq_true rfl⟩) rfl hl.1 (Nat.le_of_ble_eq_true rfl) dX12_poke_7 ⟨Nat.le_of_ble_eq_true rfl, Nat.le_of_ble_eq_true rfl⟩ (fun H locs hP hD hS => ?_)
  have hP : va_P D vwCl [(h0, .inr (12, f0))] H := hP
  have hD : va_D A [(h0, .inr (12, f0))] := hD
  refine lv_if_eq (tgt := 29) hx hb dX12_poke_10 (by decide) (fun c9 => absurd c9 (by decide)) (fun _ => ?_)
  refine lv_iload_n hx hb dX12_poke_13 rfl (lv_at hl 2 rfl) ?_
  refine lv_i2l (v := (Int32.toInt64 x1)) hx hb dX12_poke_14 rfl ?_
  refine lv_lconst (v := 0) hx hb dX12_poke_15 (by decide) ?_
  refine lv_ldc2 (own := RX12) (index := 530) (v := 255) hx hb hown (hts (.constantLong RX12 530 (255)) (List.mem_cons_of_mem _ (List.mem_append_left _ (List.mem_of_getElem? (i := 1) rfl)))) dX12_poke_16 ?_
  refine k_cSi (As := [.long (Int32.toInt64 x1), .long 0, .long 255]) (rest := [.ref h0]) (wc := []) (wr := [(h0, .inr (12, f0))]) (w1 := []) ⟨hx, hb, hml, hown, hts⟩ hN hX hAE hK hP hD hS hA [] [0] rfl rfl (by decide +kernel) (by decide +kernel) (by decide +kernel) (c_X12_in_7 l E D cI cJ cB cZ (Int32.toInt64 x1) (fun z9 => e2 ((k_n4 (x := x1) (c := 0) (C := 0) (by decide)).mp z9)) ((k_n5 (x := x1) (c := 255) (d := 256) (C := 255) (by decide) (by decide)).mpr e3)) (va_cwS 3 hts gX12_poke_X12_in rfl rfl rfl (by decide +kernel) ⟨Nat.le_of_ble_eq_true rfl, Nat.le_of_ble_eq_true rfl⟩) rfl hl.1 (Nat.le_of_ble_eq_true rfl) dX12_poke_19 ⟨Nat.le_of_ble_eq_true rfl, Nat.le_of_ble_eq_true rfl⟩ (fun H locs hP hD hS => ?_)
  have hP : va_P D vwCl [(h0, .inr (12, f0))] H := hP
  have hD : va_D A [(h0, .inr (12, f0))] := hD
  refine lv_if_eq (tgt := 29) hx hb dX12_poke_22 (by decide) (fun _ => ?_) (fun c9 => absurd (by decide) c9)
  refine lv_iconst (v := 1) hx hb dX12_poke_29 (by decide) ?_
  refine va_put (D := D) (ref := "IntegerHouseModel") (ci := 12) (v := .int 1) (ty := .int) (C := RX12) (T := TX12) (N := 195) hx hb hts hin12 tyX12 tyX12_ok nmX12 hown hK hP hD hS 0 rfl rfl 0 (by decide) (hts (.fieldLink RX12 3 "IntegerHouseModel" "thrown" "I") (List.mem_cons_of_mem _ (List.mem_append_left _ (List.mem_of_getElem? (i := 2) rfl)))) (fun _ h9 => h9) rfl (by decide +kernel) rfl rfl (k_len e4) dX12_poke_30 (fun H locs hP hD hS => ?_)
  have hP : va_P D vwCl [(h0, .inr (12, (f0.set 0 (.int 1))))] H := hP
  have hD : va_D A [(h0, .inr (12, (f0.set 0 (.int 1))))] := hD
  refine lv_aload_n hx hb dX12_poke_33 rfl (lv_at hl 0 rfl) ?_
  refine va_get (D := D) (ref := "IntegerHouseModel") (ci := 12) (v := .int 1) (C := RX12) (T := TX12) (N := 195) hx hb hts hin12 hown hK hP 0 rfl rfl 0 (by decide) (hts (.fieldLink RX12 3 "IntegerHouseModel" "thrown" "I") (List.mem_cons_of_mem _ (List.mem_append_left _ (List.mem_of_getElem? (i := 2) rfl)))) (fun _ h9 => h9) (k_set e4) dX12_poke_34 ?_
  refine lv_if_le (tgt := 42) hx hb dX12_poke_37 (by decide) (fun c9 => absurd c9 (by decide)) (fun _ => ?_)
  refine lv_iconst (v := 0) hx hb dX12_poke_40 (by decide) ?_
  exact W.iret (v := 0) hx hb hr (fun t ht hW => ⟨⟨0, (), rfl, rfl, kB_mk ht hW hP hK hD⟩, hS.F ht⟩) hS.2.2 dX12_poke_41
set_option maxHeartbeats 400000000 in
set_option maxRecDepth 100000 in
theorem c_X11_poke_4 (l : Launch) (E : kE) (D : va_G) (cI cJ cB cZ : ClassId) (h0 : Nat) (x0 : Int32) (x1 : Int32) (x2 : Int32) (e0 : ¬ ((x0 : Int32) < 1)) (e1 : ¬ ((x0 : Int32) < 101)) (hl9 : l.stackTraces = false) : kTI l E D (kT cI cJ cB cZ) yX11_poke wsX11_poke ({ frames := 6, cells := 1, slots := 6, locals := 82 }) [.ref h0, .int x0, .int x1, .int x2] [] "java/lang/IndexOutOfBoundsException" 1 6 := by
  intro sz
  refine vx_ofW (cc := cX11_poke) (maxL := 4) (ret := (some .int)) (by decide) rfl ?_
  intro p e s m args below meth c s₁ B hml ht9 hv
  obtain ⟨rfl, hsz, hP, hK, hD0, hN, hX⟩ := hv
  have hx := B.exec
  have hb := B.bytes
  have hr := B.returns
  have hts := atoms_spec (ws := wsX11_poke) B.pre
  have hown : s.vm.findClass RX11 = some m.cls := findClass_of_methodNamed B.named
  have hlocks := B.notSynchronized
  subst hsz
  have hD := hD0.self (sz := s.heap.size)
  have hAE := k_AE hD0 hX
  generalize hAe : va_A [] s.heap.size = A at hD hAE ⊢
  have hA : ∀ q : Nat, s.heap.size ≤ q → A q := fun q h => by rw [← hAe]; exact Or.inr h
  have hS : va_S A s.heap s.heap [] := va_S.rf
  have hP : va_P D vwCl [] s.heap := hP
  have hl := lv_entry ([.ref h0, .int x0, .int x1, .int x2] : List Value) (n := 4) (Nat.le_of_ble_eq_true rfl)
  rw [lg_entry_eq]
  generalize (lg_sl ([.ref h0, .int x0, .int x1, .int x2]) ++ List.replicate (4 - (lg_sl ([.ref h0, .int x0, .int x1, .int x2])).length) Slot.unset).toArray = ls at hl ⊢
  have hl : lv_has ls 4 [(0, .ref h0), (1, .int x0), (2, .int x1), (3, .int x2)] := hl
  refine lv_iload_n hx hb dX11_poke_0 rfl (lv_at hl 1 rfl) ?_
  refine lv_iload_n hx hb dX11_poke_1 rfl (lv_at hl 2 rfl) ?_
  refine k_cSi (As := [.int x0, .int x1]) (rest := []) (wc := []) (wr := []) (w1 := []) ⟨hx, hb, hml, hown, hts⟩ hN hX hAE hK hP hD hS hA [] [] rfl rfl (by decide +kernel) (by decide +kernel) (by decide +kernel) (c_X1_isByte_4 l E D cI cJ cB cZ x0 x1 e0 e1) (va_cwS 2 hts gX11_poke_X1_isByte rfl rfl rfl (by decide +kernel) ⟨Nat.le_of_ble_eq_true rfl, Nat.le_of_ble_eq_true rfl⟩) rfl hl.1 (Nat.le_of_ble_eq_true rfl) dX11_poke_2 ⟨Nat.le_of_ble_eq_true rfl, Nat.le_of_ble_eq_true rfl⟩ (fun H locs hP hD hS => ?_)
  have hP : va_P D vwCl [] H := hP
  have hD : va_D A [] := hD
  refine lv_if_ne (tgt := 18) hx hb dX11_poke_5 (by decide) (fun c9 => absurd (by decide) c9) (fun _ => ?_)
  obtain ⟨a9, a9r, a9o⟩ := kX.st hX hAE ("IntegerHouse", 199, "no such byte of a block") (List.mem_of_getElem? (i := 5) rfl)
  exact vx_throwS (names := ["java/lang/RuntimeException", "java/lang/Exception"]) (A := A) hx hb hl9 hown (by decide +kernel) (by decide +kernel) (hts (.classLink RX11 197 "java/lang/IndexOutOfBoundsException") (List.mem_cons_of_mem _ (List.mem_append_left _ (List.mem_append_left _ (List.mem_append_left _ (List.mem_of_getElem? (i := 0) rfl)))))) (hts (.initialized "java/lang/IndexOutOfBoundsException") (List.mem_cons_of_mem _ (List.mem_append_left _ (List.mem_append_left _ (List.mem_append_left _ (List.mem_of_getElem? (i := 1) rfl)))))) a9r (vx_hat (L := vx_atS RX11 201 "java/lang/IndexOutOfBoundsException" ["java/lang/RuntimeException", "java/lang/Exception"]) (B := [.castable "java/lang/IndexOutOfBoundsException" "java/lang/IndexOutOfBoundsException", .declares (Bundle.initS "java/lang/RuntimeException"), .declares (Bundle.initS "java/lang/Exception"), .declares (Bundle.initS "java/lang/Throwable")]) (fun w h => hts w (List.mem_cons_of_mem _ (List.mem_append_right _ h))) (by decide +kernel) (vx_c (va_Nw.use rfl (kX.cast hX "java/lang/IndexOutOfBoundsException" (by decide))) (vx_c (va_Nw.use rfl (kX.decl hX "java/lang/RuntimeException" (by decide))) (vx_c (va_Nw.use rfl (kX.decl hX "java/lang/Exception" (by decide))) (vx_c (va_Nw.use rfl (kX.decl hX "java/lang/Throwable" (by decide))) vx_n))))) (by decide +kernel) (kX.us hX hAE) (kX.ss hX hAE) hS (by rw [hml]; exact hl.1) dX11_poke_8 dX11_poke_11 dX11_poke_12 dX11_poke_14 dX11_poke_17 (fun x hx => (ht9 x hx).elim) (Nat.le_of_ble_eq_true rfl) (Nat.le_of_ble_eq_true rfl) (Nat.le_of_ble_eq_true rfl) (Nat.le_of_ble_eq_true rfl) hlocks (fun t h1 h2 h3 => k_tx hP hK hD hS t h1 h2 h3) hS.2.2 (Nat.le_of_ble_eq_true rfl) (Nat.le_of_ble_eq_true rfl)
set_option maxHeartbeats 400000000 in
set_option maxRecDepth 100000 in
theorem c_L_poke_4 (l : Launch) (E : kE) (D : va_G) (cI cJ cB cZ : ClassId) (h0 : Nat) (x0 : Int32) (x1 : Int32) (x2 : Int32) (h1 : Nat) (e0 : ¬ ((x0 : Int32) < 1)) (e1 : ¬ ((x0 : Int32) < 101)) (hl9 : l.stackTraces = false) : kI l E D (kT cI cJ cB cZ) yL_poke wsL_poke ({ frames := 7, cells := 1, slots := 6, locals := 105 }) [.ref h0, .int x0, .int x1, .int x2, .ref h1] [] (1) [] 1 6 := by
  intro sz
  refine k_metH (cc := cL_poke) (maxL := 6) (ret := (some .int)) (hh := [(0, 12, 15, 25)]) (by decide) rfl ?_
  intro p e s m args below meth c s₁ B hml hv
  obtain ⟨rfl, hsz, hP, hK, hD0, hN, hX⟩ := hv
  have hx := B.exec
  have hb := B.bytes
  have hr := B.returns
  have hts := atoms_spec (ws := wsL_poke) B.pre
  have hown : s.vm.findClass RL = some m.cls := findClass_of_methodNamed B.named
  have hlocks := B.notSynchronized
  subst hsz
  have hD := hD0.self (sz := s.heap.size)
  have hAE := k_AE hD0 hX
  generalize hAe : va_A [] s.heap.size = A at hD hAE ⊢
  have hA : ∀ q : Nat, s.heap.size ≤ q → A q := fun q h => by rw [← hAe]; exact Or.inr h
  have hS : va_S A s.heap s.heap [] := va_S.rf
  have hP : va_P D vwCl [] s.heap := hP
  have hl := lv_entry ([.ref h0, .int x0, .int x1, .int x2, .ref h1] : List Value) (n := 6) (Nat.le_of_ble_eq_true rfl)
  rw [lg_entry_eq]
  generalize (lg_sl ([.ref h0, .int x0, .int x1, .int x2, .ref h1]) ++ List.replicate (6 - (lg_sl ([.ref h0, .int x0, .int x1, .int x2, .ref h1])).length) Slot.unset).toArray = ls at hl ⊢
  have hl : lv_has ls 6 [(0, .ref h0), (1, .int x0), (2, .int x1), (3, .int x2), (4, .ref h1)] := hl
  refine lv_aload hx hb dL_poke_0 (lv_at hl 4 rfl) ?_
  refine lv_iconst (v := 0) hx hb dL_poke_2 (by decide) ?_
  refine lv_aload_n hx hb dL_poke_3 rfl (lv_at hl 0 rfl) ?_
  refine lv_iload_n hx hb dL_poke_4 rfl (lv_at hl 1 rfl) ?_
  refine lv_iload_n hx hb dL_poke_5 rfl (lv_at hl 2 rfl) ?_
  refine lv_iload_n hx hb dL_poke_6 rfl (lv_at hl 3 rfl) ?_
  refine k_cTi (As := [.int x0, .int x1, .int x2]) (rest := [.int 0, .ref h1]) (wc := []) (wr := []) ⟨hx, hb, hml, hown, hts⟩ hN hX hAE hK hP hD hS hA [] [] (ci := 11) rfl rfl rfl rfl (by decide +kernel) (by decide +kernel) (by decide +kernel) (c_X11_poke_4 l E D cI cJ cB cZ h0 x0 x1 x2 e0 e1 hl9) (cwV 3 hts gL_poke_X11_poke rfl rfl rfl (by decide +kernel) ⟨Nat.le_of_ble_eq_true rfl, Nat.le_of_ble_eq_true rfl⟩) rfl hl.1 (Nat.le_of_ble_eq_true rfl) dL_poke_7 ⟨Nat.le_of_ble_eq_true rfl, Nat.le_of_ble_eq_true rfl⟩ (fun q9 ce H locs hP hD hS hce hcv hcl => ?_)
  have hP : va_P D vwCl [] H := hP
  have hD : va_D A [] := hD
  refine vx_catch (own := RL) (name := "java/lang/IndexOutOfBoundsException") hown [] ⟨0, 12, 15, 25⟩ [] (vx_table B (hts _ List.mem_cons_self)) (fun z hz => absurd hz List.not_mem_nil) (by decide) (by decide) (hts (.classLink RL 25 "java/lang/IndexOutOfBoundsException") (List.mem_cons_of_mem _ (List.mem_append_left _ (List.mem_append_left _ (List.mem_append_left _ (List.mem_of_getElem? (i := 0) rfl)))))) (va_Nw.use rfl (kX.cast hX "java/lang/IndexOutOfBoundsException" (by decide))) hce hcv hcl ?_
  refine W.eq (g2 := F0 m 15 ls [.ref q9]) rfl ?_
  refine W.widen (k := 1) (n := 6) (Nat.le_of_ble_eq_true rfl) (Nat.le_of_ble_eq_true rfl) ?_
  refine lv_astore (lv' := [(5, .ref q9), (0, .ref h0), (1, .int x0), (2, .int x1), (3, .int x2), (4, .ref h1)]) hx hb dL_poke_15 hl (by decide) rfl (fun ls hl => ?_)
  refine lv_iconst (v := 1) hx hb dL_poke_17 (by decide) ?_
  exact W.iret (v := 1) hx hb hr (fun t ht hW => ⟨⟨1, (), rfl, rfl, kB_mk ht hW hP hK hD⟩, hS.F ht⟩) hS.2.2 dL_poke_18
set_option maxHeartbeats 400000000 in
set_option maxRecDepth 100000 in
theorem c_X12_poke_4 (l : Launch) (E : kE) (D : va_G) (cI cJ cB cZ : ClassId) (h0 : Nat) (x0 : Int32) (x1 : Int32) (x2 : Int32) (f0 : List Value) (e0 : ¬ ((x0 : Int32) < 1)) (e1 : ¬ ((x0 : Int32) < 101)) (e2 : f0[0]? = some (.int 0)) : kI l E D (kT cI cJ cB cZ) yX12_poke wsX12_poke ({ frames := 1, cells := 0, slots := 0, locals := 25 }) [.ref h0, .int x0, .int x1, .int x2] [(h0, .inr (12, f0))] (0) [(h0, .inr (12, (f0.set 0 (.int 1))))] 0 0 := by
  intro sz
  refine Met.ofW (cc := cX12_poke) (maxL := 4) (ret := (some .int)) (by decide) rfl ?_
  intro p e s m args below meth c s₁ B hml hv
  obtain ⟨rfl, hsz, hP, hK, hD0, hN, hX⟩ := hv
  have hx := B.exec
  have hb := B.bytes
  have hr := B.returns
  have hts := atoms_spec (ws := wsX12_poke) B.pre
  have hown : s.vm.findClass RX12 = some m.cls := findClass_of_methodNamed B.named
  have hlocks := B.notSynchronized
  have hin12 : ∀ w ∈ wsX120, w ∈ wsX12_poke := (fun w h => (List.mem_cons_of_mem _ (List.mem_append_right _ h)))
  subst hsz
  have hD := hD0.self (sz := s.heap.size)
  have hAE := k_AE hD0 hX
  generalize hAe : va_A [(h0, .inr (12, f0))] s.heap.size = A at hD hAE ⊢
  have hA : ∀ q : Nat, s.heap.size ≤ q → A q := fun q h => by rw [← hAe]; exact Or.inr h
  have hS : va_S A s.heap s.heap [] := va_S.rf
  have hP : va_P D vwCl [(h0, .inr (12, f0))] s.heap := hP
  have hl := lv_entry ([.ref h0, .int x0, .int x1, .int x2] : List Value) (n := 4) (Nat.le_of_ble_eq_true rfl)
  rw [lg_entry_eq]
  generalize (lg_sl ([.ref h0, .int x0, .int x1, .int x2]) ++ List.replicate (4 - (lg_sl ([.ref h0, .int x0, .int x1, .int x2])).length) Slot.unset).toArray = ls at hl ⊢
  have hl : lv_has ls 4 [(0, .ref h0), (1, .int x0), (2, .int x1), (3, .int x2)] := hl
  refine lv_aload_n hx hb dX12_poke_0 rfl (lv_at hl 0 rfl) ?_
  refine lv_iload_n hx hb dX12_poke_1 rfl (lv_at hl 1 rfl) ?_
  refine lv_i2l (v := (Int32.toInt64 x0)) hx hb dX12_poke_2 rfl ?_
  refine lv_lconst (v := 1) hx hb dX12_poke_3 (by decide) ?_
  refine lv_ldc2 (own := RX12) (index := 560) (v := 100) hx hb hown (hts (.constantLong RX12 560 (100)) (List.mem_cons_of_mem _ (List.mem_append_left _ (List.mem_of_getElem? (i := 0) rfl)))) dX12_poke_4 ?_
  refine k_cSi (As := [.long (Int32.toInt64 x0), .long 1, .long 100]) (rest := [.ref h0]) (wc := []) (wr := [(h0, .inr (12, f0))]) (w1 := []) ⟨hx, hb, hml, hown, hts⟩ hN hX hAE hK hP hD hS hA [] [0] rfl rfl (by decide +kernel) (by decide +kernel) (by decide +kernel) (c_X12_in_11 l E D cI cJ cB cZ (Int32.toInt64 x0) (fun z9 => e0 ((k_n4 (x := x0) (c := 1) (C := 1) (by decide)).mp z9)) ((k_n5 (x := x0) (c := 100) (d := 101) (C := 100) (by decide) (by decide)).mpr e1)) (va_cwS 3 hts gX12_poke_X12_in rfl rfl rfl (by decide +kernel) ⟨Nat.le_of_ble_eq_true rfl, Nat.le_of_ble_eq_true rfl⟩) rfl hl.1 (Nat.le_of_ble_eq_true rfl) dX12_poke_7 ⟨Nat.le_of_ble_eq_true rfl, Nat.le_of_ble_eq_true rfl⟩ (fun H locs hP hD hS => ?_)
  have hP : va_P D vwCl [(h0, .inr (12, f0))] H := hP
  have hD : va_D A [(h0, .inr (12, f0))] := hD
  refine lv_if_eq (tgt := 29) hx hb dX12_poke_10 (by decide) (fun _ => ?_) (fun c9 => absurd (by decide) c9)
  refine lv_iconst (v := 1) hx hb dX12_poke_29 (by decide) ?_
  refine va_put (D := D) (ref := "IntegerHouseModel") (ci := 12) (v := .int 1) (ty := .int) (C := RX12) (T := TX12) (N := 195) hx hb hts hin12 tyX12 tyX12_ok nmX12 hown hK hP hD hS 0 rfl rfl 0 (by decide) (hts (.fieldLink RX12 3 "IntegerHouseModel" "thrown" "I") (List.mem_cons_of_mem _ (List.mem_append_left _ (List.mem_of_getElem? (i := 2) rfl)))) (fun _ h9 => h9) rfl (by decide +kernel) rfl rfl (k_len e2) dX12_poke_30 (fun H locs hP hD hS => ?_)
  have hP : va_P D vwCl [(h0, .inr (12, (f0.set 0 (.int 1))))] H := hP
  have hD : va_D A [(h0, .inr (12, (f0.set 0 (.int 1))))] := hD
  refine lv_aload_n hx hb dX12_poke_33 rfl (lv_at hl 0 rfl) ?_
  refine va_get (D := D) (ref := "IntegerHouseModel") (ci := 12) (v := .int 1) (C := RX12) (T := TX12) (N := 195) hx hb hts hin12 hown hK hP 0 rfl rfl 0 (by decide) (hts (.fieldLink RX12 3 "IntegerHouseModel" "thrown" "I") (List.mem_cons_of_mem _ (List.mem_append_left _ (List.mem_of_getElem? (i := 2) rfl)))) (fun _ h9 => h9) (k_set e2) dX12_poke_34 ?_
  refine lv_if_le (tgt := 42) hx hb dX12_poke_37 (by decide) (fun c9 => absurd c9 (by decide)) (fun _ => ?_)
  refine lv_iconst (v := 0) hx hb dX12_poke_40 (by decide) ?_
  exact W.iret (v := 0) hx hb hr (fun t ht hW => ⟨⟨0, (), rfl, rfl, kB_mk ht hW hP hK hD⟩, hS.F ht⟩) hS.2.2 dX12_poke_41
set_option maxHeartbeats 400000000 in
set_option maxRecDepth 100000 in
theorem c_X11_count_0 (l : Launch) (E : kE) (D : va_G) (cI cJ cB cZ : ClassId) (h0 : Nat) (x0 : Int32) (f0 : List Value) (h1 : Nat) (f1 : List Value) (h2 : Nat) (f2 : List Value) (e0 : ¬ ((x0 : Int32) = 4)) (e1 : f0[1]? = some (.ref h1)) (e2 : f1[8]? = some (.int 0)) (e3 : (x0 : Int32) = 1) (e4 : f0[2]? = some (.ref h2)) (e5 : f2[11]? = some (.int 0)) : kI l E D (kT cI cJ cB cZ) yX11_count wsX11_count ({ frames := 0, cells := 0, slots := 0, locals := 0 }) [.ref h0, .int x0] [(h0, .inr (11, f0)), (h1, .inr (1, f1)), (h2, .inr (2, f2))] (0) [(h0, .inr (11, f0)), (h1, .inr (1, f1)), (h2, .inr (2, f2))] 0 0 := by
  intro sz
  refine Met.ofW (cc := cX11_count) (maxL := 2) (ret := (some .int)) (by decide) rfl ?_
  intro p e s m args below meth c s₁ B hml hv
  obtain ⟨rfl, hsz, hP, hK, hD0, hN, hX⟩ := hv
  have hx := B.exec
  have hb := B.bytes
  have hr := B.returns
  have hts := atoms_spec (ws := wsX11_count) B.pre
  have hown : s.vm.findClass RX11 = some m.cls := findClass_of_methodNamed B.named
  have hlocks := B.notSynchronized
  have hin11 : ∀ w ∈ wsX110, w ∈ wsX11_count := (fun w h => (List.mem_cons_of_mem _ (List.mem_append_left _ (List.mem_append_left _ (List.mem_append_right _ h)))))
  have hin1 : ∀ w ∈ wsX10, w ∈ wsX11_count := (fun w h => (List.mem_cons_of_mem _ (List.mem_append_left _ (List.mem_append_right _ h))))
  have hin2 : ∀ w ∈ wsX20, w ∈ wsX11_count := (fun w h => (List.mem_cons_of_mem _ (List.mem_append_right _ h)))
  subst hsz
  have hD := hD0.self (sz := s.heap.size)
  have hAE := k_AE hD0 hX
  generalize hAe : va_A [(h0, .inr (11, f0)), (h1, .inr (1, f1)), (h2, .inr (2, f2))] s.heap.size = A at hD hAE ⊢
  have hA : ∀ q : Nat, s.heap.size ≤ q → A q := fun q h => by rw [← hAe]; exact Or.inr h
  have hS : va_S A s.heap s.heap [] := va_S.rf
  have hP : va_P D vwCl [(h0, .inr (11, f0)), (h1, .inr (1, f1)), (h2, .inr (2, f2))] s.heap := hP
  have hl := lv_entry ([.ref h0, .int x0] : List Value) (n := 2) (Nat.le_of_ble_eq_true rfl)
  rw [lg_entry_eq]
  generalize (lg_sl ([.ref h0, .int x0]) ++ List.replicate (2 - (lg_sl ([.ref h0, .int x0])).length) Slot.unset).toArray = ls at hl ⊢
  have hl : lv_has ls 2 [(0, .ref h0), (1, .int x0)] := hl
  refine lv_iload_n hx hb dX11_count_0 rfl (lv_at hl 1 rfl) ?_
  refine lv_iconst (v := 4) hx hb dX11_count_1 (by decide) ?_
  refine lv_icmp_ne (tgt := 10) hx hb dX11_count_2 (by decide) (fun _ => ?_) (fun c9 => absurd c9 e0)
  refine lv_aload_n hx hb dX11_count_10 rfl (lv_at hl 0 rfl) ?_
  refine va_get (D := D) (ref := "IntegerHouse") (ci := 11) (v := .ref h1) (C := RX11) (T := TX11) (N := 15) hx hb hts hin11 hown hK hP 0 rfl rfl 1 (by decide) (hts (.fieldLink RX11 16 "IntegerHouse" "disk" "LIntegerHouse$Disk;") (List.mem_cons_of_mem _ (List.mem_append_left _ (List.mem_append_left _ (List.mem_append_left _ (List.mem_of_getElem? (i := 1) rfl)))))) (fun _ h9 => h9) e1 dX11_count_11 ?_
  refine va_getN (host := "IntegerHouse") (D := D) (ref := "IntegerHouse$Disk") (ci := 1) (v := .int 0) (C := RX1) (T := TX1) (N := 9) hx hb hts hin1 hown hK hP 1 rfl rfl 8 (by decide) (va_Nw.use rfl (hN.1 ("IntegerHouse", 122, "IntegerHouse$Disk", "down", "Z", "IntegerHouse") (List.mem_of_getElem? (i := 3) rfl))) (fun _ h9 => h9) e2 dX11_count_14 ?_
  refine lv_if_eq (tgt := 23) hx hb dX11_count_17 (by decide) (fun _ => ?_) (fun c9 => absurd (by decide) c9)
  refine lv_iload_n hx hb dX11_count_23 rfl (lv_at hl 1 rfl) ?_
  refine lv_tableIn (off := 56) (tgt := 80) hx hb dX11_count_24 (by rw [e3]; decide) (by rw [e3]; decide) (by rw [e3]; rfl) (by decide) ?_
  refine lv_aload_n hx hb dX11_count_80 rfl (lv_at hl 0 rfl) ?_
  refine va_get (D := D) (ref := "IntegerHouse") (ci := 11) (v := .ref h2) (C := RX11) (T := TX11) (N := 15) hx hb hts hin11 hown hK hP 0 rfl rfl 2 (by decide) (hts (.fieldLink RX11 23 "IntegerHouse" "house" "LIntegerHouse$House;") (List.mem_cons_of_mem _ (List.mem_append_left _ (List.mem_append_left _ (List.mem_append_left _ (List.mem_of_getElem? (i := 2) rfl)))))) (fun _ h9 => h9) e4 dX11_count_81 ?_
  refine va_getN (host := "IntegerHouse") (D := D) (ref := "IntegerHouse$House") (ci := 2) (v := .int 0) (C := RX2) (T := TX2) (N := 16) hx hb hts hin2 hown hK hP 2 rfl rfl 11 (by decide) (va_Nw.use rfl (hN.1 ("IntegerHouse", 160, "IntegerHouse$House", "claims", "I", "IntegerHouse") (List.mem_of_getElem? (i := 13) rfl))) (fun _ h9 => h9) e5 dX11_count_84 ?_
  exact W.iret (v := 0) hx hb hr (fun t ht hW => ⟨⟨0, (), rfl, rfl, kB_mk ht hW hP hK hD⟩, hS.F ht⟩) hS.2.2 dX11_count_87
