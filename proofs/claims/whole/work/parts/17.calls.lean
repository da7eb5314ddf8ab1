abbrev cX8_readFormula : ByteArray := prog_10_method_4_code
def yX8_readFormula : MethodName := ⟨RX8, "readFormula", "([BI)Z"⟩
abbrev cX11_follows : ByteArray := prog_1_method_28_code
def yX11_follows : MethodName := ⟨RX11, "follows", "()I"⟩
abbrev cX12_readsFormula : ByteArray := prog_14_method_133_code
def yX12_readsFormula : MethodName := ⟨RX12, "readsFormula", "()Z"⟩
abbrev cX12_builds : ByteArray := prog_14_method_134_code
def yX12_builds : MethodName := ⟨RX12, "builds", "(I)Z"⟩
abbrev cX12_follows : ByteArray := prog_14_method_135_code
def yX12_follows : MethodName := ⟨RX12, "follows", "()I"⟩
def wsX2_variableOf : List Cond := .code yX2_variableOf cX2_variableOf 4 (some .int) :: ([.fieldLink RX2 52 "IntegerHouse$House" "variables" "I", .fieldLink RX2 9 "IntegerHouse$House" "variableNames" "[J"] ++ wsX20)
def wsX2_setFact : List Cond := .code yX2_setFact cX2_setFact 4 none :: ([.fieldLink RX2 28 "IntegerHouse$House" "facts" "[I"] ++ wsX20)
def wsX2_setStep : List Cond := .code yX2_setStep cX2_setStep 4 none :: ([.fieldLink RX2 22 "IntegerHouse$House" "steps" "[I"] ++ wsX20)
def wsX3_numberAt : List Cond := .code yX3_numberAt cX3_numberAt 2 (some .int) :: ([.fieldLink RX3 48 "IntegerHouse$Lexer" "size" "I", .fieldLink RX3 22 "IntegerHouse$Lexer" "numbers" "[I", .constant RX3 58 (1048575)] ++ wsX30)
def wsX11_isComparison : List Cond := .code yX11_isComparison cX11_isComparison 1 (some .boolean) :: ([])
def wsX8_accept_r1 : List Cond := [Cond.fieldLink RX8 39 "IntegerHouse$Reader" "kind" "I", Cond.fieldLink RX8 167 "IntegerHouse$Reader" "tokens" "I", Cond.fieldLink RX8 173 "IntegerHouse$Reader" "open" "I", Cond.fieldLink RX8 15 "IntegerHouse$Reader" "house" "LIntegerHouse$House;", Cond.fieldLink RX8 164 "IntegerHouse$Reader" "slot" "I", Cond.methodLink RX8 95 yX8_fail, Cond.instanceMethod yX8_fail, Cond.selects RX8 yX8_fail yX8_fail, Cond.initialized RX8, Cond.code yX8_fail cX8_fail 2 none, Cond.fieldLink RX8 62 "IntegerHouse$Reader" "faultKind" "I", Cond.fieldLink RX8 136 "IntegerHouse$Reader" "place" "I", Cond.fieldLink RX8 123 "IntegerHouse$Reader" "faultPlace" "I", Cond.methodLink RX8 185 yX2_setToken, Cond.instanceMethod yX2_setToken, Cond.selects RX2 yX2_setToken yX2_setToken, Cond.initialized RX2, Cond.code yX2_setToken cX2_setToken 4 none, Cond.fieldLink RX2 18 "IntegerHouse$House" "tokens" "[I", Cond.methodLink RX8 98 yX8_next, Cond.instanceMethod yX8_next, Cond.selects RX8 yX8_next yX8_next, Cond.code yX8_next cX8_next 1 none, Cond.fieldLink RX8 79 "IntegerHouse$Reader" "at" "I"]
def wsX8_accept_r2 : List Cond := [Cond.fieldLink RX8 9 "IntegerHouse$Reader" "lexer" "LIntegerHouse$Lexer;"]
def wsX8_accept : List Cond := .code yX8_accept cX8_accept 4 none :: ((wsX8_accept_r1 ++ wsX8_accept_r2) ++ wsX80 ++ wsX20 ++ wsX30)
def wsX8_step : List Cond := .code yX8_step cX8_step 2 none :: ([.fieldLink RX8 15 "IntegerHouse$Reader" "house" "LIntegerHouse$House;", .fieldLink RX8 164 "IntegerHouse$Reader" "slot" "I", .fieldLink RX8 170 "IntegerHouse$Reader" "steps" "I", .methodLink RX8 182 yX2_setStep, .instanceMethod yX2_setStep, .selects RX2 yX2_setStep yX2_setStep, .initialized RX2, .code yX2_setStep cX2_setStep 4 none, .fieldLink RX2 22 "IntegerHouse$House" "steps" "[I"] ++ wsX80 ++ wsX20)
def wsX8_factor_r1 : List Cond := [Cond.fieldLink RX8 39 "IntegerHouse$Reader" "kind" "I", Cond.fieldLink RX8 15 "IntegerHouse$Reader" "house" "LIntegerHouse$House;", Cond.fieldLink RX8 9 "IntegerHouse$Reader" "lexer" "LIntegerHouse$Lexer;", Cond.fieldLink RX8 79 "IntegerHouse$Reader" "at" "I", Cond.fieldLink RX8 164 "IntegerHouse$Reader" "slot" "I", Cond.methodLink RX8 82 yX3_nameAt, Cond.instanceMethod yX3_nameAt, Cond.selects RX3 yX3_nameAt yX3_nameAt, Cond.initialized RX3, Cond.code yX3_nameAt cX3_nameAt 2 (some .long), Cond.fieldLink RX3 48 "IntegerHouse$Lexer" "size" "I", Cond.fieldLink RX3 25 "IntegerHouse$Lexer" "names" "[J", Cond.methodLink RX8 92 yX2_variableOf, Cond.instanceMethod yX2_variableOf, Cond.selects RX2 yX2_variableOf yX2_variableOf, Cond.initialized RX2, Cond.code yX2_variableOf cX2_variableOf 4 (some .int), Cond.fieldLink RX2 52 "IntegerHouse$House" "variables" "I", Cond.fieldLink RX2 9 "IntegerHouse$House" "variableNames" "[J", Cond.methodLink RX8 191 yX8_accept, Cond.instanceMethod yX8_accept, Cond.selects RX8 yX8_accept yX8_accept, Cond.initialized RX8, Cond.code yX8_accept cX8_accept 4 none]
def wsX8_factor_r2 : List Cond := [Cond.fieldLink RX8 167 "IntegerHouse$Reader" "tokens" "I", Cond.fieldLink RX8 173 "IntegerHouse$Reader" "open" "I", Cond.methodLink RX8 95 yX8_fail, Cond.instanceMethod yX8_fail, Cond.selects RX8 yX8_fail yX8_fail, Cond.code yX8_fail cX8_fail 2 none, Cond.fieldLink RX8 62 "IntegerHouse$Reader" "faultKind" "I", Cond.fieldLink RX8 136 "IntegerHouse$Reader" "place" "I", Cond.fieldLink RX8 123 "IntegerHouse$Reader" "faultPlace" "I", Cond.methodLink RX8 185 yX2_setToken, Cond.instanceMethod yX2_setToken, Cond.selects RX2 yX2_setToken yX2_setToken, Cond.code yX2_setToken cX2_setToken 4 none, Cond.fieldLink RX2 18 "IntegerHouse$House" "tokens" "[I", Cond.methodLink RX8 98 yX8_next, Cond.instanceMethod yX8_next, Cond.selects RX8 yX8_next yX8_next, Cond.code yX8_next cX8_next 1 none, Cond.methodLink RX8 194 yX8_step, Cond.instanceMethod yX8_step, Cond.selects RX8 yX8_step yX8_step, Cond.code yX8_step cX8_step 2 none, Cond.fieldLink RX8 170 "IntegerHouse$Reader" "steps" "I", Cond.methodLink RX8 182 yX2_setStep]
def wsX8_factor_r3 : List Cond := [Cond.instanceMethod yX2_setStep, Cond.selects RX2 yX2_setStep yX2_setStep, Cond.code yX2_setStep cX2_setStep 4 none, Cond.fieldLink RX2 22 "IntegerHouse$House" "steps" "[I", Cond.methodLink RX8 88 yX2_claimOf, Cond.instanceMethod yX2_claimOf, Cond.selects RX2 yX2_claimOf yX2_claimOf, Cond.code yX2_claimOf cX2_claimOf 4 (some .int), Cond.fieldLink RX2 55 "IntegerHouse$House" "claims" "I", Cond.fieldLink RX2 15 "IntegerHouse$House" "claimNames" "[J", Cond.methodLink RX8 226 yX8_bracketed, Cond.instanceMethod yX8_bracketed, Cond.selects RX8 yX8_bracketed yX8_bracketed, Cond.code yX8_bracketed cX8_bracketed 3 none, Cond.methodLink RX8 176 yX8_term, Cond.instanceMethod yX8_term, Cond.selects RX8 yX8_term yX8_term, Cond.methodLink RX8 206 yX3_numberAt, Cond.instanceMethod yX3_numberAt, Cond.selects RX3 yX3_numberAt yX3_numberAt, Cond.code yX3_numberAt cX3_numberAt 2 (some .int), Cond.fieldLink RX3 22 "IntegerHouse$Lexer" "numbers" "[I", Cond.constant RX3 58 (1048575), Cond.methodLink RX8 209 yX8_checkDivisor]
def wsX8_factor_r4 : List Cond := [Cond.instanceMethod yX8_checkDivisor, Cond.selects RX8 yX8_checkDivisor yX8_checkDivisor, Cond.code yX8_checkDivisor cX8_checkDivisor 2 none, Cond.methodLink RX8 212 yX3_writtenAt, Cond.instanceMethod yX3_writtenAt, Cond.selects RX3 yX3_writtenAt yX3_writtenAt, Cond.code yX3_writtenAt cX3_writtenAt 2 (some .int), Cond.code yX8_part cX8_part 5 none, Cond.methodLink RX8 223 yX8_factor, Cond.instanceMethod yX8_factor, Cond.selects RX8 yX8_factor yX8_factor, Cond.code yX8_term cX8_term 3 none, Cond.methodLink RX8 219 yX8_part, Cond.instanceMethod yX8_part, Cond.selects RX8 yX8_part yX8_part]
def wsX8_factor : List Cond := .code yX8_factor cX8_factor 3 none :: ((wsX8_factor_r1 ++ (wsX8_factor_r2 ++ (wsX8_factor_r3 ++ wsX8_factor_r4))) ++ wsX80 ++ wsX20 ++ wsX30)
def wsX8_part_r1 : List Cond := [Cond.fieldLink RX8 9 "IntegerHouse$Reader" "lexer" "LIntegerHouse$Lexer;", Cond.fieldLink RX8 79 "IntegerHouse$Reader" "at" "I", Cond.fieldLink RX8 39 "IntegerHouse$Reader" "kind" "I", Cond.methodLink RX8 206 yX3_numberAt, Cond.instanceMethod yX3_numberAt, Cond.selects RX3 yX3_numberAt yX3_numberAt, Cond.initialized RX3, Cond.code yX3_numberAt cX3_numberAt 2 (some .int), Cond.fieldLink RX3 48 "IntegerHouse$Lexer" "size" "I", Cond.fieldLink RX3 22 "IntegerHouse$Lexer" "numbers" "[I", Cond.constant RX3 58 (1048575), Cond.methodLink RX8 212 yX3_writtenAt, Cond.instanceMethod yX3_writtenAt, Cond.selects RX3 yX3_writtenAt yX3_writtenAt, Cond.code yX3_writtenAt cX3_writtenAt 2 (some .int), Cond.methodLink RX8 191 yX8_accept, Cond.instanceMethod yX8_accept, Cond.selects RX8 yX8_accept yX8_accept, Cond.initialized RX8, Cond.code yX8_accept cX8_accept 4 none, Cond.fieldLink RX8 167 "IntegerHouse$Reader" "tokens" "I", Cond.fieldLink RX8 173 "IntegerHouse$Reader" "open" "I", Cond.fieldLink RX8 15 "IntegerHouse$Reader" "house" "LIntegerHouse$House;", Cond.fieldLink RX8 164 "IntegerHouse$Reader" "slot" "I"]
def wsX8_part_r2 : List Cond := [Cond.methodLink RX8 95 yX8_fail, Cond.instanceMethod yX8_fail, Cond.selects RX8 yX8_fail yX8_fail, Cond.code yX8_fail cX8_fail 2 none, Cond.fieldLink RX8 62 "IntegerHouse$Reader" "faultKind" "I", Cond.fieldLink RX8 136 "IntegerHouse$Reader" "place" "I", Cond.fieldLink RX8 123 "IntegerHouse$Reader" "faultPlace" "I", Cond.methodLink RX8 185 yX2_setToken, Cond.instanceMethod yX2_setToken, Cond.selects RX2 yX2_setToken yX2_setToken, Cond.initialized RX2, Cond.code yX2_setToken cX2_setToken 4 none, Cond.fieldLink RX2 18 "IntegerHouse$House" "tokens" "[I", Cond.methodLink RX8 98 yX8_next, Cond.instanceMethod yX8_next, Cond.selects RX8 yX8_next yX8_next, Cond.code yX8_next cX8_next 1 none, Cond.methodLink RX8 223 yX8_factor, Cond.instanceMethod yX8_factor, Cond.selects RX8 yX8_factor yX8_factor, Cond.methodLink RX8 194 yX8_step, Cond.instanceMethod yX8_step, Cond.selects RX8 yX8_step yX8_step, Cond.code yX8_step cX8_step 2 none]
def wsX8_part_r3 : List Cond := [Cond.fieldLink RX8 170 "IntegerHouse$Reader" "steps" "I", Cond.methodLink RX8 182 yX2_setStep, Cond.instanceMethod yX2_setStep, Cond.selects RX2 yX2_setStep yX2_setStep, Cond.code yX2_setStep cX2_setStep 4 none, Cond.fieldLink RX2 22 "IntegerHouse$House" "steps" "[I", Cond.code yX8_bracketed cX8_bracketed 3 none, Cond.methodLink RX8 176 yX8_term, Cond.instanceMethod yX8_term, Cond.selects RX8 yX8_term yX8_term, Cond.methodLink RX8 209 yX8_checkDivisor, Cond.instanceMethod yX8_checkDivisor, Cond.selects RX8 yX8_checkDivisor yX8_checkDivisor, Cond.code yX8_checkDivisor cX8_checkDivisor 2 none, Cond.code yX8_factor cX8_factor 3 none, Cond.methodLink RX8 82 yX3_nameAt, Cond.instanceMethod yX3_nameAt, Cond.selects RX3 yX3_nameAt yX3_nameAt, Cond.code yX3_nameAt cX3_nameAt 2 (some .long), Cond.fieldLink RX3 25 "IntegerHouse$Lexer" "names" "[J", Cond.methodLink RX8 92 yX2_variableOf, Cond.instanceMethod yX2_variableOf, Cond.selects RX2 yX2_variableOf yX2_variableOf, Cond.code yX2_variableOf cX2_variableOf 4 (some .int)]
def wsX8_part_r4 : List Cond := [Cond.fieldLink RX2 52 "IntegerHouse$House" "variables" "I", Cond.fieldLink RX2 9 "IntegerHouse$House" "variableNames" "[J", Cond.methodLink RX8 88 yX2_claimOf, Cond.instanceMethod yX2_claimOf, Cond.selects RX2 yX2_claimOf yX2_claimOf, Cond.code yX2_claimOf cX2_claimOf 4 (some .int), Cond.fieldLink RX2 55 "IntegerHouse$House" "claims" "I", Cond.fieldLink RX2 15 "IntegerHouse$House" "claimNames" "[J", Cond.methodLink RX8 226 yX8_bracketed, Cond.instanceMethod yX8_bracketed, Cond.selects RX8 yX8_bracketed yX8_bracketed, Cond.code yX8_term cX8_term 3 none, Cond.methodLink RX8 219 yX8_part, Cond.instanceMethod yX8_part, Cond.selects RX8 yX8_part yX8_part]
def wsX8_part : List Cond := .code yX8_part cX8_part 5 none :: ((wsX8_part_r1 ++ (wsX8_part_r2 ++ (wsX8_part_r3 ++ wsX8_part_r4))) ++ wsX80 ++ wsX20 ++ wsX30)
def wsX8_term_r1 : List Cond := [Cond.fieldLink RX8 39 "IntegerHouse$Reader" "kind" "I", Cond.methodLink RX8 191 yX8_accept, Cond.instanceMethod yX8_accept, Cond.selects RX8 yX8_accept yX8_accept, Cond.initialized RX8, Cond.code yX8_accept cX8_accept 4 none, Cond.fieldLink RX8 167 "IntegerHouse$Reader" "tokens" "I", Cond.fieldLink RX8 173 "IntegerHouse$Reader" "open" "I", Cond.fieldLink RX8 15 "IntegerHouse$Reader" "house" "LIntegerHouse$House;", Cond.fieldLink RX8 164 "IntegerHouse$Reader" "slot" "I", Cond.methodLink RX8 95 yX8_fail, Cond.instanceMethod yX8_fail, Cond.selects RX8 yX8_fail yX8_fail, Cond.code yX8_fail cX8_fail 2 none, Cond.fieldLink RX8 62 "IntegerHouse$Reader" "faultKind" "I", Cond.fieldLink RX8 136 "IntegerHouse$Reader" "place" "I", Cond.fieldLink RX8 123 "IntegerHouse$Reader" "faultPlace" "I", Cond.methodLink RX8 185 yX2_setToken, Cond.instanceMethod yX2_setToken, Cond.selects RX2 yX2_setToken yX2_setToken, Cond.initialized RX2, Cond.code yX2_setToken cX2_setToken 4 none, Cond.fieldLink RX2 18 "IntegerHouse$House" "tokens" "[I", Cond.methodLink RX8 98 yX8_next]
def wsX8_term_r2 : List Cond := [Cond.instanceMethod yX8_next, Cond.selects RX8 yX8_next yX8_next, Cond.code yX8_next cX8_next 1 none, Cond.fieldLink RX8 79 "IntegerHouse$Reader" "at" "I", Cond.fieldLink RX8 9 "IntegerHouse$Reader" "lexer" "LIntegerHouse$Lexer;", Cond.methodLink RX8 219 yX8_part, Cond.instanceMethod yX8_part, Cond.selects RX8 yX8_part yX8_part, Cond.methodLink RX8 194 yX8_step, Cond.instanceMethod yX8_step, Cond.selects RX8 yX8_step yX8_step, Cond.code yX8_step cX8_step 2 none, Cond.fieldLink RX8 170 "IntegerHouse$Reader" "steps" "I", Cond.methodLink RX8 182 yX2_setStep, Cond.instanceMethod yX2_setStep, Cond.selects RX2 yX2_setStep yX2_setStep, Cond.code yX2_setStep cX2_setStep 4 none, Cond.fieldLink RX2 22 "IntegerHouse$House" "steps" "[I", Cond.code yX8_bracketed cX8_bracketed 3 none, Cond.methodLink RX8 176 yX8_term, Cond.instanceMethod yX8_term, Cond.selects RX8 yX8_term yX8_term, Cond.methodLink RX8 206 yX3_numberAt, Cond.instanceMethod yX3_numberAt]
def wsX8_term_r3 : List Cond := [Cond.selects RX3 yX3_numberAt yX3_numberAt, Cond.initialized RX3, Cond.code yX3_numberAt cX3_numberAt 2 (some .int), Cond.fieldLink RX3 48 "IntegerHouse$Lexer" "size" "I", Cond.fieldLink RX3 22 "IntegerHouse$Lexer" "numbers" "[I", Cond.constant RX3 58 (1048575), Cond.methodLink RX8 209 yX8_checkDivisor, Cond.instanceMethod yX8_checkDivisor, Cond.selects RX8 yX8_checkDivisor yX8_checkDivisor, Cond.code yX8_checkDivisor cX8_checkDivisor 2 none, Cond.methodLink RX8 212 yX3_writtenAt, Cond.instanceMethod yX3_writtenAt, Cond.selects RX3 yX3_writtenAt yX3_writtenAt, Cond.code yX3_writtenAt cX3_writtenAt 2 (some .int), Cond.code yX8_factor cX8_factor 3 none, Cond.methodLink RX8 82 yX3_nameAt, Cond.instanceMethod yX3_nameAt, Cond.selects RX3 yX3_nameAt yX3_nameAt, Cond.code yX3_nameAt cX3_nameAt 2 (some .long), Cond.fieldLink RX3 25 "IntegerHouse$Lexer" "names" "[J", Cond.methodLink RX8 92 yX2_variableOf, Cond.instanceMethod yX2_variableOf, Cond.selects RX2 yX2_variableOf yX2_variableOf, Cond.code yX2_variableOf cX2_variableOf 4 (some .int)]
def wsX8_term_r4 : List Cond := [Cond.fieldLink RX2 52 "IntegerHouse$House" "variables" "I", Cond.fieldLink RX2 9 "IntegerHouse$House" "variableNames" "[J", Cond.methodLink RX8 88 yX2_claimOf, Cond.instanceMethod yX2_claimOf, Cond.selects RX2 yX2_claimOf yX2_claimOf, Cond.code yX2_claimOf cX2_claimOf 4 (some .int), Cond.fieldLink RX2 55 "IntegerHouse$House" "claims" "I", Cond.fieldLink RX2 15 "IntegerHouse$House" "claimNames" "[J", Cond.methodLink RX8 226 yX8_bracketed, Cond.instanceMethod yX8_bracketed, Cond.selects RX8 yX8_bracketed yX8_bracketed, Cond.code yX8_part cX8_part 5 none, Cond.methodLink RX8 223 yX8_factor, Cond.instanceMethod yX8_factor, Cond.selects RX8 yX8_factor yX8_factor]
def wsX8_term : List Cond := .code yX8_term cX8_term 3 none :: ((wsX8_term_r1 ++ (wsX8_term_r2 ++ (wsX8_term_r3 ++ wsX8_term_r4))) ++ wsX80 ++ wsX20 ++ wsX30)
def wsX8_both_r1 : List Cond := [Cond.fieldLink RX8 39 "IntegerHouse$Reader" "kind" "I", Cond.methodLink RX8 200 yX8_one, Cond.instanceMethod yX8_one, Cond.selects RX8 yX8_one yX8_one, Cond.initialized RX8, Cond.methodLink RX8 191 yX8_accept, Cond.instanceMethod yX8_accept, Cond.selects RX8 yX8_accept yX8_accept, Cond.code yX8_accept cX8_accept 4 none, Cond.fieldLink RX8 167 "IntegerHouse$Reader" "tokens" "I", Cond.fieldLink RX8 173 "IntegerHouse$Reader" "open" "I", Cond.fieldLink RX8 15 "IntegerHouse$Reader" "house" "LIntegerHouse$House;", Cond.fieldLink RX8 164 "IntegerHouse$Reader" "slot" "I", Cond.methodLink RX8 95 yX8_fail, Cond.instanceMethod yX8_fail, Cond.selects RX8 yX8_fail yX8_fail, Cond.code yX8_fail cX8_fail 2 none, Cond.fieldLink RX8 62 "IntegerHouse$Reader" "faultKind" "I", Cond.fieldLink RX8 136 "IntegerHouse$Reader" "place" "I", Cond.fieldLink RX8 123 "IntegerHouse$Reader" "faultPlace" "I", Cond.methodLink RX8 185 yX2_setToken, Cond.instanceMethod yX2_setToken, Cond.selects RX2 yX2_setToken yX2_setToken, Cond.initialized RX2]
def wsX8_both_r2 : List Cond := [Cond.code yX2_setToken cX2_setToken 4 none, Cond.fieldLink RX2 18 "IntegerHouse$House" "tokens" "[I", Cond.methodLink RX8 98 yX8_next, Cond.instanceMethod yX8_next, Cond.selects RX8 yX8_next yX8_next, Cond.code yX8_next cX8_next 1 none, Cond.fieldLink RX8 79 "IntegerHouse$Reader" "at" "I", Cond.fieldLink RX8 9 "IntegerHouse$Reader" "lexer" "LIntegerHouse$Lexer;", Cond.methodLink RX8 194 yX8_step, Cond.instanceMethod yX8_step, Cond.selects RX8 yX8_step yX8_step, Cond.code yX8_step cX8_step 2 none, Cond.fieldLink RX8 170 "IntegerHouse$Reader" "steps" "I", Cond.methodLink RX8 182 yX2_setStep, Cond.instanceMethod yX2_setStep, Cond.selects RX2 yX2_setStep yX2_setStep, Cond.code yX2_setStep cX2_setStep 4 none, Cond.fieldLink RX2 22 "IntegerHouse$House" "steps" "[I", Cond.code yX8_formula cX8_formula 2 none, Cond.methodLink RX8 188 yX8_side, Cond.instanceMethod yX8_side, Cond.selects RX8 yX8_side yX8_side, Cond.code yX8_one cX8_one 4 none, Cond.methodLink RX8 82 yX3_nameAt]
def wsX8_both_r3 : List Cond := [Cond.instanceMethod yX3_nameAt, Cond.selects RX3 yX3_nameAt yX3_nameAt, Cond.initialized RX3, Cond.code yX3_nameAt cX3_nameAt 2 (some .long), Cond.fieldLink RX3 48 "IntegerHouse$Lexer" "size" "I", Cond.fieldLink RX3 25 "IntegerHouse$Lexer" "names" "[J", Cond.methodLink RX8 88 yX2_claimOf, Cond.instanceMethod yX2_claimOf, Cond.selects RX2 yX2_claimOf yX2_claimOf, Cond.code yX2_claimOf cX2_claimOf 4 (some .int), Cond.fieldLink RX2 55 "IntegerHouse$House" "claims" "I", Cond.fieldLink RX2 15 "IntegerHouse$House" "claimNames" "[J", Cond.methodLink RX8 179 yX8_formula, Cond.instanceMethod yX8_formula, Cond.selects RX8 yX8_formula yX8_formula, Cond.methodLink RX8 203 yX3_kindAt, Cond.instanceMethod yX3_kindAt, Cond.selects RX3 yX3_kindAt yX3_kindAt, Cond.code yX3_kindAt cX3_kindAt 2 (some .int), Cond.fieldLink RX3 15 "IntegerHouse$Lexer" "kinds" "[I", Cond.methodLink RX8 206 yX3_numberAt, Cond.instanceMethod yX3_numberAt, Cond.selects RX3 yX3_numberAt yX3_numberAt, Cond.code yX3_numberAt cX3_numberAt 2 (some .int)]
def wsX8_both_r4 : List Cond := [Cond.fieldLink RX3 22 "IntegerHouse$Lexer" "numbers" "[I", Cond.constant RX3 58 (1048575), Cond.methodLink RX8 209 yX8_checkDivisor, Cond.instanceMethod yX8_checkDivisor, Cond.selects RX8 yX8_checkDivisor yX8_checkDivisor, Cond.code yX8_checkDivisor cX8_checkDivisor 2 none, Cond.methodLink RX8 212 yX3_writtenAt, Cond.instanceMethod yX3_writtenAt, Cond.selects RX3 yX3_writtenAt yX3_writtenAt, Cond.code yX3_writtenAt cX3_writtenAt 2 (some .int), Cond.methodLink RX8 176 yX8_term, Cond.instanceMethod yX8_term, Cond.selects RX8 yX8_term yX8_term, Cond.code yX8_term cX8_term 3 none, Cond.methodLink RX8 219 yX8_part, Cond.instanceMethod yX8_part, Cond.selects RX8 yX8_part yX8_part, Cond.code yX8_bracketed cX8_bracketed 3 none, Cond.code yX8_factor cX8_factor 3 none, Cond.methodLink RX8 92 yX2_variableOf, Cond.instanceMethod yX2_variableOf, Cond.selects RX2 yX2_variableOf yX2_variableOf, Cond.code yX2_variableOf cX2_variableOf 4 (some .int), Cond.fieldLink RX2 52 "IntegerHouse$House" "variables" "I"]
def wsX8_both_r5 : List Cond := [Cond.fieldLink RX2 9 "IntegerHouse$House" "variableNames" "[J", Cond.methodLink RX8 226 yX8_bracketed, Cond.instanceMethod yX8_bracketed, Cond.selects RX8 yX8_bracketed yX8_bracketed, Cond.code yX8_part cX8_part 5 none, Cond.methodLink RX8 223 yX8_factor, Cond.instanceMethod yX8_factor, Cond.selects RX8 yX8_factor yX8_factor, Cond.static yX11_isComparison, Cond.initialized RX11, Cond.code yX11_isComparison cX11_isComparison 1 (some .boolean), Cond.code yX8_side cX8_side 2 none, Cond.methodLink RX8 197 yX8_both, Cond.instanceMethod yX8_both, Cond.selects RX8 yX8_both yX8_both]
def wsX8_both : List Cond := .code yX8_both cX8_both 2 none :: ((wsX8_both_r1 ++ (wsX8_both_r2 ++ (wsX8_both_r3 ++ (wsX8_both_r4 ++ wsX8_both_r5)))) ++ wsX80 ++ wsX20 ++ wsX30)
def wsX8_formula_r1 : List Cond := [Cond.fieldLink RX8 39 "IntegerHouse$Reader" "kind" "I", Cond.methodLink RX8 188 yX8_side, Cond.instanceMethod yX8_side, Cond.selects RX8 yX8_side yX8_side, Cond.initialized RX8, Cond.methodLink RX8 191 yX8_accept, Cond.instanceMethod yX8_accept, Cond.selects RX8 yX8_accept yX8_accept, Cond.code yX8_accept cX8_accept 4 none, Cond.fieldLink RX8 167 "IntegerHouse$Reader" "tokens" "I", Cond.fieldLink RX8 173 "IntegerHouse$Reader" "open" "I", Cond.fieldLink RX8 15 "IntegerHouse$Reader" "house" "LIntegerHouse$House;", Cond.fieldLink RX8 164 "IntegerHouse$Reader" "slot" "I", Cond.methodLink RX8 95 yX8_fail, Cond.instanceMethod yX8_fail, Cond.selects RX8 yX8_fail yX8_fail, Cond.code yX8_fail cX8_fail 2 none, Cond.fieldLink RX8 62 "IntegerHouse$Reader" "faultKind" "I", Cond.fieldLink RX8 136 "IntegerHouse$Reader" "place" "I", Cond.fieldLink RX8 123 "IntegerHouse$Reader" "faultPlace" "I", Cond.methodLink RX8 185 yX2_setToken, Cond.instanceMethod yX2_setToken, Cond.selects RX2 yX2_setToken yX2_setToken, Cond.initialized RX2]
def wsX8_formula_r2 : List Cond := [Cond.code yX2_setToken cX2_setToken 4 none, Cond.fieldLink RX2 18 "IntegerHouse$House" "tokens" "[I", Cond.methodLink RX8 98 yX8_next, Cond.instanceMethod yX8_next, Cond.selects RX8 yX8_next yX8_next, Cond.code yX8_next cX8_next 1 none, Cond.fieldLink RX8 79 "IntegerHouse$Reader" "at" "I", Cond.fieldLink RX8 9 "IntegerHouse$Reader" "lexer" "LIntegerHouse$Lexer;", Cond.methodLink RX8 194 yX8_step, Cond.instanceMethod yX8_step, Cond.selects RX8 yX8_step yX8_step, Cond.code yX8_step cX8_step 2 none, Cond.fieldLink RX8 170 "IntegerHouse$Reader" "steps" "I", Cond.methodLink RX8 182 yX2_setStep, Cond.instanceMethod yX2_setStep, Cond.selects RX2 yX2_setStep yX2_setStep, Cond.code yX2_setStep cX2_setStep 4 none, Cond.fieldLink RX2 22 "IntegerHouse$House" "steps" "[I", Cond.code yX8_both cX8_both 2 none, Cond.methodLink RX8 200 yX8_one, Cond.instanceMethod yX8_one, Cond.selects RX8 yX8_one yX8_one, Cond.code yX8_one cX8_one 4 none, Cond.methodLink RX8 82 yX3_nameAt]
def wsX8_formula_r3 : List Cond := [Cond.instanceMethod yX3_nameAt, Cond.selects RX3 yX3_nameAt yX3_nameAt, Cond.initialized RX3, Cond.code yX3_nameAt cX3_nameAt 2 (some .long), Cond.fieldLink RX3 48 "IntegerHouse$Lexer" "size" "I", Cond.fieldLink RX3 25 "IntegerHouse$Lexer" "names" "[J", Cond.methodLink RX8 88 yX2_claimOf, Cond.instanceMethod yX2_claimOf, Cond.selects RX2 yX2_claimOf yX2_claimOf, Cond.code yX2_claimOf cX2_claimOf 4 (some .int), Cond.fieldLink RX2 55 "IntegerHouse$House" "claims" "I", Cond.fieldLink RX2 15 "IntegerHouse$House" "claimNames" "[J", Cond.methodLink RX8 179 yX8_formula, Cond.instanceMethod yX8_formula, Cond.selects RX8 yX8_formula yX8_formula, Cond.methodLink RX8 203 yX3_kindAt, Cond.instanceMethod yX3_kindAt, Cond.selects RX3 yX3_kindAt yX3_kindAt, Cond.code yX3_kindAt cX3_kindAt 2 (some .int), Cond.fieldLink RX3 15 "IntegerHouse$Lexer" "kinds" "[I", Cond.methodLink RX8 206 yX3_numberAt, Cond.instanceMethod yX3_numberAt, Cond.selects RX3 yX3_numberAt yX3_numberAt, Cond.code yX3_numberAt cX3_numberAt 2 (some .int)]
def wsX8_formula_r4 : List Cond := [Cond.fieldLink RX3 22 "IntegerHouse$Lexer" "numbers" "[I", Cond.constant RX3 58 (1048575), Cond.methodLink RX8 209 yX8_checkDivisor, Cond.instanceMethod yX8_checkDivisor, Cond.selects RX8 yX8_checkDivisor yX8_checkDivisor, Cond.code yX8_checkDivisor cX8_checkDivisor 2 none, Cond.methodLink RX8 212 yX3_writtenAt, Cond.instanceMethod yX3_writtenAt, Cond.selects RX3 yX3_writtenAt yX3_writtenAt, Cond.code yX3_writtenAt cX3_writtenAt 2 (some .int), Cond.methodLink RX8 176 yX8_term, Cond.instanceMethod yX8_term, Cond.selects RX8 yX8_term yX8_term, Cond.code yX8_term cX8_term 3 none, Cond.methodLink RX8 219 yX8_part, Cond.instanceMethod yX8_part, Cond.selects RX8 yX8_part yX8_part, Cond.code yX8_bracketed cX8_bracketed 3 none, Cond.code yX8_factor cX8_factor 3 none, Cond.methodLink RX8 92 yX2_variableOf, Cond.instanceMethod yX2_variableOf, Cond.selects RX2 yX2_variableOf yX2_variableOf, Cond.code yX2_variableOf cX2_variableOf 4 (some .int), Cond.fieldLink RX2 52 "IntegerHouse$House" "variables" "I"]
def wsX8_formula_r5 : List Cond := [Cond.fieldLink RX2 9 "IntegerHouse$House" "variableNames" "[J", Cond.methodLink RX8 226 yX8_bracketed, Cond.instanceMethod yX8_bracketed, Cond.selects RX8 yX8_bracketed yX8_bracketed, Cond.code yX8_part cX8_part 5 none, Cond.methodLink RX8 223 yX8_factor, Cond.instanceMethod yX8_factor, Cond.selects RX8 yX8_factor yX8_factor, Cond.static yX11_isComparison, Cond.initialized RX11, Cond.code yX11_isComparison cX11_isComparison 1 (some .boolean), Cond.code yX8_side cX8_side 2 none, Cond.methodLink RX8 197 yX8_both, Cond.instanceMethod yX8_both, Cond.selects RX8 yX8_both yX8_both]
def wsX8_formula : List Cond := .code yX8_formula cX8_formula 2 none :: ((wsX8_formula_r1 ++ (wsX8_formula_r2 ++ (wsX8_formula_r3 ++ (wsX8_formula_r4 ++ wsX8_formula_r5)))) ++ wsX80 ++ wsX20 ++ wsX30)
def wsX8_one_r1 : List Cond := [Cond.fieldLink RX8 39 "IntegerHouse$Reader" "kind" "I", Cond.fieldLink RX8 15 "IntegerHouse$Reader" "house" "LIntegerHouse$House;", Cond.fieldLink RX8 9 "IntegerHouse$Reader" "lexer" "LIntegerHouse$Lexer;", Cond.fieldLink RX8 79 "IntegerHouse$Reader" "at" "I", Cond.fieldLink RX8 173 "IntegerHouse$Reader" "open" "I", Cond.methodLink RX8 82 yX3_nameAt, Cond.instanceMethod yX3_nameAt, Cond.selects RX3 yX3_nameAt yX3_nameAt, Cond.initialized RX3, Cond.code yX3_nameAt cX3_nameAt 2 (some .long), Cond.fieldLink RX3 48 "IntegerHouse$Lexer" "size" "I", Cond.fieldLink RX3 25 "IntegerHouse$Lexer" "names" "[J", Cond.methodLink RX8 88 yX2_claimOf, Cond.instanceMethod yX2_claimOf, Cond.selects RX2 yX2_claimOf yX2_claimOf, Cond.initialized RX2, Cond.code yX2_claimOf cX2_claimOf 4 (some .int), Cond.fieldLink RX2 55 "IntegerHouse$House" "claims" "I", Cond.fieldLink RX2 15 "IntegerHouse$House" "claimNames" "[J", Cond.methodLink RX8 191 yX8_accept, Cond.instanceMethod yX8_accept, Cond.selects RX8 yX8_accept yX8_accept, Cond.initialized RX8, Cond.code yX8_accept cX8_accept 4 none]
def wsX8_one_r2 : List Cond := [Cond.fieldLink RX8 167 "IntegerHouse$Reader" "tokens" "I", Cond.fieldLink RX8 164 "IntegerHouse$Reader" "slot" "I", Cond.methodLink RX8 95 yX8_fail, Cond.instanceMethod yX8_fail, Cond.selects RX8 yX8_fail yX8_fail, Cond.code yX8_fail cX8_fail 2 none, Cond.fieldLink RX8 62 "IntegerHouse$Reader" "faultKind" "I", Cond.fieldLink RX8 136 "IntegerHouse$Reader" "place" "I", Cond.fieldLink RX8 123 "IntegerHouse$Reader" "faultPlace" "I", Cond.methodLink RX8 185 yX2_setToken, Cond.instanceMethod yX2_setToken, Cond.selects RX2 yX2_setToken yX2_setToken, Cond.code yX2_setToken cX2_setToken 4 none, Cond.fieldLink RX2 18 "IntegerHouse$House" "tokens" "[I", Cond.methodLink RX8 98 yX8_next, Cond.instanceMethod yX8_next, Cond.selects RX8 yX8_next yX8_next, Cond.code yX8_next cX8_next 1 none, Cond.methodLink RX8 200 yX8_one, Cond.instanceMethod yX8_one, Cond.selects RX8 yX8_one yX8_one, Cond.methodLink RX8 194 yX8_step, Cond.instanceMethod yX8_step, Cond.selects RX8 yX8_step yX8_step]
def wsX8_one_r3 : List Cond := [Cond.code yX8_step cX8_step 2 none, Cond.fieldLink RX8 170 "IntegerHouse$Reader" "steps" "I", Cond.methodLink RX8 182 yX2_setStep, Cond.instanceMethod yX2_setStep, Cond.selects RX2 yX2_setStep yX2_setStep, Cond.code yX2_setStep cX2_setStep 4 none, Cond.fieldLink RX2 22 "IntegerHouse$House" "steps" "[I", Cond.methodLink RX8 179 yX8_formula, Cond.instanceMethod yX8_formula, Cond.selects RX8 yX8_formula yX8_formula, Cond.methodLink RX8 203 yX3_kindAt, Cond.instanceMethod yX3_kindAt, Cond.selects RX3 yX3_kindAt yX3_kindAt, Cond.code yX3_kindAt cX3_kindAt 2 (some .int), Cond.fieldLink RX3 15 "IntegerHouse$Lexer" "kinds" "[I", Cond.methodLink RX8 206 yX3_numberAt, Cond.instanceMethod yX3_numberAt, Cond.selects RX3 yX3_numberAt yX3_numberAt, Cond.code yX3_numberAt cX3_numberAt 2 (some .int), Cond.fieldLink RX3 22 "IntegerHouse$Lexer" "numbers" "[I", Cond.constant RX3 58 (1048575), Cond.methodLink RX8 209 yX8_checkDivisor, Cond.instanceMethod yX8_checkDivisor, Cond.selects RX8 yX8_checkDivisor yX8_checkDivisor]
def wsX8_one_r4 : List Cond := [Cond.code yX8_checkDivisor cX8_checkDivisor 2 none, Cond.methodLink RX8 212 yX3_writtenAt, Cond.instanceMethod yX3_writtenAt, Cond.selects RX3 yX3_writtenAt yX3_writtenAt, Cond.code yX3_writtenAt cX3_writtenAt 2 (some .int), Cond.methodLink RX8 176 yX8_term, Cond.instanceMethod yX8_term, Cond.selects RX8 yX8_term yX8_term, Cond.code yX8_term cX8_term 3 none, Cond.methodLink RX8 219 yX8_part, Cond.instanceMethod yX8_part, Cond.selects RX8 yX8_part yX8_part, Cond.code yX8_bracketed cX8_bracketed 3 none, Cond.code yX8_factor cX8_factor 3 none, Cond.methodLink RX8 92 yX2_variableOf, Cond.instanceMethod yX2_variableOf, Cond.selects RX2 yX2_variableOf yX2_variableOf, Cond.code yX2_variableOf cX2_variableOf 4 (some .int), Cond.fieldLink RX2 52 "IntegerHouse$House" "variables" "I", Cond.fieldLink RX2 9 "IntegerHouse$House" "variableNames" "[J", Cond.methodLink RX8 226 yX8_bracketed, Cond.instanceMethod yX8_bracketed, Cond.selects RX8 yX8_bracketed yX8_bracketed, Cond.code yX8_part cX8_part 5 none]
def wsX8_one_r5 : List Cond := [Cond.methodLink RX8 223 yX8_factor, Cond.instanceMethod yX8_factor, Cond.selects RX8 yX8_factor yX8_factor, Cond.static yX11_isComparison, Cond.initialized RX11, Cond.code yX11_isComparison cX11_isComparison 1 (some .boolean), Cond.code yX8_both cX8_both 2 none, Cond.code yX8_formula cX8_formula 2 none, Cond.methodLink RX8 188 yX8_side, Cond.instanceMethod yX8_side, Cond.selects RX8 yX8_side yX8_side, Cond.code yX8_side cX8_side 2 none, Cond.methodLink RX8 197 yX8_both, Cond.instanceMethod yX8_both, Cond.selects RX8 yX8_both yX8_both]
def wsX8_one : List Cond := .code yX8_one cX8_one 4 none :: ((wsX8_one_r1 ++ (wsX8_one_r2 ++ (wsX8_one_r3 ++ (wsX8_one_r4 ++ wsX8_one_r5)))) ++ wsX80 ++ wsX20 ++ wsX30)
def wsX8_side_r1 : List Cond := [Cond.fieldLink RX8 39 "IntegerHouse$Reader" "kind" "I", Cond.methodLink RX8 197 yX8_both, Cond.instanceMethod yX8_both, Cond.selects RX8 yX8_both yX8_both, Cond.initialized RX8, Cond.methodLink RX8 191 yX8_accept, Cond.instanceMethod yX8_accept, Cond.selects RX8 yX8_accept yX8_accept, Cond.code yX8_accept cX8_accept 4 none, Cond.fieldLink RX8 167 "IntegerHouse$Reader" "tokens" "I", Cond.fieldLink RX8 173 "IntegerHouse$Reader" "open" "I", Cond.fieldLink RX8 15 "IntegerHouse$Reader" "house" "LIntegerHouse$House;", Cond.fieldLink RX8 164 "IntegerHouse$Reader" "slot" "I", Cond.methodLink RX8 95 yX8_fail, Cond.instanceMethod yX8_fail, Cond.selects RX8 yX8_fail yX8_fail, Cond.code yX8_fail cX8_fail 2 none, Cond.fieldLink RX8 62 "IntegerHouse$Reader" "faultKind" "I", Cond.fieldLink RX8 136 "IntegerHouse$Reader" "place" "I", Cond.fieldLink RX8 123 "IntegerHouse$Reader" "faultPlace" "I", Cond.methodLink RX8 185 yX2_setToken, Cond.instanceMethod yX2_setToken, Cond.selects RX2 yX2_setToken yX2_setToken, Cond.initialized RX2]
def wsX8_side_r2 : List Cond := [Cond.code yX2_setToken cX2_setToken 4 none, Cond.fieldLink RX2 18 "IntegerHouse$House" "tokens" "[I", Cond.methodLink RX8 98 yX8_next, Cond.instanceMethod yX8_next, Cond.selects RX8 yX8_next yX8_next, Cond.code yX8_next cX8_next 1 none, Cond.fieldLink RX8 79 "IntegerHouse$Reader" "at" "I", Cond.fieldLink RX8 9 "IntegerHouse$Reader" "lexer" "LIntegerHouse$Lexer;", Cond.methodLink RX8 194 yX8_step, Cond.instanceMethod yX8_step, Cond.selects RX8 yX8_step yX8_step, Cond.code yX8_step cX8_step 2 none, Cond.fieldLink RX8 170 "IntegerHouse$Reader" "steps" "I", Cond.methodLink RX8 182 yX2_setStep, Cond.instanceMethod yX2_setStep, Cond.selects RX2 yX2_setStep yX2_setStep, Cond.code yX2_setStep cX2_setStep 4 none, Cond.fieldLink RX2 22 "IntegerHouse$House" "steps" "[I", Cond.code yX8_both cX8_both 2 none, Cond.methodLink RX8 200 yX8_one, Cond.instanceMethod yX8_one, Cond.selects RX8 yX8_one yX8_one, Cond.code yX8_formula cX8_formula 2 none, Cond.methodLink RX8 188 yX8_side]
def wsX8_side_r3 : List Cond := [Cond.instanceMethod yX8_side, Cond.selects RX8 yX8_side yX8_side, Cond.code yX8_one cX8_one 4 none, Cond.methodLink RX8 82 yX3_nameAt, Cond.instanceMethod yX3_nameAt, Cond.selects RX3 yX3_nameAt yX3_nameAt, Cond.initialized RX3, Cond.code yX3_nameAt cX3_nameAt 2 (some .long), Cond.fieldLink RX3 48 "IntegerHouse$Lexer" "size" "I", Cond.fieldLink RX3 25 "IntegerHouse$Lexer" "names" "[J", Cond.methodLink RX8 88 yX2_claimOf, Cond.instanceMethod yX2_claimOf, Cond.selects RX2 yX2_claimOf yX2_claimOf, Cond.code yX2_claimOf cX2_claimOf 4 (some .int), Cond.fieldLink RX2 55 "IntegerHouse$House" "claims" "I", Cond.fieldLink RX2 15 "IntegerHouse$House" "claimNames" "[J", Cond.methodLink RX8 179 yX8_formula, Cond.instanceMethod yX8_formula, Cond.selects RX8 yX8_formula yX8_formula, Cond.methodLink RX8 203 yX3_kindAt, Cond.instanceMethod yX3_kindAt, Cond.selects RX3 yX3_kindAt yX3_kindAt, Cond.code yX3_kindAt cX3_kindAt 2 (some .int), Cond.fieldLink RX3 15 "IntegerHouse$Lexer" "kinds" "[I"]
def wsX8_side_r4 : List Cond := [Cond.methodLink RX8 206 yX3_numberAt, Cond.instanceMethod yX3_numberAt, Cond.selects RX3 yX3_numberAt yX3_numberAt, Cond.code yX3_numberAt cX3_numberAt 2 (some .int), Cond.fieldLink RX3 22 "IntegerHouse$Lexer" "numbers" "[I", Cond.constant RX3 58 (1048575), Cond.methodLink RX8 209 yX8_checkDivisor, Cond.instanceMethod yX8_checkDivisor, Cond.selects RX8 yX8_checkDivisor yX8_checkDivisor, Cond.code yX8_checkDivisor cX8_checkDivisor 2 none, Cond.methodLink RX8 212 yX3_writtenAt, Cond.instanceMethod yX3_writtenAt, Cond.selects RX3 yX3_writtenAt yX3_writtenAt, Cond.code yX3_writtenAt cX3_writtenAt 2 (some .int), Cond.methodLink RX8 176 yX8_term, Cond.instanceMethod yX8_term, Cond.selects RX8 yX8_term yX8_term, Cond.code yX8_term cX8_term 3 none, Cond.methodLink RX8 219 yX8_part, Cond.instanceMethod yX8_part, Cond.selects RX8 yX8_part yX8_part, Cond.code yX8_bracketed cX8_bracketed 3 none, Cond.code yX8_factor cX8_factor 3 none, Cond.methodLink RX8 92 yX2_variableOf]
def wsX8_side_r5 : List Cond := [Cond.instanceMethod yX2_variableOf, Cond.selects RX2 yX2_variableOf yX2_variableOf, Cond.code yX2_variableOf cX2_variableOf 4 (some .int), Cond.fieldLink RX2 52 "IntegerHouse$House" "variables" "I", Cond.fieldLink RX2 9 "IntegerHouse$House" "variableNames" "[J", Cond.methodLink RX8 226 yX8_bracketed, Cond.instanceMethod yX8_bracketed, Cond.selects RX8 yX8_bracketed yX8_bracketed, Cond.code yX8_part cX8_part 5 none, Cond.methodLink RX8 223 yX8_factor, Cond.instanceMethod yX8_factor, Cond.selects RX8 yX8_factor yX8_factor, Cond.static yX11_isComparison, Cond.initialized RX11, Cond.code yX11_isComparison cX11_isComparison 1 (some .boolean)]
def wsX8_side : List Cond := .code yX8_side cX8_side 2 none :: ((wsX8_side_r1 ++ (wsX8_side_r2 ++ (wsX8_side_r3 ++ (wsX8_side_r4 ++ wsX8_side_r5)))) ++ wsX80 ++ wsX20 ++ wsX30)
def wsX8_readInto_r1 : List Cond := [Cond.fieldLink RX8 164 "IntegerHouse$Reader" "slot" "I", Cond.fieldLink RX8 167 "IntegerHouse$Reader" "tokens" "I", Cond.fieldLink RX8 170 "IntegerHouse$Reader" "steps" "I", Cond.fieldLink RX8 173 "IntegerHouse$Reader" "open" "I", Cond.fieldLink RX8 15 "IntegerHouse$Reader" "house" "LIntegerHouse$House;", Cond.fieldLink RX8 136 "IntegerHouse$Reader" "place" "I", Cond.methodLink RX8 157 yX2_setFact, Cond.instanceMethod yX2_setFact, Cond.selects RX2 yX2_setFact yX2_setFact, Cond.initialized RX2, Cond.code yX2_setFact cX2_setFact 4 none, Cond.fieldLink RX2 28 "IntegerHouse$House" "facts" "[I", Cond.methodLink RX8 176 yX8_term, Cond.instanceMethod yX8_term, Cond.selects RX8 yX8_term yX8_term, Cond.initialized RX8, Cond.code yX8_term cX8_term 3 none, Cond.fieldLink RX8 39 "IntegerHouse$Reader" "kind" "I", Cond.methodLink RX8 191 yX8_accept, Cond.instanceMethod yX8_accept, Cond.selects RX8 yX8_accept yX8_accept, Cond.code yX8_accept cX8_accept 4 none, Cond.methodLink RX8 95 yX8_fail, Cond.instanceMethod yX8_fail]
def wsX8_readInto_r2 : List Cond := [Cond.selects RX8 yX8_fail yX8_fail, Cond.code yX8_fail cX8_fail 2 none, Cond.fieldLink RX8 62 "IntegerHouse$Reader" "faultKind" "I", Cond.fieldLink RX8 123 "IntegerHouse$Reader" "faultPlace" "I", Cond.methodLink RX8 185 yX2_setToken, Cond.instanceMethod yX2_setToken, Cond.selects RX2 yX2_setToken yX2_setToken, Cond.code yX2_setToken cX2_setToken 4 none, Cond.fieldLink RX2 18 "IntegerHouse$House" "tokens" "[I", Cond.methodLink RX8 98 yX8_next, Cond.instanceMethod yX8_next, Cond.selects RX8 yX8_next yX8_next, Cond.code yX8_next cX8_next 1 none, Cond.fieldLink RX8 79 "IntegerHouse$Reader" "at" "I", Cond.fieldLink RX8 9 "IntegerHouse$Reader" "lexer" "LIntegerHouse$Lexer;", Cond.methodLink RX8 219 yX8_part, Cond.instanceMethod yX8_part, Cond.selects RX8 yX8_part yX8_part, Cond.methodLink RX8 194 yX8_step, Cond.instanceMethod yX8_step, Cond.selects RX8 yX8_step yX8_step, Cond.code yX8_step cX8_step 2 none, Cond.methodLink RX8 182 yX2_setStep, Cond.instanceMethod yX2_setStep]
def wsX8_readInto_r3 : List Cond := [Cond.selects RX2 yX2_setStep yX2_setStep, Cond.code yX2_setStep cX2_setStep 4 none, Cond.fieldLink RX2 22 "IntegerHouse$House" "steps" "[I", Cond.code yX8_bracketed cX8_bracketed 3 none, Cond.methodLink RX8 206 yX3_numberAt, Cond.instanceMethod yX3_numberAt, Cond.selects RX3 yX3_numberAt yX3_numberAt, Cond.initialized RX3, Cond.code yX3_numberAt cX3_numberAt 2 (some .int), Cond.fieldLink RX3 48 "IntegerHouse$Lexer" "size" "I", Cond.fieldLink RX3 22 "IntegerHouse$Lexer" "numbers" "[I", Cond.constant RX3 58 (1048575), Cond.methodLink RX8 209 yX8_checkDivisor, Cond.instanceMethod yX8_checkDivisor, Cond.selects RX8 yX8_checkDivisor yX8_checkDivisor, Cond.code yX8_checkDivisor cX8_checkDivisor 2 none, Cond.methodLink RX8 212 yX3_writtenAt, Cond.instanceMethod yX3_writtenAt, Cond.selects RX3 yX3_writtenAt yX3_writtenAt, Cond.code yX3_writtenAt cX3_writtenAt 2 (some .int), Cond.code yX8_factor cX8_factor 3 none, Cond.methodLink RX8 82 yX3_nameAt, Cond.instanceMethod yX3_nameAt, Cond.selects RX3 yX3_nameAt yX3_nameAt]
def wsX8_readInto_r4 : List Cond := [Cond.code yX3_nameAt cX3_nameAt 2 (some .long), Cond.fieldLink RX3 25 "IntegerHouse$Lexer" "names" "[J", Cond.methodLink RX8 92 yX2_variableOf, Cond.instanceMethod yX2_variableOf, Cond.selects RX2 yX2_variableOf yX2_variableOf, Cond.code yX2_variableOf cX2_variableOf 4 (some .int), Cond.fieldLink RX2 52 "IntegerHouse$House" "variables" "I", Cond.fieldLink RX2 9 "IntegerHouse$House" "variableNames" "[J", Cond.methodLink RX8 88 yX2_claimOf, Cond.instanceMethod yX2_claimOf, Cond.selects RX2 yX2_claimOf yX2_claimOf, Cond.code yX2_claimOf cX2_claimOf 4 (some .int), Cond.fieldLink RX2 55 "IntegerHouse$House" "claims" "I", Cond.fieldLink RX2 15 "IntegerHouse$House" "claimNames" "[J", Cond.methodLink RX8 226 yX8_bracketed, Cond.instanceMethod yX8_bracketed, Cond.selects RX8 yX8_bracketed yX8_bracketed, Cond.code yX8_part cX8_part 5 none, Cond.methodLink RX8 223 yX8_factor, Cond.instanceMethod yX8_factor, Cond.selects RX8 yX8_factor yX8_factor, Cond.methodLink RX8 179 yX8_formula, Cond.instanceMethod yX8_formula, Cond.selects RX8 yX8_formula yX8_formula]
def wsX8_readInto_r5 : List Cond := [Cond.code yX8_formula cX8_formula 2 none, Cond.methodLink RX8 188 yX8_side, Cond.instanceMethod yX8_side, Cond.selects RX8 yX8_side yX8_side, Cond.code yX8_both cX8_both 2 none, Cond.methodLink RX8 200 yX8_one, Cond.instanceMethod yX8_one, Cond.selects RX8 yX8_one yX8_one, Cond.code yX8_one cX8_one 4 none, Cond.methodLink RX8 203 yX3_kindAt, Cond.instanceMethod yX3_kindAt, Cond.selects RX3 yX3_kindAt yX3_kindAt, Cond.code yX3_kindAt cX3_kindAt 2 (some .int), Cond.fieldLink RX3 15 "IntegerHouse$Lexer" "kinds" "[I", Cond.static yX11_isComparison, Cond.initialized RX11, Cond.code yX11_isComparison cX11_isComparison 1 (some .boolean), Cond.code yX8_side cX8_side 2 none, Cond.methodLink RX8 197 yX8_both, Cond.instanceMethod yX8_both, Cond.selects RX8 yX8_both yX8_both]
def wsX8_readInto : List Cond := .code yX8_readInto cX8_readInto 2 none :: ((wsX8_readInto_r1 ++ (wsX8_readInto_r2 ++ (wsX8_readInto_r3 ++ (wsX8_readInto_r4 ++ wsX8_readInto_r5)))) ++ wsX80 ++ wsX20 ++ wsX30)
def wsX8_readFormula_r1 : List Cond := [Cond.fieldLink RX8 62 "IntegerHouse$Reader" "faultKind" "I", Cond.fieldLink RX8 19 "IntegerHouse$Reader" "maker" "LIntegerHouse$Maker;", Cond.methodLink RX8 23 yX8_begin, Cond.instanceMethod yX8_begin, Cond.selects RX8 yX8_begin yX8_begin, Cond.initialized RX8, Cond.code yX8_begin cX8_begin 4 none, Cond.fieldLink RX8 9 "IntegerHouse$Reader" "lexer" "LIntegerHouse$Lexer;", Cond.fieldLink RX8 123 "IntegerHouse$Reader" "faultPlace" "I", Cond.fieldLink RX8 101 "IntegerHouse$Reader" "hasFormula" "Z", Cond.fieldLink RX8 79 "IntegerHouse$Reader" "at" "I", Cond.methodLink RX8 119 yX3_scan, Cond.instanceMethod yX3_scan, Cond.selects RX3 yX3_scan yX3_scan, Cond.initialized RX3, Cond.code yX3_scan cX3_scan 9 none, Cond.fieldLink RX3 28 "IntegerHouse$Lexer" "source" "[B", Cond.fieldLink RX3 55 "IntegerHouse$Lexer" "begin" "I", Cond.fieldLink RX3 52 "IntegerHouse$Lexer" "stop" "I", Cond.fieldLink RX3 48 "IntegerHouse$Lexer" "size" "I", Cond.fieldLink RX3 19 "IntegerHouse$Lexer" "spots" "[I", Cond.fieldLink RX3 15 "IntegerHouse$Lexer" "kinds" "[I", Cond.methodLink RX3 59 yX3_behindBlanks, Cond.instanceMethod yX3_behindBlanks]
def wsX8_readFormula_r2 : List Cond := [Cond.selects RX3 yX3_behindBlanks yX3_behindBlanks, Cond.code yX3_behindBlanks cX3_behindBlanks 3 (some .int), Cond.methodLink RX3 63 yX3_byteAt, Cond.instanceMethod yX3_byteAt, Cond.selects RX3 yX3_byteAt yX3_byteAt, Cond.code yX3_byteAt cX3_byteAt 2 (some .int), Cond.methodLink RX3 66 yX3_isLetter, Cond.static yX3_isLetter, Cond.code yX3_isLetter cX3_isLetter 1 (some .boolean), Cond.methodLink RX3 70 yX3_word, Cond.instanceMethod yX3_word, Cond.selects RX3 yX3_word yX3_word, Cond.code yX3_word cX3_word 9 (some .int), Cond.fieldLink RX3 11 "IntegerHouse$Lexer" "words" "[J", Cond.fieldLink RX3 25 "IntegerHouse$Lexer" "names" "[J", Cond.methodLink RX3 74 yX3_isDigit, Cond.static yX3_isDigit, Cond.code yX3_isDigit cX3_isDigit 1 (some .boolean), Cond.methodLink RX3 77 yX3_digits, Cond.instanceMethod yX3_digits, Cond.selects RX3 yX3_digits yX3_digits, Cond.code yX3_digits cX3_digits 6 (some .int), Cond.fieldLink RX3 22 "IntegerHouse$Lexer" "numbers" "[I", Cond.methodLink RX3 81 yX3_sign]
def wsX8_readFormula_r3 : List Cond := [Cond.instanceMethod yX3_sign, Cond.selects RX3 yX3_sign yX3_sign, Cond.code yX3_sign cX3_sign 6 (some .int), Cond.methodLink RX3 44 yJ0_charAt_5068e, Cond.instanceMethod yJ0_charAt_5068e, Cond.selects RJ0 yJ0_charAt_5068e yJ0_charAt_5068e, Cond.initialized RJ0, Cond.code yJ0_charAt_5068e cJ0_charAt_5068e 2 (some .char), Cond.fieldLink RJ0 9 "java/lang/String" "value" "[B", Cond.methodLink RJ0 492 yJ0_isLatin1_aae02, Cond.instanceMethod yJ0_isLatin1_aae02, Cond.selects RJ0 yJ0_isLatin1_aae02 yJ0_isLatin1_aae02, Cond.code yJ0_isLatin1_aae02 cJ0_isLatin1_aae02 1 (some .boolean), Cond.fieldLink RJ0 38 "java/lang/String" "COMPACT_STRINGS" "Z", Cond.fieldLink RJ0 15 "java/lang/String" "coder" "B", Cond.methodLink RJ0 495 yJ1_charAt_3b067, Cond.static yJ1_charAt_3b067, Cond.initialized RJ1, Cond.code yJ1_charAt_3b067 cJ1_charAt_3b067 2 (some .char), Cond.methodLink RJ1 9 yJ0_checkIndex_df160, Cond.static yJ0_checkIndex_df160, Cond.code yJ0_checkIndex_df160 cJ0_checkIndex_df160 2 none, Cond.fieldLink RJ0 1053 "jdk/internal/util/Preconditions" "SIOOBE_FORMATTER" "Ljava/util/function/BiFunction;", Cond.methodLink RJ0 1059 yJ3_checkIndex_8e157]
def wsX8_readFormula_r4 : List Cond := [Cond.static yJ3_checkIndex_8e157, Cond.initialized RJ3, Cond.code yJ3_checkIndex_8e157 cJ3_checkIndex_8e157 3 (some .int), Cond.methodLink RJ0 498 yJ2_charAt_3b067, Cond.static yJ2_charAt_3b067, Cond.initialized RJ2, Cond.code yJ2_charAt_3b067 cJ2_charAt_3b067 2 (some .char), Cond.methodLink RJ2 67 yJ2_checkIndex_2214a, Cond.static yJ2_checkIndex_2214a, Cond.code yJ2_checkIndex_2214a cJ2_checkIndex_2214a 2 none, Cond.methodLink RJ2 48 yJ2_length_9d52b, Cond.static yJ2_length_9d52b, Cond.code yJ2_length_9d52b cJ2_length_9d52b 1 (some .int), Cond.methodLink RJ2 414 yJ0_checkIndex_df160, Cond.methodLink RJ2 71 yJ2_getChar_3b067, Cond.static yJ2_getChar_3b067, Cond.code yJ2_getChar_3b067 cJ2_getChar_3b067 2 (some .char), Cond.fieldLink RJ2 44 "java/lang/StringUTF16" "$assertionsDisabled" "Z", Cond.fieldLink RJ2 59 "java/lang/StringUTF16" "HI_BYTE_SHIFT" "I", Cond.fieldLink RJ2 63 "java/lang/StringUTF16" "LO_BYTE_SHIFT" "I", Cond.methodLink RX8 98 yX8_next, Cond.instanceMethod yX8_next, Cond.selects RX8 yX8_next yX8_next, Cond.code yX8_next cX8_next 1 none]
def wsX8_readFormula_r5 : List Cond := [Cond.fieldLink RX8 39 "IntegerHouse$Reader" "kind" "I", Cond.fieldLink RX8 136 "IntegerHouse$Reader" "place" "I", Cond.methodLink RX8 49 yX8_readInto, Cond.instanceMethod yX8_readInto, Cond.selects RX8 yX8_readInto yX8_readInto, Cond.code yX8_readInto cX8_readInto 2 none, Cond.fieldLink RX8 164 "IntegerHouse$Reader" "slot" "I", Cond.fieldLink RX8 167 "IntegerHouse$Reader" "tokens" "I", Cond.fieldLink RX8 170 "IntegerHouse$Reader" "steps" "I", Cond.fieldLink RX8 173 "IntegerHouse$Reader" "open" "I", Cond.fieldLink RX8 15 "IntegerHouse$Reader" "house" "LIntegerHouse$House;", Cond.methodLink RX8 157 yX2_setFact, Cond.instanceMethod yX2_setFact, Cond.selects RX2 yX2_setFact yX2_setFact, Cond.initialized RX2, Cond.code yX2_setFact cX2_setFact 4 none, Cond.fieldLink RX2 28 "IntegerHouse$House" "facts" "[I", Cond.methodLink RX8 176 yX8_term, Cond.instanceMethod yX8_term, Cond.selects RX8 yX8_term yX8_term, Cond.code yX8_term cX8_term 3 none, Cond.methodLink RX8 191 yX8_accept, Cond.instanceMethod yX8_accept, Cond.selects RX8 yX8_accept yX8_accept]
def wsX8_readFormula_r6 : List Cond := [Cond.code yX8_accept cX8_accept 4 none, Cond.methodLink RX8 95 yX8_fail, Cond.instanceMethod yX8_fail, Cond.selects RX8 yX8_fail yX8_fail, Cond.code yX8_fail cX8_fail 2 none, Cond.methodLink RX8 185 yX2_setToken, Cond.instanceMethod yX2_setToken, Cond.selects RX2 yX2_setToken yX2_setToken, Cond.code yX2_setToken cX2_setToken 4 none, Cond.fieldLink RX2 18 "IntegerHouse$House" "tokens" "[I", Cond.methodLink RX8 219 yX8_part, Cond.instanceMethod yX8_part, Cond.selects RX8 yX8_part yX8_part, Cond.methodLink RX8 194 yX8_step, Cond.instanceMethod yX8_step, Cond.selects RX8 yX8_step yX8_step, Cond.code yX8_step cX8_step 2 none, Cond.methodLink RX8 182 yX2_setStep, Cond.instanceMethod yX2_setStep, Cond.selects RX2 yX2_setStep yX2_setStep, Cond.code yX2_setStep cX2_setStep 4 none, Cond.fieldLink RX2 22 "IntegerHouse$House" "steps" "[I", Cond.code yX8_bracketed cX8_bracketed 3 none, Cond.methodLink RX8 206 yX3_numberAt]
def wsX8_readFormula_r7 : List Cond := [Cond.instanceMethod yX3_numberAt, Cond.selects RX3 yX3_numberAt yX3_numberAt, Cond.code yX3_numberAt cX3_numberAt 2 (some .int), Cond.constant RX3 58 (1048575), Cond.methodLink RX8 209 yX8_checkDivisor, Cond.instanceMethod yX8_checkDivisor, Cond.selects RX8 yX8_checkDivisor yX8_checkDivisor, Cond.code yX8_checkDivisor cX8_checkDivisor 2 none, Cond.methodLink RX8 212 yX3_writtenAt, Cond.instanceMethod yX3_writtenAt, Cond.selects RX3 yX3_writtenAt yX3_writtenAt, Cond.code yX3_writtenAt cX3_writtenAt 2 (some .int), Cond.code yX8_factor cX8_factor 3 none, Cond.methodLink RX8 82 yX3_nameAt, Cond.instanceMethod yX3_nameAt, Cond.selects RX3 yX3_nameAt yX3_nameAt, Cond.code yX3_nameAt cX3_nameAt 2 (some .long), Cond.methodLink RX8 92 yX2_variableOf, Cond.instanceMethod yX2_variableOf, Cond.selects RX2 yX2_variableOf yX2_variableOf, Cond.code yX2_variableOf cX2_variableOf 4 (some .int), Cond.fieldLink RX2 52 "IntegerHouse$House" "variables" "I", Cond.fieldLink RX2 9 "IntegerHouse$House" "variableNames" "[J", Cond.methodLink RX8 88 yX2_claimOf]
def wsX8_readFormula_r8 : List Cond := [Cond.instanceMethod yX2_claimOf, Cond.selects RX2 yX2_claimOf yX2_claimOf, Cond.code yX2_claimOf cX2_claimOf 4 (some .int), Cond.fieldLink RX2 55 "IntegerHouse$House" "claims" "I", Cond.fieldLink RX2 15 "IntegerHouse$House" "claimNames" "[J", Cond.methodLink RX8 226 yX8_bracketed, Cond.instanceMethod yX8_bracketed, Cond.selects RX8 yX8_bracketed yX8_bracketed, Cond.code yX8_part cX8_part 5 none, Cond.methodLink RX8 223 yX8_factor, Cond.instanceMethod yX8_factor, Cond.selects RX8 yX8_factor yX8_factor, Cond.methodLink RX8 179 yX8_formula, Cond.instanceMethod yX8_formula, Cond.selects RX8 yX8_formula yX8_formula, Cond.code yX8_formula cX8_formula 2 none, Cond.methodLink RX8 188 yX8_side, Cond.instanceMethod yX8_side, Cond.selects RX8 yX8_side yX8_side, Cond.code yX8_both cX8_both 2 none, Cond.methodLink RX8 200 yX8_one, Cond.instanceMethod yX8_one, Cond.selects RX8 yX8_one yX8_one, Cond.code yX8_one cX8_one 4 none]
def wsX8_readFormula_r9 : List Cond := [Cond.methodLink RX8 203 yX3_kindAt, Cond.instanceMethod yX3_kindAt, Cond.selects RX3 yX3_kindAt yX3_kindAt, Cond.code yX3_kindAt cX3_kindAt 2 (some .int), Cond.static yX11_isComparison, Cond.initialized RX11, Cond.code yX11_isComparison cX11_isComparison 1 (some .boolean), Cond.code yX8_side cX8_side 2 none, Cond.methodLink RX8 197 yX8_both, Cond.instanceMethod yX8_both, Cond.selects RX8 yX8_both yX8_both, Cond.methodLink RX8 59 yX8_expectEnd, Cond.instanceMethod yX8_expectEnd, Cond.selects RX8 yX8_expectEnd yX8_expectEnd, Cond.code yX8_expectEnd cX8_expectEnd 1 none, Cond.methodLink RX8 65 yX4_make, Cond.instanceMethod yX4_make, Cond.selects RX4 yX4_make yX4_make, Cond.initialized RX4, Cond.code yX4_make cX4_make 10 (some .int), Cond.fieldLink RX4 25 "IntegerHouse$Maker" "house" "LIntegerHouse$House;", Cond.fieldLink RX4 33 "IntegerHouse$Maker" "slot" "I", Cond.methodLink RX4 56 Lib.Math.min.name, Cond.static Lib.Math.min.name]
def wsX8_readFormula_r10 : List Cond := [Cond.initialized "java/lang/Math", Cond.code Lib.Math.min.name Lib.Math.min.code 2 (some .int), Cond.fieldLink RX4 61 "IntegerHouse$Maker" "great" "Z", Cond.fieldLink RX4 15 "IntegerHouse$Maker" "tops" "[I", Cond.fieldLink RX4 83 "IntegerHouse$Maker" "falsehood" "I", Cond.fieldLink RX4 86 "IntegerHouse$Maker" "codeSize" "I", Cond.fieldLink RX4 89 "IntegerHouse$Maker" "crowded" "Z", Cond.methodLink RX4 29 yX4_begin, Cond.instanceMethod yX4_begin, Cond.selects RX4 yX4_begin yX4_begin, Cond.code yX4_begin cX4_begin 2 none, Cond.methodLink RX4 79 yX2_setFact, Cond.methodLink RX4 39 yX2_fact, Cond.instanceMethod yX2_fact, Cond.selects RX2 yX2_fact yX2_fact, Cond.code yX2_fact cX2_fact 3 (some .int), Cond.methodLink RX4 43 yX2_step, Cond.instanceMethod yX2_step, Cond.selects RX2 yX2_step yX2_step, Cond.code yX2_step cX2_step 3 (some .int), Cond.methodLink RX4 46 yX4_isPlain, Cond.instanceMethod yX4_isPlain, Cond.selects RX4 yX4_isPlain yX4_isPlain, Cond.code yX4_isPlain cX4_isPlain 4 (some .boolean)]
def wsX8_readFormula_r11 : List Cond := [Cond.methodLink RX4 50 yX4_lastOf, Cond.instanceMethod yX4_lastOf, Cond.selects RX4 yX4_lastOf yX4_lastOf, Cond.code yX4_lastOf cX4_lastOf 4 (some .int), Cond.methodLink RX4 102 yX4_isConclusion, Cond.static yX4_isConclusion, Cond.code yX4_isConclusion cX4_isConclusion 1 (some .boolean), Cond.methodLink RX4 53 yX4_casesOf, Cond.instanceMethod yX4_casesOf, Cond.selects RX4 yX4_casesOf yX4_casesOf, Cond.code yX4_casesOf cX4_casesOf 5 (some .int), Cond.methodLink RX4 108 yX4_waysOf, Cond.static yX4_waysOf, Cond.code yX4_waysOf cX4_waysOf 2 (some .int), Cond.methodLink RX4 65 yX4_fall, Cond.instanceMethod yX4_fall, Cond.selects RX4 yX4_fall yX4_fall, Cond.code yX4_fall cX4_fall 7 none, Cond.methodLink RX4 121 yX4_split, Cond.instanceMethod yX4_split, Cond.selects RX4 yX4_split yX4_split, Cond.methodLink RX4 124 yX4_conclude, Cond.instanceMethod yX4_conclude, Cond.selects RX4 yX4_conclude yX4_conclude]
def wsX8_readFormula_r12 : List Cond := [Cond.code yX4_conclude cX4_conclude 6 none, Cond.methodLink RX4 137 yX4_top, Cond.instanceMethod yX4_top, Cond.selects RX4 yX4_top yX4_top, Cond.code yX4_top cX4_top 2 (some .int), Cond.methodLink RX4 95 yX4_form, Cond.static yX4_form, Cond.code yX4_form cX4_form 2 (some .int), Cond.methodLink RX4 166 yX4_divisorOf, Cond.instanceMethod yX4_divisorOf, Cond.selects RX4 yX4_divisorOf yX4_divisorOf, Cond.code yX4_divisorOf cX4_divisorOf 7 (some .int), Cond.fieldLink RX4 11 "IntegerHouse$Maker" "forms" "[J", Cond.methodLink RX4 172 Lib.MathLoose.max_long.x, Cond.static Lib.MathLoose.max_long.x, Cond.code Lib.MathLoose.max_long.x Lib.MathLoose.max_long.code 4 (some .long), Cond.constantLong RX4 185 (12), Cond.fieldLink RX4 19 "IntegerHouse$Maker" "row" "[I", Cond.methodLink RX4 187 yJ9_floorMod_f86c9, Cond.static yJ9_floorMod_f86c9, Cond.initialized RJ9, Cond.code yJ9_floorMod_f86c9 cJ9_floorMod_f86c9 6 (some .long), Cond.methodLink RX4 144 yX4_add, Cond.instanceMethod yX4_add]
def wsX8_readFormula_r13 : List Cond := [Cond.selects RX4 yX4_add yX4_add, Cond.code yX4_add cX4_add 3 none, Cond.methodLink RX4 76 yX4_emit, Cond.instanceMethod yX4_emit, Cond.selects RX4 yX4_emit yX4_emit, Cond.code yX4_emit cX4_emit 2 none, Cond.methodLink RX4 190 yX2_poolNumber, Cond.instanceMethod yX2_poolNumber, Cond.selects RX2 yX2_poolNumber yX2_poolNumber, Cond.code yX2_poolNumber cX2_poolNumber 6 (some .int), Cond.fieldLink RX2 58 "IntegerHouse$House" "poolSize" "I", Cond.fieldLink RX2 34 "IntegerHouse$House" "pool" "[I", Cond.methodLink RX4 115 yX2_addAtom, Cond.instanceMethod yX2_addAtom, Cond.selects RX2 yX2_addAtom yX2_addAtom, Cond.code yX2_addAtom cX2_addAtom 5 (some .boolean), Cond.fieldLink RX2 31 "IntegerHouse$House" "atoms" "[I", Cond.methodLink RX4 153 yX4_combine, Cond.instanceMethod yX4_combine, Cond.selects RX4 yX4_combine yX4_combine, Cond.code yX4_combine cX4_combine 12 none, Cond.static yX11_commonDivisor, Cond.code yX11_commonDivisor cX11_commonDivisor 11 (some .long), Cond.methodLink RX4 157 yX4_check]
def wsX8_readFormula_r14 : List Cond := [Cond.instanceMethod yX4_check, Cond.selects RX4 yX4_check yX4_check, Cond.code yX4_check cX4_check 3 none, Cond.methodLink RX4 98 Lib.MathLoose.abs_long.x, Cond.static Lib.MathLoose.abs_long.x, Cond.code Lib.MathLoose.abs_long.x Lib.MathLoose.abs_long.code 2 (some .long), Cond.constantLong RX4 179 (1000000), Cond.methodLink RX4 140 yX4_lineOf, Cond.instanceMethod yX4_lineOf, Cond.selects RX4 yX4_lineOf yX4_lineOf, Cond.code yX4_lineOf cX4_lineOf 8 (some .int), Cond.constantLong RX4 181 (20), Cond.constantLong RX4 183 (99999), Cond.methodLink RX4 92 yX4_work, Cond.instanceMethod yX4_work, Cond.selects RX4 yX4_work yX4_work, Cond.code yX4_work cX4_work 5 none, Cond.methodLink RX4 169 yX4_pushForm, Cond.instanceMethod yX4_pushForm, Cond.selects RX4 yX4_pushForm yX4_pushForm, Cond.code yX4_pushForm cX4_pushForm 6 none, Cond.methodLink RX4 160 yX4_setTop, Cond.instanceMethod yX4_setTop, Cond.selects RX4 yX4_setTop yX4_setTop]
def wsX8_readFormula_r15 : List Cond := [Cond.code yX4_setTop cX4_setTop 3 none, Cond.methodLink RX4 150 yX4_multiply, Cond.instanceMethod yX4_multiply, Cond.selects RX4 yX4_multiply yX4_multiply, Cond.code yX4_multiply cX4_multiply 4 none, Cond.code yX4_split cX4_split 7 none, Cond.methodLink RX4 127 yX4_splitSign, Cond.instanceMethod yX4_splitSign, Cond.selects RX4 yX4_splitSign yX4_splitSign, Cond.code yX4_splitSign cX4_splitSign 4 none, Cond.methodLink RX4 147 yX4_copyLevel, Cond.instanceMethod yX4_copyLevel, Cond.selects RX4 yX4_copyLevel yX4_copyLevel, Cond.code yX4_copyLevel cX4_copyLevel 4 none, Cond.methodLink RX4 163 yX4_copyForm, Cond.instanceMethod yX4_copyForm, Cond.selects RX4 yX4_copyForm yX4_copyForm, Cond.code yX4_copyForm cX4_copyForm 4 none, Cond.methodLink RX4 130 yX4_splitOrder, Cond.instanceMethod yX4_splitOrder, Cond.selects RX4 yX4_splitOrder yX4_splitOrder, Cond.code yX4_splitOrder cX4_splitOrder 6 none, Cond.methodLink RX4 133 yX4_splitRest, Cond.instanceMethod yX4_splitRest]
def wsX8_readFormula_r16 : List Cond := [Cond.selects RX4 yX4_splitRest yX4_splitRest, Cond.code yX4_splitRest cX4_splitRest 7 none, Cond.methodLink RX4 69 yX4_arePlain, Cond.instanceMethod yX4_arePlain, Cond.selects RX4 yX4_arePlain yX4_arePlain, Cond.code yX4_arePlain cX4_arePlain 5 (some .boolean), Cond.methodLink RX4 73 yX4_takeNamed, Cond.instanceMethod yX4_takeNamed, Cond.selects RX4 yX4_takeNamed yX4_takeNamed, Cond.code yX4_takeNamed cX4_takeNamed 4 none, Cond.methodLink RX4 112 yX2_atomOf, Cond.instanceMethod yX2_atomOf, Cond.selects RX2 yX2_atomOf yX2_atomOf, Cond.code yX2_atomOf cX2_atomOf 3 (some .int), Cond.methodLink RX8 71 yX8_failIf, Cond.instanceMethod yX8_failIf, Cond.selects RX8 yX8_failIf yX8_failIf, Cond.code yX8_failIf cX8_failIf 3 none, Cond.methodLink RX8 139 yX2_fact]
def wsX8_readFormula : List Cond := .code yX8_readFormula cX8_readFormula 3 (some .boolean) :: ((wsX8_readFormula_r1 ++ (wsX8_readFormula_r2 ++ (wsX8_readFormula_r3 ++ (wsX8_readFormula_r4 ++ (wsX8_readFormula_r5 ++ (wsX8_readFormula_r6 ++ (wsX8_readFormula_r7 ++ (wsX8_readFormula_r8 ++ (wsX8_readFormula_r9 ++ (wsX8_readFormula_r10 ++ (wsX8_readFormula_r11 ++ (wsX8_readFormula_r12 ++ (wsX8_readFormula_r13 ++ (wsX8_readFormula_r14 ++ (wsX8_readFormula_r15 ++ wsX8_readFormula_r16))))))))))))))) ++ wsX80 ++ wsX30 ++ wsX20 ++ wsX40)
def wsX11_follows_r1 : List Cond := [Cond.fieldLink RX11 16 "IntegerHouse" "disk" "LIntegerHouse$Disk;", Cond.fieldLink RX11 23 "IntegerHouse" "house" "LIntegerHouse$House;", Cond.fieldLink RX11 48 "IntegerHouse" "reader" "LIntegerHouse$Reader;", Cond.fieldLink RX11 9 "IntegerHouse" "tape" "[B", Cond.fieldLink RX11 55 "IntegerHouse" "places" "LIntegerHouse$Places;", Cond.constant RX11 308 (16777216), Cond.fieldLink RX11 64 "IntegerHouse" "answers" "LIntegerHouse$Answers;", Cond.methodLink RX11 230 yX11_useTape, Cond.instanceMethod yX11_useTape, Cond.selects RX11 yX11_useTape yX11_useTape, Cond.initialized RX11, Cond.code yX11_useTape cX11_useTape 2 (some .int), Cond.fieldLink RX11 102 "IntegerHouse" "tapeLength" "I", Cond.methodLink RX11 304 yX8_readFormula, Cond.instanceMethod yX8_readFormula, Cond.selects RX8 yX8_readFormula yX8_readFormula, Cond.initialized RX8, Cond.code yX8_readFormula cX8_readFormula 3 (some .boolean), Cond.fieldLink RX8 62 "IntegerHouse$Reader" "faultKind" "I", Cond.fieldLink RX8 19 "IntegerHouse$Reader" "maker" "LIntegerHouse$Maker;", Cond.methodLink RX8 23 yX8_begin, Cond.instanceMethod yX8_begin, Cond.selects RX8 yX8_begin yX8_begin, Cond.code yX8_begin cX8_begin 4 none]
def wsX11_follows_r2 : List Cond := [Cond.fieldLink RX8 9 "IntegerHouse$Reader" "lexer" "LIntegerHouse$Lexer;", Cond.fieldLink RX8 123 "IntegerHouse$Reader" "faultPlace" "I", Cond.fieldLink RX8 101 "IntegerHouse$Reader" "hasFormula" "Z", Cond.fieldLink RX8 79 "IntegerHouse$Reader" "at" "I", Cond.methodLink RX8 119 yX3_scan, Cond.instanceMethod yX3_scan, Cond.selects RX3 yX3_scan yX3_scan, Cond.initialized RX3, Cond.code yX3_scan cX3_scan 9 none, Cond.fieldLink RX3 28 "IntegerHouse$Lexer" "source" "[B", Cond.fieldLink RX3 55 "IntegerHouse$Lexer" "begin" "I", Cond.fieldLink RX3 52 "IntegerHouse$Lexer" "stop" "I", Cond.fieldLink RX3 48 "IntegerHouse$Lexer" "size" "I", Cond.fieldLink RX3 19 "IntegerHouse$Lexer" "spots" "[I", Cond.fieldLink RX3 15 "IntegerHouse$Lexer" "kinds" "[I", Cond.methodLink RX3 59 yX3_behindBlanks, Cond.instanceMethod yX3_behindBlanks, Cond.selects RX3 yX3_behindBlanks yX3_behindBlanks, Cond.code yX3_behindBlanks cX3_behindBlanks 3 (some .int), Cond.methodLink RX3 63 yX3_byteAt, Cond.instanceMethod yX3_byteAt, Cond.selects RX3 yX3_byteAt yX3_byteAt, Cond.code yX3_byteAt cX3_byteAt 2 (some .int), Cond.methodLink RX3 66 yX3_isLetter]
def wsX11_follows_r3 : List Cond := [Cond.static yX3_isLetter, Cond.code yX3_isLetter cX3_isLetter 1 (some .boolean), Cond.methodLink RX3 70 yX3_word, Cond.instanceMethod yX3_word, Cond.selects RX3 yX3_word yX3_word, Cond.code yX3_word cX3_word 9 (some .int), Cond.fieldLink RX3 11 "IntegerHouse$Lexer" "words" "[J", Cond.fieldLink RX3 25 "IntegerHouse$Lexer" "names" "[J", Cond.methodLink RX3 74 yX3_isDigit, Cond.static yX3_isDigit, Cond.code yX3_isDigit cX3_isDigit 1 (some .boolean), Cond.methodLink RX3 77 yX3_digits, Cond.instanceMethod yX3_digits, Cond.selects RX3 yX3_digits yX3_digits, Cond.code yX3_digits cX3_digits 6 (some .int), Cond.fieldLink RX3 22 "IntegerHouse$Lexer" "numbers" "[I", Cond.methodLink RX3 81 yX3_sign, Cond.instanceMethod yX3_sign, Cond.selects RX3 yX3_sign yX3_sign, Cond.code yX3_sign cX3_sign 6 (some .int), Cond.methodLink RX3 44 yJ0_charAt_5068e, Cond.instanceMethod yJ0_charAt_5068e, Cond.selects RJ0 yJ0_charAt_5068e yJ0_charAt_5068e, Cond.initialized RJ0]
def wsX11_follows_r4 : List Cond := [Cond.code yJ0_charAt_5068e cJ0_charAt_5068e 2 (some .char), Cond.fieldLink RJ0 9 "java/lang/String" "value" "[B", Cond.methodLink RJ0 492 yJ0_isLatin1_aae02, Cond.instanceMethod yJ0_isLatin1_aae02, Cond.selects RJ0 yJ0_isLatin1_aae02 yJ0_isLatin1_aae02, Cond.code yJ0_isLatin1_aae02 cJ0_isLatin1_aae02 1 (some .boolean), Cond.fieldLink RJ0 38 "java/lang/String" "COMPACT_STRINGS" "Z", Cond.fieldLink RJ0 15 "java/lang/String" "coder" "B", Cond.methodLink RJ0 495 yJ1_charAt_3b067, Cond.static yJ1_charAt_3b067, Cond.initialized RJ1, Cond.code yJ1_charAt_3b067 cJ1_charAt_3b067 2 (some .char), Cond.methodLink RJ1 9 yJ0_checkIndex_df160, Cond.static yJ0_checkIndex_df160, Cond.code yJ0_checkIndex_df160 cJ0_checkIndex_df160 2 none, Cond.fieldLink RJ0 1053 "jdk/internal/util/Preconditions" "SIOOBE_FORMATTER" "Ljava/util/function/BiFunction;", Cond.methodLink RJ0 1059 yJ3_checkIndex_8e157, Cond.static yJ3_checkIndex_8e157, Cond.initialized RJ3, Cond.code yJ3_checkIndex_8e157 cJ3_checkIndex_8e157 3 (some .int), Cond.methodLink RJ0 498 yJ2_charAt_3b067, Cond.static yJ2_charAt_3b067, Cond.initialized RJ2, Cond.code yJ2_charAt_3b067 cJ2_charAt_3b067 2 (some .char)]
def wsX11_follows_r5 : List Cond := [Cond.methodLink RJ2 67 yJ2_checkIndex_2214a, Cond.static yJ2_checkIndex_2214a, Cond.code yJ2_checkIndex_2214a cJ2_checkIndex_2214a 2 none, Cond.methodLink RJ2 48 yJ2_length_9d52b, Cond.static yJ2_length_9d52b, Cond.code yJ2_length_9d52b cJ2_length_9d52b 1 (some .int), Cond.methodLink RJ2 414 yJ0_checkIndex_df160, Cond.methodLink RJ2 71 yJ2_getChar_3b067, Cond.static yJ2_getChar_3b067, Cond.code yJ2_getChar_3b067 cJ2_getChar_3b067 2 (some .char), Cond.fieldLink RJ2 44 "java/lang/StringUTF16" "$assertionsDisabled" "Z", Cond.fieldLink RJ2 59 "java/lang/StringUTF16" "HI_BYTE_SHIFT" "I", Cond.fieldLink RJ2 63 "java/lang/StringUTF16" "LO_BYTE_SHIFT" "I", Cond.methodLink RX8 98 yX8_next, Cond.instanceMethod yX8_next, Cond.selects RX8 yX8_next yX8_next, Cond.code yX8_next cX8_next 1 none, Cond.fieldLink RX8 39 "IntegerHouse$Reader" "kind" "I", Cond.fieldLink RX8 136 "IntegerHouse$Reader" "place" "I", Cond.methodLink RX8 49 yX8_readInto, Cond.instanceMethod yX8_readInto, Cond.selects RX8 yX8_readInto yX8_readInto, Cond.code yX8_readInto cX8_readInto 2 none, Cond.fieldLink RX8 164 "IntegerHouse$Reader" "slot" "I"]
def wsX11_follows_r6 : List Cond := [Cond.fieldLink RX8 167 "IntegerHouse$Reader" "tokens" "I", Cond.fieldLink RX8 170 "IntegerHouse$Reader" "steps" "I", Cond.fieldLink RX8 173 "IntegerHouse$Reader" "open" "I", Cond.fieldLink RX8 15 "IntegerHouse$Reader" "house" "LIntegerHouse$House;", Cond.methodLink RX8 157 yX2_setFact, Cond.instanceMethod yX2_setFact, Cond.selects RX2 yX2_setFact yX2_setFact, Cond.initialized RX2, Cond.code yX2_setFact cX2_setFact 4 none, Cond.fieldLink RX2 28 "IntegerHouse$House" "facts" "[I", Cond.methodLink RX8 176 yX8_term, Cond.instanceMethod yX8_term, Cond.selects RX8 yX8_term yX8_term, Cond.code yX8_term cX8_term 3 none, Cond.methodLink RX8 191 yX8_accept, Cond.instanceMethod yX8_accept, Cond.selects RX8 yX8_accept yX8_accept, Cond.code yX8_accept cX8_accept 4 none, Cond.methodLink RX8 95 yX8_fail, Cond.instanceMethod yX8_fail, Cond.selects RX8 yX8_fail yX8_fail, Cond.code yX8_fail cX8_fail 2 none, Cond.methodLink RX8 185 yX2_setToken, Cond.instanceMethod yX2_setToken]
def wsX11_follows_r7 : List Cond := [Cond.selects RX2 yX2_setToken yX2_setToken, Cond.code yX2_setToken cX2_setToken 4 none, Cond.fieldLink RX2 18 "IntegerHouse$House" "tokens" "[I", Cond.methodLink RX8 219 yX8_part, Cond.instanceMethod yX8_part, Cond.selects RX8 yX8_part yX8_part, Cond.methodLink RX8 194 yX8_step, Cond.instanceMethod yX8_step, Cond.selects RX8 yX8_step yX8_step, Cond.code yX8_step cX8_step 2 none, Cond.methodLink RX8 182 yX2_setStep, Cond.instanceMethod yX2_setStep, Cond.selects RX2 yX2_setStep yX2_setStep, Cond.code yX2_setStep cX2_setStep 4 none, Cond.fieldLink RX2 22 "IntegerHouse$House" "steps" "[I", Cond.code yX8_bracketed cX8_bracketed 3 none, Cond.methodLink RX8 206 yX3_numberAt, Cond.instanceMethod yX3_numberAt, Cond.selects RX3 yX3_numberAt yX3_numberAt, Cond.code yX3_numberAt cX3_numberAt 2 (some .int), Cond.constant RX3 58 (1048575), Cond.methodLink RX8 209 yX8_checkDivisor, Cond.instanceMethod yX8_checkDivisor, Cond.selects RX8 yX8_checkDivisor yX8_checkDivisor]
def wsX11_follows_r8 : List Cond := [Cond.code yX8_checkDivisor cX8_checkDivisor 2 none, Cond.methodLink RX8 212 yX3_writtenAt, Cond.instanceMethod yX3_writtenAt, Cond.selects RX3 yX3_writtenAt yX3_writtenAt, Cond.code yX3_writtenAt cX3_writtenAt 2 (some .int), Cond.code yX8_factor cX8_factor 3 none, Cond.methodLink RX8 82 yX3_nameAt, Cond.instanceMethod yX3_nameAt, Cond.selects RX3 yX3_nameAt yX3_nameAt, Cond.code yX3_nameAt cX3_nameAt 2 (some .long), Cond.methodLink RX8 92 yX2_variableOf, Cond.instanceMethod yX2_variableOf, Cond.selects RX2 yX2_variableOf yX2_variableOf, Cond.code yX2_variableOf cX2_variableOf 4 (some .int), Cond.fieldLink RX2 52 "IntegerHouse$House" "variables" "I", Cond.fieldLink RX2 9 "IntegerHouse$House" "variableNames" "[J", Cond.methodLink RX8 88 yX2_claimOf, Cond.instanceMethod yX2_claimOf, Cond.selects RX2 yX2_claimOf yX2_claimOf, Cond.code yX2_claimOf cX2_claimOf 4 (some .int), Cond.fieldLink RX2 55 "IntegerHouse$House" "claims" "I", Cond.fieldLink RX2 15 "IntegerHouse$House" "claimNames" "[J", Cond.methodLink RX8 226 yX8_bracketed, Cond.instanceMethod yX8_bracketed]
def wsX11_follows_r9 : List Cond := [Cond.selects RX8 yX8_bracketed yX8_bracketed, Cond.code yX8_part cX8_part 5 none, Cond.methodLink RX8 223 yX8_factor, Cond.instanceMethod yX8_factor, Cond.selects RX8 yX8_factor yX8_factor, Cond.methodLink RX8 179 yX8_formula, Cond.instanceMethod yX8_formula, Cond.selects RX8 yX8_formula yX8_formula, Cond.code yX8_formula cX8_formula 2 none, Cond.methodLink RX8 188 yX8_side, Cond.instanceMethod yX8_side, Cond.selects RX8 yX8_side yX8_side, Cond.code yX8_both cX8_both 2 none, Cond.methodLink RX8 200 yX8_one, Cond.instanceMethod yX8_one, Cond.selects RX8 yX8_one yX8_one, Cond.code yX8_one cX8_one 4 none, Cond.methodLink RX8 203 yX3_kindAt, Cond.instanceMethod yX3_kindAt, Cond.selects RX3 yX3_kindAt yX3_kindAt, Cond.code yX3_kindAt cX3_kindAt 2 (some .int), Cond.static yX11_isComparison, Cond.code yX11_isComparison cX11_isComparison 1 (some .boolean), Cond.code yX8_side cX8_side 2 none]
def wsX11_follows_r10 : List Cond := [Cond.methodLink RX8 197 yX8_both, Cond.instanceMethod yX8_both, Cond.selects RX8 yX8_both yX8_both, Cond.methodLink RX8 59 yX8_expectEnd, Cond.instanceMethod yX8_expectEnd, Cond.selects RX8 yX8_expectEnd yX8_expectEnd, Cond.code yX8_expectEnd cX8_expectEnd 1 none, Cond.methodLink RX8 65 yX4_make, Cond.instanceMethod yX4_make, Cond.selects RX4 yX4_make yX4_make, Cond.initialized RX4, Cond.code yX4_make cX4_make 10 (some .int), Cond.fieldLink RX4 25 "IntegerHouse$Maker" "house" "LIntegerHouse$House;", Cond.fieldLink RX4 33 "IntegerHouse$Maker" "slot" "I", Cond.methodLink RX4 56 Lib.Math.min.name, Cond.static Lib.Math.min.name, Cond.initialized "java/lang/Math", Cond.code Lib.Math.min.name Lib.Math.min.code 2 (some .int), Cond.fieldLink RX4 61 "IntegerHouse$Maker" "great" "Z", Cond.fieldLink RX4 15 "IntegerHouse$Maker" "tops" "[I", Cond.fieldLink RX4 83 "IntegerHouse$Maker" "falsehood" "I", Cond.fieldLink RX4 86 "IntegerHouse$Maker" "codeSize" "I", Cond.fieldLink RX4 89 "IntegerHouse$Maker" "crowded" "Z", Cond.methodLink RX4 29 yX4_begin]
def wsX11_follows_r11 : List Cond := [Cond.instanceMethod yX4_begin, Cond.selects RX4 yX4_begin yX4_begin, Cond.code yX4_begin cX4_begin 2 none, Cond.methodLink RX4 79 yX2_setFact, Cond.methodLink RX4 39 yX2_fact, Cond.instanceMethod yX2_fact, Cond.selects RX2 yX2_fact yX2_fact, Cond.code yX2_fact cX2_fact 3 (some .int), Cond.methodLink RX4 43 yX2_step, Cond.instanceMethod yX2_step, Cond.selects RX2 yX2_step yX2_step, Cond.code yX2_step cX2_step 3 (some .int), Cond.methodLink RX4 46 yX4_isPlain, Cond.instanceMethod yX4_isPlain, Cond.selects RX4 yX4_isPlain yX4_isPlain, Cond.code yX4_isPlain cX4_isPlain 4 (some .boolean), Cond.methodLink RX4 50 yX4_lastOf, Cond.instanceMethod yX4_lastOf, Cond.selects RX4 yX4_lastOf yX4_lastOf, Cond.code yX4_lastOf cX4_lastOf 4 (some .int), Cond.methodLink RX4 102 yX4_isConclusion, Cond.static yX4_isConclusion, Cond.code yX4_isConclusion cX4_isConclusion 1 (some .boolean), Cond.methodLink RX4 53 yX4_casesOf]
def wsX11_follows_r12 : List Cond := [Cond.instanceMethod yX4_casesOf, Cond.selects RX4 yX4_casesOf yX4_casesOf, Cond.code yX4_casesOf cX4_casesOf 5 (some .int), Cond.methodLink RX4 108 yX4_waysOf, Cond.static yX4_waysOf, Cond.code yX4_waysOf cX4_waysOf 2 (some .int), Cond.methodLink RX4 65 yX4_fall, Cond.instanceMethod yX4_fall, Cond.selects RX4 yX4_fall yX4_fall, Cond.code yX4_fall cX4_fall 7 none, Cond.methodLink RX4 121 yX4_split, Cond.instanceMethod yX4_split, Cond.selects RX4 yX4_split yX4_split, Cond.methodLink RX4 124 yX4_conclude, Cond.instanceMethod yX4_conclude, Cond.selects RX4 yX4_conclude yX4_conclude, Cond.code yX4_conclude cX4_conclude 6 none, Cond.methodLink RX4 137 yX4_top, Cond.instanceMethod yX4_top, Cond.selects RX4 yX4_top yX4_top, Cond.code yX4_top cX4_top 2 (some .int), Cond.methodLink RX4 95 yX4_form, Cond.static yX4_form, Cond.code yX4_form cX4_form 2 (some .int)]
def wsX11_follows_r13 : List Cond := [Cond.methodLink RX4 166 yX4_divisorOf, Cond.instanceMethod yX4_divisorOf, Cond.selects RX4 yX4_divisorOf yX4_divisorOf, Cond.code yX4_divisorOf cX4_divisorOf 7 (some .int), Cond.fieldLink RX4 11 "IntegerHouse$Maker" "forms" "[J", Cond.methodLink RX4 172 Lib.MathLoose.max_long.x, Cond.static Lib.MathLoose.max_long.x, Cond.code Lib.MathLoose.max_long.x Lib.MathLoose.max_long.code 4 (some .long), Cond.constantLong RX4 185 (12), Cond.fieldLink RX4 19 "IntegerHouse$Maker" "row" "[I", Cond.methodLink RX4 187 yJ9_floorMod_f86c9, Cond.static yJ9_floorMod_f86c9, Cond.initialized RJ9, Cond.code yJ9_floorMod_f86c9 cJ9_floorMod_f86c9 6 (some .long), Cond.methodLink RX4 144 yX4_add, Cond.instanceMethod yX4_add, Cond.selects RX4 yX4_add yX4_add, Cond.code yX4_add cX4_add 3 none, Cond.methodLink RX4 76 yX4_emit, Cond.instanceMethod yX4_emit, Cond.selects RX4 yX4_emit yX4_emit, Cond.code yX4_emit cX4_emit 2 none, Cond.methodLink RX4 190 yX2_poolNumber, Cond.instanceMethod yX2_poolNumber]
def wsX11_follows_r14 : List Cond := [Cond.selects RX2 yX2_poolNumber yX2_poolNumber, Cond.code yX2_poolNumber cX2_poolNumber 6 (some .int), Cond.fieldLink RX2 58 "IntegerHouse$House" "poolSize" "I", Cond.fieldLink RX2 34 "IntegerHouse$House" "pool" "[I", Cond.methodLink RX4 115 yX2_addAtom, Cond.instanceMethod yX2_addAtom, Cond.selects RX2 yX2_addAtom yX2_addAtom, Cond.code yX2_addAtom cX2_addAtom 5 (some .boolean), Cond.fieldLink RX2 31 "IntegerHouse$House" "atoms" "[I", Cond.methodLink RX4 153 yX4_combine, Cond.instanceMethod yX4_combine, Cond.selects RX4 yX4_combine yX4_combine, Cond.code yX4_combine cX4_combine 12 none, Cond.static yX11_commonDivisor, Cond.code yX11_commonDivisor cX11_commonDivisor 11 (some .long), Cond.methodLink RX4 157 yX4_check, Cond.instanceMethod yX4_check, Cond.selects RX4 yX4_check yX4_check, Cond.code yX4_check cX4_check 3 none, Cond.methodLink RX4 98 Lib.MathLoose.abs_long.x, Cond.static Lib.MathLoose.abs_long.x, Cond.code Lib.MathLoose.abs_long.x Lib.MathLoose.abs_long.code 2 (some .long), Cond.constantLong RX4 179 (1000000), Cond.methodLink RX4 140 yX4_lineOf]
def wsX11_follows_r15 : List Cond := [Cond.instanceMethod yX4_lineOf, Cond.selects RX4 yX4_lineOf yX4_lineOf, Cond.code yX4_lineOf cX4_lineOf 8 (some .int), Cond.constantLong RX4 181 (20), Cond.constantLong RX4 183 (99999), Cond.methodLink RX4 92 yX4_work, Cond.instanceMethod yX4_work, Cond.selects RX4 yX4_work yX4_work, Cond.code yX4_work cX4_work 5 none, Cond.methodLink RX4 169 yX4_pushForm, Cond.instanceMethod yX4_pushForm, Cond.selects RX4 yX4_pushForm yX4_pushForm, Cond.code yX4_pushForm cX4_pushForm 6 none, Cond.methodLink RX4 160 yX4_setTop, Cond.instanceMethod yX4_setTop, Cond.selects RX4 yX4_setTop yX4_setTop, Cond.code yX4_setTop cX4_setTop 3 none, Cond.methodLink RX4 150 yX4_multiply, Cond.instanceMethod yX4_multiply, Cond.selects RX4 yX4_multiply yX4_multiply, Cond.code yX4_multiply cX4_multiply 4 none, Cond.code yX4_split cX4_split 7 none, Cond.methodLink RX4 127 yX4_splitSign, Cond.instanceMethod yX4_splitSign]
def wsX11_follows_r16 : List Cond := [Cond.selects RX4 yX4_splitSign yX4_splitSign, Cond.code yX4_splitSign cX4_splitSign 4 none, Cond.methodLink RX4 147 yX4_copyLevel, Cond.instanceMethod yX4_copyLevel, Cond.selects RX4 yX4_copyLevel yX4_copyLevel, Cond.code yX4_copyLevel cX4_copyLevel 4 none, Cond.methodLink RX4 163 yX4_copyForm, Cond.instanceMethod yX4_copyForm, Cond.selects RX4 yX4_copyForm yX4_copyForm, Cond.code yX4_copyForm cX4_copyForm 4 none, Cond.methodLink RX4 130 yX4_splitOrder, Cond.instanceMethod yX4_splitOrder, Cond.selects RX4 yX4_splitOrder yX4_splitOrder, Cond.code yX4_splitOrder cX4_splitOrder 6 none, Cond.methodLink RX4 133 yX4_splitRest, Cond.instanceMethod yX4_splitRest, Cond.selects RX4 yX4_splitRest yX4_splitRest, Cond.code yX4_splitRest cX4_splitRest 7 none, Cond.methodLink RX4 69 yX4_arePlain, Cond.instanceMethod yX4_arePlain, Cond.selects RX4 yX4_arePlain yX4_arePlain, Cond.code yX4_arePlain cX4_arePlain 5 (some .boolean), Cond.methodLink RX4 73 yX4_takeNamed, Cond.instanceMethod yX4_takeNamed]
def wsX11_follows_r17 : List Cond := [Cond.selects RX4 yX4_takeNamed yX4_takeNamed, Cond.code yX4_takeNamed cX4_takeNamed 4 none, Cond.methodLink RX4 112 yX2_atomOf, Cond.instanceMethod yX2_atomOf, Cond.selects RX2 yX2_atomOf yX2_atomOf, Cond.code yX2_atomOf cX2_atomOf 3 (some .int), Cond.methodLink RX8 71 yX8_failIf, Cond.instanceMethod yX8_failIf, Cond.selects RX8 yX8_failIf yX8_failIf, Cond.code yX8_failIf cX8_failIf 3 none, Cond.methodLink RX8 139 yX2_fact, Cond.methodLink RX11 236 yX11_faulted, Cond.instanceMethod yX11_faulted, Cond.selects RX11 yX11_faulted yX11_faulted, Cond.code yX11_faulted cX11_faulted 1 (some .int), Cond.fieldLink RX11 253 "IntegerHouse" "latestFault" "I", Cond.methodLink RX11 298 yX6_judge, Cond.instanceMethod yX6_judge, Cond.selects RX6 yX6_judge yX6_judge, Cond.initialized RX6, Cond.code yX6_judge cX6_judge 4 (some .boolean), Cond.fieldLink RX6 52 "IntegerHouse$Places" "size" "I", Cond.fieldLink RX6 56 "IntegerHouse$Places" "letters" "I", Cond.fieldLink RX6 38 "IntegerHouse$Places" "so" "[I"]
def wsX11_follows_r18 : List Cond := [Cond.methodLink RX6 48 yX6_explore, Cond.instanceMethod yX6_explore, Cond.selects RX6 yX6_explore yX6_explore, Cond.code yX6_explore cX6_explore 5 (some .boolean), Cond.fieldLink RX6 41 "IntegerHouse$Places" "table" "[I", Cond.fieldLink RX6 76 "IntegerHouse$Places" "atoms" "I", Cond.fieldLink RX6 44 "IntegerHouse$Places" "house" "LIntegerHouse$House;", Cond.fieldLink RX6 11 "IntegerHouse$Places" "work" "[I", Cond.fieldLink RX6 27 "IntegerHouse$Places" "fresh" "[I", Cond.fieldLink RX6 20 "IntegerHouse$Places" "isLine" "[Z", Cond.fieldLink RX6 35 "IntegerHouse$Places" "next" "[I", Cond.methodLink RX6 67 yX6_gather, Cond.instanceMethod yX6_gather, Cond.selects RX6 yX6_gather yX6_gather, Cond.code yX6_gather cX6_gather 5 (some .boolean), Cond.fieldLink RX6 90 "IntegerHouse$Places" "needed" "I", Cond.methodLink RX6 96 Lib.Math.min.name, Cond.methodLink RX6 101 Lib.Math.max.name, Cond.static Lib.Math.max.name, Cond.code Lib.Math.max.name Lib.Math.max.code 2 (some .int), Cond.methodLink RX6 104 yX2_fact, Cond.methodLink RX6 107 yX2_atomOf, Cond.methodLink RX6 110 yX6_addWork, Cond.instanceMethod yX6_addWork]
def wsX11_follows_r19 : List Cond := [Cond.selects RX6 yX6_addWork yX6_addWork, Cond.code yX6_addWork cX6_addWork 5 (some .boolean), Cond.fieldLink RX6 17 "IntegerHouse$Places" "workOf" "[I", Cond.fieldLink RX6 24 "IntegerHouse$Places" "sums" "[I", Cond.methodLink RX6 79 yX2_pooled, Cond.instanceMethod yX2_pooled, Cond.selects RX2 yX2_pooled yX2_pooled, Cond.code yX2_pooled cX2_pooled 3 (some .int), Cond.methodLink RX6 70 yJ7_fill_53178, Cond.static yJ7_fill_53178, Cond.initialized RJ7, Cond.code yJ7_fill_53178 cJ7_fill_53178 4 none, Cond.methodLink RX6 82 yX6_locate, Cond.instanceMethod yX6_locate, Cond.selects RX6 yX6_locate yX6_locate, Cond.code yX6_locate cX6_locate 5 (some .int), Cond.constant RX6 116 (739982445), Cond.methodLink RX6 117 yX6_addPlace, Cond.instanceMethod yX6_addPlace, Cond.selects RX6 yX6_addPlace yX6_addPlace, Cond.code yX6_addPlace cX6_addPlace 4 (some .int), Cond.fieldLink RX6 31 "IntegerHouse$Places" "stands" "[I", Cond.methodLink RX6 120 yX6_isFresh, Cond.instanceMethod yX6_isFresh]
def wsX11_follows_r20 : List Cond := [Cond.selects RX6 yX6_isFresh yX6_isFresh, Cond.code yX6_isFresh cX6_isFresh 4 (some .boolean), Cond.methodLink RX6 86 yX6_halve, Cond.instanceMethod yX6_halve, Cond.selects RX6 yX6_halve yX6_halve, Cond.code yX6_halve cX6_halve 7 none, Cond.methodLink RX6 113 yX6_halved, Cond.static yX6_halved, Cond.code yX6_halved cX6_halved 5 (some .int), Cond.methodLink RX6 59 yX6_atomsAt, Cond.instanceMethod yX6_atomsAt, Cond.selects RX6 yX6_atomsAt yX6_atomsAt, Cond.code yX6_atomsAt cX6_atomsAt 10 (some .int), Cond.methodLink RX6 63 yX6_soOf, Cond.instanceMethod yX6_soOf, Cond.selects RX6 yX6_soOf yX6_soOf, Cond.code yX6_soOf cX6_soOf 4 (some .int), Cond.methodLink RX6 127 yX6_isSo, Cond.instanceMethod yX6_isSo, Cond.selects RX6 yX6_isSo yX6_isSo, Cond.code yX6_isSo cX6_isSo 10 (some .boolean), Cond.methodLink RX6 136 yX6_joined, Cond.static yX6_joined, Cond.code yX6_joined cX6_joined 9 (some .long)]
def wsX11_follows_r21 : List Cond := [Cond.methodLink RX11 301 yX0_tellLeast, Cond.instanceMethod yX0_tellLeast, Cond.selects RX0 yX0_tellLeast yX0_tellLeast, Cond.initialized RX0, Cond.code yX0_tellLeast cX0_tellLeast 6 (some .boolean), Cond.fieldLink RX0 18 "IntegerHouse$Answers" "far" "[I", Cond.fieldLink RX0 22 "IntegerHouse$Answers" "ends" "[I", Cond.methodLink RX0 82 yX0_findEnds, Cond.instanceMethod yX0_findEnds, Cond.selects RX0 yX0_findEnds yX0_findEnds, Cond.code yX0_findEnds cX0_findEnds 5 (some .int), Cond.fieldLink RX0 48 "IntegerHouse$Answers" "places" "LIntegerHouse$Places;", Cond.methodLink RX0 75 Lib.Math.min.name, Cond.methodLink RX0 78 yX6_acceptedBy, Cond.instanceMethod yX6_acceptedBy, Cond.selects RX6 yX6_acceptedBy yX6_acceptedBy, Cond.code yX6_acceptedBy cX6_acceptedBy 6 (some .int), Cond.methodLink RX6 123 yX6_accepts, Cond.instanceMethod yX6_accepts, Cond.selects RX6 yX6_accepts yX6_accepts, Cond.code yX6_accepts cX6_accepts 7 (some .boolean), Cond.methodLink RX0 85 yX0_spread, Cond.instanceMethod yX0_spread, Cond.selects RX0 yX0_spread yX0_spread]
def wsX11_follows_r22 : List Cond := [Cond.code yX0_spread cX0_spread 6 (some .boolean), Cond.methodLink RX0 95 yX6_behind, Cond.instanceMethod yX6_behind, Cond.selects RX6 yX6_behind yX6_behind, Cond.code yX6_behind cX6_behind 4 (some .int), Cond.methodLink RX0 98 yX0_farFrom, Cond.instanceMethod yX0_farFrom, Cond.selects RX0 yX0_farFrom yX0_farFrom, Cond.code yX0_farFrom cX0_farFrom 2 (some .int), Cond.methodLink RX0 89 yX0_walk, Cond.instanceMethod yX0_walk, Cond.selects RX0 yX0_walk yX0_walk, Cond.code yX0_walk cX0_walk 4 none, Cond.fieldLink RX0 40 "IntegerHouse$Answers" "toldHeight" "I", Cond.fieldLink RX0 44 "IntegerHouse$Answers" "house" "LIntegerHouse$House;", Cond.fieldLink RX0 69 "IntegerHouse$Answers" "valuesTold" "I", Cond.fieldLink RX0 9 "IntegerHouse$Answers" "values" "[J", Cond.methodLink RX0 102 yJ7_fill_d0a16, Cond.static yJ7_fill_d0a16, Cond.code yJ7_fill_d0a16 cJ7_fill_d0a16 5 none, Cond.methodLink RX0 108 yX0_addBits, Cond.instanceMethod yX0_addBits, Cond.selects RX0 yX0_addBits yX0_addBits, Cond.code yX0_addBits cX0_addBits 5 none]
def wsX11_follows_r23 : List Cond := [Cond.methodLink RX0 112 yX0_endsOf, Cond.instanceMethod yX0_endsOf, Cond.selects RX0 yX0_endsOf yX0_endsOf, Cond.code yX0_endsOf cX0_endsOf 2 (some .int)]
def wsX11_follows : List Cond := .code yX11_follows cX11_follows 3 (some .int) :: ((wsX11_follows_r1 ++ (wsX11_follows_r2 ++ (wsX11_follows_r3 ++ (wsX11_follows_r4 ++ (wsX11_follows_r5 ++ (wsX11_follows_r6 ++ (wsX11_follows_r7 ++ (wsX11_follows_r8 ++ (wsX11_follows_r9 ++ (wsX11_follows_r10 ++ (wsX11_follows_r11 ++ (wsX11_follows_r12 ++ (wsX11_follows_r13 ++ (wsX11_follows_r14 ++ (wsX11_follows_r15 ++ (wsX11_follows_r16 ++ (wsX11_follows_r17 ++ (wsX11_follows_r18 ++ (wsX11_follows_r19 ++ (wsX11_follows_r20 ++ (wsX11_follows_r21 ++ (wsX11_follows_r22 ++ wsX11_follows_r23)))))))))))))))))))))) ++ wsX110 ++ wsX10 ++ wsX20 ++ wsX80 ++ wsX30 ++ wsX40 ++ wsX60 ++ wsX00)
def wsX12_isWord : List Cond := .code yX12_isWord cX12_isWord 2 (some .boolean) :: ([.fieldLink RX12 87 "IntegerHouseModel" "tokenKind" "[I", .fieldLink RX12 597 "IntegerHouseModel" "now" "I", .fieldLink RX12 90 "IntegerHouseModel" "tokenValue" "[I"] ++ wsX120)
def wsX12_isSign : List Cond := .code yX12_isSign cX12_isSign 2 (some .boolean) :: ([.fieldLink RX12 87 "IntegerHouseModel" "tokenKind" "[I", .fieldLink RX12 597 "IntegerHouseModel" "now" "I", .fieldLink RX12 90 "IntegerHouseModel" "tokenValue" "[I"] ++ wsX120)
def wsX12_beginSlot : List Cond := .code yX12_beginSlot cX12_beginSlot 2 none :: ([.fieldLink RX12 630 "IntegerHouseModel" "slot" "I", .fieldLink RX12 633 "IntegerHouseModel" "open" "I", .fieldLink RX12 105 "IntegerHouseModel" "textCount" "[I", .fieldLink RX12 120 "IntegerHouseModel" "nodeCount" "[I", .fieldLink RX12 153 "IntegerHouseModel" "leafCount" "[I", .fieldLink RX12 165 "IntegerHouseModel" "termCount" "[I", .fieldLink RX12 181 "IntegerHouseModel" "partCount" "[I"] ++ wsX120)
def wsX12_openFormula : List Cond := .code yX12_openFormula cX12_openFormula 1 none :: ([.fieldLink RX12 639 "IntegerHouseModel" "formulas" "I", .fieldLink RX12 187 "IntegerHouseModel" "openJoin" "[I", .fieldLink RX12 190 "IntegerHouseModel" "openLeft" "[I", .fieldLink RX12 193 "IntegerHouseModel" "openOr" "[I", .fieldLink RX12 199 "IntegerHouseModel" "openAnd" "[I", .fieldLink RX12 205 "IntegerHouseModel" "openNots" "[I"] ++ wsX120)
def wsX12_readOne_r1 : List Cond := [Cond.fieldLink RX12 87 "IntegerHouseModel" "tokenKind" "[I", Cond.fieldLink RX12 597 "IntegerHouseModel" "now" "I", Cond.fieldLink RX12 90 "IntegerHouseModel" "tokenValue" "[I", Cond.fieldLink RX12 105 "IntegerHouseModel" "textCount" "[I", Cond.fieldLink RX12 630 "IntegerHouseModel" "slot" "I", Cond.fieldLink RX12 205 "IntegerHouseModel" "openNots" "[I", Cond.fieldLink RX12 639 "IntegerHouseModel" "formulas" "I", Cond.fieldLink RX12 135 "IntegerHouseModel" "leafFrom" "[I", Cond.fieldLink RX12 153 "IntegerHouseModel" "leafCount" "[I", Cond.fieldLink RX12 562 "IntegerHouseModel" "faulty" "Z", Cond.constantLong RX12 694 (8), Cond.constantLong RX12 696 (12), Cond.methodLink RX12 666 yX12_isWord, Cond.instanceMethod yX12_isWord, Cond.selects RX12 yX12_isWord yX12_isWord, Cond.initialized RX12, Cond.code yX12_isWord cX12_isWord 2 (some .boolean), Cond.methodLink RX12 669 yX12_takeOpen, Cond.instanceMethod yX12_takeOpen, Cond.selects RX12 yX12_takeOpen yX12_takeOpen, Cond.code yX12_takeOpen cX12_takeOpen 1 none, Cond.fieldLink RX12 633 "IntegerHouseModel" "open" "I", Cond.methodLink RX12 616 yX12_fail, Cond.instanceMethod yX12_fail]
def wsX12_readOne_r2 : List Cond := [Cond.selects RX12 yX12_fail yX12_fail, Cond.code yX12_fail cX12_fail 3 none, Cond.fieldLink RX12 565 "IntegerHouseModel" "faultKind" "I", Cond.fieldLink RX12 81 "IntegerHouseModel" "tokenAt" "[I", Cond.fieldLink RX12 568 "IntegerHouseModel" "faultPlace" "I", Cond.methodLink RX12 636 yX12_take, Cond.instanceMethod yX12_take, Cond.selects RX12 yX12_take yX12_take, Cond.code yX12_take cX12_take 3 none, Cond.fieldLink RX12 102 "IntegerHouseModel" "textSize" "[I", Cond.fieldLink RX12 84 "IntegerHouseModel" "tokenSize" "[I", Cond.fieldLink RX12 99 "IntegerHouseModel" "textBytes" "[B", Cond.fieldLink RX12 32 "IntegerHouseModel" "doc" "[B", Cond.methodLink RX12 672 yX12_isSign, Cond.instanceMethod yX12_isSign, Cond.selects RX12 yX12_isSign yX12_isSign, Cond.code yX12_isSign cX12_isSign 2 (some .boolean), Cond.methodLink RX12 645 yX12_openFormula, Cond.instanceMethod yX12_openFormula, Cond.selects RX12 yX12_openFormula yX12_openFormula, Cond.code yX12_openFormula cX12_openFormula 1 none, Cond.fieldLink RX12 187 "IntegerHouseModel" "openJoin" "[I", Cond.fieldLink RX12 190 "IntegerHouseModel" "openLeft" "[I", Cond.fieldLink RX12 193 "IntegerHouseModel" "openOr" "[I"]
def wsX12_readOne_r3 : List Cond := [Cond.fieldLink RX12 199 "IntegerHouseModel" "openAnd" "[I", Cond.methodLink RX12 675 yX12_newNode, Cond.instanceMethod yX12_newNode, Cond.selects RX12 yX12_newNode yX12_newNode, Cond.code yX12_newNode cX12_newNode 5 (some .int), Cond.fieldLink RX12 120 "IntegerHouseModel" "nodeCount" "[I", Cond.fieldLink RX12 108 "IntegerHouseModel" "nodeKind" "[I", Cond.fieldLink RX12 111 "IntegerHouseModel" "nodeA" "[I", Cond.fieldLink RX12 114 "IntegerHouseModel" "nodeB" "[I", Cond.fieldLink RX12 117 "IntegerHouseModel" "nodeNext" "[I", Cond.methodLink RX12 679 yX12_endOne, Cond.instanceMethod yX12_endOne, Cond.selects RX12 yX12_endOne yX12_endOne, Cond.code yX12_endOne cX12_endOne 2 none, Cond.fieldLink RX12 660 "IntegerHouseModel" "current" "I", Cond.fieldLink RX12 202 "IntegerHouseModel" "openAndLast" "[I", Cond.fieldLink RX12 648 "IntegerHouseModel" "state" "I", Cond.methodLink RX12 682 yX12_claimAt, Cond.instanceMethod yX12_claimAt, Cond.selects RX12 yX12_claimAt yX12_claimAt, Cond.code yX12_claimAt cX12_claimAt 3 (some .int), Cond.fieldLink RX12 627 "IntegerHouseModel" "knownClaims" "I", Cond.methodLink RX12 623 yX12_isCalled, Cond.instanceMethod yX12_isCalled]
def wsX12_readOne_r4 : List Cond := [Cond.selects RX12 yX12_isCalled yX12_isCalled, Cond.code yX12_isCalled cX12_isCalled 4 (some .boolean), Cond.fieldLink RX12 96 "IntegerHouseModel" "nameSize" "[I", Cond.fieldLink RX12 93 "IntegerHouseModel" "nameText" "[B", Cond.methodLink RX12 685 yX12_variableAt, Cond.instanceMethod yX12_variableAt, Cond.selects RX12 yX12_variableAt yX12_variableAt, Cond.code yX12_variableAt cX12_variableAt 3 (some .int), Cond.fieldLink RX12 620 "IntegerHouseModel" "knownVariables" "I", Cond.methodLink RX12 688 yX12_beginLeaf, Cond.instanceMethod yX12_beginLeaf, Cond.selects RX12 yX12_beginLeaf yX12_beginLeaf, Cond.code yX12_beginLeaf cX12_beginLeaf 4 none, Cond.fieldLink RX12 123 "IntegerHouseModel" "leafOp" "[I", Cond.fieldLink RX12 126 "IntegerHouseModel" "leafNumber" "[I", Cond.fieldLink RX12 129 "IntegerHouseModel" "leafLeft" "[I", Cond.fieldLink RX12 141 "IntegerHouseModel" "leafTerms" "[I", Cond.fieldLink RX12 165 "IntegerHouseModel" "termCount" "[I", Cond.methodLink RX12 663 yX12_openTerm, Cond.instanceMethod yX12_openTerm, Cond.selects RX12 yX12_openTerm yX12_openTerm, Cond.code yX12_openTerm cX12_openTerm 2 none, Cond.fieldLink RX12 642 "IntegerHouseModel" "terms" "I", Cond.fieldLink RX12 208 "IntegerHouseModel" "inKind" "[I"]
def wsX12_readOne_r5 : List Cond := [Cond.fieldLink RX12 211 "IntegerHouseModel" "inFirst" "[I", Cond.fieldLink RX12 217 "IntegerHouseModel" "inSign" "[I", Cond.fieldLink RX12 220 "IntegerHouseModel" "inTimes" "[J", Cond.fieldLink RX12 223 "IntegerHouseModel" "inOne" "[I", Cond.methodLink RX12 691 yX12_takeNumber, Cond.instanceMethod yX12_takeNumber, Cond.selects RX12 yX12_takeNumber yX12_takeNumber, Cond.code yX12_takeNumber cX12_takeNumber 1 none, Cond.constantLong RX12 701 (2), Cond.methodLink RX12 504 yX12_in, Cond.static yX12_in, Cond.code yX12_in cX12_in 6 (some .boolean), Cond.methodLink RX12 698 yX12_cannot, Cond.instanceMethod yX12_cannot, Cond.selects RX12 yX12_cannot yX12_cannot, Cond.code yX12_cannot cX12_cannot 1 none]
def wsX12_readOne : List Cond := .code yX12_readOne cX12_readOne 5 none :: ((wsX12_readOne_r1 ++ (wsX12_readOne_r2 ++ (wsX12_readOne_r3 ++ (wsX12_readOne_r4 ++ wsX12_readOne_r5)))) ++ wsX120)
def wsX12_readFormula_r1 : List Cond := [Cond.fieldLink RX12 639 "IntegerHouseModel" "formulas" "I", Cond.fieldLink RX12 642 "IntegerHouseModel" "terms" "I", Cond.fieldLink RX12 648 "IntegerHouseModel" "state" "I", Cond.fieldLink RX12 562 "IntegerHouseModel" "faulty" "Z", Cond.fieldLink RX12 184 "IntegerHouseModel" "rootOf" "[I", Cond.fieldLink RX12 630 "IntegerHouseModel" "slot" "I", Cond.fieldLink RX12 660 "IntegerHouseModel" "current" "I", Cond.methodLink RX12 645 yX12_openFormula, Cond.instanceMethod yX12_openFormula, Cond.selects RX12 yX12_openFormula yX12_openFormula, Cond.initialized RX12, Cond.code yX12_openFormula cX12_openFormula 1 none, Cond.fieldLink RX12 187 "IntegerHouseModel" "openJoin" "[I", Cond.fieldLink RX12 190 "IntegerHouseModel" "openLeft" "[I", Cond.fieldLink RX12 193 "IntegerHouseModel" "openOr" "[I", Cond.fieldLink RX12 199 "IntegerHouseModel" "openAnd" "[I", Cond.fieldLink RX12 205 "IntegerHouseModel" "openNots" "[I", Cond.methodLink RX12 651 yX12_readOne, Cond.instanceMethod yX12_readOne, Cond.selects RX12 yX12_readOne yX12_readOne, Cond.code yX12_readOne cX12_readOne 5 none, Cond.fieldLink RX12 87 "IntegerHouseModel" "tokenKind" "[I", Cond.fieldLink RX12 597 "IntegerHouseModel" "now" "I", Cond.fieldLink RX12 90 "IntegerHouseModel" "tokenValue" "[I"]
def wsX12_readFormula_r2 : List Cond := [Cond.fieldLink RX12 105 "IntegerHouseModel" "textCount" "[I", Cond.fieldLink RX12 135 "IntegerHouseModel" "leafFrom" "[I", Cond.fieldLink RX12 153 "IntegerHouseModel" "leafCount" "[I", Cond.constantLong RX12 694 (8), Cond.constantLong RX12 696 (12), Cond.methodLink RX12 666 yX12_isWord, Cond.instanceMethod yX12_isWord, Cond.selects RX12 yX12_isWord yX12_isWord, Cond.code yX12_isWord cX12_isWord 2 (some .boolean), Cond.methodLink RX12 669 yX12_takeOpen, Cond.instanceMethod yX12_takeOpen, Cond.selects RX12 yX12_takeOpen yX12_takeOpen, Cond.code yX12_takeOpen cX12_takeOpen 1 none, Cond.fieldLink RX12 633 "IntegerHouseModel" "open" "I", Cond.methodLink RX12 616 yX12_fail, Cond.instanceMethod yX12_fail, Cond.selects RX12 yX12_fail yX12_fail, Cond.code yX12_fail cX12_fail 3 none, Cond.fieldLink RX12 565 "IntegerHouseModel" "faultKind" "I", Cond.fieldLink RX12 81 "IntegerHouseModel" "tokenAt" "[I", Cond.fieldLink RX12 568 "IntegerHouseModel" "faultPlace" "I", Cond.methodLink RX12 636 yX12_take, Cond.instanceMethod yX12_take, Cond.selects RX12 yX12_take yX12_take]
def wsX12_readFormula_r3 : List Cond := [Cond.code yX12_take cX12_take 3 none, Cond.fieldLink RX12 102 "IntegerHouseModel" "textSize" "[I", Cond.fieldLink RX12 84 "IntegerHouseModel" "tokenSize" "[I", Cond.fieldLink RX12 99 "IntegerHouseModel" "textBytes" "[B", Cond.fieldLink RX12 32 "IntegerHouseModel" "doc" "[B", Cond.methodLink RX12 672 yX12_isSign, Cond.instanceMethod yX12_isSign, Cond.selects RX12 yX12_isSign yX12_isSign, Cond.code yX12_isSign cX12_isSign 2 (some .boolean), Cond.methodLink RX12 675 yX12_newNode, Cond.instanceMethod yX12_newNode, Cond.selects RX12 yX12_newNode yX12_newNode, Cond.code yX12_newNode cX12_newNode 5 (some .int), Cond.fieldLink RX12 120 "IntegerHouseModel" "nodeCount" "[I", Cond.fieldLink RX12 108 "IntegerHouseModel" "nodeKind" "[I", Cond.fieldLink RX12 111 "IntegerHouseModel" "nodeA" "[I", Cond.fieldLink RX12 114 "IntegerHouseModel" "nodeB" "[I", Cond.fieldLink RX12 117 "IntegerHouseModel" "nodeNext" "[I", Cond.methodLink RX12 679 yX12_endOne, Cond.instanceMethod yX12_endOne, Cond.selects RX12 yX12_endOne yX12_endOne, Cond.code yX12_endOne cX12_endOne 2 none, Cond.fieldLink RX12 202 "IntegerHouseModel" "openAndLast" "[I", Cond.methodLink RX12 682 yX12_claimAt]
def wsX12_readFormula_r4 : List Cond := [Cond.instanceMethod yX12_claimAt, Cond.selects RX12 yX12_claimAt yX12_claimAt, Cond.code yX12_claimAt cX12_claimAt 3 (some .int), Cond.fieldLink RX12 627 "IntegerHouseModel" "knownClaims" "I", Cond.methodLink RX12 623 yX12_isCalled, Cond.instanceMethod yX12_isCalled, Cond.selects RX12 yX12_isCalled yX12_isCalled, Cond.code yX12_isCalled cX12_isCalled 4 (some .boolean), Cond.fieldLink RX12 96 "IntegerHouseModel" "nameSize" "[I", Cond.fieldLink RX12 93 "IntegerHouseModel" "nameText" "[B", Cond.methodLink RX12 685 yX12_variableAt, Cond.instanceMethod yX12_variableAt, Cond.selects RX12 yX12_variableAt yX12_variableAt, Cond.code yX12_variableAt cX12_variableAt 3 (some .int), Cond.fieldLink RX12 620 "IntegerHouseModel" "knownVariables" "I", Cond.methodLink RX12 688 yX12_beginLeaf, Cond.instanceMethod yX12_beginLeaf, Cond.selects RX12 yX12_beginLeaf yX12_beginLeaf, Cond.code yX12_beginLeaf cX12_beginLeaf 4 none, Cond.fieldLink RX12 123 "IntegerHouseModel" "leafOp" "[I", Cond.fieldLink RX12 126 "IntegerHouseModel" "leafNumber" "[I", Cond.fieldLink RX12 129 "IntegerHouseModel" "leafLeft" "[I", Cond.fieldLink RX12 141 "IntegerHouseModel" "leafTerms" "[I", Cond.fieldLink RX12 165 "IntegerHouseModel" "termCount" "[I"]
def wsX12_readFormula_r5 : List Cond := [Cond.methodLink RX12 663 yX12_openTerm, Cond.instanceMethod yX12_openTerm, Cond.selects RX12 yX12_openTerm yX12_openTerm, Cond.code yX12_openTerm cX12_openTerm 2 none, Cond.fieldLink RX12 208 "IntegerHouseModel" "inKind" "[I", Cond.fieldLink RX12 211 "IntegerHouseModel" "inFirst" "[I", Cond.fieldLink RX12 217 "IntegerHouseModel" "inSign" "[I", Cond.fieldLink RX12 220 "IntegerHouseModel" "inTimes" "[J", Cond.fieldLink RX12 223 "IntegerHouseModel" "inOne" "[I", Cond.methodLink RX12 691 yX12_takeNumber, Cond.instanceMethod yX12_takeNumber, Cond.selects RX12 yX12_takeNumber yX12_takeNumber, Cond.code yX12_takeNumber cX12_takeNumber 1 none, Cond.constantLong RX12 701 (2), Cond.methodLink RX12 504 yX12_in, Cond.static yX12_in, Cond.code yX12_in cX12_in 6 (some .boolean), Cond.methodLink RX12 698 yX12_cannot, Cond.instanceMethod yX12_cannot, Cond.selects RX12 yX12_cannot yX12_cannot, Cond.code yX12_cannot cX12_cannot 1 none, Cond.methodLink RX12 654 yX12_readAfter, Cond.instanceMethod yX12_readAfter, Cond.selects RX12 yX12_readAfter yX12_readAfter]
def wsX12_readFormula_r6 : List Cond := [Cond.code yX12_readAfter cX12_readAfter 4 none, Cond.fieldLink RX12 196 "IntegerHouseModel" "openOrLast" "[I", Cond.methodLink RX12 703 yX12_join, Cond.instanceMethod yX12_join, Cond.selects RX12 yX12_join yX12_join, Cond.code yX12_join cX12_join 8 (some .int), Cond.methodLink RX12 657 yX12_readInTerm, Cond.instanceMethod yX12_readInTerm, Cond.selects RX12 yX12_readInTerm yX12_readInTerm, Cond.code yX12_readInTerm cX12_readInTerm 1 none, Cond.methodLink RX12 706 yX12_addPart, Cond.instanceMethod yX12_addPart, Cond.selects RX12 yX12_addPart yX12_addPart, Cond.code yX12_addPart cX12_addPart 3 none, Cond.fieldLink RX12 181 "IntegerHouseModel" "partCount" "[I", Cond.fieldLink RX12 168 "IntegerHouseModel" "partSign" "[I", Cond.fieldLink RX12 171 "IntegerHouseModel" "partTimes" "[J", Cond.fieldLink RX12 175 "IntegerHouseModel" "partOf" "[I", Cond.fieldLink RX12 178 "IntegerHouseModel" "partNext" "[I", Cond.fieldLink RX12 214 "IntegerHouseModel" "inLast" "[I", Cond.methodLink RX12 709 yX12_readAtom, Cond.instanceMethod yX12_readAtom, Cond.selects RX12 yX12_readAtom yX12_readAtom, Cond.code yX12_readAtom cX12_readAtom 3 none]
def wsX12_readFormula_r7 : List Cond := [Cond.methodLink RX12 715 yX12_newTerm, Cond.instanceMethod yX12_newTerm, Cond.selects RX12 yX12_newTerm yX12_newTerm, Cond.code yX12_newTerm cX12_newTerm 5 (some .int), Cond.fieldLink RX12 156 "IntegerHouseModel" "termKind" "[I", Cond.fieldLink RX12 159 "IntegerHouseModel" "termA" "[I", Cond.fieldLink RX12 162 "IntegerHouseModel" "termB" "[I", Cond.methodLink RX12 712 yX12_endTerm, Cond.instanceMethod yX12_endTerm, Cond.selects RX12 yX12_endTerm yX12_endTerm, Cond.code yX12_endTerm cX12_endTerm 7 none, Cond.methodLink RX12 718 yX12_endSide, Cond.instanceMethod yX12_endSide, Cond.selects RX12 yX12_endSide yX12_endSide, Cond.code yX12_endSide cX12_endSide 5 none, Cond.constantLong RX12 721 (11), Cond.constantLong RX12 723 (15), Cond.fieldLink RX12 132 "IntegerHouseModel" "leafRight" "[I", Cond.fieldLink RX12 138 "IntegerHouseModel" "leafTo" "[I", Cond.fieldLink RX12 144 "IntegerHouseModel" "leafTermsTo" "[I"]
def wsX12_readFormula : List Cond := .code yX12_readFormula cX12_readFormula 1 (some .int) :: ((wsX12_readFormula_r1 ++ (wsX12_readFormula_r2 ++ (wsX12_readFormula_r3 ++ (wsX12_readFormula_r4 ++ (wsX12_readFormula_r5 ++ (wsX12_readFormula_r6 ++ wsX12_readFormula_r7)))))) ++ wsX120)
def wsX12_readsFormula_r1 : List Cond := [Cond.fieldLink RX12 597 "IntegerHouseModel" "now" "I", Cond.fieldLink RX12 562 "IntegerHouseModel" "faulty" "Z", Cond.fieldLink RX12 87 "IntegerHouseModel" "tokenKind" "[I", Cond.methodLink RX12 842 yX12_beginSlot, Cond.instanceMethod yX12_beginSlot, Cond.selects RX12 yX12_beginSlot yX12_beginSlot, Cond.initialized RX12, Cond.code yX12_beginSlot cX12_beginSlot 2 none, Cond.fieldLink RX12 630 "IntegerHouseModel" "slot" "I", Cond.fieldLink RX12 633 "IntegerHouseModel" "open" "I", Cond.fieldLink RX12 105 "IntegerHouseModel" "textCount" "[I", Cond.fieldLink RX12 120 "IntegerHouseModel" "nodeCount" "[I", Cond.fieldLink RX12 153 "IntegerHouseModel" "leafCount" "[I", Cond.fieldLink RX12 165 "IntegerHouseModel" "termCount" "[I", Cond.fieldLink RX12 181 "IntegerHouseModel" "partCount" "[I", Cond.methodLink RX12 845 yX12_readFormula, Cond.instanceMethod yX12_readFormula, Cond.selects RX12 yX12_readFormula yX12_readFormula, Cond.code yX12_readFormula cX12_readFormula 1 (some .int), Cond.fieldLink RX12 639 "IntegerHouseModel" "formulas" "I", Cond.fieldLink RX12 642 "IntegerHouseModel" "terms" "I", Cond.fieldLink RX12 648 "IntegerHouseModel" "state" "I", Cond.fieldLink RX12 184 "IntegerHouseModel" "rootOf" "[I", Cond.fieldLink RX12 660 "IntegerHouseModel" "current" "I"]
def wsX12_readsFormula_r2 : List Cond := [Cond.methodLink RX12 645 yX12_openFormula, Cond.instanceMethod yX12_openFormula, Cond.selects RX12 yX12_openFormula yX12_openFormula, Cond.code yX12_openFormula cX12_openFormula 1 none, Cond.fieldLink RX12 187 "IntegerHouseModel" "openJoin" "[I", Cond.fieldLink RX12 190 "IntegerHouseModel" "openLeft" "[I", Cond.fieldLink RX12 193 "IntegerHouseModel" "openOr" "[I", Cond.fieldLink RX12 199 "IntegerHouseModel" "openAnd" "[I", Cond.fieldLink RX12 205 "IntegerHouseModel" "openNots" "[I", Cond.methodLink RX12 651 yX12_readOne, Cond.instanceMethod yX12_readOne, Cond.selects RX12 yX12_readOne yX12_readOne, Cond.code yX12_readOne cX12_readOne 5 none, Cond.fieldLink RX12 90 "IntegerHouseModel" "tokenValue" "[I", Cond.fieldLink RX12 135 "IntegerHouseModel" "leafFrom" "[I", Cond.constantLong RX12 694 (8), Cond.constantLong RX12 696 (12), Cond.methodLink RX12 666 yX12_isWord, Cond.instanceMethod yX12_isWord, Cond.selects RX12 yX12_isWord yX12_isWord, Cond.code yX12_isWord cX12_isWord 2 (some .boolean), Cond.methodLink RX12 669 yX12_takeOpen, Cond.instanceMethod yX12_takeOpen, Cond.selects RX12 yX12_takeOpen yX12_takeOpen]
def wsX12_readsFormula_r3 : List Cond := [Cond.code yX12_takeOpen cX12_takeOpen 1 none, Cond.methodLink RX12 616 yX12_fail, Cond.instanceMethod yX12_fail, Cond.selects RX12 yX12_fail yX12_fail, Cond.code yX12_fail cX12_fail 3 none, Cond.fieldLink RX12 565 "IntegerHouseModel" "faultKind" "I", Cond.fieldLink RX12 81 "IntegerHouseModel" "tokenAt" "[I", Cond.fieldLink RX12 568 "IntegerHouseModel" "faultPlace" "I", Cond.methodLink RX12 636 yX12_take, Cond.instanceMethod yX12_take, Cond.selects RX12 yX12_take yX12_take, Cond.code yX12_take cX12_take 3 none, Cond.fieldLink RX12 102 "IntegerHouseModel" "textSize" "[I", Cond.fieldLink RX12 84 "IntegerHouseModel" "tokenSize" "[I", Cond.fieldLink RX12 99 "IntegerHouseModel" "textBytes" "[B", Cond.fieldLink RX12 32 "IntegerHouseModel" "doc" "[B", Cond.methodLink RX12 672 yX12_isSign, Cond.instanceMethod yX12_isSign, Cond.selects RX12 yX12_isSign yX12_isSign, Cond.code yX12_isSign cX12_isSign 2 (some .boolean), Cond.methodLink RX12 675 yX12_newNode, Cond.instanceMethod yX12_newNode, Cond.selects RX12 yX12_newNode yX12_newNode, Cond.code yX12_newNode cX12_newNode 5 (some .int)]
def wsX12_readsFormula_r4 : List Cond := [Cond.fieldLink RX12 108 "IntegerHouseModel" "nodeKind" "[I", Cond.fieldLink RX12 111 "IntegerHouseModel" "nodeA" "[I", Cond.fieldLink RX12 114 "IntegerHouseModel" "nodeB" "[I", Cond.fieldLink RX12 117 "IntegerHouseModel" "nodeNext" "[I", Cond.methodLink RX12 679 yX12_endOne, Cond.instanceMethod yX12_endOne, Cond.selects RX12 yX12_endOne yX12_endOne, Cond.code yX12_endOne cX12_endOne 2 none, Cond.fieldLink RX12 202 "IntegerHouseModel" "openAndLast" "[I", Cond.methodLink RX12 682 yX12_claimAt, Cond.instanceMethod yX12_claimAt, Cond.selects RX12 yX12_claimAt yX12_claimAt, Cond.code yX12_claimAt cX12_claimAt 3 (some .int), Cond.fieldLink RX12 627 "IntegerHouseModel" "knownClaims" "I", Cond.methodLink RX12 623 yX12_isCalled, Cond.instanceMethod yX12_isCalled, Cond.selects RX12 yX12_isCalled yX12_isCalled, Cond.code yX12_isCalled cX12_isCalled 4 (some .boolean), Cond.fieldLink RX12 96 "IntegerHouseModel" "nameSize" "[I", Cond.fieldLink RX12 93 "IntegerHouseModel" "nameText" "[B", Cond.methodLink RX12 685 yX12_variableAt, Cond.instanceMethod yX12_variableAt, Cond.selects RX12 yX12_variableAt yX12_variableAt, Cond.code yX12_variableAt cX12_variableAt 3 (some .int)]
def wsX12_readsFormula_r5 : List Cond := [Cond.fieldLink RX12 620 "IntegerHouseModel" "knownVariables" "I", Cond.methodLink RX12 688 yX12_beginLeaf, Cond.instanceMethod yX12_beginLeaf, Cond.selects RX12 yX12_beginLeaf yX12_beginLeaf, Cond.code yX12_beginLeaf cX12_beginLeaf 4 none, Cond.fieldLink RX12 123 "IntegerHouseModel" "leafOp" "[I", Cond.fieldLink RX12 126 "IntegerHouseModel" "leafNumber" "[I", Cond.fieldLink RX12 129 "IntegerHouseModel" "leafLeft" "[I", Cond.fieldLink RX12 141 "IntegerHouseModel" "leafTerms" "[I", Cond.methodLink RX12 663 yX12_openTerm, Cond.instanceMethod yX12_openTerm, Cond.selects RX12 yX12_openTerm yX12_openTerm, Cond.code yX12_openTerm cX12_openTerm 2 none, Cond.fieldLink RX12 208 "IntegerHouseModel" "inKind" "[I", Cond.fieldLink RX12 211 "IntegerHouseModel" "inFirst" "[I", Cond.fieldLink RX12 217 "IntegerHouseModel" "inSign" "[I", Cond.fieldLink RX12 220 "IntegerHouseModel" "inTimes" "[J", Cond.fieldLink RX12 223 "IntegerHouseModel" "inOne" "[I", Cond.methodLink RX12 691 yX12_takeNumber, Cond.instanceMethod yX12_takeNumber, Cond.selects RX12 yX12_takeNumber yX12_takeNumber, Cond.code yX12_takeNumber cX12_takeNumber 1 none, Cond.constantLong RX12 701 (2), Cond.methodLink RX12 504 yX12_in]
def wsX12_readsFormula_r6 : List Cond := [Cond.static yX12_in, Cond.code yX12_in cX12_in 6 (some .boolean), Cond.methodLink RX12 698 yX12_cannot, Cond.instanceMethod yX12_cannot, Cond.selects RX12 yX12_cannot yX12_cannot, Cond.code yX12_cannot cX12_cannot 1 none, Cond.methodLink RX12 654 yX12_readAfter, Cond.instanceMethod yX12_readAfter, Cond.selects RX12 yX12_readAfter yX12_readAfter, Cond.code yX12_readAfter cX12_readAfter 4 none, Cond.fieldLink RX12 196 "IntegerHouseModel" "openOrLast" "[I", Cond.methodLink RX12 703 yX12_join, Cond.instanceMethod yX12_join, Cond.selects RX12 yX12_join yX12_join, Cond.code yX12_join cX12_join 8 (some .int), Cond.methodLink RX12 657 yX12_readInTerm, Cond.instanceMethod yX12_readInTerm, Cond.selects RX12 yX12_readInTerm yX12_readInTerm, Cond.code yX12_readInTerm cX12_readInTerm 1 none, Cond.methodLink RX12 706 yX12_addPart, Cond.instanceMethod yX12_addPart, Cond.selects RX12 yX12_addPart yX12_addPart, Cond.code yX12_addPart cX12_addPart 3 none, Cond.fieldLink RX12 168 "IntegerHouseModel" "partSign" "[I"]
def wsX12_readsFormula_r7 : List Cond := [Cond.fieldLink RX12 171 "IntegerHouseModel" "partTimes" "[J", Cond.fieldLink RX12 175 "IntegerHouseModel" "partOf" "[I", Cond.fieldLink RX12 178 "IntegerHouseModel" "partNext" "[I", Cond.fieldLink RX12 214 "IntegerHouseModel" "inLast" "[I", Cond.methodLink RX12 709 yX12_readAtom, Cond.instanceMethod yX12_readAtom, Cond.selects RX12 yX12_readAtom yX12_readAtom, Cond.code yX12_readAtom cX12_readAtom 3 none, Cond.methodLink RX12 715 yX12_newTerm, Cond.instanceMethod yX12_newTerm, Cond.selects RX12 yX12_newTerm yX12_newTerm, Cond.code yX12_newTerm cX12_newTerm 5 (some .int), Cond.fieldLink RX12 156 "IntegerHouseModel" "termKind" "[I", Cond.fieldLink RX12 159 "IntegerHouseModel" "termA" "[I", Cond.fieldLink RX12 162 "IntegerHouseModel" "termB" "[I", Cond.methodLink RX12 712 yX12_endTerm, Cond.instanceMethod yX12_endTerm, Cond.selects RX12 yX12_endTerm yX12_endTerm, Cond.code yX12_endTerm cX12_endTerm 7 none, Cond.methodLink RX12 718 yX12_endSide, Cond.instanceMethod yX12_endSide, Cond.selects RX12 yX12_endSide yX12_endSide, Cond.code yX12_endSide cX12_endSide 5 none, Cond.constantLong RX12 721 (11)]
def wsX12_readsFormula_r8 : List Cond := [Cond.constantLong RX12 723 (15), Cond.fieldLink RX12 132 "IntegerHouseModel" "leafRight" "[I", Cond.fieldLink RX12 138 "IntegerHouseModel" "leafTo" "[I", Cond.fieldLink RX12 144 "IntegerHouseModel" "leafTermsTo" "[I"]
def wsX12_readsFormula : List Cond := .code yX12_readsFormula cX12_readsFormula 3 (some .boolean) :: ((wsX12_readsFormula_r1 ++ (wsX12_readsFormula_r2 ++ (wsX12_readsFormula_r3 ++ (wsX12_readsFormula_r4 ++ (wsX12_readsFormula_r5 ++ (wsX12_readsFormula_r6 ++ (wsX12_readsFormula_r7 ++ wsX12_readsFormula_r8))))))) ++ wsX120)
def wsX12_follows_r1 : List Cond := [Cond.methodLink RX12 871 yX12_asks, Cond.instanceMethod yX12_asks, Cond.selects RX12 yX12_asks yX12_asks, Cond.initialized RX12, Cond.code yX12_asks cX12_asks 1 (some .boolean), Cond.fieldLink RX12 3 "IntegerHouseModel" "thrown" "I", Cond.fieldLink RX12 488 "IntegerHouseModel" "down" "Z", Cond.methodLink RX12 874 yX12_begin, Cond.instanceMethod yX12_begin, Cond.selects RX12 yX12_begin yX12_begin, Cond.code yX12_begin cX12_begin 1 none, Cond.fieldLink RX12 815 "IntegerHouseModel" "variables" "I", Cond.fieldLink RX12 620 "IntegerHouseModel" "knownVariables" "I", Cond.fieldLink RX12 818 "IntegerHouseModel" "claims" "I", Cond.fieldLink RX12 627 "IntegerHouseModel" "knownClaims" "I", Cond.methodLink RX12 491 yX12_takeTape, Cond.instanceMethod yX12_takeTape, Cond.selects RX12 yX12_takeTape yX12_takeTape, Cond.code yX12_takeTape cX12_takeTape 2 none, Cond.fieldLink RX12 485 "IntegerHouseModel" "taped" "I", Cond.fieldLink RX12 469 "IntegerHouseModel" "docSize" "I", Cond.fieldLink RX12 32 "IntegerHouseModel" "doc" "[B", Cond.fieldLink RX12 15 "IntegerHouseModel" "tape" "[B", Cond.methodLink RX12 848 yX12_scan]
def wsX12_follows_r2 : List Cond := [Cond.instanceMethod yX12_scan, Cond.selects RX12 yX12_scan yX12_scan, Cond.code yX12_scan cX12_scan 8 none, Cond.fieldLink RX12 594 "IntegerHouseModel" "tokens" "I", Cond.fieldLink RX12 562 "IntegerHouseModel" "faulty" "Z", Cond.fieldLink RX12 597 "IntegerHouseModel" "now" "I", Cond.fieldLink RX12 81 "IntegerHouseModel" "tokenAt" "[I", Cond.fieldLink RX12 84 "IntegerHouseModel" "tokenSize" "[I", Cond.fieldLink RX12 87 "IntegerHouseModel" "tokenKind" "[I", Cond.fieldLink RX12 90 "IntegerHouseModel" "tokenValue" "[I", Cond.fieldLink RX12 77 "IntegerHouseModel" "words" "[Ljava/lang/String;", Cond.methodLink RX12 586 yX12_char1, Cond.instanceMethod yX12_char1, Cond.selects RX12 yX12_char1 yX12_char1, Cond.code yX12_char1 cX12_char1 2 (some .int), Cond.methodLink RX12 600 yX12_isLetter, Cond.static yX12_isLetter, Cond.code yX12_isLetter cX12_isLetter 1 (some .boolean), Cond.constantLong RX12 571 (97), Cond.constantLong RX12 573 (122), Cond.constantLong RX12 575 (65), Cond.constantLong RX12 577 (90), Cond.methodLink RX12 504 yX12_in, Cond.static yX12_in]
def wsX12_follows_r3 : List Cond := [Cond.code yX12_in cX12_in 6 (some .boolean), Cond.methodLink RX12 603 yX12_isDigit, Cond.static yX12_isDigit, Cond.code yX12_isDigit cX12_isDigit 1 (some .boolean), Cond.constantLong RX12 579 (48), Cond.constantLong RX12 581 (57), Cond.methodLink RX12 606 yX12_longSign, Cond.static yX12_longSign, Cond.code yX12_longSign cX12_longSign 2 (some .int), Cond.methodLink RX12 609 yX12_signOf, Cond.static yX12_signOf, Cond.code yX12_signOf cX12_signOf 1 (some .int), Cond.methodLink RX12 612 yX12_isText, Cond.instanceMethod yX12_isText, Cond.selects RX12 yX12_isText yX12_isText, Cond.code yX12_isText cX12_isText 4 (some .boolean), Cond.methodLink RX12 583 yJ0_length_8abf5, Cond.instanceMethod yJ0_length_8abf5, Cond.selects RJ0 yJ0_length_8abf5 yJ0_length_8abf5, Cond.initialized RJ0, Cond.code yJ0_length_8abf5 cJ0_length_8abf5 1 (some .int), Cond.fieldLink RJ0 9 "java/lang/String" "value" "[B", Cond.methodLink RJ0 335 yJ0_coder_7d493, Cond.instanceMethod yJ0_coder_7d493]
def wsX12_follows_r4 : List Cond := [Cond.selects RJ0 yJ0_coder_7d493 yJ0_coder_7d493, Cond.code yJ0_coder_7d493 cJ0_coder_7d493 1 (some .byte), Cond.fieldLink RJ0 38 "java/lang/String" "COMPACT_STRINGS" "Z", Cond.fieldLink RJ0 15 "java/lang/String" "coder" "B", Cond.methodLink RX12 590 yJ0_charAt_5068e, Cond.instanceMethod yJ0_charAt_5068e, Cond.selects RJ0 yJ0_charAt_5068e yJ0_charAt_5068e, Cond.code yJ0_charAt_5068e cJ0_charAt_5068e 2 (some .char), Cond.methodLink RJ0 492 yJ0_isLatin1_aae02, Cond.instanceMethod yJ0_isLatin1_aae02, Cond.selects RJ0 yJ0_isLatin1_aae02 yJ0_isLatin1_aae02, Cond.code yJ0_isLatin1_aae02 cJ0_isLatin1_aae02 1 (some .boolean), Cond.methodLink RJ0 495 yJ1_charAt_3b067, Cond.static yJ1_charAt_3b067, Cond.initialized RJ1, Cond.code yJ1_charAt_3b067 cJ1_charAt_3b067 2 (some .char), Cond.methodLink RJ1 9 yJ0_checkIndex_df160, Cond.static yJ0_checkIndex_df160, Cond.code yJ0_checkIndex_df160 cJ0_checkIndex_df160 2 none, Cond.fieldLink RJ0 1053 "jdk/internal/util/Preconditions" "SIOOBE_FORMATTER" "Ljava/util/function/BiFunction;", Cond.methodLink RJ0 1059 yJ3_checkIndex_8e157, Cond.static yJ3_checkIndex_8e157, Cond.initialized RJ3, Cond.code yJ3_checkIndex_8e157 cJ3_checkIndex_8e157 3 (some .int)]
def wsX12_follows_r5 : List Cond := [Cond.methodLink RJ0 498 yJ2_charAt_3b067, Cond.static yJ2_charAt_3b067, Cond.initialized RJ2, Cond.code yJ2_charAt_3b067 cJ2_charAt_3b067 2 (some .char), Cond.methodLink RJ2 67 yJ2_checkIndex_2214a, Cond.static yJ2_checkIndex_2214a, Cond.code yJ2_checkIndex_2214a cJ2_checkIndex_2214a 2 none, Cond.methodLink RJ2 48 yJ2_length_9d52b, Cond.static yJ2_length_9d52b, Cond.code yJ2_length_9d52b cJ2_length_9d52b 1 (some .int), Cond.methodLink RJ2 414 yJ0_checkIndex_df160, Cond.methodLink RJ2 71 yJ2_getChar_3b067, Cond.static yJ2_getChar_3b067, Cond.code yJ2_getChar_3b067 cJ2_getChar_3b067 2 (some .char), Cond.fieldLink RJ2 44 "java/lang/StringUTF16" "$assertionsDisabled" "Z", Cond.fieldLink RJ2 59 "java/lang/StringUTF16" "HI_BYTE_SHIFT" "I", Cond.fieldLink RJ2 63 "java/lang/StringUTF16" "LO_BYTE_SHIFT" "I", Cond.methodLink RX12 994 yX12_readsFormula, Cond.instanceMethod yX12_readsFormula, Cond.selects RX12 yX12_readsFormula yX12_readsFormula, Cond.code yX12_readsFormula cX12_readsFormula 3 (some .boolean), Cond.methodLink RX12 842 yX12_beginSlot, Cond.instanceMethod yX12_beginSlot, Cond.selects RX12 yX12_beginSlot yX12_beginSlot]
def wsX12_follows_r6 : List Cond := [Cond.code yX12_beginSlot cX12_beginSlot 2 none, Cond.fieldLink RX12 630 "IntegerHouseModel" "slot" "I", Cond.fieldLink RX12 633 "IntegerHouseModel" "open" "I", Cond.fieldLink RX12 105 "IntegerHouseModel" "textCount" "[I", Cond.fieldLink RX12 120 "IntegerHouseModel" "nodeCount" "[I", Cond.fieldLink RX12 153 "IntegerHouseModel" "leafCount" "[I", Cond.fieldLink RX12 165 "IntegerHouseModel" "termCount" "[I", Cond.fieldLink RX12 181 "IntegerHouseModel" "partCount" "[I", Cond.methodLink RX12 845 yX12_readFormula, Cond.instanceMethod yX12_readFormula, Cond.selects RX12 yX12_readFormula yX12_readFormula, Cond.code yX12_readFormula cX12_readFormula 1 (some .int), Cond.fieldLink RX12 639 "IntegerHouseModel" "formulas" "I", Cond.fieldLink RX12 642 "IntegerHouseModel" "terms" "I", Cond.fieldLink RX12 648 "IntegerHouseModel" "state" "I", Cond.fieldLink RX12 184 "IntegerHouseModel" "rootOf" "[I", Cond.fieldLink RX12 660 "IntegerHouseModel" "current" "I", Cond.methodLink RX12 645 yX12_openFormula, Cond.instanceMethod yX12_openFormula, Cond.selects RX12 yX12_openFormula yX12_openFormula, Cond.code yX12_openFormula cX12_openFormula 1 none, Cond.fieldLink RX12 187 "IntegerHouseModel" "openJoin" "[I", Cond.fieldLink RX12 190 "IntegerHouseModel" "openLeft" "[I", Cond.fieldLink RX12 193 "IntegerHouseModel" "openOr" "[I"]
def wsX12_follows_r7 : List Cond := [Cond.fieldLink RX12 199 "IntegerHouseModel" "openAnd" "[I", Cond.fieldLink RX12 205 "IntegerHouseModel" "openNots" "[I", Cond.methodLink RX12 651 yX12_readOne, Cond.instanceMethod yX12_readOne, Cond.selects RX12 yX12_readOne yX12_readOne, Cond.code yX12_readOne cX12_readOne 5 none, Cond.fieldLink RX12 135 "IntegerHouseModel" "leafFrom" "[I", Cond.constantLong RX12 694 (8), Cond.constantLong RX12 696 (12), Cond.methodLink RX12 666 yX12_isWord, Cond.instanceMethod yX12_isWord, Cond.selects RX12 yX12_isWord yX12_isWord, Cond.code yX12_isWord cX12_isWord 2 (some .boolean), Cond.methodLink RX12 669 yX12_takeOpen, Cond.instanceMethod yX12_takeOpen, Cond.selects RX12 yX12_takeOpen yX12_takeOpen, Cond.code yX12_takeOpen cX12_takeOpen 1 none, Cond.methodLink RX12 616 yX12_fail, Cond.instanceMethod yX12_fail, Cond.selects RX12 yX12_fail yX12_fail, Cond.code yX12_fail cX12_fail 3 none, Cond.fieldLink RX12 565 "IntegerHouseModel" "faultKind" "I", Cond.fieldLink RX12 568 "IntegerHouseModel" "faultPlace" "I", Cond.methodLink RX12 636 yX12_take]
def wsX12_follows_r8 : List Cond := [Cond.instanceMethod yX12_take, Cond.selects RX12 yX12_take yX12_take, Cond.code yX12_take cX12_take 3 none, Cond.fieldLink RX12 102 "IntegerHouseModel" "textSize" "[I", Cond.fieldLink RX12 99 "IntegerHouseModel" "textBytes" "[B", Cond.methodLink RX12 672 yX12_isSign, Cond.instanceMethod yX12_isSign, Cond.selects RX12 yX12_isSign yX12_isSign, Cond.code yX12_isSign cX12_isSign 2 (some .boolean), Cond.methodLink RX12 675 yX12_newNode, Cond.instanceMethod yX12_newNode, Cond.selects RX12 yX12_newNode yX12_newNode, Cond.code yX12_newNode cX12_newNode 5 (some .int), Cond.fieldLink RX12 108 "IntegerHouseModel" "nodeKind" "[I", Cond.fieldLink RX12 111 "IntegerHouseModel" "nodeA" "[I", Cond.fieldLink RX12 114 "IntegerHouseModel" "nodeB" "[I", Cond.fieldLink RX12 117 "IntegerHouseModel" "nodeNext" "[I", Cond.methodLink RX12 679 yX12_endOne, Cond.instanceMethod yX12_endOne, Cond.selects RX12 yX12_endOne yX12_endOne, Cond.code yX12_endOne cX12_endOne 2 none, Cond.fieldLink RX12 202 "IntegerHouseModel" "openAndLast" "[I", Cond.methodLink RX12 682 yX12_claimAt, Cond.instanceMethod yX12_claimAt]
def wsX12_follows_r9 : List Cond := [Cond.selects RX12 yX12_claimAt yX12_claimAt, Cond.code yX12_claimAt cX12_claimAt 3 (some .int), Cond.methodLink RX12 623 yX12_isCalled, Cond.instanceMethod yX12_isCalled, Cond.selects RX12 yX12_isCalled yX12_isCalled, Cond.code yX12_isCalled cX12_isCalled 4 (some .boolean), Cond.fieldLink RX12 96 "IntegerHouseModel" "nameSize" "[I", Cond.fieldLink RX12 93 "IntegerHouseModel" "nameText" "[B", Cond.methodLink RX12 685 yX12_variableAt, Cond.instanceMethod yX12_variableAt, Cond.selects RX12 yX12_variableAt yX12_variableAt, Cond.code yX12_variableAt cX12_variableAt 3 (some .int), Cond.methodLink RX12 688 yX12_beginLeaf, Cond.instanceMethod yX12_beginLeaf, Cond.selects RX12 yX12_beginLeaf yX12_beginLeaf, Cond.code yX12_beginLeaf cX12_beginLeaf 4 none, Cond.fieldLink RX12 123 "IntegerHouseModel" "leafOp" "[I", Cond.fieldLink RX12 126 "IntegerHouseModel" "leafNumber" "[I", Cond.fieldLink RX12 129 "IntegerHouseModel" "leafLeft" "[I", Cond.fieldLink RX12 141 "IntegerHouseModel" "leafTerms" "[I", Cond.methodLink RX12 663 yX12_openTerm, Cond.instanceMethod yX12_openTerm, Cond.selects RX12 yX12_openTerm yX12_openTerm, Cond.code yX12_openTerm cX12_openTerm 2 none]
def wsX12_follows_r10 : List Cond := [Cond.fieldLink RX12 208 "IntegerHouseModel" "inKind" "[I", Cond.fieldLink RX12 211 "IntegerHouseModel" "inFirst" "[I", Cond.fieldLink RX12 217 "IntegerHouseModel" "inSign" "[I", Cond.fieldLink RX12 220 "IntegerHouseModel" "inTimes" "[J", Cond.fieldLink RX12 223 "IntegerHouseModel" "inOne" "[I", Cond.methodLink RX12 691 yX12_takeNumber, Cond.instanceMethod yX12_takeNumber, Cond.selects RX12 yX12_takeNumber yX12_takeNumber, Cond.code yX12_takeNumber cX12_takeNumber 1 none, Cond.constantLong RX12 701 (2), Cond.methodLink RX12 698 yX12_cannot, Cond.instanceMethod yX12_cannot, Cond.selects RX12 yX12_cannot yX12_cannot, Cond.code yX12_cannot cX12_cannot 1 none, Cond.methodLink RX12 654 yX12_readAfter, Cond.instanceMethod yX12_readAfter, Cond.selects RX12 yX12_readAfter yX12_readAfter, Cond.code yX12_readAfter cX12_readAfter 4 none, Cond.fieldLink RX12 196 "IntegerHouseModel" "openOrLast" "[I", Cond.methodLink RX12 703 yX12_join, Cond.instanceMethod yX12_join, Cond.selects RX12 yX12_join yX12_join, Cond.code yX12_join cX12_join 8 (some .int), Cond.methodLink RX12 657 yX12_readInTerm]
def wsX12_follows_r11 : List Cond := [Cond.instanceMethod yX12_readInTerm, Cond.selects RX12 yX12_readInTerm yX12_readInTerm, Cond.code yX12_readInTerm cX12_readInTerm 1 none, Cond.methodLink RX12 706 yX12_addPart, Cond.instanceMethod yX12_addPart, Cond.selects RX12 yX12_addPart yX12_addPart, Cond.code yX12_addPart cX12_addPart 3 none, Cond.fieldLink RX12 168 "IntegerHouseModel" "partSign" "[I", Cond.fieldLink RX12 171 "IntegerHouseModel" "partTimes" "[J", Cond.fieldLink RX12 175 "IntegerHouseModel" "partOf" "[I", Cond.fieldLink RX12 178 "IntegerHouseModel" "partNext" "[I", Cond.fieldLink RX12 214 "IntegerHouseModel" "inLast" "[I", Cond.methodLink RX12 709 yX12_readAtom, Cond.instanceMethod yX12_readAtom, Cond.selects RX12 yX12_readAtom yX12_readAtom, Cond.code yX12_readAtom cX12_readAtom 3 none, Cond.methodLink RX12 715 yX12_newTerm, Cond.instanceMethod yX12_newTerm, Cond.selects RX12 yX12_newTerm yX12_newTerm, Cond.code yX12_newTerm cX12_newTerm 5 (some .int), Cond.fieldLink RX12 156 "IntegerHouseModel" "termKind" "[I", Cond.fieldLink RX12 159 "IntegerHouseModel" "termA" "[I", Cond.fieldLink RX12 162 "IntegerHouseModel" "termB" "[I", Cond.methodLink RX12 712 yX12_endTerm]
def wsX12_follows_r12 : List Cond := [Cond.instanceMethod yX12_endTerm, Cond.selects RX12 yX12_endTerm yX12_endTerm, Cond.code yX12_endTerm cX12_endTerm 7 none, Cond.methodLink RX12 718 yX12_endSide, Cond.instanceMethod yX12_endSide, Cond.selects RX12 yX12_endSide yX12_endSide, Cond.code yX12_endSide cX12_endSide 5 none, Cond.constantLong RX12 721 (11), Cond.constantLong RX12 723 (15), Cond.fieldLink RX12 132 "IntegerHouseModel" "leafRight" "[I", Cond.fieldLink RX12 138 "IntegerHouseModel" "leafTo" "[I", Cond.fieldLink RX12 144 "IntegerHouseModel" "leafTermsTo" "[I", Cond.methodLink RX12 997 yX12_builds, Cond.instanceMethod yX12_builds, Cond.selects RX12 yX12_builds yX12_builds, Cond.code yX12_builds cX12_builds 3 (some .boolean), Cond.methodLink RX12 857 yX12_build, Cond.instanceMethod yX12_build, Cond.selects RX12 yX12_build yX12_build, Cond.code yX12_build cX12_build 7 (some .int), Cond.fieldLink RX12 725 "IntegerHouseModel" "great" "Z", Cond.fieldLink RX12 747 "IntegerHouseModel" "crowded" "Z", Cond.fieldLink RX12 235 "IntegerHouseModel" "atomCount" "[I", Cond.fieldLink RX12 241 "IntegerHouseModel" "caseCount" "[I"]
def wsX12_follows_r13 : List Cond := [Cond.fieldLink RX12 247 "IntegerHouseModel" "falseAt" "[I", Cond.fieldLink RX12 244 "IntegerHouseModel" "isPlain" "[Z", Cond.constantLong RX12 806 (64), Cond.fieldLink RX12 262 "IntegerHouseModel" "hereF" "[J", Cond.fieldLink RX12 226 "IntegerHouseModel" "atomF" "[I", Cond.fieldLink RX12 232 "IntegerHouseModel" "atomN" "[I", Cond.fieldLink RX12 229 "IntegerHouseModel" "atomC" "[I", Cond.methodLink RX12 808 yX12_casesOf, Cond.instanceMethod yX12_casesOf, Cond.selects RX12 yX12_casesOf yX12_casesOf, Cond.code yX12_casesOf cX12_casesOf 8 (some .long), Cond.methodLink RX12 800 yX12_ways, Cond.instanceMethod yX12_ways, Cond.selects RX12 yX12_ways yX12_ways, Cond.code yX12_ways cX12_ways 3 (some .int), Cond.methodLink RX12 812 yX12_makeCases, Cond.instanceMethod yX12_makeCases, Cond.selects RX12 yX12_makeCases yX12_makeCases, Cond.code yX12_makeCases cX12_makeCases 5 none, Cond.fieldLink RX12 259 "IntegerHouseModel" "chosen" "[I", Cond.fieldLink RX12 147 "IntegerHouseModel" "leafCase" "[I", Cond.fieldLink RX12 150 "IntegerHouseModel" "leafCases" "[I", Cond.methodLink RX12 803 yX12_makeCase, Cond.instanceMethod yX12_makeCase]
def wsX12_follows_r14 : List Cond := [Cond.selects RX12 yX12_makeCase yX12_makeCase, Cond.code yX12_makeCase cX12_makeCase 7 none, Cond.fieldLink RX12 238 "IntegerHouseModel" "caseLit" "[I", Cond.constantLong RX12 526 (-1), Cond.methodLink RX12 797 yX12_shape, Cond.instanceMethod yX12_shape, Cond.selects RX12 yX12_shape yX12_shape, Cond.code yX12_shape cX12_shape 8 (some .int), Cond.fieldLink RX12 736 "IntegerHouseModel" "hereC" "J", Cond.fieldLink RX12 740 "IntegerHouseModel" "hereD" "J", Cond.methodLink RX12 771 yX12_clearHere, Cond.instanceMethod yX12_clearHere, Cond.selects RX12 yX12_clearHere yX12_clearHere, Cond.code yX12_clearHere cX12_clearHere 4 none, Cond.methodLink RX12 774 yX12_total, Cond.instanceMethod yX12_total, Cond.selects RX12 yX12_total yX12_total, Cond.code yX12_total cX12_total 22 none, Cond.methodLink RX12 783 yX12_add, Cond.instanceMethod yX12_add, Cond.selects RX12 yX12_add yX12_add, Cond.code yX12_add cX12_add 7 none, Cond.fieldLink RX12 256 "IntegerHouseModel" "formD" "[J", Cond.fieldLink RX12 250 "IntegerHouseModel" "formF" "[J"]
def wsX12_follows_r15 : List Cond := [Cond.fieldLink RX12 253 "IntegerHouseModel" "formC" "[J", Cond.methodLink RX12 743 yX12_divisor, Cond.static yX12_divisor, Cond.code yX12_divisor cX12_divisor 10 (some .long), Cond.methodLink RX12 787 yX12_lookHere, Cond.instanceMethod yX12_lookHere, Cond.selects RX12 yX12_lookHere yX12_lookHere, Cond.code yX12_lookHere cX12_lookHere 2 none, Cond.methodLink RX12 732 yX12_look, Cond.instanceMethod yX12_look, Cond.selects RX12 yX12_look yX12_look, Cond.code yX12_look cX12_look 3 none, Cond.constantLong RX12 728 (1000000), Cond.constantLong RX12 730 (-1000000), Cond.methodLink RX12 777 yX12_hereIs, Cond.instanceMethod yX12_hereIs, Cond.selects RX12 yX12_hereIs yX12_hereIs, Cond.code yX12_hereIs cX12_hereIs 4 none, Cond.methodLink RX12 780 yX12_lineOf, Cond.instanceMethod yX12_lineOf, Cond.selects RX12 yX12_lineOf yX12_lineOf, Cond.code yX12_lineOf cX12_lineOf 7 (some .int), Cond.constantLong RX12 750 (20), Cond.constantLong RX12 752 (-20)]
def wsX12_follows_r16 : List Cond := [Cond.constantLong RX12 754 (99999), Cond.constantLong RX12 756 (-99999), Cond.methodLink RX12 758 yX12_isFlat, Cond.instanceMethod yX12_isFlat, Cond.selects RX12 yX12_isFlat yX12_isFlat, Cond.code yX12_isFlat cX12_isFlat 1 (some .boolean), Cond.methodLink RX12 761 yX12_isFalseHere, Cond.instanceMethod yX12_isFalseHere, Cond.selects RX12 yX12_isFalseHere yX12_isFalseHere, Cond.code yX12_isFalseHere cX12_isFalseHere 1 none, Cond.methodLink RX12 764 yX12_atomOf, Cond.instanceMethod yX12_atomOf, Cond.selects RX12 yX12_atomOf yX12_atomOf, Cond.code yX12_atomOf cX12_atomOf 8 (some .int), Cond.methodLink RX12 790 yX12_divides, Cond.instanceMethod yX12_divides, Cond.selects RX12 yX12_divides yX12_divides, Cond.code yX12_divides cX12_divides 6 (some .int), Cond.methodLink RX12 768 yX12_rest, Cond.static yX12_rest, Cond.code yX12_rest cX12_rest 6 (some .long), Cond.methodLink RX12 792 yX12_keep, Cond.instanceMethod yX12_keep, Cond.selects RX12 yX12_keep yX12_keep]
def wsX12_follows_r17 : List Cond := [Cond.code yX12_keep cX12_keep 3 none, Cond.methodLink RX12 795 yX12_not, Cond.static yX12_not, Cond.code yX12_not cX12_not 1 (some .int), Cond.methodLink RX12 860 yX12_told, Cond.instanceMethod yX12_told, Cond.selects RX12 yX12_told yX12_told, Cond.code yX12_told cX12_told 1 (some .int), Cond.fieldLink RX12 472 "IntegerHouseModel" "replay" "Z", Cond.fieldLink RX12 836 "IntegerHouseModel" "latestFault" "I", Cond.methodLink RX12 982 yX12_putOn, Cond.instanceMethod yX12_putOn, Cond.selects RX12 yX12_putOn yX12_putOn, Cond.code yX12_putOn cX12_putOn 2 none, Cond.fieldLink RX12 265 "IntegerHouseModel" "isOn" "[Z", Cond.methodLink RX12 934 yX12_idle, Cond.instanceMethod yX12_idle, Cond.selects RX12 yX12_idle yX12_idle, Cond.code yX12_idle cX12_idle 2 none, Cond.fieldLink RX12 928 "IntegerHouseModel" "work" "I", Cond.fieldLink RX12 304 "IntegerHouseModel" "needed" "[Z", Cond.methodLink RX12 937 yX12_put, Cond.instanceMethod yX12_put, Cond.selects RX12 yX12_put yX12_put]
def wsX12_follows_r18 : List Cond := [Cond.code yX12_put cX12_put 5 none, Cond.fieldLink RX12 298 "IntegerHouseModel" "workN" "[I", Cond.fieldLink RX12 295 "IntegerHouseModel" "workC" "[I", Cond.fieldLink RX12 292 "IntegerHouseModel" "workF" "[I", Cond.methodLink RX12 931 yX12_workAt, Cond.instanceMethod yX12_workAt, Cond.selects RX12 yX12_workAt yX12_workAt, Cond.code yX12_workAt cX12_workAt 5 (some .int), Cond.methodLink RX12 985 yX12_explore, Cond.instanceMethod yX12_explore, Cond.selects RX12 yX12_explore yX12_explore, Cond.code yX12_explore cX12_explore 5 (some .boolean), Cond.fieldLink RX12 960 "IntegerHouseModel" "letters" "I", Cond.constant RX12 324 (32768), Cond.fieldLink RX12 325 "IntegerHouseModel" "heads" "[I", Cond.fieldLink RX12 957 "IntegerHouseModel" "places" "I", Cond.fieldLink RX12 331 "IntegerHouseModel" "image2" "[I", Cond.fieldLink RX12 317 "IntegerHouseModel" "place" "[I", Cond.fieldLink RX12 321 "IntegerHouseModel" "behind" "[I", Cond.methodLink RX12 951 yX12_findWork, Cond.instanceMethod yX12_findWork, Cond.selects RX12 yX12_findWork yX12_findWork, Cond.code yX12_findWork cX12_findWork 3 none, Cond.fieldLink RX12 301 "IntegerHouseModel" "workOf" "[I"]
def wsX12_follows_r19 : List Cond := [Cond.methodLink RX12 963 yX12_placeOf, Cond.instanceMethod yX12_placeOf, Cond.selects RX12 yX12_placeOf yX12_placeOf, Cond.code yX12_placeOf cX12_placeOf 5 (some .int), Cond.constant RX12 508 (-1640531535), Cond.fieldLink RX12 328 "IntegerHouseModel" "chain" "[I", Cond.methodLink RX12 966 yX12_halved, Cond.instanceMethod yX12_halved, Cond.selects RX12 yX12_halved yX12_halved, Cond.code yX12_halved cX12_halved 7 (some .int), Cond.methodLink RX12 988 yX12_judge, Cond.instanceMethod yX12_judge, Cond.selects RX12 yX12_judge yX12_judge, Cond.code yX12_judge cX12_judge 8 none, Cond.fieldLink RX12 346 "IntegerHouseModel" "keptAnswer" "[I", Cond.fieldLink RX12 334 "IntegerHouseModel" "takes" "[I", Cond.fieldLink RX12 337 "IntegerHouseModel" "takes2" "[I", Cond.fieldLink RX12 307 "IntegerHouseModel" "workIs" "[Z", Cond.fieldLink RX12 343 "IntegerHouseModel" "keptRow" "[I", Cond.fieldLink RX12 310 "IntegerHouseModel" "slotIs" "[Z", Cond.methodLink RX12 969 yX12_isSo, Cond.instanceMethod yX12_isSo, Cond.selects RX12 yX12_isSo yX12_isSo, Cond.code yX12_isSo cX12_isSo 7 (some .boolean)]
def wsX12_follows_r20 : List Cond := [Cond.methodLink RX12 954 yX12_reckonSlots, Cond.instanceMethod yX12_reckonSlots, Cond.selects RX12 yX12_reckonSlots yX12_reckonSlots, Cond.code yX12_reckonSlots cX12_reckonSlots 3 none, Cond.fieldLink RX12 313 "IntegerHouseModel" "nodeIs" "[Z", Cond.methodLink RX12 946 yX12_isNode, Cond.instanceMethod yX12_isNode, Cond.selects RX12 yX12_isNode yX12_isNode, Cond.code yX12_isNode cX12_isNode 5 (some .boolean), Cond.methodLink RX12 943 yX12_isLeaf, Cond.instanceMethod yX12_isLeaf, Cond.selects RX12 yX12_isLeaf yX12_isLeaf, Cond.code yX12_isLeaf cX12_isLeaf 6 (some .boolean), Cond.methodLink RX12 940 yX12_isLit, Cond.instanceMethod yX12_isLit, Cond.selects RX12 yX12_isLit yX12_isLit, Cond.code yX12_isLit cX12_isLit 3 (some .boolean), Cond.methodLink RX12 973 yX12_isAnswer, Cond.instanceMethod yX12_isAnswer, Cond.selects RX12 yX12_isAnswer yX12_isAnswer, Cond.code yX12_isAnswer cX12_isAnswer 5 (some .boolean), Cond.fieldLink RX12 340 "IntegerHouseModel" "isOut" "[Z", Cond.methodLink RX12 991 yX12_tellLeast, Cond.instanceMethod yX12_tellLeast]
def wsX12_follows_r21 : List Cond := [Cond.selects RX12 yX12_tellLeast yX12_tellLeast, Cond.code yX12_tellLeast cX12_tellLeast 5 (some .boolean), Cond.fieldLink RX12 349 "IntegerHouseModel" "far" "[I", Cond.fieldLink RX12 352 "IntegerHouseModel" "told" "[J", Cond.fieldLink RX12 979 "IntegerHouseModel" "toldVariables" "I", Cond.fieldLink RX12 355 "IntegerHouseModel" "toldHeight" "I", Cond.methodLink RX12 976 yX12_measure, Cond.instanceMethod yX12_measure, Cond.selects RX12 yX12_measure yX12_measure, Cond.code yX12_measure cX12_measure 5 none]
def wsX12_follows : List Cond := .code yX12_follows cX12_follows 1 (some .int) :: ((wsX12_follows_r1 ++ (wsX12_follows_r2 ++ (wsX12_follows_r3 ++ (wsX12_follows_r4 ++ (wsX12_follows_r5 ++ (wsX12_follows_r6 ++ (wsX12_follows_r7 ++ (wsX12_follows_r8 ++ (wsX12_follows_r9 ++ (wsX12_follows_r10 ++ (wsX12_follows_r11 ++ (wsX12_follows_r12 ++ (wsX12_follows_r13 ++ (wsX12_follows_r14 ++ (wsX12_follows_r15 ++ (wsX12_follows_r16 ++ (wsX12_follows_r17 ++ (wsX12_follows_r18 ++ (wsX12_follows_r19 ++ (wsX12_follows_r20 ++ wsX12_follows_r21)))))))))))))))))))) ++ wsX120)
theorem dX2_variableOf_0 : decode cX2_variableOf 0 = .ok (.iconst 0, 1) := by decide +kernel
theorem dX2_variableOf_1 : decode cX2_variableOf 1 = .ok (.istore_n 3, 1) := by decide +kernel
theorem dX2_variableOf_2 : decode cX2_variableOf 2 = .ok (.iload_n 3, 1) := by decide +kernel
theorem dX2_variableOf_3 : decode cX2_variableOf 3 = .ok (.aload_n 0, 1) := by decide +kernel
theorem dX2_variableOf_4 : decode cX2_variableOf 4 = .ok (.getfield 52, 3) := by decide +kernel
theorem dX2_variableOf_7 : decode cX2_variableOf 7 = .ok (.if_icmp .ge 27, 3) := by decide +kernel
theorem dX2_variableOf_34 : decode cX2_variableOf 34 = .ok (.iconst (-1), 1) := by decide +kernel
theorem dX2_variableOf_35 : decode cX2_variableOf 35 = .ok (.ireturn, 1) := by decide +kernel
theorem dX2_setFact_0 : decode cX2_setFact 0 = .ok (.iload_n 1, 1) := by decide +kernel
theorem dX2_setFact_1 : decode cX2_setFact 1 = .ok (.ifCond .lt 31, 3) := by decide +kernel
theorem dX2_setFact_4 : decode cX2_setFact 4 = .ok (.iload_n 1, 1) := by decide +kernel
theorem dX2_setFact_5 : decode cX2_setFact 5 = .ok (.bipush 26, 2) := by decide +kernel
theorem dX2_setFact_7 : decode cX2_setFact 7 = .ok (.if_icmp .ge 25, 3) := by decide +kernel
theorem dX2_setFact_10 : decode cX2_setFact 10 = .ok (.iload_n 2, 1) := by decide +kernel
theorem dX2_setFact_11 : decode cX2_setFact 11 = .ok (.ifCond .lt 21, 3) := by decide +kernel
theorem dX2_setFact_14 : decode cX2_setFact 14 = .ok (.iload_n 2, 1) := by decide +kernel
theorem dX2_setFact_15 : decode cX2_setFact 15 = .ok (.bipush 10, 2) := by decide +kernel
theorem dX2_setFact_17 : decode cX2_setFact 17 = .ok (.if_icmp .ge 15, 3) := by decide +kernel
theorem dX2_setFact_20 : decode cX2_setFact 20 = .ok (.aload_n 0, 1) := by decide +kernel
theorem dX2_setFact_21 : decode cX2_setFact 21 = .ok (.getfield 28, 3) := by decide +kernel
theorem dX2_setFact_24 : decode cX2_setFact 24 = .ok (.iload_n 1, 1) := by decide +kernel
theorem dX2_setFact_25 : decode cX2_setFact 25 = .ok (.bipush 10, 2) := by decide +kernel
theorem dX2_setFact_27 : decode cX2_setFact 27 = .ok (.imul, 1) := by decide +kernel
theorem dX2_setFact_28 : decode cX2_setFact 28 = .ok (.iload_n 2, 1) := by decide +kernel
theorem dX2_setFact_29 : decode cX2_setFact 29 = .ok (.iadd, 1) := by decide +kernel
theorem dX2_setFact_30 : decode cX2_setFact 30 = .ok (.iload_n 3, 1) := by decide +kernel
theorem dX2_setFact_31 : decode cX2_setFact 31 = .ok (.iastore, 1) := by decide +kernel
theorem dX2_setFact_32 : decode cX2_setFact 32 = .ok (.return_, 1) := by decide +kernel
theorem dX2_setStep_0 : decode cX2_setStep 0 = .ok (.iload_n 1, 1) := by decide +kernel
theorem dX2_setStep_1 : decode cX2_setStep 1 = .ok (.ifCond .lt 33, 3) := by decide +kernel
theorem dX2_setStep_4 : decode cX2_setStep 4 = .ok (.iload_n 1, 1) := by decide +kernel
theorem dX2_setStep_5 : decode cX2_setStep 5 = .ok (.bipush 26, 2) := by decide +kernel
theorem dX2_setStep_7 : decode cX2_setStep 7 = .ok (.if_icmp .ge 27, 3) := by decide +kernel
theorem dX2_setStep_10 : decode cX2_setStep 10 = .ok (.iload_n 2, 1) := by decide +kernel
theorem dX2_setStep_11 : decode cX2_setStep 11 = .ok (.ifCond .lt 23, 3) := by decide +kernel
theorem dX2_setStep_14 : decode cX2_setStep 14 = .ok (.iload_n 2, 1) := by decide +kernel
theorem dX2_setStep_15 : decode cX2_setStep 15 = .ok (.sipush 512, 3) := by decide +kernel
theorem dX2_setStep_18 : decode cX2_setStep 18 = .ok (.if_icmp .ge 16, 3) := by decide +kernel
theorem dX2_setStep_21 : decode cX2_setStep 21 = .ok (.aload_n 0, 1) := by decide +kernel
theorem dX2_setStep_22 : decode cX2_setStep 22 = .ok (.getfield 22, 3) := by decide +kernel
theorem dX2_setStep_25 : decode cX2_setStep 25 = .ok (.iload_n 1, 1) := by decide +kernel
theorem dX2_setStep_26 : decode cX2_setStep 26 = .ok (.sipush 512, 3) := by decide +kernel
theorem dX2_setStep_29 : decode cX2_setStep 29 = .ok (.imul, 1) := by decide +kernel
theorem dX2_setStep_30 : decode cX2_setStep 30 = .ok (.iload_n 2, 1) := by decide +kernel
theorem dX2_setStep_31 : decode cX2_setStep 31 = .ok (.iadd, 1) := by decide +kernel
theorem dX2_setStep_32 : decode cX2_setStep 32 = .ok (.iload_n 3, 1) := by decide +kernel
theorem dX2_setStep_33 : decode cX2_setStep 33 = .ok (.iastore, 1) := by decide +kernel
theorem dX2_setStep_34 : decode cX2_setStep 34 = .ok (.return_, 1) := by decide +kernel
theorem dX3_numberAt_0 : decode cX3_numberAt 0 = .ok (.iload_n 1, 1) := by decide +kernel
theorem dX3_numberAt_1 : decode cX3_numberAt 1 = .ok (.ifCond .lt 23, 3) := by decide +kernel
theorem dX3_numberAt_4 : decode cX3_numberAt 4 = .ok (.iload_n 1, 1) := by decide +kernel
theorem dX3_numberAt_5 : decode cX3_numberAt 5 = .ok (.aload_n 0, 1) := by decide +kernel
theorem dX3_numberAt_6 : decode cX3_numberAt 6 = .ok (.getfield 48, 3) := by decide +kernel
theorem dX3_numberAt_9 : decode cX3_numberAt 9 = .ok (.if_icmp .ge 15, 3) := by decide +kernel
theorem dX3_numberAt_24 : decode cX3_numberAt 24 = .ok (.iconst 0, 1) := by decide +kernel
theorem dX3_numberAt_25 : decode cX3_numberAt 25 = .ok (.ireturn, 1) := by decide +kernel
set_option maxRecDepth 20000 in
theorem ggX8_readFormula_X8_begin : GoodIn wsX8_readFormula wsX8_begin := goodIn_r _ [7, 8, 1, 9, 10, 11, 12, 13, 14, 15, 16, 17, 18, 19, 20, 21, 22, 23, 24, 25, 26, 27, 28, 29, 30, 31, 32, 33, 34, 35, 36, 37, 38, 39, 40, 41, 42, 43, 44, 45, 46, 47, 48, 49, 50, 51, 52, 53, 54, 55, 56, 57, 58, 59, 60, 61, 62, 63, 64, 65, 66, 67, 68, 69, 70, 71, 72, 73, 74, 75, 76, 77, 78, 79, 80, 81, 82, 83, 84, 85, 86, 87, 88, 89, 90, 91, 92, 93, 94, 95, 6, 96, 97, 98, 380, 381, 382, 383, 384, 385, 386, 387, 388, 389, 390, 391, 392, 393, 394, 395, 396, 397, 398, 399, 400, 401, 402, 403] (by decide +kernel) (by decide +kernel)
set_option maxRecDepth 20000 in
theorem gX8_readFormula_X8_begin : GoodIn wsX8_readFormula (wsV RX8 23 RX8 yX8_begin wsX8_begin) := goodIn_app (goodIn_of _ (by decide +kernel)) ggX8_readFormula_X8_begin
set_option maxRecDepth 20000 in
theorem ggX8_readFormula_X8_readInto : GoodIn wsX8_readFormula wsX8_readInto := goodIn_r _ [102, 103, 104, 105, 106, 107, 98, 108, 109, 110, 111, 112, 113, 114, 115, 116, 6, 117, 97, 118, 119, 120, 121, 122, 123, 124, 125, 1, 9, 126, 127, 128, 129, 130, 93, 94, 95, 96, 11, 8, 131, 132, 133, 134, 135, 136, 137, 138, 139, 140, 141, 142, 143, 144, 145, 146, 15, 147, 20, 47, 148, 149, 150, 151, 152, 153, 154, 155, 156, 157, 158, 159, 160, 161, 39, 162, 163, 164, 165, 166, 167, 168, 169, 170, 171, 172, 173, 174, 175, 176, 177, 178, 179, 180, 181, 182, 183, 184, 185, 186, 187, 188, 189, 190, 191, 192, 193, 194, 195, 196, 22, 197, 198, 199, 200, 201, 202, 203, 380, 381, 382, 383, 384, 385, 386, 387, 388, 389, 390, 391, 392, 393, 394, 404, 405, 406, 407, 408, 409, 410, 411, 412, 413, 414, 415, 416, 417, 418, 419, 395, 396, 397, 398, 399, 400, 401, 402, 403] (by decide +kernel) (by decide +kernel)
set_option maxRecDepth 20000 in
theorem gX8_readFormula_X8_readInto : GoodIn wsX8_readFormula (wsV RX8 49 RX8 yX8_readInto wsX8_readInto) := goodIn_app (goodIn_of _ (by decide +kernel)) ggX8_readFormula_X8_readInto
set_option maxRecDepth 20000 in
theorem ggX8_readFormula_X8_expectEnd : GoodIn wsX8_readFormula wsX8_expectEnd := goodIn_r _ [207, 97, 122, 123, 124, 6, 125, 1, 98, 9, 380, 381, 382, 383, 384, 385, 386, 387, 388, 389, 390, 391, 392, 393, 394] (by decide +kernel) (by decide +kernel)
set_option maxRecDepth 20000 in
theorem gX8_readFormula_X8_expectEnd : GoodIn wsX8_readFormula (wsV RX8 59 RX8 yX8_expectEnd wsX8_expectEnd) := goodIn_app (goodIn_of _ (by decide +kernel)) ggX8_readFormula_X8_expectEnd
theorem dX8_readFormula_0 : decode cX8_readFormula 0 = .ok (.aload_n 0, 1) := by decide +kernel
theorem dX8_readFormula_1 : decode cX8_readFormula 1 = .ok (.aload_n 1, 1) := by decide +kernel
theorem dX8_readFormula_2 : decode cX8_readFormula 2 = .ok (.iconst 0, 1) := by decide +kernel
theorem dX8_readFormula_3 : decode cX8_readFormula 3 = .ok (.iload_n 2, 1) := by decide +kernel
theorem dX8_readFormula_4 : decode cX8_readFormula 4 = .ok (.invokevirtual 23, 3) := by decide +kernel
theorem dX8_readFormula_7 : decode cX8_readFormula 7 = .ok (.aload_n 0, 1) := by decide +kernel
theorem dX8_readFormula_8 : decode cX8_readFormula 8 = .ok (.bipush 24, 2) := by decide +kernel
theorem dX8_readFormula_10 : decode cX8_readFormula 10 = .ok (.invokevirtual 49, 3) := by decide +kernel
theorem dX8_readFormula_13 : decode cX8_readFormula 13 = .ok (.aload_n 0, 1) := by decide +kernel
theorem dX8_readFormula_14 : decode cX8_readFormula 14 = .ok (.invokevirtual 59, 3) := by decide +kernel
theorem dX8_readFormula_17 : decode cX8_readFormula 17 = .ok (.aload_n 0, 1) := by decide +kernel
theorem dX8_readFormula_18 : decode cX8_readFormula 18 = .ok (.getfield 62, 3) := by decide +kernel
theorem dX8_readFormula_21 : decode cX8_readFormula 21 = .ok (.ifCond .ne 18, 3) := by decide +kernel
theorem dX8_readFormula_39 : decode cX8_readFormula 39 = .ok (.aload_n 0, 1) := by decide +kernel
theorem dX8_readFormula_40 : decode cX8_readFormula 40 = .ok (.getfield 62, 3) := by decide +kernel
theorem dX8_readFormula_43 : decode cX8_readFormula 43 = .ok (.ifCond .ne 7, 3) := by decide +kernel
theorem dX8_readFormula_50 : decode cX8_readFormula 50 = .ok (.iconst 0, 1) := by decide +kernel
theorem dX8_readFormula_51 : decode cX8_readFormula 51 = .ok (.ireturn, 1) := by decide +kernel
set_option maxRecDepth 20000 in
theorem ggX8_readInto_X2_setFact : GoodIn wsX8_readInto wsX2_setFact := goodIn_r _ [11, 12, 133, 134, 135, 136, 137, 138, 139, 140, 141, 142, 143, 144, 145, 146, 147, 148] (by decide +kernel) (by decide +kernel)
set_option maxRecDepth 20000 in
theorem gX8_readInto_X2_setFact : GoodIn wsX8_readInto (wsV RX8 157 RX2 yX2_setFact wsX2_setFact) := goodIn_app (goodIn_of _ (by decide +kernel)) ggX8_readInto_X2_setFact
set_option maxRecDepth 20000 in
theorem ggX8_readInto_X8_formula : GoodIn wsX8_readInto wsX8_formula := goodIn_r _ [97, 18, 98, 99, 100, 16, 19, 20, 21, 22, 2, 4, 5, 1, 23, 24, 25, 26, 27, 6, 28, 29, 30, 31, 10, 32, 33, 34, 35, 36, 37, 38, 39, 43, 44, 45, 46, 3, 47, 48, 49, 50, 51, 101, 102, 103, 104, 105, 70, 71, 72, 56, 73, 58, 74, 81, 82, 83, 84, 85, 86, 94, 95, 96, 106, 107, 108, 109, 110, 53, 54, 55, 57, 59, 60, 61, 62, 63, 64, 65, 66, 67, 68, 13, 14, 15, 17, 40, 41, 42, 52, 69, 75, 76, 77, 78, 79, 80, 87, 88, 89, 90, 91, 92, 93, 111, 112, 113, 114, 115, 116, 117, 118, 119, 120, 121, 122, 123, 124, 125, 126, 127, 128, 129, 130, 131, 132, 133, 134, 135, 136, 137, 138, 139, 140, 141, 142, 143, 144, 145, 146, 147, 148, 149, 150, 151, 152, 153, 154, 155, 156, 157] (by decide +kernel) (by decide +kernel)
set_option maxRecDepth 20000 in
theorem gX8_readInto_X8_formula : GoodIn wsX8_readInto (wsV RX8 179 RX8 yX8_formula wsX8_formula) := goodIn_app (goodIn_of _ (by decide +kernel)) ggX8_readInto_X8_formula
theorem dX8_readInto_0 : decode cX8_readInto 0 = .ok (.aload_n 0, 1) := by decide +kernel
theorem dX8_readInto_1 : decode cX8_readInto 1 = .ok (.iload_n 1, 1) := by decide +kernel
theorem dX8_readInto_2 : decode cX8_readInto 2 = .ok (.putfield 164, 3) := by decide +kernel
theorem dX8_readInto_5 : decode cX8_readInto 5 = .ok (.aload_n 0, 1) := by decide +kernel
theorem dX8_readInto_6 : decode cX8_readInto 6 = .ok (.iconst 0, 1) := by decide +kernel
theorem dX8_readInto_7 : decode cX8_readInto 7 = .ok (.putfield 167, 3) := by decide +kernel
theorem dX8_readInto_10 : decode cX8_readInto 10 = .ok (.aload_n 0, 1) := by decide +kernel
theorem dX8_readInto_11 : decode cX8_readInto 11 = .ok (.iconst 0, 1) := by decide +kernel
theorem dX8_readInto_12 : decode cX8_readInto 12 = .ok (.putfield 170, 3) := by decide +kernel
theorem dX8_readInto_15 : decode cX8_readInto 15 = .ok (.aload_n 0, 1) := by decide +kernel
theorem dX8_readInto_16 : decode cX8_readInto 16 = .ok (.iconst 0, 1) := by decide +kernel
theorem dX8_readInto_17 : decode cX8_readInto 17 = .ok (.putfield 173, 3) := by decide +kernel
theorem dX8_readInto_20 : decode cX8_readInto 20 = .ok (.aload_n 0, 1) := by decide +kernel
theorem dX8_readInto_21 : decode cX8_readInto 21 = .ok (.getfield 15, 3) := by decide +kernel
theorem dX8_readInto_24 : decode cX8_readInto 24 = .ok (.iload_n 1, 1) := by decide +kernel
theorem dX8_readInto_25 : decode cX8_readInto 25 = .ok (.bipush 9, 2) := by decide +kernel
theorem dX8_readInto_27 : decode cX8_readInto 27 = .ok (.aload_n 0, 1) := by decide +kernel
theorem dX8_readInto_28 : decode cX8_readInto 28 = .ok (.getfield 136, 3) := by decide +kernel
theorem dX8_readInto_31 : decode cX8_readInto 31 = .ok (.invokevirtual 157, 3) := by decide +kernel
theorem dX8_readInto_34 : decode cX8_readInto 34 = .ok (.iload_n 1, 1) := by decide +kernel
theorem dX8_readInto_35 : decode cX8_readInto 35 = .ok (.bipush 25, 2) := by decide +kernel
theorem dX8_readInto_37 : decode cX8_readInto 37 = .ok (.if_icmp .ne 10, 3) := by decide +kernel
theorem dX8_readInto_47 : decode cX8_readInto 47 = .ok (.aload_n 0, 1) := by decide +kernel
theorem dX8_readInto_48 : decode cX8_readInto 48 = .ok (.invokevirtual 179, 3) := by decide +kernel
theorem dX8_readInto_51 : decode cX8_readInto 51 = .ok (.aload_n 0, 1) := by decide +kernel
theorem dX8_readInto_52 : decode cX8_readInto 52 = .ok (.getfield 15, 3) := by decide +kernel
theorem dX8_readInto_55 : decode cX8_readInto 55 = .ok (.iload_n 1, 1) := by decide +kernel
theorem dX8_readInto_56 : decode cX8_readInto 56 = .ok (.iconst 0, 1) := by decide +kernel
theorem dX8_readInto_57 : decode cX8_readInto 57 = .ok (.aload_n 0, 1) := by decide +kernel
theorem dX8_readInto_58 : decode cX8_readInto 58 = .ok (.getfield 167, 3) := by decide +kernel
theorem dX8_readInto_61 : decode cX8_readInto 61 = .ok (.invokevirtual 157, 3) := by decide +kernel
theorem dX8_readInto_64 : decode cX8_readInto 64 = .ok (.aload_n 0, 1) := by decide +kernel
theorem dX8_readInto_65 : decode cX8_readInto 65 = .ok (.getfield 15, 3) := by decide +kernel
theorem dX8_readInto_68 : decode cX8_readInto 68 = .ok (.iload_n 1, 1) := by decide +kernel
theorem dX8_readInto_69 : decode cX8_readInto 69 = .ok (.iconst 1, 1) := by decide +kernel
theorem dX8_readInto_70 : decode cX8_readInto 70 = .ok (.aload_n 0, 1) := by decide +kernel
theorem dX8_readInto_71 : decode cX8_readInto 71 = .ok (.getfield 170, 3) := by decide +kernel
theorem dX8_readInto_74 : decode cX8_readInto 74 = .ok (.invokevirtual 157, 3) := by decide +kernel
theorem dX8_readInto_77 : decode cX8_readInto 77 = .ok (.return_, 1) := by decide +kernel
set_option maxRecDepth 20000 in
theorem ggX8_step_X2_setStep : GoodIn wsX8_step wsX2_setStep := goodIn_r _ [8, 9, 25, 26, 27, 28, 29, 30, 31, 32, 33, 34, 35, 36, 37, 38, 39, 40] (by decide +kernel) (by decide +kernel)
set_option maxRecDepth 20000 in
theorem gX8_step_X2_setStep : GoodIn wsX8_step (wsV RX8 182 RX2 yX2_setStep wsX2_setStep) := goodIn_app (goodIn_of _ (by decide +kernel)) ggX8_step_X2_setStep
theorem dX8_step_0 : decode cX8_step 0 = .ok (.aload_n 0, 1) := by decide +kernel
theorem dX8_step_1 : decode cX8_step 1 = .ok (.getfield 15, 3) := by decide +kernel
theorem dX8_step_4 : decode cX8_step 4 = .ok (.aload_n 0, 1) := by decide +kernel
theorem dX8_step_5 : decode cX8_step 5 = .ok (.getfield 164, 3) := by decide +kernel
theorem dX8_step_8 : decode cX8_step 8 = .ok (.aload_n 0, 1) := by decide +kernel
theorem dX8_step_9 : decode cX8_step 9 = .ok (.getfield 170, 3) := by decide +kernel
theorem dX8_step_12 : decode cX8_step 12 = .ok (.iload_n 1, 1) := by decide +kernel
theorem dX8_step_13 : decode cX8_step 13 = .ok (.invokevirtual 182, 3) := by decide +kernel
theorem dX8_step_16 : decode cX8_step 16 = .ok (.aload_n 0, 1) := by decide +kernel
theorem dX8_step_17 : decode cX8_step 17 = .ok (.dup, 1) := by decide +kernel
theorem dX8_step_18 : decode cX8_step 18 = .ok (.getfield 170, 3) := by decide +kernel
theorem dX8_step_21 : decode cX8_step 21 = .ok (.iconst 1, 1) := by decide +kernel
theorem dX8_step_22 : decode cX8_step 22 = .ok (.iadd, 1) := by decide +kernel
theorem dX8_step_23 : decode cX8_step 23 = .ok (.putfield 170, 3) := by decide +kernel
theorem dX8_step_26 : decode cX8_step 26 = .ok (.return_, 1) := by decide +kernel
set_option maxRecDepth 20000 in
theorem ggX8_accept_X8_fail : GoodIn wsX8_accept wsX8_fail := goodIn_r _ [10, 11, 1, 12, 13, 26, 27, 28, 29, 30, 31, 32, 33, 34, 35, 36, 37, 38, 39, 40] (by decide +kernel) (by decide +kernel)
set_option maxRecDepth 20000 in
theorem gX8_accept_X8_fail : GoodIn wsX8_accept (wsV RX8 95 RX8 yX8_fail wsX8_fail) := goodIn_app (goodIn_of _ (by decide +kernel)) ggX8_accept_X8_fail
theorem dX8_accept_0 : decode cX8_accept 0 = .ok (.iload_n 1, 1) := by decide +kernel
theorem dX8_accept_1 : decode cX8_accept 1 = .ok (.bipush 25, 2) := by decide +kernel
theorem dX8_accept_3 : decode cX8_accept 3 = .ok (.if_icmp .eq 14, 3) := by decide +kernel
theorem dX8_accept_6 : decode cX8_accept 6 = .ok (.iload_n 1, 1) := by decide +kernel
theorem dX8_accept_7 : decode cX8_accept 7 = .ok (.iconst 4, 1) := by decide +kernel
theorem dX8_accept_8 : decode cX8_accept 8 = .ok (.if_icmp .eq 9, 3) := by decide +kernel
theorem dX8_accept_11 : decode cX8_accept 11 = .ok (.iload_n 1, 1) := by decide +kernel
theorem dX8_accept_12 : decode cX8_accept 12 = .ok (.bipush 6, 2) := by decide +kernel
theorem dX8_accept_14 : decode cX8_accept 14 = .ok (.if_icmp .ne 7, 3) := by decide +kernel
theorem dX8_accept_21 : decode cX8_accept 21 = .ok (.iconst 0, 1) := by decide +kernel
theorem dX8_accept_22 : decode cX8_accept 22 = .ok (.istore_n 3, 1) := by decide +kernel
theorem dX8_accept_23 : decode cX8_accept 23 = .ok (.aload_n 0, 1) := by decide +kernel
theorem dX8_accept_24 : decode cX8_accept 24 = .ok (.getfield 39, 3) := by decide +kernel
theorem dX8_accept_27 : decode cX8_accept 27 = .ok (.iload_n 1, 1) := by decide +kernel
theorem dX8_accept_28 : decode cX8_accept 28 = .ok (.if_icmp .eq 11, 3) := by decide +kernel
theorem dX8_accept_31 : decode cX8_accept 31 = .ok (.aload_n 0, 1) := by decide +kernel
theorem dX8_accept_32 : decode cX8_accept 32 = .ok (.iconst 2, 1) := by decide +kernel
theorem dX8_accept_33 : decode cX8_accept 33 = .ok (.invokevirtual 95, 3) := by decide +kernel
theorem dX8_accept_36 : decode cX8_accept 36 = .ok (.goto 96, 3) := by decide +kernel
theorem dX8_accept_132 : decode cX8_accept 132 = .ok (.return_, 1) := by decide +kernel
set_option maxRecDepth 20000 in
theorem ggX8_formula_X8_side : GoodIn wsX8_formula wsX8_side := goodIn_r _ [108, 1, 109, 110, 111, 5, 6, 7, 8, 9, 10, 11, 12, 13, 14, 15, 16, 17, 18, 19, 20, 21, 22, 23, 24, 25, 26, 27, 28, 29, 30, 31, 32, 33, 34, 35, 36, 37, 38, 39, 40, 41, 42, 43, 44, 45, 46, 0, 2, 3, 4, 47, 48, 49, 50, 51, 52, 53, 54, 55, 56, 57, 58, 59, 60, 61, 62, 63, 64, 65, 66, 67, 68, 69, 70, 71, 72, 73, 74, 75, 76, 77, 78, 79, 80, 81, 82, 83, 84, 85, 86, 87, 88, 89, 90, 91, 92, 93, 94, 95, 96, 97, 98, 99, 100, 101, 102, 103, 104, 105, 106, 107, 112, 113, 114, 115, 116, 117, 118, 119, 120, 121, 122, 123, 124, 125, 126, 127, 128, 129, 130, 131, 132, 133, 134, 135, 136, 137, 138, 139, 140, 141, 142, 143, 144, 145, 146, 147, 148, 149, 150, 151] (by decide +kernel) (by decide +kernel)
set_option maxRecDepth 20000 in
theorem gX8_formula_X8_side : GoodIn wsX8_formula (wsV RX8 188 RX8 yX8_side wsX8_side) := goodIn_app (goodIn_of _ (by decide +kernel)) ggX8_formula_X8_side
theorem dX8_formula_0 : decode cX8_formula 0 = .ok (.aload_n 0, 1) := by decide +kernel
theorem dX8_formula_1 : decode cX8_formula 1 = .ok (.invokevirtual 188, 3) := by decide +kernel
theorem dX8_formula_4 : decode cX8_formula 4 = .ok (.aload_n 0, 1) := by decide +kernel
theorem dX8_formula_5 : decode cX8_formula 5 = .ok (.getfield 39, 3) := by decide +kernel
theorem dX8_formula_8 : decode cX8_formula 8 = .ok (.istore_n 1, 1) := by decide +kernel
theorem dX8_formula_9 : decode cX8_formula 9 = .ok (.iload_n 1, 1) := by decide +kernel
theorem dX8_formula_10 : decode cX8_formula 10 = .ok (.bipush 19, 2) := by decide +kernel
theorem dX8_formula_12 : decode cX8_formula 12 = .ok (.if_icmp .eq 9, 3) := by decide +kernel
theorem dX8_formula_15 : decode cX8_formula 15 = .ok (.iload_n 1, 1) := by decide +kernel
theorem dX8_formula_16 : decode cX8_formula 16 = .ok (.bipush 20, 2) := by decide +kernel
theorem dX8_formula_18 : decode cX8_formula 18 = .ok (.if_icmp .ne 18, 3) := by decide +kernel
theorem dX8_formula_36 : decode cX8_formula 36 = .ok (.return_, 1) := by decide +kernel
set_option maxRecDepth 20000 in
theorem ggX8_side_X8_both : GoodIn wsX8_side wsX8_both := goodIn_r _ [43, 1, 44, 45, 46, 5, 6, 7, 8, 9, 10, 11, 12, 13, 14, 15, 16, 17, 18, 19, 20, 21, 22, 23, 24, 25, 26, 27, 28, 29, 30, 31, 32, 33, 34, 35, 36, 37, 38, 39, 40, 41, 42, 47, 48, 49, 50, 51, 52, 53, 54, 55, 56, 57, 58, 59, 60, 61, 62, 63, 64, 65, 66, 67, 68, 69, 70, 71, 72, 73, 74, 75, 76, 77, 78, 79, 80, 81, 82, 83, 84, 85, 86, 87, 88, 89, 90, 91, 92, 93, 94, 95, 96, 97, 98, 99, 100, 101, 102, 103, 104, 105, 106, 107, 108, 109, 110, 111, 0, 2, 3, 4, 112, 113, 114, 115, 116, 117, 118, 119, 120, 121, 122, 123, 124, 125, 126, 127, 128, 129, 130, 131, 132, 133, 134, 135, 136, 137, 138, 139, 140, 141, 142, 143, 144, 145, 146, 147, 148, 149, 150, 151] (by decide +kernel) (by decide +kernel)
set_option maxRecDepth 20000 in
theorem gX8_side_X8_both : GoodIn wsX8_side (wsV RX8 197 RX8 yX8_both wsX8_both) := goodIn_app (goodIn_of _ (by decide +kernel)) ggX8_side_X8_both
theorem dX8_side_0 : decode cX8_side 0 = .ok (.aload_n 0, 1) := by decide +kernel
theorem dX8_side_1 : decode cX8_side 1 = .ok (.invokevirtual 197, 3) := by decide +kernel
theorem dX8_side_4 : decode cX8_side 4 = .ok (.iconst 0, 1) := by decide +kernel
theorem dX8_side_5 : decode cX8_side 5 = .ok (.istore_n 1, 1) := by decide +kernel
theorem dX8_side_6 : decode cX8_side 6 = .ok (.iload_n 1, 1) := by decide +kernel
theorem dX8_side_7 : decode cX8_side 7 = .ok (.bipush 120, 2) := by decide +kernel
theorem dX8_side_9 : decode cX8_side 9 = .ok (.if_icmp .ge 36, 3) := by decide +kernel
theorem dX8_side_12 : decode cX8_side 12 = .ok (.aload_n 0, 1) := by decide +kernel
theorem dX8_side_13 : decode cX8_side 13 = .ok (.getfield 39, 3) := by decide +kernel
theorem dX8_side_16 : decode cX8_side 16 = .ok (.bipush 24, 2) := by decide +kernel
theorem dX8_side_18 : decode cX8_side 18 = .ok (.if_icmp .ne 27, 3) := by decide +kernel
theorem dX8_side_45 : decode cX8_side 45 = .ok (.return_, 1) := by decide +kernel
set_option maxRecDepth 20000 in
theorem ggX8_both_X8_one : GoodIn wsX8_both wsX8_one := goodIn_r _ [47, 1, 12, 32, 31, 11, 48, 49, 50, 51, 52, 53, 54, 55, 56, 57, 24, 58, 59, 60, 6, 7, 8, 5, 9, 10, 13, 14, 15, 16, 17, 18, 19, 20, 21, 22, 23, 25, 26, 27, 28, 29, 30, 2, 3, 4, 33, 34, 35, 36, 37, 38, 39, 40, 41, 42, 61, 62, 63, 64, 65, 66, 67, 68, 69, 70, 71, 72, 73, 74, 75, 76, 77, 78, 79, 80, 81, 82, 83, 84, 85, 86, 87, 88, 89, 90, 91, 92, 93, 94, 95, 96, 97, 98, 99, 100, 101, 102, 103, 104, 105, 106, 107, 0, 43, 44, 45, 46, 108, 109, 110, 111, 112, 113, 114, 115, 116, 117, 118, 119, 120, 121, 122, 123, 124, 125, 126, 127, 128, 129, 130, 131, 132, 133, 134, 135, 136, 137, 138, 139, 140, 141, 142, 143, 144, 145, 146, 147, 148, 149, 150, 151] (by decide +kernel) (by decide +kernel)
set_option maxRecDepth 20000 in
theorem gX8_both_X8_one : GoodIn wsX8_both (wsV RX8 200 RX8 yX8_one wsX8_one) := goodIn_app (goodIn_of _ (by decide +kernel)) ggX8_both_X8_one
theorem dX8_both_0 : decode cX8_both 0 = .ok (.aload_n 0, 1) := by decide +kernel
theorem dX8_both_1 : decode cX8_both 1 = .ok (.invokevirtual 200, 3) := by decide +kernel
theorem dX8_both_4 : decode cX8_both 4 = .ok (.iconst 0, 1) := by decide +kernel
theorem dX8_both_5 : decode cX8_both 5 = .ok (.istore_n 1, 1) := by decide +kernel
theorem dX8_both_6 : decode cX8_both 6 = .ok (.iload_n 1, 1) := by decide +kernel
theorem dX8_both_7 : decode cX8_both 7 = .ok (.bipush 120, 2) := by decide +kernel
theorem dX8_both_9 : decode cX8_both 9 = .ok (.if_icmp .ge 36, 3) := by decide +kernel
theorem dX8_both_12 : decode cX8_both 12 = .ok (.aload_n 0, 1) := by decide +kernel
theorem dX8_both_13 : decode cX8_both 13 = .ok (.getfield 39, 3) := by decide +kernel
theorem dX8_both_16 : decode cX8_both 16 = .ok (.bipush 23, 2) := by decide +kernel
theorem dX8_both_18 : decode cX8_both 18 = .ok (.if_icmp .ne 27, 3) := by decide +kernel
theorem dX8_both_45 : decode cX8_both 45 = .ok (.return_, 1) := by decide +kernel
set_option maxRecDepth 20000 in
theorem ggX8_one_X8_accept : GoodIn wsX8_one wsX8_accept := goodIn_r _ [24, 1, 25, 5, 2, 26, 27, 28, 29, 23, 30, 31, 32, 33, 34, 35, 36, 16, 37, 38, 39, 40, 41, 42, 4, 3, 112, 113, 114, 115, 116, 117, 118, 119, 120, 121, 122, 123, 124, 125, 126, 127, 128, 129, 130, 131, 132, 133, 134, 135, 136, 137, 138, 139, 140, 141, 142, 143, 144, 145, 146, 147, 148, 149, 150, 151] (by decide +kernel) (by decide +kernel)
set_option maxRecDepth 20000 in
theorem gX8_one_X8_accept : GoodIn wsX8_one (wsV RX8 191 RX8 yX8_accept wsX8_accept) := goodIn_app (goodIn_of _ (by decide +kernel)) ggX8_one_X8_accept
set_option maxRecDepth 20000 in
theorem ggX8_one_X8_step : GoodIn wsX8_one wsX8_step := goodIn_r _ [49, 2, 26, 50, 51, 52, 53, 16, 54, 55, 112, 113, 114, 115, 116, 117, 118, 119, 120, 121, 122, 123, 124, 125, 126, 127, 128, 129, 130, 131, 132, 133, 134, 135, 136, 137, 138, 139, 140, 141, 142] (by decide +kernel) (by decide +kernel)
set_option maxRecDepth 20000 in
theorem gX8_one_X8_step : GoodIn wsX8_one (wsV RX8 194 RX8 yX8_step wsX8_step) := goodIn_app (goodIn_of _ (by decide +kernel)) ggX8_one_X8_step
set_option maxRecDepth 20000 in
theorem ggX8_one_X8_term : GoodIn wsX8_one wsX8_term := goodIn_r _ [81, 1, 20, 21, 22, 23, 24, 25, 5, 2, 26, 27, 28, 29, 30, 31, 32, 33, 34, 35, 36, 16, 37, 38, 39, 40, 41, 42, 4, 3, 82, 83, 84, 46, 47, 48, 49, 50, 51, 52, 53, 54, 55, 85, 78, 79, 80, 64, 65, 66, 9, 67, 11, 68, 69, 70, 71, 72, 73, 74, 75, 76, 77, 86, 6, 7, 8, 10, 12, 87, 88, 89, 90, 91, 92, 13, 14, 15, 17, 18, 19, 93, 94, 95, 96, 97, 98, 99, 112, 113, 114, 115, 116, 117, 118, 119, 120, 121, 122, 123, 124, 125, 126, 127, 128, 129, 130, 131, 132, 133, 134, 135, 136, 137, 138, 139, 140, 141, 142, 143, 144, 145, 146, 147, 148, 149, 150, 151] (by decide +kernel) (by decide +kernel)
set_option maxRecDepth 20000 in
theorem gX8_one_X8_term : GoodIn wsX8_one (wsV RX8 176 RX8 yX8_term wsX8_term) := goodIn_app (goodIn_of _ (by decide +kernel)) ggX8_one_X8_term
set_option maxRecDepth 20000 in
theorem ggX8_one_X11_isComparison : GoodIn wsX8_one wsX11_isComparison := goodIn_r _ [102] (by decide +kernel) (by decide +kernel)
set_option maxRecDepth 20000 in
theorem gX8_one_X11_isComparison_n215 : GoodIn wsX8_one (wsX11_isComparison) := ggX8_one_X11_isComparison
theorem dX8_one_0 : decode cX8_one 0 = .ok (.aload_n 0, 1) := by decide +kernel
theorem dX8_one_1 : decode cX8_one 1 = .ok (.getfield 39, 3) := by decide +kernel
theorem dX8_one_4 : decode cX8_one 4 = .ok (.istore_n 1, 1) := by decide +kernel
theorem dX8_one_5 : decode cX8_one 5 = .ok (.iload_n 1, 1) := by decide +kernel
theorem dX8_one_6 : decode cX8_one 6 = .ok (.iconst 1, 1) := by decide +kernel
theorem dX8_one_7 : decode cX8_one 7 = .ok (.if_icmp .ne 24, 3) := by decide +kernel
theorem dX8_one_31 : decode cX8_one 31 = .ok (.iconst (-1), 1) := by decide +kernel
theorem dX8_one_32 : decode cX8_one 32 = .ok (.istore_n 2, 1) := by decide +kernel
theorem dX8_one_33 : decode cX8_one 33 = .ok (.iload_n 1, 1) := by decide +kernel
theorem dX8_one_34 : decode cX8_one 34 = .ok (.bipush 25, 2) := by decide +kernel
theorem dX8_one_36 : decode cX8_one 36 = .ok (.if_icmp .ne 34, 3) := by decide +kernel
theorem dX8_one_70 : decode cX8_one 70 = .ok (.iload_n 1, 1) := by decide +kernel
theorem dX8_one_71 : decode cX8_one 71 = .ok (.iconst 4, 1) := by decide +kernel
theorem dX8_one_72 : decode cX8_one 72 = .ok (.if_icmp .ne 22, 3) := by decide +kernel
theorem dX8_one_94 : decode cX8_one 94 = .ok (.iload_n 1, 1) := by decide +kernel
theorem dX8_one_95 : decode cX8_one 95 = .ok (.bipush 26, 2) := by decide +kernel
theorem dX8_one_97 : decode cX8_one 97 = .ok (.if_icmp .eq 9, 3) := by decide +kernel
theorem dX8_one_100 : decode cX8_one 100 = .ok (.iload_n 1, 1) := by decide +kernel
theorem dX8_one_101 : decode cX8_one 101 = .ok (.bipush 27, 2) := by decide +kernel
theorem dX8_one_103 : decode cX8_one 103 = .ok (.if_icmp .ne 17, 3) := by decide +kernel
theorem dX8_one_120 : decode cX8_one 120 = .ok (.iload_n 2, 1) := by decide +kernel
theorem dX8_one_121 : decode cX8_one 121 = .ok (.iconst (-1), 1) := by decide +kernel
theorem dX8_one_122 : decode cX8_one 122 = .ok (.if_icmp .eq 29, 3) := by decide +kernel
theorem dX8_one_151 : decode cX8_one 151 = .ok (.iload_n 1, 1) := by decide +kernel
theorem dX8_one_152 : decode cX8_one 152 = .ok (.iconst 2, 1) := by decide +kernel
theorem dX8_one_153 : decode cX8_one 153 = .ok (.if_icmp .ne 84, 3) := by decide +kernel
theorem dX8_one_237 : decode cX8_one 237 = .ok (.aload_n 0, 1) := by decide +kernel
theorem dX8_one_238 : decode cX8_one 238 = .ok (.invokevirtual 176, 3) := by decide +kernel
theorem dX8_one_241 : decode cX8_one 241 = .ok (.aload_n 0, 1) := by decide +kernel
theorem dX8_one_242 : decode cX8_one 242 = .ok (.getfield 39, 3) := by decide +kernel
theorem dX8_one_245 : decode cX8_one 245 = .ok (.istore_n 3, 1) := by decide +kernel
theorem dX8_one_246 : decode cX8_one 246 = .ok (.aload_n 0, 1) := by decide +kernel
theorem dX8_one_247 : decode cX8_one 247 = .ok (.iload_n 3, 1) := by decide +kernel
theorem dX8_one_248 : decode cX8_one 248 = .ok (.invokestatic 215, 3) := by decide +kernel
theorem dX8_one_251 : decode cX8_one 251 = .ok (.ifCond .eq 7, 3) := by decide +kernel
theorem dX8_one_258 : decode cX8_one 258 = .ok (.bipush 10, 2) := by decide +kernel
theorem dX8_one_260 : decode cX8_one 260 = .ok (.iload_n 3, 1) := by decide +kernel
theorem dX8_one_261 : decode cX8_one 261 = .ok (.invokevirtual 191, 3) := by decide +kernel
theorem dX8_one_264 : decode cX8_one 264 = .ok (.aload_n 0, 1) := by decide +kernel
theorem dX8_one_265 : decode cX8_one 265 = .ok (.invokevirtual 176, 3) := by decide +kernel
theorem dX8_one_268 : decode cX8_one 268 = .ok (.aload_n 0, 1) := by decide +kernel
theorem dX8_one_269 : decode cX8_one 269 = .ok (.iload_n 3, 1) := by decide +kernel
theorem dX8_one_270 : decode cX8_one 270 = .ok (.bipush 63, 2) := by decide +kernel
theorem dX8_one_272 : decode cX8_one 272 = .ok (.iand, 1) := by decide +kernel
theorem dX8_one_273 : decode cX8_one 273 = .ok (.invokevirtual 194, 3) := by decide +kernel
theorem dX8_one_276 : decode cX8_one 276 = .ok (.return_, 1) := by decide +kernel
set_option maxRecDepth 20000 in
theorem ggX8_term_X8_part : GoodIn wsX8_term wsX8_part := goodIn_r _ [84, 29, 28, 1, 47, 48, 49, 50, 51, 52, 53, 54, 59, 60, 61, 62, 2, 3, 4, 5, 6, 7, 8, 9, 10, 11, 12, 13, 14, 15, 16, 17, 18, 19, 20, 21, 22, 23, 24, 25, 26, 27, 85, 86, 87, 33, 34, 35, 36, 37, 38, 39, 40, 41, 42, 43, 44, 45, 46, 55, 56, 57, 58, 63, 64, 65, 66, 67, 68, 69, 70, 71, 72, 73, 74, 75, 76, 77, 78, 79, 80, 81, 82, 83, 0, 30, 31, 32, 88, 89, 90, 91, 92, 93, 94, 95, 96, 97, 98, 99, 100, 101, 102, 103, 104, 105, 106, 107, 108, 109, 110, 111, 112, 113, 114, 115, 116, 117, 118, 119, 120, 121, 122, 123, 124, 125, 126, 127] (by decide +kernel) (by decide +kernel)
set_option maxRecDepth 20000 in
theorem gX8_term_X8_part : GoodIn wsX8_term (wsV RX8 219 RX8 yX8_part wsX8_part) := goodIn_app (goodIn_of _ (by decide +kernel)) ggX8_term_X8_part
set_option maxRecDepth 20000 in
theorem ggX8_term_X8_step : GoodIn wsX8_term wsX8_step := goodIn_r _ [36, 9, 10, 37, 38, 39, 40, 21, 41, 42, 88, 89, 90, 91, 92, 93, 94, 95, 96, 97, 98, 99, 100, 101, 102, 103, 104, 105, 106, 107, 108, 109, 110, 111, 112, 113, 114, 115, 116, 117, 118] (by decide +kernel) (by decide +kernel)
set_option maxRecDepth 20000 in
theorem gX8_term_X8_step : GoodIn wsX8_term (wsV RX8 194 RX8 yX8_step wsX8_step) := goodIn_app (goodIn_of _ (by decide +kernel)) ggX8_term_X8_step
theorem dX8_term_0 : decode cX8_term 0 = .ok (.aload_n 0, 1) := by decide +kernel
theorem dX8_term_1 : decode cX8_term 1 = .ok (.getfield 39, 3) := by decide +kernel
theorem dX8_term_4 : decode cX8_term 4 = .ok (.bipush 12, 2) := by decide +kernel
theorem dX8_term_6 : decode cX8_term 6 = .ok (.if_icmp .ne 7, 3) := by decide +kernel
theorem dX8_term_13 : decode cX8_term 13 = .ok (.iconst 0, 1) := by decide +kernel
theorem dX8_term_14 : decode cX8_term 14 = .ok (.istore_n 1, 1) := by decide +kernel
theorem dX8_term_15 : decode cX8_term 15 = .ok (.iload_n 1, 1) := by decide +kernel
theorem dX8_term_16 : decode cX8_term 16 = .ok (.ifCond .eq 11, 3) := by decide +kernel
theorem dX8_term_27 : decode cX8_term 27 = .ok (.aload_n 0, 1) := by decide +kernel
theorem dX8_term_28 : decode cX8_term 28 = .ok (.iload_n 1, 1) := by decide +kernel
theorem dX8_term_29 : decode cX8_term 29 = .ok (.invokevirtual 219, 3) := by decide +kernel
theorem dX8_term_32 : decode cX8_term 32 = .ok (.iconst 0, 1) := by decide +kernel
theorem dX8_term_33 : decode cX8_term 33 = .ok (.istore_n 2, 1) := by decide +kernel
theorem dX8_term_34 : decode cX8_term 34 = .ok (.iload_n 2, 1) := by decide +kernel
theorem dX8_term_35 : decode cX8_term 35 = .ok (.bipush 120, 2) := by decide +kernel
theorem dX8_term_37 : decode cX8_term 37 = .ok (.if_icmp .ge 65, 3) := by decide +kernel
theorem dX8_term_40 : decode cX8_term 40 = .ok (.aload_n 0, 1) := by decide +kernel
theorem dX8_term_41 : decode cX8_term 41 = .ok (.getfield 39, 3) := by decide +kernel
theorem dX8_term_44 : decode cX8_term 44 = .ok (.bipush 11, 2) := by decide +kernel
theorem dX8_term_46 : decode cX8_term 46 = .ok (.if_icmp .eq 12, 3) := by decide +kernel
theorem dX8_term_49 : decode cX8_term 49 = .ok (.aload_n 0, 1) := by decide +kernel
theorem dX8_term_50 : decode cX8_term 50 = .ok (.getfield 39, 3) := by decide +kernel
theorem dX8_term_53 : decode cX8_term 53 = .ok (.bipush 12, 2) := by decide +kernel
theorem dX8_term_55 : decode cX8_term 55 = .ok (.if_icmp .ne 47, 3) := by decide +kernel
theorem dX8_term_102 : decode cX8_term 102 = .ok (.aload_n 0, 1) := by decide +kernel
theorem dX8_term_103 : decode cX8_term 103 = .ok (.bipush 43, 2) := by decide +kernel
theorem dX8_term_105 : decode cX8_term 105 = .ok (.invokevirtual 194, 3) := by decide +kernel
theorem dX8_term_108 : decode cX8_term 108 = .ok (.return_, 1) := by decide +kernel
set_option maxRecDepth 20000 in
theorem ggX8_part_X3_numberAt : GoodIn wsX8_part wsX3_numberAt := goodIn_r _ [8, 9, 10, 11, 119, 120, 121, 122, 123, 124, 125, 126, 127] (by decide +kernel) (by decide +kernel)
set_option maxRecDepth 20000 in
theorem gX8_part_X3_numberAt : GoodIn wsX8_part (wsV RX8 206 RX3 yX3_numberAt wsX3_numberAt) := goodIn_app (goodIn_of _ (by decide +kernel)) ggX8_part_X3_numberAt
set_option maxRecDepth 20000 in
theorem ggX8_part_X8_factor : GoodIn wsX8_part wsX8_factor := goodIn_r _ [63, 3, 23, 1, 2, 24, 64, 65, 66, 7, 67, 9, 68, 69, 70, 71, 35, 72, 73, 74, 16, 17, 18, 19, 20, 21, 22, 25, 26, 27, 28, 29, 30, 31, 32, 33, 34, 36, 37, 38, 39, 40, 41, 45, 46, 47, 48, 49, 50, 51, 52, 53, 54, 75, 76, 77, 78, 79, 80, 81, 82, 83, 55, 56, 57, 58, 4, 5, 6, 8, 10, 11, 59, 60, 61, 62, 12, 13, 14, 15, 0, 42, 43, 44, 84, 85, 86, 87, 88, 89, 90, 91, 92, 93, 94, 95, 96, 97, 98, 99, 100, 101, 102, 103, 104, 105, 106, 107, 108, 109, 110, 111, 112, 113, 114, 115, 116, 117, 118, 119, 120, 121, 122, 123, 124, 125, 126, 127] (by decide +kernel) (by decide +kernel)
set_option maxRecDepth 20000 in
theorem gX8_part_X8_factor : GoodIn wsX8_part (wsV RX8 223 RX8 yX8_factor wsX8_factor) := goodIn_app (goodIn_of _ (by decide +kernel)) ggX8_part_X8_factor
set_option maxRecDepth 20000 in
theorem ggX8_part_X8_step : GoodIn wsX8_part wsX8_step := goodIn_r _ [48, 23, 24, 49, 50, 51, 52, 35, 53, 54, 88, 89, 90, 91, 92, 93, 94, 95, 96, 97, 98, 99, 100, 101, 102, 103, 104, 105, 106, 107, 108, 109, 110, 111, 112, 113, 114, 115, 116, 117, 118] (by decide +kernel) (by decide +kernel)
set_option maxRecDepth 20000 in
theorem gX8_part_X8_step : GoodIn wsX8_part (wsV RX8 194 RX8 yX8_step wsX8_step) := goodIn_app (goodIn_of _ (by decide +kernel)) ggX8_part_X8_step
theorem dX8_part_0 : decode cX8_part 0 = .ok (.aload_n 0, 1) := by decide +kernel
theorem dX8_part_1 : decode cX8_part 1 = .ok (.getfield 9, 3) := by decide +kernel
theorem dX8_part_4 : decode cX8_part 4 = .ok (.aload_n 0, 1) := by decide +kernel
theorem dX8_part_5 : decode cX8_part 5 = .ok (.getfield 79, 3) := by decide +kernel
theorem dX8_part_8 : decode cX8_part 8 = .ok (.invokevirtual 206, 3) := by decide +kernel
theorem dX8_part_11 : decode cX8_part 11 = .ok (.istore_n 2, 1) := by decide +kernel
theorem dX8_part_12 : decode cX8_part 12 = .ok (.aload_n 0, 1) := by decide +kernel
theorem dX8_part_13 : decode cX8_part 13 = .ok (.getfield 39, 3) := by decide +kernel
theorem dX8_part_16 : decode cX8_part 16 = .ok (.iconst 2, 1) := by decide +kernel
theorem dX8_part_17 : decode cX8_part 17 = .ok (.if_icmp .ne 7, 3) := by decide +kernel
theorem dX8_part_24 : decode cX8_part 24 = .ok (.iconst 0, 1) := by decide +kernel
theorem dX8_part_25 : decode cX8_part 25 = .ok (.istore_n 3, 1) := by decide +kernel
theorem dX8_part_26 : decode cX8_part 26 = .ok (.iload_n 3, 1) := by decide +kernel
theorem dX8_part_27 : decode cX8_part 27 = .ok (.ifCond .eq 24, 3) := by decide +kernel
theorem dX8_part_51 : decode cX8_part 51 = .ok (.iload_n 3, 1) := by decide +kernel
theorem dX8_part_52 : decode cX8_part 52 = .ok (.ifCond .eq 16, 3) := by decide +kernel
theorem dX8_part_68 : decode cX8_part 68 = .ok (.iconst 0, 1) := by decide +kernel
theorem dX8_part_69 : decode cX8_part 69 = .ok (.istore 4, 2) := by decide +kernel
theorem dX8_part_71 : decode cX8_part 71 = .ok (.iload 4, 2) := by decide +kernel
theorem dX8_part_73 : decode cX8_part 73 = .ok (.ifCond .eq 11, 3) := by decide +kernel
theorem dX8_part_84 : decode cX8_part 84 = .ok (.iload 4, 2) := by decide +kernel
theorem dX8_part_86 : decode cX8_part 86 = .ok (.ifCond .ne 7, 3) := by decide +kernel
theorem dX8_part_89 : decode cX8_part 89 = .ok (.iload_n 3, 1) := by decide +kernel
theorem dX8_part_90 : decode cX8_part 90 = .ok (.ifCond .ne 7, 3) := by decide +kernel
theorem dX8_part_93 : decode cX8_part 93 = .ok (.aload_n 0, 1) := by decide +kernel
theorem dX8_part_94 : decode cX8_part 94 = .ok (.invokevirtual 223, 3) := by decide +kernel
theorem dX8_part_97 : decode cX8_part 97 = .ok (.iload_n 3, 1) := by decide +kernel
theorem dX8_part_98 : decode cX8_part 98 = .ok (.ifCond .eq 23, 3) := by decide +kernel
theorem dX8_part_121 : decode cX8_part 121 = .ok (.iload_n 1, 1) := by decide +kernel
theorem dX8_part_122 : decode cX8_part 122 = .ok (.ifCond .eq 9, 3) := by decide +kernel
theorem dX8_part_131 : decode cX8_part 131 = .ok (.aload_n 0, 1) := by decide +kernel
theorem dX8_part_132 : decode cX8_part 132 = .ok (.bipush 43, 2) := by decide +kernel
theorem dX8_part_134 : decode cX8_part 134 = .ok (.invokevirtual 194, 3) := by decide +kernel
theorem dX8_part_137 : decode cX8_part 137 = .ok (.return_, 1) := by decide +kernel
set_option maxRecDepth 20000 in
theorem ggX8_factor_X3_nameAt : GoodIn wsX8_factor wsX3_nameAt := goodIn_r _ [10, 11, 12, 119, 120, 121, 122, 123, 124, 125, 126, 127] (by decide +kernel) (by decide +kernel)
set_option maxRecDepth 20000 in
theorem gX8_factor_X3_nameAt : GoodIn wsX8_factor (wsV RX8 82 RX3 yX3_nameAt wsX3_nameAt) := goodIn_app (goodIn_of _ (by decide +kernel)) ggX8_factor_X3_nameAt
set_option maxRecDepth 20000 in
theorem ggX8_factor_X2_variableOf : GoodIn wsX8_factor wsX2_variableOf := goodIn_r _ [17, 18, 19, 103, 104, 105, 106, 107, 108, 109, 110, 111, 112, 113, 114, 115, 116, 117, 118] (by decide +kernel) (by decide +kernel)
set_option maxRecDepth 20000 in
theorem gX8_factor_X2_variableOf : GoodIn wsX8_factor (wsV RX8 92 RX2 yX2_variableOf wsX2_variableOf) := goodIn_app (goodIn_of _ (by decide +kernel)) ggX8_factor_X2_variableOf
set_option maxRecDepth 20000 in
theorem ggX8_factor_X8_fail : GoodIn wsX8_factor wsX8_fail := goodIn_r _ [30, 31, 1, 32, 33, 88, 89, 90, 91, 92, 93, 94, 95, 96, 97, 98, 99, 100, 101, 102] (by decide +kernel) (by decide +kernel)
set_option maxRecDepth 20000 in
theorem gX8_factor_X8_fail : GoodIn wsX8_factor (wsV RX8 95 RX8 yX8_fail wsX8_fail) := goodIn_app (goodIn_of _ (by decide +kernel)) ggX8_factor_X8_fail
theorem dX8_factor_0 : decode cX8_factor 0 = .ok (.aload_n 0, 1) := by decide +kernel
theorem dX8_factor_1 : decode cX8_factor 1 = .ok (.getfield 39, 3) := by decide +kernel
theorem dX8_factor_4 : decode cX8_factor 4 = .ok (.istore_n 1, 1) := by decide +kernel
theorem dX8_factor_5 : decode cX8_factor 5 = .ok (.aload_n 0, 1) := by decide +kernel
theorem dX8_factor_6 : decode cX8_factor 6 = .ok (.getfield 15, 3) := by decide +kernel
theorem dX8_factor_9 : decode cX8_factor 9 = .ok (.aload_n 0, 1) := by decide +kernel
theorem dX8_factor_10 : decode cX8_factor 10 = .ok (.getfield 9, 3) := by decide +kernel
theorem dX8_factor_13 : decode cX8_factor 13 = .ok (.aload_n 0, 1) := by decide +kernel
theorem dX8_factor_14 : decode cX8_factor 14 = .ok (.getfield 79, 3) := by decide +kernel
theorem dX8_factor_17 : decode cX8_factor 17 = .ok (.invokevirtual 82, 3) := by decide +kernel
theorem dX8_factor_20 : decode cX8_factor 20 = .ok (.invokevirtual 92, 3) := by decide +kernel
theorem dX8_factor_23 : decode cX8_factor 23 = .ok (.istore_n 2, 1) := by decide +kernel
theorem dX8_factor_24 : decode cX8_factor 24 = .ok (.iload_n 1, 1) := by decide +kernel
theorem dX8_factor_25 : decode cX8_factor 25 = .ok (.iconst 1, 1) := by decide +kernel
theorem dX8_factor_26 : decode cX8_factor 26 = .ok (.if_icmp .ne 34, 3) := by decide +kernel
theorem dX8_factor_60 : decode cX8_factor 60 = .ok (.iload_n 1, 1) := by decide +kernel
theorem dX8_factor_61 : decode cX8_factor 61 = .ok (.iconst 1, 1) := by decide +kernel
theorem dX8_factor_62 : decode cX8_factor 62 = .ok (.if_icmp .ne 37, 3) := by decide +kernel
theorem dX8_factor_99 : decode cX8_factor 99 = .ok (.iload_n 1, 1) := by decide +kernel
theorem dX8_factor_100 : decode cX8_factor 100 = .ok (.bipush 6, 2) := by decide +kernel
theorem dX8_factor_102 : decode cX8_factor 102 = .ok (.if_icmp .ne 12, 3) := by decide +kernel
theorem dX8_factor_114 : decode cX8_factor 114 = .ok (.iload_n 1, 1) := by decide +kernel
theorem dX8_factor_115 : decode cX8_factor 115 = .ok (.bipush 28, 2) := by decide +kernel
theorem dX8_factor_117 : decode cX8_factor 117 = .ok (.if_icmp .lt 32, 3) := by decide +kernel
theorem dX8_factor_120 : decode cX8_factor 120 = .ok (.iload_n 1, 1) := by decide +kernel
theorem dX8_factor_121 : decode cX8_factor 121 = .ok (.bipush 32, 2) := by decide +kernel
theorem dX8_factor_123 : decode cX8_factor 123 = .ok (.if_icmp .gt 26, 3) := by decide +kernel
theorem dX8_factor_149 : decode cX8_factor 149 = .ok (.aload_n 0, 1) := by decide +kernel
theorem dX8_factor_150 : decode cX8_factor 150 = .ok (.iconst 2, 1) := by decide +kernel
theorem dX8_factor_151 : decode cX8_factor 151 = .ok (.invokevirtual 95, 3) := by decide +kernel
theorem dX8_factor_154 : decode cX8_factor 154 = .ok (.return_, 1) := by decide +kernel
set_option maxRecDepth 20000 in
theorem ggX11_follows_X11_useTape : GoodIn wsX11_follows wsX11_useTape := goodIn_r _ [12, 13, 533, 534, 535, 536, 537, 538, 539, 540, 541, 542, 543, 544, 545, 546, 547] (by decide +kernel) (by decide +kernel)
set_option maxRecDepth 20000 in
theorem gX11_follows_X11_useTape : GoodIn wsX11_follows (wsV RX11 230 RX11 yX11_useTape wsX11_useTape) := goodIn_app (goodIn_of _ (by decide +kernel)) ggX11_follows_X11_useTape
set_option maxRecDepth 20000 in
theorem ggX11_follows_X8_readFormula : GoodIn wsX11_follows wsX8_readFormula := goodIn_r _ [18, 19, 20, 21, 22, 23, 17, 24, 25, 26, 27, 28, 29, 30, 31, 32, 33, 34, 35, 36, 37, 38, 39, 40, 41, 42, 43, 44, 45, 46, 47, 48, 49, 50, 51, 52, 53, 54, 55, 56, 57, 58, 59, 60, 61, 62, 63, 64, 65, 66, 67, 68, 69, 70, 71, 72, 73, 74, 75, 76, 77, 78, 79, 80, 81, 82, 83, 84, 85, 86, 87, 88, 89, 90, 91, 92, 93, 94, 95, 96, 97, 98, 99, 100, 101, 102, 103, 104, 105, 106, 107, 108, 109, 110, 111, 112, 113, 114, 115, 116, 117, 118, 119, 120, 121, 122, 123, 124, 125, 126, 127, 128, 129, 130, 131, 132, 133, 134, 135, 136, 137, 138, 139, 140, 141, 142, 143, 144, 145, 146, 147, 148, 149, 150, 151, 152, 153, 154, 155, 156, 157, 158, 159, 160, 161, 162, 163, 164, 165, 166, 167, 168, 169, 170, 171, 172, 173, 174, 175, 176, 177, 178, 179, 180, 181, 182, 183, 184, 185, 186, 187, 188, 189, 190, 191, 192, 193, 194, 195, 196, 197, 198, 199, 200, 201, 202, 203, 204, 205, 206, 207, 208, 209, 210, 211, 212, 213, 214, 11, 215, 216, 217, 218, 219, 220, 221, 222, 223, 224, 225, 226, 227, 228, 229, 230, 231, 232, 233, 234, 235, 236, 237, 238, 239, 240, 241, 242, 243, 244, 245, 246, 247, 248, 249, 250, 251, 252, 253, 254, 255, 256, 257, 258, 259, 260, 261, 262, 263, 264, 265, 266, 267, 268, 269, 270, 271, 272, 273, 274, 275, 276, 277, 278, 279, 280, 281, 282, 283, 284, 285, 286, 287, 288, 289, 290, 291, 292, 293, 294, 295, 296, 297, 298, 299, 300, 301, 302, 303, 304, 305, 306, 307, 308, 309, 310, 311, 312, 313, 314, 315, 316, 317, 318, 319, 320, 321, 322, 323, 324, 325, 326, 327, 328, 329, 330, 331, 332, 333, 334, 335, 336, 337, 338, 339, 340, 341, 342, 343, 344, 345, 346, 347, 348, 349, 350, 351, 352, 353, 354, 355, 356, 357, 358, 359, 360, 361, 362, 363, 364, 365, 366, 367, 368, 369, 370, 371, 372, 373, 374, 375, 376, 377, 378, 379, 380, 381, 382, 383, 384, 385, 386, 387, 388, 389, 390, 391, 392, 393, 394, 395, 573, 574, 575, 576, 577, 578, 579, 580, 581, 582, 583, 584, 585, 586, 587, 588, 589, 590, 591, 592, 593, 594, 595, 596, 557, 558, 559, 560, 561, 562, 563, 564, 565, 566, 567, 568, 569, 570, 571, 572, 597, 598, 599, 600, 601, 602, 603, 604, 605, 606] (by decide +kernel) (by decide +kernel)
set_option maxRecDepth 20000 in
theorem gX11_follows_X8_readFormula : GoodIn wsX11_follows (wsV RX11 304 RX8 yX8_readFormula wsX8_readFormula) := goodIn_app (goodIn_of _ (by decide +kernel)) ggX11_follows_X8_readFormula
set_option maxRecDepth 20000 in
theorem ggX11_follows_X11_faulted : GoodIn wsX11_follows wsX11_faulted := goodIn_r _ [399, 3, 400, 533, 534, 535, 536, 537, 538, 539, 540, 541, 542, 543, 544, 545, 546, 547, 573, 574, 575, 576, 577, 578, 579, 580, 581, 582, 583, 584, 585, 586, 587] (by decide +kernel) (by decide +kernel)
set_option maxRecDepth 20000 in
theorem gX11_follows_X11_faulted : GoodIn wsX11_follows (wsV RX11 236 RX11 yX11_faulted wsX11_faulted) := goodIn_app (goodIn_of _ (by decide +kernel)) ggX11_follows_X11_faulted
theorem dX11_follows_0 : decode cX11_follows 0 = .ok (.aload_n 0, 1) := by decide +kernel
theorem dX11_follows_1 : decode cX11_follows 1 = .ok (.getfield 16, 3) := by decide +kernel
theorem dX11_follows_4 : decode cX11_follows 4 = .ok (.getfield 122, 3) := by decide +kernel
theorem dX11_follows_7 : decode cX11_follows 7 = .ok (.ifCond .eq 6, 3) := by decide +kernel
theorem dX11_follows_13 : decode cX11_follows 13 = .ok (.aload_n 0, 1) := by decide +kernel
theorem dX11_follows_14 : decode cX11_follows 14 = .ok (.getfield 23, 3) := by decide +kernel
theorem dX11_follows_17 : decode cX11_follows 17 = .ok (.getfield 233, 3) := by decide +kernel
theorem dX11_follows_20 : decode cX11_follows 20 = .ok (.istore_n 1, 1) := by decide +kernel
theorem dX11_follows_21 : decode cX11_follows 21 = .ok (.aload_n 0, 1) := by decide +kernel
theorem dX11_follows_22 : decode cX11_follows 22 = .ok (.getfield 48, 3) := by decide +kernel
theorem dX11_follows_25 : decode cX11_follows 25 = .ok (.aload_n 0, 1) := by decide +kernel
theorem dX11_follows_26 : decode cX11_follows 26 = .ok (.getfield 9, 3) := by decide +kernel
theorem dX11_follows_29 : decode cX11_follows 29 = .ok (.aload_n 0, 1) := by decide +kernel
theorem dX11_follows_30 : decode cX11_follows 30 = .ok (.invokevirtual 230, 3) := by decide +kernel
theorem dX11_follows_33 : decode cX11_follows 33 = .ok (.invokevirtual 304, 3) := by decide +kernel
theorem dX11_follows_36 : decode cX11_follows 36 = .ok (.ifCond .ne 11, 3) := by decide +kernel
theorem dX11_follows_39 : decode cX11_follows 39 = .ok (.aload_n 0, 1) := by decide +kernel
theorem dX11_follows_40 : decode cX11_follows 40 = .ok (.invokevirtual 236, 3) := by decide +kernel
theorem dX11_follows_43 : decode cX11_follows 43 = .ok (.istore_n 2, 1) := by decide +kernel
theorem dX11_follows_44 : decode cX11_follows 44 = .ok (.goto 56, 3) := by decide +kernel
theorem dX11_follows_100 : decode cX11_follows 100 = .ok (.aload_n 0, 1) := by decide +kernel
theorem dX11_follows_101 : decode cX11_follows 101 = .ok (.getfield 23, 3) := by decide +kernel
theorem dX11_follows_104 : decode cX11_follows 104 = .ok (.iload_n 1, 1) := by decide +kernel
theorem dX11_follows_105 : decode cX11_follows 105 = .ok (.putfield 233, 3) := by decide +kernel
theorem dX11_follows_108 : decode cX11_follows 108 = .ok (.iload_n 2, 1) := by decide +kernel
theorem dX11_follows_109 : decode cX11_follows 109 = .ok (.ireturn, 1) := by decide +kernel
theorem dX11_isComparison_0 : decode cX11_isComparison 0 = .ok (.iload_n 0, 1) := by decide +kernel
theorem dX11_isComparison_1 : decode cX11_isComparison 1 = .ok (.bipush 10, 2) := by decide +kernel
theorem dX11_isComparison_3 : decode cX11_isComparison 3 = .ok (.if_icmp .eq 15, 3) := by decide +kernel
theorem dX11_isComparison_6 : decode cX11_isComparison 6 = .ok (.iload_n 0, 1) := by decide +kernel
theorem dX11_isComparison_7 : decode cX11_isComparison 7 = .ok (.bipush 14, 2) := by decide +kernel
theorem dX11_isComparison_9 : decode cX11_isComparison 9 = .ok (.if_icmp .lt 13, 3) := by decide +kernel
theorem dX11_isComparison_12 : decode cX11_isComparison 12 = .ok (.iload_n 0, 1) := by decide +kernel
theorem dX11_isComparison_13 : decode cX11_isComparison 13 = .ok (.bipush 18, 2) := by decide +kernel
theorem dX11_isComparison_15 : decode cX11_isComparison 15 = .ok (.if_icmp .gt 7, 3) := by decide +kernel
theorem dX11_isComparison_22 : decode cX11_isComparison 22 = .ok (.iconst 0, 1) := by decide +kernel
theorem dX11_isComparison_23 : decode cX11_isComparison 23 = .ok (.ireturn, 1) := by decide +kernel
theorem dX12_isSign_0 : decode cX12_isSign 0 = .ok (.aload_n 0, 1) := by decide +kernel
theorem dX12_isSign_1 : decode cX12_isSign 1 = .ok (.getfield 87, 3) := by decide +kernel
theorem dX12_isSign_4 : decode cX12_isSign 4 = .ok (.aload_n 0, 1) := by decide +kernel
theorem dX12_isSign_5 : decode cX12_isSign 5 = .ok (.getfield 597, 3) := by decide +kernel
theorem dX12_isSign_8 : decode cX12_isSign 8 = .ok (.iaload, 1) := by decide +kernel
theorem dX12_isSign_9 : decode cX12_isSign 9 = .ok (.iconst 5, 1) := by decide +kernel
theorem dX12_isSign_10 : decode cX12_isSign 10 = .ok (.if_icmp .ne 20, 3) := by decide +kernel
theorem dX12_isSign_30 : decode cX12_isSign 30 = .ok (.iconst 0, 1) := by decide +kernel
theorem dX12_isSign_31 : decode cX12_isSign 31 = .ok (.ireturn, 1) := by decide +kernel
theorem dX12_isWord_0 : decode cX12_isWord 0 = .ok (.aload_n 0, 1) := by decide +kernel
theorem dX12_isWord_1 : decode cX12_isWord 1 = .ok (.getfield 87, 3) := by decide +kernel
theorem dX12_isWord_4 : decode cX12_isWord 4 = .ok (.aload_n 0, 1) := by decide +kernel
theorem dX12_isWord_5 : decode cX12_isWord 5 = .ok (.getfield 597, 3) := by decide +kernel
theorem dX12_isWord_8 : decode cX12_isWord 8 = .ok (.iaload, 1) := by decide +kernel
theorem dX12_isWord_9 : decode cX12_isWord 9 = .ok (.iconst 4, 1) := by decide +kernel
theorem dX12_isWord_10 : decode cX12_isWord 10 = .ok (.if_icmp .ne 20, 3) := by decide +kernel
theorem dX12_isWord_30 : decode cX12_isWord 30 = .ok (.iconst 0, 1) := by decide +kernel
theorem dX12_isWord_31 : decode cX12_isWord 31 = .ok (.ireturn, 1) := by decide +kernel
theorem dX12_beginSlot_0 : decode cX12_beginSlot 0 = .ok (.aload_n 0, 1) := by decide +kernel
theorem dX12_beginSlot_1 : decode cX12_beginSlot 1 = .ok (.iload_n 1, 1) := by decide +kernel
theorem dX12_beginSlot_2 : decode cX12_beginSlot 2 = .ok (.putfield 630, 3) := by decide +kernel
theorem dX12_beginSlot_5 : decode cX12_beginSlot 5 = .ok (.aload_n 0, 1) := by decide +kernel
theorem dX12_beginSlot_6 : decode cX12_beginSlot 6 = .ok (.iconst 0, 1) := by decide +kernel
theorem dX12_beginSlot_7 : decode cX12_beginSlot 7 = .ok (.putfield 633, 3) := by decide +kernel
theorem dX12_beginSlot_10 : decode cX12_beginSlot 10 = .ok (.aload_n 0, 1) := by decide +kernel
theorem dX12_beginSlot_11 : decode cX12_beginSlot 11 = .ok (.getfield 105, 3) := by decide +kernel
theorem dX12_beginSlot_14 : decode cX12_beginSlot 14 = .ok (.iload_n 1, 1) := by decide +kernel
theorem dX12_beginSlot_15 : decode cX12_beginSlot 15 = .ok (.iconst 0, 1) := by decide +kernel
theorem dX12_beginSlot_16 : decode cX12_beginSlot 16 = .ok (.iastore, 1) := by decide +kernel
theorem dX12_beginSlot_17 : decode cX12_beginSlot 17 = .ok (.aload_n 0, 1) := by decide +kernel
theorem dX12_beginSlot_18 : decode cX12_beginSlot 18 = .ok (.getfield 120, 3) := by decide +kernel
theorem dX12_beginSlot_21 : decode cX12_beginSlot 21 = .ok (.iload_n 1, 1) := by decide +kernel
theorem dX12_beginSlot_22 : decode cX12_beginSlot 22 = .ok (.iconst 0, 1) := by decide +kernel
theorem dX12_beginSlot_23 : decode cX12_beginSlot 23 = .ok (.iastore, 1) := by decide +kernel
theorem dX12_beginSlot_24 : decode cX12_beginSlot 24 = .ok (.aload_n 0, 1) := by decide +kernel
theorem dX12_beginSlot_25 : decode cX12_beginSlot 25 = .ok (.getfield 153, 3) := by decide +kernel
theorem dX12_beginSlot_28 : decode cX12_beginSlot 28 = .ok (.iload_n 1, 1) := by decide +kernel
theorem dX12_beginSlot_29 : decode cX12_beginSlot 29 = .ok (.iconst 0, 1) := by decide +kernel
theorem dX12_beginSlot_30 : decode cX12_beginSlot 30 = .ok (.iastore, 1) := by decide +kernel
theorem dX12_beginSlot_31 : decode cX12_beginSlot 31 = .ok (.aload_n 0, 1) := by decide +kernel
theorem dX12_beginSlot_32 : decode cX12_beginSlot 32 = .ok (.getfield 165, 3) := by decide +kernel
theorem dX12_beginSlot_35 : decode cX12_beginSlot 35 = .ok (.iload_n 1, 1) := by decide +kernel
theorem dX12_beginSlot_36 : decode cX12_beginSlot 36 = .ok (.iconst 0, 1) := by decide +kernel
theorem dX12_beginSlot_37 : decode cX12_beginSlot 37 = .ok (.iastore, 1) := by decide +kernel
theorem dX12_beginSlot_38 : decode cX12_beginSlot 38 = .ok (.aload_n 0, 1) := by decide +kernel
theorem dX12_beginSlot_39 : decode cX12_beginSlot 39 = .ok (.getfield 181, 3) := by decide +kernel
theorem dX12_beginSlot_42 : decode cX12_beginSlot 42 = .ok (.iload_n 1, 1) := by decide +kernel
theorem dX12_beginSlot_43 : decode cX12_beginSlot 43 = .ok (.iconst 0, 1) := by decide +kernel
theorem dX12_beginSlot_44 : decode cX12_beginSlot 44 = .ok (.iastore, 1) := by decide +kernel
theorem dX12_beginSlot_45 : decode cX12_beginSlot 45 = .ok (.return_, 1) := by decide +kernel
theorem dX12_openFormula_0 : decode cX12_openFormula 0 = .ok (.aload_n 0, 1) := by decide +kernel
theorem dX12_openFormula_1 : decode cX12_openFormula 1 = .ok (.dup, 1) := by decide +kernel
theorem dX12_openFormula_2 : decode cX12_openFormula 2 = .ok (.getfield 639, 3) := by decide +kernel
theorem dX12_openFormula_5 : decode cX12_openFormula 5 = .ok (.iconst 1, 1) := by decide +kernel
theorem dX12_openFormula_6 : decode cX12_openFormula 6 = .ok (.iadd, 1) := by decide +kernel
theorem dX12_openFormula_7 : decode cX12_openFormula 7 = .ok (.putfield 639, 3) := by decide +kernel
theorem dX12_openFormula_10 : decode cX12_openFormula 10 = .ok (.aload_n 0, 1) := by decide +kernel
theorem dX12_openFormula_11 : decode cX12_openFormula 11 = .ok (.getfield 187, 3) := by decide +kernel
theorem dX12_openFormula_14 : decode cX12_openFormula 14 = .ok (.aload_n 0, 1) := by decide +kernel
theorem dX12_openFormula_15 : decode cX12_openFormula 15 = .ok (.getfield 639, 3) := by decide +kernel
theorem dX12_openFormula_18 : decode cX12_openFormula 18 = .ok (.iconst 0, 1) := by decide +kernel
theorem dX12_openFormula_19 : decode cX12_openFormula 19 = .ok (.iastore, 1) := by decide +kernel
theorem dX12_openFormula_20 : decode cX12_openFormula 20 = .ok (.aload_n 0, 1) := by decide +kernel
theorem dX12_openFormula_21 : decode cX12_openFormula 21 = .ok (.getfield 190, 3) := by decide +kernel
theorem dX12_openFormula_24 : decode cX12_openFormula 24 = .ok (.aload_n 0, 1) := by decide +kernel
theorem dX12_openFormula_25 : decode cX12_openFormula 25 = .ok (.getfield 639, 3) := by decide +kernel
theorem dX12_openFormula_28 : decode cX12_openFormula 28 = .ok (.iconst (-1), 1) := by decide +kernel
theorem dX12_openFormula_29 : decode cX12_openFormula 29 = .ok (.iastore, 1) := by decide +kernel
theorem dX12_openFormula_30 : decode cX12_openFormula 30 = .ok (.aload_n 0, 1) := by decide +kernel
theorem dX12_openFormula_31 : decode cX12_openFormula 31 = .ok (.getfield 193, 3) := by decide +kernel
theorem dX12_openFormula_34 : decode cX12_openFormula 34 = .ok (.aload_n 0, 1) := by decide +kernel
theorem dX12_openFormula_35 : decode cX12_openFormula 35 = .ok (.getfield 639, 3) := by decide +kernel
theorem dX12_openFormula_38 : decode cX12_openFormula 38 = .ok (.iconst (-1), 1) := by decide +kernel
theorem dX12_openFormula_39 : decode cX12_openFormula 39 = .ok (.iastore, 1) := by decide +kernel
theorem dX12_openFormula_40 : decode cX12_openFormula 40 = .ok (.aload_n 0, 1) := by decide +kernel
theorem dX12_openFormula_41 : decode cX12_openFormula 41 = .ok (.getfield 199, 3) := by decide +kernel
theorem dX12_openFormula_44 : decode cX12_openFormula 44 = .ok (.aload_n 0, 1) := by decide +kernel
theorem dX12_openFormula_45 : decode cX12_openFormula 45 = .ok (.getfield 639, 3) := by decide +kernel
theorem dX12_openFormula_48 : decode cX12_openFormula 48 = .ok (.iconst (-1), 1) := by decide +kernel
theorem dX12_openFormula_49 : decode cX12_openFormula 49 = .ok (.iastore, 1) := by decide +kernel
theorem dX12_openFormula_50 : decode cX12_openFormula 50 = .ok (.aload_n 0, 1) := by decide +kernel
theorem dX12_openFormula_51 : decode cX12_openFormula 51 = .ok (.getfield 205, 3) := by decide +kernel
theorem dX12_openFormula_54 : decode cX12_openFormula 54 = .ok (.aload_n 0, 1) := by decide +kernel
theorem dX12_openFormula_55 : decode cX12_openFormula 55 = .ok (.getfield 639, 3) := by decide +kernel
theorem dX12_openFormula_58 : decode cX12_openFormula 58 = .ok (.iconst 0, 1) := by decide +kernel
theorem dX12_openFormula_59 : decode cX12_openFormula 59 = .ok (.iastore, 1) := by decide +kernel
theorem dX12_openFormula_60 : decode cX12_openFormula 60 = .ok (.return_, 1) := by decide +kernel
set_option maxRecDepth 20000 in
theorem ggX12_readFormula_X12_openFormula : GoodIn wsX12_readFormula wsX12_openFormula := goodIn_r _ [12, 1, 13, 14, 15, 16, 17, 165, 166, 167, 168, 169, 170, 171, 172, 173, 174, 175, 176, 177, 178, 179, 180, 181, 182, 183, 184, 185, 186, 187, 188, 189, 190, 191, 192, 193, 194, 195, 196, 197, 198, 199, 200, 201, 202, 203, 204, 205, 206, 207, 208, 209, 210, 211, 212, 213, 214, 215, 216, 217, 218, 219, 220, 221, 222, 223, 224, 225, 226, 227, 228, 229, 230, 231, 232, 233, 234, 235, 236, 237, 238, 239, 240, 241, 242, 243, 244, 245, 246, 247, 248, 249, 250, 251, 252, 253, 254, 255, 256, 257, 258, 259, 260, 261, 262, 263, 264, 265, 266, 267, 268, 269, 270, 271, 272, 273, 274, 275, 276, 277, 278, 279, 280, 281, 282, 283, 284, 285, 286, 287, 288, 289, 290, 291, 292, 293, 294, 295, 296, 297, 298, 299, 300, 301, 302, 303, 304, 305, 306, 307, 308, 309, 310, 311, 312, 313, 314, 315, 316, 317, 318, 319, 320, 321, 322, 323, 324, 325, 326, 327, 328, 329, 330, 331, 332, 333, 334, 335, 336, 337, 338, 339, 340, 341, 342, 343, 344, 345, 346, 347, 348, 349, 350, 351, 352, 353, 354, 355, 356, 357, 358, 359] (by decide +kernel) (by decide +kernel)
set_option maxRecDepth 20000 in
theorem gX12_readFormula_X12_openFormula : GoodIn wsX12_readFormula (wsV RX12 645 RX12 yX12_openFormula wsX12_openFormula) := goodIn_app (goodIn_of _ (by decide +kernel)) ggX12_readFormula_X12_openFormula
set_option maxRecDepth 20000 in
theorem ggX12_readFormula_X12_readOne : GoodIn wsX12_readFormula wsX12_readOne := goodIn_r _ [21, 22, 23, 24, 25, 6, 17, 1, 26, 27, 4, 28, 29, 30, 31, 32, 11, 33, 34, 35, 36, 37, 38, 39, 40, 41, 42, 43, 44, 45, 46, 47, 48, 49, 50, 51, 52, 53, 54, 55, 56, 57, 8, 9, 10, 12, 13, 14, 15, 16, 58, 59, 60, 61, 62, 63, 64, 65, 66, 67, 68, 69, 70, 7, 71, 3, 72, 73, 74, 75, 76, 77, 78, 79, 80, 81, 82, 83, 84, 85, 86, 87, 88, 89, 90, 91, 92, 93, 94, 95, 96, 97, 98, 99, 100, 2, 101, 102, 103, 104, 105, 106, 107, 108, 109, 110, 111, 112, 113, 114, 115, 116, 117, 165, 166, 167, 168, 169, 170, 171, 172, 173, 174, 175, 176, 177, 178, 179, 180, 181, 182, 183, 184, 185, 186, 187, 188, 189, 190, 191, 192, 193, 194, 195, 196, 197, 198, 199, 200, 201, 202, 203, 204, 205, 206, 207, 208, 209, 210, 211, 212, 213, 214, 215, 216, 217, 218, 219, 220, 221, 222, 223, 224, 225, 226, 227, 228, 229, 230, 231, 232, 233, 234, 235, 236, 237, 238, 239, 240, 241, 242, 243, 244, 245, 246, 247, 248, 249, 250, 251, 252, 253, 254, 255, 256, 257, 258, 259, 260, 261, 262, 263, 264, 265, 266, 267, 268, 269, 270, 271, 272, 273, 274, 275, 276, 277, 278, 279, 280, 281, 282, 283, 284, 285, 286, 287, 288, 289, 290, 291, 292, 293, 294, 295, 296, 297, 298, 299, 300, 301, 302, 303, 304, 305, 306, 307, 308, 309, 310, 311, 312, 313, 314, 315, 316, 317, 318, 319, 320, 321, 322, 323, 324, 325, 326, 327, 328, 329, 330, 331, 332, 333, 334, 335, 336, 337, 338, 339, 340, 341, 342, 343, 344, 345, 346, 347, 348, 349, 350, 351, 352, 353, 354, 355, 356, 357, 358, 359] (by decide +kernel) (by decide +kernel)
set_option maxRecDepth 20000 in
theorem gX12_readFormula_X12_readOne : GoodIn wsX12_readFormula (wsV RX12 651 RX12 yX12_readOne wsX12_readOne) := goodIn_app (goodIn_of _ (by decide +kernel)) ggX12_readFormula_X12_readOne
theorem dX12_readFormula_0 : decode cX12_readFormula 0 = .ok (.aload_n 0, 1) := by decide +kernel
theorem dX12_readFormula_1 : decode cX12_readFormula 1 = .ok (.iconst (-1), 1) := by decide +kernel
theorem dX12_readFormula_2 : decode cX12_readFormula 2 = .ok (.putfield 639, 3) := by decide +kernel
theorem dX12_readFormula_5 : decode cX12_readFormula 5 = .ok (.aload_n 0, 1) := by decide +kernel
theorem dX12_readFormula_6 : decode cX12_readFormula 6 = .ok (.iconst (-1), 1) := by decide +kernel
theorem dX12_readFormula_7 : decode cX12_readFormula 7 = .ok (.putfield 642, 3) := by decide +kernel
theorem dX12_readFormula_10 : decode cX12_readFormula 10 = .ok (.aload_n 0, 1) := by decide +kernel
theorem dX12_readFormula_11 : decode cX12_readFormula 11 = .ok (.invokevirtual 645, 3) := by decide +kernel
theorem dX12_readFormula_14 : decode cX12_readFormula 14 = .ok (.aload_n 0, 1) := by decide +kernel
theorem dX12_readFormula_15 : decode cX12_readFormula 15 = .ok (.iconst 1, 1) := by decide +kernel
theorem dX12_readFormula_16 : decode cX12_readFormula 16 = .ok (.putfield 648, 3) := by decide +kernel
theorem dX12_readFormula_19 : decode cX12_readFormula 19 = .ok (.aload_n 0, 1) := by decide +kernel
theorem dX12_readFormula_20 : decode cX12_readFormula 20 = .ok (.getfield 562, 3) := by decide +kernel
theorem dX12_readFormula_23 : decode cX12_readFormula 23 = .ok (.ifCond .ne 62, 3) := by decide +kernel
theorem dX12_readFormula_26 : decode cX12_readFormula 26 = .ok (.aload_n 0, 1) := by decide +kernel
theorem dX12_readFormula_27 : decode cX12_readFormula 27 = .ok (.getfield 648, 3) := by decide +kernel
theorem dX12_readFormula_30 : decode cX12_readFormula 30 = .ok (.bipush 7, 2) := by decide +kernel
theorem dX12_readFormula_32 : decode cX12_readFormula 32 = .ok (.if_icmp .eq 53, 3) := by decide +kernel
theorem dX12_readFormula_35 : decode cX12_readFormula 35 = .ok (.aload_n 0, 1) := by decide +kernel
theorem dX12_readFormula_36 : decode cX12_readFormula 36 = .ok (.getfield 648, 3) := by decide +kernel
theorem dX12_readFormula_39 : decode cX12_readFormula 39 = .ok (.lookupswitch 39 #[(1, 25), (2, 32)], 25) := by decide +kernel
theorem dX12_readFormula_64 : decode cX12_readFormula 64 = .ok (.aload_n 0, 1) := by decide +kernel
theorem dX12_readFormula_65 : decode cX12_readFormula 65 = .ok (.invokevirtual 651, 3) := by decide +kernel
theorem dX12_readFormula_68 : decode cX12_readFormula 68 = .ok (.goto (-49), 3) := by decide +kernel
theorem dX12_readFormula_85 : decode cX12_readFormula 85 = .ok (.aload_n 0, 1) := by decide +kernel
theorem dX12_readFormula_86 : decode cX12_readFormula 86 = .ok (.getfield 184, 3) := by decide +kernel
theorem dX12_readFormula_89 : decode cX12_readFormula 89 = .ok (.aload_n 0, 1) := by decide +kernel
theorem dX12_readFormula_90 : decode cX12_readFormula 90 = .ok (.getfield 630, 3) := by decide +kernel
theorem dX12_readFormula_93 : decode cX12_readFormula 93 = .ok (.aload_n 0, 1) := by decide +kernel
theorem dX12_readFormula_94 : decode cX12_readFormula 94 = .ok (.getfield 660, 3) := by decide +kernel
theorem dX12_readFormula_97 : decode cX12_readFormula 97 = .ok (.iastore, 1) := by decide +kernel
theorem dX12_readFormula_98 : decode cX12_readFormula 98 = .ok (.aload_n 0, 1) := by decide +kernel
theorem dX12_readFormula_99 : decode cX12_readFormula 99 = .ok (.getfield 660, 3) := by decide +kernel
theorem dX12_readFormula_102 : decode cX12_readFormula 102 = .ok (.ireturn, 1) := by decide +kernel
set_option maxRecDepth 20000 in
theorem ggX12_readOne_X12_isWord : GoodIn wsX12_readOne wsX12_isWord := goodIn_r _ [17, 1, 2, 3, 113, 114, 115, 116, 117, 118, 119, 120, 121, 122, 123, 124, 125, 126, 127, 128, 129, 130, 131, 132, 133, 134, 135, 136, 137, 138, 139, 140, 141, 142, 143, 144, 145, 146, 147, 148, 149, 150, 151, 152, 153, 154, 155, 156, 157, 158, 159, 160, 161, 162, 163, 164, 165, 166, 167, 168, 169, 170, 171, 172, 173, 174, 175, 176, 177, 178, 179, 180, 181, 182, 183, 184, 185, 186, 187, 188, 189, 190, 191, 192, 193, 194, 195, 196, 197, 198, 199, 200, 201, 202, 203, 204, 205, 206, 207, 208, 209, 210, 211, 212, 213, 214, 215, 216, 217, 218, 219, 220, 221, 222, 223, 224, 225, 226, 227, 228, 229, 230, 231, 232, 233, 234, 235, 236, 237, 238, 239, 240, 241, 242, 243, 244, 245, 246, 247, 248, 249, 250, 251, 252, 253, 254, 255, 256, 257, 258, 259, 260, 261, 262, 263, 264, 265, 266, 267, 268, 269, 270, 271, 272, 273, 274, 275, 276, 277, 278, 279, 280, 281, 282, 283, 284, 285, 286, 287, 288, 289, 290, 291, 292, 293, 294, 295, 296, 297, 298, 299, 300, 301, 302, 303, 304, 305, 306, 307] (by decide +kernel) (by decide +kernel)
set_option maxRecDepth 20000 in
theorem gX12_readOne_X12_isWord : GoodIn wsX12_readOne (wsV RX12 666 RX12 yX12_isWord wsX12_isWord) := goodIn_app (goodIn_of _ (by decide +kernel)) ggX12_readOne_X12_isWord
set_option maxRecDepth 20000 in
theorem ggX12_readOne_X12_isSign : GoodIn wsX12_readOne wsX12_isSign := goodIn_r _ [41, 1, 2, 3, 113, 114, 115, 116, 117, 118, 119, 120, 121, 122, 123, 124, 125, 126, 127, 128, 129, 130, 131, 132, 133, 134, 135, 136, 137, 138, 139, 140, 141, 142, 143, 144, 145, 146, 147, 148, 149, 150, 151, 152, 153, 154, 155, 156, 157, 158, 159, 160, 161, 162, 163, 164, 165, 166, 167, 168, 169, 170, 171, 172, 173, 174, 175, 176, 177, 178, 179, 180, 181, 182, 183, 184, 185, 186, 187, 188, 189, 190, 191, 192, 193, 194, 195, 196, 197, 198, 199, 200, 201, 202, 203, 204, 205, 206, 207, 208, 209, 210, 211, 212, 213, 214, 215, 216, 217, 218, 219, 220, 221, 222, 223, 224, 225, 226, 227, 228, 229, 230, 231, 232, 233, 234, 235, 236, 237, 238, 239, 240, 241, 242, 243, 244, 245, 246, 247, 248, 249, 250, 251, 252, 253, 254, 255, 256, 257, 258, 259, 260, 261, 262, 263, 264, 265, 266, 267, 268, 269, 270, 271, 272, 273, 274, 275, 276, 277, 278, 279, 280, 281, 282, 283, 284, 285, 286, 287, 288, 289, 290, 291, 292, 293, 294, 295, 296, 297, 298, 299, 300, 301, 302, 303, 304, 305, 306, 307] (by decide +kernel) (by decide +kernel)
set_option maxRecDepth 20000 in
theorem gX12_readOne_X12_isSign : GoodIn wsX12_readOne (wsV RX12 672 RX12 yX12_isSign wsX12_isSign) := goodIn_app (goodIn_of _ (by decide +kernel)) ggX12_readOne_X12_isSign
set_option maxRecDepth 20000 in
theorem ggX12_readOne_X12_cannot : GoodIn wsX12_readOne wsX12_cannot := goodIn_r _ [112, 1, 2, 23, 24, 25, 16, 26, 10, 27, 28, 29, 113, 114, 115, 116, 117, 118, 119, 120, 121, 122, 123, 124, 125, 126, 127, 128, 129, 130, 131, 132, 133, 134, 135, 136, 137, 138, 139, 140, 141, 142, 143, 144, 145, 146, 147, 148, 149, 150, 151, 152, 153, 154, 155, 156, 157, 158, 159, 160, 161, 162, 163, 164, 165, 166, 167, 168, 169, 170, 171, 172, 173, 174, 175, 176, 177, 178, 179, 180, 181, 182, 183, 184, 185, 186, 187, 188, 189, 190, 191, 192, 193, 194, 195, 196, 197, 198, 199, 200, 201, 202, 203, 204, 205, 206, 207, 208, 209, 210, 211, 212, 213, 214, 215, 216, 217, 218, 219, 220, 221, 222, 223, 224, 225, 226, 227, 228, 229, 230, 231, 232, 233, 234, 235, 236, 237, 238, 239, 240, 241, 242, 243, 244, 245, 246, 247, 248, 249, 250, 251, 252, 253, 254, 255, 256, 257, 258, 259, 260, 261, 262, 263, 264, 265, 266, 267, 268, 269, 270, 271, 272, 273, 274, 275, 276, 277, 278, 279, 280, 281, 282, 283, 284, 285, 286, 287, 288, 289, 290, 291, 292, 293, 294, 295, 296, 297, 298, 299, 300, 301, 302, 303, 304, 305, 306, 307] (by decide +kernel) (by decide +kernel)
set_option maxRecDepth 20000 in
theorem gX12_readOne_X12_cannot : GoodIn wsX12_readOne (wsV RX12 698 RX12 yX12_cannot wsX12_cannot) := goodIn_app (goodIn_of _ (by decide +kernel)) ggX12_readOne_X12_cannot
theorem dX12_readOne_0 : decode cX12_readOne 0 = .ok (.aload_n 0, 1) := by decide +kernel
theorem dX12_readOne_1 : decode cX12_readOne 1 = .ok (.getfield 87, 3) := by decide +kernel
theorem dX12_readOne_4 : decode cX12_readOne 4 = .ok (.aload_n 0, 1) := by decide +kernel
theorem dX12_readOne_5 : decode cX12_readOne 5 = .ok (.getfield 597, 3) := by decide +kernel
theorem dX12_readOne_8 : decode cX12_readOne 8 = .ok (.iaload, 1) := by decide +kernel
theorem dX12_readOne_9 : decode cX12_readOne 9 = .ok (.istore_n 1, 1) := by decide +kernel
theorem dX12_readOne_10 : decode cX12_readOne 10 = .ok (.aload_n 0, 1) := by decide +kernel
theorem dX12_readOne_11 : decode cX12_readOne 11 = .ok (.getfield 90, 3) := by decide +kernel
theorem dX12_readOne_14 : decode cX12_readOne 14 = .ok (.aload_n 0, 1) := by decide +kernel
theorem dX12_readOne_15 : decode cX12_readOne 15 = .ok (.getfield 597, 3) := by decide +kernel
theorem dX12_readOne_18 : decode cX12_readOne 18 = .ok (.iaload, 1) := by decide +kernel
theorem dX12_readOne_19 : decode cX12_readOne 19 = .ok (.istore_n 2, 1) := by decide +kernel
theorem dX12_readOne_20 : decode cX12_readOne 20 = .ok (.aload_n 0, 1) := by decide +kernel
theorem dX12_readOne_21 : decode cX12_readOne 21 = .ok (.getfield 105, 3) := by decide +kernel
theorem dX12_readOne_24 : decode cX12_readOne 24 = .ok (.aload_n 0, 1) := by decide +kernel
theorem dX12_readOne_25 : decode cX12_readOne 25 = .ok (.getfield 630, 3) := by decide +kernel
theorem dX12_readOne_28 : decode cX12_readOne 28 = .ok (.iaload, 1) := by decide +kernel
theorem dX12_readOne_29 : decode cX12_readOne 29 = .ok (.istore_n 3, 1) := by decide +kernel
theorem dX12_readOne_30 : decode cX12_readOne 30 = .ok (.aload_n 0, 1) := by decide +kernel
theorem dX12_readOne_31 : decode cX12_readOne 31 = .ok (.iconst 5, 1) := by decide +kernel
theorem dX12_readOne_32 : decode cX12_readOne 32 = .ok (.invokevirtual 666, 3) := by decide +kernel
theorem dX12_readOne_35 : decode cX12_readOne 35 = .ok (.ifCond .eq 23, 3) := by decide +kernel
theorem dX12_readOne_58 : decode cX12_readOne 58 = .ok (.aload_n 0, 1) := by decide +kernel
theorem dX12_readOne_59 : decode cX12_readOne 59 = .ok (.iconst 1, 1) := by decide +kernel
theorem dX12_readOne_60 : decode cX12_readOne 60 = .ok (.invokevirtual 672, 3) := by decide +kernel
theorem dX12_readOne_63 : decode cX12_readOne 63 = .ok (.ifCond .eq 14, 3) := by decide +kernel
theorem dX12_readOne_77 : decode cX12_readOne 77 = .ok (.aload_n 0, 1) := by decide +kernel
theorem dX12_readOne_78 : decode cX12_readOne 78 = .ok (.bipush 6, 2) := by decide +kernel
theorem dX12_readOne_80 : decode cX12_readOne 80 = .ok (.invokevirtual 666, 3) := by decide +kernel
theorem dX12_readOne_83 : decode cX12_readOne 83 = .ok (.ifCond .ne 12, 3) := by decide +kernel
theorem dX12_readOne_86 : decode cX12_readOne 86 = .ok (.aload_n 0, 1) := by decide +kernel
theorem dX12_readOne_87 : decode cX12_readOne 87 = .ok (.bipush 7, 2) := by decide +kernel
theorem dX12_readOne_89 : decode cX12_readOne 89 = .ok (.invokevirtual 666, 3) := by decide +kernel
theorem dX12_readOne_92 : decode cX12_readOne 92 = .ok (.ifCond .eq 21, 3) := by decide +kernel
theorem dX12_readOne_113 : decode cX12_readOne 113 = .ok (.iload_n 1, 1) := by decide +kernel
theorem dX12_readOne_114 : decode cX12_readOne 114 = .ok (.iconst 3, 1) := by decide +kernel
theorem dX12_readOne_115 : decode cX12_readOne 115 = .ok (.if_icmp .ne 95, 3) := by decide +kernel
theorem dX12_readOne_210 : decode cX12_readOne 210 = .ok (.iload_n 1, 1) := by decide +kernel
theorem dX12_readOne_211 : decode cX12_readOne 211 = .ok (.iconst 2, 1) := by decide +kernel
theorem dX12_readOne_212 : decode cX12_readOne 212 = .ok (.if_icmp .ne 82, 3) := by decide +kernel
theorem dX12_readOne_294 : decode cX12_readOne 294 = .ok (.iload_n 1, 1) := by decide +kernel
theorem dX12_readOne_295 : decode cX12_readOne 295 = .ok (.iconst 2, 1) := by decide +kernel
theorem dX12_readOne_296 : decode cX12_readOne 296 = .ok (.if_icmp .eq 39, 3) := by decide +kernel
theorem dX12_readOne_299 : decode cX12_readOne 299 = .ok (.aload_n 0, 1) := by decide +kernel
theorem dX12_readOne_300 : decode cX12_readOne 300 = .ok (.bipush 9, 2) := by decide +kernel
theorem dX12_readOne_302 : decode cX12_readOne 302 = .ok (.invokevirtual 672, 3) := by decide +kernel
theorem dX12_readOne_305 : decode cX12_readOne 305 = .ok (.ifCond .ne 30, 3) := by decide +kernel
theorem dX12_readOne_308 : decode cX12_readOne 308 = .ok (.aload_n 0, 1) := by decide +kernel
theorem dX12_readOne_309 : decode cX12_readOne 309 = .ok (.iconst 3, 1) := by decide +kernel
theorem dX12_readOne_310 : decode cX12_readOne 310 = .ok (.invokevirtual 672, 3) := by decide +kernel
theorem dX12_readOne_313 : decode cX12_readOne 313 = .ok (.ifCond .ne 22, 3) := by decide +kernel
theorem dX12_readOne_316 : decode cX12_readOne 316 = .ok (.iload_n 1, 1) := by decide +kernel
theorem dX12_readOne_317 : decode cX12_readOne 317 = .ok (.iconst 4, 1) := by decide +kernel
theorem dX12_readOne_318 : decode cX12_readOne 318 = .ok (.if_icmp .ne 49, 3) := by decide +kernel
theorem dX12_readOne_367 : decode cX12_readOne 367 = .ok (.aload_n 0, 1) := by decide +kernel
theorem dX12_readOne_368 : decode cX12_readOne 368 = .ok (.invokevirtual 698, 3) := by decide +kernel
theorem dX12_readOne_371 : decode cX12_readOne 371 = .ok (.return_, 1) := by decide +kernel
set_option maxRecDepth 20000 in
theorem ggX12_readsFormula_X12_beginSlot : GoodIn wsX12_readsFormula wsX12_beginSlot := goodIn_r _ [8, 9, 10, 11, 12, 13, 14, 15, 173, 174, 175, 176, 177, 178, 179, 180, 181, 182, 183, 184, 185, 186, 187, 188, 189, 190, 191, 192, 193, 194, 195, 196, 197, 198, 199, 200, 201, 202, 203, 204, 205, 206, 207, 208, 209, 210, 211, 212, 213, 214, 215, 216, 217, 218, 219, 220, 221, 222, 223, 224, 225, 226, 227, 228, 229, 230, 231, 232, 233, 234, 235, 236, 237, 238, 239, 240, 241, 242, 243, 244, 245, 246, 247, 248, 249, 250, 251, 252, 253, 254, 255, 256, 257, 258, 259, 260, 261, 262, 263, 264, 265, 266, 267, 268, 269, 270, 271, 272, 273, 274, 275, 276, 277, 278, 279, 280, 281, 282, 283, 284, 285, 286, 287, 288, 289, 290, 291, 292, 293, 294, 295, 296, 297, 298, 299, 300, 301, 302, 303, 304, 305, 306, 307, 308, 309, 310, 311, 312, 313, 314, 315, 316, 317, 318, 319, 320, 321, 322, 323, 324, 325, 326, 327, 328, 329, 330, 331, 332, 333, 334, 335, 336, 337, 338, 339, 340, 341, 342, 343, 344, 345, 346, 347, 348, 349, 350, 351, 352, 353, 354, 355, 356, 357, 358, 359, 360, 361, 362, 363, 364, 365, 366, 367] (by decide +kernel) (by decide +kernel)
set_option maxRecDepth 20000 in
theorem gX12_readsFormula_X12_beginSlot : GoodIn wsX12_readsFormula (wsV RX12 842 RX12 yX12_beginSlot wsX12_beginSlot) := goodIn_app (goodIn_of _ (by decide +kernel)) ggX12_readsFormula_X12_beginSlot
set_option maxRecDepth 20000 in
theorem ggX12_readsFormula_X12_readFormula : GoodIn wsX12_readsFormula wsX12_readFormula := goodIn_r _ [19, 20, 21, 22, 2, 23, 9, 24, 25, 26, 27, 7, 28, 29, 30, 31, 32, 33, 34, 35, 36, 37, 3, 1, 38, 11, 39, 13, 40, 41, 42, 43, 44, 45, 46, 47, 48, 49, 10, 50, 51, 52, 53, 54, 55, 56, 57, 58, 59, 60, 61, 62, 63, 64, 65, 66, 67, 68, 69, 70, 71, 72, 12, 73, 74, 75, 76, 77, 78, 79, 80, 81, 82, 83, 84, 85, 86, 87, 88, 89, 90, 91, 92, 93, 94, 95, 96, 97, 98, 99, 100, 101, 102, 103, 104, 105, 14, 106, 107, 108, 109, 110, 111, 112, 113, 114, 115, 116, 117, 118, 119, 120, 121, 122, 123, 124, 125, 126, 127, 128, 129, 130, 131, 132, 133, 134, 135, 136, 137, 138, 139, 140, 141, 142, 143, 15, 144, 145, 146, 147, 148, 149, 150, 151, 152, 153, 154, 155, 156, 157, 158, 159, 160, 161, 162, 163, 164, 165, 166, 167, 168, 169, 170, 171, 172, 173, 174, 175, 176, 177, 178, 179, 180, 181, 182, 183, 184, 185, 186, 187, 188, 189, 190, 191, 192, 193, 194, 195, 196, 197, 198, 199, 200, 201, 202, 203, 204, 205, 206, 207, 208, 209, 210, 211, 212, 213, 214, 215, 216, 217, 218, 219, 220, 221, 222, 223, 224, 225, 226, 227, 228, 229, 230, 231, 232, 233, 234, 235, 236, 237, 238, 239, 240, 241, 242, 243, 244, 245, 246, 247, 248, 249, 250, 251, 252, 253, 254, 255, 256, 257, 258, 259, 260, 261, 262, 263, 264, 265, 266, 267, 268, 269, 270, 271, 272, 273, 274, 275, 276, 277, 278, 279, 280, 281, 282, 283, 284, 285, 286, 287, 288, 289, 290, 291, 292, 293, 294, 295, 296, 297, 298, 299, 300, 301, 302, 303, 304, 305, 306, 307, 308, 309, 310, 311, 312, 313, 314, 315, 316, 317, 318, 319, 320, 321, 322, 323, 324, 325, 326, 327, 328, 329, 330, 331, 332, 333, 334, 335, 336, 337, 338, 339, 340, 341, 342, 343, 344, 345, 346, 347, 348, 349, 350, 351, 352, 353, 354, 355, 356, 357, 358, 359, 360, 361, 362, 363, 364, 365, 366, 367] (by decide +kernel) (by decide +kernel)
set_option maxRecDepth 20000 in
theorem gX12_readsFormula_X12_readFormula : GoodIn wsX12_readsFormula (wsV RX12 845 RX12 yX12_readFormula wsX12_readFormula) := goodIn_app (goodIn_of _ (by decide +kernel)) ggX12_readsFormula_X12_readFormula
theorem dX12_readsFormula_0 : decode cX12_readsFormula 0 = .ok (.aload_n 0, 1) := by decide +kernel
theorem dX12_readsFormula_1 : decode cX12_readsFormula 1 = .ok (.getfield 597, 3) := by decide +kernel
theorem dX12_readsFormula_4 : decode cX12_readsFormula 4 = .ok (.istore_n 1, 1) := by decide +kernel
theorem dX12_readsFormula_5 : decode cX12_readsFormula 5 = .ok (.aload_n 0, 1) := by decide +kernel
theorem dX12_readsFormula_6 : decode cX12_readsFormula 6 = .ok (.bipush 24, 2) := by decide +kernel
theorem dX12_readsFormula_8 : decode cX12_readsFormula 8 = .ok (.invokevirtual 842, 3) := by decide +kernel
theorem dX12_readsFormula_11 : decode cX12_readsFormula 11 = .ok (.aload_n 0, 1) := by decide +kernel
theorem dX12_readsFormula_12 : decode cX12_readsFormula 12 = .ok (.invokevirtual 845, 3) := by decide +kernel
theorem dX12_readsFormula_15 : decode cX12_readsFormula 15 = .ok (.istore_n 2, 1) := by decide +kernel
theorem dX12_readsFormula_16 : decode cX12_readsFormula 16 = .ok (.aload_n 0, 1) := by decide +kernel
theorem dX12_readsFormula_17 : decode cX12_readsFormula 17 = .ok (.getfield 562, 3) := by decide +kernel
theorem dX12_readsFormula_20 : decode cX12_readsFormula 20 = .ok (.ifCond .ne 19, 3) := by decide +kernel
theorem dX12_readsFormula_39 : decode cX12_readsFormula 39 = .ok (.aload_n 0, 1) := by decide +kernel
theorem dX12_readsFormula_40 : decode cX12_readsFormula 40 = .ok (.getfield 562, 3) := by decide +kernel
theorem dX12_readsFormula_43 : decode cX12_readsFormula 43 = .ok (.ifCond .ne 7, 3) := by decide +kernel
theorem dX12_readsFormula_50 : decode cX12_readsFormula 50 = .ok (.iconst 0, 1) := by decide +kernel
theorem dX12_readsFormula_51 : decode cX12_readsFormula 51 = .ok (.ireturn, 1) := by decide +kernel
set_option maxRecDepth 20000 in
theorem ggX12_follows_X12_asks : GoodIn wsX12_follows wsX12_asks := goodIn_r _ [5, 6, 7, 491, 492, 493, 494, 495, 496, 497, 498, 499, 500, 501, 502, 503, 504, 505, 506, 507, 508, 509, 510, 511, 512, 513, 514, 515, 516, 517, 518, 519, 520, 521, 522, 523, 524, 525, 526, 527, 528, 529, 530, 531, 532, 533, 534, 535, 536, 537, 538, 539, 540, 541, 542, 543, 544, 545, 546, 547, 548, 549, 550, 551, 552, 553, 554, 555, 556, 557, 558, 559, 560, 561, 562, 563, 564, 565, 566, 567, 568, 569, 570, 571, 572, 573, 574, 575, 576, 577, 578, 579, 580, 581, 582, 583, 584, 585, 586, 587, 588, 589, 590, 591, 592, 593, 594, 595, 596, 597, 598, 599, 600, 601, 602, 603, 604, 605, 606, 607, 608, 609, 610, 611, 612, 613, 614, 615, 616, 617, 618, 619, 620, 621, 622, 623, 624, 625, 626, 627, 628, 629, 630, 631, 632, 633, 634, 635, 636, 637, 638, 639, 640, 641, 642, 643, 644, 645, 646, 647, 648, 649, 650, 651, 652, 653, 654, 655, 656, 657, 658, 659, 660, 661, 662, 663, 664, 665, 666, 667, 668, 669, 670, 671, 672, 673, 674, 675, 676, 677, 678, 679, 680, 681, 682, 683, 684, 685] (by decide +kernel) (by decide +kernel)
set_option maxRecDepth 20000 in
theorem gX12_follows_X12_asks : GoodIn wsX12_follows (wsV RX12 871 RX12 yX12_asks wsX12_asks) := goodIn_app (goodIn_of _ (by decide +kernel)) ggX12_follows_X12_asks
set_option maxRecDepth 20000 in
theorem ggX12_follows_X12_begin : GoodIn wsX12_follows wsX12_begin := goodIn_r _ [11, 12, 13, 14, 15, 16, 17, 18, 4, 19, 20, 21, 22, 23, 24, 25, 26, 27, 28, 29, 30, 31, 32, 33, 34, 35, 36, 37, 38, 39, 40, 41, 42, 43, 44, 45, 46, 47, 48, 49, 50, 51, 52, 53, 54, 55, 56, 57, 58, 59, 60, 61, 62, 63, 64, 65, 66, 67, 68, 69, 70, 71, 72, 73, 74, 75, 76, 77, 78, 79, 80, 81, 82, 83, 84, 85, 86, 87, 88, 89, 90, 91, 92, 93, 94, 95, 96, 97, 98, 99, 100, 101, 102, 103, 104, 105, 106, 107, 108, 109, 110, 111, 112, 113, 491, 492, 493, 494, 495, 496, 497, 498, 499, 500, 501, 502, 503, 504, 505, 506, 507, 508, 509, 510, 511, 512, 513, 514, 515, 516, 517, 518, 519, 520, 521, 522, 523, 524, 525, 526, 527, 528, 529, 530, 531, 532, 533, 534, 535, 536, 537, 538, 539, 540, 541, 542, 543, 544, 545, 546, 547, 548, 549, 550, 551, 552, 553, 554, 555, 556, 557, 558, 559, 560, 561, 562, 563, 564, 565, 566, 567, 568, 569, 570, 571, 572, 573, 574, 575, 576, 577, 578, 579, 580, 581, 582, 583, 584, 585, 586, 587, 588, 589, 590, 591, 592, 593, 594, 595, 596, 597, 598, 599, 600, 601, 602, 603, 604, 605, 606, 607, 608, 609, 610, 611, 612, 613, 614, 615, 616, 617, 618, 619, 620, 621, 622, 623, 624, 625, 626, 627, 628, 629, 630, 631, 632, 633, 634, 635, 636, 637, 638, 639, 640, 641, 642, 643, 644, 645, 646, 647, 648, 649, 650, 651, 652, 653, 654, 655, 656, 657, 658, 659, 660, 661, 662, 663, 664, 665, 666, 667, 668, 669, 670, 671, 672, 673, 674, 675, 676, 677, 678, 679, 680, 681, 682, 683, 684, 685] (by decide +kernel) (by decide +kernel)
set_option maxRecDepth 20000 in
theorem gX12_follows_X12_begin : GoodIn wsX12_follows (wsV RX12 874 RX12 yX12_begin wsX12_begin) := goodIn_app (goodIn_of _ (by decide +kernel)) ggX12_follows_X12_begin
set_option maxRecDepth 20000 in
theorem ggX12_follows_X12_readsFormula : GoodIn wsX12_follows wsX12_readsFormula := goodIn_r _ [117, 30, 29, 33, 118, 119, 120, 4, 121, 122, 123, 124, 125, 126, 127, 128, 129, 130, 131, 132, 133, 134, 135, 136, 137, 138, 139, 140, 141, 142, 143, 144, 145, 146, 147, 148, 149, 150, 34, 151, 152, 153, 154, 155, 156, 157, 158, 159, 160, 161, 162, 163, 164, 165, 166, 31, 167, 168, 169, 170, 171, 172, 32, 173, 22, 174, 175, 176, 177, 178, 179, 180, 181, 182, 183, 184, 185, 186, 187, 188, 189, 190, 191, 192, 193, 194, 15, 195, 196, 197, 198, 199, 200, 201, 202, 203, 204, 13, 205, 206, 207, 208, 209, 210, 211, 212, 213, 214, 215, 216, 217, 218, 219, 220, 221, 222, 223, 224, 225, 226, 47, 48, 49, 227, 228, 229, 230, 231, 232, 233, 234, 235, 236, 237, 238, 239, 240, 241, 242, 243, 244, 245, 246, 247, 248, 249, 250, 251, 252, 253, 254, 255, 256, 257, 258, 259, 260, 261, 262, 263, 264, 265, 266, 267, 268, 269, 270, 271, 272, 273, 274, 275, 276, 491, 492, 493, 494, 495, 496, 497, 498, 499, 500, 501, 502, 503, 504, 505, 506, 507, 508, 509, 510, 511, 512, 513, 514, 515, 516, 517, 518, 519, 520, 521, 522, 523, 524, 525, 526, 527, 528, 529, 530, 531, 532, 533, 534, 535, 536, 537, 538, 539, 540, 541, 542, 543, 544, 545, 546, 547, 548, 549, 550, 551, 552, 553, 554, 555, 556, 557, 558, 559, 560, 561, 562, 563, 564, 565, 566, 567, 568, 569, 570, 571, 572, 573, 574, 575, 576, 577, 578, 579, 580, 581, 582, 583, 584, 585, 586, 587, 588, 589, 590, 591, 592, 593, 594, 595, 596, 597, 598, 599, 600, 601, 602, 603, 604, 605, 606, 607, 608, 609, 610, 611, 612, 613, 614, 615, 616, 617, 618, 619, 620, 621, 622, 623, 624, 625, 626, 627, 628, 629, 630, 631, 632, 633, 634, 635, 636, 637, 638, 639, 640, 641, 642, 643, 644, 645, 646, 647, 648, 649, 650, 651, 652, 653, 654, 655, 656, 657, 658, 659, 660, 661, 662, 663, 664, 665, 666, 667, 668, 669, 670, 671, 672, 673, 674, 675, 676, 677, 678, 679, 680, 681, 682, 683, 684, 685] (by decide +kernel) (by decide +kernel)
set_option maxRecDepth 20000 in
theorem gX12_follows_X12_readsFormula : GoodIn wsX12_follows (wsV RX12 994 RX12 yX12_readsFormula wsX12_readsFormula) := goodIn_app (goodIn_of _ (by decide +kernel)) ggX12_follows_X12_readsFormula
set_option maxRecDepth 20000 in
theorem ggX12_follows_X12_told : GoodIn wsX12_follows wsX12_told := goodIn_r _ [392, 393, 394, 166, 167, 491, 492, 493, 494, 495, 496, 497, 498, 499, 500, 501, 502, 503, 504, 505, 506, 507, 508, 509, 510, 511, 512, 513, 514, 515, 516, 517, 518, 519, 520, 521, 522, 523, 524, 525, 526, 527, 528, 529, 530, 531, 532, 533, 534, 535, 536, 537, 538, 539, 540, 541, 542, 543, 544, 545, 546, 547, 548, 549, 550, 551, 552, 553, 554, 555, 556, 557, 558, 559, 560, 561, 562, 563, 564, 565, 566, 567, 568, 569, 570, 571, 572, 573, 574, 575, 576, 577, 578, 579, 580, 581, 582, 583, 584, 585, 586, 587, 588, 589, 590, 591, 592, 593, 594, 595, 596, 597, 598, 599, 600, 601, 602, 603, 604, 605, 606, 607, 608, 609, 610, 611, 612, 613, 614, 615, 616, 617, 618, 619, 620, 621, 622, 623, 624, 625, 626, 627, 628, 629, 630, 631, 632, 633, 634, 635, 636, 637, 638, 639, 640, 641, 642, 643, 644, 645, 646, 647, 648, 649, 650, 651, 652, 653, 654, 655, 656, 657, 658, 659, 660, 661, 662, 663, 664, 665, 666, 667, 668, 669, 670, 671, 672, 673, 674, 675, 676, 677, 678, 679, 680, 681, 682, 683, 684, 685] (by decide +kernel) (by decide +kernel)
set_option maxRecDepth 20000 in
theorem gX12_follows_X12_told : GoodIn wsX12_follows (wsV RX12 860 RX12 yX12_told wsX12_told) := goodIn_app (goodIn_of _ (by decide +kernel)) ggX12_follows_X12_told
theorem dX12_follows_0 : decode cX12_follows 0 = .ok (.aload_n 0, 1) := by decide +kernel
theorem dX12_follows_1 : decode cX12_follows 1 = .ok (.invokevirtual 871, 3) := by decide +kernel
theorem dX12_follows_4 : decode cX12_follows 4 = .ok (.ifCond .ne 6, 3) := by decide +kernel
theorem dX12_follows_10 : decode cX12_follows 10 = .ok (.aload_n 0, 1) := by decide +kernel
theorem dX12_follows_11 : decode cX12_follows 11 = .ok (.invokevirtual 874, 3) := by decide +kernel
theorem dX12_follows_14 : decode cX12_follows 14 = .ok (.aload_n 0, 1) := by decide +kernel
theorem dX12_follows_15 : decode cX12_follows 15 = .ok (.invokevirtual 994, 3) := by decide +kernel
theorem dX12_follows_18 : decode cX12_follows 18 = .ok (.ifCond .eq 11, 3) := by decide +kernel
theorem dX12_follows_29 : decode cX12_follows 29 = .ok (.aload_n 0, 1) := by decide +kernel
theorem dX12_follows_30 : decode cX12_follows 30 = .ok (.invokevirtual 860, 3) := by decide +kernel
theorem dX12_follows_33 : decode cX12_follows 33 = .ok (.ireturn, 1) := by decide +kernel
set_option maxHeartbeats 400000000 in
set_option maxRecDepth 100000 in
theorem c_X2_setFact_0 (l : Launch) (E : kE) (D : va_G) (cI cJ cB cZ : ClassId) (h0 : Nat) (f0 : List Value) (h1 : Nat) (g0 : Nat → Int32) (e0 : f0[5]? = some (.ref h1)) : kV l E D (kT cI cJ cB cZ) yX2_setFact wsX2_setFact ({ frames := 0, cells := 0, slots := 0, locals := 0 }) [.ref h0, .int 24, .int 9, .int 0] [(h0, .inr (2, f0)), (h1, .inl (cI, 260, .inl g0))] (fun _ : Unit => [(h0, .inr (2, f0)), (h1, .inl (cI, 260, .inl (upd g0 249 0)))]) 0 0 := by
  intro sz
  refine Met.ofW (cc := cX2_setFact) (maxL := 4) (ret := none) (by decide) rfl ?_
  intro p e s m args below meth c s₁ B hml hv
  obtain ⟨rfl, hsz, hP, hK, hD0, hN, hX⟩ := hv
  have hx := B.exec
  have hb := B.bytes
  have hr := B.returns
  have hts := atoms_spec (ws := wsX2_setFact) B.pre
  have hown : s.vm.findClass RX2 = some m.cls := findClass_of_methodNamed B.named
  have hlocks := B.notSynchronized
  have hin2 : ∀ w ∈ wsX20, w ∈ wsX2_setFact := (fun w h => (List.mem_cons_of_mem _ (List.mem_append_right _ h)))
  subst hsz
  have hD := hD0.self (sz := s.heap.size)
  have hAE := k_AE hD0 hX
  generalize hAe : va_A [(h0, .inr (2, f0)), (h1, .inl (cI, 260, .inl g0))] s.heap.size = A at hD hAE ⊢
  have hA : ∀ q : Nat, s.heap.size ≤ q → A q := fun q h => by rw [← hAe]; exact Or.inr h
  have hS : va_S A s.heap s.heap [] := va_S.rf
  have hP : va_P D vwCl [(h0, .inr (2, f0)), (h1, .inl (cI, 260, .inl g0))] s.heap := hP
  have hl := lv_entry ([.ref h0, .int 24, .int 9, .int 0] : List Value) (n := 4) (Nat.le_of_ble_eq_true rfl)
  rw [lg_entry_eq]
  generalize (lg_sl ([.ref h0, .int 24, .int 9, .int 0]) ++ List.replicate (4 - (lg_sl ([.ref h0, .int 24, .int 9, .int 0])).length) Slot.unset).toArray = ls at hl ⊢
  have hl : lv_has ls 4 [(0, .ref h0), (1, .int 24), (2, .int 9), (3, .int 0)] := hl
  refine lv_iload_n hx hb dX2_setFact_0 rfl (lv_at hl 1 rfl) ?_
  refine lv_if_lt (tgt := 32) hx hb dX2_setFact_1 (by decide) (fun c9 => absurd c9 (by decide)) (fun _ => ?_)
  refine lv_iload_n hx hb dX2_setFact_4 rfl (lv_at hl 1 rfl) ?_
  refine lv_bipush (v := 26) hx hb dX2_setFact_5 (by decide) ?_
  refine lv_icmp_ge (tgt := 32) hx hb dX2_setFact_7 (by decide) (fun c9 => absurd c9 (by decide)) (fun _ => ?_)
  refine lv_iload_n hx hb dX2_setFact_10 rfl (lv_at hl 2 rfl) ?_
  refine lv_if_lt (tgt := 32) hx hb dX2_setFact_11 (by decide) (fun c9 => absurd c9 (by decide)) (fun _ => ?_)
  refine lv_iload_n hx hb dX2_setFact_14 rfl (lv_at hl 2 rfl) ?_
  refine lv_bipush (v := 10) hx hb dX2_setFact_15 (by decide) ?_
  refine lv_icmp_ge (tgt := 32) hx hb dX2_setFact_17 (by decide) (fun c9 => absurd c9 (by decide)) (fun _ => ?_)
  refine lv_aload_n hx hb dX2_setFact_20 rfl (lv_at hl 0 rfl) ?_
  refine va_get (D := D) (ref := "IntegerHouse$House") (ci := 2) (v := .ref h1) (C := RX2) (T := TX2) (N := 16) hx hb hts hin2 hown hK hP 0 rfl rfl 5 (by decide) (hts (.fieldLink RX2 28 "IntegerHouse$House" "facts" "[I") (List.mem_cons_of_mem _ (List.mem_append_left _ (List.mem_of_getElem? (i := 0) rfl)))) (fun _ h9 => h9) e0 dX2_setFact_21 ?_
  refine lv_iload_n hx hb dX2_setFact_24 rfl (lv_at hl 1 rfl) ?_
  refine lv_bipush (v := 10) hx hb dX2_setFact_25 (by decide) ?_
  refine lv_imul hx hb dX2_setFact_27 ?_
  refine k_topi (y := 240) (by decide) ?_
  refine lv_iload_n hx hb dX2_setFact_28 rfl (lv_at hl 2 rfl) ?_
  refine lv_iadd hx hb dX2_setFact_29 ?_
  refine k_topi (y := 249) (by decide) ?_
  refine lv_iload_n hx hb dX2_setFact_30 rfl (lv_at hl 3 rfl) ?_
  refine va_iast hx hb hK hP hD hS 1 0 rfl rfl (k_in (by decide)) dX2_setFact_31 (fun H locs hP hD hS => ?_)
  have hP : va_P D vwCl [(h0, .inr (2, f0)), (h1, .inl (cI, 260, .inl (upd g0 249 0)))] H := hP
  have hD : va_D A [(h0, .inr (2, f0)), (h1, .inl (cI, 260, .inl (upd g0 249 0)))] := hD
  exact W.vret hx hb hr (fun t ht hW => ⟨⟨(), rfl, trivial, kB_mk ht hW hP hK hD⟩, hS.F ht⟩) hS.2.2 dX2_setFact_32
set_option maxHeartbeats 400000000 in
set_option maxRecDepth 100000 in
theorem c_X3_numberAt_0 (l : Launch) (E : kE) (D : va_G) (cI cJ cB cZ : ClassId) (h0 : Nat) (f0 : List Value) (e0 : f0[5]? = some (.int 0)) : kI l E D (kT cI cJ cB cZ) yX3_numberAt wsX3_numberAt ({ frames := 0, cells := 0, slots := 0, locals := 0 }) [.ref h0, .int 0] [(h0, .inr (3, f0))] (0) [(h0, .inr (3, f0))] 0 0 := by
  intro sz
  refine Met.ofW (cc := cX3_numberAt) (maxL := 2) (ret := (some .int)) (by decide) rfl ?_
  intro p e s m args below meth c s₁ B hml hv
  obtain ⟨rfl, hsz, hP, hK, hD0, hN, hX⟩ := hv
  have hx := B.exec
  have hb := B.bytes
  have hr := B.returns
  have hts := atoms_spec (ws := wsX3_numberAt) B.pre
  have hown : s.vm.findClass RX3 = some m.cls := findClass_of_methodNamed B.named
  have hlocks := B.notSynchronized
  have hin3 : ∀ w ∈ wsX30, w ∈ wsX3_numberAt := (fun w h => (List.mem_cons_of_mem _ (List.mem_append_right _ h)))
  subst hsz
  have hD := hD0.self (sz := s.heap.size)
  have hAE := k_AE hD0 hX
  generalize hAe : va_A [(h0, .inr (3, f0))] s.heap.size = A at hD hAE ⊢
  have hA : ∀ q : Nat, s.heap.size ≤ q → A q := fun q h => by rw [← hAe]; exact Or.inr h
  have hS : va_S A s.heap s.heap [] := va_S.rf
  have hP : va_P D vwCl [(h0, .inr (3, f0))] s.heap := hP
  have hl := lv_entry ([.ref h0, .int 0] : List Value) (n := 2) (Nat.le_of_ble_eq_true rfl)
  rw [lg_entry_eq]
  generalize (lg_sl ([.ref h0, .int 0]) ++ List.replicate (2 - (lg_sl ([.ref h0, .int 0])).length) Slot.unset).toArray = ls at hl ⊢
  have hl : lv_has ls 2 [(0, .ref h0), (1, .int 0)] := hl
  refine lv_iload_n hx hb dX3_numberAt_0 rfl (lv_at hl 1 rfl) ?_
  refine lv_if_lt (tgt := 24) hx hb dX3_numberAt_1 (by decide) (fun c9 => absurd c9 (by decide)) (fun _ => ?_)
  refine lv_iload_n hx hb dX3_numberAt_4 rfl (lv_at hl 1 rfl) ?_
  refine lv_aload_n hx hb dX3_numberAt_5 rfl (lv_at hl 0 rfl) ?_
  refine va_get (D := D) (ref := "IntegerHouse$Lexer") (ci := 3) (v := .int 0) (C := RX3) (T := TX3) (N := 9) hx hb hts hin3 hown hK hP 0 rfl rfl 5 (by decide) (hts (.fieldLink RX3 48 "IntegerHouse$Lexer" "size" "I") (List.mem_cons_of_mem _ (List.mem_append_left _ (List.mem_of_getElem? (i := 0) rfl)))) (fun _ h9 => h9) e0 dX3_numberAt_6 ?_
  refine lv_icmp_ge (tgt := 24) hx hb dX3_numberAt_9 (by decide) (fun _ => ?_) (fun c9 => absurd (by decide) c9)
  refine lv_iconst (v := 0) hx hb dX3_numberAt_24 (by decide) ?_
  exact W.iret (v := 0) hx hb hr (fun t ht hW => ⟨⟨0, (), rfl, rfl, kB_mk ht hW hP hK hD⟩, hS.F ht⟩) hS.2.2 dX3_numberAt_25
set_option maxHeartbeats 400000000 in
set_option maxRecDepth 100000 in
theorem c_X2_variableOf_0 (l : Launch) (E : kE) (D : va_G) (cI cJ cB cZ : ClassId) (h0 : Nat) (f0 : List Value) (e0 : f0[10]? = some (.int 0)) : kI l E D (kT cI cJ cB cZ) yX2_variableOf wsX2_variableOf ({ frames := 0, cells := 0, slots := 0, locals := 0 }) [.ref h0, .long 0] [(h0, .inr (2, f0))] ((-1)) [(h0, .inr (2, f0))] 0 0 := by
  intro sz
  refine Met.ofW (cc := cX2_variableOf) (maxL := 4) (ret := (some .int)) (by decide) rfl ?_
  intro p e s m args below meth c s₁ B hml hv
  obtain ⟨rfl, hsz, hP, hK, hD0, hN, hX⟩ := hv
  have hx := B.exec
  have hb := B.bytes
  have hr := B.returns
  have hts := atoms_spec (ws := wsX2_variableOf) B.pre
  have hown : s.vm.findClass RX2 = some m.cls := findClass_of_methodNamed B.named
  have hlocks := B.notSynchronized
  have hin2 : ∀ w ∈ wsX20, w ∈ wsX2_variableOf := (fun w h => (List.mem_cons_of_mem _ (List.mem_append_right _ h)))
  subst hsz
  have hD := hD0.self (sz := s.heap.size)
  have hAE := k_AE hD0 hX
  generalize hAe : va_A [(h0, .inr (2, f0))] s.heap.size = A at hD hAE ⊢
  have hA : ∀ q : Nat, s.heap.size ≤ q → A q := fun q h => by rw [← hAe]; exact Or.inr h
  have hS : va_S A s.heap s.heap [] := va_S.rf
  have hP : va_P D vwCl [(h0, .inr (2, f0))] s.heap := hP
  have hl := lv_entry ([.ref h0, .long 0] : List Value) (n := 4) (Nat.le_of_ble_eq_true rfl)
  rw [lg_entry_eq]
  generalize (lg_sl ([.ref h0, .long 0]) ++ List.replicate (4 - (lg_sl ([.ref h0, .long 0])).length) Slot.unset).toArray = ls at hl ⊢
  have hl : lv_has ls 4 [(0, .ref h0), (1, .long 0)] := hl
  refine lv_iconst (v := 0) hx hb dX2_variableOf_0 (by decide) ?_
  refine lv_istore_n (lv' := [(3, .int 0), (0, .ref h0), (1, .long 0)]) hx hb dX2_variableOf_1 rfl hl (by decide) rfl (fun ls hl => ?_)
  refine lv_iload_n hx hb dX2_variableOf_2 rfl (lv_at hl 0 rfl) ?_
  refine lv_aload_n hx hb dX2_variableOf_3 rfl (lv_at hl 1 rfl) ?_
  refine va_get (D := D) (ref := "IntegerHouse$House") (ci := 2) (v := .int 0) (C := RX2) (T := TX2) (N := 16) hx hb hts hin2 hown hK hP 0 rfl rfl 10 (by decide) (hts (.fieldLink RX2 52 "IntegerHouse$House" "variables" "I") (List.mem_cons_of_mem _ (List.mem_append_left _ (List.mem_of_getElem? (i := 0) rfl)))) (fun _ h9 => h9) e0 dX2_variableOf_4 ?_
  refine lv_icmp_ge (tgt := 34) hx hb dX2_variableOf_7 (by decide) (fun _ => ?_) (fun c9 => absurd (by decide) c9)
  refine lv_iconst (v := (-1)) hx hb dX2_variableOf_34 (by decide) ?_
  exact W.iret (v := (-1)) hx hb hr (fun t ht hW => ⟨⟨(-1), (), rfl, rfl, kB_mk ht hW hP hK hD⟩, hS.F ht⟩) hS.2.2 dX2_variableOf_35
set_option maxHeartbeats 400000000 in
set_option maxRecDepth 100000 in
theorem c_X8_factor_0 (l : Launch) (E : kE) (D : va_G) (cI cJ cB cZ : ClassId) (h0 : Nat) (f0 : List Value) (h1 : Nat) (h2 : Nat) (f1 : List Value) (f2 : List Value) (e0 : f0[7]? = some (.int 0)) (e1 : f0[1]? = some (.ref h1)) (e2 : f0[0]? = some (.ref h2)) (e3 : f0[6]? = some (.int 0)) (e4 : f1[5]? = some (.int 0)) (e5 : f2[10]? = some (.int 0)) (e6 : f0[3]? = some (.int 0)) (e7 : f0[8]? = some (.int 0)) (e8 : f0[4]? = some (.int 0)) : kV l E D (kT cI cJ cB cZ) yX8_factor wsX8_factor ({ frames := 1, cells := 0, slots := 0, locals := 23 }) [.ref h0] [(h0, .inr (8, f0)), (h2, .inr (3, f1)), (h1, .inr (2, f2))] (fun _ : Unit => [(h0, .inr (8, (((f0.set 3 (.int 2)).set 4 (.int 0)).set 7 (.int 44)))), (h2, .inr (3, f1)), (h1, .inr (2, f2))]) 0 0 := by
  intro sz
  refine Met.ofW (cc := cX8_factor) (maxL := 3) (ret := none) (by decide) rfl ?_
  intro p e s m args below meth c s₁ B hml hv
  obtain ⟨rfl, hsz, hP, hK, hD0, hN, hX⟩ := hv
  have hx := B.exec
  have hb := B.bytes
  have hr := B.returns
  have hts := atoms_spec (ws := wsX8_factor) B.pre
  have hown : s.vm.findClass RX8 = some m.cls := findClass_of_methodNamed B.named
  have hlocks := B.notSynchronized
  have hin8 : ∀ w ∈ wsX80, w ∈ wsX8_factor := (fun w h => (List.mem_cons_of_mem _ (List.mem_append_left _ (List.mem_append_left _ (List.mem_append_right _ h)))))
  subst hsz
  have hD := hD0.self (sz := s.heap.size)
  have hAE := k_AE hD0 hX
  generalize hAe : va_A [(h0, .inr (8, f0)), (h2, .inr (3, f1)), (h1, .inr (2, f2))] s.heap.size = A at hD hAE ⊢
  have hA : ∀ q : Nat, s.heap.size ≤ q → A q := fun q h => by rw [← hAe]; exact Or.inr h
  have hS : va_S A s.heap s.heap [] := va_S.rf
  have hP : va_P D vwCl [(h0, .inr (8, f0)), (h2, .inr (3, f1)), (h1, .inr (2, f2))] s.heap := hP
  have hl := lv_entry ([.ref h0] : List Value) (n := 3) (Nat.le_of_ble_eq_true rfl)
  rw [lg_entry_eq]
  generalize (lg_sl ([.ref h0]) ++ List.replicate (3 - (lg_sl ([.ref h0])).length) Slot.unset).toArray = ls at hl ⊢
  have hl : lv_has ls 3 [(0, .ref h0)] := hl
  refine lv_aload_n hx hb dX8_factor_0 rfl (lv_at hl 0 rfl) ?_
  refine va_get (D := D) (ref := "IntegerHouse$Reader") (ci := 8) (v := .int 0) (C := RX8) (T := TX8) (N := 15) hx hb hts hin8 hown hK hP 0 rfl rfl 7 (by decide) (hts (.fieldLink RX8 39 "IntegerHouse$Reader" "kind" "I") (List.mem_cons_of_mem _ (List.mem_append_left _ (List.mem_append_left _ (List.mem_append_left _ (List.mem_append_left _ (List.mem_of_getElem? (i := 0) rfl))))))) (fun _ h9 => h9) e0 dX8_factor_1 ?_
  refine lv_istore_n (lv' := [(1, .int 0), (0, .ref h0)]) hx hb dX8_factor_4 rfl hl (by decide) rfl (fun ls hl => ?_)
  refine lv_aload_n hx hb dX8_factor_5 rfl (lv_at hl 1 rfl) ?_
  refine va_get (D := D) (ref := "IntegerHouse$Reader") (ci := 8) (v := .ref h1) (C := RX8) (T := TX8) (N := 15) hx hb hts hin8 hown hK hP 0 rfl rfl 1 (by decide) (hts (.fieldLink RX8 15 "IntegerHouse$Reader" "house" "LIntegerHouse$House;") (List.mem_cons_of_mem _ (List.mem_append_left _ (List.mem_append_left _ (List.mem_append_left _ (List.mem_append_left _ (List.mem_of_getElem? (i := 1) rfl))))))) (fun _ h9 => h9) e1 dX8_factor_6 ?_
  refine lv_aload_n hx hb dX8_factor_9 rfl (lv_at hl 1 rfl) ?_
  refine va_get (D := D) (ref := "IntegerHouse$Reader") (ci := 8) (v := .ref h2) (C := RX8) (T := TX8) (N := 15) hx hb hts hin8 hown hK hP 0 rfl rfl 0 (by decide) (hts (.fieldLink RX8 9 "IntegerHouse$Reader" "lexer" "LIntegerHouse$Lexer;") (List.mem_cons_of_mem _ (List.mem_append_left _ (List.mem_append_left _ (List.mem_append_left _ (List.mem_append_left _ (List.mem_of_getElem? (i := 2) rfl))))))) (fun _ h9 => h9) e2 dX8_factor_10 ?_
  refine lv_aload_n hx hb dX8_factor_13 rfl (lv_at hl 1 rfl) ?_
  refine va_get (D := D) (ref := "IntegerHouse$Reader") (ci := 8) (v := .int 0) (C := RX8) (T := TX8) (N := 15) hx hb hts hin8 hown hK hP 0 rfl rfl 6 (by decide) (hts (.fieldLink RX8 79 "IntegerHouse$Reader" "at" "I") (List.mem_cons_of_mem _ (List.mem_append_left _ (List.mem_append_left _ (List.mem_append_left _ (List.mem_append_left _ (List.mem_of_getElem? (i := 3) rfl))))))) (fun _ h9 => h9) e3 dX8_factor_14 ?_
  refine k_cVl (As := [.int 0]) (rest := [.ref h1]) (wc := [(h2, .inr (3, f1))]) (wr := [(h0, .inr (8, f0)), (h1, .inr (2, f2))]) (w1 := [(h2, .inr (3, f1))]) ⟨hx, hb, hml, hown, hts⟩ hN hX hAE hK hP hD hS hA [1] [0, 2] (ci := 3) rfl rfl rfl rfl (by decide +kernel) (by decide +kernel) (by decide +kernel) (c_X3_nameAt_0 l E D cI cJ cB cZ h2 f1 e4) (cwV 1 hts gX8_factor_X3_nameAt rfl rfl rfl (by decide +kernel) ⟨Nat.le_of_ble_eq_true rfl, Nat.le_of_ble_eq_true rfl⟩) rfl hl.1 (Nat.le_of_ble_eq_true rfl) dX8_factor_17 ⟨Nat.le_of_ble_eq_true rfl, Nat.le_of_ble_eq_true rfl⟩ (fun H locs hP hD hS => ?_)
  have hP : va_P D vwCl [(h0, .inr (8, f0)), (h1, .inr (2, f2)), (h2, .inr (3, f1))] H := hP
  have hD : va_D A [(h0, .inr (8, f0)), (h1, .inr (2, f2)), (h2, .inr (3, f1))] := hD
  refine k_cVi (As := [.long 0]) (rest := []) (wc := [(h1, .inr (2, f2))]) (wr := [(h0, .inr (8, f0)), (h2, .inr (3, f1))]) (w1 := [(h1, .inr (2, f2))]) ⟨hx, hb, hml, hown, hts⟩ hN hX hAE hK hP hD hS hA [1] [0, 2] (ci := 2) rfl rfl rfl rfl (by decide +kernel) (by decide +kernel) (by decide +kernel) (c_X2_variableOf_0 l E D cI cJ cB cZ h1 f2 e5) (cwV 1 hts gX8_factor_X2_variableOf rfl rfl rfl (by decide +kernel) ⟨Nat.le_of_ble_eq_true rfl, Nat.le_of_ble_eq_true rfl⟩) rfl hl.1 (Nat.le_of_ble_eq_true rfl) dX8_factor_20 ⟨Nat.le_of_ble_eq_true rfl, Nat.le_of_ble_eq_true rfl⟩ (fun H locs hP hD hS => ?_)
  have hP : va_P D vwCl [(h0, .inr (8, f0)), (h2, .inr (3, f1)), (h1, .inr (2, f2))] H := hP
  have hD : va_D A [(h0, .inr (8, f0)), (h2, .inr (3, f1)), (h1, .inr (2, f2))] := hD
  refine lv_istore_n (lv' := [(2, .int (-1)), (1, .int 0), (0, .ref h0)]) hx hb dX8_factor_23 rfl hl (by decide) rfl (fun ls hl => ?_)
  refine lv_iload_n hx hb dX8_factor_24 rfl (lv_at hl 1 rfl) ?_
  refine lv_iconst (v := 1) hx hb dX8_factor_25 (by decide) ?_
  refine lv_icmp_ne (tgt := 60) hx hb dX8_factor_26 (by decide) (fun _ => ?_) (fun c9 => absurd c9 (by decide))
  refine lv_iload_n hx hb dX8_factor_60 rfl (lv_at hl 1 rfl) ?_
  refine lv_iconst (v := 1) hx hb dX8_factor_61 (by decide) ?_
  refine lv_icmp_ne (tgt := 99) hx hb dX8_factor_62 (by decide) (fun _ => ?_) (fun c9 => absurd c9 (by decide))
  refine lv_iload_n hx hb dX8_factor_99 rfl (lv_at hl 1 rfl) ?_
  refine lv_bipush (v := 6) hx hb dX8_factor_100 (by decide) ?_
  refine lv_icmp_ne (tgt := 114) hx hb dX8_factor_102 (by decide) (fun _ => ?_) (fun c9 => absurd c9 (by decide))
  refine lv_iload_n hx hb dX8_factor_114 rfl (lv_at hl 1 rfl) ?_
  refine lv_bipush (v := 28) hx hb dX8_factor_115 (by decide) ?_
  refine lv_icmp_lt (tgt := 149) hx hb dX8_factor_117 (by decide) (fun _ => ?_) (fun c9 => absurd (by decide) c9)
  refine lv_aload_n hx hb dX8_factor_149 rfl (lv_at hl 2 rfl) ?_
  refine lv_iconst (v := 2) hx hb dX8_factor_150 (by decide) ?_
  refine k_cVv (As := [.int 2]) (rest := []) (wc := [(h0, .inr (8, f0))]) (wr := [(h2, .inr (3, f1)), (h1, .inr (2, f2))]) (w1 := (fun _ : Unit => [(h0, .inr (8, (((f0.set 3 (.int 2)).set 4 (.int 0)).set 7 (.int 44))))])) ⟨hx, hb, hml, hown, hts⟩ hN hX hAE hK hP hD hS hA [0] [1, 2] (ci := 8) rfl rfl rfl rfl (by decide +kernel) (by decide +kernel) (by decide +kernel) (c_X8_fail_0 l E D cI cJ cB cZ h0 f0 e6 e0 e7 e8) (cwV 1 hts gX8_factor_X8_fail rfl rfl rfl (by decide +kernel) ⟨Nat.le_of_ble_eq_true rfl, Nat.le_of_ble_eq_true rfl⟩) rfl hl.1 (Nat.le_of_ble_eq_true rfl) dX8_factor_151 ⟨Nat.le_of_ble_eq_true rfl, Nat.le_of_ble_eq_true rfl⟩ (fun _ H locs hP hD hS => ?_)
  have hP : va_P D vwCl [(h2, .inr (3, f1)), (h1, .inr (2, f2)), (h0, .inr (8, (((f0.set 3 (.int 2)).set 4 (.int 0)).set 7 (.int 44))))] H := hP
  have hD : va_D A [(h2, .inr (3, f1)), (h1, .inr (2, f2)), (h0, .inr (8, (((f0.set 3 (.int 2)).set 4 (.int 0)).set 7 (.int 44))))] := hD
  have hP := hP.sub (ws' := [(h0, .inr (8, (((f0.set 3 (.int 2)).set 4 (.int 0)).set 7 (.int 44)))), (h2, .inr (3, f1)), (h1, .inr (2, f2))]) [2, 0, 1] rfl
  have hD := hD.sub (ws' := [(h0, .inr (8, (((f0.set 3 (.int 2)).set 4 (.int 0)).set 7 (.int 44)))), (h2, .inr (3, f1)), (h1, .inr (2, f2))]) [2, 0, 1] (by decide +kernel) rfl
  exact W.vret hx hb hr (fun t ht hW => ⟨⟨(), rfl, trivial, kB_mk ht hW hP hK hD⟩, hS.F ht⟩) hS.2.2 dX8_factor_154
set_option maxHeartbeats 400000000 in
set_option maxRecDepth 100000 in
theorem c_X2_setStep_0 (l : Launch) (E : kE) (D : va_G) (cI cJ cB cZ : ClassId) (h0 : Nat) (f0 : List Value) (h1 : Nat) (g0 : Nat → Int32) (e0 : f0[3]? = some (.ref h1)) : kV l E D (kT cI cJ cB cZ) yX2_setStep wsX2_setStep ({ frames := 0, cells := 0, slots := 0, locals := 0 }) [.ref h0, .int 24, .int 0, .int 43] [(h0, .inr (2, f0)), (h1, .inl (cI, 13312, .inl g0))] (fun _ : Unit => [(h0, .inr (2, f0)), (h1, .inl (cI, 13312, .inl (upd g0 12288 43)))]) 0 0 := by
  intro sz
  refine Met.ofW (cc := cX2_setStep) (maxL := 4) (ret := none) (by decide) rfl ?_
  intro p e s m args below meth c s₁ B hml hv
  obtain ⟨rfl, hsz, hP, hK, hD0, hN, hX⟩ := hv
  have hx := B.exec
  have hb := B.bytes
  have hr := B.returns
  have hts := atoms_spec (ws := wsX2_setStep) B.pre
  have hown : s.vm.findClass RX2 = some m.cls := findClass_of_methodNamed B.named
  have hlocks := B.notSynchronized
  have hin2 : ∀ w ∈ wsX20, w ∈ wsX2_setStep := (fun w h => (List.mem_cons_of_mem _ (List.mem_append_right _ h)))
  subst hsz
  have hD := hD0.self (sz := s.heap.size)
  have hAE := k_AE hD0 hX
  generalize hAe : va_A [(h0, .inr (2, f0)), (h1, .inl (cI, 13312, .inl g0))] s.heap.size = A at hD hAE ⊢
  have hA : ∀ q : Nat, s.heap.size ≤ q → A q := fun q h => by rw [← hAe]; exact Or.inr h
  have hS : va_S A s.heap s.heap [] := va_S.rf
  have hP : va_P D vwCl [(h0, .inr (2, f0)), (h1, .inl (cI, 13312, .inl g0))] s.heap := hP
  have hl := lv_entry ([.ref h0, .int 24, .int 0, .int 43] : List Value) (n := 4) (Nat.le_of_ble_eq_true rfl)
  rw [lg_entry_eq]
  generalize (lg_sl ([.ref h0, .int 24, .int 0, .int 43]) ++ List.replicate (4 - (lg_sl ([.ref h0, .int 24, .int 0, .int 43])).length) Slot.unset).toArray = ls at hl ⊢
  have hl : lv_has ls 4 [(0, .ref h0), (1, .int 24), (2, .int 0), (3, .int 43)] := hl
  refine lv_iload_n hx hb dX2_setStep_0 rfl (lv_at hl 1 rfl) ?_
  refine lv_if_lt (tgt := 34) hx hb dX2_setStep_1 (by decide) (fun c9 => absurd c9 (by decide)) (fun _ => ?_)
  refine lv_iload_n hx hb dX2_setStep_4 rfl (lv_at hl 1 rfl) ?_
  refine lv_bipush (v := 26) hx hb dX2_setStep_5 (by decide) ?_
  refine lv_icmp_ge (tgt := 34) hx hb dX2_setStep_7 (by decide) (fun c9 => absurd c9 (by decide)) (fun _ => ?_)
  refine lv_iload_n hx hb dX2_setStep_10 rfl (lv_at hl 2 rfl) ?_
  refine lv_if_lt (tgt := 34) hx hb dX2_setStep_11 (by decide) (fun c9 => absurd c9 (by decide)) (fun _ => ?_)
  refine lv_iload_n hx hb dX2_setStep_14 rfl (lv_at hl 2 rfl) ?_
  refine lv_sipush (v := 512) hx hb dX2_setStep_15 (by decide) ?_
  refine lv_icmp_ge (tgt := 34) hx hb dX2_setStep_18 (by decide) (fun c9 => absurd c9 (by decide)) (fun _ => ?_)
  refine lv_aload_n hx hb dX2_setStep_21 rfl (lv_at hl 0 rfl) ?_
  refine va_get (D := D) (ref := "IntegerHouse$House") (ci := 2) (v := .ref h1) (C := RX2) (T := TX2) (N := 16) hx hb hts hin2 hown hK hP 0 rfl rfl 3 (by decide) (hts (.fieldLink RX2 22 "IntegerHouse$House" "steps" "[I") (List.mem_cons_of_mem _ (List.mem_append_left _ (List.mem_of_getElem? (i := 0) rfl)))) (fun _ h9 => h9) e0 dX2_setStep_22 ?_
  refine lv_iload_n hx hb dX2_setStep_25 rfl (lv_at hl 1 rfl) ?_
  refine lv_sipush (v := 512) hx hb dX2_setStep_26 (by decide) ?_
  refine lv_imul hx hb dX2_setStep_29 ?_
  refine k_topi (y := 12288) (by decide) ?_
  refine lv_iload_n hx hb dX2_setStep_30 rfl (lv_at hl 2 rfl) ?_
  refine lv_iadd hx hb dX2_setStep_31 ?_
  refine k_topi (y := 12288) (by decide) ?_
  refine lv_iload_n hx hb dX2_setStep_32 rfl (lv_at hl 3 rfl) ?_
  refine va_iast hx hb hK hP hD hS 1 0 rfl rfl (k_in (by decide)) dX2_setStep_33 (fun H locs hP hD hS => ?_)
  have hP : va_P D vwCl [(h0, .inr (2, f0)), (h1, .inl (cI, 13312, .inl (upd g0 12288 43)))] H := hP
  have hD : va_D A [(h0, .inr (2, f0)), (h1, .inl (cI, 13312, .inl (upd g0 12288 43)))] := hD
  exact W.vret hx hb hr (fun t ht hW => ⟨⟨(), rfl, trivial, kB_mk ht hW hP hK hD⟩, hS.F ht⟩) hS.2.2 dX2_setStep_34
set_option maxHeartbeats 400000000 in
set_option maxRecDepth 100000 in
theorem c_X8_step_0 (l : Launch) (E : kE) (D : va_G) (cI cJ cB cZ : ClassId) (h0 : Nat) (f0 : List Value) (h1 : Nat) (f1 : List Value) (h2 : Nat) (g0 : Nat → Int32) (e0 : f0[1]? = some (.ref h1)) (e1 : f0[11]? = some (.int 24)) (e2 : f0[13]? = some (.int 0)) (e3 : f1[3]? = some (.ref h2)) : kV l E D (kT cI cJ cB cZ) yX8_step wsX8_step ({ frames := 1, cells := 0, slots := 0, locals := 23 }) [.ref h0, .int 43] [(h0, .inr (8, f0)), (h1, .inr (2, f1)), (h2, .inl (cI, 13312, .inl g0))] (fun _ : Unit => [(h0, .inr (8, (f0.set 13 (.int 1)))), (h1, .inr (2, f1)), (h2, .inl (cI, 13312, .inl (upd g0 12288 43)))]) 0 0 := by
  intro sz
  refine Met.ofW (cc := cX8_step) (maxL := 2) (ret := none) (by decide) rfl ?_
  intro p e s m args below meth c s₁ B hml hv
  obtain ⟨rfl, hsz, hP, hK, hD0, hN, hX⟩ := hv
  have hx := B.exec
  have hb := B.bytes
  have hr := B.returns
  have hts := atoms_spec (ws := wsX8_step) B.pre
  have hown : s.vm.findClass RX8 = some m.cls := findClass_of_methodNamed B.named
  have hlocks := B.notSynchronized
  have hin8 : ∀ w ∈ wsX80, w ∈ wsX8_step := (fun w h => (List.mem_cons_of_mem _ (List.mem_append_left _ (List.mem_append_right _ h))))
  subst hsz
  have hD := hD0.self (sz := s.heap.size)
  have hAE := k_AE hD0 hX
  generalize hAe : va_A [(h0, .inr (8, f0)), (h1, .inr (2, f1)), (h2, .inl (cI, 13312, .inl g0))] s.heap.size = A at hD hAE ⊢
  have hA : ∀ q : Nat, s.heap.size ≤ q → A q := fun q h => by rw [← hAe]; exact Or.inr h
  have hS : va_S A s.heap s.heap [] := va_S.rf
  have hP : va_P D vwCl [(h0, .inr (8, f0)), (h1, .inr (2, f1)), (h2, .inl (cI, 13312, .inl g0))] s.heap := hP
  have hl := lv_entry ([.ref h0, .int 43] : List Value) (n := 2) (Nat.le_of_ble_eq_true rfl)
  rw [lg_entry_eq]
  generalize (lg_sl ([.ref h0, .int 43]) ++ List.replicate (2 - (lg_sl ([.ref h0, .int 43])).length) Slot.unset).toArray = ls at hl ⊢
  have hl : lv_has ls 2 [(0, .ref h0), (1, .int 43)] := hl
  refine lv_aload_n hx hb dX8_step_0 rfl (lv_at hl 0 rfl) ?_
  refine va_get (D := D) (ref := "IntegerHouse$Reader") (ci := 8) (v := .ref h1) (C := RX8) (T := TX8) (N := 15) hx hb hts hin8 hown hK hP 0 rfl rfl 1 (by decide) (hts (.fieldLink RX8 15 "IntegerHouse$Reader" "house" "LIntegerHouse$House;") (List.mem_cons_of_mem _ (List.mem_append_left _ (List.mem_append_left _ (List.mem_of_getElem? (i := 0) rfl))))) (fun _ h9 => h9) e0 dX8_step_1 ?_
  refine lv_aload_n hx hb dX8_step_4 rfl (lv_at hl 0 rfl) ?_
  refine va_get (D := D) (ref := "IntegerHouse$Reader") (ci := 8) (v := .int 24) (C := RX8) (T := TX8) (N := 15) hx hb hts hin8 hown hK hP 0 rfl rfl 11 (by decide) (hts (.fieldLink RX8 164 "IntegerHouse$Reader" "slot" "I") (List.mem_cons_of_mem _ (List.mem_append_left _ (List.mem_append_left _ (List.mem_of_getElem? (i := 1) rfl))))) (fun _ h9 => h9) e1 dX8_step_5 ?_
  refine lv_aload_n hx hb dX8_step_8 rfl (lv_at hl 0 rfl) ?_
  refine va_get (D := D) (ref := "IntegerHouse$Reader") (ci := 8) (v := .int 0) (C := RX8) (T := TX8) (N := 15) hx hb hts hin8 hown hK hP 0 rfl rfl 13 (by decide) (hts (.fieldLink RX8 170 "IntegerHouse$Reader" "steps" "I") (List.mem_cons_of_mem _ (List.mem_append_left _ (List.mem_append_left _ (List.mem_of_getElem? (i := 2) rfl))))) (fun _ h9 => h9) e2 dX8_step_9 ?_
  refine lv_iload_n hx hb dX8_step_12 rfl (lv_at hl 1 rfl) ?_
  refine k_cVv (As := [.int 24, .int 0, .int 43]) (rest := []) (wc := [(h1, .inr (2, f1)), (h2, .inl (cI, 13312, .inl g0))]) (wr := [(h0, .inr (8, f0))]) (w1 := (fun _ : Unit => [(h1, .inr (2, f1)), (h2, .inl (cI, 13312, .inl (upd g0 12288 43)))])) ⟨hx, hb, hml, hown, hts⟩ hN hX hAE hK hP hD hS hA [1, 2] [0] (ci := 2) rfl rfl rfl rfl (by decide +kernel) (by decide +kernel) (by decide +kernel) (c_X2_setStep_0 l E D cI cJ cB cZ h1 f1 h2 g0 e3) (cwV 3 hts gX8_step_X2_setStep rfl rfl rfl (by decide +kernel) ⟨Nat.le_of_ble_eq_true rfl, Nat.le_of_ble_eq_true rfl⟩) rfl hl.1 (Nat.le_of_ble_eq_true rfl) dX8_step_13 ⟨Nat.le_of_ble_eq_true rfl, Nat.le_of_ble_eq_true rfl⟩ (fun _ H locs hP hD hS => ?_)
  have hP : va_P D vwCl [(h0, .inr (8, f0)), (h1, .inr (2, f1)), (h2, .inl (cI, 13312, .inl (upd g0 12288 43)))] H := hP
  have hD : va_D A [(h0, .inr (8, f0)), (h1, .inr (2, f1)), (h2, .inl (cI, 13312, .inl (upd g0 12288 43)))] := hD
  refine lv_aload_n hx hb dX8_step_16 rfl (lv_at hl 0 rfl) ?_
  refine lv_dup hx hb dX8_step_17 rfl ?_
  refine va_get (D := D) (ref := "IntegerHouse$Reader") (ci := 8) (v := .int 0) (C := RX8) (T := TX8) (N := 15) hx hb hts hin8 hown hK hP 0 rfl rfl 13 (by decide) (hts (.fieldLink RX8 170 "IntegerHouse$Reader" "steps" "I") (List.mem_cons_of_mem _ (List.mem_append_left _ (List.mem_append_left _ (List.mem_of_getElem? (i := 2) rfl))))) (fun _ h9 => h9) e2 dX8_step_18 ?_
  refine lv_iconst (v := 1) hx hb dX8_step_21 (by decide) ?_
  refine lv_iadd hx hb dX8_step_22 ?_
  refine k_topi (y := 1) (by decide) ?_
  refine va_put (D := D) (ref := "IntegerHouse$Reader") (ci := 8) (v := .int 1) (ty := .int) (C := RX8) (T := TX8) (N := 15) hx hb hts hin8 tyX8 tyX8_ok nmX8 hown hK hP hD hS 0 rfl rfl 13 (by decide) (hts (.fieldLink RX8 170 "IntegerHouse$Reader" "steps" "I") (List.mem_cons_of_mem _ (List.mem_append_left _ (List.mem_append_left _ (List.mem_of_getElem? (i := 2) rfl))))) (fun _ h9 => h9) rfl (by decide +kernel) rfl rfl (k_len e2) dX8_step_23 (fun H locs hP hD hS => ?_)
  have hP : va_P D vwCl [(h0, .inr (8, (f0.set 13 (.int 1)))), (h1, .inr (2, f1)), (h2, .inl (cI, 13312, .inl (upd g0 12288 43)))] H := hP
  have hD : va_D A [(h0, .inr (8, (f0.set 13 (.int 1)))), (h1, .inr (2, f1)), (h2, .inl (cI, 13312, .inl (upd g0 12288 43)))] := hD
  exact W.vret hx hb hr (fun t ht hW => ⟨⟨(), rfl, trivial, kB_mk ht hW hP hK hD⟩, hS.F ht⟩) hS.2.2 dX8_step_26
set_option maxHeartbeats 400000000 in
set_option maxRecDepth 100000 in
theorem c_X8_part_0 (l : Launch) (E : kE) (D : va_G) (cI cJ cB cZ : ClassId) (h0 : Nat) (f0 : List Value) (h1 : Nat) (f1 : List Value) (h2 : Nat) (f2 : List Value) (h3 : Nat) (g0 : Nat → Int32) (e0 : f0[0]? = some (.ref h1)) (e1 : f0[6]? = some (.int 0)) (e2 : f1[5]? = some (.int 0)) (e3 : f0[7]? = some (.int 0)) (e4 : f0[1]? = some (.ref h2)) (e5 : f2[10]? = some (.int 0)) (e6 : f0[3]? = some (.int 0)) (e7 : f0[8]? = some (.int 0)) (e8 : f0[4]? = some (.int 0)) (e9 : f0[11]? = some (.int 24)) (e10 : f0[13]? = some (.int 0)) (e11 : f2[3]? = some (.ref h3)) : kV l E D (kT cI cJ cB cZ) yX8_part wsX8_part ({ frames := 2, cells := 0, slots := 0, locals := 45 }) [.ref h0, .int 0] [(h0, .inr (8, f0)), (h1, .inr (3, f1)), (h2, .inr (2, f2)), (h3, .inl (cI, 13312, .inl g0))] (fun _ : Unit => [(h0, .inr (8, ((((f0.set 3 (.int 2)).set 4 (.int 0)).set 7 (.int 44)).set 13 (.int 1)))), (h1, .inr (3, f1)), (h2, .inr (2, f2)), (h3, .inl (cI, 13312, .inl (upd g0 12288 43)))]) 0 0 := by
  intro sz
  refine Met.ofW (cc := cX8_part) (maxL := 5) (ret := none) (by decide) rfl ?_
  intro p e s m args below meth c s₁ B hml hv
  obtain ⟨rfl, hsz, hP, hK, hD0, hN, hX⟩ := hv
  have hx := B.exec
  have hb := B.bytes
  have hr := B.returns
  have hts := atoms_spec (ws := wsX8_part) B.pre
  have hown : s.vm.findClass RX8 = some m.cls := findClass_of_methodNamed B.named
  have hlocks := B.notSynchronized
  have hin8 : ∀ w ∈ wsX80, w ∈ wsX8_part := (fun w h => (List.mem_cons_of_mem _ (List.mem_append_left _ (List.mem_append_left _ (List.mem_append_right _ h)))))
  subst hsz
  have hD := hD0.self (sz := s.heap.size)
  have hAE := k_AE hD0 hX
  generalize hAe : va_A [(h0, .inr (8, f0)), (h1, .inr (3, f1)), (h2, .inr (2, f2)), (h3, .inl (cI, 13312, .inl g0))] s.heap.size = A at hD hAE ⊢
  have hA : ∀ q : Nat, s.heap.size ≤ q → A q := fun q h => by rw [← hAe]; exact Or.inr h
  have hS : va_S A s.heap s.heap [] := va_S.rf
  have hP : va_P D vwCl [(h0, .inr (8, f0)), (h1, .inr (3, f1)), (h2, .inr (2, f2)), (h3, .inl (cI, 13312, .inl g0))] s.heap := hP
  have hl := lv_entry ([.ref h0, .int 0] : List Value) (n := 5) (Nat.le_of_ble_eq_true rfl)
  rw [lg_entry_eq]
  generalize (lg_sl ([.ref h0, .int 0]) ++ List.replicate (5 - (lg_sl ([.ref h0, .int 0])).length) Slot.unset).toArray = ls at hl ⊢
  have hl : lv_has ls 5 [(0, .ref h0), (1, .int 0)] := hl
  refine lv_aload_n hx hb dX8_part_0 rfl (lv_at hl 0 rfl) ?_
  refine va_get (D := D) (ref := "IntegerHouse$Reader") (ci := 8) (v := .ref h1) (C := RX8) (T := TX8) (N := 15) hx hb hts hin8 hown hK hP 0 rfl rfl 0 (by decide) (hts (.fieldLink RX8 9 "IntegerHouse$Reader" "lexer" "LIntegerHouse$Lexer;") (List.mem_cons_of_mem _ (List.mem_append_left _ (List.mem_append_left _ (List.mem_append_left _ (List.mem_append_left _ (List.mem_of_getElem? (i := 0) rfl))))))) (fun _ h9 => h9) e0 dX8_part_1 ?_
  refine lv_aload_n hx hb dX8_part_4 rfl (lv_at hl 0 rfl) ?_
  refine va_get (D := D) (ref := "IntegerHouse$Reader") (ci := 8) (v := .int 0) (C := RX8) (T := TX8) (N := 15) hx hb hts hin8 hown hK hP 0 rfl rfl 6 (by decide) (hts (.fieldLink RX8 79 "IntegerHouse$Reader" "at" "I") (List.mem_cons_of_mem _ (List.mem_append_left _ (List.mem_append_left _ (List.mem_append_left _ (List.mem_append_left _ (List.mem_of_getElem? (i := 1) rfl))))))) (fun _ h9 => h9) e1 dX8_part_5 ?_
  refine k_cVi (As := [.int 0]) (rest := []) (wc := [(h1, .inr (3, f1))]) (wr := [(h0, .inr (8, f0)), (h2, .inr (2, f2)), (h3, .inl (cI, 13312, .inl g0))]) (w1 := [(h1, .inr (3, f1))]) ⟨hx, hb, hml, hown, hts⟩ hN hX hAE hK hP hD hS hA [1] [0, 2, 3] (ci := 3) rfl rfl rfl rfl (by decide +kernel) (by decide +kernel) (by decide +kernel) (c_X3_numberAt_0 l E D cI cJ cB cZ h1 f1 e2) (cwV 1 hts gX8_part_X3_numberAt rfl rfl rfl (by decide +kernel) ⟨Nat.le_of_ble_eq_true rfl, Nat.le_of_ble_eq_true rfl⟩) rfl hl.1 (Nat.le_of_ble_eq_true rfl) dX8_part_8 ⟨Nat.le_of_ble_eq_true rfl, Nat.le_of_ble_eq_true rfl⟩ (fun H locs hP hD hS => ?_)
  have hP : va_P D vwCl [(h0, .inr (8, f0)), (h2, .inr (2, f2)), (h3, .inl (cI, 13312, .inl g0)), (h1, .inr (3, f1))] H := hP
  have hD : va_D A [(h0, .inr (8, f0)), (h2, .inr (2, f2)), (h3, .inl (cI, 13312, .inl g0)), (h1, .inr (3, f1))] := hD
  refine lv_istore_n (lv' := [(2, .int 0), (0, .ref h0), (1, .int 0)]) hx hb dX8_part_11 rfl hl (by decide) rfl (fun ls hl => ?_)
  refine lv_aload_n hx hb dX8_part_12 rfl (lv_at hl 1 rfl) ?_
  refine va_get (D := D) (ref := "IntegerHouse$Reader") (ci := 8) (v := .int 0) (C := RX8) (T := TX8) (N := 15) hx hb hts hin8 hown hK hP 0 rfl rfl 7 (by decide) (hts (.fieldLink RX8 39 "IntegerHouse$Reader" "kind" "I") (List.mem_cons_of_mem _ (List.mem_append_left _ (List.mem_append_left _ (List.mem_append_left _ (List.mem_append_left _ (List.mem_of_getElem? (i := 2) rfl))))))) (fun _ h9 => h9) e3 dX8_part_13 ?_
  refine lv_iconst (v := 2) hx hb dX8_part_16 (by decide) ?_
  refine lv_icmp_ne (tgt := 24) hx hb dX8_part_17 (by decide) (fun _ => ?_) (fun c9 => absurd c9 (by decide))
  refine lv_iconst (v := 0) hx hb dX8_part_24 (by decide) ?_
  refine lv_istore_n (lv' := [(3, .int 0), (2, .int 0), (0, .ref h0), (1, .int 0)]) hx hb dX8_part_25 rfl hl (by decide) rfl (fun ls hl => ?_)
  refine lv_iload_n hx hb dX8_part_26 rfl (lv_at hl 0 rfl) ?_
  refine lv_if_eq (tgt := 51) hx hb dX8_part_27 (by decide) (fun _ => ?_) (fun c9 => absurd (by decide) c9)
  refine lv_iload_n hx hb dX8_part_51 rfl (lv_at hl 0 rfl) ?_
  refine lv_if_eq (tgt := 68) hx hb dX8_part_52 (by decide) (fun _ => ?_) (fun c9 => absurd (by decide) c9)
  refine lv_iconst (v := 0) hx hb dX8_part_68 (by decide) ?_
  refine lv_istore (lv' := [(4, .int 0), (3, .int 0), (2, .int 0), (0, .ref h0), (1, .int 0)]) hx hb dX8_part_69 hl (by decide) rfl (fun ls hl => ?_)
  refine lv_iload hx hb dX8_part_71 (lv_at hl 0 rfl) ?_
  refine lv_if_eq (tgt := 84) hx hb dX8_part_73 (by decide) (fun _ => ?_) (fun c9 => absurd (by decide) c9)
  refine lv_iload hx hb dX8_part_84 (lv_at hl 0 rfl) ?_
  refine lv_if_ne (tgt := 93) hx hb dX8_part_86 (by decide) (fun c9 => absurd (by decide) c9) (fun _ => ?_)
  refine lv_iload_n hx hb dX8_part_89 rfl (lv_at hl 1 rfl) ?_
  refine lv_if_ne (tgt := 97) hx hb dX8_part_90 (by decide) (fun c9 => absurd (by decide) c9) (fun _ => ?_)
  refine lv_aload_n hx hb dX8_part_93 rfl (lv_at hl 3 rfl) ?_
  refine k_cVv (As := []) (rest := []) (wc := [(h0, .inr (8, f0)), (h1, .inr (3, f1)), (h2, .inr (2, f2))]) (wr := [(h3, .inl (cI, 13312, .inl g0))]) (w1 := (fun _ : Unit => [(h0, .inr (8, (((f0.set 3 (.int 2)).set 4 (.int 0)).set 7 (.int 44)))), (h1, .inr (3, f1)), (h2, .inr (2, f2))])) ⟨hx, hb, hml, hown, hts⟩ hN hX hAE hK hP hD hS hA [0, 3, 1] [2] (ci := 8) rfl rfl rfl rfl (by decide +kernel) (by decide +kernel) (by decide +kernel) (c_X8_factor_0 l E D cI cJ cB cZ h0 f0 h2 h1 f1 f2 e3 e4 e0 e1 e2 e5 e6 e7 e8) (cwV 0 hts gX8_part_X8_factor rfl rfl rfl (by decide +kernel) ⟨Nat.le_of_ble_eq_true rfl, Nat.le_of_ble_eq_true rfl⟩) rfl hl.1 (Nat.le_of_ble_eq_true rfl) dX8_part_94 ⟨Nat.le_of_ble_eq_true rfl, Nat.le_of_ble_eq_true rfl⟩ (fun _ H locs hP hD hS => ?_)
  have hP : va_P D vwCl [(h3, .inl (cI, 13312, .inl g0)), (h0, .inr (8, (((f0.set 3 (.int 2)).set 4 (.int 0)).set 7 (.int 44)))), (h1, .inr (3, f1)), (h2, .inr (2, f2))] H := hP
  have hD : va_D A [(h3, .inl (cI, 13312, .inl g0)), (h0, .inr (8, (((f0.set 3 (.int 2)).set 4 (.int 0)).set 7 (.int 44)))), (h1, .inr (3, f1)), (h2, .inr (2, f2))] := hD
  refine lv_iload_n hx hb dX8_part_97 rfl (lv_at hl 1 rfl) ?_
  refine lv_if_eq (tgt := 121) hx hb dX8_part_98 (by decide) (fun _ => ?_) (fun c9 => absurd (by decide) c9)
  refine lv_iload_n hx hb dX8_part_121 rfl (lv_at hl 4 rfl) ?_
  refine lv_if_eq (tgt := 131) hx hb dX8_part_122 (by decide) (fun _ => ?_) (fun c9 => absurd (by decide) c9)
  refine lv_aload_n hx hb dX8_part_131 rfl (lv_at hl 3 rfl) ?_
  refine lv_bipush (v := 43) hx hb dX8_part_132 (by decide) ?_
  refine k_cVv (As := [.int 43]) (rest := []) (wc := [(h0, .inr (8, (((f0.set 3 (.int 2)).set 4 (.int 0)).set 7 (.int 44)))), (h2, .inr (2, f2)), (h3, .inl (cI, 13312, .inl g0))]) (wr := [(h1, .inr (3, f1))]) (w1 := (fun _ : Unit => [(h0, .inr (8, ((((f0.set 3 (.int 2)).set 4 (.int 0)).set 7 (.int 44)).set 13 (.int 1)))), (h2, .inr (2, f2)), (h3, .inl (cI, 13312, .inl (upd g0 12288 43)))])) ⟨hx, hb, hml, hown, hts⟩ hN hX hAE hK hP hD hS hA [1, 3, 0] [2] (ci := 8) rfl rfl rfl rfl (by decide +kernel) (by decide +kernel) (by decide +kernel) (c_X8_step_0 l E D cI cJ cB cZ h0 ((((f0.set 3 (.int 2)).set 4 (.int 0)).set 7 (.int 44))) h2 f2 h3 g0 (k_ne (by decide) (k_ne (by decide) (k_ne (by decide) e4))) (k_ne (by decide) (k_ne (by decide) (k_ne (by decide) e9))) (k_ne (by decide) (k_ne (by decide) (k_ne (by decide) e10))) e11) (cwV 1 hts gX8_part_X8_step rfl rfl rfl (by decide +kernel) ⟨Nat.le_of_ble_eq_true rfl, Nat.le_of_ble_eq_true rfl⟩) rfl hl.1 (Nat.le_of_ble_eq_true rfl) dX8_part_134 ⟨Nat.le_of_ble_eq_true rfl, Nat.le_of_ble_eq_true rfl⟩ (fun _ H locs hP hD hS => ?_)
  have hP : va_P D vwCl [(h1, .inr (3, f1)), (h0, .inr (8, ((((f0.set 3 (.int 2)).set 4 (.int 0)).set 7 (.int 44)).set 13 (.int 1)))), (h2, .inr (2, f2)), (h3, .inl (cI, 13312, .inl (upd g0 12288 43)))] H := hP
  have hD : va_D A [(h1, .inr (3, f1)), (h0, .inr (8, ((((f0.set 3 (.int 2)).set 4 (.int 0)).set 7 (.int 44)).set 13 (.int 1)))), (h2, .inr (2, f2)), (h3, .inl (cI, 13312, .inl (upd g0 12288 43)))] := hD
  have hP := hP.sub (ws' := [(h0, .inr (8, ((((f0.set 3 (.int 2)).set 4 (.int 0)).set 7 (.int 44)).set 13 (.int 1)))), (h1, .inr (3, f1)), (h2, .inr (2, f2)), (h3, .inl (cI, 13312, .inl (upd g0 12288 43)))]) [1, 0, 2, 3] rfl
  have hD := hD.sub (ws' := [(h0, .inr (8, ((((f0.set 3 (.int 2)).set 4 (.int 0)).set 7 (.int 44)).set 13 (.int 1)))), (h1, .inr (3, f1)), (h2, .inr (2, f2)), (h3, .inl (cI, 13312, .inl (upd g0 12288 43)))]) [1, 0, 2, 3] (by decide +kernel) rfl
  exact W.vret hx hb hr (fun t ht hW => ⟨⟨(), rfl, trivial, kB_mk ht hW hP hK hD⟩, hS.F ht⟩) hS.2.2 dX8_part_137
set_option maxHeartbeats 400000000 in
set_option maxRecDepth 100000 in
theorem c_X2_setStep_1 (l : Launch) (E : kE) (D : va_G) (cI cJ cB cZ : ClassId) (h0 : Nat) (f0 : List Value) (h1 : Nat) (g0 : Nat → Int32) (e0 : f0[3]? = some (.ref h1)) : kV l E D (kT cI cJ cB cZ) yX2_setStep wsX2_setStep ({ frames := 0, cells := 0, slots := 0, locals := 0 }) [.ref h0, .int 24, .int 1, .int 43] [(h0, .inr (2, f0)), (h1, .inl (cI, 13312, .inl g0))] (fun _ : Unit => [(h0, .inr (2, f0)), (h1, .inl (cI, 13312, .inl (upd g0 12289 43)))]) 0 0 := by
  intro sz
  refine Met.ofW (cc := cX2_setStep) (maxL := 4) (ret := none) (by decide) rfl ?_
  intro p e s m args below meth c s₁ B hml hv
  obtain ⟨rfl, hsz, hP, hK, hD0, hN, hX⟩ := hv
  have hx := B.exec
  have hb := B.bytes
  have hr := B.returns
  have hts := atoms_spec (ws := wsX2_setStep) B.pre
  have hown : s.vm.findClass RX2 = some m.cls := findClass_of_methodNamed B.named
  have hlocks := B.notSynchronized
  have hin2 : ∀ w ∈ wsX20, w ∈ wsX2_setStep := (fun w h => (List.mem_cons_of_mem _ (List.mem_append_right _ h)))
  subst hsz
  have hD := hD0.self (sz := s.heap.size)
  have hAE := k_AE hD0 hX
  generalize hAe : va_A [(h0, .inr (2, f0)), (h1, .inl (cI, 13312, .inl g0))] s.heap.size = A at hD hAE ⊢
  have hA : ∀ q : Nat, s.heap.size ≤ q → A q := fun q h => by rw [← hAe]; exact Or.inr h
  have hS : va_S A s.heap s.heap [] := va_S.rf
  have hP : va_P D vwCl [(h0, .inr (2, f0)), (h1, .inl (cI, 13312, .inl g0))] s.heap := hP
  have hl := lv_entry ([.ref h0, .int 24, .int 1, .int 43] : List Value) (n := 4) (Nat.le_of_ble_eq_true rfl)
  rw [lg_entry_eq]
  generalize (lg_sl ([.ref h0, .int 24, .int 1, .int 43]) ++ List.replicate (4 - (lg_sl ([.ref h0, .int 24, .int 1, .int 43])).length) Slot.unset).toArray = ls at hl ⊢
  have hl : lv_has ls 4 [(0, .ref h0), (1, .int 24), (2, .int 1), (3, .int 43)] := hl
  refine lv_iload_n hx hb dX2_setStep_0 rfl (lv_at hl 1 rfl) ?_
  refine lv_if_lt (tgt := 34) hx hb dX2_setStep_1 (by decide) (fun c9 => absurd c9 (by decide)) (fun _ => ?_)
  refine lv_iload_n hx hb dX2_setStep_4 rfl (lv_at hl 1 rfl) ?_
  refine lv_bipush (v := 26) hx hb dX2_setStep_5 (by decide) ?_
  refine lv_icmp_ge (tgt := 34) hx hb dX2_setStep_7 (by decide) (fun c9 => absurd c9 (by decide)) (fun _ => ?_)
  refine lv_iload_n hx hb dX2_setStep_10 rfl (lv_at hl 2 rfl) ?_
  refine lv_if_lt (tgt := 34) hx hb dX2_setStep_11 (by decide) (fun c9 => absurd c9 (by decide)) (fun _ => ?_)
  refine lv_iload_n hx hb dX2_setStep_14 rfl (lv_at hl 2 rfl) ?_
  refine lv_sipush (v := 512) hx hb dX2_setStep_15 (by decide) ?_
  refine lv_icmp_ge (tgt := 34) hx hb dX2_setStep_18 (by decide) (fun c9 => absurd c9 (by decide)) (fun _ => ?_)
  refine lv_aload_n hx hb dX2_setStep_21 rfl (lv_at hl 0 rfl) ?_
  refine va_get (D := D) (ref := "IntegerHouse$House") (ci := 2) (v := .ref h1) (C := RX2) (T := TX2) (N := 16) hx hb hts hin2 hown hK hP 0 rfl rfl 3 (by decide) (hts (.fieldLink RX2 22 "IntegerHouse$House" "steps" "[I") (List.mem_cons_of_mem _ (List.mem_append_left _ (List.mem_of_getElem? (i := 0) rfl)))) (fun _ h9 => h9) e0 dX2_setStep_22 ?_
  refine lv_iload_n hx hb dX2_setStep_25 rfl (lv_at hl 1 rfl) ?_
  refine lv_sipush (v := 512) hx hb dX2_setStep_26 (by decide) ?_
  refine lv_imul hx hb dX2_setStep_29 ?_
  refine k_topi (y := 12288) (by decide) ?_
  refine lv_iload_n hx hb dX2_setStep_30 rfl (lv_at hl 2 rfl) ?_
  refine lv_iadd hx hb dX2_setStep_31 ?_
  refine k_topi (y := 12289) (by decide) ?_
  refine lv_iload_n hx hb dX2_setStep_32 rfl (lv_at hl 3 rfl) ?_
  refine va_iast hx hb hK hP hD hS 1 0 rfl rfl (k_in (by decide)) dX2_setStep_33 (fun H locs hP hD hS => ?_)
  have hP : va_P D vwCl [(h0, .inr (2, f0)), (h1, .inl (cI, 13312, .inl (upd g0 12289 43)))] H := hP
  have hD : va_D A [(h0, .inr (2, f0)), (h1, .inl (cI, 13312, .inl (upd g0 12289 43)))] := hD
  exact W.vret hx hb hr (fun t ht hW => ⟨⟨(), rfl, trivial, kB_mk ht hW hP hK hD⟩, hS.F ht⟩) hS.2.2 dX2_setStep_34
set_option maxHeartbeats 400000000 in
set_option maxRecDepth 100000 in
theorem c_X8_step_1 (l : Launch) (E : kE) (D : va_G) (cI cJ cB cZ : ClassId) (h0 : Nat) (f0 : List Value) (h1 : Nat) (f1 : List Value) (h2 : Nat) (g0 : Nat → Int32) (e0 : f0[1]? = some (.ref h1)) (e1 : f0[11]? = some (.int 24)) (e2 : f0[13]? = some (.int 1)) (e3 : f1[3]? = some (.ref h2)) : kV l E D (kT cI cJ cB cZ) yX8_step wsX8_step ({ frames := 1, cells := 0, slots := 0, locals := 23 }) [.ref h0, .int 43] [(h0, .inr (8, f0)), (h1, .inr (2, f1)), (h2, .inl (cI, 13312, .inl g0))] (fun _ : Unit => [(h0, .inr (8, (f0.set 13 (.int 2)))), (h1, .inr (2, f1)), (h2, .inl (cI, 13312, .inl (upd g0 12289 43)))]) 0 0 := by
  intro sz
  refine Met.ofW (cc := cX8_step) (maxL := 2) (ret := none) (by decide) rfl ?_
  intro p e s m args below meth c s₁ B hml hv
  obtain ⟨rfl, hsz, hP, hK, hD0, hN, hX⟩ := hv
  have hx := B.exec
  have hb := B.bytes
  have hr := B.returns
  have hts := atoms_spec (ws := wsX8_step) B.pre
  have hown : s.vm.findClass RX8 = some m.cls := findClass_of_methodNamed B.named
  have hlocks := B.notSynchronized
  have hin8 : ∀ w ∈ wsX80, w ∈ wsX8_step := (fun w h => (List.mem_cons_of_mem _ (List.mem_append_left _ (List.mem_append_right _ h))))
  subst hsz
  have hD := hD0.self (sz := s.heap.size)
  have hAE := k_AE hD0 hX
  generalize hAe : va_A [(h0, .inr (8, f0)), (h1, .inr (2, f1)), (h2, .inl (cI, 13312, .inl g0))] s.heap.size = A at hD hAE ⊢
  have hA : ∀ q : Nat, s.heap.size ≤ q → A q := fun q h => by rw [← hAe]; exact Or.inr h
  have hS : va_S A s.heap s.heap [] := va_S.rf
  have hP : va_P D vwCl [(h0, .inr (8, f0)), (h1, .inr (2, f1)), (h2, .inl (cI, 13312, .inl g0))] s.heap := hP
  have hl := lv_entry ([.ref h0, .int 43] : List Value) (n := 2) (Nat.le_of_ble_eq_true rfl)
  rw [lg_entry_eq]
  generalize (lg_sl ([.ref h0, .int 43]) ++ List.replicate (2 - (lg_sl ([.ref h0, .int 43])).length) Slot.unset).toArray = ls at hl ⊢
  have hl : lv_has ls 2 [(0, .ref h0), (1, .int 43)] := hl
  refine lv_aload_n hx hb dX8_step_0 rfl (lv_at hl 0 rfl) ?_
  refine va_get (D := D) (ref := "IntegerHouse$Reader") (ci := 8) (v := .ref h1) (C := RX8) (T := TX8) (N := 15) hx hb hts hin8 hown hK hP 0 rfl rfl 1 (by decide) (hts (.fieldLink RX8 15 "IntegerHouse$Reader" "house" "LIntegerHouse$House;") (List.mem_cons_of_mem _ (List.mem_append_left _ (List.mem_append_left _ (List.mem_of_getElem? (i := 0) rfl))))) (fun _ h9 => h9) e0 dX8_step_1 ?_
  refine lv_aload_n hx hb dX8_step_4 rfl (lv_at hl 0 rfl) ?_
  refine va_get (D := D) (ref := "IntegerHouse$Reader") (ci := 8) (v := .int 24) (C := RX8) (T := TX8) (N := 15) hx hb hts hin8 hown hK hP 0 rfl rfl 11 (by decide) (hts (.fieldLink RX8 164 "IntegerHouse$Reader" "slot" "I") (List.mem_cons_of_mem _ (List.mem_append_left _ (List.mem_append_left _ (List.mem_of_getElem? (i := 1) rfl))))) (fun _ h9 => h9) e1 dX8_step_5 ?_
  refine lv_aload_n hx hb dX8_step_8 rfl (lv_at hl 0 rfl) ?_
  refine va_get (D := D) (ref := "IntegerHouse$Reader") (ci := 8) (v := .int 1) (C := RX8) (T := TX8) (N := 15) hx hb hts hin8 hown hK hP 0 rfl rfl 13 (by decide) (hts (.fieldLink RX8 170 "IntegerHouse$Reader" "steps" "I") (List.mem_cons_of_mem _ (List.mem_append_left _ (List.mem_append_left _ (List.mem_of_getElem? (i := 2) rfl))))) (fun _ h9 => h9) e2 dX8_step_9 ?_
  refine lv_iload_n hx hb dX8_step_12 rfl (lv_at hl 1 rfl) ?_
  refine k_cVv (As := [.int 24, .int 1, .int 43]) (rest := []) (wc := [(h1, .inr (2, f1)), (h2, .inl (cI, 13312, .inl g0))]) (wr := [(h0, .inr (8, f0))]) (w1 := (fun _ : Unit => [(h1, .inr (2, f1)), (h2, .inl (cI, 13312, .inl (upd g0 12289 43)))])) ⟨hx, hb, hml, hown, hts⟩ hN hX hAE hK hP hD hS hA [1, 2] [0] (ci := 2) rfl rfl rfl rfl (by decide +kernel) (by decide +kernel) (by decide +kernel) (c_X2_setStep_1 l E D cI cJ cB cZ h1 f1 h2 g0 e3) (cwV 3 hts gX8_step_X2_setStep rfl rfl rfl (by decide +kernel) ⟨Nat.le_of_ble_eq_true rfl, Nat.le_of_ble_eq_true rfl⟩) rfl hl.1 (Nat.le_of_ble_eq_true rfl) dX8_step_13 ⟨Nat.le_of_ble_eq_true rfl, Nat.le_of_ble_eq_true rfl⟩ (fun _ H locs hP hD hS => ?_)
  have hP : va_P D vwCl [(h0, .inr (8, f0)), (h1, .inr (2, f1)), (h2, .inl (cI, 13312, .inl (upd g0 12289 43)))] H := hP
  have hD : va_D A [(h0, .inr (8, f0)), (h1, .inr (2, f1)), (h2, .inl (cI, 13312, .inl (upd g0 12289 43)))] := hD
  refine lv_aload_n hx hb dX8_step_16 rfl (lv_at hl 0 rfl) ?_
  refine lv_dup hx hb dX8_step_17 rfl ?_
  refine va_get (D := D) (ref := "IntegerHouse$Reader") (ci := 8) (v := .int 1) (C := RX8) (T := TX8) (N := 15) hx hb hts hin8 hown hK hP 0 rfl rfl 13 (by decide) (hts (.fieldLink RX8 170 "IntegerHouse$Reader" "steps" "I") (List.mem_cons_of_mem _ (List.mem_append_left _ (List.mem_append_left _ (List.mem_of_getElem? (i := 2) rfl))))) (fun _ h9 => h9) e2 dX8_step_18 ?_
  refine lv_iconst (v := 1) hx hb dX8_step_21 (by decide) ?_
  refine lv_iadd hx hb dX8_step_22 ?_
  refine k_topi (y := 2) (by decide) ?_
  refine va_put (D := D) (ref := "IntegerHouse$Reader") (ci := 8) (v := .int 2) (ty := .int) (C := RX8) (T := TX8) (N := 15) hx hb hts hin8 tyX8 tyX8_ok nmX8 hown hK hP hD hS 0 rfl rfl 13 (by decide) (hts (.fieldLink RX8 170 "IntegerHouse$Reader" "steps" "I") (List.mem_cons_of_mem _ (List.mem_append_left _ (List.mem_append_left _ (List.mem_of_getElem? (i := 2) rfl))))) (fun _ h9 => h9) rfl (by decide +kernel) rfl rfl (k_len e2) dX8_step_23 (fun H locs hP hD hS => ?_)
  have hP : va_P D vwCl [(h0, .inr (8, (f0.set 13 (.int 2)))), (h1, .inr (2, f1)), (h2, .inl (cI, 13312, .inl (upd g0 12289 43)))] H := hP
  have hD : va_D A [(h0, .inr (8, (f0.set 13 (.int 2)))), (h1, .inr (2, f1)), (h2, .inl (cI, 13312, .inl (upd g0 12289 43)))] := hD
  exact W.vret hx hb hr (fun t ht hW => ⟨⟨(), rfl, trivial, kB_mk ht hW hP hK hD⟩, hS.F ht⟩) hS.2.2 dX8_step_26
set_option maxHeartbeats 400000000 in
set_option maxRecDepth 100000 in
theorem c_X8_term_0 (l : Launch) (E : kE) (D : va_G) (cI cJ cB cZ : ClassId) (h0 : Nat) (f0 : List Value) (h1 : Nat) (f1 : List Value) (h2 : Nat) (f2 : List Value) (h3 : Nat) (g0 : Nat → Int32) (e0 : f0[7]? = some (.int 0)) (e1 : f0[0]? = some (.ref h1)) (e2 : f0[6]? = some (.int 0)) (e3 : f1[5]? = some (.int 0)) (e4 : f0[1]? = some (.ref h2)) (e5 : f2[10]? = some (.int 0)) (e6 : f0[3]? = some (.int 0)) (e7 : f0[8]? = some (.int 0)) (e8 : f0[4]? = some (.int 0)) (e9 : f0[11]? = some (.int 24)) (e10 : f0[13]? = some (.int 0)) (e11 : f2[3]? = some (.ref h3)) : kV l E D (kT cI cJ cB cZ) yX8_term wsX8_term ({ frames := 3, cells := 0, slots := 0, locals := 69 }) [.ref h0] [(h0, .inr (8, f0)), (h1, .inr (3, f1)), (h2, .inr (2, f2)), (h3, .inl (cI, 13312, .inl g0))] (fun _ : Unit => [(h0, .inr (8, (((((f0.set 3 (.int 2)).set 4 (.int 0)).set 7 (.int 44)).set 13 (.int 1)).set 13 (.int 2)))), (h1, .inr (3, f1)), (h2, .inr (2, f2)), (h3, .inl (cI, 13312, .inl (upd (upd g0 12288 43) 12289 43)))]) 0 0 := by
  intro sz
  refine Met.ofW (cc := cX8_term) (maxL := 3) (ret := none) (by decide) rfl ?_
  intro p e s m args below meth c s₁ B hml hv
  obtain ⟨rfl, hsz, hP, hK, hD0, hN, hX⟩ := hv
  have hx := B.exec
  have hb := B.bytes
  have hr := B.returns
  have hts := atoms_spec (ws := wsX8_term) B.pre
  have hown : s.vm.findClass RX8 = some m.cls := findClass_of_methodNamed B.named
  have hlocks := B.notSynchronized
  have hin8 : ∀ w ∈ wsX80, w ∈ wsX8_term := (fun w h => (List.mem_cons_of_mem _ (List.mem_append_left _ (List.mem_append_left _ (List.mem_append_right _ h)))))
  subst hsz
  have hD := hD0.self (sz := s.heap.size)
  have hAE := k_AE hD0 hX
  generalize hAe : va_A [(h0, .inr (8, f0)), (h1, .inr (3, f1)), (h2, .inr (2, f2)), (h3, .inl (cI, 13312, .inl g0))] s.heap.size = A at hD hAE ⊢
  have hA : ∀ q : Nat, s.heap.size ≤ q → A q := fun q h => by rw [← hAe]; exact Or.inr h
  have hS : va_S A s.heap s.heap [] := va_S.rf
  have hP : va_P D vwCl [(h0, .inr (8, f0)), (h1, .inr (3, f1)), (h2, .inr (2, f2)), (h3, .inl (cI, 13312, .inl g0))] s.heap := hP
  have hl := lv_entry ([.ref h0] : List Value) (n := 3) (Nat.le_of_ble_eq_true rfl)
  rw [lg_entry_eq]
  generalize (lg_sl ([.ref h0]) ++ List.replicate (3 - (lg_sl ([.ref h0])).length) Slot.unset).toArray = ls at hl ⊢
  have hl : lv_has ls 3 [(0, .ref h0)] := hl
  refine lv_aload_n hx hb dX8_term_0 rfl (lv_at hl 0 rfl) ?_
  refine va_get (D := D) (ref := "IntegerHouse$Reader") (ci := 8) (v := .int 0) (C := RX8) (T := TX8) (N := 15) hx hb hts hin8 hown hK hP 0 rfl rfl 7 (by decide) (hts (.fieldLink RX8 39 "IntegerHouse$Reader" "kind" "I") (List.mem_cons_of_mem _ (List.mem_append_left _ (List.mem_append_left _ (List.mem_append_left _ (List.mem_append_left _ (List.mem_of_getElem? (i := 0) rfl))))))) (fun _ h9 => h9) e0 dX8_term_1 ?_
  refine lv_bipush (v := 12) hx hb dX8_term_4 (by decide) ?_
  refine lv_icmp_ne (tgt := 13) hx hb dX8_term_6 (by decide) (fun _ => ?_) (fun c9 => absurd c9 (by decide))
  refine lv_iconst (v := 0) hx hb dX8_term_13 (by decide) ?_
  refine lv_istore_n (lv' := [(1, .int 0), (0, .ref h0)]) hx hb dX8_term_14 rfl hl (by decide) rfl (fun ls hl => ?_)
  refine lv_iload_n hx hb dX8_term_15 rfl (lv_at hl 0 rfl) ?_
  refine lv_if_eq (tgt := 27) hx hb dX8_term_16 (by decide) (fun _ => ?_) (fun c9 => absurd (by decide) c9)
  refine lv_aload_n hx hb dX8_term_27 rfl (lv_at hl 1 rfl) ?_
  refine lv_iload_n hx hb dX8_term_28 rfl (lv_at hl 0 rfl) ?_
  refine k_cVv (As := [.int 0]) (rest := []) (wc := [(h0, .inr (8, f0)), (h1, .inr (3, f1)), (h2, .inr (2, f2)), (h3, .inl (cI, 13312, .inl g0))]) (wr := []) (w1 := (fun _ : Unit => [(h0, .inr (8, ((((f0.set 3 (.int 2)).set 4 (.int 0)).set 7 (.int 44)).set 13 (.int 1)))), (h1, .inr (3, f1)), (h2, .inr (2, f2)), (h3, .inl (cI, 13312, .inl (upd g0 12288 43)))])) ⟨hx, hb, hml, hown, hts⟩ hN hX hAE hK hP hD hS hA [0, 1, 2, 3] [] (ci := 8) rfl rfl rfl rfl (by decide +kernel) (by decide +kernel) (by decide +kernel) (c_X8_part_0 l E D cI cJ cB cZ h0 f0 h1 f1 h2 f2 h3 g0 e1 e2 e3 e0 e4 e5 e6 e7 e8 e9 e10 e11) (cwV 1 hts gX8_term_X8_part rfl rfl rfl (by decide +kernel) ⟨Nat.le_of_ble_eq_true rfl, Nat.le_of_ble_eq_true rfl⟩) rfl hl.1 (Nat.le_of_ble_eq_true rfl) dX8_term_29 ⟨Nat.le_of_ble_eq_true rfl, Nat.le_of_ble_eq_true rfl⟩ (fun _ H locs hP hD hS => ?_)
  have hP : va_P D vwCl [(h0, .inr (8, ((((f0.set 3 (.int 2)).set 4 (.int 0)).set 7 (.int 44)).set 13 (.int 1)))), (h1, .inr (3, f1)), (h2, .inr (2, f2)), (h3, .inl (cI, 13312, .inl (upd g0 12288 43)))] H := hP
  have hD : va_D A [(h0, .inr (8, ((((f0.set 3 (.int 2)).set 4 (.int 0)).set 7 (.int 44)).set 13 (.int 1)))), (h1, .inr (3, f1)), (h2, .inr (2, f2)), (h3, .inl (cI, 13312, .inl (upd g0 12288 43)))] := hD
  refine lv_iconst (v := 0) hx hb dX8_term_32 (by decide) ?_
  refine lv_istore_n (lv' := [(2, .int 0), (1, .int 0), (0, .ref h0)]) hx hb dX8_term_33 rfl hl (by decide) rfl (fun ls hl => ?_)
  refine lv_iload_n hx hb dX8_term_34 rfl (lv_at hl 0 rfl) ?_
  refine lv_bipush (v := 120) hx hb dX8_term_35 (by decide) ?_
  refine lv_icmp_ge (tgt := 102) hx hb dX8_term_37 (by decide) (fun c9 => absurd c9 (by decide)) (fun _ => ?_)
  refine lv_aload_n hx hb dX8_term_40 rfl (lv_at hl 2 rfl) ?_
  refine va_get (D := D) (ref := "IntegerHouse$Reader") (ci := 8) (v := .int 44) (C := RX8) (T := TX8) (N := 15) hx hb hts hin8 hown hK hP 0 rfl rfl 7 (by decide) (hts (.fieldLink RX8 39 "IntegerHouse$Reader" "kind" "I") (List.mem_cons_of_mem _ (List.mem_append_left _ (List.mem_append_left _ (List.mem_append_left _ (List.mem_append_left _ (List.mem_of_getElem? (i := 0) rfl))))))) (fun _ h9 => h9) (k_ne (by decide) (k_set (k_ne (by decide) (k_ne (by decide) e0)))) dX8_term_41 ?_
  refine lv_bipush (v := 11) hx hb dX8_term_44 (by decide) ?_
  refine lv_icmp_eq (tgt := 58) hx hb dX8_term_46 (by decide) (fun c9 => absurd c9 (by decide)) (fun _ => ?_)
  refine lv_aload_n hx hb dX8_term_49 rfl (lv_at hl 2 rfl) ?_
  refine va_get (D := D) (ref := "IntegerHouse$Reader") (ci := 8) (v := .int 44) (C := RX8) (T := TX8) (N := 15) hx hb hts hin8 hown hK hP 0 rfl rfl 7 (by decide) (hts (.fieldLink RX8 39 "IntegerHouse$Reader" "kind" "I") (List.mem_cons_of_mem _ (List.mem_append_left _ (List.mem_append_left _ (List.mem_append_left _ (List.mem_append_left _ (List.mem_of_getElem? (i := 0) rfl))))))) (fun _ h9 => h9) (k_ne (by decide) (k_set (k_ne (by decide) (k_ne (by decide) e0)))) dX8_term_50 ?_
  refine lv_bipush (v := 12) hx hb dX8_term_53 (by decide) ?_
  refine lv_icmp_ne (tgt := 102) hx hb dX8_term_55 (by decide) (fun _ => ?_) (fun c9 => absurd c9 (by decide))
  refine lv_aload_n hx hb dX8_term_102 rfl (lv_at hl 2 rfl) ?_
  refine lv_bipush (v := 43) hx hb dX8_term_103 (by decide) ?_
  refine k_cVv (As := [.int 43]) (rest := []) (wc := [(h0, .inr (8, ((((f0.set 3 (.int 2)).set 4 (.int 0)).set 7 (.int 44)).set 13 (.int 1)))), (h2, .inr (2, f2)), (h3, .inl (cI, 13312, .inl (upd g0 12288 43)))]) (wr := [(h1, .inr (3, f1))]) (w1 := (fun _ : Unit => [(h0, .inr (8, (((((f0.set 3 (.int 2)).set 4 (.int 0)).set 7 (.int 44)).set 13 (.int 1)).set 13 (.int 2)))), (h2, .inr (2, f2)), (h3, .inl (cI, 13312, .inl (upd (upd g0 12288 43) 12289 43)))])) ⟨hx, hb, hml, hown, hts⟩ hN hX hAE hK hP hD hS hA [0, 2, 3] [1] (ci := 8) rfl rfl rfl rfl (by decide +kernel) (by decide +kernel) (by decide +kernel) (c_X8_step_1 l E D cI cJ cB cZ h0 (((((f0.set 3 (.int 2)).set 4 (.int 0)).set 7 (.int 44)).set 13 (.int 1))) h2 f2 h3 ((upd g0 12288 43)) (k_ne (by decide) (k_ne (by decide) (k_ne (by decide) (k_ne (by decide) e4)))) (k_ne (by decide) (k_ne (by decide) (k_ne (by decide) (k_ne (by decide) e9)))) (k_set (k_ne (by decide) (k_ne (by decide) (k_ne (by decide) e10)))) e11) (cwV 1 hts gX8_term_X8_step rfl rfl rfl (by decide +kernel) ⟨Nat.le_of_ble_eq_true rfl, Nat.le_of_ble_eq_true rfl⟩) rfl hl.1 (Nat.le_of_ble_eq_true rfl) dX8_term_105 ⟨Nat.le_of_ble_eq_true rfl, Nat.le_of_ble_eq_true rfl⟩ (fun _ H locs hP hD hS => ?_)
  have hP : va_P D vwCl [(h1, .inr (3, f1)), (h0, .inr (8, (((((f0.set 3 (.int 2)).set 4 (.int 0)).set 7 (.int 44)).set 13 (.int 1)).set 13 (.int 2)))), (h2, .inr (2, f2)), (h3, .inl (cI, 13312, .inl (upd (upd g0 12288 43) 12289 43)))] H := hP
  have hD : va_D A [(h1, .inr (3, f1)), (h0, .inr (8, (((((f0.set 3 (.int 2)).set 4 (.int 0)).set 7 (.int 44)).set 13 (.int 1)).set 13 (.int 2)))), (h2, .inr (2, f2)), (h3, .inl (cI, 13312, .inl (upd (upd g0 12288 43) 12289 43)))] := hD
  have hP := hP.sub (ws' := [(h0, .inr (8, (((((f0.set 3 (.int 2)).set 4 (.int 0)).set 7 (.int 44)).set 13 (.int 1)).set 13 (.int 2)))), (h1, .inr (3, f1)), (h2, .inr (2, f2)), (h3, .inl (cI, 13312, .inl (upd (upd g0 12288 43) 12289 43)))]) [1, 0, 2, 3] rfl
  have hD := hD.sub (ws' := [(h0, .inr (8, (((((f0.set 3 (.int 2)).set 4 (.int 0)).set 7 (.int 44)).set 13 (.int 1)).set 13 (.int 2)))), (h1, .inr (3, f1)), (h2, .inr (2, f2)), (h3, .inl (cI, 13312, .inl (upd (upd g0 12288 43) 12289 43)))]) [1, 0, 2, 3] (by decide +kernel) rfl
  exact W.vret hx hb hr (fun t ht hW => ⟨⟨(), rfl, trivial, kB_mk ht hW hP hK hD⟩, hS.F ht⟩) hS.2.2 dX8_term_108
set_option maxHeartbeats 400000000 in
set_option maxRecDepth 100000 in
theorem c_X11_isComparison_0 (l : Launch) (E : kE) (D : va_G) (cI cJ cB cZ : ClassId)   : kI l E D (kT cI cJ cB cZ) yX11_isComparison wsX11_isComparison ({ frames := 0, cells := 0, slots := 0, locals := 0 }) [.int 44] [] (0) [] 0 0 := by
  intro sz
  refine Met.ofW (cc := cX11_isComparison) (maxL := 1) (ret := (some .boolean)) (by decide) rfl ?_
  intro p e s m args below meth c s₁ B hml hv
  obtain ⟨rfl, hsz, hP, hK, hD0, hN, hX⟩ := hv
  have hx := B.exec
  have hb := B.bytes
  have hr := B.returns
  have hts := atoms_spec (ws := wsX11_isComparison) B.pre
  have hown : s.vm.findClass RX11 = some m.cls := findClass_of_methodNamed B.named
  have hlocks := B.notSynchronized
  subst hsz
  have hD := hD0.self (sz := s.heap.size)
  have hAE := k_AE hD0 hX
  generalize hAe : va_A [] s.heap.size = A at hD hAE ⊢
  have hA : ∀ q : Nat, s.heap.size ≤ q → A q := fun q h => by rw [← hAe]; exact Or.inr h
  have hS : va_S A s.heap s.heap [] := va_S.rf
  have hP : va_P D vwCl [] s.heap := hP
  have hl := lv_entry ([.int 44] : List Value) (n := 1) (Nat.le_of_ble_eq_true rfl)
  rw [lg_entry_eq]
  generalize (lg_sl ([.int 44]) ++ List.replicate (1 - (lg_sl ([.int 44])).length) Slot.unset).toArray = ls at hl ⊢
  have hl : lv_has ls 1 [(0, .int 44)] := hl
  refine lv_iload_n hx hb dX11_isComparison_0 rfl (lv_at hl 0 rfl) ?_
  refine lv_bipush (v := 10) hx hb dX11_isComparison_1 (by decide) ?_
  refine lv_icmp_eq (tgt := 18) hx hb dX11_isComparison_3 (by decide) (fun c9 => absurd c9 (by decide)) (fun _ => ?_)
  refine lv_iload_n hx hb dX11_isComparison_6 rfl (lv_at hl 0 rfl) ?_
  refine lv_bipush (v := 14) hx hb dX11_isComparison_7 (by decide) ?_
  refine lv_icmp_lt (tgt := 22) hx hb dX11_isComparison_9 (by decide) (fun c9 => absurd c9 (by decide)) (fun _ => ?_)
  refine lv_iload_n hx hb dX11_isComparison_12 rfl (lv_at hl 0 rfl) ?_
  refine lv_bipush (v := 18) hx hb dX11_isComparison_13 (by decide) ?_
  refine lv_icmp_gt (tgt := 22) hx hb dX11_isComparison_15 (by decide) (fun _ => ?_) (fun c9 => absurd (by decide) c9)
  refine lv_iconst (v := 0) hx hb dX11_isComparison_22 (by decide) ?_
  exact W.zret (v := 0) hx hb hr rfl (fun t ht hW => ⟨⟨0, (), rfl, rfl, kB_mk ht hW hP hK hD⟩, hS.F ht⟩) hS.2.2 dX11_isComparison_23
set_option maxHeartbeats 400000000 in
set_option maxRecDepth 100000 in
theorem c_X8_accept_0 (l : Launch) (E : kE) (D : va_G) (cI cJ cB cZ : ClassId) (h0 : Nat) (f0 : List Value) (e0 : f0[7]? = some (.int 44)) (e1 : f0[3]? = some (.int 2)) : kV l E D (kT cI cJ cB cZ) yX8_accept wsX8_accept ({ frames := 1, cells := 0, slots := 0, locals := 21 }) [.ref h0, .int 10, .int 44] [(h0, .inr (8, f0))] (fun _ : Unit => [(h0, .inr (8, (f0.set 7 (.int 44))))]) 0 0 := by
  intro sz
  refine Met.ofW (cc := cX8_accept) (maxL := 4) (ret := none) (by decide) rfl ?_
  intro p e s m args below meth c s₁ B hml hv
  obtain ⟨rfl, hsz, hP, hK, hD0, hN, hX⟩ := hv
  have hx := B.exec
  have hb := B.bytes
  have hr := B.returns
  have hts := atoms_spec (ws := wsX8_accept) B.pre
  have hown : s.vm.findClass RX8 = some m.cls := findClass_of_methodNamed B.named
  have hlocks := B.notSynchronized
  have hin8 : ∀ w ∈ wsX80, w ∈ wsX8_accept := (fun w h => (List.mem_cons_of_mem _ (List.mem_append_left _ (List.mem_append_left _ (List.mem_append_right _ h)))))
  subst hsz
  have hD := hD0.self (sz := s.heap.size)
  have hAE := k_AE hD0 hX
  generalize hAe : va_A [(h0, .inr (8, f0))] s.heap.size = A at hD hAE ⊢
  have hA : ∀ q : Nat, s.heap.size ≤ q → A q := fun q h => by rw [← hAe]; exact Or.inr h
  have hS : va_S A s.heap s.heap [] := va_S.rf
  have hP : va_P D vwCl [(h0, .inr (8, f0))] s.heap := hP
  have hl := lv_entry ([.ref h0, .int 10, .int 44] : List Value) (n := 4) (Nat.le_of_ble_eq_true rfl)
  rw [lg_entry_eq]
  generalize (lg_sl ([.ref h0, .int 10, .int 44]) ++ List.replicate (4 - (lg_sl ([.ref h0, .int 10, .int 44])).length) Slot.unset).toArray = ls at hl ⊢
  have hl : lv_has ls 4 [(0, .ref h0), (1, .int 10), (2, .int 44)] := hl
  refine lv_iload_n hx hb dX8_accept_0 rfl (lv_at hl 1 rfl) ?_
  refine lv_bipush (v := 25) hx hb dX8_accept_1 (by decide) ?_
  refine lv_icmp_eq (tgt := 17) hx hb dX8_accept_3 (by decide) (fun c9 => absurd c9 (by decide)) (fun _ => ?_)
  refine lv_iload_n hx hb dX8_accept_6 rfl (lv_at hl 1 rfl) ?_
  refine lv_iconst (v := 4) hx hb dX8_accept_7 (by decide) ?_
  refine lv_icmp_eq (tgt := 17) hx hb dX8_accept_8 (by decide) (fun c9 => absurd c9 (by decide)) (fun _ => ?_)
  refine lv_iload_n hx hb dX8_accept_11 rfl (lv_at hl 1 rfl) ?_
  refine lv_bipush (v := 6) hx hb dX8_accept_12 (by decide) ?_
  refine lv_icmp_ne (tgt := 21) hx hb dX8_accept_14 (by decide) (fun _ => ?_) (fun c9 => absurd c9 (by decide))
  refine lv_iconst (v := 0) hx hb dX8_accept_21 (by decide) ?_
  refine lv_istore_n (lv' := [(3, .int 0), (0, .ref h0), (1, .int 10), (2, .int 44)]) hx hb dX8_accept_22 rfl hl (by decide) rfl (fun ls hl => ?_)
  refine lv_aload_n hx hb dX8_accept_23 rfl (lv_at hl 1 rfl) ?_
  refine va_get (D := D) (ref := "IntegerHouse$Reader") (ci := 8) (v := .int 44) (C := RX8) (T := TX8) (N := 15) hx hb hts hin8 hown hK hP 0 rfl rfl 7 (by decide) (hts (.fieldLink RX8 39 "IntegerHouse$Reader" "kind" "I") (List.mem_cons_of_mem _ (List.mem_append_left _ (List.mem_append_left _ (List.mem_append_left _ (List.mem_append_left _ (List.mem_of_getElem? (i := 0) rfl))))))) (fun _ h9 => h9) e0 dX8_accept_24 ?_
  refine lv_iload_n hx hb dX8_accept_27 rfl (lv_at hl 2 rfl) ?_
  refine lv_icmp_eq (tgt := 39) hx hb dX8_accept_28 (by decide) (fun c9 => absurd c9 (by decide)) (fun _ => ?_)
  refine lv_aload_n hx hb dX8_accept_31 rfl (lv_at hl 1 rfl) ?_
  refine lv_iconst (v := 2) hx hb dX8_accept_32 (by decide) ?_
  refine k_cVv (As := [.int 2]) (rest := []) (wc := [(h0, .inr (8, f0))]) (wr := []) (w1 := (fun _ : Unit => [(h0, .inr (8, (f0.set 7 (.int 44))))])) ⟨hx, hb, hml, hown, hts⟩ hN hX hAE hK hP hD hS hA [0] [] (ci := 8) rfl rfl rfl rfl (by decide +kernel) (by decide +kernel) (by decide +kernel) (c_X8_fail_1 l E D cI cJ cB cZ h0 f0 e1 e0) (cwV 1 hts gX8_accept_X8_fail rfl rfl rfl (by decide +kernel) ⟨Nat.le_of_ble_eq_true rfl, Nat.le_of_ble_eq_true rfl⟩) rfl hl.1 (Nat.le_of_ble_eq_true rfl) dX8_accept_33 ⟨Nat.le_of_ble_eq_true rfl, Nat.le_of_ble_eq_true rfl⟩ (fun _ H locs hP hD hS => ?_)
  have hP : va_P D vwCl [(h0, .inr (8, (f0.set 7 (.int 44))))] H := hP
  have hD : va_D A [(h0, .inr (8, (f0.set 7 (.int 44))))] := hD
  refine lv_goto (tgt := 132) hx hb dX8_accept_36 (by decide) ?_
  exact W.vret hx hb hr (fun t ht hW => ⟨⟨(), rfl, trivial, kB_mk ht hW hP hK hD⟩, hS.F ht⟩) hS.2.2 dX8_accept_132
set_option maxHeartbeats 400000000 in
set_option maxRecDepth 100000 in
theorem c_X8_factor_1 (l : Launch) (E : kE) (D : va_G) (cI cJ cB cZ : ClassId) (h0 : Nat) (f0 : List Value) (h1 : Nat) (h2 : Nat) (f1 : List Value) (f2 : List Value) (e0 : f0[7]? = some (.int 44)) (e1 : f0[1]? = some (.ref h1)) (e2 : f0[0]? = some (.ref h2)) (e3 : f0[6]? = some (.int 0)) (e4 : f1[5]? = some (.int 0)) (e5 : f2[10]? = some (.int 0)) (e6 : f0[3]? = some (.int 2)) : kV l E D (kT cI cJ cB cZ) yX8_factor wsX8_factor ({ frames := 1, cells := 0, slots := 0, locals := 23 }) [.ref h0] [(h0, .inr (8, f0)), (h2, .inr (3, f1)), (h1, .inr (2, f2))] (fun _ : Unit => [(h0, .inr (8, (f0.set 7 (.int 44)))), (h2, .inr (3, f1)), (h1, .inr (2, f2))]) 0 0 := by
  intro sz
  refine Met.ofW (cc := cX8_factor) (maxL := 3) (ret := none) (by decide) rfl ?_
  intro p e s m args below meth c s₁ B hml hv
  obtain ⟨rfl, hsz, hP, hK, hD0, hN, hX⟩ := hv
  have hx := B.exec
  have hb := B.bytes
  have hr := B.returns
  have hts := atoms_spec (ws := wsX8_factor) B.pre
  have hown : s.vm.findClass RX8 = some m.cls := findClass_of_methodNamed B.named
  have hlocks := B.notSynchronized
  have hin8 : ∀ w ∈ wsX80, w ∈ wsX8_factor := (fun w h => (List.mem_cons_of_mem _ (List.mem_append_left _ (List.mem_append_left _ (List.mem_append_right _ h)))))
  subst hsz
  have hD := hD0.self (sz := s.heap.size)
  have hAE := k_AE hD0 hX
  generalize hAe : va_A [(h0, .inr (8, f0)), (h2, .inr (3, f1)), (h1, .inr (2, f2))] s.heap.size = A at hD hAE ⊢
  have hA : ∀ q : Nat, s.heap.size ≤ q → A q := fun q h => by rw [← hAe]; exact Or.inr h
  have hS : va_S A s.heap s.heap [] := va_S.rf
  have hP : va_P D vwCl [(h0, .inr (8, f0)), (h2, .inr (3, f1)), (h1, .inr (2, f2))] s.heap := hP
  have hl := lv_entry ([.ref h0] : List Value) (n := 3) (Nat.le_of_ble_eq_true rfl)
  rw [lg_entry_eq]
  generalize (lg_sl ([.ref h0]) ++ List.replicate (3 - (lg_sl ([.ref h0])).length) Slot.unset).toArray = ls at hl ⊢
  have hl : lv_has ls 3 [(0, .ref h0)] := hl
  refine lv_aload_n hx hb dX8_factor_0 rfl (lv_at hl 0 rfl) ?_
  refine va_get (D := D) (ref := "IntegerHouse$Reader") (ci := 8) (v := .int 44) (C := RX8) (T := TX8) (N := 15) hx hb hts hin8 hown hK hP 0 rfl rfl 7 (by decide) (hts (.fieldLink RX8 39 "IntegerHouse$Reader" "kind" "I") (List.mem_cons_of_mem _ (List.mem_append_left _ (List.mem_append_left _ (List.mem_append_left _ (List.mem_append_left _ (List.mem_of_getElem? (i := 0) rfl))))))) (fun _ h9 => h9) e0 dX8_factor_1 ?_
  refine lv_istore_n (lv' := [(1, .int 44), (0, .ref h0)]) hx hb dX8_factor_4 rfl hl (by decide) rfl (fun ls hl => ?_)
  refine lv_aload_n hx hb dX8_factor_5 rfl (lv_at hl 1 rfl) ?_
  refine va_get (D := D) (ref := "IntegerHouse$Reader") (ci := 8) (v := .ref h1) (C := RX8) (T := TX8) (N := 15) hx hb hts hin8 hown hK hP 0 rfl rfl 1 (by decide) (hts (.fieldLink RX8 15 "IntegerHouse$Reader" "house" "LIntegerHouse$House;") (List.mem_cons_of_mem _ (List.mem_append_left _ (List.mem_append_left _ (List.mem_append_left _ (List.mem_append_left _ (List.mem_of_getElem? (i := 1) rfl))))))) (fun _ h9 => h9) e1 dX8_factor_6 ?_
  refine lv_aload_n hx hb dX8_factor_9 rfl (lv_at hl 1 rfl) ?_
  refine va_get (D := D) (ref := "IntegerHouse$Reader") (ci := 8) (v := .ref h2) (C := RX8) (T := TX8) (N := 15) hx hb hts hin8 hown hK hP 0 rfl rfl 0 (by decide) (hts (.fieldLink RX8 9 "IntegerHouse$Reader" "lexer" "LIntegerHouse$Lexer;") (List.mem_cons_of_mem _ (List.mem_append_left _ (List.mem_append_left _ (List.mem_append_left _ (List.mem_append_left _ (List.mem_of_getElem? (i := 2) rfl))))))) (fun _ h9 => h9) e2 dX8_factor_10 ?_
  refine lv_aload_n hx hb dX8_factor_13 rfl (lv_at hl 1 rfl) ?_
  refine va_get (D := D) (ref := "IntegerHouse$Reader") (ci := 8) (v := .int 0) (C := RX8) (T := TX8) (N := 15) hx hb hts hin8 hown hK hP 0 rfl rfl 6 (by decide) (hts (.fieldLink RX8 79 "IntegerHouse$Reader" "at" "I") (List.mem_cons_of_mem _ (List.mem_append_left _ (List.mem_append_left _ (List.mem_append_left _ (List.mem_append_left _ (List.mem_of_getElem? (i := 3) rfl))))))) (fun _ h9 => h9) e3 dX8_factor_14 ?_
  refine k_cVl (As := [.int 0]) (rest := [.ref h1]) (wc := [(h2, .inr (3, f1))]) (wr := [(h0, .inr (8, f0)), (h1, .inr (2, f2))]) (w1 := [(h2, .inr (3, f1))]) ⟨hx, hb, hml, hown, hts⟩ hN hX hAE hK hP hD hS hA [1] [0, 2] (ci := 3) rfl rfl rfl rfl (by decide +kernel) (by decide +kernel) (by decide +kernel) (c_X3_nameAt_0 l E D cI cJ cB cZ h2 f1 e4) (cwV 1 hts gX8_factor_X3_nameAt rfl rfl rfl (by decide +kernel) ⟨Nat.le_of_ble_eq_true rfl, Nat.le_of_ble_eq_true rfl⟩) rfl hl.1 (Nat.le_of_ble_eq_true rfl) dX8_factor_17 ⟨Nat.le_of_ble_eq_true rfl, Nat.le_of_ble_eq_true rfl⟩ (fun H locs hP hD hS => ?_)
  have hP : va_P D vwCl [(h0, .inr (8, f0)), (h1, .inr (2, f2)), (h2, .inr (3, f1))] H := hP
  have hD : va_D A [(h0, .inr (8, f0)), (h1, .inr (2, f2)), (h2, .inr (3, f1))] := hD
  refine k_cVi (As := [.long 0]) (rest := []) (wc := [(h1, .inr (2, f2))]) (wr := [(h0, .inr (8, f0)), (h2, .inr (3, f1))]) (w1 := [(h1, .inr (2, f2))]) ⟨hx, hb, hml, hown, hts⟩ hN hX hAE hK hP hD hS hA [1] [0, 2] (ci := 2) rfl rfl rfl rfl (by decide +kernel) (by decide +kernel) (by decide +kernel) (c_X2_variableOf_0 l E D cI cJ cB cZ h1 f2 e5) (cwV 1 hts gX8_factor_X2_variableOf rfl rfl rfl (by decide +kernel) ⟨Nat.le_of_ble_eq_true rfl, Nat.le_of_ble_eq_true rfl⟩) rfl hl.1 (Nat.le_of_ble_eq_true rfl) dX8_factor_20 ⟨Nat.le_of_ble_eq_true rfl, Nat.le_of_ble_eq_true rfl⟩ (fun H locs hP hD hS => ?_)
  have hP : va_P D vwCl [(h0, .inr (8, f0)), (h2, .inr (3, f1)), (h1, .inr (2, f2))] H := hP
  have hD : va_D A [(h0, .inr (8, f0)), (h2, .inr (3, f1)), (h1, .inr (2, f2))] := hD
  refine lv_istore_n (lv' := [(2, .int (-1)), (1, .int 44), (0, .ref h0)]) hx hb dX8_factor_23 rfl hl (by decide) rfl (fun ls hl => ?_)
  refine lv_iload_n hx hb dX8_factor_24 rfl (lv_at hl 1 rfl) ?_
  refine lv_iconst (v := 1) hx hb dX8_factor_25 (by decide) ?_
  refine lv_icmp_ne (tgt := 60) hx hb dX8_factor_26 (by decide) (fun _ => ?_) (fun c9 => absurd c9 (by decide))
  refine lv_iload_n hx hb dX8_factor_60 rfl (lv_at hl 1 rfl) ?_
  refine lv_iconst (v := 1) hx hb dX8_factor_61 (by decide) ?_
  refine lv_icmp_ne (tgt := 99) hx hb dX8_factor_62 (by decide) (fun _ => ?_) (fun c9 => absurd c9 (by decide))
  refine lv_iload_n hx hb dX8_factor_99 rfl (lv_at hl 1 rfl) ?_
  refine lv_bipush (v := 6) hx hb dX8_factor_100 (by decide) ?_
  refine lv_icmp_ne (tgt := 114) hx hb dX8_factor_102 (by decide) (fun _ => ?_) (fun c9 => absurd c9 (by decide))
  refine lv_iload_n hx hb dX8_factor_114 rfl (lv_at hl 1 rfl) ?_
  refine lv_bipush (v := 28) hx hb dX8_factor_115 (by decide) ?_
  refine lv_icmp_lt (tgt := 149) hx hb dX8_factor_117 (by decide) (fun c9 => absurd c9 (by decide)) (fun _ => ?_)
  refine lv_iload_n hx hb dX8_factor_120 rfl (lv_at hl 1 rfl) ?_
  refine lv_bipush (v := 32) hx hb dX8_factor_121 (by decide) ?_
  refine lv_icmp_gt (tgt := 149) hx hb dX8_factor_123 (by decide) (fun _ => ?_) (fun c9 => absurd (by decide) c9)
  refine lv_aload_n hx hb dX8_factor_149 rfl (lv_at hl 2 rfl) ?_
  refine lv_iconst (v := 2) hx hb dX8_factor_150 (by decide) ?_
  refine k_cVv (As := [.int 2]) (rest := []) (wc := [(h0, .inr (8, f0))]) (wr := [(h2, .inr (3, f1)), (h1, .inr (2, f2))]) (w1 := (fun _ : Unit => [(h0, .inr (8, (f0.set 7 (.int 44))))])) ⟨hx, hb, hml, hown, hts⟩ hN hX hAE hK hP hD hS hA [0] [1, 2] (ci := 8) rfl rfl rfl rfl (by decide +kernel) (by decide +kernel) (by decide +kernel) (c_X8_fail_1 l E D cI cJ cB cZ h0 f0 e6 e0) (cwV 1 hts gX8_factor_X8_fail rfl rfl rfl (by decide +kernel) ⟨Nat.le_of_ble_eq_true rfl, Nat.le_of_ble_eq_true rfl⟩) rfl hl.1 (Nat.le_of_ble_eq_true rfl) dX8_factor_151 ⟨Nat.le_of_ble_eq_true rfl, Nat.le_of_ble_eq_true rfl⟩ (fun _ H locs hP hD hS => ?_)
  have hP : va_P D vwCl [(h2, .inr (3, f1)), (h1, .inr (2, f2)), (h0, .inr (8, (f0.set 7 (.int 44))))] H := hP
  have hD : va_D A [(h2, .inr (3, f1)), (h1, .inr (2, f2)), (h0, .inr (8, (f0.set 7 (.int 44))))] := hD
  have hP := hP.sub (ws' := [(h0, .inr (8, (f0.set 7 (.int 44)))), (h2, .inr (3, f1)), (h1, .inr (2, f2))]) [2, 0, 1] rfl
  have hD := hD.sub (ws' := [(h0, .inr (8, (f0.set 7 (.int 44)))), (h2, .inr (3, f1)), (h1, .inr (2, f2))]) [2, 0, 1] (by decide +kernel) rfl
  exact W.vret hx hb hr (fun t ht hW => ⟨⟨(), rfl, trivial, kB_mk ht hW hP hK hD⟩, hS.F ht⟩) hS.2.2 dX8_factor_154
set_option maxHeartbeats 400000000 in
set_option maxRecDepth 100000 in
theorem c_X2_setStep_2 (l : Launch) (E : kE) (D : va_G) (cI cJ cB cZ : ClassId) (h0 : Nat) (f0 : List Value) (h1 : Nat) (g0 : Nat → Int32) (e0 : f0[3]? = some (.ref h1)) : kV l E D (kT cI cJ cB cZ) yX2_setStep wsX2_setStep ({ frames := 0, cells := 0, slots := 0, locals := 0 }) [.ref h0, .int 24, .int 2, .int 43] [(h0, .inr (2, f0)), (h1, .inl (cI, 13312, .inl g0))] (fun _ : Unit => [(h0, .inr (2, f0)), (h1, .inl (cI, 13312, .inl (upd g0 12290 43)))]) 0 0 := by
  intro sz
  refine Met.ofW (cc := cX2_setStep) (maxL := 4) (ret := none) (by decide) rfl ?_
  intro p e s m args below meth c s₁ B hml hv
  obtain ⟨rfl, hsz, hP, hK, hD0, hN, hX⟩ := hv
  have hx := B.exec
  have hb := B.bytes
  have hr := B.returns
  have hts := atoms_spec (ws := wsX2_setStep) B.pre
  have hown : s.vm.findClass RX2 = some m.cls := findClass_of_methodNamed B.named
  have hlocks := B.notSynchronized
  have hin2 : ∀ w ∈ wsX20, w ∈ wsX2_setStep := (fun w h => (List.mem_cons_of_mem _ (List.mem_append_right _ h)))
  subst hsz
  have hD := hD0.self (sz := s.heap.size)
  have hAE := k_AE hD0 hX
  generalize hAe : va_A [(h0, .inr (2, f0)), (h1, .inl (cI, 13312, .inl g0))] s.heap.size = A at hD hAE ⊢
  have hA : ∀ q : Nat, s.heap.size ≤ q → A q := fun q h => by rw [← hAe]; exact Or.inr h
  have hS : va_S A s.heap s.heap [] := va_S.rf
  have hP : va_P D vwCl [(h0, .inr (2, f0)), (h1, .inl (cI, 13312, .inl g0))] s.heap := hP
  have hl := lv_entry ([.ref h0, .int 24, .int 2, .int 43] : List Value) (n := 4) (Nat.le_of_ble_eq_true rfl)
  rw [lg_entry_eq]
  generalize (lg_sl ([.ref h0, .int 24, .int 2, .int 43]) ++ List.replicate (4 - (lg_sl ([.ref h0, .int 24, .int 2, .int 43])).length) Slot.unset).toArray = ls at hl ⊢
  have hl : lv_has ls 4 [(0, .ref h0), (1, .int 24), (2, .int 2), (3, .int 43)] := hl
  refine lv_iload_n hx hb dX2_setStep_0 rfl (lv_at hl 1 rfl) ?_
  refine lv_if_lt (tgt := 34) hx hb dX2_setStep_1 (by decide) (fun c9 => absurd c9 (by decide)) (fun _ => ?_)
  refine lv_iload_n hx hb dX2_setStep_4 rfl (lv_at hl 1 rfl) ?_
  refine lv_bipush (v := 26) hx hb dX2_setStep_5 (by decide) ?_
  refine lv_icmp_ge (tgt := 34) hx hb dX2_setStep_7 (by decide) (fun c9 => absurd c9 (by decide)) (fun _ => ?_)
  refine lv_iload_n hx hb dX2_setStep_10 rfl (lv_at hl 2 rfl) ?_
  refine lv_if_lt (tgt := 34) hx hb dX2_setStep_11 (by decide) (fun c9 => absurd c9 (by decide)) (fun _ => ?_)
  refine lv_iload_n hx hb dX2_setStep_14 rfl (lv_at hl 2 rfl) ?_
  refine lv_sipush (v := 512) hx hb dX2_setStep_15 (by decide) ?_
  refine lv_icmp_ge (tgt := 34) hx hb dX2_setStep_18 (by decide) (fun c9 => absurd c9 (by decide)) (fun _ => ?_)
  refine lv_aload_n hx hb dX2_setStep_21 rfl (lv_at hl 0 rfl) ?_
  refine va_get (D := D) (ref := "IntegerHouse$House") (ci := 2) (v := .ref h1) (C := RX2) (T := TX2) (N := 16) hx hb hts hin2 hown hK hP 0 rfl rfl 3 (by decide) (hts (.fieldLink RX2 22 "IntegerHouse$House" "steps" "[I") (List.mem_cons_of_mem _ (List.mem_append_left _ (List.mem_of_getElem? (i := 0) rfl)))) (fun _ h9 => h9) e0 dX2_setStep_22 ?_
  refine lv_iload_n hx hb dX2_setStep_25 rfl (lv_at hl 1 rfl) ?_
  refine lv_sipush (v := 512) hx hb dX2_setStep_26 (by decide) ?_
  refine lv_imul hx hb dX2_setStep_29 ?_
  refine k_topi (y := 12288) (by decide) ?_
  refine lv_iload_n hx hb dX2_setStep_30 rfl (lv_at hl 2 rfl) ?_
  refine lv_iadd hx hb dX2_setStep_31 ?_
  refine k_topi (y := 12290) (by decide) ?_
  refine lv_iload_n hx hb dX2_setStep_32 rfl (lv_at hl 3 rfl) ?_
  refine va_iast hx hb hK hP hD hS 1 0 rfl rfl (k_in (by decide)) dX2_setStep_33 (fun H locs hP hD hS => ?_)
  have hP : va_P D vwCl [(h0, .inr (2, f0)), (h1, .inl (cI, 13312, .inl (upd g0 12290 43)))] H := hP
  have hD : va_D A [(h0, .inr (2, f0)), (h1, .inl (cI, 13312, .inl (upd g0 12290 43)))] := hD
  exact W.vret hx hb hr (fun t ht hW => ⟨⟨(), rfl, trivial, kB_mk ht hW hP hK hD⟩, hS.F ht⟩) hS.2.2 dX2_setStep_34
set_option maxHeartbeats 400000000 in
set_option maxRecDepth 100000 in
theorem c_X8_step_2 (l : Launch) (E : kE) (D : va_G) (cI cJ cB cZ : ClassId) (h0 : Nat) (f0 : List Value) (h1 : Nat) (f1 : List Value) (h2 : Nat) (g0 : Nat → Int32) (e0 : f0[1]? = some (.ref h1)) (e1 : f0[11]? = some (.int 24)) (e2 : f0[13]? = some (.int 2)) (e3 : f1[3]? = some (.ref h2)) : kV l E D (kT cI cJ cB cZ) yX8_step wsX8_step ({ frames := 1, cells := 0, slots := 0, locals := 23 }) [.ref h0, .int 43] [(h0, .inr (8, f0)), (h1, .inr (2, f1)), (h2, .inl (cI, 13312, .inl g0))] (fun _ : Unit => [(h0, .inr (8, (f0.set 13 (.int 3)))), (h1, .inr (2, f1)), (h2, .inl (cI, 13312, .inl (upd g0 12290 43)))]) 0 0 := by
  intro sz
  refine Met.ofW (cc := cX8_step) (maxL := 2) (ret := none) (by decide) rfl ?_
  intro p e s m args below meth c s₁ B hml hv
  obtain ⟨rfl, hsz, hP, hK, hD0, hN, hX⟩ := hv
  have hx := B.exec
  have hb := B.bytes
  have hr := B.returns
  have hts := atoms_spec (ws := wsX8_step) B.pre
  have hown : s.vm.findClass RX8 = some m.cls := findClass_of_methodNamed B.named
  have hlocks := B.notSynchronized
  have hin8 : ∀ w ∈ wsX80, w ∈ wsX8_step := (fun w h => (List.mem_cons_of_mem _ (List.mem_append_left _ (List.mem_append_right _ h))))
  subst hsz
  have hD := hD0.self (sz := s.heap.size)
  have hAE := k_AE hD0 hX
  generalize hAe : va_A [(h0, .inr (8, f0)), (h1, .inr (2, f1)), (h2, .inl (cI, 13312, .inl g0))] s.heap.size = A at hD hAE ⊢
  have hA : ∀ q : Nat, s.heap.size ≤ q → A q := fun q h => by rw [← hAe]; exact Or.inr h
  have hS : va_S A s.heap s.heap [] := va_S.rf
  have hP : va_P D vwCl [(h0, .inr (8, f0)), (h1, .inr (2, f1)), (h2, .inl (cI, 13312, .inl g0))] s.heap := hP
  have hl := lv_entry ([.ref h0, .int 43] : List Value) (n := 2) (Nat.le_of_ble_eq_true rfl)
  rw [lg_entry_eq]
  generalize (lg_sl ([.ref h0, .int 43]) ++ List.replicate (2 - (lg_sl ([.ref h0, .int 43])).length) Slot.unset).toArray = ls at hl ⊢
  have hl : lv_has ls 2 [(0, .ref h0), (1, .int 43)] := hl
  refine lv_aload_n hx hb dX8_step_0 rfl (lv_at hl 0 rfl) ?_
  refine va_get (D := D) (ref := "IntegerHouse$Reader") (ci := 8) (v := .ref h1) (C := RX8) (T := TX8) (N := 15) hx hb hts hin8 hown hK hP 0 rfl rfl 1 (by decide) (hts (.fieldLink RX8 15 "IntegerHouse$Reader" "house" "LIntegerHouse$House;") (List.mem_cons_of_mem _ (List.mem_append_left _ (List.mem_append_left _ (List.mem_of_getElem? (i := 0) rfl))))) (fun _ h9 => h9) e0 dX8_step_1 ?_
  refine lv_aload_n hx hb dX8_step_4 rfl (lv_at hl 0 rfl) ?_
  refine va_get (D := D) (ref := "IntegerHouse$Reader") (ci := 8) (v := .int 24) (C := RX8) (T := TX8) (N := 15) hx hb hts hin8 hown hK hP 0 rfl rfl 11 (by decide) (hts (.fieldLink RX8 164 "IntegerHouse$Reader" "slot" "I") (List.mem_cons_of_mem _ (List.mem_append_left _ (List.mem_append_left _ (List.mem_of_getElem? (i := 1) rfl))))) (fun _ h9 => h9) e1 dX8_step_5 ?_
  refine lv_aload_n hx hb dX8_step_8 rfl (lv_at hl 0 rfl) ?_
  refine va_get (D := D) (ref := "IntegerHouse$Reader") (ci := 8) (v := .int 2) (C := RX8) (T := TX8) (N := 15) hx hb hts hin8 hown hK hP 0 rfl rfl 13 (by decide) (hts (.fieldLink RX8 170 "IntegerHouse$Reader" "steps" "I") (List.mem_cons_of_mem _ (List.mem_append_left _ (List.mem_append_left _ (List.mem_of_getElem? (i := 2) rfl))))) (fun _ h9 => h9) e2 dX8_step_9 ?_
  refine lv_iload_n hx hb dX8_step_12 rfl (lv_at hl 1 rfl) ?_
  refine k_cVv (As := [.int 24, .int 2, .int 43]) (rest := []) (wc := [(h1, .inr (2, f1)), (h2, .inl (cI, 13312, .inl g0))]) (wr := [(h0, .inr (8, f0))]) (w1 := (fun _ : Unit => [(h1, .inr (2, f1)), (h2, .inl (cI, 13312, .inl (upd g0 12290 43)))])) ⟨hx, hb, hml, hown, hts⟩ hN hX hAE hK hP hD hS hA [1, 2] [0] (ci := 2) rfl rfl rfl rfl (by decide +kernel) (by decide +kernel) (by decide +kernel) (c_X2_setStep_2 l E D cI cJ cB cZ h1 f1 h2 g0 e3) (cwV 3 hts gX8_step_X2_setStep rfl rfl rfl (by decide +kernel) ⟨Nat.le_of_ble_eq_true rfl, Nat.le_of_ble_eq_true rfl⟩) rfl hl.1 (Nat.le_of_ble_eq_true rfl) dX8_step_13 ⟨Nat.le_of_ble_eq_true rfl, Nat.le_of_ble_eq_true rfl⟩ (fun _ H locs hP hD hS => ?_)
  have hP : va_P D vwCl [(h0, .inr (8, f0)), (h1, .inr (2, f1)), (h2, .inl (cI, 13312, .inl (upd g0 12290 43)))] H := hP
  have hD : va_D A [(h0, .inr (8, f0)), (h1, .inr (2, f1)), (h2, .inl (cI, 13312, .inl (upd g0 12290 43)))] := hD
  refine lv_aload_n hx hb dX8_step_16 rfl (lv_at hl 0 rfl) ?_
  refine lv_dup hx hb dX8_step_17 rfl ?_
  refine va_get (D := D) (ref := "IntegerHouse$Reader") (ci := 8) (v := .int 2) (C := RX8) (T := TX8) (N := 15) hx hb hts hin8 hown hK hP 0 rfl rfl 13 (by decide) (hts (.fieldLink RX8 170 "IntegerHouse$Reader" "steps" "I") (List.mem_cons_of_mem _ (List.mem_append_left _ (List.mem_append_left _ (List.mem_of_getElem? (i := 2) rfl))))) (fun _ h9 => h9) e2 dX8_step_18 ?_
  refine lv_iconst (v := 1) hx hb dX8_step_21 (by decide) ?_
  refine lv_iadd hx hb dX8_step_22 ?_
  refine k_topi (y := 3) (by decide) ?_
  refine va_put (D := D) (ref := "IntegerHouse$Reader") (ci := 8) (v := .int 3) (ty := .int) (C := RX8) (T := TX8) (N := 15) hx hb hts hin8 tyX8 tyX8_ok nmX8 hown hK hP hD hS 0 rfl rfl 13 (by decide) (hts (.fieldLink RX8 170 "IntegerHouse$Reader" "steps" "I") (List.mem_cons_of_mem _ (List.mem_append_left _ (List.mem_append_left _ (List.mem_of_getElem? (i := 2) rfl))))) (fun _ h9 => h9) rfl (by decide +kernel) rfl rfl (k_len e2) dX8_step_23 (fun H locs hP hD hS => ?_)
  have hP : va_P D vwCl [(h0, .inr (8, (f0.set 13 (.int 3)))), (h1, .inr (2, f1)), (h2, .inl (cI, 13312, .inl (upd g0 12290 43)))] H := hP
  have hD : va_D A [(h0, .inr (8, (f0.set 13 (.int 3)))), (h1, .inr (2, f1)), (h2, .inl (cI, 13312, .inl (upd g0 12290 43)))] := hD
  exact W.vret hx hb hr (fun t ht hW => ⟨⟨(), rfl, trivial, kB_mk ht hW hP hK hD⟩, hS.F ht⟩) hS.2.2 dX8_step_26
set_option maxHeartbeats 400000000 in
set_option maxRecDepth 100000 in
theorem c_X8_part_1 (l : Launch) (E : kE) (D : va_G) (cI cJ cB cZ : ClassId) (h0 : Nat) (f0 : List Value) (h1 : Nat) (f1 : List Value) (h2 : Nat) (f2 : List Value) (h3 : Nat) (g0 : Nat → Int32) (e0 : f0[0]? = some (.ref h1)) (e1 : f0[6]? = some (.int 0)) (e2 : f1[5]? = some (.int 0)) (e3 : f0[7]? = some (.int 44)) (e4 : f0[1]? = some (.ref h2)) (e5 : f2[10]? = some (.int 0)) (e6 : f0[3]? = some (.int 2)) (e7 : f0[11]? = some (.int 24)) (e8 : f0[13]? = some (.int 2)) (e9 : f2[3]? = some (.ref h3)) : kV l E D (kT cI cJ cB cZ) yX8_part wsX8_part ({ frames := 2, cells := 0, slots := 0, locals := 45 }) [.ref h0, .int 0] [(h0, .inr (8, f0)), (h1, .inr (3, f1)), (h2, .inr (2, f2)), (h3, .inl (cI, 13312, .inl g0))] (fun _ : Unit => [(h0, .inr (8, ((f0.set 7 (.int 44)).set 13 (.int 3)))), (h1, .inr (3, f1)), (h2, .inr (2, f2)), (h3, .inl (cI, 13312, .inl (upd g0 12290 43)))]) 0 0 := by
  intro sz
  refine Met.ofW (cc := cX8_part) (maxL := 5) (ret := none) (by decide) rfl ?_
  intro p e s m args below meth c s₁ B hml hv
  obtain ⟨rfl, hsz, hP, hK, hD0, hN, hX⟩ := hv
  have hx := B.exec
  have hb := B.bytes
  have hr := B.returns
  have hts := atoms_spec (ws := wsX8_part) B.pre
  have hown : s.vm.findClass RX8 = some m.cls := findClass_of_methodNamed B.named
  have hlocks := B.notSynchronized
  have hin8 : ∀ w ∈ wsX80, w ∈ wsX8_part := (fun w h => (List.mem_cons_of_mem _ (List.mem_append_left _ (List.mem_append_left _ (List.mem_append_right _ h)))))
  subst hsz
  have hD := hD0.self (sz := s.heap.size)
  have hAE := k_AE hD0 hX
  generalize hAe : va_A [(h0, .inr (8, f0)), (h1, .inr (3, f1)), (h2, .inr (2, f2)), (h3, .inl (cI, 13312, .inl g0))] s.heap.size = A at hD hAE ⊢
  have hA : ∀ q : Nat, s.heap.size ≤ q → A q := fun q h => by rw [← hAe]; exact Or.inr h
  have hS : va_S A s.heap s.heap [] := va_S.rf
  have hP : va_P D vwCl [(h0, .inr (8, f0)), (h1, .inr (3, f1)), (h2, .inr (2, f2)), (h3, .inl (cI, 13312, .inl g0))] s.heap := hP
  have hl := lv_entry ([.ref h0, .int 0] : List Value) (n := 5) (Nat.le_of_ble_eq_true rfl)
  rw [lg_entry_eq]
  generalize (lg_sl ([.ref h0, .int 0]) ++ List.replicate (5 - (lg_sl ([.ref h0, .int 0])).length) Slot.unset).toArray = ls at hl ⊢
  have hl : lv_has ls 5 [(0, .ref h0), (1, .int 0)] := hl
  refine lv_aload_n hx hb dX8_part_0 rfl (lv_at hl 0 rfl) ?_
  refine va_get (D := D) (ref := "IntegerHouse$Reader") (ci := 8) (v := .ref h1) (C := RX8) (T := TX8) (N := 15) hx hb hts hin8 hown hK hP 0 rfl rfl 0 (by decide) (hts (.fieldLink RX8 9 "IntegerHouse$Reader" "lexer" "LIntegerHouse$Lexer;") (List.mem_cons_of_mem _ (List.mem_append_left _ (List.mem_append_left _ (List.mem_append_left _ (List.mem_append_left _ (List.mem_of_getElem? (i := 0) rfl))))))) (fun _ h9 => h9) e0 dX8_part_1 ?_
  refine lv_aload_n hx hb dX8_part_4 rfl (lv_at hl 0 rfl) ?_
  refine va_get (D := D) (ref := "IntegerHouse$Reader") (ci := 8) (v := .int 0) (C := RX8) (T := TX8) (N := 15) hx hb hts hin8 hown hK hP 0 rfl rfl 6 (by decide) (hts (.fieldLink RX8 79 "IntegerHouse$Reader" "at" "I") (List.mem_cons_of_mem _ (List.mem_append_left _ (List.mem_append_left _ (List.mem_append_left _ (List.mem_append_left _ (List.mem_of_getElem? (i := 1) rfl))))))) (fun _ h9 => h9) e1 dX8_part_5 ?_
  refine k_cVi (As := [.int 0]) (rest := []) (wc := [(h1, .inr (3, f1))]) (wr := [(h0, .inr (8, f0)), (h2, .inr (2, f2)), (h3, .inl (cI, 13312, .inl g0))]) (w1 := [(h1, .inr (3, f1))]) ⟨hx, hb, hml, hown, hts⟩ hN hX hAE hK hP hD hS hA [1] [0, 2, 3] (ci := 3) rfl rfl rfl rfl (by decide +kernel) (by decide +kernel) (by decide +kernel) (c_X3_numberAt_0 l E D cI cJ cB cZ h1 f1 e2) (cwV 1 hts gX8_part_X3_numberAt rfl rfl rfl (by decide +kernel) ⟨Nat.le_of_ble_eq_true rfl, Nat.le_of_ble_eq_true rfl⟩) rfl hl.1 (Nat.le_of_ble_eq_true rfl) dX8_part_8 ⟨Nat.le_of_ble_eq_true rfl, Nat.le_of_ble_eq_true rfl⟩ (fun H locs hP hD hS => ?_)
  have hP : va_P D vwCl [(h0, .inr (8, f0)), (h2, .inr (2, f2)), (h3, .inl (cI, 13312, .inl g0)), (h1, .inr (3, f1))] H := hP
  have hD : va_D A [(h0, .inr (8, f0)), (h2, .inr (2, f2)), (h3, .inl (cI, 13312, .inl g0)), (h1, .inr (3, f1))] := hD
  refine lv_istore_n (lv' := [(2, .int 0), (0, .ref h0), (1, .int 0)]) hx hb dX8_part_11 rfl hl (by decide) rfl (fun ls hl => ?_)
  refine lv_aload_n hx hb dX8_part_12 rfl (lv_at hl 1 rfl) ?_
  refine va_get (D := D) (ref := "IntegerHouse$Reader") (ci := 8) (v := .int 44) (C := RX8) (T := TX8) (N := 15) hx hb hts hin8 hown hK hP 0 rfl rfl 7 (by decide) (hts (.fieldLink RX8 39 "IntegerHouse$Reader" "kind" "I") (List.mem_cons_of_mem _ (List.mem_append_left _ (List.mem_append_left _ (List.mem_append_left _ (List.mem_append_left _ (List.mem_of_getElem? (i := 2) rfl))))))) (fun _ h9 => h9) e3 dX8_part_13 ?_
  refine lv_iconst (v := 2) hx hb dX8_part_16 (by decide) ?_
  refine lv_icmp_ne (tgt := 24) hx hb dX8_part_17 (by decide) (fun _ => ?_) (fun c9 => absurd c9 (by decide))
  refine lv_iconst (v := 0) hx hb dX8_part_24 (by decide) ?_
  refine lv_istore_n (lv' := [(3, .int 0), (2, .int 0), (0, .ref h0), (1, .int 0)]) hx hb dX8_part_25 rfl hl (by decide) rfl (fun ls hl => ?_)
  refine lv_iload_n hx hb dX8_part_26 rfl (lv_at hl 0 rfl) ?_
  refine lv_if_eq (tgt := 51) hx hb dX8_part_27 (by decide) (fun _ => ?_) (fun c9 => absurd (by decide) c9)
  refine lv_iload_n hx hb dX8_part_51 rfl (lv_at hl 0 rfl) ?_
  refine lv_if_eq (tgt := 68) hx hb dX8_part_52 (by decide) (fun _ => ?_) (fun c9 => absurd (by decide) c9)
  refine lv_iconst (v := 0) hx hb dX8_part_68 (by decide) ?_
  refine lv_istore (lv' := [(4, .int 0), (3, .int 0), (2, .int 0), (0, .ref h0), (1, .int 0)]) hx hb dX8_part_69 hl (by decide) rfl (fun ls hl => ?_)
  refine lv_iload hx hb dX8_part_71 (lv_at hl 0 rfl) ?_
  refine lv_if_eq (tgt := 84) hx hb dX8_part_73 (by decide) (fun _ => ?_) (fun c9 => absurd (by decide) c9)
  refine lv_iload hx hb dX8_part_84 (lv_at hl 0 rfl) ?_
  refine lv_if_ne (tgt := 93) hx hb dX8_part_86 (by decide) (fun c9 => absurd (by decide) c9) (fun _ => ?_)
  refine lv_iload_n hx hb dX8_part_89 rfl (lv_at hl 1 rfl) ?_
  refine lv_if_ne (tgt := 97) hx hb dX8_part_90 (by decide) (fun c9 => absurd (by decide) c9) (fun _ => ?_)
  refine lv_aload_n hx hb dX8_part_93 rfl (lv_at hl 3 rfl) ?_
  refine k_cVv (As := []) (rest := []) (wc := [(h0, .inr (8, f0)), (h1, .inr (3, f1)), (h2, .inr (2, f2))]) (wr := [(h3, .inl (cI, 13312, .inl g0))]) (w1 := (fun _ : Unit => [(h0, .inr (8, (f0.set 7 (.int 44)))), (h1, .inr (3, f1)), (h2, .inr (2, f2))])) ⟨hx, hb, hml, hown, hts⟩ hN hX hAE hK hP hD hS hA [0, 3, 1] [2] (ci := 8) rfl rfl rfl rfl (by decide +kernel) (by decide +kernel) (by decide +kernel) (c_X8_factor_1 l E D cI cJ cB cZ h0 f0 h2 h1 f1 f2 e3 e4 e0 e1 e2 e5 e6) (cwV 0 hts gX8_part_X8_factor rfl rfl rfl (by decide +kernel) ⟨Nat.le_of_ble_eq_true rfl, Nat.le_of_ble_eq_true rfl⟩) rfl hl.1 (Nat.le_of_ble_eq_true rfl) dX8_part_94 ⟨Nat.le_of_ble_eq_true rfl, Nat.le_of_ble_eq_true rfl⟩ (fun _ H locs hP hD hS => ?_)
  have hP : va_P D vwCl [(h3, .inl (cI, 13312, .inl g0)), (h0, .inr (8, (f0.set 7 (.int 44)))), (h1, .inr (3, f1)), (h2, .inr (2, f2))] H := hP
  have hD : va_D A [(h3, .inl (cI, 13312, .inl g0)), (h0, .inr (8, (f0.set 7 (.int 44)))), (h1, .inr (3, f1)), (h2, .inr (2, f2))] := hD
  refine lv_iload_n hx hb dX8_part_97 rfl (lv_at hl 1 rfl) ?_
  refine lv_if_eq (tgt := 121) hx hb dX8_part_98 (by decide) (fun _ => ?_) (fun c9 => absurd (by decide) c9)
  refine lv_iload_n hx hb dX8_part_121 rfl (lv_at hl 4 rfl) ?_
  refine lv_if_eq (tgt := 131) hx hb dX8_part_122 (by decide) (fun _ => ?_) (fun c9 => absurd (by decide) c9)
  refine lv_aload_n hx hb dX8_part_131 rfl (lv_at hl 3 rfl) ?_
  refine lv_bipush (v := 43) hx hb dX8_part_132 (by decide) ?_
  refine k_cVv (As := [.int 43]) (rest := []) (wc := [(h0, .inr (8, (f0.set 7 (.int 44)))), (h2, .inr (2, f2)), (h3, .inl (cI, 13312, .inl g0))]) (wr := [(h1, .inr (3, f1))]) (w1 := (fun _ : Unit => [(h0, .inr (8, ((f0.set 7 (.int 44)).set 13 (.int 3)))), (h2, .inr (2, f2)), (h3, .inl (cI, 13312, .inl (upd g0 12290 43)))])) ⟨hx, hb, hml, hown, hts⟩ hN hX hAE hK hP hD hS hA [1, 3, 0] [2] (ci := 8) rfl rfl rfl rfl (by decide +kernel) (by decide +kernel) (by decide +kernel) (c_X8_step_2 l E D cI cJ cB cZ h0 ((f0.set 7 (.int 44))) h2 f2 h3 g0 (k_ne (by decide) e4) (k_ne (by decide) e7) (k_ne (by decide) e8) e9) (cwV 1 hts gX8_part_X8_step rfl rfl rfl (by decide +kernel) ⟨Nat.le_of_ble_eq_true rfl, Nat.le_of_ble_eq_true rfl⟩) rfl hl.1 (Nat.le_of_ble_eq_true rfl) dX8_part_134 ⟨Nat.le_of_ble_eq_true rfl, Nat.le_of_ble_eq_true rfl⟩ (fun _ H locs hP hD hS => ?_)
  have hP : va_P D vwCl [(h1, .inr (3, f1)), (h0, .inr (8, ((f0.set 7 (.int 44)).set 13 (.int 3)))), (h2, .inr (2, f2)), (h3, .inl (cI, 13312, .inl (upd g0 12290 43)))] H := hP
  have hD : va_D A [(h1, .inr (3, f1)), (h0, .inr (8, ((f0.set 7 (.int 44)).set 13 (.int 3)))), (h2, .inr (2, f2)), (h3, .inl (cI, 13312, .inl (upd g0 12290 43)))] := hD
  have hP := hP.sub (ws' := [(h0, .inr (8, ((f0.set 7 (.int 44)).set 13 (.int 3)))), (h1, .inr (3, f1)), (h2, .inr (2, f2)), (h3, .inl (cI, 13312, .inl (upd g0 12290 43)))]) [1, 0, 2, 3] rfl
  have hD := hD.sub (ws' := [(h0, .inr (8, ((f0.set 7 (.int 44)).set 13 (.int 3)))), (h1, .inr (3, f1)), (h2, .inr (2, f2)), (h3, .inl (cI, 13312, .inl (upd g0 12290 43)))]) [1, 0, 2, 3] (by decide +kernel) rfl
  exact W.vret hx hb hr (fun t ht hW => ⟨⟨(), rfl, trivial, kB_mk ht hW hP hK hD⟩, hS.F ht⟩) hS.2.2 dX8_part_137
set_option maxHeartbeats 400000000 in
set_option maxRecDepth 100000 in
theorem c_X2_setStep_3 (l : Launch) (E : kE) (D : va_G) (cI cJ cB cZ : ClassId) (h0 : Nat) (f0 : List Value) (h1 : Nat) (g0 : Nat → Int32) (e0 : f0[3]? = some (.ref h1)) : kV l E D (kT cI cJ cB cZ) yX2_setStep wsX2_setStep ({ frames := 0, cells := 0, slots := 0, locals := 0 }) [.ref h0, .int 24, .int 3, .int 43] [(h0, .inr (2, f0)), (h1, .inl (cI, 13312, .inl g0))] (fun _ : Unit => [(h0, .inr (2, f0)), (h1, .inl (cI, 13312, .inl (upd g0 12291 43)))]) 0 0 := by
  intro sz
  refine Met.ofW (cc := cX2_setStep) (maxL := 4) (ret := none) (by decide) rfl ?_
  intro p e s m args below meth c s₁ B hml hv
  obtain ⟨rfl, hsz, hP, hK, hD0, hN, hX⟩ := hv
  have hx := B.exec
  have hb := B.bytes
  have hr := B.returns
  have hts := atoms_spec (ws := wsX2_setStep) B.pre
  have hown : s.vm.findClass RX2 = some m.cls := findClass_of_methodNamed B.named
  have hlocks := B.notSynchronized
  have hin2 : ∀ w ∈ wsX20, w ∈ wsX2_setStep := (fun w h => (List.mem_cons_of_mem _ (List.mem_append_right _ h)))
  subst hsz
  have hD := hD0.self (sz := s.heap.size)
  have hAE := k_AE hD0 hX
  generalize hAe : va_A [(h0, .inr (2, f0)), (h1, .inl (cI, 13312, .inl g0))] s.heap.size = A at hD hAE ⊢
  have hA : ∀ q : Nat, s.heap.size ≤ q → A q := fun q h => by rw [← hAe]; exact Or.inr h
  have hS : va_S A s.heap s.heap [] := va_S.rf
  have hP : va_P D vwCl [(h0, .inr (2, f0)), (h1, .inl (cI, 13312, .inl g0))] s.heap := hP
  have hl := lv_entry ([.ref h0, .int 24, .int 3, .int 43] : List Value) (n := 4) (Nat.le_of_ble_eq_true rfl)
  rw [lg_entry_eq]
  generalize (lg_sl ([.ref h0, .int 24, .int 3, .int 43]) ++ List.replicate (4 - (lg_sl ([.ref h0, .int 24, .int 3, .int 43])).length) Slot.unset).toArray = ls at hl ⊢
  have hl : lv_has ls 4 [(0, .ref h0), (1, .int 24), (2, .int 3), (3, .int 43)] := hl
  refine lv_iload_n hx hb dX2_setStep_0 rfl (lv_at hl 1 rfl) ?_
  refine lv_if_lt (tgt := 34) hx hb dX2_setStep_1 (by decide) (fun c9 => absurd c9 (by decide)) (fun _ => ?_)
  refine lv_iload_n hx hb dX2_setStep_4 rfl (lv_at hl 1 rfl) ?_
  refine lv_bipush (v := 26) hx hb dX2_setStep_5 (by decide) ?_
  refine lv_icmp_ge (tgt := 34) hx hb dX2_setStep_7 (by decide) (fun c9 => absurd c9 (by decide)) (fun _ => ?_)
  refine lv_iload_n hx hb dX2_setStep_10 rfl (lv_at hl 2 rfl) ?_
  refine lv_if_lt (tgt := 34) hx hb dX2_setStep_11 (by decide) (fun c9 => absurd c9 (by decide)) (fun _ => ?_)
  refine lv_iload_n hx hb dX2_setStep_14 rfl (lv_at hl 2 rfl) ?_
  refine lv_sipush (v := 512) hx hb dX2_setStep_15 (by decide) ?_
  refine lv_icmp_ge (tgt := 34) hx hb dX2_setStep_18 (by decide) (fun c9 => absurd c9 (by decide)) (fun _ => ?_)
  refine lv_aload_n hx hb dX2_setStep_21 rfl (lv_at hl 0 rfl) ?_
  refine va_get (D := D) (ref := "IntegerHouse$House") (ci := 2) (v := .ref h1) (C := RX2) (T := TX2) (N := 16) hx hb hts hin2 hown hK hP 0 rfl rfl 3 (by decide) (hts (.fieldLink RX2 22 "IntegerHouse$House" "steps" "[I") (List.mem_cons_of_mem _ (List.mem_append_left _ (List.mem_of_getElem? (i := 0) rfl)))) (fun _ h9 => h9) e0 dX2_setStep_22 ?_
  refine lv_iload_n hx hb dX2_setStep_25 rfl (lv_at hl 1 rfl) ?_
  refine lv_sipush (v := 512) hx hb dX2_setStep_26 (by decide) ?_
  refine lv_imul hx hb dX2_setStep_29 ?_
  refine k_topi (y := 12288) (by decide) ?_
  refine lv_iload_n hx hb dX2_setStep_30 rfl (lv_at hl 2 rfl) ?_
  refine lv_iadd hx hb dX2_setStep_31 ?_
  refine k_topi (y := 12291) (by decide) ?_
  refine lv_iload_n hx hb dX2_setStep_32 rfl (lv_at hl 3 rfl) ?_
  refine va_iast hx hb hK hP hD hS 1 0 rfl rfl (k_in (by decide)) dX2_setStep_33 (fun H locs hP hD hS => ?_)
  have hP : va_P D vwCl [(h0, .inr (2, f0)), (h1, .inl (cI, 13312, .inl (upd g0 12291 43)))] H := hP
  have hD : va_D A [(h0, .inr (2, f0)), (h1, .inl (cI, 13312, .inl (upd g0 12291 43)))] := hD
  exact W.vret hx hb hr (fun t ht hW => ⟨⟨(), rfl, trivial, kB_mk ht hW hP hK hD⟩, hS.F ht⟩) hS.2.2 dX2_setStep_34
set_option maxHeartbeats 400000000 in
set_option maxRecDepth 100000 in
theorem c_X8_step_3 (l : Launch) (E : kE) (D : va_G) (cI cJ cB cZ : ClassId) (h0 : Nat) (f0 : List Value) (h1 : Nat) (f1 : List Value) (h2 : Nat) (g0 : Nat → Int32) (e0 : f0[1]? = some (.ref h1)) (e1 : f0[11]? = some (.int 24)) (e2 : f0[13]? = some (.int 3)) (e3 : f1[3]? = some (.ref h2)) : kV l E D (kT cI cJ cB cZ) yX8_step wsX8_step ({ frames := 1, cells := 0, slots := 0, locals := 23 }) [.ref h0, .int 43] [(h0, .inr (8, f0)), (h1, .inr (2, f1)), (h2, .inl (cI, 13312, .inl g0))] (fun _ : Unit => [(h0, .inr (8, (f0.set 13 (.int 4)))), (h1, .inr (2, f1)), (h2, .inl (cI, 13312, .inl (upd g0 12291 43)))]) 0 0 := by
  intro sz
  refine Met.ofW (cc := cX8_step) (maxL := 2) (ret := none) (by decide) rfl ?_
  intro p e s m args below meth c s₁ B hml hv
  obtain ⟨rfl, hsz, hP, hK, hD0, hN, hX⟩ := hv
  have hx := B.exec
  have hb := B.bytes
  have hr := B.returns
  have hts := atoms_spec (ws := wsX8_step) B.pre
  have hown : s.vm.findClass RX8 = some m.cls := findClass_of_methodNamed B.named
  have hlocks := B.notSynchronized
  have hin8 : ∀ w ∈ wsX80, w ∈ wsX8_step := (fun w h => (List.mem_cons_of_mem _ (List.mem_append_left _ (List.mem_append_right _ h))))
  subst hsz
  have hD := hD0.self (sz := s.heap.size)
  have hAE := k_AE hD0 hX
  generalize hAe : va_A [(h0, .inr (8, f0)), (h1, .inr (2, f1)), (h2, .inl (cI, 13312, .inl g0))] s.heap.size = A at hD hAE ⊢
  have hA : ∀ q : Nat, s.heap.size ≤ q → A q := fun q h => by rw [← hAe]; exact Or.inr h
  have hS : va_S A s.heap s.heap [] := va_S.rf
  have hP : va_P D vwCl [(h0, .inr (8, f0)), (h1, .inr (2, f1)), (h2, .inl (cI, 13312, .inl g0))] s.heap := hP
  have hl := lv_entry ([.ref h0, .int 43] : List Value) (n := 2) (Nat.le_of_ble_eq_true rfl)
  rw [lg_entry_eq]
  generalize (lg_sl ([.ref h0, .int 43]) ++ List.replicate (2 - (lg_sl ([.ref h0, .int 43])).length) Slot.unset).toArray = ls at hl ⊢
  have hl : lv_has ls 2 [(0, .ref h0), (1, .int 43)] := hl
  refine lv_aload_n hx hb dX8_step_0 rfl (lv_at hl 0 rfl) ?_
  refine va_get (D := D) (ref := "IntegerHouse$Reader") (ci := 8) (v := .ref h1) (C := RX8) (T := TX8) (N := 15) hx hb hts hin8 hown hK hP 0 rfl rfl 1 (by decide) (hts (.fieldLink RX8 15 "IntegerHouse$Reader" "house" "LIntegerHouse$House;") (List.mem_cons_of_mem _ (List.mem_append_left _ (List.mem_append_left _ (List.mem_of_getElem? (i := 0) rfl))))) (fun _ h9 => h9) e0 dX8_step_1 ?_
  refine lv_aload_n hx hb dX8_step_4 rfl (lv_at hl 0 rfl) ?_
  refine va_get (D := D) (ref := "IntegerHouse$Reader") (ci := 8) (v := .int 24) (C := RX8) (T := TX8) (N := 15) hx hb hts hin8 hown hK hP 0 rfl rfl 11 (by decide) (hts (.fieldLink RX8 164 "IntegerHouse$Reader" "slot" "I") (List.mem_cons_of_mem _ (List.mem_append_left _ (List.mem_append_left _ (List.mem_of_getElem? (i := 1) rfl))))) (fun _ h9 => h9) e1 dX8_step_5 ?_
  refine lv_aload_n hx hb dX8_step_8 rfl (lv_at hl 0 rfl) ?_
  refine va_get (D := D) (ref := "IntegerHouse$Reader") (ci := 8) (v := .int 3) (C := RX8) (T := TX8) (N := 15) hx hb hts hin8 hown hK hP 0 rfl rfl 13 (by decide) (hts (.fieldLink RX8 170 "IntegerHouse$Reader" "steps" "I") (List.mem_cons_of_mem _ (List.mem_append_left _ (List.mem_append_left _ (List.mem_of_getElem? (i := 2) rfl))))) (fun _ h9 => h9) e2 dX8_step_9 ?_
  refine lv_iload_n hx hb dX8_step_12 rfl (lv_at hl 1 rfl) ?_
  refine k_cVv (As := [.int 24, .int 3, .int 43]) (rest := []) (wc := [(h1, .inr (2, f1)), (h2, .inl (cI, 13312, .inl g0))]) (wr := [(h0, .inr (8, f0))]) (w1 := (fun _ : Unit => [(h1, .inr (2, f1)), (h2, .inl (cI, 13312, .inl (upd g0 12291 43)))])) ⟨hx, hb, hml, hown, hts⟩ hN hX hAE hK hP hD hS hA [1, 2] [0] (ci := 2) rfl rfl rfl rfl (by decide +kernel) (by decide +kernel) (by decide +kernel) (c_X2_setStep_3 l E D cI cJ cB cZ h1 f1 h2 g0 e3) (cwV 3 hts gX8_step_X2_setStep rfl rfl rfl (by decide +kernel) ⟨Nat.le_of_ble_eq_true rfl, Nat.le_of_ble_eq_true rfl⟩) rfl hl.1 (Nat.le_of_ble_eq_true rfl) dX8_step_13 ⟨Nat.le_of_ble_eq_true rfl, Nat.le_of_ble_eq_true rfl⟩ (fun _ H locs hP hD hS => ?_)
  have hP : va_P D vwCl [(h0, .inr (8, f0)), (h1, .inr (2, f1)), (h2, .inl (cI, 13312, .inl (upd g0 12291 43)))] H := hP
  have hD : va_D A [(h0, .inr (8, f0)), (h1, .inr (2, f1)), (h2, .inl (cI, 13312, .inl (upd g0 12291 43)))] := hD
  refine lv_aload_n hx hb dX8_step_16 rfl (lv_at hl 0 rfl) ?_
  refine lv_dup hx hb dX8_step_17 rfl ?_
  refine va_get (D := D) (ref := "IntegerHouse$Reader") (ci := 8) (v := .int 3) (C := RX8) (T := TX8) (N := 15) hx hb hts hin8 hown hK hP 0 rfl rfl 13 (by decide) (hts (.fieldLink RX8 170 "IntegerHouse$Reader" "steps" "I") (List.mem_cons_of_mem _ (List.mem_append_left _ (List.mem_append_left _ (List.mem_of_getElem? (i := 2) rfl))))) (fun _ h9 => h9) e2 dX8_step_18 ?_
  refine lv_iconst (v := 1) hx hb dX8_step_21 (by decide) ?_
  refine lv_iadd hx hb dX8_step_22 ?_
  refine k_topi (y := 4) (by decide) ?_
  refine va_put (D := D) (ref := "IntegerHouse$Reader") (ci := 8) (v := .int 4) (ty := .int) (C := RX8) (T := TX8) (N := 15) hx hb hts hin8 tyX8 tyX8_ok nmX8 hown hK hP hD hS 0 rfl rfl 13 (by decide) (hts (.fieldLink RX8 170 "IntegerHouse$Reader" "steps" "I") (List.mem_cons_of_mem _ (List.mem_append_left _ (List.mem_append_left _ (List.mem_of_getElem? (i := 2) rfl))))) (fun _ h9 => h9) rfl (by decide +kernel) rfl rfl (k_len e2) dX8_step_23 (fun H locs hP hD hS => ?_)
  have hP : va_P D vwCl [(h0, .inr (8, (f0.set 13 (.int 4)))), (h1, .inr (2, f1)), (h2, .inl (cI, 13312, .inl (upd g0 12291 43)))] H := hP
  have hD : va_D A [(h0, .inr (8, (f0.set 13 (.int 4)))), (h1, .inr (2, f1)), (h2, .inl (cI, 13312, .inl (upd g0 12291 43)))] := hD
  exact W.vret hx hb hr (fun t ht hW => ⟨⟨(), rfl, trivial, kB_mk ht hW hP hK hD⟩, hS.F ht⟩) hS.2.2 dX8_step_26
set_option maxHeartbeats 400000000 in
set_option maxRecDepth 100000 in
theorem c_X8_term_1 (l : Launch) (E : kE) (D : va_G) (cI cJ cB cZ : ClassId) (h0 : Nat) (f0 : List Value) (h1 : Nat) (f1 : List Value) (h2 : Nat) (f2 : List Value) (h3 : Nat) (g0 : Nat → Int32) (e0 : f0[7]? = some (.int 44)) (e1 : f0[0]? = some (.ref h1)) (e2 : f0[6]? = some (.int 0)) (e3 : f1[5]? = some (.int 0)) (e4 : f0[1]? = some (.ref h2)) (e5 : f2[10]? = some (.int 0)) (e6 : f0[3]? = some (.int 2)) (e7 : f0[11]? = some (.int 24)) (e8 : f0[13]? = some (.int 2)) (e9 : f2[3]? = some (.ref h3)) : kV l E D (kT cI cJ cB cZ) yX8_term wsX8_term ({ frames := 3, cells := 0, slots := 0, locals := 69 }) [.ref h0] [(h0, .inr (8, f0)), (h1, .inr (3, f1)), (h2, .inr (2, f2)), (h3, .inl (cI, 13312, .inl g0))] (fun _ : Unit => [(h0, .inr (8, (((f0.set 7 (.int 44)).set 13 (.int 3)).set 13 (.int 4)))), (h1, .inr (3, f1)), (h2, .inr (2, f2)), (h3, .inl (cI, 13312, .inl (upd (upd g0 12290 43) 12291 43)))]) 0 0 := by
  intro sz
  refine Met.ofW (cc := cX8_term) (maxL := 3) (ret := none) (by decide) rfl ?_
  intro p e s m args below meth c s₁ B hml hv
  obtain ⟨rfl, hsz, hP, hK, hD0, hN, hX⟩ := hv
  have hx := B.exec
  have hb := B.bytes
  have hr := B.returns
  have hts := atoms_spec (ws := wsX8_term) B.pre
  have hown : s.vm.findClass RX8 = some m.cls := findClass_of_methodNamed B.named
  have hlocks := B.notSynchronized
  have hin8 : ∀ w ∈ wsX80, w ∈ wsX8_term := (fun w h => (List.mem_cons_of_mem _ (List.mem_append_left _ (List.mem_append_left _ (List.mem_append_right _ h)))))
  subst hsz
  have hD := hD0.self (sz := s.heap.size)
  have hAE := k_AE hD0 hX
  generalize hAe : va_A [(h0, .inr (8, f0)), (h1, .inr (3, f1)), (h2, .inr (2, f2)), (h3, .inl (cI, 13312, .inl g0))] s.heap.size = A at hD hAE ⊢
  have hA : ∀ q : Nat, s.heap.size ≤ q → A q := fun q h => by rw [← hAe]; exact Or.inr h
  have hS : va_S A s.heap s.heap [] := va_S.rf
  have hP : va_P D vwCl [(h0, .inr (8, f0)), (h1, .inr (3, f1)), (h2, .inr (2, f2)), (h3, .inl (cI, 13312, .inl g0))] s.heap := hP
  have hl := lv_entry ([.ref h0] : List Value) (n := 3) (Nat.le_of_ble_eq_true rfl)
  rw [lg_entry_eq]
  generalize (lg_sl ([.ref h0]) ++ List.replicate (3 - (lg_sl ([.ref h0])).length) Slot.unset).toArray = ls at hl ⊢
  have hl : lv_has ls 3 [(0, .ref h0)] := hl
  refine lv_aload_n hx hb dX8_term_0 rfl (lv_at hl 0 rfl) ?_
  refine va_get (D := D) (ref := "IntegerHouse$Reader") (ci := 8) (v := .int 44) (C := RX8) (T := TX8) (N := 15) hx hb hts hin8 hown hK hP 0 rfl rfl 7 (by decide) (hts (.fieldLink RX8 39 "IntegerHouse$Reader" "kind" "I") (List.mem_cons_of_mem _ (List.mem_append_left _ (List.mem_append_left _ (List.mem_append_left _ (List.mem_append_left _ (List.mem_of_getElem? (i := 0) rfl))))))) (fun _ h9 => h9) e0 dX8_term_1 ?_
  refine lv_bipush (v := 12) hx hb dX8_term_4 (by decide) ?_
  refine lv_icmp_ne (tgt := 13) hx hb dX8_term_6 (by decide) (fun _ => ?_) (fun c9 => absurd c9 (by decide))
  refine lv_iconst (v := 0) hx hb dX8_term_13 (by decide) ?_
  refine lv_istore_n (lv' := [(1, .int 0), (0, .ref h0)]) hx hb dX8_term_14 rfl hl (by decide) rfl (fun ls hl => ?_)
  refine lv_iload_n hx hb dX8_term_15 rfl (lv_at hl 0 rfl) ?_
  refine lv_if_eq (tgt := 27) hx hb dX8_term_16 (by decide) (fun _ => ?_) (fun c9 => absurd (by decide) c9)
  refine lv_aload_n hx hb dX8_term_27 rfl (lv_at hl 1 rfl) ?_
  refine lv_iload_n hx hb dX8_term_28 rfl (lv_at hl 0 rfl) ?_
  refine k_cVv (As := [.int 0]) (rest := []) (wc := [(h0, .inr (8, f0)), (h1, .inr (3, f1)), (h2, .inr (2, f2)), (h3, .inl (cI, 13312, .inl g0))]) (wr := []) (w1 := (fun _ : Unit => [(h0, .inr (8, ((f0.set 7 (.int 44)).set 13 (.int 3)))), (h1, .inr (3, f1)), (h2, .inr (2, f2)), (h3, .inl (cI, 13312, .inl (upd g0 12290 43)))])) ⟨hx, hb, hml, hown, hts⟩ hN hX hAE hK hP hD hS hA [0, 1, 2, 3] [] (ci := 8) rfl rfl rfl rfl (by decide +kernel) (by decide +kernel) (by decide +kernel) (c_X8_part_1 l E D cI cJ cB cZ h0 f0 h1 f1 h2 f2 h3 g0 e1 e2 e3 e0 e4 e5 e6 e7 e8 e9) (cwV 1 hts gX8_term_X8_part rfl rfl rfl (by decide +kernel) ⟨Nat.le_of_ble_eq_true rfl, Nat.le_of_ble_eq_true rfl⟩) rfl hl.1 (Nat.le_of_ble_eq_true rfl) dX8_term_29 ⟨Nat.le_of_ble_eq_true rfl, Nat.le_of_ble_eq_true rfl⟩ (fun _ H locs hP hD hS => ?_)
  have hP : va_P D vwCl [(h0, .inr (8, ((f0.set 7 (.int 44)).set 13 (.int 3)))), (h1, .inr (3, f1)), (h2, .inr (2, f2)), (h3, .inl (cI, 13312, .inl (upd g0 12290 43)))] H := hP
  have hD : va_D A [(h0, .inr (8, ((f0.set 7 (.int 44)).set 13 (.int 3)))), (h1, .inr (3, f1)), (h2, .inr (2, f2)), (h3, .inl (cI, 13312, .inl (upd g0 12290 43)))] := hD
  refine lv_iconst (v := 0) hx hb dX8_term_32 (by decide) ?_
  refine lv_istore_n (lv' := [(2, .int 0), (1, .int 0), (0, .ref h0)]) hx hb dX8_term_33 rfl hl (by decide) rfl (fun ls hl => ?_)
  refine lv_iload_n hx hb dX8_term_34 rfl (lv_at hl 0 rfl) ?_
  refine lv_bipush (v := 120) hx hb dX8_term_35 (by decide) ?_
  refine lv_icmp_ge (tgt := 102) hx hb dX8_term_37 (by decide) (fun c9 => absurd c9 (by decide)) (fun _ => ?_)
  refine lv_aload_n hx hb dX8_term_40 rfl (lv_at hl 2 rfl) ?_
  refine va_get (D := D) (ref := "IntegerHouse$Reader") (ci := 8) (v := .int 44) (C := RX8) (T := TX8) (N := 15) hx hb hts hin8 hown hK hP 0 rfl rfl 7 (by decide) (hts (.fieldLink RX8 39 "IntegerHouse$Reader" "kind" "I") (List.mem_cons_of_mem _ (List.mem_append_left _ (List.mem_append_left _ (List.mem_append_left _ (List.mem_append_left _ (List.mem_of_getElem? (i := 0) rfl))))))) (fun _ h9 => h9) (k_ne (by decide) (k_set e0)) dX8_term_41 ?_
  refine lv_bipush (v := 11) hx hb dX8_term_44 (by decide) ?_
  refine lv_icmp_eq (tgt := 58) hx hb dX8_term_46 (by decide) (fun c9 => absurd c9 (by decide)) (fun _ => ?_)
  refine lv_aload_n hx hb dX8_term_49 rfl (lv_at hl 2 rfl) ?_
  refine va_get (D := D) (ref := "IntegerHouse$Reader") (ci := 8) (v := .int 44) (C := RX8) (T := TX8) (N := 15) hx hb hts hin8 hown hK hP 0 rfl rfl 7 (by decide) (hts (.fieldLink RX8 39 "IntegerHouse$Reader" "kind" "I") (List.mem_cons_of_mem _ (List.mem_append_left _ (List.mem_append_left _ (List.mem_append_left _ (List.mem_append_left _ (List.mem_of_getElem? (i := 0) rfl))))))) (fun _ h9 => h9) (k_ne (by decide) (k_set e0)) dX8_term_50 ?_
  refine lv_bipush (v := 12) hx hb dX8_term_53 (by decide) ?_
  refine lv_icmp_ne (tgt := 102) hx hb dX8_term_55 (by decide) (fun _ => ?_) (fun c9 => absurd c9 (by decide))
  refine lv_aload_n hx hb dX8_term_102 rfl (lv_at hl 2 rfl) ?_
  refine lv_bipush (v := 43) hx hb dX8_term_103 (by decide) ?_
  refine k_cVv (As := [.int 43]) (rest := []) (wc := [(h0, .inr (8, ((f0.set 7 (.int 44)).set 13 (.int 3)))), (h2, .inr (2, f2)), (h3, .inl (cI, 13312, .inl (upd g0 12290 43)))]) (wr := [(h1, .inr (3, f1))]) (w1 := (fun _ : Unit => [(h0, .inr (8, (((f0.set 7 (.int 44)).set 13 (.int 3)).set 13 (.int 4)))), (h2, .inr (2, f2)), (h3, .inl (cI, 13312, .inl (upd (upd g0 12290 43) 12291 43)))])) ⟨hx, hb, hml, hown, hts⟩ hN hX hAE hK hP hD hS hA [0, 2, 3] [1] (ci := 8) rfl rfl rfl rfl (by decide +kernel) (by decide +kernel) (by decide +kernel) (c_X8_step_3 l E D cI cJ cB cZ h0 (((f0.set 7 (.int 44)).set 13 (.int 3))) h2 f2 h3 ((upd g0 12290 43)) (k_ne (by decide) (k_ne (by decide) e4)) (k_ne (by decide) (k_ne (by decide) e7)) (k_set (k_ne (by decide) e8)) e9) (cwV 1 hts gX8_term_X8_step rfl rfl rfl (by decide +kernel) ⟨Nat.le_of_ble_eq_true rfl, Nat.le_of_ble_eq_true rfl⟩) rfl hl.1 (Nat.le_of_ble_eq_true rfl) dX8_term_105 ⟨Nat.le_of_ble_eq_true rfl, Nat.le_of_ble_eq_true rfl⟩ (fun _ H locs hP hD hS => ?_)
  have hP : va_P D vwCl [(h1, .inr (3, f1)), (h0, .inr (8, (((f0.set 7 (.int 44)).set 13 (.int 3)).set 13 (.int 4)))), (h2, .inr (2, f2)), (h3, .inl (cI, 13312, .inl (upd (upd g0 12290 43) 12291 43)))] H := hP
  have hD : va_D A [(h1, .inr (3, f1)), (h0, .inr (8, (((f0.set 7 (.int 44)).set 13 (.int 3)).set 13 (.int 4)))), (h2, .inr (2, f2)), (h3, .inl (cI, 13312, .inl (upd (upd g0 12290 43) 12291 43)))] := hD
  have hP := hP.sub (ws' := [(h0, .inr (8, (((f0.set 7 (.int 44)).set 13 (.int 3)).set 13 (.int 4)))), (h1, .inr (3, f1)), (h2, .inr (2, f2)), (h3, .inl (cI, 13312, .inl (upd (upd g0 12290 43) 12291 43)))]) [1, 0, 2, 3] rfl
  have hD := hD.sub (ws' := [(h0, .inr (8, (((f0.set 7 (.int 44)).set 13 (.int 3)).set 13 (.int 4)))), (h1, .inr (3, f1)), (h2, .inr (2, f2)), (h3, .inl (cI, 13312, .inl (upd (upd g0 12290 43) 12291 43)))]) [1, 0, 2, 3] (by decide +kernel) rfl
  exact W.vret hx hb hr (fun t ht hW => ⟨⟨(), rfl, trivial, kB_mk ht hW hP hK hD⟩, hS.F ht⟩) hS.2.2 dX8_term_108
set_option maxHeartbeats 400000000 in
set_option maxRecDepth 100000 in
theorem c_X2_setStep_4 (l : Launch) (E : kE) (D : va_G) (cI cJ cB cZ : ClassId) (h0 : Nat) (f0 : List Value) (h1 : Nat) (g0 : Nat → Int32) (e0 : f0[3]? = some (.ref h1)) : kV l E D (kT cI cJ cB cZ) yX2_setStep wsX2_setStep ({ frames := 0, cells := 0, slots := 0, locals := 0 }) [.ref h0, .int 24, .int 4, .int 44] [(h0, .inr (2, f0)), (h1, .inl (cI, 13312, .inl g0))] (fun _ : Unit => [(h0, .inr (2, f0)), (h1, .inl (cI, 13312, .inl (upd g0 12292 44)))]) 0 0 := by
  intro sz
  refine Met.ofW (cc := cX2_setStep) (maxL := 4) (ret := none) (by decide) rfl ?_
  intro p e s m args below meth c s₁ B hml hv
  obtain ⟨rfl, hsz, hP, hK, hD0, hN, hX⟩ := hv
  have hx := B.exec
  have hb := B.bytes
  have hr := B.returns
  have hts := atoms_spec (ws := wsX2_setStep) B.pre
  have hown : s.vm.findClass RX2 = some m.cls := findClass_of_methodNamed B.named
  have hlocks := B.notSynchronized
  have hin2 : ∀ w ∈ wsX20, w ∈ wsX2_setStep := (fun w h => (List.mem_cons_of_mem _ (List.mem_append_right _ h)))
  subst hsz
  have hD := hD0.self (sz := s.heap.size)
  have hAE := k_AE hD0 hX
  generalize hAe : va_A [(h0, .inr (2, f0)), (h1, .inl (cI, 13312, .inl g0))] s.heap.size = A at hD hAE ⊢
  have hA : ∀ q : Nat, s.heap.size ≤ q → A q := fun q h => by rw [← hAe]; exact Or.inr h
  have hS : va_S A s.heap s.heap [] := va_S.rf
  have hP : va_P D vwCl [(h0, .inr (2, f0)), (h1, .inl (cI, 13312, .inl g0))] s.heap := hP
  have hl := lv_entry ([.ref h0, .int 24, .int 4, .int 44] : List Value) (n := 4) (Nat.le_of_ble_eq_true rfl)
  rw [lg_entry_eq]
  generalize (lg_sl ([.ref h0, .int 24, .int 4, .int 44]) ++ List.replicate (4 - (lg_sl ([.ref h0, .int 24, .int 4, .int 44])).length) Slot.unset).toArray = ls at hl ⊢
  have hl : lv_has ls 4 [(0, .ref h0), (1, .int 24), (2, .int 4), (3, .int 44)] := hl
  refine lv_iload_n hx hb dX2_setStep_0 rfl (lv_at hl 1 rfl) ?_
  refine lv_if_lt (tgt := 34) hx hb dX2_setStep_1 (by decide) (fun c9 => absurd c9 (by decide)) (fun _ => ?_)
  refine lv_iload_n hx hb dX2_setStep_4 rfl (lv_at hl 1 rfl) ?_
  refine lv_bipush (v := 26) hx hb dX2_setStep_5 (by decide) ?_
  refine lv_icmp_ge (tgt := 34) hx hb dX2_setStep_7 (by decide) (fun c9 => absurd c9 (by decide)) (fun _ => ?_)
  refine lv_iload_n hx hb dX2_setStep_10 rfl (lv_at hl 2 rfl) ?_
  refine lv_if_lt (tgt := 34) hx hb dX2_setStep_11 (by decide) (fun c9 => absurd c9 (by decide)) (fun _ => ?_)
  refine lv_iload_n hx hb dX2_setStep_14 rfl (lv_at hl 2 rfl) ?_
  refine lv_sipush (v := 512) hx hb dX2_setStep_15 (by decide) ?_
  refine lv_icmp_ge (tgt := 34) hx hb dX2_setStep_18 (by decide) (fun c9 => absurd c9 (by decide)) (fun _ => ?_)
  refine lv_aload_n hx hb dX2_setStep_21 rfl (lv_at hl 0 rfl) ?_
  refine va_get (D := D) (ref := "IntegerHouse$House") (ci := 2) (v := .ref h1) (C := RX2) (T := TX2) (N := 16) hx hb hts hin2 hown hK hP 0 rfl rfl 3 (by decide) (hts (.fieldLink RX2 22 "IntegerHouse$House" "steps" "[I") (List.mem_cons_of_mem _ (List.mem_append_left _ (List.mem_of_getElem? (i := 0) rfl)))) (fun _ h9 => h9) e0 dX2_setStep_22 ?_
  refine lv_iload_n hx hb dX2_setStep_25 rfl (lv_at hl 1 rfl) ?_
  refine lv_sipush (v := 512) hx hb dX2_setStep_26 (by decide) ?_
  refine lv_imul hx hb dX2_setStep_29 ?_
  refine k_topi (y := 12288) (by decide) ?_
  refine lv_iload_n hx hb dX2_setStep_30 rfl (lv_at hl 2 rfl) ?_
  refine lv_iadd hx hb dX2_setStep_31 ?_
  refine k_topi (y := 12292) (by decide) ?_
  refine lv_iload_n hx hb dX2_setStep_32 rfl (lv_at hl 3 rfl) ?_
  refine va_iast hx hb hK hP hD hS 1 0 rfl rfl (k_in (by decide)) dX2_setStep_33 (fun H locs hP hD hS => ?_)
  have hP : va_P D vwCl [(h0, .inr (2, f0)), (h1, .inl (cI, 13312, .inl (upd g0 12292 44)))] H := hP
  have hD : va_D A [(h0, .inr (2, f0)), (h1, .inl (cI, 13312, .inl (upd g0 12292 44)))] := hD
  exact W.vret hx hb hr (fun t ht hW => ⟨⟨(), rfl, trivial, kB_mk ht hW hP hK hD⟩, hS.F ht⟩) hS.2.2 dX2_setStep_34
set_option maxHeartbeats 400000000 in
set_option maxRecDepth 100000 in
theorem c_X8_step_4 (l : Launch) (E : kE) (D : va_G) (cI cJ cB cZ : ClassId) (h0 : Nat) (f0 : List Value) (h1 : Nat) (f1 : List Value) (h2 : Nat) (g0 : Nat → Int32) (e0 : f0[1]? = some (.ref h1)) (e1 : f0[11]? = some (.int 24)) (e2 : f0[13]? = some (.int 4)) (e3 : f1[3]? = some (.ref h2)) : kV l E D (kT cI cJ cB cZ) yX8_step wsX8_step ({ frames := 1, cells := 0, slots := 0, locals := 23 }) [.ref h0, .int 44] [(h0, .inr (8, f0)), (h1, .inr (2, f1)), (h2, .inl (cI, 13312, .inl g0))] (fun _ : Unit => [(h0, .inr (8, (f0.set 13 (.int 5)))), (h1, .inr (2, f1)), (h2, .inl (cI, 13312, .inl (upd g0 12292 44)))]) 0 0 := by
  intro sz
  refine Met.ofW (cc := cX8_step) (maxL := 2) (ret := none) (by decide) rfl ?_
  intro p e s m args below meth c s₁ B hml hv
  obtain ⟨rfl, hsz, hP, hK, hD0, hN, hX⟩ := hv
  have hx := B.exec
  have hb := B.bytes
  have hr := B.returns
  have hts := atoms_spec (ws := wsX8_step) B.pre
  have hown : s.vm.findClass RX8 = some m.cls := findClass_of_methodNamed B.named
  have hlocks := B.notSynchronized
  have hin8 : ∀ w ∈ wsX80, w ∈ wsX8_step := (fun w h => (List.mem_cons_of_mem _ (List.mem_append_left _ (List.mem_append_right _ h))))
  subst hsz
  have hD := hD0.self (sz := s.heap.size)
  have hAE := k_AE hD0 hX
  generalize hAe : va_A [(h0, .inr (8, f0)), (h1, .inr (2, f1)), (h2, .inl (cI, 13312, .inl g0))] s.heap.size = A at hD hAE ⊢
  have hA : ∀ q : Nat, s.heap.size ≤ q → A q := fun q h => by rw [← hAe]; exact Or.inr h
  have hS : va_S A s.heap s.heap [] := va_S.rf
  have hP : va_P D vwCl [(h0, .inr (8, f0)), (h1, .inr (2, f1)), (h2, .inl (cI, 13312, .inl g0))] s.heap := hP
  have hl := lv_entry ([.ref h0, .int 44] : List Value) (n := 2) (Nat.le_of_ble_eq_true rfl)
  rw [lg_entry_eq]
  generalize (lg_sl ([.ref h0, .int 44]) ++ List.replicate (2 - (lg_sl ([.ref h0, .int 44])).length) Slot.unset).toArray = ls at hl ⊢
  have hl : lv_has ls 2 [(0, .ref h0), (1, .int 44)] := hl
  refine lv_aload_n hx hb dX8_step_0 rfl (lv_at hl 0 rfl) ?_
  refine va_get (D := D) (ref := "IntegerHouse$Reader") (ci := 8) (v := .ref h1) (C := RX8) (T := TX8) (N := 15) hx hb hts hin8 hown hK hP 0 rfl rfl 1 (by decide) (hts (.fieldLink RX8 15 "IntegerHouse$Reader" "house" "LIntegerHouse$House;") (List.mem_cons_of_mem _ (List.mem_append_left _ (List.mem_append_left _ (List.mem_of_getElem? (i := 0) rfl))))) (fun _ h9 => h9) e0 dX8_step_1 ?_
  refine lv_aload_n hx hb dX8_step_4 rfl (lv_at hl 0 rfl) ?_
  refine va_get (D := D) (ref := "IntegerHouse$Reader") (ci := 8) (v := .int 24) (C := RX8) (T := TX8) (N := 15) hx hb hts hin8 hown hK hP 0 rfl rfl 11 (by decide) (hts (.fieldLink RX8 164 "IntegerHouse$Reader" "slot" "I") (List.mem_cons_of_mem _ (List.mem_append_left _ (List.mem_append_left _ (List.mem_of_getElem? (i := 1) rfl))))) (fun _ h9 => h9) e1 dX8_step_5 ?_
  refine lv_aload_n hx hb dX8_step_8 rfl (lv_at hl 0 rfl) ?_
  refine va_get (D := D) (ref := "IntegerHouse$Reader") (ci := 8) (v := .int 4) (C := RX8) (T := TX8) (N := 15) hx hb hts hin8 hown hK hP 0 rfl rfl 13 (by decide) (hts (.fieldLink RX8 170 "IntegerHouse$Reader" "steps" "I") (List.mem_cons_of_mem _ (List.mem_append_left _ (List.mem_append_left _ (List.mem_of_getElem? (i := 2) rfl))))) (fun _ h9 => h9) e2 dX8_step_9 ?_
  refine lv_iload_n hx hb dX8_step_12 rfl (lv_at hl 1 rfl) ?_
  refine k_cVv (As := [.int 24, .int 4, .int 44]) (rest := []) (wc := [(h1, .inr (2, f1)), (h2, .inl (cI, 13312, .inl g0))]) (wr := [(h0, .inr (8, f0))]) (w1 := (fun _ : Unit => [(h1, .inr (2, f1)), (h2, .inl (cI, 13312, .inl (upd g0 12292 44)))])) ⟨hx, hb, hml, hown, hts⟩ hN hX hAE hK hP hD hS hA [1, 2] [0] (ci := 2) rfl rfl rfl rfl (by decide +kernel) (by decide +kernel) (by decide +kernel) (c_X2_setStep_4 l E D cI cJ cB cZ h1 f1 h2 g0 e3) (cwV 3 hts gX8_step_X2_setStep rfl rfl rfl (by decide +kernel) ⟨Nat.le_of_ble_eq_true rfl, Nat.le_of_ble_eq_true rfl⟩) rfl hl.1 (Nat.le_of_ble_eq_true rfl) dX8_step_13 ⟨Nat.le_of_ble_eq_true rfl, Nat.le_of_ble_eq_true rfl⟩ (fun _ H locs hP hD hS => ?_)
  have hP : va_P D vwCl [(h0, .inr (8, f0)), (h1, .inr (2, f1)), (h2, .inl (cI, 13312, .inl (upd g0 12292 44)))] H := hP
  have hD : va_D A [(h0, .inr (8, f0)), (h1, .inr (2, f1)), (h2, .inl (cI, 13312, .inl (upd g0 12292 44)))] := hD
  refine lv_aload_n hx hb dX8_step_16 rfl (lv_at hl 0 rfl) ?_
  refine lv_dup hx hb dX8_step_17 rfl ?_
  refine va_get (D := D) (ref := "IntegerHouse$Reader") (ci := 8) (v := .int 4) (C := RX8) (T := TX8) (N := 15) hx hb hts hin8 hown hK hP 0 rfl rfl 13 (by decide) (hts (.fieldLink RX8 170 "IntegerHouse$Reader" "steps" "I") (List.mem_cons_of_mem _ (List.mem_append_left _ (List.mem_append_left _ (List.mem_of_getElem? (i := 2) rfl))))) (fun _ h9 => h9) e2 dX8_step_18 ?_
  refine lv_iconst (v := 1) hx hb dX8_step_21 (by decide) ?_
  refine lv_iadd hx hb dX8_step_22 ?_
  refine k_topi (y := 5) (by decide) ?_
  refine va_put (D := D) (ref := "IntegerHouse$Reader") (ci := 8) (v := .int 5) (ty := .int) (C := RX8) (T := TX8) (N := 15) hx hb hts hin8 tyX8 tyX8_ok nmX8 hown hK hP hD hS 0 rfl rfl 13 (by decide) (hts (.fieldLink RX8 170 "IntegerHouse$Reader" "steps" "I") (List.mem_cons_of_mem _ (List.mem_append_left _ (List.mem_append_left _ (List.mem_of_getElem? (i := 2) rfl))))) (fun _ h9 => h9) rfl (by decide +kernel) rfl rfl (k_len e2) dX8_step_23 (fun H locs hP hD hS => ?_)
  have hP : va_P D vwCl [(h0, .inr (8, (f0.set 13 (.int 5)))), (h1, .inr (2, f1)), (h2, .inl (cI, 13312, .inl (upd g0 12292 44)))] H := hP
  have hD : va_D A [(h0, .inr (8, (f0.set 13 (.int 5)))), (h1, .inr (2, f1)), (h2, .inl (cI, 13312, .inl (upd g0 12292 44)))] := hD
  exact W.vret hx hb hr (fun t ht hW => ⟨⟨(), rfl, trivial, kB_mk ht hW hP hK hD⟩, hS.F ht⟩) hS.2.2 dX8_step_26
set_option maxHeartbeats 400000000 in
set_option maxRecDepth 100000 in
theorem c_X8_one_0 (l : Launch) (E : kE) (D : va_G) (cI cJ cB cZ : ClassId) (h0 : Nat) (f0 : List Value) (h1 : Nat) (f1 : List Value) (h2 : Nat) (f2 : List Value) (h3 : Nat) (g0 : Nat → Int32) (e0 : f0[7]? = some (.int 0)) (e1 : f0[0]? = some (.ref h1)) (e2 : f0[6]? = some (.int 0)) (e3 : f1[5]? = some (.int 0)) (e4 : f0[1]? = some (.ref h2)) (e5 : f2[10]? = some (.int 0)) (e6 : f0[3]? = some (.int 0)) (e7 : f0[8]? = some (.int 0)) (e8 : f0[4]? = some (.int 0)) (e9 : f0[11]? = some (.int 24)) (e10 : f0[13]? = some (.int 0)) (e11 : f2[3]? = some (.ref h3)) : kV l E D (kT cI cJ cB cZ) yX8_one wsX8_one ({ frames := 4, cells := 0, slots := 0, locals := 91 }) [.ref h0] [(h0, .inr (8, f0)), (h1, .inr (3, f1)), (h2, .inr (2, f2)), (h3, .inl (cI, 13312, .inl g0))] (fun _ : Unit => [(h0, .inr (8, ((((((((((f0.set 3 (.int 2)).set 4 (.int 0)).set 7 (.int 44)).set 13 (.int 1)).set 13 (.int 2)).set 7 (.int 44)).set 7 (.int 44)).set 13 (.int 3)).set 13 (.int 4)).set 13 (.int 5)))), (h1, .inr (3, f1)), (h2, .inr (2, f2)), (h3, .inl (cI, 13312, .inl (upd (upd (upd (upd (upd g0 12288 43) 12289 43) 12290 43) 12291 43) 12292 44)))]) 0 0 := by
  intro sz
  refine Met.ofW (cc := cX8_one) (maxL := 4) (ret := none) (by decide) rfl ?_
  intro p e s m args below meth c s₁ B hml hv
  obtain ⟨rfl, hsz, hP, hK, hD0, hN, hX⟩ := hv
  have hx := B.exec
  have hb := B.bytes
  have hr := B.returns
  have hts := atoms_spec (ws := wsX8_one) B.pre
  have hown : s.vm.findClass RX8 = some m.cls := findClass_of_methodNamed B.named
  have hlocks := B.notSynchronized
  have hin8 : ∀ w ∈ wsX80, w ∈ wsX8_one := (fun w h => (List.mem_cons_of_mem _ (List.mem_append_left _ (List.mem_append_left _ (List.mem_append_right _ h)))))
  subst hsz
  have hD := hD0.self (sz := s.heap.size)
  have hAE := k_AE hD0 hX
  generalize hAe : va_A [(h0, .inr (8, f0)), (h1, .inr (3, f1)), (h2, .inr (2, f2)), (h3, .inl (cI, 13312, .inl g0))] s.heap.size = A at hD hAE ⊢
  have hA : ∀ q : Nat, s.heap.size ≤ q → A q := fun q h => by rw [← hAe]; exact Or.inr h
  have hS : va_S A s.heap s.heap [] := va_S.rf
  have hP : va_P D vwCl [(h0, .inr (8, f0)), (h1, .inr (3, f1)), (h2, .inr (2, f2)), (h3, .inl (cI, 13312, .inl g0))] s.heap := hP
  have hl := lv_entry ([.ref h0] : List Value) (n := 4) (Nat.le_of_ble_eq_true rfl)
  rw [lg_entry_eq]
  generalize (lg_sl ([.ref h0]) ++ List.replicate (4 - (lg_sl ([.ref h0])).length) Slot.unset).toArray = ls at hl ⊢
  have hl : lv_has ls 4 [(0, .ref h0)] := hl
  refine lv_aload_n hx hb dX8_one_0 rfl (lv_at hl 0 rfl) ?_
  refine va_get (D := D) (ref := "IntegerHouse$Reader") (ci := 8) (v := .int 0) (C := RX8) (T := TX8) (N := 15) hx hb hts hin8 hown hK hP 0 rfl rfl 7 (by decide) (hts (.fieldLink RX8 39 "IntegerHouse$Reader" "kind" "I") (List.mem_cons_of_mem _ (List.mem_append_left _ (List.mem_append_left _ (List.mem_append_left _ (List.mem_append_left _ (List.mem_of_getElem? (i := 0) rfl))))))) (fun _ h9 => h9) e0 dX8_one_1 ?_
  refine lv_istore_n (lv' := [(1, .int 0), (0, .ref h0)]) hx hb dX8_one_4 rfl hl (by decide) rfl (fun ls hl => ?_)
  refine lv_iload_n hx hb dX8_one_5 rfl (lv_at hl 0 rfl) ?_
  refine lv_iconst (v := 1) hx hb dX8_one_6 (by decide) ?_
  refine lv_icmp_ne (tgt := 31) hx hb dX8_one_7 (by decide) (fun _ => ?_) (fun c9 => absurd c9 (by decide))
  refine lv_iconst (v := (-1)) hx hb dX8_one_31 (by decide) ?_
  refine lv_istore_n (lv' := [(2, .int (-1)), (1, .int 0), (0, .ref h0)]) hx hb dX8_one_32 rfl hl (by decide) rfl (fun ls hl => ?_)
  refine lv_iload_n hx hb dX8_one_33 rfl (lv_at hl 1 rfl) ?_
  refine lv_bipush (v := 25) hx hb dX8_one_34 (by decide) ?_
  refine lv_icmp_ne (tgt := 70) hx hb dX8_one_36 (by decide) (fun _ => ?_) (fun c9 => absurd c9 (by decide))
  refine lv_iload_n hx hb dX8_one_70 rfl (lv_at hl 1 rfl) ?_
  refine lv_iconst (v := 4) hx hb dX8_one_71 (by decide) ?_
  refine lv_icmp_ne (tgt := 94) hx hb dX8_one_72 (by decide) (fun _ => ?_) (fun c9 => absurd c9 (by decide))
  refine lv_iload_n hx hb dX8_one_94 rfl (lv_at hl 1 rfl) ?_
  refine lv_bipush (v := 26) hx hb dX8_one_95 (by decide) ?_
  refine lv_icmp_eq (tgt := 106) hx hb dX8_one_97 (by decide) (fun c9 => absurd c9 (by decide)) (fun _ => ?_)
  refine lv_iload_n hx hb dX8_one_100 rfl (lv_at hl 1 rfl) ?_
  refine lv_bipush (v := 27) hx hb dX8_one_101 (by decide) ?_
  refine lv_icmp_ne (tgt := 120) hx hb dX8_one_103 (by decide) (fun _ => ?_) (fun c9 => absurd c9 (by decide))
  refine lv_iload_n hx hb dX8_one_120 rfl (lv_at hl 0 rfl) ?_
  refine lv_iconst (v := (-1)) hx hb dX8_one_121 (by decide) ?_
  refine lv_icmp_eq (tgt := 151) hx hb dX8_one_122 (by decide) (fun _ => ?_) (fun c9 => absurd (by decide) c9)
  refine lv_iload_n hx hb dX8_one_151 rfl (lv_at hl 1 rfl) ?_
  refine lv_iconst (v := 2) hx hb dX8_one_152 (by decide) ?_
  refine lv_icmp_ne (tgt := 237) hx hb dX8_one_153 (by decide) (fun _ => ?_) (fun c9 => absurd c9 (by decide))
  refine lv_aload_n hx hb dX8_one_237 rfl (lv_at hl 2 rfl) ?_
  refine k_cVv (As := []) (rest := []) (wc := [(h0, .inr (8, f0)), (h1, .inr (3, f1)), (h2, .inr (2, f2)), (h3, .inl (cI, 13312, .inl g0))]) (wr := []) (w1 := (fun _ : Unit => [(h0, .inr (8, (((((f0.set 3 (.int 2)).set 4 (.int 0)).set 7 (.int 44)).set 13 (.int 1)).set 13 (.int 2)))), (h1, .inr (3, f1)), (h2, .inr (2, f2)), (h3, .inl (cI, 13312, .inl (upd (upd g0 12288 43) 12289 43)))])) ⟨hx, hb, hml, hown, hts⟩ hN hX hAE hK hP hD hS hA [0, 1, 2, 3] [] (ci := 8) rfl rfl rfl rfl (by decide +kernel) (by decide +kernel) (by decide +kernel) (c_X8_term_0 l E D cI cJ cB cZ h0 f0 h1 f1 h2 f2 h3 g0 e0 e1 e2 e3 e4 e5 e6 e7 e8 e9 e10 e11) (cwV 0 hts gX8_one_X8_term rfl rfl rfl (by decide +kernel) ⟨Nat.le_of_ble_eq_true rfl, Nat.le_of_ble_eq_true rfl⟩) rfl hl.1 (Nat.le_of_ble_eq_true rfl) dX8_one_238 ⟨Nat.le_of_ble_eq_true rfl, Nat.le_of_ble_eq_true rfl⟩ (fun _ H locs hP hD hS => ?_)
  have hP : va_P D vwCl [(h0, .inr (8, (((((f0.set 3 (.int 2)).set 4 (.int 0)).set 7 (.int 44)).set 13 (.int 1)).set 13 (.int 2)))), (h1, .inr (3, f1)), (h2, .inr (2, f2)), (h3, .inl (cI, 13312, .inl (upd (upd g0 12288 43) 12289 43)))] H := hP
  have hD : va_D A [(h0, .inr (8, (((((f0.set 3 (.int 2)).set 4 (.int 0)).set 7 (.int 44)).set 13 (.int 1)).set 13 (.int 2)))), (h1, .inr (3, f1)), (h2, .inr (2, f2)), (h3, .inl (cI, 13312, .inl (upd (upd g0 12288 43) 12289 43)))] := hD
  refine lv_aload_n hx hb dX8_one_241 rfl (lv_at hl 2 rfl) ?_
  refine va_get (D := D) (ref := "IntegerHouse$Reader") (ci := 8) (v := .int 44) (C := RX8) (T := TX8) (N := 15) hx hb hts hin8 hown hK hP 0 rfl rfl 7 (by decide) (hts (.fieldLink RX8 39 "IntegerHouse$Reader" "kind" "I") (List.mem_cons_of_mem _ (List.mem_append_left _ (List.mem_append_left _ (List.mem_append_left _ (List.mem_append_left _ (List.mem_of_getElem? (i := 0) rfl))))))) (fun _ h9 => h9) (k_ne (by decide) (k_ne (by decide) (k_set (k_ne (by decide) (k_ne (by decide) e0))))) dX8_one_242 ?_
  refine lv_istore_n (lv' := [(3, .int 44), (2, .int (-1)), (1, .int 0), (0, .ref h0)]) hx hb dX8_one_245 rfl hl (by decide) rfl (fun ls hl => ?_)
  refine lv_aload_n hx hb dX8_one_246 rfl (lv_at hl 3 rfl) ?_
  refine lv_iload_n hx hb dX8_one_247 rfl (lv_at hl 0 rfl) ?_
  refine k_cSNi (As := [.int 44]) (rest := [.ref h0]) (wc := []) (wr := [(h0, .inr (8, (((((f0.set 3 (.int 2)).set 4 (.int 0)).set 7 (.int 44)).set 13 (.int 1)).set 13 (.int 2)))), (h1, .inr (3, f1)), (h2, .inr (2, f2)), (h3, .inl (cI, 13312, .inl (upd (upd g0 12288 43) 12289 43)))]) (w1 := []) ⟨hx, hb, hml, hown, hts⟩ hN hX hAE hK hP hD hS hA [] [0, 1, 2, 3] rfl rfl (by decide +kernel) (by decide +kernel) (by decide +kernel) (c_X11_isComparison_0 l E D cI cJ cB cZ  ) ⟨(va_cnB (host := "IntegerHouse") 1 hts gX8_one_X11_isComparison_n215 rfl rfl rfl (hN.2 ("IntegerHouse$Reader", 215, ⟨"IntegerHouse", "isComparison", "(I)Z"⟩, "IntegerHouse") (List.mem_of_getElem? (i := 3) rfl)) (hts (.initialized RX11) (List.mem_cons_of_mem _ (List.mem_append_left _ (List.mem_append_left _ (List.mem_append_left _ (List.mem_append_right _ (List.mem_append_right _ (List.mem_append_right _ (List.mem_append_right _ (List.mem_of_getElem? (i := 4) rfl)))))))))) (by decide +kernel) ⟨Nat.le_of_ble_eq_true rfl, Nat.le_of_ble_eq_true rfl⟩), (hts (.static yX11_isComparison) (List.mem_cons_of_mem _ (List.mem_append_left _ (List.mem_append_left _ (List.mem_append_left _ (List.mem_append_right _ (List.mem_append_right _ (List.mem_append_right _ (List.mem_append_right _ (List.mem_of_getElem? (i := 3) rfl)))))))))), trivial⟩ rfl hl.1 (Nat.le_of_ble_eq_true rfl) dX8_one_248 ⟨Nat.le_of_ble_eq_true rfl, Nat.le_of_ble_eq_true rfl⟩ (fun H locs hP hD hS => ?_)
  have hP : va_P D vwCl [(h0, .inr (8, (((((f0.set 3 (.int 2)).set 4 (.int 0)).set 7 (.int 44)).set 13 (.int 1)).set 13 (.int 2)))), (h1, .inr (3, f1)), (h2, .inr (2, f2)), (h3, .inl (cI, 13312, .inl (upd (upd g0 12288 43) 12289 43)))] H := hP
  have hD : va_D A [(h0, .inr (8, (((((f0.set 3 (.int 2)).set 4 (.int 0)).set 7 (.int 44)).set 13 (.int 1)).set 13 (.int 2)))), (h1, .inr (3, f1)), (h2, .inr (2, f2)), (h3, .inl (cI, 13312, .inl (upd (upd g0 12288 43) 12289 43)))] := hD
  refine lv_if_eq (tgt := 258) hx hb dX8_one_251 (by decide) (fun _ => ?_) (fun c9 => absurd (by decide) c9)
  refine lv_bipush (v := 10) hx hb dX8_one_258 (by decide) ?_
  refine lv_iload_n hx hb dX8_one_260 rfl (lv_at hl 0 rfl) ?_
  refine k_cVv (As := [.int 10, .int 44]) (rest := []) (wc := [(h0, .inr (8, (((((f0.set 3 (.int 2)).set 4 (.int 0)).set 7 (.int 44)).set 13 (.int 1)).set 13 (.int 2))))]) (wr := [(h1, .inr (3, f1)), (h2, .inr (2, f2)), (h3, .inl (cI, 13312, .inl (upd (upd g0 12288 43) 12289 43)))]) (w1 := (fun _ : Unit => [(h0, .inr (8, ((((((f0.set 3 (.int 2)).set 4 (.int 0)).set 7 (.int 44)).set 13 (.int 1)).set 13 (.int 2)).set 7 (.int 44))))])) ⟨hx, hb, hml, hown, hts⟩ hN hX hAE hK hP hD hS hA [0] [1, 2, 3] (ci := 8) rfl rfl rfl rfl (by decide +kernel) (by decide +kernel) (by decide +kernel) (c_X8_accept_0 l E D cI cJ cB cZ h0 ((((((f0.set 3 (.int 2)).set 4 (.int 0)).set 7 (.int 44)).set 13 (.int 1)).set 13 (.int 2))) (k_ne (by decide) (k_ne (by decide) (k_set (k_ne (by decide) (k_ne (by decide) e0))))) (k_ne (by decide) (k_ne (by decide) (k_ne (by decide) (k_ne (by decide) (k_set e6)))))) (cwV 2 hts gX8_one_X8_accept rfl rfl rfl (by decide +kernel) ⟨Nat.le_of_ble_eq_true rfl, Nat.le_of_ble_eq_true rfl⟩) rfl hl.1 (Nat.le_of_ble_eq_true rfl) dX8_one_261 ⟨Nat.le_of_ble_eq_true rfl, Nat.le_of_ble_eq_true rfl⟩ (fun _ H locs hP hD hS => ?_)
  have hP : va_P D vwCl [(h1, .inr (3, f1)), (h2, .inr (2, f2)), (h3, .inl (cI, 13312, .inl (upd (upd g0 12288 43) 12289 43))), (h0, .inr (8, ((((((f0.set 3 (.int 2)).set 4 (.int 0)).set 7 (.int 44)).set 13 (.int 1)).set 13 (.int 2)).set 7 (.int 44))))] H := hP
  have hD : va_D A [(h1, .inr (3, f1)), (h2, .inr (2, f2)), (h3, .inl (cI, 13312, .inl (upd (upd g0 12288 43) 12289 43))), (h0, .inr (8, ((((((f0.set 3 (.int 2)).set 4 (.int 0)).set 7 (.int 44)).set 13 (.int 1)).set 13 (.int 2)).set 7 (.int 44))))] := hD
  refine lv_aload_n hx hb dX8_one_264 rfl (lv_at hl 3 rfl) ?_
  refine k_cVv (As := []) (rest := []) (wc := [(h0, .inr (8, ((((((f0.set 3 (.int 2)).set 4 (.int 0)).set 7 (.int 44)).set 13 (.int 1)).set 13 (.int 2)).set 7 (.int 44)))), (h1, .inr (3, f1)), (h2, .inr (2, f2)), (h3, .inl (cI, 13312, .inl (upd (upd g0 12288 43) 12289 43)))]) (wr := []) (w1 := (fun _ : Unit => [(h0, .inr (8, (((((((((f0.set 3 (.int 2)).set 4 (.int 0)).set 7 (.int 44)).set 13 (.int 1)).set 13 (.int 2)).set 7 (.int 44)).set 7 (.int 44)).set 13 (.int 3)).set 13 (.int 4)))), (h1, .inr (3, f1)), (h2, .inr (2, f2)), (h3, .inl (cI, 13312, .inl (upd (upd (upd (upd g0 12288 43) 12289 43) 12290 43) 12291 43)))])) ⟨hx, hb, hml, hown, hts⟩ hN hX hAE hK hP hD hS hA [3, 0, 1, 2] [] (ci := 8) rfl rfl rfl rfl (by decide +kernel) (by decide +kernel) (by decide +kernel) (c_X8_term_1 l E D cI cJ cB cZ h0 (((((((f0.set 3 (.int 2)).set 4 (.int 0)).set 7 (.int 44)).set 13 (.int 1)).set 13 (.int 2)).set 7 (.int 44))) h1 f1 h2 f2 h3 ((upd (upd g0 12288 43) 12289 43)) (k_set (k_ne (by decide) (k_ne (by decide) (k_set (k_ne (by decide) (k_ne (by decide) e0)))))) (k_ne (by decide) (k_ne (by decide) (k_ne (by decide) (k_ne (by decide) (k_ne (by decide) (k_ne (by decide) e1)))))) (k_ne (by decide) (k_ne (by decide) (k_ne (by decide) (k_ne (by decide) (k_ne (by decide) (k_ne (by decide) e2)))))) e3 (k_ne (by decide) (k_ne (by decide) (k_ne (by decide) (k_ne (by decide) (k_ne (by decide) (k_ne (by decide) e4)))))) e5 (k_ne (by decide) (k_ne (by decide) (k_ne (by decide) (k_ne (by decide) (k_ne (by decide) (k_set e6)))))) (k_ne (by decide) (k_ne (by decide) (k_ne (by decide) (k_ne (by decide) (k_ne (by decide) (k_ne (by decide) e9)))))) (k_ne (by decide) (k_set (k_set (k_ne (by decide) (k_ne (by decide) (k_ne (by decide) e10)))))) e11) (cwV 0 hts gX8_one_X8_term rfl rfl rfl (by decide +kernel) ⟨Nat.le_of_ble_eq_true rfl, Nat.le_of_ble_eq_true rfl⟩) rfl hl.1 (Nat.le_of_ble_eq_true rfl) dX8_one_265 ⟨Nat.le_of_ble_eq_true rfl, Nat.le_of_ble_eq_true rfl⟩ (fun _ H locs hP hD hS => ?_)
  have hP : va_P D vwCl [(h0, .inr (8, (((((((((f0.set 3 (.int 2)).set 4 (.int 0)).set 7 (.int 44)).set 13 (.int 1)).set 13 (.int 2)).set 7 (.int 44)).set 7 (.int 44)).set 13 (.int 3)).set 13 (.int 4)))), (h1, .inr (3, f1)), (h2, .inr (2, f2)), (h3, .inl (cI, 13312, .inl (upd (upd (upd (upd g0 12288 43) 12289 43) 12290 43) 12291 43)))] H := hP
  have hD : va_D A [(h0, .inr (8, (((((((((f0.set 3 (.int 2)).set 4 (.int 0)).set 7 (.int 44)).set 13 (.int 1)).set 13 (.int 2)).set 7 (.int 44)).set 7 (.int 44)).set 13 (.int 3)).set 13 (.int 4)))), (h1, .inr (3, f1)), (h2, .inr (2, f2)), (h3, .inl (cI, 13312, .inl (upd (upd (upd (upd g0 12288 43) 12289 43) 12290 43) 12291 43)))] := hD
  refine lv_aload_n hx hb dX8_one_268 rfl (lv_at hl 3 rfl) ?_
  refine lv_iload_n hx hb dX8_one_269 rfl (lv_at hl 0 rfl) ?_
  refine lv_bipush (v := 63) hx hb dX8_one_270 (by decide) ?_
  refine lv_iand hx hb dX8_one_272 ?_
  refine k_topi (y := 44) (by decide) ?_
  refine k_cVv (As := [.int 44]) (rest := []) (wc := [(h0, .inr (8, (((((((((f0.set 3 (.int 2)).set 4 (.int 0)).set 7 (.int 44)).set 13 (.int 1)).set 13 (.int 2)).set 7 (.int 44)).set 7 (.int 44)).set 13 (.int 3)).set 13 (.int 4)))), (h2, .inr (2, f2)), (h3, .inl (cI, 13312, .inl (upd (upd (upd (upd g0 12288 43) 12289 43) 12290 43) 12291 43)))]) (wr := [(h1, .inr (3, f1))]) (w1 := (fun _ : Unit => [(h0, .inr (8, ((((((((((f0.set 3 (.int 2)).set 4 (.int 0)).set 7 (.int 44)).set 13 (.int 1)).set 13 (.int 2)).set 7 (.int 44)).set 7 (.int 44)).set 13 (.int 3)).set 13 (.int 4)).set 13 (.int 5)))), (h2, .inr (2, f2)), (h3, .inl (cI, 13312, .inl (upd (upd (upd (upd (upd g0 12288 43) 12289 43) 12290 43) 12291 43) 12292 44)))])) ⟨hx, hb, hml, hown, hts⟩ hN hX hAE hK hP hD hS hA [0, 2, 3] [1] (ci := 8) rfl rfl rfl rfl (by decide +kernel) (by decide +kernel) (by decide +kernel) (c_X8_step_4 l E D cI cJ cB cZ h0 ((((((((((f0.set 3 (.int 2)).set 4 (.int 0)).set 7 (.int 44)).set 13 (.int 1)).set 13 (.int 2)).set 7 (.int 44)).set 7 (.int 44)).set 13 (.int 3)).set 13 (.int 4))) h2 f2 h3 ((upd (upd (upd (upd g0 12288 43) 12289 43) 12290 43) 12291 43)) (k_ne (by decide) (k_ne (by decide) (k_ne (by decide) (k_ne (by decide) (k_ne (by decide) (k_ne (by decide) (k_ne (by decide) (k_ne (by decide) (k_ne (by decide) e4))))))))) (k_ne (by decide) (k_ne (by decide) (k_ne (by decide) (k_ne (by decide) (k_ne (by decide) (k_ne (by decide) (k_ne (by decide) (k_ne (by decide) (k_ne (by decide) e9))))))))) (k_set (k_set (k_ne (by decide) (k_ne (by decide) (k_set (k_set (k_ne (by decide) (k_ne (by decide) (k_ne (by decide) e10))))))))) e11) (cwV 1 hts gX8_one_X8_step rfl rfl rfl (by decide +kernel) ⟨Nat.le_of_ble_eq_true rfl, Nat.le_of_ble_eq_true rfl⟩) rfl hl.1 (Nat.le_of_ble_eq_true rfl) dX8_one_273 ⟨Nat.le_of_ble_eq_true rfl, Nat.le_of_ble_eq_true rfl⟩ (fun _ H locs hP hD hS => ?_)
  have hP : va_P D vwCl [(h1, .inr (3, f1)), (h0, .inr (8, ((((((((((f0.set 3 (.int 2)).set 4 (.int 0)).set 7 (.int 44)).set 13 (.int 1)).set 13 (.int 2)).set 7 (.int 44)).set 7 (.int 44)).set 13 (.int 3)).set 13 (.int 4)).set 13 (.int 5)))), (h2, .inr (2, f2)), (h3, .inl (cI, 13312, .inl (upd (upd (upd (upd (upd g0 12288 43) 12289 43) 12290 43) 12291 43) 12292 44)))] H := hP
  have hD : va_D A [(h1, .inr (3, f1)), (h0, .inr (8, ((((((((((f0.set 3 (.int 2)).set 4 (.int 0)).set 7 (.int 44)).set 13 (.int 1)).set 13 (.int 2)).set 7 (.int 44)).set 7 (.int 44)).set 13 (.int 3)).set 13 (.int 4)).set 13 (.int 5)))), (h2, .inr (2, f2)), (h3, .inl (cI, 13312, .inl (upd (upd (upd (upd (upd g0 12288 43) 12289 43) 12290 43) 12291 43) 12292 44)))] := hD
  have hP := hP.sub (ws' := [(h0, .inr (8, ((((((((((f0.set 3 (.int 2)).set 4 (.int 0)).set 7 (.int 44)).set 13 (.int 1)).set 13 (.int 2)).set 7 (.int 44)).set 7 (.int 44)).set 13 (.int 3)).set 13 (.int 4)).set 13 (.int 5)))), (h1, .inr (3, f1)), (h2, .inr (2, f2)), (h3, .inl (cI, 13312, .inl (upd (upd (upd (upd (upd g0 12288 43) 12289 43) 12290 43) 12291 43) 12292 44)))]) [1, 0, 2, 3] rfl
  have hD := hD.sub (ws' := [(h0, .inr (8, ((((((((((f0.set 3 (.int 2)).set 4 (.int 0)).set 7 (.int 44)).set 13 (.int 1)).set 13 (.int 2)).set 7 (.int 44)).set 7 (.int 44)).set 13 (.int 3)).set 13 (.int 4)).set 13 (.int 5)))), (h1, .inr (3, f1)), (h2, .inr (2, f2)), (h3, .inl (cI, 13312, .inl (upd (upd (upd (upd (upd g0 12288 43) 12289 43) 12290 43) 12291 43) 12292 44)))]) [1, 0, 2, 3] (by decide +kernel) rfl
  exact W.vret hx hb hr (fun t ht hW => ⟨⟨(), rfl, trivial, kB_mk ht hW hP hK hD⟩, hS.F ht⟩) hS.2.2 dX8_one_276
set_option maxHeartbeats 400000000 in
set_option maxRecDepth 100000 in
theorem c_X8_both_0 (l : Launch) (E : kE) (D : va_G) (cI cJ cB cZ : ClassId) (h0 : Nat) (f0 : List Value) (h1 : Nat) (f1 : List Value) (h2 : Nat) (f2 : List Value) (h3 : Nat) (g0 : Nat → Int32) (e0 : f0[7]? = some (.int 0)) (e1 : f0[0]? = some (.ref h1)) (e2 : f0[6]? = some (.int 0)) (e3 : f1[5]? = some (.int 0)) (e4 : f0[1]? = some (.ref h2)) (e5 : f2[10]? = some (.int 0)) (e6 : f0[3]? = some (.int 0)) (e7 : f0[8]? = some (.int 0)) (e8 : f0[4]? = some (.int 0)) (e9 : f0[11]? = some (.int 24)) (e10 : f0[13]? = some (.int 0)) (e11 : f2[3]? = some (.ref h3)) : kV l E D (kT cI cJ cB cZ) yX8_both wsX8_both ({ frames := 5, cells := 0, slots := 0, locals := 114 }) [.ref h0] [(h0, .inr (8, f0)), (h1, .inr (3, f1)), (h2, .inr (2, f2)), (h3, .inl (cI, 13312, .inl g0))] (fun _ : Unit => [(h0, .inr (8, ((((((((((f0.set 3 (.int 2)).set 4 (.int 0)).set 7 (.int 44)).set 13 (.int 1)).set 13 (.int 2)).set 7 (.int 44)).set 7 (.int 44)).set 13 (.int 3)).set 13 (.int 4)).set 13 (.int 5)))), (h1, .inr (3, f1)), (h2, .inr (2, f2)), (h3, .inl (cI, 13312, .inl (upd (upd (upd (upd (upd g0 12288 43) 12289 43) 12290 43) 12291 43) 12292 44)))]) 0 0 := by
  intro sz
  refine Met.ofW (cc := cX8_both) (maxL := 2) (ret := none) (by decide) rfl ?_
  intro p e s m args below meth c s₁ B hml hv
  obtain ⟨rfl, hsz, hP, hK, hD0, hN, hX⟩ := hv
  have hx := B.exec
  have hb := B.bytes
  have hr := B.returns
  have hts := atoms_spec (ws := wsX8_both) B.pre
  have hown : s.vm.findClass RX8 = some m.cls := findClass_of_methodNamed B.named
  have hlocks := B.notSynchronized
  have hin8 : ∀ w ∈ wsX80, w ∈ wsX8_both := (fun w h => (List.mem_cons_of_mem _ (List.mem_append_left _ (List.mem_append_left _ (List.mem_append_right _ h)))))
  subst hsz
  have hD := hD0.self (sz := s.heap.size)
  have hAE := k_AE hD0 hX
  generalize hAe : va_A [(h0, .inr (8, f0)), (h1, .inr (3, f1)), (h2, .inr (2, f2)), (h3, .inl (cI, 13312, .inl g0))] s.heap.size = A at hD hAE ⊢
  have hA : ∀ q : Nat, s.heap.size ≤ q → A q := fun q h => by rw [← hAe]; exact Or.inr h
  have hS : va_S A s.heap s.heap [] := va_S.rf
  have hP : va_P D vwCl [(h0, .inr (8, f0)), (h1, .inr (3, f1)), (h2, .inr (2, f2)), (h3, .inl (cI, 13312, .inl g0))] s.heap := hP
  have hl := lv_entry ([.ref h0] : List Value) (n := 2) (Nat.le_of_ble_eq_true rfl)
  rw [lg_entry_eq]
  generalize (lg_sl ([.ref h0]) ++ List.replicate (2 - (lg_sl ([.ref h0])).length) Slot.unset).toArray = ls at hl ⊢
  have hl : lv_has ls 2 [(0, .ref h0)] := hl
  refine lv_aload_n hx hb dX8_both_0 rfl (lv_at hl 0 rfl) ?_
  refine k_cVv (As := []) (rest := []) (wc := [(h0, .inr (8, f0)), (h1, .inr (3, f1)), (h2, .inr (2, f2)), (h3, .inl (cI, 13312, .inl g0))]) (wr := []) (w1 := (fun _ : Unit => [(h0, .inr (8, ((((((((((f0.set 3 (.int 2)).set 4 (.int 0)).set 7 (.int 44)).set 13 (.int 1)).set 13 (.int 2)).set 7 (.int 44)).set 7 (.int 44)).set 13 (.int 3)).set 13 (.int 4)).set 13 (.int 5)))), (h1, .inr (3, f1)), (h2, .inr (2, f2)), (h3, .inl (cI, 13312, .inl (upd (upd (upd (upd (upd g0 12288 43) 12289 43) 12290 43) 12291 43) 12292 44)))])) ⟨hx, hb, hml, hown, hts⟩ hN hX hAE hK hP hD hS hA [0, 1, 2, 3] [] (ci := 8) rfl rfl rfl rfl (by decide +kernel) (by decide +kernel) (by decide +kernel) (c_X8_one_0 l E D cI cJ cB cZ h0 f0 h1 f1 h2 f2 h3 g0 e0 e1 e2 e3 e4 e5 e6 e7 e8 e9 e10 e11) (cwV 0 hts gX8_both_X8_one rfl rfl rfl (by decide +kernel) ⟨Nat.le_of_ble_eq_true rfl, Nat.le_of_ble_eq_true rfl⟩) rfl hl.1 (Nat.le_of_ble_eq_true rfl) dX8_both_1 ⟨Nat.le_of_ble_eq_true rfl, Nat.le_of_ble_eq_true rfl⟩ (fun _ H locs hP hD hS => ?_)
  have hP : va_P D vwCl [(h0, .inr (8, ((((((((((f0.set 3 (.int 2)).set 4 (.int 0)).set 7 (.int 44)).set 13 (.int 1)).set 13 (.int 2)).set 7 (.int 44)).set 7 (.int 44)).set 13 (.int 3)).set 13 (.int 4)).set 13 (.int 5)))), (h1, .inr (3, f1)), (h2, .inr (2, f2)), (h3, .inl (cI, 13312, .inl (upd (upd (upd (upd (upd g0 12288 43) 12289 43) 12290 43) 12291 43) 12292 44)))] H := hP
  have hD : va_D A [(h0, .inr (8, ((((((((((f0.set 3 (.int 2)).set 4 (.int 0)).set 7 (.int 44)).set 13 (.int 1)).set 13 (.int 2)).set 7 (.int 44)).set 7 (.int 44)).set 13 (.int 3)).set 13 (.int 4)).set 13 (.int 5)))), (h1, .inr (3, f1)), (h2, .inr (2, f2)), (h3, .inl (cI, 13312, .inl (upd (upd (upd (upd (upd g0 12288 43) 12289 43) 12290 43) 12291 43) 12292 44)))] := hD
  refine lv_iconst (v := 0) hx hb dX8_both_4 (by decide) ?_
  refine lv_istore_n (lv' := [(1, .int 0), (0, .ref h0)]) hx hb dX8_both_5 rfl hl (by decide) rfl (fun ls hl => ?_)
  refine lv_iload_n hx hb dX8_both_6 rfl (lv_at hl 0 rfl) ?_
  refine lv_bipush (v := 120) hx hb dX8_both_7 (by decide) ?_
  refine lv_icmp_ge (tgt := 45) hx hb dX8_both_9 (by decide) (fun c9 => absurd c9 (by decide)) (fun _ => ?_)
  refine lv_aload_n hx hb dX8_both_12 rfl (lv_at hl 1 rfl) ?_
  refine va_get (D := D) (ref := "IntegerHouse$Reader") (ci := 8) (v := .int 44) (C := RX8) (T := TX8) (N := 15) hx hb hts hin8 hown hK hP 0 rfl rfl 7 (by decide) (hts (.fieldLink RX8 39 "IntegerHouse$Reader" "kind" "I") (List.mem_cons_of_mem _ (List.mem_append_left _ (List.mem_append_left _ (List.mem_append_left _ (List.mem_append_left _ (List.mem_of_getElem? (i := 0) rfl))))))) (fun _ h9 => h9) (k_ne (by decide) (k_ne (by decide) (k_ne (by decide) (k_set (k_set (k_ne (by decide) (k_ne (by decide) (k_set (k_ne (by decide) (k_ne (by decide) e0)))))))))) dX8_both_13 ?_
  refine lv_bipush (v := 23) hx hb dX8_both_16 (by decide) ?_
  refine lv_icmp_ne (tgt := 45) hx hb dX8_both_18 (by decide) (fun _ => ?_) (fun c9 => absurd c9 (by decide))
  exact W.vret hx hb hr (fun t ht hW => ⟨⟨(), rfl, trivial, kB_mk ht hW hP hK hD⟩, hS.F ht⟩) hS.2.2 dX8_both_45
set_option maxHeartbeats 400000000 in
set_option maxRecDepth 100000 in
theorem c_X8_side_0 (l : Launch) (E : kE) (D : va_G) (cI cJ cB cZ : ClassId) (h0 : Nat) (f0 : List Value) (h1 : Nat) (f1 : List Value) (h2 : Nat) (f2 : List Value) (h3 : Nat) (g0 : Nat → Int32) (e0 : f0[7]? = some (.int 0)) (e1 : f0[0]? = some (.ref h1)) (e2 : f0[6]? = some (.int 0)) (e3 : f1[5]? = some (.int 0)) (e4 : f0[1]? = some (.ref h2)) (e5 : f2[10]? = some (.int 0)) (e6 : f0[3]? = some (.int 0)) (e7 : f0[8]? = some (.int 0)) (e8 : f0[4]? = some (.int 0)) (e9 : f0[11]? = some (.int 24)) (e10 : f0[13]? = some (.int 0)) (e11 : f2[3]? = some (.ref h3)) : kV l E D (kT cI cJ cB cZ) yX8_side wsX8_side ({ frames := 6, cells := 0, slots := 0, locals := 135 }) [.ref h0] [(h0, .inr (8, f0)), (h1, .inr (3, f1)), (h2, .inr (2, f2)), (h3, .inl (cI, 13312, .inl g0))] (fun _ : Unit => [(h0, .inr (8, ((((((((((f0.set 3 (.int 2)).set 4 (.int 0)).set 7 (.int 44)).set 13 (.int 1)).set 13 (.int 2)).set 7 (.int 44)).set 7 (.int 44)).set 13 (.int 3)).set 13 (.int 4)).set 13 (.int 5)))), (h1, .inr (3, f1)), (h2, .inr (2, f2)), (h3, .inl (cI, 13312, .inl (upd (upd (upd (upd (upd g0 12288 43) 12289 43) 12290 43) 12291 43) 12292 44)))]) 0 0 := by
  intro sz
  refine Met.ofW (cc := cX8_side) (maxL := 2) (ret := none) (by decide) rfl ?_
  intro p e s m args below meth c s₁ B hml hv
  obtain ⟨rfl, hsz, hP, hK, hD0, hN, hX⟩ := hv
  have hx := B.exec
  have hb := B.bytes
  have hr := B.returns
  have hts := atoms_spec (ws := wsX8_side) B.pre
  have hown : s.vm.findClass RX8 = some m.cls := findClass_of_methodNamed B.named
  have hlocks := B.notSynchronized
  have hin8 : ∀ w ∈ wsX80, w ∈ wsX8_side := (fun w h => (List.mem_cons_of_mem _ (List.mem_append_left _ (List.mem_append_left _ (List.mem_append_right _ h)))))
  subst hsz
  have hD := hD0.self (sz := s.heap.size)
  have hAE := k_AE hD0 hX
  generalize hAe : va_A [(h0, .inr (8, f0)), (h1, .inr (3, f1)), (h2, .inr (2, f2)), (h3, .inl (cI, 13312, .inl g0))] s.heap.size = A at hD hAE ⊢
  have hA : ∀ q : Nat, s.heap.size ≤ q → A q := fun q h => by rw [← hAe]; exact Or.inr h
  have hS : va_S A s.heap s.heap [] := va_S.rf
  have hP : va_P D vwCl [(h0, .inr (8, f0)), (h1, .inr (3, f1)), (h2, .inr (2, f2)), (h3, .inl (cI, 13312, .inl g0))] s.heap := hP
  have hl := lv_entry ([.ref h0] : List Value) (n := 2) (Nat.le_of_ble_eq_true rfl)
  rw [lg_entry_eq]
  generalize (lg_sl ([.ref h0]) ++ List.replicate (2 - (lg_sl ([.ref h0])).length) Slot.unset).toArray = ls at hl ⊢
  have hl : lv_has ls 2 [(0, .ref h0)] := hl
  refine lv_aload_n hx hb dX8_side_0 rfl (lv_at hl 0 rfl) ?_
  refine k_cVv (As := []) (rest := []) (wc := [(h0, .inr (8, f0)), (h1, .inr (3, f1)), (h2, .inr (2, f2)), (h3, .inl (cI, 13312, .inl g0))]) (wr := []) (w1 := (fun _ : Unit => [(h0, .inr (8, ((((((((((f0.set 3 (.int 2)).set 4 (.int 0)).set 7 (.int 44)).set 13 (.int 1)).set 13 (.int 2)).set 7 (.int 44)).set 7 (.int 44)).set 13 (.int 3)).set 13 (.int 4)).set 13 (.int 5)))), (h1, .inr (3, f1)), (h2, .inr (2, f2)), (h3, .inl (cI, 13312, .inl (upd (upd (upd (upd (upd g0 12288 43) 12289 43) 12290 43) 12291 43) 12292 44)))])) ⟨hx, hb, hml, hown, hts⟩ hN hX hAE hK hP hD hS hA [0, 1, 2, 3] [] (ci := 8) rfl rfl rfl rfl (by decide +kernel) (by decide +kernel) (by decide +kernel) (c_X8_both_0 l E D cI cJ cB cZ h0 f0 h1 f1 h2 f2 h3 g0 e0 e1 e2 e3 e4 e5 e6 e7 e8 e9 e10 e11) (cwV 0 hts gX8_side_X8_both rfl rfl rfl (by decide +kernel) ⟨Nat.le_of_ble_eq_true rfl, Nat.le_of_ble_eq_true rfl⟩) rfl hl.1 (Nat.le_of_ble_eq_true rfl) dX8_side_1 ⟨Nat.le_of_ble_eq_true rfl, Nat.le_of_ble_eq_true rfl⟩ (fun _ H locs hP hD hS => ?_)
  have hP : va_P D vwCl [(h0, .inr (8, ((((((((((f0.set 3 (.int 2)).set 4 (.int 0)).set 7 (.int 44)).set 13 (.int 1)).set 13 (.int 2)).set 7 (.int 44)).set 7 (.int 44)).set 13 (.int 3)).set 13 (.int 4)).set 13 (.int 5)))), (h1, .inr (3, f1)), (h2, .inr (2, f2)), (h3, .inl (cI, 13312, .inl (upd (upd (upd (upd (upd g0 12288 43) 12289 43) 12290 43) 12291 43) 12292 44)))] H := hP
  have hD : va_D A [(h0, .inr (8, ((((((((((f0.set 3 (.int 2)).set 4 (.int 0)).set 7 (.int 44)).set 13 (.int 1)).set 13 (.int 2)).set 7 (.int 44)).set 7 (.int 44)).set 13 (.int 3)).set 13 (.int 4)).set 13 (.int 5)))), (h1, .inr (3, f1)), (h2, .inr (2, f2)), (h3, .inl (cI, 13312, .inl (upd (upd (upd (upd (upd g0 12288 43) 12289 43) 12290 43) 12291 43) 12292 44)))] := hD
  refine lv_iconst (v := 0) hx hb dX8_side_4 (by decide) ?_
  refine lv_istore_n (lv' := [(1, .int 0), (0, .ref h0)]) hx hb dX8_side_5 rfl hl (by decide) rfl (fun ls hl => ?_)
  refine lv_iload_n hx hb dX8_side_6 rfl (lv_at hl 0 rfl) ?_
  refine lv_bipush (v := 120) hx hb dX8_side_7 (by decide) ?_
  refine lv_icmp_ge (tgt := 45) hx hb dX8_side_9 (by decide) (fun c9 => absurd c9 (by decide)) (fun _ => ?_)
  refine lv_aload_n hx hb dX8_side_12 rfl (lv_at hl 1 rfl) ?_
  refine va_get (D := D) (ref := "IntegerHouse$Reader") (ci := 8) (v := .int 44) (C := RX8) (T := TX8) (N := 15) hx hb hts hin8 hown hK hP 0 rfl rfl 7 (by decide) (hts (.fieldLink RX8 39 "IntegerHouse$Reader" "kind" "I") (List.mem_cons_of_mem _ (List.mem_append_left _ (List.mem_append_left _ (List.mem_append_left _ (List.mem_append_left _ (List.mem_of_getElem? (i := 0) rfl))))))) (fun _ h9 => h9) (k_ne (by decide) (k_ne (by decide) (k_ne (by decide) (k_set (k_set (k_ne (by decide) (k_ne (by decide) (k_set (k_ne (by decide) (k_ne (by decide) e0)))))))))) dX8_side_13 ?_
  refine lv_bipush (v := 24) hx hb dX8_side_16 (by decide) ?_
  refine lv_icmp_ne (tgt := 45) hx hb dX8_side_18 (by decide) (fun _ => ?_) (fun c9 => absurd c9 (by decide))
  exact W.vret hx hb hr (fun t ht hW => ⟨⟨(), rfl, trivial, kB_mk ht hW hP hK hD⟩, hS.F ht⟩) hS.2.2 dX8_side_45
set_option maxHeartbeats 400000000 in
set_option maxRecDepth 100000 in
theorem c_X8_formula_0 (l : Launch) (E : kE) (D : va_G) (cI cJ cB cZ : ClassId) (h0 : Nat) (f0 : List Value) (h1 : Nat) (f1 : List Value) (h2 : Nat) (f2 : List Value) (h3 : Nat) (g0 : Nat → Int32) (e0 : f0[7]? = some (.int 0)) (e1 : f0[0]? = some (.ref h1)) (e2 : f0[6]? = some (.int 0)) (e3 : f1[5]? = some (.int 0)) (e4 : f0[1]? = some (.ref h2)) (e5 : f2[10]? = some (.int 0)) (e6 : f0[3]? = some (.int 0)) (e7 : f0[8]? = some (.int 0)) (e8 : f0[4]? = some (.int 0)) (e9 : f0[11]? = some (.int 24)) (e10 : f0[13]? = some (.int 0)) (e11 : f2[3]? = some (.ref h3)) : kV l E D (kT cI cJ cB cZ) yX8_formula wsX8_formula ({ frames := 7, cells := 0, slots := 0, locals := 156 }) [.ref h0] [(h0, .inr (8, f0)), (h1, .inr (3, f1)), (h2, .inr (2, f2)), (h3, .inl (cI, 13312, .inl g0))] (fun _ : Unit => [(h0, .inr (8, ((((((((((f0.set 3 (.int 2)).set 4 (.int 0)).set 7 (.int 44)).set 13 (.int 1)).set 13 (.int 2)).set 7 (.int 44)).set 7 (.int 44)).set 13 (.int 3)).set 13 (.int 4)).set 13 (.int 5)))), (h1, .inr (3, f1)), (h2, .inr (2, f2)), (h3, .inl (cI, 13312, .inl (upd (upd (upd (upd (upd g0 12288 43) 12289 43) 12290 43) 12291 43) 12292 44)))]) 0 0 := by
  intro sz
  refine Met.ofW (cc := cX8_formula) (maxL := 2) (ret := none) (by decide) rfl ?_
  intro p e s m args below meth c s₁ B hml hv
  obtain ⟨rfl, hsz, hP, hK, hD0, hN, hX⟩ := hv
  have hx := B.exec
  have hb := B.bytes
  have hr := B.returns
  have hts := atoms_spec (ws := wsX8_formula) B.pre
  have hown : s.vm.findClass RX8 = some m.cls := findClass_of_methodNamed B.named
  have hlocks := B.notSynchronized
  have hin8 : ∀ w ∈ wsX80, w ∈ wsX8_formula := (fun w h => (List.mem_cons_of_mem _ (List.mem_append_left _ (List.mem_append_left _ (List.mem_append_right _ h)))))
  subst hsz
  have hD := hD0.self (sz := s.heap.size)
  have hAE := k_AE hD0 hX
  generalize hAe : va_A [(h0, .inr (8, f0)), (h1, .inr (3, f1)), (h2, .inr (2, f2)), (h3, .inl (cI, 13312, .inl g0))] s.heap.size = A at hD hAE ⊢
  have hA : ∀ q : Nat, s.heap.size ≤ q → A q := fun q h => by rw [← hAe]; exact Or.inr h
  have hS : va_S A s.heap s.heap [] := va_S.rf
  have hP : va_P D vwCl [(h0, .inr (8, f0)), (h1, .inr (3, f1)), (h2, .inr (2, f2)), (h3, .inl (cI, 13312, .inl g0))] s.heap := hP
  have hl := lv_entry ([.ref h0] : List Value) (n := 2) (Nat.le_of_ble_eq_true rfl)
  rw [lg_entry_eq]
  generalize (lg_sl ([.ref h0]) ++ List.replicate (2 - (lg_sl ([.ref h0])).length) Slot.unset).toArray = ls at hl ⊢
  have hl : lv_has ls 2 [(0, .ref h0)] := hl
  refine lv_aload_n hx hb dX8_formula_0 rfl (lv_at hl 0 rfl) ?_
  refine k_cVv (As := []) (rest := []) (wc := [(h0, .inr (8, f0)), (h1, .inr (3, f1)), (h2, .inr (2, f2)), (h3, .inl (cI, 13312, .inl g0))]) (wr := []) (w1 := (fun _ : Unit => [(h0, .inr (8, ((((((((((f0.set 3 (.int 2)).set 4 (.int 0)).set 7 (.int 44)).set 13 (.int 1)).set 13 (.int 2)).set 7 (.int 44)).set 7 (.int 44)).set 13 (.int 3)).set 13 (.int 4)).set 13 (.int 5)))), (h1, .inr (3, f1)), (h2, .inr (2, f2)), (h3, .inl (cI, 13312, .inl (upd (upd (upd (upd (upd g0 12288 43) 12289 43) 12290 43) 12291 43) 12292 44)))])) ⟨hx, hb, hml, hown, hts⟩ hN hX hAE hK hP hD hS hA [0, 1, 2, 3] [] (ci := 8) rfl rfl rfl rfl (by decide +kernel) (by decide +kernel) (by decide +kernel) (c_X8_side_0 l E D cI cJ cB cZ h0 f0 h1 f1 h2 f2 h3 g0 e0 e1 e2 e3 e4 e5 e6 e7 e8 e9 e10 e11) (cwV 0 hts gX8_formula_X8_side rfl rfl rfl (by decide +kernel) ⟨Nat.le_of_ble_eq_true rfl, Nat.le_of_ble_eq_true rfl⟩) rfl hl.1 (Nat.le_of_ble_eq_true rfl) dX8_formula_1 ⟨Nat.le_of_ble_eq_true rfl, Nat.le_of_ble_eq_true rfl⟩ (fun _ H locs hP hD hS => ?_)
  have hP : va_P D vwCl [(h0, .inr (8, ((((((((((f0.set 3 (.int 2)).set 4 (.int 0)).set 7 (.int 44)).set 13 (.int 1)).set 13 (.int 2)).set 7 (.int 44)).set 7 (.int 44)).set 13 (.int 3)).set 13 (.int 4)).set 13 (.int 5)))), (h1, .inr (3, f1)), (h2, .inr (2, f2)), (h3, .inl (cI, 13312, .inl (upd (upd (upd (upd (upd g0 12288 43) 12289 43) 12290 43) 12291 43) 12292 44)))] H := hP
  have hD : va_D A [(h0, .inr (8, ((((((((((f0.set 3 (.int 2)).set 4 (.int 0)).set 7 (.int 44)).set 13 (.int 1)).set 13 (.int 2)).set 7 (.int 44)).set 7 (.int 44)).set 13 (.int 3)).set 13 (.int 4)).set 13 (.int 5)))), (h1, .inr (3, f1)), (h2, .inr (2, f2)), (h3, .inl (cI, 13312, .inl (upd (upd (upd (upd (upd g0 12288 43) 12289 43) 12290 43) 12291 43) 12292 44)))] := hD
  refine lv_aload_n hx hb dX8_formula_4 rfl (lv_at hl 0 rfl) ?_
  refine va_get (D := D) (ref := "IntegerHouse$Reader") (ci := 8) (v := .int 44) (C := RX8) (T := TX8) (N := 15) hx hb hts hin8 hown hK hP 0 rfl rfl 7 (by decide) (hts (.fieldLink RX8 39 "IntegerHouse$Reader" "kind" "I") (List.mem_cons_of_mem _ (List.mem_append_left _ (List.mem_append_left _ (List.mem_append_left _ (List.mem_append_left _ (List.mem_of_getElem? (i := 0) rfl))))))) (fun _ h9 => h9) (k_ne (by decide) (k_ne (by decide) (k_ne (by decide) (k_set (k_set (k_ne (by decide) (k_ne (by decide) (k_set (k_ne (by decide) (k_ne (by decide) e0)))))))))) dX8_formula_5 ?_
  refine lv_istore_n (lv' := [(1, .int 44), (0, .ref h0)]) hx hb dX8_formula_8 rfl hl (by decide) rfl (fun ls hl => ?_)
  refine lv_iload_n hx hb dX8_formula_9 rfl (lv_at hl 0 rfl) ?_
  refine lv_bipush (v := 19) hx hb dX8_formula_10 (by decide) ?_
  refine lv_icmp_eq (tgt := 21) hx hb dX8_formula_12 (by decide) (fun c9 => absurd c9 (by decide)) (fun _ => ?_)
  refine lv_iload_n hx hb dX8_formula_15 rfl (lv_at hl 0 rfl) ?_
  refine lv_bipush (v := 20) hx hb dX8_formula_16 (by decide) ?_
  refine lv_icmp_ne (tgt := 36) hx hb dX8_formula_18 (by decide) (fun _ => ?_) (fun c9 => absurd c9 (by decide))
  exact W.vret hx hb hr (fun t ht hW => ⟨⟨(), rfl, trivial, kB_mk ht hW hP hK hD⟩, hS.F ht⟩) hS.2.2 dX8_formula_36
set_option maxHeartbeats 400000000 in
set_option maxRecDepth 100000 in
theorem c_X2_setFact_1 (l : Launch) (E : kE) (D : va_G) (cI cJ cB cZ : ClassId) (h0 : Nat) (f0 : List Value) (h1 : Nat) (g0 : Nat → Int32) (e0 : f0[5]? = some (.ref h1)) : kV l E D (kT cI cJ cB cZ) yX2_setFact wsX2_setFact ({ frames := 0, cells := 0, slots := 0, locals := 0 }) [.ref h0, .int 24, .int 0, .int 0] [(h0, .inr (2, f0)), (h1, .inl (cI, 260, .inl g0))] (fun _ : Unit => [(h0, .inr (2, f0)), (h1, .inl (cI, 260, .inl (upd g0 240 0)))]) 0 0 := by
  intro sz
  refine Met.ofW (cc := cX2_setFact) (maxL := 4) (ret := none) (by decide) rfl ?_
  intro p e s m args below meth c s₁ B hml hv
  obtain ⟨rfl, hsz, hP, hK, hD0, hN, hX⟩ := hv
  have hx := B.exec
  have hb := B.bytes
  have hr := B.returns
  have hts := atoms_spec (ws := wsX2_setFact) B.pre
  have hown : s.vm.findClass RX2 = some m.cls := findClass_of_methodNamed B.named
  have hlocks := B.notSynchronized
  have hin2 : ∀ w ∈ wsX20, w ∈ wsX2_setFact := (fun w h => (List.mem_cons_of_mem _ (List.mem_append_right _ h)))
  subst hsz
  have hD := hD0.self (sz := s.heap.size)
  have hAE := k_AE hD0 hX
  generalize hAe : va_A [(h0, .inr (2, f0)), (h1, .inl (cI, 260, .inl g0))] s.heap.size = A at hD hAE ⊢
  have hA : ∀ q : Nat, s.heap.size ≤ q → A q := fun q h => by rw [← hAe]; exact Or.inr h
  have hS : va_S A s.heap s.heap [] := va_S.rf
  have hP : va_P D vwCl [(h0, .inr (2, f0)), (h1, .inl (cI, 260, .inl g0))] s.heap := hP
  have hl := lv_entry ([.ref h0, .int 24, .int 0, .int 0] : List Value) (n := 4) (Nat.le_of_ble_eq_true rfl)
  rw [lg_entry_eq]
  generalize (lg_sl ([.ref h0, .int 24, .int 0, .int 0]) ++ List.replicate (4 - (lg_sl ([.ref h0, .int 24, .int 0, .int 0])).length) Slot.unset).toArray = ls at hl ⊢
  have hl : lv_has ls 4 [(0, .ref h0), (1, .int 24), (2, .int 0), (3, .int 0)] := hl
  refine lv_iload_n hx hb dX2_setFact_0 rfl (lv_at hl 1 rfl) ?_
  refine lv_if_lt (tgt := 32) hx hb dX2_setFact_1 (by decide) (fun c9 => absurd c9 (by decide)) (fun _ => ?_)
  refine lv_iload_n hx hb dX2_setFact_4 rfl (lv_at hl 1 rfl) ?_
  refine lv_bipush (v := 26) hx hb dX2_setFact_5 (by decide) ?_
  refine lv_icmp_ge (tgt := 32) hx hb dX2_setFact_7 (by decide) (fun c9 => absurd c9 (by decide)) (fun _ => ?_)
  refine lv_iload_n hx hb dX2_setFact_10 rfl (lv_at hl 2 rfl) ?_
  refine lv_if_lt (tgt := 32) hx hb dX2_setFact_11 (by decide) (fun c9 => absurd c9 (by decide)) (fun _ => ?_)
  refine lv_iload_n hx hb dX2_setFact_14 rfl (lv_at hl 2 rfl) ?_
  refine lv_bipush (v := 10) hx hb dX2_setFact_15 (by decide) ?_
  refine lv_icmp_ge (tgt := 32) hx hb dX2_setFact_17 (by decide) (fun c9 => absurd c9 (by decide)) (fun _ => ?_)
  refine lv_aload_n hx hb dX2_setFact_20 rfl (lv_at hl 0 rfl) ?_
  refine va_get (D := D) (ref := "IntegerHouse$House") (ci := 2) (v := .ref h1) (C := RX2) (T := TX2) (N := 16) hx hb hts hin2 hown hK hP 0 rfl rfl 5 (by decide) (hts (.fieldLink RX2 28 "IntegerHouse$House" "facts" "[I") (List.mem_cons_of_mem _ (List.mem_append_left _ (List.mem_of_getElem? (i := 0) rfl)))) (fun _ h9 => h9) e0 dX2_setFact_21 ?_
  refine lv_iload_n hx hb dX2_setFact_24 rfl (lv_at hl 1 rfl) ?_
  refine lv_bipush (v := 10) hx hb dX2_setFact_25 (by decide) ?_
  refine lv_imul hx hb dX2_setFact_27 ?_
  refine k_topi (y := 240) (by decide) ?_
  refine lv_iload_n hx hb dX2_setFact_28 rfl (lv_at hl 2 rfl) ?_
  refine lv_iadd hx hb dX2_setFact_29 ?_
  refine k_topi (y := 240) (by decide) ?_
  refine lv_iload_n hx hb dX2_setFact_30 rfl (lv_at hl 3 rfl) ?_
  refine va_iast hx hb hK hP hD hS 1 0 rfl rfl (k_in (by decide)) dX2_setFact_31 (fun H locs hP hD hS => ?_)
  have hP : va_P D vwCl [(h0, .inr (2, f0)), (h1, .inl (cI, 260, .inl (upd g0 240 0)))] H := hP
  have hD : va_D A [(h0, .inr (2, f0)), (h1, .inl (cI, 260, .inl (upd g0 240 0)))] := hD
  exact W.vret hx hb hr (fun t ht hW => ⟨⟨(), rfl, trivial, kB_mk ht hW hP hK hD⟩, hS.F ht⟩) hS.2.2 dX2_setFact_32
set_option maxHeartbeats 400000000 in
set_option maxRecDepth 100000 in
theorem c_X2_setFact_2 (l : Launch) (E : kE) (D : va_G) (cI cJ cB cZ : ClassId) (h0 : Nat) (f0 : List Value) (h1 : Nat) (g0 : Nat → Int32) (e0 : f0[5]? = some (.ref h1)) : kV l E D (kT cI cJ cB cZ) yX2_setFact wsX2_setFact ({ frames := 0, cells := 0, slots := 0, locals := 0 }) [.ref h0, .int 24, .int 1, .int 5] [(h0, .inr (2, f0)), (h1, .inl (cI, 260, .inl g0))] (fun _ : Unit => [(h0, .inr (2, f0)), (h1, .inl (cI, 260, .inl (upd g0 241 5)))]) 0 0 := by
  intro sz
  refine Met.ofW (cc := cX2_setFact) (maxL := 4) (ret := none) (by decide) rfl ?_
  intro p e s m args below meth c s₁ B hml hv
  obtain ⟨rfl, hsz, hP, hK, hD0, hN, hX⟩ := hv
  have hx := B.exec
  have hb := B.bytes
  have hr := B.returns
  have hts := atoms_spec (ws := wsX2_setFact) B.pre
  have hown : s.vm.findClass RX2 = some m.cls := findClass_of_methodNamed B.named
  have hlocks := B.notSynchronized
  have hin2 : ∀ w ∈ wsX20, w ∈ wsX2_setFact := (fun w h => (List.mem_cons_of_mem _ (List.mem_append_right _ h)))
  subst hsz
  have hD := hD0.self (sz := s.heap.size)
  have hAE := k_AE hD0 hX
  generalize hAe : va_A [(h0, .inr (2, f0)), (h1, .inl (cI, 260, .inl g0))] s.heap.size = A at hD hAE ⊢
  have hA : ∀ q : Nat, s.heap.size ≤ q → A q := fun q h => by rw [← hAe]; exact Or.inr h
  have hS : va_S A s.heap s.heap [] := va_S.rf
  have hP : va_P D vwCl [(h0, .inr (2, f0)), (h1, .inl (cI, 260, .inl g0))] s.heap := hP
  have hl := lv_entry ([.ref h0, .int 24, .int 1, .int 5] : List Value) (n := 4) (Nat.le_of_ble_eq_true rfl)
  rw [lg_entry_eq]
  generalize (lg_sl ([.ref h0, .int 24, .int 1, .int 5]) ++ List.replicate (4 - (lg_sl ([.ref h0, .int 24, .int 1, .int 5])).length) Slot.unset).toArray = ls at hl ⊢
  have hl : lv_has ls 4 [(0, .ref h0), (1, .int 24), (2, .int 1), (3, .int 5)] := hl
  refine lv_iload_n hx hb dX2_setFact_0 rfl (lv_at hl 1 rfl) ?_
  refine lv_if_lt (tgt := 32) hx hb dX2_setFact_1 (by decide) (fun c9 => absurd c9 (by decide)) (fun _ => ?_)
  refine lv_iload_n hx hb dX2_setFact_4 rfl (lv_at hl 1 rfl) ?_
  refine lv_bipush (v := 26) hx hb dX2_setFact_5 (by decide) ?_
  refine lv_icmp_ge (tgt := 32) hx hb dX2_setFact_7 (by decide) (fun c9 => absurd c9 (by decide)) (fun _ => ?_)
  refine lv_iload_n hx hb dX2_setFact_10 rfl (lv_at hl 2 rfl) ?_
  refine lv_if_lt (tgt := 32) hx hb dX2_setFact_11 (by decide) (fun c9 => absurd c9 (by decide)) (fun _ => ?_)
  refine lv_iload_n hx hb dX2_setFact_14 rfl (lv_at hl 2 rfl) ?_
  refine lv_bipush (v := 10) hx hb dX2_setFact_15 (by decide) ?_
  refine lv_icmp_ge (tgt := 32) hx hb dX2_setFact_17 (by decide) (fun c9 => absurd c9 (by decide)) (fun _ => ?_)
  refine lv_aload_n hx hb dX2_setFact_20 rfl (lv_at hl 0 rfl) ?_
  refine va_get (D := D) (ref := "IntegerHouse$House") (ci := 2) (v := .ref h1) (C := RX2) (T := TX2) (N := 16) hx hb hts hin2 hown hK hP 0 rfl rfl 5 (by decide) (hts (.fieldLink RX2 28 "IntegerHouse$House" "facts" "[I") (List.mem_cons_of_mem _ (List.mem_append_left _ (List.mem_of_getElem? (i := 0) rfl)))) (fun _ h9 => h9) e0 dX2_setFact_21 ?_
  refine lv_iload_n hx hb dX2_setFact_24 rfl (lv_at hl 1 rfl) ?_
  refine lv_bipush (v := 10) hx hb dX2_setFact_25 (by decide) ?_
  refine lv_imul hx hb dX2_setFact_27 ?_
  refine k_topi (y := 240) (by decide) ?_
  refine lv_iload_n hx hb dX2_setFact_28 rfl (lv_at hl 2 rfl) ?_
  refine lv_iadd hx hb dX2_setFact_29 ?_
  refine k_topi (y := 241) (by decide) ?_
  refine lv_iload_n hx hb dX2_setFact_30 rfl (lv_at hl 3 rfl) ?_
  refine va_iast hx hb hK hP hD hS 1 0 rfl rfl (k_in (by decide)) dX2_setFact_31 (fun H locs hP hD hS => ?_)
  have hP : va_P D vwCl [(h0, .inr (2, f0)), (h1, .inl (cI, 260, .inl (upd g0 241 5)))] H := hP
  have hD : va_D A [(h0, .inr (2, f0)), (h1, .inl (cI, 260, .inl (upd g0 241 5)))] := hD
  exact W.vret hx hb hr (fun t ht hW => ⟨⟨(), rfl, trivial, kB_mk ht hW hP hK hD⟩, hS.F ht⟩) hS.2.2 dX2_setFact_32
set_option maxHeartbeats 400000000 in
set_option maxRecDepth 100000 in
theorem c_X8_readInto_0 (l : Launch) (E : kE) (D : va_G) (cI cJ cB cZ : ClassId) (h0 : Nat) (f0 : List Value) (h1 : Nat) (f1 : List Value) (h2 : Nat) (g0 : Nat → Int32) (h3 : Nat) (f2 : List Value) (h4 : Nat) (g1 : Nat → Int32) (e0 : f0[11]? = some (.int 0)) (e1 : f0[12]? = some (.int 0)) (e2 : f0[13]? = some (.int 0)) (e3 : f0[14]? = some (.int 0)) (e4 : f0[1]? = some (.ref h1)) (e5 : f0[8]? = some (.int 0)) (e6 : f1[5]? = some (.ref h2)) (e7 : f0[7]? = some (.int 0)) (e8 : f0[0]? = some (.ref h3)) (e9 : f0[6]? = some (.int 0)) (e10 : f2[5]? = some (.int 0)) (e11 : f1[10]? = some (.int 0)) (e12 : f0[3]? = some (.int 0)) (e13 : f0[4]? = some (.int 0)) (e14 : f1[3]? = some (.ref h4)) : kV l E D (kT cI cJ cB cZ) yX8_readInto wsX8_readInto ({ frames := 8, cells := 0, slots := 0, locals := 177 }) [.ref h0, .int 24] [(h0, .inr (8, f0)), (h1, .inr (2, f1)), (h2, .inl (cI, 260, .inl g0)), (h3, .inr (3, f2)), (h4, .inl (cI, 13312, .inl g1))] (fun _ : Unit => [(h0, .inr (8, ((((((((((((((f0.set 11 (.int 24)).set 12 (.int 0)).set 13 (.int 0)).set 14 (.int 0)).set 3 (.int 2)).set 4 (.int 0)).set 7 (.int 44)).set 13 (.int 1)).set 13 (.int 2)).set 7 (.int 44)).set 7 (.int 44)).set 13 (.int 3)).set 13 (.int 4)).set 13 (.int 5)))), (h1, .inr (2, f1)), (h2, .inl (cI, 260, .inl (upd (upd (upd g0 249 0) 240 0) 241 5))), (h3, .inr (3, f2)), (h4, .inl (cI, 13312, .inl (upd (upd (upd (upd (upd g1 12288 43) 12289 43) 12290 43) 12291 43) 12292 44)))]) 0 0 := by
  intro sz
  refine Met.ofW (cc := cX8_readInto) (maxL := 2) (ret := none) (by decide) rfl ?_
  intro p e s m args below meth c s₁ B hml hv
  obtain ⟨rfl, hsz, hP, hK, hD0, hN, hX⟩ := hv
  have hx := B.exec
  have hb := B.bytes
  have hr := B.returns
  have hts := atoms_spec (ws := wsX8_readInto) B.pre
  have hown : s.vm.findClass RX8 = some m.cls := findClass_of_methodNamed B.named
  have hlocks := B.notSynchronized
  have hin8 : ∀ w ∈ wsX80, w ∈ wsX8_readInto := (fun w h => (List.mem_cons_of_mem _ (List.mem_append_left _ (List.mem_append_left _ (List.mem_append_right _ h)))))
  subst hsz
  have hD := hD0.self (sz := s.heap.size)
  have hAE := k_AE hD0 hX
  generalize hAe : va_A [(h0, .inr (8, f0)), (h1, .inr (2, f1)), (h2, .inl (cI, 260, .inl g0)), (h3, .inr (3, f2)), (h4, .inl (cI, 13312, .inl g1))] s.heap.size = A at hD hAE ⊢
  have hA : ∀ q : Nat, s.heap.size ≤ q → A q := fun q h => by rw [← hAe]; exact Or.inr h
  have hS : va_S A s.heap s.heap [] := va_S.rf
  have hP : va_P D vwCl [(h0, .inr (8, f0)), (h1, .inr (2, f1)), (h2, .inl (cI, 260, .inl g0)), (h3, .inr (3, f2)), (h4, .inl (cI, 13312, .inl g1))] s.heap := hP
  have hl := lv_entry ([.ref h0, .int 24] : List Value) (n := 2) (Nat.le_of_ble_eq_true rfl)
  rw [lg_entry_eq]
  generalize (lg_sl ([.ref h0, .int 24]) ++ List.replicate (2 - (lg_sl ([.ref h0, .int 24])).length) Slot.unset).toArray = ls at hl ⊢
  have hl : lv_has ls 2 [(0, .ref h0), (1, .int 24)] := hl
  refine lv_aload_n hx hb dX8_readInto_0 rfl (lv_at hl 0 rfl) ?_
  refine lv_iload_n hx hb dX8_readInto_1 rfl (lv_at hl 1 rfl) ?_
  refine va_put (D := D) (ref := "IntegerHouse$Reader") (ci := 8) (v := .int 24) (ty := .int) (C := RX8) (T := TX8) (N := 15) hx hb hts hin8 tyX8 tyX8_ok nmX8 hown hK hP hD hS 0 rfl rfl 11 (by decide) (hts (.fieldLink RX8 164 "IntegerHouse$Reader" "slot" "I") (List.mem_cons_of_mem _ (List.mem_append_left _ (List.mem_append_left _ (List.mem_append_left _ (List.mem_append_left _ (List.mem_of_getElem? (i := 0) rfl))))))) (fun _ h9 => h9) rfl (by decide +kernel) rfl rfl (k_len e0) dX8_readInto_2 (fun H locs hP hD hS => ?_)
  have hP : va_P D vwCl [(h0, .inr (8, (f0.set 11 (.int 24)))), (h1, .inr (2, f1)), (h2, .inl (cI, 260, .inl g0)), (h3, .inr (3, f2)), (h4, .inl (cI, 13312, .inl g1))] H := hP
  have hD : va_D A [(h0, .inr (8, (f0.set 11 (.int 24)))), (h1, .inr (2, f1)), (h2, .inl (cI, 260, .inl g0)), (h3, .inr (3, f2)), (h4, .inl (cI, 13312, .inl g1))] := hD
  refine lv_aload_n hx hb dX8_readInto_5 rfl (lv_at hl 0 rfl) ?_
  refine lv_iconst (v := 0) hx hb dX8_readInto_6 (by decide) ?_
  refine va_put (D := D) (ref := "IntegerHouse$Reader") (ci := 8) (v := .int 0) (ty := .int) (C := RX8) (T := TX8) (N := 15) hx hb hts hin8 tyX8 tyX8_ok nmX8 hown hK hP hD hS 0 rfl rfl 12 (by decide) (hts (.fieldLink RX8 167 "IntegerHouse$Reader" "tokens" "I") (List.mem_cons_of_mem _ (List.mem_append_left _ (List.mem_append_left _ (List.mem_append_left _ (List.mem_append_left _ (List.mem_of_getElem? (i := 1) rfl))))))) (fun _ h9 => h9) rfl (by decide +kernel) rfl rfl (k_len (k_ne (by decide) e1)) dX8_readInto_7 (fun H locs hP hD hS => ?_)
  have hP : va_P D vwCl [(h0, .inr (8, ((f0.set 11 (.int 24)).set 12 (.int 0)))), (h1, .inr (2, f1)), (h2, .inl (cI, 260, .inl g0)), (h3, .inr (3, f2)), (h4, .inl (cI, 13312, .inl g1))] H := hP
  have hD : va_D A [(h0, .inr (8, ((f0.set 11 (.int 24)).set 12 (.int 0)))), (h1, .inr (2, f1)), (h2, .inl (cI, 260, .inl g0)), (h3, .inr (3, f2)), (h4, .inl (cI, 13312, .inl g1))] := hD
  refine lv_aload_n hx hb dX8_readInto_10 rfl (lv_at hl 0 rfl) ?_
  refine lv_iconst (v := 0) hx hb dX8_readInto_11 (by decide) ?_
  refine va_put (D := D) (ref := "IntegerHouse$Reader") (ci := 8) (v := .int 0) (ty := .int) (C := RX8) (T := TX8) (N := 15) hx hb hts hin8 tyX8 tyX8_ok nmX8 hown hK hP hD hS 0 rfl rfl 13 (by decide) (hts (.fieldLink RX8 170 "IntegerHouse$Reader" "steps" "I") (List.mem_cons_of_mem _ (List.mem_append_left _ (List.mem_append_left _ (List.mem_append_left _ (List.mem_append_left _ (List.mem_of_getElem? (i := 2) rfl))))))) (fun _ h9 => h9) rfl (by decide +kernel) rfl rfl (k_len (k_ne (by decide) (k_ne (by decide) e2))) dX8_readInto_12 (fun H locs hP hD hS => ?_)
  have hP : va_P D vwCl [(h0, .inr (8, (((f0.set 11 (.int 24)).set 12 (.int 0)).set 13 (.int 0)))), (h1, .inr (2, f1)), (h2, .inl (cI, 260, .inl g0)), (h3, .inr (3, f2)), (h4, .inl (cI, 13312, .inl g1))] H := hP
  have hD : va_D A [(h0, .inr (8, (((f0.set 11 (.int 24)).set 12 (.int 0)).set 13 (.int 0)))), (h1, .inr (2, f1)), (h2, .inl (cI, 260, .inl g0)), (h3, .inr (3, f2)), (h4, .inl (cI, 13312, .inl g1))] := hD
  refine lv_aload_n hx hb dX8_readInto_15 rfl (lv_at hl 0 rfl) ?_
  refine lv_iconst (v := 0) hx hb dX8_readInto_16 (by decide) ?_
  refine va_put (D := D) (ref := "IntegerHouse$Reader") (ci := 8) (v := .int 0) (ty := .int) (C := RX8) (T := TX8) (N := 15) hx hb hts hin8 tyX8 tyX8_ok nmX8 hown hK hP hD hS 0 rfl rfl 14 (by decide) (hts (.fieldLink RX8 173 "IntegerHouse$Reader" "open" "I") (List.mem_cons_of_mem _ (List.mem_append_left _ (List.mem_append_left _ (List.mem_append_left _ (List.mem_append_left _ (List.mem_of_getElem? (i := 3) rfl))))))) (fun _ h9 => h9) rfl (by decide +kernel) rfl rfl (k_len (k_ne (by decide) (k_ne (by decide) (k_ne (by decide) e3)))) dX8_readInto_17 (fun H locs hP hD hS => ?_)
  have hP : va_P D vwCl [(h0, .inr (8, ((((f0.set 11 (.int 24)).set 12 (.int 0)).set 13 (.int 0)).set 14 (.int 0)))), (h1, .inr (2, f1)), (h2, .inl (cI, 260, .inl g0)), (h3, .inr (3, f2)), (h4, .inl (cI, 13312, .inl g1))] H := hP
  have hD : va_D A [(h0, .inr (8, ((((f0.set 11 (.int 24)).set 12 (.int 0)).set 13 (.int 0)).set 14 (.int 0)))), (h1, .inr (2, f1)), (h2, .inl (cI, 260, .inl g0)), (h3, .inr (3, f2)), (h4, .inl (cI, 13312, .inl g1))] := hD
  refine lv_aload_n hx hb dX8_readInto_20 rfl (lv_at hl 0 rfl) ?_
  refine va_get (D := D) (ref := "IntegerHouse$Reader") (ci := 8) (v := .ref h1) (C := RX8) (T := TX8) (N := 15) hx hb hts hin8 hown hK hP 0 rfl rfl 1 (by decide) (hts (.fieldLink RX8 15 "IntegerHouse$Reader" "house" "LIntegerHouse$House;") (List.mem_cons_of_mem _ (List.mem_append_left _ (List.mem_append_left _ (List.mem_append_left _ (List.mem_append_left _ (List.mem_of_getElem? (i := 4) rfl))))))) (fun _ h9 => h9) (k_ne (by decide) (k_ne (by decide) (k_ne (by decide) (k_ne (by decide) e4)))) dX8_readInto_21 ?_
  refine lv_iload_n hx hb dX8_readInto_24 rfl (lv_at hl 1 rfl) ?_
  refine lv_bipush (v := 9) hx hb dX8_readInto_25 (by decide) ?_
  refine lv_aload_n hx hb dX8_readInto_27 rfl (lv_at hl 0 rfl) ?_
  refine va_get (D := D) (ref := "IntegerHouse$Reader") (ci := 8) (v := .int 0) (C := RX8) (T := TX8) (N := 15) hx hb hts hin8 hown hK hP 0 rfl rfl 8 (by decide) (hts (.fieldLink RX8 136 "IntegerHouse$Reader" "place" "I") (List.mem_cons_of_mem _ (List.mem_append_left _ (List.mem_append_left _ (List.mem_append_left _ (List.mem_append_left _ (List.mem_of_getElem? (i := 5) rfl))))))) (fun _ h9 => h9) (k_ne (by decide) (k_ne (by decide) (k_ne (by decide) (k_ne (by decide) e5)))) dX8_readInto_28 ?_
  refine k_cVv (As := [.int 24, .int 9, .int 0]) (rest := []) (wc := [(h1, .inr (2, f1)), (h2, .inl (cI, 260, .inl g0))]) (wr := [(h0, .inr (8, ((((f0.set 11 (.int 24)).set 12 (.int 0)).set 13 (.int 0)).set 14 (.int 0)))), (h3, .inr (3, f2)), (h4, .inl (cI, 13312, .inl g1))]) (w1 := (fun _ : Unit => [(h1, .inr (2, f1)), (h2, .inl (cI, 260, .inl (upd g0 249 0)))])) ⟨hx, hb, hml, hown, hts⟩ hN hX hAE hK hP hD hS hA [1, 2] [0, 3, 4] (ci := 2) rfl rfl rfl rfl (by decide +kernel) (by decide +kernel) (by decide +kernel) (c_X2_setFact_0 l E D cI cJ cB cZ h1 f1 h2 g0 e6) (cwV 3 hts gX8_readInto_X2_setFact rfl rfl rfl (by decide +kernel) ⟨Nat.le_of_ble_eq_true rfl, Nat.le_of_ble_eq_true rfl⟩) rfl hl.1 (Nat.le_of_ble_eq_true rfl) dX8_readInto_31 ⟨Nat.le_of_ble_eq_true rfl, Nat.le_of_ble_eq_true rfl⟩ (fun _ H locs hP hD hS => ?_)
  have hP : va_P D vwCl [(h0, .inr (8, ((((f0.set 11 (.int 24)).set 12 (.int 0)).set 13 (.int 0)).set 14 (.int 0)))), (h3, .inr (3, f2)), (h4, .inl (cI, 13312, .inl g1)), (h1, .inr (2, f1)), (h2, .inl (cI, 260, .inl (upd g0 249 0)))] H := hP
  have hD : va_D A [(h0, .inr (8, ((((f0.set 11 (.int 24)).set 12 (.int 0)).set 13 (.int 0)).set 14 (.int 0)))), (h3, .inr (3, f2)), (h4, .inl (cI, 13312, .inl g1)), (h1, .inr (2, f1)), (h2, .inl (cI, 260, .inl (upd g0 249 0)))] := hD
  refine lv_iload_n hx hb dX8_readInto_34 rfl (lv_at hl 1 rfl) ?_
  refine lv_bipush (v := 25) hx hb dX8_readInto_35 (by decide) ?_
  refine lv_icmp_ne (tgt := 47) hx hb dX8_readInto_37 (by decide) (fun _ => ?_) (fun c9 => absurd c9 (by decide))
  refine lv_aload_n hx hb dX8_readInto_47 rfl (lv_at hl 0 rfl) ?_
  refine k_cVv (As := []) (rest := []) (wc := [(h0, .inr (8, ((((f0.set 11 (.int 24)).set 12 (.int 0)).set 13 (.int 0)).set 14 (.int 0)))), (h3, .inr (3, f2)), (h1, .inr (2, f1)), (h4, .inl (cI, 13312, .inl g1))]) (wr := [(h2, .inl (cI, 260, .inl (upd g0 249 0)))]) (w1 := (fun _ : Unit => [(h0, .inr (8, ((((((((((((((f0.set 11 (.int 24)).set 12 (.int 0)).set 13 (.int 0)).set 14 (.int 0)).set 3 (.int 2)).set 4 (.int 0)).set 7 (.int 44)).set 13 (.int 1)).set 13 (.int 2)).set 7 (.int 44)).set 7 (.int 44)).set 13 (.int 3)).set 13 (.int 4)).set 13 (.int 5)))), (h3, .inr (3, f2)), (h1, .inr (2, f1)), (h4, .inl (cI, 13312, .inl (upd (upd (upd (upd (upd g1 12288 43) 12289 43) 12290 43) 12291 43) 12292 44)))])) ⟨hx, hb, hml, hown, hts⟩ hN hX hAE hK hP hD hS hA [0, 1, 3, 2] [4] (ci := 8) rfl rfl rfl rfl (by decide +kernel) (by decide +kernel) (by decide +kernel) (c_X8_formula_0 l E D cI cJ cB cZ h0 (((((f0.set 11 (.int 24)).set 12 (.int 0)).set 13 (.int 0)).set 14 (.int 0))) h3 f2 h1 f1 h4 g1 (k_ne (by decide) (k_ne (by decide) (k_ne (by decide) (k_ne (by decide) e7)))) (k_ne (by decide) (k_ne (by decide) (k_ne (by decide) (k_ne (by decide) e8)))) (k_ne (by decide) (k_ne (by decide) (k_ne (by decide) (k_ne (by decide) e9)))) e10 (k_ne (by decide) (k_ne (by decide) (k_ne (by decide) (k_ne (by decide) e4)))) e11 (k_ne (by decide) (k_ne (by decide) (k_ne (by decide) (k_ne (by decide) e12)))) (k_ne (by decide) (k_ne (by decide) (k_ne (by decide) (k_ne (by decide) e5)))) (k_ne (by decide) (k_ne (by decide) (k_ne (by decide) (k_ne (by decide) e13)))) (k_ne (by decide) (k_ne (by decide) (k_ne (by decide) (k_set e0)))) (k_ne (by decide) (k_set (k_ne (by decide) (k_ne (by decide) e2)))) e14) (cwV 0 hts gX8_readInto_X8_formula rfl rfl rfl (by decide +kernel) ⟨Nat.le_of_ble_eq_true rfl, Nat.le_of_ble_eq_true rfl⟩) rfl hl.1 (Nat.le_of_ble_eq_true rfl) dX8_readInto_48 ⟨Nat.le_of_ble_eq_true rfl, Nat.le_of_ble_eq_true rfl⟩ (fun _ H locs hP hD hS => ?_)
  have hP : va_P D vwCl [(h2, .inl (cI, 260, .inl (upd g0 249 0))), (h0, .inr (8, ((((((((((((((f0.set 11 (.int 24)).set 12 (.int 0)).set 13 (.int 0)).set 14 (.int 0)).set 3 (.int 2)).set 4 (.int 0)).set 7 (.int 44)).set 13 (.int 1)).set 13 (.int 2)).set 7 (.int 44)).set 7 (.int 44)).set 13 (.int 3)).set 13 (.int 4)).set 13 (.int 5)))), (h3, .inr (3, f2)), (h1, .inr (2, f1)), (h4, .inl (cI, 13312, .inl (upd (upd (upd (upd (upd g1 12288 43) 12289 43) 12290 43) 12291 43) 12292 44)))] H := hP
  have hD : va_D A [(h2, .inl (cI, 260, .inl (upd g0 249 0))), (h0, .inr (8, ((((((((((((((f0.set 11 (.int 24)).set 12 (.int 0)).set 13 (.int 0)).set 14 (.int 0)).set 3 (.int 2)).set 4 (.int 0)).set 7 (.int 44)).set 13 (.int 1)).set 13 (.int 2)).set 7 (.int 44)).set 7 (.int 44)).set 13 (.int 3)).set 13 (.int 4)).set 13 (.int 5)))), (h3, .inr (3, f2)), (h1, .inr (2, f1)), (h4, .inl (cI, 13312, .inl (upd (upd (upd (upd (upd g1 12288 43) 12289 43) 12290 43) 12291 43) 12292 44)))] := hD
  refine lv_aload_n hx hb dX8_readInto_51 rfl (lv_at hl 0 rfl) ?_
  refine va_get (D := D) (ref := "IntegerHouse$Reader") (ci := 8) (v := .ref h1) (C := RX8) (T := TX8) (N := 15) hx hb hts hin8 hown hK hP 1 rfl rfl 1 (by decide) (hts (.fieldLink RX8 15 "IntegerHouse$Reader" "house" "LIntegerHouse$House;") (List.mem_cons_of_mem _ (List.mem_append_left _ (List.mem_append_left _ (List.mem_append_left _ (List.mem_append_left _ (List.mem_of_getElem? (i := 4) rfl))))))) (fun _ h9 => h9) (k_ne (by decide) (k_ne (by decide) (k_ne (by decide) (k_ne (by decide) (k_ne (by decide) (k_ne (by decide) (k_ne (by decide) (k_ne (by decide) (k_ne (by decide) (k_ne (by decide) (k_ne (by decide) (k_ne (by decide) (k_ne (by decide) (k_ne (by decide) e4)))))))))))))) dX8_readInto_52 ?_
  refine lv_iload_n hx hb dX8_readInto_55 rfl (lv_at hl 1 rfl) ?_
  refine lv_iconst (v := 0) hx hb dX8_readInto_56 (by decide) ?_
  refine lv_aload_n hx hb dX8_readInto_57 rfl (lv_at hl 0 rfl) ?_
  refine va_get (D := D) (ref := "IntegerHouse$Reader") (ci := 8) (v := .int 0) (C := RX8) (T := TX8) (N := 15) hx hb hts hin8 hown hK hP 1 rfl rfl 12 (by decide) (hts (.fieldLink RX8 167 "IntegerHouse$Reader" "tokens" "I") (List.mem_cons_of_mem _ (List.mem_append_left _ (List.mem_append_left _ (List.mem_append_left _ (List.mem_append_left _ (List.mem_of_getElem? (i := 1) rfl))))))) (fun _ h9 => h9) (k_ne (by decide) (k_ne (by decide) (k_ne (by decide) (k_ne (by decide) (k_ne (by decide) (k_ne (by decide) (k_ne (by decide) (k_ne (by decide) (k_ne (by decide) (k_ne (by decide) (k_ne (by decide) (k_ne (by decide) (k_set (k_ne (by decide) e1)))))))))))))) dX8_readInto_58 ?_
  refine k_cVv (As := [.int 24, .int 0, .int 0]) (rest := []) (wc := [(h1, .inr (2, f1)), (h2, .inl (cI, 260, .inl (upd g0 249 0)))]) (wr := [(h0, .inr (8, ((((((((((((((f0.set 11 (.int 24)).set 12 (.int 0)).set 13 (.int 0)).set 14 (.int 0)).set 3 (.int 2)).set 4 (.int 0)).set 7 (.int 44)).set 13 (.int 1)).set 13 (.int 2)).set 7 (.int 44)).set 7 (.int 44)).set 13 (.int 3)).set 13 (.int 4)).set 13 (.int 5)))), (h3, .inr (3, f2)), (h4, .inl (cI, 13312, .inl (upd (upd (upd (upd (upd g1 12288 43) 12289 43) 12290 43) 12291 43) 12292 44)))]) (w1 := (fun _ : Unit => [(h1, .inr (2, f1)), (h2, .inl (cI, 260, .inl (upd (upd g0 249 0) 240 0)))])) ⟨hx, hb, hml, hown, hts⟩ hN hX hAE hK hP hD hS hA [3, 0] [1, 2, 4] (ci := 2) rfl rfl rfl rfl (by decide +kernel) (by decide +kernel) (by decide +kernel) (c_X2_setFact_1 l E D cI cJ cB cZ h1 f1 h2 ((upd g0 249 0)) e6) (cwV 3 hts gX8_readInto_X2_setFact rfl rfl rfl (by decide +kernel) ⟨Nat.le_of_ble_eq_true rfl, Nat.le_of_ble_eq_true rfl⟩) rfl hl.1 (Nat.le_of_ble_eq_true rfl) dX8_readInto_61 ⟨Nat.le_of_ble_eq_true rfl, Nat.le_of_ble_eq_true rfl⟩ (fun _ H locs hP hD hS => ?_)
  have hP : va_P D vwCl [(h0, .inr (8, ((((((((((((((f0.set 11 (.int 24)).set 12 (.int 0)).set 13 (.int 0)).set 14 (.int 0)).set 3 (.int 2)).set 4 (.int 0)).set 7 (.int 44)).set 13 (.int 1)).set 13 (.int 2)).set 7 (.int 44)).set 7 (.int 44)).set 13 (.int 3)).set 13 (.int 4)).set 13 (.int 5)))), (h3, .inr (3, f2)), (h4, .inl (cI, 13312, .inl (upd (upd (upd (upd (upd g1 12288 43) 12289 43) 12290 43) 12291 43) 12292 44))), (h1, .inr (2, f1)), (h2, .inl (cI, 260, .inl (upd (upd g0 249 0) 240 0)))] H := hP
  have hD : va_D A [(h0, .inr (8, ((((((((((((((f0.set 11 (.int 24)).set 12 (.int 0)).set 13 (.int 0)).set 14 (.int 0)).set 3 (.int 2)).set 4 (.int 0)).set 7 (.int 44)).set 13 (.int 1)).set 13 (.int 2)).set 7 (.int 44)).set 7 (.int 44)).set 13 (.int 3)).set 13 (.int 4)).set 13 (.int 5)))), (h3, .inr (3, f2)), (h4, .inl (cI, 13312, .inl (upd (upd (upd (upd (upd g1 12288 43) 12289 43) 12290 43) 12291 43) 12292 44))), (h1, .inr (2, f1)), (h2, .inl (cI, 260, .inl (upd (upd g0 249 0) 240 0)))] := hD
  refine lv_aload_n hx hb dX8_readInto_64 rfl (lv_at hl 0 rfl) ?_
  refine va_get (D := D) (ref := "IntegerHouse$Reader") (ci := 8) (v := .ref h1) (C := RX8) (T := TX8) (N := 15) hx hb hts hin8 hown hK hP 0 rfl rfl 1 (by decide) (hts (.fieldLink RX8 15 "IntegerHouse$Reader" "house" "LIntegerHouse$House;") (List.mem_cons_of_mem _ (List.mem_append_left _ (List.mem_append_left _ (List.mem_append_left _ (List.mem_append_left _ (List.mem_of_getElem? (i := 4) rfl))))))) (fun _ h9 => h9) (k_ne (by decide) (k_ne (by decide) (k_ne (by decide) (k_ne (by decide) (k_ne (by decide) (k_ne (by decide) (k_ne (by decide) (k_ne (by decide) (k_ne (by decide) (k_ne (by decide) (k_ne (by decide) (k_ne (by decide) (k_ne (by decide) (k_ne (by decide) e4)))))))))))))) dX8_readInto_65 ?_
  refine lv_iload_n hx hb dX8_readInto_68 rfl (lv_at hl 1 rfl) ?_
  refine lv_iconst (v := 1) hx hb dX8_readInto_69 (by decide) ?_
  refine lv_aload_n hx hb dX8_readInto_70 rfl (lv_at hl 0 rfl) ?_
  refine va_get (D := D) (ref := "IntegerHouse$Reader") (ci := 8) (v := .int 5) (C := RX8) (T := TX8) (N := 15) hx hb hts hin8 hown hK hP 0 rfl rfl 13 (by decide) (hts (.fieldLink RX8 170 "IntegerHouse$Reader" "steps" "I") (List.mem_cons_of_mem _ (List.mem_append_left _ (List.mem_append_left _ (List.mem_append_left _ (List.mem_append_left _ (List.mem_of_getElem? (i := 2) rfl))))))) (fun _ h9 => h9) (k_set (k_set (k_set (k_ne (by decide) (k_ne (by decide) (k_set (k_set (k_ne (by decide) (k_ne (by decide) (k_ne (by decide) (k_ne (by decide) (k_set (k_ne (by decide) (k_ne (by decide) e2)))))))))))))) dX8_readInto_71 ?_
  refine k_cVv (As := [.int 24, .int 1, .int 5]) (rest := []) (wc := [(h1, .inr (2, f1)), (h2, .inl (cI, 260, .inl (upd (upd g0 249 0) 240 0)))]) (wr := [(h0, .inr (8, ((((((((((((((f0.set 11 (.int 24)).set 12 (.int 0)).set 13 (.int 0)).set 14 (.int 0)).set 3 (.int 2)).set 4 (.int 0)).set 7 (.int 44)).set 13 (.int 1)).set 13 (.int 2)).set 7 (.int 44)).set 7 (.int 44)).set 13 (.int 3)).set 13 (.int 4)).set 13 (.int 5)))), (h3, .inr (3, f2)), (h4, .inl (cI, 13312, .inl (upd (upd (upd (upd (upd g1 12288 43) 12289 43) 12290 43) 12291 43) 12292 44)))]) (w1 := (fun _ : Unit => [(h1, .inr (2, f1)), (h2, .inl (cI, 260, .inl (upd (upd (upd g0 249 0) 240 0) 241 5)))])) ⟨hx, hb, hml, hown, hts⟩ hN hX hAE hK hP hD hS hA [3, 4] [0, 1, 2] (ci := 2) rfl rfl rfl rfl (by decide +kernel) (by decide +kernel) (by decide +kernel) (c_X2_setFact_2 l E D cI cJ cB cZ h1 f1 h2 ((upd (upd g0 249 0) 240 0)) e6) (cwV 3 hts gX8_readInto_X2_setFact rfl rfl rfl (by decide +kernel) ⟨Nat.le_of_ble_eq_true rfl, Nat.le_of_ble_eq_true rfl⟩) rfl hl.1 (Nat.le_of_ble_eq_true rfl) dX8_readInto_74 ⟨Nat.le_of_ble_eq_true rfl, Nat.le_of_ble_eq_true rfl⟩ (fun _ H locs hP hD hS => ?_)
  have hP : va_P D vwCl [(h0, .inr (8, ((((((((((((((f0.set 11 (.int 24)).set 12 (.int 0)).set 13 (.int 0)).set 14 (.int 0)).set 3 (.int 2)).set 4 (.int 0)).set 7 (.int 44)).set 13 (.int 1)).set 13 (.int 2)).set 7 (.int 44)).set 7 (.int 44)).set 13 (.int 3)).set 13 (.int 4)).set 13 (.int 5)))), (h3, .inr (3, f2)), (h4, .inl (cI, 13312, .inl (upd (upd (upd (upd (upd g1 12288 43) 12289 43) 12290 43) 12291 43) 12292 44))), (h1, .inr (2, f1)), (h2, .inl (cI, 260, .inl (upd (upd (upd g0 249 0) 240 0) 241 5)))] H := hP
  have hD : va_D A [(h0, .inr (8, ((((((((((((((f0.set 11 (.int 24)).set 12 (.int 0)).set 13 (.int 0)).set 14 (.int 0)).set 3 (.int 2)).set 4 (.int 0)).set 7 (.int 44)).set 13 (.int 1)).set 13 (.int 2)).set 7 (.int 44)).set 7 (.int 44)).set 13 (.int 3)).set 13 (.int 4)).set 13 (.int 5)))), (h3, .inr (3, f2)), (h4, .inl (cI, 13312, .inl (upd (upd (upd (upd (upd g1 12288 43) 12289 43) 12290 43) 12291 43) 12292 44))), (h1, .inr (2, f1)), (h2, .inl (cI, 260, .inl (upd (upd (upd g0 249 0) 240 0) 241 5)))] := hD
  have hP := hP.sub (ws' := [(h0, .inr (8, ((((((((((((((f0.set 11 (.int 24)).set 12 (.int 0)).set 13 (.int 0)).set 14 (.int 0)).set 3 (.int 2)).set 4 (.int 0)).set 7 (.int 44)).set 13 (.int 1)).set 13 (.int 2)).set 7 (.int 44)).set 7 (.int 44)).set 13 (.int 3)).set 13 (.int 4)).set 13 (.int 5)))), (h1, .inr (2, f1)), (h2, .inl (cI, 260, .inl (upd (upd (upd g0 249 0) 240 0) 241 5))), (h3, .inr (3, f2)), (h4, .inl (cI, 13312, .inl (upd (upd (upd (upd (upd g1 12288 43) 12289 43) 12290 43) 12291 43) 12292 44)))]) [0, 3, 4, 1, 2] rfl
  have hD := hD.sub (ws' := [(h0, .inr (8, ((((((((((((((f0.set 11 (.int 24)).set 12 (.int 0)).set 13 (.int 0)).set 14 (.int 0)).set 3 (.int 2)).set 4 (.int 0)).set 7 (.int 44)).set 13 (.int 1)).set 13 (.int 2)).set 7 (.int 44)).set 7 (.int 44)).set 13 (.int 3)).set 13 (.int 4)).set 13 (.int 5)))), (h1, .inr (2, f1)), (h2, .inl (cI, 260, .inl (upd (upd (upd g0 249 0) 240 0) 241 5))), (h3, .inr (3, f2)), (h4, .inl (cI, 13312, .inl (upd (upd (upd (upd (upd g1 12288 43) 12289 43) 12290 43) 12291 43) 12292 44)))]) [0, 3, 4, 1, 2] (by decide +kernel) rfl
  exact W.vret hx hb hr (fun t ht hW => ⟨⟨(), rfl, trivial, kB_mk ht hW hP hK hD⟩, hS.F ht⟩) hS.2.2 dX8_readInto_77
set_option maxHeartbeats 400000000 in
set_option maxRecDepth 100000 in
theorem c_X8_readFormula_0 (l : Launch) (E : kE) (D : va_G) (cI cJ cB cZ : ClassId) (h0 : Nat) (h1 : Nat) (f0 : List Value) (h2 : Nat) (f1 : List Value) (h3 : Nat) (h4 : Nat) (h5 : Nat) (g0 : Nat → Int32) (g1 : Nat → Int32) (h6 : Nat) (f2 : List Value) (h7 : Nat) (h8 : Nat) (g2 : Nat → Int32) (g3 : Nat → Int32) (e0 : f0[0]? = some (.ref h2)) (e1 : f1[6]? = some (.ref h3)) (e2 : f1[7]? = some (.int 0)) (e3 : f1[8]? = some (.int 0)) (e4 : f1[5]? = some (.int 0)) (e5 : f1[1]? = some (.ref h4)) (e6 : f1[2]? = some (.ref h5)) (e7 : f0[3]? = some (.int 0)) (e8 : f0[4]? = some (.int 0)) (e9 : f0[5]? = some (.int 0)) (e10 : f0[6]? = some (.int 0)) (e11 : f0[7]? = some (.int 0)) (e12 : f0[8]? = some (.int 0)) (e13 : f0[11]? = some (.int 0)) (e14 : f0[12]? = some (.int 0)) (e15 : f0[13]? = some (.int 0)) (e16 : f0[14]? = some (.int 0)) (e17 : f0[1]? = some (.ref h6)) (e18 : f2[5]? = some (.ref h7)) (e19 : f2[10]? = some (.int 0)) (e20 : f2[3]? = some (.ref h8)) : kI l E D (kT cI cJ cB cZ) yX8_readFormula wsX8_readFormula ({ frames := 9, cells := 0, slots := 0, locals := 198 }) [.ref h0, .ref h1, .int 0] [(h0, .inr (8, f0)), (h2, .inr (3, f1)), (h4, .inl (cI, 2001, .inl g0)), (h5, .inl (cI, 2001, .inl g1)), (h6, .inr (2, f2)), (h7, .inl (cI, 260, .inl g2)), (h8, .inl (cI, 13312, .inl g3))] (0) [(h0, .inr (8, ((((((((((((((((((((((f0.set 3 (.int 0)).set 4 (.int 0)).set 5 (.int 0)).set 6 (.int (-1))).set 6 (.int 0)).set 7 (.int 0)).set 8 (.int 0)).set 11 (.int 24)).set 12 (.int 0)).set 13 (.int 0)).set 14 (.int 0)).set 3 (.int 2)).set 4 (.int 0)).set 7 (.int 44)).set 13 (.int 1)).set 13 (.int 2)).set 7 (.int 44)).set 7 (.int 44)).set 13 (.int 3)).set 13 (.int 4)).set 13 (.int 5)).set 7 (.int 44)))), (h2, .inr (3, ((((f1.set 6 (.ref h1)).set 7 (.int 0)).set 8 (.int 0)).set 5 (.int 0)))), (h4, .inl (cI, 2001, .inl (upd g0 0 0))), (h5, .inl (cI, 2001, .inl (upd g1 0 0))), (h6, .inr (2, f2)), (h7, .inl (cI, 260, .inl (upd (upd (upd g2 249 0) 240 0) 241 5))), (h8, .inl (cI, 13312, .inl (upd (upd (upd (upd (upd g3 12288 43) 12289 43) 12290 43) 12291 43) 12292 44)))] 0 0 := by
  intro sz
  refine Met.ofW (cc := cX8_readFormula) (maxL := 3) (ret := (some .boolean)) (by decide) rfl ?_
  intro p e s m args below meth c s₁ B hml hv
  obtain ⟨rfl, hsz, hP, hK, hD0, hN, hX⟩ := hv
  have hx := B.exec
  have hb := B.bytes
  have hr := B.returns
  have hts := atoms_spec (ws := wsX8_readFormula) B.pre
  have hown : s.vm.findClass RX8 = some m.cls := findClass_of_methodNamed B.named
  have hlocks := B.notSynchronized
  have hin8 : ∀ w ∈ wsX80, w ∈ wsX8_readFormula := (fun w h => (List.mem_cons_of_mem _ (List.mem_append_left _ (List.mem_append_left _ (List.mem_append_left _ (List.mem_append_right _ h))))))
  subst hsz
  have hD := hD0.self (sz := s.heap.size)
  have hAE := k_AE hD0 hX
  generalize hAe : va_A [(h0, .inr (8, f0)), (h2, .inr (3, f1)), (h4, .inl (cI, 2001, .inl g0)), (h5, .inl (cI, 2001, .inl g1)), (h6, .inr (2, f2)), (h7, .inl (cI, 260, .inl g2)), (h8, .inl (cI, 13312, .inl g3))] s.heap.size = A at hD hAE ⊢
  have hA : ∀ q : Nat, s.heap.size ≤ q → A q := fun q h => by rw [← hAe]; exact Or.inr h
  have hS : va_S A s.heap s.heap [] := va_S.rf
  have hP : va_P D vwCl [(h0, .inr (8, f0)), (h2, .inr (3, f1)), (h4, .inl (cI, 2001, .inl g0)), (h5, .inl (cI, 2001, .inl g1)), (h6, .inr (2, f2)), (h7, .inl (cI, 260, .inl g2)), (h8, .inl (cI, 13312, .inl g3))] s.heap := hP
  have hl := lv_entry ([.ref h0, .ref h1, .int 0] : List Value) (n := 3) (Nat.le_of_ble_eq_true rfl)
  rw [lg_entry_eq]
  generalize (lg_sl ([.ref h0, .ref h1, .int 0]) ++ List.replicate (3 - (lg_sl ([.ref h0, .ref h1, .int 0])).length) Slot.unset).toArray = ls at hl ⊢
  have hl : lv_has ls 3 [(0, .ref h0), (1, .ref h1), (2, .int 0)] := hl
  refine lv_aload_n hx hb dX8_readFormula_0 rfl (lv_at hl 0 rfl) ?_
  refine lv_aload_n hx hb dX8_readFormula_1 rfl (lv_at hl 1 rfl) ?_
  refine lv_iconst (v := 0) hx hb dX8_readFormula_2 (by decide) ?_
  refine lv_iload_n hx hb dX8_readFormula_3 rfl (lv_at hl 2 rfl) ?_
  refine k_cVv (As := [.ref h1, .int 0, .int 0]) (rest := []) (wc := [(h0, .inr (8, f0)), (h2, .inr (3, f1)), (h4, .inl (cI, 2001, .inl g0)), (h5, .inl (cI, 2001, .inl g1))]) (wr := [(h6, .inr (2, f2)), (h7, .inl (cI, 260, .inl g2)), (h8, .inl (cI, 13312, .inl g3))]) (w1 := (fun _ : Unit => [(h0, .inr (8, (((((((f0.set 3 (.int 0)).set 4 (.int 0)).set 5 (.int 0)).set 6 (.int (-1))).set 6 (.int 0)).set 7 (.int 0)).set 8 (.int 0)))), (h2, .inr (3, ((((f1.set 6 (.ref h1)).set 7 (.int 0)).set 8 (.int 0)).set 5 (.int 0)))), (h4, .inl (cI, 2001, .inl (upd g0 0 0))), (h5, .inl (cI, 2001, .inl (upd g1 0 0)))])) ⟨hx, hb, hml, hown, hts⟩ hN hX hAE hK hP hD hS hA [0, 1, 2, 3] [4, 5, 6] (ci := 8) rfl rfl rfl rfl (by decide +kernel) (by decide +kernel) (by decide +kernel) (c_X8_begin_0 l E D cI cJ cB cZ h0 h1 f0 h2 f1 h3 h4 h5 g0 g1 e0 e1 e2 e3 e4 e5 e6 e7 e8 e9 e10 e11 e12) (cwV 3 hts gX8_readFormula_X8_begin rfl rfl rfl (by decide +kernel) ⟨Nat.le_of_ble_eq_true rfl, Nat.le_of_ble_eq_true rfl⟩) rfl hl.1 (Nat.le_of_ble_eq_true rfl) dX8_readFormula_4 ⟨Nat.le_of_ble_eq_true rfl, Nat.le_of_ble_eq_true rfl⟩ (fun _ H locs hP hD hS => ?_)
  have hP : va_P D vwCl [(h6, .inr (2, f2)), (h7, .inl (cI, 260, .inl g2)), (h8, .inl (cI, 13312, .inl g3)), (h0, .inr (8, (((((((f0.set 3 (.int 0)).set 4 (.int 0)).set 5 (.int 0)).set 6 (.int (-1))).set 6 (.int 0)).set 7 (.int 0)).set 8 (.int 0)))), (h2, .inr (3, ((((f1.set 6 (.ref h1)).set 7 (.int 0)).set 8 (.int 0)).set 5 (.int 0)))), (h4, .inl (cI, 2001, .inl (upd g0 0 0))), (h5, .inl (cI, 2001, .inl (upd g1 0 0)))] H := hP
  have hD : va_D A [(h6, .inr (2, f2)), (h7, .inl (cI, 260, .inl g2)), (h8, .inl (cI, 13312, .inl g3)), (h0, .inr (8, (((((((f0.set 3 (.int 0)).set 4 (.int 0)).set 5 (.int 0)).set 6 (.int (-1))).set 6 (.int 0)).set 7 (.int 0)).set 8 (.int 0)))), (h2, .inr (3, ((((f1.set 6 (.ref h1)).set 7 (.int 0)).set 8 (.int 0)).set 5 (.int 0)))), (h4, .inl (cI, 2001, .inl (upd g0 0 0))), (h5, .inl (cI, 2001, .inl (upd g1 0 0)))] := hD
  refine lv_aload_n hx hb dX8_readFormula_7 rfl (lv_at hl 0 rfl) ?_
  refine lv_bipush (v := 24) hx hb dX8_readFormula_8 (by decide) ?_
  refine k_cVv (As := [.int 24]) (rest := []) (wc := [(h0, .inr (8, (((((((f0.set 3 (.int 0)).set 4 (.int 0)).set 5 (.int 0)).set 6 (.int (-1))).set 6 (.int 0)).set 7 (.int 0)).set 8 (.int 0)))), (h6, .inr (2, f2)), (h7, .inl (cI, 260, .inl g2)), (h2, .inr (3, ((((f1.set 6 (.ref h1)).set 7 (.int 0)).set 8 (.int 0)).set 5 (.int 0)))), (h8, .inl (cI, 13312, .inl g3))]) (wr := [(h4, .inl (cI, 2001, .inl (upd g0 0 0))), (h5, .inl (cI, 2001, .inl (upd g1 0 0)))]) (w1 := (fun _ : Unit => [(h0, .inr (8, (((((((((((((((((((((f0.set 3 (.int 0)).set 4 (.int 0)).set 5 (.int 0)).set 6 (.int (-1))).set 6 (.int 0)).set 7 (.int 0)).set 8 (.int 0)).set 11 (.int 24)).set 12 (.int 0)).set 13 (.int 0)).set 14 (.int 0)).set 3 (.int 2)).set 4 (.int 0)).set 7 (.int 44)).set 13 (.int 1)).set 13 (.int 2)).set 7 (.int 44)).set 7 (.int 44)).set 13 (.int 3)).set 13 (.int 4)).set 13 (.int 5)))), (h6, .inr (2, f2)), (h7, .inl (cI, 260, .inl (upd (upd (upd g2 249 0) 240 0) 241 5))), (h2, .inr (3, ((((f1.set 6 (.ref h1)).set 7 (.int 0)).set 8 (.int 0)).set 5 (.int 0)))), (h8, .inl (cI, 13312, .inl (upd (upd (upd (upd (upd g3 12288 43) 12289 43) 12290 43) 12291 43) 12292 44)))])) ⟨hx, hb, hml, hown, hts⟩ hN hX hAE hK hP hD hS hA [3, 0, 1, 4, 2] [5, 6] (ci := 8) rfl rfl rfl rfl (by decide +kernel) (by decide +kernel) (by decide +kernel) (c_X8_readInto_0 l E D cI cJ cB cZ h0 ((((((((f0.set 3 (.int 0)).set 4 (.int 0)).set 5 (.int 0)).set 6 (.int (-1))).set 6 (.int 0)).set 7 (.int 0)).set 8 (.int 0))) h6 f2 h7 g2 h2 (((((f1.set 6 (.ref h1)).set 7 (.int 0)).set 8 (.int 0)).set 5 (.int 0))) h8 g3 (k_ne (by decide) (k_ne (by decide) (k_ne (by decide) (k_ne (by decide) (k_ne (by decide) (k_ne (by decide) (k_ne (by decide) e13))))))) (k_ne (by decide) (k_ne (by decide) (k_ne (by decide) (k_ne (by decide) (k_ne (by decide) (k_ne (by decide) (k_ne (by decide) e14))))))) (k_ne (by decide) (k_ne (by decide) (k_ne (by decide) (k_ne (by decide) (k_ne (by decide) (k_ne (by decide) (k_ne (by decide) e15))))))) (k_ne (by decide) (k_ne (by decide) (k_ne (by decide) (k_ne (by decide) (k_ne (by decide) (k_ne (by decide) (k_ne (by decide) e16))))))) (k_ne (by decide) (k_ne (by decide) (k_ne (by decide) (k_ne (by decide) (k_ne (by decide) (k_ne (by decide) (k_ne (by decide) e17))))))) (k_set (k_ne (by decide) (k_ne (by decide) (k_ne (by decide) (k_ne (by decide) (k_ne (by decide) (k_ne (by decide) e12))))))) e18 (k_ne (by decide) (k_set (k_ne (by decide) (k_ne (by decide) (k_ne (by decide) (k_ne (by decide) (k_ne (by decide) e11))))))) (k_ne (by decide) (k_ne (by decide) (k_ne (by decide) (k_ne (by decide) (k_ne (by decide) (k_ne (by decide) (k_ne (by decide) e0))))))) (k_ne (by decide) (k_ne (by decide) (k_set (k_set (k_ne (by decide) (k_ne (by decide) (k_ne (by decide) e10))))))) (k_set (k_ne (by decide) (k_ne (by decide) (k_ne (by decide) e4)))) e19 (k_ne (by decide) (k_ne (by decide) (k_ne (by decide) (k_ne (by decide) (k_ne (by decide) (k_ne (by decide) (k_set e7))))))) (k_ne (by decide) (k_ne (by decide) (k_ne (by decide) (k_ne (by decide) (k_ne (by decide) (k_set (k_ne (by decide) e8))))))) e20) (cwV 1 hts gX8_readFormula_X8_readInto rfl rfl rfl (by decide +kernel) ⟨Nat.le_of_ble_eq_true rfl, Nat.le_of_ble_eq_true rfl⟩) rfl hl.1 (Nat.le_of_ble_eq_true rfl) dX8_readFormula_10 ⟨Nat.le_of_ble_eq_true rfl, Nat.le_of_ble_eq_true rfl⟩ (fun _ H locs hP hD hS => ?_)
  have hP : va_P D vwCl [(h4, .inl (cI, 2001, .inl (upd g0 0 0))), (h5, .inl (cI, 2001, .inl (upd g1 0 0))), (h0, .inr (8, (((((((((((((((((((((f0.set 3 (.int 0)).set 4 (.int 0)).set 5 (.int 0)).set 6 (.int (-1))).set 6 (.int 0)).set 7 (.int 0)).set 8 (.int 0)).set 11 (.int 24)).set 12 (.int 0)).set 13 (.int 0)).set 14 (.int 0)).set 3 (.int 2)).set 4 (.int 0)).set 7 (.int 44)).set 13 (.int 1)).set 13 (.int 2)).set 7 (.int 44)).set 7 (.int 44)).set 13 (.int 3)).set 13 (.int 4)).set 13 (.int 5)))), (h6, .inr (2, f2)), (h7, .inl (cI, 260, .inl (upd (upd (upd g2 249 0) 240 0) 241 5))), (h2, .inr (3, ((((f1.set 6 (.ref h1)).set 7 (.int 0)).set 8 (.int 0)).set 5 (.int 0)))), (h8, .inl (cI, 13312, .inl (upd (upd (upd (upd (upd g3 12288 43) 12289 43) 12290 43) 12291 43) 12292 44)))] H := hP
  have hD : va_D A [(h4, .inl (cI, 2001, .inl (upd g0 0 0))), (h5, .inl (cI, 2001, .inl (upd g1 0 0))), (h0, .inr (8, (((((((((((((((((((((f0.set 3 (.int 0)).set 4 (.int 0)).set 5 (.int 0)).set 6 (.int (-1))).set 6 (.int 0)).set 7 (.int 0)).set 8 (.int 0)).set 11 (.int 24)).set 12 (.int 0)).set 13 (.int 0)).set 14 (.int 0)).set 3 (.int 2)).set 4 (.int 0)).set 7 (.int 44)).set 13 (.int 1)).set 13 (.int 2)).set 7 (.int 44)).set 7 (.int 44)).set 13 (.int 3)).set 13 (.int 4)).set 13 (.int 5)))), (h6, .inr (2, f2)), (h7, .inl (cI, 260, .inl (upd (upd (upd g2 249 0) 240 0) 241 5))), (h2, .inr (3, ((((f1.set 6 (.ref h1)).set 7 (.int 0)).set 8 (.int 0)).set 5 (.int 0)))), (h8, .inl (cI, 13312, .inl (upd (upd (upd (upd (upd g3 12288 43) 12289 43) 12290 43) 12291 43) 12292 44)))] := hD
  refine lv_aload_n hx hb dX8_readFormula_13 rfl (lv_at hl 0 rfl) ?_
  refine k_cVv (As := []) (rest := []) (wc := [(h0, .inr (8, (((((((((((((((((((((f0.set 3 (.int 0)).set 4 (.int 0)).set 5 (.int 0)).set 6 (.int (-1))).set 6 (.int 0)).set 7 (.int 0)).set 8 (.int 0)).set 11 (.int 24)).set 12 (.int 0)).set 13 (.int 0)).set 14 (.int 0)).set 3 (.int 2)).set 4 (.int 0)).set 7 (.int 44)).set 13 (.int 1)).set 13 (.int 2)).set 7 (.int 44)).set 7 (.int 44)).set 13 (.int 3)).set 13 (.int 4)).set 13 (.int 5))))]) (wr := [(h4, .inl (cI, 2001, .inl (upd g0 0 0))), (h5, .inl (cI, 2001, .inl (upd g1 0 0))), (h6, .inr (2, f2)), (h7, .inl (cI, 260, .inl (upd (upd (upd g2 249 0) 240 0) 241 5))), (h2, .inr (3, ((((f1.set 6 (.ref h1)).set 7 (.int 0)).set 8 (.int 0)).set 5 (.int 0)))), (h8, .inl (cI, 13312, .inl (upd (upd (upd (upd (upd g3 12288 43) 12289 43) 12290 43) 12291 43) 12292 44)))]) (w1 := (fun _ : Unit => [(h0, .inr (8, ((((((((((((((((((((((f0.set 3 (.int 0)).set 4 (.int 0)).set 5 (.int 0)).set 6 (.int (-1))).set 6 (.int 0)).set 7 (.int 0)).set 8 (.int 0)).set 11 (.int 24)).set 12 (.int 0)).set 13 (.int 0)).set 14 (.int 0)).set 3 (.int 2)).set 4 (.int 0)).set 7 (.int 44)).set 13 (.int 1)).set 13 (.int 2)).set 7 (.int 44)).set 7 (.int 44)).set 13 (.int 3)).set 13 (.int 4)).set 13 (.int 5)).set 7 (.int 44))))])) ⟨hx, hb, hml, hown, hts⟩ hN hX hAE hK hP hD hS hA [2] [0, 1, 3, 4, 5, 6] (ci := 8) rfl rfl rfl rfl (by decide +kernel) (by decide +kernel) (by decide +kernel) (c_X8_expectEnd_1 l E D cI cJ cB cZ h0 ((((((((((((((((((((((f0.set 3 (.int 0)).set 4 (.int 0)).set 5 (.int 0)).set 6 (.int (-1))).set 6 (.int 0)).set 7 (.int 0)).set 8 (.int 0)).set 11 (.int 24)).set 12 (.int 0)).set 13 (.int 0)).set 14 (.int 0)).set 3 (.int 2)).set 4 (.int 0)).set 7 (.int 44)).set 13 (.int 1)).set 13 (.int 2)).set 7 (.int 44)).set 7 (.int 44)).set 13 (.int 3)).set 13 (.int 4)).set 13 (.int 5))) (k_ne (by decide) (k_ne (by decide) (k_ne (by decide) (k_set (k_set (k_ne (by decide) (k_ne (by decide) (k_set (k_ne (by decide) (k_ne (by decide) (k_ne (by decide) (k_ne (by decide) (k_ne (by decide) (k_ne (by decide) (k_ne (by decide) (k_set (k_ne (by decide) (k_ne (by decide) (k_ne (by decide) (k_ne (by decide) (k_ne (by decide) e11))))))))))))))))))))) (k_ne (by decide) (k_ne (by decide) (k_ne (by decide) (k_ne (by decide) (k_ne (by decide) (k_ne (by decide) (k_ne (by decide) (k_ne (by decide) (k_ne (by decide) (k_set (k_ne (by decide) (k_ne (by decide) (k_ne (by decide) (k_ne (by decide) (k_ne (by decide) (k_ne (by decide) (k_ne (by decide) (k_ne (by decide) (k_ne (by decide) (k_ne (by decide) (k_set e7)))))))))))))))))))))) (cwV 0 hts gX8_readFormula_X8_expectEnd rfl rfl rfl (by decide +kernel) ⟨Nat.le_of_ble_eq_true rfl, Nat.le_of_ble_eq_true rfl⟩) rfl hl.1 (Nat.le_of_ble_eq_true rfl) dX8_readFormula_14 ⟨Nat.le_of_ble_eq_true rfl, Nat.le_of_ble_eq_true rfl⟩ (fun _ H locs hP hD hS => ?_)
  have hP : va_P D vwCl [(h4, .inl (cI, 2001, .inl (upd g0 0 0))), (h5, .inl (cI, 2001, .inl (upd g1 0 0))), (h6, .inr (2, f2)), (h7, .inl (cI, 260, .inl (upd (upd (upd g2 249 0) 240 0) 241 5))), (h2, .inr (3, ((((f1.set 6 (.ref h1)).set 7 (.int 0)).set 8 (.int 0)).set 5 (.int 0)))), (h8, .inl (cI, 13312, .inl (upd (upd (upd (upd (upd g3 12288 43) 12289 43) 12290 43) 12291 43) 12292 44))), (h0, .inr (8, ((((((((((((((((((((((f0.set 3 (.int 0)).set 4 (.int 0)).set 5 (.int 0)).set 6 (.int (-1))).set 6 (.int 0)).set 7 (.int 0)).set 8 (.int 0)).set 11 (.int 24)).set 12 (.int 0)).set 13 (.int 0)).set 14 (.int 0)).set 3 (.int 2)).set 4 (.int 0)).set 7 (.int 44)).set 13 (.int 1)).set 13 (.int 2)).set 7 (.int 44)).set 7 (.int 44)).set 13 (.int 3)).set 13 (.int 4)).set 13 (.int 5)).set 7 (.int 44))))] H := hP
  have hD : va_D A [(h4, .inl (cI, 2001, .inl (upd g0 0 0))), (h5, .inl (cI, 2001, .inl (upd g1 0 0))), (h6, .inr (2, f2)), (h7, .inl (cI, 260, .inl (upd (upd (upd g2 249 0) 240 0) 241 5))), (h2, .inr (3, ((((f1.set 6 (.ref h1)).set 7 (.int 0)).set 8 (.int 0)).set 5 (.int 0)))), (h8, .inl (cI, 13312, .inl (upd (upd (upd (upd (upd g3 12288 43) 12289 43) 12290 43) 12291 43) 12292 44))), (h0, .inr (8, ((((((((((((((((((((((f0.set 3 (.int 0)).set 4 (.int 0)).set 5 (.int 0)).set 6 (.int (-1))).set 6 (.int 0)).set 7 (.int 0)).set 8 (.int 0)).set 11 (.int 24)).set 12 (.int 0)).set 13 (.int 0)).set 14 (.int 0)).set 3 (.int 2)).set 4 (.int 0)).set 7 (.int 44)).set 13 (.int 1)).set 13 (.int 2)).set 7 (.int 44)).set 7 (.int 44)).set 13 (.int 3)).set 13 (.int 4)).set 13 (.int 5)).set 7 (.int 44))))] := hD
  refine lv_aload_n hx hb dX8_readFormula_17 rfl (lv_at hl 0 rfl) ?_
  refine va_get (D := D) (ref := "IntegerHouse$Reader") (ci := 8) (v := .int 2) (C := RX8) (T := TX8) (N := 15) hx hb hts hin8 hown hK hP 6 rfl rfl 3 (by decide) (hts (.fieldLink RX8 62 "IntegerHouse$Reader" "faultKind" "I") (List.mem_cons_of_mem _ (List.mem_append_left _ (List.mem_append_left _ (List.mem_append_left _ (List.mem_append_left _ (List.mem_append_left _ (List.mem_of_getElem? (i := 0) rfl)))))))) (fun _ h9 => h9) (k_ne (by decide) (k_ne (by decide) (k_ne (by decide) (k_ne (by decide) (k_ne (by decide) (k_ne (by decide) (k_ne (by decide) (k_ne (by decide) (k_ne (by decide) (k_ne (by decide) (k_set (k_ne (by decide) (k_ne (by decide) (k_ne (by decide) (k_ne (by decide) (k_ne (by decide) (k_ne (by decide) (k_ne (by decide) (k_ne (by decide) (k_ne (by decide) (k_ne (by decide) (k_set e7)))))))))))))))))))))) dX8_readFormula_18 ?_
  refine lv_if_ne (tgt := 39) hx hb dX8_readFormula_21 (by decide) (fun _ => ?_) (fun c9 => absurd c9 (by decide))
  refine lv_aload_n hx hb dX8_readFormula_39 rfl (lv_at hl 0 rfl) ?_
  refine va_get (D := D) (ref := "IntegerHouse$Reader") (ci := 8) (v := .int 2) (C := RX8) (T := TX8) (N := 15) hx hb hts hin8 hown hK hP 6 rfl rfl 3 (by decide) (hts (.fieldLink RX8 62 "IntegerHouse$Reader" "faultKind" "I") (List.mem_cons_of_mem _ (List.mem_append_left _ (List.mem_append_left _ (List.mem_append_left _ (List.mem_append_left _ (List.mem_append_left _ (List.mem_of_getElem? (i := 0) rfl)))))))) (fun _ h9 => h9) (k_ne (by decide) (k_ne (by decide) (k_ne (by decide) (k_ne (by decide) (k_ne (by decide) (k_ne (by decide) (k_ne (by decide) (k_ne (by decide) (k_ne (by decide) (k_ne (by decide) (k_set (k_ne (by decide) (k_ne (by decide) (k_ne (by decide) (k_ne (by decide) (k_ne (by decide) (k_ne (by decide) (k_ne (by decide) (k_ne (by decide) (k_ne (by decide) (k_ne (by decide) (k_set e7)))))))))))))))))))))) dX8_readFormula_40 ?_
  refine lv_if_ne (tgt := 50) hx hb dX8_readFormula_43 (by decide) (fun _ => ?_) (fun c9 => absurd c9 (by decide))
  refine lv_iconst (v := 0) hx hb dX8_readFormula_50 (by decide) ?_
  have hP := hP.sub (ws' := [(h0, .inr (8, ((((((((((((((((((((((f0.set 3 (.int 0)).set 4 (.int 0)).set 5 (.int 0)).set 6 (.int (-1))).set 6 (.int 0)).set 7 (.int 0)).set 8 (.int 0)).set 11 (.int 24)).set 12 (.int 0)).set 13 (.int 0)).set 14 (.int 0)).set 3 (.int 2)).set 4 (.int 0)).set 7 (.int 44)).set 13 (.int 1)).set 13 (.int 2)).set 7 (.int 44)).set 7 (.int 44)).set 13 (.int 3)).set 13 (.int 4)).set 13 (.int 5)).set 7 (.int 44)))), (h2, .inr (3, ((((f1.set 6 (.ref h1)).set 7 (.int 0)).set 8 (.int 0)).set 5 (.int 0)))), (h4, .inl (cI, 2001, .inl (upd g0 0 0))), (h5, .inl (cI, 2001, .inl (upd g1 0 0))), (h6, .inr (2, f2)), (h7, .inl (cI, 260, .inl (upd (upd (upd g2 249 0) 240 0) 241 5))), (h8, .inl (cI, 13312, .inl (upd (upd (upd (upd (upd g3 12288 43) 12289 43) 12290 43) 12291 43) 12292 44)))]) [6, 4, 0, 1, 2, 3, 5] rfl
  have hD := hD.sub (ws' := [(h0, .inr (8, ((((((((((((((((((((((f0.set 3 (.int 0)).set 4 (.int 0)).set 5 (.int 0)).set 6 (.int (-1))).set 6 (.int 0)).set 7 (.int 0)).set 8 (.int 0)).set 11 (.int 24)).set 12 (.int 0)).set 13 (.int 0)).set 14 (.int 0)).set 3 (.int 2)).set 4 (.int 0)).set 7 (.int 44)).set 13 (.int 1)).set 13 (.int 2)).set 7 (.int 44)).set 7 (.int 44)).set 13 (.int 3)).set 13 (.int 4)).set 13 (.int 5)).set 7 (.int 44)))), (h2, .inr (3, ((((f1.set 6 (.ref h1)).set 7 (.int 0)).set 8 (.int 0)).set 5 (.int 0)))), (h4, .inl (cI, 2001, .inl (upd g0 0 0))), (h5, .inl (cI, 2001, .inl (upd g1 0 0))), (h6, .inr (2, f2)), (h7, .inl (cI, 260, .inl (upd (upd (upd g2 249 0) 240 0) 241 5))), (h8, .inl (cI, 13312, .inl (upd (upd (upd (upd (upd g3 12288 43) 12289 43) 12290 43) 12291 43) 12292 44)))]) [6, 4, 0, 1, 2, 3, 5] (by decide +kernel) rfl
  exact W.zret (v := 0) hx hb hr rfl (fun t ht hW => ⟨⟨0, (), rfl, rfl, kB_mk ht hW hP hK hD⟩, hS.F ht⟩) hS.2.2 dX8_readFormula_51
set_option maxHeartbeats 400000000 in
set_option maxRecDepth 100000 in
theorem c_X11_follows_0 (l : Launch) (E : kE) (D : va_G) (cI cJ cB cZ : ClassId) (h0 : Nat) (f0 : List Value) (h1 : Nat) (f1 : List Value) (h2 : Nat) (f2 : List Value) (h3 : Nat) (h4 : Nat) (f3 : List Value) (h5 : Nat) (f4 : List Value) (h6 : Nat) (h7 : Nat) (h8 : Nat) (h9 : Nat) (h10 : Nat) (g0 : Nat → Int32) (g1 : Nat → Int32) (g2 : Nat → Int32) (g3 : Nat → Int32) (e0 : f0[1]? = some (.ref h1)) (e1 : f1[8]? = some (.int 0)) (e2 : f0[2]? = some (.ref h2)) (e3 : f2[12]? = some (.int 0)) (e4 : f0[5]? = some (.ref h3)) (e5 : f0[0]? = some (.ref h4)) (e6 : f0[12]? = some (.int 0)) (e7 : f3[0]? = some (.ref h5)) (e8 : f4[6]? = some (.ref h6)) (e9 : f4[7]? = some (.int 0)) (e10 : f4[8]? = some (.int 0)) (e11 : f4[5]? = some (.int 0)) (e12 : f4[1]? = some (.ref h7)) (e13 : f4[2]? = some (.ref h8)) (e14 : f3[3]? = some (.int 0)) (e15 : f3[4]? = some (.int 0)) (e16 : f3[5]? = some (.int 0)) (e17 : f3[6]? = some (.int 0)) (e18 : f3[7]? = some (.int 0)) (e19 : f3[8]? = some (.int 0)) (e20 : f3[11]? = some (.int 0)) (e21 : f3[12]? = some (.int 0)) (e22 : f3[13]? = some (.int 0)) (e23 : f3[14]? = some (.int 0)) (e24 : f3[1]? = some (.ref h2)) (e25 : f2[5]? = some (.ref h9)) (e26 : f2[10]? = some (.int 0)) (e27 : f2[3]? = some (.ref h10)) (e28 : f0[13]? = some (.int 0)) : kI l E D (kT cI cJ cB cZ) yX11_follows wsX11_follows ({ frames := 10, cells := 0, slots := 0, locals := 220 }) [.ref h0] [(h0, .inr (11, f0)), (h1, .inr (1, f1)), (h2, .inr (2, f2)), (h3, .inr (8, f3)), (h5, .inr (3, f4)), (h7, .inl (cI, 2001, .inl g0)), (h8, .inl (cI, 2001, .inl g1)), (h9, .inl (cI, 260, .inl g2)), (h10, .inl (cI, 13312, .inl g3))] ((-1000)) [(h0, .inr (11, ((f0.set 12 (.int 0)).set 13 (.int 2)))), (h1, .inr (1, f1)), (h2, .inr (2, (f2.set 12 (.int 0)))), (h3, .inr (8, ((((((((((((((((((((((f3.set 3 (.int 0)).set 4 (.int 0)).set 5 (.int 0)).set 6 (.int (-1))).set 6 (.int 0)).set 7 (.int 0)).set 8 (.int 0)).set 11 (.int 24)).set 12 (.int 0)).set 13 (.int 0)).set 14 (.int 0)).set 3 (.int 2)).set 4 (.int 0)).set 7 (.int 44)).set 13 (.int 1)).set 13 (.int 2)).set 7 (.int 44)).set 7 (.int 44)).set 13 (.int 3)).set 13 (.int 4)).set 13 (.int 5)).set 7 (.int 44)))), (h5, .inr (3, ((((f4.set 6 (.ref h4)).set 7 (.int 0)).set 8 (.int 0)).set 5 (.int 0)))), (h7, .inl (cI, 2001, .inl (upd g0 0 0))), (h8, .inl (cI, 2001, .inl (upd g1 0 0))), (h9, .inl (cI, 260, .inl (upd (upd (upd g2 249 0) 240 0) 241 5))), (h10, .inl (cI, 13312, .inl (upd (upd (upd (upd (upd g3 12288 43) 12289 43) 12290 43) 12291 43) 12292 44)))] 0 0 := by
  intro sz
  refine Met.ofW (cc := cX11_follows) (maxL := 3) (ret := (some .int)) (by decide) rfl ?_
  intro p e s m args below meth c s₁ B hml hv
  obtain ⟨rfl, hsz, hP, hK, hD0, hN, hX⟩ := hv
  have hx := B.exec
  have hb := B.bytes
  have hr := B.returns
  have hts := atoms_spec (ws := wsX11_follows) B.pre
  have hown : s.vm.findClass RX11 = some m.cls := findClass_of_methodNamed B.named
  have hlocks := B.notSynchronized
  have hin11 : ∀ w ∈ wsX110, w ∈ wsX11_follows := (fun w h => (List.mem_cons_of_mem _ (List.mem_append_left _ (List.mem_append_left _ (List.mem_append_left _ (List.mem_append_left _ (List.mem_append_left _ (List.mem_append_left _ (List.mem_append_left _ (List.mem_append_right _ h))))))))))
  have hin1 : ∀ w ∈ wsX10, w ∈ wsX11_follows := (fun w h => (List.mem_cons_of_mem _ (List.mem_append_left _ (List.mem_append_left _ (List.mem_append_left _ (List.mem_append_left _ (List.mem_append_left _ (List.mem_append_left _ (List.mem_append_right _ h)))))))))
  have hin2 : ∀ w ∈ wsX20, w ∈ wsX11_follows := (fun w h => (List.mem_cons_of_mem _ (List.mem_append_left _ (List.mem_append_left _ (List.mem_append_left _ (List.mem_append_left _ (List.mem_append_left _ (List.mem_append_right _ h))))))))
  subst hsz
  have hD := hD0.self (sz := s.heap.size)
  have hAE := k_AE hD0 hX
  generalize hAe : va_A [(h0, .inr (11, f0)), (h1, .inr (1, f1)), (h2, .inr (2, f2)), (h3, .inr (8, f3)), (h5, .inr (3, f4)), (h7, .inl (cI, 2001, .inl g0)), (h8, .inl (cI, 2001, .inl g1)), (h9, .inl (cI, 260, .inl g2)), (h10, .inl (cI, 13312, .inl g3))] s.heap.size = A at hD hAE ⊢
  have hA : ∀ q : Nat, s.heap.size ≤ q → A q := fun q h => by rw [← hAe]; exact Or.inr h
  have hS : va_S A s.heap s.heap [] := va_S.rf
  have hP : va_P D vwCl [(h0, .inr (11, f0)), (h1, .inr (1, f1)), (h2, .inr (2, f2)), (h3, .inr (8, f3)), (h5, .inr (3, f4)), (h7, .inl (cI, 2001, .inl g0)), (h8, .inl (cI, 2001, .inl g1)), (h9, .inl (cI, 260, .inl g2)), (h10, .inl (cI, 13312, .inl g3))] s.heap := hP
  have hl := lv_entry ([.ref h0] : List Value) (n := 3) (Nat.le_of_ble_eq_true rfl)
  rw [lg_entry_eq]
  generalize (lg_sl ([.ref h0]) ++ List.replicate (3 - (lg_sl ([.ref h0])).length) Slot.unset).toArray = ls at hl ⊢
  have hl : lv_has ls 3 [(0, .ref h0)] := hl
  refine lv_aload_n hx hb dX11_follows_0 rfl (lv_at hl 0 rfl) ?_
  refine va_get (D := D) (ref := "IntegerHouse") (ci := 11) (v := .ref h1) (C := RX11) (T := TX11) (N := 15) hx hb hts hin11 hown hK hP 0 rfl rfl 1 (by decide) (hts (.fieldLink RX11 16 "IntegerHouse" "disk" "LIntegerHouse$Disk;") (List.mem_cons_of_mem _ (List.mem_append_left _ (List.mem_append_left _ (List.mem_append_left _ (List.mem_append_left _ (List.mem_append_left _ (List.mem_append_left _ (List.mem_append_left _ (List.mem_append_left _ (List.mem_append_left _ (List.mem_of_getElem? (i := 0) rfl)))))))))))) (fun _ h9 => h9) e0 dX11_follows_1 ?_
  refine va_getN (host := "IntegerHouse") (D := D) (ref := "IntegerHouse$Disk") (ci := 1) (v := .int 0) (C := RX1) (T := TX1) (N := 9) hx hb hts hin1 hown hK hP 1 rfl rfl 8 (by decide) (va_Nw.use rfl (hN.1 ("IntegerHouse", 122, "IntegerHouse$Disk", "down", "Z", "IntegerHouse") (List.mem_of_getElem? (i := 3) rfl))) (fun _ h9 => h9) e1 dX11_follows_4 ?_
  refine lv_if_eq (tgt := 13) hx hb dX11_follows_7 (by decide) (fun _ => ?_) (fun c9 => absurd (by decide) c9)
  refine lv_aload_n hx hb dX11_follows_13 rfl (lv_at hl 0 rfl) ?_
  refine va_get (D := D) (ref := "IntegerHouse") (ci := 11) (v := .ref h2) (C := RX11) (T := TX11) (N := 15) hx hb hts hin11 hown hK hP 0 rfl rfl 2 (by decide) (hts (.fieldLink RX11 23 "IntegerHouse" "house" "LIntegerHouse$House;") (List.mem_cons_of_mem _ (List.mem_append_left _ (List.mem_append_left _ (List.mem_append_left _ (List.mem_append_left _ (List.mem_append_left _ (List.mem_append_left _ (List.mem_append_left _ (List.mem_append_left _ (List.mem_append_left _ (List.mem_of_getElem? (i := 1) rfl)))))))))))) (fun _ h9 => h9) e2 dX11_follows_14 ?_
  refine va_getN (host := "IntegerHouse") (D := D) (ref := "IntegerHouse$House") (ci := 2) (v := .int 0) (C := RX2) (T := TX2) (N := 16) hx hb hts hin2 hown hK hP 2 rfl rfl 12 (by decide) (va_Nw.use rfl (hN.1 ("IntegerHouse", 233, "IntegerHouse$House", "poolSize", "I", "IntegerHouse") (List.mem_of_getElem? (i := 16) rfl))) (fun _ h9 => h9) e3 dX11_follows_17 ?_
  refine lv_istore_n (lv' := [(1, .int 0), (0, .ref h0)]) hx hb dX11_follows_20 rfl hl (by decide) rfl (fun ls hl => ?_)
  refine lv_aload_n hx hb dX11_follows_21 rfl (lv_at hl 1 rfl) ?_
  refine va_get (D := D) (ref := "IntegerHouse") (ci := 11) (v := .ref h3) (C := RX11) (T := TX11) (N := 15) hx hb hts hin11 hown hK hP 0 rfl rfl 5 (by decide) (hts (.fieldLink RX11 48 "IntegerHouse" "reader" "LIntegerHouse$Reader;") (List.mem_cons_of_mem _ (List.mem_append_left _ (List.mem_append_left _ (List.mem_append_left _ (List.mem_append_left _ (List.mem_append_left _ (List.mem_append_left _ (List.mem_append_left _ (List.mem_append_left _ (List.mem_append_left _ (List.mem_of_getElem? (i := 2) rfl)))))))))))) (fun _ h9 => h9) e4 dX11_follows_22 ?_
  refine lv_aload_n hx hb dX11_follows_25 rfl (lv_at hl 1 rfl) ?_
  refine va_get (D := D) (ref := "IntegerHouse") (ci := 11) (v := .ref h4) (C := RX11) (T := TX11) (N := 15) hx hb hts hin11 hown hK hP 0 rfl rfl 0 (by decide) (hts (.fieldLink RX11 9 "IntegerHouse" "tape" "[B") (List.mem_cons_of_mem _ (List.mem_append_left _ (List.mem_append_left _ (List.mem_append_left _ (List.mem_append_left _ (List.mem_append_left _ (List.mem_append_left _ (List.mem_append_left _ (List.mem_append_left _ (List.mem_append_left _ (List.mem_of_getElem? (i := 3) rfl)))))))))))) (fun _ h9 => h9) e5 dX11_follows_26 ?_
  refine lv_aload_n hx hb dX11_follows_29 rfl (lv_at hl 1 rfl) ?_
  refine k_cVi (As := []) (rest := [.ref h4, .ref h3]) (wc := [(h0, .inr (11, f0))]) (wr := [(h1, .inr (1, f1)), (h2, .inr (2, f2)), (h3, .inr (8, f3)), (h5, .inr (3, f4)), (h7, .inl (cI, 2001, .inl g0)), (h8, .inl (cI, 2001, .inl g1)), (h9, .inl (cI, 260, .inl g2)), (h10, .inl (cI, 13312, .inl g3))]) (w1 := [(h0, .inr (11, (f0.set 12 (.int 0))))]) ⟨hx, hb, hml, hown, hts⟩ hN hX hAE hK hP hD hS hA [0] [1, 2, 3, 4, 5, 6, 7, 8] (ci := 11) rfl rfl rfl rfl (by decide +kernel) (by decide +kernel) (by decide +kernel) (c_X11_useTape_0 l E D cI cJ cB cZ h0 f0 e6) (cwV 0 hts gX11_follows_X11_useTape rfl rfl rfl (by decide +kernel) ⟨Nat.le_of_ble_eq_true rfl, Nat.le_of_ble_eq_true rfl⟩) rfl hl.1 (Nat.le_of_ble_eq_true rfl) dX11_follows_30 ⟨Nat.le_of_ble_eq_true rfl, Nat.le_of_ble_eq_true rfl⟩ (fun H locs hP hD hS => ?_)
  have hP : va_P D vwCl [(h1, .inr (1, f1)), (h2, .inr (2, f2)), (h3, .inr (8, f3)), (h5, .inr (3, f4)), (h7, .inl (cI, 2001, .inl g0)), (h8, .inl (cI, 2001, .inl g1)), (h9, .inl (cI, 260, .inl g2)), (h10, .inl (cI, 13312, .inl g3)), (h0, .inr (11, (f0.set 12 (.int 0))))] H := hP
  have hD : va_D A [(h1, .inr (1, f1)), (h2, .inr (2, f2)), (h3, .inr (8, f3)), (h5, .inr (3, f4)), (h7, .inl (cI, 2001, .inl g0)), (h8, .inl (cI, 2001, .inl g1)), (h9, .inl (cI, 260, .inl g2)), (h10, .inl (cI, 13312, .inl g3)), (h0, .inr (11, (f0.set 12 (.int 0))))] := hD
  refine k_cVi (As := [.ref h4, .int 0]) (rest := []) (wc := [(h3, .inr (8, f3)), (h5, .inr (3, f4)), (h7, .inl (cI, 2001, .inl g0)), (h8, .inl (cI, 2001, .inl g1)), (h2, .inr (2, f2)), (h9, .inl (cI, 260, .inl g2)), (h10, .inl (cI, 13312, .inl g3))]) (wr := [(h1, .inr (1, f1)), (h0, .inr (11, (f0.set 12 (.int 0))))]) (w1 := [(h3, .inr (8, ((((((((((((((((((((((f3.set 3 (.int 0)).set 4 (.int 0)).set 5 (.int 0)).set 6 (.int (-1))).set 6 (.int 0)).set 7 (.int 0)).set 8 (.int 0)).set 11 (.int 24)).set 12 (.int 0)).set 13 (.int 0)).set 14 (.int 0)).set 3 (.int 2)).set 4 (.int 0)).set 7 (.int 44)).set 13 (.int 1)).set 13 (.int 2)).set 7 (.int 44)).set 7 (.int 44)).set 13 (.int 3)).set 13 (.int 4)).set 13 (.int 5)).set 7 (.int 44)))), (h5, .inr (3, ((((f4.set 6 (.ref h4)).set 7 (.int 0)).set 8 (.int 0)).set 5 (.int 0)))), (h7, .inl (cI, 2001, .inl (upd g0 0 0))), (h8, .inl (cI, 2001, .inl (upd g1 0 0))), (h2, .inr (2, f2)), (h9, .inl (cI, 260, .inl (upd (upd (upd g2 249 0) 240 0) 241 5))), (h10, .inl (cI, 13312, .inl (upd (upd (upd (upd (upd g3 12288 43) 12289 43) 12290 43) 12291 43) 12292 44)))]) ⟨hx, hb, hml, hown, hts⟩ hN hX hAE hK hP hD hS hA [2, 3, 4, 5, 1, 6, 7] [0, 8] (ci := 8) rfl rfl rfl rfl (by decide +kernel) (by decide +kernel) (by decide +kernel) (c_X8_readFormula_0 l E D cI cJ cB cZ h3 h4 f3 h5 f4 h6 h7 h8 g0 g1 h2 f2 h9 h10 g2 g3 e7 e8 e9 e10 e11 e12 e13 e14 e15 e16 e17 e18 e19 e20 e21 e22 e23 e24 e25 e26 e27) (cwV 2 hts gX11_follows_X8_readFormula rfl rfl rfl (by decide +kernel) ⟨Nat.le_of_ble_eq_true rfl, Nat.le_of_ble_eq_true rfl⟩) rfl hl.1 (Nat.le_of_ble_eq_true rfl) dX11_follows_33 ⟨Nat.le_of_ble_eq_true rfl, Nat.le_of_ble_eq_true rfl⟩ (fun H locs hP hD hS => ?_)
  have hP : va_P D vwCl [(h1, .inr (1, f1)), (h0, .inr (11, (f0.set 12 (.int 0)))), (h3, .inr (8, ((((((((((((((((((((((f3.set 3 (.int 0)).set 4 (.int 0)).set 5 (.int 0)).set 6 (.int (-1))).set 6 (.int 0)).set 7 (.int 0)).set 8 (.int 0)).set 11 (.int 24)).set 12 (.int 0)).set 13 (.int 0)).set 14 (.int 0)).set 3 (.int 2)).set 4 (.int 0)).set 7 (.int 44)).set 13 (.int 1)).set 13 (.int 2)).set 7 (.int 44)).set 7 (.int 44)).set 13 (.int 3)).set 13 (.int 4)).set 13 (.int 5)).set 7 (.int 44)))), (h5, .inr (3, ((((f4.set 6 (.ref h4)).set 7 (.int 0)).set 8 (.int 0)).set 5 (.int 0)))), (h7, .inl (cI, 2001, .inl (upd g0 0 0))), (h8, .inl (cI, 2001, .inl (upd g1 0 0))), (h2, .inr (2, f2)), (h9, .inl (cI, 260, .inl (upd (upd (upd g2 249 0) 240 0) 241 5))), (h10, .inl (cI, 13312, .inl (upd (upd (upd (upd (upd g3 12288 43) 12289 43) 12290 43) 12291 43) 12292 44)))] H := hP
  have hD : va_D A [(h1, .inr (1, f1)), (h0, .inr (11, (f0.set 12 (.int 0)))), (h3, .inr (8, ((((((((((((((((((((((f3.set 3 (.int 0)).set 4 (.int 0)).set 5 (.int 0)).set 6 (.int (-1))).set 6 (.int 0)).set 7 (.int 0)).set 8 (.int 0)).set 11 (.int 24)).set 12 (.int 0)).set 13 (.int 0)).set 14 (.int 0)).set 3 (.int 2)).set 4 (.int 0)).set 7 (.int 44)).set 13 (.int 1)).set 13 (.int 2)).set 7 (.int 44)).set 7 (.int 44)).set 13 (.int 3)).set 13 (.int 4)).set 13 (.int 5)).set 7 (.int 44)))), (h5, .inr (3, ((((f4.set 6 (.ref h4)).set 7 (.int 0)).set 8 (.int 0)).set 5 (.int 0)))), (h7, .inl (cI, 2001, .inl (upd g0 0 0))), (h8, .inl (cI, 2001, .inl (upd g1 0 0))), (h2, .inr (2, f2)), (h9, .inl (cI, 260, .inl (upd (upd (upd g2 249 0) 240 0) 241 5))), (h10, .inl (cI, 13312, .inl (upd (upd (upd (upd (upd g3 12288 43) 12289 43) 12290 43) 12291 43) 12292 44)))] := hD
  refine lv_if_ne (tgt := 47) hx hb dX11_follows_36 (by decide) (fun c9 => absurd (by decide) c9) (fun _ => ?_)
  refine lv_aload_n hx hb dX11_follows_39 rfl (lv_at hl 1 rfl) ?_
  refine k_cVi (As := []) (rest := []) (wc := [(h0, .inr (11, (f0.set 12 (.int 0)))), (h3, .inr (8, ((((((((((((((((((((((f3.set 3 (.int 0)).set 4 (.int 0)).set 5 (.int 0)).set 6 (.int (-1))).set 6 (.int 0)).set 7 (.int 0)).set 8 (.int 0)).set 11 (.int 24)).set 12 (.int 0)).set 13 (.int 0)).set 14 (.int 0)).set 3 (.int 2)).set 4 (.int 0)).set 7 (.int 44)).set 13 (.int 1)).set 13 (.int 2)).set 7 (.int 44)).set 7 (.int 44)).set 13 (.int 3)).set 13 (.int 4)).set 13 (.int 5)).set 7 (.int 44))))]) (wr := [(h1, .inr (1, f1)), (h5, .inr (3, ((((f4.set 6 (.ref h4)).set 7 (.int 0)).set 8 (.int 0)).set 5 (.int 0)))), (h7, .inl (cI, 2001, .inl (upd g0 0 0))), (h8, .inl (cI, 2001, .inl (upd g1 0 0))), (h2, .inr (2, f2)), (h9, .inl (cI, 260, .inl (upd (upd (upd g2 249 0) 240 0) 241 5))), (h10, .inl (cI, 13312, .inl (upd (upd (upd (upd (upd g3 12288 43) 12289 43) 12290 43) 12291 43) 12292 44)))]) (w1 := [(h0, .inr (11, ((f0.set 12 (.int 0)).set 13 (.int 2)))), (h3, .inr (8, ((((((((((((((((((((((f3.set 3 (.int 0)).set 4 (.int 0)).set 5 (.int 0)).set 6 (.int (-1))).set 6 (.int 0)).set 7 (.int 0)).set 8 (.int 0)).set 11 (.int 24)).set 12 (.int 0)).set 13 (.int 0)).set 14 (.int 0)).set 3 (.int 2)).set 4 (.int 0)).set 7 (.int 44)).set 13 (.int 1)).set 13 (.int 2)).set 7 (.int 44)).set 7 (.int 44)).set 13 (.int 3)).set 13 (.int 4)).set 13 (.int 5)).set 7 (.int 44))))]) ⟨hx, hb, hml, hown, hts⟩ hN hX hAE hK hP hD hS hA [1, 2] [0, 3, 4, 5, 6, 7, 8] (ci := 11) rfl rfl rfl rfl (by decide +kernel) (by decide +kernel) (by decide +kernel) (c_X11_faulted_0 l E D cI cJ cB cZ h0 ((f0.set 12 (.int 0))) h3 (((((((((((((((((((((((f3.set 3 (.int 0)).set 4 (.int 0)).set 5 (.int 0)).set 6 (.int (-1))).set 6 (.int 0)).set 7 (.int 0)).set 8 (.int 0)).set 11 (.int 24)).set 12 (.int 0)).set 13 (.int 0)).set 14 (.int 0)).set 3 (.int 2)).set 4 (.int 0)).set 7 (.int 44)).set 13 (.int 1)).set 13 (.int 2)).set 7 (.int 44)).set 7 (.int 44)).set 13 (.int 3)).set 13 (.int 4)).set 13 (.int 5)).set 7 (.int 44))) (k_ne (by decide) e4) (k_ne (by decide) (k_ne (by decide) (k_ne (by decide) (k_ne (by decide) (k_ne (by decide) (k_ne (by decide) (k_ne (by decide) (k_ne (by decide) (k_ne (by decide) (k_ne (by decide) (k_set (k_ne (by decide) (k_ne (by decide) (k_ne (by decide) (k_ne (by decide) (k_ne (by decide) (k_ne (by decide) (k_ne (by decide) (k_ne (by decide) (k_ne (by decide) (k_ne (by decide) (k_set e14)))))))))))))))))))))) (k_ne (by decide) e28) (k_ne (by decide) (k_ne (by decide) (k_ne (by decide) (k_ne (by decide) (k_ne (by decide) (k_ne (by decide) (k_ne (by decide) (k_ne (by decide) (k_ne (by decide) (k_set (k_ne (by decide) (k_ne (by decide) (k_ne (by decide) (k_ne (by decide) (k_ne (by decide) (k_ne (by decide) (k_ne (by decide) (k_ne (by decide) (k_ne (by decide) (k_ne (by decide) (k_set (k_ne (by decide) e15))))))))))))))))))))))) (cwV 0 hts gX11_follows_X11_faulted rfl rfl rfl (by decide +kernel) ⟨Nat.le_of_ble_eq_true rfl, Nat.le_of_ble_eq_true rfl⟩) rfl hl.1 (Nat.le_of_ble_eq_true rfl) dX11_follows_40 ⟨Nat.le_of_ble_eq_true rfl, Nat.le_of_ble_eq_true rfl⟩ (fun H locs hP hD hS => ?_)
  have hP : va_P D vwCl [(h1, .inr (1, f1)), (h5, .inr (3, ((((f4.set 6 (.ref h4)).set 7 (.int 0)).set 8 (.int 0)).set 5 (.int 0)))), (h7, .inl (cI, 2001, .inl (upd g0 0 0))), (h8, .inl (cI, 2001, .inl (upd g1 0 0))), (h2, .inr (2, f2)), (h9, .inl (cI, 260, .inl (upd (upd (upd g2 249 0) 240 0) 241 5))), (h10, .inl (cI, 13312, .inl (upd (upd (upd (upd (upd g3 12288 43) 12289 43) 12290 43) 12291 43) 12292 44))), (h0, .inr (11, ((f0.set 12 (.int 0)).set 13 (.int 2)))), (h3, .inr (8, ((((((((((((((((((((((f3.set 3 (.int 0)).set 4 (.int 0)).set 5 (.int 0)).set 6 (.int (-1))).set 6 (.int 0)).set 7 (.int 0)).set 8 (.int 0)).set 11 (.int 24)).set 12 (.int 0)).set 13 (.int 0)).set 14 (.int 0)).set 3 (.int 2)).set 4 (.int 0)).set 7 (.int 44)).set 13 (.int 1)).set 13 (.int 2)).set 7 (.int 44)).set 7 (.int 44)).set 13 (.int 3)).set 13 (.int 4)).set 13 (.int 5)).set 7 (.int 44))))] H := hP
  have hD : va_D A [(h1, .inr (1, f1)), (h5, .inr (3, ((((f4.set 6 (.ref h4)).set 7 (.int 0)).set 8 (.int 0)).set 5 (.int 0)))), (h7, .inl (cI, 2001, .inl (upd g0 0 0))), (h8, .inl (cI, 2001, .inl (upd g1 0 0))), (h2, .inr (2, f2)), (h9, .inl (cI, 260, .inl (upd (upd (upd g2 249 0) 240 0) 241 5))), (h10, .inl (cI, 13312, .inl (upd (upd (upd (upd (upd g3 12288 43) 12289 43) 12290 43) 12291 43) 12292 44))), (h0, .inr (11, ((f0.set 12 (.int 0)).set 13 (.int 2)))), (h3, .inr (8, ((((((((((((((((((((((f3.set 3 (.int 0)).set 4 (.int 0)).set 5 (.int 0)).set 6 (.int (-1))).set 6 (.int 0)).set 7 (.int 0)).set 8 (.int 0)).set 11 (.int 24)).set 12 (.int 0)).set 13 (.int 0)).set 14 (.int 0)).set 3 (.int 2)).set 4 (.int 0)).set 7 (.int 44)).set 13 (.int 1)).set 13 (.int 2)).set 7 (.int 44)).set 7 (.int 44)).set 13 (.int 3)).set 13 (.int 4)).set 13 (.int 5)).set 7 (.int 44))))] := hD
  refine lv_istore_n (lv' := [(2, .int (-1000)), (1, .int 0), (0, .ref h0)]) hx hb dX11_follows_43 rfl hl (by decide) rfl (fun ls hl => ?_)
  refine lv_goto (tgt := 100) hx hb dX11_follows_44 (by decide) ?_
  refine lv_aload_n hx hb dX11_follows_100 rfl (lv_at hl 2 rfl) ?_
  refine va_get (D := D) (ref := "IntegerHouse") (ci := 11) (v := .ref h2) (C := RX11) (T := TX11) (N := 15) hx hb hts hin11 hown hK hP 7 rfl rfl 2 (by decide) (hts (.fieldLink RX11 23 "IntegerHouse" "house" "LIntegerHouse$House;") (List.mem_cons_of_mem _ (List.mem_append_left _ (List.mem_append_left _ (List.mem_append_left _ (List.mem_append_left _ (List.mem_append_left _ (List.mem_append_left _ (List.mem_append_left _ (List.mem_append_left _ (List.mem_append_left _ (List.mem_of_getElem? (i := 1) rfl)))))))))))) (fun _ h9 => h9) (k_ne (by decide) (k_ne (by decide) e2)) dX11_follows_101 ?_
  refine lv_iload_n hx hb dX11_follows_104 rfl (lv_at hl 1 rfl) ?_
  refine va_putN (host := "IntegerHouse") (D := D) (ref := "IntegerHouse$House") (ci := 2) (v := .int 0) (ty := .int) (C := RX2) (T := TX2) (N := 16) hx hb hts hin2 tyX2 tyX2_ok nmX2 hown hK hP hD hS 4 rfl rfl 12 (by decide) (va_Nw.use rfl (hN.1 ("IntegerHouse", 233, "IntegerHouse$House", "poolSize", "I", "IntegerHouse") (List.mem_of_getElem? (i := 16) rfl))) (fun _ h9 => h9) rfl (by decide +kernel) rfl rfl (k_len e3) dX11_follows_105 (fun H locs hP hD hS => ?_)
  have hP : va_P D vwCl [(h1, .inr (1, f1)), (h5, .inr (3, ((((f4.set 6 (.ref h4)).set 7 (.int 0)).set 8 (.int 0)).set 5 (.int 0)))), (h7, .inl (cI, 2001, .inl (upd g0 0 0))), (h8, .inl (cI, 2001, .inl (upd g1 0 0))), (h2, .inr (2, (f2.set 12 (.int 0)))), (h9, .inl (cI, 260, .inl (upd (upd (upd g2 249 0) 240 0) 241 5))), (h10, .inl (cI, 13312, .inl (upd (upd (upd (upd (upd g3 12288 43) 12289 43) 12290 43) 12291 43) 12292 44))), (h0, .inr (11, ((f0.set 12 (.int 0)).set 13 (.int 2)))), (h3, .inr (8, ((((((((((((((((((((((f3.set 3 (.int 0)).set 4 (.int 0)).set 5 (.int 0)).set 6 (.int (-1))).set 6 (.int 0)).set 7 (.int 0)).set 8 (.int 0)).set 11 (.int 24)).set 12 (.int 0)).set 13 (.int 0)).set 14 (.int 0)).set 3 (.int 2)).set 4 (.int 0)).set 7 (.int 44)).set 13 (.int 1)).set 13 (.int 2)).set 7 (.int 44)).set 7 (.int 44)).set 13 (.int 3)).set 13 (.int 4)).set 13 (.int 5)).set 7 (.int 44))))] H := hP
  have hD : va_D A [(h1, .inr (1, f1)), (h5, .inr (3, ((((f4.set 6 (.ref h4)).set 7 (.int 0)).set 8 (.int 0)).set 5 (.int 0)))), (h7, .inl (cI, 2001, .inl (upd g0 0 0))), (h8, .inl (cI, 2001, .inl (upd g1 0 0))), (h2, .inr (2, (f2.set 12 (.int 0)))), (h9, .inl (cI, 260, .inl (upd (upd (upd g2 249 0) 240 0) 241 5))), (h10, .inl (cI, 13312, .inl (upd (upd (upd (upd (upd g3 12288 43) 12289 43) 12290 43) 12291 43) 12292 44))), (h0, .inr (11, ((f0.set 12 (.int 0)).set 13 (.int 2)))), (h3, .inr (8, ((((((((((((((((((((((f3.set 3 (.int 0)).set 4 (.int 0)).set 5 (.int 0)).set 6 (.int (-1))).set 6 (.int 0)).set 7 (.int 0)).set 8 (.int 0)).set 11 (.int 24)).set 12 (.int 0)).set 13 (.int 0)).set 14 (.int 0)).set 3 (.int 2)).set 4 (.int 0)).set 7 (.int 44)).set 13 (.int 1)).set 13 (.int 2)).set 7 (.int 44)).set 7 (.int 44)).set 13 (.int 3)).set 13 (.int 4)).set 13 (.int 5)).set 7 (.int 44))))] := hD
  refine lv_iload_n hx hb dX11_follows_108 rfl (lv_at hl 0 rfl) ?_
  have hP := hP.sub (ws' := [(h0, .inr (11, ((f0.set 12 (.int 0)).set 13 (.int 2)))), (h1, .inr (1, f1)), (h2, .inr (2, (f2.set 12 (.int 0)))), (h3, .inr (8, ((((((((((((((((((((((f3.set 3 (.int 0)).set 4 (.int 0)).set 5 (.int 0)).set 6 (.int (-1))).set 6 (.int 0)).set 7 (.int 0)).set 8 (.int 0)).set 11 (.int 24)).set 12 (.int 0)).set 13 (.int 0)).set 14 (.int 0)).set 3 (.int 2)).set 4 (.int 0)).set 7 (.int 44)).set 13 (.int 1)).set 13 (.int 2)).set 7 (.int 44)).set 7 (.int 44)).set 13 (.int 3)).set 13 (.int 4)).set 13 (.int 5)).set 7 (.int 44)))), (h5, .inr (3, ((((f4.set 6 (.ref h4)).set 7 (.int 0)).set 8 (.int 0)).set 5 (.int 0)))), (h7, .inl (cI, 2001, .inl (upd g0 0 0))), (h8, .inl (cI, 2001, .inl (upd g1 0 0))), (h9, .inl (cI, 260, .inl (upd (upd (upd g2 249 0) 240 0) 241 5))), (h10, .inl (cI, 13312, .inl (upd (upd (upd (upd (upd g3 12288 43) 12289 43) 12290 43) 12291 43) 12292 44)))]) [7, 0, 4, 8, 1, 2, 3, 5, 6] rfl
  have hD := hD.sub (ws' := [(h0, .inr (11, ((f0.set 12 (.int 0)).set 13 (.int 2)))), (h1, .inr (1, f1)), (h2, .inr (2, (f2.set 12 (.int 0)))), (h3, .inr (8, ((((((((((((((((((((((f3.set 3 (.int 0)).set 4 (.int 0)).set 5 (.int 0)).set 6 (.int (-1))).set 6 (.int 0)).set 7 (.int 0)).set 8 (.int 0)).set 11 (.int 24)).set 12 (.int 0)).set 13 (.int 0)).set 14 (.int 0)).set 3 (.int 2)).set 4 (.int 0)).set 7 (.int 44)).set 13 (.int 1)).set 13 (.int 2)).set 7 (.int 44)).set 7 (.int 44)).set 13 (.int 3)).set 13 (.int 4)).set 13 (.int 5)).set 7 (.int 44)))), (h5, .inr (3, ((((f4.set 6 (.ref h4)).set 7 (.int 0)).set 8 (.int 0)).set 5 (.int 0)))), (h7, .inl (cI, 2001, .inl (upd g0 0 0))), (h8, .inl (cI, 2001, .inl (upd g1 0 0))), (h9, .inl (cI, 260, .inl (upd (upd (upd g2 249 0) 240 0) 241 5))), (h10, .inl (cI, 13312, .inl (upd (upd (upd (upd (upd g3 12288 43) 12289 43) 12290 43) 12291 43) 12292 44)))]) [7, 0, 4, 8, 1, 2, 3, 5, 6] (by decide +kernel) rfl
  exact W.iret (v := (-1000)) hx hb hr (fun t ht hW => ⟨⟨(-1000), (), rfl, rfl, kB_mk ht hW hP hK hD⟩, hS.F ht⟩) hS.2.2 dX11_follows_109
set_option maxHeartbeats 400000000 in
set_option maxRecDepth 100000 in
theorem c_X12_beginSlot_0 (l : Launch) (E : kE) (D : va_G) (cI cJ cB cZ : ClassId) (h0 : Nat) (f0 : List Value) (h1 : Nat) (g0 : Nat → Int32) (h2 : Nat) (g1 : Nat → Int32) (h3 : Nat) (g2 : Nat → Int32) (h4 : Nat) (g3 : Nat → Int32) (h5 : Nat) (g4 : Nat → Int32) (e0 : f0[66]? = some (.int 0)) (e1 : f0[67]? = some (.int 0)) (e2 : f0[40]? = some (.ref h1)) (e3 : f0[45]? = some (.ref h2)) (e4 : f0[56]? = some (.ref h3)) (e5 : f0[60]? = some (.ref h4)) (e6 : f0[65]? = some (.ref h5)) : kV l E D (kT cI cJ cB cZ) yX12_beginSlot wsX12_beginSlot ({ frames := 0, cells := 0, slots := 0, locals := 0 }) [.ref h0, .int 24] [(h0, .inr (12, f0)), (h1, .inl (cI, 26, .inl g0)), (h2, .inl (cI, 26, .inl g1)), (h3, .inl (cI, 26, .inl g2)), (h4, .inl (cI, 26, .inl g3)), (h5, .inl (cI, 26, .inl g4))] (fun _ : Unit => [(h0, .inr (12, ((f0.set 66 (.int 24)).set 67 (.int 0)))), (h1, .inl (cI, 26, .inl (upd g0 24 0))), (h2, .inl (cI, 26, .inl (upd g1 24 0))), (h3, .inl (cI, 26, .inl (upd g2 24 0))), (h4, .inl (cI, 26, .inl (upd g3 24 0))), (h5, .inl (cI, 26, .inl (upd g4 24 0)))]) 0 0 := by
  intro sz
  refine Met.ofW (cc := cX12_beginSlot) (maxL := 2) (ret := none) (by decide) rfl ?_
  intro p e s m args below meth c s₁ B hml hv
  obtain ⟨rfl, hsz, hP, hK, hD0, hN, hX⟩ := hv
  have hx := B.exec
  have hb := B.bytes
  have hr := B.returns
  have hts := atoms_spec (ws := wsX12_beginSlot) B.pre
  have hown : s.vm.findClass RX12 = some m.cls := findClass_of_methodNamed B.named
  have hlocks := B.notSynchronized
  have hin12 : ∀ w ∈ wsX120, w ∈ wsX12_beginSlot := (fun w h => (List.mem_cons_of_mem _ (List.mem_append_right _ h)))
  subst hsz
  have hD := hD0.self (sz := s.heap.size)
  have hAE := k_AE hD0 hX
  generalize hAe : va_A [(h0, .inr (12, f0)), (h1, .inl (cI, 26, .inl g0)), (h2, .inl (cI, 26, .inl g1)), (h3, .inl (cI, 26, .inl g2)), (h4, .inl (cI, 26, .inl g3)), (h5, .inl (cI, 26, .inl g4))] s.heap.size = A at hD hAE ⊢
  have hA : ∀ q : Nat, s.heap.size ≤ q → A q := fun q h => by rw [← hAe]; exact Or.inr h
  have hS : va_S A s.heap s.heap [] := va_S.rf
  have hP : va_P D vwCl [(h0, .inr (12, f0)), (h1, .inl (cI, 26, .inl g0)), (h2, .inl (cI, 26, .inl g1)), (h3, .inl (cI, 26, .inl g2)), (h4, .inl (cI, 26, .inl g3)), (h5, .inl (cI, 26, .inl g4))] s.heap := hP
  have hl := lv_entry ([.ref h0, .int 24] : List Value) (n := 2) (Nat.le_of_ble_eq_true rfl)
  rw [lg_entry_eq]
  generalize (lg_sl ([.ref h0, .int 24]) ++ List.replicate (2 - (lg_sl ([.ref h0, .int 24])).length) Slot.unset).toArray = ls at hl ⊢
  have hl : lv_has ls 2 [(0, .ref h0), (1, .int 24)] := hl
  refine lv_aload_n hx hb dX12_beginSlot_0 rfl (lv_at hl 0 rfl) ?_
  refine lv_iload_n hx hb dX12_beginSlot_1 rfl (lv_at hl 1 rfl) ?_
  refine va_put (D := D) (ref := "IntegerHouseModel") (ci := 12) (v := .int 24) (ty := .int) (C := RX12) (T := TX12) (N := 195) hx hb hts hin12 tyX12 tyX12_ok nmX12 hown hK hP hD hS 0 rfl rfl 66 (by decide) (hts (.fieldLink RX12 630 "IntegerHouseModel" "slot" "I") (List.mem_cons_of_mem _ (List.mem_append_left _ (List.mem_of_getElem? (i := 0) rfl)))) (fun _ h9 => h9) rfl (by decide +kernel) rfl rfl (k_len e0) dX12_beginSlot_2 (fun H locs hP hD hS => ?_)
  have hP : va_P D vwCl [(h0, .inr (12, (f0.set 66 (.int 24)))), (h1, .inl (cI, 26, .inl g0)), (h2, .inl (cI, 26, .inl g1)), (h3, .inl (cI, 26, .inl g2)), (h4, .inl (cI, 26, .inl g3)), (h5, .inl (cI, 26, .inl g4))] H := hP
  have hD : va_D A [(h0, .inr (12, (f0.set 66 (.int 24)))), (h1, .inl (cI, 26, .inl g0)), (h2, .inl (cI, 26, .inl g1)), (h3, .inl (cI, 26, .inl g2)), (h4, .inl (cI, 26, .inl g3)), (h5, .inl (cI, 26, .inl g4))] := hD
  refine lv_aload_n hx hb dX12_beginSlot_5 rfl (lv_at hl 0 rfl) ?_
  refine lv_iconst (v := 0) hx hb dX12_beginSlot_6 (by decide) ?_
  refine va_put (D := D) (ref := "IntegerHouseModel") (ci := 12) (v := .int 0) (ty := .int) (C := RX12) (T := TX12) (N := 195) hx hb hts hin12 tyX12 tyX12_ok nmX12 hown hK hP hD hS 0 rfl rfl 67 (by decide) (hts (.fieldLink RX12 633 "IntegerHouseModel" "open" "I") (List.mem_cons_of_mem _ (List.mem_append_left _ (List.mem_of_getElem? (i := 1) rfl)))) (fun _ h9 => h9) rfl (by decide +kernel) rfl rfl (k_len (k_ne (by decide) e1)) dX12_beginSlot_7 (fun H locs hP hD hS => ?_)
  have hP : va_P D vwCl [(h0, .inr (12, ((f0.set 66 (.int 24)).set 67 (.int 0)))), (h1, .inl (cI, 26, .inl g0)), (h2, .inl (cI, 26, .inl g1)), (h3, .inl (cI, 26, .inl g2)), (h4, .inl (cI, 26, .inl g3)), (h5, .inl (cI, 26, .inl g4))] H := hP
  have hD : va_D A [(h0, .inr (12, ((f0.set 66 (.int 24)).set 67 (.int 0)))), (h1, .inl (cI, 26, .inl g0)), (h2, .inl (cI, 26, .inl g1)), (h3, .inl (cI, 26, .inl g2)), (h4, .inl (cI, 26, .inl g3)), (h5, .inl (cI, 26, .inl g4))] := hD
  refine lv_aload_n hx hb dX12_beginSlot_10 rfl (lv_at hl 0 rfl) ?_
  refine va_get (D := D) (ref := "IntegerHouseModel") (ci := 12) (v := .ref h1) (C := RX12) (T := TX12) (N := 195) hx hb hts hin12 hown hK hP 0 rfl rfl 40 (by decide) (hts (.fieldLink RX12 105 "IntegerHouseModel" "textCount" "[I") (List.mem_cons_of_mem _ (List.mem_append_left _ (List.mem_of_getElem? (i := 2) rfl)))) (fun _ h9 => h9) (k_ne (by decide) (k_ne (by decide) e2)) dX12_beginSlot_11 ?_
  refine lv_iload_n hx hb dX12_beginSlot_14 rfl (lv_at hl 1 rfl) ?_
  refine lv_iconst (v := 0) hx hb dX12_beginSlot_15 (by decide) ?_
  refine va_iast hx hb hK hP hD hS 1 0 rfl rfl (k_in (by decide)) dX12_beginSlot_16 (fun H locs hP hD hS => ?_)
  have hP : va_P D vwCl [(h0, .inr (12, ((f0.set 66 (.int 24)).set 67 (.int 0)))), (h1, .inl (cI, 26, .inl (upd g0 24 0))), (h2, .inl (cI, 26, .inl g1)), (h3, .inl (cI, 26, .inl g2)), (h4, .inl (cI, 26, .inl g3)), (h5, .inl (cI, 26, .inl g4))] H := hP
  have hD : va_D A [(h0, .inr (12, ((f0.set 66 (.int 24)).set 67 (.int 0)))), (h1, .inl (cI, 26, .inl (upd g0 24 0))), (h2, .inl (cI, 26, .inl g1)), (h3, .inl (cI, 26, .inl g2)), (h4, .inl (cI, 26, .inl g3)), (h5, .inl (cI, 26, .inl g4))] := hD
  refine lv_aload_n hx hb dX12_beginSlot_17 rfl (lv_at hl 0 rfl) ?_
  refine va_get (D := D) (ref := "IntegerHouseModel") (ci := 12) (v := .ref h2) (C := RX12) (T := TX12) (N := 195) hx hb hts hin12 hown hK hP 0 rfl rfl 45 (by decide) (hts (.fieldLink RX12 120 "IntegerHouseModel" "nodeCount" "[I") (List.mem_cons_of_mem _ (List.mem_append_left _ (List.mem_of_getElem? (i := 3) rfl)))) (fun _ h9 => h9) (k_ne (by decide) (k_ne (by decide) e3)) dX12_beginSlot_18 ?_
  refine lv_iload_n hx hb dX12_beginSlot_21 rfl (lv_at hl 1 rfl) ?_
  refine lv_iconst (v := 0) hx hb dX12_beginSlot_22 (by decide) ?_
  refine va_iast hx hb hK hP hD hS 2 0 rfl rfl (k_in (by decide)) dX12_beginSlot_23 (fun H locs hP hD hS => ?_)
  have hP : va_P D vwCl [(h0, .inr (12, ((f0.set 66 (.int 24)).set 67 (.int 0)))), (h1, .inl (cI, 26, .inl (upd g0 24 0))), (h2, .inl (cI, 26, .inl (upd g1 24 0))), (h3, .inl (cI, 26, .inl g2)), (h4, .inl (cI, 26, .inl g3)), (h5, .inl (cI, 26, .inl g4))] H := hP
  have hD : va_D A [(h0, .inr (12, ((f0.set 66 (.int 24)).set 67 (.int 0)))), (h1, .inl (cI, 26, .inl (upd g0 24 0))), (h2, .inl (cI, 26, .inl (upd g1 24 0))), (h3, .inl (cI, 26, .inl g2)), (h4, .inl (cI, 26, .inl g3)), (h5, .inl (cI, 26, .inl g4))] := hD
  refine lv_aload_n hx hb dX12_beginSlot_24 rfl (lv_at hl 0 rfl) ?_
  refine va_get (D := D) (ref := "IntegerHouseModel") (ci := 12) (v := .ref h3) (C := RX12) (T := TX12) (N := 195) hx hb hts hin12 hown hK hP 0 rfl rfl 56 (by decide) (hts (.fieldLink RX12 153 "IntegerHouseModel" "leafCount" "[I") (List.mem_cons_of_mem _ (List.mem_append_left _ (List.mem_of_getElem? (i := 4) rfl)))) (fun _ h9 => h9) (k_ne (by decide) (k_ne (by decide) e4)) dX12_beginSlot_25 ?_
  refine lv_iload_n hx hb dX12_beginSlot_28 rfl (lv_at hl 1 rfl) ?_
  refine lv_iconst (v := 0) hx hb dX12_beginSlot_29 (by decide) ?_
  refine va_iast hx hb hK hP hD hS 3 0 rfl rfl (k_in (by decide)) dX12_beginSlot_30 (fun H locs hP hD hS => ?_)
  have hP : va_P D vwCl [(h0, .inr (12, ((f0.set 66 (.int 24)).set 67 (.int 0)))), (h1, .inl (cI, 26, .inl (upd g0 24 0))), (h2, .inl (cI, 26, .inl (upd g1 24 0))), (h3, .inl (cI, 26, .inl (upd g2 24 0))), (h4, .inl (cI, 26, .inl g3)), (h5, .inl (cI, 26, .inl g4))] H := hP
  have hD : va_D A [(h0, .inr (12, ((f0.set 66 (.int 24)).set 67 (.int 0)))), (h1, .inl (cI, 26, .inl (upd g0 24 0))), (h2, .inl (cI, 26, .inl (upd g1 24 0))), (h3, .inl (cI, 26, .inl (upd g2 24 0))), (h4, .inl (cI, 26, .inl g3)), (h5, .inl (cI, 26, .inl g4))] := hD
  refine lv_aload_n hx hb dX12_beginSlot_31 rfl (lv_at hl 0 rfl) ?_
  refine va_get (D := D) (ref := "IntegerHouseModel") (ci := 12) (v := .ref h4) (C := RX12) (T := TX12) (N := 195) hx hb hts hin12 hown hK hP 0 rfl rfl 60 (by decide) (hts (.fieldLink RX12 165 "IntegerHouseModel" "termCount" "[I") (List.mem_cons_of_mem _ (List.mem_append_left _ (List.mem_of_getElem? (i := 5) rfl)))) (fun _ h9 => h9) (k_ne (by decide) (k_ne (by decide) e5)) dX12_beginSlot_32 ?_
  refine lv_iload_n hx hb dX12_beginSlot_35 rfl (lv_at hl 1 rfl) ?_
  refine lv_iconst (v := 0) hx hb dX12_beginSlot_36 (by decide) ?_
  refine va_iast hx hb hK hP hD hS 4 0 rfl rfl (k_in (by decide)) dX12_beginSlot_37 (fun H locs hP hD hS => ?_)
  have hP : va_P D vwCl [(h0, .inr (12, ((f0.set 66 (.int 24)).set 67 (.int 0)))), (h1, .inl (cI, 26, .inl (upd g0 24 0))), (h2, .inl (cI, 26, .inl (upd g1 24 0))), (h3, .inl (cI, 26, .inl (upd g2 24 0))), (h4, .inl (cI, 26, .inl (upd g3 24 0))), (h5, .inl (cI, 26, .inl g4))] H := hP
  have hD : va_D A [(h0, .inr (12, ((f0.set 66 (.int 24)).set 67 (.int 0)))), (h1, .inl (cI, 26, .inl (upd g0 24 0))), (h2, .inl (cI, 26, .inl (upd g1 24 0))), (h3, .inl (cI, 26, .inl (upd g2 24 0))), (h4, .inl (cI, 26, .inl (upd g3 24 0))), (h5, .inl (cI, 26, .inl g4))] := hD
  refine lv_aload_n hx hb dX12_beginSlot_38 rfl (lv_at hl 0 rfl) ?_
  refine va_get (D := D) (ref := "IntegerHouseModel") (ci := 12) (v := .ref h5) (C := RX12) (T := TX12) (N := 195) hx hb hts hin12 hown hK hP 0 rfl rfl 65 (by decide) (hts (.fieldLink RX12 181 "IntegerHouseModel" "partCount" "[I") (List.mem_cons_of_mem _ (List.mem_append_left _ (List.mem_of_getElem? (i := 6) rfl)))) (fun _ h9 => h9) (k_ne (by decide) (k_ne (by decide) e6)) dX12_beginSlot_39 ?_
  refine lv_iload_n hx hb dX12_beginSlot_42 rfl (lv_at hl 1 rfl) ?_
  refine lv_iconst (v := 0) hx hb dX12_beginSlot_43 (by decide) ?_
  refine va_iast hx hb hK hP hD hS 5 0 rfl rfl (k_in (by decide)) dX12_beginSlot_44 (fun H locs hP hD hS => ?_)
  have hP : va_P D vwCl [(h0, .inr (12, ((f0.set 66 (.int 24)).set 67 (.int 0)))), (h1, .inl (cI, 26, .inl (upd g0 24 0))), (h2, .inl (cI, 26, .inl (upd g1 24 0))), (h3, .inl (cI, 26, .inl (upd g2 24 0))), (h4, .inl (cI, 26, .inl (upd g3 24 0))), (h5, .inl (cI, 26, .inl (upd g4 24 0)))] H := hP
  have hD : va_D A [(h0, .inr (12, ((f0.set 66 (.int 24)).set 67 (.int 0)))), (h1, .inl (cI, 26, .inl (upd g0 24 0))), (h2, .inl (cI, 26, .inl (upd g1 24 0))), (h3, .inl (cI, 26, .inl (upd g2 24 0))), (h4, .inl (cI, 26, .inl (upd g3 24 0))), (h5, .inl (cI, 26, .inl (upd g4 24 0)))] := hD
  exact W.vret hx hb hr (fun t ht hW => ⟨⟨(), rfl, trivial, kB_mk ht hW hP hK hD⟩, hS.F ht⟩) hS.2.2 dX12_beginSlot_45
set_option maxHeartbeats 400000000 in
set_option maxRecDepth 100000 in
theorem c_X12_openFormula_0 (l : Launch) (E : kE) (D : va_G) (cI cJ cB cZ : ClassId) (h0 : Nat) (f0 : List Value) (h1 : Nat) (g0 : Nat → Int32) (h2 : Nat) (g1 : Nat → Int32) (h3 : Nat) (g2 : Nat → Int32) (h4 : Nat) (g3 : Nat → Int32) (h5 : Nat) (g4 : Nat → Int32) (e0 : f0[76]? = some (.int (-1))) (e1 : f0[69]? = some (.ref h1)) (e2 : f0[70]? = some (.ref h2)) (e3 : f0[71]? = some (.ref h3)) (e4 : f0[73]? = some (.ref h4)) (e5 : f0[75]? = some (.ref h5)) : kV l E D (kT cI cJ cB cZ) yX12_openFormula wsX12_openFormula ({ frames := 0, cells := 0, slots := 0, locals := 0 }) [.ref h0] [(h0, .inr (12, f0)), (h1, .inl (cI, 14, .inl g0)), (h2, .inl (cI, 14, .inl g1)), (h3, .inl (cI, 14, .inl g2)), (h4, .inl (cI, 14, .inl g3)), (h5, .inl (cI, 14, .inl g4))] (fun _ : Unit => [(h0, .inr (12, (f0.set 76 (.int 0)))), (h1, .inl (cI, 14, .inl (upd g0 0 0))), (h2, .inl (cI, 14, .inl (upd g1 0 (-1)))), (h3, .inl (cI, 14, .inl (upd g2 0 (-1)))), (h4, .inl (cI, 14, .inl (upd g3 0 (-1)))), (h5, .inl (cI, 14, .inl (upd g4 0 0)))]) 0 0 := by
  intro sz
  refine Met.ofW (cc := cX12_openFormula) (maxL := 1) (ret := none) (by decide) rfl ?_
  intro p e s m args below meth c s₁ B hml hv
  obtain ⟨rfl, hsz, hP, hK, hD0, hN, hX⟩ := hv
  have hx := B.exec
  have hb := B.bytes
  have hr := B.returns
  have hts := atoms_spec (ws := wsX12_openFormula) B.pre
  have hown : s.vm.findClass RX12 = some m.cls := findClass_of_methodNamed B.named
  have hlocks := B.notSynchronized
  have hin12 : ∀ w ∈ wsX120, w ∈ wsX12_openFormula := (fun w h => (List.mem_cons_of_mem _ (List.mem_append_right _ h)))
  subst hsz
  have hD := hD0.self (sz := s.heap.size)
  have hAE := k_AE hD0 hX
  generalize hAe : va_A [(h0, .inr (12, f0)), (h1, .inl (cI, 14, .inl g0)), (h2, .inl (cI, 14, .inl g1)), (h3, .inl (cI, 14, .inl g2)), (h4, .inl (cI, 14, .inl g3)), (h5, .inl (cI, 14, .inl g4))] s.heap.size = A at hD hAE ⊢
  have hA : ∀ q : Nat, s.heap.size ≤ q → A q := fun q h => by rw [← hAe]; exact Or.inr h
  have hS : va_S A s.heap s.heap [] := va_S.rf
  have hP : va_P D vwCl [(h0, .inr (12, f0)), (h1, .inl (cI, 14, .inl g0)), (h2, .inl (cI, 14, .inl g1)), (h3, .inl (cI, 14, .inl g2)), (h4, .inl (cI, 14, .inl g3)), (h5, .inl (cI, 14, .inl g4))] s.heap := hP
  have hl := lv_entry ([.ref h0] : List Value) (n := 1) (Nat.le_of_ble_eq_true rfl)
  rw [lg_entry_eq]
  generalize (lg_sl ([.ref h0]) ++ List.replicate (1 - (lg_sl ([.ref h0])).length) Slot.unset).toArray = ls at hl ⊢
  have hl : lv_has ls 1 [(0, .ref h0)] := hl
  refine lv_aload_n hx hb dX12_openFormula_0 rfl (lv_at hl 0 rfl) ?_
  refine lv_dup hx hb dX12_openFormula_1 rfl ?_
  refine va_get (D := D) (ref := "IntegerHouseModel") (ci := 12) (v := .int (-1)) (C := RX12) (T := TX12) (N := 195) hx hb hts hin12 hown hK hP 0 rfl rfl 76 (by decide) (hts (.fieldLink RX12 639 "IntegerHouseModel" "formulas" "I") (List.mem_cons_of_mem _ (List.mem_append_left _ (List.mem_of_getElem? (i := 0) rfl)))) (fun _ h9 => h9) e0 dX12_openFormula_2 ?_
  refine lv_iconst (v := 1) hx hb dX12_openFormula_5 (by decide) ?_
  refine lv_iadd hx hb dX12_openFormula_6 ?_
  refine k_topi (y := 0) (by decide) ?_
  refine va_put (D := D) (ref := "IntegerHouseModel") (ci := 12) (v := .int 0) (ty := .int) (C := RX12) (T := TX12) (N := 195) hx hb hts hin12 tyX12 tyX12_ok nmX12 hown hK hP hD hS 0 rfl rfl 76 (by decide) (hts (.fieldLink RX12 639 "IntegerHouseModel" "formulas" "I") (List.mem_cons_of_mem _ (List.mem_append_left _ (List.mem_of_getElem? (i := 0) rfl)))) (fun _ h9 => h9) rfl (by decide +kernel) rfl rfl (k_len e0) dX12_openFormula_7 (fun H locs hP hD hS => ?_)
  have hP : va_P D vwCl [(h0, .inr (12, (f0.set 76 (.int 0)))), (h1, .inl (cI, 14, .inl g0)), (h2, .inl (cI, 14, .inl g1)), (h3, .inl (cI, 14, .inl g2)), (h4, .inl (cI, 14, .inl g3)), (h5, .inl (cI, 14, .inl g4))] H := hP
  have hD : va_D A [(h0, .inr (12, (f0.set 76 (.int 0)))), (h1, .inl (cI, 14, .inl g0)), (h2, .inl (cI, 14, .inl g1)), (h3, .inl (cI, 14, .inl g2)), (h4, .inl (cI, 14, .inl g3)), (h5, .inl (cI, 14, .inl g4))] := hD
  refine lv_aload_n hx hb dX12_openFormula_10 rfl (lv_at hl 0 rfl) ?_
  refine va_get (D := D) (ref := "IntegerHouseModel") (ci := 12) (v := .ref h1) (C := RX12) (T := TX12) (N := 195) hx hb hts hin12 hown hK hP 0 rfl rfl 69 (by decide) (hts (.fieldLink RX12 187 "IntegerHouseModel" "openJoin" "[I") (List.mem_cons_of_mem _ (List.mem_append_left _ (List.mem_of_getElem? (i := 1) rfl)))) (fun _ h9 => h9) (k_ne (by decide) e1) dX12_openFormula_11 ?_
  refine lv_aload_n hx hb dX12_openFormula_14 rfl (lv_at hl 0 rfl) ?_
  refine va_get (D := D) (ref := "IntegerHouseModel") (ci := 12) (v := .int 0) (C := RX12) (T := TX12) (N := 195) hx hb hts hin12 hown hK hP 0 rfl rfl 76 (by decide) (hts (.fieldLink RX12 639 "IntegerHouseModel" "formulas" "I") (List.mem_cons_of_mem _ (List.mem_append_left _ (List.mem_of_getElem? (i := 0) rfl)))) (fun _ h9 => h9) (k_set e0) dX12_openFormula_15 ?_
  refine lv_iconst (v := 0) hx hb dX12_openFormula_18 (by decide) ?_
  refine va_iast hx hb hK hP hD hS 1 0 rfl rfl (k_in (by decide)) dX12_openFormula_19 (fun H locs hP hD hS => ?_)
  have hP : va_P D vwCl [(h0, .inr (12, (f0.set 76 (.int 0)))), (h1, .inl (cI, 14, .inl (upd g0 0 0))), (h2, .inl (cI, 14, .inl g1)), (h3, .inl (cI, 14, .inl g2)), (h4, .inl (cI, 14, .inl g3)), (h5, .inl (cI, 14, .inl g4))] H := hP
  have hD : va_D A [(h0, .inr (12, (f0.set 76 (.int 0)))), (h1, .inl (cI, 14, .inl (upd g0 0 0))), (h2, .inl (cI, 14, .inl g1)), (h3, .inl (cI, 14, .inl g2)), (h4, .inl (cI, 14, .inl g3)), (h5, .inl (cI, 14, .inl g4))] := hD
  refine lv_aload_n hx hb dX12_openFormula_20 rfl (lv_at hl 0 rfl) ?_
  refine va_get (D := D) (ref := "IntegerHouseModel") (ci := 12) (v := .ref h2) (C := RX12) (T := TX12) (N := 195) hx hb hts hin12 hown hK hP 0 rfl rfl 70 (by decide) (hts (.fieldLink RX12 190 "IntegerHouseModel" "openLeft" "[I") (List.mem_cons_of_mem _ (List.mem_append_left _ (List.mem_of_getElem? (i := 2) rfl)))) (fun _ h9 => h9) (k_ne (by decide) e2) dX12_openFormula_21 ?_
  refine lv_aload_n hx hb dX12_openFormula_24 rfl (lv_at hl 0 rfl) ?_
  refine va_get (D := D) (ref := "IntegerHouseModel") (ci := 12) (v := .int 0) (C := RX12) (T := TX12) (N := 195) hx hb hts hin12 hown hK hP 0 rfl rfl 76 (by decide) (hts (.fieldLink RX12 639 "IntegerHouseModel" "formulas" "I") (List.mem_cons_of_mem _ (List.mem_append_left _ (List.mem_of_getElem? (i := 0) rfl)))) (fun _ h9 => h9) (k_set e0) dX12_openFormula_25 ?_
  refine lv_iconst (v := (-1)) hx hb dX12_openFormula_28 (by decide) ?_
  refine va_iast hx hb hK hP hD hS 2 0 rfl rfl (k_in (by decide)) dX12_openFormula_29 (fun H locs hP hD hS => ?_)
  have hP : va_P D vwCl [(h0, .inr (12, (f0.set 76 (.int 0)))), (h1, .inl (cI, 14, .inl (upd g0 0 0))), (h2, .inl (cI, 14, .inl (upd g1 0 (-1)))), (h3, .inl (cI, 14, .inl g2)), (h4, .inl (cI, 14, .inl g3)), (h5, .inl (cI, 14, .inl g4))] H := hP
  have hD : va_D A [(h0, .inr (12, (f0.set 76 (.int 0)))), (h1, .inl (cI, 14, .inl (upd g0 0 0))), (h2, .inl (cI, 14, .inl (upd g1 0 (-1)))), (h3, .inl (cI, 14, .inl g2)), (h4, .inl (cI, 14, .inl g3)), (h5, .inl (cI, 14, .inl g4))] := hD
  refine lv_aload_n hx hb dX12_openFormula_30 rfl (lv_at hl 0 rfl) ?_
  refine va_get (D := D) (ref := "IntegerHouseModel") (ci := 12) (v := .ref h3) (C := RX12) (T := TX12) (N := 195) hx hb hts hin12 hown hK hP 0 rfl rfl 71 (by decide) (hts (.fieldLink RX12 193 "IntegerHouseModel" "openOr" "[I") (List.mem_cons_of_mem _ (List.mem_append_left _ (List.mem_of_getElem? (i := 3) rfl)))) (fun _ h9 => h9) (k_ne (by decide) e3) dX12_openFormula_31 ?_
  refine lv_aload_n hx hb dX12_openFormula_34 rfl (lv_at hl 0 rfl) ?_
  refine va_get (D := D) (ref := "IntegerHouseModel") (ci := 12) (v := .int 0) (C := RX12) (T := TX12) (N := 195) hx hb hts hin12 hown hK hP 0 rfl rfl 76 (by decide) (hts (.fieldLink RX12 639 "IntegerHouseModel" "formulas" "I") (List.mem_cons_of_mem _ (List.mem_append_left _ (List.mem_of_getElem? (i := 0) rfl)))) (fun _ h9 => h9) (k_set e0) dX12_openFormula_35 ?_
  refine lv_iconst (v := (-1)) hx hb dX12_openFormula_38 (by decide) ?_
  refine va_iast hx hb hK hP hD hS 3 0 rfl rfl (k_in (by decide)) dX12_openFormula_39 (fun H locs hP hD hS => ?_)
  have hP : va_P D vwCl [(h0, .inr (12, (f0.set 76 (.int 0)))), (h1, .inl (cI, 14, .inl (upd g0 0 0))), (h2, .inl (cI, 14, .inl (upd g1 0 (-1)))), (h3, .inl (cI, 14, .inl (upd g2 0 (-1)))), (h4, .inl (cI, 14, .inl g3)), (h5, .inl (cI, 14, .inl g4))] H := hP
  have hD : va_D A [(h0, .inr (12, (f0.set 76 (.int 0)))), (h1, .inl (cI, 14, .inl (upd g0 0 0))), (h2, .inl (cI, 14, .inl (upd g1 0 (-1)))), (h3, .inl (cI, 14, .inl (upd g2 0 (-1)))), (h4, .inl (cI, 14, .inl g3)), (h5, .inl (cI, 14, .inl g4))] := hD
  refine lv_aload_n hx hb dX12_openFormula_40 rfl (lv_at hl 0 rfl) ?_
  refine va_get (D := D) (ref := "IntegerHouseModel") (ci := 12) (v := .ref h4) (C := RX12) (T := TX12) (N := 195) hx hb hts hin12 hown hK hP 0 rfl rfl 73 (by decide) (hts (.fieldLink RX12 199 "IntegerHouseModel" "openAnd" "[I") (List.mem_cons_of_mem _ (List.mem_append_left _ (List.mem_of_getElem? (i := 4) rfl)))) (fun _ h9 => h9) (k_ne (by decide) e4) dX12_openFormula_41 ?_
  refine lv_aload_n hx hb dX12_openFormula_44 rfl (lv_at hl 0 rfl) ?_
  refine va_get (D := D) (ref := "IntegerHouseModel") (ci := 12) (v := .int 0) (C := RX12) (T := TX12) (N := 195) hx hb hts hin12 hown hK hP 0 rfl rfl 76 (by decide) (hts (.fieldLink RX12 639 "IntegerHouseModel" "formulas" "I") (List.mem_cons_of_mem _ (List.mem_append_left _ (List.mem_of_getElem? (i := 0) rfl)))) (fun _ h9 => h9) (k_set e0) dX12_openFormula_45 ?_
  refine lv_iconst (v := (-1)) hx hb dX12_openFormula_48 (by decide) ?_
  refine va_iast hx hb hK hP hD hS 4 0 rfl rfl (k_in (by decide)) dX12_openFormula_49 (fun H locs hP hD hS => ?_)
  have hP : va_P D vwCl [(h0, .inr (12, (f0.set 76 (.int 0)))), (h1, .inl (cI, 14, .inl (upd g0 0 0))), (h2, .inl (cI, 14, .inl (upd g1 0 (-1)))), (h3, .inl (cI, 14, .inl (upd g2 0 (-1)))), (h4, .inl (cI, 14, .inl (upd g3 0 (-1)))), (h5, .inl (cI, 14, .inl g4))] H := hP
  have hD : va_D A [(h0, .inr (12, (f0.set 76 (.int 0)))), (h1, .inl (cI, 14, .inl (upd g0 0 0))), (h2, .inl (cI, 14, .inl (upd g1 0 (-1)))), (h3, .inl (cI, 14, .inl (upd g2 0 (-1)))), (h4, .inl (cI, 14, .inl (upd g3 0 (-1)))), (h5, .inl (cI, 14, .inl g4))] := hD
  refine lv_aload_n hx hb dX12_openFormula_50 rfl (lv_at hl 0 rfl) ?_
  refine va_get (D := D) (ref := "IntegerHouseModel") (ci := 12) (v := .ref h5) (C := RX12) (T := TX12) (N := 195) hx hb hts hin12 hown hK hP 0 rfl rfl 75 (by decide) (hts (.fieldLink RX12 205 "IntegerHouseModel" "openNots" "[I") (List.mem_cons_of_mem _ (List.mem_append_left _ (List.mem_of_getElem? (i := 5) rfl)))) (fun _ h9 => h9) (k_ne (by decide) e5) dX12_openFormula_51 ?_
  refine lv_aload_n hx hb dX12_openFormula_54 rfl (lv_at hl 0 rfl) ?_
  refine va_get (D := D) (ref := "IntegerHouseModel") (ci := 12) (v := .int 0) (C := RX12) (T := TX12) (N := 195) hx hb hts hin12 hown hK hP 0 rfl rfl 76 (by decide) (hts (.fieldLink RX12 639 "IntegerHouseModel" "formulas" "I") (List.mem_cons_of_mem _ (List.mem_append_left _ (List.mem_of_getElem? (i := 0) rfl)))) (fun _ h9 => h9) (k_set e0) dX12_openFormula_55 ?_
  refine lv_iconst (v := 0) hx hb dX12_openFormula_58 (by decide) ?_
  refine va_iast hx hb hK hP hD hS 5 0 rfl rfl (k_in (by decide)) dX12_openFormula_59 (fun H locs hP hD hS => ?_)
  have hP : va_P D vwCl [(h0, .inr (12, (f0.set 76 (.int 0)))), (h1, .inl (cI, 14, .inl (upd g0 0 0))), (h2, .inl (cI, 14, .inl (upd g1 0 (-1)))), (h3, .inl (cI, 14, .inl (upd g2 0 (-1)))), (h4, .inl (cI, 14, .inl (upd g3 0 (-1)))), (h5, .inl (cI, 14, .inl (upd g4 0 0)))] H := hP
  have hD : va_D A [(h0, .inr (12, (f0.set 76 (.int 0)))), (h1, .inl (cI, 14, .inl (upd g0 0 0))), (h2, .inl (cI, 14, .inl (upd g1 0 (-1)))), (h3, .inl (cI, 14, .inl (upd g2 0 (-1)))), (h4, .inl (cI, 14, .inl (upd g3 0 (-1)))), (h5, .inl (cI, 14, .inl (upd g4 0 0)))] := hD
  exact W.vret hx hb hr (fun t ht hW => ⟨⟨(), rfl, trivial, kB_mk ht hW hP hK hD⟩, hS.F ht⟩) hS.2.2 dX12_openFormula_60
set_option maxHeartbeats 400000000 in
set_option maxRecDepth 100000 in
theorem c_X12_isWord_0 (l : Launch) (E : kE) (D : va_G) (cI cJ cB cZ : ClassId) (h0 : Nat) (f0 : List Value) (h1 : Nat) (g0 : Nat → Int32) (e0 : f0[25]? = some (.ref h1)) (e1 : f0[28]? = some (.int 0)) (e2 : g0 0 = 0) : kI l E D (kT cI cJ cB cZ) yX12_isWord wsX12_isWord ({ frames := 0, cells := 0, slots := 0, locals := 0 }) [.ref h0, .int 5] [(h0, .inr (12, f0)), (h1, .inl (cI, 2001, .inl g0))] (0) [(h0, .inr (12, f0)), (h1, .inl (cI, 2001, .inl g0))] 0 0 := by
  intro sz
  refine Met.ofW (cc := cX12_isWord) (maxL := 2) (ret := (some .boolean)) (by decide) rfl ?_
  intro p e s m args below meth c s₁ B hml hv
  obtain ⟨rfl, hsz, hP, hK, hD0, hN, hX⟩ := hv
  have hx := B.exec
  have hb := B.bytes
  have hr := B.returns
  have hts := atoms_spec (ws := wsX12_isWord) B.pre
  have hown : s.vm.findClass RX12 = some m.cls := findClass_of_methodNamed B.named
  have hlocks := B.notSynchronized
  have hin12 : ∀ w ∈ wsX120, w ∈ wsX12_isWord := (fun w h => (List.mem_cons_of_mem _ (List.mem_append_right _ h)))
  subst hsz
  have hD := hD0.self (sz := s.heap.size)
  have hAE := k_AE hD0 hX
  generalize hAe : va_A [(h0, .inr (12, f0)), (h1, .inl (cI, 2001, .inl g0))] s.heap.size = A at hD hAE ⊢
  have hA : ∀ q : Nat, s.heap.size ≤ q → A q := fun q h => by rw [← hAe]; exact Or.inr h
  have hS : va_S A s.heap s.heap [] := va_S.rf
  have hP : va_P D vwCl [(h0, .inr (12, f0)), (h1, .inl (cI, 2001, .inl g0))] s.heap := hP
  have hl := lv_entry ([.ref h0, .int 5] : List Value) (n := 2) (Nat.le_of_ble_eq_true rfl)
  rw [lg_entry_eq]
  generalize (lg_sl ([.ref h0, .int 5]) ++ List.replicate (2 - (lg_sl ([.ref h0, .int 5])).length) Slot.unset).toArray = ls at hl ⊢
  have hl : lv_has ls 2 [(0, .ref h0), (1, .int 5)] := hl
  refine lv_aload_n hx hb dX12_isWord_0 rfl (lv_at hl 0 rfl) ?_
  refine va_get (D := D) (ref := "IntegerHouseModel") (ci := 12) (v := .ref h1) (C := RX12) (T := TX12) (N := 195) hx hb hts hin12 hown hK hP 0 rfl rfl 25 (by decide) (hts (.fieldLink RX12 87 "IntegerHouseModel" "tokenKind" "[I") (List.mem_cons_of_mem _ (List.mem_append_left _ (List.mem_of_getElem? (i := 0) rfl)))) (fun _ h9 => h9) e0 dX12_isWord_1 ?_
  refine lv_aload_n hx hb dX12_isWord_4 rfl (lv_at hl 0 rfl) ?_
  refine va_get (D := D) (ref := "IntegerHouseModel") (ci := 12) (v := .int 0) (C := RX12) (T := TX12) (N := 195) hx hb hts hin12 hown hK hP 0 rfl rfl 28 (by decide) (hts (.fieldLink RX12 597 "IntegerHouseModel" "now" "I") (List.mem_cons_of_mem _ (List.mem_append_left _ (List.mem_of_getElem? (i := 1) rfl)))) (fun _ h9 => h9) e1 dX12_isWord_5 ?_
  refine va_iald hx hb hK hP 1 0 rfl rfl (k_in (by decide)) dX12_isWord_8 ?_
  refine k_topi (y := 0) e2 ?_
  refine lv_iconst (v := 4) hx hb dX12_isWord_9 (by decide) ?_
  refine lv_icmp_ne (tgt := 30) hx hb dX12_isWord_10 (by decide) (fun _ => ?_) (fun c9 => absurd c9 (by decide))
  refine lv_iconst (v := 0) hx hb dX12_isWord_30 (by decide) ?_
  exact W.zret (v := 0) hx hb hr rfl (fun t ht hW => ⟨⟨0, (), rfl, rfl, kB_mk ht hW hP hK hD⟩, hS.F ht⟩) hS.2.2 dX12_isWord_31
set_option maxHeartbeats 400000000 in
set_option maxRecDepth 100000 in
theorem c_X12_isSign_0 (l : Launch) (E : kE) (D : va_G) (cI cJ cB cZ : ClassId) (h0 : Nat) (f0 : List Value) (h1 : Nat) (g0 : Nat → Int32) (e0 : f0[25]? = some (.ref h1)) (e1 : f0[28]? = some (.int 0)) (e2 : g0 0 = 0) : kI l E D (kT cI cJ cB cZ) yX12_isSign wsX12_isSign ({ frames := 0, cells := 0, slots := 0, locals := 0 }) [.ref h0, .int 1] [(h0, .inr (12, f0)), (h1, .inl (cI, 2001, .inl g0))] (0) [(h0, .inr (12, f0)), (h1, .inl (cI, 2001, .inl g0))] 0 0 := by
  intro sz
  refine Met.ofW (cc := cX12_isSign) (maxL := 2) (ret := (some .boolean)) (by decide) rfl ?_
  intro p e s m args below meth c s₁ B hml hv
  obtain ⟨rfl, hsz, hP, hK, hD0, hN, hX⟩ := hv
  have hx := B.exec
  have hb := B.bytes
  have hr := B.returns
  have hts := atoms_spec (ws := wsX12_isSign) B.pre
  have hown : s.vm.findClass RX12 = some m.cls := findClass_of_methodNamed B.named
  have hlocks := B.notSynchronized
  have hin12 : ∀ w ∈ wsX120, w ∈ wsX12_isSign := (fun w h => (List.mem_cons_of_mem _ (List.mem_append_right _ h)))
  subst hsz
  have hD := hD0.self (sz := s.heap.size)
  have hAE := k_AE hD0 hX
  generalize hAe : va_A [(h0, .inr (12, f0)), (h1, .inl (cI, 2001, .inl g0))] s.heap.size = A at hD hAE ⊢
  have hA : ∀ q : Nat, s.heap.size ≤ q → A q := fun q h => by rw [← hAe]; exact Or.inr h
  have hS : va_S A s.heap s.heap [] := va_S.rf
  have hP : va_P D vwCl [(h0, .inr (12, f0)), (h1, .inl (cI, 2001, .inl g0))] s.heap := hP
  have hl := lv_entry ([.ref h0, .int 1] : List Value) (n := 2) (Nat.le_of_ble_eq_true rfl)
  rw [lg_entry_eq]
  generalize (lg_sl ([.ref h0, .int 1]) ++ List.replicate (2 - (lg_sl ([.ref h0, .int 1])).length) Slot.unset).toArray = ls at hl ⊢
  have hl : lv_has ls 2 [(0, .ref h0), (1, .int 1)] := hl
  refine lv_aload_n hx hb dX12_isSign_0 rfl (lv_at hl 0 rfl) ?_
  refine va_get (D := D) (ref := "IntegerHouseModel") (ci := 12) (v := .ref h1) (C := RX12) (T := TX12) (N := 195) hx hb hts hin12 hown hK hP 0 rfl rfl 25 (by decide) (hts (.fieldLink RX12 87 "IntegerHouseModel" "tokenKind" "[I") (List.mem_cons_of_mem _ (List.mem_append_left _ (List.mem_of_getElem? (i := 0) rfl)))) (fun _ h9 => h9) e0 dX12_isSign_1 ?_
  refine lv_aload_n hx hb dX12_isSign_4 rfl (lv_at hl 0 rfl) ?_
  refine va_get (D := D) (ref := "IntegerHouseModel") (ci := 12) (v := .int 0) (C := RX12) (T := TX12) (N := 195) hx hb hts hin12 hown hK hP 0 rfl rfl 28 (by decide) (hts (.fieldLink RX12 597 "IntegerHouseModel" "now" "I") (List.mem_cons_of_mem _ (List.mem_append_left _ (List.mem_of_getElem? (i := 1) rfl)))) (fun _ h9 => h9) e1 dX12_isSign_5 ?_
  refine va_iald hx hb hK hP 1 0 rfl rfl (k_in (by decide)) dX12_isSign_8 ?_
  refine k_topi (y := 0) e2 ?_
  refine lv_iconst (v := 5) hx hb dX12_isSign_9 (by decide) ?_
  refine lv_icmp_ne (tgt := 30) hx hb dX12_isSign_10 (by decide) (fun _ => ?_) (fun c9 => absurd c9 (by decide))
  refine lv_iconst (v := 0) hx hb dX12_isSign_30 (by decide) ?_
  exact W.zret (v := 0) hx hb hr rfl (fun t ht hW => ⟨⟨0, (), rfl, rfl, kB_mk ht hW hP hK hD⟩, hS.F ht⟩) hS.2.2 dX12_isSign_31
set_option maxHeartbeats 400000000 in
set_option maxRecDepth 100000 in
theorem c_X12_isWord_1 (l : Launch) (E : kE) (D : va_G) (cI cJ cB cZ : ClassId) (h0 : Nat) (f0 : List Value) (h1 : Nat) (g0 : Nat → Int32) (e0 : f0[25]? = some (.ref h1)) (e1 : f0[28]? = some (.int 0)) (e2 : g0 0 = 0) : kI l E D (kT cI cJ cB cZ) yX12_isWord wsX12_isWord ({ frames := 0, cells := 0, slots := 0, locals := 0 }) [.ref h0, .int 6] [(h0, .inr (12, f0)), (h1, .inl (cI, 2001, .inl g0))] (0) [(h0, .inr (12, f0)), (h1, .inl (cI, 2001, .inl g0))] 0 0 := by
  intro sz
  refine Met.ofW (cc := cX12_isWord) (maxL := 2) (ret := (some .boolean)) (by decide) rfl ?_
  intro p e s m args below meth c s₁ B hml hv
  obtain ⟨rfl, hsz, hP, hK, hD0, hN, hX⟩ := hv
  have hx := B.exec
  have hb := B.bytes
  have hr := B.returns
  have hts := atoms_spec (ws := wsX12_isWord) B.pre
  have hown : s.vm.findClass RX12 = some m.cls := findClass_of_methodNamed B.named
  have hlocks := B.notSynchronized
  have hin12 : ∀ w ∈ wsX120, w ∈ wsX12_isWord := (fun w h => (List.mem_cons_of_mem _ (List.mem_append_right _ h)))
  subst hsz
  have hD := hD0.self (sz := s.heap.size)
  have hAE := k_AE hD0 hX
  generalize hAe : va_A [(h0, .inr (12, f0)), (h1, .inl (cI, 2001, .inl g0))] s.heap.size = A at hD hAE ⊢
  have hA : ∀ q : Nat, s.heap.size ≤ q → A q := fun q h => by rw [← hAe]; exact Or.inr h
  have hS : va_S A s.heap s.heap [] := va_S.rf
  have hP : va_P D vwCl [(h0, .inr (12, f0)), (h1, .inl (cI, 2001, .inl g0))] s.heap := hP
  have hl := lv_entry ([.ref h0, .int 6] : List Value) (n := 2) (Nat.le_of_ble_eq_true rfl)
  rw [lg_entry_eq]
  generalize (lg_sl ([.ref h0, .int 6]) ++ List.replicate (2 - (lg_sl ([.ref h0, .int 6])).length) Slot.unset).toArray = ls at hl ⊢
  have hl : lv_has ls 2 [(0, .ref h0), (1, .int 6)] := hl
  refine lv_aload_n hx hb dX12_isWord_0 rfl (lv_at hl 0 rfl) ?_
  refine va_get (D := D) (ref := "IntegerHouseModel") (ci := 12) (v := .ref h1) (C := RX12) (T := TX12) (N := 195) hx hb hts hin12 hown hK hP 0 rfl rfl 25 (by decide) (hts (.fieldLink RX12 87 "IntegerHouseModel" "tokenKind" "[I") (List.mem_cons_of_mem _ (List.mem_append_left _ (List.mem_of_getElem? (i := 0) rfl)))) (fun _ h9 => h9) e0 dX12_isWord_1 ?_
  refine lv_aload_n hx hb dX12_isWord_4 rfl (lv_at hl 0 rfl) ?_
  refine va_get (D := D) (ref := "IntegerHouseModel") (ci := 12) (v := .int 0) (C := RX12) (T := TX12) (N := 195) hx hb hts hin12 hown hK hP 0 rfl rfl 28 (by decide) (hts (.fieldLink RX12 597 "IntegerHouseModel" "now" "I") (List.mem_cons_of_mem _ (List.mem_append_left _ (List.mem_of_getElem? (i := 1) rfl)))) (fun _ h9 => h9) e1 dX12_isWord_5 ?_
  refine va_iald hx hb hK hP 1 0 rfl rfl (k_in (by decide)) dX12_isWord_8 ?_
  refine k_topi (y := 0) e2 ?_
  refine lv_iconst (v := 4) hx hb dX12_isWord_9 (by decide) ?_
  refine lv_icmp_ne (tgt := 30) hx hb dX12_isWord_10 (by decide) (fun _ => ?_) (fun c9 => absurd c9 (by decide))
  refine lv_iconst (v := 0) hx hb dX12_isWord_30 (by decide) ?_
  exact W.zret (v := 0) hx hb hr rfl (fun t ht hW => ⟨⟨0, (), rfl, rfl, kB_mk ht hW hP hK hD⟩, hS.F ht⟩) hS.2.2 dX12_isWord_31
set_option maxHeartbeats 400000000 in
set_option maxRecDepth 100000 in
theorem c_X12_isWord_2 (l : Launch) (E : kE) (D : va_G) (cI cJ cB cZ : ClassId) (h0 : Nat) (f0 : List Value) (h1 : Nat) (g0 : Nat → Int32) (e0 : f0[25]? = some (.ref h1)) (e1 : f0[28]? = some (.int 0)) (e2 : g0 0 = 0) : kI l E D (kT cI cJ cB cZ) yX12_isWord wsX12_isWord ({ frames := 0, cells := 0, slots := 0, locals := 0 }) [.ref h0, .int 7] [(h0, .inr (12, f0)), (h1, .inl (cI, 2001, .inl g0))] (0) [(h0, .inr (12, f0)), (h1, .inl (cI, 2001, .inl g0))] 0 0 := by
  intro sz
  refine Met.ofW (cc := cX12_isWord) (maxL := 2) (ret := (some .boolean)) (by decide) rfl ?_
  intro p e s m args below meth c s₁ B hml hv
  obtain ⟨rfl, hsz, hP, hK, hD0, hN, hX⟩ := hv
  have hx := B.exec
  have hb := B.bytes
  have hr := B.returns
  have hts := atoms_spec (ws := wsX12_isWord) B.pre
  have hown : s.vm.findClass RX12 = some m.cls := findClass_of_methodNamed B.named
  have hlocks := B.notSynchronized
  have hin12 : ∀ w ∈ wsX120, w ∈ wsX12_isWord := (fun w h => (List.mem_cons_of_mem _ (List.mem_append_right _ h)))
  subst hsz
  have hD := hD0.self (sz := s.heap.size)
  have hAE := k_AE hD0 hX
  generalize hAe : va_A [(h0, .inr (12, f0)), (h1, .inl (cI, 2001, .inl g0))] s.heap.size = A at hD hAE ⊢
  have hA : ∀ q : Nat, s.heap.size ≤ q → A q := fun q h => by rw [← hAe]; exact Or.inr h
  have hS : va_S A s.heap s.heap [] := va_S.rf
  have hP : va_P D vwCl [(h0, .inr (12, f0)), (h1, .inl (cI, 2001, .inl g0))] s.heap := hP
  have hl := lv_entry ([.ref h0, .int 7] : List Value) (n := 2) (Nat.le_of_ble_eq_true rfl)
  rw [lg_entry_eq]
  generalize (lg_sl ([.ref h0, .int 7]) ++ List.replicate (2 - (lg_sl ([.ref h0, .int 7])).length) Slot.unset).toArray = ls at hl ⊢
  have hl : lv_has ls 2 [(0, .ref h0), (1, .int 7)] := hl
  refine lv_aload_n hx hb dX12_isWord_0 rfl (lv_at hl 0 rfl) ?_
  refine va_get (D := D) (ref := "IntegerHouseModel") (ci := 12) (v := .ref h1) (C := RX12) (T := TX12) (N := 195) hx hb hts hin12 hown hK hP 0 rfl rfl 25 (by decide) (hts (.fieldLink RX12 87 "IntegerHouseModel" "tokenKind" "[I") (List.mem_cons_of_mem _ (List.mem_append_left _ (List.mem_of_getElem? (i := 0) rfl)))) (fun _ h9 => h9) e0 dX12_isWord_1 ?_
  refine lv_aload_n hx hb dX12_isWord_4 rfl (lv_at hl 0 rfl) ?_
  refine va_get (D := D) (ref := "IntegerHouseModel") (ci := 12) (v := .int 0) (C := RX12) (T := TX12) (N := 195) hx hb hts hin12 hown hK hP 0 rfl rfl 28 (by decide) (hts (.fieldLink RX12 597 "IntegerHouseModel" "now" "I") (List.mem_cons_of_mem _ (List.mem_append_left _ (List.mem_of_getElem? (i := 1) rfl)))) (fun _ h9 => h9) e1 dX12_isWord_5 ?_
  refine va_iald hx hb hK hP 1 0 rfl rfl (k_in (by decide)) dX12_isWord_8 ?_
  refine k_topi (y := 0) e2 ?_
  refine lv_iconst (v := 4) hx hb dX12_isWord_9 (by decide) ?_
  refine lv_icmp_ne (tgt := 30) hx hb dX12_isWord_10 (by decide) (fun _ => ?_) (fun c9 => absurd c9 (by decide))
  refine lv_iconst (v := 0) hx hb dX12_isWord_30 (by decide) ?_
  exact W.zret (v := 0) hx hb hr rfl (fun t ht hW => ⟨⟨0, (), rfl, rfl, kB_mk ht hW hP hK hD⟩, hS.F ht⟩) hS.2.2 dX12_isWord_31
set_option maxHeartbeats 400000000 in
set_option maxRecDepth 100000 in
theorem c_X12_isSign_1 (l : Launch) (E : kE) (D : va_G) (cI cJ cB cZ : ClassId) (h0 : Nat) (f0 : List Value) (h1 : Nat) (g0 : Nat → Int32) (e0 : f0[25]? = some (.ref h1)) (e1 : f0[28]? = some (.int 0)) (e2 : g0 0 = 0) : kI l E D (kT cI cJ cB cZ) yX12_isSign wsX12_isSign ({ frames := 0, cells := 0, slots := 0, locals := 0 }) [.ref h0, .int 9] [(h0, .inr (12, f0)), (h1, .inl (cI, 2001, .inl g0))] (0) [(h0, .inr (12, f0)), (h1, .inl (cI, 2001, .inl g0))] 0 0 := by
  intro sz
  refine Met.ofW (cc := cX12_isSign) (maxL := 2) (ret := (some .boolean)) (by decide) rfl ?_
  intro p e s m args below meth c s₁ B hml hv
  obtain ⟨rfl, hsz, hP, hK, hD0, hN, hX⟩ := hv
  have hx := B.exec
  have hb := B.bytes
  have hr := B.returns
  have hts := atoms_spec (ws := wsX12_isSign) B.pre
  have hown : s.vm.findClass RX12 = some m.cls := findClass_of_methodNamed B.named
  have hlocks := B.notSynchronized
  have hin12 : ∀ w ∈ wsX120, w ∈ wsX12_isSign := (fun w h => (List.mem_cons_of_mem _ (List.mem_append_right _ h)))
  subst hsz
  have hD := hD0.self (sz := s.heap.size)
  have hAE := k_AE hD0 hX
  generalize hAe : va_A [(h0, .inr (12, f0)), (h1, .inl (cI, 2001, .inl g0))] s.heap.size = A at hD hAE ⊢
  have hA : ∀ q : Nat, s.heap.size ≤ q → A q := fun q h => by rw [← hAe]; exact Or.inr h
  have hS : va_S A s.heap s.heap [] := va_S.rf
  have hP : va_P D vwCl [(h0, .inr (12, f0)), (h1, .inl (cI, 2001, .inl g0))] s.heap := hP
  have hl := lv_entry ([.ref h0, .int 9] : List Value) (n := 2) (Nat.le_of_ble_eq_true rfl)
  rw [lg_entry_eq]
  generalize (lg_sl ([.ref h0, .int 9]) ++ List.replicate (2 - (lg_sl ([.ref h0, .int 9])).length) Slot.unset).toArray = ls at hl ⊢
  have hl : lv_has ls 2 [(0, .ref h0), (1, .int 9)] := hl
  refine lv_aload_n hx hb dX12_isSign_0 rfl (lv_at hl 0 rfl) ?_
  refine va_get (D := D) (ref := "IntegerHouseModel") (ci := 12) (v := .ref h1) (C := RX12) (T := TX12) (N := 195) hx hb hts hin12 hown hK hP 0 rfl rfl 25 (by decide) (hts (.fieldLink RX12 87 "IntegerHouseModel" "tokenKind" "[I") (List.mem_cons_of_mem _ (List.mem_append_left _ (List.mem_of_getElem? (i := 0) rfl)))) (fun _ h9 => h9) e0 dX12_isSign_1 ?_
  refine lv_aload_n hx hb dX12_isSign_4 rfl (lv_at hl 0 rfl) ?_
  refine va_get (D := D) (ref := "IntegerHouseModel") (ci := 12) (v := .int 0) (C := RX12) (T := TX12) (N := 195) hx hb hts hin12 hown hK hP 0 rfl rfl 28 (by decide) (hts (.fieldLink RX12 597 "IntegerHouseModel" "now" "I") (List.mem_cons_of_mem _ (List.mem_append_left _ (List.mem_of_getElem? (i := 1) rfl)))) (fun _ h9 => h9) e1 dX12_isSign_5 ?_
  refine va_iald hx hb hK hP 1 0 rfl rfl (k_in (by decide)) dX12_isSign_8 ?_
  refine k_topi (y := 0) e2 ?_
  refine lv_iconst (v := 5) hx hb dX12_isSign_9 (by decide) ?_
  refine lv_icmp_ne (tgt := 30) hx hb dX12_isSign_10 (by decide) (fun _ => ?_) (fun c9 => absurd c9 (by decide))
  refine lv_iconst (v := 0) hx hb dX12_isSign_30 (by decide) ?_
  exact W.zret (v := 0) hx hb hr rfl (fun t ht hW => ⟨⟨0, (), rfl, rfl, kB_mk ht hW hP hK hD⟩, hS.F ht⟩) hS.2.2 dX12_isSign_31
set_option maxHeartbeats 400000000 in
set_option maxRecDepth 100000 in
theorem c_X12_isSign_2 (l : Launch) (E : kE) (D : va_G) (cI cJ cB cZ : ClassId) (h0 : Nat) (f0 : List Value) (h1 : Nat) (g0 : Nat → Int32) (e0 : f0[25]? = some (.ref h1)) (e1 : f0[28]? = some (.int 0)) (e2 : g0 0 = 0) : kI l E D (kT cI cJ cB cZ) yX12_isSign wsX12_isSign ({ frames := 0, cells := 0, slots := 0, locals := 0 }) [.ref h0, .int 3] [(h0, .inr (12, f0)), (h1, .inl (cI, 2001, .inl g0))] (0) [(h0, .inr (12, f0)), (h1, .inl (cI, 2001, .inl g0))] 0 0 := by
  intro sz
  refine Met.ofW (cc := cX12_isSign) (maxL := 2) (ret := (some .boolean)) (by decide) rfl ?_
  intro p e s m args below meth c s₁ B hml hv
  obtain ⟨rfl, hsz, hP, hK, hD0, hN, hX⟩ := hv
  have hx := B.exec
  have hb := B.bytes
  have hr := B.returns
  have hts := atoms_spec (ws := wsX12_isSign) B.pre
  have hown : s.vm.findClass RX12 = some m.cls := findClass_of_methodNamed B.named
  have hlocks := B.notSynchronized
  have hin12 : ∀ w ∈ wsX120, w ∈ wsX12_isSign := (fun w h => (List.mem_cons_of_mem _ (List.mem_append_right _ h)))
  subst hsz
  have hD := hD0.self (sz := s.heap.size)
  have hAE := k_AE hD0 hX
  generalize hAe : va_A [(h0, .inr (12, f0)), (h1, .inl (cI, 2001, .inl g0))] s.heap.size = A at hD hAE ⊢
  have hA : ∀ q : Nat, s.heap.size ≤ q → A q := fun q h => by rw [← hAe]; exact Or.inr h
  have hS : va_S A s.heap s.heap [] := va_S.rf
  have hP : va_P D vwCl [(h0, .inr (12, f0)), (h1, .inl (cI, 2001, .inl g0))] s.heap := hP
  have hl := lv_entry ([.ref h0, .int 3] : List Value) (n := 2) (Nat.le_of_ble_eq_true rfl)
  rw [lg_entry_eq]
  generalize (lg_sl ([.ref h0, .int 3]) ++ List.replicate (2 - (lg_sl ([.ref h0, .int 3])).length) Slot.unset).toArray = ls at hl ⊢
  have hl : lv_has ls 2 [(0, .ref h0), (1, .int 3)] := hl
  refine lv_aload_n hx hb dX12_isSign_0 rfl (lv_at hl 0 rfl) ?_
  refine va_get (D := D) (ref := "IntegerHouseModel") (ci := 12) (v := .ref h1) (C := RX12) (T := TX12) (N := 195) hx hb hts hin12 hown hK hP 0 rfl rfl 25 (by decide) (hts (.fieldLink RX12 87 "IntegerHouseModel" "tokenKind" "[I") (List.mem_cons_of_mem _ (List.mem_append_left _ (List.mem_of_getElem? (i := 0) rfl)))) (fun _ h9 => h9) e0 dX12_isSign_1 ?_
  refine lv_aload_n hx hb dX12_isSign_4 rfl (lv_at hl 0 rfl) ?_
  refine va_get (D := D) (ref := "IntegerHouseModel") (ci := 12) (v := .int 0) (C := RX12) (T := TX12) (N := 195) hx hb hts hin12 hown hK hP 0 rfl rfl 28 (by decide) (hts (.fieldLink RX12 597 "IntegerHouseModel" "now" "I") (List.mem_cons_of_mem _ (List.mem_append_left _ (List.mem_of_getElem? (i := 1) rfl)))) (fun _ h9 => h9) e1 dX12_isSign_5 ?_
  refine va_iald hx hb hK hP 1 0 rfl rfl (k_in (by decide)) dX12_isSign_8 ?_
  refine k_topi (y := 0) e2 ?_
  refine lv_iconst (v := 5) hx hb dX12_isSign_9 (by decide) ?_
  refine lv_icmp_ne (tgt := 30) hx hb dX12_isSign_10 (by decide) (fun _ => ?_) (fun c9 => absurd c9 (by decide))
  refine lv_iconst (v := 0) hx hb dX12_isSign_30 (by decide) ?_
  exact W.zret (v := 0) hx hb hr rfl (fun t ht hW => ⟨⟨0, (), rfl, rfl, kB_mk ht hW hP hK hD⟩, hS.F ht⟩) hS.2.2 dX12_isSign_31
set_option maxHeartbeats 400000000 in
set_option maxRecDepth 100000 in
theorem c_X12_readOne_0 (l : Launch) (E : kE) (D : va_G) (cI cJ cB cZ : ClassId) (h0 : Nat) (f0 : List Value) (h1 : Nat) (g0 : Nat → Int32) (h2 : Nat) (g1 : Nat → Int32) (h3 : Nat) (g2 : Nat → Int32) (h4 : Nat) (g3 : Nat → Int32) (e0 : f0[25]? = some (.ref h1)) (e1 : f0[28]? = some (.int 0)) (e2 : g0 0 = 0) (e3 : f0[26]? = some (.ref h2)) (e4 : g1 0 = 0) (e5 : f0[40]? = some (.ref h3)) (e6 : f0[66]? = some (.int 24)) (e7 : g2 24 = 0) (e8 : f0[31]? = some (.int 0)) (e9 : f0[29]? = some (.int 0)) (e10 : f0[23]? = some (.ref h4)) (e11 : g3 0 = 0) (e12 : f0[30]? = some (.int 0)) : kV l E D (kT cI cJ cB cZ) yX12_readOne wsX12_readOne ({ frames := 2, cells := 0, slots := 0, locals := 42 }) [.ref h0] [(h0, .inr (12, f0)), (h1, .inl (cI, 2001, .inl g0)), (h2, .inl (cI, 2001, .inl g1)), (h3, .inl (cI, 26, .inl g2)), (h4, .inl (cI, 2001, .inl g3))] (fun _ : Unit => [(h0, .inr (12, (((f0.set 31 (.int 1)).set 29 (.int 2)).set 30 (.int 0)))), (h1, .inl (cI, 2001, .inl g0)), (h2, .inl (cI, 2001, .inl g1)), (h3, .inl (cI, 26, .inl g2)), (h4, .inl (cI, 2001, .inl g3))]) 0 0 := by
  intro sz
  refine Met.ofW (cc := cX12_readOne) (maxL := 5) (ret := none) (by decide) rfl ?_
  intro p e s m args below meth c s₁ B hml hv
  obtain ⟨rfl, hsz, hP, hK, hD0, hN, hX⟩ := hv
  have hx := B.exec
  have hb := B.bytes
  have hr := B.returns
  have hts := atoms_spec (ws := wsX12_readOne) B.pre
  have hown : s.vm.findClass RX12 = some m.cls := findClass_of_methodNamed B.named
  have hlocks := B.notSynchronized
  have hin12 : ∀ w ∈ wsX120, w ∈ wsX12_readOne := (fun w h => (List.mem_cons_of_mem _ (List.mem_append_right _ h)))
  subst hsz
  have hD := hD0.self (sz := s.heap.size)
  have hAE := k_AE hD0 hX
  generalize hAe : va_A [(h0, .inr (12, f0)), (h1, .inl (cI, 2001, .inl g0)), (h2, .inl (cI, 2001, .inl g1)), (h3, .inl (cI, 26, .inl g2)), (h4, .inl (cI, 2001, .inl g3))] s.heap.size = A at hD hAE ⊢
  have hA : ∀ q : Nat, s.heap.size ≤ q → A q := fun q h => by rw [← hAe]; exact Or.inr h
  have hS : va_S A s.heap s.heap [] := va_S.rf
  have hP : va_P D vwCl [(h0, .inr (12, f0)), (h1, .inl (cI, 2001, .inl g0)), (h2, .inl (cI, 2001, .inl g1)), (h3, .inl (cI, 26, .inl g2)), (h4, .inl (cI, 2001, .inl g3))] s.heap := hP
  have hl := lv_entry ([.ref h0] : List Value) (n := 5) (Nat.le_of_ble_eq_true rfl)
  rw [lg_entry_eq]
  generalize (lg_sl ([.ref h0]) ++ List.replicate (5 - (lg_sl ([.ref h0])).length) Slot.unset).toArray = ls at hl ⊢
  have hl : lv_has ls 5 [(0, .ref h0)] := hl
  refine lv_aload_n hx hb dX12_readOne_0 rfl (lv_at hl 0 rfl) ?_
  refine va_get (D := D) (ref := "IntegerHouseModel") (ci := 12) (v := .ref h1) (C := RX12) (T := TX12) (N := 195) hx hb hts hin12 hown hK hP 0 rfl rfl 25 (by decide) (hts (.fieldLink RX12 87 "IntegerHouseModel" "tokenKind" "[I") (List.mem_cons_of_mem _ (List.mem_append_left _ (List.mem_append_left _ (List.mem_of_getElem? (i := 0) rfl))))) (fun _ h9 => h9) e0 dX12_readOne_1 ?_
  refine lv_aload_n hx hb dX12_readOne_4 rfl (lv_at hl 0 rfl) ?_
  refine va_get (D := D) (ref := "IntegerHouseModel") (ci := 12) (v := .int 0) (C := RX12) (T := TX12) (N := 195) hx hb hts hin12 hown hK hP 0 rfl rfl 28 (by decide) (hts (.fieldLink RX12 597 "IntegerHouseModel" "now" "I") (List.mem_cons_of_mem _ (List.mem_append_left _ (List.mem_append_left _ (List.mem_of_getElem? (i := 1) rfl))))) (fun _ h9 => h9) e1 dX12_readOne_5 ?_
  refine va_iald hx hb hK hP 1 0 rfl rfl (k_in (by decide)) dX12_readOne_8 ?_
  refine k_topi (y := 0) e2 ?_
  refine lv_istore_n (lv' := [(1, .int 0), (0, .ref h0)]) hx hb dX12_readOne_9 rfl hl (by decide) rfl (fun ls hl => ?_)
  refine lv_aload_n hx hb dX12_readOne_10 rfl (lv_at hl 1 rfl) ?_
  refine va_get (D := D) (ref := "IntegerHouseModel") (ci := 12) (v := .ref h2) (C := RX12) (T := TX12) (N := 195) hx hb hts hin12 hown hK hP 0 rfl rfl 26 (by decide) (hts (.fieldLink RX12 90 "IntegerHouseModel" "tokenValue" "[I") (List.mem_cons_of_mem _ (List.mem_append_left _ (List.mem_append_left _ (List.mem_of_getElem? (i := 2) rfl))))) (fun _ h9 => h9) e3 dX12_readOne_11 ?_
  refine lv_aload_n hx hb dX12_readOne_14 rfl (lv_at hl 1 rfl) ?_
  refine va_get (D := D) (ref := "IntegerHouseModel") (ci := 12) (v := .int 0) (C := RX12) (T := TX12) (N := 195) hx hb hts hin12 hown hK hP 0 rfl rfl 28 (by decide) (hts (.fieldLink RX12 597 "IntegerHouseModel" "now" "I") (List.mem_cons_of_mem _ (List.mem_append_left _ (List.mem_append_left _ (List.mem_of_getElem? (i := 1) rfl))))) (fun _ h9 => h9) e1 dX12_readOne_15 ?_
  refine va_iald hx hb hK hP 2 0 rfl rfl (k_in (by decide)) dX12_readOne_18 ?_
  refine k_topi (y := 0) e4 ?_
  refine lv_istore_n (lv' := [(2, .int 0), (1, .int 0), (0, .ref h0)]) hx hb dX12_readOne_19 rfl hl (by decide) rfl (fun ls hl => ?_)
  refine lv_aload_n hx hb dX12_readOne_20 rfl (lv_at hl 2 rfl) ?_
  refine va_get (D := D) (ref := "IntegerHouseModel") (ci := 12) (v := .ref h3) (C := RX12) (T := TX12) (N := 195) hx hb hts hin12 hown hK hP 0 rfl rfl 40 (by decide) (hts (.fieldLink RX12 105 "IntegerHouseModel" "textCount" "[I") (List.mem_cons_of_mem _ (List.mem_append_left _ (List.mem_append_left _ (List.mem_of_getElem? (i := 3) rfl))))) (fun _ h9 => h9) e5 dX12_readOne_21 ?_
  refine lv_aload_n hx hb dX12_readOne_24 rfl (lv_at hl 2 rfl) ?_
  refine va_get (D := D) (ref := "IntegerHouseModel") (ci := 12) (v := .int 24) (C := RX12) (T := TX12) (N := 195) hx hb hts hin12 hown hK hP 0 rfl rfl 66 (by decide) (hts (.fieldLink RX12 630 "IntegerHouseModel" "slot" "I") (List.mem_cons_of_mem _ (List.mem_append_left _ (List.mem_append_left _ (List.mem_of_getElem? (i := 4) rfl))))) (fun _ h9 => h9) e6 dX12_readOne_25 ?_
  refine va_iald hx hb hK hP 3 0 rfl rfl (k_in (by decide)) dX12_readOne_28 ?_
  refine k_topi (y := 0) e7 ?_
  refine lv_istore_n (lv' := [(3, .int 0), (2, .int 0), (1, .int 0), (0, .ref h0)]) hx hb dX12_readOne_29 rfl hl (by decide) rfl (fun ls hl => ?_)
  refine lv_aload_n hx hb dX12_readOne_30 rfl (lv_at hl 3 rfl) ?_
  refine lv_iconst (v := 5) hx hb dX12_readOne_31 (by decide) ?_
  refine k_cVi (As := [.int 5]) (rest := []) (wc := [(h0, .inr (12, f0)), (h1, .inl (cI, 2001, .inl g0))]) (wr := [(h2, .inl (cI, 2001, .inl g1)), (h3, .inl (cI, 26, .inl g2)), (h4, .inl (cI, 2001, .inl g3))]) (w1 := [(h0, .inr (12, f0)), (h1, .inl (cI, 2001, .inl g0))]) ⟨hx, hb, hml, hown, hts⟩ hN hX hAE hK hP hD hS hA [0, 1] [2, 3, 4] (ci := 12) rfl rfl rfl rfl (by decide +kernel) (by decide +kernel) (by decide +kernel) (c_X12_isWord_0 l E D cI cJ cB cZ h0 f0 h1 g0 e0 e1 e2) (cwV 1 hts gX12_readOne_X12_isWord rfl rfl rfl (by decide +kernel) ⟨Nat.le_of_ble_eq_true rfl, Nat.le_of_ble_eq_true rfl⟩) rfl hl.1 (Nat.le_of_ble_eq_true rfl) dX12_readOne_32 ⟨Nat.le_of_ble_eq_true rfl, Nat.le_of_ble_eq_true rfl⟩ (fun H locs hP hD hS => ?_)
  have hP : va_P D vwCl [(h2, .inl (cI, 2001, .inl g1)), (h3, .inl (cI, 26, .inl g2)), (h4, .inl (cI, 2001, .inl g3)), (h0, .inr (12, f0)), (h1, .inl (cI, 2001, .inl g0))] H := hP
  have hD : va_D A [(h2, .inl (cI, 2001, .inl g1)), (h3, .inl (cI, 26, .inl g2)), (h4, .inl (cI, 2001, .inl g3)), (h0, .inr (12, f0)), (h1, .inl (cI, 2001, .inl g0))] := hD
  refine lv_if_eq (tgt := 58) hx hb dX12_readOne_35 (by decide) (fun _ => ?_) (fun c9 => absurd (by decide) c9)
  refine lv_aload_n hx hb dX12_readOne_58 rfl (lv_at hl 3 rfl) ?_
  refine lv_iconst (v := 1) hx hb dX12_readOne_59 (by decide) ?_
  refine k_cVi (As := [.int 1]) (rest := []) (wc := [(h0, .inr (12, f0)), (h1, .inl (cI, 2001, .inl g0))]) (wr := [(h2, .inl (cI, 2001, .inl g1)), (h3, .inl (cI, 26, .inl g2)), (h4, .inl (cI, 2001, .inl g3))]) (w1 := [(h0, .inr (12, f0)), (h1, .inl (cI, 2001, .inl g0))]) ⟨hx, hb, hml, hown, hts⟩ hN hX hAE hK hP hD hS hA [3, 4] [0, 1, 2] (ci := 12) rfl rfl rfl rfl (by decide +kernel) (by decide +kernel) (by decide +kernel) (c_X12_isSign_0 l E D cI cJ cB cZ h0 f0 h1 g0 e0 e1 e2) (cwV 1 hts gX12_readOne_X12_isSign rfl rfl rfl (by decide +kernel) ⟨Nat.le_of_ble_eq_true rfl, Nat.le_of_ble_eq_true rfl⟩) rfl hl.1 (Nat.le_of_ble_eq_true rfl) dX12_readOne_60 ⟨Nat.le_of_ble_eq_true rfl, Nat.le_of_ble_eq_true rfl⟩ (fun H locs hP hD hS => ?_)
  have hP : va_P D vwCl [(h2, .inl (cI, 2001, .inl g1)), (h3, .inl (cI, 26, .inl g2)), (h4, .inl (cI, 2001, .inl g3)), (h0, .inr (12, f0)), (h1, .inl (cI, 2001, .inl g0))] H := hP
  have hD : va_D A [(h2, .inl (cI, 2001, .inl g1)), (h3, .inl (cI, 26, .inl g2)), (h4, .inl (cI, 2001, .inl g3)), (h0, .inr (12, f0)), (h1, .inl (cI, 2001, .inl g0))] := hD
  refine lv_if_eq (tgt := 77) hx hb dX12_readOne_63 (by decide) (fun _ => ?_) (fun c9 => absurd (by decide) c9)
  refine lv_aload_n hx hb dX12_readOne_77 rfl (lv_at hl 3 rfl) ?_
  refine lv_bipush (v := 6) hx hb dX12_readOne_78 (by decide) ?_
  refine k_cVi (As := [.int 6]) (rest := []) (wc := [(h0, .inr (12, f0)), (h1, .inl (cI, 2001, .inl g0))]) (wr := [(h2, .inl (cI, 2001, .inl g1)), (h3, .inl (cI, 26, .inl g2)), (h4, .inl (cI, 2001, .inl g3))]) (w1 := [(h0, .inr (12, f0)), (h1, .inl (cI, 2001, .inl g0))]) ⟨hx, hb, hml, hown, hts⟩ hN hX hAE hK hP hD hS hA [3, 4] [0, 1, 2] (ci := 12) rfl rfl rfl rfl (by decide +kernel) (by decide +kernel) (by decide +kernel) (c_X12_isWord_1 l E D cI cJ cB cZ h0 f0 h1 g0 e0 e1 e2) (cwV 1 hts gX12_readOne_X12_isWord rfl rfl rfl (by decide +kernel) ⟨Nat.le_of_ble_eq_true rfl, Nat.le_of_ble_eq_true rfl⟩) rfl hl.1 (Nat.le_of_ble_eq_true rfl) dX12_readOne_80 ⟨Nat.le_of_ble_eq_true rfl, Nat.le_of_ble_eq_true rfl⟩ (fun H locs hP hD hS => ?_)
  have hP : va_P D vwCl [(h2, .inl (cI, 2001, .inl g1)), (h3, .inl (cI, 26, .inl g2)), (h4, .inl (cI, 2001, .inl g3)), (h0, .inr (12, f0)), (h1, .inl (cI, 2001, .inl g0))] H := hP
  have hD : va_D A [(h2, .inl (cI, 2001, .inl g1)), (h3, .inl (cI, 26, .inl g2)), (h4, .inl (cI, 2001, .inl g3)), (h0, .inr (12, f0)), (h1, .inl (cI, 2001, .inl g0))] := hD
  refine lv_if_ne (tgt := 95) hx hb dX12_readOne_83 (by decide) (fun c9 => absurd (by decide) c9) (fun _ => ?_)
  refine lv_aload_n hx hb dX12_readOne_86 rfl (lv_at hl 3 rfl) ?_
  refine lv_bipush (v := 7) hx hb dX12_readOne_87 (by decide) ?_
  refine k_cVi (As := [.int 7]) (rest := []) (wc := [(h0, .inr (12, f0)), (h1, .inl (cI, 2001, .inl g0))]) (wr := [(h2, .inl (cI, 2001, .inl g1)), (h3, .inl (cI, 26, .inl g2)), (h4, .inl (cI, 2001, .inl g3))]) (w1 := [(h0, .inr (12, f0)), (h1, .inl (cI, 2001, .inl g0))]) ⟨hx, hb, hml, hown, hts⟩ hN hX hAE hK hP hD hS hA [3, 4] [0, 1, 2] (ci := 12) rfl rfl rfl rfl (by decide +kernel) (by decide +kernel) (by decide +kernel) (c_X12_isWord_2 l E D cI cJ cB cZ h0 f0 h1 g0 e0 e1 e2) (cwV 1 hts gX12_readOne_X12_isWord rfl rfl rfl (by decide +kernel) ⟨Nat.le_of_ble_eq_true rfl, Nat.le_of_ble_eq_true rfl⟩) rfl hl.1 (Nat.le_of_ble_eq_true rfl) dX12_readOne_89 ⟨Nat.le_of_ble_eq_true rfl, Nat.le_of_ble_eq_true rfl⟩ (fun H locs hP hD hS => ?_)
  have hP : va_P D vwCl [(h2, .inl (cI, 2001, .inl g1)), (h3, .inl (cI, 26, .inl g2)), (h4, .inl (cI, 2001, .inl g3)), (h0, .inr (12, f0)), (h1, .inl (cI, 2001, .inl g0))] H := hP
  have hD : va_D A [(h2, .inl (cI, 2001, .inl g1)), (h3, .inl (cI, 26, .inl g2)), (h4, .inl (cI, 2001, .inl g3)), (h0, .inr (12, f0)), (h1, .inl (cI, 2001, .inl g0))] := hD
  refine lv_if_eq (tgt := 113) hx hb dX12_readOne_92 (by decide) (fun _ => ?_) (fun c9 => absurd (by decide) c9)
  refine lv_iload_n hx hb dX12_readOne_113 rfl (lv_at hl 2 rfl) ?_
  refine lv_iconst (v := 3) hx hb dX12_readOne_114 (by decide) ?_
  refine lv_icmp_ne (tgt := 210) hx hb dX12_readOne_115 (by decide) (fun _ => ?_) (fun c9 => absurd c9 (by decide))
  refine lv_iload_n hx hb dX12_readOne_210 rfl (lv_at hl 2 rfl) ?_
  refine lv_iconst (v := 2) hx hb dX12_readOne_211 (by decide) ?_
  refine lv_icmp_ne (tgt := 294) hx hb dX12_readOne_212 (by decide) (fun _ => ?_) (fun c9 => absurd c9 (by decide))
  refine lv_iload_n hx hb dX12_readOne_294 rfl (lv_at hl 2 rfl) ?_
  refine lv_iconst (v := 2) hx hb dX12_readOne_295 (by decide) ?_
  refine lv_icmp_eq (tgt := 335) hx hb dX12_readOne_296 (by decide) (fun c9 => absurd c9 (by decide)) (fun _ => ?_)
  refine lv_aload_n hx hb dX12_readOne_299 rfl (lv_at hl 3 rfl) ?_
  refine lv_bipush (v := 9) hx hb dX12_readOne_300 (by decide) ?_
  refine k_cVi (As := [.int 9]) (rest := []) (wc := [(h0, .inr (12, f0)), (h1, .inl (cI, 2001, .inl g0))]) (wr := [(h2, .inl (cI, 2001, .inl g1)), (h3, .inl (cI, 26, .inl g2)), (h4, .inl (cI, 2001, .inl g3))]) (w1 := [(h0, .inr (12, f0)), (h1, .inl (cI, 2001, .inl g0))]) ⟨hx, hb, hml, hown, hts⟩ hN hX hAE hK hP hD hS hA [3, 4] [0, 1, 2] (ci := 12) rfl rfl rfl rfl (by decide +kernel) (by decide +kernel) (by decide +kernel) (c_X12_isSign_1 l E D cI cJ cB cZ h0 f0 h1 g0 e0 e1 e2) (cwV 1 hts gX12_readOne_X12_isSign rfl rfl rfl (by decide +kernel) ⟨Nat.le_of_ble_eq_true rfl, Nat.le_of_ble_eq_true rfl⟩) rfl hl.1 (Nat.le_of_ble_eq_true rfl) dX12_readOne_302 ⟨Nat.le_of_ble_eq_true rfl, Nat.le_of_ble_eq_true rfl⟩ (fun H locs hP hD hS => ?_)
  have hP : va_P D vwCl [(h2, .inl (cI, 2001, .inl g1)), (h3, .inl (cI, 26, .inl g2)), (h4, .inl (cI, 2001, .inl g3)), (h0, .inr (12, f0)), (h1, .inl (cI, 2001, .inl g0))] H := hP
  have hD : va_D A [(h2, .inl (cI, 2001, .inl g1)), (h3, .inl (cI, 26, .inl g2)), (h4, .inl (cI, 2001, .inl g3)), (h0, .inr (12, f0)), (h1, .inl (cI, 2001, .inl g0))] := hD
  refine lv_if_ne (tgt := 335) hx hb dX12_readOne_305 (by decide) (fun c9 => absurd (by decide) c9) (fun _ => ?_)
  refine lv_aload_n hx hb dX12_readOne_308 rfl (lv_at hl 3 rfl) ?_
  refine lv_iconst (v := 3) hx hb dX12_readOne_309 (by decide) ?_
  refine k_cVi (As := [.int 3]) (rest := []) (wc := [(h0, .inr (12, f0)), (h1, .inl (cI, 2001, .inl g0))]) (wr := [(h2, .inl (cI, 2001, .inl g1)), (h3, .inl (cI, 26, .inl g2)), (h4, .inl (cI, 2001, .inl g3))]) (w1 := [(h0, .inr (12, f0)), (h1, .inl (cI, 2001, .inl g0))]) ⟨hx, hb, hml, hown, hts⟩ hN hX hAE hK hP hD hS hA [3, 4] [0, 1, 2] (ci := 12) rfl rfl rfl rfl (by decide +kernel) (by decide +kernel) (by decide +kernel) (c_X12_isSign_2 l E D cI cJ cB cZ h0 f0 h1 g0 e0 e1 e2) (cwV 1 hts gX12_readOne_X12_isSign rfl rfl rfl (by decide +kernel) ⟨Nat.le_of_ble_eq_true rfl, Nat.le_of_ble_eq_true rfl⟩) rfl hl.1 (Nat.le_of_ble_eq_true rfl) dX12_readOne_310 ⟨Nat.le_of_ble_eq_true rfl, Nat.le_of_ble_eq_true rfl⟩ (fun H locs hP hD hS => ?_)
  have hP : va_P D vwCl [(h2, .inl (cI, 2001, .inl g1)), (h3, .inl (cI, 26, .inl g2)), (h4, .inl (cI, 2001, .inl g3)), (h0, .inr (12, f0)), (h1, .inl (cI, 2001, .inl g0))] H := hP
  have hD : va_D A [(h2, .inl (cI, 2001, .inl g1)), (h3, .inl (cI, 26, .inl g2)), (h4, .inl (cI, 2001, .inl g3)), (h0, .inr (12, f0)), (h1, .inl (cI, 2001, .inl g0))] := hD
  refine lv_if_ne (tgt := 335) hx hb dX12_readOne_313 (by decide) (fun c9 => absurd (by decide) c9) (fun _ => ?_)
  refine lv_iload_n hx hb dX12_readOne_316 rfl (lv_at hl 2 rfl) ?_
  refine lv_iconst (v := 4) hx hb dX12_readOne_317 (by decide) ?_
  refine lv_icmp_ne (tgt := 367) hx hb dX12_readOne_318 (by decide) (fun _ => ?_) (fun c9 => absurd c9 (by decide))
  refine lv_aload_n hx hb dX12_readOne_367 rfl (lv_at hl 3 rfl) ?_
  refine k_cVv (As := []) (rest := []) (wc := [(h0, .inr (12, f0)), (h1, .inl (cI, 2001, .inl g0)), (h4, .inl (cI, 2001, .inl g3))]) (wr := [(h2, .inl (cI, 2001, .inl g1)), (h3, .inl (cI, 26, .inl g2))]) (w1 := (fun _ : Unit => [(h0, .inr (12, (((f0.set 31 (.int 1)).set 29 (.int 2)).set 30 (.int 0)))), (h1, .inl (cI, 2001, .inl g0)), (h4, .inl (cI, 2001, .inl g3))])) ⟨hx, hb, hml, hown, hts⟩ hN hX hAE hK hP hD hS hA [3, 4, 2] [0, 1] (ci := 12) rfl rfl rfl rfl (by decide +kernel) (by decide +kernel) (by decide +kernel) (c_X12_cannot_0 l E D cI cJ cB cZ h0 f0 h1 g0 h4 g3 e0 e1 e2 e8 e9 e10 e11 e12) (cwV 0 hts gX12_readOne_X12_cannot rfl rfl rfl (by decide +kernel) ⟨Nat.le_of_ble_eq_true rfl, Nat.le_of_ble_eq_true rfl⟩) rfl hl.1 (Nat.le_of_ble_eq_true rfl) dX12_readOne_368 ⟨Nat.le_of_ble_eq_true rfl, Nat.le_of_ble_eq_true rfl⟩ (fun _ H locs hP hD hS => ?_)
  have hP : va_P D vwCl [(h2, .inl (cI, 2001, .inl g1)), (h3, .inl (cI, 26, .inl g2)), (h0, .inr (12, (((f0.set 31 (.int 1)).set 29 (.int 2)).set 30 (.int 0)))), (h1, .inl (cI, 2001, .inl g0)), (h4, .inl (cI, 2001, .inl g3))] H := hP
  have hD : va_D A [(h2, .inl (cI, 2001, .inl g1)), (h3, .inl (cI, 26, .inl g2)), (h0, .inr (12, (((f0.set 31 (.int 1)).set 29 (.int 2)).set 30 (.int 0)))), (h1, .inl (cI, 2001, .inl g0)), (h4, .inl (cI, 2001, .inl g3))] := hD
  have hP := hP.sub (ws' := [(h0, .inr (12, (((f0.set 31 (.int 1)).set 29 (.int 2)).set 30 (.int 0)))), (h1, .inl (cI, 2001, .inl g0)), (h2, .inl (cI, 2001, .inl g1)), (h3, .inl (cI, 26, .inl g2)), (h4, .inl (cI, 2001, .inl g3))]) [2, 3, 0, 1, 4] rfl
  have hD := hD.sub (ws' := [(h0, .inr (12, (((f0.set 31 (.int 1)).set 29 (.int 2)).set 30 (.int 0)))), (h1, .inl (cI, 2001, .inl g0)), (h2, .inl (cI, 2001, .inl g1)), (h3, .inl (cI, 26, .inl g2)), (h4, .inl (cI, 2001, .inl g3))]) [2, 3, 0, 1, 4] (by decide +kernel) rfl
  exact W.vret hx hb hr (fun t ht hW => ⟨⟨(), rfl, trivial, kB_mk ht hW hP hK hD⟩, hS.F ht⟩) hS.2.2 dX12_readOne_371
set_option maxHeartbeats 400000000 in
set_option maxRecDepth 100000 in
theorem c_X12_readFormula_0 (l : Launch) (E : kE) (D : va_G) (cI cJ cB cZ : ClassId) (h0 : Nat) (f0 : List Value) (h1 : Nat) (h2 : Nat) (h3 : Nat) (h4 : Nat) (h5 : Nat) (g0 : Nat → Int32) (g1 : Nat → Int32) (g2 : Nat → Int32) (g3 : Nat → Int32) (g4 : Nat → Int32) (h6 : Nat) (g5 : Nat → Int32) (h7 : Nat) (g6 : Nat → Int32) (h8 : Nat) (g7 : Nat → Int32) (h9 : Nat) (g8 : Nat → Int32) (h10 : Nat) (g9 : Nat → Int32) (e0 : f0[76]? = some (.int 0)) (e1 : f0[83]? = some (.int 0)) (e2 : f0[69]? = some (.ref h1)) (e3 : f0[70]? = some (.ref h2)) (e4 : f0[71]? = some (.ref h3)) (e5 : f0[73]? = some (.ref h4)) (e6 : f0[75]? = some (.ref h5)) (e7 : f0[84]? = some (.int 0)) (e8 : f0[31]? = some (.int 0)) (e9 : f0[25]? = some (.ref h6)) (e10 : f0[28]? = some (.int 0)) (e11 : g5 0 = 0) (e12 : f0[26]? = some (.ref h7)) (e13 : g6 0 = 0) (e14 : f0[40]? = some (.ref h8)) (e15 : f0[66]? = some (.int 24)) (e16 : g7 24 = 0) (e17 : f0[29]? = some (.int 0)) (e18 : f0[23]? = some (.ref h9)) (e19 : g8 0 = 0) (e20 : f0[30]? = some (.int 0)) (e21 : f0[68]? = some (.ref h10)) (e22 : f0[85]? = some (.int 0)) : kI l E D (kT cI cJ cB cZ) yX12_readFormula wsX12_readFormula ({ frames := 3, cells := 0, slots := 0, locals := 66 }) [.ref h0] [(h0, .inr (12, f0)), (h1, .inl (cI, 14, .inl g0)), (h2, .inl (cI, 14, .inl g1)), (h3, .inl (cI, 14, .inl g2)), (h4, .inl (cI, 14, .inl g3)), (h5, .inl (cI, 14, .inl g4)), (h6, .inl (cI, 2001, .inl g5)), (h7, .inl (cI, 2001, .inl g6)), (h8, .inl (cI, 26, .inl g7)), (h9, .inl (cI, 2001, .inl g8)), (h10, .inl (cI, 26, .inl g9))] (0) [(h0, .inr (12, (((((((f0.set 76 (.int (-1))).set 83 (.int (-1))).set 76 (.int 0)).set 84 (.int 1)).set 31 (.int 1)).set 29 (.int 2)).set 30 (.int 0)))), (h1, .inl (cI, 14, .inl (upd g0 0 0))), (h2, .inl (cI, 14, .inl (upd g1 0 (-1)))), (h3, .inl (cI, 14, .inl (upd g2 0 (-1)))), (h4, .inl (cI, 14, .inl (upd g3 0 (-1)))), (h5, .inl (cI, 14, .inl (upd g4 0 0))), (h6, .inl (cI, 2001, .inl g5)), (h7, .inl (cI, 2001, .inl g6)), (h8, .inl (cI, 26, .inl g7)), (h9, .inl (cI, 2001, .inl g8)), (h10, .inl (cI, 26, .inl (upd g9 24 0)))] 0 0 := by
  intro sz
  refine Met.ofW (cc := cX12_readFormula) (maxL := 1) (ret := (some .int)) (by decide) rfl ?_
  intro p e s m args below meth c s₁ B hml hv
  obtain ⟨rfl, hsz, hP, hK, hD0, hN, hX⟩ := hv
  have hx := B.exec
  have hb := B.bytes
  have hr := B.returns
  have hts := atoms_spec (ws := wsX12_readFormula) B.pre
  have hown : s.vm.findClass RX12 = some m.cls := findClass_of_methodNamed B.named
  have hlocks := B.notSynchronized
  have hin12 : ∀ w ∈ wsX120, w ∈ wsX12_readFormula := (fun w h => (List.mem_cons_of_mem _ (List.mem_append_right _ h)))
  subst hsz
  have hD := hD0.self (sz := s.heap.size)
  have hAE := k_AE hD0 hX
  generalize hAe : va_A [(h0, .inr (12, f0)), (h1, .inl (cI, 14, .inl g0)), (h2, .inl (cI, 14, .inl g1)), (h3, .inl (cI, 14, .inl g2)), (h4, .inl (cI, 14, .inl g3)), (h5, .inl (cI, 14, .inl g4)), (h6, .inl (cI, 2001, .inl g5)), (h7, .inl (cI, 2001, .inl g6)), (h8, .inl (cI, 26, .inl g7)), (h9, .inl (cI, 2001, .inl g8)), (h10, .inl (cI, 26, .inl g9))] s.heap.size = A at hD hAE ⊢
  have hA : ∀ q : Nat, s.heap.size ≤ q → A q := fun q h => by rw [← hAe]; exact Or.inr h
  have hS : va_S A s.heap s.heap [] := va_S.rf
  have hP : va_P D vwCl [(h0, .inr (12, f0)), (h1, .inl (cI, 14, .inl g0)), (h2, .inl (cI, 14, .inl g1)), (h3, .inl (cI, 14, .inl g2)), (h4, .inl (cI, 14, .inl g3)), (h5, .inl (cI, 14, .inl g4)), (h6, .inl (cI, 2001, .inl g5)), (h7, .inl (cI, 2001, .inl g6)), (h8, .inl (cI, 26, .inl g7)), (h9, .inl (cI, 2001, .inl g8)), (h10, .inl (cI, 26, .inl g9))] s.heap := hP
  have hl := lv_entry ([.ref h0] : List Value) (n := 1) (Nat.le_of_ble_eq_true rfl)
  rw [lg_entry_eq]
  generalize (lg_sl ([.ref h0]) ++ List.replicate (1 - (lg_sl ([.ref h0])).length) Slot.unset).toArray = ls at hl ⊢
  have hl : lv_has ls 1 [(0, .ref h0)] := hl
  refine lv_aload_n hx hb dX12_readFormula_0 rfl (lv_at hl 0 rfl) ?_
  refine lv_iconst (v := (-1)) hx hb dX12_readFormula_1 (by decide) ?_
  refine va_put (D := D) (ref := "IntegerHouseModel") (ci := 12) (v := .int (-1)) (ty := .int) (C := RX12) (T := TX12) (N := 195) hx hb hts hin12 tyX12 tyX12_ok nmX12 hown hK hP hD hS 0 rfl rfl 76 (by decide) (hts (.fieldLink RX12 639 "IntegerHouseModel" "formulas" "I") (List.mem_cons_of_mem _ (List.mem_append_left _ (List.mem_append_left _ (List.mem_of_getElem? (i := 0) rfl))))) (fun _ h9 => h9) rfl (by decide +kernel) rfl rfl (k_len e0) dX12_readFormula_2 (fun H locs hP hD hS => ?_)
  have hP : va_P D vwCl [(h0, .inr (12, (f0.set 76 (.int (-1))))), (h1, .inl (cI, 14, .inl g0)), (h2, .inl (cI, 14, .inl g1)), (h3, .inl (cI, 14, .inl g2)), (h4, .inl (cI, 14, .inl g3)), (h5, .inl (cI, 14, .inl g4)), (h6, .inl (cI, 2001, .inl g5)), (h7, .inl (cI, 2001, .inl g6)), (h8, .inl (cI, 26, .inl g7)), (h9, .inl (cI, 2001, .inl g8)), (h10, .inl (cI, 26, .inl g9))] H := hP
  have hD : va_D A [(h0, .inr (12, (f0.set 76 (.int (-1))))), (h1, .inl (cI, 14, .inl g0)), (h2, .inl (cI, 14, .inl g1)), (h3, .inl (cI, 14, .inl g2)), (h4, .inl (cI, 14, .inl g3)), (h5, .inl (cI, 14, .inl g4)), (h6, .inl (cI, 2001, .inl g5)), (h7, .inl (cI, 2001, .inl g6)), (h8, .inl (cI, 26, .inl g7)), (h9, .inl (cI, 2001, .inl g8)), (h10, .inl (cI, 26, .inl g9))] := hD
  refine lv_aload_n hx hb dX12_readFormula_5 rfl (lv_at hl 0 rfl) ?_
  refine lv_iconst (v := (-1)) hx hb dX12_readFormula_6 (by decide) ?_
  refine va_put (D := D) (ref := "IntegerHouseModel") (ci := 12) (v := .int (-1)) (ty := .int) (C := RX12) (T := TX12) (N := 195) hx hb hts hin12 tyX12 tyX12_ok nmX12 hown hK hP hD hS 0 rfl rfl 83 (by decide) (hts (.fieldLink RX12 642 "IntegerHouseModel" "terms" "I") (List.mem_cons_of_mem _ (List.mem_append_left _ (List.mem_append_left _ (List.mem_of_getElem? (i := 1) rfl))))) (fun _ h9 => h9) rfl (by decide +kernel) rfl rfl (k_len (k_ne (by decide) e1)) dX12_readFormula_7 (fun H locs hP hD hS => ?_)
  have hP : va_P D vwCl [(h0, .inr (12, ((f0.set 76 (.int (-1))).set 83 (.int (-1))))), (h1, .inl (cI, 14, .inl g0)), (h2, .inl (cI, 14, .inl g1)), (h3, .inl (cI, 14, .inl g2)), (h4, .inl (cI, 14, .inl g3)), (h5, .inl (cI, 14, .inl g4)), (h6, .inl (cI, 2001, .inl g5)), (h7, .inl (cI, 2001, .inl g6)), (h8, .inl (cI, 26, .inl g7)), (h9, .inl (cI, 2001, .inl g8)), (h10, .inl (cI, 26, .inl g9))] H := hP
  have hD : va_D A [(h0, .inr (12, ((f0.set 76 (.int (-1))).set 83 (.int (-1))))), (h1, .inl (cI, 14, .inl g0)), (h2, .inl (cI, 14, .inl g1)), (h3, .inl (cI, 14, .inl g2)), (h4, .inl (cI, 14, .inl g3)), (h5, .inl (cI, 14, .inl g4)), (h6, .inl (cI, 2001, .inl g5)), (h7, .inl (cI, 2001, .inl g6)), (h8, .inl (cI, 26, .inl g7)), (h9, .inl (cI, 2001, .inl g8)), (h10, .inl (cI, 26, .inl g9))] := hD
  refine lv_aload_n hx hb dX12_readFormula_10 rfl (lv_at hl 0 rfl) ?_
  refine k_cVv (As := []) (rest := []) (wc := [(h0, .inr (12, ((f0.set 76 (.int (-1))).set 83 (.int (-1))))), (h1, .inl (cI, 14, .inl g0)), (h2, .inl (cI, 14, .inl g1)), (h3, .inl (cI, 14, .inl g2)), (h4, .inl (cI, 14, .inl g3)), (h5, .inl (cI, 14, .inl g4))]) (wr := [(h6, .inl (cI, 2001, .inl g5)), (h7, .inl (cI, 2001, .inl g6)), (h8, .inl (cI, 26, .inl g7)), (h9, .inl (cI, 2001, .inl g8)), (h10, .inl (cI, 26, .inl g9))]) (w1 := (fun _ : Unit => [(h0, .inr (12, (((f0.set 76 (.int (-1))).set 83 (.int (-1))).set 76 (.int 0)))), (h1, .inl (cI, 14, .inl (upd g0 0 0))), (h2, .inl (cI, 14, .inl (upd g1 0 (-1)))), (h3, .inl (cI, 14, .inl (upd g2 0 (-1)))), (h4, .inl (cI, 14, .inl (upd g3 0 (-1)))), (h5, .inl (cI, 14, .inl (upd g4 0 0)))])) ⟨hx, hb, hml, hown, hts⟩ hN hX hAE hK hP hD hS hA [0, 1, 2, 3, 4, 5] [6, 7, 8, 9, 10] (ci := 12) rfl rfl rfl rfl (by decide +kernel) (by decide +kernel) (by decide +kernel) (c_X12_openFormula_0 l E D cI cJ cB cZ h0 (((f0.set 76 (.int (-1))).set 83 (.int (-1)))) h1 g0 h2 g1 h3 g2 h4 g3 h5 g4 (k_ne (by decide) (k_set e0)) (k_ne (by decide) (k_ne (by decide) e2)) (k_ne (by decide) (k_ne (by decide) e3)) (k_ne (by decide) (k_ne (by decide) e4)) (k_ne (by decide) (k_ne (by decide) e5)) (k_ne (by decide) (k_ne (by decide) e6))) (cwV 0 hts gX12_readFormula_X12_openFormula rfl rfl rfl (by decide +kernel) ⟨Nat.le_of_ble_eq_true rfl, Nat.le_of_ble_eq_true rfl⟩) rfl hl.1 (Nat.le_of_ble_eq_true rfl) dX12_readFormula_11 ⟨Nat.le_of_ble_eq_true rfl, Nat.le_of_ble_eq_true rfl⟩ (fun _ H locs hP hD hS => ?_)
  have hP : va_P D vwCl [(h6, .inl (cI, 2001, .inl g5)), (h7, .inl (cI, 2001, .inl g6)), (h8, .inl (cI, 26, .inl g7)), (h9, .inl (cI, 2001, .inl g8)), (h10, .inl (cI, 26, .inl g9)), (h0, .inr (12, (((f0.set 76 (.int (-1))).set 83 (.int (-1))).set 76 (.int 0)))), (h1, .inl (cI, 14, .inl (upd g0 0 0))), (h2, .inl (cI, 14, .inl (upd g1 0 (-1)))), (h3, .inl (cI, 14, .inl (upd g2 0 (-1)))), (h4, .inl (cI, 14, .inl (upd g3 0 (-1)))), (h5, .inl (cI, 14, .inl (upd g4 0 0)))] H := hP
  have hD : va_D A [(h6, .inl (cI, 2001, .inl g5)), (h7, .inl (cI, 2001, .inl g6)), (h8, .inl (cI, 26, .inl g7)), (h9, .inl (cI, 2001, .inl g8)), (h10, .inl (cI, 26, .inl g9)), (h0, .inr (12, (((f0.set 76 (.int (-1))).set 83 (.int (-1))).set 76 (.int 0)))), (h1, .inl (cI, 14, .inl (upd g0 0 0))), (h2, .inl (cI, 14, .inl (upd g1 0 (-1)))), (h3, .inl (cI, 14, .inl (upd g2 0 (-1)))), (h4, .inl (cI, 14, .inl (upd g3 0 (-1)))), (h5, .inl (cI, 14, .inl (upd g4 0 0)))] := hD
  refine lv_aload_n hx hb dX12_readFormula_14 rfl (lv_at hl 0 rfl) ?_
  refine lv_iconst (v := 1) hx hb dX12_readFormula_15 (by decide) ?_
  refine va_put (D := D) (ref := "IntegerHouseModel") (ci := 12) (v := .int 1) (ty := .int) (C := RX12) (T := TX12) (N := 195) hx hb hts hin12 tyX12 tyX12_ok nmX12 hown hK hP hD hS 5 rfl rfl 84 (by decide) (hts (.fieldLink RX12 648 "IntegerHouseModel" "state" "I") (List.mem_cons_of_mem _ (List.mem_append_left _ (List.mem_append_left _ (List.mem_of_getElem? (i := 2) rfl))))) (fun _ h9 => h9) rfl (by decide +kernel) rfl rfl (k_len (k_ne (by decide) (k_ne (by decide) (k_ne (by decide) e7)))) dX12_readFormula_16 (fun H locs hP hD hS => ?_)
  have hP : va_P D vwCl [(h6, .inl (cI, 2001, .inl g5)), (h7, .inl (cI, 2001, .inl g6)), (h8, .inl (cI, 26, .inl g7)), (h9, .inl (cI, 2001, .inl g8)), (h10, .inl (cI, 26, .inl g9)), (h0, .inr (12, ((((f0.set 76 (.int (-1))).set 83 (.int (-1))).set 76 (.int 0)).set 84 (.int 1)))), (h1, .inl (cI, 14, .inl (upd g0 0 0))), (h2, .inl (cI, 14, .inl (upd g1 0 (-1)))), (h3, .inl (cI, 14, .inl (upd g2 0 (-1)))), (h4, .inl (cI, 14, .inl (upd g3 0 (-1)))), (h5, .inl (cI, 14, .inl (upd g4 0 0)))] H := hP
  have hD : va_D A [(h6, .inl (cI, 2001, .inl g5)), (h7, .inl (cI, 2001, .inl g6)), (h8, .inl (cI, 26, .inl g7)), (h9, .inl (cI, 2001, .inl g8)), (h10, .inl (cI, 26, .inl g9)), (h0, .inr (12, ((((f0.set 76 (.int (-1))).set 83 (.int (-1))).set 76 (.int 0)).set 84 (.int 1)))), (h1, .inl (cI, 14, .inl (upd g0 0 0))), (h2, .inl (cI, 14, .inl (upd g1 0 (-1)))), (h3, .inl (cI, 14, .inl (upd g2 0 (-1)))), (h4, .inl (cI, 14, .inl (upd g3 0 (-1)))), (h5, .inl (cI, 14, .inl (upd g4 0 0)))] := hD
  refine lv_aload_n hx hb dX12_readFormula_19 rfl (lv_at hl 0 rfl) ?_
  refine va_get (D := D) (ref := "IntegerHouseModel") (ci := 12) (v := .int 0) (C := RX12) (T := TX12) (N := 195) hx hb hts hin12 hown hK hP 5 rfl rfl 31 (by decide) (hts (.fieldLink RX12 562 "IntegerHouseModel" "faulty" "Z") (List.mem_cons_of_mem _ (List.mem_append_left _ (List.mem_append_left _ (List.mem_of_getElem? (i := 3) rfl))))) (fun _ h9 => h9) (k_ne (by decide) (k_ne (by decide) (k_ne (by decide) (k_ne (by decide) e8)))) dX12_readFormula_20 ?_
  refine lv_if_ne (tgt := 85) hx hb dX12_readFormula_23 (by decide) (fun c9 => absurd (by decide) c9) (fun _ => ?_)
  refine lv_aload_n hx hb dX12_readFormula_26 rfl (lv_at hl 0 rfl) ?_
  refine va_get (D := D) (ref := "IntegerHouseModel") (ci := 12) (v := .int 1) (C := RX12) (T := TX12) (N := 195) hx hb hts hin12 hown hK hP 5 rfl rfl 84 (by decide) (hts (.fieldLink RX12 648 "IntegerHouseModel" "state" "I") (List.mem_cons_of_mem _ (List.mem_append_left _ (List.mem_append_left _ (List.mem_of_getElem? (i := 2) rfl))))) (fun _ h9 => h9) (k_set (k_ne (by decide) (k_ne (by decide) (k_ne (by decide) e7)))) dX12_readFormula_27 ?_
  refine lv_bipush (v := 7) hx hb dX12_readFormula_30 (by decide) ?_
  refine lv_icmp_eq (tgt := 85) hx hb dX12_readFormula_32 (by decide) (fun c9 => absurd c9 (by decide)) (fun _ => ?_)
  refine lv_aload_n hx hb dX12_readFormula_35 rfl (lv_at hl 0 rfl) ?_
  refine va_get (D := D) (ref := "IntegerHouseModel") (ci := 12) (v := .int 1) (C := RX12) (T := TX12) (N := 195) hx hb hts hin12 hown hK hP 5 rfl rfl 84 (by decide) (hts (.fieldLink RX12 648 "IntegerHouseModel" "state" "I") (List.mem_cons_of_mem _ (List.mem_append_left _ (List.mem_append_left _ (List.mem_of_getElem? (i := 2) rfl))))) (fun _ h9 => h9) (k_set (k_ne (by decide) (k_ne (by decide) (k_ne (by decide) e7)))) dX12_readFormula_36 ?_
  refine lv_lookup (off := 25) (tgt := 64) hx hb dX12_readFormula_39 (by decide) (by decide) (by decide) ?_
  refine lv_aload_n hx hb dX12_readFormula_64 rfl (lv_at hl 0 rfl) ?_
  refine k_cVv (As := []) (rest := []) (wc := [(h0, .inr (12, ((((f0.set 76 (.int (-1))).set 83 (.int (-1))).set 76 (.int 0)).set 84 (.int 1)))), (h6, .inl (cI, 2001, .inl g5)), (h7, .inl (cI, 2001, .inl g6)), (h8, .inl (cI, 26, .inl g7)), (h9, .inl (cI, 2001, .inl g8))]) (wr := [(h10, .inl (cI, 26, .inl g9)), (h1, .inl (cI, 14, .inl (upd g0 0 0))), (h2, .inl (cI, 14, .inl (upd g1 0 (-1)))), (h3, .inl (cI, 14, .inl (upd g2 0 (-1)))), (h4, .inl (cI, 14, .inl (upd g3 0 (-1)))), (h5, .inl (cI, 14, .inl (upd g4 0 0)))]) (w1 := (fun _ : Unit => [(h0, .inr (12, (((((((f0.set 76 (.int (-1))).set 83 (.int (-1))).set 76 (.int 0)).set 84 (.int 1)).set 31 (.int 1)).set 29 (.int 2)).set 30 (.int 0)))), (h6, .inl (cI, 2001, .inl g5)), (h7, .inl (cI, 2001, .inl g6)), (h8, .inl (cI, 26, .inl g7)), (h9, .inl (cI, 2001, .inl g8))])) ⟨hx, hb, hml, hown, hts⟩ hN hX hAE hK hP hD hS hA [5, 0, 1, 2, 3] [4, 6, 7, 8, 9, 10] (ci := 12) rfl rfl rfl rfl (by decide +kernel) (by decide +kernel) (by decide +kernel) (c_X12_readOne_0 l E D cI cJ cB cZ h0 (((((f0.set 76 (.int (-1))).set 83 (.int (-1))).set 76 (.int 0)).set 84 (.int 1))) h6 g5 h7 g6 h8 g7 h9 g8 (k_ne (by decide) (k_ne (by decide) (k_ne (by decide) (k_ne (by decide) e9)))) (k_ne (by decide) (k_ne (by decide) (k_ne (by decide) (k_ne (by decide) e10)))) e11 (k_ne (by decide) (k_ne (by decide) (k_ne (by decide) (k_ne (by decide) e12)))) e13 (k_ne (by decide) (k_ne (by decide) (k_ne (by decide) (k_ne (by decide) e14)))) (k_ne (by decide) (k_ne (by decide) (k_ne (by decide) (k_ne (by decide) e15)))) e16 (k_ne (by decide) (k_ne (by decide) (k_ne (by decide) (k_ne (by decide) e8)))) (k_ne (by decide) (k_ne (by decide) (k_ne (by decide) (k_ne (by decide) e17)))) (k_ne (by decide) (k_ne (by decide) (k_ne (by decide) (k_ne (by decide) e18)))) e19 (k_ne (by decide) (k_ne (by decide) (k_ne (by decide) (k_ne (by decide) e20))))) (cwV 0 hts gX12_readFormula_X12_readOne rfl rfl rfl (by decide +kernel) ⟨Nat.le_of_ble_eq_true rfl, Nat.le_of_ble_eq_true rfl⟩) rfl hl.1 (Nat.le_of_ble_eq_true rfl) dX12_readFormula_65 ⟨Nat.le_of_ble_eq_true rfl, Nat.le_of_ble_eq_true rfl⟩ (fun _ H locs hP hD hS => ?_)
  have hP : va_P D vwCl [(h10, .inl (cI, 26, .inl g9)), (h1, .inl (cI, 14, .inl (upd g0 0 0))), (h2, .inl (cI, 14, .inl (upd g1 0 (-1)))), (h3, .inl (cI, 14, .inl (upd g2 0 (-1)))), (h4, .inl (cI, 14, .inl (upd g3 0 (-1)))), (h5, .inl (cI, 14, .inl (upd g4 0 0))), (h0, .inr (12, (((((((f0.set 76 (.int (-1))).set 83 (.int (-1))).set 76 (.int 0)).set 84 (.int 1)).set 31 (.int 1)).set 29 (.int 2)).set 30 (.int 0)))), (h6, .inl (cI, 2001, .inl g5)), (h7, .inl (cI, 2001, .inl g6)), (h8, .inl (cI, 26, .inl g7)), (h9, .inl (cI, 2001, .inl g8))] H := hP
  have hD : va_D A [(h10, .inl (cI, 26, .inl g9)), (h1, .inl (cI, 14, .inl (upd g0 0 0))), (h2, .inl (cI, 14, .inl (upd g1 0 (-1)))), (h3, .inl (cI, 14, .inl (upd g2 0 (-1)))), (h4, .inl (cI, 14, .inl (upd g3 0 (-1)))), (h5, .inl (cI, 14, .inl (upd g4 0 0))), (h0, .inr (12, (((((((f0.set 76 (.int (-1))).set 83 (.int (-1))).set 76 (.int 0)).set 84 (.int 1)).set 31 (.int 1)).set 29 (.int 2)).set 30 (.int 0)))), (h6, .inl (cI, 2001, .inl g5)), (h7, .inl (cI, 2001, .inl g6)), (h8, .inl (cI, 26, .inl g7)), (h9, .inl (cI, 2001, .inl g8))] := hD
  refine lv_goto (tgt := 19) hx hb dX12_readFormula_68 (by decide) ?_
  refine lv_aload_n hx hb dX12_readFormula_19 rfl (lv_at hl 0 rfl) ?_
  refine va_get (D := D) (ref := "IntegerHouseModel") (ci := 12) (v := .int 1) (C := RX12) (T := TX12) (N := 195) hx hb hts hin12 hown hK hP 6 rfl rfl 31 (by decide) (hts (.fieldLink RX12 562 "IntegerHouseModel" "faulty" "Z") (List.mem_cons_of_mem _ (List.mem_append_left _ (List.mem_append_left _ (List.mem_of_getElem? (i := 3) rfl))))) (fun _ h9 => h9) (k_ne (by decide) (k_ne (by decide) (k_set (k_ne (by decide) (k_ne (by decide) (k_ne (by decide) (k_ne (by decide) e8))))))) dX12_readFormula_20 ?_
  refine lv_if_ne (tgt := 85) hx hb dX12_readFormula_23 (by decide) (fun _ => ?_) (fun c9 => absurd c9 (by decide))
  refine lv_aload_n hx hb dX12_readFormula_85 rfl (lv_at hl 0 rfl) ?_
  refine va_get (D := D) (ref := "IntegerHouseModel") (ci := 12) (v := .ref h10) (C := RX12) (T := TX12) (N := 195) hx hb hts hin12 hown hK hP 6 rfl rfl 68 (by decide) (hts (.fieldLink RX12 184 "IntegerHouseModel" "rootOf" "[I") (List.mem_cons_of_mem _ (List.mem_append_left _ (List.mem_append_left _ (List.mem_of_getElem? (i := 4) rfl))))) (fun _ h9 => h9) (k_ne (by decide) (k_ne (by decide) (k_ne (by decide) (k_ne (by decide) (k_ne (by decide) (k_ne (by decide) (k_ne (by decide) e21))))))) dX12_readFormula_86 ?_
  refine lv_aload_n hx hb dX12_readFormula_89 rfl (lv_at hl 0 rfl) ?_
  refine va_get (D := D) (ref := "IntegerHouseModel") (ci := 12) (v := .int 24) (C := RX12) (T := TX12) (N := 195) hx hb hts hin12 hown hK hP 6 rfl rfl 66 (by decide) (hts (.fieldLink RX12 630 "IntegerHouseModel" "slot" "I") (List.mem_cons_of_mem _ (List.mem_append_left _ (List.mem_append_left _ (List.mem_of_getElem? (i := 5) rfl))))) (fun _ h9 => h9) (k_ne (by decide) (k_ne (by decide) (k_ne (by decide) (k_ne (by decide) (k_ne (by decide) (k_ne (by decide) (k_ne (by decide) e15))))))) dX12_readFormula_90 ?_
  refine lv_aload_n hx hb dX12_readFormula_93 rfl (lv_at hl 0 rfl) ?_
  refine va_get (D := D) (ref := "IntegerHouseModel") (ci := 12) (v := .int 0) (C := RX12) (T := TX12) (N := 195) hx hb hts hin12 hown hK hP 6 rfl rfl 85 (by decide) (hts (.fieldLink RX12 660 "IntegerHouseModel" "current" "I") (List.mem_cons_of_mem _ (List.mem_append_left _ (List.mem_append_left _ (List.mem_of_getElem? (i := 6) rfl))))) (fun _ h9 => h9) (k_ne (by decide) (k_ne (by decide) (k_ne (by decide) (k_ne (by decide) (k_ne (by decide) (k_ne (by decide) (k_ne (by decide) e22))))))) dX12_readFormula_94 ?_
  refine va_iast hx hb hK hP hD hS 0 0 rfl rfl (k_in (by decide)) dX12_readFormula_97 (fun H locs hP hD hS => ?_)
  have hP : va_P D vwCl [(h10, .inl (cI, 26, .inl (upd g9 24 0))), (h1, .inl (cI, 14, .inl (upd g0 0 0))), (h2, .inl (cI, 14, .inl (upd g1 0 (-1)))), (h3, .inl (cI, 14, .inl (upd g2 0 (-1)))), (h4, .inl (cI, 14, .inl (upd g3 0 (-1)))), (h5, .inl (cI, 14, .inl (upd g4 0 0))), (h0, .inr (12, (((((((f0.set 76 (.int (-1))).set 83 (.int (-1))).set 76 (.int 0)).set 84 (.int 1)).set 31 (.int 1)).set 29 (.int 2)).set 30 (.int 0)))), (h6, .inl (cI, 2001, .inl g5)), (h7, .inl (cI, 2001, .inl g6)), (h8, .inl (cI, 26, .inl g7)), (h9, .inl (cI, 2001, .inl g8))] H := hP
  have hD : va_D A [(h10, .inl (cI, 26, .inl (upd g9 24 0))), (h1, .inl (cI, 14, .inl (upd g0 0 0))), (h2, .inl (cI, 14, .inl (upd g1 0 (-1)))), (h3, .inl (cI, 14, .inl (upd g2 0 (-1)))), (h4, .inl (cI, 14, .inl (upd g3 0 (-1)))), (h5, .inl (cI, 14, .inl (upd g4 0 0))), (h0, .inr (12, (((((((f0.set 76 (.int (-1))).set 83 (.int (-1))).set 76 (.int 0)).set 84 (.int 1)).set 31 (.int 1)).set 29 (.int 2)).set 30 (.int 0)))), (h6, .inl (cI, 2001, .inl g5)), (h7, .inl (cI, 2001, .inl g6)), (h8, .inl (cI, 26, .inl g7)), (h9, .inl (cI, 2001, .inl g8))] := hD
  refine lv_aload_n hx hb dX12_readFormula_98 rfl (lv_at hl 0 rfl) ?_
  refine va_get (D := D) (ref := "IntegerHouseModel") (ci := 12) (v := .int 0) (C := RX12) (T := TX12) (N := 195) hx hb hts hin12 hown hK hP 6 rfl rfl 85 (by decide) (hts (.fieldLink RX12 660 "IntegerHouseModel" "current" "I") (List.mem_cons_of_mem _ (List.mem_append_left _ (List.mem_append_left _ (List.mem_of_getElem? (i := 6) rfl))))) (fun _ h9 => h9) (k_ne (by decide) (k_ne (by decide) (k_ne (by decide) (k_ne (by decide) (k_ne (by decide) (k_ne (by decide) (k_ne (by decide) e22))))))) dX12_readFormula_99 ?_
  have hP := hP.sub (ws' := [(h0, .inr (12, (((((((f0.set 76 (.int (-1))).set 83 (.int (-1))).set 76 (.int 0)).set 84 (.int 1)).set 31 (.int 1)).set 29 (.int 2)).set 30 (.int 0)))), (h1, .inl (cI, 14, .inl (upd g0 0 0))), (h2, .inl (cI, 14, .inl (upd g1 0 (-1)))), (h3, .inl (cI, 14, .inl (upd g2 0 (-1)))), (h4, .inl (cI, 14, .inl (upd g3 0 (-1)))), (h5, .inl (cI, 14, .inl (upd g4 0 0))), (h6, .inl (cI, 2001, .inl g5)), (h7, .inl (cI, 2001, .inl g6)), (h8, .inl (cI, 26, .inl g7)), (h9, .inl (cI, 2001, .inl g8)), (h10, .inl (cI, 26, .inl (upd g9 24 0)))]) [6, 1, 2, 3, 4, 5, 7, 8, 9, 10, 0] rfl
  have hD := hD.sub (ws' := [(h0, .inr (12, (((((((f0.set 76 (.int (-1))).set 83 (.int (-1))).set 76 (.int 0)).set 84 (.int 1)).set 31 (.int 1)).set 29 (.int 2)).set 30 (.int 0)))), (h1, .inl (cI, 14, .inl (upd g0 0 0))), (h2, .inl (cI, 14, .inl (upd g1 0 (-1)))), (h3, .inl (cI, 14, .inl (upd g2 0 (-1)))), (h4, .inl (cI, 14, .inl (upd g3 0 (-1)))), (h5, .inl (cI, 14, .inl (upd g4 0 0))), (h6, .inl (cI, 2001, .inl g5)), (h7, .inl (cI, 2001, .inl g6)), (h8, .inl (cI, 26, .inl g7)), (h9, .inl (cI, 2001, .inl g8)), (h10, .inl (cI, 26, .inl (upd g9 24 0)))]) [6, 1, 2, 3, 4, 5, 7, 8, 9, 10, 0] (by decide +kernel) rfl
  exact W.iret (v := 0) hx hb hr (fun t ht hW => ⟨⟨0, (), rfl, rfl, kB_mk ht hW hP hK hD⟩, hS.F ht⟩) hS.2.2 dX12_readFormula_102
set_option maxHeartbeats 400000000 in
set_option maxRecDepth 100000 in
theorem c_X12_readsFormula_0 (l : Launch) (E : kE) (D : va_G) (cI cJ cB cZ : ClassId) (h0 : Nat) (f0 : List Value) (h1 : Nat) (h2 : Nat) (h3 : Nat) (h4 : Nat) (h5 : Nat) (g0 : Nat → Int32) (g1 : Nat → Int32) (g2 : Nat → Int32) (g3 : Nat → Int32) (g4 : Nat → Int32) (h6 : Nat) (h7 : Nat) (h8 : Nat) (h9 : Nat) (h10 : Nat) (h11 : Nat) (g5 : Nat → Int32) (h12 : Nat) (g6 : Nat → Int32) (h13 : Nat) (g7 : Nat → Int32) (h14 : Nat) (g8 : Nat → Int32) (g9 : Nat → Int32) (g10 : Nat → Int32) (g11 : Nat → Int32) (g12 : Nat → Int32) (g13 : Nat → Int32) (e0 : f0[28]? = some (.int 0)) (e1 : f0[66]? = some (.int 0)) (e2 : f0[67]? = some (.int 0)) (e3 : f0[40]? = some (.ref h1)) (e4 : f0[45]? = some (.ref h2)) (e5 : f0[56]? = some (.ref h3)) (e6 : f0[60]? = some (.ref h4)) (e7 : f0[65]? = some (.ref h5)) (e8 : f0[76]? = some (.int 0)) (e9 : f0[83]? = some (.int 0)) (e10 : f0[69]? = some (.ref h6)) (e11 : f0[70]? = some (.ref h7)) (e12 : f0[71]? = some (.ref h8)) (e13 : f0[73]? = some (.ref h9)) (e14 : f0[75]? = some (.ref h10)) (e15 : f0[84]? = some (.int 0)) (e16 : f0[31]? = some (.int 0)) (e17 : f0[25]? = some (.ref h11)) (e18 : g5 0 = 0) (e19 : f0[26]? = some (.ref h12)) (e20 : g6 0 = 0) (e21 : f0[29]? = some (.int 0)) (e22 : f0[23]? = some (.ref h13)) (e23 : g7 0 = 0) (e24 : f0[30]? = some (.int 0)) (e25 : f0[68]? = some (.ref h14)) (e26 : f0[85]? = some (.int 0)) : kI l E D (kT cI cJ cB cZ) yX12_readsFormula wsX12_readsFormula ({ frames := 4, cells := 0, slots := 0, locals := 86 }) [.ref h0] [(h0, .inr (12, f0)), (h1, .inl (cI, 26, .inl g0)), (h2, .inl (cI, 26, .inl g1)), (h3, .inl (cI, 26, .inl g2)), (h4, .inl (cI, 26, .inl g3)), (h5, .inl (cI, 26, .inl g4)), (h11, .inl (cI, 2001, .inl g5)), (h12, .inl (cI, 2001, .inl g6)), (h13, .inl (cI, 2001, .inl g7)), (h6, .inl (cI, 14, .inl g8)), (h7, .inl (cI, 14, .inl g9)), (h8, .inl (cI, 14, .inl g10)), (h9, .inl (cI, 14, .inl g11)), (h10, .inl (cI, 14, .inl g12)), (h14, .inl (cI, 26, .inl g13))] (0) [(h0, .inr (12, (((((((((f0.set 66 (.int 24)).set 67 (.int 0)).set 76 (.int (-1))).set 83 (.int (-1))).set 76 (.int 0)).set 84 (.int 1)).set 31 (.int 1)).set 29 (.int 2)).set 30 (.int 0)))), (h1, .inl (cI, 26, .inl (upd g0 24 0))), (h2, .inl (cI, 26, .inl (upd g1 24 0))), (h3, .inl (cI, 26, .inl (upd g2 24 0))), (h4, .inl (cI, 26, .inl (upd g3 24 0))), (h5, .inl (cI, 26, .inl (upd g4 24 0))), (h11, .inl (cI, 2001, .inl g5)), (h12, .inl (cI, 2001, .inl g6)), (h13, .inl (cI, 2001, .inl g7)), (h6, .inl (cI, 14, .inl (upd g8 0 0))), (h7, .inl (cI, 14, .inl (upd g9 0 (-1)))), (h8, .inl (cI, 14, .inl (upd g10 0 (-1)))), (h9, .inl (cI, 14, .inl (upd g11 0 (-1)))), (h10, .inl (cI, 14, .inl (upd g12 0 0))), (h14, .inl (cI, 26, .inl (upd g13 24 0)))] 0 0 := by
  intro sz
  refine Met.ofW (cc := cX12_readsFormula) (maxL := 3) (ret := (some .boolean)) (by decide) rfl ?_
  intro p e s m args below meth c s₁ B hml hv
  obtain ⟨rfl, hsz, hP, hK, hD0, hN, hX⟩ := hv
  have hx := B.exec
  have hb := B.bytes
  have hr := B.returns
  have hts := atoms_spec (ws := wsX12_readsFormula) B.pre
  have hown : s.vm.findClass RX12 = some m.cls := findClass_of_methodNamed B.named
  have hlocks := B.notSynchronized
  have hin12 : ∀ w ∈ wsX120, w ∈ wsX12_readsFormula := (fun w h => (List.mem_cons_of_mem _ (List.mem_append_right _ h)))
  subst hsz
  have hD := hD0.self (sz := s.heap.size)
  have hAE := k_AE hD0 hX
  generalize hAe : va_A [(h0, .inr (12, f0)), (h1, .inl (cI, 26, .inl g0)), (h2, .inl (cI, 26, .inl g1)), (h3, .inl (cI, 26, .inl g2)), (h4, .inl (cI, 26, .inl g3)), (h5, .inl (cI, 26, .inl g4)), (h11, .inl (cI, 2001, .inl g5)), (h12, .inl (cI, 2001, .inl g6)), (h13, .inl (cI, 2001, .inl g7)), (h6, .inl (cI, 14, .inl g8)), (h7, .inl (cI, 14, .inl g9)), (h8, .inl (cI, 14, .inl g10)), (h9, .inl (cI, 14, .inl g11)), (h10, .inl (cI, 14, .inl g12)), (h14, .inl (cI, 26, .inl g13))] s.heap.size = A at hD hAE ⊢
  have hA : ∀ q : Nat, s.heap.size ≤ q → A q := fun q h => by rw [← hAe]; exact Or.inr h
  have hS : va_S A s.heap s.heap [] := va_S.rf
  have hP : va_P D vwCl [(h0, .inr (12, f0)), (h1, .inl (cI, 26, .inl g0)), (h2, .inl (cI, 26, .inl g1)), (h3, .inl (cI, 26, .inl g2)), (h4, .inl (cI, 26, .inl g3)), (h5, .inl (cI, 26, .inl g4)), (h11, .inl (cI, 2001, .inl g5)), (h12, .inl (cI, 2001, .inl g6)), (h13, .inl (cI, 2001, .inl g7)), (h6, .inl (cI, 14, .inl g8)), (h7, .inl (cI, 14, .inl g9)), (h8, .inl (cI, 14, .inl g10)), (h9, .inl (cI, 14, .inl g11)), (h10, .inl (cI, 14, .inl g12)), (h14, .inl (cI, 26, .inl g13))] s.heap := hP
  have hl := lv_entry ([.ref h0] : List Value) (n := 3) (Nat.le_of_ble_eq_true rfl)
  rw [lg_entry_eq]
  generalize (lg_sl ([.ref h0]) ++ List.replicate (3 - (lg_sl ([.ref h0])).length) Slot.unset).toArray = ls at hl ⊢
  have hl : lv_has ls 3 [(0, .ref h0)] := hl
  refine lv_aload_n hx hb dX12_readsFormula_0 rfl (lv_at hl 0 rfl) ?_
  refine va_get (D := D) (ref := "IntegerHouseModel") (ci := 12) (v := .int 0) (C := RX12) (T := TX12) (N := 195) hx hb hts hin12 hown hK hP 0 rfl rfl 28 (by decide) (hts (.fieldLink RX12 597 "IntegerHouseModel" "now" "I") (List.mem_cons_of_mem _ (List.mem_append_left _ (List.mem_append_left _ (List.mem_of_getElem? (i := 0) rfl))))) (fun _ h9 => h9) e0 dX12_readsFormula_1 ?_
  refine lv_istore_n (lv' := [(1, .int 0), (0, .ref h0)]) hx hb dX12_readsFormula_4 rfl hl (by decide) rfl (fun ls hl => ?_)
  refine lv_aload_n hx hb dX12_readsFormula_5 rfl (lv_at hl 1 rfl) ?_
  refine lv_bipush (v := 24) hx hb dX12_readsFormula_6 (by decide) ?_
  refine k_cVv (As := [.int 24]) (rest := []) (wc := [(h0, .inr (12, f0)), (h1, .inl (cI, 26, .inl g0)), (h2, .inl (cI, 26, .inl g1)), (h3, .inl (cI, 26, .inl g2)), (h4, .inl (cI, 26, .inl g3)), (h5, .inl (cI, 26, .inl g4))]) (wr := [(h11, .inl (cI, 2001, .inl g5)), (h12, .inl (cI, 2001, .inl g6)), (h13, .inl (cI, 2001, .inl g7)), (h6, .inl (cI, 14, .inl g8)), (h7, .inl (cI, 14, .inl g9)), (h8, .inl (cI, 14, .inl g10)), (h9, .inl (cI, 14, .inl g11)), (h10, .inl (cI, 14, .inl g12)), (h14, .inl (cI, 26, .inl g13))]) (w1 := (fun _ : Unit => [(h0, .inr (12, ((f0.set 66 (.int 24)).set 67 (.int 0)))), (h1, .inl (cI, 26, .inl (upd g0 24 0))), (h2, .inl (cI, 26, .inl (upd g1 24 0))), (h3, .inl (cI, 26, .inl (upd g2 24 0))), (h4, .inl (cI, 26, .inl (upd g3 24 0))), (h5, .inl (cI, 26, .inl (upd g4 24 0)))])) ⟨hx, hb, hml, hown, hts⟩ hN hX hAE hK hP hD hS hA [0, 1, 2, 3, 4, 5] [6, 7, 8, 9, 10, 11, 12, 13, 14] (ci := 12) rfl rfl rfl rfl (by decide +kernel) (by decide +kernel) (by decide +kernel) (c_X12_beginSlot_0 l E D cI cJ cB cZ h0 f0 h1 g0 h2 g1 h3 g2 h4 g3 h5 g4 e1 e2 e3 e4 e5 e6 e7) (cwV 1 hts gX12_readsFormula_X12_beginSlot rfl rfl rfl (by decide +kernel) ⟨Nat.le_of_ble_eq_true rfl, Nat.le_of_ble_eq_true rfl⟩) rfl hl.1 (Nat.le_of_ble_eq_true rfl) dX12_readsFormula_8 ⟨Nat.le_of_ble_eq_true rfl, Nat.le_of_ble_eq_true rfl⟩ (fun _ H locs hP hD hS => ?_)
  have hP : va_P D vwCl [(h11, .inl (cI, 2001, .inl g5)), (h12, .inl (cI, 2001, .inl g6)), (h13, .inl (cI, 2001, .inl g7)), (h6, .inl (cI, 14, .inl g8)), (h7, .inl (cI, 14, .inl g9)), (h8, .inl (cI, 14, .inl g10)), (h9, .inl (cI, 14, .inl g11)), (h10, .inl (cI, 14, .inl g12)), (h14, .inl (cI, 26, .inl g13)), (h0, .inr (12, ((f0.set 66 (.int 24)).set 67 (.int 0)))), (h1, .inl (cI, 26, .inl (upd g0 24 0))), (h2, .inl (cI, 26, .inl (upd g1 24 0))), (h3, .inl (cI, 26, .inl (upd g2 24 0))), (h4, .inl (cI, 26, .inl (upd g3 24 0))), (h5, .inl (cI, 26, .inl (upd g4 24 0)))] H := hP
  have hD : va_D A [(h11, .inl (cI, 2001, .inl g5)), (h12, .inl (cI, 2001, .inl g6)), (h13, .inl (cI, 2001, .inl g7)), (h6, .inl (cI, 14, .inl g8)), (h7, .inl (cI, 14, .inl g9)), (h8, .inl (cI, 14, .inl g10)), (h9, .inl (cI, 14, .inl g11)), (h10, .inl (cI, 14, .inl g12)), (h14, .inl (cI, 26, .inl g13)), (h0, .inr (12, ((f0.set 66 (.int 24)).set 67 (.int 0)))), (h1, .inl (cI, 26, .inl (upd g0 24 0))), (h2, .inl (cI, 26, .inl (upd g1 24 0))), (h3, .inl (cI, 26, .inl (upd g2 24 0))), (h4, .inl (cI, 26, .inl (upd g3 24 0))), (h5, .inl (cI, 26, .inl (upd g4 24 0)))] := hD
  refine lv_aload_n hx hb dX12_readsFormula_11 rfl (lv_at hl 1 rfl) ?_
  refine k_cVi (As := []) (rest := []) (wc := [(h0, .inr (12, ((f0.set 66 (.int 24)).set 67 (.int 0)))), (h6, .inl (cI, 14, .inl g8)), (h7, .inl (cI, 14, .inl g9)), (h8, .inl (cI, 14, .inl g10)), (h9, .inl (cI, 14, .inl g11)), (h10, .inl (cI, 14, .inl g12)), (h11, .inl (cI, 2001, .inl g5)), (h12, .inl (cI, 2001, .inl g6)), (h1, .inl (cI, 26, .inl (upd g0 24 0))), (h13, .inl (cI, 2001, .inl g7)), (h14, .inl (cI, 26, .inl g13))]) (wr := [(h2, .inl (cI, 26, .inl (upd g1 24 0))), (h3, .inl (cI, 26, .inl (upd g2 24 0))), (h4, .inl (cI, 26, .inl (upd g3 24 0))), (h5, .inl (cI, 26, .inl (upd g4 24 0)))]) (w1 := [(h0, .inr (12, (((((((((f0.set 66 (.int 24)).set 67 (.int 0)).set 76 (.int (-1))).set 83 (.int (-1))).set 76 (.int 0)).set 84 (.int 1)).set 31 (.int 1)).set 29 (.int 2)).set 30 (.int 0)))), (h6, .inl (cI, 14, .inl (upd g8 0 0))), (h7, .inl (cI, 14, .inl (upd g9 0 (-1)))), (h8, .inl (cI, 14, .inl (upd g10 0 (-1)))), (h9, .inl (cI, 14, .inl (upd g11 0 (-1)))), (h10, .inl (cI, 14, .inl (upd g12 0 0))), (h11, .inl (cI, 2001, .inl g5)), (h12, .inl (cI, 2001, .inl g6)), (h1, .inl (cI, 26, .inl (upd g0 24 0))), (h13, .inl (cI, 2001, .inl g7)), (h14, .inl (cI, 26, .inl (upd g13 24 0)))]) ⟨hx, hb, hml, hown, hts⟩ hN hX hAE hK hP hD hS hA [9, 3, 4, 5, 6, 7, 0, 1, 10, 2, 8] [11, 12, 13, 14] (ci := 12) rfl rfl rfl rfl (by decide +kernel) (by decide +kernel) (by decide +kernel) (c_X12_readFormula_0 l E D cI cJ cB cZ h0 (((f0.set 66 (.int 24)).set 67 (.int 0))) h6 h7 h8 h9 h10 g8 g9 g10 g11 g12 h11 g5 h12 g6 h1 ((upd g0 24 0)) h13 g7 h14 g13 (k_ne (by decide) (k_ne (by decide) e8)) (k_ne (by decide) (k_ne (by decide) e9)) (k_ne (by decide) (k_ne (by decide) e10)) (k_ne (by decide) (k_ne (by decide) e11)) (k_ne (by decide) (k_ne (by decide) e12)) (k_ne (by decide) (k_ne (by decide) e13)) (k_ne (by decide) (k_ne (by decide) e14)) (k_ne (by decide) (k_ne (by decide) e15)) (k_ne (by decide) (k_ne (by decide) e16)) (k_ne (by decide) (k_ne (by decide) e17)) (k_ne (by decide) (k_ne (by decide) e0)) e18 (k_ne (by decide) (k_ne (by decide) e19)) e20 (k_ne (by decide) (k_ne (by decide) e3)) (k_ne (by decide) (k_set e1)) rfl (k_ne (by decide) (k_ne (by decide) e21)) (k_ne (by decide) (k_ne (by decide) e22)) e23 (k_ne (by decide) (k_ne (by decide) e24)) (k_ne (by decide) (k_ne (by decide) e25)) (k_ne (by decide) (k_ne (by decide) e26))) (cwV 0 hts gX12_readsFormula_X12_readFormula rfl rfl rfl (by decide +kernel) ⟨Nat.le_of_ble_eq_true rfl, Nat.le_of_ble_eq_true rfl⟩) rfl hl.1 (Nat.le_of_ble_eq_true rfl) dX12_readsFormula_12 ⟨Nat.le_of_ble_eq_true rfl, Nat.le_of_ble_eq_true rfl⟩ (fun H locs hP hD hS => ?_)
  have hP : va_P D vwCl [(h2, .inl (cI, 26, .inl (upd g1 24 0))), (h3, .inl (cI, 26, .inl (upd g2 24 0))), (h4, .inl (cI, 26, .inl (upd g3 24 0))), (h5, .inl (cI, 26, .inl (upd g4 24 0))), (h0, .inr (12, (((((((((f0.set 66 (.int 24)).set 67 (.int 0)).set 76 (.int (-1))).set 83 (.int (-1))).set 76 (.int 0)).set 84 (.int 1)).set 31 (.int 1)).set 29 (.int 2)).set 30 (.int 0)))), (h6, .inl (cI, 14, .inl (upd g8 0 0))), (h7, .inl (cI, 14, .inl (upd g9 0 (-1)))), (h8, .inl (cI, 14, .inl (upd g10 0 (-1)))), (h9, .inl (cI, 14, .inl (upd g11 0 (-1)))), (h10, .inl (cI, 14, .inl (upd g12 0 0))), (h11, .inl (cI, 2001, .inl g5)), (h12, .inl (cI, 2001, .inl g6)), (h1, .inl (cI, 26, .inl (upd g0 24 0))), (h13, .inl (cI, 2001, .inl g7)), (h14, .inl (cI, 26, .inl (upd g13 24 0)))] H := hP
  have hD : va_D A [(h2, .inl (cI, 26, .inl (upd g1 24 0))), (h3, .inl (cI, 26, .inl (upd g2 24 0))), (h4, .inl (cI, 26, .inl (upd g3 24 0))), (h5, .inl (cI, 26, .inl (upd g4 24 0))), (h0, .inr (12, (((((((((f0.set 66 (.int 24)).set 67 (.int 0)).set 76 (.int (-1))).set 83 (.int (-1))).set 76 (.int 0)).set 84 (.int 1)).set 31 (.int 1)).set 29 (.int 2)).set 30 (.int 0)))), (h6, .inl (cI, 14, .inl (upd g8 0 0))), (h7, .inl (cI, 14, .inl (upd g9 0 (-1)))), (h8, .inl (cI, 14, .inl (upd g10 0 (-1)))), (h9, .inl (cI, 14, .inl (upd g11 0 (-1)))), (h10, .inl (cI, 14, .inl (upd g12 0 0))), (h11, .inl (cI, 2001, .inl g5)), (h12, .inl (cI, 2001, .inl g6)), (h1, .inl (cI, 26, .inl (upd g0 24 0))), (h13, .inl (cI, 2001, .inl g7)), (h14, .inl (cI, 26, .inl (upd g13 24 0)))] := hD
  refine lv_istore_n (lv' := [(2, .int 0), (1, .int 0), (0, .ref h0)]) hx hb dX12_readsFormula_15 rfl hl (by decide) rfl (fun ls hl => ?_)
  refine lv_aload_n hx hb dX12_readsFormula_16 rfl (lv_at hl 2 rfl) ?_
  refine va_get (D := D) (ref := "IntegerHouseModel") (ci := 12) (v := .int 1) (C := RX12) (T := TX12) (N := 195) hx hb hts hin12 hown hK hP 4 rfl rfl 31 (by decide) (hts (.fieldLink RX12 562 "IntegerHouseModel" "faulty" "Z") (List.mem_cons_of_mem _ (List.mem_append_left _ (List.mem_append_left _ (List.mem_of_getElem? (i := 1) rfl))))) (fun _ h9 => h9) (k_ne (by decide) (k_ne (by decide) (k_set (k_ne (by decide) (k_ne (by decide) (k_ne (by decide) (k_ne (by decide) (k_ne (by decide) (k_ne (by decide) e16))))))))) dX12_readsFormula_17 ?_
  refine lv_if_ne (tgt := 39) hx hb dX12_readsFormula_20 (by decide) (fun _ => ?_) (fun c9 => absurd c9 (by decide))
  refine lv_aload_n hx hb dX12_readsFormula_39 rfl (lv_at hl 2 rfl) ?_
  refine va_get (D := D) (ref := "IntegerHouseModel") (ci := 12) (v := .int 1) (C := RX12) (T := TX12) (N := 195) hx hb hts hin12 hown hK hP 4 rfl rfl 31 (by decide) (hts (.fieldLink RX12 562 "IntegerHouseModel" "faulty" "Z") (List.mem_cons_of_mem _ (List.mem_append_left _ (List.mem_append_left _ (List.mem_of_getElem? (i := 1) rfl))))) (fun _ h9 => h9) (k_ne (by decide) (k_ne (by decide) (k_set (k_ne (by decide) (k_ne (by decide) (k_ne (by decide) (k_ne (by decide) (k_ne (by decide) (k_ne (by decide) e16))))))))) dX12_readsFormula_40 ?_
  refine lv_if_ne (tgt := 50) hx hb dX12_readsFormula_43 (by decide) (fun _ => ?_) (fun c9 => absurd c9 (by decide))
  refine lv_iconst (v := 0) hx hb dX12_readsFormula_50 (by decide) ?_
  have hP := hP.sub (ws' := [(h0, .inr (12, (((((((((f0.set 66 (.int 24)).set 67 (.int 0)).set 76 (.int (-1))).set 83 (.int (-1))).set 76 (.int 0)).set 84 (.int 1)).set 31 (.int 1)).set 29 (.int 2)).set 30 (.int 0)))), (h1, .inl (cI, 26, .inl (upd g0 24 0))), (h2, .inl (cI, 26, .inl (upd g1 24 0))), (h3, .inl (cI, 26, .inl (upd g2 24 0))), (h4, .inl (cI, 26, .inl (upd g3 24 0))), (h5, .inl (cI, 26, .inl (upd g4 24 0))), (h11, .inl (cI, 2001, .inl g5)), (h12, .inl (cI, 2001, .inl g6)), (h13, .inl (cI, 2001, .inl g7)), (h6, .inl (cI, 14, .inl (upd g8 0 0))), (h7, .inl (cI, 14, .inl (upd g9 0 (-1)))), (h8, .inl (cI, 14, .inl (upd g10 0 (-1)))), (h9, .inl (cI, 14, .inl (upd g11 0 (-1)))), (h10, .inl (cI, 14, .inl (upd g12 0 0))), (h14, .inl (cI, 26, .inl (upd g13 24 0)))]) [4, 12, 0, 1, 2, 3, 10, 11, 13, 5, 6, 7, 8, 9, 14] rfl
  have hD := hD.sub (ws' := [(h0, .inr (12, (((((((((f0.set 66 (.int 24)).set 67 (.int 0)).set 76 (.int (-1))).set 83 (.int (-1))).set 76 (.int 0)).set 84 (.int 1)).set 31 (.int 1)).set 29 (.int 2)).set 30 (.int 0)))), (h1, .inl (cI, 26, .inl (upd g0 24 0))), (h2, .inl (cI, 26, .inl (upd g1 24 0))), (h3, .inl (cI, 26, .inl (upd g2 24 0))), (h4, .inl (cI, 26, .inl (upd g3 24 0))), (h5, .inl (cI, 26, .inl (upd g4 24 0))), (h11, .inl (cI, 2001, .inl g5)), (h12, .inl (cI, 2001, .inl g6)), (h13, .inl (cI, 2001, .inl g7)), (h6, .inl (cI, 14, .inl (upd g8 0 0))), (h7, .inl (cI, 14, .inl (upd g9 0 (-1)))), (h8, .inl (cI, 14, .inl (upd g10 0 (-1)))), (h9, .inl (cI, 14, .inl (upd g11 0 (-1)))), (h10, .inl (cI, 14, .inl (upd g12 0 0))), (h14, .inl (cI, 26, .inl (upd g13 24 0)))]) [4, 12, 0, 1, 2, 3, 10, 11, 13, 5, 6, 7, 8, 9, 14] (by decide +kernel) rfl
  exact W.zret (v := 0) hx hb hr rfl (fun t ht hW => ⟨⟨0, (), rfl, rfl, kB_mk ht hW hP hK hD⟩, hS.F ht⟩) hS.2.2 dX12_readsFormula_51
set_option maxHeartbeats 400000000 in
set_option maxRecDepth 100000 in
theorem c_X12_follows_0 (l : Launch) (E : kE) (D : va_G) (cI cJ cB cZ : ClassId) (h0 : Nat) (f0 : List Value) (h1 : Nat) (h2 : Nat) (h3 : Nat) (h4 : Nat) (g0 : Nat → Int32) (g1 : Nat → Int32) (g2 : Nat → Int32) (g3 : Nat → Int32) (h5 : Nat) (h6 : Nat) (h7 : Nat) (h8 : Nat) (h9 : Nat) (h10 : Nat) (h11 : Nat) (h12 : Nat) (h13 : Nat) (h14 : Nat) (h15 : Nat) (g4 : Nat → Int32) (g5 : Nat → Int32) (g6 : Nat → Int32) (g7 : Nat → Int32) (g8 : Nat → Int32) (g9 : Nat → Int32) (g10 : Nat → Int32) (g11 : Nat → Int32) (g12 : Nat → Int32) (g13 : Nat → Int32) (g14 : Nat → Int32) (e0 : f0[0]? = some (.int 0)) (e1 : f0[5]? = some (.int 0)) (e2 : f0[2]? = some (.int 0)) (e3 : f0[12]? = some (.int 0)) (e4 : f0[32]? = some (.int 0)) (e5 : f0[36]? = some (.int 0)) (e6 : f0[33]? = some (.int 0)) (e7 : f0[37]? = some (.int 0)) (e8 : f0[27]? = some (.int 0)) (e9 : f0[31]? = some (.int 0)) (e10 : f0[28]? = some (.int 0)) (e11 : f0[23]? = some (.ref h1)) (e12 : f0[24]? = some (.ref h2)) (e13 : f0[25]? = some (.ref h3)) (e14 : f0[26]? = some (.ref h4)) (e15 : f0[66]? = some (.int 0)) (e16 : f0[67]? = some (.int 0)) (e17 : f0[40]? = some (.ref h5)) (e18 : f0[45]? = some (.ref h6)) (e19 : f0[56]? = some (.ref h7)) (e20 : f0[60]? = some (.ref h8)) (e21 : f0[65]? = some (.ref h9)) (e22 : f0[76]? = some (.int 0)) (e23 : f0[83]? = some (.int 0)) (e24 : f0[69]? = some (.ref h10)) (e25 : f0[70]? = some (.ref h11)) (e26 : f0[71]? = some (.ref h12)) (e27 : f0[73]? = some (.ref h13)) (e28 : f0[75]? = some (.ref h14)) (e29 : f0[84]? = some (.int 0)) (e30 : f0[29]? = some (.int 0)) (e31 : f0[30]? = some (.int 0)) (e32 : f0[68]? = some (.ref h15)) (e33 : f0[85]? = some (.int 0)) (e34 : f0[13]? = some (.int 0)) (e35 : f0[109]? = some (.int 0)) : kI l E D (kT cI cJ cB cZ) yX12_follows wsX12_follows ({ frames := 5, cells := 0, slots := 0, locals := 108 }) [.ref h0] [(h0, .inr (12, f0)), (h1, .inl (cI, 2001, .inl g0)), (h2, .inl (cI, 2001, .inl g1)), (h3, .inl (cI, 2001, .inl g2)), (h4, .inl (cI, 2001, .inl g3)), (h5, .inl (cI, 26, .inl g4)), (h6, .inl (cI, 26, .inl g5)), (h7, .inl (cI, 26, .inl g6)), (h8, .inl (cI, 26, .inl g7)), (h9, .inl (cI, 26, .inl g8)), (h10, .inl (cI, 14, .inl g9)), (h11, .inl (cI, 14, .inl g10)), (h12, .inl (cI, 14, .inl g11)), (h13, .inl (cI, 14, .inl g12)), (h14, .inl (cI, 14, .inl g13)), (h15, .inl (cI, 26, .inl g14))] ((-1000)) [(h0, .inr (12, ((((((((((((((((((f0.set 0 (.int 0)).set 12 (.int 0)).set 2 (.int 0)).set 36 (.int 0)).set 37 (.int 0)).set 27 (.int 0)).set 31 (.int 0)).set 28 (.int 0)).set 66 (.int 24)).set 67 (.int 0)).set 76 (.int (-1))).set 83 (.int (-1))).set 76 (.int 0)).set 84 (.int 1)).set 31 (.int 1)).set 29 (.int 2)).set 30 (.int 0)).set 109 (.int 2)))), (h1, .inl (cI, 2001, .inl (upd g0 0 0))), (h2, .inl (cI, 2001, .inl (upd g1 0 0))), (h3, .inl (cI, 2001, .inl (upd g2 0 0))), (h4, .inl (cI, 2001, .inl (upd g3 0 0))), (h5, .inl (cI, 26, .inl (upd g4 24 0))), (h6, .inl (cI, 26, .inl (upd g5 24 0))), (h7, .inl (cI, 26, .inl (upd g6 24 0))), (h8, .inl (cI, 26, .inl (upd g7 24 0))), (h9, .inl (cI, 26, .inl (upd g8 24 0))), (h10, .inl (cI, 14, .inl (upd g9 0 0))), (h11, .inl (cI, 14, .inl (upd g10 0 (-1)))), (h12, .inl (cI, 14, .inl (upd g11 0 (-1)))), (h13, .inl (cI, 14, .inl (upd g12 0 (-1)))), (h14, .inl (cI, 14, .inl (upd g13 0 0))), (h15, .inl (cI, 26, .inl (upd g14 24 0)))] 0 0 := by
  intro sz
  refine Met.ofW (cc := cX12_follows) (maxL := 1) (ret := (some .int)) (by decide) rfl ?_
  intro p e s m args below meth c s₁ B hml hv
  obtain ⟨rfl, hsz, hP, hK, hD0, hN, hX⟩ := hv
  have hx := B.exec
  have hb := B.bytes
  have hr := B.returns
  have hts := atoms_spec (ws := wsX12_follows) B.pre
  have hown : s.vm.findClass RX12 = some m.cls := findClass_of_methodNamed B.named
  have hlocks := B.notSynchronized
  subst hsz
  have hD := hD0.self (sz := s.heap.size)
  have hAE := k_AE hD0 hX
  generalize hAe : va_A [(h0, .inr (12, f0)), (h1, .inl (cI, 2001, .inl g0)), (h2, .inl (cI, 2001, .inl g1)), (h3, .inl (cI, 2001, .inl g2)), (h4, .inl (cI, 2001, .inl g3)), (h5, .inl (cI, 26, .inl g4)), (h6, .inl (cI, 26, .inl g5)), (h7, .inl (cI, 26, .inl g6)), (h8, .inl (cI, 26, .inl g7)), (h9, .inl (cI, 26, .inl g8)), (h10, .inl (cI, 14, .inl g9)), (h11, .inl (cI, 14, .inl g10)), (h12, .inl (cI, 14, .inl g11)), (h13, .inl (cI, 14, .inl g12)), (h14, .inl (cI, 14, .inl g13)), (h15, .inl (cI, 26, .inl g14))] s.heap.size = A at hD hAE ⊢
  have hA : ∀ q : Nat, s.heap.size ≤ q → A q := fun q h => by rw [← hAe]; exact Or.inr h
  have hS : va_S A s.heap s.heap [] := va_S.rf
  have hP : va_P D vwCl [(h0, .inr (12, f0)), (h1, .inl (cI, 2001, .inl g0)), (h2, .inl (cI, 2001, .inl g1)), (h3, .inl (cI, 2001, .inl g2)), (h4, .inl (cI, 2001, .inl g3)), (h5, .inl (cI, 26, .inl g4)), (h6, .inl (cI, 26, .inl g5)), (h7, .inl (cI, 26, .inl g6)), (h8, .inl (cI, 26, .inl g7)), (h9, .inl (cI, 26, .inl g8)), (h10, .inl (cI, 14, .inl g9)), (h11, .inl (cI, 14, .inl g10)), (h12, .inl (cI, 14, .inl g11)), (h13, .inl (cI, 14, .inl g12)), (h14, .inl (cI, 14, .inl g13)), (h15, .inl (cI, 26, .inl g14))] s.heap := hP
  have hl := lv_entry ([.ref h0] : List Value) (n := 1) (Nat.le_of_ble_eq_true rfl)
  rw [lg_entry_eq]
  generalize (lg_sl ([.ref h0]) ++ List.replicate (1 - (lg_sl ([.ref h0])).length) Slot.unset).toArray = ls at hl ⊢
  have hl : lv_has ls 1 [(0, .ref h0)] := hl
  refine lv_aload_n hx hb dX12_follows_0 rfl (lv_at hl 0 rfl) ?_
  refine k_cVi (As := []) (rest := []) (wc := [(h0, .inr (12, f0))]) (wr := [(h1, .inl (cI, 2001, .inl g0)), (h2, .inl (cI, 2001, .inl g1)), (h3, .inl (cI, 2001, .inl g2)), (h4, .inl (cI, 2001, .inl g3)), (h5, .inl (cI, 26, .inl g4)), (h6, .inl (cI, 26, .inl g5)), (h7, .inl (cI, 26, .inl g6)), (h8, .inl (cI, 26, .inl g7)), (h9, .inl (cI, 26, .inl g8)), (h10, .inl (cI, 14, .inl g9)), (h11, .inl (cI, 14, .inl g10)), (h12, .inl (cI, 14, .inl g11)), (h13, .inl (cI, 14, .inl g12)), (h14, .inl (cI, 14, .inl g13)), (h15, .inl (cI, 26, .inl g14))]) (w1 := [(h0, .inr (12, (f0.set 0 (.int 0))))]) ⟨hx, hb, hml, hown, hts⟩ hN hX hAE hK hP hD hS hA [0] [1, 2, 3, 4, 5, 6, 7, 8, 9, 10, 11, 12, 13, 14, 15] (ci := 12) rfl rfl rfl rfl (by decide +kernel) (by decide +kernel) (by decide +kernel) (c_X12_asks_0 l E D cI cJ cB cZ h0 f0 e0 e1) (cwV 0 hts gX12_follows_X12_asks rfl rfl rfl (by decide +kernel) ⟨Nat.le_of_ble_eq_true rfl, Nat.le_of_ble_eq_true rfl⟩) rfl hl.1 (Nat.le_of_ble_eq_true rfl) dX12_follows_1 ⟨Nat.le_of_ble_eq_true rfl, Nat.le_of_ble_eq_true rfl⟩ (fun H locs hP hD hS => ?_)
  have hP : va_P D vwCl [(h1, .inl (cI, 2001, .inl g0)), (h2, .inl (cI, 2001, .inl g1)), (h3, .inl (cI, 2001, .inl g2)), (h4, .inl (cI, 2001, .inl g3)), (h5, .inl (cI, 26, .inl g4)), (h6, .inl (cI, 26, .inl g5)), (h7, .inl (cI, 26, .inl g6)), (h8, .inl (cI, 26, .inl g7)), (h9, .inl (cI, 26, .inl g8)), (h10, .inl (cI, 14, .inl g9)), (h11, .inl (cI, 14, .inl g10)), (h12, .inl (cI, 14, .inl g11)), (h13, .inl (cI, 14, .inl g12)), (h14, .inl (cI, 14, .inl g13)), (h15, .inl (cI, 26, .inl g14)), (h0, .inr (12, (f0.set 0 (.int 0))))] H := hP
  have hD : va_D A [(h1, .inl (cI, 2001, .inl g0)), (h2, .inl (cI, 2001, .inl g1)), (h3, .inl (cI, 2001, .inl g2)), (h4, .inl (cI, 2001, .inl g3)), (h5, .inl (cI, 26, .inl g4)), (h6, .inl (cI, 26, .inl g5)), (h7, .inl (cI, 26, .inl g6)), (h8, .inl (cI, 26, .inl g7)), (h9, .inl (cI, 26, .inl g8)), (h10, .inl (cI, 14, .inl g9)), (h11, .inl (cI, 14, .inl g10)), (h12, .inl (cI, 14, .inl g11)), (h13, .inl (cI, 14, .inl g12)), (h14, .inl (cI, 14, .inl g13)), (h15, .inl (cI, 26, .inl g14)), (h0, .inr (12, (f0.set 0 (.int 0))))] := hD
  refine lv_if_ne (tgt := 10) hx hb dX12_follows_4 (by decide) (fun _ => ?_) (fun c9 => absurd c9 (by decide))
  refine lv_aload_n hx hb dX12_follows_10 rfl (lv_at hl 0 rfl) ?_
  refine k_cVv (As := []) (rest := []) (wc := [(h0, .inr (12, (f0.set 0 (.int 0)))), (h1, .inl (cI, 2001, .inl g0)), (h2, .inl (cI, 2001, .inl g1)), (h3, .inl (cI, 2001, .inl g2)), (h4, .inl (cI, 2001, .inl g3))]) (wr := [(h5, .inl (cI, 26, .inl g4)), (h6, .inl (cI, 26, .inl g5)), (h7, .inl (cI, 26, .inl g6)), (h8, .inl (cI, 26, .inl g7)), (h9, .inl (cI, 26, .inl g8)), (h10, .inl (cI, 14, .inl g9)), (h11, .inl (cI, 14, .inl g10)), (h12, .inl (cI, 14, .inl g11)), (h13, .inl (cI, 14, .inl g12)), (h14, .inl (cI, 14, .inl g13)), (h15, .inl (cI, 26, .inl g14))]) (w1 := (fun _ : Unit => [(h0, .inr (12, ((((((((f0.set 0 (.int 0)).set 12 (.int 0)).set 2 (.int 0)).set 36 (.int 0)).set 37 (.int 0)).set 27 (.int 0)).set 31 (.int 0)).set 28 (.int 0)))), (h1, .inl (cI, 2001, .inl (upd g0 0 0))), (h2, .inl (cI, 2001, .inl (upd g1 0 0))), (h3, .inl (cI, 2001, .inl (upd g2 0 0))), (h4, .inl (cI, 2001, .inl (upd g3 0 0)))])) ⟨hx, hb, hml, hown, hts⟩ hN hX hAE hK hP hD hS hA [15, 0, 1, 2, 3] [4, 5, 6, 7, 8, 9, 10, 11, 12, 13, 14] (ci := 12) rfl rfl rfl rfl (by decide +kernel) (by decide +kernel) (by decide +kernel) (c_X12_begin_0 l E D cI cJ cB cZ h0 ((f0.set 0 (.int 0))) h1 h2 h3 h4 g0 g1 g2 g3 (k_ne (by decide) e2) (k_ne (by decide) e3) (k_ne (by decide) e4) (k_ne (by decide) e5) (k_ne (by decide) e6) (k_ne (by decide) e7) (k_ne (by decide) e8) (k_ne (by decide) e9) (k_ne (by decide) e10) (k_ne (by decide) e11) (k_ne (by decide) e12) (k_ne (by decide) e13) (k_ne (by decide) e14)) (cwV 0 hts gX12_follows_X12_begin rfl rfl rfl (by decide +kernel) ⟨Nat.le_of_ble_eq_true rfl, Nat.le_of_ble_eq_true rfl⟩) rfl hl.1 (Nat.le_of_ble_eq_true rfl) dX12_follows_11 ⟨Nat.le_of_ble_eq_true rfl, Nat.le_of_ble_eq_true rfl⟩ (fun _ H locs hP hD hS => ?_)
  have hP : va_P D vwCl [(h5, .inl (cI, 26, .inl g4)), (h6, .inl (cI, 26, .inl g5)), (h7, .inl (cI, 26, .inl g6)), (h8, .inl (cI, 26, .inl g7)), (h9, .inl (cI, 26, .inl g8)), (h10, .inl (cI, 14, .inl g9)), (h11, .inl (cI, 14, .inl g10)), (h12, .inl (cI, 14, .inl g11)), (h13, .inl (cI, 14, .inl g12)), (h14, .inl (cI, 14, .inl g13)), (h15, .inl (cI, 26, .inl g14)), (h0, .inr (12, ((((((((f0.set 0 (.int 0)).set 12 (.int 0)).set 2 (.int 0)).set 36 (.int 0)).set 37 (.int 0)).set 27 (.int 0)).set 31 (.int 0)).set 28 (.int 0)))), (h1, .inl (cI, 2001, .inl (upd g0 0 0))), (h2, .inl (cI, 2001, .inl (upd g1 0 0))), (h3, .inl (cI, 2001, .inl (upd g2 0 0))), (h4, .inl (cI, 2001, .inl (upd g3 0 0)))] H := hP
  have hD : va_D A [(h5, .inl (cI, 26, .inl g4)), (h6, .inl (cI, 26, .inl g5)), (h7, .inl (cI, 26, .inl g6)), (h8, .inl (cI, 26, .inl g7)), (h9, .inl (cI, 26, .inl g8)), (h10, .inl (cI, 14, .inl g9)), (h11, .inl (cI, 14, .inl g10)), (h12, .inl (cI, 14, .inl g11)), (h13, .inl (cI, 14, .inl g12)), (h14, .inl (cI, 14, .inl g13)), (h15, .inl (cI, 26, .inl g14)), (h0, .inr (12, ((((((((f0.set 0 (.int 0)).set 12 (.int 0)).set 2 (.int 0)).set 36 (.int 0)).set 37 (.int 0)).set 27 (.int 0)).set 31 (.int 0)).set 28 (.int 0)))), (h1, .inl (cI, 2001, .inl (upd g0 0 0))), (h2, .inl (cI, 2001, .inl (upd g1 0 0))), (h3, .inl (cI, 2001, .inl (upd g2 0 0))), (h4, .inl (cI, 2001, .inl (upd g3 0 0)))] := hD
  refine lv_aload_n hx hb dX12_follows_14 rfl (lv_at hl 0 rfl) ?_
  refine k_cVi (As := []) (rest := []) (wc := [(h0, .inr (12, ((((((((f0.set 0 (.int 0)).set 12 (.int 0)).set 2 (.int 0)).set 36 (.int 0)).set 37 (.int 0)).set 27 (.int 0)).set 31 (.int 0)).set 28 (.int 0)))), (h5, .inl (cI, 26, .inl g4)), (h6, .inl (cI, 26, .inl g5)), (h7, .inl (cI, 26, .inl g6)), (h8, .inl (cI, 26, .inl g7)), (h9, .inl (cI, 26, .inl g8)), (h3, .inl (cI, 2001, .inl (upd g2 0 0))), (h4, .inl (cI, 2001, .inl (upd g3 0 0))), (h1, .inl (cI, 2001, .inl (upd g0 0 0))), (h10, .inl (cI, 14, .inl g9)), (h11, .inl (cI, 14, .inl g10)), (h12, .inl (cI, 14, .inl g11)), (h13, .inl (cI, 14, .inl g12)), (h14, .inl (cI, 14, .inl g13)), (h15, .inl (cI, 26, .inl g14))]) (wr := [(h2, .inl (cI, 2001, .inl (upd g1 0 0)))]) (w1 := [(h0, .inr (12, (((((((((((((((((f0.set 0 (.int 0)).set 12 (.int 0)).set 2 (.int 0)).set 36 (.int 0)).set 37 (.int 0)).set 27 (.int 0)).set 31 (.int 0)).set 28 (.int 0)).set 66 (.int 24)).set 67 (.int 0)).set 76 (.int (-1))).set 83 (.int (-1))).set 76 (.int 0)).set 84 (.int 1)).set 31 (.int 1)).set 29 (.int 2)).set 30 (.int 0)))), (h5, .inl (cI, 26, .inl (upd g4 24 0))), (h6, .inl (cI, 26, .inl (upd g5 24 0))), (h7, .inl (cI, 26, .inl (upd g6 24 0))), (h8, .inl (cI, 26, .inl (upd g7 24 0))), (h9, .inl (cI, 26, .inl (upd g8 24 0))), (h3, .inl (cI, 2001, .inl (upd g2 0 0))), (h4, .inl (cI, 2001, .inl (upd g3 0 0))), (h1, .inl (cI, 2001, .inl (upd g0 0 0))), (h10, .inl (cI, 14, .inl (upd g9 0 0))), (h11, .inl (cI, 14, .inl (upd g10 0 (-1)))), (h12, .inl (cI, 14, .inl (upd g11 0 (-1)))), (h13, .inl (cI, 14, .inl (upd g12 0 (-1)))), (h14, .inl (cI, 14, .inl (upd g13 0 0))), (h15, .inl (cI, 26, .inl (upd g14 24 0)))]) ⟨hx, hb, hml, hown, hts⟩ hN hX hAE hK hP hD hS hA [11, 0, 1, 2, 3, 4, 14, 15, 12, 5, 6, 7, 8, 9, 10] [13] (ci := 12) rfl rfl rfl rfl (by decide +kernel) (by decide +kernel) (by decide +kernel) (c_X12_readsFormula_0 l E D cI cJ cB cZ h0 (((((((((f0.set 0 (.int 0)).set 12 (.int 0)).set 2 (.int 0)).set 36 (.int 0)).set 37 (.int 0)).set 27 (.int 0)).set 31 (.int 0)).set 28 (.int 0))) h5 h6 h7 h8 h9 g4 g5 g6 g7 g8 h10 h11 h12 h13 h14 h3 ((upd g2 0 0)) h4 ((upd g3 0 0)) h1 ((upd g0 0 0)) h15 g9 g10 g11 g12 g13 g14 (k_set (k_ne (by decide) (k_ne (by decide) (k_ne (by decide) (k_ne (by decide) (k_ne (by decide) (k_ne (by decide) (k_ne (by decide) e10)))))))) (k_ne (by decide) (k_ne (by decide) (k_ne (by decide) (k_ne (by decide) (k_ne (by decide) (k_ne (by decide) (k_ne (by decide) (k_ne (by decide) e15)))))))) (k_ne (by decide) (k_ne (by decide) (k_ne (by decide) (k_ne (by decide) (k_ne (by decide) (k_ne (by decide) (k_ne (by decide) (k_ne (by decide) e16)))))))) (k_ne (by decide) (k_ne (by decide) (k_ne (by decide) (k_ne (by decide) (k_ne (by decide) (k_ne (by decide) (k_ne (by decide) (k_ne (by decide) e17)))))))) (k_ne (by decide) (k_ne (by decide) (k_ne (by decide) (k_ne (by decide) (k_ne (by decide) (k_ne (by decide) (k_ne (by decide) (k_ne (by decide) e18)))))))) (k_ne (by decide) (k_ne (by decide) (k_ne (by decide) (k_ne (by decide) (k_ne (by decide) (k_ne (by decide) (k_ne (by decide) (k_ne (by decide) e19)))))))) (k_ne (by decide) (k_ne (by decide) (k_ne (by decide) (k_ne (by decide) (k_ne (by decide) (k_ne (by decide) (k_ne (by decide) (k_ne (by decide) e20)))))))) (k_ne (by decide) (k_ne (by decide) (k_ne (by decide) (k_ne (by decide) (k_ne (by decide) (k_ne (by decide) (k_ne (by decide) (k_ne (by decide) e21)))))))) (k_ne (by decide) (k_ne (by decide) (k_ne (by decide) (k_ne (by decide) (k_ne (by decide) (k_ne (by decide) (k_ne (by decide) (k_ne (by decide) e22)))))))) (k_ne (by decide) (k_ne (by decide) (k_ne (by decide) (k_ne (by decide) (k_ne (by decide) (k_ne (by decide) (k_ne (by decide) (k_ne (by decide) e23)))))))) (k_ne (by decide) (k_ne (by decide) (k_ne (by decide) (k_ne (by decide) (k_ne (by decide) (k_ne (by decide) (k_ne (by decide) (k_ne (by decide) e24)))))))) (k_ne (by decide) (k_ne (by decide) (k_ne (by decide) (k_ne (by decide) (k_ne (by decide) (k_ne (by decide) (k_ne (by decide) (k_ne (by decide) e25)))))))) (k_ne (by decide) (k_ne (by decide) (k_ne (by decide) (k_ne (by decide) (k_ne (by decide) (k_ne (by decide) (k_ne (by decide) (k_ne (by decide) e26)))))))) (k_ne (by decide) (k_ne (by decide) (k_ne (by decide) (k_ne (by decide) (k_ne (by decide) (k_ne (by decide) (k_ne (by decide) (k_ne (by decide) e27)))))))) (k_ne (by decide) (k_ne (by decide) (k_ne (by decide) (k_ne (by decide) (k_ne (by decide) (k_ne (by decide) (k_ne (by decide) (k_ne (by decide) e28)))))))) (k_ne (by decide) (k_ne (by decide) (k_ne (by decide) (k_ne (by decide) (k_ne (by decide) (k_ne (by decide) (k_ne (by decide) (k_ne (by decide) e29)))))))) (k_ne (by decide) (k_set (k_ne (by decide) (k_ne (by decide) (k_ne (by decide) (k_ne (by decide) (k_ne (by decide) (k_ne (by decide) e9)))))))) (k_ne (by decide) (k_ne (by decide) (k_ne (by decide) (k_ne (by decide) (k_ne (by decide) (k_ne (by decide) (k_ne (by decide) (k_ne (by decide) e13)))))))) rfl (k_ne (by decide) (k_ne (by decide) (k_ne (by decide) (k_ne (by decide) (k_ne (by decide) (k_ne (by decide) (k_ne (by decide) (k_ne (by decide) e14)))))))) rfl (k_ne (by decide) (k_ne (by decide) (k_ne (by decide) (k_ne (by decide) (k_ne (by decide) (k_ne (by decide) (k_ne (by decide) (k_ne (by decide) e30)))))))) (k_ne (by decide) (k_ne (by decide) (k_ne (by decide) (k_ne (by decide) (k_ne (by decide) (k_ne (by decide) (k_ne (by decide) (k_ne (by decide) e11)))))))) rfl (k_ne (by decide) (k_ne (by decide) (k_ne (by decide) (k_ne (by decide) (k_ne (by decide) (k_ne (by decide) (k_ne (by decide) (k_ne (by decide) e31)))))))) (k_ne (by decide) (k_ne (by decide) (k_ne (by decide) (k_ne (by decide) (k_ne (by decide) (k_ne (by decide) (k_ne (by decide) (k_ne (by decide) e32)))))))) (k_ne (by decide) (k_ne (by decide) (k_ne (by decide) (k_ne (by decide) (k_ne (by decide) (k_ne (by decide) (k_ne (by decide) (k_ne (by decide) e33))))))))) (cwV 0 hts gX12_follows_X12_readsFormula rfl rfl rfl (by decide +kernel) ⟨Nat.le_of_ble_eq_true rfl, Nat.le_of_ble_eq_true rfl⟩) rfl hl.1 (Nat.le_of_ble_eq_true rfl) dX12_follows_15 ⟨Nat.le_of_ble_eq_true rfl, Nat.le_of_ble_eq_true rfl⟩ (fun H locs hP hD hS => ?_)
  have hP : va_P D vwCl [(h2, .inl (cI, 2001, .inl (upd g1 0 0))), (h0, .inr (12, (((((((((((((((((f0.set 0 (.int 0)).set 12 (.int 0)).set 2 (.int 0)).set 36 (.int 0)).set 37 (.int 0)).set 27 (.int 0)).set 31 (.int 0)).set 28 (.int 0)).set 66 (.int 24)).set 67 (.int 0)).set 76 (.int (-1))).set 83 (.int (-1))).set 76 (.int 0)).set 84 (.int 1)).set 31 (.int 1)).set 29 (.int 2)).set 30 (.int 0)))), (h5, .inl (cI, 26, .inl (upd g4 24 0))), (h6, .inl (cI, 26, .inl (upd g5 24 0))), (h7, .inl (cI, 26, .inl (upd g6 24 0))), (h8, .inl (cI, 26, .inl (upd g7 24 0))), (h9, .inl (cI, 26, .inl (upd g8 24 0))), (h3, .inl (cI, 2001, .inl (upd g2 0 0))), (h4, .inl (cI, 2001, .inl (upd g3 0 0))), (h1, .inl (cI, 2001, .inl (upd g0 0 0))), (h10, .inl (cI, 14, .inl (upd g9 0 0))), (h11, .inl (cI, 14, .inl (upd g10 0 (-1)))), (h12, .inl (cI, 14, .inl (upd g11 0 (-1)))), (h13, .inl (cI, 14, .inl (upd g12 0 (-1)))), (h14, .inl (cI, 14, .inl (upd g13 0 0))), (h15, .inl (cI, 26, .inl (upd g14 24 0)))] H := hP
  have hD : va_D A [(h2, .inl (cI, 2001, .inl (upd g1 0 0))), (h0, .inr (12, (((((((((((((((((f0.set 0 (.int 0)).set 12 (.int 0)).set 2 (.int 0)).set 36 (.int 0)).set 37 (.int 0)).set 27 (.int 0)).set 31 (.int 0)).set 28 (.int 0)).set 66 (.int 24)).set 67 (.int 0)).set 76 (.int (-1))).set 83 (.int (-1))).set 76 (.int 0)).set 84 (.int 1)).set 31 (.int 1)).set 29 (.int 2)).set 30 (.int 0)))), (h5, .inl (cI, 26, .inl (upd g4 24 0))), (h6, .inl (cI, 26, .inl (upd g5 24 0))), (h7, .inl (cI, 26, .inl (upd g6 24 0))), (h8, .inl (cI, 26, .inl (upd g7 24 0))), (h9, .inl (cI, 26, .inl (upd g8 24 0))), (h3, .inl (cI, 2001, .inl (upd g2 0 0))), (h4, .inl (cI, 2001, .inl (upd g3 0 0))), (h1, .inl (cI, 2001, .inl (upd g0 0 0))), (h10, .inl (cI, 14, .inl (upd g9 0 0))), (h11, .inl (cI, 14, .inl (upd g10 0 (-1)))), (h12, .inl (cI, 14, .inl (upd g11 0 (-1)))), (h13, .inl (cI, 14, .inl (upd g12 0 (-1)))), (h14, .inl (cI, 14, .inl (upd g13 0 0))), (h15, .inl (cI, 26, .inl (upd g14 24 0)))] := hD
  refine lv_if_eq (tgt := 29) hx hb dX12_follows_18 (by decide) (fun _ => ?_) (fun c9 => absurd (by decide) c9)
  refine lv_aload_n hx hb dX12_follows_29 rfl (lv_at hl 0 rfl) ?_
  refine k_cVi (As := []) (rest := []) (wc := [(h0, .inr (12, (((((((((((((((((f0.set 0 (.int 0)).set 12 (.int 0)).set 2 (.int 0)).set 36 (.int 0)).set 37 (.int 0)).set 27 (.int 0)).set 31 (.int 0)).set 28 (.int 0)).set 66 (.int 24)).set 67 (.int 0)).set 76 (.int (-1))).set 83 (.int (-1))).set 76 (.int 0)).set 84 (.int 1)).set 31 (.int 1)).set 29 (.int 2)).set 30 (.int 0))))]) (wr := [(h2, .inl (cI, 2001, .inl (upd g1 0 0))), (h5, .inl (cI, 26, .inl (upd g4 24 0))), (h6, .inl (cI, 26, .inl (upd g5 24 0))), (h7, .inl (cI, 26, .inl (upd g6 24 0))), (h8, .inl (cI, 26, .inl (upd g7 24 0))), (h9, .inl (cI, 26, .inl (upd g8 24 0))), (h3, .inl (cI, 2001, .inl (upd g2 0 0))), (h4, .inl (cI, 2001, .inl (upd g3 0 0))), (h1, .inl (cI, 2001, .inl (upd g0 0 0))), (h10, .inl (cI, 14, .inl (upd g9 0 0))), (h11, .inl (cI, 14, .inl (upd g10 0 (-1)))), (h12, .inl (cI, 14, .inl (upd g11 0 (-1)))), (h13, .inl (cI, 14, .inl (upd g12 0 (-1)))), (h14, .inl (cI, 14, .inl (upd g13 0 0))), (h15, .inl (cI, 26, .inl (upd g14 24 0)))]) (w1 := [(h0, .inr (12, ((((((((((((((((((f0.set 0 (.int 0)).set 12 (.int 0)).set 2 (.int 0)).set 36 (.int 0)).set 37 (.int 0)).set 27 (.int 0)).set 31 (.int 0)).set 28 (.int 0)).set 66 (.int 24)).set 67 (.int 0)).set 76 (.int (-1))).set 83 (.int (-1))).set 76 (.int 0)).set 84 (.int 1)).set 31 (.int 1)).set 29 (.int 2)).set 30 (.int 0)).set 109 (.int 2))))]) ⟨hx, hb, hml, hown, hts⟩ hN hX hAE hK hP hD hS hA [1] [0, 2, 3, 4, 5, 6, 7, 8, 9, 10, 11, 12, 13, 14, 15] (ci := 12) rfl rfl rfl rfl (by decide +kernel) (by decide +kernel) (by decide +kernel) (c_X12_told_0 l E D cI cJ cB cZ h0 ((((((((((((((((((f0.set 0 (.int 0)).set 12 (.int 0)).set 2 (.int 0)).set 36 (.int 0)).set 37 (.int 0)).set 27 (.int 0)).set 31 (.int 0)).set 28 (.int 0)).set 66 (.int 24)).set 67 (.int 0)).set 76 (.int (-1))).set 83 (.int (-1))).set 76 (.int 0)).set 84 (.int 1)).set 31 (.int 1)).set 29 (.int 2)).set 30 (.int 0))) (k_ne (by decide) (k_ne (by decide) (k_ne (by decide) (k_ne (by decide) (k_ne (by decide) (k_ne (by decide) (k_ne (by decide) (k_ne (by decide) (k_ne (by decide) (k_ne (by decide) (k_ne (by decide) (k_ne (by decide) (k_ne (by decide) (k_ne (by decide) (k_ne (by decide) (k_ne (by decide) (k_ne (by decide) e34))))))))))))))))) (k_ne (by decide) (k_set (k_ne (by decide) (k_ne (by decide) (k_ne (by decide) (k_ne (by decide) (k_ne (by decide) (k_ne (by decide) (k_ne (by decide) (k_ne (by decide) (k_ne (by decide) (k_ne (by decide) (k_ne (by decide) (k_ne (by decide) (k_ne (by decide) (k_ne (by decide) (k_ne (by decide) e30))))))))))))))))) (k_ne (by decide) (k_ne (by decide) (k_ne (by decide) (k_ne (by decide) (k_ne (by decide) (k_ne (by decide) (k_ne (by decide) (k_ne (by decide) (k_ne (by decide) (k_ne (by decide) (k_ne (by decide) (k_ne (by decide) (k_ne (by decide) (k_ne (by decide) (k_ne (by decide) (k_ne (by decide) (k_ne (by decide) e35))))))))))))))))) (k_set (k_ne (by decide) (k_ne (by decide) (k_ne (by decide) (k_ne (by decide) (k_ne (by decide) (k_ne (by decide) (k_ne (by decide) (k_ne (by decide) (k_ne (by decide) (k_ne (by decide) (k_ne (by decide) (k_ne (by decide) (k_ne (by decide) (k_ne (by decide) (k_ne (by decide) (k_ne (by decide) e31)))))))))))))))))) (cwV 0 hts gX12_follows_X12_told rfl rfl rfl (by decide +kernel) ⟨Nat.le_of_ble_eq_true rfl, Nat.le_of_ble_eq_true rfl⟩) rfl hl.1 (Nat.le_of_ble_eq_true rfl) dX12_follows_30 ⟨Nat.le_of_ble_eq_true rfl, Nat.le_of_ble_eq_true rfl⟩ (fun H locs hP hD hS => ?_)
  have hP : va_P D vwCl [(h2, .inl (cI, 2001, .inl (upd g1 0 0))), (h5, .inl (cI, 26, .inl (upd g4 24 0))), (h6, .inl (cI, 26, .inl (upd g5 24 0))), (h7, .inl (cI, 26, .inl (upd g6 24 0))), (h8, .inl (cI, 26, .inl (upd g7 24 0))), (h9, .inl (cI, 26, .inl (upd g8 24 0))), (h3, .inl (cI, 2001, .inl (upd g2 0 0))), (h4, .inl (cI, 2001, .inl (upd g3 0 0))), (h1, .inl (cI, 2001, .inl (upd g0 0 0))), (h10, .inl (cI, 14, .inl (upd g9 0 0))), (h11, .inl (cI, 14, .inl (upd g10 0 (-1)))), (h12, .inl (cI, 14, .inl (upd g11 0 (-1)))), (h13, .inl (cI, 14, .inl (upd g12 0 (-1)))), (h14, .inl (cI, 14, .inl (upd g13 0 0))), (h15, .inl (cI, 26, .inl (upd g14 24 0))), (h0, .inr (12, ((((((((((((((((((f0.set 0 (.int 0)).set 12 (.int 0)).set 2 (.int 0)).set 36 (.int 0)).set 37 (.int 0)).set 27 (.int 0)).set 31 (.int 0)).set 28 (.int 0)).set 66 (.int 24)).set 67 (.int 0)).set 76 (.int (-1))).set 83 (.int (-1))).set 76 (.int 0)).set 84 (.int 1)).set 31 (.int 1)).set 29 (.int 2)).set 30 (.int 0)).set 109 (.int 2))))] H := hP
  have hD : va_D A [(h2, .inl (cI, 2001, .inl (upd g1 0 0))), (h5, .inl (cI, 26, .inl (upd g4 24 0))), (h6, .inl (cI, 26, .inl (upd g5 24 0))), (h7, .inl (cI, 26, .inl (upd g6 24 0))), (h8, .inl (cI, 26, .inl (upd g7 24 0))), (h9, .inl (cI, 26, .inl (upd g8 24 0))), (h3, .inl (cI, 2001, .inl (upd g2 0 0))), (h4, .inl (cI, 2001, .inl (upd g3 0 0))), (h1, .inl (cI, 2001, .inl (upd g0 0 0))), (h10, .inl (cI, 14, .inl (upd g9 0 0))), (h11, .inl (cI, 14, .inl (upd g10 0 (-1)))), (h12, .inl (cI, 14, .inl (upd g11 0 (-1)))), (h13, .inl (cI, 14, .inl (upd g12 0 (-1)))), (h14, .inl (cI, 14, .inl (upd g13 0 0))), (h15, .inl (cI, 26, .inl (upd g14 24 0))), (h0, .inr (12, ((((((((((((((((((f0.set 0 (.int 0)).set 12 (.int 0)).set 2 (.int 0)).set 36 (.int 0)).set 37 (.int 0)).set 27 (.int 0)).set 31 (.int 0)).set 28 (.int 0)).set 66 (.int 24)).set 67 (.int 0)).set 76 (.int (-1))).set 83 (.int (-1))).set 76 (.int 0)).set 84 (.int 1)).set 31 (.int 1)).set 29 (.int 2)).set 30 (.int 0)).set 109 (.int 2))))] := hD
  have hP := hP.sub (ws' := [(h0, .inr (12, ((((((((((((((((((f0.set 0 (.int 0)).set 12 (.int 0)).set 2 (.int 0)).set 36 (.int 0)).set 37 (.int 0)).set 27 (.int 0)).set 31 (.int 0)).set 28 (.int 0)).set 66 (.int 24)).set 67 (.int 0)).set 76 (.int (-1))).set 83 (.int (-1))).set 76 (.int 0)).set 84 (.int 1)).set 31 (.int 1)).set 29 (.int 2)).set 30 (.int 0)).set 109 (.int 2)))), (h1, .inl (cI, 2001, .inl (upd g0 0 0))), (h2, .inl (cI, 2001, .inl (upd g1 0 0))), (h3, .inl (cI, 2001, .inl (upd g2 0 0))), (h4, .inl (cI, 2001, .inl (upd g3 0 0))), (h5, .inl (cI, 26, .inl (upd g4 24 0))), (h6, .inl (cI, 26, .inl (upd g5 24 0))), (h7, .inl (cI, 26, .inl (upd g6 24 0))), (h8, .inl (cI, 26, .inl (upd g7 24 0))), (h9, .inl (cI, 26, .inl (upd g8 24 0))), (h10, .inl (cI, 14, .inl (upd g9 0 0))), (h11, .inl (cI, 14, .inl (upd g10 0 (-1)))), (h12, .inl (cI, 14, .inl (upd g11 0 (-1)))), (h13, .inl (cI, 14, .inl (upd g12 0 (-1)))), (h14, .inl (cI, 14, .inl (upd g13 0 0))), (h15, .inl (cI, 26, .inl (upd g14 24 0)))]) [15, 8, 0, 6, 7, 1, 2, 3, 4, 5, 9, 10, 11, 12, 13, 14] rfl
  have hD := hD.sub (ws' := [(h0, .inr (12, ((((((((((((((((((f0.set 0 (.int 0)).set 12 (.int 0)).set 2 (.int 0)).set 36 (.int 0)).set 37 (.int 0)).set 27 (.int 0)).set 31 (.int 0)).set 28 (.int 0)).set 66 (.int 24)).set 67 (.int 0)).set 76 (.int (-1))).set 83 (.int (-1))).set 76 (.int 0)).set 84 (.int 1)).set 31 (.int 1)).set 29 (.int 2)).set 30 (.int 0)).set 109 (.int 2)))), (h1, .inl (cI, 2001, .inl (upd g0 0 0))), (h2, .inl (cI, 2001, .inl (upd g1 0 0))), (h3, .inl (cI, 2001, .inl (upd g2 0 0))), (h4, .inl (cI, 2001, .inl (upd g3 0 0))), (h5, .inl (cI, 26, .inl (upd g4 24 0))), (h6, .inl (cI, 26, .inl (upd g5 24 0))), (h7, .inl (cI, 26, .inl (upd g6 24 0))), (h8, .inl (cI, 26, .inl (upd g7 24 0))), (h9, .inl (cI, 26, .inl (upd g8 24 0))), (h10, .inl (cI, 14, .inl (upd g9 0 0))), (h11, .inl (cI, 14, .inl (upd g10 0 (-1)))), (h12, .inl (cI, 14, .inl (upd g11 0 (-1)))), (h13, .inl (cI, 14, .inl (upd g12 0 (-1)))), (h14, .inl (cI, 14, .inl (upd g13 0 0))), (h15, .inl (cI, 26, .inl (upd g14 24 0)))]) [15, 8, 0, 6, 7, 1, 2, 3, 4, 5, 9, 10, 11, 12, 13, 14] (by decide +kernel) rfl
  exact W.iret (v := (-1000)) hx hb hr (fun t ht hW => ⟨⟨(-1000), (), rfl, rfl, kB_mk ht hW hP hK hD⟩, hS.F ht⟩) hS.2.2 dX12_follows_33
