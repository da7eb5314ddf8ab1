abbrev cX0_isSoFor : ByteArray := prog_2_method_2_code
def yX0_isSoFor : MethodName := ⟨RX0, "isSoFor", "(IJJJJ)Z"⟩
abbrev cX2_shownByte : ByteArray := prog_4_method_32_code
def yX2_shownByte : MethodName := ⟨RX2, "shownByte", "(I)I"⟩
abbrev cX6_judge : ByteArray := prog_8_method_2_code
def yX6_judge : MethodName := ⟨RX6, "judge", "(I)Z"⟩
abbrev cX6_explore : ByteArray := prog_8_method_3_code
def yX6_explore : MethodName := ⟨RX6, "explore", "(I)Z"⟩
abbrev cX6_gather : ByteArray := prog_8_method_4_code
def yX6_gather : MethodName := ⟨RX6, "gather", "(I)Z"⟩
abbrev cX6_addWork : ByteArray := prog_8_method_5_code
def yX6_addWork : MethodName := ⟨RX6, "addWork", "(I)Z"⟩
abbrev cX6_halve : ByteArray := prog_8_method_6_code
def yX6_halve : MethodName := ⟨RX6, "halve", "(II)V"⟩
abbrev cX6_halved : ByteArray := prog_8_method_7_code
def yX6_halved : MethodName := ⟨RX6, "halved", "(II)I"⟩
abbrev cX6_locate : ByteArray := prog_8_method_8_code
def yX6_locate : MethodName := ⟨RX6, "locate", "()I"⟩
abbrev cX6_isFresh : ByteArray := prog_8_method_9_code
def yX6_isFresh : MethodName := ⟨RX6, "isFresh", "(I)Z"⟩
abbrev cX6_addPlace : ByteArray := prog_8_method_10_code
def yX6_addPlace : MethodName := ⟨RX6, "addPlace", "(I)I"⟩
abbrev cX6_accepts : ByteArray := prog_8_method_12_code
def yX6_accepts : MethodName := ⟨RX6, "accepts", "(IIII)Z"⟩
abbrev cX6_acceptedBy : ByteArray := prog_8_method_13_code
def yX6_acceptedBy : MethodName := ⟨RX6, "acceptedBy", "(III)I"⟩
abbrev cX6_atomsAt : ByteArray := prog_8_method_14_code
def yX6_atomsAt : MethodName := ⟨RX6, "atomsAt", "(II)I"⟩
abbrev cX6_soFor : ByteArray := prog_8_method_15_code
def yX6_soFor : MethodName := ⟨RX6, "soFor", "(I[J)I"⟩
abbrev cX6_soOf : ByteArray := prog_8_method_16_code
def yX6_soOf : MethodName := ⟨RX6, "soOf", "(I)I"⟩
abbrev cX6_isSo : ByteArray := prog_8_method_17_code
def yX6_isSo : MethodName := ⟨RX6, "isSo", "(III)Z"⟩
abbrev cX6_joined : ByteArray := prog_8_method_18_code
def yX6_joined : MethodName := ⟨RX6, "joined", "(JI)J"⟩
abbrev cX11_printed : ByteArray := prog_1_method_24_code
def yX11_printed : MethodName := ⟨RX11, "printed", "(I)I"⟩
abbrev cX11_holds : ByteArray := prog_1_method_25_code
def yX11_holds : MethodName := ⟨RX11, "holds", "(IJJJJ)I"⟩
abbrev cX11_isFar : ByteArray := prog_1_method_26_code
def yX11_isFar : MethodName := ⟨RX11, "isFar", "(IJ)Z"⟩
abbrev cX12_printed : ByteArray := prog_14_method_113_code
def yX12_printed : MethodName := ⟨RX12, "printed", "(I)I"⟩
abbrev cX12_workAt : ByteArray := prog_14_method_114_code
def yX12_workAt : MethodName := ⟨RX12, "workAt", "(I)I"⟩
abbrev cX12_idle : ByteArray := prog_14_method_115_code
def yX12_idle : MethodName := ⟨RX12, "idle", "()V"⟩
abbrev cX12_put : ByteArray := prog_14_method_116_code
def yX12_put : MethodName := ⟨RX12, "put", "(I)V"⟩
abbrev cX12_findWork : ByteArray := prog_14_method_118_code
def yX12_findWork : MethodName := ⟨RX12, "findWork", "()V"⟩
abbrev cX12_isLit : ByteArray := prog_14_method_119_code
def yX12_isLit : MethodName := ⟨RX12, "isLit", "(II)Z"⟩
abbrev cX12_isLeaf : ByteArray := prog_14_method_120_code
def yX12_isLeaf : MethodName := ⟨RX12, "isLeaf", "(II)Z"⟩
abbrev cX12_isNode : ByteArray := prog_14_method_121_code
def yX12_isNode : MethodName := ⟨RX12, "isNode", "(II)Z"⟩
abbrev cX12_reckonSlots : ByteArray := prog_14_method_122_code
def yX12_reckonSlots : MethodName := ⟨RX12, "reckonSlots", "()V"⟩
abbrev cX12_holds : ByteArray := prog_14_method_123_code
def yX12_holds : MethodName := ⟨RX12, "holds", "(IJJJJ)I"⟩
def RJ7 : String := "java/util/Arrays"
abbrev cJ7_fill_53178 : ByteArray := prog_27_method_103_code
def yJ7_fill_53178 : MethodName := ⟨RJ7, "fill", "([II)V"⟩
def wsX6_gather_r1 : List Cond := [Cond.fieldLink RX6 76 "IntegerHouse$Places" "atoms" "I", Cond.fieldLink RX6 90 "IntegerHouse$Places" "needed" "I", Cond.fieldLink RX6 44 "IntegerHouse$Places" "house" "LIntegerHouse$House;", Cond.methodLink RX6 96 Lib.Math.min.name, Cond.static Lib.Math.min.name, Cond.initialized "java/lang/Math", Cond.code Lib.Math.min.name Lib.Math.min.code 2 (some .int), Cond.methodLink RX6 101 Lib.Math.max.name, Cond.static Lib.Math.max.name, Cond.code Lib.Math.max.name Lib.Math.max.code 2 (some .int), Cond.fieldLink RX6 56 "IntegerHouse$Places" "letters" "I", Cond.methodLink RX6 104 yX2_fact, Cond.instanceMethod yX2_fact, Cond.selects RX2 yX2_fact yX2_fact, Cond.initialized RX2, Cond.code yX2_fact cX2_fact 3 (some .int), Cond.fieldLink RX2 28 "IntegerHouse$House" "facts" "[I", Cond.methodLink RX6 107 yX2_atomOf, Cond.instanceMethod yX2_atomOf, Cond.selects RX2 yX2_atomOf yX2_atomOf, Cond.code yX2_atomOf cX2_atomOf 3 (some .int), Cond.fieldLink RX2 31 "IntegerHouse$House" "atoms" "[I", Cond.methodLink RX6 110 yX6_addWork, Cond.instanceMethod yX6_addWork]
def wsX6_gather_r2 : List Cond := [Cond.selects RX6 yX6_addWork yX6_addWork, Cond.initialized RX6, Cond.code yX6_addWork cX6_addWork 5 (some .boolean), Cond.fieldLink RX6 11 "IntegerHouse$Places" "work" "[I", Cond.fieldLink RX6 17 "IntegerHouse$Places" "workOf" "[I", Cond.fieldLink RX6 20 "IntegerHouse$Places" "isLine" "[Z", Cond.fieldLink RX6 24 "IntegerHouse$Places" "sums" "[I", Cond.methodLink RX6 79 yX2_pooled, Cond.instanceMethod yX2_pooled, Cond.selects RX2 yX2_pooled yX2_pooled, Cond.code yX2_pooled cX2_pooled 3 (some .int), Cond.fieldLink RX2 34 "IntegerHouse$House" "pool" "[I"]
def wsX6_gather : List Cond := .code yX6_gather cX6_gather 5 (some .boolean) :: ((wsX6_gather_r1 ++ wsX6_gather_r2) ++ wsX60 ++ wsX20)
def wsX6_soOf : List Cond := .code yX6_soOf cX6_soOf 4 (some .int) :: ([.fieldLink RX6 90 "IntegerHouse$Places" "needed" "I", .methodLink RX6 127 yX6_isSo, .instanceMethod yX6_isSo, .selects RX6 yX6_isSo yX6_isSo, .initialized RX6, .code yX6_isSo cX6_isSo 10 (some .boolean), .fieldLink RX6 44 "IntegerHouse$Places" "house" "LIntegerHouse$House;", .methodLink RX6 96 Lib.Math.min.name, .static Lib.Math.min.name, .initialized "java/lang/Math", .code Lib.Math.min.name Lib.Math.min.code 2 (some .int), .methodLink RX6 101 Lib.Math.max.name, .static Lib.Math.max.name, .code Lib.Math.max.name Lib.Math.max.code 2 (some .int), .fieldLink RX6 17 "IntegerHouse$Places" "workOf" "[I", .methodLink RX6 104 yX2_fact, .instanceMethod yX2_fact, .selects RX2 yX2_fact yX2_fact, .initialized RX2, .code yX2_fact cX2_fact 3 (some .int), .fieldLink RX2 28 "IntegerHouse$House" "facts" "[I", .methodLink RX6 136 yX6_joined, .static yX6_joined, .code yX6_joined cX6_joined 9 (some .long)] ++ wsX60 ++ wsX20)
def wsX6_accepts : List Cond := .code yX6_accepts cX6_accepts 7 (some .boolean) :: ([.fieldLink RX6 38 "IntegerHouse$Places" "so" "[I"] ++ wsX60)
def wsX6_acceptedBy : List Cond := .code yX6_acceptedBy cX6_acceptedBy 6 (some .int) :: ([.fieldLink RX6 56 "IntegerHouse$Places" "letters" "I", .methodLink RX6 123 yX6_accepts, .instanceMethod yX6_accepts, .selects RX6 yX6_accepts yX6_accepts, .initialized RX6, .code yX6_accepts cX6_accepts 7 (some .boolean), .fieldLink RX6 38 "IntegerHouse$Places" "so" "[I"] ++ wsX60)
def wsX2_shownByte : List Cond := .code yX2_shownByte cX2_shownByte 2 (some .int) :: ([.fieldLink RX2 71 "IntegerHouse$House" "shownSize" "I", .fieldLink RX2 40 "IntegerHouse$House" "shown" "[B"] ++ wsX20)
def wsJ7_fill_53178 : List Cond := .code yJ7_fill_53178 cJ7_fill_53178 4 none :: ([])
def wsX6_addPlace : List Cond := .code yX6_addPlace cX6_addPlace 4 (some .int) :: ([.fieldLink RX6 52 "IntegerHouse$Places" "size" "I", .fieldLink RX6 76 "IntegerHouse$Places" "atoms" "I", .fieldLink RX6 31 "IntegerHouse$Places" "stands" "[I", .fieldLink RX6 27 "IntegerHouse$Places" "fresh" "[I", .fieldLink RX6 41 "IntegerHouse$Places" "table" "[I"] ++ wsX60)
def wsX6_isFresh : List Cond := .code yX6_isFresh cX6_isFresh 4 (some .boolean) :: ([.methodLink RX6 96 Lib.Math.min.name, .static Lib.Math.min.name, .initialized "java/lang/Math", .code Lib.Math.min.name Lib.Math.min.code 2 (some .int), .fieldLink RX6 76 "IntegerHouse$Places" "atoms" "I", .fieldLink RX6 31 "IntegerHouse$Places" "stands" "[I", .fieldLink RX6 27 "IntegerHouse$Places" "fresh" "[I"] ++ wsX60)
def wsX6_locate : List Cond := .code yX6_locate cX6_locate 5 (some .int) :: ([.fieldLink RX6 76 "IntegerHouse$Places" "atoms" "I", .fieldLink RX6 27 "IntegerHouse$Places" "fresh" "[I", .constant RX6 116 (739982445), .fieldLink RX6 41 "IntegerHouse$Places" "table" "[I", .methodLink RX6 117 yX6_addPlace, .instanceMethod yX6_addPlace, .selects RX6 yX6_addPlace yX6_addPlace, .initialized RX6, .code yX6_addPlace cX6_addPlace 4 (some .int), .fieldLink RX6 52 "IntegerHouse$Places" "size" "I", .fieldLink RX6 31 "IntegerHouse$Places" "stands" "[I", .methodLink RX6 120 yX6_isFresh, .instanceMethod yX6_isFresh, .selects RX6 yX6_isFresh yX6_isFresh, .code yX6_isFresh cX6_isFresh 4 (some .boolean), .methodLink RX6 96 Lib.Math.min.name, .static Lib.Math.min.name, .initialized "java/lang/Math", .code Lib.Math.min.name Lib.Math.min.code 2 (some .int)] ++ wsX60)
def wsX6_halve : List Cond := .code yX6_halve cX6_halve 7 none :: ([.fieldLink RX6 76 "IntegerHouse$Places" "atoms" "I", .fieldLink RX6 31 "IntegerHouse$Places" "stands" "[I", .fieldLink RX6 27 "IntegerHouse$Places" "fresh" "[I", .fieldLink RX6 20 "IntegerHouse$Places" "isLine" "[Z", .fieldLink RX6 24 "IntegerHouse$Places" "sums" "[I", .methodLink RX6 113 yX6_halved, .static yX6_halved, .initialized RX6, .code yX6_halved cX6_halved 5 (some .int), .methodLink RX6 101 Lib.Math.max.name, .static Lib.Math.max.name, .initialized "java/lang/Math", .code Lib.Math.max.name Lib.Math.max.code 2 (some .int)] ++ wsX60)
def wsX6_explore_r1 : List Cond := [Cond.fieldLink RX6 41 "IntegerHouse$Places" "table" "[I", Cond.fieldLink RX6 52 "IntegerHouse$Places" "size" "I", Cond.fieldLink RX6 76 "IntegerHouse$Places" "atoms" "I", Cond.fieldLink RX6 44 "IntegerHouse$Places" "house" "LIntegerHouse$House;", Cond.fieldLink RX6 11 "IntegerHouse$Places" "work" "[I", Cond.fieldLink RX6 27 "IntegerHouse$Places" "fresh" "[I", Cond.fieldLink RX6 20 "IntegerHouse$Places" "isLine" "[Z", Cond.fieldLink RX6 56 "IntegerHouse$Places" "letters" "I", Cond.fieldLink RX6 35 "IntegerHouse$Places" "next" "[I", Cond.methodLink RX6 67 yX6_gather, Cond.instanceMethod yX6_gather, Cond.selects RX6 yX6_gather yX6_gather, Cond.initialized RX6, Cond.code yX6_gather cX6_gather 5 (some .boolean), Cond.fieldLink RX6 90 "IntegerHouse$Places" "needed" "I", Cond.methodLink RX6 96 Lib.Math.min.name, Cond.static Lib.Math.min.name, Cond.initialized "java/lang/Math", Cond.code Lib.Math.min.name Lib.Math.min.code 2 (some .int), Cond.methodLink RX6 101 Lib.Math.max.name, Cond.static Lib.Math.max.name, Cond.code Lib.Math.max.name Lib.Math.max.code 2 (some .int), Cond.methodLink RX6 104 yX2_fact, Cond.instanceMethod yX2_fact]
def wsX6_explore_r2 : List Cond := [Cond.selects RX2 yX2_fact yX2_fact, Cond.initialized RX2, Cond.code yX2_fact cX2_fact 3 (some .int), Cond.fieldLink RX2 28 "IntegerHouse$House" "facts" "[I", Cond.methodLink RX6 107 yX2_atomOf, Cond.instanceMethod yX2_atomOf, Cond.selects RX2 yX2_atomOf yX2_atomOf, Cond.code yX2_atomOf cX2_atomOf 3 (some .int), Cond.fieldLink RX2 31 "IntegerHouse$House" "atoms" "[I", Cond.methodLink RX6 110 yX6_addWork, Cond.instanceMethod yX6_addWork, Cond.selects RX6 yX6_addWork yX6_addWork, Cond.code yX6_addWork cX6_addWork 5 (some .boolean), Cond.fieldLink RX6 17 "IntegerHouse$Places" "workOf" "[I", Cond.fieldLink RX6 24 "IntegerHouse$Places" "sums" "[I", Cond.methodLink RX6 79 yX2_pooled, Cond.instanceMethod yX2_pooled, Cond.selects RX2 yX2_pooled yX2_pooled, Cond.code yX2_pooled cX2_pooled 3 (some .int), Cond.fieldLink RX2 34 "IntegerHouse$House" "pool" "[I", Cond.methodLink RX6 70 yJ7_fill_53178, Cond.static yJ7_fill_53178, Cond.initialized RJ7, Cond.code yJ7_fill_53178 cJ7_fill_53178 4 none]
def wsX6_explore_r3 : List Cond := [Cond.methodLink RX6 82 yX6_locate, Cond.instanceMethod yX6_locate, Cond.selects RX6 yX6_locate yX6_locate, Cond.code yX6_locate cX6_locate 5 (some .int), Cond.constant RX6 116 (739982445), Cond.methodLink RX6 117 yX6_addPlace, Cond.instanceMethod yX6_addPlace, Cond.selects RX6 yX6_addPlace yX6_addPlace, Cond.code yX6_addPlace cX6_addPlace 4 (some .int), Cond.fieldLink RX6 31 "IntegerHouse$Places" "stands" "[I", Cond.methodLink RX6 120 yX6_isFresh, Cond.instanceMethod yX6_isFresh, Cond.selects RX6 yX6_isFresh yX6_isFresh, Cond.code yX6_isFresh cX6_isFresh 4 (some .boolean), Cond.methodLink RX6 86 yX6_halve, Cond.instanceMethod yX6_halve, Cond.selects RX6 yX6_halve yX6_halve, Cond.code yX6_halve cX6_halve 7 none, Cond.methodLink RX6 113 yX6_halved, Cond.static yX6_halved, Cond.code yX6_halved cX6_halved 5 (some .int)]
def wsX6_explore : List Cond := .code yX6_explore cX6_explore 5 (some .boolean) :: ((wsX6_explore_r1 ++ (wsX6_explore_r2 ++ wsX6_explore_r3)) ++ wsX60 ++ wsX20)
def wsX6_atomsAt : List Cond := .code yX6_atomsAt cX6_atomsAt 10 (some .int) :: ([.methodLink RX6 96 Lib.Math.min.name, .static Lib.Math.min.name, .initialized "java/lang/Math", .code Lib.Math.min.name Lib.Math.min.code 2 (some .int), .fieldLink RX6 76 "IntegerHouse$Places" "atoms" "I", .fieldLink RX6 31 "IntegerHouse$Places" "stands" "[I", .fieldLink RX6 24 "IntegerHouse$Places" "sums" "[I", .fieldLink RX6 20 "IntegerHouse$Places" "isLine" "[Z", .methodLink RX6 101 Lib.Math.max.name, .static Lib.Math.max.name, .code Lib.Math.max.name Lib.Math.max.code 2 (some .int)] ++ wsX60)
def wsX6_judge_r1 : List Cond := [Cond.fieldLink RX6 52 "IntegerHouse$Places" "size" "I", Cond.fieldLink RX6 56 "IntegerHouse$Places" "letters" "I", Cond.fieldLink RX6 38 "IntegerHouse$Places" "so" "[I", Cond.methodLink RX6 48 yX6_explore, Cond.instanceMethod yX6_explore, Cond.selects RX6 yX6_explore yX6_explore, Cond.initialized RX6, Cond.code yX6_explore cX6_explore 5 (some .boolean), Cond.fieldLink RX6 41 "IntegerHouse$Places" "table" "[I", Cond.fieldLink RX6 76 "IntegerHouse$Places" "atoms" "I", Cond.fieldLink RX6 44 "IntegerHouse$Places" "house" "LIntegerHouse$House;", Cond.fieldLink RX6 11 "IntegerHouse$Places" "work" "[I", Cond.fieldLink RX6 27 "IntegerHouse$Places" "fresh" "[I", Cond.fieldLink RX6 20 "IntegerHouse$Places" "isLine" "[Z", Cond.fieldLink RX6 35 "IntegerHouse$Places" "next" "[I", Cond.methodLink RX6 67 yX6_gather, Cond.instanceMethod yX6_gather, Cond.selects RX6 yX6_gather yX6_gather, Cond.code yX6_gather cX6_gather 5 (some .boolean), Cond.fieldLink RX6 90 "IntegerHouse$Places" "needed" "I", Cond.methodLink RX6 96 Lib.Math.min.name, Cond.static Lib.Math.min.name, Cond.initialized "java/lang/Math", Cond.code Lib.Math.min.name Lib.Math.min.code 2 (some .int)]
def wsX6_judge_r2 : List Cond := [Cond.methodLink RX6 101 Lib.Math.max.name, Cond.static Lib.Math.max.name, Cond.code Lib.Math.max.name Lib.Math.max.code 2 (some .int), Cond.methodLink RX6 104 yX2_fact, Cond.instanceMethod yX2_fact, Cond.selects RX2 yX2_fact yX2_fact, Cond.initialized RX2, Cond.code yX2_fact cX2_fact 3 (some .int), Cond.fieldLink RX2 28 "IntegerHouse$House" "facts" "[I", Cond.methodLink RX6 107 yX2_atomOf, Cond.instanceMethod yX2_atomOf, Cond.selects RX2 yX2_atomOf yX2_atomOf, Cond.code yX2_atomOf cX2_atomOf 3 (some .int), Cond.fieldLink RX2 31 "IntegerHouse$House" "atoms" "[I", Cond.methodLink RX6 110 yX6_addWork, Cond.instanceMethod yX6_addWork, Cond.selects RX6 yX6_addWork yX6_addWork, Cond.code yX6_addWork cX6_addWork 5 (some .boolean), Cond.fieldLink RX6 17 "IntegerHouse$Places" "workOf" "[I", Cond.fieldLink RX6 24 "IntegerHouse$Places" "sums" "[I", Cond.methodLink RX6 79 yX2_pooled, Cond.instanceMethod yX2_pooled, Cond.selects RX2 yX2_pooled yX2_pooled, Cond.code yX2_pooled cX2_pooled 3 (some .int)]
def wsX6_judge_r3 : List Cond := [Cond.fieldLink RX2 34 "IntegerHouse$House" "pool" "[I", Cond.methodLink RX6 70 yJ7_fill_53178, Cond.static yJ7_fill_53178, Cond.initialized RJ7, Cond.code yJ7_fill_53178 cJ7_fill_53178 4 none, Cond.methodLink RX6 82 yX6_locate, Cond.instanceMethod yX6_locate, Cond.selects RX6 yX6_locate yX6_locate, Cond.code yX6_locate cX6_locate 5 (some .int), Cond.constant RX6 116 (739982445), Cond.methodLink RX6 117 yX6_addPlace, Cond.instanceMethod yX6_addPlace, Cond.selects RX6 yX6_addPlace yX6_addPlace, Cond.code yX6_addPlace cX6_addPlace 4 (some .int), Cond.fieldLink RX6 31 "IntegerHouse$Places" "stands" "[I", Cond.methodLink RX6 120 yX6_isFresh, Cond.instanceMethod yX6_isFresh, Cond.selects RX6 yX6_isFresh yX6_isFresh, Cond.code yX6_isFresh cX6_isFresh 4 (some .boolean), Cond.methodLink RX6 86 yX6_halve, Cond.instanceMethod yX6_halve, Cond.selects RX6 yX6_halve yX6_halve, Cond.code yX6_halve cX6_halve 7 none, Cond.methodLink RX6 113 yX6_halved]
def wsX6_judge_r4 : List Cond := [Cond.static yX6_halved, Cond.code yX6_halved cX6_halved 5 (some .int), Cond.methodLink RX6 59 yX6_atomsAt, Cond.instanceMethod yX6_atomsAt, Cond.selects RX6 yX6_atomsAt yX6_atomsAt, Cond.code yX6_atomsAt cX6_atomsAt 10 (some .int), Cond.methodLink RX6 63 yX6_soOf, Cond.instanceMethod yX6_soOf, Cond.selects RX6 yX6_soOf yX6_soOf, Cond.code yX6_soOf cX6_soOf 4 (some .int), Cond.methodLink RX6 127 yX6_isSo, Cond.instanceMethod yX6_isSo, Cond.selects RX6 yX6_isSo yX6_isSo, Cond.code yX6_isSo cX6_isSo 10 (some .boolean), Cond.methodLink RX6 136 yX6_joined, Cond.static yX6_joined, Cond.code yX6_joined cX6_joined 9 (some .long)]
def wsX6_judge : List Cond := .code yX6_judge cX6_judge 4 (some .boolean) :: ((wsX6_judge_r1 ++ (wsX6_judge_r2 ++ (wsX6_judge_r3 ++ wsX6_judge_r4))) ++ wsX60 ++ wsX20)
def wsX11_printed : List Cond := .code yX11_printed cX11_printed 2 (some .int) :: ([.fieldLink RX11 23 "IntegerHouse" "house" "LIntegerHouse$House;", .methodLink RX11 283 yX2_shownByte, .instanceMethod yX2_shownByte, .selects RX2 yX2_shownByte yX2_shownByte, .initialized RX2, .code yX2_shownByte cX2_shownByte 2 (some .int), .fieldLink RX2 71 "IntegerHouse$House" "shownSize" "I", .fieldLink RX2 40 "IntegerHouse$House" "shown" "[B"] ++ wsX110 ++ wsX20)
def wsX11_holds_r1 : List Cond := [Cond.fieldLink RX11 16 "IntegerHouse" "disk" "LIntegerHouse$Disk;", Cond.fieldLink RX11 23 "IntegerHouse" "house" "LIntegerHouse$House;", Cond.fieldLink RX11 64 "IntegerHouse" "answers" "LIntegerHouse$Answers;", Cond.methodLink RX11 176 yX2_isClaim, Cond.instanceMethod yX2_isClaim, Cond.selects RX2 yX2_isClaim yX2_isClaim, Cond.initialized RX2, Cond.code yX2_isClaim cX2_isClaim 2 (some .boolean), Cond.fieldLink RX2 55 "IntegerHouse$House" "claims" "I", Cond.methodLink RX11 286 yX11_isFar, Cond.instanceMethod yX11_isFar, Cond.selects RX11 yX11_isFar yX11_isFar, Cond.initialized RX11, Cond.code yX11_isFar cX11_isFar 4 (some .boolean), Cond.constantLong RX11 294 (1000000000000), Cond.constantLong RX11 296 (-1000000000000), Cond.methodLink RX11 290 yX0_isSoFor, Cond.instanceMethod yX0_isSoFor, Cond.selects RX0 yX0_isSoFor yX0_isSoFor, Cond.initialized RX0, Cond.code yX0_isSoFor cX0_isSoFor 11 (some .boolean), Cond.fieldLink RX0 15 "IntegerHouse$Answers" "tried" "[J", Cond.fieldLink RX0 44 "IntegerHouse$Answers" "house" "LIntegerHouse$House;", Cond.methodLink RX0 57 Lib.Math.max.name]
def wsX11_holds_r2 : List Cond := [Cond.static Lib.Math.max.name, Cond.initialized "java/lang/Math", Cond.code Lib.Math.max.name Lib.Math.max.code 2 (some .int), Cond.fieldLink RX0 48 "IntegerHouse$Answers" "places" "LIntegerHouse$Places;", Cond.methodLink RX0 63 yX6_soFor, Cond.instanceMethod yX6_soFor, Cond.selects RX6 yX6_soFor yX6_soFor, Cond.initialized RX6, Cond.code yX6_soFor cX6_soFor 10 (some .int), Cond.fieldLink RX6 76 "IntegerHouse$Places" "atoms" "I", Cond.fieldLink RX6 44 "IntegerHouse$Places" "house" "LIntegerHouse$House;", Cond.fieldLink RX6 11 "IntegerHouse$Places" "work" "[I", Cond.methodLink RX6 101 Lib.Math.max.name, Cond.methodLink RX6 67 yX6_gather, Cond.instanceMethod yX6_gather, Cond.selects RX6 yX6_gather yX6_gather, Cond.code yX6_gather cX6_gather 5 (some .boolean), Cond.fieldLink RX6 90 "IntegerHouse$Places" "needed" "I", Cond.methodLink RX6 96 Lib.Math.min.name, Cond.static Lib.Math.min.name, Cond.code Lib.Math.min.name Lib.Math.min.code 2 (some .int), Cond.fieldLink RX6 56 "IntegerHouse$Places" "letters" "I", Cond.methodLink RX6 104 yX2_fact, Cond.instanceMethod yX2_fact]
def wsX11_holds_r3 : List Cond := [Cond.selects RX2 yX2_fact yX2_fact, Cond.code yX2_fact cX2_fact 3 (some .int), Cond.fieldLink RX2 28 "IntegerHouse$House" "facts" "[I", Cond.methodLink RX6 107 yX2_atomOf, Cond.instanceMethod yX2_atomOf, Cond.selects RX2 yX2_atomOf yX2_atomOf, Cond.code yX2_atomOf cX2_atomOf 3 (some .int), Cond.fieldLink RX2 31 "IntegerHouse$House" "atoms" "[I", Cond.methodLink RX6 110 yX6_addWork, Cond.instanceMethod yX6_addWork, Cond.selects RX6 yX6_addWork yX6_addWork, Cond.code yX6_addWork cX6_addWork 5 (some .boolean), Cond.fieldLink RX6 17 "IntegerHouse$Places" "workOf" "[I", Cond.fieldLink RX6 20 "IntegerHouse$Places" "isLine" "[Z", Cond.fieldLink RX6 24 "IntegerHouse$Places" "sums" "[I", Cond.methodLink RX6 79 yX2_pooled, Cond.instanceMethod yX2_pooled, Cond.selects RX2 yX2_pooled yX2_pooled, Cond.code yX2_pooled cX2_pooled 3 (some .int), Cond.fieldLink RX2 34 "IntegerHouse$House" "pool" "[I", Cond.methodLink RX6 63 yX6_soOf, Cond.instanceMethod yX6_soOf, Cond.selects RX6 yX6_soOf yX6_soOf, Cond.code yX6_soOf cX6_soOf 4 (some .int)]
def wsX11_holds_r4 : List Cond := [Cond.methodLink RX6 127 yX6_isSo, Cond.instanceMethod yX6_isSo, Cond.selects RX6 yX6_isSo yX6_isSo, Cond.code yX6_isSo cX6_isSo 10 (some .boolean), Cond.methodLink RX6 136 yX6_joined, Cond.static yX6_joined, Cond.code yX6_joined cX6_joined 9 (some .long)]
def wsX11_holds : List Cond := .code yX11_holds cX11_holds 10 (some .int) :: ((wsX11_holds_r1 ++ (wsX11_holds_r2 ++ (wsX11_holds_r3 ++ wsX11_holds_r4))) ++ wsX110 ++ wsX10 ++ wsX20 ++ wsX00 ++ wsX60)
def wsX12_printed : List Cond := .code yX12_printed cX12_printed 2 (some .int) :: ([.fieldLink RX12 3 "IntegerHouseModel" "thrown" "I", .fieldLink RX12 882 "IntegerHouseModel" "printSize" "I", .fieldLink RX12 283 "IntegerHouseModel" "printed" "[B", .methodLink RX12 504 yX12_in, .static yX12_in, .initialized RX12, .code yX12_in cX12_in 6 (some .boolean)] ++ wsX120)
def wsX12_holds_r1 : List Cond := [Cond.constantLong RX12 949 (1000000000000), Cond.fieldLink RX12 815 "IntegerHouseModel" "variables" "I", Cond.fieldLink RX12 928 "IntegerHouseModel" "work" "I", Cond.fieldLink RX12 292 "IntegerHouseModel" "workF" "[I", Cond.fieldLink RX12 298 "IntegerHouseModel" "workN" "[I", Cond.fieldLink RX12 307 "IntegerHouseModel" "workIs" "[Z", Cond.fieldLink RX12 295 "IntegerHouseModel" "workC" "[I", Cond.fieldLink RX12 310 "IntegerHouseModel" "slotIs" "[Z", Cond.methodLink RX12 871 yX12_asks, Cond.instanceMethod yX12_asks, Cond.selects RX12 yX12_asks yX12_asks, Cond.initialized RX12, Cond.code yX12_asks cX12_asks 1 (some .boolean), Cond.fieldLink RX12 3 "IntegerHouseModel" "thrown" "I", Cond.fieldLink RX12 488 "IntegerHouseModel" "down" "Z", Cond.methodLink RX12 877 yX12_isClaim, Cond.instanceMethod yX12_isClaim, Cond.selects RX12 yX12_isClaim yX12_isClaim, Cond.code yX12_isClaim cX12_isClaim 2 (some .boolean), Cond.fieldLink RX12 818 "IntegerHouseModel" "claims" "I", Cond.methodLink RX12 504 yX12_in, Cond.static yX12_in, Cond.code yX12_in cX12_in 6 (some .boolean), Cond.methodLink RX12 934 yX12_idle]
def wsX12_holds_r2 : List Cond := [Cond.instanceMethod yX12_idle, Cond.selects RX12 yX12_idle yX12_idle, Cond.code yX12_idle cX12_idle 2 none, Cond.fieldLink RX12 304 "IntegerHouseModel" "needed" "[Z", Cond.methodLink RX12 937 yX12_put, Cond.instanceMethod yX12_put, Cond.selects RX12 yX12_put yX12_put, Cond.code yX12_put cX12_put 5 none, Cond.fieldLink RX12 235 "IntegerHouseModel" "atomCount" "[I", Cond.fieldLink RX12 232 "IntegerHouseModel" "atomN" "[I", Cond.fieldLink RX12 229 "IntegerHouseModel" "atomC" "[I", Cond.fieldLink RX12 226 "IntegerHouseModel" "atomF" "[I", Cond.methodLink RX12 931 yX12_workAt, Cond.instanceMethod yX12_workAt, Cond.selects RX12 yX12_workAt yX12_workAt, Cond.code yX12_workAt cX12_workAt 5 (some .int), Cond.methodLink RX12 951 yX12_findWork, Cond.instanceMethod yX12_findWork, Cond.selects RX12 yX12_findWork yX12_findWork, Cond.code yX12_findWork cX12_findWork 3 none, Cond.fieldLink RX12 120 "IntegerHouseModel" "nodeCount" "[I", Cond.fieldLink RX12 108 "IntegerHouseModel" "nodeKind" "[I", Cond.fieldLink RX12 111 "IntegerHouseModel" "nodeA" "[I", Cond.fieldLink RX12 301 "IntegerHouseModel" "workOf" "[I"]
def wsX12_holds_r3 : List Cond := [Cond.methodLink RX12 768 yX12_rest, Cond.static yX12_rest, Cond.code yX12_rest cX12_rest 6 (some .long), Cond.methodLink RX12 954 yX12_reckonSlots, Cond.instanceMethod yX12_reckonSlots, Cond.selects RX12 yX12_reckonSlots yX12_reckonSlots, Cond.code yX12_reckonSlots cX12_reckonSlots 3 none, Cond.fieldLink RX12 313 "IntegerHouseModel" "nodeIs" "[Z", Cond.fieldLink RX12 184 "IntegerHouseModel" "rootOf" "[I", Cond.methodLink RX12 946 yX12_isNode, Cond.instanceMethod yX12_isNode, Cond.selects RX12 yX12_isNode yX12_isNode, Cond.code yX12_isNode cX12_isNode 5 (some .boolean), Cond.fieldLink RX12 114 "IntegerHouseModel" "nodeB" "[I", Cond.fieldLink RX12 117 "IntegerHouseModel" "nodeNext" "[I", Cond.methodLink RX12 943 yX12_isLeaf, Cond.instanceMethod yX12_isLeaf, Cond.selects RX12 yX12_isLeaf yX12_isLeaf, Cond.code yX12_isLeaf cX12_isLeaf 6 (some .boolean), Cond.fieldLink RX12 147 "IntegerHouseModel" "leafCase" "[I", Cond.fieldLink RX12 150 "IntegerHouseModel" "leafCases" "[I", Cond.fieldLink RX12 238 "IntegerHouseModel" "caseLit" "[I", Cond.fieldLink RX12 123 "IntegerHouseModel" "leafOp" "[I", Cond.methodLink RX12 940 yX12_isLit]
def wsX12_holds_r4 : List Cond := [Cond.instanceMethod yX12_isLit, Cond.selects RX12 yX12_isLit yX12_isLit, Cond.code yX12_isLit cX12_isLit 3 (some .boolean)]
def wsX12_holds : List Cond := .code yX12_holds cX12_holds 18 (some .int) :: ((wsX12_holds_r1 ++ (wsX12_holds_r2 ++ (wsX12_holds_r3 ++ wsX12_holds_r4))) ++ wsX120)
theorem dX2_shownByte_0 : decode cX2_shownByte 0 = .ok (.iload_n 1, 1) := by decide +kernel
theorem dX2_shownByte_1 : decode cX2_shownByte 1 = .ok (.ifCond .lt 31, 3) := by decide +kernel
theorem dX2_shownByte_4 : decode cX2_shownByte 4 = .ok (.iload_n 1, 1) := by decide +kernel
theorem dX2_shownByte_5 : decode cX2_shownByte 5 = .ok (.aload_n 0, 1) := by decide +kernel
theorem dX2_shownByte_6 : decode cX2_shownByte 6 = .ok (.getfield 71, 3) := by decide +kernel
theorem dX2_shownByte_9 : decode cX2_shownByte 9 = .ok (.if_icmp .ge 23, 3) := by decide +kernel
theorem dX2_shownByte_32 : decode cX2_shownByte 32 = .ok (.iconst (-1), 1) := by decide +kernel
theorem dX2_shownByte_33 : decode cX2_shownByte 33 = .ok (.ireturn, 1) := by decide +kernel
set_option maxRecDepth 20000 in
theorem ggX6_judge_X6_explore : GoodIn wsX6_judge wsX6_explore := goodIn_r _ [8, 9, 1, 10, 11, 12, 13, 14, 2, 15, 16, 17, 18, 7, 19, 20, 21, 22, 23, 24, 25, 26, 27, 28, 29, 30, 31, 32, 33, 34, 35, 36, 37, 38, 39, 40, 41, 42, 43, 44, 45, 46, 47, 48, 49, 50, 51, 52, 53, 54, 55, 56, 57, 58, 59, 60, 61, 62, 63, 64, 65, 66, 67, 68, 69, 70, 71, 72, 73, 74, 90, 91, 92, 93, 94, 95, 96, 97, 98, 99, 100, 101, 102, 103, 104, 105, 106, 107, 108, 109, 110, 111, 112, 113, 114, 115, 116, 117, 118, 119] (by decide +kernel) (by decide +kernel)
set_option maxRecDepth 20000 in
theorem gX6_judge_X6_explore : GoodIn wsX6_judge (wsV RX6 48 RX6 yX6_explore wsX6_explore) := goodIn_app (goodIn_of _ (by decide +kernel)) ggX6_judge_X6_explore
set_option maxRecDepth 20000 in
theorem ggX6_judge_X6_atomsAt : GoodIn wsX6_judge wsX6_atomsAt := goodIn_r _ [78, 21, 22, 23, 24, 10, 63, 44, 14, 25, 26, 27, 90, 91, 92, 93, 94, 95, 96, 97, 98, 99, 100, 101, 102, 103] (by decide +kernel) (by decide +kernel)
set_option maxRecDepth 20000 in
theorem gX6_judge_X6_atomsAt : GoodIn wsX6_judge (wsV RX6 59 RX6 yX6_atomsAt wsX6_atomsAt) := goodIn_app (goodIn_of _ (by decide +kernel)) ggX6_judge_X6_atomsAt
set_option maxRecDepth 20000 in
theorem ggX6_judge_X6_soOf : GoodIn wsX6_judge wsX6_soOf := goodIn_r _ [82, 20, 83, 84, 85, 7, 86, 11, 21, 22, 23, 24, 25, 26, 27, 43, 28, 29, 30, 31, 32, 33, 87, 88, 89, 90, 91, 92, 93, 94, 95, 96, 97, 98, 99, 100, 101, 102, 103, 104, 105, 106, 107, 108, 109, 110, 111, 112, 113, 114, 115, 116, 117, 118, 119] (by decide +kernel) (by decide +kernel)
set_option maxRecDepth 20000 in
theorem gX6_judge_X6_soOf : GoodIn wsX6_judge (wsV RX6 63 RX6 yX6_soOf wsX6_soOf) := goodIn_app (goodIn_of _ (by decide +kernel)) ggX6_judge_X6_soOf
theorem dX6_judge_0 : decode cX6_judge 0 = .ok (.aload_n 0, 1) := by decide +kernel
theorem dX6_judge_1 : decode cX6_judge 1 = .ok (.iload_n 1, 1) := by decide +kernel
theorem dX6_judge_2 : decode cX6_judge 2 = .ok (.invokevirtual 48, 3) := by decide +kernel
theorem dX6_judge_5 : decode cX6_judge 5 = .ok (.ifCond .ne 5, 3) := by decide +kernel
theorem dX6_judge_10 : decode cX6_judge 10 = .ok (.iconst 0, 1) := by decide +kernel
theorem dX6_judge_11 : decode cX6_judge 11 = .ok (.istore_n 2, 1) := by decide +kernel
theorem dX6_judge_12 : decode cX6_judge 12 = .ok (.iload_n 2, 1) := by decide +kernel
theorem dX6_judge_13 : decode cX6_judge 13 = .ok (.aload_n 0, 1) := by decide +kernel
theorem dX6_judge_14 : decode cX6_judge 14 = .ok (.getfield 52, 3) := by decide +kernel
theorem dX6_judge_17 : decode cX6_judge 17 = .ok (.if_icmp .ge 59, 3) := by decide +kernel
theorem dX6_judge_20 : decode cX6_judge 20 = .ok (.iload_n 2, 1) := by decide +kernel
theorem dX6_judge_21 : decode cX6_judge 21 = .ok (.sipush 3000, 3) := by decide +kernel
theorem dX6_judge_24 : decode cX6_judge 24 = .ok (.if_icmp .ge 52, 3) := by decide +kernel
theorem dX6_judge_27 : decode cX6_judge 27 = .ok (.iconst 0, 1) := by decide +kernel
theorem dX6_judge_28 : decode cX6_judge 28 = .ok (.istore_n 3, 1) := by decide +kernel
theorem dX6_judge_29 : decode cX6_judge 29 = .ok (.iload_n 3, 1) := by decide +kernel
theorem dX6_judge_30 : decode cX6_judge 30 = .ok (.aload_n 0, 1) := by decide +kernel
theorem dX6_judge_31 : decode cX6_judge 31 = .ok (.getfield 56, 3) := by decide +kernel
theorem dX6_judge_34 : decode cX6_judge 34 = .ok (.if_icmp .ge 36, 3) := by decide +kernel
theorem dX6_judge_37 : decode cX6_judge 37 = .ok (.iload_n 3, 1) := by decide +kernel
theorem dX6_judge_38 : decode cX6_judge 38 = .ok (.bipush 16, 2) := by decide +kernel
theorem dX6_judge_40 : decode cX6_judge 40 = .ok (.if_icmp .ge 30, 3) := by decide +kernel
theorem dX6_judge_43 : decode cX6_judge 43 = .ok (.aload_n 0, 1) := by decide +kernel
theorem dX6_judge_44 : decode cX6_judge 44 = .ok (.getfield 38, 3) := by decide +kernel
theorem dX6_judge_47 : decode cX6_judge 47 = .ok (.iload_n 2, 1) := by decide +kernel
theorem dX6_judge_48 : decode cX6_judge 48 = .ok (.bipush 16, 2) := by decide +kernel
theorem dX6_judge_50 : decode cX6_judge 50 = .ok (.imul, 1) := by decide +kernel
theorem dX6_judge_51 : decode cX6_judge 51 = .ok (.iload_n 3, 1) := by decide +kernel
theorem dX6_judge_52 : decode cX6_judge 52 = .ok (.iadd, 1) := by decide +kernel
theorem dX6_judge_53 : decode cX6_judge 53 = .ok (.aload_n 0, 1) := by decide +kernel
theorem dX6_judge_54 : decode cX6_judge 54 = .ok (.aload_n 0, 1) := by decide +kernel
theorem dX6_judge_55 : decode cX6_judge 55 = .ok (.iload_n 2, 1) := by decide +kernel
theorem dX6_judge_56 : decode cX6_judge 56 = .ok (.iload_n 3, 1) := by decide +kernel
theorem dX6_judge_57 : decode cX6_judge 57 = .ok (.invokevirtual 59, 3) := by decide +kernel
theorem dX6_judge_60 : decode cX6_judge 60 = .ok (.invokevirtual 63, 3) := by decide +kernel
theorem dX6_judge_63 : decode cX6_judge 63 = .ok (.iastore, 1) := by decide +kernel
theorem dX6_judge_64 : decode cX6_judge 64 = .ok (.iinc 3 1, 3) := by decide +kernel
theorem dX6_judge_67 : decode cX6_judge 67 = .ok (.goto (-38), 3) := by decide +kernel
theorem dX6_judge_70 : decode cX6_judge 70 = .ok (.iinc 2 1, 3) := by decide +kernel
theorem dX6_judge_73 : decode cX6_judge 73 = .ok (.goto (-61), 3) := by decide +kernel
theorem dX6_judge_76 : decode cX6_judge 76 = .ok (.iconst 1, 1) := by decide +kernel
theorem dX6_judge_77 : decode cX6_judge 77 = .ok (.ireturn, 1) := by decide +kernel
set_option maxRecDepth 20000 in
theorem ggX6_explore_X6_gather : GoodIn wsX6_explore wsX6_gather := goodIn_r _ [14, 3, 15, 4, 16, 17, 18, 19, 20, 21, 22, 8, 23, 24, 25, 26, 27, 28, 29, 30, 31, 32, 33, 34, 35, 36, 13, 37, 5, 38, 7, 39, 40, 41, 42, 43, 44, 70, 71, 72, 73, 74, 75, 76, 77, 78, 79, 80, 81, 82, 83, 84, 85, 86, 87, 88, 89, 90, 91, 92, 93, 94, 95, 96, 97, 98, 99] (by decide +kernel) (by decide +kernel)
set_option maxRecDepth 20000 in
theorem gX6_explore_X6_gather : GoodIn wsX6_explore (wsV RX6 67 RX6 yX6_gather wsX6_gather) := goodIn_app (goodIn_of _ (by decide +kernel)) ggX6_explore_X6_gather
set_option maxRecDepth 20000 in
theorem ggX6_explore_J7_fill_53178 : GoodIn wsX6_explore wsJ7_fill_53178 := goodIn_r _ [48] (by decide +kernel) (by decide +kernel)
set_option maxRecDepth 20000 in
theorem gX6_explore_J7_fill_53178 : GoodIn wsX6_explore (va_wsS RX6 70 yJ7_fill_53178 wsJ7_fill_53178) := goodIn_app (goodIn_of _ (by decide +kernel)) ggX6_explore_J7_fill_53178
set_option maxRecDepth 20000 in
theorem ggX6_explore_X6_locate : GoodIn wsX6_explore wsX6_locate := goodIn_r _ [52, 3, 6, 53, 1, 54, 55, 56, 13, 57, 2, 58, 59, 60, 61, 62, 16, 17, 18, 19, 70, 71, 72, 73, 74, 75, 76, 77, 78, 79, 80, 81, 82, 83] (by decide +kernel) (by decide +kernel)
set_option maxRecDepth 20000 in
theorem gX6_explore_X6_locate : GoodIn wsX6_explore (wsV RX6 82 RX6 yX6_locate wsX6_locate) := goodIn_app (goodIn_of _ (by decide +kernel)) ggX6_explore_X6_locate
set_option maxRecDepth 20000 in
theorem ggX6_explore_X6_halve : GoodIn wsX6_explore wsX6_halve := goodIn_r _ [66, 3, 58, 6, 7, 39, 67, 68, 13, 69, 20, 21, 18, 22, 70, 71, 72, 73, 74, 75, 76, 77, 78, 79, 80, 81, 82, 83] (by decide +kernel) (by decide +kernel)
set_option maxRecDepth 20000 in
theorem gX6_explore_X6_halve : GoodIn wsX6_explore (wsV RX6 86 RX6 yX6_halve wsX6_halve) := goodIn_app (goodIn_of _ (by decide +kernel)) ggX6_explore_X6_halve
theorem dX6_explore_0 : decode cX6_explore 0 = .ok (.aload_n 0, 1) := by decide +kernel
theorem dX6_explore_1 : decode cX6_explore 1 = .ok (.iload_n 1, 1) := by decide +kernel
theorem dX6_explore_2 : decode cX6_explore 2 = .ok (.invokevirtual 67, 3) := by decide +kernel
theorem dX6_explore_5 : decode cX6_explore 5 = .ok (.ifCond .ne 5, 3) := by decide +kernel
theorem dX6_explore_10 : decode cX6_explore 10 = .ok (.aload_n 0, 1) := by decide +kernel
theorem dX6_explore_11 : decode cX6_explore 11 = .ok (.getfield 41, 3) := by decide +kernel
theorem dX6_explore_14 : decode cX6_explore 14 = .ok (.iconst 0, 1) := by decide +kernel
theorem dX6_explore_15 : decode cX6_explore 15 = .ok (.invokestatic 70, 3) := by decide +kernel
theorem dX6_explore_18 : decode cX6_explore 18 = .ok (.aload_n 0, 1) := by decide +kernel
theorem dX6_explore_19 : decode cX6_explore 19 = .ok (.iconst 0, 1) := by decide +kernel
theorem dX6_explore_20 : decode cX6_explore 20 = .ok (.putfield 52, 3) := by decide +kernel
theorem dX6_explore_23 : decode cX6_explore 23 = .ok (.iconst 0, 1) := by decide +kernel
theorem dX6_explore_24 : decode cX6_explore 24 = .ok (.istore_n 2, 1) := by decide +kernel
theorem dX6_explore_25 : decode cX6_explore 25 = .ok (.iload_n 2, 1) := by decide +kernel
theorem dX6_explore_26 : decode cX6_explore 26 = .ok (.aload_n 0, 1) := by decide +kernel
theorem dX6_explore_27 : decode cX6_explore 27 = .ok (.getfield 76, 3) := by decide +kernel
theorem dX6_explore_30 : decode cX6_explore 30 = .ok (.if_icmp .ge 72, 3) := by decide +kernel
theorem dX6_explore_102 : decode cX6_explore 102 = .ok (.aload_n 0, 1) := by decide +kernel
theorem dX6_explore_103 : decode cX6_explore 103 = .ok (.invokevirtual 82, 3) := by decide +kernel
theorem dX6_explore_106 : decode cX6_explore 106 = .ok (.pop, 1) := by decide +kernel
theorem dX6_explore_107 : decode cX6_explore 107 = .ok (.iconst 0, 1) := by decide +kernel
theorem dX6_explore_108 : decode cX6_explore 108 = .ok (.istore_n 2, 1) := by decide +kernel
theorem dX6_explore_109 : decode cX6_explore 109 = .ok (.iload_n 2, 1) := by decide +kernel
theorem dX6_explore_110 : decode cX6_explore 110 = .ok (.aload_n 0, 1) := by decide +kernel
theorem dX6_explore_111 : decode cX6_explore 111 = .ok (.getfield 52, 3) := by decide +kernel
theorem dX6_explore_114 : decode cX6_explore 114 = .ok (.if_icmp .ge 71, 3) := by decide +kernel
theorem dX6_explore_117 : decode cX6_explore 117 = .ok (.iload_n 2, 1) := by decide +kernel
theorem dX6_explore_118 : decode cX6_explore 118 = .ok (.sipush 3000, 3) := by decide +kernel
theorem dX6_explore_121 : decode cX6_explore 121 = .ok (.if_icmp .ge 64, 3) := by decide +kernel
theorem dX6_explore_124 : decode cX6_explore 124 = .ok (.iconst 0, 1) := by decide +kernel
theorem dX6_explore_125 : decode cX6_explore 125 = .ok (.istore_n 3, 1) := by decide +kernel
theorem dX6_explore_126 : decode cX6_explore 126 = .ok (.iload_n 3, 1) := by decide +kernel
theorem dX6_explore_127 : decode cX6_explore 127 = .ok (.aload_n 0, 1) := by decide +kernel
theorem dX6_explore_128 : decode cX6_explore 128 = .ok (.getfield 56, 3) := by decide +kernel
theorem dX6_explore_131 : decode cX6_explore 131 = .ok (.if_icmp .ge 48, 3) := by decide +kernel
theorem dX6_explore_134 : decode cX6_explore 134 = .ok (.iload_n 3, 1) := by decide +kernel
theorem dX6_explore_135 : decode cX6_explore 135 = .ok (.bipush 16, 2) := by decide +kernel
theorem dX6_explore_137 : decode cX6_explore 137 = .ok (.if_icmp .ge 42, 3) := by decide +kernel
theorem dX6_explore_140 : decode cX6_explore 140 = .ok (.aload_n 0, 1) := by decide +kernel
theorem dX6_explore_141 : decode cX6_explore 141 = .ok (.iload_n 2, 1) := by decide +kernel
theorem dX6_explore_142 : decode cX6_explore 142 = .ok (.iload_n 3, 1) := by decide +kernel
theorem dX6_explore_143 : decode cX6_explore 143 = .ok (.invokevirtual 86, 3) := by decide +kernel
theorem dX6_explore_146 : decode cX6_explore 146 = .ok (.aload_n 0, 1) := by decide +kernel
theorem dX6_explore_147 : decode cX6_explore 147 = .ok (.invokevirtual 82, 3) := by decide +kernel
theorem dX6_explore_150 : decode cX6_explore 150 = .ok (.istore 4, 2) := by decide +kernel
theorem dX6_explore_152 : decode cX6_explore 152 = .ok (.iload 4, 2) := by decide +kernel
theorem dX6_explore_154 : decode cX6_explore 154 = .ok (.iconst (-1), 1) := by decide +kernel
theorem dX6_explore_155 : decode cX6_explore 155 = .ok (.if_icmp .ne 5, 3) := by decide +kernel
theorem dX6_explore_160 : decode cX6_explore 160 = .ok (.aload_n 0, 1) := by decide +kernel
theorem dX6_explore_161 : decode cX6_explore 161 = .ok (.getfield 35, 3) := by decide +kernel
theorem dX6_explore_164 : decode cX6_explore 164 = .ok (.iload_n 2, 1) := by decide +kernel
theorem dX6_explore_165 : decode cX6_explore 165 = .ok (.bipush 16, 2) := by decide +kernel
theorem dX6_explore_167 : decode cX6_explore 167 = .ok (.imul, 1) := by decide +kernel
theorem dX6_explore_168 : decode cX6_explore 168 = .ok (.iload_n 3, 1) := by decide +kernel
theorem dX6_explore_169 : decode cX6_explore 169 = .ok (.iadd, 1) := by decide +kernel
theorem dX6_explore_170 : decode cX6_explore 170 = .ok (.iload 4, 2) := by decide +kernel
theorem dX6_explore_172 : decode cX6_explore 172 = .ok (.iastore, 1) := by decide +kernel
theorem dX6_explore_173 : decode cX6_explore 173 = .ok (.iinc 3 1, 3) := by decide +kernel
theorem dX6_explore_176 : decode cX6_explore 176 = .ok (.goto (-50), 3) := by decide +kernel
theorem dX6_explore_179 : decode cX6_explore 179 = .ok (.iinc 2 1, 3) := by decide +kernel
theorem dX6_explore_182 : decode cX6_explore 182 = .ok (.goto (-73), 3) := by decide +kernel
theorem dX6_explore_185 : decode cX6_explore 185 = .ok (.iconst 1, 1) := by decide +kernel
theorem dX6_explore_186 : decode cX6_explore 186 = .ok (.ireturn, 1) := by decide +kernel
theorem dX6_gather_0 : decode cX6_gather 0 = .ok (.aload_n 0, 1) := by decide +kernel
theorem dX6_gather_1 : decode cX6_gather 1 = .ok (.iconst 0, 1) := by decide +kernel
theorem dX6_gather_2 : decode cX6_gather 2 = .ok (.putfield 76, 3) := by decide +kernel
theorem dX6_gather_5 : decode cX6_gather 5 = .ok (.aload_n 0, 1) := by decide +kernel
theorem dX6_gather_6 : decode cX6_gather 6 = .ok (.iload_n 1, 1) := by decide +kernel
theorem dX6_gather_7 : decode cX6_gather 7 = .ok (.putfield 90, 3) := by decide +kernel
theorem dX6_gather_10 : decode cX6_gather 10 = .ok (.aload_n 0, 1) := by decide +kernel
theorem dX6_gather_11 : decode cX6_gather 11 = .ok (.iconst 1, 1) := by decide +kernel
theorem dX6_gather_12 : decode cX6_gather 12 = .ok (.iconst 0, 1) := by decide +kernel
theorem dX6_gather_13 : decode cX6_gather 13 = .ok (.iconst 4, 1) := by decide +kernel
theorem dX6_gather_14 : decode cX6_gather 14 = .ok (.aload_n 0, 1) := by decide +kernel
theorem dX6_gather_15 : decode cX6_gather 15 = .ok (.getfield 44, 3) := by decide +kernel
theorem dX6_gather_18 : decode cX6_gather 18 = .ok (.getfield 93, 3) := by decide +kernel
theorem dX6_gather_21 : decode cX6_gather 21 = .ok (.invokestatic 96, 3) := by decide +kernel
theorem dX6_gather_24 : decode cX6_gather 24 = .ok (.invokestatic 101, 3) := by decide +kernel
theorem dX6_gather_27 : decode cX6_gather 27 = .ok (.ishl, 1) := by decide +kernel
theorem dX6_gather_28 : decode cX6_gather 28 = .ok (.putfield 56, 3) := by decide +kernel
theorem dX6_gather_31 : decode cX6_gather 31 = .ok (.iconst 0, 1) := by decide +kernel
theorem dX6_gather_32 : decode cX6_gather 32 = .ok (.istore_n 2, 1) := by decide +kernel
theorem dX6_gather_33 : decode cX6_gather 33 = .ok (.iload_n 2, 1) := by decide +kernel
theorem dX6_gather_34 : decode cX6_gather 34 = .ok (.bipush 24, 2) := by decide +kernel
theorem dX6_gather_36 : decode cX6_gather 36 = .ok (.if_icmp .gt 66, 3) := by decide +kernel
theorem dX6_gather_39 : decode cX6_gather 39 = .ok (.iload_n 1, 1) := by decide +kernel
theorem dX6_gather_40 : decode cX6_gather 40 = .ok (.iload_n 2, 1) := by decide +kernel
theorem dX6_gather_41 : decode cX6_gather 41 = .ok (.iushr, 1) := by decide +kernel
theorem dX6_gather_42 : decode cX6_gather 42 = .ok (.iconst 1, 1) := by decide +kernel
theorem dX6_gather_43 : decode cX6_gather 43 = .ok (.iand, 1) := by decide +kernel
theorem dX6_gather_44 : decode cX6_gather 44 = .ok (.iconst 1, 1) := by decide +kernel
theorem dX6_gather_45 : decode cX6_gather 45 = .ok (.if_icmp .ne 15, 3) := by decide +kernel
theorem dX6_gather_60 : decode cX6_gather 60 = .ok (.iconst 0, 1) := by decide +kernel
theorem dX6_gather_61 : decode cX6_gather 61 = .ok (.istore_n 3, 1) := by decide +kernel
theorem dX6_gather_62 : decode cX6_gather 62 = .ok (.iconst 0, 1) := by decide +kernel
theorem dX6_gather_63 : decode cX6_gather 63 = .ok (.istore 4, 2) := by decide +kernel
theorem dX6_gather_65 : decode cX6_gather 65 = .ok (.iload 4, 2) := by decide +kernel
theorem dX6_gather_67 : decode cX6_gather 67 = .ok (.iload_n 3, 1) := by decide +kernel
theorem dX6_gather_68 : decode cX6_gather 68 = .ok (.if_icmp .ge 28, 3) := by decide +kernel
theorem dX6_gather_96 : decode cX6_gather 96 = .ok (.iinc 2 1, 3) := by decide +kernel
theorem dX6_gather_99 : decode cX6_gather 99 = .ok (.goto (-66), 3) := by decide +kernel
theorem dX6_gather_102 : decode cX6_gather 102 = .ok (.bipush 24, 2) := by decide +kernel
theorem dX6_gather_104 : decode cX6_gather 104 = .ok (.istore_n 2, 1) := by decide +kernel
theorem dX6_gather_105 : decode cX6_gather 105 = .ok (.iload_n 2, 1) := by decide +kernel
theorem dX6_gather_106 : decode cX6_gather 106 = .ok (.ifCond .lt 44, 3) := by decide +kernel
theorem dX6_gather_109 : decode cX6_gather 109 = .ok (.aload_n 0, 1) := by decide +kernel
theorem dX6_gather_110 : decode cX6_gather 110 = .ok (.dup, 1) := by decide +kernel
theorem dX6_gather_111 : decode cX6_gather 111 = .ok (.getfield 90, 3) := by decide +kernel
theorem dX6_gather_114 : decode cX6_gather 114 = .ok (.aload_n 0, 1) := by decide +kernel
theorem dX6_gather_115 : decode cX6_gather 115 = .ok (.getfield 90, 3) := by decide +kernel
theorem dX6_gather_118 : decode cX6_gather 118 = .ok (.iload_n 2, 1) := by decide +kernel
theorem dX6_gather_119 : decode cX6_gather 119 = .ok (.iushr, 1) := by decide +kernel
theorem dX6_gather_120 : decode cX6_gather 120 = .ok (.iconst 1, 1) := by decide +kernel
theorem dX6_gather_121 : decode cX6_gather 121 = .ok (.iand, 1) := by decide +kernel
theorem dX6_gather_122 : decode cX6_gather 122 = .ok (.iconst 1, 1) := by decide +kernel
theorem dX6_gather_123 : decode cX6_gather 123 = .ok (.if_icmp .ne 16, 3) := by decide +kernel
theorem dX6_gather_139 : decode cX6_gather 139 = .ok (.iconst 0, 1) := by decide +kernel
theorem dX6_gather_140 : decode cX6_gather 140 = .ok (.ior, 1) := by decide +kernel
theorem dX6_gather_141 : decode cX6_gather 141 = .ok (.putfield 90, 3) := by decide +kernel
theorem dX6_gather_144 : decode cX6_gather 144 = .ok (.iinc 2 (-1), 3) := by decide +kernel
theorem dX6_gather_147 : decode cX6_gather 147 = .ok (.goto (-42), 3) := by decide +kernel
theorem dX6_gather_150 : decode cX6_gather 150 = .ok (.iconst 1, 1) := by decide +kernel
theorem dX6_gather_151 : decode cX6_gather 151 = .ok (.ireturn, 1) := by decide +kernel
theorem dX6_halve_0 : decode cX6_halve 0 = .ok (.iload_n 1, 1) := by decide +kernel
theorem dX6_halve_1 : decode cX6_halve 1 = .ok (.bipush 32, 2) := by decide +kernel
theorem dX6_halve_3 : decode cX6_halve 3 = .ok (.imul, 1) := by decide +kernel
theorem dX6_halve_4 : decode cX6_halve 4 = .ok (.istore_n 3, 1) := by decide +kernel
theorem dX6_halve_5 : decode cX6_halve 5 = .ok (.iload_n 2, 1) := by decide +kernel
theorem dX6_halve_6 : decode cX6_halve 6 = .ok (.bipush 32, 2) := by decide +kernel
theorem dX6_halve_8 : decode cX6_halve 8 = .ok (.imul, 1) := by decide +kernel
theorem dX6_halve_9 : decode cX6_halve 9 = .ok (.istore 4, 2) := by decide +kernel
theorem dX6_halve_11 : decode cX6_halve 11 = .ok (.iconst 0, 1) := by decide +kernel
theorem dX6_halve_12 : decode cX6_halve 12 = .ok (.istore 5, 2) := by decide +kernel
theorem dX6_halve_14 : decode cX6_halve 14 = .ok (.iload 5, 2) := by decide +kernel
theorem dX6_halve_16 : decode cX6_halve 16 = .ok (.aload_n 0, 1) := by decide +kernel
theorem dX6_halve_17 : decode cX6_halve 17 = .ok (.getfield 76, 3) := by decide +kernel
theorem dX6_halve_20 : decode cX6_halve 20 = .ok (.if_icmp .ge 77, 3) := by decide +kernel
theorem dX6_halve_97 : decode cX6_halve 97 = .ok (.return_, 1) := by decide +kernel
set_option maxRecDepth 20000 in
theorem ggX6_locate_X6_addPlace : GoodIn wsX6_locate wsX6_addPlace := goodIn_r _ [9, 10, 1, 11, 2, 4, 20, 21, 22, 23, 24, 25, 26, 27, 28, 29, 30, 31, 32, 33] (by decide +kernel) (by decide +kernel)
set_option maxRecDepth 20000 in
theorem gX6_locate_X6_addPlace : GoodIn wsX6_locate (wsV RX6 117 RX6 yX6_addPlace wsX6_addPlace) := goodIn_app (goodIn_of _ (by decide +kernel)) ggX6_locate_X6_addPlace
set_option maxRecDepth 20000 in
theorem ggX6_locate_X6_isFresh : GoodIn wsX6_locate wsX6_isFresh := goodIn_r _ [15, 16, 17, 18, 19, 1, 11, 2, 20, 21, 22, 23, 24, 25, 26, 27, 28, 29, 30, 31, 32, 33] (by decide +kernel) (by decide +kernel)
set_option maxRecDepth 20000 in
theorem gX6_locate_X6_isFresh : GoodIn wsX6_locate (wsV RX6 120 RX6 yX6_isFresh wsX6_isFresh) := goodIn_app (goodIn_of _ (by decide +kernel)) ggX6_locate_X6_isFresh
theorem dX6_locate_0 : decode cX6_locate 0 = .ok (.bipush 7, 2) := by decide +kernel
theorem dX6_locate_2 : decode cX6_locate 2 = .ok (.istore_n 1, 1) := by decide +kernel
theorem dX6_locate_3 : decode cX6_locate 3 = .ok (.iconst 0, 1) := by decide +kernel
theorem dX6_locate_4 : decode cX6_locate 4 = .ok (.istore_n 2, 1) := by decide +kernel
theorem dX6_locate_5 : decode cX6_locate 5 = .ok (.iload_n 2, 1) := by decide +kernel
theorem dX6_locate_6 : decode cX6_locate 6 = .ok (.aload_n 0, 1) := by decide +kernel
theorem dX6_locate_7 : decode cX6_locate 7 = .ok (.getfield 76, 3) := by decide +kernel
theorem dX6_locate_10 : decode cX6_locate 10 = .ok (.if_icmp .ge 27, 3) := by decide +kernel
theorem dX6_locate_37 : decode cX6_locate 37 = .ok (.iload_n 1, 1) := by decide +kernel
theorem dX6_locate_38 : decode cX6_locate 38 = .ok (.iload_n 1, 1) := by decide +kernel
theorem dX6_locate_39 : decode cX6_locate 39 = .ok (.bipush 15, 2) := by decide +kernel
theorem dX6_locate_41 : decode cX6_locate 41 = .ok (.iushr, 1) := by decide +kernel
theorem dX6_locate_42 : decode cX6_locate 42 = .ok (.ixor, 1) := by decide +kernel
theorem dX6_locate_43 : decode cX6_locate 43 = .ok (.ldc 116, 2) := by decide +kernel
theorem dX6_locate_45 : decode cX6_locate 45 = .ok (.imul, 1) := by decide +kernel
theorem dX6_locate_46 : decode cX6_locate 46 = .ok (.istore_n 1, 1) := by decide +kernel
theorem dX6_locate_47 : decode cX6_locate 47 = .ok (.iload_n 1, 1) := by decide +kernel
theorem dX6_locate_48 : decode cX6_locate 48 = .ok (.iload_n 1, 1) := by decide +kernel
theorem dX6_locate_49 : decode cX6_locate 49 = .ok (.bipush 13, 2) := by decide +kernel
theorem dX6_locate_51 : decode cX6_locate 51 = .ok (.iushr, 1) := by decide +kernel
theorem dX6_locate_52 : decode cX6_locate 52 = .ok (.ixor, 1) := by decide +kernel
theorem dX6_locate_53 : decode cX6_locate 53 = .ok (.sipush 8191, 3) := by decide +kernel
theorem dX6_locate_56 : decode cX6_locate 56 = .ok (.iand, 1) := by decide +kernel
theorem dX6_locate_57 : decode cX6_locate 57 = .ok (.istore_n 2, 1) := by decide +kernel
theorem dX6_locate_58 : decode cX6_locate 58 = .ok (.iconst 0, 1) := by decide +kernel
theorem dX6_locate_59 : decode cX6_locate 59 = .ok (.istore_n 3, 1) := by decide +kernel
theorem dX6_locate_60 : decode cX6_locate 60 = .ok (.iload_n 3, 1) := by decide +kernel
theorem dX6_locate_61 : decode cX6_locate 61 = .ok (.sipush 8192, 3) := by decide +kernel
theorem dX6_locate_64 : decode cX6_locate 64 = .ok (.if_icmp .ge 50, 3) := by decide +kernel
theorem dX6_locate_67 : decode cX6_locate 67 = .ok (.aload_n 0, 1) := by decide +kernel
theorem dX6_locate_68 : decode cX6_locate 68 = .ok (.getfield 41, 3) := by decide +kernel
theorem dX6_locate_71 : decode cX6_locate 71 = .ok (.iload_n 2, 1) := by decide +kernel
theorem dX6_locate_72 : decode cX6_locate 72 = .ok (.iaload, 1) := by decide +kernel
theorem dX6_locate_73 : decode cX6_locate 73 = .ok (.iconst 1, 1) := by decide +kernel
theorem dX6_locate_74 : decode cX6_locate 74 = .ok (.isub, 1) := by decide +kernel
theorem dX6_locate_75 : decode cX6_locate 75 = .ok (.istore 4, 2) := by decide +kernel
theorem dX6_locate_77 : decode cX6_locate 77 = .ok (.iload 4, 2) := by decide +kernel
theorem dX6_locate_79 : decode cX6_locate 79 = .ok (.ifCond .ge 9, 3) := by decide +kernel
theorem dX6_locate_82 : decode cX6_locate 82 = .ok (.aload_n 0, 1) := by decide +kernel
theorem dX6_locate_83 : decode cX6_locate 83 = .ok (.iload_n 2, 1) := by decide +kernel
theorem dX6_locate_84 : decode cX6_locate 84 = .ok (.invokevirtual 117, 3) := by decide +kernel
theorem dX6_locate_87 : decode cX6_locate 87 = .ok (.ireturn, 1) := by decide +kernel
theorem dX6_locate_88 : decode cX6_locate 88 = .ok (.aload_n 0, 1) := by decide +kernel
theorem dX6_locate_89 : decode cX6_locate 89 = .ok (.iload 4, 2) := by decide +kernel
theorem dX6_locate_91 : decode cX6_locate 91 = .ok (.invokevirtual 120, 3) := by decide +kernel
theorem dX6_locate_94 : decode cX6_locate 94 = .ok (.ifCond .eq 6, 3) := by decide +kernel
theorem dX6_locate_97 : decode cX6_locate 97 = .ok (.iload 4, 2) := by decide +kernel
theorem dX6_locate_99 : decode cX6_locate 99 = .ok (.ireturn, 1) := by decide +kernel
theorem dX6_isFresh_0 : decode cX6_isFresh 0 = .ok (.iload_n 1, 1) := by decide +kernel
theorem dX6_isFresh_1 : decode cX6_isFresh 1 = .ok (.sipush 2999, 3) := by decide +kernel
theorem dX6_isFresh_4 : decode cX6_isFresh 4 = .ok (.invokestatic 96, 3) := by decide +kernel
theorem dX6_isFresh_7 : decode cX6_isFresh 7 = .ok (.bipush 32, 2) := by decide +kernel
theorem dX6_isFresh_9 : decode cX6_isFresh 9 = .ok (.imul, 1) := by decide +kernel
theorem dX6_isFresh_10 : decode cX6_isFresh 10 = .ok (.istore_n 2, 1) := by decide +kernel
theorem dX6_isFresh_11 : decode cX6_isFresh 11 = .ok (.iconst 0, 1) := by decide +kernel
theorem dX6_isFresh_12 : decode cX6_isFresh 12 = .ok (.istore_n 3, 1) := by decide +kernel
theorem dX6_isFresh_13 : decode cX6_isFresh 13 = .ok (.iload_n 3, 1) := by decide +kernel
theorem dX6_isFresh_14 : decode cX6_isFresh 14 = .ok (.aload_n 0, 1) := by decide +kernel
theorem dX6_isFresh_15 : decode cX6_isFresh 15 = .ok (.getfield 76, 3) := by decide +kernel
theorem dX6_isFresh_18 : decode cX6_isFresh 18 = .ok (.if_icmp .ge 34, 3) := by decide +kernel
theorem dX6_isFresh_52 : decode cX6_isFresh 52 = .ok (.iconst 1, 1) := by decide +kernel
theorem dX6_isFresh_53 : decode cX6_isFresh 53 = .ok (.ireturn, 1) := by decide +kernel
theorem dX6_addPlace_0 : decode cX6_addPlace 0 = .ok (.aload_n 0, 1) := by decide +kernel
theorem dX6_addPlace_1 : decode cX6_addPlace 1 = .ok (.getfield 52, 3) := by decide +kernel
theorem dX6_addPlace_4 : decode cX6_addPlace 4 = .ok (.ifCond .lt 13, 3) := by decide +kernel
theorem dX6_addPlace_7 : decode cX6_addPlace 7 = .ok (.aload_n 0, 1) := by decide +kernel
theorem dX6_addPlace_8 : decode cX6_addPlace 8 = .ok (.getfield 52, 3) := by decide +kernel
theorem dX6_addPlace_11 : decode cX6_addPlace 11 = .ok (.sipush 3000, 3) := by decide +kernel
theorem dX6_addPlace_14 : decode cX6_addPlace 14 = .ok (.if_icmp .lt 5, 3) := by decide +kernel
theorem dX6_addPlace_19 : decode cX6_addPlace 19 = .ok (.aload_n 0, 1) := by decide +kernel
theorem dX6_addPlace_20 : decode cX6_addPlace 20 = .ok (.getfield 52, 3) := by decide +kernel
theorem dX6_addPlace_23 : decode cX6_addPlace 23 = .ok (.bipush 32, 2) := by decide +kernel
theorem dX6_addPlace_25 : decode cX6_addPlace 25 = .ok (.imul, 1) := by decide +kernel
theorem dX6_addPlace_26 : decode cX6_addPlace 26 = .ok (.istore_n 2, 1) := by decide +kernel
theorem dX6_addPlace_27 : decode cX6_addPlace 27 = .ok (.iconst 0, 1) := by decide +kernel
theorem dX6_addPlace_28 : decode cX6_addPlace 28 = .ok (.istore_n 3, 1) := by decide +kernel
theorem dX6_addPlace_29 : decode cX6_addPlace 29 = .ok (.iload_n 3, 1) := by decide +kernel
theorem dX6_addPlace_30 : decode cX6_addPlace 30 = .ok (.aload_n 0, 1) := by decide +kernel
theorem dX6_addPlace_31 : decode cX6_addPlace 31 = .ok (.getfield 76, 3) := by decide +kernel
theorem dX6_addPlace_34 : decode cX6_addPlace 34 = .ok (.if_icmp .ge 29, 3) := by decide +kernel
theorem dX6_addPlace_63 : decode cX6_addPlace 63 = .ok (.aload_n 0, 1) := by decide +kernel
theorem dX6_addPlace_64 : decode cX6_addPlace 64 = .ok (.dup, 1) := by decide +kernel
theorem dX6_addPlace_65 : decode cX6_addPlace 65 = .ok (.getfield 52, 3) := by decide +kernel
theorem dX6_addPlace_68 : decode cX6_addPlace 68 = .ok (.iconst 1, 1) := by decide +kernel
theorem dX6_addPlace_69 : decode cX6_addPlace 69 = .ok (.iadd, 1) := by decide +kernel
theorem dX6_addPlace_70 : decode cX6_addPlace 70 = .ok (.putfield 52, 3) := by decide +kernel
theorem dX6_addPlace_73 : decode cX6_addPlace 73 = .ok (.aload_n 0, 1) := by decide +kernel
theorem dX6_addPlace_74 : decode cX6_addPlace 74 = .ok (.getfield 41, 3) := by decide +kernel
theorem dX6_addPlace_77 : decode cX6_addPlace 77 = .ok (.iload_n 1, 1) := by decide +kernel
theorem dX6_addPlace_78 : decode cX6_addPlace 78 = .ok (.sipush 8191, 3) := by decide +kernel
theorem dX6_addPlace_81 : decode cX6_addPlace 81 = .ok (.iand, 1) := by decide +kernel
theorem dX6_addPlace_82 : decode cX6_addPlace 82 = .ok (.aload_n 0, 1) := by decide +kernel
theorem dX6_addPlace_83 : decode cX6_addPlace 83 = .ok (.getfield 52, 3) := by decide +kernel
theorem dX6_addPlace_86 : decode cX6_addPlace 86 = .ok (.iastore, 1) := by decide +kernel
theorem dX6_addPlace_87 : decode cX6_addPlace 87 = .ok (.aload_n 0, 1) := by decide +kernel
theorem dX6_addPlace_88 : decode cX6_addPlace 88 = .ok (.getfield 52, 3) := by decide +kernel
theorem dX6_addPlace_91 : decode cX6_addPlace 91 = .ok (.iconst 1, 1) := by decide +kernel
theorem dX6_addPlace_92 : decode cX6_addPlace 92 = .ok (.isub, 1) := by decide +kernel
theorem dX6_addPlace_93 : decode cX6_addPlace 93 = .ok (.ireturn, 1) := by decide +kernel
theorem dX6_accepts_0 : decode cX6_accepts 0 = .ok (.iload_n 1, 1) := by decide +kernel
theorem dX6_accepts_1 : decode cX6_accepts 1 = .ok (.ifCond .lt 24, 3) := by decide +kernel
theorem dX6_accepts_4 : decode cX6_accepts 4 = .ok (.iload_n 1, 1) := by decide +kernel
theorem dX6_accepts_5 : decode cX6_accepts 5 = .ok (.sipush 3000, 3) := by decide +kernel
theorem dX6_accepts_8 : decode cX6_accepts 8 = .ok (.if_icmp .ge 17, 3) := by decide +kernel
theorem dX6_accepts_11 : decode cX6_accepts 11 = .ok (.iload_n 2, 1) := by decide +kernel
theorem dX6_accepts_12 : decode cX6_accepts 12 = .ok (.ifCond .lt 13, 3) := by decide +kernel
theorem dX6_accepts_15 : decode cX6_accepts 15 = .ok (.iload_n 2, 1) := by decide +kernel
theorem dX6_accepts_16 : decode cX6_accepts 16 = .ok (.bipush 16, 2) := by decide +kernel
theorem dX6_accepts_18 : decode cX6_accepts 18 = .ok (.if_icmp .ge 7, 3) := by decide +kernel
theorem dX6_accepts_21 : decode cX6_accepts 21 = .ok (.iconst 1, 1) := by decide +kernel
theorem dX6_accepts_22 : decode cX6_accepts 22 = .ok (.goto 4, 3) := by decide +kernel
theorem dX6_accepts_26 : decode cX6_accepts 26 = .ok (.istore 5, 2) := by decide +kernel
theorem dX6_accepts_28 : decode cX6_accepts 28 = .ok (.iload 5, 2) := by decide +kernel
theorem dX6_accepts_30 : decode cX6_accepts 30 = .ok (.ifCond .eq 17, 3) := by decide +kernel
theorem dX6_accepts_33 : decode cX6_accepts 33 = .ok (.aload_n 0, 1) := by decide +kernel
theorem dX6_accepts_34 : decode cX6_accepts 34 = .ok (.getfield 38, 3) := by decide +kernel
theorem dX6_accepts_37 : decode cX6_accepts 37 = .ok (.iload_n 1, 1) := by decide +kernel
theorem dX6_accepts_38 : decode cX6_accepts 38 = .ok (.bipush 16, 2) := by decide +kernel
theorem dX6_accepts_40 : decode cX6_accepts 40 = .ok (.imul, 1) := by decide +kernel
theorem dX6_accepts_41 : decode cX6_accepts 41 = .ok (.iload_n 2, 1) := by decide +kernel
theorem dX6_accepts_42 : decode cX6_accepts 42 = .ok (.iadd, 1) := by decide +kernel
theorem dX6_accepts_43 : decode cX6_accepts 43 = .ok (.iaload, 1) := by decide +kernel
theorem dX6_accepts_44 : decode cX6_accepts 44 = .ok (.goto 4, 3) := by decide +kernel
theorem dX6_accepts_48 : decode cX6_accepts 48 = .ok (.istore 6, 2) := by decide +kernel
theorem dX6_accepts_50 : decode cX6_accepts 50 = .ok (.iload 5, 2) := by decide +kernel
theorem dX6_accepts_52 : decode cX6_accepts 52 = .ok (.ifCond .eq 23, 3) := by decide +kernel
theorem dX6_accepts_55 : decode cX6_accepts 55 = .ok (.iload 6, 2) := by decide +kernel
theorem dX6_accepts_57 : decode cX6_accepts 57 = .ok (.iload_n 3, 1) := by decide +kernel
theorem dX6_accepts_58 : decode cX6_accepts 58 = .ok (.iand, 1) := by decide +kernel
theorem dX6_accepts_59 : decode cX6_accepts 59 = .ok (.iload_n 3, 1) := by decide +kernel
theorem dX6_accepts_60 : decode cX6_accepts 60 = .ok (.if_icmp .ne 15, 3) := by decide +kernel
theorem dX6_accepts_63 : decode cX6_accepts 63 = .ok (.iload 6, 2) := by decide +kernel
theorem dX6_accepts_65 : decode cX6_accepts 65 = .ok (.iload 4, 2) := by decide +kernel
theorem dX6_accepts_67 : decode cX6_accepts 67 = .ok (.iand, 1) := by decide +kernel
theorem dX6_accepts_68 : decode cX6_accepts 68 = .ok (.ifCond .ne 7, 3) := by decide +kernel
theorem dX6_accepts_71 : decode cX6_accepts 71 = .ok (.iconst 1, 1) := by decide +kernel
theorem dX6_accepts_72 : decode cX6_accepts 72 = .ok (.goto 4, 3) := by decide +kernel
theorem dX6_accepts_76 : decode cX6_accepts 76 = .ok (.ireturn, 1) := by decide +kernel
set_option maxRecDepth 20000 in
theorem ggX6_acceptedBy_X6_accepts : GoodIn wsX6_acceptedBy wsX6_accepts := goodIn_r _ [6, 7, 8, 9, 10, 11, 12, 13, 14, 15, 16, 17, 18, 19, 20, 21] (by decide +kernel) (by decide +kernel)
set_option maxRecDepth 20000 in
theorem gX6_acceptedBy_X6_accepts : GoodIn wsX6_acceptedBy (wsV RX6 123 RX6 yX6_accepts wsX6_accepts) := goodIn_app (goodIn_of _ (by decide +kernel)) ggX6_acceptedBy_X6_accepts
theorem dX6_acceptedBy_0 : decode cX6_acceptedBy 0 = .ok (.iconst 0, 1) := by decide +kernel
theorem dX6_acceptedBy_1 : decode cX6_acceptedBy 1 = .ok (.istore 4, 2) := by decide +kernel
theorem dX6_acceptedBy_3 : decode cX6_acceptedBy 3 = .ok (.iconst 0, 1) := by decide +kernel
theorem dX6_acceptedBy_4 : decode cX6_acceptedBy 4 = .ok (.istore 5, 2) := by decide +kernel
theorem dX6_acceptedBy_6 : decode cX6_acceptedBy 6 = .ok (.iload 5, 2) := by decide +kernel
theorem dX6_acceptedBy_8 : decode cX6_acceptedBy 8 = .ok (.aload_n 0, 1) := by decide +kernel
theorem dX6_acceptedBy_9 : decode cX6_acceptedBy 9 = .ok (.getfield 56, 3) := by decide +kernel
theorem dX6_acceptedBy_12 : decode cX6_acceptedBy 12 = .ok (.if_icmp .ge 34, 3) := by decide +kernel
theorem dX6_acceptedBy_15 : decode cX6_acceptedBy 15 = .ok (.iload 4, 2) := by decide +kernel
theorem dX6_acceptedBy_17 : decode cX6_acceptedBy 17 = .ok (.aload_n 0, 1) := by decide +kernel
theorem dX6_acceptedBy_18 : decode cX6_acceptedBy 18 = .ok (.iload_n 1, 1) := by decide +kernel
theorem dX6_acceptedBy_19 : decode cX6_acceptedBy 19 = .ok (.iload 5, 2) := by decide +kernel
theorem dX6_acceptedBy_21 : decode cX6_acceptedBy 21 = .ok (.iload_n 2, 1) := by decide +kernel
theorem dX6_acceptedBy_22 : decode cX6_acceptedBy 22 = .ok (.iload_n 3, 1) := by decide +kernel
theorem dX6_acceptedBy_23 : decode cX6_acceptedBy 23 = .ok (.invokevirtual 123, 3) := by decide +kernel
theorem dX6_acceptedBy_26 : decode cX6_acceptedBy 26 = .ok (.ifCond .eq 10, 3) := by decide +kernel
theorem dX6_acceptedBy_29 : decode cX6_acceptedBy 29 = .ok (.iconst 1, 1) := by decide +kernel
theorem dX6_acceptedBy_30 : decode cX6_acceptedBy 30 = .ok (.iload 5, 2) := by decide +kernel
theorem dX6_acceptedBy_32 : decode cX6_acceptedBy 32 = .ok (.ishl, 1) := by decide +kernel
theorem dX6_acceptedBy_33 : decode cX6_acceptedBy 33 = .ok (.goto 4, 3) := by decide +kernel
theorem dX6_acceptedBy_37 : decode cX6_acceptedBy 37 = .ok (.ior, 1) := by decide +kernel
theorem dX6_acceptedBy_38 : decode cX6_acceptedBy 38 = .ok (.istore 4, 2) := by decide +kernel
theorem dX6_acceptedBy_40 : decode cX6_acceptedBy 40 = .ok (.iinc 5 1, 3) := by decide +kernel
theorem dX6_acceptedBy_43 : decode cX6_acceptedBy 43 = .ok (.goto (-37), 3) := by decide +kernel
theorem dX6_acceptedBy_46 : decode cX6_acceptedBy 46 = .ok (.iload 4, 2) := by decide +kernel
theorem dX6_acceptedBy_48 : decode cX6_acceptedBy 48 = .ok (.ireturn, 1) := by decide +kernel
theorem dX6_atomsAt_0 : decode cX6_atomsAt 0 = .ok (.iconst 0, 1) := by decide +kernel
theorem dX6_atomsAt_1 : decode cX6_atomsAt 1 = .ok (.istore_n 3, 1) := by decide +kernel
theorem dX6_atomsAt_2 : decode cX6_atomsAt 2 = .ok (.iload_n 1, 1) := by decide +kernel
theorem dX6_atomsAt_3 : decode cX6_atomsAt 3 = .ok (.sipush 2999, 3) := by decide +kernel
theorem dX6_atomsAt_6 : decode cX6_atomsAt 6 = .ok (.invokestatic 96, 3) := by decide +kernel
theorem dX6_atomsAt_9 : decode cX6_atomsAt 9 = .ok (.bipush 32, 2) := by decide +kernel
theorem dX6_atomsAt_11 : decode cX6_atomsAt 11 = .ok (.imul, 1) := by decide +kernel
theorem dX6_atomsAt_12 : decode cX6_atomsAt 12 = .ok (.istore 4, 2) := by decide +kernel
theorem dX6_atomsAt_14 : decode cX6_atomsAt 14 = .ok (.iconst 0, 1) := by decide +kernel
theorem dX6_atomsAt_15 : decode cX6_atomsAt 15 = .ok (.istore 5, 2) := by decide +kernel
theorem dX6_atomsAt_17 : decode cX6_atomsAt 17 = .ok (.iload 5, 2) := by decide +kernel
theorem dX6_atomsAt_19 : decode cX6_atomsAt 19 = .ok (.aload_n 0, 1) := by decide +kernel
theorem dX6_atomsAt_20 : decode cX6_atomsAt 20 = .ok (.getfield 76, 3) := by decide +kernel
theorem dX6_atomsAt_23 : decode cX6_atomsAt 23 = .ok (.if_icmp .ge 126, 3) := by decide +kernel
theorem dX6_atomsAt_149 : decode cX6_atomsAt 149 = .ok (.iload_n 3, 1) := by decide +kernel
theorem dX6_atomsAt_150 : decode cX6_atomsAt 150 = .ok (.ireturn, 1) := by decide +kernel
theorem dX6_soOf_0 : decode cX6_soOf 0 = .ok (.iconst 0, 1) := by decide +kernel
theorem dX6_soOf_1 : decode cX6_soOf 1 = .ok (.istore_n 2, 1) := by decide +kernel
theorem dX6_soOf_2 : decode cX6_soOf 2 = .ok (.iconst 0, 1) := by decide +kernel
theorem dX6_soOf_3 : decode cX6_soOf 3 = .ok (.istore_n 3, 1) := by decide +kernel
theorem dX6_soOf_4 : decode cX6_soOf 4 = .ok (.iload_n 3, 1) := by decide +kernel
theorem dX6_soOf_5 : decode cX6_soOf 5 = .ok (.bipush 24, 2) := by decide +kernel
theorem dX6_soOf_7 : decode cX6_soOf 7 = .ok (.if_icmp .gt 37, 3) := by decide +kernel
theorem dX6_soOf_10 : decode cX6_soOf 10 = .ok (.aload_n 0, 1) := by decide +kernel
theorem dX6_soOf_11 : decode cX6_soOf 11 = .ok (.getfield 90, 3) := by decide +kernel
theorem dX6_soOf_14 : decode cX6_soOf 14 = .ok (.iload_n 3, 1) := by decide +kernel
theorem dX6_soOf_15 : decode cX6_soOf 15 = .ok (.iushr, 1) := by decide +kernel
theorem dX6_soOf_16 : decode cX6_soOf 16 = .ok (.iconst 1, 1) := by decide +kernel
theorem dX6_soOf_17 : decode cX6_soOf 17 = .ok (.iand, 1) := by decide +kernel
theorem dX6_soOf_18 : decode cX6_soOf 18 = .ok (.iconst 1, 1) := by decide +kernel
theorem dX6_soOf_19 : decode cX6_soOf 19 = .ok (.if_icmp .ne 19, 3) := by decide +kernel
theorem dX6_soOf_38 : decode cX6_soOf 38 = .ok (.iinc 3 1, 3) := by decide +kernel
theorem dX6_soOf_41 : decode cX6_soOf 41 = .ok (.goto (-37), 3) := by decide +kernel
theorem dX6_soOf_44 : decode cX6_soOf 44 = .ok (.iload_n 2, 1) := by decide +kernel
theorem dX6_soOf_45 : decode cX6_soOf 45 = .ok (.ireturn, 1) := by decide +kernel
set_option maxRecDepth 20000 in
theorem ggX11_printed_X2_shownByte : GoodIn wsX11_printed wsX2_shownByte := goodIn_r _ [6, 7, 8, 24, 25, 26, 27, 28, 29, 30, 31, 32, 33, 34, 35, 36, 37, 38, 39] (by decide +kernel) (by decide +kernel)
set_option maxRecDepth 20000 in
theorem gX11_printed_X2_shownByte : GoodIn wsX11_printed (wsV RX11 283 RX2 yX2_shownByte wsX2_shownByte) := goodIn_app (goodIn_of _ (by decide +kernel)) ggX11_printed_X2_shownByte
theorem dX11_printed_0 : decode cX11_printed 0 = .ok (.aload_n 0, 1) := by decide +kernel
theorem dX11_printed_1 : decode cX11_printed 1 = .ok (.getfield 23, 3) := by decide +kernel
theorem dX11_printed_4 : decode cX11_printed 4 = .ok (.iload_n 1, 1) := by decide +kernel
theorem dX11_printed_5 : decode cX11_printed 5 = .ok (.invokevirtual 283, 3) := by decide +kernel
theorem dX11_printed_8 : decode cX11_printed 8 = .ok (.ireturn, 1) := by decide +kernel
set_option maxRecDepth 20000 in
theorem ggX11_holds_X2_isClaim : GoodIn wsX11_holds wsX2_isClaim := goodIn_r _ [8, 9, 104, 105, 106, 107, 108, 109, 110, 111, 112, 113, 114, 115, 116, 117, 118, 119] (by decide +kernel) (by decide +kernel)
set_option maxRecDepth 20000 in
theorem gX11_holds_X2_isClaim : GoodIn wsX11_holds (wsV RX11 176 RX2 yX2_isClaim wsX2_isClaim) := goodIn_app (goodIn_of _ (by decide +kernel)) ggX11_holds_X2_isClaim
theorem dX11_holds_0 : decode cX11_holds 0 = .ok (.aload_n 0, 1) := by decide +kernel
theorem dX11_holds_1 : decode cX11_holds 1 = .ok (.getfield 16, 3) := by decide +kernel
theorem dX11_holds_4 : decode cX11_holds 4 = .ok (.getfield 122, 3) := by decide +kernel
theorem dX11_holds_7 : decode cX11_holds 7 = .ok (.ifCond .eq 6, 3) := by decide +kernel
theorem dX11_holds_13 : decode cX11_holds 13 = .ok (.aload_n 0, 1) := by decide +kernel
theorem dX11_holds_14 : decode cX11_holds 14 = .ok (.getfield 23, 3) := by decide +kernel
theorem dX11_holds_17 : decode cX11_holds 17 = .ok (.iload_n 1, 1) := by decide +kernel
theorem dX11_holds_18 : decode cX11_holds 18 = .ok (.invokevirtual 176, 3) := by decide +kernel
theorem dX11_holds_21 : decode cX11_holds 21 = .ok (.ifCond .ne 6, 3) := by decide +kernel
theorem dX11_holds_24 : decode cX11_holds 24 = .ok (.bipush (-101), 2) := by decide +kernel
theorem dX11_holds_26 : decode cX11_holds 26 = .ok (.ireturn, 1) := by decide +kernel
set_option maxRecDepth 20000 in
theorem ggX12_printed_X12_in : GoodIn wsX12_printed wsX12_in := goodIn_r _ [7] (by decide +kernel) (by decide +kernel)
set_option maxRecDepth 20000 in
theorem gX12_printed_X12_in : GoodIn wsX12_printed (va_wsS RX12 504 yX12_in wsX12_in) := goodIn_app (goodIn_of _ (by decide +kernel)) ggX12_printed_X12_in
theorem dX12_printed_0 : decode cX12_printed 0 = .ok (.aload_n 0, 1) := by decide +kernel
theorem dX12_printed_1 : decode cX12_printed 1 = .ok (.iconst 0, 1) := by decide +kernel
theorem dX12_printed_2 : decode cX12_printed 2 = .ok (.putfield 3, 3) := by decide +kernel
theorem dX12_printed_5 : decode cX12_printed 5 = .ok (.iload_n 1, 1) := by decide +kernel
theorem dX12_printed_6 : decode cX12_printed 6 = .ok (.i2l, 1) := by decide +kernel
theorem dX12_printed_7 : decode cX12_printed 7 = .ok (.lconst 0, 1) := by decide +kernel
theorem dX12_printed_8 : decode cX12_printed 8 = .ok (.aload_n 0, 1) := by decide +kernel
theorem dX12_printed_9 : decode cX12_printed 9 = .ok (.getfield 882, 3) := by decide +kernel
theorem dX12_printed_12 : decode cX12_printed 12 = .ok (.iconst 1, 1) := by decide +kernel
theorem dX12_printed_13 : decode cX12_printed 13 = .ok (.isub, 1) := by decide +kernel
theorem dX12_printed_14 : decode cX12_printed 14 = .ok (.i2l, 1) := by decide +kernel
theorem dX12_printed_15 : decode cX12_printed 15 = .ok (.invokestatic 504, 3) := by decide +kernel
theorem dX12_printed_18 : decode cX12_printed 18 = .ok (.ifCond .eq 16, 3) := by decide +kernel
theorem dX12_printed_34 : decode cX12_printed 34 = .ok (.iconst (-1), 1) := by decide +kernel
theorem dX12_printed_35 : decode cX12_printed 35 = .ok (.ireturn, 1) := by decide +kernel
set_option maxRecDepth 20000 in
theorem ggX12_holds_X12_asks : GoodIn wsX12_holds wsX12_asks := goodIn_r _ [13, 14, 15, 76, 77, 78, 79, 80, 81, 82, 83, 84, 85, 86, 87, 88, 89, 90, 91, 92, 93, 94, 95, 96, 97, 98, 99, 100, 101, 102, 103, 104, 105, 106, 107, 108, 109, 110, 111, 112, 113, 114, 115, 116, 117, 118, 119, 120, 121, 122, 123, 124, 125, 126, 127, 128, 129, 130, 131, 132, 133, 134, 135, 136, 137, 138, 139, 140, 141, 142, 143, 144, 145, 146, 147, 148, 149, 150, 151, 152, 153, 154, 155, 156, 157, 158, 159, 160, 161, 162, 163, 164, 165, 166, 167, 168, 169, 170, 171, 172, 173, 174, 175, 176, 177, 178, 179, 180, 181, 182, 183, 184, 185, 186, 187, 188, 189, 190, 191, 192, 193, 194, 195, 196, 197, 198, 199, 200, 201, 202, 203, 204, 205, 206, 207, 208, 209, 210, 211, 212, 213, 214, 215, 216, 217, 218, 219, 220, 221, 222, 223, 224, 225, 226, 227, 228, 229, 230, 231, 232, 233, 234, 235, 236, 237, 238, 239, 240, 241, 242, 243, 244, 245, 246, 247, 248, 249, 250, 251, 252, 253, 254, 255, 256, 257, 258, 259, 260, 261, 262, 263, 264, 265, 266, 267, 268, 269, 270] (by decide +kernel) (by decide +kernel)
set_option maxRecDepth 20000 in
theorem gX12_holds_X12_asks : GoodIn wsX12_holds (wsV RX12 871 RX12 yX12_asks wsX12_asks) := goodIn_app (goodIn_of _ (by decide +kernel)) ggX12_holds_X12_asks
set_option maxRecDepth 20000 in
theorem ggX12_holds_X12_isClaim : GoodIn wsX12_holds wsX12_isClaim := goodIn_r _ [19, 20, 21, 22, 12, 23, 76, 77, 78, 79, 80, 81, 82, 83, 84, 85, 86, 87, 88, 89, 90, 91, 92, 93, 94, 95, 96, 97, 98, 99, 100, 101, 102, 103, 104, 105, 106, 107, 108, 109, 110, 111, 112, 113, 114, 115, 116, 117, 118, 119, 120, 121, 122, 123, 124, 125, 126, 127, 128, 129, 130, 131, 132, 133, 134, 135, 136, 137, 138, 139, 140, 141, 142, 143, 144, 145, 146, 147, 148, 149, 150, 151, 152, 153, 154, 155, 156, 157, 158, 159, 160, 161, 162, 163, 164, 165, 166, 167, 168, 169, 170, 171, 172, 173, 174, 175, 176, 177, 178, 179, 180, 181, 182, 183, 184, 185, 186, 187, 188, 189, 190, 191, 192, 193, 194, 195, 196, 197, 198, 199, 200, 201, 202, 203, 204, 205, 206, 207, 208, 209, 210, 211, 212, 213, 214, 215, 216, 217, 218, 219, 220, 221, 222, 223, 224, 225, 226, 227, 228, 229, 230, 231, 232, 233, 234, 235, 236, 237, 238, 239, 240, 241, 242, 243, 244, 245, 246, 247, 248, 249, 250, 251, 252, 253, 254, 255, 256, 257, 258, 259, 260, 261, 262, 263, 264, 265, 266, 267, 268, 269, 270] (by decide +kernel) (by decide +kernel)
set_option maxRecDepth 20000 in
theorem gX12_holds_X12_isClaim : GoodIn wsX12_holds (wsV RX12 877 RX12 yX12_isClaim wsX12_isClaim) := goodIn_app (goodIn_of _ (by decide +kernel)) ggX12_holds_X12_isClaim
theorem dX12_holds_0 : decode cX12_holds 0 = .ok (.aload_n 0, 1) := by decide +kernel
theorem dX12_holds_1 : decode cX12_holds 1 = .ok (.invokevirtual 871, 3) := by decide +kernel
theorem dX12_holds_4 : decode cX12_holds 4 = .ok (.ifCond .ne 6, 3) := by decide +kernel
theorem dX12_holds_10 : decode cX12_holds 10 = .ok (.aload_n 0, 1) := by decide +kernel
theorem dX12_holds_11 : decode cX12_holds 11 = .ok (.iload_n 1, 1) := by decide +kernel
theorem dX12_holds_12 : decode cX12_holds 12 = .ok (.invokevirtual 877, 3) := by decide +kernel
theorem dX12_holds_15 : decode cX12_holds 15 = .ok (.ifCond .ne 6, 3) := by decide +kernel
theorem dX12_holds_18 : decode cX12_holds 18 = .ok (.bipush (-101), 2) := by decide +kernel
theorem dX12_holds_20 : decode cX12_holds 20 = .ok (.ireturn, 1) := by decide +kernel
theorem dJ7_fill_53178_0 : decode cJ7_fill_53178 0 = .ok (.iconst 0, 1) := by decide +kernel
theorem dJ7_fill_53178_1 : decode cJ7_fill_53178 1 = .ok (.istore_n 2, 1) := by decide +kernel
theorem dJ7_fill_53178_2 : decode cJ7_fill_53178 2 = .ok (.aload_n 0, 1) := by decide +kernel
theorem dJ7_fill_53178_3 : decode cJ7_fill_53178 3 = .ok (.arraylength, 1) := by decide +kernel
theorem dJ7_fill_53178_4 : decode cJ7_fill_53178 4 = .ok (.istore_n 3, 1) := by decide +kernel
theorem dJ7_fill_53178_5 : decode cJ7_fill_53178 5 = .ok (.iload_n 2, 1) := by decide +kernel
theorem dJ7_fill_53178_6 : decode cJ7_fill_53178 6 = .ok (.iload_n 3, 1) := by decide +kernel
theorem dJ7_fill_53178_7 : decode cJ7_fill_53178 7 = .ok (.if_icmp .ge 13, 3) := by decide +kernel
theorem dJ7_fill_53178_10 : decode cJ7_fill_53178 10 = .ok (.aload_n 0, 1) := by decide +kernel
theorem dJ7_fill_53178_11 : decode cJ7_fill_53178 11 = .ok (.iload_n 2, 1) := by decide +kernel
theorem dJ7_fill_53178_12 : decode cJ7_fill_53178 12 = .ok (.iload_n 1, 1) := by decide +kernel
theorem dJ7_fill_53178_13 : decode cJ7_fill_53178 13 = .ok (.iastore, 1) := by decide +kernel
theorem dJ7_fill_53178_14 : decode cJ7_fill_53178 14 = .ok (.iinc 2 1, 3) := by decide +kernel
theorem dJ7_fill_53178_17 : decode cJ7_fill_53178 17 = .ok (.goto (-12), 3) := by decide +kernel
theorem dJ7_fill_53178_20 : decode cJ7_fill_53178 20 = .ok (.return_, 1) := by decide +kernel
set_option maxHeartbeats 400000000 in
set_option maxRecDepth 100000 in
theorem c_X12_print_1 (l : Launch) (E : kE) (D : va_G) (cI cJ cB cZ : ClassId) (h0 : Nat) (x0 : Int32) (f0 : List Value) (e0 : f0[0]? = some (.int 0)) (e1 : f0[5]? = some (.int 0)) (e2 : f0[33]? = some (.int 0)) (e3 : (x0 : Int32) < 0) : kI l E D (kT cI cJ cB cZ) yX12_print wsX12_print ({ frames := 2, cells := 0, slots := 0, locals := 46 }) [.ref h0, .int x0] [(h0, .inr (12, f0))] ((-101)) [(h0, .inr (12, (f0.set 0 (.int 0))))] 0 0 := by
  intro sz
  refine Met.ofW (cc := cX12_print) (maxL := 3) (ret := (some .int)) (by decide) rfl ?_
  intro p e s m args below meth c s₁ B hml hv
  obtain ⟨rfl, hsz, hP, hK, hD0, hN, hX⟩ := hv
  have hx := B.exec
  have hb := B.bytes
  have hr := B.returns
  have hts := atoms_spec (ws := wsX12_print) B.pre
  have hown : s.vm.findClass RX12 = some m.cls := findClass_of_methodNamed B.named
  have hlocks := B.notSynchronized
  subst hsz
  have hD := hD0.self (sz := s.heap.size)
  have hAE := k_AE hD0 hX
  generalize hAe : va_A [(h0, .inr (12, f0))] s.heap.size = A at hD hAE ⊢
  have hA : ∀ q : Nat, s.heap.size ≤ q → A q := fun q h => by rw [← hAe]; exact Or.inr h
  have hS : va_S A s.heap s.heap [] := va_S.rf
  have hP : va_P D vwCl [(h0, .inr (12, f0))] s.heap := hP
  have hl := lv_entry ([.ref h0, .int x0] : List Value) (n := 3) (Nat.le_of_ble_eq_true rfl)
  rw [lg_entry_eq]
  generalize (lg_sl ([.ref h0, .int x0]) ++ List.replicate (3 - (lg_sl ([.ref h0, .int x0])).length) Slot.unset).toArray = ls at hl ⊢
  have hl : lv_has ls 3 [(0, .ref h0), (1, .int x0)] := hl
  refine lv_aload_n hx hb dX12_print_0 rfl (lv_at hl 0 rfl) ?_
  refine k_cVi (As := []) (rest := []) (wc := [(h0, .inr (12, f0))]) (wr := []) (w1 := [(h0, .inr (12, (f0.set 0 (.int 0))))]) ⟨hx, hb, hml, hown, hts⟩ hN hX hAE hK hP hD hS hA [0] [] (ci := 12) rfl rfl rfl rfl (by decide +kernel) (by decide +kernel) (by decide +kernel) (c_X12_asks_0 l E D cI cJ cB cZ h0 f0 e0 e1) (cwV 0 hts gX12_print_X12_asks rfl rfl rfl (by decide +kernel) ⟨Nat.le_of_ble_eq_true rfl, Nat.le_of_ble_eq_true rfl⟩) rfl hl.1 (Nat.le_of_ble_eq_true rfl) dX12_print_1 ⟨Nat.le_of_ble_eq_true rfl, Nat.le_of_ble_eq_true rfl⟩ (fun H locs hP hD hS => ?_)
  have hP : va_P D vwCl [(h0, .inr (12, (f0.set 0 (.int 0))))] H := hP
  have hD : va_D A [(h0, .inr (12, (f0.set 0 (.int 0))))] := hD
  refine lv_if_ne (tgt := 10) hx hb dX12_print_4 (by decide) (fun _ => ?_) (fun c9 => absurd c9 (by decide))
  refine lv_aload_n hx hb dX12_print_10 rfl (lv_at hl 0 rfl) ?_
  refine lv_iload_n hx hb dX12_print_11 rfl (lv_at hl 1 rfl) ?_
  refine k_cVi (As := [.int x0]) (rest := []) (wc := [(h0, .inr (12, (f0.set 0 (.int 0))))]) (wr := []) (w1 := [(h0, .inr (12, (f0.set 0 (.int 0))))]) ⟨hx, hb, hml, hown, hts⟩ hN hX hAE hK hP hD hS hA [0] [] (ci := 12) rfl rfl rfl rfl (by decide +kernel) (by decide +kernel) (by decide +kernel) (c_X12_isClaim_1 l E D cI cJ cB cZ h0 x0 ((f0.set 0 (.int 0))) (k_ne (by decide) e2) e3) (cwV 1 hts gX12_print_X12_isClaim rfl rfl rfl (by decide +kernel) ⟨Nat.le_of_ble_eq_true rfl, Nat.le_of_ble_eq_true rfl⟩) rfl hl.1 (Nat.le_of_ble_eq_true rfl) dX12_print_12 ⟨Nat.le_of_ble_eq_true rfl, Nat.le_of_ble_eq_true rfl⟩ (fun H locs hP hD hS => ?_)
  have hP : va_P D vwCl [(h0, .inr (12, (f0.set 0 (.int 0))))] H := hP
  have hD : va_D A [(h0, .inr (12, (f0.set 0 (.int 0))))] := hD
  refine lv_if_ne (tgt := 21) hx hb dX12_print_15 (by decide) (fun c9 => absurd (by decide) c9) (fun _ => ?_)
  refine lv_bipush (v := (-101)) hx hb dX12_print_18 (by decide) ?_
  exact W.iret (v := (-101)) hx hb hr (fun t ht hW => ⟨⟨(-101), (), rfl, rfl, kB_mk ht hW hP hK hD⟩, hS.F ht⟩) hS.2.2 dX12_print_20
set_option maxHeartbeats 400000000 in
set_option maxRecDepth 100000 in
theorem c_X2_shownByte_0 (l : Launch) (E : kE) (D : va_G) (cI cJ cB cZ : ClassId) (h0 : Nat) (x0 : Int32) (f0 : List Value) (e0 : ¬ ((x0 : Int32) < 0)) (e1 : f0[15]? = some (.int 0)) : kI l E D (kT cI cJ cB cZ) yX2_shownByte wsX2_shownByte ({ frames := 0, cells := 0, slots := 0, locals := 0 }) [.ref h0, .int x0] [(h0, .inr (2, f0))] ((-1)) [(h0, .inr (2, f0))] 0 0 := by
  intro sz
  refine Met.ofW (cc := cX2_shownByte) (maxL := 2) (ret := (some .int)) (by decide) rfl ?_
  intro p e s m args below meth c s₁ B hml hv
  obtain ⟨rfl, hsz, hP, hK, hD0, hN, hX⟩ := hv
  have hx := B.exec
  have hb := B.bytes
  have hr := B.returns
  have hts := atoms_spec (ws := wsX2_shownByte) B.pre
  have hown : s.vm.findClass RX2 = some m.cls := findClass_of_methodNamed B.named
  have hlocks := B.notSynchronized
  have hin2 : ∀ w ∈ wsX20, w ∈ wsX2_shownByte := (fun w h => (List.mem_cons_of_mem _ (List.mem_append_right _ h)))
  subst hsz
  have hD := hD0.self (sz := s.heap.size)
  have hAE := k_AE hD0 hX
  generalize hAe : va_A [(h0, .inr (2, f0))] s.heap.size = A at hD hAE ⊢
  have hA : ∀ q : Nat, s.heap.size ≤ q → A q := fun q h => by rw [← hAe]; exact Or.inr h
  have hS : va_S A s.heap s.heap [] := va_S.rf
  have hP : va_P D vwCl [(h0, .inr (2, f0))] s.heap := hP
  have hl := lv_entry ([.ref h0, .int x0] : List Value) (n := 2) (Nat.le_of_ble_eq_true rfl)
  rw [lg_entry_eq]
  generalize (lg_sl ([.ref h0, .int x0]) ++ List.replicate (2 - (lg_sl ([.ref h0, .int x0])).length) Slot.unset).toArray = ls at hl ⊢
  have hl : lv_has ls 2 [(0, .ref h0), (1, .int x0)] := hl
  refine lv_iload_n hx hb dX2_shownByte_0 rfl (lv_at hl 1 rfl) ?_
  refine lv_if_lt (tgt := 32) hx hb dX2_shownByte_1 (by decide) (fun c9 => absurd c9 e0) (fun _ => ?_)
  refine lv_iload_n hx hb dX2_shownByte_4 rfl (lv_at hl 1 rfl) ?_
  refine lv_aload_n hx hb dX2_shownByte_5 rfl (lv_at hl 0 rfl) ?_
  refine va_get (D := D) (ref := "IntegerHouse$House") (ci := 2) (v := .int 0) (C := RX2) (T := TX2) (N := 16) hx hb hts hin2 hown hK hP 0 rfl rfl 15 (by decide) (hts (.fieldLink RX2 71 "IntegerHouse$House" "shownSize" "I") (List.mem_cons_of_mem _ (List.mem_append_left _ (List.mem_of_getElem? (i := 0) rfl)))) (fun _ h9 => h9) e1 dX2_shownByte_6 ?_
  refine lv_icmp_ge (tgt := 32) hx hb dX2_shownByte_9 (by decide) (fun _ => ?_) (fun c9 => absurd ((k_n2 (x := x0) (c := 0)).mpr e0) c9)
  refine lv_iconst (v := (-1)) hx hb dX2_shownByte_32 (by decide) ?_
  exact W.iret (v := (-1)) hx hb hr (fun t ht hW => ⟨⟨(-1), (), rfl, rfl, kB_mk ht hW hP hK hD⟩, hS.F ht⟩) hS.2.2 dX2_shownByte_33
set_option maxHeartbeats 400000000 in
set_option maxRecDepth 100000 in
theorem c_X11_printed_0 (l : Launch) (E : kE) (D : va_G) (cI cJ cB cZ : ClassId) (h0 : Nat) (x0 : Int32) (f0 : List Value) (h1 : Nat) (f1 : List Value) (e0 : f0[2]? = some (.ref h1)) (e1 : f1[15]? = some (.int 0)) (e2 : ¬ ((x0 : Int32) < 0)) : kI l E D (kT cI cJ cB cZ) yX11_printed wsX11_printed ({ frames := 1, cells := 0, slots := 0, locals := 21 }) [.ref h0, .int x0] [(h0, .inr (11, f0)), (h1, .inr (2, f1))] ((-1)) [(h0, .inr (11, f0)), (h1, .inr (2, f1))] 0 0 := by
  intro sz
  refine Met.ofW (cc := cX11_printed) (maxL := 2) (ret := (some .int)) (by decide) rfl ?_
  intro p e s m args below meth c s₁ B hml hv
  obtain ⟨rfl, hsz, hP, hK, hD0, hN, hX⟩ := hv
  have hx := B.exec
  have hb := B.bytes
  have hr := B.returns
  have hts := atoms_spec (ws := wsX11_printed) B.pre
  have hown : s.vm.findClass RX11 = some m.cls := findClass_of_methodNamed B.named
  have hlocks := B.notSynchronized
  have hin11 : ∀ w ∈ wsX110, w ∈ wsX11_printed := (fun w h => (List.mem_cons_of_mem _ (List.mem_append_left _ (List.mem_append_right _ h))))
  subst hsz
  have hD := hD0.self (sz := s.heap.size)
  have hAE := k_AE hD0 hX
  generalize hAe : va_A [(h0, .inr (11, f0)), (h1, .inr (2, f1))] s.heap.size = A at hD hAE ⊢
  have hA : ∀ q : Nat, s.heap.size ≤ q → A q := fun q h => by rw [← hAe]; exact Or.inr h
  have hS : va_S A s.heap s.heap [] := va_S.rf
  have hP : va_P D vwCl [(h0, .inr (11, f0)), (h1, .inr (2, f1))] s.heap := hP
  have hl := lv_entry ([.ref h0, .int x0] : List Value) (n := 2) (Nat.le_of_ble_eq_true rfl)
  rw [lg_entry_eq]
  generalize (lg_sl ([.ref h0, .int x0]) ++ List.replicate (2 - (lg_sl ([.ref h0, .int x0])).length) Slot.unset).toArray = ls at hl ⊢
  have hl : lv_has ls 2 [(0, .ref h0), (1, .int x0)] := hl
  refine lv_aload_n hx hb dX11_printed_0 rfl (lv_at hl 0 rfl) ?_
  refine va_get (D := D) (ref := "IntegerHouse") (ci := 11) (v := .ref h1) (C := RX11) (T := TX11) (N := 15) hx hb hts hin11 hown hK hP 0 rfl rfl 2 (by decide) (hts (.fieldLink RX11 23 "IntegerHouse" "house" "LIntegerHouse$House;") (List.mem_cons_of_mem _ (List.mem_append_left _ (List.mem_append_left _ (List.mem_of_getElem? (i := 0) rfl))))) (fun _ h9 => h9) e0 dX11_printed_1 ?_
  refine lv_iload_n hx hb dX11_printed_4 rfl (lv_at hl 1 rfl) ?_
  refine k_cVi (As := [.int x0]) (rest := []) (wc := [(h1, .inr (2, f1))]) (wr := [(h0, .inr (11, f0))]) (w1 := [(h1, .inr (2, f1))]) ⟨hx, hb, hml, hown, hts⟩ hN hX hAE hK hP hD hS hA [1] [0] (ci := 2) rfl rfl rfl rfl (by decide +kernel) (by decide +kernel) (by decide +kernel) (c_X2_shownByte_0 l E D cI cJ cB cZ h1 x0 f1 e2 e1) (cwV 1 hts gX11_printed_X2_shownByte rfl rfl rfl (by decide +kernel) ⟨Nat.le_of_ble_eq_true rfl, Nat.le_of_ble_eq_true rfl⟩) rfl hl.1 (Nat.le_of_ble_eq_true rfl) dX11_printed_5 ⟨Nat.le_of_ble_eq_true rfl, Nat.le_of_ble_eq_true rfl⟩ (fun H locs hP hD hS => ?_)
  have hP : va_P D vwCl [(h0, .inr (11, f0)), (h1, .inr (2, f1))] H := hP
  have hD : va_D A [(h0, .inr (11, f0)), (h1, .inr (2, f1))] := hD
  exact W.iret (v := (-1)) hx hb hr (fun t ht hW => ⟨⟨(-1), (), rfl, rfl, kB_mk ht hW hP hK hD⟩, hS.F ht⟩) hS.2.2 dX11_printed_8
set_option maxHeartbeats 400000000 in
set_option maxRecDepth 100000 in
theorem c_X12_printed_0 (l : Launch) (E : kE) (D : va_G) (cI cJ cB cZ : ClassId) (h0 : Nat) (x0 : Int32) (f0 : List Value) (e0 : f0[0]? = some (.int 0)) (e1 : f0[112]? = some (.int 0)) (e2 : ¬ ((x0 : Int32) < 0)) : kI l E D (kT cI cJ cB cZ) yX12_printed wsX12_printed ({ frames := 1, cells := 0, slots := 0, locals := 25 }) [.ref h0, .int x0] [(h0, .inr (12, f0))] ((-1)) [(h0, .inr (12, (f0.set 0 (.int 0))))] 0 0 := by
  intro sz
  refine Met.ofW (cc := cX12_printed) (maxL := 2) (ret := (some .int)) (by decide) rfl ?_
  intro p e s m args below meth c s₁ B hml hv
  obtain ⟨rfl, hsz, hP, hK, hD0, hN, hX⟩ := hv
  have hx := B.exec
  have hb := B.bytes
  have hr := B.returns
  have hts := atoms_spec (ws := wsX12_printed) B.pre
  have hown : s.vm.findClass RX12 = some m.cls := findClass_of_methodNamed B.named
  have hlocks := B.notSynchronized
  have hin12 : ∀ w ∈ wsX120, w ∈ wsX12_printed := (fun w h => (List.mem_cons_of_mem _ (List.mem_append_right _ h)))
  subst hsz
  have hD := hD0.self (sz := s.heap.size)
  have hAE := k_AE hD0 hX
  generalize hAe : va_A [(h0, .inr (12, f0))] s.heap.size = A at hD hAE ⊢
  have hA : ∀ q : Nat, s.heap.size ≤ q → A q := fun q h => by rw [← hAe]; exact Or.inr h
  have hS : va_S A s.heap s.heap [] := va_S.rf
  have hP : va_P D vwCl [(h0, .inr (12, f0))] s.heap := hP
  have hl := lv_entry ([.ref h0, .int x0] : List Value) (n := 2) (Nat.le_of_ble_eq_true rfl)
  rw [lg_entry_eq]
  generalize (lg_sl ([.ref h0, .int x0]) ++ List.replicate (2 - (lg_sl ([.ref h0, .int x0])).length) Slot.unset).toArray = ls at hl ⊢
  have hl : lv_has ls 2 [(0, .ref h0), (1, .int x0)] := hl
  refine lv_aload_n hx hb dX12_printed_0 rfl (lv_at hl 0 rfl) ?_
  refine lv_iconst (v := 0) hx hb dX12_printed_1 (by decide) ?_
  refine va_put (D := D) (ref := "IntegerHouseModel") (ci := 12) (v := .int 0) (ty := .int) (C := RX12) (T := TX12) (N := 195) hx hb hts hin12 tyX12 tyX12_ok nmX12 hown hK hP hD hS 0 rfl rfl 0 (by decide) (hts (.fieldLink RX12 3 "IntegerHouseModel" "thrown" "I") (List.mem_cons_of_mem _ (List.mem_append_left _ (List.mem_of_getElem? (i := 0) rfl)))) (fun _ h9 => h9) rfl (by decide +kernel) rfl rfl (k_len e0) dX12_printed_2 (fun H locs hP hD hS => ?_)
  have hP : va_P D vwCl [(h0, .inr (12, (f0.set 0 (.int 0))))] H := hP
  have hD : va_D A [(h0, .inr (12, (f0.set 0 (.int 0))))] := hD
  refine lv_iload_n hx hb dX12_printed_5 rfl (lv_at hl 1 rfl) ?_
  refine lv_i2l (v := (Int32.toInt64 x0)) hx hb dX12_printed_6 rfl ?_
  refine lv_lconst (v := 0) hx hb dX12_printed_7 (by decide) ?_
  refine lv_aload_n hx hb dX12_printed_8 rfl (lv_at hl 0 rfl) ?_
  refine va_get (D := D) (ref := "IntegerHouseModel") (ci := 12) (v := .int 0) (C := RX12) (T := TX12) (N := 195) hx hb hts hin12 hown hK hP 0 rfl rfl 112 (by decide) (hts (.fieldLink RX12 882 "IntegerHouseModel" "printSize" "I") (List.mem_cons_of_mem _ (List.mem_append_left _ (List.mem_of_getElem? (i := 1) rfl)))) (fun _ h9 => h9) (k_ne (by decide) e1) dX12_printed_9 ?_
  refine lv_iconst (v := 1) hx hb dX12_printed_12 (by decide) ?_
  refine lv_isub hx hb dX12_printed_13 ?_
  refine k_topi (y := (-1)) (by decide) ?_
  refine lv_i2l (v := (-1)) hx hb dX12_printed_14 (by decide) ?_
  refine k_cSi (As := [.long (Int32.toInt64 x0), .long 0, .long (-1)]) (rest := []) (wc := []) (wr := [(h0, .inr (12, (f0.set 0 (.int 0))))]) (w1 := []) ⟨hx, hb, hml, hown, hts⟩ hN hX hAE hK hP hD hS hA [] [0] rfl rfl (by decide +kernel) (by decide +kernel) (by decide +kernel) (c_X12_in_12 l E D cI cJ cB cZ (Int32.toInt64 x0) (fun z9 => e2 ((k_n4 (x := x0) (c := 0) (C := 0) (by decide)).mp z9)) ((k_n5 (x := x0) (c := (-1)) (d := 0) (C := (-1)) (by decide) (by decide)).mpr e2)) (va_cwS 3 hts gX12_printed_X12_in rfl rfl rfl (by decide +kernel) ⟨Nat.le_of_ble_eq_true rfl, Nat.le_of_ble_eq_true rfl⟩) rfl hl.1 (Nat.le_of_ble_eq_true rfl) dX12_printed_15 ⟨Nat.le_of_ble_eq_true rfl, Nat.le_of_ble_eq_true rfl⟩ (fun H locs hP hD hS => ?_)
  have hP : va_P D vwCl [(h0, .inr (12, (f0.set 0 (.int 0))))] H := hP
  have hD : va_D A [(h0, .inr (12, (f0.set 0 (.int 0))))] := hD
  refine lv_if_eq (tgt := 34) hx hb dX12_printed_18 (by decide) (fun _ => ?_) (fun c9 => absurd (by decide) c9)
  refine lv_iconst (v := (-1)) hx hb dX12_printed_34 (by decide) ?_
  exact W.iret (v := (-1)) hx hb hr (fun t ht hW => ⟨⟨(-1), (), rfl, rfl, kB_mk ht hW hP hK hD⟩, hS.F ht⟩) hS.2.2 dX12_printed_35
set_option maxHeartbeats 400000000 in
set_option maxRecDepth 100000 in
theorem c_X2_shownByte_1 (l : Launch) (E : kE) (D : va_G) (cI cJ cB cZ : ClassId) (h0 : Nat) (x0 : Int32) (e0 : (x0 : Int32) < 0) : kI l E D (kT cI cJ cB cZ) yX2_shownByte wsX2_shownByte ({ frames := 0, cells := 0, slots := 0, locals := 0 }) [.ref h0, .int x0] [] ((-1)) [] 0 0 := by
  intro sz
  refine Met.ofW (cc := cX2_shownByte) (maxL := 2) (ret := (some .int)) (by decide) rfl ?_
  intro p e s m args below meth c s₁ B hml hv
  obtain ⟨rfl, hsz, hP, hK, hD0, hN, hX⟩ := hv
  have hx := B.exec
  have hb := B.bytes
  have hr := B.returns
  have hts := atoms_spec (ws := wsX2_shownByte) B.pre
  have hown : s.vm.findClass RX2 = some m.cls := findClass_of_methodNamed B.named
  have hlocks := B.notSynchronized
  subst hsz
  have hD := hD0.self (sz := s.heap.size)
  have hAE := k_AE hD0 hX
  generalize hAe : va_A [] s.heap.size = A at hD hAE ⊢
  have hA : ∀ q : Nat, s.heap.size ≤ q → A q := fun q h => by rw [← hAe]; exact Or.inr h
  have hS : va_S A s.heap s.heap [] := va_S.rf
  have hP : va_P D vwCl [] s.heap := hP
  have hl := lv_entry ([.ref h0, .int x0] : List Value) (n := 2) (Nat.le_of_ble_eq_true rfl)
  rw [lg_entry_eq]
  generalize (lg_sl ([.ref h0, .int x0]) ++ List.replicate (2 - (lg_sl ([.ref h0, .int x0])).length) Slot.unset).toArray = ls at hl ⊢
  have hl : lv_has ls 2 [(0, .ref h0), (1, .int x0)] := hl
  refine lv_iload_n hx hb dX2_shownByte_0 rfl (lv_at hl 1 rfl) ?_
  refine lv_if_lt (tgt := 32) hx hb dX2_shownByte_1 (by decide) (fun _ => ?_) (fun c9 => absurd e0 c9)
  refine lv_iconst (v := (-1)) hx hb dX2_shownByte_32 (by decide) ?_
  exact W.iret (v := (-1)) hx hb hr (fun t ht hW => ⟨⟨(-1), (), rfl, rfl, kB_mk ht hW hP hK hD⟩, hS.F ht⟩) hS.2.2 dX2_shownByte_33
set_option maxHeartbeats 400000000 in
set_option maxRecDepth 100000 in
theorem c_X11_printed_1 (l : Launch) (E : kE) (D : va_G) (cI cJ cB cZ : ClassId) (h0 : Nat) (x0 : Int32) (f0 : List Value) (h1 : Nat) (e0 : f0[2]? = some (.ref h1)) (e1 : (x0 : Int32) < 0) : kI l E D (kT cI cJ cB cZ) yX11_printed wsX11_printed ({ frames := 1, cells := 0, slots := 0, locals := 21 }) [.ref h0, .int x0] [(h0, .inr (11, f0))] ((-1)) [(h0, .inr (11, f0))] 0 0 := by
  intro sz
  refine Met.ofW (cc := cX11_printed) (maxL := 2) (ret := (some .int)) (by decide) rfl ?_
  intro p e s m args below meth c s₁ B hml hv
  obtain ⟨rfl, hsz, hP, hK, hD0, hN, hX⟩ := hv
  have hx := B.exec
  have hb := B.bytes
  have hr := B.returns
  have hts := atoms_spec (ws := wsX11_printed) B.pre
  have hown : s.vm.findClass RX11 = some m.cls := findClass_of_methodNamed B.named
  have hlocks := B.notSynchronized
  have hin11 : ∀ w ∈ wsX110, w ∈ wsX11_printed := (fun w h => (List.mem_cons_of_mem _ (List.mem_append_left _ (List.mem_append_right _ h))))
  subst hsz
  have hD := hD0.self (sz := s.heap.size)
  have hAE := k_AE hD0 hX
  generalize hAe : va_A [(h0, .inr (11, f0))] s.heap.size = A at hD hAE ⊢
  have hA : ∀ q : Nat, s.heap.size ≤ q → A q := fun q h => by rw [← hAe]; exact Or.inr h
  have hS : va_S A s.heap s.heap [] := va_S.rf
  have hP : va_P D vwCl [(h0, .inr (11, f0))] s.heap := hP
  have hl := lv_entry ([.ref h0, .int x0] : List Value) (n := 2) (Nat.le_of_ble_eq_true rfl)
  rw [lg_entry_eq]
  generalize (lg_sl ([.ref h0, .int x0]) ++ List.replicate (2 - (lg_sl ([.ref h0, .int x0])).length) Slot.unset).toArray = ls at hl ⊢
  have hl : lv_has ls 2 [(0, .ref h0), (1, .int x0)] := hl
  refine lv_aload_n hx hb dX11_printed_0 rfl (lv_at hl 0 rfl) ?_
  refine va_get (D := D) (ref := "IntegerHouse") (ci := 11) (v := .ref h1) (C := RX11) (T := TX11) (N := 15) hx hb hts hin11 hown hK hP 0 rfl rfl 2 (by decide) (hts (.fieldLink RX11 23 "IntegerHouse" "house" "LIntegerHouse$House;") (List.mem_cons_of_mem _ (List.mem_append_left _ (List.mem_append_left _ (List.mem_of_getElem? (i := 0) rfl))))) (fun _ h9 => h9) e0 dX11_printed_1 ?_
  refine lv_iload_n hx hb dX11_printed_4 rfl (lv_at hl 1 rfl) ?_
  refine k_cVi (As := [.int x0]) (rest := []) (wc := []) (wr := [(h0, .inr (11, f0))]) (w1 := []) ⟨hx, hb, hml, hown, hts⟩ hN hX hAE hK hP hD hS hA [] [0] (ci := 2) rfl rfl rfl rfl (by decide +kernel) (by decide +kernel) (by decide +kernel) (c_X2_shownByte_1 l E D cI cJ cB cZ h1 x0 e1) (cwV 1 hts gX11_printed_X2_shownByte rfl rfl rfl (by decide +kernel) ⟨Nat.le_of_ble_eq_true rfl, Nat.le_of_ble_eq_true rfl⟩) rfl hl.1 (Nat.le_of_ble_eq_true rfl) dX11_printed_5 ⟨Nat.le_of_ble_eq_true rfl, Nat.le_of_ble_eq_true rfl⟩ (fun H locs hP hD hS => ?_)
  have hP : va_P D vwCl [(h0, .inr (11, f0))] H := hP
  have hD : va_D A [(h0, .inr (11, f0))] := hD
  exact W.iret (v := (-1)) hx hb hr (fun t ht hW => ⟨⟨(-1), (), rfl, rfl, kB_mk ht hW hP hK hD⟩, hS.F ht⟩) hS.2.2 dX11_printed_8
set_option maxHeartbeats 400000000 in
set_option maxRecDepth 100000 in
theorem c_X12_printed_1 (l : Launch) (E : kE) (D : va_G) (cI cJ cB cZ : ClassId) (h0 : Nat) (x0 : Int32) (f0 : List Value) (e0 : f0[0]? = some (.int 0)) (e1 : f0[112]? = some (.int 0)) (e2 : (x0 : Int32) < 0) : kI l E D (kT cI cJ cB cZ) yX12_printed wsX12_printed ({ frames := 1, cells := 0, slots := 0, locals := 25 }) [.ref h0, .int x0] [(h0, .inr (12, f0))] ((-1)) [(h0, .inr (12, (f0.set 0 (.int 0))))] 0 0 := by
  intro sz
  refine Met.ofW (cc := cX12_printed) (maxL := 2) (ret := (some .int)) (by decide) rfl ?_
  intro p e s m args below meth c s₁ B hml hv
  obtain ⟨rfl, hsz, hP, hK, hD0, hN, hX⟩ := hv
  have hx := B.exec
  have hb := B.bytes
  have hr := B.returns
  have hts := atoms_spec (ws := wsX12_printed) B.pre
  have hown : s.vm.findClass RX12 = some m.cls := findClass_of_methodNamed B.named
  have hlocks := B.notSynchronized
  have hin12 : ∀ w ∈ wsX120, w ∈ wsX12_printed := (fun w h => (List.mem_cons_of_mem _ (List.mem_append_right _ h)))
  subst hsz
  have hD := hD0.self (sz := s.heap.size)
  have hAE := k_AE hD0 hX
  generalize hAe : va_A [(h0, .inr (12, f0))] s.heap.size = A at hD hAE ⊢
  have hA : ∀ q : Nat, s.heap.size ≤ q → A q := fun q h => by rw [← hAe]; exact Or.inr h
  have hS : va_S A s.heap s.heap [] := va_S.rf
  have hP : va_P D vwCl [(h0, .inr (12, f0))] s.heap := hP
  have hl := lv_entry ([.ref h0, .int x0] : List Value) (n := 2) (Nat.le_of_ble_eq_true rfl)
  rw [lg_entry_eq]
  generalize (lg_sl ([.ref h0, .int x0]) ++ List.replicate (2 - (lg_sl ([.ref h0, .int x0])).length) Slot.unset).toArray = ls at hl ⊢
  have hl : lv_has ls 2 [(0, .ref h0), (1, .int x0)] := hl
  refine lv_aload_n hx hb dX12_printed_0 rfl (lv_at hl 0 rfl) ?_
  refine lv_iconst (v := 0) hx hb dX12_printed_1 (by decide) ?_
  refine va_put (D := D) (ref := "IntegerHouseModel") (ci := 12) (v := .int 0) (ty := .int) (C := RX12) (T := TX12) (N := 195) hx hb hts hin12 tyX12 tyX12_ok nmX12 hown hK hP hD hS 0 rfl rfl 0 (by decide) (hts (.fieldLink RX12 3 "IntegerHouseModel" "thrown" "I") (List.mem_cons_of_mem _ (List.mem_append_left _ (List.mem_of_getElem? (i := 0) rfl)))) (fun _ h9 => h9) rfl (by decide +kernel) rfl rfl (k_len e0) dX12_printed_2 (fun H locs hP hD hS => ?_)
  have hP : va_P D vwCl [(h0, .inr (12, (f0.set 0 (.int 0))))] H := hP
  have hD : va_D A [(h0, .inr (12, (f0.set 0 (.int 0))))] := hD
  refine lv_iload_n hx hb dX12_printed_5 rfl (lv_at hl 1 rfl) ?_
  refine lv_i2l (v := (Int32.toInt64 x0)) hx hb dX12_printed_6 rfl ?_
  refine lv_lconst (v := 0) hx hb dX12_printed_7 (by decide) ?_
  refine lv_aload_n hx hb dX12_printed_8 rfl (lv_at hl 0 rfl) ?_
  refine va_get (D := D) (ref := "IntegerHouseModel") (ci := 12) (v := .int 0) (C := RX12) (T := TX12) (N := 195) hx hb hts hin12 hown hK hP 0 rfl rfl 112 (by decide) (hts (.fieldLink RX12 882 "IntegerHouseModel" "printSize" "I") (List.mem_cons_of_mem _ (List.mem_append_left _ (List.mem_of_getElem? (i := 1) rfl)))) (fun _ h9 => h9) (k_ne (by decide) e1) dX12_printed_9 ?_
  refine lv_iconst (v := 1) hx hb dX12_printed_12 (by decide) ?_
  refine lv_isub hx hb dX12_printed_13 ?_
  refine k_topi (y := (-1)) (by decide) ?_
  refine lv_i2l (v := (-1)) hx hb dX12_printed_14 (by decide) ?_
  refine k_cSi (As := [.long (Int32.toInt64 x0), .long 0, .long (-1)]) (rest := []) (wc := []) (wr := [(h0, .inr (12, (f0.set 0 (.int 0))))]) (w1 := []) ⟨hx, hb, hml, hown, hts⟩ hN hX hAE hK hP hD hS hA [] [0] rfl rfl (by decide +kernel) (by decide +kernel) (by decide +kernel) (c_X12_in_13 l E D cI cJ cB cZ (Int32.toInt64 x0) ((k_n4 (x := x0) (c := 0) (C := 0) (by decide)).mpr e2)) (va_cwS 3 hts gX12_printed_X12_in rfl rfl rfl (by decide +kernel) ⟨Nat.le_of_ble_eq_true rfl, Nat.le_of_ble_eq_true rfl⟩) rfl hl.1 (Nat.le_of_ble_eq_true rfl) dX12_printed_15 ⟨Nat.le_of_ble_eq_true rfl, Nat.le_of_ble_eq_true rfl⟩ (fun H locs hP hD hS => ?_)
  have hP : va_P D vwCl [(h0, .inr (12, (f0.set 0 (.int 0))))] H := hP
  have hD : va_D A [(h0, .inr (12, (f0.set 0 (.int 0))))] := hD
  refine lv_if_eq (tgt := 34) hx hb dX12_printed_18 (by decide) (fun _ => ?_) (fun c9 => absurd (by decide) c9)
  refine lv_iconst (v := (-1)) hx hb dX12_printed_34 (by decide) ?_
  exact W.iret (v := (-1)) hx hb hr (fun t ht hW => ⟨⟨(-1), (), rfl, rfl, kB_mk ht hW hP hK hD⟩, hS.F ht⟩) hS.2.2 dX12_printed_35
set_option maxHeartbeats 400000000 in
set_option maxRecDepth 100000 in
theorem c_X11_holds_0 (l : Launch) (E : kE) (D : va_G) (cI cJ cB cZ : ClassId) (h0 : Nat) (x0 : Int32) (y1 : Int64) (y2 : Int64) (y3 : Int64) (y4 : Int64) (f0 : List Value) (h1 : Nat) (f1 : List Value) (h2 : Nat) (f2 : List Value) (e0 : f0[1]? = some (.ref h1)) (e1 : f1[8]? = some (.int 0)) (e2 : f0[2]? = some (.ref h2)) (e3 : ¬ ((x0 : Int32) < 0)) (e4 : f2[11]? = some (.int 0)) : kI l E D (kT cI cJ cB cZ) yX11_holds wsX11_holds ({ frames := 1, cells := 0, slots := 0, locals := 21 }) [.ref h0, .int x0, .long y1, .long y2, .long y3, .long y4] [(h0, .inr (11, f0)), (h1, .inr (1, f1)), (h2, .inr (2, f2))] ((-101)) [(h0, .inr (11, f0)), (h1, .inr (1, f1)), (h2, .inr (2, f2))] 0 0 := by
  intro sz
  refine Met.ofW (cc := cX11_holds) (maxL := 10) (ret := (some .int)) (by decide) rfl ?_
  intro p e s m args below meth c s₁ B hml hv
  obtain ⟨rfl, hsz, hP, hK, hD0, hN, hX⟩ := hv
  have hx := B.exec
  have hb := B.bytes
  have hr := B.returns
  have hts := atoms_spec (ws := wsX11_holds) B.pre
  have hown : s.vm.findClass RX11 = some m.cls := findClass_of_methodNamed B.named
  have hlocks := B.notSynchronized
  have hin11 : ∀ w ∈ wsX110, w ∈ wsX11_holds := (fun w h => (List.mem_cons_of_mem _ (List.mem_append_left _ (List.mem_append_left _ (List.mem_append_left _ (List.mem_append_left _ (List.mem_append_right _ h)))))))
  have hin1 : ∀ w ∈ wsX10, w ∈ wsX11_holds := (fun w h => (List.mem_cons_of_mem _ (List.mem_append_left _ (List.mem_append_left _ (List.mem_append_left _ (List.mem_append_right _ h))))))
  subst hsz
  have hD := hD0.self (sz := s.heap.size)
  have hAE := k_AE hD0 hX
  generalize hAe : va_A [(h0, .inr (11, f0)), (h1, .inr (1, f1)), (h2, .inr (2, f2))] s.heap.size = A at hD hAE ⊢
  have hA : ∀ q : Nat, s.heap.size ≤ q → A q := fun q h => by rw [← hAe]; exact Or.inr h
  have hS : va_S A s.heap s.heap [] := va_S.rf
  have hP : va_P D vwCl [(h0, .inr (11, f0)), (h1, .inr (1, f1)), (h2, .inr (2, f2))] s.heap := hP
  have hl := lv_entry ([.ref h0, .int x0, .long y1, .long y2, .long y3, .long y4] : List Value) (n := 10) (Nat.le_of_ble_eq_true rfl)
  rw [lg_entry_eq]
  generalize (lg_sl ([.ref h0, .int x0, .long y1, .long y2, .long y3, .long y4]) ++ List.replicate (10 - (lg_sl ([.ref h0, .int x0, .long y1, .long y2, .long y3, .long y4])).length) Slot.unset).toArray = ls at hl ⊢
  have hl : lv_has ls 10 [(0, .ref h0), (1, .int x0), (2, .long y1), (4, .long y2), (6, .long y3), (8, .long y4)] := hl
  refine lv_aload_n hx hb dX11_holds_0 rfl (lv_at hl 0 rfl) ?_
  refine va_get (D := D) (ref := "IntegerHouse") (ci := 11) (v := .ref h1) (C := RX11) (T := TX11) (N := 15) hx hb hts hin11 hown hK hP 0 rfl rfl 1 (by decide) (hts (.fieldLink RX11 16 "IntegerHouse" "disk" "LIntegerHouse$Disk;") (List.mem_cons_of_mem _ (List.mem_append_left _ (List.mem_append_left _ (List.mem_append_left _ (List.mem_append_left _ (List.mem_append_left _ (List.mem_append_left _ (List.mem_of_getElem? (i := 0) rfl))))))))) (fun _ h9 => h9) e0 dX11_holds_1 ?_
  refine va_getN (host := "IntegerHouse") (D := D) (ref := "IntegerHouse$Disk") (ci := 1) (v := .int 0) (C := RX1) (T := TX1) (N := 9) hx hb hts hin1 hown hK hP 1 rfl rfl 8 (by decide) (va_Nw.use rfl (hN.1 ("IntegerHouse", 122, "IntegerHouse$Disk", "down", "Z", "IntegerHouse") (List.mem_of_getElem? (i := 3) rfl))) (fun _ h9 => h9) e1 dX11_holds_4 ?_
  refine lv_if_eq (tgt := 13) hx hb dX11_holds_7 (by decide) (fun _ => ?_) (fun c9 => absurd (by decide) c9)
  refine lv_aload_n hx hb dX11_holds_13 rfl (lv_at hl 0 rfl) ?_
  refine va_get (D := D) (ref := "IntegerHouse") (ci := 11) (v := .ref h2) (C := RX11) (T := TX11) (N := 15) hx hb hts hin11 hown hK hP 0 rfl rfl 2 (by decide) (hts (.fieldLink RX11 23 "IntegerHouse" "house" "LIntegerHouse$House;") (List.mem_cons_of_mem _ (List.mem_append_left _ (List.mem_append_left _ (List.mem_append_left _ (List.mem_append_left _ (List.mem_append_left _ (List.mem_append_left _ (List.mem_of_getElem? (i := 1) rfl))))))))) (fun _ h9 => h9) e2 dX11_holds_14 ?_
  refine lv_iload_n hx hb dX11_holds_17 rfl (lv_at hl 1 rfl) ?_
  refine k_cVi (As := [.int x0]) (rest := []) (wc := [(h2, .inr (2, f2))]) (wr := [(h0, .inr (11, f0)), (h1, .inr (1, f1))]) (w1 := [(h2, .inr (2, f2))]) ⟨hx, hb, hml, hown, hts⟩ hN hX hAE hK hP hD hS hA [2] [0, 1] (ci := 2) rfl rfl rfl rfl (by decide +kernel) (by decide +kernel) (by decide +kernel) (c_X2_isClaim_0 l E D cI cJ cB cZ h2 x0 f2 e3 e4) (cwV 1 hts gX11_holds_X2_isClaim rfl rfl rfl (by decide +kernel) ⟨Nat.le_of_ble_eq_true rfl, Nat.le_of_ble_eq_true rfl⟩) rfl hl.1 (Nat.le_of_ble_eq_true rfl) dX11_holds_18 ⟨Nat.le_of_ble_eq_true rfl, Nat.le_of_ble_eq_true rfl⟩ (fun H locs hP hD hS => ?_)
  have hP : va_P D vwCl [(h0, .inr (11, f0)), (h1, .inr (1, f1)), (h2, .inr (2, f2))] H := hP
  have hD : va_D A [(h0, .inr (11, f0)), (h1, .inr (1, f1)), (h2, .inr (2, f2))] := hD
  refine lv_if_ne (tgt := 27) hx hb dX11_holds_21 (by decide) (fun c9 => absurd (by decide) c9) (fun _ => ?_)
  refine lv_bipush (v := (-101)) hx hb dX11_holds_24 (by decide) ?_
  exact W.iret (v := (-101)) hx hb hr (fun t ht hW => ⟨⟨(-101), (), rfl, rfl, kB_mk ht hW hP hK hD⟩, hS.F ht⟩) hS.2.2 dX11_holds_26
set_option maxHeartbeats 400000000 in
set_option maxRecDepth 100000 in
theorem c_X12_holds_0 (l : Launch) (E : kE) (D : va_G) (cI cJ cB cZ : ClassId) (h0 : Nat) (x0 : Int32) (y1 : Int64) (y2 : Int64) (y3 : Int64) (y4 : Int64) (f0 : List Value) (e0 : f0[0]? = some (.int 0)) (e1 : f0[5]? = some (.int 0)) (e2 : f0[33]? = some (.int 0)) (e3 : ¬ ((x0 : Int32) < 0)) : kI l E D (kT cI cJ cB cZ) yX12_holds wsX12_holds ({ frames := 2, cells := 0, slots := 0, locals := 46 }) [.ref h0, .int x0, .long y1, .long y2, .long y3, .long y4] [(h0, .inr (12, f0))] ((-101)) [(h0, .inr (12, (f0.set 0 (.int 0))))] 0 0 := by
  intro sz
  refine Met.ofW (cc := cX12_holds) (maxL := 18) (ret := (some .int)) (by decide) rfl ?_
  intro p e s m args below meth c s₁ B hml hv
  obtain ⟨rfl, hsz, hP, hK, hD0, hN, hX⟩ := hv
  have hx := B.exec
  have hb := B.bytes
  have hr := B.returns
  have hts := atoms_spec (ws := wsX12_holds) B.pre
  have hown : s.vm.findClass RX12 = some m.cls := findClass_of_methodNamed B.named
  have hlocks := B.notSynchronized
  subst hsz
  have hD := hD0.self (sz := s.heap.size)
  have hAE := k_AE hD0 hX
  generalize hAe : va_A [(h0, .inr (12, f0))] s.heap.size = A at hD hAE ⊢
  have hA : ∀ q : Nat, s.heap.size ≤ q → A q := fun q h => by rw [← hAe]; exact Or.inr h
  have hS : va_S A s.heap s.heap [] := va_S.rf
  have hP : va_P D vwCl [(h0, .inr (12, f0))] s.heap := hP
  have hl := lv_entry ([.ref h0, .int x0, .long y1, .long y2, .long y3, .long y4] : List Value) (n := 18) (Nat.le_of_ble_eq_true rfl)
  rw [lg_entry_eq]
  generalize (lg_sl ([.ref h0, .int x0, .long y1, .long y2, .long y3, .long y4]) ++ List.replicate (18 - (lg_sl ([.ref h0, .int x0, .long y1, .long y2, .long y3, .long y4])).length) Slot.unset).toArray = ls at hl ⊢
  have hl : lv_has ls 18 [(0, .ref h0), (1, .int x0), (2, .long y1), (4, .long y2), (6, .long y3), (8, .long y4)] := hl
  refine lv_aload_n hx hb dX12_holds_0 rfl (lv_at hl 0 rfl) ?_
  refine k_cVi (As := []) (rest := []) (wc := [(h0, .inr (12, f0))]) (wr := []) (w1 := [(h0, .inr (12, (f0.set 0 (.int 0))))]) ⟨hx, hb, hml, hown, hts⟩ hN hX hAE hK hP hD hS hA [0] [] (ci := 12) rfl rfl rfl rfl (by decide +kernel) (by decide +kernel) (by decide +kernel) (c_X12_asks_0 l E D cI cJ cB cZ h0 f0 e0 e1) (cwV 0 hts gX12_holds_X12_asks rfl rfl rfl (by decide +kernel) ⟨Nat.le_of_ble_eq_true rfl, Nat.le_of_ble_eq_true rfl⟩) rfl hl.1 (Nat.le_of_ble_eq_true rfl) dX12_holds_1 ⟨Nat.le_of_ble_eq_true rfl, Nat.le_of_ble_eq_true rfl⟩ (fun H locs hP hD hS => ?_)
  have hP : va_P D vwCl [(h0, .inr (12, (f0.set 0 (.int 0))))] H := hP
  have hD : va_D A [(h0, .inr (12, (f0.set 0 (.int 0))))] := hD
  refine lv_if_ne (tgt := 10) hx hb dX12_holds_4 (by decide) (fun _ => ?_) (fun c9 => absurd c9 (by decide))
  refine lv_aload_n hx hb dX12_holds_10 rfl (lv_at hl 0 rfl) ?_
  refine lv_iload_n hx hb dX12_holds_11 rfl (lv_at hl 1 rfl) ?_
  refine k_cVi (As := [.int x0]) (rest := []) (wc := [(h0, .inr (12, (f0.set 0 (.int 0))))]) (wr := []) (w1 := [(h0, .inr (12, (f0.set 0 (.int 0))))]) ⟨hx, hb, hml, hown, hts⟩ hN hX hAE hK hP hD hS hA [0] [] (ci := 12) rfl rfl rfl rfl (by decide +kernel) (by decide +kernel) (by decide +kernel) (c_X12_isClaim_0 l E D cI cJ cB cZ h0 x0 ((f0.set 0 (.int 0))) (k_ne (by decide) e2) e3) (cwV 1 hts gX12_holds_X12_isClaim rfl rfl rfl (by decide +kernel) ⟨Nat.le_of_ble_eq_true rfl, Nat.le_of_ble_eq_true rfl⟩) rfl hl.1 (Nat.le_of_ble_eq_true rfl) dX12_holds_12 ⟨Nat.le_of_ble_eq_true rfl, Nat.le_of_ble_eq_true rfl⟩ (fun H locs hP hD hS => ?_)
  have hP : va_P D vwCl [(h0, .inr (12, (f0.set 0 (.int 0))))] H := hP
  have hD : va_D A [(h0, .inr (12, (f0.set 0 (.int 0))))] := hD
  refine lv_if_ne (tgt := 21) hx hb dX12_holds_15 (by decide) (fun c9 => absurd (by decide) c9) (fun _ => ?_)
  refine lv_bipush (v := (-101)) hx hb dX12_holds_18 (by decide) ?_
  exact W.iret (v := (-101)) hx hb hr (fun t ht hW => ⟨⟨(-101), (), rfl, rfl, kB_mk ht hW hP hK hD⟩, hS.F ht⟩) hS.2.2 dX12_holds_20
set_option maxHeartbeats 400000000 in
set_option maxRecDepth 100000 in
theorem c_X11_holds_1 (l : Launch) (E : kE) (D : va_G) (cI cJ cB cZ : ClassId) (h0 : Nat) (x0 : Int32) (y1 : Int64) (y2 : Int64) (y3 : Int64) (y4 : Int64) (f0 : List Value) (h1 : Nat) (f1 : List Value) (h2 : Nat) (e0 : f0[1]? = some (.ref h1)) (e1 : f1[8]? = some (.int 0)) (e2 : f0[2]? = some (.ref h2)) (e3 : (x0 : Int32) < 0) : kI l E D (kT cI cJ cB cZ) yX11_holds wsX11_holds ({ frames := 1, cells := 0, slots := 0, locals := 21 }) [.ref h0, .int x0, .long y1, .long y2, .long y3, .long y4] [(h0, .inr (11, f0)), (h1, .inr (1, f1))] ((-101)) [(h0, .inr (11, f0)), (h1, .inr (1, f1))] 0 0 := by
  intro sz
  refine Met.ofW (cc := cX11_holds) (maxL := 10) (ret := (some .int)) (by decide) rfl ?_
  intro p e s m args below meth c s₁ B hml hv
  obtain ⟨rfl, hsz, hP, hK, hD0, hN, hX⟩ := hv
  have hx := B.exec
  have hb := B.bytes
  have hr := B.returns
  have hts := atoms_spec (ws := wsX11_holds) B.pre
  have hown : s.vm.findClass RX11 = some m.cls := findClass_of_methodNamed B.named
  have hlocks := B.notSynchronized
  have hin11 : ∀ w ∈ wsX110, w ∈ wsX11_holds := (fun w h => (List.mem_cons_of_mem _ (List.mem_append_left _ (List.mem_append_left _ (List.mem_append_left _ (List.mem_append_left _ (List.mem_append_right _ h)))))))
  have hin1 : ∀ w ∈ wsX10, w ∈ wsX11_holds := (fun w h => (List.mem_cons_of_mem _ (List.mem_append_left _ (List.mem_append_left _ (List.mem_append_left _ (List.mem_append_right _ h))))))
  subst hsz
  have hD := hD0.self (sz := s.heap.size)
  have hAE := k_AE hD0 hX
  generalize hAe : va_A [(h0, .inr (11, f0)), (h1, .inr (1, f1))] s.heap.size = A at hD hAE ⊢
  have hA : ∀ q : Nat, s.heap.size ≤ q → A q := fun q h => by rw [← hAe]; exact Or.inr h
  have hS : va_S A s.heap s.heap [] := va_S.rf
  have hP : va_P D vwCl [(h0, .inr (11, f0)), (h1, .inr (1, f1))] s.heap := hP
  have hl := lv_entry ([.ref h0, .int x0, .long y1, .long y2, .long y3, .long y4] : List Value) (n := 10) (Nat.le_of_ble_eq_true rfl)
  rw [lg_entry_eq]
  generalize (lg_sl ([.ref h0, .int x0, .long y1, .long y2, .long y3, .long y4]) ++ List.replicate (10 - (lg_sl ([.ref h0, .int x0, .long y1, .long y2, .long y3, .long y4])).length) Slot.unset).toArray = ls at hl ⊢
  have hl : lv_has ls 10 [(0, .ref h0), (1, .int x0), (2, .long y1), (4, .long y2), (6, .long y3), (8, .long y4)] := hl
  refine lv_aload_n hx hb dX11_holds_0 rfl (lv_at hl 0 rfl) ?_
  refine va_get (D := D) (ref := "IntegerHouse") (ci := 11) (v := .ref h1) (C := RX11) (T := TX11) (N := 15) hx hb hts hin11 hown hK hP 0 rfl rfl 1 (by decide) (hts (.fieldLink RX11 16 "IntegerHouse" "disk" "LIntegerHouse$Disk;") (List.mem_cons_of_mem _ (List.mem_append_left _ (List.mem_append_left _ (List.mem_append_left _ (List.mem_append_left _ (List.mem_append_left _ (List.mem_append_left _ (List.mem_of_getElem? (i := 0) rfl))))))))) (fun _ h9 => h9) e0 dX11_holds_1 ?_
  refine va_getN (host := "IntegerHouse") (D := D) (ref := "IntegerHouse$Disk") (ci := 1) (v := .int 0) (C := RX1) (T := TX1) (N := 9) hx hb hts hin1 hown hK hP 1 rfl rfl 8 (by decide) (va_Nw.use rfl (hN.1 ("IntegerHouse", 122, "IntegerHouse$Disk", "down", "Z", "IntegerHouse") (List.mem_of_getElem? (i := 3) rfl))) (fun _ h9 => h9) e1 dX11_holds_4 ?_
  refine lv_if_eq (tgt := 13) hx hb dX11_holds_7 (by decide) (fun _ => ?_) (fun c9 => absurd (by decide) c9)
  refine lv_aload_n hx hb dX11_holds_13 rfl (lv_at hl 0 rfl) ?_
  refine va_get (D := D) (ref := "IntegerHouse") (ci := 11) (v := .ref h2) (C := RX11) (T := TX11) (N := 15) hx hb hts hin11 hown hK hP 0 rfl rfl 2 (by decide) (hts (.fieldLink RX11 23 "IntegerHouse" "house" "LIntegerHouse$House;") (List.mem_cons_of_mem _ (List.mem_append_left _ (List.mem_append_left _ (List.mem_append_left _ (List.mem_append_left _ (List.mem_append_left _ (List.mem_append_left _ (List.mem_of_getElem? (i := 1) rfl))))))))) (fun _ h9 => h9) e2 dX11_holds_14 ?_
  refine lv_iload_n hx hb dX11_holds_17 rfl (lv_at hl 1 rfl) ?_
  refine k_cVi (As := [.int x0]) (rest := []) (wc := []) (wr := [(h0, .inr (11, f0)), (h1, .inr (1, f1))]) (w1 := []) ⟨hx, hb, hml, hown, hts⟩ hN hX hAE hK hP hD hS hA [] [0, 1] (ci := 2) rfl rfl rfl rfl (by decide +kernel) (by decide +kernel) (by decide +kernel) (c_X2_isClaim_1 l E D cI cJ cB cZ h2 x0 e3) (cwV 1 hts gX11_holds_X2_isClaim rfl rfl rfl (by decide +kernel) ⟨Nat.le_of_ble_eq_true rfl, Nat.le_of_ble_eq_true rfl⟩) rfl hl.1 (Nat.le_of_ble_eq_true rfl) dX11_holds_18 ⟨Nat.le_of_ble_eq_true rfl, Nat.le_of_ble_eq_true rfl⟩ (fun H locs hP hD hS => ?_)
  have hP : va_P D vwCl [(h0, .inr (11, f0)), (h1, .inr (1, f1))] H := hP
  have hD : va_D A [(h0, .inr (11, f0)), (h1, .inr (1, f1))] := hD
  refine lv_if_ne (tgt := 27) hx hb dX11_holds_21 (by decide) (fun c9 => absurd (by decide) c9) (fun _ => ?_)
  refine lv_bipush (v := (-101)) hx hb dX11_holds_24 (by decide) ?_
  exact W.iret (v := (-101)) hx hb hr (fun t ht hW => ⟨⟨(-101), (), rfl, rfl, kB_mk ht hW hP hK hD⟩, hS.F ht⟩) hS.2.2 dX11_holds_26
set_option maxHeartbeats 400000000 in
set_option maxRecDepth 100000 in
theorem c_X12_holds_1 (l : Launch) (E : kE) (D : va_G) (cI cJ cB cZ : ClassId) (h0 : Nat) (x0 : Int32) (y1 : Int64) (y2 : Int64) (y3 : Int64) (y4 : Int64) (f0 : List Value) (e0 : f0[0]? = some (.int 0)) (e1 : f0[5]? = some (.int 0)) (e2 : f0[33]? = some (.int 0)) (e3 : (x0 : Int32) < 0) : kI l E D (kT cI cJ cB cZ) yX12_holds wsX12_holds ({ frames := 2, cells := 0, slots := 0, locals := 46 }) [.ref h0, .int x0, .long y1, .long y2, .long y3, .long y4] [(h0, .inr (12, f0))] ((-101)) [(h0, .inr (12, (f0.set 0 (.int 0))))] 0 0 := by
  intro sz
  refine Met.ofW (cc := cX12_holds) (maxL := 18) (ret := (some .int)) (by decide) rfl ?_
  intro p e s m args below meth c s₁ B hml hv
  obtain ⟨rfl, hsz, hP, hK, hD0, hN, hX⟩ := hv
  have hx := B.exec
  have hb := B.bytes
  have hr := B.returns
  have hts := atoms_spec (ws := wsX12_holds) B.pre
  have hown : s.vm.findClass RX12 = some m.cls := findClass_of_methodNamed B.named
  have hlocks := B.notSynchronized
  subst hsz
  have hD := hD0.self (sz := s.heap.size)
  have hAE := k_AE hD0 hX
  generalize hAe : va_A [(h0, .inr (12, f0))] s.heap.size = A at hD hAE ⊢
  have hA : ∀ q : Nat, s.heap.size ≤ q → A q := fun q h => by rw [← hAe]; exact Or.inr h
  have hS : va_S A s.heap s.heap [] := va_S.rf
  have hP : va_P D vwCl [(h0, .inr (12, f0))] s.heap := hP
  have hl := lv_entry ([.ref h0, .int x0, .long y1, .long y2, .long y3, .long y4] : List Value) (n := 18) (Nat.le_of_ble_eq_true rfl)
  rw [lg_entry_eq]
  generalize (lg_sl ([.ref h0, .int x0, .long y1, .long y2, .long y3, .long y4]) ++ List.replicate (18 - (lg_sl ([.ref h0, .int x0, .long y1, .long y2, .long y3, .long y4])).length) Slot.unset).toArray = ls at hl ⊢
  have hl : lv_has ls 18 [(0, .ref h0), (1, .int x0), (2, .long y1), (4, .long y2), (6, .long y3), (8, .long y4)] := hl
  refine lv_aload_n hx hb dX12_holds_0 rfl (lv_at hl 0 rfl) ?_
  refine k_cVi (As := []) (rest := []) (wc := [(h0, .inr (12, f0))]) (wr := []) (w1 := [(h0, .inr (12, (f0.set 0 (.int 0))))]) ⟨hx, hb, hml, hown, hts⟩ hN hX hAE hK hP hD hS hA [0] [] (ci := 12) rfl rfl rfl rfl (by decide +kernel) (by decide +kernel) (by decide +kernel) (c_X12_asks_0 l E D cI cJ cB cZ h0 f0 e0 e1) (cwV 0 hts gX12_holds_X12_asks rfl rfl rfl (by decide +kernel) ⟨Nat.le_of_ble_eq_true rfl, Nat.le_of_ble_eq_true rfl⟩) rfl hl.1 (Nat.le_of_ble_eq_true rfl) dX12_holds_1 ⟨Nat.le_of_ble_eq_true rfl, Nat.le_of_ble_eq_true rfl⟩ (fun H locs hP hD hS => ?_)
  have hP : va_P D vwCl [(h0, .inr (12, (f0.set 0 (.int 0))))] H := hP
  have hD : va_D A [(h0, .inr (12, (f0.set 0 (.int 0))))] := hD
  refine lv_if_ne (tgt := 10) hx hb dX12_holds_4 (by decide) (fun _ => ?_) (fun c9 => absurd c9 (by decide))
  refine lv_aload_n hx hb dX12_holds_10 rfl (lv_at hl 0 rfl) ?_
  refine lv_iload_n hx hb dX12_holds_11 rfl (lv_at hl 1 rfl) ?_
  refine k_cVi (As := [.int x0]) (rest := []) (wc := [(h0, .inr (12, (f0.set 0 (.int 0))))]) (wr := []) (w1 := [(h0, .inr (12, (f0.set 0 (.int 0))))]) ⟨hx, hb, hml, hown, hts⟩ hN hX hAE hK hP hD hS hA [0] [] (ci := 12) rfl rfl rfl rfl (by decide +kernel) (by decide +kernel) (by decide +kernel) (c_X12_isClaim_1 l E D cI cJ cB cZ h0 x0 ((f0.set 0 (.int 0))) (k_ne (by decide) e2) e3) (cwV 1 hts gX12_holds_X12_isClaim rfl rfl rfl (by decide +kernel) ⟨Nat.le_of_ble_eq_true rfl, Nat.le_of_ble_eq_true rfl⟩) rfl hl.1 (Nat.le_of_ble_eq_true rfl) dX12_holds_12 ⟨Nat.le_of_ble_eq_true rfl, Nat.le_of_ble_eq_true rfl⟩ (fun H locs hP hD hS => ?_)
  have hP : va_P D vwCl [(h0, .inr (12, (f0.set 0 (.int 0))))] H := hP
  have hD : va_D A [(h0, .inr (12, (f0.set 0 (.int 0))))] := hD
  refine lv_if_ne (tgt := 21) hx hb dX12_holds_15 (by decide) (fun c9 => absurd (by decide) c9) (fun _ => ?_)
  refine lv_bipush (v := (-101)) hx hb dX12_holds_18 (by decide) ?_
  exact W.iret (v := (-101)) hx hb hr (fun t ht hW => ⟨⟨(-101), (), rfl, rfl, kB_mk ht hW hP hK hD⟩, hS.F ht⟩) hS.2.2 dX12_holds_20
set_option maxHeartbeats 400000000 in
set_option maxRecDepth 100000 in
theorem c_X6_gather_0 (l : Launch) (E : kE) (D : va_G) (cI cJ cB cZ : ClassId) (h0 : Nat) (f0 : List Value) (h1 : Nat) (f1 : List Value) (e0 : f0[10]? = some (.int 0)) (e1 : f0[11]? = some (.int 0)) (e2 : f0[0]? = some (.ref h1)) (e3 : f1[10]? = some (.int 0)) (e4 : f0[12]? = some (.int 0)) : kI l E D (kT cI cJ cB cZ) yX6_gather wsX6_gather ({ frames := 1, cells := 0, slots := 0, locals := 21 }) [.ref h0, .int 0] [(h0, .inr (6, f0)), (h1, .inr (2, f1))] (1) [(h0, .inr (6, ((((((((((((((((((((((((((((f0.set 10 (.int 0)).set 11 (.int 0)).set 12 (.int 1)).set 11 (.int 0)).set 11 (.int 0)).set 11 (.int 0)).set 11 (.int 0)).set 11 (.int 0)).set 11 (.int 0)).set 11 (.int 0)).set 11 (.int 0)).set 11 (.int 0)).set 11 (.int 0)).set 11 (.int 0)).set 11 (.int 0)).set 11 (.int 0)).set 11 (.int 0)).set 11 (.int 0)).set 11 (.int 0)).set 11 (.int 0)).set 11 (.int 0)).set 11 (.int 0)).set 11 (.int 0)).set 11 (.int 0)).set 11 (.int 0)).set 11 (.int 0)).set 11 (.int 0)).set 11 (.int 0)))), (h1, .inr (2, f1))] 0 0 := by
  intro sz
  refine Met.ofW (cc := cX6_gather) (maxL := 5) (ret := (some .boolean)) (by decide) rfl ?_
  intro p e s m args below meth c s₁ B hml hv
  obtain ⟨rfl, hsz, hP, hK, hD0, hN, hX⟩ := hv
  have hx := B.exec
  have hb := B.bytes
  have hr := B.returns
  have hts := atoms_spec (ws := wsX6_gather) B.pre
  have hown : s.vm.findClass RX6 = some m.cls := findClass_of_methodNamed B.named
  have hlocks := B.notSynchronized
  have hin6 : ∀ w ∈ wsX60, w ∈ wsX6_gather := (fun w h => (List.mem_cons_of_mem _ (List.mem_append_left _ (List.mem_append_right _ h))))
  have hin2 : ∀ w ∈ wsX20, w ∈ wsX6_gather := (fun w h => (List.mem_cons_of_mem _ (List.mem_append_right _ h)))
  subst hsz
  have hD := hD0.self (sz := s.heap.size)
  have hAE := k_AE hD0 hX
  generalize hAe : va_A [(h0, .inr (6, f0)), (h1, .inr (2, f1))] s.heap.size = A at hD hAE ⊢
  have hA : ∀ q : Nat, s.heap.size ≤ q → A q := fun q h => by rw [← hAe]; exact Or.inr h
  have hS : va_S A s.heap s.heap [] := va_S.rf
  have hP : va_P D vwCl [(h0, .inr (6, f0)), (h1, .inr (2, f1))] s.heap := hP
  have hl := lv_entry ([.ref h0, .int 0] : List Value) (n := 5) (Nat.le_of_ble_eq_true rfl)
  rw [lg_entry_eq]
  generalize (lg_sl ([.ref h0, .int 0]) ++ List.replicate (5 - (lg_sl ([.ref h0, .int 0])).length) Slot.unset).toArray = ls at hl ⊢
  have hl : lv_has ls 5 [(0, .ref h0), (1, .int 0)] := hl
  refine lv_aload_n hx hb dX6_gather_0 rfl (lv_at hl 0 rfl) ?_
  refine lv_iconst (v := 0) hx hb dX6_gather_1 (by decide) ?_
  refine va_put (D := D) (ref := "IntegerHouse$Places") (ci := 6) (v := .int 0) (ty := .int) (C := RX6) (T := TX6) (N := 14) hx hb hts hin6 tyX6 tyX6_ok nmX6 hown hK hP hD hS 0 rfl rfl 10 (by decide) (hts (.fieldLink RX6 76 "IntegerHouse$Places" "atoms" "I") (List.mem_cons_of_mem _ (List.mem_append_left _ (List.mem_append_left _ (List.mem_append_left _ (List.mem_of_getElem? (i := 0) rfl)))))) (fun _ h9 => h9) rfl (by decide +kernel) rfl rfl (k_len e0) dX6_gather_2 (fun H locs hP hD hS => ?_)
  have hP : va_P D vwCl [(h0, .inr (6, (f0.set 10 (.int 0)))), (h1, .inr (2, f1))] H := hP
  have hD : va_D A [(h0, .inr (6, (f0.set 10 (.int 0)))), (h1, .inr (2, f1))] := hD
  refine lv_aload_n hx hb dX6_gather_5 rfl (lv_at hl 0 rfl) ?_
  refine lv_iload_n hx hb dX6_gather_6 rfl (lv_at hl 1 rfl) ?_
  refine va_put (D := D) (ref := "IntegerHouse$Places") (ci := 6) (v := .int 0) (ty := .int) (C := RX6) (T := TX6) (N := 14) hx hb hts hin6 tyX6 tyX6_ok nmX6 hown hK hP hD hS 0 rfl rfl 11 (by decide) (hts (.fieldLink RX6 90 "IntegerHouse$Places" "needed" "I") (List.mem_cons_of_mem _ (List.mem_append_left _ (List.mem_append_left _ (List.mem_append_left _ (List.mem_of_getElem? (i := 1) rfl)))))) (fun _ h9 => h9) rfl (by decide +kernel) rfl rfl (k_len (k_ne (by decide) e1)) dX6_gather_7 (fun H locs hP hD hS => ?_)
  have hP : va_P D vwCl [(h0, .inr (6, ((f0.set 10 (.int 0)).set 11 (.int 0)))), (h1, .inr (2, f1))] H := hP
  have hD : va_D A [(h0, .inr (6, ((f0.set 10 (.int 0)).set 11 (.int 0)))), (h1, .inr (2, f1))] := hD
  refine lv_aload_n hx hb dX6_gather_10 rfl (lv_at hl 0 rfl) ?_
  refine lv_iconst (v := 1) hx hb dX6_gather_11 (by decide) ?_
  refine lv_iconst (v := 0) hx hb dX6_gather_12 (by decide) ?_
  refine lv_iconst (v := 4) hx hb dX6_gather_13 (by decide) ?_
  refine lv_aload_n hx hb dX6_gather_14 rfl (lv_at hl 0 rfl) ?_
  refine va_get (D := D) (ref := "IntegerHouse$Places") (ci := 6) (v := .ref h1) (C := RX6) (T := TX6) (N := 14) hx hb hts hin6 hown hK hP 0 rfl rfl 0 (by decide) (hts (.fieldLink RX6 44 "IntegerHouse$Places" "house" "LIntegerHouse$House;") (List.mem_cons_of_mem _ (List.mem_append_left _ (List.mem_append_left _ (List.mem_append_left _ (List.mem_of_getElem? (i := 2) rfl)))))) (fun _ h9 => h9) (k_ne (by decide) (k_ne (by decide) e2)) dX6_gather_15 ?_
  refine va_getN (host := "IntegerHouse") (D := D) (ref := "IntegerHouse$House") (ci := 2) (v := .int 0) (C := RX2) (T := TX2) (N := 16) hx hb hts hin2 hown hK hP 1 rfl rfl 10 (by decide) (va_Nw.use rfl (hN.1 ("IntegerHouse$Places", 93, "IntegerHouse$House", "variables", "I", "IntegerHouse") (List.mem_of_getElem? (i := 9) rfl))) (fun _ h9 => h9) e3 dX6_gather_18 ?_
  refine va_mmin hx hb (by rw [hml]; exact hl.1.symm) hown (hts (.methodLink RX6 96 Lib.Math.min.name) (List.mem_cons_of_mem _ (List.mem_append_left _ (List.mem_append_left _ (List.mem_append_left _ (List.mem_of_getElem? (i := 3) rfl)))))) (hts (.static Lib.Math.min.name) (List.mem_cons_of_mem _ (List.mem_append_left _ (List.mem_append_left _ (List.mem_append_left _ (List.mem_of_getElem? (i := 4) rfl)))))) (hts (.initialized "java/lang/Math") (List.mem_cons_of_mem _ (List.mem_append_left _ (List.mem_append_left _ (List.mem_append_left _ (List.mem_of_getElem? (i := 5) rfl)))))) (hts (.code Lib.Math.min.name Lib.Math.min.code 2 (some .int)) (List.mem_cons_of_mem _ (List.mem_append_left _ (List.mem_append_left _ (List.mem_append_left _ (List.mem_of_getElem? (i := 6) rfl)))))) (Nat.le_of_ble_eq_true rfl) (Nat.le_of_ble_eq_true rfl) (Nat.le_of_ble_eq_true rfl) (Nat.le_of_ble_eq_true rfl) dX6_gather_21 ?_
  refine k_topi (y := 0) (by decide) ?_
  refine va_mmax hx hb (by rw [hml]; exact hl.1.symm) hown (hts (.methodLink RX6 101 Lib.Math.max.name) (List.mem_cons_of_mem _ (List.mem_append_left _ (List.mem_append_left _ (List.mem_append_left _ (List.mem_of_getElem? (i := 7) rfl)))))) (hts (.static Lib.Math.max.name) (List.mem_cons_of_mem _ (List.mem_append_left _ (List.mem_append_left _ (List.mem_append_left _ (List.mem_of_getElem? (i := 8) rfl)))))) (hts (.initialized "java/lang/Math") (List.mem_cons_of_mem _ (List.mem_append_left _ (List.mem_append_left _ (List.mem_append_left _ (List.mem_of_getElem? (i := 5) rfl)))))) (hts (.code Lib.Math.max.name Lib.Math.max.code 2 (some .int)) (List.mem_cons_of_mem _ (List.mem_append_left _ (List.mem_append_left _ (List.mem_append_left _ (List.mem_of_getElem? (i := 9) rfl)))))) (Nat.le_of_ble_eq_true rfl) (Nat.le_of_ble_eq_true rfl) (Nat.le_of_ble_eq_true rfl) (Nat.le_of_ble_eq_true rfl) dX6_gather_24 ?_
  refine k_topi (y := 0) (by decide) ?_
  refine lv_ishl hx hb dX6_gather_27 ?_
  refine k_topi (y := 1) (by decide) ?_
  refine va_put (D := D) (ref := "IntegerHouse$Places") (ci := 6) (v := .int 1) (ty := .int) (C := RX6) (T := TX6) (N := 14) hx hb hts hin6 tyX6 tyX6_ok nmX6 hown hK hP hD hS 0 rfl rfl 12 (by decide) (hts (.fieldLink RX6 56 "IntegerHouse$Places" "letters" "I") (List.mem_cons_of_mem _ (List.mem_append_left _ (List.mem_append_left _ (List.mem_append_left _ (List.mem_of_getElem? (i := 10) rfl)))))) (fun _ h9 => h9) rfl (by decide +kernel) rfl rfl (k_len (k_ne (by decide) (k_ne (by decide) e4))) dX6_gather_28 (fun H locs hP hD hS => ?_)
  have hP : va_P D vwCl [(h0, .inr (6, (((f0.set 10 (.int 0)).set 11 (.int 0)).set 12 (.int 1)))), (h1, .inr (2, f1))] H := hP
  have hD : va_D A [(h0, .inr (6, (((f0.set 10 (.int 0)).set 11 (.int 0)).set 12 (.int 1)))), (h1, .inr (2, f1))] := hD
  refine lv_iconst (v := 0) hx hb dX6_gather_31 (by decide) ?_
  refine lv_istore_n (lv' := [(2, .int 0), (0, .ref h0), (1, .int 0)]) hx hb dX6_gather_32 rfl hl (by decide) rfl (fun ls hl => ?_)
  refine lv_iload_n hx hb dX6_gather_33 rfl (lv_at hl 0 rfl) ?_
  refine lv_bipush (v := 24) hx hb dX6_gather_34 (by decide) ?_
  refine lv_icmp_gt (tgt := 102) hx hb dX6_gather_36 (by decide) (fun c9 => absurd c9 (by decide)) (fun _ => ?_)
  refine lv_iload_n hx hb dX6_gather_39 rfl (lv_at hl 2 rfl) ?_
  refine lv_iload_n hx hb dX6_gather_40 rfl (lv_at hl 0 rfl) ?_
  refine lv_iushr (v := 0) hx hb dX6_gather_41 (by decide) ?_
  refine lv_iconst (v := 1) hx hb dX6_gather_42 (by decide) ?_
  refine lv_iand hx hb dX6_gather_43 ?_
  refine k_topi (y := 0) (by decide) ?_
  refine lv_iconst (v := 1) hx hb dX6_gather_44 (by decide) ?_
  refine lv_icmp_ne (tgt := 60) hx hb dX6_gather_45 (by decide) (fun _ => ?_) (fun c9 => absurd c9 (by decide))
  refine lv_iconst (v := 0) hx hb dX6_gather_60 (by decide) ?_
  refine lv_istore_n (lv' := [(3, .int 0), (2, .int 0), (0, .ref h0), (1, .int 0)]) hx hb dX6_gather_61 rfl hl (by decide) rfl (fun ls hl => ?_)
  refine lv_iconst (v := 0) hx hb dX6_gather_62 (by decide) ?_
  refine lv_istore (lv' := [(4, .int 0), (3, .int 0), (2, .int 0), (0, .ref h0), (1, .int 0)]) hx hb dX6_gather_63 hl (by decide) rfl (fun ls hl => ?_)
  refine lv_iload hx hb dX6_gather_65 (lv_at hl 0 rfl) ?_
  refine lv_iload_n hx hb dX6_gather_67 rfl (lv_at hl 1 rfl) ?_
  refine lv_icmp_ge (tgt := 96) hx hb dX6_gather_68 (by decide) (fun _ => ?_) (fun c9 => absurd (by decide) c9)
  refine lv_iinc (v := 1) (lv' := [(2, .int 1), (4, .int 0), (3, .int 0), (0, .ref h0), (1, .int 0)]) hx hb dX6_gather_96 hl (k := 2) rfl (by decide) (by decide) rfl (fun ls hl => ?_)
  refine lv_goto (tgt := 33) hx hb dX6_gather_99 (by decide) ?_
  refine lv_iload_n hx hb dX6_gather_33 rfl (lv_at hl 0 rfl) ?_
  refine lv_bipush (v := 24) hx hb dX6_gather_34 (by decide) ?_
  refine lv_icmp_gt (tgt := 102) hx hb dX6_gather_36 (by decide) (fun c9 => absurd c9 (by decide)) (fun _ => ?_)
  refine lv_iload_n hx hb dX6_gather_39 rfl (lv_at hl 4 rfl) ?_
  refine lv_iload_n hx hb dX6_gather_40 rfl (lv_at hl 0 rfl) ?_
  refine lv_iushr (v := 0) hx hb dX6_gather_41 (by decide) ?_
  refine lv_iconst (v := 1) hx hb dX6_gather_42 (by decide) ?_
  refine lv_iand hx hb dX6_gather_43 ?_
  refine k_topi (y := 0) (by decide) ?_
  refine lv_iconst (v := 1) hx hb dX6_gather_44 (by decide) ?_
  refine lv_icmp_ne (tgt := 60) hx hb dX6_gather_45 (by decide) (fun _ => ?_) (fun c9 => absurd c9 (by decide))
  refine lv_iconst (v := 0) hx hb dX6_gather_60 (by decide) ?_
  refine lv_istore_n (lv' := [(3, .int 0), (2, .int 1), (4, .int 0), (0, .ref h0), (1, .int 0)]) hx hb dX6_gather_61 rfl hl (by decide) rfl (fun ls hl => ?_)
  refine lv_iconst (v := 0) hx hb dX6_gather_62 (by decide) ?_
  refine lv_istore (lv' := [(4, .int 0), (3, .int 0), (2, .int 1), (0, .ref h0), (1, .int 0)]) hx hb dX6_gather_63 hl (by decide) rfl (fun ls hl => ?_)
  refine lv_iload hx hb dX6_gather_65 (lv_at hl 0 rfl) ?_
  refine lv_iload_n hx hb dX6_gather_67 rfl (lv_at hl 1 rfl) ?_
  refine lv_icmp_ge (tgt := 96) hx hb dX6_gather_68 (by decide) (fun _ => ?_) (fun c9 => absurd (by decide) c9)
  refine lv_iinc (v := 2) (lv' := [(2, .int 2), (4, .int 0), (3, .int 0), (0, .ref h0), (1, .int 0)]) hx hb dX6_gather_96 hl (k := 2) rfl (by decide) (by decide) rfl (fun ls hl => ?_)
  refine lv_goto (tgt := 33) hx hb dX6_gather_99 (by decide) ?_
  refine lv_iload_n hx hb dX6_gather_33 rfl (lv_at hl 0 rfl) ?_
  refine lv_bipush (v := 24) hx hb dX6_gather_34 (by decide) ?_
  refine lv_icmp_gt (tgt := 102) hx hb dX6_gather_36 (by decide) (fun c9 => absurd c9 (by decide)) (fun _ => ?_)
  refine lv_iload_n hx hb dX6_gather_39 rfl (lv_at hl 4 rfl) ?_
  refine lv_iload_n hx hb dX6_gather_40 rfl (lv_at hl 0 rfl) ?_
  refine lv_iushr (v := 0) hx hb dX6_gather_41 (by decide) ?_
  refine lv_iconst (v := 1) hx hb dX6_gather_42 (by decide) ?_
  refine lv_iand hx hb dX6_gather_43 ?_
  refine k_topi (y := 0) (by decide) ?_
  refine lv_iconst (v := 1) hx hb dX6_gather_44 (by decide) ?_
  refine lv_icmp_ne (tgt := 60) hx hb dX6_gather_45 (by decide) (fun _ => ?_) (fun c9 => absurd c9 (by decide))
  refine lv_iconst (v := 0) hx hb dX6_gather_60 (by decide) ?_
  refine lv_istore_n (lv' := [(3, .int 0), (2, .int 2), (4, .int 0), (0, .ref h0), (1, .int 0)]) hx hb dX6_gather_61 rfl hl (by decide) rfl (fun ls hl => ?_)
  refine lv_iconst (v := 0) hx hb dX6_gather_62 (by decide) ?_
  refine lv_istore (lv' := [(4, .int 0), (3, .int 0), (2, .int 2), (0, .ref h0), (1, .int 0)]) hx hb dX6_gather_63 hl (by decide) rfl (fun ls hl => ?_)
  refine lv_iload hx hb dX6_gather_65 (lv_at hl 0 rfl) ?_
  refine lv_iload_n hx hb dX6_gather_67 rfl (lv_at hl 1 rfl) ?_
  refine lv_icmp_ge (tgt := 96) hx hb dX6_gather_68 (by decide) (fun _ => ?_) (fun c9 => absurd (by decide) c9)
  refine lv_iinc (v := 3) (lv' := [(2, .int 3), (4, .int 0), (3, .int 0), (0, .ref h0), (1, .int 0)]) hx hb dX6_gather_96 hl (k := 2) rfl (by decide) (by decide) rfl (fun ls hl => ?_)
  refine lv_goto (tgt := 33) hx hb dX6_gather_99 (by decide) ?_
  refine lv_iload_n hx hb dX6_gather_33 rfl (lv_at hl 0 rfl) ?_
  refine lv_bipush (v := 24) hx hb dX6_gather_34 (by decide) ?_
  refine lv_icmp_gt (tgt := 102) hx hb dX6_gather_36 (by decide) (fun c9 => absurd c9 (by decide)) (fun _ => ?_)
  refine lv_iload_n hx hb dX6_gather_39 rfl (lv_at hl 4 rfl) ?_
  refine lv_iload_n hx hb dX6_gather_40 rfl (lv_at hl 0 rfl) ?_
  refine lv_iushr (v := 0) hx hb dX6_gather_41 (by decide) ?_
  refine lv_iconst (v := 1) hx hb dX6_gather_42 (by decide) ?_
  refine lv_iand hx hb dX6_gather_43 ?_
  refine k_topi (y := 0) (by decide) ?_
  refine lv_iconst (v := 1) hx hb dX6_gather_44 (by decide) ?_
  refine lv_icmp_ne (tgt := 60) hx hb dX6_gather_45 (by decide) (fun _ => ?_) (fun c9 => absurd c9 (by decide))
  refine lv_iconst (v := 0) hx hb dX6_gather_60 (by decide) ?_
  refine lv_istore_n (lv' := [(3, .int 0), (2, .int 3), (4, .int 0), (0, .ref h0), (1, .int 0)]) hx hb dX6_gather_61 rfl hl (by decide) rfl (fun ls hl => ?_)
  refine lv_iconst (v := 0) hx hb dX6_gather_62 (by decide) ?_
  refine lv_istore (lv' := [(4, .int 0), (3, .int 0), (2, .int 3), (0, .ref h0), (1, .int 0)]) hx hb dX6_gather_63 hl (by decide) rfl (fun ls hl => ?_)
  refine lv_iload hx hb dX6_gather_65 (lv_at hl 0 rfl) ?_
  refine lv_iload_n hx hb dX6_gather_67 rfl (lv_at hl 1 rfl) ?_
  refine lv_icmp_ge (tgt := 96) hx hb dX6_gather_68 (by decide) (fun _ => ?_) (fun c9 => absurd (by decide) c9)
  refine lv_iinc (v := 4) (lv' := [(2, .int 4), (4, .int 0), (3, .int 0), (0, .ref h0), (1, .int 0)]) hx hb dX6_gather_96 hl (k := 2) rfl (by decide) (by decide) rfl (fun ls hl => ?_)
  refine lv_goto (tgt := 33) hx hb dX6_gather_99 (by decide) ?_
  refine lv_iload_n hx hb dX6_gather_33 rfl (lv_at hl 0 rfl) ?_
  refine lv_bipush (v := 24) hx hb dX6_gather_34 (by decide) ?_
  refine lv_icmp_gt (tgt := 102) hx hb dX6_gather_36 (by decide) (fun c9 => absurd c9 (by decide)) (fun _ => ?_)
  refine lv_iload_n hx hb dX6_gather_39 rfl (lv_at hl 4 rfl) ?_
  refine lv_iload_n hx hb dX6_gather_40 rfl (lv_at hl 0 rfl) ?_
  refine lv_iushr (v := 0) hx hb dX6_gather_41 (by decide) ?_
  refine lv_iconst (v := 1) hx hb dX6_gather_42 (by decide) ?_
  refine lv_iand hx hb dX6_gather_43 ?_
  refine k_topi (y := 0) (by decide) ?_
  refine lv_iconst (v := 1) hx hb dX6_gather_44 (by decide) ?_
  refine lv_icmp_ne (tgt := 60) hx hb dX6_gather_45 (by decide) (fun _ => ?_) (fun c9 => absurd c9 (by decide))
  refine lv_iconst (v := 0) hx hb dX6_gather_60 (by decide) ?_
  refine lv_istore_n (lv' := [(3, .int 0), (2, .int 4), (4, .int 0), (0, .ref h0), (1, .int 0)]) hx hb dX6_gather_61 rfl hl (by decide) rfl (fun ls hl => ?_)
  refine lv_iconst (v := 0) hx hb dX6_gather_62 (by decide) ?_
  refine lv_istore (lv' := [(4, .int 0), (3, .int 0), (2, .int 4), (0, .ref h0), (1, .int 0)]) hx hb dX6_gather_63 hl (by decide) rfl (fun ls hl => ?_)
  refine lv_iload hx hb dX6_gather_65 (lv_at hl 0 rfl) ?_
  refine lv_iload_n hx hb dX6_gather_67 rfl (lv_at hl 1 rfl) ?_
  refine lv_icmp_ge (tgt := 96) hx hb dX6_gather_68 (by decide) (fun _ => ?_) (fun c9 => absurd (by decide) c9)
  refine lv_iinc (v := 5) (lv' := [(2, .int 5), (4, .int 0), (3, .int 0), (0, .ref h0), (1, .int 0)]) hx hb dX6_gather_96 hl (k := 2) rfl (by decide) (by decide) rfl (fun ls hl => ?_)
  refine lv_goto (tgt := 33) hx hb dX6_gather_99 (by decide) ?_
  refine lv_iload_n hx hb dX6_gather_33 rfl (lv_at hl 0 rfl) ?_
  refine lv_bipush (v := 24) hx hb dX6_gather_34 (by decide) ?_
  refine lv_icmp_gt (tgt := 102) hx hb dX6_gather_36 (by decide) (fun c9 => absurd c9 (by decide)) (fun _ => ?_)
  refine lv_iload_n hx hb dX6_gather_39 rfl (lv_at hl 4 rfl) ?_
  refine lv_iload_n hx hb dX6_gather_40 rfl (lv_at hl 0 rfl) ?_
  refine lv_iushr (v := 0) hx hb dX6_gather_41 (by decide) ?_
  refine lv_iconst (v := 1) hx hb dX6_gather_42 (by decide) ?_
  refine lv_iand hx hb dX6_gather_43 ?_
  refine k_topi (y := 0) (by decide) ?_
  refine lv_iconst (v := 1) hx hb dX6_gather_44 (by decide) ?_
  refine lv_icmp_ne (tgt := 60) hx hb dX6_gather_45 (by decide) (fun _ => ?_) (fun c9 => absurd c9 (by decide))
  refine lv_iconst (v := 0) hx hb dX6_gather_60 (by decide) ?_
  refine lv_istore_n (lv' := [(3, .int 0), (2, .int 5), (4, .int 0), (0, .ref h0), (1, .int 0)]) hx hb dX6_gather_61 rfl hl (by decide) rfl (fun ls hl => ?_)
  refine lv_iconst (v := 0) hx hb dX6_gather_62 (by decide) ?_
  refine lv_istore (lv' := [(4, .int 0), (3, .int 0), (2, .int 5), (0, .ref h0), (1, .int 0)]) hx hb dX6_gather_63 hl (by decide) rfl (fun ls hl => ?_)
  refine lv_iload hx hb dX6_gather_65 (lv_at hl 0 rfl) ?_
  refine lv_iload_n hx hb dX6_gather_67 rfl (lv_at hl 1 rfl) ?_
  refine lv_icmp_ge (tgt := 96) hx hb dX6_gather_68 (by decide) (fun _ => ?_) (fun c9 => absurd (by decide) c9)
  refine lv_iinc (v := 6) (lv' := [(2, .int 6), (4, .int 0), (3, .int 0), (0, .ref h0), (1, .int 0)]) hx hb dX6_gather_96 hl (k := 2) rfl (by decide) (by decide) rfl (fun ls hl => ?_)
  refine lv_goto (tgt := 33) hx hb dX6_gather_99 (by decide) ?_
  refine lv_iload_n hx hb dX6_gather_33 rfl (lv_at hl 0 rfl) ?_
  refine lv_bipush (v := 24) hx hb dX6_gather_34 (by decide) ?_
  refine lv_icmp_gt (tgt := 102) hx hb dX6_gather_36 (by decide) (fun c9 => absurd c9 (by decide)) (fun _ => ?_)
  refine lv_iload_n hx hb dX6_gather_39 rfl (lv_at hl 4 rfl) ?_
  refine lv_iload_n hx hb dX6_gather_40 rfl (lv_at hl 0 rfl) ?_
  refine lv_iushr (v := 0) hx hb dX6_gather_41 (by decide) ?_
  refine lv_iconst (v := 1) hx hb dX6_gather_42 (by decide) ?_
  refine lv_iand hx hb dX6_gather_43 ?_
  refine k_topi (y := 0) (by decide) ?_
  refine lv_iconst (v := 1) hx hb dX6_gather_44 (by decide) ?_
  refine lv_icmp_ne (tgt := 60) hx hb dX6_gather_45 (by decide) (fun _ => ?_) (fun c9 => absurd c9 (by decide))
  refine lv_iconst (v := 0) hx hb dX6_gather_60 (by decide) ?_
  refine lv_istore_n (lv' := [(3, .int 0), (2, .int 6), (4, .int 0), (0, .ref h0), (1, .int 0)]) hx hb dX6_gather_61 rfl hl (by decide) rfl (fun ls hl => ?_)
  refine lv_iconst (v := 0) hx hb dX6_gather_62 (by decide) ?_
  refine lv_istore (lv' := [(4, .int 0), (3, .int 0), (2, .int 6), (0, .ref h0), (1, .int 0)]) hx hb dX6_gather_63 hl (by decide) rfl (fun ls hl => ?_)
  refine lv_iload hx hb dX6_gather_65 (lv_at hl 0 rfl) ?_
  refine lv_iload_n hx hb dX6_gather_67 rfl (lv_at hl 1 rfl) ?_
  refine lv_icmp_ge (tgt := 96) hx hb dX6_gather_68 (by decide) (fun _ => ?_) (fun c9 => absurd (by decide) c9)
  refine lv_iinc (v := 7) (lv' := [(2, .int 7), (4, .int 0), (3, .int 0), (0, .ref h0), (1, .int 0)]) hx hb dX6_gather_96 hl (k := 2) rfl (by decide) (by decide) rfl (fun ls hl => ?_)
  refine lv_goto (tgt := 33) hx hb dX6_gather_99 (by decide) ?_
  refine lv_iload_n hx hb dX6_gather_33 rfl (lv_at hl 0 rfl) ?_
  refine lv_bipush (v := 24) hx hb dX6_gather_34 (by decide) ?_
  refine lv_icmp_gt (tgt := 102) hx hb dX6_gather_36 (by decide) (fun c9 => absurd c9 (by decide)) (fun _ => ?_)
  refine lv_iload_n hx hb dX6_gather_39 rfl (lv_at hl 4 rfl) ?_
  refine lv_iload_n hx hb dX6_gather_40 rfl (lv_at hl 0 rfl) ?_
  refine lv_iushr (v := 0) hx hb dX6_gather_41 (by decide) ?_
  refine lv_iconst (v := 1) hx hb dX6_gather_42 (by decide) ?_
  refine lv_iand hx hb dX6_gather_43 ?_
  refine k_topi (y := 0) (by decide) ?_
  refine lv_iconst (v := 1) hx hb dX6_gather_44 (by decide) ?_
  refine lv_icmp_ne (tgt := 60) hx hb dX6_gather_45 (by decide) (fun _ => ?_) (fun c9 => absurd c9 (by decide))
  refine lv_iconst (v := 0) hx hb dX6_gather_60 (by decide) ?_
  refine lv_istore_n (lv' := [(3, .int 0), (2, .int 7), (4, .int 0), (0, .ref h0), (1, .int 0)]) hx hb dX6_gather_61 rfl hl (by decide) rfl (fun ls hl => ?_)
  refine lv_iconst (v := 0) hx hb dX6_gather_62 (by decide) ?_
  refine lv_istore (lv' := [(4, .int 0), (3, .int 0), (2, .int 7), (0, .ref h0), (1, .int 0)]) hx hb dX6_gather_63 hl (by decide) rfl (fun ls hl => ?_)
  refine lv_iload hx hb dX6_gather_65 (lv_at hl 0 rfl) ?_
  refine lv_iload_n hx hb dX6_gather_67 rfl (lv_at hl 1 rfl) ?_
  refine lv_icmp_ge (tgt := 96) hx hb dX6_gather_68 (by decide) (fun _ => ?_) (fun c9 => absurd (by decide) c9)
  refine lv_iinc (v := 8) (lv' := [(2, .int 8), (4, .int 0), (3, .int 0), (0, .ref h0), (1, .int 0)]) hx hb dX6_gather_96 hl (k := 2) rfl (by decide) (by decide) rfl (fun ls hl => ?_)
  refine lv_goto (tgt := 33) hx hb dX6_gather_99 (by decide) ?_
  refine lv_iload_n hx hb dX6_gather_33 rfl (lv_at hl 0 rfl) ?_
  refine lv_bipush (v := 24) hx hb dX6_gather_34 (by decide) ?_
  refine lv_icmp_gt (tgt := 102) hx hb dX6_gather_36 (by decide) (fun c9 => absurd c9 (by decide)) (fun _ => ?_)
  refine lv_iload_n hx hb dX6_gather_39 rfl (lv_at hl 4 rfl) ?_
  refine lv_iload_n hx hb dX6_gather_40 rfl (lv_at hl 0 rfl) ?_
  refine lv_iushr (v := 0) hx hb dX6_gather_41 (by decide) ?_
  refine lv_iconst (v := 1) hx hb dX6_gather_42 (by decide) ?_
  refine lv_iand hx hb dX6_gather_43 ?_
  refine k_topi (y := 0) (by decide) ?_
  refine lv_iconst (v := 1) hx hb dX6_gather_44 (by decide) ?_
  refine lv_icmp_ne (tgt := 60) hx hb dX6_gather_45 (by decide) (fun _ => ?_) (fun c9 => absurd c9 (by decide))
  refine lv_iconst (v := 0) hx hb dX6_gather_60 (by decide) ?_
  refine lv_istore_n (lv' := [(3, .int 0), (2, .int 8), (4, .int 0), (0, .ref h0), (1, .int 0)]) hx hb dX6_gather_61 rfl hl (by decide) rfl (fun ls hl => ?_)
  refine lv_iconst (v := 0) hx hb dX6_gather_62 (by decide) ?_
  refine lv_istore (lv' := [(4, .int 0), (3, .int 0), (2, .int 8), (0, .ref h0), (1, .int 0)]) hx hb dX6_gather_63 hl (by decide) rfl (fun ls hl => ?_)
  refine lv_iload hx hb dX6_gather_65 (lv_at hl 0 rfl) ?_
  refine lv_iload_n hx hb dX6_gather_67 rfl (lv_at hl 1 rfl) ?_
  refine lv_icmp_ge (tgt := 96) hx hb dX6_gather_68 (by decide) (fun _ => ?_) (fun c9 => absurd (by decide) c9)
  refine lv_iinc (v := 9) (lv' := [(2, .int 9), (4, .int 0), (3, .int 0), (0, .ref h0), (1, .int 0)]) hx hb dX6_gather_96 hl (k := 2) rfl (by decide) (by decide) rfl (fun ls hl => ?_)
  refine lv_goto (tgt := 33) hx hb dX6_gather_99 (by decide) ?_
  refine lv_iload_n hx hb dX6_gather_33 rfl (lv_at hl 0 rfl) ?_
  refine lv_bipush (v := 24) hx hb dX6_gather_34 (by decide) ?_
  refine lv_icmp_gt (tgt := 102) hx hb dX6_gather_36 (by decide) (fun c9 => absurd c9 (by decide)) (fun _ => ?_)
  refine lv_iload_n hx hb dX6_gather_39 rfl (lv_at hl 4 rfl) ?_
  refine lv_iload_n hx hb dX6_gather_40 rfl (lv_at hl 0 rfl) ?_
  refine lv_iushr (v := 0) hx hb dX6_gather_41 (by decide) ?_
  refine lv_iconst (v := 1) hx hb dX6_gather_42 (by decide) ?_
  refine lv_iand hx hb dX6_gather_43 ?_
  refine k_topi (y := 0) (by decide) ?_
  refine lv_iconst (v := 1) hx hb dX6_gather_44 (by decide) ?_
  refine lv_icmp_ne (tgt := 60) hx hb dX6_gather_45 (by decide) (fun _ => ?_) (fun c9 => absurd c9 (by decide))
  refine lv_iconst (v := 0) hx hb dX6_gather_60 (by decide) ?_
  refine lv_istore_n (lv' := [(3, .int 0), (2, .int 9), (4, .int 0), (0, .ref h0), (1, .int 0)]) hx hb dX6_gather_61 rfl hl (by decide) rfl (fun ls hl => ?_)
  refine lv_iconst (v := 0) hx hb dX6_gather_62 (by decide) ?_
  refine lv_istore (lv' := [(4, .int 0), (3, .int 0), (2, .int 9), (0, .ref h0), (1, .int 0)]) hx hb dX6_gather_63 hl (by decide) rfl (fun ls hl => ?_)
  refine lv_iload hx hb dX6_gather_65 (lv_at hl 0 rfl) ?_
  refine lv_iload_n hx hb dX6_gather_67 rfl (lv_at hl 1 rfl) ?_
  refine lv_icmp_ge (tgt := 96) hx hb dX6_gather_68 (by decide) (fun _ => ?_) (fun c9 => absurd (by decide) c9)
  refine lv_iinc (v := 10) (lv' := [(2, .int 10), (4, .int 0), (3, .int 0), (0, .ref h0), (1, .int 0)]) hx hb dX6_gather_96 hl (k := 2) rfl (by decide) (by decide) rfl (fun ls hl => ?_)
  refine lv_goto (tgt := 33) hx hb dX6_gather_99 (by decide) ?_
  refine lv_iload_n hx hb dX6_gather_33 rfl (lv_at hl 0 rfl) ?_
  refine lv_bipush (v := 24) hx hb dX6_gather_34 (by decide) ?_
  refine lv_icmp_gt (tgt := 102) hx hb dX6_gather_36 (by decide) (fun c9 => absurd c9 (by decide)) (fun _ => ?_)
  refine lv_iload_n hx hb dX6_gather_39 rfl (lv_at hl 4 rfl) ?_
  refine lv_iload_n hx hb dX6_gather_40 rfl (lv_at hl 0 rfl) ?_
  refine lv_iushr (v := 0) hx hb dX6_gather_41 (by decide) ?_
  refine lv_iconst (v := 1) hx hb dX6_gather_42 (by decide) ?_
  refine lv_iand hx hb dX6_gather_43 ?_
  refine k_topi (y := 0) (by decide) ?_
  refine lv_iconst (v := 1) hx hb dX6_gather_44 (by decide) ?_
  refine lv_icmp_ne (tgt := 60) hx hb dX6_gather_45 (by decide) (fun _ => ?_) (fun c9 => absurd c9 (by decide))
  refine lv_iconst (v := 0) hx hb dX6_gather_60 (by decide) ?_
  refine lv_istore_n (lv' := [(3, .int 0), (2, .int 10), (4, .int 0), (0, .ref h0), (1, .int 0)]) hx hb dX6_gather_61 rfl hl (by decide) rfl (fun ls hl => ?_)
  refine lv_iconst (v := 0) hx hb dX6_gather_62 (by decide) ?_
  refine lv_istore (lv' := [(4, .int 0), (3, .int 0), (2, .int 10), (0, .ref h0), (1, .int 0)]) hx hb dX6_gather_63 hl (by decide) rfl (fun ls hl => ?_)
  refine lv_iload hx hb dX6_gather_65 (lv_at hl 0 rfl) ?_
  refine lv_iload_n hx hb dX6_gather_67 rfl (lv_at hl 1 rfl) ?_
  refine lv_icmp_ge (tgt := 96) hx hb dX6_gather_68 (by decide) (fun _ => ?_) (fun c9 => absurd (by decide) c9)
  refine lv_iinc (v := 11) (lv' := [(2, .int 11), (4, .int 0), (3, .int 0), (0, .ref h0), (1, .int 0)]) hx hb dX6_gather_96 hl (k := 2) rfl (by decide) (by decide) rfl (fun ls hl => ?_)
  refine lv_goto (tgt := 33) hx hb dX6_gather_99 (by decide) ?_
  refine lv_iload_n hx hb dX6_gather_33 rfl (lv_at hl 0 rfl) ?_
  refine lv_bipush (v := 24) hx hb dX6_gather_34 (by decide) ?_
  refine lv_icmp_gt (tgt := 102) hx hb dX6_gather_36 (by decide) (fun c9 => absurd c9 (by decide)) (fun _ => ?_)
  refine lv_iload_n hx hb dX6_gather_39 rfl (lv_at hl 4 rfl) ?_
  refine lv_iload_n hx hb dX6_gather_40 rfl (lv_at hl 0 rfl) ?_
  refine lv_iushr (v := 0) hx hb dX6_gather_41 (by decide) ?_
  refine lv_iconst (v := 1) hx hb dX6_gather_42 (by decide) ?_
  refine lv_iand hx hb dX6_gather_43 ?_
  refine k_topi (y := 0) (by decide) ?_
  refine lv_iconst (v := 1) hx hb dX6_gather_44 (by decide) ?_
  refine lv_icmp_ne (tgt := 60) hx hb dX6_gather_45 (by decide) (fun _ => ?_) (fun c9 => absurd c9 (by decide))
  refine lv_iconst (v := 0) hx hb dX6_gather_60 (by decide) ?_
  refine lv_istore_n (lv' := [(3, .int 0), (2, .int 11), (4, .int 0), (0, .ref h0), (1, .int 0)]) hx hb dX6_gather_61 rfl hl (by decide) rfl (fun ls hl => ?_)
  refine lv_iconst (v := 0) hx hb dX6_gather_62 (by decide) ?_
  refine lv_istore (lv' := [(4, .int 0), (3, .int 0), (2, .int 11), (0, .ref h0), (1, .int 0)]) hx hb dX6_gather_63 hl (by decide) rfl (fun ls hl => ?_)
  refine lv_iload hx hb dX6_gather_65 (lv_at hl 0 rfl) ?_
  refine lv_iload_n hx hb dX6_gather_67 rfl (lv_at hl 1 rfl) ?_
  refine lv_icmp_ge (tgt := 96) hx hb dX6_gather_68 (by decide) (fun _ => ?_) (fun c9 => absurd (by decide) c9)
  refine lv_iinc (v := 12) (lv' := [(2, .int 12), (4, .int 0), (3, .int 0), (0, .ref h0), (1, .int 0)]) hx hb dX6_gather_96 hl (k := 2) rfl (by decide) (by decide) rfl (fun ls hl => ?_)
  refine lv_goto (tgt := 33) hx hb dX6_gather_99 (by decide) ?_
  refine lv_iload_n hx hb dX6_gather_33 rfl (lv_at hl 0 rfl) ?_
  refine lv_bipush (v := 24) hx hb dX6_gather_34 (by decide) ?_
  refine lv_icmp_gt (tgt := 102) hx hb dX6_gather_36 (by decide) (fun c9 => absurd c9 (by decide)) (fun _ => ?_)
  refine lv_iload_n hx hb dX6_gather_39 rfl (lv_at hl 4 rfl) ?_
  refine lv_iload_n hx hb dX6_gather_40 rfl (lv_at hl 0 rfl) ?_
  refine lv_iushr (v := 0) hx hb dX6_gather_41 (by decide) ?_
  refine lv_iconst (v := 1) hx hb dX6_gather_42 (by decide) ?_
  refine lv_iand hx hb dX6_gather_43 ?_
  refine k_topi (y := 0) (by decide) ?_
  refine lv_iconst (v := 1) hx hb dX6_gather_44 (by decide) ?_
  refine lv_icmp_ne (tgt := 60) hx hb dX6_gather_45 (by decide) (fun _ => ?_) (fun c9 => absurd c9 (by decide))
  refine lv_iconst (v := 0) hx hb dX6_gather_60 (by decide) ?_
  refine lv_istore_n (lv' := [(3, .int 0), (2, .int 12), (4, .int 0), (0, .ref h0), (1, .int 0)]) hx hb dX6_gather_61 rfl hl (by decide) rfl (fun ls hl => ?_)
  refine lv_iconst (v := 0) hx hb dX6_gather_62 (by decide) ?_
  refine lv_istore (lv' := [(4, .int 0), (3, .int 0), (2, .int 12), (0, .ref h0), (1, .int 0)]) hx hb dX6_gather_63 hl (by decide) rfl (fun ls hl => ?_)
  refine lv_iload hx hb dX6_gather_65 (lv_at hl 0 rfl) ?_
  refine lv_iload_n hx hb dX6_gather_67 rfl (lv_at hl 1 rfl) ?_
  refine lv_icmp_ge (tgt := 96) hx hb dX6_gather_68 (by decide) (fun _ => ?_) (fun c9 => absurd (by decide) c9)
  refine lv_iinc (v := 13) (lv' := [(2, .int 13), (4, .int 0), (3, .int 0), (0, .ref h0), (1, .int 0)]) hx hb dX6_gather_96 hl (k := 2) rfl (by decide) (by decide) rfl (fun ls hl => ?_)
  refine lv_goto (tgt := 33) hx hb dX6_gather_99 (by decide) ?_
  refine lv_iload_n hx hb dX6_gather_33 rfl (lv_at hl 0 rfl) ?_
  refine lv_bipush (v := 24) hx hb dX6_gather_34 (by decide) ?_
  refine lv_icmp_gt (tgt := 102) hx hb dX6_gather_36 (by decide) (fun c9 => absurd c9 (by decide)) (fun _ => ?_)
  refine lv_iload_n hx hb dX6_gather_39 rfl (lv_at hl 4 rfl) ?_
  refine lv_iload_n hx hb dX6_gather_40 rfl (lv_at hl 0 rfl) ?_
  refine lv_iushr (v := 0) hx hb dX6_gather_41 (by decide) ?_
  refine lv_iconst (v := 1) hx hb dX6_gather_42 (by decide) ?_
  refine lv_iand hx hb dX6_gather_43 ?_
  refine k_topi (y := 0) (by decide) ?_
  refine lv_iconst (v := 1) hx hb dX6_gather_44 (by decide) ?_
  refine lv_icmp_ne (tgt := 60) hx hb dX6_gather_45 (by decide) (fun _ => ?_) (fun c9 => absurd c9 (by decide))
  refine lv_iconst (v := 0) hx hb dX6_gather_60 (by decide) ?_
  refine lv_istore_n (lv' := [(3, .int 0), (2, .int 13), (4, .int 0), (0, .ref h0), (1, .int 0)]) hx hb dX6_gather_61 rfl hl (by decide) rfl (fun ls hl => ?_)
  refine lv_iconst (v := 0) hx hb dX6_gather_62 (by decide) ?_
  refine lv_istore (lv' := [(4, .int 0), (3, .int 0), (2, .int 13), (0, .ref h0), (1, .int 0)]) hx hb dX6_gather_63 hl (by decide) rfl (fun ls hl => ?_)
  refine lv_iload hx hb dX6_gather_65 (lv_at hl 0 rfl) ?_
  refine lv_iload_n hx hb dX6_gather_67 rfl (lv_at hl 1 rfl) ?_
  refine lv_icmp_ge (tgt := 96) hx hb dX6_gather_68 (by decide) (fun _ => ?_) (fun c9 => absurd (by decide) c9)
  refine lv_iinc (v := 14) (lv' := [(2, .int 14), (4, .int 0), (3, .int 0), (0, .ref h0), (1, .int 0)]) hx hb dX6_gather_96 hl (k := 2) rfl (by decide) (by decide) rfl (fun ls hl => ?_)
  refine lv_goto (tgt := 33) hx hb dX6_gather_99 (by decide) ?_
  refine lv_iload_n hx hb dX6_gather_33 rfl (lv_at hl 0 rfl) ?_
  refine lv_bipush (v := 24) hx hb dX6_gather_34 (by decide) ?_
  refine lv_icmp_gt (tgt := 102) hx hb dX6_gather_36 (by decide) (fun c9 => absurd c9 (by decide)) (fun _ => ?_)
  refine lv_iload_n hx hb dX6_gather_39 rfl (lv_at hl 4 rfl) ?_
  refine lv_iload_n hx hb dX6_gather_40 rfl (lv_at hl 0 rfl) ?_
  refine lv_iushr (v := 0) hx hb dX6_gather_41 (by decide) ?_
  refine lv_iconst (v := 1) hx hb dX6_gather_42 (by decide) ?_
  refine lv_iand hx hb dX6_gather_43 ?_
  refine k_topi (y := 0) (by decide) ?_
  refine lv_iconst (v := 1) hx hb dX6_gather_44 (by decide) ?_
  refine lv_icmp_ne (tgt := 60) hx hb dX6_gather_45 (by decide) (fun _ => ?_) (fun c9 => absurd c9 (by decide))
  refine lv_iconst (v := 0) hx hb dX6_gather_60 (by decide) ?_
  refine lv_istore_n (lv' := [(3, .int 0), (2, .int 14), (4, .int 0), (0, .ref h0), (1, .int 0)]) hx hb dX6_gather_61 rfl hl (by decide) rfl (fun ls hl => ?_)
  refine lv_iconst (v := 0) hx hb dX6_gather_62 (by decide) ?_
  refine lv_istore (lv' := [(4, .int 0), (3, .int 0), (2, .int 14), (0, .ref h0), (1, .int 0)]) hx hb dX6_gather_63 hl (by decide) rfl (fun ls hl => ?_)
  refine lv_iload hx hb dX6_gather_65 (lv_at hl 0 rfl) ?_
  refine lv_iload_n hx hb dX6_gather_67 rfl (lv_at hl 1 rfl) ?_
  refine lv_icmp_ge (tgt := 96) hx hb dX6_gather_68 (by decide) (fun _ => ?_) (fun c9 => absurd (by decide) c9)
  refine lv_iinc (v := 15) (lv' := [(2, .int 15), (4, .int 0), (3, .int 0), (0, .ref h0), (1, .int 0)]) hx hb dX6_gather_96 hl (k := 2) rfl (by decide) (by decide) rfl (fun ls hl => ?_)
  refine lv_goto (tgt := 33) hx hb dX6_gather_99 (by decide) ?_
  refine lv_iload_n hx hb dX6_gather_33 rfl (lv_at hl 0 rfl) ?_
  refine lv_bipush (v := 24) hx hb dX6_gather_34 (by decide) ?_
  refine lv_icmp_gt (tgt := 102) hx hb dX6_gather_36 (by decide) (fun c9 => absurd c9 (by decide)) (fun _ => ?_)
  refine lv_iload_n hx hb dX6_gather_39 rfl (lv_at hl 4 rfl) ?_
  refine lv_iload_n hx hb dX6_gather_40 rfl (lv_at hl 0 rfl) ?_
  refine lv_iushr (v := 0) hx hb dX6_gather_41 (by decide) ?_
  refine lv_iconst (v := 1) hx hb dX6_gather_42 (by decide) ?_
  refine lv_iand hx hb dX6_gather_43 ?_
  refine k_topi (y := 0) (by decide) ?_
  refine lv_iconst (v := 1) hx hb dX6_gather_44 (by decide) ?_
  refine lv_icmp_ne (tgt := 60) hx hb dX6_gather_45 (by decide) (fun _ => ?_) (fun c9 => absurd c9 (by decide))
  refine lv_iconst (v := 0) hx hb dX6_gather_60 (by decide) ?_
  refine lv_istore_n (lv' := [(3, .int 0), (2, .int 15), (4, .int 0), (0, .ref h0), (1, .int 0)]) hx hb dX6_gather_61 rfl hl (by decide) rfl (fun ls hl => ?_)
  refine lv_iconst (v := 0) hx hb dX6_gather_62 (by decide) ?_
  refine lv_istore (lv' := [(4, .int 0), (3, .int 0), (2, .int 15), (0, .ref h0), (1, .int 0)]) hx hb dX6_gather_63 hl (by decide) rfl (fun ls hl => ?_)
  refine lv_iload hx hb dX6_gather_65 (lv_at hl 0 rfl) ?_
  refine lv_iload_n hx hb dX6_gather_67 rfl (lv_at hl 1 rfl) ?_
  refine lv_icmp_ge (tgt := 96) hx hb dX6_gather_68 (by decide) (fun _ => ?_) (fun c9 => absurd (by decide) c9)
  refine lv_iinc (v := 16) (lv' := [(2, .int 16), (4, .int 0), (3, .int 0), (0, .ref h0), (1, .int 0)]) hx hb dX6_gather_96 hl (k := 2) rfl (by decide) (by decide) rfl (fun ls hl => ?_)
  refine lv_goto (tgt := 33) hx hb dX6_gather_99 (by decide) ?_
  refine lv_iload_n hx hb dX6_gather_33 rfl (lv_at hl 0 rfl) ?_
  refine lv_bipush (v := 24) hx hb dX6_gather_34 (by decide) ?_
  refine lv_icmp_gt (tgt := 102) hx hb dX6_gather_36 (by decide) (fun c9 => absurd c9 (by decide)) (fun _ => ?_)
  refine lv_iload_n hx hb dX6_gather_39 rfl (lv_at hl 4 rfl) ?_
  refine lv_iload_n hx hb dX6_gather_40 rfl (lv_at hl 0 rfl) ?_
  refine lv_iushr (v := 0) hx hb dX6_gather_41 (by decide) ?_
  refine lv_iconst (v := 1) hx hb dX6_gather_42 (by decide) ?_
  refine lv_iand hx hb dX6_gather_43 ?_
  refine k_topi (y := 0) (by decide) ?_
  refine lv_iconst (v := 1) hx hb dX6_gather_44 (by decide) ?_
  refine lv_icmp_ne (tgt := 60) hx hb dX6_gather_45 (by decide) (fun _ => ?_) (fun c9 => absurd c9 (by decide))
  refine lv_iconst (v := 0) hx hb dX6_gather_60 (by decide) ?_
  refine lv_istore_n (lv' := [(3, .int 0), (2, .int 16), (4, .int 0), (0, .ref h0), (1, .int 0)]) hx hb dX6_gather_61 rfl hl (by decide) rfl (fun ls hl => ?_)
  refine lv_iconst (v := 0) hx hb dX6_gather_62 (by decide) ?_
  refine lv_istore (lv' := [(4, .int 0), (3, .int 0), (2, .int 16), (0, .ref h0), (1, .int 0)]) hx hb dX6_gather_63 hl (by decide) rfl (fun ls hl => ?_)
  refine lv_iload hx hb dX6_gather_65 (lv_at hl 0 rfl) ?_
  refine lv_iload_n hx hb dX6_gather_67 rfl (lv_at hl 1 rfl) ?_
  refine lv_icmp_ge (tgt := 96) hx hb dX6_gather_68 (by decide) (fun _ => ?_) (fun c9 => absurd (by decide) c9)
  refine lv_iinc (v := 17) (lv' := [(2, .int 17), (4, .int 0), (3, .int 0), (0, .ref h0), (1, .int 0)]) hx hb dX6_gather_96 hl (k := 2) rfl (by decide) (by decide) rfl (fun ls hl => ?_)
  refine lv_goto (tgt := 33) hx hb dX6_gather_99 (by decide) ?_
  refine lv_iload_n hx hb dX6_gather_33 rfl (lv_at hl 0 rfl) ?_
  refine lv_bipush (v := 24) hx hb dX6_gather_34 (by decide) ?_
  refine lv_icmp_gt (tgt := 102) hx hb dX6_gather_36 (by decide) (fun c9 => absurd c9 (by decide)) (fun _ => ?_)
  refine lv_iload_n hx hb dX6_gather_39 rfl (lv_at hl 4 rfl) ?_
  refine lv_iload_n hx hb dX6_gather_40 rfl (lv_at hl 0 rfl) ?_
  refine lv_iushr (v := 0) hx hb dX6_gather_41 (by decide) ?_
  refine lv_iconst (v := 1) hx hb dX6_gather_42 (by decide) ?_
  refine lv_iand hx hb dX6_gather_43 ?_
  refine k_topi (y := 0) (by decide) ?_
  refine lv_iconst (v := 1) hx hb dX6_gather_44 (by decide) ?_
  refine lv_icmp_ne (tgt := 60) hx hb dX6_gather_45 (by decide) (fun _ => ?_) (fun c9 => absurd c9 (by decide))
  refine lv_iconst (v := 0) hx hb dX6_gather_60 (by decide) ?_
  refine lv_istore_n (lv' := [(3, .int 0), (2, .int 17), (4, .int 0), (0, .ref h0), (1, .int 0)]) hx hb dX6_gather_61 rfl hl (by decide) rfl (fun ls hl => ?_)
  refine lv_iconst (v := 0) hx hb dX6_gather_62 (by decide) ?_
  refine lv_istore (lv' := [(4, .int 0), (3, .int 0), (2, .int 17), (0, .ref h0), (1, .int 0)]) hx hb dX6_gather_63 hl (by decide) rfl (fun ls hl => ?_)
  refine lv_iload hx hb dX6_gather_65 (lv_at hl 0 rfl) ?_
  refine lv_iload_n hx hb dX6_gather_67 rfl (lv_at hl 1 rfl) ?_
  refine lv_icmp_ge (tgt := 96) hx hb dX6_gather_68 (by decide) (fun _ => ?_) (fun c9 => absurd (by decide) c9)
  refine lv_iinc (v := 18) (lv' := [(2, .int 18), (4, .int 0), (3, .int 0), (0, .ref h0), (1, .int 0)]) hx hb dX6_gather_96 hl (k := 2) rfl (by decide) (by decide) rfl (fun ls hl => ?_)
  refine lv_goto (tgt := 33) hx hb dX6_gather_99 (by decide) ?_
  refine lv_iload_n hx hb dX6_gather_33 rfl (lv_at hl 0 rfl) ?_
  refine lv_bipush (v := 24) hx hb dX6_gather_34 (by decide) ?_
  refine lv_icmp_gt (tgt := 102) hx hb dX6_gather_36 (by decide) (fun c9 => absurd c9 (by decide)) (fun _ => ?_)
  refine lv_iload_n hx hb dX6_gather_39 rfl (lv_at hl 4 rfl) ?_
  refine lv_iload_n hx hb dX6_gather_40 rfl (lv_at hl 0 rfl) ?_
  refine lv_iushr (v := 0) hx hb dX6_gather_41 (by decide) ?_
  refine lv_iconst (v := 1) hx hb dX6_gather_42 (by decide) ?_
  refine lv_iand hx hb dX6_gather_43 ?_
  refine k_topi (y := 0) (by decide) ?_
  refine lv_iconst (v := 1) hx hb dX6_gather_44 (by decide) ?_
  refine lv_icmp_ne (tgt := 60) hx hb dX6_gather_45 (by decide) (fun _ => ?_) (fun c9 => absurd c9 (by decide))
  refine lv_iconst (v := 0) hx hb dX6_gather_60 (by decide) ?_
  refine lv_istore_n (lv' := [(3, .int 0), (2, .int 18), (4, .int 0), (0, .ref h0), (1, .int 0)]) hx hb dX6_gather_61 rfl hl (by decide) rfl (fun ls hl => ?_)
  refine lv_iconst (v := 0) hx hb dX6_gather_62 (by decide) ?_
  refine lv_istore (lv' := [(4, .int 0), (3, .int 0), (2, .int 18), (0, .ref h0), (1, .int 0)]) hx hb dX6_gather_63 hl (by decide) rfl (fun ls hl => ?_)
  refine lv_iload hx hb dX6_gather_65 (lv_at hl 0 rfl) ?_
  refine lv_iload_n hx hb dX6_gather_67 rfl (lv_at hl 1 rfl) ?_
  refine lv_icmp_ge (tgt := 96) hx hb dX6_gather_68 (by decide) (fun _ => ?_) (fun c9 => absurd (by decide) c9)
  refine lv_iinc (v := 19) (lv' := [(2, .int 19), (4, .int 0), (3, .int 0), (0, .ref h0), (1, .int 0)]) hx hb dX6_gather_96 hl (k := 2) rfl (by decide) (by decide) rfl (fun ls hl => ?_)
  refine lv_goto (tgt := 33) hx hb dX6_gather_99 (by decide) ?_
  refine lv_iload_n hx hb dX6_gather_33 rfl (lv_at hl 0 rfl) ?_
  refine lv_bipush (v := 24) hx hb dX6_gather_34 (by decide) ?_
  refine lv_icmp_gt (tgt := 102) hx hb dX6_gather_36 (by decide) (fun c9 => absurd c9 (by decide)) (fun _ => ?_)
  refine lv_iload_n hx hb dX6_gather_39 rfl (lv_at hl 4 rfl) ?_
  refine lv_iload_n hx hb dX6_gather_40 rfl (lv_at hl 0 rfl) ?_
  refine lv_iushr (v := 0) hx hb dX6_gather_41 (by decide) ?_
  refine lv_iconst (v := 1) hx hb dX6_gather_42 (by decide) ?_
  refine lv_iand hx hb dX6_gather_43 ?_
  refine k_topi (y := 0) (by decide) ?_
  refine lv_iconst (v := 1) hx hb dX6_gather_44 (by decide) ?_
  refine lv_icmp_ne (tgt := 60) hx hb dX6_gather_45 (by decide) (fun _ => ?_) (fun c9 => absurd c9 (by decide))
  refine lv_iconst (v := 0) hx hb dX6_gather_60 (by decide) ?_
  refine lv_istore_n (lv' := [(3, .int 0), (2, .int 19), (4, .int 0), (0, .ref h0), (1, .int 0)]) hx hb dX6_gather_61 rfl hl (by decide) rfl (fun ls hl => ?_)
  refine lv_iconst (v := 0) hx hb dX6_gather_62 (by decide) ?_
  refine lv_istore (lv' := [(4, .int 0), (3, .int 0), (2, .int 19), (0, .ref h0), (1, .int 0)]) hx hb dX6_gather_63 hl (by decide) rfl (fun ls hl => ?_)
  refine lv_iload hx hb dX6_gather_65 (lv_at hl 0 rfl) ?_
  refine lv_iload_n hx hb dX6_gather_67 rfl (lv_at hl 1 rfl) ?_
  refine lv_icmp_ge (tgt := 96) hx hb dX6_gather_68 (by decide) (fun _ => ?_) (fun c9 => absurd (by decide) c9)
  refine lv_iinc (v := 20) (lv' := [(2, .int 20), (4, .int 0), (3, .int 0), (0, .ref h0), (1, .int 0)]) hx hb dX6_gather_96 hl (k := 2) rfl (by decide) (by decide) rfl (fun ls hl => ?_)
  refine lv_goto (tgt := 33) hx hb dX6_gather_99 (by decide) ?_
  refine lv_iload_n hx hb dX6_gather_33 rfl (lv_at hl 0 rfl) ?_
  refine lv_bipush (v := 24) hx hb dX6_gather_34 (by decide) ?_
  refine lv_icmp_gt (tgt := 102) hx hb dX6_gather_36 (by decide) (fun c9 => absurd c9 (by decide)) (fun _ => ?_)
  refine lv_iload_n hx hb dX6_gather_39 rfl (lv_at hl 4 rfl) ?_
  refine lv_iload_n hx hb dX6_gather_40 rfl (lv_at hl 0 rfl) ?_
  refine lv_iushr (v := 0) hx hb dX6_gather_41 (by decide) ?_
  refine lv_iconst (v := 1) hx hb dX6_gather_42 (by decide) ?_
  refine lv_iand hx hb dX6_gather_43 ?_
  refine k_topi (y := 0) (by decide) ?_
  refine lv_iconst (v := 1) hx hb dX6_gather_44 (by decide) ?_
  refine lv_icmp_ne (tgt := 60) hx hb dX6_gather_45 (by decide) (fun _ => ?_) (fun c9 => absurd c9 (by decide))
  refine lv_iconst (v := 0) hx hb dX6_gather_60 (by decide) ?_
  refine lv_istore_n (lv' := [(3, .int 0), (2, .int 20), (4, .int 0), (0, .ref h0), (1, .int 0)]) hx hb dX6_gather_61 rfl hl (by decide) rfl (fun ls hl => ?_)
  refine lv_iconst (v := 0) hx hb dX6_gather_62 (by decide) ?_
  refine lv_istore (lv' := [(4, .int 0), (3, .int 0), (2, .int 20), (0, .ref h0), (1, .int 0)]) hx hb dX6_gather_63 hl (by decide) rfl (fun ls hl => ?_)
  refine lv_iload hx hb dX6_gather_65 (lv_at hl 0 rfl) ?_
  refine lv_iload_n hx hb dX6_gather_67 rfl (lv_at hl 1 rfl) ?_
  refine lv_icmp_ge (tgt := 96) hx hb dX6_gather_68 (by decide) (fun _ => ?_) (fun c9 => absurd (by decide) c9)
  refine lv_iinc (v := 21) (lv' := [(2, .int 21), (4, .int 0), (3, .int 0), (0, .ref h0), (1, .int 0)]) hx hb dX6_gather_96 hl (k := 2) rfl (by decide) (by decide) rfl (fun ls hl => ?_)
  refine lv_goto (tgt := 33) hx hb dX6_gather_99 (by decide) ?_
  refine lv_iload_n hx hb dX6_gather_33 rfl (lv_at hl 0 rfl) ?_
  refine lv_bipush (v := 24) hx hb dX6_gather_34 (by decide) ?_
  refine lv_icmp_gt (tgt := 102) hx hb dX6_gather_36 (by decide) (fun c9 => absurd c9 (by decide)) (fun _ => ?_)
  refine lv_iload_n hx hb dX6_gather_39 rfl (lv_at hl 4 rfl) ?_
  refine lv_iload_n hx hb dX6_gather_40 rfl (lv_at hl 0 rfl) ?_
  refine lv_iushr (v := 0) hx hb dX6_gather_41 (by decide) ?_
  refine lv_iconst (v := 1) hx hb dX6_gather_42 (by decide) ?_
  refine lv_iand hx hb dX6_gather_43 ?_
  refine k_topi (y := 0) (by decide) ?_
  refine lv_iconst (v := 1) hx hb dX6_gather_44 (by decide) ?_
  refine lv_icmp_ne (tgt := 60) hx hb dX6_gather_45 (by decide) (fun _ => ?_) (fun c9 => absurd c9 (by decide))
  refine lv_iconst (v := 0) hx hb dX6_gather_60 (by decide) ?_
  refine lv_istore_n (lv' := [(3, .int 0), (2, .int 21), (4, .int 0), (0, .ref h0), (1, .int 0)]) hx hb dX6_gather_61 rfl hl (by decide) rfl (fun ls hl => ?_)
  refine lv_iconst (v := 0) hx hb dX6_gather_62 (by decide) ?_
  refine lv_istore (lv' := [(4, .int 0), (3, .int 0), (2, .int 21), (0, .ref h0), (1, .int 0)]) hx hb dX6_gather_63 hl (by decide) rfl (fun ls hl => ?_)
  refine lv_iload hx hb dX6_gather_65 (lv_at hl 0 rfl) ?_
  refine lv_iload_n hx hb dX6_gather_67 rfl (lv_at hl 1 rfl) ?_
  refine lv_icmp_ge (tgt := 96) hx hb dX6_gather_68 (by decide) (fun _ => ?_) (fun c9 => absurd (by decide) c9)
  refine lv_iinc (v := 22) (lv' := [(2, .int 22), (4, .int 0), (3, .int 0), (0, .ref h0), (1, .int 0)]) hx hb dX6_gather_96 hl (k := 2) rfl (by decide) (by decide) rfl (fun ls hl => ?_)
  refine lv_goto (tgt := 33) hx hb dX6_gather_99 (by decide) ?_
  refine lv_iload_n hx hb dX6_gather_33 rfl (lv_at hl 0 rfl) ?_
  refine lv_bipush (v := 24) hx hb dX6_gather_34 (by decide) ?_
  refine lv_icmp_gt (tgt := 102) hx hb dX6_gather_36 (by decide) (fun c9 => absurd c9 (by decide)) (fun _ => ?_)
  refine lv_iload_n hx hb dX6_gather_39 rfl (lv_at hl 4 rfl) ?_
  refine lv_iload_n hx hb dX6_gather_40 rfl (lv_at hl 0 rfl) ?_
  refine lv_iushr (v := 0) hx hb dX6_gather_41 (by decide) ?_
  refine lv_iconst (v := 1) hx hb dX6_gather_42 (by decide) ?_
  refine lv_iand hx hb dX6_gather_43 ?_
  refine k_topi (y := 0) (by decide) ?_
  refine lv_iconst (v := 1) hx hb dX6_gather_44 (by decide) ?_
  refine lv_icmp_ne (tgt := 60) hx hb dX6_gather_45 (by decide) (fun _ => ?_) (fun c9 => absurd c9 (by decide))
  refine lv_iconst (v := 0) hx hb dX6_gather_60 (by decide) ?_
  refine lv_istore_n (lv' := [(3, .int 0), (2, .int 22), (4, .int 0), (0, .ref h0), (1, .int 0)]) hx hb dX6_gather_61 rfl hl (by decide) rfl (fun ls hl => ?_)
  refine lv_iconst (v := 0) hx hb dX6_gather_62 (by decide) ?_
  refine lv_istore (lv' := [(4, .int 0), (3, .int 0), (2, .int 22), (0, .ref h0), (1, .int 0)]) hx hb dX6_gather_63 hl (by decide) rfl (fun ls hl => ?_)
  refine lv_iload hx hb dX6_gather_65 (lv_at hl 0 rfl) ?_
  refine lv_iload_n hx hb dX6_gather_67 rfl (lv_at hl 1 rfl) ?_
  refine lv_icmp_ge (tgt := 96) hx hb dX6_gather_68 (by decide) (fun _ => ?_) (fun c9 => absurd (by decide) c9)
  refine lv_iinc (v := 23) (lv' := [(2, .int 23), (4, .int 0), (3, .int 0), (0, .ref h0), (1, .int 0)]) hx hb dX6_gather_96 hl (k := 2) rfl (by decide) (by decide) rfl (fun ls hl => ?_)
  refine lv_goto (tgt := 33) hx hb dX6_gather_99 (by decide) ?_
  refine lv_iload_n hx hb dX6_gather_33 rfl (lv_at hl 0 rfl) ?_
  refine lv_bipush (v := 24) hx hb dX6_gather_34 (by decide) ?_
  refine lv_icmp_gt (tgt := 102) hx hb dX6_gather_36 (by decide) (fun c9 => absurd c9 (by decide)) (fun _ => ?_)
  refine lv_iload_n hx hb dX6_gather_39 rfl (lv_at hl 4 rfl) ?_
  refine lv_iload_n hx hb dX6_gather_40 rfl (lv_at hl 0 rfl) ?_
  refine lv_iushr (v := 0) hx hb dX6_gather_41 (by decide) ?_
  refine lv_iconst (v := 1) hx hb dX6_gather_42 (by decide) ?_
  refine lv_iand hx hb dX6_gather_43 ?_
  refine k_topi (y := 0) (by decide) ?_
  refine lv_iconst (v := 1) hx hb dX6_gather_44 (by decide) ?_
  refine lv_icmp_ne (tgt := 60) hx hb dX6_gather_45 (by decide) (fun _ => ?_) (fun c9 => absurd c9 (by decide))
  refine lv_iconst (v := 0) hx hb dX6_gather_60 (by decide) ?_
  refine lv_istore_n (lv' := [(3, .int 0), (2, .int 23), (4, .int 0), (0, .ref h0), (1, .int 0)]) hx hb dX6_gather_61 rfl hl (by decide) rfl (fun ls hl => ?_)
  refine lv_iconst (v := 0) hx hb dX6_gather_62 (by decide) ?_
  refine lv_istore (lv' := [(4, .int 0), (3, .int 0), (2, .int 23), (0, .ref h0), (1, .int 0)]) hx hb dX6_gather_63 hl (by decide) rfl (fun ls hl => ?_)
  refine lv_iload hx hb dX6_gather_65 (lv_at hl 0 rfl) ?_
  refine lv_iload_n hx hb dX6_gather_67 rfl (lv_at hl 1 rfl) ?_
  refine lv_icmp_ge (tgt := 96) hx hb dX6_gather_68 (by decide) (fun _ => ?_) (fun c9 => absurd (by decide) c9)
  refine lv_iinc (v := 24) (lv' := [(2, .int 24), (4, .int 0), (3, .int 0), (0, .ref h0), (1, .int 0)]) hx hb dX6_gather_96 hl (k := 2) rfl (by decide) (by decide) rfl (fun ls hl => ?_)
  refine lv_goto (tgt := 33) hx hb dX6_gather_99 (by decide) ?_
  refine lv_iload_n hx hb dX6_gather_33 rfl (lv_at hl 0 rfl) ?_
  refine lv_bipush (v := 24) hx hb dX6_gather_34 (by decide) ?_
  refine lv_icmp_gt (tgt := 102) hx hb dX6_gather_36 (by decide) (fun c9 => absurd c9 (by decide)) (fun _ => ?_)
  refine lv_iload_n hx hb dX6_gather_39 rfl (lv_at hl 4 rfl) ?_
  refine lv_iload_n hx hb dX6_gather_40 rfl (lv_at hl 0 rfl) ?_
  refine lv_iushr (v := 0) hx hb dX6_gather_41 (by decide) ?_
  refine lv_iconst (v := 1) hx hb dX6_gather_42 (by decide) ?_
  refine lv_iand hx hb dX6_gather_43 ?_
  refine k_topi (y := 0) (by decide) ?_
  refine lv_iconst (v := 1) hx hb dX6_gather_44 (by decide) ?_
  refine lv_icmp_ne (tgt := 60) hx hb dX6_gather_45 (by decide) (fun _ => ?_) (fun c9 => absurd c9 (by decide))
  refine lv_iconst (v := 0) hx hb dX6_gather_60 (by decide) ?_
  refine lv_istore_n (lv' := [(3, .int 0), (2, .int 24), (4, .int 0), (0, .ref h0), (1, .int 0)]) hx hb dX6_gather_61 rfl hl (by decide) rfl (fun ls hl => ?_)
  refine lv_iconst (v := 0) hx hb dX6_gather_62 (by decide) ?_
  refine lv_istore (lv' := [(4, .int 0), (3, .int 0), (2, .int 24), (0, .ref h0), (1, .int 0)]) hx hb dX6_gather_63 hl (by decide) rfl (fun ls hl => ?_)
  refine lv_iload hx hb dX6_gather_65 (lv_at hl 0 rfl) ?_
  refine lv_iload_n hx hb dX6_gather_67 rfl (lv_at hl 1 rfl) ?_
  refine lv_icmp_ge (tgt := 96) hx hb dX6_gather_68 (by decide) (fun _ => ?_) (fun c9 => absurd (by decide) c9)
  refine lv_iinc (v := 25) (lv' := [(2, .int 25), (4, .int 0), (3, .int 0), (0, .ref h0), (1, .int 0)]) hx hb dX6_gather_96 hl (k := 2) rfl (by decide) (by decide) rfl (fun ls hl => ?_)
  refine lv_goto (tgt := 33) hx hb dX6_gather_99 (by decide) ?_
  refine lv_iload_n hx hb dX6_gather_33 rfl (lv_at hl 0 rfl) ?_
  refine lv_bipush (v := 24) hx hb dX6_gather_34 (by decide) ?_
  refine lv_icmp_gt (tgt := 102) hx hb dX6_gather_36 (by decide) (fun _ => ?_) (fun c9 => absurd (by decide) c9)
  refine lv_bipush (v := 24) hx hb dX6_gather_102 (by decide) ?_
  refine lv_istore_n (lv' := [(2, .int 24), (4, .int 0), (3, .int 0), (0, .ref h0), (1, .int 0)]) hx hb dX6_gather_104 rfl hl (by decide) rfl (fun ls hl => ?_)
  refine lv_iload_n hx hb dX6_gather_105 rfl (lv_at hl 0 rfl) ?_
  refine lv_if_lt (tgt := 150) hx hb dX6_gather_106 (by decide) (fun c9 => absurd c9 (by decide)) (fun _ => ?_)
  refine lv_aload_n hx hb dX6_gather_109 rfl (lv_at hl 3 rfl) ?_
  refine lv_dup hx hb dX6_gather_110 rfl ?_
  refine va_get (D := D) (ref := "IntegerHouse$Places") (ci := 6) (v := .int 0) (C := RX6) (T := TX6) (N := 14) hx hb hts hin6 hown hK hP 0 rfl rfl 11 (by decide) (hts (.fieldLink RX6 90 "IntegerHouse$Places" "needed" "I") (List.mem_cons_of_mem _ (List.mem_append_left _ (List.mem_append_left _ (List.mem_append_left _ (List.mem_of_getElem? (i := 1) rfl)))))) (fun _ h9 => h9) (k_ne (by decide) (k_set (k_ne (by decide) e1))) dX6_gather_111 ?_
  refine lv_aload_n hx hb dX6_gather_114 rfl (lv_at hl 3 rfl) ?_
  refine va_get (D := D) (ref := "IntegerHouse$Places") (ci := 6) (v := .int 0) (C := RX6) (T := TX6) (N := 14) hx hb hts hin6 hown hK hP 0 rfl rfl 11 (by decide) (hts (.fieldLink RX6 90 "IntegerHouse$Places" "needed" "I") (List.mem_cons_of_mem _ (List.mem_append_left _ (List.mem_append_left _ (List.mem_append_left _ (List.mem_of_getElem? (i := 1) rfl)))))) (fun _ h9 => h9) (k_ne (by decide) (k_set (k_ne (by decide) e1))) dX6_gather_115 ?_
  refine lv_iload_n hx hb dX6_gather_118 rfl (lv_at hl 0 rfl) ?_
  refine lv_iushr (v := 0) hx hb dX6_gather_119 (by decide) ?_
  refine lv_iconst (v := 1) hx hb dX6_gather_120 (by decide) ?_
  refine lv_iand hx hb dX6_gather_121 ?_
  refine k_topi (y := 0) (by decide) ?_
  refine lv_iconst (v := 1) hx hb dX6_gather_122 (by decide) ?_
  refine lv_icmp_ne (tgt := 139) hx hb dX6_gather_123 (by decide) (fun _ => ?_) (fun c9 => absurd c9 (by decide))
  refine lv_iconst (v := 0) hx hb dX6_gather_139 (by decide) ?_
  refine lv_ior hx hb dX6_gather_140 ?_
  refine k_topi (y := 0) (by decide) ?_
  refine va_put (D := D) (ref := "IntegerHouse$Places") (ci := 6) (v := .int 0) (ty := .int) (C := RX6) (T := TX6) (N := 14) hx hb hts hin6 tyX6 tyX6_ok nmX6 hown hK hP hD hS 0 rfl rfl 11 (by decide) (hts (.fieldLink RX6 90 "IntegerHouse$Places" "needed" "I") (List.mem_cons_of_mem _ (List.mem_append_left _ (List.mem_append_left _ (List.mem_append_left _ (List.mem_of_getElem? (i := 1) rfl)))))) (fun _ h9 => h9) rfl (by decide +kernel) rfl rfl (k_len (k_ne (by decide) (k_set (k_ne (by decide) e1)))) dX6_gather_141 (fun H locs hP hD hS => ?_)
  have hP : va_P D vwCl [(h0, .inr (6, ((((f0.set 10 (.int 0)).set 11 (.int 0)).set 12 (.int 1)).set 11 (.int 0)))), (h1, .inr (2, f1))] H := hP
  have hD : va_D A [(h0, .inr (6, ((((f0.set 10 (.int 0)).set 11 (.int 0)).set 12 (.int 1)).set 11 (.int 0)))), (h1, .inr (2, f1))] := hD
  refine lv_iinc (v := 23) (lv' := [(2, .int 23), (4, .int 0), (3, .int 0), (0, .ref h0), (1, .int 0)]) hx hb dX6_gather_144 hl (k := 0) rfl (by decide) (by decide) rfl (fun ls hl => ?_)
  refine lv_goto (tgt := 105) hx hb dX6_gather_147 (by decide) ?_
  refine lv_iload_n hx hb dX6_gather_105 rfl (lv_at hl 0 rfl) ?_
  refine lv_if_lt (tgt := 150) hx hb dX6_gather_106 (by decide) (fun c9 => absurd c9 (by decide)) (fun _ => ?_)
  refine lv_aload_n hx hb dX6_gather_109 rfl (lv_at hl 3 rfl) ?_
  refine lv_dup hx hb dX6_gather_110 rfl ?_
  refine va_get (D := D) (ref := "IntegerHouse$Places") (ci := 6) (v := .int 0) (C := RX6) (T := TX6) (N := 14) hx hb hts hin6 hown hK hP 0 rfl rfl 11 (by decide) (hts (.fieldLink RX6 90 "IntegerHouse$Places" "needed" "I") (List.mem_cons_of_mem _ (List.mem_append_left _ (List.mem_append_left _ (List.mem_append_left _ (List.mem_of_getElem? (i := 1) rfl)))))) (fun _ h9 => h9) (k_set (k_ne (by decide) (k_set (k_ne (by decide) e1)))) dX6_gather_111 ?_
  refine lv_aload_n hx hb dX6_gather_114 rfl (lv_at hl 3 rfl) ?_
  refine va_get (D := D) (ref := "IntegerHouse$Places") (ci := 6) (v := .int 0) (C := RX6) (T := TX6) (N := 14) hx hb hts hin6 hown hK hP 0 rfl rfl 11 (by decide) (hts (.fieldLink RX6 90 "IntegerHouse$Places" "needed" "I") (List.mem_cons_of_mem _ (List.mem_append_left _ (List.mem_append_left _ (List.mem_append_left _ (List.mem_of_getElem? (i := 1) rfl)))))) (fun _ h9 => h9) (k_set (k_ne (by decide) (k_set (k_ne (by decide) e1)))) dX6_gather_115 ?_
  refine lv_iload_n hx hb dX6_gather_118 rfl (lv_at hl 0 rfl) ?_
  refine lv_iushr (v := 0) hx hb dX6_gather_119 (by decide) ?_
  refine lv_iconst (v := 1) hx hb dX6_gather_120 (by decide) ?_
  refine lv_iand hx hb dX6_gather_121 ?_
  refine k_topi (y := 0) (by decide) ?_
  refine lv_iconst (v := 1) hx hb dX6_gather_122 (by decide) ?_
  refine lv_icmp_ne (tgt := 139) hx hb dX6_gather_123 (by decide) (fun _ => ?_) (fun c9 => absurd c9 (by decide))
  refine lv_iconst (v := 0) hx hb dX6_gather_139 (by decide) ?_
  refine lv_ior hx hb dX6_gather_140 ?_
  refine k_topi (y := 0) (by decide) ?_
  refine va_put (D := D) (ref := "IntegerHouse$Places") (ci := 6) (v := .int 0) (ty := .int) (C := RX6) (T := TX6) (N := 14) hx hb hts hin6 tyX6 tyX6_ok nmX6 hown hK hP hD hS 0 rfl rfl 11 (by decide) (hts (.fieldLink RX6 90 "IntegerHouse$Places" "needed" "I") (List.mem_cons_of_mem _ (List.mem_append_left _ (List.mem_append_left _ (List.mem_append_left _ (List.mem_of_getElem? (i := 1) rfl)))))) (fun _ h9 => h9) rfl (by decide +kernel) rfl rfl (k_len (k_set (k_ne (by decide) (k_set (k_ne (by decide) e1))))) dX6_gather_141 (fun H locs hP hD hS => ?_)
  have hP : va_P D vwCl [(h0, .inr (6, (((((f0.set 10 (.int 0)).set 11 (.int 0)).set 12 (.int 1)).set 11 (.int 0)).set 11 (.int 0)))), (h1, .inr (2, f1))] H := hP
  have hD : va_D A [(h0, .inr (6, (((((f0.set 10 (.int 0)).set 11 (.int 0)).set 12 (.int 1)).set 11 (.int 0)).set 11 (.int 0)))), (h1, .inr (2, f1))] := hD
  refine lv_iinc (v := 22) (lv' := [(2, .int 22), (4, .int 0), (3, .int 0), (0, .ref h0), (1, .int 0)]) hx hb dX6_gather_144 hl (k := 0) rfl (by decide) (by decide) rfl (fun ls hl => ?_)
  refine lv_goto (tgt := 105) hx hb dX6_gather_147 (by decide) ?_
  refine lv_iload_n hx hb dX6_gather_105 rfl (lv_at hl 0 rfl) ?_
  refine lv_if_lt (tgt := 150) hx hb dX6_gather_106 (by decide) (fun c9 => absurd c9 (by decide)) (fun _ => ?_)
  refine lv_aload_n hx hb dX6_gather_109 rfl (lv_at hl 3 rfl) ?_
  refine lv_dup hx hb dX6_gather_110 rfl ?_
  refine va_get (D := D) (ref := "IntegerHouse$Places") (ci := 6) (v := .int 0) (C := RX6) (T := TX6) (N := 14) hx hb hts hin6 hown hK hP 0 rfl rfl 11 (by decide) (hts (.fieldLink RX6 90 "IntegerHouse$Places" "needed" "I") (List.mem_cons_of_mem _ (List.mem_append_left _ (List.mem_append_left _ (List.mem_append_left _ (List.mem_of_getElem? (i := 1) rfl)))))) (fun _ h9 => h9) (k_set (k_set (k_ne (by decide) (k_set (k_ne (by decide) e1))))) dX6_gather_111 ?_
  refine lv_aload_n hx hb dX6_gather_114 rfl (lv_at hl 3 rfl) ?_
  refine va_get (D := D) (ref := "IntegerHouse$Places") (ci := 6) (v := .int 0) (C := RX6) (T := TX6) (N := 14) hx hb hts hin6 hown hK hP 0 rfl rfl 11 (by decide) (hts (.fieldLink RX6 90 "IntegerHouse$Places" "needed" "I") (List.mem_cons_of_mem _ (List.mem_append_left _ (List.mem_append_left _ (List.mem_append_left _ (List.mem_of_getElem? (i := 1) rfl)))))) (fun _ h9 => h9) (k_set (k_set (k_ne (by decide) (k_set (k_ne (by decide) e1))))) dX6_gather_115 ?_
  refine lv_iload_n hx hb dX6_gather_118 rfl (lv_at hl 0 rfl) ?_
  refine lv_iushr (v := 0) hx hb dX6_gather_119 (by decide) ?_
  refine lv_iconst (v := 1) hx hb dX6_gather_120 (by decide) ?_
  refine lv_iand hx hb dX6_gather_121 ?_
  refine k_topi (y := 0) (by decide) ?_
  refine lv_iconst (v := 1) hx hb dX6_gather_122 (by decide) ?_
  refine lv_icmp_ne (tgt := 139) hx hb dX6_gather_123 (by decide) (fun _ => ?_) (fun c9 => absurd c9 (by decide))
  refine lv_iconst (v := 0) hx hb dX6_gather_139 (by decide) ?_
  refine lv_ior hx hb dX6_gather_140 ?_
  refine k_topi (y := 0) (by decide) ?_
  refine va_put (D := D) (ref := "IntegerHouse$Places") (ci := 6) (v := .int 0) (ty := .int) (C := RX6) (T := TX6) (N := 14) hx hb hts hin6 tyX6 tyX6_ok nmX6 hown hK hP hD hS 0 rfl rfl 11 (by decide) (hts (.fieldLink RX6 90 "IntegerHouse$Places" "needed" "I") (List.mem_cons_of_mem _ (List.mem_append_left _ (List.mem_append_left _ (List.mem_append_left _ (List.mem_of_getElem? (i := 1) rfl)))))) (fun _ h9 => h9) rfl (by decide +kernel) rfl rfl (k_len (k_set (k_set (k_ne (by decide) (k_set (k_ne (by decide) e1)))))) dX6_gather_141 (fun H locs hP hD hS => ?_)
  have hP : va_P D vwCl [(h0, .inr (6, ((((((f0.set 10 (.int 0)).set 11 (.int 0)).set 12 (.int 1)).set 11 (.int 0)).set 11 (.int 0)).set 11 (.int 0)))), (h1, .inr (2, f1))] H := hP
  have hD : va_D A [(h0, .inr (6, ((((((f0.set 10 (.int 0)).set 11 (.int 0)).set 12 (.int 1)).set 11 (.int 0)).set 11 (.int 0)).set 11 (.int 0)))), (h1, .inr (2, f1))] := hD
  refine lv_iinc (v := 21) (lv' := [(2, .int 21), (4, .int 0), (3, .int 0), (0, .ref h0), (1, .int 0)]) hx hb dX6_gather_144 hl (k := 0) rfl (by decide) (by decide) rfl (fun ls hl => ?_)
  refine lv_goto (tgt := 105) hx hb dX6_gather_147 (by decide) ?_
  refine lv_iload_n hx hb dX6_gather_105 rfl (lv_at hl 0 rfl) ?_
  refine lv_if_lt (tgt := 150) hx hb dX6_gather_106 (by decide) (fun c9 => absurd c9 (by decide)) (fun _ => ?_)
  refine lv_aload_n hx hb dX6_gather_109 rfl (lv_at hl 3 rfl) ?_
  refine lv_dup hx hb dX6_gather_110 rfl ?_
  refine va_get (D := D) (ref := "IntegerHouse$Places") (ci := 6) (v := .int 0) (C := RX6) (T := TX6) (N := 14) hx hb hts hin6 hown hK hP 0 rfl rfl 11 (by decide) (hts (.fieldLink RX6 90 "IntegerHouse$Places" "needed" "I") (List.mem_cons_of_mem _ (List.mem_append_left _ (List.mem_append_left _ (List.mem_append_left _ (List.mem_of_getElem? (i := 1) rfl)))))) (fun _ h9 => h9) (k_set (k_set (k_set (k_ne (by decide) (k_set (k_ne (by decide) e1)))))) dX6_gather_111 ?_
  refine lv_aload_n hx hb dX6_gather_114 rfl (lv_at hl 3 rfl) ?_
  refine va_get (D := D) (ref := "IntegerHouse$Places") (ci := 6) (v := .int 0) (C := RX6) (T := TX6) (N := 14) hx hb hts hin6 hown hK hP 0 rfl rfl 11 (by decide) (hts (.fieldLink RX6 90 "IntegerHouse$Places" "needed" "I") (List.mem_cons_of_mem _ (List.mem_append_left _ (List.mem_append_left _ (List.mem_append_left _ (List.mem_of_getElem? (i := 1) rfl)))))) (fun _ h9 => h9) (k_set (k_set (k_set (k_ne (by decide) (k_set (k_ne (by decide) e1)))))) dX6_gather_115 ?_
  refine lv_iload_n hx hb dX6_gather_118 rfl (lv_at hl 0 rfl) ?_
  refine lv_iushr (v := 0) hx hb dX6_gather_119 (by decide) ?_
  refine lv_iconst (v := 1) hx hb dX6_gather_120 (by decide) ?_
  refine lv_iand hx hb dX6_gather_121 ?_
  refine k_topi (y := 0) (by decide) ?_
  refine lv_iconst (v := 1) hx hb dX6_gather_122 (by decide) ?_
  refine lv_icmp_ne (tgt := 139) hx hb dX6_gather_123 (by decide) (fun _ => ?_) (fun c9 => absurd c9 (by decide))
  refine lv_iconst (v := 0) hx hb dX6_gather_139 (by decide) ?_
  refine lv_ior hx hb dX6_gather_140 ?_
  refine k_topi (y := 0) (by decide) ?_
  refine va_put (D := D) (ref := "IntegerHouse$Places") (ci := 6) (v := .int 0) (ty := .int) (C := RX6) (T := TX6) (N := 14) hx hb hts hin6 tyX6 tyX6_ok nmX6 hown hK hP hD hS 0 rfl rfl 11 (by decide) (hts (.fieldLink RX6 90 "IntegerHouse$Places" "needed" "I") (List.mem_cons_of_mem _ (List.mem_append_left _ (List.mem_append_left _ (List.mem_append_left _ (List.mem_of_getElem? (i := 1) rfl)))))) (fun _ h9 => h9) rfl (by decide +kernel) rfl rfl (k_len (k_set (k_set (k_set (k_ne (by decide) (k_set (k_ne (by decide) e1))))))) dX6_gather_141 (fun H locs hP hD hS => ?_)
  have hP : va_P D vwCl [(h0, .inr (6, (((((((f0.set 10 (.int 0)).set 11 (.int 0)).set 12 (.int 1)).set 11 (.int 0)).set 11 (.int 0)).set 11 (.int 0)).set 11 (.int 0)))), (h1, .inr (2, f1))] H := hP
  have hD : va_D A [(h0, .inr (6, (((((((f0.set 10 (.int 0)).set 11 (.int 0)).set 12 (.int 1)).set 11 (.int 0)).set 11 (.int 0)).set 11 (.int 0)).set 11 (.int 0)))), (h1, .inr (2, f1))] := hD
  refine lv_iinc (v := 20) (lv' := [(2, .int 20), (4, .int 0), (3, .int 0), (0, .ref h0), (1, .int 0)]) hx hb dX6_gather_144 hl (k := 0) rfl (by decide) (by decide) rfl (fun ls hl => ?_)
  refine lv_goto (tgt := 105) hx hb dX6_gather_147 (by decide) ?_
  refine lv_iload_n hx hb dX6_gather_105 rfl (lv_at hl 0 rfl) ?_
  refine lv_if_lt (tgt := 150) hx hb dX6_gather_106 (by decide) (fun c9 => absurd c9 (by decide)) (fun _ => ?_)
  refine lv_aload_n hx hb dX6_gather_109 rfl (lv_at hl 3 rfl) ?_
  refine lv_dup hx hb dX6_gather_110 rfl ?_
  refine va_get (D := D) (ref := "IntegerHouse$Places") (ci := 6) (v := .int 0) (C := RX6) (T := TX6) (N := 14) hx hb hts hin6 hown hK hP 0 rfl rfl 11 (by decide) (hts (.fieldLink RX6 90 "IntegerHouse$Places" "needed" "I") (List.mem_cons_of_mem _ (List.mem_append_left _ (List.mem_append_left _ (List.mem_append_left _ (List.mem_of_getElem? (i := 1) rfl)))))) (fun _ h9 => h9) (k_set (k_set (k_set (k_set (k_ne (by decide) (k_set (k_ne (by decide) e1))))))) dX6_gather_111 ?_
  refine lv_aload_n hx hb dX6_gather_114 rfl (lv_at hl 3 rfl) ?_
  refine va_get (D := D) (ref := "IntegerHouse$Places") (ci := 6) (v := .int 0) (C := RX6) (T := TX6) (N := 14) hx hb hts hin6 hown hK hP 0 rfl rfl 11 (by decide) (hts (.fieldLink RX6 90 "IntegerHouse$Places" "needed" "I") (List.mem_cons_of_mem _ (List.mem_append_left _ (List.mem_append_left _ (List.mem_append_left _ (List.mem_of_getElem? (i := 1) rfl)))))) (fun _ h9 => h9) (k_set (k_set (k_set (k_set (k_ne (by decide) (k_set (k_ne (by decide) e1))))))) dX6_gather_115 ?_
  refine lv_iload_n hx hb dX6_gather_118 rfl (lv_at hl 0 rfl) ?_
  refine lv_iushr (v := 0) hx hb dX6_gather_119 (by decide) ?_
  refine lv_iconst (v := 1) hx hb dX6_gather_120 (by decide) ?_
  refine lv_iand hx hb dX6_gather_121 ?_
  refine k_topi (y := 0) (by decide) ?_
  refine lv_iconst (v := 1) hx hb dX6_gather_122 (by decide) ?_
  refine lv_icmp_ne (tgt := 139) hx hb dX6_gather_123 (by decide) (fun _ => ?_) (fun c9 => absurd c9 (by decide))
  refine lv_iconst (v := 0) hx hb dX6_gather_139 (by decide) ?_
  refine lv_ior hx hb dX6_gather_140 ?_
  refine k_topi (y := 0) (by decide) ?_
  refine va_put (D := D) (ref := "IntegerHouse$Places") (ci := 6) (v := .int 0) (ty := .int) (C := RX6) (T := TX6) (N := 14) hx hb hts hin6 tyX6 tyX6_ok nmX6 hown hK hP hD hS 0 rfl rfl 11 (by decide) (hts (.fieldLink RX6 90 "IntegerHouse$Places" "needed" "I") (List.mem_cons_of_mem _ (List.mem_append_left _ (List.mem_append_left _ (List.mem_append_left _ (List.mem_of_getElem? (i := 1) rfl)))))) (fun _ h9 => h9) rfl (by decide +kernel) rfl rfl (k_len (k_set (k_set (k_set (k_set (k_ne (by decide) (k_set (k_ne (by decide) e1)))))))) dX6_gather_141 (fun H locs hP hD hS => ?_)
  have hP : va_P D vwCl [(h0, .inr (6, ((((((((f0.set 10 (.int 0)).set 11 (.int 0)).set 12 (.int 1)).set 11 (.int 0)).set 11 (.int 0)).set 11 (.int 0)).set 11 (.int 0)).set 11 (.int 0)))), (h1, .inr (2, f1))] H := hP
  have hD : va_D A [(h0, .inr (6, ((((((((f0.set 10 (.int 0)).set 11 (.int 0)).set 12 (.int 1)).set 11 (.int 0)).set 11 (.int 0)).set 11 (.int 0)).set 11 (.int 0)).set 11 (.int 0)))), (h1, .inr (2, f1))] := hD
  refine lv_iinc (v := 19) (lv' := [(2, .int 19), (4, .int 0), (3, .int 0), (0, .ref h0), (1, .int 0)]) hx hb dX6_gather_144 hl (k := 0) rfl (by decide) (by decide) rfl (fun ls hl => ?_)
  refine lv_goto (tgt := 105) hx hb dX6_gather_147 (by decide) ?_
  refine lv_iload_n hx hb dX6_gather_105 rfl (lv_at hl 0 rfl) ?_
  refine lv_if_lt (tgt := 150) hx hb dX6_gather_106 (by decide) (fun c9 => absurd c9 (by decide)) (fun _ => ?_)
  refine lv_aload_n hx hb dX6_gather_109 rfl (lv_at hl 3 rfl) ?_
  refine lv_dup hx hb dX6_gather_110 rfl ?_
  refine va_get (D := D) (ref := "IntegerHouse$Places") (ci := 6) (v := .int 0) (C := RX6) (T := TX6) (N := 14) hx hb hts hin6 hown hK hP 0 rfl rfl 11 (by decide) (hts (.fieldLink RX6 90 "IntegerHouse$Places" "needed" "I") (List.mem_cons_of_mem _ (List.mem_append_left _ (List.mem_append_left _ (List.mem_append_left _ (List.mem_of_getElem? (i := 1) rfl)))))) (fun _ h9 => h9) (k_set (k_set (k_set (k_set (k_set (k_ne (by decide) (k_set (k_ne (by decide) e1)))))))) dX6_gather_111 ?_
  refine lv_aload_n hx hb dX6_gather_114 rfl (lv_at hl 3 rfl) ?_
  refine va_get (D := D) (ref := "IntegerHouse$Places") (ci := 6) (v := .int 0) (C := RX6) (T := TX6) (N := 14) hx hb hts hin6 hown hK hP 0 rfl rfl 11 (by decide) (hts (.fieldLink RX6 90 "IntegerHouse$Places" "needed" "I") (List.mem_cons_of_mem _ (List.mem_append_left _ (List.mem_append_left _ (List.mem_append_left _ (List.mem_of_getElem? (i := 1) rfl)))))) (fun _ h9 => h9) (k_set (k_set (k_set (k_set (k_set (k_ne (by decide) (k_set (k_ne (by decide) e1)))))))) dX6_gather_115 ?_
  refine lv_iload_n hx hb dX6_gather_118 rfl (lv_at hl 0 rfl) ?_
  refine lv_iushr (v := 0) hx hb dX6_gather_119 (by decide) ?_
  refine lv_iconst (v := 1) hx hb dX6_gather_120 (by decide) ?_
  refine lv_iand hx hb dX6_gather_121 ?_
  refine k_topi (y := 0) (by decide) ?_
  refine lv_iconst (v := 1) hx hb dX6_gather_122 (by decide) ?_
  refine lv_icmp_ne (tgt := 139) hx hb dX6_gather_123 (by decide) (fun _ => ?_) (fun c9 => absurd c9 (by decide))
  refine lv_iconst (v := 0) hx hb dX6_gather_139 (by decide) ?_
  refine lv_ior hx hb dX6_gather_140 ?_
  refine k_topi (y := 0) (by decide) ?_
  refine va_put (D := D) (ref := "IntegerHouse$Places") (ci := 6) (v := .int 0) (ty := .int) (C := RX6) (T := TX6) (N := 14) hx hb hts hin6 tyX6 tyX6_ok nmX6 hown hK hP hD hS 0 rfl rfl 11 (by decide) (hts (.fieldLink RX6 90 "IntegerHouse$Places" "needed" "I") (List.mem_cons_of_mem _ (List.mem_append_left _ (List.mem_append_left _ (List.mem_append_left _ (List.mem_of_getElem? (i := 1) rfl)))))) (fun _ h9 => h9) rfl (by decide +kernel) rfl rfl (k_len (k_set (k_set (k_set (k_set (k_set (k_ne (by decide) (k_set (k_ne (by decide) e1))))))))) dX6_gather_141 (fun H locs hP hD hS => ?_)
  have hP : va_P D vwCl [(h0, .inr (6, (((((((((f0.set 10 (.int 0)).set 11 (.int 0)).set 12 (.int 1)).set 11 (.int 0)).set 11 (.int 0)).set 11 (.int 0)).set 11 (.int 0)).set 11 (.int 0)).set 11 (.int 0)))), (h1, .inr (2, f1))] H := hP
  have hD : va_D A [(h0, .inr (6, (((((((((f0.set 10 (.int 0)).set 11 (.int 0)).set 12 (.int 1)).set 11 (.int 0)).set 11 (.int 0)).set 11 (.int 0)).set 11 (.int 0)).set 11 (.int 0)).set 11 (.int 0)))), (h1, .inr (2, f1))] := hD
  refine lv_iinc (v := 18) (lv' := [(2, .int 18), (4, .int 0), (3, .int 0), (0, .ref h0), (1, .int 0)]) hx hb dX6_gather_144 hl (k := 0) rfl (by decide) (by decide) rfl (fun ls hl => ?_)
  refine lv_goto (tgt := 105) hx hb dX6_gather_147 (by decide) ?_
  refine lv_iload_n hx hb dX6_gather_105 rfl (lv_at hl 0 rfl) ?_
  refine lv_if_lt (tgt := 150) hx hb dX6_gather_106 (by decide) (fun c9 => absurd c9 (by decide)) (fun _ => ?_)
  refine lv_aload_n hx hb dX6_gather_109 rfl (lv_at hl 3 rfl) ?_
  refine lv_dup hx hb dX6_gather_110 rfl ?_
  refine va_get (D := D) (ref := "IntegerHouse$Places") (ci := 6) (v := .int 0) (C := RX6) (T := TX6) (N := 14) hx hb hts hin6 hown hK hP 0 rfl rfl 11 (by decide) (hts (.fieldLink RX6 90 "IntegerHouse$Places" "needed" "I") (List.mem_cons_of_mem _ (List.mem_append_left _ (List.mem_append_left _ (List.mem_append_left _ (List.mem_of_getElem? (i := 1) rfl)))))) (fun _ h9 => h9) (k_set (k_set (k_set (k_set (k_set (k_set (k_ne (by decide) (k_set (k_ne (by decide) e1))))))))) dX6_gather_111 ?_
  refine lv_aload_n hx hb dX6_gather_114 rfl (lv_at hl 3 rfl) ?_
  refine va_get (D := D) (ref := "IntegerHouse$Places") (ci := 6) (v := .int 0) (C := RX6) (T := TX6) (N := 14) hx hb hts hin6 hown hK hP 0 rfl rfl 11 (by decide) (hts (.fieldLink RX6 90 "IntegerHouse$Places" "needed" "I") (List.mem_cons_of_mem _ (List.mem_append_left _ (List.mem_append_left _ (List.mem_append_left _ (List.mem_of_getElem? (i := 1) rfl)))))) (fun _ h9 => h9) (k_set (k_set (k_set (k_set (k_set (k_set (k_ne (by decide) (k_set (k_ne (by decide) e1))))))))) dX6_gather_115 ?_
  refine lv_iload_n hx hb dX6_gather_118 rfl (lv_at hl 0 rfl) ?_
  refine lv_iushr (v := 0) hx hb dX6_gather_119 (by decide) ?_
  refine lv_iconst (v := 1) hx hb dX6_gather_120 (by decide) ?_
  refine lv_iand hx hb dX6_gather_121 ?_
  refine k_topi (y := 0) (by decide) ?_
  refine lv_iconst (v := 1) hx hb dX6_gather_122 (by decide) ?_
  refine lv_icmp_ne (tgt := 139) hx hb dX6_gather_123 (by decide) (fun _ => ?_) (fun c9 => absurd c9 (by decide))
  refine lv_iconst (v := 0) hx hb dX6_gather_139 (by decide) ?_
  refine lv_ior hx hb dX6_gather_140 ?_
  refine k_topi (y := 0) (by decide) ?_
  refine va_put (D := D) (ref := "IntegerHouse$Places") (ci := 6) (v := .int 0) (ty := .int) (C := RX6) (T := TX6) (N := 14) hx hb hts hin6 tyX6 tyX6_ok nmX6 hown hK hP hD hS 0 rfl rfl 11 (by decide) (hts (.fieldLink RX6 90 "IntegerHouse$Places" "needed" "I") (List.mem_cons_of_mem _ (List.mem_append_left _ (List.mem_append_left _ (List.mem_append_left _ (List.mem_of_getElem? (i := 1) rfl)))))) (fun _ h9 => h9) rfl (by decide +kernel) rfl rfl (k_len (k_set (k_set (k_set (k_set (k_set (k_set (k_ne (by decide) (k_set (k_ne (by decide) e1)))))))))) dX6_gather_141 (fun H locs hP hD hS => ?_)
  have hP : va_P D vwCl [(h0, .inr (6, ((((((((((f0.set 10 (.int 0)).set 11 (.int 0)).set 12 (.int 1)).set 11 (.int 0)).set 11 (.int 0)).set 11 (.int 0)).set 11 (.int 0)).set 11 (.int 0)).set 11 (.int 0)).set 11 (.int 0)))), (h1, .inr (2, f1))] H := hP
  have hD : va_D A [(h0, .inr (6, ((((((((((f0.set 10 (.int 0)).set 11 (.int 0)).set 12 (.int 1)).set 11 (.int 0)).set 11 (.int 0)).set 11 (.int 0)).set 11 (.int 0)).set 11 (.int 0)).set 11 (.int 0)).set 11 (.int 0)))), (h1, .inr (2, f1))] := hD
  refine lv_iinc (v := 17) (lv' := [(2, .int 17), (4, .int 0), (3, .int 0), (0, .ref h0), (1, .int 0)]) hx hb dX6_gather_144 hl (k := 0) rfl (by decide) (by decide) rfl (fun ls hl => ?_)
  refine lv_goto (tgt := 105) hx hb dX6_gather_147 (by decide) ?_
  refine lv_iload_n hx hb dX6_gather_105 rfl (lv_at hl 0 rfl) ?_
  refine lv_if_lt (tgt := 150) hx hb dX6_gather_106 (by decide) (fun c9 => absurd c9 (by decide)) (fun _ => ?_)
  refine lv_aload_n hx hb dX6_gather_109 rfl (lv_at hl 3 rfl) ?_
  refine lv_dup hx hb dX6_gather_110 rfl ?_
  refine va_get (D := D) (ref := "IntegerHouse$Places") (ci := 6) (v := .int 0) (C := RX6) (T := TX6) (N := 14) hx hb hts hin6 hown hK hP 0 rfl rfl 11 (by decide) (hts (.fieldLink RX6 90 "IntegerHouse$Places" "needed" "I") (List.mem_cons_of_mem _ (List.mem_append_left _ (List.mem_append_left _ (List.mem_append_left _ (List.mem_of_getElem? (i := 1) rfl)))))) (fun _ h9 => h9) (k_set (k_set (k_set (k_set (k_set (k_set (k_set (k_ne (by decide) (k_set (k_ne (by decide) e1)))))))))) dX6_gather_111 ?_
  refine lv_aload_n hx hb dX6_gather_114 rfl (lv_at hl 3 rfl) ?_
  refine va_get (D := D) (ref := "IntegerHouse$Places") (ci := 6) (v := .int 0) (C := RX6) (T := TX6) (N := 14) hx hb hts hin6 hown hK hP 0 rfl rfl 11 (by decide) (hts (.fieldLink RX6 90 "IntegerHouse$Places" "needed" "I") (List.mem_cons_of_mem _ (List.mem_append_left _ (List.mem_append_left _ (List.mem_append_left _ (List.mem_of_getElem? (i := 1) rfl)))))) (fun _ h9 => h9) (k_set (k_set (k_set (k_set (k_set (k_set (k_set (k_ne (by decide) (k_set (k_ne (by decide) e1)))))))))) dX6_gather_115 ?_
  refine lv_iload_n hx hb dX6_gather_118 rfl (lv_at hl 0 rfl) ?_
  refine lv_iushr (v := 0) hx hb dX6_gather_119 (by decide) ?_
  refine lv_iconst (v := 1) hx hb dX6_gather_120 (by decide) ?_
  refine lv_iand hx hb dX6_gather_121 ?_
  refine k_topi (y := 0) (by decide) ?_
  refine lv_iconst (v := 1) hx hb dX6_gather_122 (by decide) ?_
  refine lv_icmp_ne (tgt := 139) hx hb dX6_gather_123 (by decide) (fun _ => ?_) (fun c9 => absurd c9 (by decide))
  refine lv_iconst (v := 0) hx hb dX6_gather_139 (by decide) ?_
  refine lv_ior hx hb dX6_gather_140 ?_
  refine k_topi (y := 0) (by decide) ?_
  refine va_put (D := D) (ref := "IntegerHouse$Places") (ci := 6) (v := .int 0) (ty := .int) (C := RX6) (T := TX6) (N := 14) hx hb hts hin6 tyX6 tyX6_ok nmX6 hown hK hP hD hS 0 rfl rfl 11 (by decide) (hts (.fieldLink RX6 90 "IntegerHouse$Places" "needed" "I") (List.mem_cons_of_mem _ (List.mem_append_left _ (List.mem_append_left _ (List.mem_append_left _ (List.mem_of_getElem? (i := 1) rfl)))))) (fun _ h9 => h9) rfl (by decide +kernel) rfl rfl (k_len (k_set (k_set (k_set (k_set (k_set (k_set (k_set (k_ne (by decide) (k_set (k_ne (by decide) e1))))))))))) dX6_gather_141 (fun H locs hP hD hS => ?_)
  have hP : va_P D vwCl [(h0, .inr (6, (((((((((((f0.set 10 (.int 0)).set 11 (.int 0)).set 12 (.int 1)).set 11 (.int 0)).set 11 (.int 0)).set 11 (.int 0)).set 11 (.int 0)).set 11 (.int 0)).set 11 (.int 0)).set 11 (.int 0)).set 11 (.int 0)))), (h1, .inr (2, f1))] H := hP
  have hD : va_D A [(h0, .inr (6, (((((((((((f0.set 10 (.int 0)).set 11 (.int 0)).set 12 (.int 1)).set 11 (.int 0)).set 11 (.int 0)).set 11 (.int 0)).set 11 (.int 0)).set 11 (.int 0)).set 11 (.int 0)).set 11 (.int 0)).set 11 (.int 0)))), (h1, .inr (2, f1))] := hD
  refine lv_iinc (v := 16) (lv' := [(2, .int 16), (4, .int 0), (3, .int 0), (0, .ref h0), (1, .int 0)]) hx hb dX6_gather_144 hl (k := 0) rfl (by decide) (by decide) rfl (fun ls hl => ?_)
  refine lv_goto (tgt := 105) hx hb dX6_gather_147 (by decide) ?_
  refine lv_iload_n hx hb dX6_gather_105 rfl (lv_at hl 0 rfl) ?_
  refine lv_if_lt (tgt := 150) hx hb dX6_gather_106 (by decide) (fun c9 => absurd c9 (by decide)) (fun _ => ?_)
  refine lv_aload_n hx hb dX6_gather_109 rfl (lv_at hl 3 rfl) ?_
  refine lv_dup hx hb dX6_gather_110 rfl ?_
  refine va_get (D := D) (ref := "IntegerHouse$Places") (ci := 6) (v := .int 0) (C := RX6) (T := TX6) (N := 14) hx hb hts hin6 hown hK hP 0 rfl rfl 11 (by decide) (hts (.fieldLink RX6 90 "IntegerHouse$Places" "needed" "I") (List.mem_cons_of_mem _ (List.mem_append_left _ (List.mem_append_left _ (List.mem_append_left _ (List.mem_of_getElem? (i := 1) rfl)))))) (fun _ h9 => h9) (k_set (k_set (k_set (k_set (k_set (k_set (k_set (k_set (k_ne (by decide) (k_set (k_ne (by decide) e1))))))))))) dX6_gather_111 ?_
  refine lv_aload_n hx hb dX6_gather_114 rfl (lv_at hl 3 rfl) ?_
  refine va_get (D := D) (ref := "IntegerHouse$Places") (ci := 6) (v := .int 0) (C := RX6) (T := TX6) (N := 14) hx hb hts hin6 hown hK hP 0 rfl rfl 11 (by decide) (hts (.fieldLink RX6 90 "IntegerHouse$Places" "needed" "I") (List.mem_cons_of_mem _ (List.mem_append_left _ (List.mem_append_left _ (List.mem_append_left _ (List.mem_of_getElem? (i := 1) rfl)))))) (fun _ h9 => h9) (k_set (k_set (k_set (k_set (k_set (k_set (k_set (k_set (k_ne (by decide) (k_set (k_ne (by decide) e1))))))))))) dX6_gather_115 ?_
  refine lv_iload_n hx hb dX6_gather_118 rfl (lv_at hl 0 rfl) ?_
  refine lv_iushr (v := 0) hx hb dX6_gather_119 (by decide) ?_
  refine lv_iconst (v := 1) hx hb dX6_gather_120 (by decide) ?_
  refine lv_iand hx hb dX6_gather_121 ?_
  refine k_topi (y := 0) (by decide) ?_
  refine lv_iconst (v := 1) hx hb dX6_gather_122 (by decide) ?_
  refine lv_icmp_ne (tgt := 139) hx hb dX6_gather_123 (by decide) (fun _ => ?_) (fun c9 => absurd c9 (by decide))
  refine lv_iconst (v := 0) hx hb dX6_gather_139 (by decide) ?_
  refine lv_ior hx hb dX6_gather_140 ?_
  refine k_topi (y := 0) (by decide) ?_
  refine va_put (D := D) (ref := "IntegerHouse$Places") (ci := 6) (v := .int 0) (ty := .int) (C := RX6) (T := TX6) (N := 14) hx hb hts hin6 tyX6 tyX6_ok nmX6 hown hK hP hD hS 0 rfl rfl 11 (by decide) (hts (.fieldLink RX6 90 "IntegerHouse$Places" "needed" "I") (List.mem_cons_of_mem _ (List.mem_append_left _ (List.mem_append_left _ (List.mem_append_left _ (List.mem_of_getElem? (i := 1) rfl)))))) (fun _ h9 => h9) rfl (by decide +kernel) rfl rfl (k_len (k_set (k_set (k_set (k_set (k_set (k_set (k_set (k_set (k_ne (by decide) (k_set (k_ne (by decide) e1)))))))))))) dX6_gather_141 (fun H locs hP hD hS => ?_)
  have hP : va_P D vwCl [(h0, .inr (6, ((((((((((((f0.set 10 (.int 0)).set 11 (.int 0)).set 12 (.int 1)).set 11 (.int 0)).set 11 (.int 0)).set 11 (.int 0)).set 11 (.int 0)).set 11 (.int 0)).set 11 (.int 0)).set 11 (.int 0)).set 11 (.int 0)).set 11 (.int 0)))), (h1, .inr (2, f1))] H := hP
  have hD : va_D A [(h0, .inr (6, ((((((((((((f0.set 10 (.int 0)).set 11 (.int 0)).set 12 (.int 1)).set 11 (.int 0)).set 11 (.int 0)).set 11 (.int 0)).set 11 (.int 0)).set 11 (.int 0)).set 11 (.int 0)).set 11 (.int 0)).set 11 (.int 0)).set 11 (.int 0)))), (h1, .inr (2, f1))] := hD
  refine lv_iinc (v := 15) (lv' := [(2, .int 15), (4, .int 0), (3, .int 0), (0, .ref h0), (1, .int 0)]) hx hb dX6_gather_144 hl (k := 0) rfl (by decide) (by decide) rfl (fun ls hl => ?_)
  refine lv_goto (tgt := 105) hx hb dX6_gather_147 (by decide) ?_
  refine lv_iload_n hx hb dX6_gather_105 rfl (lv_at hl 0 rfl) ?_
  refine lv_if_lt (tgt := 150) hx hb dX6_gather_106 (by decide) (fun c9 => absurd c9 (by decide)) (fun _ => ?_)
  refine lv_aload_n hx hb dX6_gather_109 rfl (lv_at hl 3 rfl) ?_
  refine lv_dup hx hb dX6_gather_110 rfl ?_
  refine va_get (D := D) (ref := "IntegerHouse$Places") (ci := 6) (v := .int 0) (C := RX6) (T := TX6) (N := 14) hx hb hts hin6 hown hK hP 0 rfl rfl 11 (by decide) (hts (.fieldLink RX6 90 "IntegerHouse$Places" "needed" "I") (List.mem_cons_of_mem _ (List.mem_append_left _ (List.mem_append_left _ (List.mem_append_left _ (List.mem_of_getElem? (i := 1) rfl)))))) (fun _ h9 => h9) (k_set (k_set (k_set (k_set (k_set (k_set (k_set (k_set (k_set (k_ne (by decide) (k_set (k_ne (by decide) e1)))))))))))) dX6_gather_111 ?_
  refine lv_aload_n hx hb dX6_gather_114 rfl (lv_at hl 3 rfl) ?_
  refine va_get (D := D) (ref := "IntegerHouse$Places") (ci := 6) (v := .int 0) (C := RX6) (T := TX6) (N := 14) hx hb hts hin6 hown hK hP 0 rfl rfl 11 (by decide) (hts (.fieldLink RX6 90 "IntegerHouse$Places" "needed" "I") (List.mem_cons_of_mem _ (List.mem_append_left _ (List.mem_append_left _ (List.mem_append_left _ (List.mem_of_getElem? (i := 1) rfl)))))) (fun _ h9 => h9) (k_set (k_set (k_set (k_set (k_set (k_set (k_set (k_set (k_set (k_ne (by decide) (k_set (k_ne (by decide) e1)))))))))))) dX6_gather_115 ?_
  refine lv_iload_n hx hb dX6_gather_118 rfl (lv_at hl 0 rfl) ?_
  refine lv_iushr (v := 0) hx hb dX6_gather_119 (by decide) ?_
  refine lv_iconst (v := 1) hx hb dX6_gather_120 (by decide) ?_
  refine lv_iand hx hb dX6_gather_121 ?_
  refine k_topi (y := 0) (by decide) ?_
  refine lv_iconst (v := 1) hx hb dX6_gather_122 (by decide) ?_
  refine lv_icmp_ne (tgt := 139) hx hb dX6_gather_123 (by decide) (fun _ => ?_) (fun c9 => absurd c9 (by decide))
  refine lv_iconst (v := 0) hx hb dX6_gather_139 (by decide) ?_
  refine lv_ior hx hb dX6_gather_140 ?_
  refine k_topi (y := 0) (by decide) ?_
  refine va_put (D := D) (ref := "IntegerHouse$Places") (ci := 6) (v := .int 0) (ty := .int) (C := RX6) (T := TX6) (N := 14) hx hb hts hin6 tyX6 tyX6_ok nmX6 hown hK hP hD hS 0 rfl rfl 11 (by decide) (hts (.fieldLink RX6 90 "IntegerHouse$Places" "needed" "I") (List.mem_cons_of_mem _ (List.mem_append_left _ (List.mem_append_left _ (List.mem_append_left _ (List.mem_of_getElem? (i := 1) rfl)))))) (fun _ h9 => h9) rfl (by decide +kernel) rfl rfl (k_len (k_set (k_set (k_set (k_set (k_set (k_set (k_set (k_set (k_set (k_ne (by decide) (k_set (k_ne (by decide) e1))))))))))))) dX6_gather_141 (fun H locs hP hD hS => ?_)
  have hP : va_P D vwCl [(h0, .inr (6, (((((((((((((f0.set 10 (.int 0)).set 11 (.int 0)).set 12 (.int 1)).set 11 (.int 0)).set 11 (.int 0)).set 11 (.int 0)).set 11 (.int 0)).set 11 (.int 0)).set 11 (.int 0)).set 11 (.int 0)).set 11 (.int 0)).set 11 (.int 0)).set 11 (.int 0)))), (h1, .inr (2, f1))] H := hP
  have hD : va_D A [(h0, .inr (6, (((((((((((((f0.set 10 (.int 0)).set 11 (.int 0)).set 12 (.int 1)).set 11 (.int 0)).set 11 (.int 0)).set 11 (.int 0)).set 11 (.int 0)).set 11 (.int 0)).set 11 (.int 0)).set 11 (.int 0)).set 11 (.int 0)).set 11 (.int 0)).set 11 (.int 0)))), (h1, .inr (2, f1))] := hD
  refine lv_iinc (v := 14) (lv' := [(2, .int 14), (4, .int 0), (3, .int 0), (0, .ref h0), (1, .int 0)]) hx hb dX6_gather_144 hl (k := 0) rfl (by decide) (by decide) rfl (fun ls hl => ?_)
  refine lv_goto (tgt := 105) hx hb dX6_gather_147 (by decide) ?_
  refine lv_iload_n hx hb dX6_gather_105 rfl (lv_at hl 0 rfl) ?_
  refine lv_if_lt (tgt := 150) hx hb dX6_gather_106 (by decide) (fun c9 => absurd c9 (by decide)) (fun _ => ?_)
  refine lv_aload_n hx hb dX6_gather_109 rfl (lv_at hl 3 rfl) ?_
  refine lv_dup hx hb dX6_gather_110 rfl ?_
  refine va_get (D := D) (ref := "IntegerHouse$Places") (ci := 6) (v := .int 0) (C := RX6) (T := TX6) (N := 14) hx hb hts hin6 hown hK hP 0 rfl rfl 11 (by decide) (hts (.fieldLink RX6 90 "IntegerHouse$Places" "needed" "I") (List.mem_cons_of_mem _ (List.mem_append_left _ (List.mem_append_left _ (List.mem_append_left _ (List.mem_of_getElem? (i := 1) rfl)))))) (fun _ h9 => h9) (k_set (k_set (k_set (k_set (k_set (k_set (k_set (k_set (k_set (k_set (k_ne (by decide) (k_set (k_ne (by decide) e1))))))))))))) dX6_gather_111 ?_
  refine lv_aload_n hx hb dX6_gather_114 rfl (lv_at hl 3 rfl) ?_
  refine va_get (D := D) (ref := "IntegerHouse$Places") (ci := 6) (v := .int 0) (C := RX6) (T := TX6) (N := 14) hx hb hts hin6 hown hK hP 0 rfl rfl 11 (by decide) (hts (.fieldLink RX6 90 "IntegerHouse$Places" "needed" "I") (List.mem_cons_of_mem _ (List.mem_append_left _ (List.mem_append_left _ (List.mem_append_left _ (List.mem_of_getElem? (i := 1) rfl)))))) (fun _ h9 => h9) (k_set (k_set (k_set (k_set (k_set (k_set (k_set (k_set (k_set (k_set (k_ne (by decide) (k_set (k_ne (by decide) e1))))))))))))) dX6_gather_115 ?_
  refine lv_iload_n hx hb dX6_gather_118 rfl (lv_at hl 0 rfl) ?_
  refine lv_iushr (v := 0) hx hb dX6_gather_119 (by decide) ?_
  refine lv_iconst (v := 1) hx hb dX6_gather_120 (by decide) ?_
  refine lv_iand hx hb dX6_gather_121 ?_
  refine k_topi (y := 0) (by decide) ?_
  refine lv_iconst (v := 1) hx hb dX6_gather_122 (by decide) ?_
  refine lv_icmp_ne (tgt := 139) hx hb dX6_gather_123 (by decide) (fun _ => ?_) (fun c9 => absurd c9 (by decide))
  refine lv_iconst (v := 0) hx hb dX6_gather_139 (by decide) ?_
  refine lv_ior hx hb dX6_gather_140 ?_
  refine k_topi (y := 0) (by decide) ?_
  refine va_put (D := D) (ref := "IntegerHouse$Places") (ci := 6) (v := .int 0) (ty := .int) (C := RX6) (T := TX6) (N := 14) hx hb hts hin6 tyX6 tyX6_ok nmX6 hown hK hP hD hS 0 rfl rfl 11 (by decide) (hts (.fieldLink RX6 90 "IntegerHouse$Places" "needed" "I") (List.mem_cons_of_mem _ (List.mem_append_left _ (List.mem_append_left _ (List.mem_append_left _ (List.mem_of_getElem? (i := 1) rfl)))))) (fun _ h9 => h9) rfl (by decide +kernel) rfl rfl (k_len (k_set (k_set (k_set (k_set (k_set (k_set (k_set (k_set (k_set (k_set (k_ne (by decide) (k_set (k_ne (by decide) e1)))))))))))))) dX6_gather_141 (fun H locs hP hD hS => ?_)
  have hP : va_P D vwCl [(h0, .inr (6, ((((((((((((((f0.set 10 (.int 0)).set 11 (.int 0)).set 12 (.int 1)).set 11 (.int 0)).set 11 (.int 0)).set 11 (.int 0)).set 11 (.int 0)).set 11 (.int 0)).set 11 (.int 0)).set 11 (.int 0)).set 11 (.int 0)).set 11 (.int 0)).set 11 (.int 0)).set 11 (.int 0)))), (h1, .inr (2, f1))] H := hP
  have hD : va_D A [(h0, .inr (6, ((((((((((((((f0.set 10 (.int 0)).set 11 (.int 0)).set 12 (.int 1)).set 11 (.int 0)).set 11 (.int 0)).set 11 (.int 0)).set 11 (.int 0)).set 11 (.int 0)).set 11 (.int 0)).set 11 (.int 0)).set 11 (.int 0)).set 11 (.int 0)).set 11 (.int 0)).set 11 (.int 0)))), (h1, .inr (2, f1))] := hD
  refine lv_iinc (v := 13) (lv' := [(2, .int 13), (4, .int 0), (3, .int 0), (0, .ref h0), (1, .int 0)]) hx hb dX6_gather_144 hl (k := 0) rfl (by decide) (by decide) rfl (fun ls hl => ?_)
  refine lv_goto (tgt := 105) hx hb dX6_gather_147 (by decide) ?_
  refine lv_iload_n hx hb dX6_gather_105 rfl (lv_at hl 0 rfl) ?_
  refine lv_if_lt (tgt := 150) hx hb dX6_gather_106 (by decide) (fun c9 => absurd c9 (by decide)) (fun _ => ?_)
  refine lv_aload_n hx hb dX6_gather_109 rfl (lv_at hl 3 rfl) ?_
  refine lv_dup hx hb dX6_gather_110 rfl ?_
  refine va_get (D := D) (ref := "IntegerHouse$Places") (ci := 6) (v := .int 0) (C := RX6) (T := TX6) (N := 14) hx hb hts hin6 hown hK hP 0 rfl rfl 11 (by decide) (hts (.fieldLink RX6 90 "IntegerHouse$Places" "needed" "I") (List.mem_cons_of_mem _ (List.mem_append_left _ (List.mem_append_left _ (List.mem_append_left _ (List.mem_of_getElem? (i := 1) rfl)))))) (fun _ h9 => h9) (k_set (k_set (k_set (k_set (k_set (k_set (k_set (k_set (k_set (k_set (k_set (k_ne (by decide) (k_set (k_ne (by decide) e1)))))))))))))) dX6_gather_111 ?_
  refine lv_aload_n hx hb dX6_gather_114 rfl (lv_at hl 3 rfl) ?_
  refine va_get (D := D) (ref := "IntegerHouse$Places") (ci := 6) (v := .int 0) (C := RX6) (T := TX6) (N := 14) hx hb hts hin6 hown hK hP 0 rfl rfl 11 (by decide) (hts (.fieldLink RX6 90 "IntegerHouse$Places" "needed" "I") (List.mem_cons_of_mem _ (List.mem_append_left _ (List.mem_append_left _ (List.mem_append_left _ (List.mem_of_getElem? (i := 1) rfl)))))) (fun _ h9 => h9) (k_set (k_set (k_set (k_set (k_set (k_set (k_set (k_set (k_set (k_set (k_set (k_ne (by decide) (k_set (k_ne (by decide) e1)))))))))))))) dX6_gather_115 ?_
  refine lv_iload_n hx hb dX6_gather_118 rfl (lv_at hl 0 rfl) ?_
  refine lv_iushr (v := 0) hx hb dX6_gather_119 (by decide) ?_
  refine lv_iconst (v := 1) hx hb dX6_gather_120 (by decide) ?_
  refine lv_iand hx hb dX6_gather_121 ?_
  refine k_topi (y := 0) (by decide) ?_
  refine lv_iconst (v := 1) hx hb dX6_gather_122 (by decide) ?_
  refine lv_icmp_ne (tgt := 139) hx hb dX6_gather_123 (by decide) (fun _ => ?_) (fun c9 => absurd c9 (by decide))
  refine lv_iconst (v := 0) hx hb dX6_gather_139 (by decide) ?_
  refine lv_ior hx hb dX6_gather_140 ?_
  refine k_topi (y := 0) (by decide) ?_
  refine va_put (D := D) (ref := "IntegerHouse$Places") (ci := 6) (v := .int 0) (ty := .int) (C := RX6) (T := TX6) (N := 14) hx hb hts hin6 tyX6 tyX6_ok nmX6 hown hK hP hD hS 0 rfl rfl 11 (by decide) (hts (.fieldLink RX6 90 "IntegerHouse$Places" "needed" "I") (List.mem_cons_of_mem _ (List.mem_append_left _ (List.mem_append_left _ (List.mem_append_left _ (List.mem_of_getElem? (i := 1) rfl)))))) (fun _ h9 => h9) rfl (by decide +kernel) rfl rfl (k_len (k_set (k_set (k_set (k_set (k_set (k_set (k_set (k_set (k_set (k_set (k_set (k_ne (by decide) (k_set (k_ne (by decide) e1))))))))))))))) dX6_gather_141 (fun H locs hP hD hS => ?_)
  have hP : va_P D vwCl [(h0, .inr (6, (((((((((((((((f0.set 10 (.int 0)).set 11 (.int 0)).set 12 (.int 1)).set 11 (.int 0)).set 11 (.int 0)).set 11 (.int 0)).set 11 (.int 0)).set 11 (.int 0)).set 11 (.int 0)).set 11 (.int 0)).set 11 (.int 0)).set 11 (.int 0)).set 11 (.int 0)).set 11 (.int 0)).set 11 (.int 0)))), (h1, .inr (2, f1))] H := hP
  have hD : va_D A [(h0, .inr (6, (((((((((((((((f0.set 10 (.int 0)).set 11 (.int 0)).set 12 (.int 1)).set 11 (.int 0)).set 11 (.int 0)).set 11 (.int 0)).set 11 (.int 0)).set 11 (.int 0)).set 11 (.int 0)).set 11 (.int 0)).set 11 (.int 0)).set 11 (.int 0)).set 11 (.int 0)).set 11 (.int 0)).set 11 (.int 0)))), (h1, .inr (2, f1))] := hD
  refine lv_iinc (v := 12) (lv' := [(2, .int 12), (4, .int 0), (3, .int 0), (0, .ref h0), (1, .int 0)]) hx hb dX6_gather_144 hl (k := 0) rfl (by decide) (by decide) rfl (fun ls hl => ?_)
  refine lv_goto (tgt := 105) hx hb dX6_gather_147 (by decide) ?_
  refine lv_iload_n hx hb dX6_gather_105 rfl (lv_at hl 0 rfl) ?_
  refine lv_if_lt (tgt := 150) hx hb dX6_gather_106 (by decide) (fun c9 => absurd c9 (by decide)) (fun _ => ?_)
  refine lv_aload_n hx hb dX6_gather_109 rfl (lv_at hl 3 rfl) ?_
  refine lv_dup hx hb dX6_gather_110 rfl ?_
  refine va_get (D := D) (ref := "IntegerHouse$Places") (ci := 6) (v := .int 0) (C := RX6) (T := TX6) (N := 14) hx hb hts hin6 hown hK hP 0 rfl rfl 11 (by decide) (hts (.fieldLink RX6 90 "IntegerHouse$Places" "needed" "I") (List.mem_cons_of_mem _ (List.mem_append_left _ (List.mem_append_left _ (List.mem_append_left _ (List.mem_of_getElem? (i := 1) rfl)))))) (fun _ h9 => h9) (k_set (k_set (k_set (k_set (k_set (k_set (k_set (k_set (k_set (k_set (k_set (k_set (k_ne (by decide) (k_set (k_ne (by decide) e1))))))))))))))) dX6_gather_111 ?_
  refine lv_aload_n hx hb dX6_gather_114 rfl (lv_at hl 3 rfl) ?_
  refine va_get (D := D) (ref := "IntegerHouse$Places") (ci := 6) (v := .int 0) (C := RX6) (T := TX6) (N := 14) hx hb hts hin6 hown hK hP 0 rfl rfl 11 (by decide) (hts (.fieldLink RX6 90 "IntegerHouse$Places" "needed" "I") (List.mem_cons_of_mem _ (List.mem_append_left _ (List.mem_append_left _ (List.mem_append_left _ (List.mem_of_getElem? (i := 1) rfl)))))) (fun _ h9 => h9) (k_set (k_set (k_set (k_set (k_set (k_set (k_set (k_set (k_set (k_set (k_set (k_set (k_ne (by decide) (k_set (k_ne (by decide) e1))))))))))))))) dX6_gather_115 ?_
  refine lv_iload_n hx hb dX6_gather_118 rfl (lv_at hl 0 rfl) ?_
  refine lv_iushr (v := 0) hx hb dX6_gather_119 (by decide) ?_
  refine lv_iconst (v := 1) hx hb dX6_gather_120 (by decide) ?_
  refine lv_iand hx hb dX6_gather_121 ?_
  refine k_topi (y := 0) (by decide) ?_
  refine lv_iconst (v := 1) hx hb dX6_gather_122 (by decide) ?_
  refine lv_icmp_ne (tgt := 139) hx hb dX6_gather_123 (by decide) (fun _ => ?_) (fun c9 => absurd c9 (by decide))
  refine lv_iconst (v := 0) hx hb dX6_gather_139 (by decide) ?_
  refine lv_ior hx hb dX6_gather_140 ?_
  refine k_topi (y := 0) (by decide) ?_
  refine va_put (D := D) (ref := "IntegerHouse$Places") (ci := 6) (v := .int 0) (ty := .int) (C := RX6) (T := TX6) (N := 14) hx hb hts hin6 tyX6 tyX6_ok nmX6 hown hK hP hD hS 0 rfl rfl 11 (by decide) (hts (.fieldLink RX6 90 "IntegerHouse$Places" "needed" "I") (List.mem_cons_of_mem _ (List.mem_append_left _ (List.mem_append_left _ (List.mem_append_left _ (List.mem_of_getElem? (i := 1) rfl)))))) (fun _ h9 => h9) rfl (by decide +kernel) rfl rfl (k_len (k_set (k_set (k_set (k_set (k_set (k_set (k_set (k_set (k_set (k_set (k_set (k_set (k_ne (by decide) (k_set (k_ne (by decide) e1)))))))))))))))) dX6_gather_141 (fun H locs hP hD hS => ?_)
  have hP : va_P D vwCl [(h0, .inr (6, ((((((((((((((((f0.set 10 (.int 0)).set 11 (.int 0)).set 12 (.int 1)).set 11 (.int 0)).set 11 (.int 0)).set 11 (.int 0)).set 11 (.int 0)).set 11 (.int 0)).set 11 (.int 0)).set 11 (.int 0)).set 11 (.int 0)).set 11 (.int 0)).set 11 (.int 0)).set 11 (.int 0)).set 11 (.int 0)).set 11 (.int 0)))), (h1, .inr (2, f1))] H := hP
  have hD : va_D A [(h0, .inr (6, ((((((((((((((((f0.set 10 (.int 0)).set 11 (.int 0)).set 12 (.int 1)).set 11 (.int 0)).set 11 (.int 0)).set 11 (.int 0)).set 11 (.int 0)).set 11 (.int 0)).set 11 (.int 0)).set 11 (.int 0)).set 11 (.int 0)).set 11 (.int 0)).set 11 (.int 0)).set 11 (.int 0)).set 11 (.int 0)).set 11 (.int 0)))), (h1, .inr (2, f1))] := hD
  refine lv_iinc (v := 11) (lv' := [(2, .int 11), (4, .int 0), (3, .int 0), (0, .ref h0), (1, .int 0)]) hx hb dX6_gather_144 hl (k := 0) rfl (by decide) (by decide) rfl (fun ls hl => ?_)
  refine lv_goto (tgt := 105) hx hb dX6_gather_147 (by decide) ?_
  refine lv_iload_n hx hb dX6_gather_105 rfl (lv_at hl 0 rfl) ?_
  refine lv_if_lt (tgt := 150) hx hb dX6_gather_106 (by decide) (fun c9 => absurd c9 (by decide)) (fun _ => ?_)
  refine lv_aload_n hx hb dX6_gather_109 rfl (lv_at hl 3 rfl) ?_
  refine lv_dup hx hb dX6_gather_110 rfl ?_
  refine va_get (D := D) (ref := "IntegerHouse$Places") (ci := 6) (v := .int 0) (C := RX6) (T := TX6) (N := 14) hx hb hts hin6 hown hK hP 0 rfl rfl 11 (by decide) (hts (.fieldLink RX6 90 "IntegerHouse$Places" "needed" "I") (List.mem_cons_of_mem _ (List.mem_append_left _ (List.mem_append_left _ (List.mem_append_left _ (List.mem_of_getElem? (i := 1) rfl)))))) (fun _ h9 => h9) (k_set (k_set (k_set (k_set (k_set (k_set (k_set (k_set (k_set (k_set (k_set (k_set (k_set (k_ne (by decide) (k_set (k_ne (by decide) e1)))))))))))))))) dX6_gather_111 ?_
  refine lv_aload_n hx hb dX6_gather_114 rfl (lv_at hl 3 rfl) ?_
  refine va_get (D := D) (ref := "IntegerHouse$Places") (ci := 6) (v := .int 0) (C := RX6) (T := TX6) (N := 14) hx hb hts hin6 hown hK hP 0 rfl rfl 11 (by decide) (hts (.fieldLink RX6 90 "IntegerHouse$Places" "needed" "I") (List.mem_cons_of_mem _ (List.mem_append_left _ (List.mem_append_left _ (List.mem_append_left _ (List.mem_of_getElem? (i := 1) rfl)))))) (fun _ h9 => h9) (k_set (k_set (k_set (k_set (k_set (k_set (k_set (k_set (k_set (k_set (k_set (k_set (k_set (k_ne (by decide) (k_set (k_ne (by decide) e1)))))))))))))))) dX6_gather_115 ?_
  refine lv_iload_n hx hb dX6_gather_118 rfl (lv_at hl 0 rfl) ?_
  refine lv_iushr (v := 0) hx hb dX6_gather_119 (by decide) ?_
  refine lv_iconst (v := 1) hx hb dX6_gather_120 (by decide) ?_
  refine lv_iand hx hb dX6_gather_121 ?_
  refine k_topi (y := 0) (by decide) ?_
  refine lv_iconst (v := 1) hx hb dX6_gather_122 (by decide) ?_
  refine lv_icmp_ne (tgt := 139) hx hb dX6_gather_123 (by decide) (fun _ => ?_) (fun c9 => absurd c9 (by decide))
  refine lv_iconst (v := 0) hx hb dX6_gather_139 (by decide) ?_
  refine lv_ior hx hb dX6_gather_140 ?_
  refine k_topi (y := 0) (by decide) ?_
  refine va_put (D := D) (ref := "IntegerHouse$Places") (ci := 6) (v := .int 0) (ty := .int) (C := RX6) (T := TX6) (N := 14) hx hb hts hin6 tyX6 tyX6_ok nmX6 hown hK hP hD hS 0 rfl rfl 11 (by decide) (hts (.fieldLink RX6 90 "IntegerHouse$Places" "needed" "I") (List.mem_cons_of_mem _ (List.mem_append_left _ (List.mem_append_left _ (List.mem_append_left _ (List.mem_of_getElem? (i := 1) rfl)))))) (fun _ h9 => h9) rfl (by decide +kernel) rfl rfl (k_len (k_set (k_set (k_set (k_set (k_set (k_set (k_set (k_set (k_set (k_set (k_set (k_set (k_set (k_ne (by decide) (k_set (k_ne (by decide) e1))))))))))))))))) dX6_gather_141 (fun H locs hP hD hS => ?_)
  have hP : va_P D vwCl [(h0, .inr (6, (((((((((((((((((f0.set 10 (.int 0)).set 11 (.int 0)).set 12 (.int 1)).set 11 (.int 0)).set 11 (.int 0)).set 11 (.int 0)).set 11 (.int 0)).set 11 (.int 0)).set 11 (.int 0)).set 11 (.int 0)).set 11 (.int 0)).set 11 (.int 0)).set 11 (.int 0)).set 11 (.int 0)).set 11 (.int 0)).set 11 (.int 0)).set 11 (.int 0)))), (h1, .inr (2, f1))] H := hP
  have hD : va_D A [(h0, .inr (6, (((((((((((((((((f0.set 10 (.int 0)).set 11 (.int 0)).set 12 (.int 1)).set 11 (.int 0)).set 11 (.int 0)).set 11 (.int 0)).set 11 (.int 0)).set 11 (.int 0)).set 11 (.int 0)).set 11 (.int 0)).set 11 (.int 0)).set 11 (.int 0)).set 11 (.int 0)).set 11 (.int 0)).set 11 (.int 0)).set 11 (.int 0)).set 11 (.int 0)))), (h1, .inr (2, f1))] := hD
  refine lv_iinc (v := 10) (lv' := [(2, .int 10), (4, .int 0), (3, .int 0), (0, .ref h0), (1, .int 0)]) hx hb dX6_gather_144 hl (k := 0) rfl (by decide) (by decide) rfl (fun ls hl => ?_)
  refine lv_goto (tgt := 105) hx hb dX6_gather_147 (by decide) ?_
  refine lv_iload_n hx hb dX6_gather_105 rfl (lv_at hl 0 rfl) ?_
  refine lv_if_lt (tgt := 150) hx hb dX6_gather_106 (by decide) (fun c9 => absurd c9 (by decide)) (fun _ => ?_)
  refine lv_aload_n hx hb dX6_gather_109 rfl (lv_at hl 3 rfl) ?_
  refine lv_dup hx hb dX6_gather_110 rfl ?_
  refine va_get (D := D) (ref := "IntegerHouse$Places") (ci := 6) (v := .int 0) (C := RX6) (T := TX6) (N := 14) hx hb hts hin6 hown hK hP 0 rfl rfl 11 (by decide) (hts (.fieldLink RX6 90 "IntegerHouse$Places" "needed" "I") (List.mem_cons_of_mem _ (List.mem_append_left _ (List.mem_append_left _ (List.mem_append_left _ (List.mem_of_getElem? (i := 1) rfl)))))) (fun _ h9 => h9) (k_set (k_set (k_set (k_set (k_set (k_set (k_set (k_set (k_set (k_set (k_set (k_set (k_set (k_set (k_ne (by decide) (k_set (k_ne (by decide) e1))))))))))))))))) dX6_gather_111 ?_
  refine lv_aload_n hx hb dX6_gather_114 rfl (lv_at hl 3 rfl) ?_
  refine va_get (D := D) (ref := "IntegerHouse$Places") (ci := 6) (v := .int 0) (C := RX6) (T := TX6) (N := 14) hx hb hts hin6 hown hK hP 0 rfl rfl 11 (by decide) (hts (.fieldLink RX6 90 "IntegerHouse$Places" "needed" "I") (List.mem_cons_of_mem _ (List.mem_append_left _ (List.mem_append_left _ (List.mem_append_left _ (List.mem_of_getElem? (i := 1) rfl)))))) (fun _ h9 => h9) (k_set (k_set (k_set (k_set (k_set (k_set (k_set (k_set (k_set (k_set (k_set (k_set (k_set (k_set (k_ne (by decide) (k_set (k_ne (by decide) e1))))))))))))))))) dX6_gather_115 ?_
  refine lv_iload_n hx hb dX6_gather_118 rfl (lv_at hl 0 rfl) ?_
  refine lv_iushr (v := 0) hx hb dX6_gather_119 (by decide) ?_
  refine lv_iconst (v := 1) hx hb dX6_gather_120 (by decide) ?_
  refine lv_iand hx hb dX6_gather_121 ?_
  refine k_topi (y := 0) (by decide) ?_
  refine lv_iconst (v := 1) hx hb dX6_gather_122 (by decide) ?_
  refine lv_icmp_ne (tgt := 139) hx hb dX6_gather_123 (by decide) (fun _ => ?_) (fun c9 => absurd c9 (by decide))
  refine lv_iconst (v := 0) hx hb dX6_gather_139 (by decide) ?_
  refine lv_ior hx hb dX6_gather_140 ?_
  refine k_topi (y := 0) (by decide) ?_
  refine va_put (D := D) (ref := "IntegerHouse$Places") (ci := 6) (v := .int 0) (ty := .int) (C := RX6) (T := TX6) (N := 14) hx hb hts hin6 tyX6 tyX6_ok nmX6 hown hK hP hD hS 0 rfl rfl 11 (by decide) (hts (.fieldLink RX6 90 "IntegerHouse$Places" "needed" "I") (List.mem_cons_of_mem _ (List.mem_append_left _ (List.mem_append_left _ (List.mem_append_left _ (List.mem_of_getElem? (i := 1) rfl)))))) (fun _ h9 => h9) rfl (by decide +kernel) rfl rfl (k_len (k_set (k_set (k_set (k_set (k_set (k_set (k_set (k_set (k_set (k_set (k_set (k_set (k_set (k_set (k_ne (by decide) (k_set (k_ne (by decide) e1)))))))))))))))))) dX6_gather_141 (fun H locs hP hD hS => ?_)
  have hP : va_P D vwCl [(h0, .inr (6, ((((((((((((((((((f0.set 10 (.int 0)).set 11 (.int 0)).set 12 (.int 1)).set 11 (.int 0)).set 11 (.int 0)).set 11 (.int 0)).set 11 (.int 0)).set 11 (.int 0)).set 11 (.int 0)).set 11 (.int 0)).set 11 (.int 0)).set 11 (.int 0)).set 11 (.int 0)).set 11 (.int 0)).set 11 (.int 0)).set 11 (.int 0)).set 11 (.int 0)).set 11 (.int 0)))), (h1, .inr (2, f1))] H := hP
  have hD : va_D A [(h0, .inr (6, ((((((((((((((((((f0.set 10 (.int 0)).set 11 (.int 0)).set 12 (.int 1)).set 11 (.int 0)).set 11 (.int 0)).set 11 (.int 0)).set 11 (.int 0)).set 11 (.int 0)).set 11 (.int 0)).set 11 (.int 0)).set 11 (.int 0)).set 11 (.int 0)).set 11 (.int 0)).set 11 (.int 0)).set 11 (.int 0)).set 11 (.int 0)).set 11 (.int 0)).set 11 (.int 0)))), (h1, .inr (2, f1))] := hD
  refine lv_iinc (v := 9) (lv' := [(2, .int 9), (4, .int 0), (3, .int 0), (0, .ref h0), (1, .int 0)]) hx hb dX6_gather_144 hl (k := 0) rfl (by decide) (by decide) rfl (fun ls hl => ?_)
  refine lv_goto (tgt := 105) hx hb dX6_gather_147 (by decide) ?_
  refine lv_iload_n hx hb dX6_gather_105 rfl (lv_at hl 0 rfl) ?_
  refine lv_if_lt (tgt := 150) hx hb dX6_gather_106 (by decide) (fun c9 => absurd c9 (by decide)) (fun _ => ?_)
  refine lv_aload_n hx hb dX6_gather_109 rfl (lv_at hl 3 rfl) ?_
  refine lv_dup hx hb dX6_gather_110 rfl ?_
  refine va_get (D := D) (ref := "IntegerHouse$Places") (ci := 6) (v := .int 0) (C := RX6) (T := TX6) (N := 14) hx hb hts hin6 hown hK hP 0 rfl rfl 11 (by decide) (hts (.fieldLink RX6 90 "IntegerHouse$Places" "needed" "I") (List.mem_cons_of_mem _ (List.mem_append_left _ (List.mem_append_left _ (List.mem_append_left _ (List.mem_of_getElem? (i := 1) rfl)))))) (fun _ h9 => h9) (k_set (k_set (k_set (k_set (k_set (k_set (k_set (k_set (k_set (k_set (k_set (k_set (k_set (k_set (k_set (k_ne (by decide) (k_set (k_ne (by decide) e1)))))))))))))))))) dX6_gather_111 ?_
  refine lv_aload_n hx hb dX6_gather_114 rfl (lv_at hl 3 rfl) ?_
  refine va_get (D := D) (ref := "IntegerHouse$Places") (ci := 6) (v := .int 0) (C := RX6) (T := TX6) (N := 14) hx hb hts hin6 hown hK hP 0 rfl rfl 11 (by decide) (hts (.fieldLink RX6 90 "IntegerHouse$Places" "needed" "I") (List.mem_cons_of_mem _ (List.mem_append_left _ (List.mem_append_left _ (List.mem_append_left _ (List.mem_of_getElem? (i := 1) rfl)))))) (fun _ h9 => h9) (k_set (k_set (k_set (k_set (k_set (k_set (k_set (k_set (k_set (k_set (k_set (k_set (k_set (k_set (k_set (k_ne (by decide) (k_set (k_ne (by decide) e1)))))))))))))))))) dX6_gather_115 ?_
  refine lv_iload_n hx hb dX6_gather_118 rfl (lv_at hl 0 rfl) ?_
  refine lv_iushr (v := 0) hx hb dX6_gather_119 (by decide) ?_
  refine lv_iconst (v := 1) hx hb dX6_gather_120 (by decide) ?_
  refine lv_iand hx hb dX6_gather_121 ?_
  refine k_topi (y := 0) (by decide) ?_
  refine lv_iconst (v := 1) hx hb dX6_gather_122 (by decide) ?_
  refine lv_icmp_ne (tgt := 139) hx hb dX6_gather_123 (by decide) (fun _ => ?_) (fun c9 => absurd c9 (by decide))
  refine lv_iconst (v := 0) hx hb dX6_gather_139 (by decide) ?_
  refine lv_ior hx hb dX6_gather_140 ?_
  refine k_topi (y := 0) (by decide) ?_
  refine va_put (D := D) (ref := "IntegerHouse$Places") (ci := 6) (v := .int 0) (ty := .int) (C := RX6) (T := TX6) (N := 14) hx hb hts hin6 tyX6 tyX6_ok nmX6 hown hK hP hD hS 0 rfl rfl 11 (by decide) (hts (.fieldLink RX6 90 "IntegerHouse$Places" "needed" "I") (List.mem_cons_of_mem _ (List.mem_append_left _ (List.mem_append_left _ (List.mem_append_left _ (List.mem_of_getElem? (i := 1) rfl)))))) (fun _ h9 => h9) rfl (by decide +kernel) rfl rfl (k_len (k_set (k_set (k_set (k_set (k_set (k_set (k_set (k_set (k_set (k_set (k_set (k_set (k_set (k_set (k_set (k_ne (by decide) (k_set (k_ne (by decide) e1))))))))))))))))))) dX6_gather_141 (fun H locs hP hD hS => ?_)
  have hP : va_P D vwCl [(h0, .inr (6, (((((((((((((((((((f0.set 10 (.int 0)).set 11 (.int 0)).set 12 (.int 1)).set 11 (.int 0)).set 11 (.int 0)).set 11 (.int 0)).set 11 (.int 0)).set 11 (.int 0)).set 11 (.int 0)).set 11 (.int 0)).set 11 (.int 0)).set 11 (.int 0)).set 11 (.int 0)).set 11 (.int 0)).set 11 (.int 0)).set 11 (.int 0)).set 11 (.int 0)).set 11 (.int 0)).set 11 (.int 0)))), (h1, .inr (2, f1))] H := hP
  have hD : va_D A [(h0, .inr (6, (((((((((((((((((((f0.set 10 (.int 0)).set 11 (.int 0)).set 12 (.int 1)).set 11 (.int 0)).set 11 (.int 0)).set 11 (.int 0)).set 11 (.int 0)).set 11 (.int 0)).set 11 (.int 0)).set 11 (.int 0)).set 11 (.int 0)).set 11 (.int 0)).set 11 (.int 0)).set 11 (.int 0)).set 11 (.int 0)).set 11 (.int 0)).set 11 (.int 0)).set 11 (.int 0)).set 11 (.int 0)))), (h1, .inr (2, f1))] := hD
  refine lv_iinc (v := 8) (lv' := [(2, .int 8), (4, .int 0), (3, .int 0), (0, .ref h0), (1, .int 0)]) hx hb dX6_gather_144 hl (k := 0) rfl (by decide) (by decide) rfl (fun ls hl => ?_)
  refine lv_goto (tgt := 105) hx hb dX6_gather_147 (by decide) ?_
  refine lv_iload_n hx hb dX6_gather_105 rfl (lv_at hl 0 rfl) ?_
  refine lv_if_lt (tgt := 150) hx hb dX6_gather_106 (by decide) (fun c9 => absurd c9 (by decide)) (fun _ => ?_)
  refine lv_aload_n hx hb dX6_gather_109 rfl (lv_at hl 3 rfl) ?_
  refine lv_dup hx hb dX6_gather_110 rfl ?_
  refine va_get (D := D) (ref := "IntegerHouse$Places") (ci := 6) (v := .int 0) (C := RX6) (T := TX6) (N := 14) hx hb hts hin6 hown hK hP 0 rfl rfl 11 (by decide) (hts (.fieldLink RX6 90 "IntegerHouse$Places" "needed" "I") (List.mem_cons_of_mem _ (List.mem_append_left _ (List.mem_append_left _ (List.mem_append_left _ (List.mem_of_getElem? (i := 1) rfl)))))) (fun _ h9 => h9) (k_set (k_set (k_set (k_set (k_set (k_set (k_set (k_set (k_set (k_set (k_set (k_set (k_set (k_set (k_set (k_set (k_ne (by decide) (k_set (k_ne (by decide) e1))))))))))))))))))) dX6_gather_111 ?_
  refine lv_aload_n hx hb dX6_gather_114 rfl (lv_at hl 3 rfl) ?_
  refine va_get (D := D) (ref := "IntegerHouse$Places") (ci := 6) (v := .int 0) (C := RX6) (T := TX6) (N := 14) hx hb hts hin6 hown hK hP 0 rfl rfl 11 (by decide) (hts (.fieldLink RX6 90 "IntegerHouse$Places" "needed" "I") (List.mem_cons_of_mem _ (List.mem_append_left _ (List.mem_append_left _ (List.mem_append_left _ (List.mem_of_getElem? (i := 1) rfl)))))) (fun _ h9 => h9) (k_set (k_set (k_set (k_set (k_set (k_set (k_set (k_set (k_set (k_set (k_set (k_set (k_set (k_set (k_set (k_set (k_ne (by decide) (k_set (k_ne (by decide) e1))))))))))))))))))) dX6_gather_115 ?_
  refine lv_iload_n hx hb dX6_gather_118 rfl (lv_at hl 0 rfl) ?_
  refine lv_iushr (v := 0) hx hb dX6_gather_119 (by decide) ?_
  refine lv_iconst (v := 1) hx hb dX6_gather_120 (by decide) ?_
  refine lv_iand hx hb dX6_gather_121 ?_
  refine k_topi (y := 0) (by decide) ?_
  refine lv_iconst (v := 1) hx hb dX6_gather_122 (by decide) ?_
  refine lv_icmp_ne (tgt := 139) hx hb dX6_gather_123 (by decide) (fun _ => ?_) (fun c9 => absurd c9 (by decide))
  refine lv_iconst (v := 0) hx hb dX6_gather_139 (by decide) ?_
  refine lv_ior hx hb dX6_gather_140 ?_
  refine k_topi (y := 0) (by decide) ?_
  refine va_put (D := D) (ref := "IntegerHouse$Places") (ci := 6) (v := .int 0) (ty := .int) (C := RX6) (T := TX6) (N := 14) hx hb hts hin6 tyX6 tyX6_ok nmX6 hown hK hP hD hS 0 rfl rfl 11 (by decide) (hts (.fieldLink RX6 90 "IntegerHouse$Places" "needed" "I") (List.mem_cons_of_mem _ (List.mem_append_left _ (List.mem_append_left _ (List.mem_append_left _ (List.mem_of_getElem? (i := 1) rfl)))))) (fun _ h9 => h9) rfl (by decide +kernel) rfl rfl (k_len (k_set (k_set (k_set (k_set (k_set (k_set (k_set (k_set (k_set (k_set (k_set (k_set (k_set (k_set (k_set (k_set (k_ne (by decide) (k_set (k_ne (by decide) e1)))))))))))))))))))) dX6_gather_141 (fun H locs hP hD hS => ?_)
  have hP : va_P D vwCl [(h0, .inr (6, ((((((((((((((((((((f0.set 10 (.int 0)).set 11 (.int 0)).set 12 (.int 1)).set 11 (.int 0)).set 11 (.int 0)).set 11 (.int 0)).set 11 (.int 0)).set 11 (.int 0)).set 11 (.int 0)).set 11 (.int 0)).set 11 (.int 0)).set 11 (.int 0)).set 11 (.int 0)).set 11 (.int 0)).set 11 (.int 0)).set 11 (.int 0)).set 11 (.int 0)).set 11 (.int 0)).set 11 (.int 0)).set 11 (.int 0)))), (h1, .inr (2, f1))] H := hP
  have hD : va_D A [(h0, .inr (6, ((((((((((((((((((((f0.set 10 (.int 0)).set 11 (.int 0)).set 12 (.int 1)).set 11 (.int 0)).set 11 (.int 0)).set 11 (.int 0)).set 11 (.int 0)).set 11 (.int 0)).set 11 (.int 0)).set 11 (.int 0)).set 11 (.int 0)).set 11 (.int 0)).set 11 (.int 0)).set 11 (.int 0)).set 11 (.int 0)).set 11 (.int 0)).set 11 (.int 0)).set 11 (.int 0)).set 11 (.int 0)).set 11 (.int 0)))), (h1, .inr (2, f1))] := hD
  refine lv_iinc (v := 7) (lv' := [(2, .int 7), (4, .int 0), (3, .int 0), (0, .ref h0), (1, .int 0)]) hx hb dX6_gather_144 hl (k := 0) rfl (by decide) (by decide) rfl (fun ls hl => ?_)
  refine lv_goto (tgt := 105) hx hb dX6_gather_147 (by decide) ?_
  refine lv_iload_n hx hb dX6_gather_105 rfl (lv_at hl 0 rfl) ?_
  refine lv_if_lt (tgt := 150) hx hb dX6_gather_106 (by decide) (fun c9 => absurd c9 (by decide)) (fun _ => ?_)
  refine lv_aload_n hx hb dX6_gather_109 rfl (lv_at hl 3 rfl) ?_
  refine lv_dup hx hb dX6_gather_110 rfl ?_
  refine va_get (D := D) (ref := "IntegerHouse$Places") (ci := 6) (v := .int 0) (C := RX6) (T := TX6) (N := 14) hx hb hts hin6 hown hK hP 0 rfl rfl 11 (by decide) (hts (.fieldLink RX6 90 "IntegerHouse$Places" "needed" "I") (List.mem_cons_of_mem _ (List.mem_append_left _ (List.mem_append_left _ (List.mem_append_left _ (List.mem_of_getElem? (i := 1) rfl)))))) (fun _ h9 => h9) (k_set (k_set (k_set (k_set (k_set (k_set (k_set (k_set (k_set (k_set (k_set (k_set (k_set (k_set (k_set (k_set (k_set (k_ne (by decide) (k_set (k_ne (by decide) e1)))))))))))))))))))) dX6_gather_111 ?_
  refine lv_aload_n hx hb dX6_gather_114 rfl (lv_at hl 3 rfl) ?_
  refine va_get (D := D) (ref := "IntegerHouse$Places") (ci := 6) (v := .int 0) (C := RX6) (T := TX6) (N := 14) hx hb hts hin6 hown hK hP 0 rfl rfl 11 (by decide) (hts (.fieldLink RX6 90 "IntegerHouse$Places" "needed" "I") (List.mem_cons_of_mem _ (List.mem_append_left _ (List.mem_append_left _ (List.mem_append_left _ (List.mem_of_getElem? (i := 1) rfl)))))) (fun _ h9 => h9) (k_set (k_set (k_set (k_set (k_set (k_set (k_set (k_set (k_set (k_set (k_set (k_set (k_set (k_set (k_set (k_set (k_set (k_ne (by decide) (k_set (k_ne (by decide) e1)))))))))))))))))))) dX6_gather_115 ?_
  refine lv_iload_n hx hb dX6_gather_118 rfl (lv_at hl 0 rfl) ?_
  refine lv_iushr (v := 0) hx hb dX6_gather_119 (by decide) ?_
  refine lv_iconst (v := 1) hx hb dX6_gather_120 (by decide) ?_
  refine lv_iand hx hb dX6_gather_121 ?_
  refine k_topi (y := 0) (by decide) ?_
  refine lv_iconst (v := 1) hx hb dX6_gather_122 (by decide) ?_
  refine lv_icmp_ne (tgt := 139) hx hb dX6_gather_123 (by decide) (fun _ => ?_) (fun c9 => absurd c9 (by decide))
  refine lv_iconst (v := 0) hx hb dX6_gather_139 (by decide) ?_
  refine lv_ior hx hb dX6_gather_140 ?_
  refine k_topi (y := 0) (by decide) ?_
  refine va_put (D := D) (ref := "IntegerHouse$Places") (ci := 6) (v := .int 0) (ty := .int) (C := RX6) (T := TX6) (N := 14) hx hb hts hin6 tyX6 tyX6_ok nmX6 hown hK hP hD hS 0 rfl rfl 11 (by decide) (hts (.fieldLink RX6 90 "IntegerHouse$Places" "needed" "I") (List.mem_cons_of_mem _ (List.mem_append_left _ (List.mem_append_left _ (List.mem_append_left _ (List.mem_of_getElem? (i := 1) rfl)))))) (fun _ h9 => h9) rfl (by decide +kernel) rfl rfl (k_len (k_set (k_set (k_set (k_set (k_set (k_set (k_set (k_set (k_set (k_set (k_set (k_set (k_set (k_set (k_set (k_set (k_set (k_ne (by decide) (k_set (k_ne (by decide) e1))))))))))))))))))))) dX6_gather_141 (fun H locs hP hD hS => ?_)
  have hP : va_P D vwCl [(h0, .inr (6, (((((((((((((((((((((f0.set 10 (.int 0)).set 11 (.int 0)).set 12 (.int 1)).set 11 (.int 0)).set 11 (.int 0)).set 11 (.int 0)).set 11 (.int 0)).set 11 (.int 0)).set 11 (.int 0)).set 11 (.int 0)).set 11 (.int 0)).set 11 (.int 0)).set 11 (.int 0)).set 11 (.int 0)).set 11 (.int 0)).set 11 (.int 0)).set 11 (.int 0)).set 11 (.int 0)).set 11 (.int 0)).set 11 (.int 0)).set 11 (.int 0)))), (h1, .inr (2, f1))] H := hP
  have hD : va_D A [(h0, .inr (6, (((((((((((((((((((((f0.set 10 (.int 0)).set 11 (.int 0)).set 12 (.int 1)).set 11 (.int 0)).set 11 (.int 0)).set 11 (.int 0)).set 11 (.int 0)).set 11 (.int 0)).set 11 (.int 0)).set 11 (.int 0)).set 11 (.int 0)).set 11 (.int 0)).set 11 (.int 0)).set 11 (.int 0)).set 11 (.int 0)).set 11 (.int 0)).set 11 (.int 0)).set 11 (.int 0)).set 11 (.int 0)).set 11 (.int 0)).set 11 (.int 0)))), (h1, .inr (2, f1))] := hD
  refine lv_iinc (v := 6) (lv' := [(2, .int 6), (4, .int 0), (3, .int 0), (0, .ref h0), (1, .int 0)]) hx hb dX6_gather_144 hl (k := 0) rfl (by decide) (by decide) rfl (fun ls hl => ?_)
  refine lv_goto (tgt := 105) hx hb dX6_gather_147 (by decide) ?_
  refine lv_iload_n hx hb dX6_gather_105 rfl (lv_at hl 0 rfl) ?_
  refine lv_if_lt (tgt := 150) hx hb dX6_gather_106 (by decide) (fun c9 => absurd c9 (by decide)) (fun _ => ?_)
  refine lv_aload_n hx hb dX6_gather_109 rfl (lv_at hl 3 rfl) ?_
  refine lv_dup hx hb dX6_gather_110 rfl ?_
  refine va_get (D := D) (ref := "IntegerHouse$Places") (ci := 6) (v := .int 0) (C := RX6) (T := TX6) (N := 14) hx hb hts hin6 hown hK hP 0 rfl rfl 11 (by decide) (hts (.fieldLink RX6 90 "IntegerHouse$Places" "needed" "I") (List.mem_cons_of_mem _ (List.mem_append_left _ (List.mem_append_left _ (List.mem_append_left _ (List.mem_of_getElem? (i := 1) rfl)))))) (fun _ h9 => h9) (k_set (k_set (k_set (k_set (k_set (k_set (k_set (k_set (k_set (k_set (k_set (k_set (k_set (k_set (k_set (k_set (k_set (k_set (k_ne (by decide) (k_set (k_ne (by decide) e1))))))))))))))))))))) dX6_gather_111 ?_
  refine lv_aload_n hx hb dX6_gather_114 rfl (lv_at hl 3 rfl) ?_
  refine va_get (D := D) (ref := "IntegerHouse$Places") (ci := 6) (v := .int 0) (C := RX6) (T := TX6) (N := 14) hx hb hts hin6 hown hK hP 0 rfl rfl 11 (by decide) (hts (.fieldLink RX6 90 "IntegerHouse$Places" "needed" "I") (List.mem_cons_of_mem _ (List.mem_append_left _ (List.mem_append_left _ (List.mem_append_left _ (List.mem_of_getElem? (i := 1) rfl)))))) (fun _ h9 => h9) (k_set (k_set (k_set (k_set (k_set (k_set (k_set (k_set (k_set (k_set (k_set (k_set (k_set (k_set (k_set (k_set (k_set (k_set (k_ne (by decide) (k_set (k_ne (by decide) e1))))))))))))))))))))) dX6_gather_115 ?_
  refine lv_iload_n hx hb dX6_gather_118 rfl (lv_at hl 0 rfl) ?_
  refine lv_iushr (v := 0) hx hb dX6_gather_119 (by decide) ?_
  refine lv_iconst (v := 1) hx hb dX6_gather_120 (by decide) ?_
  refine lv_iand hx hb dX6_gather_121 ?_
  refine k_topi (y := 0) (by decide) ?_
  refine lv_iconst (v := 1) hx hb dX6_gather_122 (by decide) ?_
  refine lv_icmp_ne (tgt := 139) hx hb dX6_gather_123 (by decide) (fun _ => ?_) (fun c9 => absurd c9 (by decide))
  refine lv_iconst (v := 0) hx hb dX6_gather_139 (by decide) ?_
  refine lv_ior hx hb dX6_gather_140 ?_
  refine k_topi (y := 0) (by decide) ?_
  refine va_put (D := D) (ref := "IntegerHouse$Places") (ci := 6) (v := .int 0) (ty := .int) (C := RX6) (T := TX6) (N := 14) hx hb hts hin6 tyX6 tyX6_ok nmX6 hown hK hP hD hS 0 rfl rfl 11 (by decide) (hts (.fieldLink RX6 90 "IntegerHouse$Places" "needed" "I") (List.mem_cons_of_mem _ (List.mem_append_left _ (List.mem_append_left _ (List.mem_append_left _ (List.mem_of_getElem? (i := 1) rfl)))))) (fun _ h9 => h9) rfl (by decide +kernel) rfl rfl (k_len (k_set (k_set (k_set (k_set (k_set (k_set (k_set (k_set (k_set (k_set (k_set (k_set (k_set (k_set (k_set (k_set (k_set (k_set (k_ne (by decide) (k_set (k_ne (by decide) e1)))))))))))))))))))))) dX6_gather_141 (fun H locs hP hD hS => ?_)
  have hP : va_P D vwCl [(h0, .inr (6, ((((((((((((((((((((((f0.set 10 (.int 0)).set 11 (.int 0)).set 12 (.int 1)).set 11 (.int 0)).set 11 (.int 0)).set 11 (.int 0)).set 11 (.int 0)).set 11 (.int 0)).set 11 (.int 0)).set 11 (.int 0)).set 11 (.int 0)).set 11 (.int 0)).set 11 (.int 0)).set 11 (.int 0)).set 11 (.int 0)).set 11 (.int 0)).set 11 (.int 0)).set 11 (.int 0)).set 11 (.int 0)).set 11 (.int 0)).set 11 (.int 0)).set 11 (.int 0)))), (h1, .inr (2, f1))] H := hP
  have hD : va_D A [(h0, .inr (6, ((((((((((((((((((((((f0.set 10 (.int 0)).set 11 (.int 0)).set 12 (.int 1)).set 11 (.int 0)).set 11 (.int 0)).set 11 (.int 0)).set 11 (.int 0)).set 11 (.int 0)).set 11 (.int 0)).set 11 (.int 0)).set 11 (.int 0)).set 11 (.int 0)).set 11 (.int 0)).set 11 (.int 0)).set 11 (.int 0)).set 11 (.int 0)).set 11 (.int 0)).set 11 (.int 0)).set 11 (.int 0)).set 11 (.int 0)).set 11 (.int 0)).set 11 (.int 0)))), (h1, .inr (2, f1))] := hD
  refine lv_iinc (v := 5) (lv' := [(2, .int 5), (4, .int 0), (3, .int 0), (0, .ref h0), (1, .int 0)]) hx hb dX6_gather_144 hl (k := 0) rfl (by decide) (by decide) rfl (fun ls hl => ?_)
  refine lv_goto (tgt := 105) hx hb dX6_gather_147 (by decide) ?_
  refine lv_iload_n hx hb dX6_gather_105 rfl (lv_at hl 0 rfl) ?_
  refine lv_if_lt (tgt := 150) hx hb dX6_gather_106 (by decide) (fun c9 => absurd c9 (by decide)) (fun _ => ?_)
  refine lv_aload_n hx hb dX6_gather_109 rfl (lv_at hl 3 rfl) ?_
  refine lv_dup hx hb dX6_gather_110 rfl ?_
  refine va_get (D := D) (ref := "IntegerHouse$Places") (ci := 6) (v := .int 0) (C := RX6) (T := TX6) (N := 14) hx hb hts hin6 hown hK hP 0 rfl rfl 11 (by decide) (hts (.fieldLink RX6 90 "IntegerHouse$Places" "needed" "I") (List.mem_cons_of_mem _ (List.mem_append_left _ (List.mem_append_left _ (List.mem_append_left _ (List.mem_of_getElem? (i := 1) rfl)))))) (fun _ h9 => h9) (k_set (k_set (k_set (k_set (k_set (k_set (k_set (k_set (k_set (k_set (k_set (k_set (k_set (k_set (k_set (k_set (k_set (k_set (k_set (k_ne (by decide) (k_set (k_ne (by decide) e1)))))))))))))))))))))) dX6_gather_111 ?_
  refine lv_aload_n hx hb dX6_gather_114 rfl (lv_at hl 3 rfl) ?_
  refine va_get (D := D) (ref := "IntegerHouse$Places") (ci := 6) (v := .int 0) (C := RX6) (T := TX6) (N := 14) hx hb hts hin6 hown hK hP 0 rfl rfl 11 (by decide) (hts (.fieldLink RX6 90 "IntegerHouse$Places" "needed" "I") (List.mem_cons_of_mem _ (List.mem_append_left _ (List.mem_append_left _ (List.mem_append_left _ (List.mem_of_getElem? (i := 1) rfl)))))) (fun _ h9 => h9) (k_set (k_set (k_set (k_set (k_set (k_set (k_set (k_set (k_set (k_set (k_set (k_set (k_set (k_set (k_set (k_set (k_set (k_set (k_set (k_ne (by decide) (k_set (k_ne (by decide) e1)))))))))))))))))))))) dX6_gather_115 ?_
  refine lv_iload_n hx hb dX6_gather_118 rfl (lv_at hl 0 rfl) ?_
  refine lv_iushr (v := 0) hx hb dX6_gather_119 (by decide) ?_
  refine lv_iconst (v := 1) hx hb dX6_gather_120 (by decide) ?_
  refine lv_iand hx hb dX6_gather_121 ?_
  refine k_topi (y := 0) (by decide) ?_
  refine lv_iconst (v := 1) hx hb dX6_gather_122 (by decide) ?_
  refine lv_icmp_ne (tgt := 139) hx hb dX6_gather_123 (by decide) (fun _ => ?_) (fun c9 => absurd c9 (by decide))
  refine lv_iconst (v := 0) hx hb dX6_gather_139 (by decide) ?_
  refine lv_ior hx hb dX6_gather_140 ?_
  refine k_topi (y := 0) (by decide) ?_
  refine va_put (D := D) (ref := "IntegerHouse$Places") (ci := 6) (v := .int 0) (ty := .int) (C := RX6) (T := TX6) (N := 14) hx hb hts hin6 tyX6 tyX6_ok nmX6 hown hK hP hD hS 0 rfl rfl 11 (by decide) (hts (.fieldLink RX6 90 "IntegerHouse$Places" "needed" "I") (List.mem_cons_of_mem _ (List.mem_append_left _ (List.mem_append_left _ (List.mem_append_left _ (List.mem_of_getElem? (i := 1) rfl)))))) (fun _ h9 => h9) rfl (by decide +kernel) rfl rfl (k_len (k_set (k_set (k_set (k_set (k_set (k_set (k_set (k_set (k_set (k_set (k_set (k_set (k_set (k_set (k_set (k_set (k_set (k_set (k_set (k_ne (by decide) (k_set (k_ne (by decide) e1))))))))))))))))))))))) dX6_gather_141 (fun H locs hP hD hS => ?_)
  have hP : va_P D vwCl [(h0, .inr (6, (((((((((((((((((((((((f0.set 10 (.int 0)).set 11 (.int 0)).set 12 (.int 1)).set 11 (.int 0)).set 11 (.int 0)).set 11 (.int 0)).set 11 (.int 0)).set 11 (.int 0)).set 11 (.int 0)).set 11 (.int 0)).set 11 (.int 0)).set 11 (.int 0)).set 11 (.int 0)).set 11 (.int 0)).set 11 (.int 0)).set 11 (.int 0)).set 11 (.int 0)).set 11 (.int 0)).set 11 (.int 0)).set 11 (.int 0)).set 11 (.int 0)).set 11 (.int 0)).set 11 (.int 0)))), (h1, .inr (2, f1))] H := hP
  have hD : va_D A [(h0, .inr (6, (((((((((((((((((((((((f0.set 10 (.int 0)).set 11 (.int 0)).set 12 (.int 1)).set 11 (.int 0)).set 11 (.int 0)).set 11 (.int 0)).set 11 (.int 0)).set 11 (.int 0)).set 11 (.int 0)).set 11 (.int 0)).set 11 (.int 0)).set 11 (.int 0)).set 11 (.int 0)).set 11 (.int 0)).set 11 (.int 0)).set 11 (.int 0)).set 11 (.int 0)).set 11 (.int 0)).set 11 (.int 0)).set 11 (.int 0)).set 11 (.int 0)).set 11 (.int 0)).set 11 (.int 0)))), (h1, .inr (2, f1))] := hD
  refine lv_iinc (v := 4) (lv' := [(2, .int 4), (4, .int 0), (3, .int 0), (0, .ref h0), (1, .int 0)]) hx hb dX6_gather_144 hl (k := 0) rfl (by decide) (by decide) rfl (fun ls hl => ?_)
  refine lv_goto (tgt := 105) hx hb dX6_gather_147 (by decide) ?_
  refine lv_iload_n hx hb dX6_gather_105 rfl (lv_at hl 0 rfl) ?_
  refine lv_if_lt (tgt := 150) hx hb dX6_gather_106 (by decide) (fun c9 => absurd c9 (by decide)) (fun _ => ?_)
  refine lv_aload_n hx hb dX6_gather_109 rfl (lv_at hl 3 rfl) ?_
  refine lv_dup hx hb dX6_gather_110 rfl ?_
  refine va_get (D := D) (ref := "IntegerHouse$Places") (ci := 6) (v := .int 0) (C := RX6) (T := TX6) (N := 14) hx hb hts hin6 hown hK hP 0 rfl rfl 11 (by decide) (hts (.fieldLink RX6 90 "IntegerHouse$Places" "needed" "I") (List.mem_cons_of_mem _ (List.mem_append_left _ (List.mem_append_left _ (List.mem_append_left _ (List.mem_of_getElem? (i := 1) rfl)))))) (fun _ h9 => h9) (k_set (k_set (k_set (k_set (k_set (k_set (k_set (k_set (k_set (k_set (k_set (k_set (k_set (k_set (k_set (k_set (k_set (k_set (k_set (k_set (k_ne (by decide) (k_set (k_ne (by decide) e1))))))))))))))))))))))) dX6_gather_111 ?_
  refine lv_aload_n hx hb dX6_gather_114 rfl (lv_at hl 3 rfl) ?_
  refine va_get (D := D) (ref := "IntegerHouse$Places") (ci := 6) (v := .int 0) (C := RX6) (T := TX6) (N := 14) hx hb hts hin6 hown hK hP 0 rfl rfl 11 (by decide) (hts (.fieldLink RX6 90 "IntegerHouse$Places" "needed" "I") (List.mem_cons_of_mem _ (List.mem_append_left _ (List.mem_append_left _ (List.mem_append_left _ (List.mem_of_getElem? (i := 1) rfl)))))) (fun _ h9 => h9) (k_set (k_set (k_set (k_set (k_set (k_set (k_set (k_set (k_set (k_set (k_set (k_set (k_set (k_set (k_set (k_set (k_set (k_set (k_set (k_set (k_ne (by decide) (k_set (k_ne (by decide) e1))))))))))))))))))))))) dX6_gather_115 ?_
  refine lv_iload_n hx hb dX6_gather_118 rfl (lv_at hl 0 rfl) ?_
  refine lv_iushr (v := 0) hx hb dX6_gather_119 (by decide) ?_
  refine lv_iconst (v := 1) hx hb dX6_gather_120 (by decide) ?_
  refine lv_iand hx hb dX6_gather_121 ?_
  refine k_topi (y := 0) (by decide) ?_
  refine lv_iconst (v := 1) hx hb dX6_gather_122 (by decide) ?_
  refine lv_icmp_ne (tgt := 139) hx hb dX6_gather_123 (by decide) (fun _ => ?_) (fun c9 => absurd c9 (by decide))
  refine lv_iconst (v := 0) hx hb dX6_gather_139 (by decide) ?_
  refine lv_ior hx hb dX6_gather_140 ?_
  refine k_topi (y := 0) (by decide) ?_
  refine va_put (D := D) (ref := "IntegerHouse$Places") (ci := 6) (v := .int 0) (ty := .int) (C := RX6) (T := TX6) (N := 14) hx hb hts hin6 tyX6 tyX6_ok nmX6 hown hK hP hD hS 0 rfl rfl 11 (by decide) (hts (.fieldLink RX6 90 "IntegerHouse$Places" "needed" "I") (List.mem_cons_of_mem _ (List.mem_append_left _ (List.mem_append_left _ (List.mem_append_left _ (List.mem_of_getElem? (i := 1) rfl)))))) (fun _ h9 => h9) rfl (by decide +kernel) rfl rfl (k_len (k_set (k_set (k_set (k_set (k_set (k_set (k_set (k_set (k_set (k_set (k_set (k_set (k_set (k_set (k_set (k_set (k_set (k_set (k_set (k_set (k_ne (by decide) (k_set (k_ne (by decide) e1)))))))))))))))))))))))) dX6_gather_141 (fun H locs hP hD hS => ?_)
  have hP : va_P D vwCl [(h0, .inr (6, ((((((((((((((((((((((((f0.set 10 (.int 0)).set 11 (.int 0)).set 12 (.int 1)).set 11 (.int 0)).set 11 (.int 0)).set 11 (.int 0)).set 11 (.int 0)).set 11 (.int 0)).set 11 (.int 0)).set 11 (.int 0)).set 11 (.int 0)).set 11 (.int 0)).set 11 (.int 0)).set 11 (.int 0)).set 11 (.int 0)).set 11 (.int 0)).set 11 (.int 0)).set 11 (.int 0)).set 11 (.int 0)).set 11 (.int 0)).set 11 (.int 0)).set 11 (.int 0)).set 11 (.int 0)).set 11 (.int 0)))), (h1, .inr (2, f1))] H := hP
  have hD : va_D A [(h0, .inr (6, ((((((((((((((((((((((((f0.set 10 (.int 0)).set 11 (.int 0)).set 12 (.int 1)).set 11 (.int 0)).set 11 (.int 0)).set 11 (.int 0)).set 11 (.int 0)).set 11 (.int 0)).set 11 (.int 0)).set 11 (.int 0)).set 11 (.int 0)).set 11 (.int 0)).set 11 (.int 0)).set 11 (.int 0)).set 11 (.int 0)).set 11 (.int 0)).set 11 (.int 0)).set 11 (.int 0)).set 11 (.int 0)).set 11 (.int 0)).set 11 (.int 0)).set 11 (.int 0)).set 11 (.int 0)).set 11 (.int 0)))), (h1, .inr (2, f1))] := hD
  refine lv_iinc (v := 3) (lv' := [(2, .int 3), (4, .int 0), (3, .int 0), (0, .ref h0), (1, .int 0)]) hx hb dX6_gather_144 hl (k := 0) rfl (by decide) (by decide) rfl (fun ls hl => ?_)
  refine lv_goto (tgt := 105) hx hb dX6_gather_147 (by decide) ?_
  refine lv_iload_n hx hb dX6_gather_105 rfl (lv_at hl 0 rfl) ?_
  refine lv_if_lt (tgt := 150) hx hb dX6_gather_106 (by decide) (fun c9 => absurd c9 (by decide)) (fun _ => ?_)
  refine lv_aload_n hx hb dX6_gather_109 rfl (lv_at hl 3 rfl) ?_
  refine lv_dup hx hb dX6_gather_110 rfl ?_
  refine va_get (D := D) (ref := "IntegerHouse$Places") (ci := 6) (v := .int 0) (C := RX6) (T := TX6) (N := 14) hx hb hts hin6 hown hK hP 0 rfl rfl 11 (by decide) (hts (.fieldLink RX6 90 "IntegerHouse$Places" "needed" "I") (List.mem_cons_of_mem _ (List.mem_append_left _ (List.mem_append_left _ (List.mem_append_left _ (List.mem_of_getElem? (i := 1) rfl)))))) (fun _ h9 => h9) (k_set (k_set (k_set (k_set (k_set (k_set (k_set (k_set (k_set (k_set (k_set (k_set (k_set (k_set (k_set (k_set (k_set (k_set (k_set (k_set (k_set (k_ne (by decide) (k_set (k_ne (by decide) e1)))))))))))))))))))))))) dX6_gather_111 ?_
  refine lv_aload_n hx hb dX6_gather_114 rfl (lv_at hl 3 rfl) ?_
  refine va_get (D := D) (ref := "IntegerHouse$Places") (ci := 6) (v := .int 0) (C := RX6) (T := TX6) (N := 14) hx hb hts hin6 hown hK hP 0 rfl rfl 11 (by decide) (hts (.fieldLink RX6 90 "IntegerHouse$Places" "needed" "I") (List.mem_cons_of_mem _ (List.mem_append_left _ (List.mem_append_left _ (List.mem_append_left _ (List.mem_of_getElem? (i := 1) rfl)))))) (fun _ h9 => h9) (k_set (k_set (k_set (k_set (k_set (k_set (k_set (k_set (k_set (k_set (k_set (k_set (k_set (k_set (k_set (k_set (k_set (k_set (k_set (k_set (k_set (k_ne (by decide) (k_set (k_ne (by decide) e1)))))))))))))))))))))))) dX6_gather_115 ?_
  refine lv_iload_n hx hb dX6_gather_118 rfl (lv_at hl 0 rfl) ?_
  refine lv_iushr (v := 0) hx hb dX6_gather_119 (by decide) ?_
  refine lv_iconst (v := 1) hx hb dX6_gather_120 (by decide) ?_
  refine lv_iand hx hb dX6_gather_121 ?_
  refine k_topi (y := 0) (by decide) ?_
  refine lv_iconst (v := 1) hx hb dX6_gather_122 (by decide) ?_
  refine lv_icmp_ne (tgt := 139) hx hb dX6_gather_123 (by decide) (fun _ => ?_) (fun c9 => absurd c9 (by decide))
  refine lv_iconst (v := 0) hx hb dX6_gather_139 (by decide) ?_
  refine lv_ior hx hb dX6_gather_140 ?_
  refine k_topi (y := 0) (by decide) ?_
  refine va_put (D := D) (ref := "IntegerHouse$Places") (ci := 6) (v := .int 0) (ty := .int) (C := RX6) (T := TX6) (N := 14) hx hb hts hin6 tyX6 tyX6_ok nmX6 hown hK hP hD hS 0 rfl rfl 11 (by decide) (hts (.fieldLink RX6 90 "IntegerHouse$Places" "needed" "I") (List.mem_cons_of_mem _ (List.mem_append_left _ (List.mem_append_left _ (List.mem_append_left _ (List.mem_of_getElem? (i := 1) rfl)))))) (fun _ h9 => h9) rfl (by decide +kernel) rfl rfl (k_len (k_set (k_set (k_set (k_set (k_set (k_set (k_set (k_set (k_set (k_set (k_set (k_set (k_set (k_set (k_set (k_set (k_set (k_set (k_set (k_set (k_set (k_ne (by decide) (k_set (k_ne (by decide) e1))))))))))))))))))))))))) dX6_gather_141 (fun H locs hP hD hS => ?_)
  have hP : va_P D vwCl [(h0, .inr (6, (((((((((((((((((((((((((f0.set 10 (.int 0)).set 11 (.int 0)).set 12 (.int 1)).set 11 (.int 0)).set 11 (.int 0)).set 11 (.int 0)).set 11 (.int 0)).set 11 (.int 0)).set 11 (.int 0)).set 11 (.int 0)).set 11 (.int 0)).set 11 (.int 0)).set 11 (.int 0)).set 11 (.int 0)).set 11 (.int 0)).set 11 (.int 0)).set 11 (.int 0)).set 11 (.int 0)).set 11 (.int 0)).set 11 (.int 0)).set 11 (.int 0)).set 11 (.int 0)).set 11 (.int 0)).set 11 (.int 0)).set 11 (.int 0)))), (h1, .inr (2, f1))] H := hP
  have hD : va_D A [(h0, .inr (6, (((((((((((((((((((((((((f0.set 10 (.int 0)).set 11 (.int 0)).set 12 (.int 1)).set 11 (.int 0)).set 11 (.int 0)).set 11 (.int 0)).set 11 (.int 0)).set 11 (.int 0)).set 11 (.int 0)).set 11 (.int 0)).set 11 (.int 0)).set 11 (.int 0)).set 11 (.int 0)).set 11 (.int 0)).set 11 (.int 0)).set 11 (.int 0)).set 11 (.int 0)).set 11 (.int 0)).set 11 (.int 0)).set 11 (.int 0)).set 11 (.int 0)).set 11 (.int 0)).set 11 (.int 0)).set 11 (.int 0)).set 11 (.int 0)))), (h1, .inr (2, f1))] := hD
  refine lv_iinc (v := 2) (lv' := [(2, .int 2), (4, .int 0), (3, .int 0), (0, .ref h0), (1, .int 0)]) hx hb dX6_gather_144 hl (k := 0) rfl (by decide) (by decide) rfl (fun ls hl => ?_)
  refine lv_goto (tgt := 105) hx hb dX6_gather_147 (by decide) ?_
  refine lv_iload_n hx hb dX6_gather_105 rfl (lv_at hl 0 rfl) ?_
  refine lv_if_lt (tgt := 150) hx hb dX6_gather_106 (by decide) (fun c9 => absurd c9 (by decide)) (fun _ => ?_)
  refine lv_aload_n hx hb dX6_gather_109 rfl (lv_at hl 3 rfl) ?_
  refine lv_dup hx hb dX6_gather_110 rfl ?_
  refine va_get (D := D) (ref := "IntegerHouse$Places") (ci := 6) (v := .int 0) (C := RX6) (T := TX6) (N := 14) hx hb hts hin6 hown hK hP 0 rfl rfl 11 (by decide) (hts (.fieldLink RX6 90 "IntegerHouse$Places" "needed" "I") (List.mem_cons_of_mem _ (List.mem_append_left _ (List.mem_append_left _ (List.mem_append_left _ (List.mem_of_getElem? (i := 1) rfl)))))) (fun _ h9 => h9) (k_set (k_set (k_set (k_set (k_set (k_set (k_set (k_set (k_set (k_set (k_set (k_set (k_set (k_set (k_set (k_set (k_set (k_set (k_set (k_set (k_set (k_set (k_ne (by decide) (k_set (k_ne (by decide) e1))))))))))))))))))))))))) dX6_gather_111 ?_
  refine lv_aload_n hx hb dX6_gather_114 rfl (lv_at hl 3 rfl) ?_
  refine va_get (D := D) (ref := "IntegerHouse$Places") (ci := 6) (v := .int 0) (C := RX6) (T := TX6) (N := 14) hx hb hts hin6 hown hK hP 0 rfl rfl 11 (by decide) (hts (.fieldLink RX6 90 "IntegerHouse$Places" "needed" "I") (List.mem_cons_of_mem _ (List.mem_append_left _ (List.mem_append_left _ (List.mem_append_left _ (List.mem_of_getElem? (i := 1) rfl)))))) (fun _ h9 => h9) (k_set (k_set (k_set (k_set (k_set (k_set (k_set (k_set (k_set (k_set (k_set (k_set (k_set (k_set (k_set (k_set (k_set (k_set (k_set (k_set (k_set (k_set (k_ne (by decide) (k_set (k_ne (by decide) e1))))))))))))))))))))))))) dX6_gather_115 ?_
  refine lv_iload_n hx hb dX6_gather_118 rfl (lv_at hl 0 rfl) ?_
  refine lv_iushr (v := 0) hx hb dX6_gather_119 (by decide) ?_
  refine lv_iconst (v := 1) hx hb dX6_gather_120 (by decide) ?_
  refine lv_iand hx hb dX6_gather_121 ?_
  refine k_topi (y := 0) (by decide) ?_
  refine lv_iconst (v := 1) hx hb dX6_gather_122 (by decide) ?_
  refine lv_icmp_ne (tgt := 139) hx hb dX6_gather_123 (by decide) (fun _ => ?_) (fun c9 => absurd c9 (by decide))
  refine lv_iconst (v := 0) hx hb dX6_gather_139 (by decide) ?_
  refine lv_ior hx hb dX6_gather_140 ?_
  refine k_topi (y := 0) (by decide) ?_
  refine va_put (D := D) (ref := "IntegerHouse$Places") (ci := 6) (v := .int 0) (ty := .int) (C := RX6) (T := TX6) (N := 14) hx hb hts hin6 tyX6 tyX6_ok nmX6 hown hK hP hD hS 0 rfl rfl 11 (by decide) (hts (.fieldLink RX6 90 "IntegerHouse$Places" "needed" "I") (List.mem_cons_of_mem _ (List.mem_append_left _ (List.mem_append_left _ (List.mem_append_left _ (List.mem_of_getElem? (i := 1) rfl)))))) (fun _ h9 => h9) rfl (by decide +kernel) rfl rfl (k_len (k_set (k_set (k_set (k_set (k_set (k_set (k_set (k_set (k_set (k_set (k_set (k_set (k_set (k_set (k_set (k_set (k_set (k_set (k_set (k_set (k_set (k_set (k_ne (by decide) (k_set (k_ne (by decide) e1)))))))))))))))))))))))))) dX6_gather_141 (fun H locs hP hD hS => ?_)
  have hP : va_P D vwCl [(h0, .inr (6, ((((((((((((((((((((((((((f0.set 10 (.int 0)).set 11 (.int 0)).set 12 (.int 1)).set 11 (.int 0)).set 11 (.int 0)).set 11 (.int 0)).set 11 (.int 0)).set 11 (.int 0)).set 11 (.int 0)).set 11 (.int 0)).set 11 (.int 0)).set 11 (.int 0)).set 11 (.int 0)).set 11 (.int 0)).set 11 (.int 0)).set 11 (.int 0)).set 11 (.int 0)).set 11 (.int 0)).set 11 (.int 0)).set 11 (.int 0)).set 11 (.int 0)).set 11 (.int 0)).set 11 (.int 0)).set 11 (.int 0)).set 11 (.int 0)).set 11 (.int 0)))), (h1, .inr (2, f1))] H := hP
  have hD : va_D A [(h0, .inr (6, ((((((((((((((((((((((((((f0.set 10 (.int 0)).set 11 (.int 0)).set 12 (.int 1)).set 11 (.int 0)).set 11 (.int 0)).set 11 (.int 0)).set 11 (.int 0)).set 11 (.int 0)).set 11 (.int 0)).set 11 (.int 0)).set 11 (.int 0)).set 11 (.int 0)).set 11 (.int 0)).set 11 (.int 0)).set 11 (.int 0)).set 11 (.int 0)).set 11 (.int 0)).set 11 (.int 0)).set 11 (.int 0)).set 11 (.int 0)).set 11 (.int 0)).set 11 (.int 0)).set 11 (.int 0)).set 11 (.int 0)).set 11 (.int 0)).set 11 (.int 0)))), (h1, .inr (2, f1))] := hD
  refine lv_iinc (v := 1) (lv' := [(2, .int 1), (4, .int 0), (3, .int 0), (0, .ref h0), (1, .int 0)]) hx hb dX6_gather_144 hl (k := 0) rfl (by decide) (by decide) rfl (fun ls hl => ?_)
  refine lv_goto (tgt := 105) hx hb dX6_gather_147 (by decide) ?_
  refine lv_iload_n hx hb dX6_gather_105 rfl (lv_at hl 0 rfl) ?_
  refine lv_if_lt (tgt := 150) hx hb dX6_gather_106 (by decide) (fun c9 => absurd c9 (by decide)) (fun _ => ?_)
  refine lv_aload_n hx hb dX6_gather_109 rfl (lv_at hl 3 rfl) ?_
  refine lv_dup hx hb dX6_gather_110 rfl ?_
  refine va_get (D := D) (ref := "IntegerHouse$Places") (ci := 6) (v := .int 0) (C := RX6) (T := TX6) (N := 14) hx hb hts hin6 hown hK hP 0 rfl rfl 11 (by decide) (hts (.fieldLink RX6 90 "IntegerHouse$Places" "needed" "I") (List.mem_cons_of_mem _ (List.mem_append_left _ (List.mem_append_left _ (List.mem_append_left _ (List.mem_of_getElem? (i := 1) rfl)))))) (fun _ h9 => h9) (k_set (k_set (k_set (k_set (k_set (k_set (k_set (k_set (k_set (k_set (k_set (k_set (k_set (k_set (k_set (k_set (k_set (k_set (k_set (k_set (k_set (k_set (k_set (k_ne (by decide) (k_set (k_ne (by decide) e1)))))))))))))))))))))))))) dX6_gather_111 ?_
  refine lv_aload_n hx hb dX6_gather_114 rfl (lv_at hl 3 rfl) ?_
  refine va_get (D := D) (ref := "IntegerHouse$Places") (ci := 6) (v := .int 0) (C := RX6) (T := TX6) (N := 14) hx hb hts hin6 hown hK hP 0 rfl rfl 11 (by decide) (hts (.fieldLink RX6 90 "IntegerHouse$Places" "needed" "I") (List.mem_cons_of_mem _ (List.mem_append_left _ (List.mem_append_left _ (List.mem_append_left _ (List.mem_of_getElem? (i := 1) rfl)))))) (fun _ h9 => h9) (k_set (k_set (k_set (k_set (k_set (k_set (k_set (k_set (k_set (k_set (k_set (k_set (k_set (k_set (k_set (k_set (k_set (k_set (k_set (k_set (k_set (k_set (k_set (k_ne (by decide) (k_set (k_ne (by decide) e1)))))))))))))))))))))))))) dX6_gather_115 ?_
  refine lv_iload_n hx hb dX6_gather_118 rfl (lv_at hl 0 rfl) ?_
  refine lv_iushr (v := 0) hx hb dX6_gather_119 (by decide) ?_
  refine lv_iconst (v := 1) hx hb dX6_gather_120 (by decide) ?_
  refine lv_iand hx hb dX6_gather_121 ?_
  refine k_topi (y := 0) (by decide) ?_
  refine lv_iconst (v := 1) hx hb dX6_gather_122 (by decide) ?_
  refine lv_icmp_ne (tgt := 139) hx hb dX6_gather_123 (by decide) (fun _ => ?_) (fun c9 => absurd c9 (by decide))
  refine lv_iconst (v := 0) hx hb dX6_gather_139 (by decide) ?_
  refine lv_ior hx hb dX6_gather_140 ?_
  refine k_topi (y := 0) (by decide) ?_
  refine va_put (D := D) (ref := "IntegerHouse$Places") (ci := 6) (v := .int 0) (ty := .int) (C := RX6) (T := TX6) (N := 14) hx hb hts hin6 tyX6 tyX6_ok nmX6 hown hK hP hD hS 0 rfl rfl 11 (by decide) (hts (.fieldLink RX6 90 "IntegerHouse$Places" "needed" "I") (List.mem_cons_of_mem _ (List.mem_append_left _ (List.mem_append_left _ (List.mem_append_left _ (List.mem_of_getElem? (i := 1) rfl)))))) (fun _ h9 => h9) rfl (by decide +kernel) rfl rfl (k_len (k_set (k_set (k_set (k_set (k_set (k_set (k_set (k_set (k_set (k_set (k_set (k_set (k_set (k_set (k_set (k_set (k_set (k_set (k_set (k_set (k_set (k_set (k_set (k_ne (by decide) (k_set (k_ne (by decide) e1))))))))))))))))))))))))))) dX6_gather_141 (fun H locs hP hD hS => ?_)
  have hP : va_P D vwCl [(h0, .inr (6, (((((((((((((((((((((((((((f0.set 10 (.int 0)).set 11 (.int 0)).set 12 (.int 1)).set 11 (.int 0)).set 11 (.int 0)).set 11 (.int 0)).set 11 (.int 0)).set 11 (.int 0)).set 11 (.int 0)).set 11 (.int 0)).set 11 (.int 0)).set 11 (.int 0)).set 11 (.int 0)).set 11 (.int 0)).set 11 (.int 0)).set 11 (.int 0)).set 11 (.int 0)).set 11 (.int 0)).set 11 (.int 0)).set 11 (.int 0)).set 11 (.int 0)).set 11 (.int 0)).set 11 (.int 0)).set 11 (.int 0)).set 11 (.int 0)).set 11 (.int 0)).set 11 (.int 0)))), (h1, .inr (2, f1))] H := hP
  have hD : va_D A [(h0, .inr (6, (((((((((((((((((((((((((((f0.set 10 (.int 0)).set 11 (.int 0)).set 12 (.int 1)).set 11 (.int 0)).set 11 (.int 0)).set 11 (.int 0)).set 11 (.int 0)).set 11 (.int 0)).set 11 (.int 0)).set 11 (.int 0)).set 11 (.int 0)).set 11 (.int 0)).set 11 (.int 0)).set 11 (.int 0)).set 11 (.int 0)).set 11 (.int 0)).set 11 (.int 0)).set 11 (.int 0)).set 11 (.int 0)).set 11 (.int 0)).set 11 (.int 0)).set 11 (.int 0)).set 11 (.int 0)).set 11 (.int 0)).set 11 (.int 0)).set 11 (.int 0)).set 11 (.int 0)))), (h1, .inr (2, f1))] := hD
  refine lv_iinc (v := 0) (lv' := [(2, .int 0), (4, .int 0), (3, .int 0), (0, .ref h0), (1, .int 0)]) hx hb dX6_gather_144 hl (k := 0) rfl (by decide) (by decide) rfl (fun ls hl => ?_)
  refine lv_goto (tgt := 105) hx hb dX6_gather_147 (by decide) ?_
  refine lv_iload_n hx hb dX6_gather_105 rfl (lv_at hl 0 rfl) ?_
  refine lv_if_lt (tgt := 150) hx hb dX6_gather_106 (by decide) (fun c9 => absurd c9 (by decide)) (fun _ => ?_)
  refine lv_aload_n hx hb dX6_gather_109 rfl (lv_at hl 3 rfl) ?_
  refine lv_dup hx hb dX6_gather_110 rfl ?_
  refine va_get (D := D) (ref := "IntegerHouse$Places") (ci := 6) (v := .int 0) (C := RX6) (T := TX6) (N := 14) hx hb hts hin6 hown hK hP 0 rfl rfl 11 (by decide) (hts (.fieldLink RX6 90 "IntegerHouse$Places" "needed" "I") (List.mem_cons_of_mem _ (List.mem_append_left _ (List.mem_append_left _ (List.mem_append_left _ (List.mem_of_getElem? (i := 1) rfl)))))) (fun _ h9 => h9) (k_set (k_set (k_set (k_set (k_set (k_set (k_set (k_set (k_set (k_set (k_set (k_set (k_set (k_set (k_set (k_set (k_set (k_set (k_set (k_set (k_set (k_set (k_set (k_set (k_ne (by decide) (k_set (k_ne (by decide) e1))))))))))))))))))))))))))) dX6_gather_111 ?_
  refine lv_aload_n hx hb dX6_gather_114 rfl (lv_at hl 3 rfl) ?_
  refine va_get (D := D) (ref := "IntegerHouse$Places") (ci := 6) (v := .int 0) (C := RX6) (T := TX6) (N := 14) hx hb hts hin6 hown hK hP 0 rfl rfl 11 (by decide) (hts (.fieldLink RX6 90 "IntegerHouse$Places" "needed" "I") (List.mem_cons_of_mem _ (List.mem_append_left _ (List.mem_append_left _ (List.mem_append_left _ (List.mem_of_getElem? (i := 1) rfl)))))) (fun _ h9 => h9) (k_set (k_set (k_set (k_set (k_set (k_set (k_set (k_set (k_set (k_set (k_set (k_set (k_set (k_set (k_set (k_set (k_set (k_set (k_set (k_set (k_set (k_set (k_set (k_set (k_ne (by decide) (k_set (k_ne (by decide) e1))))))))))))))))))))))))))) dX6_gather_115 ?_
  refine lv_iload_n hx hb dX6_gather_118 rfl (lv_at hl 0 rfl) ?_
  refine lv_iushr (v := 0) hx hb dX6_gather_119 (by decide) ?_
  refine lv_iconst (v := 1) hx hb dX6_gather_120 (by decide) ?_
  refine lv_iand hx hb dX6_gather_121 ?_
  refine k_topi (y := 0) (by decide) ?_
  refine lv_iconst (v := 1) hx hb dX6_gather_122 (by decide) ?_
  refine lv_icmp_ne (tgt := 139) hx hb dX6_gather_123 (by decide) (fun _ => ?_) (fun c9 => absurd c9 (by decide))
  refine lv_iconst (v := 0) hx hb dX6_gather_139 (by decide) ?_
  refine lv_ior hx hb dX6_gather_140 ?_
  refine k_topi (y := 0) (by decide) ?_
  refine va_put (D := D) (ref := "IntegerHouse$Places") (ci := 6) (v := .int 0) (ty := .int) (C := RX6) (T := TX6) (N := 14) hx hb hts hin6 tyX6 tyX6_ok nmX6 hown hK hP hD hS 0 rfl rfl 11 (by decide) (hts (.fieldLink RX6 90 "IntegerHouse$Places" "needed" "I") (List.mem_cons_of_mem _ (List.mem_append_left _ (List.mem_append_left _ (List.mem_append_left _ (List.mem_of_getElem? (i := 1) rfl)))))) (fun _ h9 => h9) rfl (by decide +kernel) rfl rfl (k_len (k_set (k_set (k_set (k_set (k_set (k_set (k_set (k_set (k_set (k_set (k_set (k_set (k_set (k_set (k_set (k_set (k_set (k_set (k_set (k_set (k_set (k_set (k_set (k_set (k_ne (by decide) (k_set (k_ne (by decide) e1)))))))))))))))))))))))))))) dX6_gather_141 (fun H locs hP hD hS => ?_)
  have hP : va_P D vwCl [(h0, .inr (6, ((((((((((((((((((((((((((((f0.set 10 (.int 0)).set 11 (.int 0)).set 12 (.int 1)).set 11 (.int 0)).set 11 (.int 0)).set 11 (.int 0)).set 11 (.int 0)).set 11 (.int 0)).set 11 (.int 0)).set 11 (.int 0)).set 11 (.int 0)).set 11 (.int 0)).set 11 (.int 0)).set 11 (.int 0)).set 11 (.int 0)).set 11 (.int 0)).set 11 (.int 0)).set 11 (.int 0)).set 11 (.int 0)).set 11 (.int 0)).set 11 (.int 0)).set 11 (.int 0)).set 11 (.int 0)).set 11 (.int 0)).set 11 (.int 0)).set 11 (.int 0)).set 11 (.int 0)).set 11 (.int 0)))), (h1, .inr (2, f1))] H := hP
  have hD : va_D A [(h0, .inr (6, ((((((((((((((((((((((((((((f0.set 10 (.int 0)).set 11 (.int 0)).set 12 (.int 1)).set 11 (.int 0)).set 11 (.int 0)).set 11 (.int 0)).set 11 (.int 0)).set 11 (.int 0)).set 11 (.int 0)).set 11 (.int 0)).set 11 (.int 0)).set 11 (.int 0)).set 11 (.int 0)).set 11 (.int 0)).set 11 (.int 0)).set 11 (.int 0)).set 11 (.int 0)).set 11 (.int 0)).set 11 (.int 0)).set 11 (.int 0)).set 11 (.int 0)).set 11 (.int 0)).set 11 (.int 0)).set 11 (.int 0)).set 11 (.int 0)).set 11 (.int 0)).set 11 (.int 0)).set 11 (.int 0)))), (h1, .inr (2, f1))] := hD
  refine lv_iinc (v := (-1)) (lv' := [(2, .int (-1)), (4, .int 0), (3, .int 0), (0, .ref h0), (1, .int 0)]) hx hb dX6_gather_144 hl (k := 0) rfl (by decide) (by decide) rfl (fun ls hl => ?_)
  refine lv_goto (tgt := 105) hx hb dX6_gather_147 (by decide) ?_
  refine lv_iload_n hx hb dX6_gather_105 rfl (lv_at hl 0 rfl) ?_
  refine lv_if_lt (tgt := 150) hx hb dX6_gather_106 (by decide) (fun _ => ?_) (fun c9 => absurd (by decide) c9)
  refine lv_iconst (v := 1) hx hb dX6_gather_150 (by decide) ?_
  exact W.zret (v := 1) hx hb hr rfl (fun t ht hW => ⟨⟨1, (), rfl, rfl, kB_mk ht hW hP hK hD⟩, hS.F ht⟩) hS.2.2 dX6_gather_151
set_option maxHeartbeats 400000000 in
set_option maxRecDepth 100000 in
theorem c_J7_fill_53178_0 (l : Launch) (E : kE) (D : va_G) (cI cJ cB cZ : ClassId) (h0 : Nat) (g0 : Nat → Int32)  : kV l E D (kT cI cJ cB cZ) yJ7_fill_53178 wsJ7_fill_53178 ({ frames := 0, cells := 0, slots := 0, locals := 0 }) [.ref h0, .int 0] [(h0, .inl (cI, 8192, .inl g0))] (fun _ : Unit => [(h0, .inl (cI, 8192, .inl (k_fill 0 8192 g0)))]) 0 0 := by
  intro sz
  refine Met.ofW (cc := cJ7_fill_53178) (maxL := 4) (ret := none) (by decide) rfl ?_
  intro p e s m args below meth c s₁ B hml hv
  obtain ⟨rfl, hsz, hP, hK, hD0, hN, hX⟩ := hv
  have hx := B.exec
  have hb := B.bytes
  have hr := B.returns
  have hts := atoms_spec (ws := wsJ7_fill_53178) B.pre
  have hown : s.vm.findClass RJ7 = some m.cls := findClass_of_methodNamed B.named
  have hlocks := B.notSynchronized
  subst hsz
  have hD := hD0.self (sz := s.heap.size)
  have hAE := k_AE hD0 hX
  generalize hAe : va_A [(h0, .inl (cI, 8192, .inl g0))] s.heap.size = A at hD hAE ⊢
  have hA : ∀ q : Nat, s.heap.size ≤ q → A q := fun q h => by rw [← hAe]; exact Or.inr h
  have hS : va_S A s.heap s.heap [] := va_S.rf
  have hP : va_P D vwCl [(h0, .inl (cI, 8192, .inl g0))] s.heap := hP
  have hl := lv_entry ([.ref h0, .int 0] : List Value) (n := 4) (Nat.le_of_ble_eq_true rfl)
  rw [lg_entry_eq]
  generalize (lg_sl ([.ref h0, .int 0]) ++ List.replicate (4 - (lg_sl ([.ref h0, .int 0])).length) Slot.unset).toArray = ls at hl ⊢
  have hl : lv_has ls 4 [(0, .ref h0), (1, .int 0)] := hl
  refine lv_iconst (v := 0) hx hb dJ7_fill_53178_0 (by decide) ?_
  refine lv_istore_n (lv' := [(2, .int 0), (0, .ref h0), (1, .int 0)]) hx hb dJ7_fill_53178_1 rfl hl (by decide) rfl (fun ls hl => ?_)
  refine lv_aload_n hx hb dJ7_fill_53178_2 rfl (lv_at hl 1 rfl) ?_
  refine va_alen (v := 8192) hx hb hK hP 0 0 rfl rfl (by decide) dJ7_fill_53178_3 ?_
  refine lv_istore_n (lv' := [(3, .int 8192), (2, .int 0), (0, .ref h0), (1, .int 0)]) hx hb dJ7_fill_53178_4 rfl hl (by decide) rfl (fun ls hl => ?_)
  refine k_loopW (P := fun i H locs ls => va_P D vwCl [(h0, .inl (cI, 8192, .inl (k_fill 0 i g0)))] H ∧ va_D A [(h0, .inl (cI, 8192, .inl (k_fill 0 i g0)))] ∧ va_S A s.heap H locs ∧ lv_has ls 4 [(3, .int 8192), (2, .int (nI i)), (0, .ref h0), (1, .int 0)]) 8192 (fun i H locs ls hi hh kk => ?_) (fun H locs ls hh => ?_) (Nat.zero_le 8192) ⟨by rw [k_fill_0]; exact hP, by rw [k_fill_0]; exact hD, hS, hl⟩
  · obtain ⟨hP, hD, hS, hl⟩ := hh
    refine lv_iload_n hx hb dJ7_fill_53178_5 rfl (lv_at hl 1 rfl) ?_
    refine lv_iload_n hx hb dJ7_fill_53178_6 rfl (lv_at hl 0 rfl) ?_
    refine lv_icmp_ge (tgt := 20) hx hb dJ7_fill_53178_7 (by decide) (fun c9 => absurd c9 (nI_ge hi (by decide))) (fun _ => ?_)
    refine lv_aload_n hx hb dJ7_fill_53178_10 rfl (lv_at hl 2 rfl) ?_
    refine lv_iload_n hx hb dJ7_fill_53178_11 rfl (lv_at hl 1 rfl) ?_
    refine lv_iload_n hx hb dJ7_fill_53178_12 rfl (lv_at hl 3 rfl) ?_
    refine va_iast hx hb hK hP hD hS 0 0 rfl rfl (vp_in_nI hi (by decide)) dJ7_fill_53178_13 (fun H locs hP hD hS => ?_)
    refine lv_iinc (v := nI (i + 1)) (lv' := [(2, .int (nI (i + 1))), (3, .int 8192), (0, .ref h0), (1, .int 0)]) hx hb dJ7_fill_53178_14 hl (k := 1) rfl (nI_succ i).symm (by decide) rfl (fun ls hl => ?_)
    refine lv_goto (tgt := 5) hx hb dJ7_fill_53178_17 (by decide) ?_
    rw [nI_clamp (by omega), k_fill_1] at hP hD
    exact kk _ _ _ ⟨hP, hD, hS, lv_sub hl [1, 0, 2, 3] rfl⟩
  obtain ⟨hP, hD, hS, hl⟩ := hh
  have hP : va_P D vwCl [(h0, .inl (cI, 8192, .inl (k_fill 0 8192 g0)))] H := hP
  have hD : va_D A [(h0, .inl (cI, 8192, .inl (k_fill 0 8192 g0)))] := hD
  have hl : lv_has ls 4 [(3, .int 8192), (2, .int 8192), (0, .ref h0), (1, .int 0)] := hl
  refine lv_iload_n hx hb dJ7_fill_53178_5 rfl (lv_at hl 1 rfl) ?_
  refine lv_iload_n hx hb dJ7_fill_53178_6 rfl (lv_at hl 0 rfl) ?_
  refine lv_icmp_ge (tgt := 20) hx hb dJ7_fill_53178_7 (by decide) (fun _ => ?_) (fun c9 => absurd (by decide) c9)
  exact W.vret hx hb hr (fun t ht hW => ⟨⟨(), rfl, trivial, kB_mk ht hW hP hK hD⟩, hS.F ht⟩) hS.2.2 dJ7_fill_53178_20
set_option maxHeartbeats 400000000 in
set_option maxRecDepth 100000 in
theorem c_X6_addPlace_0 (l : Launch) (E : kE) (D : va_G) (cI cJ cB cZ : ClassId) (h0 : Nat) (f0 : List Value) (h1 : Nat) (g0 : Nat → Int32) (e0 : f0[13]? = some (.int 0)) (e1 : f0[10]? = some (.int 0)) (e2 : f0[9]? = some (.ref h1)) : kI l E D (kT cI cJ cB cZ) yX6_addPlace wsX6_addPlace ({ frames := 0, cells := 0, slots := 0, locals := 0 }) [.ref h0, .int 782] [(h0, .inr (6, f0)), (h1, .inl (cI, 8192, .inl g0))] (0) [(h0, .inr (6, (f0.set 13 (.int 1)))), (h1, .inl (cI, 8192, .inl (upd g0 782 1)))] 0 0 := by
  intro sz
  refine Met.ofW (cc := cX6_addPlace) (maxL := 4) (ret := (some .int)) (by decide) rfl ?_
  intro p e s m args below meth c s₁ B hml hv
  obtain ⟨rfl, hsz, hP, hK, hD0, hN, hX⟩ := hv
  have hx := B.exec
  have hb := B.bytes
  have hr := B.returns
  have hts := atoms_spec (ws := wsX6_addPlace) B.pre
  have hown : s.vm.findClass RX6 = some m.cls := findClass_of_methodNamed B.named
  have hlocks := B.notSynchronized
  have hin6 : ∀ w ∈ wsX60, w ∈ wsX6_addPlace := (fun w h => (List.mem_cons_of_mem _ (List.mem_append_right _ h)))
  subst hsz
  have hD := hD0.self (sz := s.heap.size)
  have hAE := k_AE hD0 hX
  generalize hAe : va_A [(h0, .inr (6, f0)), (h1, .inl (cI, 8192, .inl g0))] s.heap.size = A at hD hAE ⊢
  have hA : ∀ q : Nat, s.heap.size ≤ q → A q := fun q h => by rw [← hAe]; exact Or.inr h
  have hS : va_S A s.heap s.heap [] := va_S.rf
  have hP : va_P D vwCl [(h0, .inr (6, f0)), (h1, .inl (cI, 8192, .inl g0))] s.heap := hP
  have hl := lv_entry ([.ref h0, .int 782] : List Value) (n := 4) (Nat.le_of_ble_eq_true rfl)
  rw [lg_entry_eq]
  generalize (lg_sl ([.ref h0, .int 782]) ++ List.replicate (4 - (lg_sl ([.ref h0, .int 782])).length) Slot.unset).toArray = ls at hl ⊢
  have hl : lv_has ls 4 [(0, .ref h0), (1, .int 782)] := hl
  refine lv_aload_n hx hb dX6_addPlace_0 rfl (lv_at hl 0 rfl) ?_
  refine va_get (D := D) (ref := "IntegerHouse$Places") (ci := 6) (v := .int 0) (C := RX6) (T := TX6) (N := 14) hx hb hts hin6 hown hK hP 0 rfl rfl 13 (by decide) (hts (.fieldLink RX6 52 "IntegerHouse$Places" "size" "I") (List.mem_cons_of_mem _ (List.mem_append_left _ (List.mem_of_getElem? (i := 0) rfl)))) (fun _ h9 => h9) e0 dX6_addPlace_1 ?_
  refine lv_if_lt (tgt := 17) hx hb dX6_addPlace_4 (by decide) (fun c9 => absurd c9 (by decide)) (fun _ => ?_)
  refine lv_aload_n hx hb dX6_addPlace_7 rfl (lv_at hl 0 rfl) ?_
  refine va_get (D := D) (ref := "IntegerHouse$Places") (ci := 6) (v := .int 0) (C := RX6) (T := TX6) (N := 14) hx hb hts hin6 hown hK hP 0 rfl rfl 13 (by decide) (hts (.fieldLink RX6 52 "IntegerHouse$Places" "size" "I") (List.mem_cons_of_mem _ (List.mem_append_left _ (List.mem_of_getElem? (i := 0) rfl)))) (fun _ h9 => h9) e0 dX6_addPlace_8 ?_
  refine lv_sipush (v := 3000) hx hb dX6_addPlace_11 (by decide) ?_
  refine lv_icmp_lt (tgt := 19) hx hb dX6_addPlace_14 (by decide) (fun _ => ?_) (fun c9 => absurd (by decide) c9)
  refine lv_aload_n hx hb dX6_addPlace_19 rfl (lv_at hl 0 rfl) ?_
  refine va_get (D := D) (ref := "IntegerHouse$Places") (ci := 6) (v := .int 0) (C := RX6) (T := TX6) (N := 14) hx hb hts hin6 hown hK hP 0 rfl rfl 13 (by decide) (hts (.fieldLink RX6 52 "IntegerHouse$Places" "size" "I") (List.mem_cons_of_mem _ (List.mem_append_left _ (List.mem_of_getElem? (i := 0) rfl)))) (fun _ h9 => h9) e0 dX6_addPlace_20 ?_
  refine lv_bipush (v := 32) hx hb dX6_addPlace_23 (by decide) ?_
  refine lv_imul hx hb dX6_addPlace_25 ?_
  refine k_topi (y := 0) (by decide) ?_
  refine lv_istore_n (lv' := [(2, .int 0), (0, .ref h0), (1, .int 782)]) hx hb dX6_addPlace_26 rfl hl (by decide) rfl (fun ls hl => ?_)
  refine lv_iconst (v := 0) hx hb dX6_addPlace_27 (by decide) ?_
  refine lv_istore_n (lv' := [(3, .int 0), (2, .int 0), (0, .ref h0), (1, .int 782)]) hx hb dX6_addPlace_28 rfl hl (by decide) rfl (fun ls hl => ?_)
  refine lv_iload_n hx hb dX6_addPlace_29 rfl (lv_at hl 0 rfl) ?_
  refine lv_aload_n hx hb dX6_addPlace_30 rfl (lv_at hl 2 rfl) ?_
  refine va_get (D := D) (ref := "IntegerHouse$Places") (ci := 6) (v := .int 0) (C := RX6) (T := TX6) (N := 14) hx hb hts hin6 hown hK hP 0 rfl rfl 10 (by decide) (hts (.fieldLink RX6 76 "IntegerHouse$Places" "atoms" "I") (List.mem_cons_of_mem _ (List.mem_append_left _ (List.mem_of_getElem? (i := 1) rfl)))) (fun _ h9 => h9) e1 dX6_addPlace_31 ?_
  refine lv_icmp_ge (tgt := 63) hx hb dX6_addPlace_34 (by decide) (fun _ => ?_) (fun c9 => absurd (by decide) c9)
  refine lv_aload_n hx hb dX6_addPlace_63 rfl (lv_at hl 2 rfl) ?_
  refine lv_dup hx hb dX6_addPlace_64 rfl ?_
  refine va_get (D := D) (ref := "IntegerHouse$Places") (ci := 6) (v := .int 0) (C := RX6) (T := TX6) (N := 14) hx hb hts hin6 hown hK hP 0 rfl rfl 13 (by decide) (hts (.fieldLink RX6 52 "IntegerHouse$Places" "size" "I") (List.mem_cons_of_mem _ (List.mem_append_left _ (List.mem_of_getElem? (i := 0) rfl)))) (fun _ h9 => h9) e0 dX6_addPlace_65 ?_
  refine lv_iconst (v := 1) hx hb dX6_addPlace_68 (by decide) ?_
  refine lv_iadd hx hb dX6_addPlace_69 ?_
  refine k_topi (y := 1) (by decide) ?_
  refine va_put (D := D) (ref := "IntegerHouse$Places") (ci := 6) (v := .int 1) (ty := .int) (C := RX6) (T := TX6) (N := 14) hx hb hts hin6 tyX6 tyX6_ok nmX6 hown hK hP hD hS 0 rfl rfl 13 (by decide) (hts (.fieldLink RX6 52 "IntegerHouse$Places" "size" "I") (List.mem_cons_of_mem _ (List.mem_append_left _ (List.mem_of_getElem? (i := 0) rfl)))) (fun _ h9 => h9) rfl (by decide +kernel) rfl rfl (k_len e0) dX6_addPlace_70 (fun H locs hP hD hS => ?_)
  have hP : va_P D vwCl [(h0, .inr (6, (f0.set 13 (.int 1)))), (h1, .inl (cI, 8192, .inl g0))] H := hP
  have hD : va_D A [(h0, .inr (6, (f0.set 13 (.int 1)))), (h1, .inl (cI, 8192, .inl g0))] := hD
  refine lv_aload_n hx hb dX6_addPlace_73 rfl (lv_at hl 2 rfl) ?_
  refine va_get (D := D) (ref := "IntegerHouse$Places") (ci := 6) (v := .ref h1) (C := RX6) (T := TX6) (N := 14) hx hb hts hin6 hown hK hP 0 rfl rfl 9 (by decide) (hts (.fieldLink RX6 41 "IntegerHouse$Places" "table" "[I") (List.mem_cons_of_mem _ (List.mem_append_left _ (List.mem_of_getElem? (i := 4) rfl)))) (fun _ h9 => h9) (k_ne (by decide) e2) dX6_addPlace_74 ?_
  refine lv_iload_n hx hb dX6_addPlace_77 rfl (lv_at hl 3 rfl) ?_
  refine lv_sipush (v := 8191) hx hb dX6_addPlace_78 (by decide) ?_
  refine lv_iand hx hb dX6_addPlace_81 ?_
  refine k_topi (y := 782) (by decide) ?_
  refine lv_aload_n hx hb dX6_addPlace_82 rfl (lv_at hl 2 rfl) ?_
  refine va_get (D := D) (ref := "IntegerHouse$Places") (ci := 6) (v := .int 1) (C := RX6) (T := TX6) (N := 14) hx hb hts hin6 hown hK hP 0 rfl rfl 13 (by decide) (hts (.fieldLink RX6 52 "IntegerHouse$Places" "size" "I") (List.mem_cons_of_mem _ (List.mem_append_left _ (List.mem_of_getElem? (i := 0) rfl)))) (fun _ h9 => h9) (k_set e0) dX6_addPlace_83 ?_
  refine va_iast hx hb hK hP hD hS 1 0 rfl rfl (k_in (by decide)) dX6_addPlace_86 (fun H locs hP hD hS => ?_)
  have hP : va_P D vwCl [(h0, .inr (6, (f0.set 13 (.int 1)))), (h1, .inl (cI, 8192, .inl (upd g0 782 1)))] H := hP
  have hD : va_D A [(h0, .inr (6, (f0.set 13 (.int 1)))), (h1, .inl (cI, 8192, .inl (upd g0 782 1)))] := hD
  refine lv_aload_n hx hb dX6_addPlace_87 rfl (lv_at hl 2 rfl) ?_
  refine va_get (D := D) (ref := "IntegerHouse$Places") (ci := 6) (v := .int 1) (C := RX6) (T := TX6) (N := 14) hx hb hts hin6 hown hK hP 0 rfl rfl 13 (by decide) (hts (.fieldLink RX6 52 "IntegerHouse$Places" "size" "I") (List.mem_cons_of_mem _ (List.mem_append_left _ (List.mem_of_getElem? (i := 0) rfl)))) (fun _ h9 => h9) (k_set e0) dX6_addPlace_88 ?_
  refine lv_iconst (v := 1) hx hb dX6_addPlace_91 (by decide) ?_
  refine lv_isub hx hb dX6_addPlace_92 ?_
  refine k_topi (y := 0) (by decide) ?_
  exact W.iret (v := 0) hx hb hr (fun t ht hW => ⟨⟨0, (), rfl, rfl, kB_mk ht hW hP hK hD⟩, hS.F ht⟩) hS.2.2 dX6_addPlace_93
set_option maxHeartbeats 400000000 in
set_option maxRecDepth 100000 in
theorem c_X6_locate_0 (l : Launch) (E : kE) (D : va_G) (cI cJ cB cZ : ClassId) (h0 : Nat) (f0 : List Value) (h1 : Nat) (g0 : Nat → Int32) (e0 : f0[10]? = some (.int 0)) (e1 : f0[9]? = some (.ref h1)) (e2 : g0 782 = 0) (e3 : f0[13]? = some (.int 0)) : kI l E D (kT cI cJ cB cZ) yX6_locate wsX6_locate ({ frames := 1, cells := 0, slots := 0, locals := 23 }) [.ref h0] [(h0, .inr (6, f0)), (h1, .inl (cI, 8192, .inl g0))] (0) [(h0, .inr (6, (f0.set 13 (.int 1)))), (h1, .inl (cI, 8192, .inl (upd g0 782 1)))] 0 0 := by
  intro sz
  refine Met.ofW (cc := cX6_locate) (maxL := 5) (ret := (some .int)) (by decide) rfl ?_
  intro p e s m args below meth c s₁ B hml hv
  obtain ⟨rfl, hsz, hP, hK, hD0, hN, hX⟩ := hv
  have hx := B.exec
  have hb := B.bytes
  have hr := B.returns
  have hts := atoms_spec (ws := wsX6_locate) B.pre
  have hown : s.vm.findClass RX6 = some m.cls := findClass_of_methodNamed B.named
  have hlocks := B.notSynchronized
  have hin6 : ∀ w ∈ wsX60, w ∈ wsX6_locate := (fun w h => (List.mem_cons_of_mem _ (List.mem_append_right _ h)))
  subst hsz
  have hD := hD0.self (sz := s.heap.size)
  have hAE := k_AE hD0 hX
  generalize hAe : va_A [(h0, .inr (6, f0)), (h1, .inl (cI, 8192, .inl g0))] s.heap.size = A at hD hAE ⊢
  have hA : ∀ q : Nat, s.heap.size ≤ q → A q := fun q h => by rw [← hAe]; exact Or.inr h
  have hS : va_S A s.heap s.heap [] := va_S.rf
  have hP : va_P D vwCl [(h0, .inr (6, f0)), (h1, .inl (cI, 8192, .inl g0))] s.heap := hP
  have hl := lv_entry ([.ref h0] : List Value) (n := 5) (Nat.le_of_ble_eq_true rfl)
  rw [lg_entry_eq]
  generalize (lg_sl ([.ref h0]) ++ List.replicate (5 - (lg_sl ([.ref h0])).length) Slot.unset).toArray = ls at hl ⊢
  have hl : lv_has ls 5 [(0, .ref h0)] := hl
  refine lv_bipush (v := 7) hx hb dX6_locate_0 (by decide) ?_
  refine lv_istore_n (lv' := [(1, .int 7), (0, .ref h0)]) hx hb dX6_locate_2 rfl hl (by decide) rfl (fun ls hl => ?_)
  refine lv_iconst (v := 0) hx hb dX6_locate_3 (by decide) ?_
  refine lv_istore_n (lv' := [(2, .int 0), (1, .int 7), (0, .ref h0)]) hx hb dX6_locate_4 rfl hl (by decide) rfl (fun ls hl => ?_)
  refine lv_iload_n hx hb dX6_locate_5 rfl (lv_at hl 0 rfl) ?_
  refine lv_aload_n hx hb dX6_locate_6 rfl (lv_at hl 2 rfl) ?_
  refine va_get (D := D) (ref := "IntegerHouse$Places") (ci := 6) (v := .int 0) (C := RX6) (T := TX6) (N := 14) hx hb hts hin6 hown hK hP 0 rfl rfl 10 (by decide) (hts (.fieldLink RX6 76 "IntegerHouse$Places" "atoms" "I") (List.mem_cons_of_mem _ (List.mem_append_left _ (List.mem_of_getElem? (i := 0) rfl)))) (fun _ h9 => h9) e0 dX6_locate_7 ?_
  refine lv_icmp_ge (tgt := 37) hx hb dX6_locate_10 (by decide) (fun _ => ?_) (fun c9 => absurd (by decide) c9)
  refine lv_iload_n hx hb dX6_locate_37 rfl (lv_at hl 1 rfl) ?_
  refine lv_iload_n hx hb dX6_locate_38 rfl (lv_at hl 1 rfl) ?_
  refine lv_bipush (v := 15) hx hb dX6_locate_39 (by decide) ?_
  refine lv_iushr (v := 0) hx hb dX6_locate_41 (by decide) ?_
  refine lv_ixor hx hb dX6_locate_42 ?_
  refine k_topi (y := 7) (by decide) ?_
  refine lv_ldc (own := RX6) (index := 116) (v := 739982445) hx hb hown (hts (.constant RX6 116 (739982445)) (List.mem_cons_of_mem _ (List.mem_append_left _ (List.mem_of_getElem? (i := 2) rfl)))) dX6_locate_43 ?_
  refine lv_imul hx hb dX6_locate_45 ?_
  refine k_topi (y := 884909819) (by decide) ?_
  refine lv_istore_n (lv' := [(1, .int 884909819), (2, .int 0), (0, .ref h0)]) hx hb dX6_locate_46 rfl hl (by decide) rfl (fun ls hl => ?_)
  refine lv_iload_n hx hb dX6_locate_47 rfl (lv_at hl 0 rfl) ?_
  refine lv_iload_n hx hb dX6_locate_48 rfl (lv_at hl 0 rfl) ?_
  refine lv_bipush (v := 13) hx hb dX6_locate_49 (by decide) ?_
  refine lv_iushr (v := 108021) hx hb dX6_locate_51 (by decide) ?_
  refine lv_ixor hx hb dX6_locate_52 ?_
  refine k_topi (y := 884933390) (by decide) ?_
  refine lv_sipush (v := 8191) hx hb dX6_locate_53 (by decide) ?_
  refine lv_iand hx hb dX6_locate_56 ?_
  refine k_topi (y := 782) (by decide) ?_
  refine lv_istore_n (lv' := [(2, .int 782), (1, .int 884909819), (0, .ref h0)]) hx hb dX6_locate_57 rfl hl (by decide) rfl (fun ls hl => ?_)
  refine lv_iconst (v := 0) hx hb dX6_locate_58 (by decide) ?_
  refine lv_istore_n (lv' := [(3, .int 0), (2, .int 782), (1, .int 884909819), (0, .ref h0)]) hx hb dX6_locate_59 rfl hl (by decide) rfl (fun ls hl => ?_)
  refine lv_iload_n hx hb dX6_locate_60 rfl (lv_at hl 0 rfl) ?_
  refine lv_sipush (v := 8192) hx hb dX6_locate_61 (by decide) ?_
  refine lv_icmp_ge (tgt := 114) hx hb dX6_locate_64 (by decide) (fun c9 => absurd c9 (by decide)) (fun _ => ?_)
  refine lv_aload_n hx hb dX6_locate_67 rfl (lv_at hl 3 rfl) ?_
  refine va_get (D := D) (ref := "IntegerHouse$Places") (ci := 6) (v := .ref h1) (C := RX6) (T := TX6) (N := 14) hx hb hts hin6 hown hK hP 0 rfl rfl 9 (by decide) (hts (.fieldLink RX6 41 "IntegerHouse$Places" "table" "[I") (List.mem_cons_of_mem _ (List.mem_append_left _ (List.mem_of_getElem? (i := 3) rfl)))) (fun _ h9 => h9) e1 dX6_locate_68 ?_
  refine lv_iload_n hx hb dX6_locate_71 rfl (lv_at hl 1 rfl) ?_
  refine va_iald hx hb hK hP 1 0 rfl rfl (k_in (by decide)) dX6_locate_72 ?_
  refine k_topi (y := 0) e2 ?_
  refine lv_iconst (v := 1) hx hb dX6_locate_73 (by decide) ?_
  refine lv_isub hx hb dX6_locate_74 ?_
  refine k_topi (y := (-1)) (by decide) ?_
  refine lv_istore (lv' := [(4, .int (-1)), (3, .int 0), (2, .int 782), (1, .int 884909819), (0, .ref h0)]) hx hb dX6_locate_75 hl (by decide) rfl (fun ls hl => ?_)
  refine lv_iload hx hb dX6_locate_77 (lv_at hl 0 rfl) ?_
  refine lv_if_ge (tgt := 88) hx hb dX6_locate_79 (by decide) (fun c9 => absurd c9 (by decide)) (fun _ => ?_)
  refine lv_aload_n hx hb dX6_locate_82 rfl (lv_at hl 4 rfl) ?_
  refine lv_iload_n hx hb dX6_locate_83 rfl (lv_at hl 2 rfl) ?_
  refine k_cVi (As := [.int 782]) (rest := []) (wc := [(h0, .inr (6, f0)), (h1, .inl (cI, 8192, .inl g0))]) (wr := []) (w1 := [(h0, .inr (6, (f0.set 13 (.int 1)))), (h1, .inl (cI, 8192, .inl (upd g0 782 1)))]) ⟨hx, hb, hml, hown, hts⟩ hN hX hAE hK hP hD hS hA [0, 1] [] (ci := 6) rfl rfl rfl rfl (by decide +kernel) (by decide +kernel) (by decide +kernel) (c_X6_addPlace_0 l E D cI cJ cB cZ h0 f0 h1 g0 e3 e0 e1) (cwV 1 hts gX6_locate_X6_addPlace rfl rfl rfl (by decide +kernel) ⟨Nat.le_of_ble_eq_true rfl, Nat.le_of_ble_eq_true rfl⟩) rfl hl.1 (Nat.le_of_ble_eq_true rfl) dX6_locate_84 ⟨Nat.le_of_ble_eq_true rfl, Nat.le_of_ble_eq_true rfl⟩ (fun H locs hP hD hS => ?_)
  have hP : va_P D vwCl [(h0, .inr (6, (f0.set 13 (.int 1)))), (h1, .inl (cI, 8192, .inl (upd g0 782 1)))] H := hP
  have hD : va_D A [(h0, .inr (6, (f0.set 13 (.int 1)))), (h1, .inl (cI, 8192, .inl (upd g0 782 1)))] := hD
  exact W.iret (v := 0) hx hb hr (fun t ht hW => ⟨⟨0, (), rfl, rfl, kB_mk ht hW hP hK hD⟩, hS.F ht⟩) hS.2.2 dX6_locate_87
set_option maxHeartbeats 400000000 in
set_option maxRecDepth 100000 in
theorem c_X6_halve_0 (l : Launch) (E : kE) (D : va_G) (cI cJ cB cZ : ClassId) (h0 : Nat) (f0 : List Value) (e0 : f0[10]? = some (.int 0)) : kV l E D (kT cI cJ cB cZ) yX6_halve wsX6_halve ({ frames := 0, cells := 0, slots := 0, locals := 0 }) [.ref h0, .int 0, .int 0] [(h0, .inr (6, f0))] (fun _ : Unit => [(h0, .inr (6, f0))]) 0 0 := by
  intro sz
  refine Met.ofW (cc := cX6_halve) (maxL := 7) (ret := none) (by decide) rfl ?_
  intro p e s m args below meth c s₁ B hml hv
  obtain ⟨rfl, hsz, hP, hK, hD0, hN, hX⟩ := hv
  have hx := B.exec
  have hb := B.bytes
  have hr := B.returns
  have hts := atoms_spec (ws := wsX6_halve) B.pre
  have hown : s.vm.findClass RX6 = some m.cls := findClass_of_methodNamed B.named
  have hlocks := B.notSynchronized
  have hin6 : ∀ w ∈ wsX60, w ∈ wsX6_halve := (fun w h => (List.mem_cons_of_mem _ (List.mem_append_right _ h)))
  subst hsz
  have hD := hD0.self (sz := s.heap.size)
  have hAE := k_AE hD0 hX
  generalize hAe : va_A [(h0, .inr (6, f0))] s.heap.size = A at hD hAE ⊢
  have hA : ∀ q : Nat, s.heap.size ≤ q → A q := fun q h => by rw [← hAe]; exact Or.inr h
  have hS : va_S A s.heap s.heap [] := va_S.rf
  have hP : va_P D vwCl [(h0, .inr (6, f0))] s.heap := hP
  have hl := lv_entry ([.ref h0, .int 0, .int 0] : List Value) (n := 7) (Nat.le_of_ble_eq_true rfl)
  rw [lg_entry_eq]
  generalize (lg_sl ([.ref h0, .int 0, .int 0]) ++ List.replicate (7 - (lg_sl ([.ref h0, .int 0, .int 0])).length) Slot.unset).toArray = ls at hl ⊢
  have hl : lv_has ls 7 [(0, .ref h0), (1, .int 0), (2, .int 0)] := hl
  refine lv_iload_n hx hb dX6_halve_0 rfl (lv_at hl 1 rfl) ?_
  refine lv_bipush (v := 32) hx hb dX6_halve_1 (by decide) ?_
  refine lv_imul hx hb dX6_halve_3 ?_
  refine k_topi (y := 0) (by decide) ?_
  refine lv_istore_n (lv' := [(3, .int 0), (0, .ref h0), (1, .int 0), (2, .int 0)]) hx hb dX6_halve_4 rfl hl (by decide) rfl (fun ls hl => ?_)
  refine lv_iload_n hx hb dX6_halve_5 rfl (lv_at hl 3 rfl) ?_
  refine lv_bipush (v := 32) hx hb dX6_halve_6 (by decide) ?_
  refine lv_imul hx hb dX6_halve_8 ?_
  refine k_topi (y := 0) (by decide) ?_
  refine lv_istore (lv' := [(4, .int 0), (3, .int 0), (0, .ref h0), (1, .int 0), (2, .int 0)]) hx hb dX6_halve_9 hl (by decide) rfl (fun ls hl => ?_)
  refine lv_iconst (v := 0) hx hb dX6_halve_11 (by decide) ?_
  refine lv_istore (lv' := [(5, .int 0), (4, .int 0), (3, .int 0), (0, .ref h0), (1, .int 0), (2, .int 0)]) hx hb dX6_halve_12 hl (by decide) rfl (fun ls hl => ?_)
  refine lv_iload hx hb dX6_halve_14 (lv_at hl 0 rfl) ?_
  refine lv_aload_n hx hb dX6_halve_16 rfl (lv_at hl 3 rfl) ?_
  refine va_get (D := D) (ref := "IntegerHouse$Places") (ci := 6) (v := .int 0) (C := RX6) (T := TX6) (N := 14) hx hb hts hin6 hown hK hP 0 rfl rfl 10 (by decide) (hts (.fieldLink RX6 76 "IntegerHouse$Places" "atoms" "I") (List.mem_cons_of_mem _ (List.mem_append_left _ (List.mem_of_getElem? (i := 0) rfl)))) (fun _ h9 => h9) e0 dX6_halve_17 ?_
  refine lv_icmp_ge (tgt := 97) hx hb dX6_halve_20 (by decide) (fun _ => ?_) (fun c9 => absurd (by decide) c9)
  exact W.vret hx hb hr (fun t ht hW => ⟨⟨(), rfl, trivial, kB_mk ht hW hP hK hD⟩, hS.F ht⟩) hS.2.2 dX6_halve_97
set_option maxHeartbeats 400000000 in
set_option maxRecDepth 100000 in
theorem c_X6_isFresh_0 (l : Launch) (E : kE) (D : va_G) (cI cJ cB cZ : ClassId) (h0 : Nat) (f0 : List Value) (e0 : f0[10]? = some (.int 0)) : kI l E D (kT cI cJ cB cZ) yX6_isFresh wsX6_isFresh ({ frames := 1, cells := 0, slots := 0, locals := 21 }) [.ref h0, .int 0] [(h0, .inr (6, f0))] (1) [(h0, .inr (6, f0))] 0 0 := by
  intro sz
  refine Met.ofW (cc := cX6_isFresh) (maxL := 4) (ret := (some .boolean)) (by decide) rfl ?_
  intro p e s m args below meth c s₁ B hml hv
  obtain ⟨rfl, hsz, hP, hK, hD0, hN, hX⟩ := hv
  have hx := B.exec
  have hb := B.bytes
  have hr := B.returns
  have hts := atoms_spec (ws := wsX6_isFresh) B.pre
  have hown : s.vm.findClass RX6 = some m.cls := findClass_of_methodNamed B.named
  have hlocks := B.notSynchronized
  have hin6 : ∀ w ∈ wsX60, w ∈ wsX6_isFresh := (fun w h => (List.mem_cons_of_mem _ (List.mem_append_right _ h)))
  subst hsz
  have hD := hD0.self (sz := s.heap.size)
  have hAE := k_AE hD0 hX
  generalize hAe : va_A [(h0, .inr (6, f0))] s.heap.size = A at hD hAE ⊢
  have hA : ∀ q : Nat, s.heap.size ≤ q → A q := fun q h => by rw [← hAe]; exact Or.inr h
  have hS : va_S A s.heap s.heap [] := va_S.rf
  have hP : va_P D vwCl [(h0, .inr (6, f0))] s.heap := hP
  have hl := lv_entry ([.ref h0, .int 0] : List Value) (n := 4) (Nat.le_of_ble_eq_true rfl)
  rw [lg_entry_eq]
  generalize (lg_sl ([.ref h0, .int 0]) ++ List.replicate (4 - (lg_sl ([.ref h0, .int 0])).length) Slot.unset).toArray = ls at hl ⊢
  have hl : lv_has ls 4 [(0, .ref h0), (1, .int 0)] := hl
  refine lv_iload_n hx hb dX6_isFresh_0 rfl (lv_at hl 1 rfl) ?_
  refine lv_sipush (v := 2999) hx hb dX6_isFresh_1 (by decide) ?_
  refine va_mmin hx hb (by rw [hml]; exact hl.1.symm) hown (hts (.methodLink RX6 96 Lib.Math.min.name) (List.mem_cons_of_mem _ (List.mem_append_left _ (List.mem_of_getElem? (i := 0) rfl)))) (hts (.static Lib.Math.min.name) (List.mem_cons_of_mem _ (List.mem_append_left _ (List.mem_of_getElem? (i := 1) rfl)))) (hts (.initialized "java/lang/Math") (List.mem_cons_of_mem _ (List.mem_append_left _ (List.mem_of_getElem? (i := 2) rfl)))) (hts (.code Lib.Math.min.name Lib.Math.min.code 2 (some .int)) (List.mem_cons_of_mem _ (List.mem_append_left _ (List.mem_of_getElem? (i := 3) rfl)))) (Nat.le_of_ble_eq_true rfl) (Nat.le_of_ble_eq_true rfl) (Nat.le_of_ble_eq_true rfl) (Nat.le_of_ble_eq_true rfl) dX6_isFresh_4 ?_
  refine k_topi (y := 0) (by decide) ?_
  refine lv_bipush (v := 32) hx hb dX6_isFresh_7 (by decide) ?_
  refine lv_imul hx hb dX6_isFresh_9 ?_
  refine k_topi (y := 0) (by decide) ?_
  refine lv_istore_n (lv' := [(2, .int 0), (0, .ref h0), (1, .int 0)]) hx hb dX6_isFresh_10 rfl hl (by decide) rfl (fun ls hl => ?_)
  refine lv_iconst (v := 0) hx hb dX6_isFresh_11 (by decide) ?_
  refine lv_istore_n (lv' := [(3, .int 0), (2, .int 0), (0, .ref h0), (1, .int 0)]) hx hb dX6_isFresh_12 rfl hl (by decide) rfl (fun ls hl => ?_)
  refine lv_iload_n hx hb dX6_isFresh_13 rfl (lv_at hl 0 rfl) ?_
  refine lv_aload_n hx hb dX6_isFresh_14 rfl (lv_at hl 2 rfl) ?_
  refine va_get (D := D) (ref := "IntegerHouse$Places") (ci := 6) (v := .int 0) (C := RX6) (T := TX6) (N := 14) hx hb hts hin6 hown hK hP 0 rfl rfl 10 (by decide) (hts (.fieldLink RX6 76 "IntegerHouse$Places" "atoms" "I") (List.mem_cons_of_mem _ (List.mem_append_left _ (List.mem_of_getElem? (i := 4) rfl)))) (fun _ h9 => h9) e0 dX6_isFresh_15 ?_
  refine lv_icmp_ge (tgt := 52) hx hb dX6_isFresh_18 (by decide) (fun _ => ?_) (fun c9 => absurd (by decide) c9)
  refine lv_iconst (v := 1) hx hb dX6_isFresh_52 (by decide) ?_
  exact W.zret (v := 1) hx hb hr rfl (fun t ht hW => ⟨⟨1, (), rfl, rfl, kB_mk ht hW hP hK hD⟩, hS.F ht⟩) hS.2.2 dX6_isFresh_53
set_option maxHeartbeats 400000000 in
set_option maxRecDepth 100000 in
theorem c_X6_locate_1 (l : Launch) (E : kE) (D : va_G) (cI cJ cB cZ : ClassId) (h0 : Nat) (f0 : List Value) (h1 : Nat) (g0 : Nat → Int32) (e0 : f0[10]? = some (.int 0)) (e1 : f0[9]? = some (.ref h1)) (e2 : g0 782 = 1) : kI l E D (kT cI cJ cB cZ) yX6_locate wsX6_locate ({ frames := 2, cells := 0, slots := 0, locals := 44 }) [.ref h0] [(h0, .inr (6, f0)), (h1, .inl (cI, 8192, .inl g0))] (0) [(h0, .inr (6, f0)), (h1, .inl (cI, 8192, .inl g0))] 0 0 := by
  intro sz
  refine Met.ofW (cc := cX6_locate) (maxL := 5) (ret := (some .int)) (by decide) rfl ?_
  intro p e s m args below meth c s₁ B hml hv
  obtain ⟨rfl, hsz, hP, hK, hD0, hN, hX⟩ := hv
  have hx := B.exec
  have hb := B.bytes
  have hr := B.returns
  have hts := atoms_spec (ws := wsX6_locate) B.pre
  have hown : s.vm.findClass RX6 = some m.cls := findClass_of_methodNamed B.named
  have hlocks := B.notSynchronized
  have hin6 : ∀ w ∈ wsX60, w ∈ wsX6_locate := (fun w h => (List.mem_cons_of_mem _ (List.mem_append_right _ h)))
  subst hsz
  have hD := hD0.self (sz := s.heap.size)
  have hAE := k_AE hD0 hX
  generalize hAe : va_A [(h0, .inr (6, f0)), (h1, .inl (cI, 8192, .inl g0))] s.heap.size = A at hD hAE ⊢
  have hA : ∀ q : Nat, s.heap.size ≤ q → A q := fun q h => by rw [← hAe]; exact Or.inr h
  have hS : va_S A s.heap s.heap [] := va_S.rf
  have hP : va_P D vwCl [(h0, .inr (6, f0)), (h1, .inl (cI, 8192, .inl g0))] s.heap := hP
  have hl := lv_entry ([.ref h0] : List Value) (n := 5) (Nat.le_of_ble_eq_true rfl)
  rw [lg_entry_eq]
  generalize (lg_sl ([.ref h0]) ++ List.replicate (5 - (lg_sl ([.ref h0])).length) Slot.unset).toArray = ls at hl ⊢
  have hl : lv_has ls 5 [(0, .ref h0)] := hl
  refine lv_bipush (v := 7) hx hb dX6_locate_0 (by decide) ?_
  refine lv_istore_n (lv' := [(1, .int 7), (0, .ref h0)]) hx hb dX6_locate_2 rfl hl (by decide) rfl (fun ls hl => ?_)
  refine lv_iconst (v := 0) hx hb dX6_locate_3 (by decide) ?_
  refine lv_istore_n (lv' := [(2, .int 0), (1, .int 7), (0, .ref h0)]) hx hb dX6_locate_4 rfl hl (by decide) rfl (fun ls hl => ?_)
  refine lv_iload_n hx hb dX6_locate_5 rfl (lv_at hl 0 rfl) ?_
  refine lv_aload_n hx hb dX6_locate_6 rfl (lv_at hl 2 rfl) ?_
  refine va_get (D := D) (ref := "IntegerHouse$Places") (ci := 6) (v := .int 0) (C := RX6) (T := TX6) (N := 14) hx hb hts hin6 hown hK hP 0 rfl rfl 10 (by decide) (hts (.fieldLink RX6 76 "IntegerHouse$Places" "atoms" "I") (List.mem_cons_of_mem _ (List.mem_append_left _ (List.mem_of_getElem? (i := 0) rfl)))) (fun _ h9 => h9) e0 dX6_locate_7 ?_
  refine lv_icmp_ge (tgt := 37) hx hb dX6_locate_10 (by decide) (fun _ => ?_) (fun c9 => absurd (by decide) c9)
  refine lv_iload_n hx hb dX6_locate_37 rfl (lv_at hl 1 rfl) ?_
  refine lv_iload_n hx hb dX6_locate_38 rfl (lv_at hl 1 rfl) ?_
  refine lv_bipush (v := 15) hx hb dX6_locate_39 (by decide) ?_
  refine lv_iushr (v := 0) hx hb dX6_locate_41 (by decide) ?_
  refine lv_ixor hx hb dX6_locate_42 ?_
  refine k_topi (y := 7) (by decide) ?_
  refine lv_ldc (own := RX6) (index := 116) (v := 739982445) hx hb hown (hts (.constant RX6 116 (739982445)) (List.mem_cons_of_mem _ (List.mem_append_left _ (List.mem_of_getElem? (i := 2) rfl)))) dX6_locate_43 ?_
  refine lv_imul hx hb dX6_locate_45 ?_
  refine k_topi (y := 884909819) (by decide) ?_
  refine lv_istore_n (lv' := [(1, .int 884909819), (2, .int 0), (0, .ref h0)]) hx hb dX6_locate_46 rfl hl (by decide) rfl (fun ls hl => ?_)
  refine lv_iload_n hx hb dX6_locate_47 rfl (lv_at hl 0 rfl) ?_
  refine lv_iload_n hx hb dX6_locate_48 rfl (lv_at hl 0 rfl) ?_
  refine lv_bipush (v := 13) hx hb dX6_locate_49 (by decide) ?_
  refine lv_iushr (v := 108021) hx hb dX6_locate_51 (by decide) ?_
  refine lv_ixor hx hb dX6_locate_52 ?_
  refine k_topi (y := 884933390) (by decide) ?_
  refine lv_sipush (v := 8191) hx hb dX6_locate_53 (by decide) ?_
  refine lv_iand hx hb dX6_locate_56 ?_
  refine k_topi (y := 782) (by decide) ?_
  refine lv_istore_n (lv' := [(2, .int 782), (1, .int 884909819), (0, .ref h0)]) hx hb dX6_locate_57 rfl hl (by decide) rfl (fun ls hl => ?_)
  refine lv_iconst (v := 0) hx hb dX6_locate_58 (by decide) ?_
  refine lv_istore_n (lv' := [(3, .int 0), (2, .int 782), (1, .int 884909819), (0, .ref h0)]) hx hb dX6_locate_59 rfl hl (by decide) rfl (fun ls hl => ?_)
  refine lv_iload_n hx hb dX6_locate_60 rfl (lv_at hl 0 rfl) ?_
  refine lv_sipush (v := 8192) hx hb dX6_locate_61 (by decide) ?_
  refine lv_icmp_ge (tgt := 114) hx hb dX6_locate_64 (by decide) (fun c9 => absurd c9 (by decide)) (fun _ => ?_)
  refine lv_aload_n hx hb dX6_locate_67 rfl (lv_at hl 3 rfl) ?_
  refine va_get (D := D) (ref := "IntegerHouse$Places") (ci := 6) (v := .ref h1) (C := RX6) (T := TX6) (N := 14) hx hb hts hin6 hown hK hP 0 rfl rfl 9 (by decide) (hts (.fieldLink RX6 41 "IntegerHouse$Places" "table" "[I") (List.mem_cons_of_mem _ (List.mem_append_left _ (List.mem_of_getElem? (i := 3) rfl)))) (fun _ h9 => h9) e1 dX6_locate_68 ?_
  refine lv_iload_n hx hb dX6_locate_71 rfl (lv_at hl 1 rfl) ?_
  refine va_iald hx hb hK hP 1 0 rfl rfl (k_in (by decide)) dX6_locate_72 ?_
  refine k_topi (y := 1) e2 ?_
  refine lv_iconst (v := 1) hx hb dX6_locate_73 (by decide) ?_
  refine lv_isub hx hb dX6_locate_74 ?_
  refine k_topi (y := 0) (by decide) ?_
  refine lv_istore (lv' := [(4, .int 0), (3, .int 0), (2, .int 782), (1, .int 884909819), (0, .ref h0)]) hx hb dX6_locate_75 hl (by decide) rfl (fun ls hl => ?_)
  refine lv_iload hx hb dX6_locate_77 (lv_at hl 0 rfl) ?_
  refine lv_if_ge (tgt := 88) hx hb dX6_locate_79 (by decide) (fun _ => ?_) (fun c9 => absurd (by decide) c9)
  refine lv_aload_n hx hb dX6_locate_88 rfl (lv_at hl 4 rfl) ?_
  refine lv_iload hx hb dX6_locate_89 (lv_at hl 0 rfl) ?_
  refine k_cVi (As := [.int 0]) (rest := []) (wc := [(h0, .inr (6, f0))]) (wr := [(h1, .inl (cI, 8192, .inl g0))]) (w1 := [(h0, .inr (6, f0))]) ⟨hx, hb, hml, hown, hts⟩ hN hX hAE hK hP hD hS hA [0] [1] (ci := 6) rfl rfl rfl rfl (by decide +kernel) (by decide +kernel) (by decide +kernel) (c_X6_isFresh_0 l E D cI cJ cB cZ h0 f0 e0) (cwV 1 hts gX6_locate_X6_isFresh rfl rfl rfl (by decide +kernel) ⟨Nat.le_of_ble_eq_true rfl, Nat.le_of_ble_eq_true rfl⟩) rfl hl.1 (Nat.le_of_ble_eq_true rfl) dX6_locate_91 ⟨Nat.le_of_ble_eq_true rfl, Nat.le_of_ble_eq_true rfl⟩ (fun H locs hP hD hS => ?_)
  have hP : va_P D vwCl [(h1, .inl (cI, 8192, .inl g0)), (h0, .inr (6, f0))] H := hP
  have hD : va_D A [(h1, .inl (cI, 8192, .inl g0)), (h0, .inr (6, f0))] := hD
  refine lv_if_eq (tgt := 100) hx hb dX6_locate_94 (by decide) (fun c9 => absurd c9 (by decide)) (fun _ => ?_)
  refine lv_iload hx hb dX6_locate_97 (lv_at hl 0 rfl) ?_
  have hP := hP.sub (ws' := [(h0, .inr (6, f0)), (h1, .inl (cI, 8192, .inl g0))]) [1, 0] rfl
  have hD := hD.sub (ws' := [(h0, .inr (6, f0)), (h1, .inl (cI, 8192, .inl g0))]) [1, 0] (by decide +kernel) rfl
  exact W.iret (v := 0) hx hb hr (fun t ht hW => ⟨⟨0, (), rfl, rfl, kB_mk ht hW hP hK hD⟩, hS.F ht⟩) hS.2.2 dX6_locate_99
set_option maxHeartbeats 400000000 in
set_option maxRecDepth 100000 in
theorem c_X6_explore_0 (l : Launch) (E : kE) (D : va_G) (cI cJ cB cZ : ClassId) (h0 : Nat) (f0 : List Value) (h1 : Nat) (f1 : List Value) (h2 : Nat) (g0 : Nat → Int32) (h3 : Nat) (g1 : Nat → Int32) (e0 : f0[10]? = some (.int 0)) (e1 : f0[11]? = some (.int 0)) (e2 : f0[0]? = some (.ref h1)) (e3 : f1[10]? = some (.int 0)) (e4 : f0[12]? = some (.int 0)) (e5 : f0[9]? = some (.ref h2)) (e6 : f0[13]? = some (.int 0)) (e7 : f0[7]? = some (.ref h3)) : kI l E D (kT cI cJ cB cZ) yX6_explore wsX6_explore ({ frames := 3, cells := 0, slots := 0, locals := 68 }) [.ref h0, .int 0] [(h0, .inr (6, f0)), (h1, .inr (2, f1)), (h2, .inl (cI, 8192, .inl g0)), (h3, .inl (cI, 48000, .inl g1))] (1) [(h0, .inr (6, ((((((((((((((((((((((((((((((f0.set 10 (.int 0)).set 11 (.int 0)).set 12 (.int 1)).set 11 (.int 0)).set 11 (.int 0)).set 11 (.int 0)).set 11 (.int 0)).set 11 (.int 0)).set 11 (.int 0)).set 11 (.int 0)).set 11 (.int 0)).set 11 (.int 0)).set 11 (.int 0)).set 11 (.int 0)).set 11 (.int 0)).set 11 (.int 0)).set 11 (.int 0)).set 11 (.int 0)).set 11 (.int 0)).set 11 (.int 0)).set 11 (.int 0)).set 11 (.int 0)).set 11 (.int 0)).set 11 (.int 0)).set 11 (.int 0)).set 11 (.int 0)).set 11 (.int 0)).set 11 (.int 0)).set 13 (.int 0)).set 13 (.int 1)))), (h1, .inr (2, f1)), (h2, .inl (cI, 8192, .inl (upd (k_fill 0 8192 g0) 782 1))), (h3, .inl (cI, 48000, .inl (upd g1 0 0)))] 0 0 := by
  intro sz
  refine Met.ofW (cc := cX6_explore) (maxL := 5) (ret := (some .boolean)) (by decide) rfl ?_
  intro p e s m args below meth c s₁ B hml hv
  obtain ⟨rfl, hsz, hP, hK, hD0, hN, hX⟩ := hv
  have hx := B.exec
  have hb := B.bytes
  have hr := B.returns
  have hts := atoms_spec (ws := wsX6_explore) B.pre
  have hown : s.vm.findClass RX6 = some m.cls := findClass_of_methodNamed B.named
  have hlocks := B.notSynchronized
  have hin6 : ∀ w ∈ wsX60, w ∈ wsX6_explore := (fun w h => (List.mem_cons_of_mem _ (List.mem_append_left _ (List.mem_append_right _ h))))
  subst hsz
  have hD := hD0.self (sz := s.heap.size)
  have hAE := k_AE hD0 hX
  generalize hAe : va_A [(h0, .inr (6, f0)), (h1, .inr (2, f1)), (h2, .inl (cI, 8192, .inl g0)), (h3, .inl (cI, 48000, .inl g1))] s.heap.size = A at hD hAE ⊢
  have hA : ∀ q : Nat, s.heap.size ≤ q → A q := fun q h => by rw [← hAe]; exact Or.inr h
  have hS : va_S A s.heap s.heap [] := va_S.rf
  have hP : va_P D vwCl [(h0, .inr (6, f0)), (h1, .inr (2, f1)), (h2, .inl (cI, 8192, .inl g0)), (h3, .inl (cI, 48000, .inl g1))] s.heap := hP
  have hl := lv_entry ([.ref h0, .int 0] : List Value) (n := 5) (Nat.le_of_ble_eq_true rfl)
  rw [lg_entry_eq]
  generalize (lg_sl ([.ref h0, .int 0]) ++ List.replicate (5 - (lg_sl ([.ref h0, .int 0])).length) Slot.unset).toArray = ls at hl ⊢
  have hl : lv_has ls 5 [(0, .ref h0), (1, .int 0)] := hl
  refine lv_aload_n hx hb dX6_explore_0 rfl (lv_at hl 0 rfl) ?_
  refine lv_iload_n hx hb dX6_explore_1 rfl (lv_at hl 1 rfl) ?_
  refine k_cVi (As := [.int 0]) (rest := []) (wc := [(h0, .inr (6, f0)), (h1, .inr (2, f1))]) (wr := [(h2, .inl (cI, 8192, .inl g0)), (h3, .inl (cI, 48000, .inl g1))]) (w1 := [(h0, .inr (6, ((((((((((((((((((((((((((((f0.set 10 (.int 0)).set 11 (.int 0)).set 12 (.int 1)).set 11 (.int 0)).set 11 (.int 0)).set 11 (.int 0)).set 11 (.int 0)).set 11 (.int 0)).set 11 (.int 0)).set 11 (.int 0)).set 11 (.int 0)).set 11 (.int 0)).set 11 (.int 0)).set 11 (.int 0)).set 11 (.int 0)).set 11 (.int 0)).set 11 (.int 0)).set 11 (.int 0)).set 11 (.int 0)).set 11 (.int 0)).set 11 (.int 0)).set 11 (.int 0)).set 11 (.int 0)).set 11 (.int 0)).set 11 (.int 0)).set 11 (.int 0)).set 11 (.int 0)).set 11 (.int 0)))), (h1, .inr (2, f1))]) ⟨hx, hb, hml, hown, hts⟩ hN hX hAE hK hP hD hS hA [0, 1] [2, 3] (ci := 6) rfl rfl rfl rfl (by decide +kernel) (by decide +kernel) (by decide +kernel) (c_X6_gather_0 l E D cI cJ cB cZ h0 f0 h1 f1 e0 e1 e2 e3 e4) (cwV 1 hts gX6_explore_X6_gather rfl rfl rfl (by decide +kernel) ⟨Nat.le_of_ble_eq_true rfl, Nat.le_of_ble_eq_true rfl⟩) rfl hl.1 (Nat.le_of_ble_eq_true rfl) dX6_explore_2 ⟨Nat.le_of_ble_eq_true rfl, Nat.le_of_ble_eq_true rfl⟩ (fun H locs hP hD hS => ?_)
  have hP : va_P D vwCl [(h2, .inl (cI, 8192, .inl g0)), (h3, .inl (cI, 48000, .inl g1)), (h0, .inr (6, ((((((((((((((((((((((((((((f0.set 10 (.int 0)).set 11 (.int 0)).set 12 (.int 1)).set 11 (.int 0)).set 11 (.int 0)).set 11 (.int 0)).set 11 (.int 0)).set 11 (.int 0)).set 11 (.int 0)).set 11 (.int 0)).set 11 (.int 0)).set 11 (.int 0)).set 11 (.int 0)).set 11 (.int 0)).set 11 (.int 0)).set 11 (.int 0)).set 11 (.int 0)).set 11 (.int 0)).set 11 (.int 0)).set 11 (.int 0)).set 11 (.int 0)).set 11 (.int 0)).set 11 (.int 0)).set 11 (.int 0)).set 11 (.int 0)).set 11 (.int 0)).set 11 (.int 0)).set 11 (.int 0)))), (h1, .inr (2, f1))] H := hP
  have hD : va_D A [(h2, .inl (cI, 8192, .inl g0)), (h3, .inl (cI, 48000, .inl g1)), (h0, .inr (6, ((((((((((((((((((((((((((((f0.set 10 (.int 0)).set 11 (.int 0)).set 12 (.int 1)).set 11 (.int 0)).set 11 (.int 0)).set 11 (.int 0)).set 11 (.int 0)).set 11 (.int 0)).set 11 (.int 0)).set 11 (.int 0)).set 11 (.int 0)).set 11 (.int 0)).set 11 (.int 0)).set 11 (.int 0)).set 11 (.int 0)).set 11 (.int 0)).set 11 (.int 0)).set 11 (.int 0)).set 11 (.int 0)).set 11 (.int 0)).set 11 (.int 0)).set 11 (.int 0)).set 11 (.int 0)).set 11 (.int 0)).set 11 (.int 0)).set 11 (.int 0)).set 11 (.int 0)).set 11 (.int 0)))), (h1, .inr (2, f1))] := hD
  refine lv_if_ne (tgt := 10) hx hb dX6_explore_5 (by decide) (fun _ => ?_) (fun c9 => absurd c9 (by decide))
  refine lv_aload_n hx hb dX6_explore_10 rfl (lv_at hl 0 rfl) ?_
  refine va_get (D := D) (ref := "IntegerHouse$Places") (ci := 6) (v := .ref h2) (C := RX6) (T := TX6) (N := 14) hx hb hts hin6 hown hK hP 2 rfl rfl 9 (by decide) (hts (.fieldLink RX6 41 "IntegerHouse$Places" "table" "[I") (List.mem_cons_of_mem _ (List.mem_append_left _ (List.mem_append_left _ (List.mem_append_left _ (List.mem_of_getElem? (i := 0) rfl)))))) (fun _ h9 => h9) (k_ne (by decide) (k_ne (by decide) (k_ne (by decide) (k_ne (by decide) (k_ne (by decide) (k_ne (by decide) (k_ne (by decide) (k_ne (by decide) (k_ne (by decide) (k_ne (by decide) (k_ne (by decide) (k_ne (by decide) (k_ne (by decide) (k_ne (by decide) (k_ne (by decide) (k_ne (by decide) (k_ne (by decide) (k_ne (by decide) (k_ne (by decide) (k_ne (by decide) (k_ne (by decide) (k_ne (by decide) (k_ne (by decide) (k_ne (by decide) (k_ne (by decide) (k_ne (by decide) (k_ne (by decide) (k_ne (by decide) e5)))))))))))))))))))))))))))) dX6_explore_11 ?_
  refine lv_iconst (v := 0) hx hb dX6_explore_14 (by decide) ?_
  refine k_cSv (As := [.ref h2, .int 0]) (rest := []) (wc := [(h2, .inl (cI, 8192, .inl g0))]) (wr := [(h3, .inl (cI, 48000, .inl g1)), (h0, .inr (6, ((((((((((((((((((((((((((((f0.set 10 (.int 0)).set 11 (.int 0)).set 12 (.int 1)).set 11 (.int 0)).set 11 (.int 0)).set 11 (.int 0)).set 11 (.int 0)).set 11 (.int 0)).set 11 (.int 0)).set 11 (.int 0)).set 11 (.int 0)).set 11 (.int 0)).set 11 (.int 0)).set 11 (.int 0)).set 11 (.int 0)).set 11 (.int 0)).set 11 (.int 0)).set 11 (.int 0)).set 11 (.int 0)).set 11 (.int 0)).set 11 (.int 0)).set 11 (.int 0)).set 11 (.int 0)).set 11 (.int 0)).set 11 (.int 0)).set 11 (.int 0)).set 11 (.int 0)).set 11 (.int 0)))), (h1, .inr (2, f1))]) (w1 := (fun _ : Unit => [(h2, .inl (cI, 8192, .inl (k_fill 0 8192 g0)))])) ⟨hx, hb, hml, hown, hts⟩ hN hX hAE hK hP hD hS hA [0] [1, 2, 3] rfl rfl (by decide +kernel) (by decide +kernel) (by decide +kernel) (c_J7_fill_53178_0 l E D cI cJ cB cZ h2 g0 ) (va_cwS 2 hts gX6_explore_J7_fill_53178 rfl rfl rfl (by decide +kernel) ⟨Nat.le_of_ble_eq_true rfl, Nat.le_of_ble_eq_true rfl⟩) rfl hl.1 (Nat.le_of_ble_eq_true rfl) dX6_explore_15 ⟨Nat.le_of_ble_eq_true rfl, Nat.le_of_ble_eq_true rfl⟩ (fun _ H locs hP hD hS => ?_)
  have hP : va_P D vwCl [(h3, .inl (cI, 48000, .inl g1)), (h0, .inr (6, ((((((((((((((((((((((((((((f0.set 10 (.int 0)).set 11 (.int 0)).set 12 (.int 1)).set 11 (.int 0)).set 11 (.int 0)).set 11 (.int 0)).set 11 (.int 0)).set 11 (.int 0)).set 11 (.int 0)).set 11 (.int 0)).set 11 (.int 0)).set 11 (.int 0)).set 11 (.int 0)).set 11 (.int 0)).set 11 (.int 0)).set 11 (.int 0)).set 11 (.int 0)).set 11 (.int 0)).set 11 (.int 0)).set 11 (.int 0)).set 11 (.int 0)).set 11 (.int 0)).set 11 (.int 0)).set 11 (.int 0)).set 11 (.int 0)).set 11 (.int 0)).set 11 (.int 0)).set 11 (.int 0)))), (h1, .inr (2, f1)), (h2, .inl (cI, 8192, .inl (k_fill 0 8192 g0)))] H := hP
  have hD : va_D A [(h3, .inl (cI, 48000, .inl g1)), (h0, .inr (6, ((((((((((((((((((((((((((((f0.set 10 (.int 0)).set 11 (.int 0)).set 12 (.int 1)).set 11 (.int 0)).set 11 (.int 0)).set 11 (.int 0)).set 11 (.int 0)).set 11 (.int 0)).set 11 (.int 0)).set 11 (.int 0)).set 11 (.int 0)).set 11 (.int 0)).set 11 (.int 0)).set 11 (.int 0)).set 11 (.int 0)).set 11 (.int 0)).set 11 (.int 0)).set 11 (.int 0)).set 11 (.int 0)).set 11 (.int 0)).set 11 (.int 0)).set 11 (.int 0)).set 11 (.int 0)).set 11 (.int 0)).set 11 (.int 0)).set 11 (.int 0)).set 11 (.int 0)).set 11 (.int 0)))), (h1, .inr (2, f1)), (h2, .inl (cI, 8192, .inl (k_fill 0 8192 g0)))] := hD
  refine lv_aload_n hx hb dX6_explore_18 rfl (lv_at hl 0 rfl) ?_
  refine lv_iconst (v := 0) hx hb dX6_explore_19 (by decide) ?_
  refine va_put (D := D) (ref := "IntegerHouse$Places") (ci := 6) (v := .int 0) (ty := .int) (C := RX6) (T := TX6) (N := 14) hx hb hts hin6 tyX6 tyX6_ok nmX6 hown hK hP hD hS 1 rfl rfl 13 (by decide) (hts (.fieldLink RX6 52 "IntegerHouse$Places" "size" "I") (List.mem_cons_of_mem _ (List.mem_append_left _ (List.mem_append_left _ (List.mem_append_left _ (List.mem_of_getElem? (i := 1) rfl)))))) (fun _ h9 => h9) rfl (by decide +kernel) rfl rfl (k_len (k_ne (by decide) (k_ne (by decide) (k_ne (by decide) (k_ne (by decide) (k_ne (by decide) (k_ne (by decide) (k_ne (by decide) (k_ne (by decide) (k_ne (by decide) (k_ne (by decide) (k_ne (by decide) (k_ne (by decide) (k_ne (by decide) (k_ne (by decide) (k_ne (by decide) (k_ne (by decide) (k_ne (by decide) (k_ne (by decide) (k_ne (by decide) (k_ne (by decide) (k_ne (by decide) (k_ne (by decide) (k_ne (by decide) (k_ne (by decide) (k_ne (by decide) (k_ne (by decide) (k_ne (by decide) (k_ne (by decide) e6))))))))))))))))))))))))))))) dX6_explore_20 (fun H locs hP hD hS => ?_)
  have hP : va_P D vwCl [(h3, .inl (cI, 48000, .inl g1)), (h0, .inr (6, (((((((((((((((((((((((((((((f0.set 10 (.int 0)).set 11 (.int 0)).set 12 (.int 1)).set 11 (.int 0)).set 11 (.int 0)).set 11 (.int 0)).set 11 (.int 0)).set 11 (.int 0)).set 11 (.int 0)).set 11 (.int 0)).set 11 (.int 0)).set 11 (.int 0)).set 11 (.int 0)).set 11 (.int 0)).set 11 (.int 0)).set 11 (.int 0)).set 11 (.int 0)).set 11 (.int 0)).set 11 (.int 0)).set 11 (.int 0)).set 11 (.int 0)).set 11 (.int 0)).set 11 (.int 0)).set 11 (.int 0)).set 11 (.int 0)).set 11 (.int 0)).set 11 (.int 0)).set 11 (.int 0)).set 13 (.int 0)))), (h1, .inr (2, f1)), (h2, .inl (cI, 8192, .inl (k_fill 0 8192 g0)))] H := hP
  have hD : va_D A [(h3, .inl (cI, 48000, .inl g1)), (h0, .inr (6, (((((((((((((((((((((((((((((f0.set 10 (.int 0)).set 11 (.int 0)).set 12 (.int 1)).set 11 (.int 0)).set 11 (.int 0)).set 11 (.int 0)).set 11 (.int 0)).set 11 (.int 0)).set 11 (.int 0)).set 11 (.int 0)).set 11 (.int 0)).set 11 (.int 0)).set 11 (.int 0)).set 11 (.int 0)).set 11 (.int 0)).set 11 (.int 0)).set 11 (.int 0)).set 11 (.int 0)).set 11 (.int 0)).set 11 (.int 0)).set 11 (.int 0)).set 11 (.int 0)).set 11 (.int 0)).set 11 (.int 0)).set 11 (.int 0)).set 11 (.int 0)).set 11 (.int 0)).set 11 (.int 0)).set 13 (.int 0)))), (h1, .inr (2, f1)), (h2, .inl (cI, 8192, .inl (k_fill 0 8192 g0)))] := hD
  refine lv_iconst (v := 0) hx hb dX6_explore_23 (by decide) ?_
  refine lv_istore_n (lv' := [(2, .int 0), (0, .ref h0), (1, .int 0)]) hx hb dX6_explore_24 rfl hl (by decide) rfl (fun ls hl => ?_)
  refine lv_iload_n hx hb dX6_explore_25 rfl (lv_at hl 0 rfl) ?_
  refine lv_aload_n hx hb dX6_explore_26 rfl (lv_at hl 1 rfl) ?_
  refine va_get (D := D) (ref := "IntegerHouse$Places") (ci := 6) (v := .int 0) (C := RX6) (T := TX6) (N := 14) hx hb hts hin6 hown hK hP 1 rfl rfl 10 (by decide) (hts (.fieldLink RX6 76 "IntegerHouse$Places" "atoms" "I") (List.mem_cons_of_mem _ (List.mem_append_left _ (List.mem_append_left _ (List.mem_append_left _ (List.mem_of_getElem? (i := 2) rfl)))))) (fun _ h9 => h9) (k_ne (by decide) (k_ne (by decide) (k_ne (by decide) (k_ne (by decide) (k_ne (by decide) (k_ne (by decide) (k_ne (by decide) (k_ne (by decide) (k_ne (by decide) (k_ne (by decide) (k_ne (by decide) (k_ne (by decide) (k_ne (by decide) (k_ne (by decide) (k_ne (by decide) (k_ne (by decide) (k_ne (by decide) (k_ne (by decide) (k_ne (by decide) (k_ne (by decide) (k_ne (by decide) (k_ne (by decide) (k_ne (by decide) (k_ne (by decide) (k_ne (by decide) (k_ne (by decide) (k_ne (by decide) (k_ne (by decide) (k_set e0))))))))))))))))))))))))))))) dX6_explore_27 ?_
  refine lv_icmp_ge (tgt := 102) hx hb dX6_explore_30 (by decide) (fun _ => ?_) (fun c9 => absurd (by decide) c9)
  refine lv_aload_n hx hb dX6_explore_102 rfl (lv_at hl 1 rfl) ?_
  refine k_cVi (As := []) (rest := []) (wc := [(h0, .inr (6, (((((((((((((((((((((((((((((f0.set 10 (.int 0)).set 11 (.int 0)).set 12 (.int 1)).set 11 (.int 0)).set 11 (.int 0)).set 11 (.int 0)).set 11 (.int 0)).set 11 (.int 0)).set 11 (.int 0)).set 11 (.int 0)).set 11 (.int 0)).set 11 (.int 0)).set 11 (.int 0)).set 11 (.int 0)).set 11 (.int 0)).set 11 (.int 0)).set 11 (.int 0)).set 11 (.int 0)).set 11 (.int 0)).set 11 (.int 0)).set 11 (.int 0)).set 11 (.int 0)).set 11 (.int 0)).set 11 (.int 0)).set 11 (.int 0)).set 11 (.int 0)).set 11 (.int 0)).set 11 (.int 0)).set 13 (.int 0)))), (h2, .inl (cI, 8192, .inl (k_fill 0 8192 g0)))]) (wr := [(h3, .inl (cI, 48000, .inl g1)), (h1, .inr (2, f1))]) (w1 := [(h0, .inr (6, ((((((((((((((((((((((((((((((f0.set 10 (.int 0)).set 11 (.int 0)).set 12 (.int 1)).set 11 (.int 0)).set 11 (.int 0)).set 11 (.int 0)).set 11 (.int 0)).set 11 (.int 0)).set 11 (.int 0)).set 11 (.int 0)).set 11 (.int 0)).set 11 (.int 0)).set 11 (.int 0)).set 11 (.int 0)).set 11 (.int 0)).set 11 (.int 0)).set 11 (.int 0)).set 11 (.int 0)).set 11 (.int 0)).set 11 (.int 0)).set 11 (.int 0)).set 11 (.int 0)).set 11 (.int 0)).set 11 (.int 0)).set 11 (.int 0)).set 11 (.int 0)).set 11 (.int 0)).set 11 (.int 0)).set 13 (.int 0)).set 13 (.int 1)))), (h2, .inl (cI, 8192, .inl (upd (k_fill 0 8192 g0) 782 1)))]) ⟨hx, hb, hml, hown, hts⟩ hN hX hAE hK hP hD hS hA [1, 3] [0, 2] (ci := 6) rfl rfl rfl rfl (by decide +kernel) (by decide +kernel) (by decide +kernel) (c_X6_locate_0 l E D cI cJ cB cZ h0 ((((((((((((((((((((((((((((((f0.set 10 (.int 0)).set 11 (.int 0)).set 12 (.int 1)).set 11 (.int 0)).set 11 (.int 0)).set 11 (.int 0)).set 11 (.int 0)).set 11 (.int 0)).set 11 (.int 0)).set 11 (.int 0)).set 11 (.int 0)).set 11 (.int 0)).set 11 (.int 0)).set 11 (.int 0)).set 11 (.int 0)).set 11 (.int 0)).set 11 (.int 0)).set 11 (.int 0)).set 11 (.int 0)).set 11 (.int 0)).set 11 (.int 0)).set 11 (.int 0)).set 11 (.int 0)).set 11 (.int 0)).set 11 (.int 0)).set 11 (.int 0)).set 11 (.int 0)).set 11 (.int 0)).set 13 (.int 0))) h2 ((k_fill 0 8192 g0)) (k_ne (by decide) (k_ne (by decide) (k_ne (by decide) (k_ne (by decide) (k_ne (by decide) (k_ne (by decide) (k_ne (by decide) (k_ne (by decide) (k_ne (by decide) (k_ne (by decide) (k_ne (by decide) (k_ne (by decide) (k_ne (by decide) (k_ne (by decide) (k_ne (by decide) (k_ne (by decide) (k_ne (by decide) (k_ne (by decide) (k_ne (by decide) (k_ne (by decide) (k_ne (by decide) (k_ne (by decide) (k_ne (by decide) (k_ne (by decide) (k_ne (by decide) (k_ne (by decide) (k_ne (by decide) (k_ne (by decide) (k_set e0))))))))))))))))))))))))))))) (k_ne (by decide) (k_ne (by decide) (k_ne (by decide) (k_ne (by decide) (k_ne (by decide) (k_ne (by decide) (k_ne (by decide) (k_ne (by decide) (k_ne (by decide) (k_ne (by decide) (k_ne (by decide) (k_ne (by decide) (k_ne (by decide) (k_ne (by decide) (k_ne (by decide) (k_ne (by decide) (k_ne (by decide) (k_ne (by decide) (k_ne (by decide) (k_ne (by decide) (k_ne (by decide) (k_ne (by decide) (k_ne (by decide) (k_ne (by decide) (k_ne (by decide) (k_ne (by decide) (k_ne (by decide) (k_ne (by decide) (k_ne (by decide) e5))))))))))))))))))))))))))))) (if_pos (by decide)) (k_set (k_ne (by decide) (k_ne (by decide) (k_ne (by decide) (k_ne (by decide) (k_ne (by decide) (k_ne (by decide) (k_ne (by decide) (k_ne (by decide) (k_ne (by decide) (k_ne (by decide) (k_ne (by decide) (k_ne (by decide) (k_ne (by decide) (k_ne (by decide) (k_ne (by decide) (k_ne (by decide) (k_ne (by decide) (k_ne (by decide) (k_ne (by decide) (k_ne (by decide) (k_ne (by decide) (k_ne (by decide) (k_ne (by decide) (k_ne (by decide) (k_ne (by decide) (k_ne (by decide) (k_ne (by decide) (k_ne (by decide) e6)))))))))))))))))))))))))))))) (cwV 0 hts gX6_explore_X6_locate rfl rfl rfl (by decide +kernel) ⟨Nat.le_of_ble_eq_true rfl, Nat.le_of_ble_eq_true rfl⟩) rfl hl.1 (Nat.le_of_ble_eq_true rfl) dX6_explore_103 ⟨Nat.le_of_ble_eq_true rfl, Nat.le_of_ble_eq_true rfl⟩ (fun H locs hP hD hS => ?_)
  have hP : va_P D vwCl [(h3, .inl (cI, 48000, .inl g1)), (h1, .inr (2, f1)), (h0, .inr (6, ((((((((((((((((((((((((((((((f0.set 10 (.int 0)).set 11 (.int 0)).set 12 (.int 1)).set 11 (.int 0)).set 11 (.int 0)).set 11 (.int 0)).set 11 (.int 0)).set 11 (.int 0)).set 11 (.int 0)).set 11 (.int 0)).set 11 (.int 0)).set 11 (.int 0)).set 11 (.int 0)).set 11 (.int 0)).set 11 (.int 0)).set 11 (.int 0)).set 11 (.int 0)).set 11 (.int 0)).set 11 (.int 0)).set 11 (.int 0)).set 11 (.int 0)).set 11 (.int 0)).set 11 (.int 0)).set 11 (.int 0)).set 11 (.int 0)).set 11 (.int 0)).set 11 (.int 0)).set 11 (.int 0)).set 13 (.int 0)).set 13 (.int 1)))), (h2, .inl (cI, 8192, .inl (upd (k_fill 0 8192 g0) 782 1)))] H := hP
  have hD : va_D A [(h3, .inl (cI, 48000, .inl g1)), (h1, .inr (2, f1)), (h0, .inr (6, ((((((((((((((((((((((((((((((f0.set 10 (.int 0)).set 11 (.int 0)).set 12 (.int 1)).set 11 (.int 0)).set 11 (.int 0)).set 11 (.int 0)).set 11 (.int 0)).set 11 (.int 0)).set 11 (.int 0)).set 11 (.int 0)).set 11 (.int 0)).set 11 (.int 0)).set 11 (.int 0)).set 11 (.int 0)).set 11 (.int 0)).set 11 (.int 0)).set 11 (.int 0)).set 11 (.int 0)).set 11 (.int 0)).set 11 (.int 0)).set 11 (.int 0)).set 11 (.int 0)).set 11 (.int 0)).set 11 (.int 0)).set 11 (.int 0)).set 11 (.int 0)).set 11 (.int 0)).set 11 (.int 0)).set 13 (.int 0)).set 13 (.int 1)))), (h2, .inl (cI, 8192, .inl (upd (k_fill 0 8192 g0) 782 1)))] := hD
  refine lv_pop hx hb dX6_explore_106 rfl ?_
  refine lv_iconst (v := 0) hx hb dX6_explore_107 (by decide) ?_
  refine lv_istore_n (lv' := [(2, .int 0), (0, .ref h0), (1, .int 0)]) hx hb dX6_explore_108 rfl hl (by decide) rfl (fun ls hl => ?_)
  refine lv_iload_n hx hb dX6_explore_109 rfl (lv_at hl 0 rfl) ?_
  refine lv_aload_n hx hb dX6_explore_110 rfl (lv_at hl 1 rfl) ?_
  refine va_get (D := D) (ref := "IntegerHouse$Places") (ci := 6) (v := .int 1) (C := RX6) (T := TX6) (N := 14) hx hb hts hin6 hown hK hP 2 rfl rfl 13 (by decide) (hts (.fieldLink RX6 52 "IntegerHouse$Places" "size" "I") (List.mem_cons_of_mem _ (List.mem_append_left _ (List.mem_append_left _ (List.mem_append_left _ (List.mem_of_getElem? (i := 1) rfl)))))) (fun _ h9 => h9) (k_set (k_set (k_ne (by decide) (k_ne (by decide) (k_ne (by decide) (k_ne (by decide) (k_ne (by decide) (k_ne (by decide) (k_ne (by decide) (k_ne (by decide) (k_ne (by decide) (k_ne (by decide) (k_ne (by decide) (k_ne (by decide) (k_ne (by decide) (k_ne (by decide) (k_ne (by decide) (k_ne (by decide) (k_ne (by decide) (k_ne (by decide) (k_ne (by decide) (k_ne (by decide) (k_ne (by decide) (k_ne (by decide) (k_ne (by decide) (k_ne (by decide) (k_ne (by decide) (k_ne (by decide) (k_ne (by decide) (k_ne (by decide) e6)))))))))))))))))))))))))))))) dX6_explore_111 ?_
  refine lv_icmp_ge (tgt := 185) hx hb dX6_explore_114 (by decide) (fun c9 => absurd c9 (by decide)) (fun _ => ?_)
  refine lv_iload_n hx hb dX6_explore_117 rfl (lv_at hl 0 rfl) ?_
  refine lv_sipush (v := 3000) hx hb dX6_explore_118 (by decide) ?_
  refine lv_icmp_ge (tgt := 185) hx hb dX6_explore_121 (by decide) (fun c9 => absurd c9 (by decide)) (fun _ => ?_)
  refine lv_iconst (v := 0) hx hb dX6_explore_124 (by decide) ?_
  refine lv_istore_n (lv' := [(3, .int 0), (2, .int 0), (0, .ref h0), (1, .int 0)]) hx hb dX6_explore_125 rfl hl (by decide) rfl (fun ls hl => ?_)
  refine lv_iload_n hx hb dX6_explore_126 rfl (lv_at hl 0 rfl) ?_
  refine lv_aload_n hx hb dX6_explore_127 rfl (lv_at hl 2 rfl) ?_
  refine va_get (D := D) (ref := "IntegerHouse$Places") (ci := 6) (v := .int 1) (C := RX6) (T := TX6) (N := 14) hx hb hts hin6 hown hK hP 2 rfl rfl 12 (by decide) (hts (.fieldLink RX6 56 "IntegerHouse$Places" "letters" "I") (List.mem_cons_of_mem _ (List.mem_append_left _ (List.mem_append_left _ (List.mem_append_left _ (List.mem_of_getElem? (i := 7) rfl)))))) (fun _ h9 => h9) (k_ne (by decide) (k_ne (by decide) (k_ne (by decide) (k_ne (by decide) (k_ne (by decide) (k_ne (by decide) (k_ne (by decide) (k_ne (by decide) (k_ne (by decide) (k_ne (by decide) (k_ne (by decide) (k_ne (by decide) (k_ne (by decide) (k_ne (by decide) (k_ne (by decide) (k_ne (by decide) (k_ne (by decide) (k_ne (by decide) (k_ne (by decide) (k_ne (by decide) (k_ne (by decide) (k_ne (by decide) (k_ne (by decide) (k_ne (by decide) (k_ne (by decide) (k_ne (by decide) (k_ne (by decide) (k_set (k_ne (by decide) (k_ne (by decide) e4)))))))))))))))))))))))))))))) dX6_explore_128 ?_
  refine lv_icmp_ge (tgt := 179) hx hb dX6_explore_131 (by decide) (fun c9 => absurd c9 (by decide)) (fun _ => ?_)
  refine lv_iload_n hx hb dX6_explore_134 rfl (lv_at hl 0 rfl) ?_
  refine lv_bipush (v := 16) hx hb dX6_explore_135 (by decide) ?_
  refine lv_icmp_ge (tgt := 179) hx hb dX6_explore_137 (by decide) (fun c9 => absurd c9 (by decide)) (fun _ => ?_)
  refine lv_aload_n hx hb dX6_explore_140 rfl (lv_at hl 2 rfl) ?_
  refine lv_iload_n hx hb dX6_explore_141 rfl (lv_at hl 1 rfl) ?_
  refine lv_iload_n hx hb dX6_explore_142 rfl (lv_at hl 0 rfl) ?_
  refine k_cVv (As := [.int 0, .int 0]) (rest := []) (wc := [(h0, .inr (6, ((((((((((((((((((((((((((((((f0.set 10 (.int 0)).set 11 (.int 0)).set 12 (.int 1)).set 11 (.int 0)).set 11 (.int 0)).set 11 (.int 0)).set 11 (.int 0)).set 11 (.int 0)).set 11 (.int 0)).set 11 (.int 0)).set 11 (.int 0)).set 11 (.int 0)).set 11 (.int 0)).set 11 (.int 0)).set 11 (.int 0)).set 11 (.int 0)).set 11 (.int 0)).set 11 (.int 0)).set 11 (.int 0)).set 11 (.int 0)).set 11 (.int 0)).set 11 (.int 0)).set 11 (.int 0)).set 11 (.int 0)).set 11 (.int 0)).set 11 (.int 0)).set 11 (.int 0)).set 11 (.int 0)).set 13 (.int 0)).set 13 (.int 1))))]) (wr := [(h3, .inl (cI, 48000, .inl g1)), (h1, .inr (2, f1)), (h2, .inl (cI, 8192, .inl (upd (k_fill 0 8192 g0) 782 1)))]) (w1 := (fun _ : Unit => [(h0, .inr (6, ((((((((((((((((((((((((((((((f0.set 10 (.int 0)).set 11 (.int 0)).set 12 (.int 1)).set 11 (.int 0)).set 11 (.int 0)).set 11 (.int 0)).set 11 (.int 0)).set 11 (.int 0)).set 11 (.int 0)).set 11 (.int 0)).set 11 (.int 0)).set 11 (.int 0)).set 11 (.int 0)).set 11 (.int 0)).set 11 (.int 0)).set 11 (.int 0)).set 11 (.int 0)).set 11 (.int 0)).set 11 (.int 0)).set 11 (.int 0)).set 11 (.int 0)).set 11 (.int 0)).set 11 (.int 0)).set 11 (.int 0)).set 11 (.int 0)).set 11 (.int 0)).set 11 (.int 0)).set 11 (.int 0)).set 13 (.int 0)).set 13 (.int 1))))])) ⟨hx, hb, hml, hown, hts⟩ hN hX hAE hK hP hD hS hA [2] [0, 1, 3] (ci := 6) rfl rfl rfl rfl (by decide +kernel) (by decide +kernel) (by decide +kernel) (c_X6_halve_0 l E D cI cJ cB cZ h0 (((((((((((((((((((((((((((((((f0.set 10 (.int 0)).set 11 (.int 0)).set 12 (.int 1)).set 11 (.int 0)).set 11 (.int 0)).set 11 (.int 0)).set 11 (.int 0)).set 11 (.int 0)).set 11 (.int 0)).set 11 (.int 0)).set 11 (.int 0)).set 11 (.int 0)).set 11 (.int 0)).set 11 (.int 0)).set 11 (.int 0)).set 11 (.int 0)).set 11 (.int 0)).set 11 (.int 0)).set 11 (.int 0)).set 11 (.int 0)).set 11 (.int 0)).set 11 (.int 0)).set 11 (.int 0)).set 11 (.int 0)).set 11 (.int 0)).set 11 (.int 0)).set 11 (.int 0)).set 11 (.int 0)).set 13 (.int 0)).set 13 (.int 1))) (k_ne (by decide) (k_ne (by decide) (k_ne (by decide) (k_ne (by decide) (k_ne (by decide) (k_ne (by decide) (k_ne (by decide) (k_ne (by decide) (k_ne (by decide) (k_ne (by decide) (k_ne (by decide) (k_ne (by decide) (k_ne (by decide) (k_ne (by decide) (k_ne (by decide) (k_ne (by decide) (k_ne (by decide) (k_ne (by decide) (k_ne (by decide) (k_ne (by decide) (k_ne (by decide) (k_ne (by decide) (k_ne (by decide) (k_ne (by decide) (k_ne (by decide) (k_ne (by decide) (k_ne (by decide) (k_ne (by decide) (k_ne (by decide) (k_set e0))))))))))))))))))))))))))))))) (cwV 2 hts gX6_explore_X6_halve rfl rfl rfl (by decide +kernel) ⟨Nat.le_of_ble_eq_true rfl, Nat.le_of_ble_eq_true rfl⟩) rfl hl.1 (Nat.le_of_ble_eq_true rfl) dX6_explore_143 ⟨Nat.le_of_ble_eq_true rfl, Nat.le_of_ble_eq_true rfl⟩ (fun _ H locs hP hD hS => ?_)
  have hP : va_P D vwCl [(h3, .inl (cI, 48000, .inl g1)), (h1, .inr (2, f1)), (h2, .inl (cI, 8192, .inl (upd (k_fill 0 8192 g0) 782 1))), (h0, .inr (6, ((((((((((((((((((((((((((((((f0.set 10 (.int 0)).set 11 (.int 0)).set 12 (.int 1)).set 11 (.int 0)).set 11 (.int 0)).set 11 (.int 0)).set 11 (.int 0)).set 11 (.int 0)).set 11 (.int 0)).set 11 (.int 0)).set 11 (.int 0)).set 11 (.int 0)).set 11 (.int 0)).set 11 (.int 0)).set 11 (.int 0)).set 11 (.int 0)).set 11 (.int 0)).set 11 (.int 0)).set 11 (.int 0)).set 11 (.int 0)).set 11 (.int 0)).set 11 (.int 0)).set 11 (.int 0)).set 11 (.int 0)).set 11 (.int 0)).set 11 (.int 0)).set 11 (.int 0)).set 11 (.int 0)).set 13 (.int 0)).set 13 (.int 1))))] H := hP
  have hD : va_D A [(h3, .inl (cI, 48000, .inl g1)), (h1, .inr (2, f1)), (h2, .inl (cI, 8192, .inl (upd (k_fill 0 8192 g0) 782 1))), (h0, .inr (6, ((((((((((((((((((((((((((((((f0.set 10 (.int 0)).set 11 (.int 0)).set 12 (.int 1)).set 11 (.int 0)).set 11 (.int 0)).set 11 (.int 0)).set 11 (.int 0)).set 11 (.int 0)).set 11 (.int 0)).set 11 (.int 0)).set 11 (.int 0)).set 11 (.int 0)).set 11 (.int 0)).set 11 (.int 0)).set 11 (.int 0)).set 11 (.int 0)).set 11 (.int 0)).set 11 (.int 0)).set 11 (.int 0)).set 11 (.int 0)).set 11 (.int 0)).set 11 (.int 0)).set 11 (.int 0)).set 11 (.int 0)).set 11 (.int 0)).set 11 (.int 0)).set 11 (.int 0)).set 11 (.int 0)).set 13 (.int 0)).set 13 (.int 1))))] := hD
  refine lv_aload_n hx hb dX6_explore_146 rfl (lv_at hl 2 rfl) ?_
  refine k_cVi (As := []) (rest := []) (wc := [(h0, .inr (6, ((((((((((((((((((((((((((((((f0.set 10 (.int 0)).set 11 (.int 0)).set 12 (.int 1)).set 11 (.int 0)).set 11 (.int 0)).set 11 (.int 0)).set 11 (.int 0)).set 11 (.int 0)).set 11 (.int 0)).set 11 (.int 0)).set 11 (.int 0)).set 11 (.int 0)).set 11 (.int 0)).set 11 (.int 0)).set 11 (.int 0)).set 11 (.int 0)).set 11 (.int 0)).set 11 (.int 0)).set 11 (.int 0)).set 11 (.int 0)).set 11 (.int 0)).set 11 (.int 0)).set 11 (.int 0)).set 11 (.int 0)).set 11 (.int 0)).set 11 (.int 0)).set 11 (.int 0)).set 11 (.int 0)).set 13 (.int 0)).set 13 (.int 1)))), (h2, .inl (cI, 8192, .inl (upd (k_fill 0 8192 g0) 782 1)))]) (wr := [(h3, .inl (cI, 48000, .inl g1)), (h1, .inr (2, f1))]) (w1 := [(h0, .inr (6, ((((((((((((((((((((((((((((((f0.set 10 (.int 0)).set 11 (.int 0)).set 12 (.int 1)).set 11 (.int 0)).set 11 (.int 0)).set 11 (.int 0)).set 11 (.int 0)).set 11 (.int 0)).set 11 (.int 0)).set 11 (.int 0)).set 11 (.int 0)).set 11 (.int 0)).set 11 (.int 0)).set 11 (.int 0)).set 11 (.int 0)).set 11 (.int 0)).set 11 (.int 0)).set 11 (.int 0)).set 11 (.int 0)).set 11 (.int 0)).set 11 (.int 0)).set 11 (.int 0)).set 11 (.int 0)).set 11 (.int 0)).set 11 (.int 0)).set 11 (.int 0)).set 11 (.int 0)).set 11 (.int 0)).set 13 (.int 0)).set 13 (.int 1)))), (h2, .inl (cI, 8192, .inl (upd (k_fill 0 8192 g0) 782 1)))]) ⟨hx, hb, hml, hown, hts⟩ hN hX hAE hK hP hD hS hA [3, 2] [0, 1] (ci := 6) rfl rfl rfl rfl (by decide +kernel) (by decide +kernel) (by decide +kernel) (c_X6_locate_1 l E D cI cJ cB cZ h0 (((((((((((((((((((((((((((((((f0.set 10 (.int 0)).set 11 (.int 0)).set 12 (.int 1)).set 11 (.int 0)).set 11 (.int 0)).set 11 (.int 0)).set 11 (.int 0)).set 11 (.int 0)).set 11 (.int 0)).set 11 (.int 0)).set 11 (.int 0)).set 11 (.int 0)).set 11 (.int 0)).set 11 (.int 0)).set 11 (.int 0)).set 11 (.int 0)).set 11 (.int 0)).set 11 (.int 0)).set 11 (.int 0)).set 11 (.int 0)).set 11 (.int 0)).set 11 (.int 0)).set 11 (.int 0)).set 11 (.int 0)).set 11 (.int 0)).set 11 (.int 0)).set 11 (.int 0)).set 11 (.int 0)).set 13 (.int 0)).set 13 (.int 1))) h2 ((upd (k_fill 0 8192 g0) 782 1)) (k_ne (by decide) (k_ne (by decide) (k_ne (by decide) (k_ne (by decide) (k_ne (by decide) (k_ne (by decide) (k_ne (by decide) (k_ne (by decide) (k_ne (by decide) (k_ne (by decide) (k_ne (by decide) (k_ne (by decide) (k_ne (by decide) (k_ne (by decide) (k_ne (by decide) (k_ne (by decide) (k_ne (by decide) (k_ne (by decide) (k_ne (by decide) (k_ne (by decide) (k_ne (by decide) (k_ne (by decide) (k_ne (by decide) (k_ne (by decide) (k_ne (by decide) (k_ne (by decide) (k_ne (by decide) (k_ne (by decide) (k_ne (by decide) (k_set e0)))))))))))))))))))))))))))))) (k_ne (by decide) (k_ne (by decide) (k_ne (by decide) (k_ne (by decide) (k_ne (by decide) (k_ne (by decide) (k_ne (by decide) (k_ne (by decide) (k_ne (by decide) (k_ne (by decide) (k_ne (by decide) (k_ne (by decide) (k_ne (by decide) (k_ne (by decide) (k_ne (by decide) (k_ne (by decide) (k_ne (by decide) (k_ne (by decide) (k_ne (by decide) (k_ne (by decide) (k_ne (by decide) (k_ne (by decide) (k_ne (by decide) (k_ne (by decide) (k_ne (by decide) (k_ne (by decide) (k_ne (by decide) (k_ne (by decide) (k_ne (by decide) (k_ne (by decide) e5)))))))))))))))))))))))))))))) rfl) (cwV 0 hts gX6_explore_X6_locate rfl rfl rfl (by decide +kernel) ⟨Nat.le_of_ble_eq_true rfl, Nat.le_of_ble_eq_true rfl⟩) rfl hl.1 (Nat.le_of_ble_eq_true rfl) dX6_explore_147 ⟨Nat.le_of_ble_eq_true rfl, Nat.le_of_ble_eq_true rfl⟩ (fun H locs hP hD hS => ?_)
  have hP : va_P D vwCl [(h3, .inl (cI, 48000, .inl g1)), (h1, .inr (2, f1)), (h0, .inr (6, ((((((((((((((((((((((((((((((f0.set 10 (.int 0)).set 11 (.int 0)).set 12 (.int 1)).set 11 (.int 0)).set 11 (.int 0)).set 11 (.int 0)).set 11 (.int 0)).set 11 (.int 0)).set 11 (.int 0)).set 11 (.int 0)).set 11 (.int 0)).set 11 (.int 0)).set 11 (.int 0)).set 11 (.int 0)).set 11 (.int 0)).set 11 (.int 0)).set 11 (.int 0)).set 11 (.int 0)).set 11 (.int 0)).set 11 (.int 0)).set 11 (.int 0)).set 11 (.int 0)).set 11 (.int 0)).set 11 (.int 0)).set 11 (.int 0)).set 11 (.int 0)).set 11 (.int 0)).set 11 (.int 0)).set 13 (.int 0)).set 13 (.int 1)))), (h2, .inl (cI, 8192, .inl (upd (k_fill 0 8192 g0) 782 1)))] H := hP
  have hD : va_D A [(h3, .inl (cI, 48000, .inl g1)), (h1, .inr (2, f1)), (h0, .inr (6, ((((((((((((((((((((((((((((((f0.set 10 (.int 0)).set 11 (.int 0)).set 12 (.int 1)).set 11 (.int 0)).set 11 (.int 0)).set 11 (.int 0)).set 11 (.int 0)).set 11 (.int 0)).set 11 (.int 0)).set 11 (.int 0)).set 11 (.int 0)).set 11 (.int 0)).set 11 (.int 0)).set 11 (.int 0)).set 11 (.int 0)).set 11 (.int 0)).set 11 (.int 0)).set 11 (.int 0)).set 11 (.int 0)).set 11 (.int 0)).set 11 (.int 0)).set 11 (.int 0)).set 11 (.int 0)).set 11 (.int 0)).set 11 (.int 0)).set 11 (.int 0)).set 11 (.int 0)).set 11 (.int 0)).set 13 (.int 0)).set 13 (.int 1)))), (h2, .inl (cI, 8192, .inl (upd (k_fill 0 8192 g0) 782 1)))] := hD
  refine lv_istore (lv' := [(4, .int 0), (3, .int 0), (2, .int 0), (0, .ref h0), (1, .int 0)]) hx hb dX6_explore_150 hl (by decide) rfl (fun ls hl => ?_)
  refine lv_iload hx hb dX6_explore_152 (lv_at hl 0 rfl) ?_
  refine lv_iconst (v := (-1)) hx hb dX6_explore_154 (by decide) ?_
  refine lv_icmp_ne (tgt := 160) hx hb dX6_explore_155 (by decide) (fun _ => ?_) (fun c9 => absurd c9 (by decide))
  refine lv_aload_n hx hb dX6_explore_160 rfl (lv_at hl 3 rfl) ?_
  refine va_get (D := D) (ref := "IntegerHouse$Places") (ci := 6) (v := .ref h3) (C := RX6) (T := TX6) (N := 14) hx hb hts hin6 hown hK hP 2 rfl rfl 7 (by decide) (hts (.fieldLink RX6 35 "IntegerHouse$Places" "next" "[I") (List.mem_cons_of_mem _ (List.mem_append_left _ (List.mem_append_left _ (List.mem_append_left _ (List.mem_of_getElem? (i := 8) rfl)))))) (fun _ h9 => h9) (k_ne (by decide) (k_ne (by decide) (k_ne (by decide) (k_ne (by decide) (k_ne (by decide) (k_ne (by decide) (k_ne (by decide) (k_ne (by decide) (k_ne (by decide) (k_ne (by decide) (k_ne (by decide) (k_ne (by decide) (k_ne (by decide) (k_ne (by decide) (k_ne (by decide) (k_ne (by decide) (k_ne (by decide) (k_ne (by decide) (k_ne (by decide) (k_ne (by decide) (k_ne (by decide) (k_ne (by decide) (k_ne (by decide) (k_ne (by decide) (k_ne (by decide) (k_ne (by decide) (k_ne (by decide) (k_ne (by decide) (k_ne (by decide) (k_ne (by decide) e7)))))))))))))))))))))))))))))) dX6_explore_161 ?_
  refine lv_iload_n hx hb dX6_explore_164 rfl (lv_at hl 2 rfl) ?_
  refine lv_bipush (v := 16) hx hb dX6_explore_165 (by decide) ?_
  refine lv_imul hx hb dX6_explore_167 ?_
  refine k_topi (y := 0) (by decide) ?_
  refine lv_iload_n hx hb dX6_explore_168 rfl (lv_at hl 1 rfl) ?_
  refine lv_iadd hx hb dX6_explore_169 ?_
  refine k_topi (y := 0) (by decide) ?_
  refine lv_iload hx hb dX6_explore_170 (lv_at hl 0 rfl) ?_
  refine va_iast hx hb hK hP hD hS 0 0 rfl rfl (k_in (by decide)) dX6_explore_172 (fun H locs hP hD hS => ?_)
  have hP : va_P D vwCl [(h3, .inl (cI, 48000, .inl (upd g1 0 0))), (h1, .inr (2, f1)), (h0, .inr (6, ((((((((((((((((((((((((((((((f0.set 10 (.int 0)).set 11 (.int 0)).set 12 (.int 1)).set 11 (.int 0)).set 11 (.int 0)).set 11 (.int 0)).set 11 (.int 0)).set 11 (.int 0)).set 11 (.int 0)).set 11 (.int 0)).set 11 (.int 0)).set 11 (.int 0)).set 11 (.int 0)).set 11 (.int 0)).set 11 (.int 0)).set 11 (.int 0)).set 11 (.int 0)).set 11 (.int 0)).set 11 (.int 0)).set 11 (.int 0)).set 11 (.int 0)).set 11 (.int 0)).set 11 (.int 0)).set 11 (.int 0)).set 11 (.int 0)).set 11 (.int 0)).set 11 (.int 0)).set 11 (.int 0)).set 13 (.int 0)).set 13 (.int 1)))), (h2, .inl (cI, 8192, .inl (upd (k_fill 0 8192 g0) 782 1)))] H := hP
  have hD : va_D A [(h3, .inl (cI, 48000, .inl (upd g1 0 0))), (h1, .inr (2, f1)), (h0, .inr (6, ((((((((((((((((((((((((((((((f0.set 10 (.int 0)).set 11 (.int 0)).set 12 (.int 1)).set 11 (.int 0)).set 11 (.int 0)).set 11 (.int 0)).set 11 (.int 0)).set 11 (.int 0)).set 11 (.int 0)).set 11 (.int 0)).set 11 (.int 0)).set 11 (.int 0)).set 11 (.int 0)).set 11 (.int 0)).set 11 (.int 0)).set 11 (.int 0)).set 11 (.int 0)).set 11 (.int 0)).set 11 (.int 0)).set 11 (.int 0)).set 11 (.int 0)).set 11 (.int 0)).set 11 (.int 0)).set 11 (.int 0)).set 11 (.int 0)).set 11 (.int 0)).set 11 (.int 0)).set 11 (.int 0)).set 13 (.int 0)).set 13 (.int 1)))), (h2, .inl (cI, 8192, .inl (upd (k_fill 0 8192 g0) 782 1)))] := hD
  refine lv_iinc (v := 1) (lv' := [(3, .int 1), (4, .int 0), (2, .int 0), (0, .ref h0), (1, .int 0)]) hx hb dX6_explore_173 hl (k := 1) rfl (by decide) (by decide) rfl (fun ls hl => ?_)
  refine lv_goto (tgt := 126) hx hb dX6_explore_176 (by decide) ?_
  refine lv_iload_n hx hb dX6_explore_126 rfl (lv_at hl 0 rfl) ?_
  refine lv_aload_n hx hb dX6_explore_127 rfl (lv_at hl 3 rfl) ?_
  refine va_get (D := D) (ref := "IntegerHouse$Places") (ci := 6) (v := .int 1) (C := RX6) (T := TX6) (N := 14) hx hb hts hin6 hown hK hP 2 rfl rfl 12 (by decide) (hts (.fieldLink RX6 56 "IntegerHouse$Places" "letters" "I") (List.mem_cons_of_mem _ (List.mem_append_left _ (List.mem_append_left _ (List.mem_append_left _ (List.mem_of_getElem? (i := 7) rfl)))))) (fun _ h9 => h9) (k_ne (by decide) (k_ne (by decide) (k_ne (by decide) (k_ne (by decide) (k_ne (by decide) (k_ne (by decide) (k_ne (by decide) (k_ne (by decide) (k_ne (by decide) (k_ne (by decide) (k_ne (by decide) (k_ne (by decide) (k_ne (by decide) (k_ne (by decide) (k_ne (by decide) (k_ne (by decide) (k_ne (by decide) (k_ne (by decide) (k_ne (by decide) (k_ne (by decide) (k_ne (by decide) (k_ne (by decide) (k_ne (by decide) (k_ne (by decide) (k_ne (by decide) (k_ne (by decide) (k_ne (by decide) (k_set (k_ne (by decide) (k_ne (by decide) e4)))))))))))))))))))))))))))))) dX6_explore_128 ?_
  refine lv_icmp_ge (tgt := 179) hx hb dX6_explore_131 (by decide) (fun _ => ?_) (fun c9 => absurd (by decide) c9)
  refine lv_iinc (v := 1) (lv' := [(2, .int 1), (3, .int 1), (4, .int 0), (0, .ref h0), (1, .int 0)]) hx hb dX6_explore_179 hl (k := 2) rfl (by decide) (by decide) rfl (fun ls hl => ?_)
  refine lv_goto (tgt := 109) hx hb dX6_explore_182 (by decide) ?_
  refine lv_iload_n hx hb dX6_explore_109 rfl (lv_at hl 0 rfl) ?_
  refine lv_aload_n hx hb dX6_explore_110 rfl (lv_at hl 3 rfl) ?_
  refine va_get (D := D) (ref := "IntegerHouse$Places") (ci := 6) (v := .int 1) (C := RX6) (T := TX6) (N := 14) hx hb hts hin6 hown hK hP 2 rfl rfl 13 (by decide) (hts (.fieldLink RX6 52 "IntegerHouse$Places" "size" "I") (List.mem_cons_of_mem _ (List.mem_append_left _ (List.mem_append_left _ (List.mem_append_left _ (List.mem_of_getElem? (i := 1) rfl)))))) (fun _ h9 => h9) (k_set (k_set (k_ne (by decide) (k_ne (by decide) (k_ne (by decide) (k_ne (by decide) (k_ne (by decide) (k_ne (by decide) (k_ne (by decide) (k_ne (by decide) (k_ne (by decide) (k_ne (by decide) (k_ne (by decide) (k_ne (by decide) (k_ne (by decide) (k_ne (by decide) (k_ne (by decide) (k_ne (by decide) (k_ne (by decide) (k_ne (by decide) (k_ne (by decide) (k_ne (by decide) (k_ne (by decide) (k_ne (by decide) (k_ne (by decide) (k_ne (by decide) (k_ne (by decide) (k_ne (by decide) (k_ne (by decide) (k_ne (by decide) e6)))))))))))))))))))))))))))))) dX6_explore_111 ?_
  refine lv_icmp_ge (tgt := 185) hx hb dX6_explore_114 (by decide) (fun _ => ?_) (fun c9 => absurd (by decide) c9)
  refine lv_iconst (v := 1) hx hb dX6_explore_185 (by decide) ?_
  have hP := hP.sub (ws' := [(h0, .inr (6, ((((((((((((((((((((((((((((((f0.set 10 (.int 0)).set 11 (.int 0)).set 12 (.int 1)).set 11 (.int 0)).set 11 (.int 0)).set 11 (.int 0)).set 11 (.int 0)).set 11 (.int 0)).set 11 (.int 0)).set 11 (.int 0)).set 11 (.int 0)).set 11 (.int 0)).set 11 (.int 0)).set 11 (.int 0)).set 11 (.int 0)).set 11 (.int 0)).set 11 (.int 0)).set 11 (.int 0)).set 11 (.int 0)).set 11 (.int 0)).set 11 (.int 0)).set 11 (.int 0)).set 11 (.int 0)).set 11 (.int 0)).set 11 (.int 0)).set 11 (.int 0)).set 11 (.int 0)).set 11 (.int 0)).set 13 (.int 0)).set 13 (.int 1)))), (h1, .inr (2, f1)), (h2, .inl (cI, 8192, .inl (upd (k_fill 0 8192 g0) 782 1))), (h3, .inl (cI, 48000, .inl (upd g1 0 0)))]) [2, 1, 3, 0] rfl
  have hD := hD.sub (ws' := [(h0, .inr (6, ((((((((((((((((((((((((((((((f0.set 10 (.int 0)).set 11 (.int 0)).set 12 (.int 1)).set 11 (.int 0)).set 11 (.int 0)).set 11 (.int 0)).set 11 (.int 0)).set 11 (.int 0)).set 11 (.int 0)).set 11 (.int 0)).set 11 (.int 0)).set 11 (.int 0)).set 11 (.int 0)).set 11 (.int 0)).set 11 (.int 0)).set 11 (.int 0)).set 11 (.int 0)).set 11 (.int 0)).set 11 (.int 0)).set 11 (.int 0)).set 11 (.int 0)).set 11 (.int 0)).set 11 (.int 0)).set 11 (.int 0)).set 11 (.int 0)).set 11 (.int 0)).set 11 (.int 0)).set 11 (.int 0)).set 13 (.int 0)).set 13 (.int 1)))), (h1, .inr (2, f1)), (h2, .inl (cI, 8192, .inl (upd (k_fill 0 8192 g0) 782 1))), (h3, .inl (cI, 48000, .inl (upd g1 0 0)))]) [2, 1, 3, 0] (by decide +kernel) rfl
  exact W.zret (v := 1) hx hb hr rfl (fun t ht hW => ⟨⟨1, (), rfl, rfl, kB_mk ht hW hP hK hD⟩, hS.F ht⟩) hS.2.2 dX6_explore_186
set_option maxHeartbeats 400000000 in
set_option maxRecDepth 100000 in
theorem c_X6_atomsAt_0 (l : Launch) (E : kE) (D : va_G) (cI cJ cB cZ : ClassId) (h0 : Nat) (f0 : List Value) (e0 : f0[10]? = some (.int 0)) : kI l E D (kT cI cJ cB cZ) yX6_atomsAt wsX6_atomsAt ({ frames := 1, cells := 0, slots := 0, locals := 21 }) [.ref h0, .int 0, .int 0] [(h0, .inr (6, f0))] (0) [(h0, .inr (6, f0))] 0 0 := by
  intro sz
  refine Met.ofW (cc := cX6_atomsAt) (maxL := 10) (ret := (some .int)) (by decide) rfl ?_
  intro p e s m args below meth c s₁ B hml hv
  obtain ⟨rfl, hsz, hP, hK, hD0, hN, hX⟩ := hv
  have hx := B.exec
  have hb := B.bytes
  have hr := B.returns
  have hts := atoms_spec (ws := wsX6_atomsAt) B.pre
  have hown : s.vm.findClass RX6 = some m.cls := findClass_of_methodNamed B.named
  have hlocks := B.notSynchronized
  have hin6 : ∀ w ∈ wsX60, w ∈ wsX6_atomsAt := (fun w h => (List.mem_cons_of_mem _ (List.mem_append_right _ h)))
  subst hsz
  have hD := hD0.self (sz := s.heap.size)
  have hAE := k_AE hD0 hX
  generalize hAe : va_A [(h0, .inr (6, f0))] s.heap.size = A at hD hAE ⊢
  have hA : ∀ q : Nat, s.heap.size ≤ q → A q := fun q h => by rw [← hAe]; exact Or.inr h
  have hS : va_S A s.heap s.heap [] := va_S.rf
  have hP : va_P D vwCl [(h0, .inr (6, f0))] s.heap := hP
  have hl := lv_entry ([.ref h0, .int 0, .int 0] : List Value) (n := 10) (Nat.le_of_ble_eq_true rfl)
  rw [lg_entry_eq]
  generalize (lg_sl ([.ref h0, .int 0, .int 0]) ++ List.replicate (10 - (lg_sl ([.ref h0, .int 0, .int 0])).length) Slot.unset).toArray = ls at hl ⊢
  have hl : lv_has ls 10 [(0, .ref h0), (1, .int 0), (2, .int 0)] := hl
  refine lv_iconst (v := 0) hx hb dX6_atomsAt_0 (by decide) ?_
  refine lv_istore_n (lv' := [(3, .int 0), (0, .ref h0), (1, .int 0), (2, .int 0)]) hx hb dX6_atomsAt_1 rfl hl (by decide) rfl (fun ls hl => ?_)
  refine lv_iload_n hx hb dX6_atomsAt_2 rfl (lv_at hl 2 rfl) ?_
  refine lv_sipush (v := 2999) hx hb dX6_atomsAt_3 (by decide) ?_
  refine va_mmin hx hb (by rw [hml]; exact hl.1.symm) hown (hts (.methodLink RX6 96 Lib.Math.min.name) (List.mem_cons_of_mem _ (List.mem_append_left _ (List.mem_of_getElem? (i := 0) rfl)))) (hts (.static Lib.Math.min.name) (List.mem_cons_of_mem _ (List.mem_append_left _ (List.mem_of_getElem? (i := 1) rfl)))) (hts (.initialized "java/lang/Math") (List.mem_cons_of_mem _ (List.mem_append_left _ (List.mem_of_getElem? (i := 2) rfl)))) (hts (.code Lib.Math.min.name Lib.Math.min.code 2 (some .int)) (List.mem_cons_of_mem _ (List.mem_append_left _ (List.mem_of_getElem? (i := 3) rfl)))) (Nat.le_of_ble_eq_true rfl) (Nat.le_of_ble_eq_true rfl) (Nat.le_of_ble_eq_true rfl) (Nat.le_of_ble_eq_true rfl) dX6_atomsAt_6 ?_
  refine k_topi (y := 0) (by decide) ?_
  refine lv_bipush (v := 32) hx hb dX6_atomsAt_9 (by decide) ?_
  refine lv_imul hx hb dX6_atomsAt_11 ?_
  refine k_topi (y := 0) (by decide) ?_
  refine lv_istore (lv' := [(4, .int 0), (3, .int 0), (0, .ref h0), (1, .int 0), (2, .int 0)]) hx hb dX6_atomsAt_12 hl (by decide) rfl (fun ls hl => ?_)
  refine lv_iconst (v := 0) hx hb dX6_atomsAt_14 (by decide) ?_
  refine lv_istore (lv' := [(5, .int 0), (4, .int 0), (3, .int 0), (0, .ref h0), (1, .int 0), (2, .int 0)]) hx hb dX6_atomsAt_15 hl (by decide) rfl (fun ls hl => ?_)
  refine lv_iload hx hb dX6_atomsAt_17 (lv_at hl 0 rfl) ?_
  refine lv_aload_n hx hb dX6_atomsAt_19 rfl (lv_at hl 3 rfl) ?_
  refine va_get (D := D) (ref := "IntegerHouse$Places") (ci := 6) (v := .int 0) (C := RX6) (T := TX6) (N := 14) hx hb hts hin6 hown hK hP 0 rfl rfl 10 (by decide) (hts (.fieldLink RX6 76 "IntegerHouse$Places" "atoms" "I") (List.mem_cons_of_mem _ (List.mem_append_left _ (List.mem_of_getElem? (i := 4) rfl)))) (fun _ h9 => h9) e0 dX6_atomsAt_20 ?_
  refine lv_icmp_ge (tgt := 149) hx hb dX6_atomsAt_23 (by decide) (fun _ => ?_) (fun c9 => absurd (by decide) c9)
  refine lv_iload_n hx hb dX6_atomsAt_149 rfl (lv_at hl 2 rfl) ?_
  exact W.iret (v := 0) hx hb hr (fun t ht hW => ⟨⟨0, (), rfl, rfl, kB_mk ht hW hP hK hD⟩, hS.F ht⟩) hS.2.2 dX6_atomsAt_150
set_option maxHeartbeats 400000000 in
set_option maxRecDepth 100000 in
theorem c_X6_soOf_0 (l : Launch) (E : kE) (D : va_G) (cI cJ cB cZ : ClassId) (h0 : Nat) (f0 : List Value) (e0 : f0[11]? = some (.int 0)) : kI l E D (kT cI cJ cB cZ) yX6_soOf wsX6_soOf ({ frames := 0, cells := 0, slots := 0, locals := 0 }) [.ref h0, .int 0] [(h0, .inr (6, f0))] (0) [(h0, .inr (6, f0))] 0 0 := by
  intro sz
  refine Met.ofW (cc := cX6_soOf) (maxL := 4) (ret := (some .int)) (by decide) rfl ?_
  intro p e s m args below meth c s₁ B hml hv
  obtain ⟨rfl, hsz, hP, hK, hD0, hN, hX⟩ := hv
  have hx := B.exec
  have hb := B.bytes
  have hr := B.returns
  have hts := atoms_spec (ws := wsX6_soOf) B.pre
  have hown : s.vm.findClass RX6 = some m.cls := findClass_of_methodNamed B.named
  have hlocks := B.notSynchronized
  have hin6 : ∀ w ∈ wsX60, w ∈ wsX6_soOf := (fun w h => (List.mem_cons_of_mem _ (List.mem_append_left _ (List.mem_append_right _ h))))
  subst hsz
  have hD := hD0.self (sz := s.heap.size)
  have hAE := k_AE hD0 hX
  generalize hAe : va_A [(h0, .inr (6, f0))] s.heap.size = A at hD hAE ⊢
  have hA : ∀ q : Nat, s.heap.size ≤ q → A q := fun q h => by rw [← hAe]; exact Or.inr h
  have hS : va_S A s.heap s.heap [] := va_S.rf
  have hP : va_P D vwCl [(h0, .inr (6, f0))] s.heap := hP
  have hl := lv_entry ([.ref h0, .int 0] : List Value) (n := 4) (Nat.le_of_ble_eq_true rfl)
  rw [lg_entry_eq]
  generalize (lg_sl ([.ref h0, .int 0]) ++ List.replicate (4 - (lg_sl ([.ref h0, .int 0])).length) Slot.unset).toArray = ls at hl ⊢
  have hl : lv_has ls 4 [(0, .ref h0), (1, .int 0)] := hl
  refine lv_iconst (v := 0) hx hb dX6_soOf_0 (by decide) ?_
  refine lv_istore_n (lv' := [(2, .int 0), (0, .ref h0), (1, .int 0)]) hx hb dX6_soOf_1 rfl hl (by decide) rfl (fun ls hl => ?_)
  refine lv_iconst (v := 0) hx hb dX6_soOf_2 (by decide) ?_
  refine lv_istore_n (lv' := [(3, .int 0), (2, .int 0), (0, .ref h0), (1, .int 0)]) hx hb dX6_soOf_3 rfl hl (by decide) rfl (fun ls hl => ?_)
  refine lv_iload_n hx hb dX6_soOf_4 rfl (lv_at hl 0 rfl) ?_
  refine lv_bipush (v := 24) hx hb dX6_soOf_5 (by decide) ?_
  refine lv_icmp_gt (tgt := 44) hx hb dX6_soOf_7 (by decide) (fun c9 => absurd c9 (by decide)) (fun _ => ?_)
  refine lv_aload_n hx hb dX6_soOf_10 rfl (lv_at hl 2 rfl) ?_
  refine va_get (D := D) (ref := "IntegerHouse$Places") (ci := 6) (v := .int 0) (C := RX6) (T := TX6) (N := 14) hx hb hts hin6 hown hK hP 0 rfl rfl 11 (by decide) (hts (.fieldLink RX6 90 "IntegerHouse$Places" "needed" "I") (List.mem_cons_of_mem _ (List.mem_append_left _ (List.mem_append_left _ (List.mem_of_getElem? (i := 0) rfl))))) (fun _ h9 => h9) e0 dX6_soOf_11 ?_
  refine lv_iload_n hx hb dX6_soOf_14 rfl (lv_at hl 0 rfl) ?_
  refine lv_iushr (v := 0) hx hb dX6_soOf_15 (by decide) ?_
  refine lv_iconst (v := 1) hx hb dX6_soOf_16 (by decide) ?_
  refine lv_iand hx hb dX6_soOf_17 ?_
  refine k_topi (y := 0) (by decide) ?_
  refine lv_iconst (v := 1) hx hb dX6_soOf_18 (by decide) ?_
  refine lv_icmp_ne (tgt := 38) hx hb dX6_soOf_19 (by decide) (fun _ => ?_) (fun c9 => absurd c9 (by decide))
  refine lv_iinc (v := 1) (lv' := [(3, .int 1), (2, .int 0), (0, .ref h0), (1, .int 0)]) hx hb dX6_soOf_38 hl (k := 0) rfl (by decide) (by decide) rfl (fun ls hl => ?_)
  refine lv_goto (tgt := 4) hx hb dX6_soOf_41 (by decide) ?_
  refine lv_iload_n hx hb dX6_soOf_4 rfl (lv_at hl 0 rfl) ?_
  refine lv_bipush (v := 24) hx hb dX6_soOf_5 (by decide) ?_
  refine lv_icmp_gt (tgt := 44) hx hb dX6_soOf_7 (by decide) (fun c9 => absurd c9 (by decide)) (fun _ => ?_)
  refine lv_aload_n hx hb dX6_soOf_10 rfl (lv_at hl 2 rfl) ?_
  refine va_get (D := D) (ref := "IntegerHouse$Places") (ci := 6) (v := .int 0) (C := RX6) (T := TX6) (N := 14) hx hb hts hin6 hown hK hP 0 rfl rfl 11 (by decide) (hts (.fieldLink RX6 90 "IntegerHouse$Places" "needed" "I") (List.mem_cons_of_mem _ (List.mem_append_left _ (List.mem_append_left _ (List.mem_of_getElem? (i := 0) rfl))))) (fun _ h9 => h9) e0 dX6_soOf_11 ?_
  refine lv_iload_n hx hb dX6_soOf_14 rfl (lv_at hl 0 rfl) ?_
  refine lv_iushr (v := 0) hx hb dX6_soOf_15 (by decide) ?_
  refine lv_iconst (v := 1) hx hb dX6_soOf_16 (by decide) ?_
  refine lv_iand hx hb dX6_soOf_17 ?_
  refine k_topi (y := 0) (by decide) ?_
  refine lv_iconst (v := 1) hx hb dX6_soOf_18 (by decide) ?_
  refine lv_icmp_ne (tgt := 38) hx hb dX6_soOf_19 (by decide) (fun _ => ?_) (fun c9 => absurd c9 (by decide))
  refine lv_iinc (v := 2) (lv' := [(3, .int 2), (2, .int 0), (0, .ref h0), (1, .int 0)]) hx hb dX6_soOf_38 hl (k := 0) rfl (by decide) (by decide) rfl (fun ls hl => ?_)
  refine lv_goto (tgt := 4) hx hb dX6_soOf_41 (by decide) ?_
  refine lv_iload_n hx hb dX6_soOf_4 rfl (lv_at hl 0 rfl) ?_
  refine lv_bipush (v := 24) hx hb dX6_soOf_5 (by decide) ?_
  refine lv_icmp_gt (tgt := 44) hx hb dX6_soOf_7 (by decide) (fun c9 => absurd c9 (by decide)) (fun _ => ?_)
  refine lv_aload_n hx hb dX6_soOf_10 rfl (lv_at hl 2 rfl) ?_
  refine va_get (D := D) (ref := "IntegerHouse$Places") (ci := 6) (v := .int 0) (C := RX6) (T := TX6) (N := 14) hx hb hts hin6 hown hK hP 0 rfl rfl 11 (by decide) (hts (.fieldLink RX6 90 "IntegerHouse$Places" "needed" "I") (List.mem_cons_of_mem _ (List.mem_append_left _ (List.mem_append_left _ (List.mem_of_getElem? (i := 0) rfl))))) (fun _ h9 => h9) e0 dX6_soOf_11 ?_
  refine lv_iload_n hx hb dX6_soOf_14 rfl (lv_at hl 0 rfl) ?_
  refine lv_iushr (v := 0) hx hb dX6_soOf_15 (by decide) ?_
  refine lv_iconst (v := 1) hx hb dX6_soOf_16 (by decide) ?_
  refine lv_iand hx hb dX6_soOf_17 ?_
  refine k_topi (y := 0) (by decide) ?_
  refine lv_iconst (v := 1) hx hb dX6_soOf_18 (by decide) ?_
  refine lv_icmp_ne (tgt := 38) hx hb dX6_soOf_19 (by decide) (fun _ => ?_) (fun c9 => absurd c9 (by decide))
  refine lv_iinc (v := 3) (lv' := [(3, .int 3), (2, .int 0), (0, .ref h0), (1, .int 0)]) hx hb dX6_soOf_38 hl (k := 0) rfl (by decide) (by decide) rfl (fun ls hl => ?_)
  refine lv_goto (tgt := 4) hx hb dX6_soOf_41 (by decide) ?_
  refine lv_iload_n hx hb dX6_soOf_4 rfl (lv_at hl 0 rfl) ?_
  refine lv_bipush (v := 24) hx hb dX6_soOf_5 (by decide) ?_
  refine lv_icmp_gt (tgt := 44) hx hb dX6_soOf_7 (by decide) (fun c9 => absurd c9 (by decide)) (fun _ => ?_)
  refine lv_aload_n hx hb dX6_soOf_10 rfl (lv_at hl 2 rfl) ?_
  refine va_get (D := D) (ref := "IntegerHouse$Places") (ci := 6) (v := .int 0) (C := RX6) (T := TX6) (N := 14) hx hb hts hin6 hown hK hP 0 rfl rfl 11 (by decide) (hts (.fieldLink RX6 90 "IntegerHouse$Places" "needed" "I") (List.mem_cons_of_mem _ (List.mem_append_left _ (List.mem_append_left _ (List.mem_of_getElem? (i := 0) rfl))))) (fun _ h9 => h9) e0 dX6_soOf_11 ?_
  refine lv_iload_n hx hb dX6_soOf_14 rfl (lv_at hl 0 rfl) ?_
  refine lv_iushr (v := 0) hx hb dX6_soOf_15 (by decide) ?_
  refine lv_iconst (v := 1) hx hb dX6_soOf_16 (by decide) ?_
  refine lv_iand hx hb dX6_soOf_17 ?_
  refine k_topi (y := 0) (by decide) ?_
  refine lv_iconst (v := 1) hx hb dX6_soOf_18 (by decide) ?_
  refine lv_icmp_ne (tgt := 38) hx hb dX6_soOf_19 (by decide) (fun _ => ?_) (fun c9 => absurd c9 (by decide))
  refine lv_iinc (v := 4) (lv' := [(3, .int 4), (2, .int 0), (0, .ref h0), (1, .int 0)]) hx hb dX6_soOf_38 hl (k := 0) rfl (by decide) (by decide) rfl (fun ls hl => ?_)
  refine lv_goto (tgt := 4) hx hb dX6_soOf_41 (by decide) ?_
  refine lv_iload_n hx hb dX6_soOf_4 rfl (lv_at hl 0 rfl) ?_
  refine lv_bipush (v := 24) hx hb dX6_soOf_5 (by decide) ?_
  refine lv_icmp_gt (tgt := 44) hx hb dX6_soOf_7 (by decide) (fun c9 => absurd c9 (by decide)) (fun _ => ?_)
  refine lv_aload_n hx hb dX6_soOf_10 rfl (lv_at hl 2 rfl) ?_
  refine va_get (D := D) (ref := "IntegerHouse$Places") (ci := 6) (v := .int 0) (C := RX6) (T := TX6) (N := 14) hx hb hts hin6 hown hK hP 0 rfl rfl 11 (by decide) (hts (.fieldLink RX6 90 "IntegerHouse$Places" "needed" "I") (List.mem_cons_of_mem _ (List.mem_append_left _ (List.mem_append_left _ (List.mem_of_getElem? (i := 0) rfl))))) (fun _ h9 => h9) e0 dX6_soOf_11 ?_
  refine lv_iload_n hx hb dX6_soOf_14 rfl (lv_at hl 0 rfl) ?_
  refine lv_iushr (v := 0) hx hb dX6_soOf_15 (by decide) ?_
  refine lv_iconst (v := 1) hx hb dX6_soOf_16 (by decide) ?_
  refine lv_iand hx hb dX6_soOf_17 ?_
  refine k_topi (y := 0) (by decide) ?_
  refine lv_iconst (v := 1) hx hb dX6_soOf_18 (by decide) ?_
  refine lv_icmp_ne (tgt := 38) hx hb dX6_soOf_19 (by decide) (fun _ => ?_) (fun c9 => absurd c9 (by decide))
  refine lv_iinc (v := 5) (lv' := [(3, .int 5), (2, .int 0), (0, .ref h0), (1, .int 0)]) hx hb dX6_soOf_38 hl (k := 0) rfl (by decide) (by decide) rfl (fun ls hl => ?_)
  refine lv_goto (tgt := 4) hx hb dX6_soOf_41 (by decide) ?_
  refine lv_iload_n hx hb dX6_soOf_4 rfl (lv_at hl 0 rfl) ?_
  refine lv_bipush (v := 24) hx hb dX6_soOf_5 (by decide) ?_
  refine lv_icmp_gt (tgt := 44) hx hb dX6_soOf_7 (by decide) (fun c9 => absurd c9 (by decide)) (fun _ => ?_)
  refine lv_aload_n hx hb dX6_soOf_10 rfl (lv_at hl 2 rfl) ?_
  refine va_get (D := D) (ref := "IntegerHouse$Places") (ci := 6) (v := .int 0) (C := RX6) (T := TX6) (N := 14) hx hb hts hin6 hown hK hP 0 rfl rfl 11 (by decide) (hts (.fieldLink RX6 90 "IntegerHouse$Places" "needed" "I") (List.mem_cons_of_mem _ (List.mem_append_left _ (List.mem_append_left _ (List.mem_of_getElem? (i := 0) rfl))))) (fun _ h9 => h9) e0 dX6_soOf_11 ?_
  refine lv_iload_n hx hb dX6_soOf_14 rfl (lv_at hl 0 rfl) ?_
  refine lv_iushr (v := 0) hx hb dX6_soOf_15 (by decide) ?_
  refine lv_iconst (v := 1) hx hb dX6_soOf_16 (by decide) ?_
  refine lv_iand hx hb dX6_soOf_17 ?_
  refine k_topi (y := 0) (by decide) ?_
  refine lv_iconst (v := 1) hx hb dX6_soOf_18 (by decide) ?_
  refine lv_icmp_ne (tgt := 38) hx hb dX6_soOf_19 (by decide) (fun _ => ?_) (fun c9 => absurd c9 (by decide))
  refine lv_iinc (v := 6) (lv' := [(3, .int 6), (2, .int 0), (0, .ref h0), (1, .int 0)]) hx hb dX6_soOf_38 hl (k := 0) rfl (by decide) (by decide) rfl (fun ls hl => ?_)
  refine lv_goto (tgt := 4) hx hb dX6_soOf_41 (by decide) ?_
  refine lv_iload_n hx hb dX6_soOf_4 rfl (lv_at hl 0 rfl) ?_
  refine lv_bipush (v := 24) hx hb dX6_soOf_5 (by decide) ?_
  refine lv_icmp_gt (tgt := 44) hx hb dX6_soOf_7 (by decide) (fun c9 => absurd c9 (by decide)) (fun _ => ?_)
  refine lv_aload_n hx hb dX6_soOf_10 rfl (lv_at hl 2 rfl) ?_
  refine va_get (D := D) (ref := "IntegerHouse$Places") (ci := 6) (v := .int 0) (C := RX6) (T := TX6) (N := 14) hx hb hts hin6 hown hK hP 0 rfl rfl 11 (by decide) (hts (.fieldLink RX6 90 "IntegerHouse$Places" "needed" "I") (List.mem_cons_of_mem _ (List.mem_append_left _ (List.mem_append_left _ (List.mem_of_getElem? (i := 0) rfl))))) (fun _ h9 => h9) e0 dX6_soOf_11 ?_
  refine lv_iload_n hx hb dX6_soOf_14 rfl (lv_at hl 0 rfl) ?_
  refine lv_iushr (v := 0) hx hb dX6_soOf_15 (by decide) ?_
  refine lv_iconst (v := 1) hx hb dX6_soOf_16 (by decide) ?_
  refine lv_iand hx hb dX6_soOf_17 ?_
  refine k_topi (y := 0) (by decide) ?_
  refine lv_iconst (v := 1) hx hb dX6_soOf_18 (by decide) ?_
  refine lv_icmp_ne (tgt := 38) hx hb dX6_soOf_19 (by decide) (fun _ => ?_) (fun c9 => absurd c9 (by decide))
  refine lv_iinc (v := 7) (lv' := [(3, .int 7), (2, .int 0), (0, .ref h0), (1, .int 0)]) hx hb dX6_soOf_38 hl (k := 0) rfl (by decide) (by decide) rfl (fun ls hl => ?_)
  refine lv_goto (tgt := 4) hx hb dX6_soOf_41 (by decide) ?_
  refine lv_iload_n hx hb dX6_soOf_4 rfl (lv_at hl 0 rfl) ?_
  refine lv_bipush (v := 24) hx hb dX6_soOf_5 (by decide) ?_
  refine lv_icmp_gt (tgt := 44) hx hb dX6_soOf_7 (by decide) (fun c9 => absurd c9 (by decide)) (fun _ => ?_)
  refine lv_aload_n hx hb dX6_soOf_10 rfl (lv_at hl 2 rfl) ?_
  refine va_get (D := D) (ref := "IntegerHouse$Places") (ci := 6) (v := .int 0) (C := RX6) (T := TX6) (N := 14) hx hb hts hin6 hown hK hP 0 rfl rfl 11 (by decide) (hts (.fieldLink RX6 90 "IntegerHouse$Places" "needed" "I") (List.mem_cons_of_mem _ (List.mem_append_left _ (List.mem_append_left _ (List.mem_of_getElem? (i := 0) rfl))))) (fun _ h9 => h9) e0 dX6_soOf_11 ?_
  refine lv_iload_n hx hb dX6_soOf_14 rfl (lv_at hl 0 rfl) ?_
  refine lv_iushr (v := 0) hx hb dX6_soOf_15 (by decide) ?_
  refine lv_iconst (v := 1) hx hb dX6_soOf_16 (by decide) ?_
  refine lv_iand hx hb dX6_soOf_17 ?_
  refine k_topi (y := 0) (by decide) ?_
  refine lv_iconst (v := 1) hx hb dX6_soOf_18 (by decide) ?_
  refine lv_icmp_ne (tgt := 38) hx hb dX6_soOf_19 (by decide) (fun _ => ?_) (fun c9 => absurd c9 (by decide))
  refine lv_iinc (v := 8) (lv' := [(3, .int 8), (2, .int 0), (0, .ref h0), (1, .int 0)]) hx hb dX6_soOf_38 hl (k := 0) rfl (by decide) (by decide) rfl (fun ls hl => ?_)
  refine lv_goto (tgt := 4) hx hb dX6_soOf_41 (by decide) ?_
  refine lv_iload_n hx hb dX6_soOf_4 rfl (lv_at hl 0 rfl) ?_
  refine lv_bipush (v := 24) hx hb dX6_soOf_5 (by decide) ?_
  refine lv_icmp_gt (tgt := 44) hx hb dX6_soOf_7 (by decide) (fun c9 => absurd c9 (by decide)) (fun _ => ?_)
  refine lv_aload_n hx hb dX6_soOf_10 rfl (lv_at hl 2 rfl) ?_
  refine va_get (D := D) (ref := "IntegerHouse$Places") (ci := 6) (v := .int 0) (C := RX6) (T := TX6) (N := 14) hx hb hts hin6 hown hK hP 0 rfl rfl 11 (by decide) (hts (.fieldLink RX6 90 "IntegerHouse$Places" "needed" "I") (List.mem_cons_of_mem _ (List.mem_append_left _ (List.mem_append_left _ (List.mem_of_getElem? (i := 0) rfl))))) (fun _ h9 => h9) e0 dX6_soOf_11 ?_
  refine lv_iload_n hx hb dX6_soOf_14 rfl (lv_at hl 0 rfl) ?_
  refine lv_iushr (v := 0) hx hb dX6_soOf_15 (by decide) ?_
  refine lv_iconst (v := 1) hx hb dX6_soOf_16 (by decide) ?_
  refine lv_iand hx hb dX6_soOf_17 ?_
  refine k_topi (y := 0) (by decide) ?_
  refine lv_iconst (v := 1) hx hb dX6_soOf_18 (by decide) ?_
  refine lv_icmp_ne (tgt := 38) hx hb dX6_soOf_19 (by decide) (fun _ => ?_) (fun c9 => absurd c9 (by decide))
  refine lv_iinc (v := 9) (lv' := [(3, .int 9), (2, .int 0), (0, .ref h0), (1, .int 0)]) hx hb dX6_soOf_38 hl (k := 0) rfl (by decide) (by decide) rfl (fun ls hl => ?_)
  refine lv_goto (tgt := 4) hx hb dX6_soOf_41 (by decide) ?_
  refine lv_iload_n hx hb dX6_soOf_4 rfl (lv_at hl 0 rfl) ?_
  refine lv_bipush (v := 24) hx hb dX6_soOf_5 (by decide) ?_
  refine lv_icmp_gt (tgt := 44) hx hb dX6_soOf_7 (by decide) (fun c9 => absurd c9 (by decide)) (fun _ => ?_)
  refine lv_aload_n hx hb dX6_soOf_10 rfl (lv_at hl 2 rfl) ?_
  refine va_get (D := D) (ref := "IntegerHouse$Places") (ci := 6) (v := .int 0) (C := RX6) (T := TX6) (N := 14) hx hb hts hin6 hown hK hP 0 rfl rfl 11 (by decide) (hts (.fieldLink RX6 90 "IntegerHouse$Places" "needed" "I") (List.mem_cons_of_mem _ (List.mem_append_left _ (List.mem_append_left _ (List.mem_of_getElem? (i := 0) rfl))))) (fun _ h9 => h9) e0 dX6_soOf_11 ?_
  refine lv_iload_n hx hb dX6_soOf_14 rfl (lv_at hl 0 rfl) ?_
  refine lv_iushr (v := 0) hx hb dX6_soOf_15 (by decide) ?_
  refine lv_iconst (v := 1) hx hb dX6_soOf_16 (by decide) ?_
  refine lv_iand hx hb dX6_soOf_17 ?_
  refine k_topi (y := 0) (by decide) ?_
  refine lv_iconst (v := 1) hx hb dX6_soOf_18 (by decide) ?_
  refine lv_icmp_ne (tgt := 38) hx hb dX6_soOf_19 (by decide) (fun _ => ?_) (fun c9 => absurd c9 (by decide))
  refine lv_iinc (v := 10) (lv' := [(3, .int 10), (2, .int 0), (0, .ref h0), (1, .int 0)]) hx hb dX6_soOf_38 hl (k := 0) rfl (by decide) (by decide) rfl (fun ls hl => ?_)
  refine lv_goto (tgt := 4) hx hb dX6_soOf_41 (by decide) ?_
  refine lv_iload_n hx hb dX6_soOf_4 rfl (lv_at hl 0 rfl) ?_
  refine lv_bipush (v := 24) hx hb dX6_soOf_5 (by decide) ?_
  refine lv_icmp_gt (tgt := 44) hx hb dX6_soOf_7 (by decide) (fun c9 => absurd c9 (by decide)) (fun _ => ?_)
  refine lv_aload_n hx hb dX6_soOf_10 rfl (lv_at hl 2 rfl) ?_
  refine va_get (D := D) (ref := "IntegerHouse$Places") (ci := 6) (v := .int 0) (C := RX6) (T := TX6) (N := 14) hx hb hts hin6 hown hK hP 0 rfl rfl 11 (by decide) (hts (.fieldLink RX6 90 "IntegerHouse$Places" "needed" "I") (List.mem_cons_of_mem _ (List.mem_append_left _ (List.mem_append_left _ (List.mem_of_getElem? (i := 0) rfl))))) (fun _ h9 => h9) e0 dX6_soOf_11 ?_
  refine lv_iload_n hx hb dX6_soOf_14 rfl (lv_at hl 0 rfl) ?_
  refine lv_iushr (v := 0) hx hb dX6_soOf_15 (by decide) ?_
  refine lv_iconst (v := 1) hx hb dX6_soOf_16 (by decide) ?_
  refine lv_iand hx hb dX6_soOf_17 ?_
  refine k_topi (y := 0) (by decide) ?_
  refine lv_iconst (v := 1) hx hb dX6_soOf_18 (by decide) ?_
  refine lv_icmp_ne (tgt := 38) hx hb dX6_soOf_19 (by decide) (fun _ => ?_) (fun c9 => absurd c9 (by decide))
  refine lv_iinc (v := 11) (lv' := [(3, .int 11), (2, .int 0), (0, .ref h0), (1, .int 0)]) hx hb dX6_soOf_38 hl (k := 0) rfl (by decide) (by decide) rfl (fun ls hl => ?_)
  refine lv_goto (tgt := 4) hx hb dX6_soOf_41 (by decide) ?_
  refine lv_iload_n hx hb dX6_soOf_4 rfl (lv_at hl 0 rfl) ?_
  refine lv_bipush (v := 24) hx hb dX6_soOf_5 (by decide) ?_
  refine lv_icmp_gt (tgt := 44) hx hb dX6_soOf_7 (by decide) (fun c9 => absurd c9 (by decide)) (fun _ => ?_)
  refine lv_aload_n hx hb dX6_soOf_10 rfl (lv_at hl 2 rfl) ?_
  refine va_get (D := D) (ref := "IntegerHouse$Places") (ci := 6) (v := .int 0) (C := RX6) (T := TX6) (N := 14) hx hb hts hin6 hown hK hP 0 rfl rfl 11 (by decide) (hts (.fieldLink RX6 90 "IntegerHouse$Places" "needed" "I") (List.mem_cons_of_mem _ (List.mem_append_left _ (List.mem_append_left _ (List.mem_of_getElem? (i := 0) rfl))))) (fun _ h9 => h9) e0 dX6_soOf_11 ?_
  refine lv_iload_n hx hb dX6_soOf_14 rfl (lv_at hl 0 rfl) ?_
  refine lv_iushr (v := 0) hx hb dX6_soOf_15 (by decide) ?_
  refine lv_iconst (v := 1) hx hb dX6_soOf_16 (by decide) ?_
  refine lv_iand hx hb dX6_soOf_17 ?_
  refine k_topi (y := 0) (by decide) ?_
  refine lv_iconst (v := 1) hx hb dX6_soOf_18 (by decide) ?_
  refine lv_icmp_ne (tgt := 38) hx hb dX6_soOf_19 (by decide) (fun _ => ?_) (fun c9 => absurd c9 (by decide))
  refine lv_iinc (v := 12) (lv' := [(3, .int 12), (2, .int 0), (0, .ref h0), (1, .int 0)]) hx hb dX6_soOf_38 hl (k := 0) rfl (by decide) (by decide) rfl (fun ls hl => ?_)
  refine lv_goto (tgt := 4) hx hb dX6_soOf_41 (by decide) ?_
  refine lv_iload_n hx hb dX6_soOf_4 rfl (lv_at hl 0 rfl) ?_
  refine lv_bipush (v := 24) hx hb dX6_soOf_5 (by decide) ?_
  refine lv_icmp_gt (tgt := 44) hx hb dX6_soOf_7 (by decide) (fun c9 => absurd c9 (by decide)) (fun _ => ?_)
  refine lv_aload_n hx hb dX6_soOf_10 rfl (lv_at hl 2 rfl) ?_
  refine va_get (D := D) (ref := "IntegerHouse$Places") (ci := 6) (v := .int 0) (C := RX6) (T := TX6) (N := 14) hx hb hts hin6 hown hK hP 0 rfl rfl 11 (by decide) (hts (.fieldLink RX6 90 "IntegerHouse$Places" "needed" "I") (List.mem_cons_of_mem _ (List.mem_append_left _ (List.mem_append_left _ (List.mem_of_getElem? (i := 0) rfl))))) (fun _ h9 => h9) e0 dX6_soOf_11 ?_
  refine lv_iload_n hx hb dX6_soOf_14 rfl (lv_at hl 0 rfl) ?_
  refine lv_iushr (v := 0) hx hb dX6_soOf_15 (by decide) ?_
  refine lv_iconst (v := 1) hx hb dX6_soOf_16 (by decide) ?_
  refine lv_iand hx hb dX6_soOf_17 ?_
  refine k_topi (y := 0) (by decide) ?_
  refine lv_iconst (v := 1) hx hb dX6_soOf_18 (by decide) ?_
  refine lv_icmp_ne (tgt := 38) hx hb dX6_soOf_19 (by decide) (fun _ => ?_) (fun c9 => absurd c9 (by decide))
  refine lv_iinc (v := 13) (lv' := [(3, .int 13), (2, .int 0), (0, .ref h0), (1, .int 0)]) hx hb dX6_soOf_38 hl (k := 0) rfl (by decide) (by decide) rfl (fun ls hl => ?_)
  refine lv_goto (tgt := 4) hx hb dX6_soOf_41 (by decide) ?_
  refine lv_iload_n hx hb dX6_soOf_4 rfl (lv_at hl 0 rfl) ?_
  refine lv_bipush (v := 24) hx hb dX6_soOf_5 (by decide) ?_
  refine lv_icmp_gt (tgt := 44) hx hb dX6_soOf_7 (by decide) (fun c9 => absurd c9 (by decide)) (fun _ => ?_)
  refine lv_aload_n hx hb dX6_soOf_10 rfl (lv_at hl 2 rfl) ?_
  refine va_get (D := D) (ref := "IntegerHouse$Places") (ci := 6) (v := .int 0) (C := RX6) (T := TX6) (N := 14) hx hb hts hin6 hown hK hP 0 rfl rfl 11 (by decide) (hts (.fieldLink RX6 90 "IntegerHouse$Places" "needed" "I") (List.mem_cons_of_mem _ (List.mem_append_left _ (List.mem_append_left _ (List.mem_of_getElem? (i := 0) rfl))))) (fun _ h9 => h9) e0 dX6_soOf_11 ?_
  refine lv_iload_n hx hb dX6_soOf_14 rfl (lv_at hl 0 rfl) ?_
  refine lv_iushr (v := 0) hx hb dX6_soOf_15 (by decide) ?_
  refine lv_iconst (v := 1) hx hb dX6_soOf_16 (by decide) ?_
  refine lv_iand hx hb dX6_soOf_17 ?_
  refine k_topi (y := 0) (by decide) ?_
  refine lv_iconst (v := 1) hx hb dX6_soOf_18 (by decide) ?_
  refine lv_icmp_ne (tgt := 38) hx hb dX6_soOf_19 (by decide) (fun _ => ?_) (fun c9 => absurd c9 (by decide))
  refine lv_iinc (v := 14) (lv' := [(3, .int 14), (2, .int 0), (0, .ref h0), (1, .int 0)]) hx hb dX6_soOf_38 hl (k := 0) rfl (by decide) (by decide) rfl (fun ls hl => ?_)
  refine lv_goto (tgt := 4) hx hb dX6_soOf_41 (by decide) ?_
  refine lv_iload_n hx hb dX6_soOf_4 rfl (lv_at hl 0 rfl) ?_
  refine lv_bipush (v := 24) hx hb dX6_soOf_5 (by decide) ?_
  refine lv_icmp_gt (tgt := 44) hx hb dX6_soOf_7 (by decide) (fun c9 => absurd c9 (by decide)) (fun _ => ?_)
  refine lv_aload_n hx hb dX6_soOf_10 rfl (lv_at hl 2 rfl) ?_
  refine va_get (D := D) (ref := "IntegerHouse$Places") (ci := 6) (v := .int 0) (C := RX6) (T := TX6) (N := 14) hx hb hts hin6 hown hK hP 0 rfl rfl 11 (by decide) (hts (.fieldLink RX6 90 "IntegerHouse$Places" "needed" "I") (List.mem_cons_of_mem _ (List.mem_append_left _ (List.mem_append_left _ (List.mem_of_getElem? (i := 0) rfl))))) (fun _ h9 => h9) e0 dX6_soOf_11 ?_
  refine lv_iload_n hx hb dX6_soOf_14 rfl (lv_at hl 0 rfl) ?_
  refine lv_iushr (v := 0) hx hb dX6_soOf_15 (by decide) ?_
  refine lv_iconst (v := 1) hx hb dX6_soOf_16 (by decide) ?_
  refine lv_iand hx hb dX6_soOf_17 ?_
  refine k_topi (y := 0) (by decide) ?_
  refine lv_iconst (v := 1) hx hb dX6_soOf_18 (by decide) ?_
  refine lv_icmp_ne (tgt := 38) hx hb dX6_soOf_19 (by decide) (fun _ => ?_) (fun c9 => absurd c9 (by decide))
  refine lv_iinc (v := 15) (lv' := [(3, .int 15), (2, .int 0), (0, .ref h0), (1, .int 0)]) hx hb dX6_soOf_38 hl (k := 0) rfl (by decide) (by decide) rfl (fun ls hl => ?_)
  refine lv_goto (tgt := 4) hx hb dX6_soOf_41 (by decide) ?_
  refine lv_iload_n hx hb dX6_soOf_4 rfl (lv_at hl 0 rfl) ?_
  refine lv_bipush (v := 24) hx hb dX6_soOf_5 (by decide) ?_
  refine lv_icmp_gt (tgt := 44) hx hb dX6_soOf_7 (by decide) (fun c9 => absurd c9 (by decide)) (fun _ => ?_)
  refine lv_aload_n hx hb dX6_soOf_10 rfl (lv_at hl 2 rfl) ?_
  refine va_get (D := D) (ref := "IntegerHouse$Places") (ci := 6) (v := .int 0) (C := RX6) (T := TX6) (N := 14) hx hb hts hin6 hown hK hP 0 rfl rfl 11 (by decide) (hts (.fieldLink RX6 90 "IntegerHouse$Places" "needed" "I") (List.mem_cons_of_mem _ (List.mem_append_left _ (List.mem_append_left _ (List.mem_of_getElem? (i := 0) rfl))))) (fun _ h9 => h9) e0 dX6_soOf_11 ?_
  refine lv_iload_n hx hb dX6_soOf_14 rfl (lv_at hl 0 rfl) ?_
  refine lv_iushr (v := 0) hx hb dX6_soOf_15 (by decide) ?_
  refine lv_iconst (v := 1) hx hb dX6_soOf_16 (by decide) ?_
  refine lv_iand hx hb dX6_soOf_17 ?_
  refine k_topi (y := 0) (by decide) ?_
  refine lv_iconst (v := 1) hx hb dX6_soOf_18 (by decide) ?_
  refine lv_icmp_ne (tgt := 38) hx hb dX6_soOf_19 (by decide) (fun _ => ?_) (fun c9 => absurd c9 (by decide))
  refine lv_iinc (v := 16) (lv' := [(3, .int 16), (2, .int 0), (0, .ref h0), (1, .int 0)]) hx hb dX6_soOf_38 hl (k := 0) rfl (by decide) (by decide) rfl (fun ls hl => ?_)
  refine lv_goto (tgt := 4) hx hb dX6_soOf_41 (by decide) ?_
  refine lv_iload_n hx hb dX6_soOf_4 rfl (lv_at hl 0 rfl) ?_
  refine lv_bipush (v := 24) hx hb dX6_soOf_5 (by decide) ?_
  refine lv_icmp_gt (tgt := 44) hx hb dX6_soOf_7 (by decide) (fun c9 => absurd c9 (by decide)) (fun _ => ?_)
  refine lv_aload_n hx hb dX6_soOf_10 rfl (lv_at hl 2 rfl) ?_
  refine va_get (D := D) (ref := "IntegerHouse$Places") (ci := 6) (v := .int 0) (C := RX6) (T := TX6) (N := 14) hx hb hts hin6 hown hK hP 0 rfl rfl 11 (by decide) (hts (.fieldLink RX6 90 "IntegerHouse$Places" "needed" "I") (List.mem_cons_of_mem _ (List.mem_append_left _ (List.mem_append_left _ (List.mem_of_getElem? (i := 0) rfl))))) (fun _ h9 => h9) e0 dX6_soOf_11 ?_
  refine lv_iload_n hx hb dX6_soOf_14 rfl (lv_at hl 0 rfl) ?_
  refine lv_iushr (v := 0) hx hb dX6_soOf_15 (by decide) ?_
  refine lv_iconst (v := 1) hx hb dX6_soOf_16 (by decide) ?_
  refine lv_iand hx hb dX6_soOf_17 ?_
  refine k_topi (y := 0) (by decide) ?_
  refine lv_iconst (v := 1) hx hb dX6_soOf_18 (by decide) ?_
  refine lv_icmp_ne (tgt := 38) hx hb dX6_soOf_19 (by decide) (fun _ => ?_) (fun c9 => absurd c9 (by decide))
  refine lv_iinc (v := 17) (lv' := [(3, .int 17), (2, .int 0), (0, .ref h0), (1, .int 0)]) hx hb dX6_soOf_38 hl (k := 0) rfl (by decide) (by decide) rfl (fun ls hl => ?_)
  refine lv_goto (tgt := 4) hx hb dX6_soOf_41 (by decide) ?_
  refine lv_iload_n hx hb dX6_soOf_4 rfl (lv_at hl 0 rfl) ?_
  refine lv_bipush (v := 24) hx hb dX6_soOf_5 (by decide) ?_
  refine lv_icmp_gt (tgt := 44) hx hb dX6_soOf_7 (by decide) (fun c9 => absurd c9 (by decide)) (fun _ => ?_)
  refine lv_aload_n hx hb dX6_soOf_10 rfl (lv_at hl 2 rfl) ?_
  refine va_get (D := D) (ref := "IntegerHouse$Places") (ci := 6) (v := .int 0) (C := RX6) (T := TX6) (N := 14) hx hb hts hin6 hown hK hP 0 rfl rfl 11 (by decide) (hts (.fieldLink RX6 90 "IntegerHouse$Places" "needed" "I") (List.mem_cons_of_mem _ (List.mem_append_left _ (List.mem_append_left _ (List.mem_of_getElem? (i := 0) rfl))))) (fun _ h9 => h9) e0 dX6_soOf_11 ?_
  refine lv_iload_n hx hb dX6_soOf_14 rfl (lv_at hl 0 rfl) ?_
  refine lv_iushr (v := 0) hx hb dX6_soOf_15 (by decide) ?_
  refine lv_iconst (v := 1) hx hb dX6_soOf_16 (by decide) ?_
  refine lv_iand hx hb dX6_soOf_17 ?_
  refine k_topi (y := 0) (by decide) ?_
  refine lv_iconst (v := 1) hx hb dX6_soOf_18 (by decide) ?_
  refine lv_icmp_ne (tgt := 38) hx hb dX6_soOf_19 (by decide) (fun _ => ?_) (fun c9 => absurd c9 (by decide))
  refine lv_iinc (v := 18) (lv' := [(3, .int 18), (2, .int 0), (0, .ref h0), (1, .int 0)]) hx hb dX6_soOf_38 hl (k := 0) rfl (by decide) (by decide) rfl (fun ls hl => ?_)
  refine lv_goto (tgt := 4) hx hb dX6_soOf_41 (by decide) ?_
  refine lv_iload_n hx hb dX6_soOf_4 rfl (lv_at hl 0 rfl) ?_
  refine lv_bipush (v := 24) hx hb dX6_soOf_5 (by decide) ?_
  refine lv_icmp_gt (tgt := 44) hx hb dX6_soOf_7 (by decide) (fun c9 => absurd c9 (by decide)) (fun _ => ?_)
  refine lv_aload_n hx hb dX6_soOf_10 rfl (lv_at hl 2 rfl) ?_
  refine va_get (D := D) (ref := "IntegerHouse$Places") (ci := 6) (v := .int 0) (C := RX6) (T := TX6) (N := 14) hx hb hts hin6 hown hK hP 0 rfl rfl 11 (by decide) (hts (.fieldLink RX6 90 "IntegerHouse$Places" "needed" "I") (List.mem_cons_of_mem _ (List.mem_append_left _ (List.mem_append_left _ (List.mem_of_getElem? (i := 0) rfl))))) (fun _ h9 => h9) e0 dX6_soOf_11 ?_
  refine lv_iload_n hx hb dX6_soOf_14 rfl (lv_at hl 0 rfl) ?_
  refine lv_iushr (v := 0) hx hb dX6_soOf_15 (by decide) ?_
  refine lv_iconst (v := 1) hx hb dX6_soOf_16 (by decide) ?_
  refine lv_iand hx hb dX6_soOf_17 ?_
  refine k_topi (y := 0) (by decide) ?_
  refine lv_iconst (v := 1) hx hb dX6_soOf_18 (by decide) ?_
  refine lv_icmp_ne (tgt := 38) hx hb dX6_soOf_19 (by decide) (fun _ => ?_) (fun c9 => absurd c9 (by decide))
  refine lv_iinc (v := 19) (lv' := [(3, .int 19), (2, .int 0), (0, .ref h0), (1, .int 0)]) hx hb dX6_soOf_38 hl (k := 0) rfl (by decide) (by decide) rfl (fun ls hl => ?_)
  refine lv_goto (tgt := 4) hx hb dX6_soOf_41 (by decide) ?_
  refine lv_iload_n hx hb dX6_soOf_4 rfl (lv_at hl 0 rfl) ?_
  refine lv_bipush (v := 24) hx hb dX6_soOf_5 (by decide) ?_
  refine lv_icmp_gt (tgt := 44) hx hb dX6_soOf_7 (by decide) (fun c9 => absurd c9 (by decide)) (fun _ => ?_)
  refine lv_aload_n hx hb dX6_soOf_10 rfl (lv_at hl 2 rfl) ?_
  refine va_get (D := D) (ref := "IntegerHouse$Places") (ci := 6) (v := .int 0) (C := RX6) (T := TX6) (N := 14) hx hb hts hin6 hown hK hP 0 rfl rfl 11 (by decide) (hts (.fieldLink RX6 90 "IntegerHouse$Places" "needed" "I") (List.mem_cons_of_mem _ (List.mem_append_left _ (List.mem_append_left _ (List.mem_of_getElem? (i := 0) rfl))))) (fun _ h9 => h9) e0 dX6_soOf_11 ?_
  refine lv_iload_n hx hb dX6_soOf_14 rfl (lv_at hl 0 rfl) ?_
  refine lv_iushr (v := 0) hx hb dX6_soOf_15 (by decide) ?_
  refine lv_iconst (v := 1) hx hb dX6_soOf_16 (by decide) ?_
  refine lv_iand hx hb dX6_soOf_17 ?_
  refine k_topi (y := 0) (by decide) ?_
  refine lv_iconst (v := 1) hx hb dX6_soOf_18 (by decide) ?_
  refine lv_icmp_ne (tgt := 38) hx hb dX6_soOf_19 (by decide) (fun _ => ?_) (fun c9 => absurd c9 (by decide))
  refine lv_iinc (v := 20) (lv' := [(3, .int 20), (2, .int 0), (0, .ref h0), (1, .int 0)]) hx hb dX6_soOf_38 hl (k := 0) rfl (by decide) (by decide) rfl (fun ls hl => ?_)
  refine lv_goto (tgt := 4) hx hb dX6_soOf_41 (by decide) ?_
  refine lv_iload_n hx hb dX6_soOf_4 rfl (lv_at hl 0 rfl) ?_
  refine lv_bipush (v := 24) hx hb dX6_soOf_5 (by decide) ?_
  refine lv_icmp_gt (tgt := 44) hx hb dX6_soOf_7 (by decide) (fun c9 => absurd c9 (by decide)) (fun _ => ?_)
  refine lv_aload_n hx hb dX6_soOf_10 rfl (lv_at hl 2 rfl) ?_
  refine va_get (D := D) (ref := "IntegerHouse$Places") (ci := 6) (v := .int 0) (C := RX6) (T := TX6) (N := 14) hx hb hts hin6 hown hK hP 0 rfl rfl 11 (by decide) (hts (.fieldLink RX6 90 "IntegerHouse$Places" "needed" "I") (List.mem_cons_of_mem _ (List.mem_append_left _ (List.mem_append_left _ (List.mem_of_getElem? (i := 0) rfl))))) (fun _ h9 => h9) e0 dX6_soOf_11 ?_
  refine lv_iload_n hx hb dX6_soOf_14 rfl (lv_at hl 0 rfl) ?_
  refine lv_iushr (v := 0) hx hb dX6_soOf_15 (by decide) ?_
  refine lv_iconst (v := 1) hx hb dX6_soOf_16 (by decide) ?_
  refine lv_iand hx hb dX6_soOf_17 ?_
  refine k_topi (y := 0) (by decide) ?_
  refine lv_iconst (v := 1) hx hb dX6_soOf_18 (by decide) ?_
  refine lv_icmp_ne (tgt := 38) hx hb dX6_soOf_19 (by decide) (fun _ => ?_) (fun c9 => absurd c9 (by decide))
  refine lv_iinc (v := 21) (lv' := [(3, .int 21), (2, .int 0), (0, .ref h0), (1, .int 0)]) hx hb dX6_soOf_38 hl (k := 0) rfl (by decide) (by decide) rfl (fun ls hl => ?_)
  refine lv_goto (tgt := 4) hx hb dX6_soOf_41 (by decide) ?_
  refine lv_iload_n hx hb dX6_soOf_4 rfl (lv_at hl 0 rfl) ?_
  refine lv_bipush (v := 24) hx hb dX6_soOf_5 (by decide) ?_
  refine lv_icmp_gt (tgt := 44) hx hb dX6_soOf_7 (by decide) (fun c9 => absurd c9 (by decide)) (fun _ => ?_)
  refine lv_aload_n hx hb dX6_soOf_10 rfl (lv_at hl 2 rfl) ?_
  refine va_get (D := D) (ref := "IntegerHouse$Places") (ci := 6) (v := .int 0) (C := RX6) (T := TX6) (N := 14) hx hb hts hin6 hown hK hP 0 rfl rfl 11 (by decide) (hts (.fieldLink RX6 90 "IntegerHouse$Places" "needed" "I") (List.mem_cons_of_mem _ (List.mem_append_left _ (List.mem_append_left _ (List.mem_of_getElem? (i := 0) rfl))))) (fun _ h9 => h9) e0 dX6_soOf_11 ?_
  refine lv_iload_n hx hb dX6_soOf_14 rfl (lv_at hl 0 rfl) ?_
  refine lv_iushr (v := 0) hx hb dX6_soOf_15 (by decide) ?_
  refine lv_iconst (v := 1) hx hb dX6_soOf_16 (by decide) ?_
  refine lv_iand hx hb dX6_soOf_17 ?_
  refine k_topi (y := 0) (by decide) ?_
  refine lv_iconst (v := 1) hx hb dX6_soOf_18 (by decide) ?_
  refine lv_icmp_ne (tgt := 38) hx hb dX6_soOf_19 (by decide) (fun _ => ?_) (fun c9 => absurd c9 (by decide))
  refine lv_iinc (v := 22) (lv' := [(3, .int 22), (2, .int 0), (0, .ref h0), (1, .int 0)]) hx hb dX6_soOf_38 hl (k := 0) rfl (by decide) (by decide) rfl (fun ls hl => ?_)
  refine lv_goto (tgt := 4) hx hb dX6_soOf_41 (by decide) ?_
  refine lv_iload_n hx hb dX6_soOf_4 rfl (lv_at hl 0 rfl) ?_
  refine lv_bipush (v := 24) hx hb dX6_soOf_5 (by decide) ?_
  refine lv_icmp_gt (tgt := 44) hx hb dX6_soOf_7 (by decide) (fun c9 => absurd c9 (by decide)) (fun _ => ?_)
  refine lv_aload_n hx hb dX6_soOf_10 rfl (lv_at hl 2 rfl) ?_
  refine va_get (D := D) (ref := "IntegerHouse$Places") (ci := 6) (v := .int 0) (C := RX6) (T := TX6) (N := 14) hx hb hts hin6 hown hK hP 0 rfl rfl 11 (by decide) (hts (.fieldLink RX6 90 "IntegerHouse$Places" "needed" "I") (List.mem_cons_of_mem _ (List.mem_append_left _ (List.mem_append_left _ (List.mem_of_getElem? (i := 0) rfl))))) (fun _ h9 => h9) e0 dX6_soOf_11 ?_
  refine lv_iload_n hx hb dX6_soOf_14 rfl (lv_at hl 0 rfl) ?_
  refine lv_iushr (v := 0) hx hb dX6_soOf_15 (by decide) ?_
  refine lv_iconst (v := 1) hx hb dX6_soOf_16 (by decide) ?_
  refine lv_iand hx hb dX6_soOf_17 ?_
  refine k_topi (y := 0) (by decide) ?_
  refine lv_iconst (v := 1) hx hb dX6_soOf_18 (by decide) ?_
  refine lv_icmp_ne (tgt := 38) hx hb dX6_soOf_19 (by decide) (fun _ => ?_) (fun c9 => absurd c9 (by decide))
  refine lv_iinc (v := 23) (lv' := [(3, .int 23), (2, .int 0), (0, .ref h0), (1, .int 0)]) hx hb dX6_soOf_38 hl (k := 0) rfl (by decide) (by decide) rfl (fun ls hl => ?_)
  refine lv_goto (tgt := 4) hx hb dX6_soOf_41 (by decide) ?_
  refine lv_iload_n hx hb dX6_soOf_4 rfl (lv_at hl 0 rfl) ?_
  refine lv_bipush (v := 24) hx hb dX6_soOf_5 (by decide) ?_
  refine lv_icmp_gt (tgt := 44) hx hb dX6_soOf_7 (by decide) (fun c9 => absurd c9 (by decide)) (fun _ => ?_)
  refine lv_aload_n hx hb dX6_soOf_10 rfl (lv_at hl 2 rfl) ?_
  refine va_get (D := D) (ref := "IntegerHouse$Places") (ci := 6) (v := .int 0) (C := RX6) (T := TX6) (N := 14) hx hb hts hin6 hown hK hP 0 rfl rfl 11 (by decide) (hts (.fieldLink RX6 90 "IntegerHouse$Places" "needed" "I") (List.mem_cons_of_mem _ (List.mem_append_left _ (List.mem_append_left _ (List.mem_of_getElem? (i := 0) rfl))))) (fun _ h9 => h9) e0 dX6_soOf_11 ?_
  refine lv_iload_n hx hb dX6_soOf_14 rfl (lv_at hl 0 rfl) ?_
  refine lv_iushr (v := 0) hx hb dX6_soOf_15 (by decide) ?_
  refine lv_iconst (v := 1) hx hb dX6_soOf_16 (by decide) ?_
  refine lv_iand hx hb dX6_soOf_17 ?_
  refine k_topi (y := 0) (by decide) ?_
  refine lv_iconst (v := 1) hx hb dX6_soOf_18 (by decide) ?_
  refine lv_icmp_ne (tgt := 38) hx hb dX6_soOf_19 (by decide) (fun _ => ?_) (fun c9 => absurd c9 (by decide))
  refine lv_iinc (v := 24) (lv' := [(3, .int 24), (2, .int 0), (0, .ref h0), (1, .int 0)]) hx hb dX6_soOf_38 hl (k := 0) rfl (by decide) (by decide) rfl (fun ls hl => ?_)
  refine lv_goto (tgt := 4) hx hb dX6_soOf_41 (by decide) ?_
  refine lv_iload_n hx hb dX6_soOf_4 rfl (lv_at hl 0 rfl) ?_
  refine lv_bipush (v := 24) hx hb dX6_soOf_5 (by decide) ?_
  refine lv_icmp_gt (tgt := 44) hx hb dX6_soOf_7 (by decide) (fun c9 => absurd c9 (by decide)) (fun _ => ?_)
  refine lv_aload_n hx hb dX6_soOf_10 rfl (lv_at hl 2 rfl) ?_
  refine va_get (D := D) (ref := "IntegerHouse$Places") (ci := 6) (v := .int 0) (C := RX6) (T := TX6) (N := 14) hx hb hts hin6 hown hK hP 0 rfl rfl 11 (by decide) (hts (.fieldLink RX6 90 "IntegerHouse$Places" "needed" "I") (List.mem_cons_of_mem _ (List.mem_append_left _ (List.mem_append_left _ (List.mem_of_getElem? (i := 0) rfl))))) (fun _ h9 => h9) e0 dX6_soOf_11 ?_
  refine lv_iload_n hx hb dX6_soOf_14 rfl (lv_at hl 0 rfl) ?_
  refine lv_iushr (v := 0) hx hb dX6_soOf_15 (by decide) ?_
  refine lv_iconst (v := 1) hx hb dX6_soOf_16 (by decide) ?_
  refine lv_iand hx hb dX6_soOf_17 ?_
  refine k_topi (y := 0) (by decide) ?_
  refine lv_iconst (v := 1) hx hb dX6_soOf_18 (by decide) ?_
  refine lv_icmp_ne (tgt := 38) hx hb dX6_soOf_19 (by decide) (fun _ => ?_) (fun c9 => absurd c9 (by decide))
  refine lv_iinc (v := 25) (lv' := [(3, .int 25), (2, .int 0), (0, .ref h0), (1, .int 0)]) hx hb dX6_soOf_38 hl (k := 0) rfl (by decide) (by decide) rfl (fun ls hl => ?_)
  refine lv_goto (tgt := 4) hx hb dX6_soOf_41 (by decide) ?_
  refine lv_iload_n hx hb dX6_soOf_4 rfl (lv_at hl 0 rfl) ?_
  refine lv_bipush (v := 24) hx hb dX6_soOf_5 (by decide) ?_
  refine lv_icmp_gt (tgt := 44) hx hb dX6_soOf_7 (by decide) (fun _ => ?_) (fun c9 => absurd (by decide) c9)
  refine lv_iload_n hx hb dX6_soOf_44 rfl (lv_at hl 1 rfl) ?_
  exact W.iret (v := 0) hx hb hr (fun t ht hW => ⟨⟨0, (), rfl, rfl, kB_mk ht hW hP hK hD⟩, hS.F ht⟩) hS.2.2 dX6_soOf_45
set_option maxHeartbeats 400000000 in
set_option maxRecDepth 100000 in
theorem c_X6_judge_0 (l : Launch) (E : kE) (D : va_G) (cI cJ cB cZ : ClassId) (h0 : Nat) (f0 : List Value) (h1 : Nat) (f1 : List Value) (h2 : Nat) (h3 : Nat) (g0 : Nat → Int32) (g1 : Nat → Int32) (h4 : Nat) (g2 : Nat → Int32) (e0 : f0[10]? = some (.int 0)) (e1 : f0[11]? = some (.int 0)) (e2 : f0[0]? = some (.ref h1)) (e3 : f1[10]? = some (.int 0)) (e4 : f0[12]? = some (.int 0)) (e5 : f0[9]? = some (.ref h2)) (e6 : f0[13]? = some (.int 0)) (e7 : f0[7]? = some (.ref h3)) (e8 : f0[8]? = some (.ref h4)) : kI l E D (kT cI cJ cB cZ) yX6_judge wsX6_judge ({ frames := 4, cells := 0, slots := 0, locals := 92 }) [.ref h0, .int 0] [(h0, .inr (6, f0)), (h1, .inr (2, f1)), (h2, .inl (cI, 8192, .inl g0)), (h3, .inl (cI, 48000, .inl g1)), (h4, .inl (cI, 48000, .inl g2))] (1) [(h0, .inr (6, ((((((((((((((((((((((((((((((f0.set 10 (.int 0)).set 11 (.int 0)).set 12 (.int 1)).set 11 (.int 0)).set 11 (.int 0)).set 11 (.int 0)).set 11 (.int 0)).set 11 (.int 0)).set 11 (.int 0)).set 11 (.int 0)).set 11 (.int 0)).set 11 (.int 0)).set 11 (.int 0)).set 11 (.int 0)).set 11 (.int 0)).set 11 (.int 0)).set 11 (.int 0)).set 11 (.int 0)).set 11 (.int 0)).set 11 (.int 0)).set 11 (.int 0)).set 11 (.int 0)).set 11 (.int 0)).set 11 (.int 0)).set 11 (.int 0)).set 11 (.int 0)).set 11 (.int 0)).set 11 (.int 0)).set 13 (.int 0)).set 13 (.int 1)))), (h1, .inr (2, f1)), (h2, .inl (cI, 8192, .inl (upd (k_fill 0 8192 g0) 782 1))), (h3, .inl (cI, 48000, .inl (upd g1 0 0))), (h4, .inl (cI, 48000, .inl (upd g2 0 0)))] 0 0 := by
  intro sz
  refine Met.ofW (cc := cX6_judge) (maxL := 4) (ret := (some .boolean)) (by decide) rfl ?_
  intro p e s m args below meth c s₁ B hml hv
  obtain ⟨rfl, hsz, hP, hK, hD0, hN, hX⟩ := hv
  have hx := B.exec
  have hb := B.bytes
  have hr := B.returns
  have hts := atoms_spec (ws := wsX6_judge) B.pre
  have hown : s.vm.findClass RX6 = some m.cls := findClass_of_methodNamed B.named
  have hlocks := B.notSynchronized
  have hin6 : ∀ w ∈ wsX60, w ∈ wsX6_judge := (fun w h => (List.mem_cons_of_mem _ (List.mem_append_left _ (List.mem_append_right _ h))))
  subst hsz
  have hD := hD0.self (sz := s.heap.size)
  have hAE := k_AE hD0 hX
  generalize hAe : va_A [(h0, .inr (6, f0)), (h1, .inr (2, f1)), (h2, .inl (cI, 8192, .inl g0)), (h3, .inl (cI, 48000, .inl g1)), (h4, .inl (cI, 48000, .inl g2))] s.heap.size = A at hD hAE ⊢
  have hA : ∀ q : Nat, s.heap.size ≤ q → A q := fun q h => by rw [← hAe]; exact Or.inr h
  have hS : va_S A s.heap s.heap [] := va_S.rf
  have hP : va_P D vwCl [(h0, .inr (6, f0)), (h1, .inr (2, f1)), (h2, .inl (cI, 8192, .inl g0)), (h3, .inl (cI, 48000, .inl g1)), (h4, .inl (cI, 48000, .inl g2))] s.heap := hP
  have hl := lv_entry ([.ref h0, .int 0] : List Value) (n := 4) (Nat.le_of_ble_eq_true rfl)
  rw [lg_entry_eq]
  generalize (lg_sl ([.ref h0, .int 0]) ++ List.replicate (4 - (lg_sl ([.ref h0, .int 0])).length) Slot.unset).toArray = ls at hl ⊢
  have hl : lv_has ls 4 [(0, .ref h0), (1, .int 0)] := hl
  refine lv_aload_n hx hb dX6_judge_0 rfl (lv_at hl 0 rfl) ?_
  refine lv_iload_n hx hb dX6_judge_1 rfl (lv_at hl 1 rfl) ?_
  refine k_cVi (As := [.int 0]) (rest := []) (wc := [(h0, .inr (6, f0)), (h1, .inr (2, f1)), (h2, .inl (cI, 8192, .inl g0)), (h3, .inl (cI, 48000, .inl g1))]) (wr := [(h4, .inl (cI, 48000, .inl g2))]) (w1 := [(h0, .inr (6, ((((((((((((((((((((((((((((((f0.set 10 (.int 0)).set 11 (.int 0)).set 12 (.int 1)).set 11 (.int 0)).set 11 (.int 0)).set 11 (.int 0)).set 11 (.int 0)).set 11 (.int 0)).set 11 (.int 0)).set 11 (.int 0)).set 11 (.int 0)).set 11 (.int 0)).set 11 (.int 0)).set 11 (.int 0)).set 11 (.int 0)).set 11 (.int 0)).set 11 (.int 0)).set 11 (.int 0)).set 11 (.int 0)).set 11 (.int 0)).set 11 (.int 0)).set 11 (.int 0)).set 11 (.int 0)).set 11 (.int 0)).set 11 (.int 0)).set 11 (.int 0)).set 11 (.int 0)).set 11 (.int 0)).set 13 (.int 0)).set 13 (.int 1)))), (h1, .inr (2, f1)), (h2, .inl (cI, 8192, .inl (upd (k_fill 0 8192 g0) 782 1))), (h3, .inl (cI, 48000, .inl (upd g1 0 0)))]) ⟨hx, hb, hml, hown, hts⟩ hN hX hAE hK hP hD hS hA [0, 1, 2, 3] [4] (ci := 6) rfl rfl rfl rfl (by decide +kernel) (by decide +kernel) (by decide +kernel) (c_X6_explore_0 l E D cI cJ cB cZ h0 f0 h1 f1 h2 g0 h3 g1 e0 e1 e2 e3 e4 e5 e6 e7) (cwV 1 hts gX6_judge_X6_explore rfl rfl rfl (by decide +kernel) ⟨Nat.le_of_ble_eq_true rfl, Nat.le_of_ble_eq_true rfl⟩) rfl hl.1 (Nat.le_of_ble_eq_true rfl) dX6_judge_2 ⟨Nat.le_of_ble_eq_true rfl, Nat.le_of_ble_eq_true rfl⟩ (fun H locs hP hD hS => ?_)
  have hP : va_P D vwCl [(h4, .inl (cI, 48000, .inl g2)), (h0, .inr (6, ((((((((((((((((((((((((((((((f0.set 10 (.int 0)).set 11 (.int 0)).set 12 (.int 1)).set 11 (.int 0)).set 11 (.int 0)).set 11 (.int 0)).set 11 (.int 0)).set 11 (.int 0)).set 11 (.int 0)).set 11 (.int 0)).set 11 (.int 0)).set 11 (.int 0)).set 11 (.int 0)).set 11 (.int 0)).set 11 (.int 0)).set 11 (.int 0)).set 11 (.int 0)).set 11 (.int 0)).set 11 (.int 0)).set 11 (.int 0)).set 11 (.int 0)).set 11 (.int 0)).set 11 (.int 0)).set 11 (.int 0)).set 11 (.int 0)).set 11 (.int 0)).set 11 (.int 0)).set 11 (.int 0)).set 13 (.int 0)).set 13 (.int 1)))), (h1, .inr (2, f1)), (h2, .inl (cI, 8192, .inl (upd (k_fill 0 8192 g0) 782 1))), (h3, .inl (cI, 48000, .inl (upd g1 0 0)))] H := hP
  have hD : va_D A [(h4, .inl (cI, 48000, .inl g2)), (h0, .inr (6, ((((((((((((((((((((((((((((((f0.set 10 (.int 0)).set 11 (.int 0)).set 12 (.int 1)).set 11 (.int 0)).set 11 (.int 0)).set 11 (.int 0)).set 11 (.int 0)).set 11 (.int 0)).set 11 (.int 0)).set 11 (.int 0)).set 11 (.int 0)).set 11 (.int 0)).set 11 (.int 0)).set 11 (.int 0)).set 11 (.int 0)).set 11 (.int 0)).set 11 (.int 0)).set 11 (.int 0)).set 11 (.int 0)).set 11 (.int 0)).set 11 (.int 0)).set 11 (.int 0)).set 11 (.int 0)).set 11 (.int 0)).set 11 (.int 0)).set 11 (.int 0)).set 11 (.int 0)).set 11 (.int 0)).set 13 (.int 0)).set 13 (.int 1)))), (h1, .inr (2, f1)), (h2, .inl (cI, 8192, .inl (upd (k_fill 0 8192 g0) 782 1))), (h3, .inl (cI, 48000, .inl (upd g1 0 0)))] := hD
  refine lv_if_ne (tgt := 10) hx hb dX6_judge_5 (by decide) (fun _ => ?_) (fun c9 => absurd c9 (by decide))
  refine lv_iconst (v := 0) hx hb dX6_judge_10 (by decide) ?_
  refine lv_istore_n (lv' := [(2, .int 0), (0, .ref h0), (1, .int 0)]) hx hb dX6_judge_11 rfl hl (by decide) rfl (fun ls hl => ?_)
  refine lv_iload_n hx hb dX6_judge_12 rfl (lv_at hl 0 rfl) ?_
  refine lv_aload_n hx hb dX6_judge_13 rfl (lv_at hl 1 rfl) ?_
  refine va_get (D := D) (ref := "IntegerHouse$Places") (ci := 6) (v := .int 1) (C := RX6) (T := TX6) (N := 14) hx hb hts hin6 hown hK hP 1 rfl rfl 13 (by decide) (hts (.fieldLink RX6 52 "IntegerHouse$Places" "size" "I") (List.mem_cons_of_mem _ (List.mem_append_left _ (List.mem_append_left _ (List.mem_append_left _ (List.mem_of_getElem? (i := 0) rfl)))))) (fun _ h9 => h9) (k_set (k_set (k_ne (by decide) (k_ne (by decide) (k_ne (by decide) (k_ne (by decide) (k_ne (by decide) (k_ne (by decide) (k_ne (by decide) (k_ne (by decide) (k_ne (by decide) (k_ne (by decide) (k_ne (by decide) (k_ne (by decide) (k_ne (by decide) (k_ne (by decide) (k_ne (by decide) (k_ne (by decide) (k_ne (by decide) (k_ne (by decide) (k_ne (by decide) (k_ne (by decide) (k_ne (by decide) (k_ne (by decide) (k_ne (by decide) (k_ne (by decide) (k_ne (by decide) (k_ne (by decide) (k_ne (by decide) (k_ne (by decide) e6)))))))))))))))))))))))))))))) dX6_judge_14 ?_
  refine lv_icmp_ge (tgt := 76) hx hb dX6_judge_17 (by decide) (fun c9 => absurd c9 (by decide)) (fun _ => ?_)
  refine lv_iload_n hx hb dX6_judge_20 rfl (lv_at hl 0 rfl) ?_
  refine lv_sipush (v := 3000) hx hb dX6_judge_21 (by decide) ?_
  refine lv_icmp_ge (tgt := 76) hx hb dX6_judge_24 (by decide) (fun c9 => absurd c9 (by decide)) (fun _ => ?_)
  refine lv_iconst (v := 0) hx hb dX6_judge_27 (by decide) ?_
  refine lv_istore_n (lv' := [(3, .int 0), (2, .int 0), (0, .ref h0), (1, .int 0)]) hx hb dX6_judge_28 rfl hl (by decide) rfl (fun ls hl => ?_)
  refine lv_iload_n hx hb dX6_judge_29 rfl (lv_at hl 0 rfl) ?_
  refine lv_aload_n hx hb dX6_judge_30 rfl (lv_at hl 2 rfl) ?_
  refine va_get (D := D) (ref := "IntegerHouse$Places") (ci := 6) (v := .int 1) (C := RX6) (T := TX6) (N := 14) hx hb hts hin6 hown hK hP 1 rfl rfl 12 (by decide) (hts (.fieldLink RX6 56 "IntegerHouse$Places" "letters" "I") (List.mem_cons_of_mem _ (List.mem_append_left _ (List.mem_append_left _ (List.mem_append_left _ (List.mem_of_getElem? (i := 1) rfl)))))) (fun _ h9 => h9) (k_ne (by decide) (k_ne (by decide) (k_ne (by decide) (k_ne (by decide) (k_ne (by decide) (k_ne (by decide) (k_ne (by decide) (k_ne (by decide) (k_ne (by decide) (k_ne (by decide) (k_ne (by decide) (k_ne (by decide) (k_ne (by decide) (k_ne (by decide) (k_ne (by decide) (k_ne (by decide) (k_ne (by decide) (k_ne (by decide) (k_ne (by decide) (k_ne (by decide) (k_ne (by decide) (k_ne (by decide) (k_ne (by decide) (k_ne (by decide) (k_ne (by decide) (k_ne (by decide) (k_ne (by decide) (k_set (k_ne (by decide) (k_ne (by decide) e4)))))))))))))))))))))))))))))) dX6_judge_31 ?_
  refine lv_icmp_ge (tgt := 70) hx hb dX6_judge_34 (by decide) (fun c9 => absurd c9 (by decide)) (fun _ => ?_)
  refine lv_iload_n hx hb dX6_judge_37 rfl (lv_at hl 0 rfl) ?_
  refine lv_bipush (v := 16) hx hb dX6_judge_38 (by decide) ?_
  refine lv_icmp_ge (tgt := 70) hx hb dX6_judge_40 (by decide) (fun c9 => absurd c9 (by decide)) (fun _ => ?_)
  refine lv_aload_n hx hb dX6_judge_43 rfl (lv_at hl 2 rfl) ?_
  refine va_get (D := D) (ref := "IntegerHouse$Places") (ci := 6) (v := .ref h4) (C := RX6) (T := TX6) (N := 14) hx hb hts hin6 hown hK hP 1 rfl rfl 8 (by decide) (hts (.fieldLink RX6 38 "IntegerHouse$Places" "so" "[I") (List.mem_cons_of_mem _ (List.mem_append_left _ (List.mem_append_left _ (List.mem_append_left _ (List.mem_of_getElem? (i := 2) rfl)))))) (fun _ h9 => h9) (k_ne (by decide) (k_ne (by decide) (k_ne (by decide) (k_ne (by decide) (k_ne (by decide) (k_ne (by decide) (k_ne (by decide) (k_ne (by decide) (k_ne (by decide) (k_ne (by decide) (k_ne (by decide) (k_ne (by decide) (k_ne (by decide) (k_ne (by decide) (k_ne (by decide) (k_ne (by decide) (k_ne (by decide) (k_ne (by decide) (k_ne (by decide) (k_ne (by decide) (k_ne (by decide) (k_ne (by decide) (k_ne (by decide) (k_ne (by decide) (k_ne (by decide) (k_ne (by decide) (k_ne (by decide) (k_ne (by decide) (k_ne (by decide) (k_ne (by decide) e8)))))))))))))))))))))))))))))) dX6_judge_44 ?_
  refine lv_iload_n hx hb dX6_judge_47 rfl (lv_at hl 1 rfl) ?_
  refine lv_bipush (v := 16) hx hb dX6_judge_48 (by decide) ?_
  refine lv_imul hx hb dX6_judge_50 ?_
  refine k_topi (y := 0) (by decide) ?_
  refine lv_iload_n hx hb dX6_judge_51 rfl (lv_at hl 0 rfl) ?_
  refine lv_iadd hx hb dX6_judge_52 ?_
  refine k_topi (y := 0) (by decide) ?_
  refine lv_aload_n hx hb dX6_judge_53 rfl (lv_at hl 2 rfl) ?_
  refine lv_aload_n hx hb dX6_judge_54 rfl (lv_at hl 2 rfl) ?_
  refine lv_iload_n hx hb dX6_judge_55 rfl (lv_at hl 1 rfl) ?_
  refine lv_iload_n hx hb dX6_judge_56 rfl (lv_at hl 0 rfl) ?_
  refine k_cVi (As := [.int 0, .int 0]) (rest := [.ref h0, .int 0, .ref h4]) (wc := [(h0, .inr (6, ((((((((((((((((((((((((((((((f0.set 10 (.int 0)).set 11 (.int 0)).set 12 (.int 1)).set 11 (.int 0)).set 11 (.int 0)).set 11 (.int 0)).set 11 (.int 0)).set 11 (.int 0)).set 11 (.int 0)).set 11 (.int 0)).set 11 (.int 0)).set 11 (.int 0)).set 11 (.int 0)).set 11 (.int 0)).set 11 (.int 0)).set 11 (.int 0)).set 11 (.int 0)).set 11 (.int 0)).set 11 (.int 0)).set 11 (.int 0)).set 11 (.int 0)).set 11 (.int 0)).set 11 (.int 0)).set 11 (.int 0)).set 11 (.int 0)).set 11 (.int 0)).set 11 (.int 0)).set 11 (.int 0)).set 13 (.int 0)).set 13 (.int 1))))]) (wr := [(h4, .inl (cI, 48000, .inl g2)), (h1, .inr (2, f1)), (h2, .inl (cI, 8192, .inl (upd (k_fill 0 8192 g0) 782 1))), (h3, .inl (cI, 48000, .inl (upd g1 0 0)))]) (w1 := [(h0, .inr (6, ((((((((((((((((((((((((((((((f0.set 10 (.int 0)).set 11 (.int 0)).set 12 (.int 1)).set 11 (.int 0)).set 11 (.int 0)).set 11 (.int 0)).set 11 (.int 0)).set 11 (.int 0)).set 11 (.int 0)).set 11 (.int 0)).set 11 (.int 0)).set 11 (.int 0)).set 11 (.int 0)).set 11 (.int 0)).set 11 (.int 0)).set 11 (.int 0)).set 11 (.int 0)).set 11 (.int 0)).set 11 (.int 0)).set 11 (.int 0)).set 11 (.int 0)).set 11 (.int 0)).set 11 (.int 0)).set 11 (.int 0)).set 11 (.int 0)).set 11 (.int 0)).set 11 (.int 0)).set 11 (.int 0)).set 13 (.int 0)).set 13 (.int 1))))]) ⟨hx, hb, hml, hown, hts⟩ hN hX hAE hK hP hD hS hA [1] [0, 2, 3, 4] (ci := 6) rfl rfl rfl rfl (by decide +kernel) (by decide +kernel) (by decide +kernel) (c_X6_atomsAt_0 l E D cI cJ cB cZ h0 (((((((((((((((((((((((((((((((f0.set 10 (.int 0)).set 11 (.int 0)).set 12 (.int 1)).set 11 (.int 0)).set 11 (.int 0)).set 11 (.int 0)).set 11 (.int 0)).set 11 (.int 0)).set 11 (.int 0)).set 11 (.int 0)).set 11 (.int 0)).set 11 (.int 0)).set 11 (.int 0)).set 11 (.int 0)).set 11 (.int 0)).set 11 (.int 0)).set 11 (.int 0)).set 11 (.int 0)).set 11 (.int 0)).set 11 (.int 0)).set 11 (.int 0)).set 11 (.int 0)).set 11 (.int 0)).set 11 (.int 0)).set 11 (.int 0)).set 11 (.int 0)).set 11 (.int 0)).set 11 (.int 0)).set 13 (.int 0)).set 13 (.int 1))) (k_ne (by decide) (k_ne (by decide) (k_ne (by decide) (k_ne (by decide) (k_ne (by decide) (k_ne (by decide) (k_ne (by decide) (k_ne (by decide) (k_ne (by decide) (k_ne (by decide) (k_ne (by decide) (k_ne (by decide) (k_ne (by decide) (k_ne (by decide) (k_ne (by decide) (k_ne (by decide) (k_ne (by decide) (k_ne (by decide) (k_ne (by decide) (k_ne (by decide) (k_ne (by decide) (k_ne (by decide) (k_ne (by decide) (k_ne (by decide) (k_ne (by decide) (k_ne (by decide) (k_ne (by decide) (k_ne (by decide) (k_ne (by decide) (k_set e0))))))))))))))))))))))))))))))) (cwV 2 hts gX6_judge_X6_atomsAt rfl rfl rfl (by decide +kernel) ⟨Nat.le_of_ble_eq_true rfl, Nat.le_of_ble_eq_true rfl⟩) rfl hl.1 (Nat.le_of_ble_eq_true rfl) dX6_judge_57 ⟨Nat.le_of_ble_eq_true rfl, Nat.le_of_ble_eq_true rfl⟩ (fun H locs hP hD hS => ?_)
  have hP : va_P D vwCl [(h4, .inl (cI, 48000, .inl g2)), (h1, .inr (2, f1)), (h2, .inl (cI, 8192, .inl (upd (k_fill 0 8192 g0) 782 1))), (h3, .inl (cI, 48000, .inl (upd g1 0 0))), (h0, .inr (6, ((((((((((((((((((((((((((((((f0.set 10 (.int 0)).set 11 (.int 0)).set 12 (.int 1)).set 11 (.int 0)).set 11 (.int 0)).set 11 (.int 0)).set 11 (.int 0)).set 11 (.int 0)).set 11 (.int 0)).set 11 (.int 0)).set 11 (.int 0)).set 11 (.int 0)).set 11 (.int 0)).set 11 (.int 0)).set 11 (.int 0)).set 11 (.int 0)).set 11 (.int 0)).set 11 (.int 0)).set 11 (.int 0)).set 11 (.int 0)).set 11 (.int 0)).set 11 (.int 0)).set 11 (.int 0)).set 11 (.int 0)).set 11 (.int 0)).set 11 (.int 0)).set 11 (.int 0)).set 11 (.int 0)).set 13 (.int 0)).set 13 (.int 1))))] H := hP
  have hD : va_D A [(h4, .inl (cI, 48000, .inl g2)), (h1, .inr (2, f1)), (h2, .inl (cI, 8192, .inl (upd (k_fill 0 8192 g0) 782 1))), (h3, .inl (cI, 48000, .inl (upd g1 0 0))), (h0, .inr (6, ((((((((((((((((((((((((((((((f0.set 10 (.int 0)).set 11 (.int 0)).set 12 (.int 1)).set 11 (.int 0)).set 11 (.int 0)).set 11 (.int 0)).set 11 (.int 0)).set 11 (.int 0)).set 11 (.int 0)).set 11 (.int 0)).set 11 (.int 0)).set 11 (.int 0)).set 11 (.int 0)).set 11 (.int 0)).set 11 (.int 0)).set 11 (.int 0)).set 11 (.int 0)).set 11 (.int 0)).set 11 (.int 0)).set 11 (.int 0)).set 11 (.int 0)).set 11 (.int 0)).set 11 (.int 0)).set 11 (.int 0)).set 11 (.int 0)).set 11 (.int 0)).set 11 (.int 0)).set 11 (.int 0)).set 13 (.int 0)).set 13 (.int 1))))] := hD
  refine k_cVi (As := [.int 0]) (rest := [.int 0, .ref h4]) (wc := [(h0, .inr (6, ((((((((((((((((((((((((((((((f0.set 10 (.int 0)).set 11 (.int 0)).set 12 (.int 1)).set 11 (.int 0)).set 11 (.int 0)).set 11 (.int 0)).set 11 (.int 0)).set 11 (.int 0)).set 11 (.int 0)).set 11 (.int 0)).set 11 (.int 0)).set 11 (.int 0)).set 11 (.int 0)).set 11 (.int 0)).set 11 (.int 0)).set 11 (.int 0)).set 11 (.int 0)).set 11 (.int 0)).set 11 (.int 0)).set 11 (.int 0)).set 11 (.int 0)).set 11 (.int 0)).set 11 (.int 0)).set 11 (.int 0)).set 11 (.int 0)).set 11 (.int 0)).set 11 (.int 0)).set 11 (.int 0)).set 13 (.int 0)).set 13 (.int 1))))]) (wr := [(h4, .inl (cI, 48000, .inl g2)), (h1, .inr (2, f1)), (h2, .inl (cI, 8192, .inl (upd (k_fill 0 8192 g0) 782 1))), (h3, .inl (cI, 48000, .inl (upd g1 0 0)))]) (w1 := [(h0, .inr (6, ((((((((((((((((((((((((((((((f0.set 10 (.int 0)).set 11 (.int 0)).set 12 (.int 1)).set 11 (.int 0)).set 11 (.int 0)).set 11 (.int 0)).set 11 (.int 0)).set 11 (.int 0)).set 11 (.int 0)).set 11 (.int 0)).set 11 (.int 0)).set 11 (.int 0)).set 11 (.int 0)).set 11 (.int 0)).set 11 (.int 0)).set 11 (.int 0)).set 11 (.int 0)).set 11 (.int 0)).set 11 (.int 0)).set 11 (.int 0)).set 11 (.int 0)).set 11 (.int 0)).set 11 (.int 0)).set 11 (.int 0)).set 11 (.int 0)).set 11 (.int 0)).set 11 (.int 0)).set 11 (.int 0)).set 13 (.int 0)).set 13 (.int 1))))]) ⟨hx, hb, hml, hown, hts⟩ hN hX hAE hK hP hD hS hA [4] [0, 1, 2, 3] (ci := 6) rfl rfl rfl rfl (by decide +kernel) (by decide +kernel) (by decide +kernel) (c_X6_soOf_0 l E D cI cJ cB cZ h0 (((((((((((((((((((((((((((((((f0.set 10 (.int 0)).set 11 (.int 0)).set 12 (.int 1)).set 11 (.int 0)).set 11 (.int 0)).set 11 (.int 0)).set 11 (.int 0)).set 11 (.int 0)).set 11 (.int 0)).set 11 (.int 0)).set 11 (.int 0)).set 11 (.int 0)).set 11 (.int 0)).set 11 (.int 0)).set 11 (.int 0)).set 11 (.int 0)).set 11 (.int 0)).set 11 (.int 0)).set 11 (.int 0)).set 11 (.int 0)).set 11 (.int 0)).set 11 (.int 0)).set 11 (.int 0)).set 11 (.int 0)).set 11 (.int 0)).set 11 (.int 0)).set 11 (.int 0)).set 11 (.int 0)).set 13 (.int 0)).set 13 (.int 1))) (k_ne (by decide) (k_ne (by decide) (k_set (k_set (k_set (k_set (k_set (k_set (k_set (k_set (k_set (k_set (k_set (k_set (k_set (k_set (k_set (k_set (k_set (k_set (k_set (k_set (k_set (k_set (k_set (k_set (k_set (k_ne (by decide) (k_set (k_ne (by decide) e1))))))))))))))))))))))))))))))) (cwV 1 hts gX6_judge_X6_soOf rfl rfl rfl (by decide +kernel) ⟨Nat.le_of_ble_eq_true rfl, Nat.le_of_ble_eq_true rfl⟩) rfl hl.1 (Nat.le_of_ble_eq_true rfl) dX6_judge_60 ⟨Nat.le_of_ble_eq_true rfl, Nat.le_of_ble_eq_true rfl⟩ (fun H locs hP hD hS => ?_)
  have hP : va_P D vwCl [(h4, .inl (cI, 48000, .inl g2)), (h1, .inr (2, f1)), (h2, .inl (cI, 8192, .inl (upd (k_fill 0 8192 g0) 782 1))), (h3, .inl (cI, 48000, .inl (upd g1 0 0))), (h0, .inr (6, ((((((((((((((((((((((((((((((f0.set 10 (.int 0)).set 11 (.int 0)).set 12 (.int 1)).set 11 (.int 0)).set 11 (.int 0)).set 11 (.int 0)).set 11 (.int 0)).set 11 (.int 0)).set 11 (.int 0)).set 11 (.int 0)).set 11 (.int 0)).set 11 (.int 0)).set 11 (.int 0)).set 11 (.int 0)).set 11 (.int 0)).set 11 (.int 0)).set 11 (.int 0)).set 11 (.int 0)).set 11 (.int 0)).set 11 (.int 0)).set 11 (.int 0)).set 11 (.int 0)).set 11 (.int 0)).set 11 (.int 0)).set 11 (.int 0)).set 11 (.int 0)).set 11 (.int 0)).set 11 (.int 0)).set 13 (.int 0)).set 13 (.int 1))))] H := hP
  have hD : va_D A [(h4, .inl (cI, 48000, .inl g2)), (h1, .inr (2, f1)), (h2, .inl (cI, 8192, .inl (upd (k_fill 0 8192 g0) 782 1))), (h3, .inl (cI, 48000, .inl (upd g1 0 0))), (h0, .inr (6, ((((((((((((((((((((((((((((((f0.set 10 (.int 0)).set 11 (.int 0)).set 12 (.int 1)).set 11 (.int 0)).set 11 (.int 0)).set 11 (.int 0)).set 11 (.int 0)).set 11 (.int 0)).set 11 (.int 0)).set 11 (.int 0)).set 11 (.int 0)).set 11 (.int 0)).set 11 (.int 0)).set 11 (.int 0)).set 11 (.int 0)).set 11 (.int 0)).set 11 (.int 0)).set 11 (.int 0)).set 11 (.int 0)).set 11 (.int 0)).set 11 (.int 0)).set 11 (.int 0)).set 11 (.int 0)).set 11 (.int 0)).set 11 (.int 0)).set 11 (.int 0)).set 11 (.int 0)).set 11 (.int 0)).set 13 (.int 0)).set 13 (.int 1))))] := hD
  refine va_iast hx hb hK hP hD hS 0 0 rfl rfl (k_in (by decide)) dX6_judge_63 (fun H locs hP hD hS => ?_)
  have hP : va_P D vwCl [(h4, .inl (cI, 48000, .inl (upd g2 0 0))), (h1, .inr (2, f1)), (h2, .inl (cI, 8192, .inl (upd (k_fill 0 8192 g0) 782 1))), (h3, .inl (cI, 48000, .inl (upd g1 0 0))), (h0, .inr (6, ((((((((((((((((((((((((((((((f0.set 10 (.int 0)).set 11 (.int 0)).set 12 (.int 1)).set 11 (.int 0)).set 11 (.int 0)).set 11 (.int 0)).set 11 (.int 0)).set 11 (.int 0)).set 11 (.int 0)).set 11 (.int 0)).set 11 (.int 0)).set 11 (.int 0)).set 11 (.int 0)).set 11 (.int 0)).set 11 (.int 0)).set 11 (.int 0)).set 11 (.int 0)).set 11 (.int 0)).set 11 (.int 0)).set 11 (.int 0)).set 11 (.int 0)).set 11 (.int 0)).set 11 (.int 0)).set 11 (.int 0)).set 11 (.int 0)).set 11 (.int 0)).set 11 (.int 0)).set 11 (.int 0)).set 13 (.int 0)).set 13 (.int 1))))] H := hP
  have hD : va_D A [(h4, .inl (cI, 48000, .inl (upd g2 0 0))), (h1, .inr (2, f1)), (h2, .inl (cI, 8192, .inl (upd (k_fill 0 8192 g0) 782 1))), (h3, .inl (cI, 48000, .inl (upd g1 0 0))), (h0, .inr (6, ((((((((((((((((((((((((((((((f0.set 10 (.int 0)).set 11 (.int 0)).set 12 (.int 1)).set 11 (.int 0)).set 11 (.int 0)).set 11 (.int 0)).set 11 (.int 0)).set 11 (.int 0)).set 11 (.int 0)).set 11 (.int 0)).set 11 (.int 0)).set 11 (.int 0)).set 11 (.int 0)).set 11 (.int 0)).set 11 (.int 0)).set 11 (.int 0)).set 11 (.int 0)).set 11 (.int 0)).set 11 (.int 0)).set 11 (.int 0)).set 11 (.int 0)).set 11 (.int 0)).set 11 (.int 0)).set 11 (.int 0)).set 11 (.int 0)).set 11 (.int 0)).set 11 (.int 0)).set 11 (.int 0)).set 13 (.int 0)).set 13 (.int 1))))] := hD
  refine lv_iinc (v := 1) (lv' := [(3, .int 1), (2, .int 0), (0, .ref h0), (1, .int 0)]) hx hb dX6_judge_64 hl (k := 0) rfl (by decide) (by decide) rfl (fun ls hl => ?_)
  refine lv_goto (tgt := 29) hx hb dX6_judge_67 (by decide) ?_
  refine lv_iload_n hx hb dX6_judge_29 rfl (lv_at hl 0 rfl) ?_
  refine lv_aload_n hx hb dX6_judge_30 rfl (lv_at hl 2 rfl) ?_
  refine va_get (D := D) (ref := "IntegerHouse$Places") (ci := 6) (v := .int 1) (C := RX6) (T := TX6) (N := 14) hx hb hts hin6 hown hK hP 4 rfl rfl 12 (by decide) (hts (.fieldLink RX6 56 "IntegerHouse$Places" "letters" "I") (List.mem_cons_of_mem _ (List.mem_append_left _ (List.mem_append_left _ (List.mem_append_left _ (List.mem_of_getElem? (i := 1) rfl)))))) (fun _ h9 => h9) (k_ne (by decide) (k_ne (by decide) (k_ne (by decide) (k_ne (by decide) (k_ne (by decide) (k_ne (by decide) (k_ne (by decide) (k_ne (by decide) (k_ne (by decide) (k_ne (by decide) (k_ne (by decide) (k_ne (by decide) (k_ne (by decide) (k_ne (by decide) (k_ne (by decide) (k_ne (by decide) (k_ne (by decide) (k_ne (by decide) (k_ne (by decide) (k_ne (by decide) (k_ne (by decide) (k_ne (by decide) (k_ne (by decide) (k_ne (by decide) (k_ne (by decide) (k_ne (by decide) (k_ne (by decide) (k_set (k_ne (by decide) (k_ne (by decide) e4)))))))))))))))))))))))))))))) dX6_judge_31 ?_
  refine lv_icmp_ge (tgt := 70) hx hb dX6_judge_34 (by decide) (fun _ => ?_) (fun c9 => absurd (by decide) c9)
  refine lv_iinc (v := 1) (lv' := [(2, .int 1), (3, .int 1), (0, .ref h0), (1, .int 0)]) hx hb dX6_judge_70 hl (k := 1) rfl (by decide) (by decide) rfl (fun ls hl => ?_)
  refine lv_goto (tgt := 12) hx hb dX6_judge_73 (by decide) ?_
  refine lv_iload_n hx hb dX6_judge_12 rfl (lv_at hl 0 rfl) ?_
  refine lv_aload_n hx hb dX6_judge_13 rfl (lv_at hl 2 rfl) ?_
  refine va_get (D := D) (ref := "IntegerHouse$Places") (ci := 6) (v := .int 1) (C := RX6) (T := TX6) (N := 14) hx hb hts hin6 hown hK hP 4 rfl rfl 13 (by decide) (hts (.fieldLink RX6 52 "IntegerHouse$Places" "size" "I") (List.mem_cons_of_mem _ (List.mem_append_left _ (List.mem_append_left _ (List.mem_append_left _ (List.mem_of_getElem? (i := 0) rfl)))))) (fun _ h9 => h9) (k_set (k_set (k_ne (by decide) (k_ne (by decide) (k_ne (by decide) (k_ne (by decide) (k_ne (by decide) (k_ne (by decide) (k_ne (by decide) (k_ne (by decide) (k_ne (by decide) (k_ne (by decide) (k_ne (by decide) (k_ne (by decide) (k_ne (by decide) (k_ne (by decide) (k_ne (by decide) (k_ne (by decide) (k_ne (by decide) (k_ne (by decide) (k_ne (by decide) (k_ne (by decide) (k_ne (by decide) (k_ne (by decide) (k_ne (by decide) (k_ne (by decide) (k_ne (by decide) (k_ne (by decide) (k_ne (by decide) (k_ne (by decide) e6)))))))))))))))))))))))))))))) dX6_judge_14 ?_
  refine lv_icmp_ge (tgt := 76) hx hb dX6_judge_17 (by decide) (fun _ => ?_) (fun c9 => absurd (by decide) c9)
  refine lv_iconst (v := 1) hx hb dX6_judge_76 (by decide) ?_
  have hP := hP.sub (ws' := [(h0, .inr (6, ((((((((((((((((((((((((((((((f0.set 10 (.int 0)).set 11 (.int 0)).set 12 (.int 1)).set 11 (.int 0)).set 11 (.int 0)).set 11 (.int 0)).set 11 (.int 0)).set 11 (.int 0)).set 11 (.int 0)).set 11 (.int 0)).set 11 (.int 0)).set 11 (.int 0)).set 11 (.int 0)).set 11 (.int 0)).set 11 (.int 0)).set 11 (.int 0)).set 11 (.int 0)).set 11 (.int 0)).set 11 (.int 0)).set 11 (.int 0)).set 11 (.int 0)).set 11 (.int 0)).set 11 (.int 0)).set 11 (.int 0)).set 11 (.int 0)).set 11 (.int 0)).set 11 (.int 0)).set 11 (.int 0)).set 13 (.int 0)).set 13 (.int 1)))), (h1, .inr (2, f1)), (h2, .inl (cI, 8192, .inl (upd (k_fill 0 8192 g0) 782 1))), (h3, .inl (cI, 48000, .inl (upd g1 0 0))), (h4, .inl (cI, 48000, .inl (upd g2 0 0)))]) [4, 1, 2, 3, 0] rfl
  have hD := hD.sub (ws' := [(h0, .inr (6, ((((((((((((((((((((((((((((((f0.set 10 (.int 0)).set 11 (.int 0)).set 12 (.int 1)).set 11 (.int 0)).set 11 (.int 0)).set 11 (.int 0)).set 11 (.int 0)).set 11 (.int 0)).set 11 (.int 0)).set 11 (.int 0)).set 11 (.int 0)).set 11 (.int 0)).set 11 (.int 0)).set 11 (.int 0)).set 11 (.int 0)).set 11 (.int 0)).set 11 (.int 0)).set 11 (.int 0)).set 11 (.int 0)).set 11 (.int 0)).set 11 (.int 0)).set 11 (.int 0)).set 11 (.int 0)).set 11 (.int 0)).set 11 (.int 0)).set 11 (.int 0)).set 11 (.int 0)).set 11 (.int 0)).set 13 (.int 0)).set 13 (.int 1)))), (h1, .inr (2, f1)), (h2, .inl (cI, 8192, .inl (upd (k_fill 0 8192 g0) 782 1))), (h3, .inl (cI, 48000, .inl (upd g1 0 0))), (h4, .inl (cI, 48000, .inl (upd g2 0 0)))]) [4, 1, 2, 3, 0] (by decide +kernel) rfl
  exact W.zret (v := 1) hx hb hr rfl (fun t ht hW => ⟨⟨1, (), rfl, rfl, kB_mk ht hW hP hK hD⟩, hS.F ht⟩) hS.2.2 dX6_judge_77
set_option maxHeartbeats 400000000 in
set_option maxRecDepth 100000 in
theorem c_X6_accepts_0 (l : Launch) (E : kE) (D : va_G) (cI cJ cB cZ : ClassId) (h0 : Nat) (f0 : List Value) (h1 : Nat) (g0 : Nat → Int32) (e0 : f0[8]? = some (.ref h1)) (e1 : g0 0 = 0) : kI l E D (kT cI cJ cB cZ) yX6_accepts wsX6_accepts ({ frames := 0, cells := 0, slots := 0, locals := 0 }) [.ref h0, .int 0, .int 0, .int 0, .int 0] [(h0, .inr (6, f0)), (h1, .inl (cI, 48000, .inl g0))] (1) [(h0, .inr (6, f0)), (h1, .inl (cI, 48000, .inl g0))] 0 0 := by
  intro sz
  refine Met.ofW (cc := cX6_accepts) (maxL := 7) (ret := (some .boolean)) (by decide) rfl ?_
  intro p e s m args below meth c s₁ B hml hv
  obtain ⟨rfl, hsz, hP, hK, hD0, hN, hX⟩ := hv
  have hx := B.exec
  have hb := B.bytes
  have hr := B.returns
  have hts := atoms_spec (ws := wsX6_accepts) B.pre
  have hown : s.vm.findClass RX6 = some m.cls := findClass_of_methodNamed B.named
  have hlocks := B.notSynchronized
  have hin6 : ∀ w ∈ wsX60, w ∈ wsX6_accepts := (fun w h => (List.mem_cons_of_mem _ (List.mem_append_right _ h)))
  subst hsz
  have hD := hD0.self (sz := s.heap.size)
  have hAE := k_AE hD0 hX
  generalize hAe : va_A [(h0, .inr (6, f0)), (h1, .inl (cI, 48000, .inl g0))] s.heap.size = A at hD hAE ⊢
  have hA : ∀ q : Nat, s.heap.size ≤ q → A q := fun q h => by rw [← hAe]; exact Or.inr h
  have hS : va_S A s.heap s.heap [] := va_S.rf
  have hP : va_P D vwCl [(h0, .inr (6, f0)), (h1, .inl (cI, 48000, .inl g0))] s.heap := hP
  have hl := lv_entry ([.ref h0, .int 0, .int 0, .int 0, .int 0] : List Value) (n := 7) (Nat.le_of_ble_eq_true rfl)
  rw [lg_entry_eq]
  generalize (lg_sl ([.ref h0, .int 0, .int 0, .int 0, .int 0]) ++ List.replicate (7 - (lg_sl ([.ref h0, .int 0, .int 0, .int 0, .int 0])).length) Slot.unset).toArray = ls at hl ⊢
  have hl : lv_has ls 7 [(0, .ref h0), (1, .int 0), (2, .int 0), (3, .int 0), (4, .int 0)] := hl
  refine lv_iload_n hx hb dX6_accepts_0 rfl (lv_at hl 1 rfl) ?_
  refine lv_if_lt (tgt := 25) hx hb dX6_accepts_1 (by decide) (fun c9 => absurd c9 (by decide)) (fun _ => ?_)
  refine lv_iload_n hx hb dX6_accepts_4 rfl (lv_at hl 1 rfl) ?_
  refine lv_sipush (v := 3000) hx hb dX6_accepts_5 (by decide) ?_
  refine lv_icmp_ge (tgt := 25) hx hb dX6_accepts_8 (by decide) (fun c9 => absurd c9 (by decide)) (fun _ => ?_)
  refine lv_iload_n hx hb dX6_accepts_11 rfl (lv_at hl 2 rfl) ?_
  refine lv_if_lt (tgt := 25) hx hb dX6_accepts_12 (by decide) (fun c9 => absurd c9 (by decide)) (fun _ => ?_)
  refine lv_iload_n hx hb dX6_accepts_15 rfl (lv_at hl 2 rfl) ?_
  refine lv_bipush (v := 16) hx hb dX6_accepts_16 (by decide) ?_
  refine lv_icmp_ge (tgt := 25) hx hb dX6_accepts_18 (by decide) (fun c9 => absurd c9 (by decide)) (fun _ => ?_)
  refine lv_iconst (v := 1) hx hb dX6_accepts_21 (by decide) ?_
  refine lv_goto (tgt := 26) hx hb dX6_accepts_22 (by decide) ?_
  refine lv_istore (lv' := [(5, .int 1), (0, .ref h0), (1, .int 0), (2, .int 0), (3, .int 0), (4, .int 0)]) hx hb dX6_accepts_26 hl (by decide) rfl (fun ls hl => ?_)
  refine lv_iload hx hb dX6_accepts_28 (lv_at hl 0 rfl) ?_
  refine lv_if_eq (tgt := 47) hx hb dX6_accepts_30 (by decide) (fun c9 => absurd c9 (by decide)) (fun _ => ?_)
  refine lv_aload_n hx hb dX6_accepts_33 rfl (lv_at hl 1 rfl) ?_
  refine va_get (D := D) (ref := "IntegerHouse$Places") (ci := 6) (v := .ref h1) (C := RX6) (T := TX6) (N := 14) hx hb hts hin6 hown hK hP 0 rfl rfl 8 (by decide) (hts (.fieldLink RX6 38 "IntegerHouse$Places" "so" "[I") (List.mem_cons_of_mem _ (List.mem_append_left _ (List.mem_of_getElem? (i := 0) rfl)))) (fun _ h9 => h9) e0 dX6_accepts_34 ?_
  refine lv_iload_n hx hb dX6_accepts_37 rfl (lv_at hl 2 rfl) ?_
  refine lv_bipush (v := 16) hx hb dX6_accepts_38 (by decide) ?_
  refine lv_imul hx hb dX6_accepts_40 ?_
  refine k_topi (y := 0) (by decide) ?_
  refine lv_iload_n hx hb dX6_accepts_41 rfl (lv_at hl 3 rfl) ?_
  refine lv_iadd hx hb dX6_accepts_42 ?_
  refine k_topi (y := 0) (by decide) ?_
  refine va_iald hx hb hK hP 1 0 rfl rfl (k_in (by decide)) dX6_accepts_43 ?_
  refine k_topi (y := 0) e1 ?_
  refine lv_goto (tgt := 48) hx hb dX6_accepts_44 (by decide) ?_
  refine lv_istore (lv' := [(6, .int 0), (5, .int 1), (0, .ref h0), (1, .int 0), (2, .int 0), (3, .int 0), (4, .int 0)]) hx hb dX6_accepts_48 hl (by decide) rfl (fun ls hl => ?_)
  refine lv_iload hx hb dX6_accepts_50 (lv_at hl 1 rfl) ?_
  refine lv_if_eq (tgt := 75) hx hb dX6_accepts_52 (by decide) (fun c9 => absurd c9 (by decide)) (fun _ => ?_)
  refine lv_iload hx hb dX6_accepts_55 (lv_at hl 0 rfl) ?_
  refine lv_iload_n hx hb dX6_accepts_57 rfl (lv_at hl 5 rfl) ?_
  refine lv_iand hx hb dX6_accepts_58 ?_
  refine k_topi (y := 0) (by decide) ?_
  refine lv_iload_n hx hb dX6_accepts_59 rfl (lv_at hl 5 rfl) ?_
  refine lv_icmp_ne (tgt := 75) hx hb dX6_accepts_60 (by decide) (fun c9 => absurd (by decide) c9) (fun _ => ?_)
  refine lv_iload hx hb dX6_accepts_63 (lv_at hl 0 rfl) ?_
  refine lv_iload hx hb dX6_accepts_65 (lv_at hl 6 rfl) ?_
  refine lv_iand hx hb dX6_accepts_67 ?_
  refine k_topi (y := 0) (by decide) ?_
  refine lv_if_ne (tgt := 75) hx hb dX6_accepts_68 (by decide) (fun c9 => absurd (by decide) c9) (fun _ => ?_)
  refine lv_iconst (v := 1) hx hb dX6_accepts_71 (by decide) ?_
  refine lv_goto (tgt := 76) hx hb dX6_accepts_72 (by decide) ?_
  exact W.zret (v := 1) hx hb hr rfl (fun t ht hW => ⟨⟨1, (), rfl, rfl, kB_mk ht hW hP hK hD⟩, hS.F ht⟩) hS.2.2 dX6_accepts_76
set_option maxHeartbeats 400000000 in
set_option maxRecDepth 100000 in
theorem c_X6_acceptedBy_0 (l : Launch) (E : kE) (D : va_G) (cI cJ cB cZ : ClassId) (h0 : Nat) (f0 : List Value) (h1 : Nat) (g0 : Nat → Int32) (e0 : f0[12]? = some (.int 1)) (e1 : f0[8]? = some (.ref h1)) (e2 : g0 0 = 0) : kI l E D (kT cI cJ cB cZ) yX6_acceptedBy wsX6_acceptedBy ({ frames := 1, cells := 0, slots := 0, locals := 26 }) [.ref h0, .int 0, .int 0, .int 0] [(h0, .inr (6, f0)), (h1, .inl (cI, 48000, .inl g0))] (1) [(h0, .inr (6, f0)), (h1, .inl (cI, 48000, .inl g0))] 0 0 := by
  intro sz
  refine Met.ofW (cc := cX6_acceptedBy) (maxL := 6) (ret := (some .int)) (by decide) rfl ?_
  intro p e s m args below meth c s₁ B hml hv
  obtain ⟨rfl, hsz, hP, hK, hD0, hN, hX⟩ := hv
  have hx := B.exec
  have hb := B.bytes
  have hr := B.returns
  have hts := atoms_spec (ws := wsX6_acceptedBy) B.pre
  have hown : s.vm.findClass RX6 = some m.cls := findClass_of_methodNamed B.named
  have hlocks := B.notSynchronized
  have hin6 : ∀ w ∈ wsX60, w ∈ wsX6_acceptedBy := (fun w h => (List.mem_cons_of_mem _ (List.mem_append_right _ h)))
  subst hsz
  have hD := hD0.self (sz := s.heap.size)
  have hAE := k_AE hD0 hX
  generalize hAe : va_A [(h0, .inr (6, f0)), (h1, .inl (cI, 48000, .inl g0))] s.heap.size = A at hD hAE ⊢
  have hA : ∀ q : Nat, s.heap.size ≤ q → A q := fun q h => by rw [← hAe]; exact Or.inr h
  have hS : va_S A s.heap s.heap [] := va_S.rf
  have hP : va_P D vwCl [(h0, .inr (6, f0)), (h1, .inl (cI, 48000, .inl g0))] s.heap := hP
  have hl := lv_entry ([.ref h0, .int 0, .int 0, .int 0] : List Value) (n := 6) (Nat.le_of_ble_eq_true rfl)
  rw [lg_entry_eq]
  generalize (lg_sl ([.ref h0, .int 0, .int 0, .int 0]) ++ List.replicate (6 - (lg_sl ([.ref h0, .int 0, .int 0, .int 0])).length) Slot.unset).toArray = ls at hl ⊢
  have hl : lv_has ls 6 [(0, .ref h0), (1, .int 0), (2, .int 0), (3, .int 0)] := hl
  refine lv_iconst (v := 0) hx hb dX6_acceptedBy_0 (by decide) ?_
  refine lv_istore (lv' := [(4, .int 0), (0, .ref h0), (1, .int 0), (2, .int 0), (3, .int 0)]) hx hb dX6_acceptedBy_1 hl (by decide) rfl (fun ls hl => ?_)
  refine lv_iconst (v := 0) hx hb dX6_acceptedBy_3 (by decide) ?_
  refine lv_istore (lv' := [(5, .int 0), (4, .int 0), (0, .ref h0), (1, .int 0), (2, .int 0), (3, .int 0)]) hx hb dX6_acceptedBy_4 hl (by decide) rfl (fun ls hl => ?_)
  refine lv_iload hx hb dX6_acceptedBy_6 (lv_at hl 0 rfl) ?_
  refine lv_aload_n hx hb dX6_acceptedBy_8 rfl (lv_at hl 2 rfl) ?_
  refine va_get (D := D) (ref := "IntegerHouse$Places") (ci := 6) (v := .int 1) (C := RX6) (T := TX6) (N := 14) hx hb hts hin6 hown hK hP 0 rfl rfl 12 (by decide) (hts (.fieldLink RX6 56 "IntegerHouse$Places" "letters" "I") (List.mem_cons_of_mem _ (List.mem_append_left _ (List.mem_of_getElem? (i := 0) rfl)))) (fun _ h9 => h9) e0 dX6_acceptedBy_9 ?_
  refine lv_icmp_ge (tgt := 46) hx hb dX6_acceptedBy_12 (by decide) (fun c9 => absurd c9 (by decide)) (fun _ => ?_)
  refine lv_iload hx hb dX6_acceptedBy_15 (lv_at hl 1 rfl) ?_
  refine lv_aload_n hx hb dX6_acceptedBy_17 rfl (lv_at hl 2 rfl) ?_
  refine lv_iload_n hx hb dX6_acceptedBy_18 rfl (lv_at hl 3 rfl) ?_
  refine lv_iload hx hb dX6_acceptedBy_19 (lv_at hl 0 rfl) ?_
  refine lv_iload_n hx hb dX6_acceptedBy_21 rfl (lv_at hl 4 rfl) ?_
  refine lv_iload_n hx hb dX6_acceptedBy_22 rfl (lv_at hl 5 rfl) ?_
  refine k_cVi (As := [.int 0, .int 0, .int 0, .int 0]) (rest := [.int 0]) (wc := [(h0, .inr (6, f0)), (h1, .inl (cI, 48000, .inl g0))]) (wr := []) (w1 := [(h0, .inr (6, f0)), (h1, .inl (cI, 48000, .inl g0))]) ⟨hx, hb, hml, hown, hts⟩ hN hX hAE hK hP hD hS hA [0, 1] [] (ci := 6) rfl rfl rfl rfl (by decide +kernel) (by decide +kernel) (by decide +kernel) (c_X6_accepts_0 l E D cI cJ cB cZ h0 f0 h1 g0 e1 e2) (cwV 4 hts gX6_acceptedBy_X6_accepts rfl rfl rfl (by decide +kernel) ⟨Nat.le_of_ble_eq_true rfl, Nat.le_of_ble_eq_true rfl⟩) rfl hl.1 (Nat.le_of_ble_eq_true rfl) dX6_acceptedBy_23 ⟨Nat.le_of_ble_eq_true rfl, Nat.le_of_ble_eq_true rfl⟩ (fun H locs hP hD hS => ?_)
  have hP : va_P D vwCl [(h0, .inr (6, f0)), (h1, .inl (cI, 48000, .inl g0))] H := hP
  have hD : va_D A [(h0, .inr (6, f0)), (h1, .inl (cI, 48000, .inl g0))] := hD
  refine lv_if_eq (tgt := 36) hx hb dX6_acceptedBy_26 (by decide) (fun c9 => absurd c9 (by decide)) (fun _ => ?_)
  refine lv_iconst (v := 1) hx hb dX6_acceptedBy_29 (by decide) ?_
  refine lv_iload hx hb dX6_acceptedBy_30 (lv_at hl 0 rfl) ?_
  refine lv_ishl hx hb dX6_acceptedBy_32 ?_
  refine k_topi (y := 1) (by decide) ?_
  refine lv_goto (tgt := 37) hx hb dX6_acceptedBy_33 (by decide) ?_
  refine lv_ior hx hb dX6_acceptedBy_37 ?_
  refine k_topi (y := 1) (by decide) ?_
  refine lv_istore (lv' := [(4, .int 1), (5, .int 0), (0, .ref h0), (1, .int 0), (2, .int 0), (3, .int 0)]) hx hb dX6_acceptedBy_38 hl (by decide) rfl (fun ls hl => ?_)
  refine lv_iinc (v := 1) (lv' := [(5, .int 1), (4, .int 1), (0, .ref h0), (1, .int 0), (2, .int 0), (3, .int 0)]) hx hb dX6_acceptedBy_40 hl (k := 1) rfl (by decide) (by decide) rfl (fun ls hl => ?_)
  refine lv_goto (tgt := 6) hx hb dX6_acceptedBy_43 (by decide) ?_
  refine lv_iload hx hb dX6_acceptedBy_6 (lv_at hl 0 rfl) ?_
  refine lv_aload_n hx hb dX6_acceptedBy_8 rfl (lv_at hl 2 rfl) ?_
  refine va_get (D := D) (ref := "IntegerHouse$Places") (ci := 6) (v := .int 1) (C := RX6) (T := TX6) (N := 14) hx hb hts hin6 hown hK hP 0 rfl rfl 12 (by decide) (hts (.fieldLink RX6 56 "IntegerHouse$Places" "letters" "I") (List.mem_cons_of_mem _ (List.mem_append_left _ (List.mem_of_getElem? (i := 0) rfl)))) (fun _ h9 => h9) e0 dX6_acceptedBy_9 ?_
  refine lv_icmp_ge (tgt := 46) hx hb dX6_acceptedBy_12 (by decide) (fun _ => ?_) (fun c9 => absurd (by decide) c9)
  refine lv_iload hx hb dX6_acceptedBy_46 (lv_at hl 1 rfl) ?_
  exact W.iret (v := 1) hx hb hr (fun t ht hW => ⟨⟨1, (), rfl, rfl, kB_mk ht hW hP hK hD⟩, hS.F ht⟩) hS.2.2 dX6_acceptedBy_48
