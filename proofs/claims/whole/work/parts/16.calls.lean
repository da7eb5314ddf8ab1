abbrev cX0_findEnds : ByteArray := prog_2_method_5_code
def yX0_findEnds : MethodName := ⟨RX0, "findEnds", "(II)I"⟩
abbrev cX0_endsOf : ByteArray := prog_2_method_6_code
def yX0_endsOf : MethodName := ⟨RX0, "endsOf", "(I)I"⟩
abbrev cX0_tellLeast : ByteArray := prog_2_method_7_code
def yX0_tellLeast : MethodName := ⟨RX0, "tellLeast", "(II)Z"⟩
abbrev cX0_spread : ByteArray := prog_2_method_8_code
def yX0_spread : MethodName := ⟨RX0, "spread", "(II)Z"⟩
abbrev cX0_farFrom : ByteArray := prog_2_method_9_code
def yX0_farFrom : MethodName := ⟨RX0, "farFrom", "(I)I"⟩
abbrev cX0_walk : ByteArray := prog_2_method_10_code
def yX0_walk : MethodName := ⟨RX0, "walk", "()V"⟩
abbrev cX0_addBits : ByteArray := prog_2_method_11_code
def yX0_addBits : MethodName := ⟨RX0, "addBits", "(III)V"⟩
abbrev cX6_behind : ByteArray := prog_8_method_11_code
def yX6_behind : MethodName := ⟨RX6, "behind", "(II)I"⟩
abbrev cX11_decide : ByteArray := prog_1_method_27_code
def yX11_decide : MethodName := ⟨RX11, "decide", "()I"⟩
abbrev cX12_putOn : ByteArray := prog_14_method_117_code
def yX12_putOn : MethodName := ⟨RX12, "putOn", "()V"⟩
abbrev cX12_halved : ByteArray := prog_14_method_124_code
def yX12_halved : MethodName := ⟨RX12, "halved", "(III)I"⟩
abbrev cX12_isSo : ByteArray := prog_14_method_125_code
def yX12_isSo : MethodName := ⟨RX12, "isSo", "(III)Z"⟩
abbrev cX12_placeOf : ByteArray := prog_14_method_126_code
def yX12_placeOf : MethodName := ⟨RX12, "placeOf", "()I"⟩
abbrev cX12_explore : ByteArray := prog_14_method_127_code
def yX12_explore : MethodName := ⟨RX12, "explore", "()Z"⟩
abbrev cX12_isAnswer : ByteArray := prog_14_method_128_code
def yX12_isAnswer : MethodName := ⟨RX12, "isAnswer", "(II)Z"⟩
abbrev cX12_judge : ByteArray := prog_14_method_129_code
def yX12_judge : MethodName := ⟨RX12, "judge", "(III)V"⟩
abbrev cX12_measure : ByteArray := prog_14_method_130_code
def yX12_measure : MethodName := ⟨RX12, "measure", "()V"⟩
abbrev cX12_tellLeast : ByteArray := prog_14_method_131_code
def yX12_tellLeast : MethodName := ⟨RX12, "tellLeast", "()Z"⟩
abbrev cX12_decide : ByteArray := prog_14_method_132_code
def yX12_decide : MethodName := ⟨RX12, "decide", "()I"⟩
abbrev cJ7_fill_d0a16 : ByteArray := prog_27_method_101_code
def yJ7_fill_d0a16 : MethodName := ⟨RJ7, "fill", "([JJ)V"⟩
def wsX0_findEnds : List Cond := .code yX0_findEnds cX0_findEnds 5 (some .int) :: ([.fieldLink RX0 48 "IntegerHouse$Answers" "places" "LIntegerHouse$Places;", .methodLink RX0 75 Lib.Math.min.name, .static Lib.Math.min.name, .initialized "java/lang/Math", .code Lib.Math.min.name Lib.Math.min.code 2 (some .int), .fieldLink RX0 22 "IntegerHouse$Answers" "ends" "[I", .methodLink RX0 78 yX6_acceptedBy, .instanceMethod yX6_acceptedBy, .selects RX6 yX6_acceptedBy yX6_acceptedBy, .initialized RX6, .code yX6_acceptedBy cX6_acceptedBy 6 (some .int), .fieldLink RX6 56 "IntegerHouse$Places" "letters" "I", .methodLink RX6 123 yX6_accepts, .instanceMethod yX6_accepts, .selects RX6 yX6_accepts yX6_accepts, .code yX6_accepts cX6_accepts 7 (some .boolean), .fieldLink RX6 38 "IntegerHouse$Places" "so" "[I"] ++ wsX00 ++ wsX60)
def wsX0_endsOf : List Cond := .code yX0_endsOf cX0_endsOf 2 (some .int) :: ([.fieldLink RX0 22 "IntegerHouse$Answers" "ends" "[I"] ++ wsX00)
def wsJ7_fill_d0a16 : List Cond := .code yJ7_fill_d0a16 cJ7_fill_d0a16 5 none :: ([])
def wsX0_addBits : List Cond := .code yX0_addBits cX0_addBits 5 none :: ([.fieldLink RX0 9 "IntegerHouse$Answers" "values" "[J"] ++ wsX00)
def wsX0_walk_r1 : List Cond := [Cond.fieldLink RX0 18 "IntegerHouse$Answers" "far" "[I", Cond.fieldLink RX0 40 "IntegerHouse$Answers" "toldHeight" "I", Cond.fieldLink RX0 44 "IntegerHouse$Answers" "house" "LIntegerHouse$House;", Cond.fieldLink RX0 69 "IntegerHouse$Answers" "valuesTold" "I", Cond.fieldLink RX0 9 "IntegerHouse$Answers" "values" "[J", Cond.fieldLink RX0 48 "IntegerHouse$Answers" "places" "LIntegerHouse$Places;", Cond.methodLink RX0 102 yJ7_fill_d0a16, Cond.static yJ7_fill_d0a16, Cond.initialized RJ7, Cond.code yJ7_fill_d0a16 cJ7_fill_d0a16 5 none, Cond.methodLink RX0 95 yX6_behind, Cond.instanceMethod yX6_behind, Cond.selects RX6 yX6_behind yX6_behind, Cond.initialized RX6, Cond.code yX6_behind cX6_behind 4 (some .int), Cond.fieldLink RX6 35 "IntegerHouse$Places" "next" "[I", Cond.methodLink RX0 98 yX0_farFrom, Cond.instanceMethod yX0_farFrom, Cond.selects RX0 yX0_farFrom yX0_farFrom, Cond.initialized RX0, Cond.code yX0_farFrom cX0_farFrom 2 (some .int), Cond.methodLink RX0 108 yX0_addBits, Cond.instanceMethod yX0_addBits, Cond.selects RX0 yX0_addBits yX0_addBits]
def wsX0_walk_r2 : List Cond := [Cond.code yX0_addBits cX0_addBits 5 none, Cond.methodLink RX0 112 yX0_endsOf, Cond.instanceMethod yX0_endsOf, Cond.selects RX0 yX0_endsOf yX0_endsOf, Cond.code yX0_endsOf cX0_endsOf 2 (some .int), Cond.fieldLink RX0 22 "IntegerHouse$Answers" "ends" "[I"]
def wsX0_walk : List Cond := .code yX0_walk cX0_walk 4 none :: ((wsX0_walk_r1 ++ wsX0_walk_r2) ++ wsX00 ++ wsX20 ++ wsX60)
def wsX0_tellLeast_r1 : List Cond := [Cond.fieldLink RX0 18 "IntegerHouse$Answers" "far" "[I", Cond.fieldLink RX0 22 "IntegerHouse$Answers" "ends" "[I", Cond.methodLink RX0 82 yX0_findEnds, Cond.instanceMethod yX0_findEnds, Cond.selects RX0 yX0_findEnds yX0_findEnds, Cond.initialized RX0, Cond.code yX0_findEnds cX0_findEnds 5 (some .int), Cond.fieldLink RX0 48 "IntegerHouse$Answers" "places" "LIntegerHouse$Places;", Cond.methodLink RX0 75 Lib.Math.min.name, Cond.static Lib.Math.min.name, Cond.initialized "java/lang/Math", Cond.code Lib.Math.min.name Lib.Math.min.code 2 (some .int), Cond.methodLink RX0 78 yX6_acceptedBy, Cond.instanceMethod yX6_acceptedBy, Cond.selects RX6 yX6_acceptedBy yX6_acceptedBy, Cond.initialized RX6, Cond.code yX6_acceptedBy cX6_acceptedBy 6 (some .int), Cond.fieldLink RX6 56 "IntegerHouse$Places" "letters" "I", Cond.methodLink RX6 123 yX6_accepts, Cond.instanceMethod yX6_accepts, Cond.selects RX6 yX6_accepts yX6_accepts, Cond.code yX6_accepts cX6_accepts 7 (some .boolean), Cond.fieldLink RX6 38 "IntegerHouse$Places" "so" "[I", Cond.methodLink RX0 85 yX0_spread]
def wsX0_tellLeast_r2 : List Cond := [Cond.instanceMethod yX0_spread, Cond.selects RX0 yX0_spread yX0_spread, Cond.code yX0_spread cX0_spread 6 (some .boolean), Cond.methodLink RX0 95 yX6_behind, Cond.instanceMethod yX6_behind, Cond.selects RX6 yX6_behind yX6_behind, Cond.code yX6_behind cX6_behind 4 (some .int), Cond.fieldLink RX6 35 "IntegerHouse$Places" "next" "[I", Cond.methodLink RX0 98 yX0_farFrom, Cond.instanceMethod yX0_farFrom, Cond.selects RX0 yX0_farFrom yX0_farFrom, Cond.code yX0_farFrom cX0_farFrom 2 (some .int), Cond.methodLink RX0 89 yX0_walk, Cond.instanceMethod yX0_walk, Cond.selects RX0 yX0_walk yX0_walk, Cond.code yX0_walk cX0_walk 4 none, Cond.fieldLink RX0 40 "IntegerHouse$Answers" "toldHeight" "I", Cond.fieldLink RX0 44 "IntegerHouse$Answers" "house" "LIntegerHouse$House;", Cond.fieldLink RX0 69 "IntegerHouse$Answers" "valuesTold" "I", Cond.fieldLink RX0 9 "IntegerHouse$Answers" "values" "[J", Cond.methodLink RX0 102 yJ7_fill_d0a16, Cond.static yJ7_fill_d0a16, Cond.initialized RJ7, Cond.code yJ7_fill_d0a16 cJ7_fill_d0a16 5 none]
def wsX0_tellLeast_r3 : List Cond := [Cond.methodLink RX0 108 yX0_addBits, Cond.instanceMethod yX0_addBits, Cond.selects RX0 yX0_addBits yX0_addBits, Cond.code yX0_addBits cX0_addBits 5 none, Cond.methodLink RX0 112 yX0_endsOf, Cond.instanceMethod yX0_endsOf, Cond.selects RX0 yX0_endsOf yX0_endsOf, Cond.code yX0_endsOf cX0_endsOf 2 (some .int)]
def wsX0_tellLeast : List Cond := .code yX0_tellLeast cX0_tellLeast 6 (some .boolean) :: ((wsX0_tellLeast_r1 ++ (wsX0_tellLeast_r2 ++ wsX0_tellLeast_r3)) ++ wsX00 ++ wsX60 ++ wsX20)
def wsX11_decide_r1 : List Cond := [Cond.fieldLink RX11 16 "IntegerHouse" "disk" "LIntegerHouse$Disk;", Cond.fieldLink RX11 55 "IntegerHouse" "places" "LIntegerHouse$Places;", Cond.fieldLink RX11 23 "IntegerHouse" "house" "LIntegerHouse$House;", Cond.fieldLink RX11 64 "IntegerHouse" "answers" "LIntegerHouse$Answers;", Cond.methodLink RX11 298 yX6_judge, Cond.instanceMethod yX6_judge, Cond.selects RX6 yX6_judge yX6_judge, Cond.initialized RX6, Cond.code yX6_judge cX6_judge 4 (some .boolean), Cond.fieldLink RX6 52 "IntegerHouse$Places" "size" "I", Cond.fieldLink RX6 56 "IntegerHouse$Places" "letters" "I", Cond.fieldLink RX6 38 "IntegerHouse$Places" "so" "[I", Cond.methodLink RX6 48 yX6_explore, Cond.instanceMethod yX6_explore, Cond.selects RX6 yX6_explore yX6_explore, Cond.code yX6_explore cX6_explore 5 (some .boolean), Cond.fieldLink RX6 41 "IntegerHouse$Places" "table" "[I", Cond.fieldLink RX6 76 "IntegerHouse$Places" "atoms" "I", Cond.fieldLink RX6 44 "IntegerHouse$Places" "house" "LIntegerHouse$House;", Cond.fieldLink RX6 11 "IntegerHouse$Places" "work" "[I", Cond.fieldLink RX6 27 "IntegerHouse$Places" "fresh" "[I", Cond.fieldLink RX6 20 "IntegerHouse$Places" "isLine" "[Z", Cond.fieldLink RX6 35 "IntegerHouse$Places" "next" "[I", Cond.methodLink RX6 67 yX6_gather]
def wsX11_decide_r2 : List Cond := [Cond.instanceMethod yX6_gather, Cond.selects RX6 yX6_gather yX6_gather, Cond.code yX6_gather cX6_gather 5 (some .boolean), Cond.fieldLink RX6 90 "IntegerHouse$Places" "needed" "I", Cond.methodLink RX6 96 Lib.Math.min.name, Cond.static Lib.Math.min.name, Cond.initialized "java/lang/Math", Cond.code Lib.Math.min.name Lib.Math.min.code 2 (some .int), Cond.methodLink RX6 101 Lib.Math.max.name, Cond.static Lib.Math.max.name, Cond.code Lib.Math.max.name Lib.Math.max.code 2 (some .int), Cond.methodLink RX6 104 yX2_fact, Cond.instanceMethod yX2_fact, Cond.selects RX2 yX2_fact yX2_fact, Cond.initialized RX2, Cond.code yX2_fact cX2_fact 3 (some .int), Cond.fieldLink RX2 28 "IntegerHouse$House" "facts" "[I", Cond.methodLink RX6 107 yX2_atomOf, Cond.instanceMethod yX2_atomOf, Cond.selects RX2 yX2_atomOf yX2_atomOf, Cond.code yX2_atomOf cX2_atomOf 3 (some .int), Cond.fieldLink RX2 31 "IntegerHouse$House" "atoms" "[I", Cond.methodLink RX6 110 yX6_addWork, Cond.instanceMethod yX6_addWork]
def wsX11_decide_r3 : List Cond := [Cond.selects RX6 yX6_addWork yX6_addWork, Cond.code yX6_addWork cX6_addWork 5 (some .boolean), Cond.fieldLink RX6 17 "IntegerHouse$Places" "workOf" "[I", Cond.fieldLink RX6 24 "IntegerHouse$Places" "sums" "[I", Cond.methodLink RX6 79 yX2_pooled, Cond.instanceMethod yX2_pooled, Cond.selects RX2 yX2_pooled yX2_pooled, Cond.code yX2_pooled cX2_pooled 3 (some .int), Cond.fieldLink RX2 34 "IntegerHouse$House" "pool" "[I", Cond.methodLink RX6 70 yJ7_fill_53178, Cond.static yJ7_fill_53178, Cond.initialized RJ7, Cond.code yJ7_fill_53178 cJ7_fill_53178 4 none, Cond.methodLink RX6 82 yX6_locate, Cond.instanceMethod yX6_locate, Cond.selects RX6 yX6_locate yX6_locate, Cond.code yX6_locate cX6_locate 5 (some .int), Cond.constant RX6 116 (739982445), Cond.methodLink RX6 117 yX6_addPlace, Cond.instanceMethod yX6_addPlace, Cond.selects RX6 yX6_addPlace yX6_addPlace, Cond.code yX6_addPlace cX6_addPlace 4 (some .int), Cond.fieldLink RX6 31 "IntegerHouse$Places" "stands" "[I", Cond.methodLink RX6 120 yX6_isFresh]
def wsX11_decide_r4 : List Cond := [Cond.instanceMethod yX6_isFresh, Cond.selects RX6 yX6_isFresh yX6_isFresh, Cond.code yX6_isFresh cX6_isFresh 4 (some .boolean), Cond.methodLink RX6 86 yX6_halve, Cond.instanceMethod yX6_halve, Cond.selects RX6 yX6_halve yX6_halve, Cond.code yX6_halve cX6_halve 7 none, Cond.methodLink RX6 113 yX6_halved, Cond.static yX6_halved, Cond.code yX6_halved cX6_halved 5 (some .int), Cond.methodLink RX6 59 yX6_atomsAt, Cond.instanceMethod yX6_atomsAt, Cond.selects RX6 yX6_atomsAt yX6_atomsAt, Cond.code yX6_atomsAt cX6_atomsAt 10 (some .int), Cond.methodLink RX6 63 yX6_soOf, Cond.instanceMethod yX6_soOf, Cond.selects RX6 yX6_soOf yX6_soOf, Cond.code yX6_soOf cX6_soOf 4 (some .int), Cond.methodLink RX6 127 yX6_isSo, Cond.instanceMethod yX6_isSo, Cond.selects RX6 yX6_isSo yX6_isSo, Cond.code yX6_isSo cX6_isSo 10 (some .boolean), Cond.methodLink RX6 136 yX6_joined, Cond.static yX6_joined]
def wsX11_decide_r5 : List Cond := [Cond.code yX6_joined cX6_joined 9 (some .long), Cond.methodLink RX11 301 yX0_tellLeast, Cond.instanceMethod yX0_tellLeast, Cond.selects RX0 yX0_tellLeast yX0_tellLeast, Cond.initialized RX0, Cond.code yX0_tellLeast cX0_tellLeast 6 (some .boolean), Cond.fieldLink RX0 18 "IntegerHouse$Answers" "far" "[I", Cond.fieldLink RX0 22 "IntegerHouse$Answers" "ends" "[I", Cond.methodLink RX0 82 yX0_findEnds, Cond.instanceMethod yX0_findEnds, Cond.selects RX0 yX0_findEnds yX0_findEnds, Cond.code yX0_findEnds cX0_findEnds 5 (some .int), Cond.fieldLink RX0 48 "IntegerHouse$Answers" "places" "LIntegerHouse$Places;", Cond.methodLink RX0 75 Lib.Math.min.name, Cond.methodLink RX0 78 yX6_acceptedBy, Cond.instanceMethod yX6_acceptedBy, Cond.selects RX6 yX6_acceptedBy yX6_acceptedBy, Cond.code yX6_acceptedBy cX6_acceptedBy 6 (some .int), Cond.methodLink RX6 123 yX6_accepts, Cond.instanceMethod yX6_accepts, Cond.selects RX6 yX6_accepts yX6_accepts, Cond.code yX6_accepts cX6_accepts 7 (some .boolean), Cond.methodLink RX0 85 yX0_spread, Cond.instanceMethod yX0_spread]
def wsX11_decide_r6 : List Cond := [Cond.selects RX0 yX0_spread yX0_spread, Cond.code yX0_spread cX0_spread 6 (some .boolean), Cond.methodLink RX0 95 yX6_behind, Cond.instanceMethod yX6_behind, Cond.selects RX6 yX6_behind yX6_behind, Cond.code yX6_behind cX6_behind 4 (some .int), Cond.methodLink RX0 98 yX0_farFrom, Cond.instanceMethod yX0_farFrom, Cond.selects RX0 yX0_farFrom yX0_farFrom, Cond.code yX0_farFrom cX0_farFrom 2 (some .int), Cond.methodLink RX0 89 yX0_walk, Cond.instanceMethod yX0_walk, Cond.selects RX0 yX0_walk yX0_walk, Cond.code yX0_walk cX0_walk 4 none, Cond.fieldLink RX0 40 "IntegerHouse$Answers" "toldHeight" "I", Cond.fieldLink RX0 44 "IntegerHouse$Answers" "house" "LIntegerHouse$House;", Cond.fieldLink RX0 69 "IntegerHouse$Answers" "valuesTold" "I", Cond.fieldLink RX0 9 "IntegerHouse$Answers" "values" "[J", Cond.methodLink RX0 102 yJ7_fill_d0a16, Cond.static yJ7_fill_d0a16, Cond.code yJ7_fill_d0a16 cJ7_fill_d0a16 5 none, Cond.methodLink RX0 108 yX0_addBits, Cond.instanceMethod yX0_addBits, Cond.selects RX0 yX0_addBits yX0_addBits]
def wsX11_decide_r7 : List Cond := [Cond.code yX0_addBits cX0_addBits 5 none, Cond.methodLink RX0 112 yX0_endsOf, Cond.instanceMethod yX0_endsOf, Cond.selects RX0 yX0_endsOf yX0_endsOf, Cond.code yX0_endsOf cX0_endsOf 2 (some .int)]
def wsX11_decide : List Cond := .code yX11_decide cX11_decide 1 (some .int) :: ((wsX11_decide_r1 ++ (wsX11_decide_r2 ++ (wsX11_decide_r3 ++ (wsX11_decide_r4 ++ (wsX11_decide_r5 ++ (wsX11_decide_r6 ++ wsX11_decide_r7)))))) ++ wsX110 ++ wsX10 ++ wsX20 ++ wsX60 ++ wsX00)
def wsX12_idle : List Cond := .code yX12_idle cX12_idle 2 none :: ([.fieldLink RX12 928 "IntegerHouseModel" "work" "I", .fieldLink RX12 304 "IntegerHouseModel" "needed" "[Z"] ++ wsX120)
def wsX12_putOn : List Cond := .code yX12_putOn cX12_putOn 2 none :: ([.fieldLink RX12 818 "IntegerHouseModel" "claims" "I", .fieldLink RX12 265 "IntegerHouseModel" "isOn" "[Z", .methodLink RX12 934 yX12_idle, .instanceMethod yX12_idle, .selects RX12 yX12_idle yX12_idle, .initialized RX12, .code yX12_idle cX12_idle 2 none, .fieldLink RX12 928 "IntegerHouseModel" "work" "I", .fieldLink RX12 304 "IntegerHouseModel" "needed" "[Z", .methodLink RX12 937 yX12_put, .instanceMethod yX12_put, .selects RX12 yX12_put yX12_put, .code yX12_put cX12_put 5 none, .fieldLink RX12 235 "IntegerHouseModel" "atomCount" "[I", .fieldLink RX12 298 "IntegerHouseModel" "workN" "[I", .fieldLink RX12 232 "IntegerHouseModel" "atomN" "[I", .fieldLink RX12 295 "IntegerHouseModel" "workC" "[I", .fieldLink RX12 229 "IntegerHouseModel" "atomC" "[I", .fieldLink RX12 292 "IntegerHouseModel" "workF" "[I", .fieldLink RX12 226 "IntegerHouseModel" "atomF" "[I", .methodLink RX12 931 yX12_workAt, .instanceMethod yX12_workAt, .selects RX12 yX12_workAt yX12_workAt, .code yX12_workAt cX12_workAt 5 (some .int)] ++ wsX120)
def wsX12_findWork : List Cond := .code yX12_findWork cX12_findWork 3 none :: ([.fieldLink RX12 304 "IntegerHouseModel" "needed" "[Z", .fieldLink RX12 120 "IntegerHouseModel" "nodeCount" "[I", .fieldLink RX12 108 "IntegerHouseModel" "nodeKind" "[I", .fieldLink RX12 111 "IntegerHouseModel" "nodeA" "[I", .fieldLink RX12 235 "IntegerHouseModel" "atomCount" "[I", .fieldLink RX12 301 "IntegerHouseModel" "workOf" "[I", .methodLink RX12 931 yX12_workAt, .instanceMethod yX12_workAt, .selects RX12 yX12_workAt yX12_workAt, .initialized RX12, .code yX12_workAt cX12_workAt 5 (some .int), .fieldLink RX12 928 "IntegerHouseModel" "work" "I", .fieldLink RX12 298 "IntegerHouseModel" "workN" "[I", .fieldLink RX12 232 "IntegerHouseModel" "atomN" "[I", .fieldLink RX12 295 "IntegerHouseModel" "workC" "[I", .fieldLink RX12 229 "IntegerHouseModel" "atomC" "[I", .fieldLink RX12 292 "IntegerHouseModel" "workF" "[I", .fieldLink RX12 226 "IntegerHouseModel" "atomF" "[I"] ++ wsX120)
def wsX12_reckonSlots_r1 : List Cond := [Cond.fieldLink RX12 304 "IntegerHouseModel" "needed" "[Z", Cond.fieldLink RX12 120 "IntegerHouseModel" "nodeCount" "[I", Cond.fieldLink RX12 313 "IntegerHouseModel" "nodeIs" "[Z", Cond.fieldLink RX12 310 "IntegerHouseModel" "slotIs" "[Z", Cond.fieldLink RX12 184 "IntegerHouseModel" "rootOf" "[I", Cond.methodLink RX12 946 yX12_isNode, Cond.instanceMethod yX12_isNode, Cond.selects RX12 yX12_isNode yX12_isNode, Cond.initialized RX12, Cond.code yX12_isNode cX12_isNode 5 (some .boolean), Cond.fieldLink RX12 108 "IntegerHouseModel" "nodeKind" "[I", Cond.fieldLink RX12 111 "IntegerHouseModel" "nodeA" "[I", Cond.fieldLink RX12 114 "IntegerHouseModel" "nodeB" "[I", Cond.fieldLink RX12 117 "IntegerHouseModel" "nodeNext" "[I", Cond.methodLink RX12 943 yX12_isLeaf, Cond.instanceMethod yX12_isLeaf, Cond.selects RX12 yX12_isLeaf yX12_isLeaf, Cond.code yX12_isLeaf cX12_isLeaf 6 (some .boolean), Cond.fieldLink RX12 147 "IntegerHouseModel" "leafCase" "[I", Cond.fieldLink RX12 150 "IntegerHouseModel" "leafCases" "[I", Cond.fieldLink RX12 238 "IntegerHouseModel" "caseLit" "[I", Cond.fieldLink RX12 123 "IntegerHouseModel" "leafOp" "[I", Cond.methodLink RX12 940 yX12_isLit, Cond.instanceMethod yX12_isLit]
def wsX12_reckonSlots_r2 : List Cond := [Cond.selects RX12 yX12_isLit yX12_isLit, Cond.code yX12_isLit cX12_isLit 3 (some .boolean), Cond.fieldLink RX12 307 "IntegerHouseModel" "workIs" "[Z", Cond.fieldLink RX12 301 "IntegerHouseModel" "workOf" "[I"]
def wsX12_reckonSlots : List Cond := .code yX12_reckonSlots cX12_reckonSlots 3 none :: ((wsX12_reckonSlots_r1 ++ wsX12_reckonSlots_r2) ++ wsX120)
def wsX12_placeOf : List Cond := .code yX12_placeOf cX12_placeOf 5 (some .int) :: ([.fieldLink RX12 928 "IntegerHouseModel" "work" "I", .fieldLink RX12 331 "IntegerHouseModel" "image2" "[I", .constant RX12 508 (-1640531535), .fieldLink RX12 325 "IntegerHouseModel" "heads" "[I", .fieldLink RX12 317 "IntegerHouseModel" "place" "[I", .fieldLink RX12 328 "IntegerHouseModel" "chain" "[I", .fieldLink RX12 957 "IntegerHouseModel" "places" "I"] ++ wsX120)
def wsX12_explore_r1 : List Cond := [Cond.fieldLink RX12 928 "IntegerHouseModel" "work" "I", Cond.fieldLink RX12 815 "IntegerHouseModel" "variables" "I", Cond.fieldLink RX12 960 "IntegerHouseModel" "letters" "I", Cond.constant RX12 324 (32768), Cond.fieldLink RX12 325 "IntegerHouseModel" "heads" "[I", Cond.fieldLink RX12 957 "IntegerHouseModel" "places" "I", Cond.fieldLink RX12 331 "IntegerHouseModel" "image2" "[I", Cond.fieldLink RX12 298 "IntegerHouseModel" "workN" "[I", Cond.fieldLink RX12 295 "IntegerHouseModel" "workC" "[I", Cond.fieldLink RX12 317 "IntegerHouseModel" "place" "[I", Cond.fieldLink RX12 321 "IntegerHouseModel" "behind" "[I", Cond.methodLink RX12 951 yX12_findWork, Cond.instanceMethod yX12_findWork, Cond.selects RX12 yX12_findWork yX12_findWork, Cond.initialized RX12, Cond.code yX12_findWork cX12_findWork 3 none, Cond.fieldLink RX12 304 "IntegerHouseModel" "needed" "[Z", Cond.fieldLink RX12 120 "IntegerHouseModel" "nodeCount" "[I", Cond.fieldLink RX12 108 "IntegerHouseModel" "nodeKind" "[I", Cond.fieldLink RX12 111 "IntegerHouseModel" "nodeA" "[I", Cond.fieldLink RX12 235 "IntegerHouseModel" "atomCount" "[I", Cond.fieldLink RX12 301 "IntegerHouseModel" "workOf" "[I", Cond.methodLink RX12 931 yX12_workAt, Cond.instanceMethod yX12_workAt]
def wsX12_explore_r2 : List Cond := [Cond.selects RX12 yX12_workAt yX12_workAt, Cond.code yX12_workAt cX12_workAt 5 (some .int), Cond.fieldLink RX12 232 "IntegerHouseModel" "atomN" "[I", Cond.fieldLink RX12 229 "IntegerHouseModel" "atomC" "[I", Cond.fieldLink RX12 292 "IntegerHouseModel" "workF" "[I", Cond.fieldLink RX12 226 "IntegerHouseModel" "atomF" "[I", Cond.methodLink RX12 963 yX12_placeOf, Cond.instanceMethod yX12_placeOf, Cond.selects RX12 yX12_placeOf yX12_placeOf, Cond.code yX12_placeOf cX12_placeOf 5 (some .int), Cond.constant RX12 508 (-1640531535), Cond.fieldLink RX12 328 "IntegerHouseModel" "chain" "[I", Cond.methodLink RX12 966 yX12_halved, Cond.instanceMethod yX12_halved, Cond.selects RX12 yX12_halved yX12_halved, Cond.code yX12_halved cX12_halved 7 (some .int)]
def wsX12_explore : List Cond := .code yX12_explore cX12_explore 5 (some .boolean) :: ((wsX12_explore_r1 ++ wsX12_explore_r2) ++ wsX120)
def wsX12_isAnswer : List Cond := .code yX12_isAnswer cX12_isAnswer 5 (some .boolean) :: ([.fieldLink RX12 310 "IntegerHouseModel" "slotIs" "[Z", .fieldLink RX12 818 "IntegerHouseModel" "claims" "I", .fieldLink RX12 265 "IntegerHouseModel" "isOn" "[Z", .fieldLink RX12 340 "IntegerHouseModel" "isOut" "[Z"] ++ wsX120)
def wsX12_judge_r1 : List Cond := [Cond.fieldLink RX12 346 "IntegerHouseModel" "keptAnswer" "[I", Cond.fieldLink RX12 957 "IntegerHouseModel" "places" "I", Cond.fieldLink RX12 334 "IntegerHouseModel" "takes" "[I", Cond.fieldLink RX12 337 "IntegerHouseModel" "takes2" "[I", Cond.fieldLink RX12 960 "IntegerHouseModel" "letters" "I", Cond.fieldLink RX12 928 "IntegerHouseModel" "work" "I", Cond.fieldLink RX12 307 "IntegerHouseModel" "workIs" "[Z", Cond.fieldLink RX12 317 "IntegerHouseModel" "place" "[I", Cond.fieldLink RX12 343 "IntegerHouseModel" "keptRow" "[I", Cond.fieldLink RX12 310 "IntegerHouseModel" "slotIs" "[Z", Cond.methodLink RX12 969 yX12_isSo, Cond.instanceMethod yX12_isSo, Cond.selects RX12 yX12_isSo yX12_isSo, Cond.initialized RX12, Cond.code yX12_isSo cX12_isSo 7 (some .boolean), Cond.fieldLink RX12 298 "IntegerHouseModel" "workN" "[I", Cond.fieldLink RX12 815 "IntegerHouseModel" "variables" "I", Cond.fieldLink RX12 292 "IntegerHouseModel" "workF" "[I", Cond.methodLink RX12 768 yX12_rest, Cond.static yX12_rest, Cond.code yX12_rest cX12_rest 6 (some .long), Cond.methodLink RX12 954 yX12_reckonSlots, Cond.instanceMethod yX12_reckonSlots, Cond.selects RX12 yX12_reckonSlots yX12_reckonSlots]
def wsX12_judge_r2 : List Cond := [Cond.code yX12_reckonSlots cX12_reckonSlots 3 none, Cond.fieldLink RX12 304 "IntegerHouseModel" "needed" "[Z", Cond.fieldLink RX12 120 "IntegerHouseModel" "nodeCount" "[I", Cond.fieldLink RX12 313 "IntegerHouseModel" "nodeIs" "[Z", Cond.fieldLink RX12 184 "IntegerHouseModel" "rootOf" "[I", Cond.methodLink RX12 946 yX12_isNode, Cond.instanceMethod yX12_isNode, Cond.selects RX12 yX12_isNode yX12_isNode, Cond.code yX12_isNode cX12_isNode 5 (some .boolean), Cond.fieldLink RX12 108 "IntegerHouseModel" "nodeKind" "[I", Cond.fieldLink RX12 111 "IntegerHouseModel" "nodeA" "[I", Cond.fieldLink RX12 114 "IntegerHouseModel" "nodeB" "[I", Cond.fieldLink RX12 117 "IntegerHouseModel" "nodeNext" "[I", Cond.methodLink RX12 943 yX12_isLeaf, Cond.instanceMethod yX12_isLeaf, Cond.selects RX12 yX12_isLeaf yX12_isLeaf, Cond.code yX12_isLeaf cX12_isLeaf 6 (some .boolean), Cond.fieldLink RX12 147 "IntegerHouseModel" "leafCase" "[I", Cond.fieldLink RX12 150 "IntegerHouseModel" "leafCases" "[I", Cond.fieldLink RX12 238 "IntegerHouseModel" "caseLit" "[I", Cond.fieldLink RX12 123 "IntegerHouseModel" "leafOp" "[I", Cond.methodLink RX12 940 yX12_isLit, Cond.instanceMethod yX12_isLit, Cond.selects RX12 yX12_isLit yX12_isLit]
def wsX12_judge_r3 : List Cond := [Cond.code yX12_isLit cX12_isLit 3 (some .boolean), Cond.fieldLink RX12 301 "IntegerHouseModel" "workOf" "[I", Cond.methodLink RX12 973 yX12_isAnswer, Cond.instanceMethod yX12_isAnswer, Cond.selects RX12 yX12_isAnswer yX12_isAnswer, Cond.code yX12_isAnswer cX12_isAnswer 5 (some .boolean), Cond.fieldLink RX12 818 "IntegerHouseModel" "claims" "I", Cond.fieldLink RX12 265 "IntegerHouseModel" "isOn" "[Z", Cond.fieldLink RX12 340 "IntegerHouseModel" "isOut" "[Z"]
def wsX12_judge : List Cond := .code yX12_judge cX12_judge 8 none :: ((wsX12_judge_r1 ++ (wsX12_judge_r2 ++ wsX12_judge_r3)) ++ wsX120)
def wsX12_measure : List Cond := .code yX12_measure cX12_measure 5 none :: ([.fieldLink RX12 957 "IntegerHouseModel" "places" "I", .fieldLink RX12 349 "IntegerHouseModel" "far" "[I", .fieldLink RX12 334 "IntegerHouseModel" "takes" "[I", .fieldLink RX12 960 "IntegerHouseModel" "letters" "I", .fieldLink RX12 321 "IntegerHouseModel" "behind" "[I"] ++ wsX120)
def wsX12_tellLeast : List Cond := .code yX12_tellLeast cX12_tellLeast 5 (some .boolean) :: ([.fieldLink RX12 349 "IntegerHouseModel" "far" "[I", .fieldLink RX12 352 "IntegerHouseModel" "told" "[J", .fieldLink RX12 815 "IntegerHouseModel" "variables" "I", .fieldLink RX12 979 "IntegerHouseModel" "toldVariables" "I", .fieldLink RX12 355 "IntegerHouseModel" "toldHeight" "I", .fieldLink RX12 321 "IntegerHouseModel" "behind" "[I", .fieldLink RX12 334 "IntegerHouseModel" "takes" "[I", .methodLink RX12 976 yX12_measure, .instanceMethod yX12_measure, .selects RX12 yX12_measure yX12_measure, .initialized RX12, .code yX12_measure cX12_measure 5 none, .fieldLink RX12 957 "IntegerHouseModel" "places" "I", .fieldLink RX12 960 "IntegerHouseModel" "letters" "I"] ++ wsX120)
def wsX12_decide_r1 : List Cond := [Cond.methodLink RX12 871 yX12_asks, Cond.instanceMethod yX12_asks, Cond.selects RX12 yX12_asks yX12_asks, Cond.initialized RX12, Cond.code yX12_asks cX12_asks 1 (some .boolean), Cond.fieldLink RX12 3 "IntegerHouseModel" "thrown" "I", Cond.fieldLink RX12 488 "IntegerHouseModel" "down" "Z", Cond.methodLink RX12 982 yX12_putOn, Cond.instanceMethod yX12_putOn, Cond.selects RX12 yX12_putOn yX12_putOn, Cond.code yX12_putOn cX12_putOn 2 none, Cond.fieldLink RX12 818 "IntegerHouseModel" "claims" "I", Cond.fieldLink RX12 265 "IntegerHouseModel" "isOn" "[Z", Cond.methodLink RX12 934 yX12_idle, Cond.instanceMethod yX12_idle, Cond.selects RX12 yX12_idle yX12_idle, Cond.code yX12_idle cX12_idle 2 none, Cond.fieldLink RX12 928 "IntegerHouseModel" "work" "I", Cond.fieldLink RX12 304 "IntegerHouseModel" "needed" "[Z", Cond.methodLink RX12 937 yX12_put, Cond.instanceMethod yX12_put, Cond.selects RX12 yX12_put yX12_put, Cond.code yX12_put cX12_put 5 none, Cond.fieldLink RX12 235 "IntegerHouseModel" "atomCount" "[I"]
def wsX12_decide_r2 : List Cond := [Cond.fieldLink RX12 298 "IntegerHouseModel" "workN" "[I", Cond.fieldLink RX12 232 "IntegerHouseModel" "atomN" "[I", Cond.fieldLink RX12 295 "IntegerHouseModel" "workC" "[I", Cond.fieldLink RX12 229 "IntegerHouseModel" "atomC" "[I", Cond.fieldLink RX12 292 "IntegerHouseModel" "workF" "[I", Cond.fieldLink RX12 226 "IntegerHouseModel" "atomF" "[I", Cond.methodLink RX12 931 yX12_workAt, Cond.instanceMethod yX12_workAt, Cond.selects RX12 yX12_workAt yX12_workAt, Cond.code yX12_workAt cX12_workAt 5 (some .int), Cond.methodLink RX12 985 yX12_explore, Cond.instanceMethod yX12_explore, Cond.selects RX12 yX12_explore yX12_explore, Cond.code yX12_explore cX12_explore 5 (some .boolean), Cond.fieldLink RX12 815 "IntegerHouseModel" "variables" "I", Cond.fieldLink RX12 960 "IntegerHouseModel" "letters" "I", Cond.constant RX12 324 (32768), Cond.fieldLink RX12 325 "IntegerHouseModel" "heads" "[I", Cond.fieldLink RX12 957 "IntegerHouseModel" "places" "I", Cond.fieldLink RX12 331 "IntegerHouseModel" "image2" "[I", Cond.fieldLink RX12 317 "IntegerHouseModel" "place" "[I", Cond.fieldLink RX12 321 "IntegerHouseModel" "behind" "[I", Cond.methodLink RX12 951 yX12_findWork, Cond.instanceMethod yX12_findWork]
def wsX12_decide_r3 : List Cond := [Cond.selects RX12 yX12_findWork yX12_findWork, Cond.code yX12_findWork cX12_findWork 3 none, Cond.fieldLink RX12 120 "IntegerHouseModel" "nodeCount" "[I", Cond.fieldLink RX12 108 "IntegerHouseModel" "nodeKind" "[I", Cond.fieldLink RX12 111 "IntegerHouseModel" "nodeA" "[I", Cond.fieldLink RX12 301 "IntegerHouseModel" "workOf" "[I", Cond.methodLink RX12 963 yX12_placeOf, Cond.instanceMethod yX12_placeOf, Cond.selects RX12 yX12_placeOf yX12_placeOf, Cond.code yX12_placeOf cX12_placeOf 5 (some .int), Cond.constant RX12 508 (-1640531535), Cond.fieldLink RX12 328 "IntegerHouseModel" "chain" "[I", Cond.methodLink RX12 966 yX12_halved, Cond.instanceMethod yX12_halved, Cond.selects RX12 yX12_halved yX12_halved, Cond.code yX12_halved cX12_halved 7 (some .int), Cond.methodLink RX12 988 yX12_judge, Cond.instanceMethod yX12_judge, Cond.selects RX12 yX12_judge yX12_judge, Cond.code yX12_judge cX12_judge 8 none, Cond.fieldLink RX12 346 "IntegerHouseModel" "keptAnswer" "[I", Cond.fieldLink RX12 334 "IntegerHouseModel" "takes" "[I", Cond.fieldLink RX12 337 "IntegerHouseModel" "takes2" "[I", Cond.fieldLink RX12 307 "IntegerHouseModel" "workIs" "[Z"]
def wsX12_decide_r4 : List Cond := [Cond.fieldLink RX12 343 "IntegerHouseModel" "keptRow" "[I", Cond.fieldLink RX12 310 "IntegerHouseModel" "slotIs" "[Z", Cond.methodLink RX12 969 yX12_isSo, Cond.instanceMethod yX12_isSo, Cond.selects RX12 yX12_isSo yX12_isSo, Cond.code yX12_isSo cX12_isSo 7 (some .boolean), Cond.methodLink RX12 768 yX12_rest, Cond.static yX12_rest, Cond.code yX12_rest cX12_rest 6 (some .long), Cond.methodLink RX12 954 yX12_reckonSlots, Cond.instanceMethod yX12_reckonSlots, Cond.selects RX12 yX12_reckonSlots yX12_reckonSlots, Cond.code yX12_reckonSlots cX12_reckonSlots 3 none, Cond.fieldLink RX12 313 "IntegerHouseModel" "nodeIs" "[Z", Cond.fieldLink RX12 184 "IntegerHouseModel" "rootOf" "[I", Cond.methodLink RX12 946 yX12_isNode, Cond.instanceMethod yX12_isNode, Cond.selects RX12 yX12_isNode yX12_isNode, Cond.code yX12_isNode cX12_isNode 5 (some .boolean), Cond.fieldLink RX12 114 "IntegerHouseModel" "nodeB" "[I", Cond.fieldLink RX12 117 "IntegerHouseModel" "nodeNext" "[I", Cond.methodLink RX12 943 yX12_isLeaf, Cond.instanceMethod yX12_isLeaf, Cond.selects RX12 yX12_isLeaf yX12_isLeaf]
def wsX12_decide_r5 : List Cond := [Cond.code yX12_isLeaf cX12_isLeaf 6 (some .boolean), Cond.fieldLink RX12 147 "IntegerHouseModel" "leafCase" "[I", Cond.fieldLink RX12 150 "IntegerHouseModel" "leafCases" "[I", Cond.fieldLink RX12 238 "IntegerHouseModel" "caseLit" "[I", Cond.fieldLink RX12 123 "IntegerHouseModel" "leafOp" "[I", Cond.methodLink RX12 940 yX12_isLit, Cond.instanceMethod yX12_isLit, Cond.selects RX12 yX12_isLit yX12_isLit, Cond.code yX12_isLit cX12_isLit 3 (some .boolean), Cond.methodLink RX12 973 yX12_isAnswer, Cond.instanceMethod yX12_isAnswer, Cond.selects RX12 yX12_isAnswer yX12_isAnswer, Cond.code yX12_isAnswer cX12_isAnswer 5 (some .boolean), Cond.fieldLink RX12 340 "IntegerHouseModel" "isOut" "[Z", Cond.methodLink RX12 991 yX12_tellLeast, Cond.instanceMethod yX12_tellLeast, Cond.selects RX12 yX12_tellLeast yX12_tellLeast, Cond.code yX12_tellLeast cX12_tellLeast 5 (some .boolean), Cond.fieldLink RX12 349 "IntegerHouseModel" "far" "[I", Cond.fieldLink RX12 352 "IntegerHouseModel" "told" "[J", Cond.fieldLink RX12 979 "IntegerHouseModel" "toldVariables" "I", Cond.fieldLink RX12 355 "IntegerHouseModel" "toldHeight" "I", Cond.methodLink RX12 976 yX12_measure, Cond.instanceMethod yX12_measure]
def wsX12_decide_r6 : List Cond := [Cond.selects RX12 yX12_measure yX12_measure, Cond.code yX12_measure cX12_measure 5 none]
def wsX12_decide : List Cond := .code yX12_decide cX12_decide 1 (some .int) :: ((wsX12_decide_r1 ++ (wsX12_decide_r2 ++ (wsX12_decide_r3 ++ (wsX12_decide_r4 ++ (wsX12_decide_r5 ++ wsX12_decide_r6))))) ++ wsX120)
set_option maxRecDepth 20000 in
theorem ggX0_findEnds_X6_acceptedBy : GoodIn wsX0_findEnds wsX6_acceptedBy := goodIn_r _ [11, 12, 13, 14, 15, 10, 16, 17, 37, 38, 39, 40, 41, 42, 43, 44, 45, 46, 47, 48, 49, 50] (by decide +kernel) (by decide +kernel)
set_option maxRecDepth 20000 in
theorem gX0_findEnds_X6_acceptedBy : GoodIn wsX0_findEnds (wsV RX0 78 RX6 yX6_acceptedBy wsX6_acceptedBy) := goodIn_app (goodIn_of _ (by decide +kernel)) ggX0_findEnds_X6_acceptedBy
theorem dX0_findEnds_0 : decode cX0_findEnds 0 = .ok (.aload_n 0, 1) := by decide +kernel
theorem dX0_findEnds_1 : decode cX0_findEnds 1 = .ok (.getfield 48, 3) := by decide +kernel
theorem dX0_findEnds_4 : decode cX0_findEnds 4 = .ok (.getfield 72, 3) := by decide +kernel
theorem dX0_findEnds_7 : decode cX0_findEnds 7 = .ok (.sipush 3000, 3) := by decide +kernel
theorem dX0_findEnds_10 : decode cX0_findEnds 10 = .ok (.invokestatic 75, 3) := by decide +kernel
theorem dX0_findEnds_13 : decode cX0_findEnds 13 = .ok (.istore_n 3, 1) := by decide +kernel
theorem dX0_findEnds_14 : decode cX0_findEnds 14 = .ok (.iconst 0, 1) := by decide +kernel
theorem dX0_findEnds_15 : decode cX0_findEnds 15 = .ok (.istore 4, 2) := by decide +kernel
theorem dX0_findEnds_17 : decode cX0_findEnds 17 = .ok (.iload 4, 2) := by decide +kernel
theorem dX0_findEnds_19 : decode cX0_findEnds 19 = .ok (.iload_n 3, 1) := by decide +kernel
theorem dX0_findEnds_20 : decode cX0_findEnds 20 = .ok (.if_icmp .ge 27, 3) := by decide +kernel
theorem dX0_findEnds_23 : decode cX0_findEnds 23 = .ok (.aload_n 0, 1) := by decide +kernel
theorem dX0_findEnds_24 : decode cX0_findEnds 24 = .ok (.getfield 22, 3) := by decide +kernel
theorem dX0_findEnds_27 : decode cX0_findEnds 27 = .ok (.iload 4, 2) := by decide +kernel
theorem dX0_findEnds_29 : decode cX0_findEnds 29 = .ok (.aload_n 0, 1) := by decide +kernel
theorem dX0_findEnds_30 : decode cX0_findEnds 30 = .ok (.getfield 48, 3) := by decide +kernel
theorem dX0_findEnds_33 : decode cX0_findEnds 33 = .ok (.iload 4, 2) := by decide +kernel
theorem dX0_findEnds_35 : decode cX0_findEnds 35 = .ok (.iload_n 1, 1) := by decide +kernel
theorem dX0_findEnds_36 : decode cX0_findEnds 36 = .ok (.iload_n 2, 1) := by decide +kernel
theorem dX0_findEnds_37 : decode cX0_findEnds 37 = .ok (.invokevirtual 78, 3) := by decide +kernel
theorem dX0_findEnds_40 : decode cX0_findEnds 40 = .ok (.iastore, 1) := by decide +kernel
theorem dX0_findEnds_41 : decode cX0_findEnds 41 = .ok (.iinc 4 1, 3) := by decide +kernel
theorem dX0_findEnds_44 : decode cX0_findEnds 44 = .ok (.goto (-27), 3) := by decide +kernel
theorem dX0_findEnds_47 : decode cX0_findEnds 47 = .ok (.iload_n 3, 1) := by decide +kernel
theorem dX0_findEnds_48 : decode cX0_findEnds 48 = .ok (.ireturn, 1) := by decide +kernel
theorem dX0_endsOf_0 : decode cX0_endsOf 0 = .ok (.iload_n 1, 1) := by decide +kernel
theorem dX0_endsOf_1 : decode cX0_endsOf 1 = .ok (.ifCond .lt 19, 3) := by decide +kernel
theorem dX0_endsOf_4 : decode cX0_endsOf 4 = .ok (.iload_n 1, 1) := by decide +kernel
theorem dX0_endsOf_5 : decode cX0_endsOf 5 = .ok (.sipush 3000, 3) := by decide +kernel
theorem dX0_endsOf_8 : decode cX0_endsOf 8 = .ok (.if_icmp .ge 12, 3) := by decide +kernel
theorem dX0_endsOf_11 : decode cX0_endsOf 11 = .ok (.aload_n 0, 1) := by decide +kernel
theorem dX0_endsOf_12 : decode cX0_endsOf 12 = .ok (.getfield 22, 3) := by decide +kernel
theorem dX0_endsOf_15 : decode cX0_endsOf 15 = .ok (.iload_n 1, 1) := by decide +kernel
theorem dX0_endsOf_16 : decode cX0_endsOf 16 = .ok (.iaload, 1) := by decide +kernel
theorem dX0_endsOf_17 : decode cX0_endsOf 17 = .ok (.goto 4, 3) := by decide +kernel
theorem dX0_endsOf_21 : decode cX0_endsOf 21 = .ok (.ireturn, 1) := by decide +kernel
set_option maxRecDepth 20000 in
theorem ggX0_tellLeast_X0_findEnds : GoodIn wsX0_tellLeast wsX0_findEnds := goodIn_r _ [7, 8, 9, 10, 11, 12, 2, 13, 14, 15, 16, 17, 18, 19, 20, 21, 22, 23, 57, 58, 59, 60, 61, 62, 63, 64, 65, 66, 67, 68, 69, 70, 71, 72, 73, 74, 75, 76, 77, 78, 79, 80, 81, 82, 83, 84, 85, 86, 87, 88, 89] (by decide +kernel) (by decide +kernel)
set_option maxRecDepth 20000 in
theorem gX0_tellLeast_X0_findEnds : GoodIn wsX0_tellLeast (wsV RX0 82 RX0 yX0_findEnds wsX0_findEnds) := goodIn_app (goodIn_of _ (by decide +kernel)) ggX0_tellLeast_X0_findEnds
set_option maxRecDepth 20000 in
theorem ggX0_tellLeast_X0_walk : GoodIn wsX0_tellLeast wsX0_walk := goodIn_r _ [40, 1, 41, 42, 43, 44, 8, 45, 46, 47, 48, 28, 29, 30, 16, 31, 32, 33, 34, 35, 6, 36, 49, 50, 51, 52, 53, 54, 55, 56, 2, 57, 58, 59, 60, 61, 62, 63, 64, 65, 66, 67, 68, 69, 70, 71, 72, 73, 74, 75, 90, 91, 92, 93, 94, 95, 96, 97, 98, 99, 100, 101, 102, 103, 104, 105, 76, 77, 78, 79, 80, 81, 82, 83, 84, 85, 86, 87, 88, 89] (by decide +kernel) (by decide +kernel)
set_option maxRecDepth 20000 in
theorem gX0_tellLeast_X0_walk : GoodIn wsX0_tellLeast (wsV RX0 89 RX0 yX0_walk wsX0_walk) := goodIn_app (goodIn_of _ (by decide +kernel)) ggX0_tellLeast_X0_walk
theorem dX0_tellLeast_0 : decode cX0_tellLeast 0 = .ok (.aload_n 0, 1) := by decide +kernel
theorem dX0_tellLeast_1 : decode cX0_tellLeast 1 = .ok (.iload_n 1, 1) := by decide +kernel
theorem dX0_tellLeast_2 : decode cX0_tellLeast 2 = .ok (.iload_n 2, 1) := by decide +kernel
theorem dX0_tellLeast_3 : decode cX0_tellLeast 3 = .ok (.invokevirtual 82, 3) := by decide +kernel
theorem dX0_tellLeast_6 : decode cX0_tellLeast 6 = .ok (.istore_n 3, 1) := by decide +kernel
theorem dX0_tellLeast_7 : decode cX0_tellLeast 7 = .ok (.iconst 0, 1) := by decide +kernel
theorem dX0_tellLeast_8 : decode cX0_tellLeast 8 = .ok (.istore 4, 2) := by decide +kernel
theorem dX0_tellLeast_10 : decode cX0_tellLeast 10 = .ok (.iload 4, 2) := by decide +kernel
theorem dX0_tellLeast_12 : decode cX0_tellLeast 12 = .ok (.iload_n 3, 1) := by decide +kernel
theorem dX0_tellLeast_13 : decode cX0_tellLeast 13 = .ok (.if_icmp .ge 31, 3) := by decide +kernel
theorem dX0_tellLeast_16 : decode cX0_tellLeast 16 = .ok (.aload_n 0, 1) := by decide +kernel
theorem dX0_tellLeast_17 : decode cX0_tellLeast 17 = .ok (.getfield 18, 3) := by decide +kernel
theorem dX0_tellLeast_20 : decode cX0_tellLeast 20 = .ok (.iload 4, 2) := by decide +kernel
theorem dX0_tellLeast_22 : decode cX0_tellLeast 22 = .ok (.aload_n 0, 1) := by decide +kernel
theorem dX0_tellLeast_23 : decode cX0_tellLeast 23 = .ok (.getfield 22, 3) := by decide +kernel
theorem dX0_tellLeast_26 : decode cX0_tellLeast 26 = .ok (.iload 4, 2) := by decide +kernel
theorem dX0_tellLeast_28 : decode cX0_tellLeast 28 = .ok (.iaload, 1) := by decide +kernel
theorem dX0_tellLeast_29 : decode cX0_tellLeast 29 = .ok (.ifCond .eq 7, 3) := by decide +kernel
theorem dX0_tellLeast_32 : decode cX0_tellLeast 32 = .ok (.iconst 0, 1) := by decide +kernel
theorem dX0_tellLeast_33 : decode cX0_tellLeast 33 = .ok (.goto 4, 3) := by decide +kernel
theorem dX0_tellLeast_37 : decode cX0_tellLeast 37 = .ok (.iastore, 1) := by decide +kernel
theorem dX0_tellLeast_38 : decode cX0_tellLeast 38 = .ok (.iinc 4 1, 3) := by decide +kernel
theorem dX0_tellLeast_41 : decode cX0_tellLeast 41 = .ok (.goto (-31), 3) := by decide +kernel
theorem dX0_tellLeast_44 : decode cX0_tellLeast 44 = .ok (.iconst 1, 1) := by decide +kernel
theorem dX0_tellLeast_45 : decode cX0_tellLeast 45 = .ok (.istore 4, 2) := by decide +kernel
theorem dX0_tellLeast_47 : decode cX0_tellLeast 47 = .ok (.iconst 1, 1) := by decide +kernel
theorem dX0_tellLeast_48 : decode cX0_tellLeast 48 = .ok (.istore 5, 2) := by decide +kernel
theorem dX0_tellLeast_50 : decode cX0_tellLeast 50 = .ok (.iload 5, 2) := by decide +kernel
theorem dX0_tellLeast_52 : decode cX0_tellLeast 52 = .ok (.iload_n 3, 1) := by decide +kernel
theorem dX0_tellLeast_53 : decode cX0_tellLeast 53 = .ok (.if_icmp .gt 33, 3) := by decide +kernel
theorem dX0_tellLeast_56 : decode cX0_tellLeast 56 = .ok (.iload 4, 2) := by decide +kernel
theorem dX0_tellLeast_58 : decode cX0_tellLeast 58 = .ok (.ifCond .eq 28, 3) := by decide +kernel
theorem dX0_tellLeast_61 : decode cX0_tellLeast 61 = .ok (.aload_n 0, 1) := by decide +kernel
theorem dX0_tellLeast_62 : decode cX0_tellLeast 62 = .ok (.getfield 18, 3) := by decide +kernel
theorem dX0_tellLeast_65 : decode cX0_tellLeast 65 = .ok (.iconst 0, 1) := by decide +kernel
theorem dX0_tellLeast_66 : decode cX0_tellLeast 66 = .ok (.iaload, 1) := by decide +kernel
theorem dX0_tellLeast_67 : decode cX0_tellLeast 67 = .ok (.iconst (-1), 1) := by decide +kernel
theorem dX0_tellLeast_68 : decode cX0_tellLeast 68 = .ok (.if_icmp .ne 18, 3) := by decide +kernel
theorem dX0_tellLeast_86 : decode cX0_tellLeast 86 = .ok (.aload_n 0, 1) := by decide +kernel
theorem dX0_tellLeast_87 : decode cX0_tellLeast 87 = .ok (.getfield 18, 3) := by decide +kernel
theorem dX0_tellLeast_90 : decode cX0_tellLeast 90 = .ok (.iconst 0, 1) := by decide +kernel
theorem dX0_tellLeast_91 : decode cX0_tellLeast 91 = .ok (.iaload, 1) := by decide +kernel
theorem dX0_tellLeast_92 : decode cX0_tellLeast 92 = .ok (.iconst (-1), 1) := by decide +kernel
theorem dX0_tellLeast_93 : decode cX0_tellLeast 93 = .ok (.if_icmp .ne 5, 3) := by decide +kernel
theorem dX0_tellLeast_98 : decode cX0_tellLeast 98 = .ok (.aload_n 0, 1) := by decide +kernel
theorem dX0_tellLeast_99 : decode cX0_tellLeast 99 = .ok (.invokevirtual 89, 3) := by decide +kernel
theorem dX0_tellLeast_102 : decode cX0_tellLeast 102 = .ok (.iconst 1, 1) := by decide +kernel
theorem dX0_tellLeast_103 : decode cX0_tellLeast 103 = .ok (.ireturn, 1) := by decide +kernel
set_option maxRecDepth 20000 in
theorem ggX0_walk_J7_fill_d0a16 : GoodIn wsX0_walk wsJ7_fill_d0a16 := goodIn_r _ [10] (by decide +kernel) (by decide +kernel)
set_option maxRecDepth 20000 in
theorem gX0_walk_J7_fill_d0a16 : GoodIn wsX0_walk (va_wsS RX0 102 yJ7_fill_d0a16 wsJ7_fill_d0a16) := goodIn_app (goodIn_of _ (by decide +kernel)) ggX0_walk_J7_fill_d0a16
set_option maxRecDepth 20000 in
theorem ggX0_walk_X0_addBits : GoodIn wsX0_walk wsX0_addBits := goodIn_r _ [25, 5, 31, 32, 33, 34, 35, 36, 37, 38, 39, 40, 41, 42, 43, 44, 45, 46, 47, 48, 49] (by decide +kernel) (by decide +kernel)
set_option maxRecDepth 20000 in
theorem gX0_walk_X0_addBits : GoodIn wsX0_walk (wsV RX0 108 RX0 yX0_addBits wsX0_addBits) := goodIn_app (goodIn_of _ (by decide +kernel)) ggX0_walk_X0_addBits
set_option maxRecDepth 20000 in
theorem ggX0_walk_X0_endsOf : GoodIn wsX0_walk wsX0_endsOf := goodIn_r _ [29, 30, 31, 32, 33, 34, 35, 36, 37, 38, 39, 40, 41, 42, 43, 44, 45, 46, 47, 48, 49] (by decide +kernel) (by decide +kernel)
set_option maxRecDepth 20000 in
theorem gX0_walk_X0_endsOf : GoodIn wsX0_walk (wsV RX0 112 RX0 yX0_endsOf wsX0_endsOf) := goodIn_app (goodIn_of _ (by decide +kernel)) ggX0_walk_X0_endsOf
theorem dX0_walk_0 : decode cX0_walk 0 = .ok (.iconst 0, 1) := by decide +kernel
theorem dX0_walk_1 : decode cX0_walk 1 = .ok (.istore_n 1, 1) := by decide +kernel
theorem dX0_walk_2 : decode cX0_walk 2 = .ok (.aload_n 0, 1) := by decide +kernel
theorem dX0_walk_3 : decode cX0_walk 3 = .ok (.aload_n 0, 1) := by decide +kernel
theorem dX0_walk_4 : decode cX0_walk 4 = .ok (.getfield 18, 3) := by decide +kernel
theorem dX0_walk_7 : decode cX0_walk 7 = .ok (.iconst 0, 1) := by decide +kernel
theorem dX0_walk_8 : decode cX0_walk 8 = .ok (.iaload, 1) := by decide +kernel
theorem dX0_walk_9 : decode cX0_walk 9 = .ok (.putfield 40, 3) := by decide +kernel
theorem dX0_walk_12 : decode cX0_walk 12 = .ok (.aload_n 0, 1) := by decide +kernel
theorem dX0_walk_13 : decode cX0_walk 13 = .ok (.aload_n 0, 1) := by decide +kernel
theorem dX0_walk_14 : decode cX0_walk 14 = .ok (.getfield 44, 3) := by decide +kernel
theorem dX0_walk_17 : decode cX0_walk 17 = .ok (.getfield 52, 3) := by decide +kernel
theorem dX0_walk_20 : decode cX0_walk 20 = .ok (.putfield 69, 3) := by decide +kernel
theorem dX0_walk_23 : decode cX0_walk 23 = .ok (.aload_n 0, 1) := by decide +kernel
theorem dX0_walk_24 : decode cX0_walk 24 = .ok (.getfield 9, 3) := by decide +kernel
theorem dX0_walk_27 : decode cX0_walk 27 = .ok (.lconst 0, 1) := by decide +kernel
theorem dX0_walk_28 : decode cX0_walk 28 = .ok (.invokestatic 102, 3) := by decide +kernel
theorem dX0_walk_31 : decode cX0_walk 31 = .ok (.aload_n 0, 1) := by decide +kernel
theorem dX0_walk_32 : decode cX0_walk 32 = .ok (.getfield 40, 3) := by decide +kernel
theorem dX0_walk_35 : decode cX0_walk 35 = .ok (.istore_n 2, 1) := by decide +kernel
theorem dX0_walk_36 : decode cX0_walk 36 = .ok (.iload_n 2, 1) := by decide +kernel
theorem dX0_walk_37 : decode cX0_walk 37 = .ok (.ifCond .le 64, 3) := by decide +kernel
theorem dX0_walk_101 : decode cX0_walk 101 = .ok (.iconst 0, 1) := by decide +kernel
theorem dX0_walk_102 : decode cX0_walk 102 = .ok (.istore_n 2, 1) := by decide +kernel
theorem dX0_walk_103 : decode cX0_walk 103 = .ok (.iload_n 2, 1) := by decide +kernel
theorem dX0_walk_104 : decode cX0_walk 104 = .ok (.bipush 15, 2) := by decide +kernel
theorem dX0_walk_106 : decode cX0_walk 106 = .ok (.if_icmp .ge 21, 3) := by decide +kernel
theorem dX0_walk_109 : decode cX0_walk 109 = .ok (.aload_n 0, 1) := by decide +kernel
theorem dX0_walk_110 : decode cX0_walk 110 = .ok (.iload_n 1, 1) := by decide +kernel
theorem dX0_walk_111 : decode cX0_walk 111 = .ok (.invokevirtual 112, 3) := by decide +kernel
theorem dX0_walk_114 : decode cX0_walk 114 = .ok (.iload_n 2, 1) := by decide +kernel
theorem dX0_walk_115 : decode cX0_walk 115 = .ok (.iushr, 1) := by decide +kernel
theorem dX0_walk_116 : decode cX0_walk 116 = .ok (.iconst 1, 1) := by decide +kernel
theorem dX0_walk_117 : decode cX0_walk 117 = .ok (.iand, 1) := by decide +kernel
theorem dX0_walk_118 : decode cX0_walk 118 = .ok (.ifCond .ne 9, 3) := by decide +kernel
theorem dX0_walk_127 : decode cX0_walk 127 = .ok (.aload_n 0, 1) := by decide +kernel
theorem dX0_walk_128 : decode cX0_walk 128 = .ok (.iload_n 2, 1) := by decide +kernel
theorem dX0_walk_129 : decode cX0_walk 129 = .ok (.aload_n 0, 1) := by decide +kernel
theorem dX0_walk_130 : decode cX0_walk 130 = .ok (.getfield 40, 3) := by decide +kernel
theorem dX0_walk_133 : decode cX0_walk 133 = .ok (.iconst (-1), 1) := by decide +kernel
theorem dX0_walk_134 : decode cX0_walk 134 = .ok (.invokevirtual 108, 3) := by decide +kernel
theorem dX0_walk_137 : decode cX0_walk 137 = .ok (.return_, 1) := by decide +kernel
theorem dX0_addBits_0 : decode cX0_addBits 0 = .ok (.iconst 0, 1) := by decide +kernel
theorem dX0_addBits_1 : decode cX0_addBits 1 = .ok (.istore 4, 2) := by decide +kernel
theorem dX0_addBits_3 : decode cX0_addBits 3 = .ok (.iload 4, 2) := by decide +kernel
theorem dX0_addBits_5 : decode cX0_addBits 5 = .ok (.iconst 4, 1) := by decide +kernel
theorem dX0_addBits_6 : decode cX0_addBits 6 = .ok (.if_icmp .ge 38, 3) := by decide +kernel
theorem dX0_addBits_9 : decode cX0_addBits 9 = .ok (.iload_n 2, 1) := by decide +kernel
theorem dX0_addBits_10 : decode cX0_addBits 10 = .ok (.bipush 62, 2) := by decide +kernel
theorem dX0_addBits_12 : decode cX0_addBits 12 = .ok (.if_icmp .ge 32, 3) := by decide +kernel
theorem dX0_addBits_15 : decode cX0_addBits 15 = .ok (.aload_n 0, 1) := by decide +kernel
theorem dX0_addBits_16 : decode cX0_addBits 16 = .ok (.getfield 9, 3) := by decide +kernel
theorem dX0_addBits_19 : decode cX0_addBits 19 = .ok (.iload 4, 2) := by decide +kernel
theorem dX0_addBits_21 : decode cX0_addBits 21 = .ok (.dup2, 1) := by decide +kernel
theorem dX0_addBits_22 : decode cX0_addBits 22 = .ok (.laload, 1) := by decide +kernel
theorem dX0_addBits_23 : decode cX0_addBits 23 = .ok (.iload_n 1, 1) := by decide +kernel
theorem dX0_addBits_24 : decode cX0_addBits 24 = .ok (.iload 4, 2) := by decide +kernel
theorem dX0_addBits_26 : decode cX0_addBits 26 = .ok (.iushr, 1) := by decide +kernel
theorem dX0_addBits_27 : decode cX0_addBits 27 = .ok (.iconst 1, 1) := by decide +kernel
theorem dX0_addBits_28 : decode cX0_addBits 28 = .ok (.iand, 1) := by decide +kernel
theorem dX0_addBits_29 : decode cX0_addBits 29 = .ok (.iload_n 3, 1) := by decide +kernel
theorem dX0_addBits_30 : decode cX0_addBits 30 = .ok (.imul, 1) := by decide +kernel
theorem dX0_addBits_31 : decode cX0_addBits 31 = .ok (.i2l, 1) := by decide +kernel
theorem dX0_addBits_32 : decode cX0_addBits 32 = .ok (.lconst 1, 1) := by decide +kernel
theorem dX0_addBits_33 : decode cX0_addBits 33 = .ok (.iload_n 2, 1) := by decide +kernel
theorem dX0_addBits_34 : decode cX0_addBits 34 = .ok (.lshl, 1) := by decide +kernel
theorem dX0_addBits_35 : decode cX0_addBits 35 = .ok (.lmul, 1) := by decide +kernel
theorem dX0_addBits_36 : decode cX0_addBits 36 = .ok (.ladd, 1) := by decide +kernel
theorem dX0_addBits_37 : decode cX0_addBits 37 = .ok (.lastore, 1) := by decide +kernel
theorem dX0_addBits_38 : decode cX0_addBits 38 = .ok (.iinc 4 1, 3) := by decide +kernel
theorem dX0_addBits_41 : decode cX0_addBits 41 = .ok (.goto (-38), 3) := by decide +kernel
theorem dX0_addBits_44 : decode cX0_addBits 44 = .ok (.return_, 1) := by decide +kernel
set_option maxRecDepth 20000 in
theorem ggX11_decide_X6_judge : GoodIn wsX11_decide wsX6_judge := goodIn_r _ [9, 10, 11, 12, 13, 14, 15, 8, 16, 17, 18, 19, 20, 21, 22, 23, 24, 25, 26, 27, 28, 29, 30, 31, 32, 33, 34, 35, 36, 37, 38, 39, 40, 41, 42, 43, 44, 45, 46, 47, 48, 49, 50, 51, 52, 53, 54, 55, 56, 57, 58, 59, 60, 61, 62, 63, 64, 65, 66, 67, 68, 69, 70, 71, 72, 73, 74, 75, 76, 77, 78, 79, 80, 81, 82, 83, 84, 85, 86, 87, 88, 89, 90, 91, 92, 93, 94, 95, 96, 97, 190, 191, 192, 193, 194, 195, 196, 197, 198, 199, 200, 201, 202, 203, 174, 175, 176, 177, 178, 179, 180, 181, 182, 183, 184, 185, 186, 187, 188, 189] (by decide +kernel) (by decide +kernel)
set_option maxRecDepth 20000 in
theorem gX11_decide_X6_judge : GoodIn wsX11_decide (wsV RX11 298 RX6 yX6_judge wsX6_judge) := goodIn_app (goodIn_of _ (by decide +kernel)) ggX11_decide_X6_judge
set_option maxRecDepth 20000 in
theorem ggX11_decide_X0_tellLeast : GoodIn wsX11_decide wsX0_tellLeast := goodIn_r _ [102, 103, 104, 105, 106, 107, 101, 108, 109, 110, 30, 31, 32, 111, 112, 113, 8, 114, 11, 115, 116, 117, 118, 12, 119, 120, 121, 122, 123, 124, 125, 126, 23, 127, 128, 129, 130, 131, 132, 133, 134, 135, 136, 137, 138, 139, 140, 60, 141, 142, 143, 144, 145, 146, 147, 148, 149, 204, 205, 206, 207, 208, 209, 210, 211, 212, 213, 214, 215, 216, 217, 218, 219, 220, 221, 222, 190, 191, 192, 193, 194, 195, 196, 197, 198, 199, 200, 201, 202, 203, 174, 175, 176, 177, 178, 179, 180, 181, 182, 183, 184, 185, 186, 187, 188, 189] (by decide +kernel) (by decide +kernel)
set_option maxRecDepth 20000 in
theorem gX11_decide_X0_tellLeast : GoodIn wsX11_decide (wsV RX11 301 RX0 yX0_tellLeast wsX0_tellLeast) := goodIn_app (goodIn_of _ (by decide +kernel)) ggX11_decide_X0_tellLeast
theorem dX11_decide_0 : decode cX11_decide 0 = .ok (.aload_n 0, 1) := by decide +kernel
theorem dX11_decide_1 : decode cX11_decide 1 = .ok (.getfield 16, 3) := by decide +kernel
theorem dX11_decide_4 : decode cX11_decide 4 = .ok (.getfield 122, 3) := by decide +kernel
theorem dX11_decide_7 : decode cX11_decide 7 = .ok (.ifCond .eq 6, 3) := by decide +kernel
theorem dX11_decide_13 : decode cX11_decide 13 = .ok (.aload_n 0, 1) := by decide +kernel
theorem dX11_decide_14 : decode cX11_decide 14 = .ok (.getfield 55, 3) := by decide +kernel
theorem dX11_decide_17 : decode cX11_decide 17 = .ok (.aload_n 0, 1) := by decide +kernel
theorem dX11_decide_18 : decode cX11_decide 18 = .ok (.getfield 23, 3) := by decide +kernel
theorem dX11_decide_21 : decode cX11_decide 21 = .ok (.getfield 213, 3) := by decide +kernel
theorem dX11_decide_24 : decode cX11_decide 24 = .ok (.invokevirtual 298, 3) := by decide +kernel
theorem dX11_decide_27 : decode cX11_decide 27 = .ok (.ifCond .ne 6, 3) := by decide +kernel
theorem dX11_decide_33 : decode cX11_decide 33 = .ok (.aload_n 0, 1) := by decide +kernel
theorem dX11_decide_34 : decode cX11_decide 34 = .ok (.getfield 64, 3) := by decide +kernel
theorem dX11_decide_37 : decode cX11_decide 37 = .ok (.aload_n 0, 1) := by decide +kernel
theorem dX11_decide_38 : decode cX11_decide 38 = .ok (.getfield 23, 3) := by decide +kernel
theorem dX11_decide_41 : decode cX11_decide 41 = .ok (.getfield 213, 3) := by decide +kernel
theorem dX11_decide_44 : decode cX11_decide 44 = .ok (.iconst 0, 1) := by decide +kernel
theorem dX11_decide_45 : decode cX11_decide 45 = .ok (.invokevirtual 301, 3) := by decide +kernel
theorem dX11_decide_48 : decode cX11_decide 48 = .ok (.ifCond .eq 7, 3) := by decide +kernel
theorem dX11_decide_51 : decode cX11_decide 51 = .ok (.iconst 1, 1) := by decide +kernel
theorem dX11_decide_52 : decode cX11_decide 52 = .ok (.goto 4, 3) := by decide +kernel
theorem dX11_decide_56 : decode cX11_decide 56 = .ok (.ireturn, 1) := by decide +kernel
theorem dX12_idle_0 : decode cX12_idle 0 = .ok (.aload_n 0, 1) := by decide +kernel
theorem dX12_idle_1 : decode cX12_idle 1 = .ok (.iconst 0, 1) := by decide +kernel
theorem dX12_idle_2 : decode cX12_idle 2 = .ok (.putfield 928, 3) := by decide +kernel
theorem dX12_idle_5 : decode cX12_idle 5 = .ok (.iconst 0, 1) := by decide +kernel
theorem dX12_idle_6 : decode cX12_idle 6 = .ok (.istore_n 1, 1) := by decide +kernel
theorem dX12_idle_7 : decode cX12_idle 7 = .ok (.iload_n 1, 1) := by decide +kernel
theorem dX12_idle_8 : decode cX12_idle 8 = .ok (.bipush 25, 2) := by decide +kernel
theorem dX12_idle_10 : decode cX12_idle 10 = .ok (.if_icmp .gt 16, 3) := by decide +kernel
theorem dX12_idle_13 : decode cX12_idle 13 = .ok (.aload_n 0, 1) := by decide +kernel
theorem dX12_idle_14 : decode cX12_idle 14 = .ok (.getfield 304, 3) := by decide +kernel
theorem dX12_idle_17 : decode cX12_idle 17 = .ok (.iload_n 1, 1) := by decide +kernel
theorem dX12_idle_18 : decode cX12_idle 18 = .ok (.iconst 0, 1) := by decide +kernel
theorem dX12_idle_19 : decode cX12_idle 19 = .ok (.bastore, 1) := by decide +kernel
theorem dX12_idle_20 : decode cX12_idle 20 = .ok (.iinc 1 1, 3) := by decide +kernel
theorem dX12_idle_23 : decode cX12_idle 23 = .ok (.goto (-16), 3) := by decide +kernel
theorem dX12_idle_26 : decode cX12_idle 26 = .ok (.return_, 1) := by decide +kernel
set_option maxRecDepth 20000 in
theorem ggX12_putOn_X12_idle : GoodIn wsX12_putOn wsX12_idle := goodIn_r _ [7, 8, 9, 25, 26, 27, 28, 29, 30, 31, 32, 33, 34, 35, 36, 37, 38, 39, 40, 41, 42, 43, 44, 45, 46, 47, 48, 49, 50, 51, 52, 53, 54, 55, 56, 57, 58, 59, 60, 61, 62, 63, 64, 65, 66, 67, 68, 69, 70, 71, 72, 73, 74, 75, 76, 77, 78, 79, 80, 81, 82, 83, 84, 85, 86, 87, 88, 89, 90, 91, 92, 93, 94, 95, 96, 97, 98, 99, 100, 101, 102, 103, 104, 105, 106, 107, 108, 109, 110, 111, 112, 113, 114, 115, 116, 117, 118, 119, 120, 121, 122, 123, 124, 125, 126, 127, 128, 129, 130, 131, 132, 133, 134, 135, 136, 137, 138, 139, 140, 141, 142, 143, 144, 145, 146, 147, 148, 149, 150, 151, 152, 153, 154, 155, 156, 157, 158, 159, 160, 161, 162, 163, 164, 165, 166, 167, 168, 169, 170, 171, 172, 173, 174, 175, 176, 177, 178, 179, 180, 181, 182, 183, 184, 185, 186, 187, 188, 189, 190, 191, 192, 193, 194, 195, 196, 197, 198, 199, 200, 201, 202, 203, 204, 205, 206, 207, 208, 209, 210, 211, 212, 213, 214, 215, 216, 217, 218, 219] (by decide +kernel) (by decide +kernel)
set_option maxRecDepth 20000 in
theorem gX12_putOn_X12_idle : GoodIn wsX12_putOn (wsV RX12 934 RX12 yX12_idle wsX12_idle) := goodIn_app (goodIn_of _ (by decide +kernel)) ggX12_putOn_X12_idle
theorem dX12_putOn_0 : decode cX12_putOn 0 = .ok (.aload_n 0, 1) := by decide +kernel
theorem dX12_putOn_1 : decode cX12_putOn 1 = .ok (.invokevirtual 934, 3) := by decide +kernel
theorem dX12_putOn_4 : decode cX12_putOn 4 = .ok (.iconst 0, 1) := by decide +kernel
theorem dX12_putOn_5 : decode cX12_putOn 5 = .ok (.istore_n 1, 1) := by decide +kernel
theorem dX12_putOn_6 : decode cX12_putOn 6 = .ok (.iload_n 1, 1) := by decide +kernel
theorem dX12_putOn_7 : decode cX12_putOn 7 = .ok (.aload_n 0, 1) := by decide +kernel
theorem dX12_putOn_8 : decode cX12_putOn 8 = .ok (.getfield 818, 3) := by decide +kernel
theorem dX12_putOn_11 : decode cX12_putOn 11 = .ok (.if_icmp .ge 23, 3) := by decide +kernel
theorem dX12_putOn_34 : decode cX12_putOn 34 = .ok (.return_, 1) := by decide +kernel
theorem dX12_findWork_0 : decode cX12_findWork 0 = .ok (.bipush 24, 2) := by decide +kernel
theorem dX12_findWork_2 : decode cX12_findWork 2 = .ok (.istore_n 1, 1) := by decide +kernel
theorem dX12_findWork_3 : decode cX12_findWork 3 = .ok (.iload_n 1, 1) := by decide +kernel
theorem dX12_findWork_4 : decode cX12_findWork 4 = .ok (.ifCond .lt 115, 3) := by decide +kernel
theorem dX12_findWork_7 : decode cX12_findWork 7 = .ok (.sipush 250, 3) := by decide +kernel
theorem dX12_findWork_10 : decode cX12_findWork 10 = .ok (.iload_n 1, 1) := by decide +kernel
theorem dX12_findWork_11 : decode cX12_findWork 11 = .ok (.imul, 1) := by decide +kernel
theorem dX12_findWork_12 : decode cX12_findWork 12 = .ok (.istore_n 2, 1) := by decide +kernel
theorem dX12_findWork_13 : decode cX12_findWork 13 = .ok (.aload_n 0, 1) := by decide +kernel
theorem dX12_findWork_14 : decode cX12_findWork 14 = .ok (.getfield 304, 3) := by decide +kernel
theorem dX12_findWork_17 : decode cX12_findWork 17 = .ok (.iload_n 1, 1) := by decide +kernel
theorem dX12_findWork_18 : decode cX12_findWork 18 = .ok (.baload, 1) := by decide +kernel
theorem dX12_findWork_19 : decode cX12_findWork 19 = .ok (.ifCond .eq 48, 3) := by decide +kernel
theorem dX12_findWork_67 : decode cX12_findWork 67 = .ok (.bipush 24, 2) := by decide +kernel
theorem dX12_findWork_69 : decode cX12_findWork 69 = .ok (.iload_n 1, 1) := by decide +kernel
theorem dX12_findWork_70 : decode cX12_findWork 70 = .ok (.imul, 1) := by decide +kernel
theorem dX12_findWork_71 : decode cX12_findWork 71 = .ok (.istore_n 2, 1) := by decide +kernel
theorem dX12_findWork_72 : decode cX12_findWork 72 = .ok (.aload_n 0, 1) := by decide +kernel
theorem dX12_findWork_73 : decode cX12_findWork 73 = .ok (.getfield 304, 3) := by decide +kernel
theorem dX12_findWork_76 : decode cX12_findWork 76 = .ok (.iload_n 1, 1) := by decide +kernel
theorem dX12_findWork_77 : decode cX12_findWork 77 = .ok (.baload, 1) := by decide +kernel
theorem dX12_findWork_78 : decode cX12_findWork 78 = .ok (.ifCond .eq 35, 3) := by decide +kernel
theorem dX12_findWork_113 : decode cX12_findWork 113 = .ok (.iinc 1 (-1), 3) := by decide +kernel
theorem dX12_findWork_116 : decode cX12_findWork 116 = .ok (.goto (-113), 3) := by decide +kernel
theorem dX12_findWork_119 : decode cX12_findWork 119 = .ok (.return_, 1) := by decide +kernel
theorem dX12_reckonSlots_0 : decode cX12_reckonSlots 0 = .ok (.iconst 0, 1) := by decide +kernel
theorem dX12_reckonSlots_1 : decode cX12_reckonSlots 1 = .ok (.istore_n 1, 1) := by decide +kernel
theorem dX12_reckonSlots_2 : decode cX12_reckonSlots 2 = .ok (.iload_n 1, 1) := by decide +kernel
theorem dX12_reckonSlots_3 : decode cX12_reckonSlots 3 = .ok (.bipush 24, 2) := by decide +kernel
theorem dX12_reckonSlots_5 : decode cX12_reckonSlots 5 = .ok (.if_icmp .gt 75, 3) := by decide +kernel
theorem dX12_reckonSlots_8 : decode cX12_reckonSlots 8 = .ok (.aload_n 0, 1) := by decide +kernel
theorem dX12_reckonSlots_9 : decode cX12_reckonSlots 9 = .ok (.getfield 304, 3) := by decide +kernel
theorem dX12_reckonSlots_12 : decode cX12_reckonSlots 12 = .ok (.iload_n 1, 1) := by decide +kernel
theorem dX12_reckonSlots_13 : decode cX12_reckonSlots 13 = .ok (.baload, 1) := by decide +kernel
theorem dX12_reckonSlots_14 : decode cX12_reckonSlots 14 = .ok (.ifCond .eq 60, 3) := by decide +kernel
theorem dX12_reckonSlots_74 : decode cX12_reckonSlots 74 = .ok (.iinc 1 1, 3) := by decide +kernel
theorem dX12_reckonSlots_77 : decode cX12_reckonSlots 77 = .ok (.goto (-75), 3) := by decide +kernel
theorem dX12_reckonSlots_80 : decode cX12_reckonSlots 80 = .ok (.return_, 1) := by decide +kernel
theorem dX12_placeOf_0 : decode cX12_placeOf 0 = .ok (.bipush 17, 2) := by decide +kernel
theorem dX12_placeOf_2 : decode cX12_placeOf 2 = .ok (.istore_n 1, 1) := by decide +kernel
theorem dX12_placeOf_3 : decode cX12_placeOf 3 = .ok (.iconst 0, 1) := by decide +kernel
theorem dX12_placeOf_4 : decode cX12_placeOf 4 = .ok (.istore_n 2, 1) := by decide +kernel
theorem dX12_placeOf_5 : decode cX12_placeOf 5 = .ok (.iload_n 2, 1) := by decide +kernel
theorem dX12_placeOf_6 : decode cX12_placeOf 6 = .ok (.aload_n 0, 1) := by decide +kernel
theorem dX12_placeOf_7 : decode cX12_placeOf 7 = .ok (.getfield 928, 3) := by decide +kernel
theorem dX12_placeOf_10 : decode cX12_placeOf 10 = .ok (.if_icmp .ge 29, 3) := by decide +kernel
theorem dX12_placeOf_39 : decode cX12_placeOf 39 = .ok (.iload_n 1, 1) := by decide +kernel
theorem dX12_placeOf_40 : decode cX12_placeOf 40 = .ok (.sipush 32767, 3) := by decide +kernel
theorem dX12_placeOf_43 : decode cX12_placeOf 43 = .ok (.iand, 1) := by decide +kernel
theorem dX12_placeOf_44 : decode cX12_placeOf 44 = .ok (.istore_n 1, 1) := by decide +kernel
theorem dX12_placeOf_45 : decode cX12_placeOf 45 = .ok (.aload_n 0, 1) := by decide +kernel
theorem dX12_placeOf_46 : decode cX12_placeOf 46 = .ok (.getfield 325, 3) := by decide +kernel
theorem dX12_placeOf_49 : decode cX12_placeOf 49 = .ok (.iload_n 1, 1) := by decide +kernel
theorem dX12_placeOf_50 : decode cX12_placeOf 50 = .ok (.iaload, 1) := by decide +kernel
theorem dX12_placeOf_51 : decode cX12_placeOf 51 = .ok (.istore_n 2, 1) := by decide +kernel
theorem dX12_placeOf_52 : decode cX12_placeOf 52 = .ok (.iload_n 2, 1) := by decide +kernel
theorem dX12_placeOf_53 : decode cX12_placeOf 53 = .ok (.iconst (-1), 1) := by decide +kernel
theorem dX12_placeOf_54 : decode cX12_placeOf 54 = .ok (.if_icmp .eq 71, 3) := by decide +kernel
theorem dX12_placeOf_57 : decode cX12_placeOf 57 = .ok (.iconst 1, 1) := by decide +kernel
theorem dX12_placeOf_58 : decode cX12_placeOf 58 = .ok (.istore_n 3, 1) := by decide +kernel
theorem dX12_placeOf_59 : decode cX12_placeOf 59 = .ok (.iconst 0, 1) := by decide +kernel
theorem dX12_placeOf_60 : decode cX12_placeOf 60 = .ok (.istore 4, 2) := by decide +kernel
theorem dX12_placeOf_62 : decode cX12_placeOf 62 = .ok (.iload 4, 2) := by decide +kernel
theorem dX12_placeOf_64 : decode cX12_placeOf 64 = .ok (.aload_n 0, 1) := by decide +kernel
theorem dX12_placeOf_65 : decode cX12_placeOf 65 = .ok (.getfield 928, 3) := by decide +kernel
theorem dX12_placeOf_68 : decode cX12_placeOf 68 = .ok (.if_icmp .ge 41, 3) := by decide +kernel
theorem dX12_placeOf_109 : decode cX12_placeOf 109 = .ok (.iload_n 3, 1) := by decide +kernel
theorem dX12_placeOf_110 : decode cX12_placeOf 110 = .ok (.ifCond .eq 5, 3) := by decide +kernel
theorem dX12_placeOf_113 : decode cX12_placeOf 113 = .ok (.iload_n 2, 1) := by decide +kernel
theorem dX12_placeOf_114 : decode cX12_placeOf 114 = .ok (.ireturn, 1) := by decide +kernel
theorem dX12_placeOf_125 : decode cX12_placeOf 125 = .ok (.aload_n 0, 1) := by decide +kernel
theorem dX12_placeOf_126 : decode cX12_placeOf 126 = .ok (.getfield 957, 3) := by decide +kernel
theorem dX12_placeOf_129 : decode cX12_placeOf 129 = .ok (.sipush 3000, 3) := by decide +kernel
theorem dX12_placeOf_132 : decode cX12_placeOf 132 = .ok (.if_icmp .ne 7, 3) := by decide +kernel
theorem dX12_placeOf_139 : decode cX12_placeOf 139 = .ok (.iconst 0, 1) := by decide +kernel
theorem dX12_placeOf_140 : decode cX12_placeOf 140 = .ok (.istore_n 2, 1) := by decide +kernel
theorem dX12_placeOf_141 : decode cX12_placeOf 141 = .ok (.iload_n 2, 1) := by decide +kernel
theorem dX12_placeOf_142 : decode cX12_placeOf 142 = .ok (.aload_n 0, 1) := by decide +kernel
theorem dX12_placeOf_143 : decode cX12_placeOf 143 = .ok (.getfield 928, 3) := by decide +kernel
theorem dX12_placeOf_146 : decode cX12_placeOf 146 = .ok (.if_icmp .ge 29, 3) := by decide +kernel
theorem dX12_placeOf_175 : decode cX12_placeOf 175 = .ok (.aload_n 0, 1) := by decide +kernel
theorem dX12_placeOf_176 : decode cX12_placeOf 176 = .ok (.getfield 328, 3) := by decide +kernel
theorem dX12_placeOf_179 : decode cX12_placeOf 179 = .ok (.aload_n 0, 1) := by decide +kernel
theorem dX12_placeOf_180 : decode cX12_placeOf 180 = .ok (.getfield 957, 3) := by decide +kernel
theorem dX12_placeOf_183 : decode cX12_placeOf 183 = .ok (.aload_n 0, 1) := by decide +kernel
theorem dX12_placeOf_184 : decode cX12_placeOf 184 = .ok (.getfield 325, 3) := by decide +kernel
theorem dX12_placeOf_187 : decode cX12_placeOf 187 = .ok (.iload_n 1, 1) := by decide +kernel
theorem dX12_placeOf_188 : decode cX12_placeOf 188 = .ok (.iaload, 1) := by decide +kernel
theorem dX12_placeOf_189 : decode cX12_placeOf 189 = .ok (.iastore, 1) := by decide +kernel
theorem dX12_placeOf_190 : decode cX12_placeOf 190 = .ok (.aload_n 0, 1) := by decide +kernel
theorem dX12_placeOf_191 : decode cX12_placeOf 191 = .ok (.getfield 325, 3) := by decide +kernel
theorem dX12_placeOf_194 : decode cX12_placeOf 194 = .ok (.iload_n 1, 1) := by decide +kernel
theorem dX12_placeOf_195 : decode cX12_placeOf 195 = .ok (.aload_n 0, 1) := by decide +kernel
theorem dX12_placeOf_196 : decode cX12_placeOf 196 = .ok (.getfield 957, 3) := by decide +kernel
theorem dX12_placeOf_199 : decode cX12_placeOf 199 = .ok (.iastore, 1) := by decide +kernel
theorem dX12_placeOf_200 : decode cX12_placeOf 200 = .ok (.aload_n 0, 1) := by decide +kernel
theorem dX12_placeOf_201 : decode cX12_placeOf 201 = .ok (.dup, 1) := by decide +kernel
theorem dX12_placeOf_202 : decode cX12_placeOf 202 = .ok (.getfield 957, 3) := by decide +kernel
theorem dX12_placeOf_205 : decode cX12_placeOf 205 = .ok (.iconst 1, 1) := by decide +kernel
theorem dX12_placeOf_206 : decode cX12_placeOf 206 = .ok (.iadd, 1) := by decide +kernel
theorem dX12_placeOf_207 : decode cX12_placeOf 207 = .ok (.putfield 957, 3) := by decide +kernel
theorem dX12_placeOf_210 : decode cX12_placeOf 210 = .ok (.aload_n 0, 1) := by decide +kernel
theorem dX12_placeOf_211 : decode cX12_placeOf 211 = .ok (.getfield 957, 3) := by decide +kernel
theorem dX12_placeOf_214 : decode cX12_placeOf 214 = .ok (.iconst 1, 1) := by decide +kernel
theorem dX12_placeOf_215 : decode cX12_placeOf 215 = .ok (.isub, 1) := by decide +kernel
theorem dX12_placeOf_216 : decode cX12_placeOf 216 = .ok (.ireturn, 1) := by decide +kernel
set_option maxRecDepth 20000 in
theorem ggX12_explore_X12_findWork : GoodIn wsX12_explore wsX12_findWork := goodIn_r _ [16, 17, 18, 19, 20, 21, 22, 23, 24, 25, 15, 26, 1, 8, 27, 9, 28, 29, 30, 41, 42, 43, 44, 45, 46, 47, 48, 49, 50, 51, 52, 53, 54, 55, 56, 57, 58, 59, 60, 61, 62, 63, 64, 65, 66, 67, 68, 69, 70, 71, 72, 73, 74, 75, 76, 77, 78, 79, 80, 81, 82, 83, 84, 85, 86, 87, 88, 89, 90, 91, 92, 93, 94, 95, 96, 97, 98, 99, 100, 101, 102, 103, 104, 105, 106, 107, 108, 109, 110, 111, 112, 113, 114, 115, 116, 117, 118, 119, 120, 121, 122, 123, 124, 125, 126, 127, 128, 129, 130, 131, 132, 133, 134, 135, 136, 137, 138, 139, 140, 141, 142, 143, 144, 145, 146, 147, 148, 149, 150, 151, 152, 153, 154, 155, 156, 157, 158, 159, 160, 161, 162, 163, 164, 165, 166, 167, 168, 169, 170, 171, 172, 173, 174, 175, 176, 177, 178, 179, 180, 181, 182, 183, 184, 185, 186, 187, 188, 189, 190, 191, 192, 193, 194, 195, 196, 197, 198, 199, 200, 201, 202, 203, 204, 205, 206, 207, 208, 209, 210, 211, 212, 213, 214, 215, 216, 217, 218, 219, 220, 221, 222, 223, 224, 225, 226, 227, 228, 229, 230, 231, 232, 233, 234, 235] (by decide +kernel) (by decide +kernel)
set_option maxRecDepth 20000 in
theorem gX12_explore_X12_findWork : GoodIn wsX12_explore (wsV RX12 951 RX12 yX12_findWork wsX12_findWork) := goodIn_app (goodIn_of _ (by decide +kernel)) ggX12_explore_X12_findWork
set_option maxRecDepth 20000 in
theorem ggX12_explore_X12_placeOf : GoodIn wsX12_explore wsX12_placeOf := goodIn_r _ [34, 1, 7, 35, 5, 10, 36, 6, 41, 42, 43, 44, 45, 46, 47, 48, 49, 50, 51, 52, 53, 54, 55, 56, 57, 58, 59, 60, 61, 62, 63, 64, 65, 66, 67, 68, 69, 70, 71, 72, 73, 74, 75, 76, 77, 78, 79, 80, 81, 82, 83, 84, 85, 86, 87, 88, 89, 90, 91, 92, 93, 94, 95, 96, 97, 98, 99, 100, 101, 102, 103, 104, 105, 106, 107, 108, 109, 110, 111, 112, 113, 114, 115, 116, 117, 118, 119, 120, 121, 122, 123, 124, 125, 126, 127, 128, 129, 130, 131, 132, 133, 134, 135, 136, 137, 138, 139, 140, 141, 142, 143, 144, 145, 146, 147, 148, 149, 150, 151, 152, 153, 154, 155, 156, 157, 158, 159, 160, 161, 162, 163, 164, 165, 166, 167, 168, 169, 170, 171, 172, 173, 174, 175, 176, 177, 178, 179, 180, 181, 182, 183, 184, 185, 186, 187, 188, 189, 190, 191, 192, 193, 194, 195, 196, 197, 198, 199, 200, 201, 202, 203, 204, 205, 206, 207, 208, 209, 210, 211, 212, 213, 214, 215, 216, 217, 218, 219, 220, 221, 222, 223, 224, 225, 226, 227, 228, 229, 230, 231, 232, 233, 234, 235] (by decide +kernel) (by decide +kernel)
set_option maxRecDepth 20000 in
theorem gX12_explore_X12_placeOf : GoodIn wsX12_explore (wsV RX12 963 RX12 yX12_placeOf wsX12_placeOf) := goodIn_app (goodIn_of _ (by decide +kernel)) ggX12_explore_X12_placeOf
theorem dX12_explore_0 : decode cX12_explore 0 = .ok (.aload_n 0, 1) := by decide +kernel
theorem dX12_explore_1 : decode cX12_explore 1 = .ok (.getfield 928, 3) := by decide +kernel
theorem dX12_explore_4 : decode cX12_explore 4 = .ok (.bipush 32, 2) := by decide +kernel
theorem dX12_explore_6 : decode cX12_explore 6 = .ok (.if_icmp .le 5, 3) := by decide +kernel
theorem dX12_explore_11 : decode cX12_explore 11 = .ok (.aload_n 0, 1) := by decide +kernel
theorem dX12_explore_12 : decode cX12_explore 12 = .ok (.invokevirtual 951, 3) := by decide +kernel
theorem dX12_explore_15 : decode cX12_explore 15 = .ok (.aload_n 0, 1) := by decide +kernel
theorem dX12_explore_16 : decode cX12_explore 16 = .ok (.iconst 1, 1) := by decide +kernel
theorem dX12_explore_17 : decode cX12_explore 17 = .ok (.aload_n 0, 1) := by decide +kernel
theorem dX12_explore_18 : decode cX12_explore 18 = .ok (.getfield 815, 3) := by decide +kernel
theorem dX12_explore_21 : decode cX12_explore 21 = .ok (.ishl, 1) := by decide +kernel
theorem dX12_explore_22 : decode cX12_explore 22 = .ok (.putfield 960, 3) := by decide +kernel
theorem dX12_explore_25 : decode cX12_explore 25 = .ok (.iconst 0, 1) := by decide +kernel
theorem dX12_explore_26 : decode cX12_explore 26 = .ok (.istore_n 1, 1) := by decide +kernel
theorem dX12_explore_27 : decode cX12_explore 27 = .ok (.iload_n 1, 1) := by decide +kernel
theorem dX12_explore_28 : decode cX12_explore 28 = .ok (.ldc_w 324, 3) := by decide +kernel
theorem dX12_explore_31 : decode cX12_explore 31 = .ok (.if_icmp .ge 16, 3) := by decide +kernel
theorem dX12_explore_34 : decode cX12_explore 34 = .ok (.aload_n 0, 1) := by decide +kernel
theorem dX12_explore_35 : decode cX12_explore 35 = .ok (.getfield 325, 3) := by decide +kernel
theorem dX12_explore_38 : decode cX12_explore 38 = .ok (.iload_n 1, 1) := by decide +kernel
theorem dX12_explore_39 : decode cX12_explore 39 = .ok (.iconst (-1), 1) := by decide +kernel
theorem dX12_explore_40 : decode cX12_explore 40 = .ok (.iastore, 1) := by decide +kernel
theorem dX12_explore_41 : decode cX12_explore 41 = .ok (.iinc 1 1, 3) := by decide +kernel
theorem dX12_explore_44 : decode cX12_explore 44 = .ok (.goto (-17), 3) := by decide +kernel
theorem dX12_explore_47 : decode cX12_explore 47 = .ok (.aload_n 0, 1) := by decide +kernel
theorem dX12_explore_48 : decode cX12_explore 48 = .ok (.iconst 0, 1) := by decide +kernel
theorem dX12_explore_49 : decode cX12_explore 49 = .ok (.putfield 957, 3) := by decide +kernel
theorem dX12_explore_52 : decode cX12_explore 52 = .ok (.iconst 0, 1) := by decide +kernel
theorem dX12_explore_53 : decode cX12_explore 53 = .ok (.istore_n 1, 1) := by decide +kernel
theorem dX12_explore_54 : decode cX12_explore 54 = .ok (.iload_n 1, 1) := by decide +kernel
theorem dX12_explore_55 : decode cX12_explore 55 = .ok (.aload_n 0, 1) := by decide +kernel
theorem dX12_explore_56 : decode cX12_explore 56 = .ok (.getfield 928, 3) := by decide +kernel
theorem dX12_explore_59 : decode cX12_explore 59 = .ok (.if_icmp .ge 49, 3) := by decide +kernel
theorem dX12_explore_108 : decode cX12_explore 108 = .ok (.aload_n 0, 1) := by decide +kernel
theorem dX12_explore_109 : decode cX12_explore 109 = .ok (.invokevirtual 963, 3) := by decide +kernel
theorem dX12_explore_112 : decode cX12_explore 112 = .ok (.istore_n 1, 1) := by decide +kernel
theorem dX12_explore_113 : decode cX12_explore 113 = .ok (.iconst 0, 1) := by decide +kernel
theorem dX12_explore_114 : decode cX12_explore 114 = .ok (.istore_n 2, 1) := by decide +kernel
theorem dX12_explore_115 : decode cX12_explore 115 = .ok (.iload_n 2, 1) := by decide +kernel
theorem dX12_explore_116 : decode cX12_explore 116 = .ok (.aload_n 0, 1) := by decide +kernel
theorem dX12_explore_117 : decode cX12_explore 117 = .ok (.getfield 957, 3) := by decide +kernel
theorem dX12_explore_120 : decode cX12_explore 120 = .ok (.if_icmp .ge 98, 3) := by decide +kernel
theorem dX12_explore_123 : decode cX12_explore 123 = .ok (.iconst 0, 1) := by decide +kernel
theorem dX12_explore_124 : decode cX12_explore 124 = .ok (.istore_n 3, 1) := by decide +kernel
theorem dX12_explore_125 : decode cX12_explore 125 = .ok (.iload_n 3, 1) := by decide +kernel
theorem dX12_explore_126 : decode cX12_explore 126 = .ok (.aload_n 0, 1) := by decide +kernel
theorem dX12_explore_127 : decode cX12_explore 127 = .ok (.getfield 960, 3) := by decide +kernel
theorem dX12_explore_130 : decode cX12_explore 130 = .ok (.if_icmp .ge 82, 3) := by decide +kernel
theorem dX12_explore_133 : decode cX12_explore 133 = .ok (.iconst 0, 1) := by decide +kernel
theorem dX12_explore_134 : decode cX12_explore 134 = .ok (.istore 4, 2) := by decide +kernel
theorem dX12_explore_136 : decode cX12_explore 136 = .ok (.iload 4, 2) := by decide +kernel
theorem dX12_explore_138 : decode cX12_explore 138 = .ok (.aload_n 0, 1) := by decide +kernel
theorem dX12_explore_139 : decode cX12_explore 139 = .ok (.getfield 928, 3) := by decide +kernel
theorem dX12_explore_142 : decode cX12_explore 142 = .ok (.if_icmp .ge 35, 3) := by decide +kernel
theorem dX12_explore_177 : decode cX12_explore 177 = .ok (.aload_n 0, 1) := by decide +kernel
theorem dX12_explore_178 : decode cX12_explore 178 = .ok (.invokevirtual 963, 3) := by decide +kernel
theorem dX12_explore_181 : decode cX12_explore 181 = .ok (.istore 4, 2) := by decide +kernel
theorem dX12_explore_183 : decode cX12_explore 183 = .ok (.iload 4, 2) := by decide +kernel
theorem dX12_explore_185 : decode cX12_explore 185 = .ok (.sipush 3000, 3) := by decide +kernel
theorem dX12_explore_188 : decode cX12_explore 188 = .ok (.if_icmp .ne 5, 3) := by decide +kernel
theorem dX12_explore_193 : decode cX12_explore 193 = .ok (.aload_n 0, 1) := by decide +kernel
theorem dX12_explore_194 : decode cX12_explore 194 = .ok (.getfield 321, 3) := by decide +kernel
theorem dX12_explore_197 : decode cX12_explore 197 = .ok (.bipush 16, 2) := by decide +kernel
theorem dX12_explore_199 : decode cX12_explore 199 = .ok (.iload_n 2, 1) := by decide +kernel
theorem dX12_explore_200 : decode cX12_explore 200 = .ok (.imul, 1) := by decide +kernel
theorem dX12_explore_201 : decode cX12_explore 201 = .ok (.iload_n 3, 1) := by decide +kernel
theorem dX12_explore_202 : decode cX12_explore 202 = .ok (.iadd, 1) := by decide +kernel
theorem dX12_explore_203 : decode cX12_explore 203 = .ok (.iload 4, 2) := by decide +kernel
theorem dX12_explore_205 : decode cX12_explore 205 = .ok (.iastore, 1) := by decide +kernel
theorem dX12_explore_206 : decode cX12_explore 206 = .ok (.iinc 3 1, 3) := by decide +kernel
theorem dX12_explore_209 : decode cX12_explore 209 = .ok (.goto (-84), 3) := by decide +kernel
theorem dX12_explore_212 : decode cX12_explore 212 = .ok (.iinc 2 1, 3) := by decide +kernel
theorem dX12_explore_215 : decode cX12_explore 215 = .ok (.goto (-100), 3) := by decide +kernel
theorem dX12_explore_218 : decode cX12_explore 218 = .ok (.iconst 1, 1) := by decide +kernel
theorem dX12_explore_219 : decode cX12_explore 219 = .ok (.ireturn, 1) := by decide +kernel
theorem dX12_isAnswer_0 : decode cX12_isAnswer 0 = .ok (.iload_n 1, 1) := by decide +kernel
theorem dX12_isAnswer_1 : decode cX12_isAnswer 1 = .ok (.iconst 2, 1) := by decide +kernel
theorem dX12_isAnswer_2 : decode cX12_isAnswer 2 = .ok (.if_icmp .ne 10, 3) := by decide +kernel
theorem dX12_isAnswer_12 : decode cX12_isAnswer 12 = .ok (.iconst 1, 1) := by decide +kernel
theorem dX12_isAnswer_13 : decode cX12_isAnswer 13 = .ok (.istore_n 3, 1) := by decide +kernel
theorem dX12_isAnswer_14 : decode cX12_isAnswer 14 = .ok (.iconst 0, 1) := by decide +kernel
theorem dX12_isAnswer_15 : decode cX12_isAnswer 15 = .ok (.istore 4, 2) := by decide +kernel
theorem dX12_isAnswer_17 : decode cX12_isAnswer 17 = .ok (.iload 4, 2) := by decide +kernel
theorem dX12_isAnswer_19 : decode cX12_isAnswer 19 = .ok (.aload_n 0, 1) := by decide +kernel
theorem dX12_isAnswer_20 : decode cX12_isAnswer 20 = .ok (.getfield 818, 3) := by decide +kernel
theorem dX12_isAnswer_23 : decode cX12_isAnswer 23 = .ok (.if_icmp .ge 49, 3) := by decide +kernel
theorem dX12_isAnswer_72 : decode cX12_isAnswer 72 = .ok (.iload_n 1, 1) := by decide +kernel
theorem dX12_isAnswer_73 : decode cX12_isAnswer 73 = .ok (.ifCond .ne 7, 3) := by decide +kernel
theorem dX12_isAnswer_76 : decode cX12_isAnswer 76 = .ok (.iload_n 3, 1) := by decide +kernel
theorem dX12_isAnswer_77 : decode cX12_isAnswer 77 = .ok (.goto 47, 3) := by decide +kernel
theorem dX12_isAnswer_124 : decode cX12_isAnswer 124 = .ok (.ireturn, 1) := by decide +kernel
set_option maxRecDepth 20000 in
theorem ggX12_judge_X12_reckonSlots : GoodIn wsX12_judge wsX12_reckonSlots := goodIn_r _ [25, 26, 27, 28, 10, 29, 30, 31, 32, 14, 33, 34, 35, 36, 37, 38, 39, 40, 41, 42, 43, 44, 45, 46, 47, 48, 49, 7, 50, 58, 59, 60, 61, 62, 63, 64, 65, 66, 67, 68, 69, 70, 71, 72, 73, 74, 75, 76, 77, 78, 79, 80, 81, 82, 83, 84, 85, 86, 87, 88, 89, 90, 91, 92, 93, 94, 95, 96, 97, 98, 99, 100, 101, 102, 103, 104, 105, 106, 107, 108, 109, 110, 111, 112, 113, 114, 115, 116, 117, 118, 119, 120, 121, 122, 123, 124, 125, 126, 127, 128, 129, 130, 131, 132, 133, 134, 135, 136, 137, 138, 139, 140, 141, 142, 143, 144, 145, 146, 147, 148, 149, 150, 151, 152, 153, 154, 155, 156, 157, 158, 159, 160, 161, 162, 163, 164, 165, 166, 167, 168, 169, 170, 171, 172, 173, 174, 175, 176, 177, 178, 179, 180, 181, 182, 183, 184, 185, 186, 187, 188, 189, 190, 191, 192, 193, 194, 195, 196, 197, 198, 199, 200, 201, 202, 203, 204, 205, 206, 207, 208, 209, 210, 211, 212, 213, 214, 215, 216, 217, 218, 219, 220, 221, 222, 223, 224, 225, 226, 227, 228, 229, 230, 231, 232, 233, 234, 235, 236, 237, 238, 239, 240, 241, 242, 243, 244, 245, 246, 247, 248, 249, 250, 251, 252] (by decide +kernel) (by decide +kernel)
set_option maxRecDepth 20000 in
theorem gX12_judge_X12_reckonSlots : GoodIn wsX12_judge (wsV RX12 954 RX12 yX12_reckonSlots wsX12_reckonSlots) := goodIn_app (goodIn_of _ (by decide +kernel)) ggX12_judge_X12_reckonSlots
set_option maxRecDepth 20000 in
theorem ggX12_judge_X12_isAnswer : GoodIn wsX12_judge wsX12_isAnswer := goodIn_r _ [54, 10, 55, 56, 57, 58, 59, 60, 61, 62, 63, 64, 65, 66, 67, 68, 69, 70, 71, 72, 73, 74, 75, 76, 77, 78, 79, 80, 81, 82, 83, 84, 85, 86, 87, 88, 89, 90, 91, 92, 93, 94, 95, 96, 97, 98, 99, 100, 101, 102, 103, 104, 105, 106, 107, 108, 109, 110, 111, 112, 113, 114, 115, 116, 117, 118, 119, 120, 121, 122, 123, 124, 125, 126, 127, 128, 129, 130, 131, 132, 133, 134, 135, 136, 137, 138, 139, 140, 141, 142, 143, 144, 145, 146, 147, 148, 149, 150, 151, 152, 153, 154, 155, 156, 157, 158, 159, 160, 161, 162, 163, 164, 165, 166, 167, 168, 169, 170, 171, 172, 173, 174, 175, 176, 177, 178, 179, 180, 181, 182, 183, 184, 185, 186, 187, 188, 189, 190, 191, 192, 193, 194, 195, 196, 197, 198, 199, 200, 201, 202, 203, 204, 205, 206, 207, 208, 209, 210, 211, 212, 213, 214, 215, 216, 217, 218, 219, 220, 221, 222, 223, 224, 225, 226, 227, 228, 229, 230, 231, 232, 233, 234, 235, 236, 237, 238, 239, 240, 241, 242, 243, 244, 245, 246, 247, 248, 249, 250, 251, 252] (by decide +kernel) (by decide +kernel)
set_option maxRecDepth 20000 in
theorem gX12_judge_X12_isAnswer : GoodIn wsX12_judge (wsV RX12 973 RX12 yX12_isAnswer wsX12_isAnswer) := goodIn_app (goodIn_of _ (by decide +kernel)) ggX12_judge_X12_isAnswer
theorem dX12_judge_0 : decode cX12_judge 0 = .ok (.iconst 0, 1) := by decide +kernel
theorem dX12_judge_1 : decode cX12_judge 1 = .ok (.istore 4, 2) := by decide +kernel
theorem dX12_judge_3 : decode cX12_judge 3 = .ok (.iload 4, 2) := by decide +kernel
theorem dX12_judge_5 : decode cX12_judge 5 = .ok (.sipush 4096, 3) := by decide +kernel
theorem dX12_judge_8 : decode cX12_judge 8 = .ok (.if_icmp .ge 17, 3) := by decide +kernel
theorem dX12_judge_11 : decode cX12_judge 11 = .ok (.aload_n 0, 1) := by decide +kernel
theorem dX12_judge_12 : decode cX12_judge 12 = .ok (.getfield 346, 3) := by decide +kernel
theorem dX12_judge_15 : decode cX12_judge 15 = .ok (.iload 4, 2) := by decide +kernel
theorem dX12_judge_17 : decode cX12_judge 17 = .ok (.iconst (-1), 1) := by decide +kernel
theorem dX12_judge_18 : decode cX12_judge 18 = .ok (.iastore, 1) := by decide +kernel
theorem dX12_judge_19 : decode cX12_judge 19 = .ok (.iinc 4 1, 3) := by decide +kernel
theorem dX12_judge_22 : decode cX12_judge 22 = .ok (.goto (-19), 3) := by decide +kernel
theorem dX12_judge_25 : decode cX12_judge 25 = .ok (.iconst 0, 1) := by decide +kernel
theorem dX12_judge_26 : decode cX12_judge 26 = .ok (.istore 4, 2) := by decide +kernel
theorem dX12_judge_28 : decode cX12_judge 28 = .ok (.iload 4, 2) := by decide +kernel
theorem dX12_judge_30 : decode cX12_judge 30 = .ok (.aload_n 0, 1) := by decide +kernel
theorem dX12_judge_31 : decode cX12_judge 31 = .ok (.getfield 957, 3) := by decide +kernel
theorem dX12_judge_34 : decode cX12_judge 34 = .ok (.if_icmp .ge 266, 3) := by decide +kernel
theorem dX12_judge_37 : decode cX12_judge 37 = .ok (.aload_n 0, 1) := by decide +kernel
theorem dX12_judge_38 : decode cX12_judge 38 = .ok (.getfield 334, 3) := by decide +kernel
theorem dX12_judge_41 : decode cX12_judge 41 = .ok (.iload 4, 2) := by decide +kernel
theorem dX12_judge_43 : decode cX12_judge 43 = .ok (.iconst 0, 1) := by decide +kernel
theorem dX12_judge_44 : decode cX12_judge 44 = .ok (.iastore, 1) := by decide +kernel
theorem dX12_judge_45 : decode cX12_judge 45 = .ok (.aload_n 0, 1) := by decide +kernel
theorem dX12_judge_46 : decode cX12_judge 46 = .ok (.getfield 337, 3) := by decide +kernel
theorem dX12_judge_49 : decode cX12_judge 49 = .ok (.iload 4, 2) := by decide +kernel
theorem dX12_judge_51 : decode cX12_judge 51 = .ok (.iconst 0, 1) := by decide +kernel
theorem dX12_judge_52 : decode cX12_judge 52 = .ok (.iastore, 1) := by decide +kernel
theorem dX12_judge_53 : decode cX12_judge 53 = .ok (.iconst 0, 1) := by decide +kernel
theorem dX12_judge_54 : decode cX12_judge 54 = .ok (.istore 5, 2) := by decide +kernel
theorem dX12_judge_56 : decode cX12_judge 56 = .ok (.iload 5, 2) := by decide +kernel
theorem dX12_judge_58 : decode cX12_judge 58 = .ok (.aload_n 0, 1) := by decide +kernel
theorem dX12_judge_59 : decode cX12_judge 59 = .ok (.getfield 960, 3) := by decide +kernel
theorem dX12_judge_62 : decode cX12_judge 62 = .ok (.if_icmp .ge 232, 3) := by decide +kernel
theorem dX12_judge_65 : decode cX12_judge 65 = .ok (.iconst 0, 1) := by decide +kernel
theorem dX12_judge_66 : decode cX12_judge 66 = .ok (.istore 6, 2) := by decide +kernel
theorem dX12_judge_68 : decode cX12_judge 68 = .ok (.iconst 0, 1) := by decide +kernel
theorem dX12_judge_69 : decode cX12_judge 69 = .ok (.istore 7, 2) := by decide +kernel
theorem dX12_judge_71 : decode cX12_judge 71 = .ok (.iload 7, 2) := by decide +kernel
theorem dX12_judge_73 : decode cX12_judge 73 = .ok (.aload_n 0, 1) := by decide +kernel
theorem dX12_judge_74 : decode cX12_judge 74 = .ok (.getfield 928, 3) := by decide +kernel
theorem dX12_judge_77 : decode cX12_judge 77 = .ok (.if_icmp .ge 60, 3) := by decide +kernel
theorem dX12_judge_137 : decode cX12_judge 137 = .ok (.iload 6, 2) := by decide +kernel
theorem dX12_judge_139 : decode cX12_judge 139 = .ok (.iload 6, 2) := by decide +kernel
theorem dX12_judge_141 : decode cX12_judge 141 = .ok (.bipush 12, 2) := by decide +kernel
theorem dX12_judge_143 : decode cX12_judge 143 = .ok (.iushr, 1) := by decide +kernel
theorem dX12_judge_144 : decode cX12_judge 144 = .ok (.ixor, 1) := by decide +kernel
theorem dX12_judge_145 : decode cX12_judge 145 = .ok (.iload 6, 2) := by decide +kernel
theorem dX12_judge_147 : decode cX12_judge 147 = .ok (.bipush 24, 2) := by decide +kernel
theorem dX12_judge_149 : decode cX12_judge 149 = .ok (.iushr, 1) := by decide +kernel
theorem dX12_judge_150 : decode cX12_judge 150 = .ok (.ixor, 1) := by decide +kernel
theorem dX12_judge_151 : decode cX12_judge 151 = .ok (.sipush 4095, 3) := by decide +kernel
theorem dX12_judge_154 : decode cX12_judge 154 = .ok (.iand, 1) := by decide +kernel
theorem dX12_judge_155 : decode cX12_judge 155 = .ok (.istore 7, 2) := by decide +kernel
theorem dX12_judge_157 : decode cX12_judge 157 = .ok (.aload_n 0, 1) := by decide +kernel
theorem dX12_judge_158 : decode cX12_judge 158 = .ok (.getfield 346, 3) := by decide +kernel
theorem dX12_judge_161 : decode cX12_judge 161 = .ok (.iload 7, 2) := by decide +kernel
theorem dX12_judge_163 : decode cX12_judge 163 = .ok (.iaload, 1) := by decide +kernel
theorem dX12_judge_164 : decode cX12_judge 164 = .ok (.iconst (-1), 1) := by decide +kernel
theorem dX12_judge_165 : decode cX12_judge 165 = .ok (.if_icmp .eq 15, 3) := by decide +kernel
theorem dX12_judge_180 : decode cX12_judge 180 = .ok (.aload_n 0, 1) := by decide +kernel
theorem dX12_judge_181 : decode cX12_judge 181 = .ok (.invokevirtual 954, 3) := by decide +kernel
theorem dX12_judge_184 : decode cX12_judge 184 = .ok (.aload_n 0, 1) := by decide +kernel
theorem dX12_judge_185 : decode cX12_judge 185 = .ok (.getfield 343, 3) := by decide +kernel
theorem dX12_judge_188 : decode cX12_judge 188 = .ok (.iload 7, 2) := by decide +kernel
theorem dX12_judge_190 : decode cX12_judge 190 = .ok (.iload 6, 2) := by decide +kernel
theorem dX12_judge_192 : decode cX12_judge 192 = .ok (.iastore, 1) := by decide +kernel
theorem dX12_judge_193 : decode cX12_judge 193 = .ok (.aload_n 0, 1) := by decide +kernel
theorem dX12_judge_194 : decode cX12_judge 194 = .ok (.getfield 346, 3) := by decide +kernel
theorem dX12_judge_197 : decode cX12_judge 197 = .ok (.iload 7, 2) := by decide +kernel
theorem dX12_judge_199 : decode cX12_judge 199 = .ok (.aload_n 0, 1) := by decide +kernel
theorem dX12_judge_200 : decode cX12_judge 200 = .ok (.iload_n 1, 1) := by decide +kernel
theorem dX12_judge_201 : decode cX12_judge 201 = .ok (.iload_n 2, 1) := by decide +kernel
theorem dX12_judge_202 : decode cX12_judge 202 = .ok (.invokevirtual 973, 3) := by decide +kernel
theorem dX12_judge_205 : decode cX12_judge 205 = .ok (.ifCond .eq 7, 3) := by decide +kernel
theorem dX12_judge_208 : decode cX12_judge 208 = .ok (.iconst 1, 1) := by decide +kernel
theorem dX12_judge_209 : decode cX12_judge 209 = .ok (.goto 4, 3) := by decide +kernel
theorem dX12_judge_213 : decode cX12_judge 213 = .ok (.iload_n 3, 1) := by decide +kernel
theorem dX12_judge_214 : decode cX12_judge 214 = .ok (.iconst (-1), 1) := by decide +kernel
theorem dX12_judge_215 : decode cX12_judge 215 = .ok (.if_icmp .eq 16, 3) := by decide +kernel
theorem dX12_judge_231 : decode cX12_judge 231 = .ok (.iconst 0, 1) := by decide +kernel
theorem dX12_judge_232 : decode cX12_judge 232 = .ok (.iadd, 1) := by decide +kernel
theorem dX12_judge_233 : decode cX12_judge 233 = .ok (.iastore, 1) := by decide +kernel
theorem dX12_judge_234 : decode cX12_judge 234 = .ok (.aload_n 0, 1) := by decide +kernel
theorem dX12_judge_235 : decode cX12_judge 235 = .ok (.getfield 334, 3) := by decide +kernel
theorem dX12_judge_238 : decode cX12_judge 238 = .ok (.iload 4, 2) := by decide +kernel
theorem dX12_judge_240 : decode cX12_judge 240 = .ok (.aload_n 0, 1) := by decide +kernel
theorem dX12_judge_241 : decode cX12_judge 241 = .ok (.getfield 334, 3) := by decide +kernel
theorem dX12_judge_244 : decode cX12_judge 244 = .ok (.iload 4, 2) := by decide +kernel
theorem dX12_judge_246 : decode cX12_judge 246 = .ok (.iaload, 1) := by decide +kernel
theorem dX12_judge_247 : decode cX12_judge 247 = .ok (.aload_n 0, 1) := by decide +kernel
theorem dX12_judge_248 : decode cX12_judge 248 = .ok (.getfield 346, 3) := by decide +kernel
theorem dX12_judge_251 : decode cX12_judge 251 = .ok (.iload 7, 2) := by decide +kernel
theorem dX12_judge_253 : decode cX12_judge 253 = .ok (.iaload, 1) := by decide +kernel
theorem dX12_judge_254 : decode cX12_judge 254 = .ok (.iconst 2, 1) := by decide +kernel
theorem dX12_judge_255 : decode cX12_judge 255 = .ok (.irem, 1) := by decide +kernel
theorem dX12_judge_256 : decode cX12_judge 256 = .ok (.iload 5, 2) := by decide +kernel
theorem dX12_judge_258 : decode cX12_judge 258 = .ok (.ishl, 1) := by decide +kernel
theorem dX12_judge_259 : decode cX12_judge 259 = .ok (.ior, 1) := by decide +kernel
theorem dX12_judge_260 : decode cX12_judge 260 = .ok (.iastore, 1) := by decide +kernel
theorem dX12_judge_261 : decode cX12_judge 261 = .ok (.aload_n 0, 1) := by decide +kernel
theorem dX12_judge_262 : decode cX12_judge 262 = .ok (.getfield 337, 3) := by decide +kernel
theorem dX12_judge_265 : decode cX12_judge 265 = .ok (.iload 4, 2) := by decide +kernel
theorem dX12_judge_267 : decode cX12_judge 267 = .ok (.aload_n 0, 1) := by decide +kernel
theorem dX12_judge_268 : decode cX12_judge 268 = .ok (.getfield 337, 3) := by decide +kernel
theorem dX12_judge_271 : decode cX12_judge 271 = .ok (.iload 4, 2) := by decide +kernel
theorem dX12_judge_273 : decode cX12_judge 273 = .ok (.iaload, 1) := by decide +kernel
theorem dX12_judge_274 : decode cX12_judge 274 = .ok (.aload_n 0, 1) := by decide +kernel
theorem dX12_judge_275 : decode cX12_judge 275 = .ok (.getfield 346, 3) := by decide +kernel
theorem dX12_judge_278 : decode cX12_judge 278 = .ok (.iload 7, 2) := by decide +kernel
theorem dX12_judge_280 : decode cX12_judge 280 = .ok (.iaload, 1) := by decide +kernel
theorem dX12_judge_281 : decode cX12_judge 281 = .ok (.iconst 2, 1) := by decide +kernel
theorem dX12_judge_282 : decode cX12_judge 282 = .ok (.idiv, 1) := by decide +kernel
theorem dX12_judge_283 : decode cX12_judge 283 = .ok (.iload 5, 2) := by decide +kernel
theorem dX12_judge_285 : decode cX12_judge 285 = .ok (.ishl, 1) := by decide +kernel
theorem dX12_judge_286 : decode cX12_judge 286 = .ok (.ior, 1) := by decide +kernel
theorem dX12_judge_287 : decode cX12_judge 287 = .ok (.iastore, 1) := by decide +kernel
theorem dX12_judge_288 : decode cX12_judge 288 = .ok (.iinc 5 1, 3) := by decide +kernel
theorem dX12_judge_291 : decode cX12_judge 291 = .ok (.goto (-235), 3) := by decide +kernel
theorem dX12_judge_294 : decode cX12_judge 294 = .ok (.iinc 4 1, 3) := by decide +kernel
theorem dX12_judge_297 : decode cX12_judge 297 = .ok (.goto (-269), 3) := by decide +kernel
theorem dX12_judge_300 : decode cX12_judge 300 = .ok (.return_, 1) := by decide +kernel
theorem dX12_measure_0 : decode cX12_measure 0 = .ok (.iconst 1, 1) := by decide +kernel
theorem dX12_measure_1 : decode cX12_measure 1 = .ok (.istore_n 1, 1) := by decide +kernel
theorem dX12_measure_2 : decode cX12_measure 2 = .ok (.iconst 0, 1) := by decide +kernel
theorem dX12_measure_3 : decode cX12_measure 3 = .ok (.istore_n 2, 1) := by decide +kernel
theorem dX12_measure_4 : decode cX12_measure 4 = .ok (.iload_n 2, 1) := by decide +kernel
theorem dX12_measure_5 : decode cX12_measure 5 = .ok (.aload_n 0, 1) := by decide +kernel
theorem dX12_measure_6 : decode cX12_measure 6 = .ok (.getfield 957, 3) := by decide +kernel
theorem dX12_measure_9 : decode cX12_measure 9 = .ok (.if_icmp .ge 29, 3) := by decide +kernel
theorem dX12_measure_12 : decode cX12_measure 12 = .ok (.aload_n 0, 1) := by decide +kernel
theorem dX12_measure_13 : decode cX12_measure 13 = .ok (.getfield 349, 3) := by decide +kernel
theorem dX12_measure_16 : decode cX12_measure 16 = .ok (.iload_n 2, 1) := by decide +kernel
theorem dX12_measure_17 : decode cX12_measure 17 = .ok (.aload_n 0, 1) := by decide +kernel
theorem dX12_measure_18 : decode cX12_measure 18 = .ok (.getfield 334, 3) := by decide +kernel
theorem dX12_measure_21 : decode cX12_measure 21 = .ok (.iload_n 2, 1) := by decide +kernel
theorem dX12_measure_22 : decode cX12_measure 22 = .ok (.iaload, 1) := by decide +kernel
theorem dX12_measure_23 : decode cX12_measure 23 = .ok (.ifCond .eq 7, 3) := by decide +kernel
theorem dX12_measure_26 : decode cX12_measure 26 = .ok (.iconst 0, 1) := by decide +kernel
theorem dX12_measure_27 : decode cX12_measure 27 = .ok (.goto 4, 3) := by decide +kernel
theorem dX12_measure_31 : decode cX12_measure 31 = .ok (.iastore, 1) := by decide +kernel
theorem dX12_measure_32 : decode cX12_measure 32 = .ok (.iinc 2 1, 3) := by decide +kernel
theorem dX12_measure_35 : decode cX12_measure 35 = .ok (.goto (-31), 3) := by decide +kernel
theorem dX12_measure_38 : decode cX12_measure 38 = .ok (.iconst 0, 1) := by decide +kernel
theorem dX12_measure_39 : decode cX12_measure 39 = .ok (.istore_n 2, 1) := by decide +kernel
theorem dX12_measure_40 : decode cX12_measure 40 = .ok (.iload_n 1, 1) := by decide +kernel
theorem dX12_measure_41 : decode cX12_measure 41 = .ok (.ifCond .eq 87, 3) := by decide +kernel
theorem dX12_measure_44 : decode cX12_measure 44 = .ok (.iconst 0, 1) := by decide +kernel
theorem dX12_measure_45 : decode cX12_measure 45 = .ok (.istore_n 1, 1) := by decide +kernel
theorem dX12_measure_46 : decode cX12_measure 46 = .ok (.iconst 0, 1) := by decide +kernel
theorem dX12_measure_47 : decode cX12_measure 47 = .ok (.istore_n 3, 1) := by decide +kernel
theorem dX12_measure_48 : decode cX12_measure 48 = .ok (.iload_n 3, 1) := by decide +kernel
theorem dX12_measure_49 : decode cX12_measure 49 = .ok (.aload_n 0, 1) := by decide +kernel
theorem dX12_measure_50 : decode cX12_measure 50 = .ok (.getfield 957, 3) := by decide +kernel
theorem dX12_measure_53 : decode cX12_measure 53 = .ok (.if_icmp .ge 69, 3) := by decide +kernel
theorem dX12_measure_56 : decode cX12_measure 56 = .ok (.iconst 0, 1) := by decide +kernel
theorem dX12_measure_57 : decode cX12_measure 57 = .ok (.istore 4, 2) := by decide +kernel
theorem dX12_measure_59 : decode cX12_measure 59 = .ok (.iload 4, 2) := by decide +kernel
theorem dX12_measure_61 : decode cX12_measure 61 = .ok (.aload_n 0, 1) := by decide +kernel
theorem dX12_measure_62 : decode cX12_measure 62 = .ok (.getfield 960, 3) := by decide +kernel
theorem dX12_measure_65 : decode cX12_measure 65 = .ok (.if_icmp .ge 51, 3) := by decide +kernel
theorem dX12_measure_68 : decode cX12_measure 68 = .ok (.aload_n 0, 1) := by decide +kernel
theorem dX12_measure_69 : decode cX12_measure 69 = .ok (.getfield 349, 3) := by decide +kernel
theorem dX12_measure_72 : decode cX12_measure 72 = .ok (.iload_n 3, 1) := by decide +kernel
theorem dX12_measure_73 : decode cX12_measure 73 = .ok (.iaload, 1) := by decide +kernel
theorem dX12_measure_74 : decode cX12_measure 74 = .ok (.iconst (-1), 1) := by decide +kernel
theorem dX12_measure_75 : decode cX12_measure 75 = .ok (.if_icmp .ne 41, 3) := by decide +kernel
theorem dX12_measure_116 : decode cX12_measure 116 = .ok (.iinc 3 1, 3) := by decide +kernel
theorem dX12_measure_119 : decode cX12_measure 119 = .ok (.goto (-71), 3) := by decide +kernel
theorem dX12_measure_122 : decode cX12_measure 122 = .ok (.iinc 2 1, 3) := by decide +kernel
theorem dX12_measure_125 : decode cX12_measure 125 = .ok (.goto (-85), 3) := by decide +kernel
theorem dX12_measure_128 : decode cX12_measure 128 = .ok (.return_, 1) := by decide +kernel
set_option maxRecDepth 20000 in
theorem ggX12_tellLeast_X12_measure : GoodIn wsX12_tellLeast wsX12_measure := goodIn_r _ [12, 13, 1, 7, 14, 6, 15, 16, 17, 18, 19, 20, 21, 22, 23, 24, 25, 26, 27, 28, 29, 30, 31, 32, 33, 34, 35, 36, 37, 38, 39, 40, 41, 42, 43, 44, 45, 46, 47, 48, 49, 50, 51, 52, 53, 54, 55, 56, 57, 58, 59, 60, 61, 62, 63, 64, 65, 66, 67, 68, 69, 70, 71, 72, 73, 74, 75, 76, 77, 78, 79, 80, 81, 82, 83, 84, 85, 86, 87, 88, 89, 90, 91, 92, 93, 94, 95, 96, 97, 98, 99, 100, 101, 102, 103, 104, 105, 106, 107, 108, 109, 110, 111, 112, 113, 114, 115, 116, 117, 118, 119, 120, 121, 122, 123, 124, 125, 126, 127, 128, 129, 130, 131, 132, 133, 134, 135, 136, 137, 138, 139, 140, 141, 142, 143, 144, 145, 146, 147, 148, 149, 150, 151, 152, 153, 154, 155, 156, 157, 158, 159, 160, 161, 162, 163, 164, 165, 166, 167, 168, 169, 170, 171, 172, 173, 174, 175, 176, 177, 178, 179, 180, 181, 182, 183, 184, 185, 186, 187, 188, 189, 190, 191, 192, 193, 194, 195, 196, 197, 198, 199, 200, 201, 202, 203, 204, 205, 206, 207, 208, 209] (by decide +kernel) (by decide +kernel)
set_option maxRecDepth 20000 in
theorem gX12_tellLeast_X12_measure : GoodIn wsX12_tellLeast (wsV RX12 976 RX12 yX12_measure wsX12_measure) := goodIn_app (goodIn_of _ (by decide +kernel)) ggX12_tellLeast_X12_measure
theorem dX12_tellLeast_0 : decode cX12_tellLeast 0 = .ok (.aload_n 0, 1) := by decide +kernel
theorem dX12_tellLeast_1 : decode cX12_tellLeast 1 = .ok (.invokevirtual 976, 3) := by decide +kernel
theorem dX12_tellLeast_4 : decode cX12_tellLeast 4 = .ok (.aload_n 0, 1) := by decide +kernel
theorem dX12_tellLeast_5 : decode cX12_tellLeast 5 = .ok (.getfield 349, 3) := by decide +kernel
theorem dX12_tellLeast_8 : decode cX12_tellLeast 8 = .ok (.iconst 0, 1) := by decide +kernel
theorem dX12_tellLeast_9 : decode cX12_tellLeast 9 = .ok (.iaload, 1) := by decide +kernel
theorem dX12_tellLeast_10 : decode cX12_tellLeast 10 = .ok (.iconst (-1), 1) := by decide +kernel
theorem dX12_tellLeast_11 : decode cX12_tellLeast 11 = .ok (.if_icmp .ne 5, 3) := by decide +kernel
theorem dX12_tellLeast_16 : decode cX12_tellLeast 16 = .ok (.iconst 0, 1) := by decide +kernel
theorem dX12_tellLeast_17 : decode cX12_tellLeast 17 = .ok (.istore_n 1, 1) := by decide +kernel
theorem dX12_tellLeast_18 : decode cX12_tellLeast 18 = .ok (.iload_n 1, 1) := by decide +kernel
theorem dX12_tellLeast_19 : decode cX12_tellLeast 19 = .ok (.iconst 4, 1) := by decide +kernel
theorem dX12_tellLeast_20 : decode cX12_tellLeast 20 = .ok (.if_icmp .ge 16, 3) := by decide +kernel
theorem dX12_tellLeast_23 : decode cX12_tellLeast 23 = .ok (.aload_n 0, 1) := by decide +kernel
theorem dX12_tellLeast_24 : decode cX12_tellLeast 24 = .ok (.getfield 352, 3) := by decide +kernel
theorem dX12_tellLeast_27 : decode cX12_tellLeast 27 = .ok (.iload_n 1, 1) := by decide +kernel
theorem dX12_tellLeast_28 : decode cX12_tellLeast 28 = .ok (.lconst 0, 1) := by decide +kernel
theorem dX12_tellLeast_29 : decode cX12_tellLeast 29 = .ok (.lastore, 1) := by decide +kernel
theorem dX12_tellLeast_30 : decode cX12_tellLeast 30 = .ok (.iinc 1 1, 3) := by decide +kernel
theorem dX12_tellLeast_33 : decode cX12_tellLeast 33 = .ok (.goto (-15), 3) := by decide +kernel
theorem dX12_tellLeast_36 : decode cX12_tellLeast 36 = .ok (.aload_n 0, 1) := by decide +kernel
theorem dX12_tellLeast_37 : decode cX12_tellLeast 37 = .ok (.aload_n 0, 1) := by decide +kernel
theorem dX12_tellLeast_38 : decode cX12_tellLeast 38 = .ok (.getfield 815, 3) := by decide +kernel
theorem dX12_tellLeast_41 : decode cX12_tellLeast 41 = .ok (.putfield 979, 3) := by decide +kernel
theorem dX12_tellLeast_44 : decode cX12_tellLeast 44 = .ok (.aload_n 0, 1) := by decide +kernel
theorem dX12_tellLeast_45 : decode cX12_tellLeast 45 = .ok (.aload_n 0, 1) := by decide +kernel
theorem dX12_tellLeast_46 : decode cX12_tellLeast 46 = .ok (.getfield 349, 3) := by decide +kernel
theorem dX12_tellLeast_49 : decode cX12_tellLeast 49 = .ok (.iconst 0, 1) := by decide +kernel
theorem dX12_tellLeast_50 : decode cX12_tellLeast 50 = .ok (.iaload, 1) := by decide +kernel
theorem dX12_tellLeast_51 : decode cX12_tellLeast 51 = .ok (.putfield 355, 3) := by decide +kernel
theorem dX12_tellLeast_54 : decode cX12_tellLeast 54 = .ok (.iconst 0, 1) := by decide +kernel
theorem dX12_tellLeast_55 : decode cX12_tellLeast 55 = .ok (.istore_n 1, 1) := by decide +kernel
theorem dX12_tellLeast_56 : decode cX12_tellLeast 56 = .ok (.iconst 0, 1) := by decide +kernel
theorem dX12_tellLeast_57 : decode cX12_tellLeast 57 = .ok (.istore_n 2, 1) := by decide +kernel
theorem dX12_tellLeast_58 : decode cX12_tellLeast 58 = .ok (.aload_n 0, 1) := by decide +kernel
theorem dX12_tellLeast_59 : decode cX12_tellLeast 59 = .ok (.getfield 349, 3) := by decide +kernel
theorem dX12_tellLeast_62 : decode cX12_tellLeast 62 = .ok (.iload_n 1, 1) := by decide +kernel
theorem dX12_tellLeast_63 : decode cX12_tellLeast 63 = .ok (.iaload, 1) := by decide +kernel
theorem dX12_tellLeast_64 : decode cX12_tellLeast 64 = .ok (.ifCond .le 98, 3) := by decide +kernel
theorem dX12_tellLeast_162 : decode cX12_tellLeast 162 = .ok (.iconst 0, 1) := by decide +kernel
theorem dX12_tellLeast_163 : decode cX12_tellLeast 163 = .ok (.istore_n 3, 1) := by decide +kernel
theorem dX12_tellLeast_164 : decode cX12_tellLeast 164 = .ok (.aload_n 0, 1) := by decide +kernel
theorem dX12_tellLeast_165 : decode cX12_tellLeast 165 = .ok (.getfield 334, 3) := by decide +kernel
theorem dX12_tellLeast_168 : decode cX12_tellLeast 168 = .ok (.iload_n 1, 1) := by decide +kernel
theorem dX12_tellLeast_169 : decode cX12_tellLeast 169 = .ok (.iaload, 1) := by decide +kernel
theorem dX12_tellLeast_170 : decode cX12_tellLeast 170 = .ok (.iload_n 3, 1) := by decide +kernel
theorem dX12_tellLeast_171 : decode cX12_tellLeast 171 = .ok (.ishr, 1) := by decide +kernel
theorem dX12_tellLeast_172 : decode cX12_tellLeast 172 = .ok (.iconst 1, 1) := by decide +kernel
theorem dX12_tellLeast_173 : decode cX12_tellLeast 173 = .ok (.iand, 1) := by decide +kernel
theorem dX12_tellLeast_174 : decode cX12_tellLeast 174 = .ok (.ifCond .ne 9, 3) := by decide +kernel
theorem dX12_tellLeast_183 : decode cX12_tellLeast 183 = .ok (.iconst 0, 1) := by decide +kernel
theorem dX12_tellLeast_184 : decode cX12_tellLeast 184 = .ok (.istore 4, 2) := by decide +kernel
theorem dX12_tellLeast_186 : decode cX12_tellLeast 186 = .ok (.iload 4, 2) := by decide +kernel
theorem dX12_tellLeast_188 : decode cX12_tellLeast 188 = .ok (.aload_n 0, 1) := by decide +kernel
theorem dX12_tellLeast_189 : decode cX12_tellLeast 189 = .ok (.getfield 815, 3) := by decide +kernel
theorem dX12_tellLeast_192 : decode cX12_tellLeast 192 = .ok (.if_icmp .ge 33, 3) := by decide +kernel
theorem dX12_tellLeast_225 : decode cX12_tellLeast 225 = .ok (.iconst 1, 1) := by decide +kernel
theorem dX12_tellLeast_226 : decode cX12_tellLeast 226 = .ok (.ireturn, 1) := by decide +kernel
set_option maxRecDepth 20000 in
theorem ggX12_decide_X12_asks : GoodIn wsX12_decide wsX12_asks := goodIn_r _ [5, 6, 7, 123, 124, 125, 126, 127, 128, 129, 130, 131, 132, 133, 134, 135, 136, 137, 138, 139, 140, 141, 142, 143, 144, 145, 146, 147, 148, 149, 150, 151, 152, 153, 154, 155, 156, 157, 158, 159, 160, 161, 162, 163, 164, 165, 166, 167, 168, 169, 170, 171, 172, 173, 174, 175, 176, 177, 178, 179, 180, 181, 182, 183, 184, 185, 186, 187, 188, 189, 190, 191, 192, 193, 194, 195, 196, 197, 198, 199, 200, 201, 202, 203, 204, 205, 206, 207, 208, 209, 210, 211, 212, 213, 214, 215, 216, 217, 218, 219, 220, 221, 222, 223, 224, 225, 226, 227, 228, 229, 230, 231, 232, 233, 234, 235, 236, 237, 238, 239, 240, 241, 242, 243, 244, 245, 246, 247, 248, 249, 250, 251, 252, 253, 254, 255, 256, 257, 258, 259, 260, 261, 262, 263, 264, 265, 266, 267, 268, 269, 270, 271, 272, 273, 274, 275, 276, 277, 278, 279, 280, 281, 282, 283, 284, 285, 286, 287, 288, 289, 290, 291, 292, 293, 294, 295, 296, 297, 298, 299, 300, 301, 302, 303, 304, 305, 306, 307, 308, 309, 310, 311, 312, 313, 314, 315, 316, 317] (by decide +kernel) (by decide +kernel)
set_option maxRecDepth 20000 in
theorem gX12_decide_X12_asks : GoodIn wsX12_decide (wsV RX12 871 RX12 yX12_asks wsX12_asks) := goodIn_app (goodIn_of _ (by decide +kernel)) ggX12_decide_X12_asks
set_option maxRecDepth 20000 in
theorem ggX12_decide_X12_putOn : GoodIn wsX12_decide wsX12_putOn := goodIn_r _ [11, 12, 13, 14, 15, 16, 4, 17, 18, 19, 20, 21, 22, 23, 24, 25, 26, 27, 28, 29, 30, 31, 32, 33, 34, 123, 124, 125, 126, 127, 128, 129, 130, 131, 132, 133, 134, 135, 136, 137, 138, 139, 140, 141, 142, 143, 144, 145, 146, 147, 148, 149, 150, 151, 152, 153, 154, 155, 156, 157, 158, 159, 160, 161, 162, 163, 164, 165, 166, 167, 168, 169, 170, 171, 172, 173, 174, 175, 176, 177, 178, 179, 180, 181, 182, 183, 184, 185, 186, 187, 188, 189, 190, 191, 192, 193, 194, 195, 196, 197, 198, 199, 200, 201, 202, 203, 204, 205, 206, 207, 208, 209, 210, 211, 212, 213, 214, 215, 216, 217, 218, 219, 220, 221, 222, 223, 224, 225, 226, 227, 228, 229, 230, 231, 232, 233, 234, 235, 236, 237, 238, 239, 240, 241, 242, 243, 244, 245, 246, 247, 248, 249, 250, 251, 252, 253, 254, 255, 256, 257, 258, 259, 260, 261, 262, 263, 264, 265, 266, 267, 268, 269, 270, 271, 272, 273, 274, 275, 276, 277, 278, 279, 280, 281, 282, 283, 284, 285, 286, 287, 288, 289, 290, 291, 292, 293, 294, 295, 296, 297, 298, 299, 300, 301, 302, 303, 304, 305, 306, 307, 308, 309, 310, 311, 312, 313, 314, 315, 316, 317] (by decide +kernel) (by decide +kernel)
set_option maxRecDepth 20000 in
theorem gX12_decide_X12_putOn : GoodIn wsX12_decide (wsV RX12 982 RX12 yX12_putOn wsX12_putOn) := goodIn_app (goodIn_of _ (by decide +kernel)) ggX12_decide_X12_putOn
set_option maxRecDepth 20000 in
theorem ggX12_decide_X12_explore : GoodIn wsX12_decide wsX12_explore := goodIn_r _ [38, 18, 39, 40, 41, 42, 43, 44, 25, 27, 45, 46, 47, 48, 49, 4, 50, 19, 51, 52, 53, 24, 54, 31, 32, 33, 34, 26, 28, 29, 30, 55, 56, 57, 58, 59, 60, 61, 62, 63, 64, 123, 124, 125, 126, 127, 128, 129, 130, 131, 132, 133, 134, 135, 136, 137, 138, 139, 140, 141, 142, 143, 144, 145, 146, 147, 148, 149, 150, 151, 152, 153, 154, 155, 156, 157, 158, 159, 160, 161, 162, 163, 164, 165, 166, 167, 168, 169, 170, 171, 172, 173, 174, 175, 176, 177, 178, 179, 180, 181, 182, 183, 184, 185, 186, 187, 188, 189, 190, 191, 192, 193, 194, 195, 196, 197, 198, 199, 200, 201, 202, 203, 204, 205, 206, 207, 208, 209, 210, 211, 212, 213, 214, 215, 216, 217, 218, 219, 220, 221, 222, 223, 224, 225, 226, 227, 228, 229, 230, 231, 232, 233, 234, 235, 236, 237, 238, 239, 240, 241, 242, 243, 244, 245, 246, 247, 248, 249, 250, 251, 252, 253, 254, 255, 256, 257, 258, 259, 260, 261, 262, 263, 264, 265, 266, 267, 268, 269, 270, 271, 272, 273, 274, 275, 276, 277, 278, 279, 280, 281, 282, 283, 284, 285, 286, 287, 288, 289, 290, 291, 292, 293, 294, 295, 296, 297, 298, 299, 300, 301, 302, 303, 304, 305, 306, 307, 308, 309, 310, 311, 312, 313, 314, 315, 316, 317] (by decide +kernel) (by decide +kernel)
set_option maxRecDepth 20000 in
theorem gX12_decide_X12_explore : GoodIn wsX12_decide (wsV RX12 985 RX12 yX12_explore wsX12_explore) := goodIn_app (goodIn_of _ (by decide +kernel)) ggX12_decide_X12_explore
set_option maxRecDepth 20000 in
theorem ggX12_decide_X12_judge : GoodIn wsX12_decide wsX12_judge := goodIn_r _ [68, 69, 43, 70, 71, 40, 18, 72, 45, 73, 74, 75, 76, 77, 4, 78, 25, 39, 29, 79, 80, 81, 82, 83, 84, 85, 19, 51, 86, 87, 88, 89, 90, 91, 52, 53, 92, 93, 94, 95, 96, 97, 98, 99, 100, 101, 102, 103, 104, 105, 54, 106, 107, 108, 109, 12, 13, 110, 123, 124, 125, 126, 127, 128, 129, 130, 131, 132, 133, 134, 135, 136, 137, 138, 139, 140, 141, 142, 143, 144, 145, 146, 147, 148, 149, 150, 151, 152, 153, 154, 155, 156, 157, 158, 159, 160, 161, 162, 163, 164, 165, 166, 167, 168, 169, 170, 171, 172, 173, 174, 175, 176, 177, 178, 179, 180, 181, 182, 183, 184, 185, 186, 187, 188, 189, 190, 191, 192, 193, 194, 195, 196, 197, 198, 199, 200, 201, 202, 203, 204, 205, 206, 207, 208, 209, 210, 211, 212, 213, 214, 215, 216, 217, 218, 219, 220, 221, 222, 223, 224, 225, 226, 227, 228, 229, 230, 231, 232, 233, 234, 235, 236, 237, 238, 239, 240, 241, 242, 243, 244, 245, 246, 247, 248, 249, 250, 251, 252, 253, 254, 255, 256, 257, 258, 259, 260, 261, 262, 263, 264, 265, 266, 267, 268, 269, 270, 271, 272, 273, 274, 275, 276, 277, 278, 279, 280, 281, 282, 283, 284, 285, 286, 287, 288, 289, 290, 291, 292, 293, 294, 295, 296, 297, 298, 299, 300, 301, 302, 303, 304, 305, 306, 307, 308, 309, 310, 311, 312, 313, 314, 315, 316, 317] (by decide +kernel) (by decide +kernel)
set_option maxRecDepth 20000 in
theorem gX12_decide_X12_judge : GoodIn wsX12_decide (wsV RX12 988 RX12 yX12_judge wsX12_judge) := goodIn_app (goodIn_of _ (by decide +kernel)) ggX12_decide_X12_judge
set_option maxRecDepth 20000 in
theorem ggX12_decide_X12_tellLeast : GoodIn wsX12_decide wsX12_tellLeast := goodIn_r _ [114, 115, 116, 39, 117, 118, 46, 70, 119, 120, 121, 4, 122, 43, 40, 123, 124, 125, 126, 127, 128, 129, 130, 131, 132, 133, 134, 135, 136, 137, 138, 139, 140, 141, 142, 143, 144, 145, 146, 147, 148, 149, 150, 151, 152, 153, 154, 155, 156, 157, 158, 159, 160, 161, 162, 163, 164, 165, 166, 167, 168, 169, 170, 171, 172, 173, 174, 175, 176, 177, 178, 179, 180, 181, 182, 183, 184, 185, 186, 187, 188, 189, 190, 191, 192, 193, 194, 195, 196, 197, 198, 199, 200, 201, 202, 203, 204, 205, 206, 207, 208, 209, 210, 211, 212, 213, 214, 215, 216, 217, 218, 219, 220, 221, 222, 223, 224, 225, 226, 227, 228, 229, 230, 231, 232, 233, 234, 235, 236, 237, 238, 239, 240, 241, 242, 243, 244, 245, 246, 247, 248, 249, 250, 251, 252, 253, 254, 255, 256, 257, 258, 259, 260, 261, 262, 263, 264, 265, 266, 267, 268, 269, 270, 271, 272, 273, 274, 275, 276, 277, 278, 279, 280, 281, 282, 283, 284, 285, 286, 287, 288, 289, 290, 291, 292, 293, 294, 295, 296, 297, 298, 299, 300, 301, 302, 303, 304, 305, 306, 307, 308, 309, 310, 311, 312, 313, 314, 315, 316, 317] (by decide +kernel) (by decide +kernel)
set_option maxRecDepth 20000 in
theorem gX12_decide_X12_tellLeast : GoodIn wsX12_decide (wsV RX12 991 RX12 yX12_tellLeast wsX12_tellLeast) := goodIn_app (goodIn_of _ (by decide +kernel)) ggX12_decide_X12_tellLeast
theorem dX12_decide_0 : decode cX12_decide 0 = .ok (.aload_n 0, 1) := by decide +kernel
theorem dX12_decide_1 : decode cX12_decide 1 = .ok (.invokevirtual 871, 3) := by decide +kernel
theorem dX12_decide_4 : decode cX12_decide 4 = .ok (.ifCond .ne 6, 3) := by decide +kernel
theorem dX12_decide_10 : decode cX12_decide 10 = .ok (.aload_n 0, 1) := by decide +kernel
theorem dX12_decide_11 : decode cX12_decide 11 = .ok (.invokevirtual 982, 3) := by decide +kernel
theorem dX12_decide_14 : decode cX12_decide 14 = .ok (.aload_n 0, 1) := by decide +kernel
theorem dX12_decide_15 : decode cX12_decide 15 = .ok (.invokevirtual 985, 3) := by decide +kernel
theorem dX12_decide_18 : decode cX12_decide 18 = .ok (.ifCond .ne 6, 3) := by decide +kernel
theorem dX12_decide_24 : decode cX12_decide 24 = .ok (.aload_n 0, 1) := by decide +kernel
theorem dX12_decide_25 : decode cX12_decide 25 = .ok (.iconst 0, 1) := by decide +kernel
theorem dX12_decide_26 : decode cX12_decide 26 = .ok (.iconst 0, 1) := by decide +kernel
theorem dX12_decide_27 : decode cX12_decide 27 = .ok (.iconst (-1), 1) := by decide +kernel
theorem dX12_decide_28 : decode cX12_decide 28 = .ok (.invokevirtual 988, 3) := by decide +kernel
theorem dX12_decide_31 : decode cX12_decide 31 = .ok (.aload_n 0, 1) := by decide +kernel
theorem dX12_decide_32 : decode cX12_decide 32 = .ok (.invokevirtual 991, 3) := by decide +kernel
theorem dX12_decide_35 : decode cX12_decide 35 = .ok (.ifCond .eq 7, 3) := by decide +kernel
theorem dX12_decide_38 : decode cX12_decide 38 = .ok (.iconst 1, 1) := by decide +kernel
theorem dX12_decide_39 : decode cX12_decide 39 = .ok (.goto 4, 3) := by decide +kernel
theorem dX12_decide_43 : decode cX12_decide 43 = .ok (.ireturn, 1) := by decide +kernel
theorem dJ7_fill_d0a16_0 : decode cJ7_fill_d0a16 0 = .ok (.iconst 0, 1) := by decide +kernel
theorem dJ7_fill_d0a16_1 : decode cJ7_fill_d0a16 1 = .ok (.istore_n 3, 1) := by decide +kernel
theorem dJ7_fill_d0a16_2 : decode cJ7_fill_d0a16 2 = .ok (.aload_n 0, 1) := by decide +kernel
theorem dJ7_fill_d0a16_3 : decode cJ7_fill_d0a16 3 = .ok (.arraylength, 1) := by decide +kernel
theorem dJ7_fill_d0a16_4 : decode cJ7_fill_d0a16 4 = .ok (.istore 4, 2) := by decide +kernel
theorem dJ7_fill_d0a16_6 : decode cJ7_fill_d0a16 6 = .ok (.iload_n 3, 1) := by decide +kernel
theorem dJ7_fill_d0a16_7 : decode cJ7_fill_d0a16 7 = .ok (.iload 4, 2) := by decide +kernel
theorem dJ7_fill_d0a16_9 : decode cJ7_fill_d0a16 9 = .ok (.if_icmp .ge 13, 3) := by decide +kernel
theorem dJ7_fill_d0a16_12 : decode cJ7_fill_d0a16 12 = .ok (.aload_n 0, 1) := by decide +kernel
theorem dJ7_fill_d0a16_13 : decode cJ7_fill_d0a16 13 = .ok (.iload_n 3, 1) := by decide +kernel
theorem dJ7_fill_d0a16_14 : decode cJ7_fill_d0a16 14 = .ok (.lload_n 1, 1) := by decide +kernel
theorem dJ7_fill_d0a16_15 : decode cJ7_fill_d0a16 15 = .ok (.lastore, 1) := by decide +kernel
theorem dJ7_fill_d0a16_16 : decode cJ7_fill_d0a16 16 = .ok (.iinc 3 1, 3) := by decide +kernel
theorem dJ7_fill_d0a16_19 : decode cJ7_fill_d0a16 19 = .ok (.goto (-13), 3) := by decide +kernel
theorem dJ7_fill_d0a16_22 : decode cJ7_fill_d0a16 22 = .ok (.return_, 1) := by decide +kernel
set_option maxHeartbeats 400000000 in
set_option maxRecDepth 100000 in
theorem c_X0_findEnds_0 (l : Launch) (E : kE) (D : va_G) (cI cJ cB cZ : ClassId) (h0 : Nat) (f0 : List Value) (h1 : Nat) (f1 : List Value) (h2 : Nat) (h3 : Nat) (g0 : Nat → Int32) (g1 : Nat → Int32) (e0 : f0[1]? = some (.ref h1)) (e1 : f1[13]? = some (.int 1)) (e2 : f0[5]? = some (.ref h2)) (e3 : f1[12]? = some (.int 1)) (e4 : f1[8]? = some (.ref h3)) (e5 : g0 0 = 0) : kI l E D (kT cI cJ cB cZ) yX0_findEnds wsX0_findEnds ({ frames := 2, cells := 0, slots := 0, locals := 51 }) [.ref h0, .int 0, .int 0] [(h0, .inr (0, f0)), (h1, .inr (6, f1)), (h3, .inl (cI, 48000, .inl g0)), (h2, .inl (cI, 3000, .inl g1))] (1) [(h0, .inr (0, f0)), (h1, .inr (6, f1)), (h3, .inl (cI, 48000, .inl g0)), (h2, .inl (cI, 3000, .inl (upd g1 0 1)))] 0 0 := by
  intro sz
  refine Met.ofW (cc := cX0_findEnds) (maxL := 5) (ret := (some .int)) (by decide) rfl ?_
  intro p e s m args below meth c s₁ B hml hv
  obtain ⟨rfl, hsz, hP, hK, hD0, hN, hX⟩ := hv
  have hx := B.exec
  have hb := B.bytes
  have hr := B.returns
  have hts := atoms_spec (ws := wsX0_findEnds) B.pre
  have hown : s.vm.findClass RX0 = some m.cls := findClass_of_methodNamed B.named
  have hlocks := B.notSynchronized
  have hin0 : ∀ w ∈ wsX00, w ∈ wsX0_findEnds := (fun w h => (List.mem_cons_of_mem _ (List.mem_append_left _ (List.mem_append_right _ h))))
  have hin6 : ∀ w ∈ wsX60, w ∈ wsX0_findEnds := (fun w h => (List.mem_cons_of_mem _ (List.mem_append_right _ h)))
  subst hsz
  have hD := hD0.self (sz := s.heap.size)
  have hAE := k_AE hD0 hX
  generalize hAe : va_A [(h0, .inr (0, f0)), (h1, .inr (6, f1)), (h3, .inl (cI, 48000, .inl g0)), (h2, .inl (cI, 3000, .inl g1))] s.heap.size = A at hD hAE ⊢
  have hA : ∀ q : Nat, s.heap.size ≤ q → A q := fun q h => by rw [← hAe]; exact Or.inr h
  have hS : va_S A s.heap s.heap [] := va_S.rf
  have hP : va_P D vwCl [(h0, .inr (0, f0)), (h1, .inr (6, f1)), (h3, .inl (cI, 48000, .inl g0)), (h2, .inl (cI, 3000, .inl g1))] s.heap := hP
  have hl := lv_entry ([.ref h0, .int 0, .int 0] : List Value) (n := 5) (Nat.le_of_ble_eq_true rfl)
  rw [lg_entry_eq]
  generalize (lg_sl ([.ref h0, .int 0, .int 0]) ++ List.replicate (5 - (lg_sl ([.ref h0, .int 0, .int 0])).length) Slot.unset).toArray = ls at hl ⊢
  have hl : lv_has ls 5 [(0, .ref h0), (1, .int 0), (2, .int 0)] := hl
  refine lv_aload_n hx hb dX0_findEnds_0 rfl (lv_at hl 0 rfl) ?_
  refine va_get (D := D) (ref := "IntegerHouse$Answers") (ci := 0) (v := .ref h1) (C := RX0) (T := TX0) (N := 19) hx hb hts hin0 hown hK hP 0 rfl rfl 1 (by decide) (hts (.fieldLink RX0 48 "IntegerHouse$Answers" "places" "LIntegerHouse$Places;") (List.mem_cons_of_mem _ (List.mem_append_left _ (List.mem_append_left _ (List.mem_of_getElem? (i := 0) rfl))))) (fun _ h9 => h9) e0 dX0_findEnds_1 ?_
  refine va_getN (host := "IntegerHouse") (D := D) (ref := "IntegerHouse$Places") (ci := 6) (v := .int 1) (C := RX6) (T := TX6) (N := 14) hx hb hts hin6 hown hK hP 1 rfl rfl 13 (by decide) (va_Nw.use rfl (hN.1 ("IntegerHouse$Answers", 72, "IntegerHouse$Places", "size", "I", "IntegerHouse") (List.mem_of_getElem? (i := 32) rfl))) (fun _ h9 => h9) e1 dX0_findEnds_4 ?_
  refine lv_sipush (v := 3000) hx hb dX0_findEnds_7 (by decide) ?_
  refine va_mmin hx hb (by rw [hml]; exact hl.1.symm) hown (hts (.methodLink RX0 75 Lib.Math.min.name) (List.mem_cons_of_mem _ (List.mem_append_left _ (List.mem_append_left _ (List.mem_of_getElem? (i := 1) rfl))))) (hts (.static Lib.Math.min.name) (List.mem_cons_of_mem _ (List.mem_append_left _ (List.mem_append_left _ (List.mem_of_getElem? (i := 2) rfl))))) (hts (.initialized "java/lang/Math") (List.mem_cons_of_mem _ (List.mem_append_left _ (List.mem_append_left _ (List.mem_of_getElem? (i := 3) rfl))))) (hts (.code Lib.Math.min.name Lib.Math.min.code 2 (some .int)) (List.mem_cons_of_mem _ (List.mem_append_left _ (List.mem_append_left _ (List.mem_of_getElem? (i := 4) rfl))))) (Nat.le_of_ble_eq_true rfl) (Nat.le_of_ble_eq_true rfl) (Nat.le_of_ble_eq_true rfl) (Nat.le_of_ble_eq_true rfl) dX0_findEnds_10 ?_
  refine k_topi (y := 1) (by decide) ?_
  refine lv_istore_n (lv' := [(3, .int 1), (0, .ref h0), (1, .int 0), (2, .int 0)]) hx hb dX0_findEnds_13 rfl hl (by decide) rfl (fun ls hl => ?_)
  refine lv_iconst (v := 0) hx hb dX0_findEnds_14 (by decide) ?_
  refine lv_istore (lv' := [(4, .int 0), (3, .int 1), (0, .ref h0), (1, .int 0), (2, .int 0)]) hx hb dX0_findEnds_15 hl (by decide) rfl (fun ls hl => ?_)
  refine lv_iload hx hb dX0_findEnds_17 (lv_at hl 0 rfl) ?_
  refine lv_iload_n hx hb dX0_findEnds_19 rfl (lv_at hl 1 rfl) ?_
  refine lv_icmp_ge (tgt := 47) hx hb dX0_findEnds_20 (by decide) (fun c9 => absurd c9 (by decide)) (fun _ => ?_)
  refine lv_aload_n hx hb dX0_findEnds_23 rfl (lv_at hl 2 rfl) ?_
  refine va_get (D := D) (ref := "IntegerHouse$Answers") (ci := 0) (v := .ref h2) (C := RX0) (T := TX0) (N := 19) hx hb hts hin0 hown hK hP 0 rfl rfl 5 (by decide) (hts (.fieldLink RX0 22 "IntegerHouse$Answers" "ends" "[I") (List.mem_cons_of_mem _ (List.mem_append_left _ (List.mem_append_left _ (List.mem_of_getElem? (i := 5) rfl))))) (fun _ h9 => h9) e2 dX0_findEnds_24 ?_
  refine lv_iload hx hb dX0_findEnds_27 (lv_at hl 0 rfl) ?_
  refine lv_aload_n hx hb dX0_findEnds_29 rfl (lv_at hl 2 rfl) ?_
  refine va_get (D := D) (ref := "IntegerHouse$Answers") (ci := 0) (v := .ref h1) (C := RX0) (T := TX0) (N := 19) hx hb hts hin0 hown hK hP 0 rfl rfl 1 (by decide) (hts (.fieldLink RX0 48 "IntegerHouse$Answers" "places" "LIntegerHouse$Places;") (List.mem_cons_of_mem _ (List.mem_append_left _ (List.mem_append_left _ (List.mem_of_getElem? (i := 0) rfl))))) (fun _ h9 => h9) e0 dX0_findEnds_30 ?_
  refine lv_iload hx hb dX0_findEnds_33 (lv_at hl 0 rfl) ?_
  refine lv_iload_n hx hb dX0_findEnds_35 rfl (lv_at hl 3 rfl) ?_
  refine lv_iload_n hx hb dX0_findEnds_36 rfl (lv_at hl 4 rfl) ?_
  refine k_cVi (As := [.int 0, .int 0, .int 0]) (rest := [.int 0, .ref h2]) (wc := [(h1, .inr (6, f1)), (h3, .inl (cI, 48000, .inl g0))]) (wr := [(h0, .inr (0, f0)), (h2, .inl (cI, 3000, .inl g1))]) (w1 := [(h1, .inr (6, f1)), (h3, .inl (cI, 48000, .inl g0))]) ⟨hx, hb, hml, hown, hts⟩ hN hX hAE hK hP hD hS hA [1, 2] [0, 3] (ci := 6) rfl rfl rfl rfl (by decide +kernel) (by decide +kernel) (by decide +kernel) (c_X6_acceptedBy_0 l E D cI cJ cB cZ h1 f1 h3 g0 e3 e4 e5) (cwV 3 hts gX0_findEnds_X6_acceptedBy rfl rfl rfl (by decide +kernel) ⟨Nat.le_of_ble_eq_true rfl, Nat.le_of_ble_eq_true rfl⟩) rfl hl.1 (Nat.le_of_ble_eq_true rfl) dX0_findEnds_37 ⟨Nat.le_of_ble_eq_true rfl, Nat.le_of_ble_eq_true rfl⟩ (fun H locs hP hD hS => ?_)
  have hP : va_P D vwCl [(h0, .inr (0, f0)), (h2, .inl (cI, 3000, .inl g1)), (h1, .inr (6, f1)), (h3, .inl (cI, 48000, .inl g0))] H := hP
  have hD : va_D A [(h0, .inr (0, f0)), (h2, .inl (cI, 3000, .inl g1)), (h1, .inr (6, f1)), (h3, .inl (cI, 48000, .inl g0))] := hD
  refine va_iast hx hb hK hP hD hS 1 0 rfl rfl (k_in (by decide)) dX0_findEnds_40 (fun H locs hP hD hS => ?_)
  have hP : va_P D vwCl [(h0, .inr (0, f0)), (h2, .inl (cI, 3000, .inl (upd g1 0 1))), (h1, .inr (6, f1)), (h3, .inl (cI, 48000, .inl g0))] H := hP
  have hD : va_D A [(h0, .inr (0, f0)), (h2, .inl (cI, 3000, .inl (upd g1 0 1))), (h1, .inr (6, f1)), (h3, .inl (cI, 48000, .inl g0))] := hD
  refine lv_iinc (v := 1) (lv' := [(4, .int 1), (3, .int 1), (0, .ref h0), (1, .int 0), (2, .int 0)]) hx hb dX0_findEnds_41 hl (k := 0) rfl (by decide) (by decide) rfl (fun ls hl => ?_)
  refine lv_goto (tgt := 17) hx hb dX0_findEnds_44 (by decide) ?_
  refine lv_iload hx hb dX0_findEnds_17 (lv_at hl 0 rfl) ?_
  refine lv_iload_n hx hb dX0_findEnds_19 rfl (lv_at hl 1 rfl) ?_
  refine lv_icmp_ge (tgt := 47) hx hb dX0_findEnds_20 (by decide) (fun _ => ?_) (fun c9 => absurd (by decide) c9)
  refine lv_iload_n hx hb dX0_findEnds_47 rfl (lv_at hl 1 rfl) ?_
  have hP := hP.sub (ws' := [(h0, .inr (0, f0)), (h1, .inr (6, f1)), (h3, .inl (cI, 48000, .inl g0)), (h2, .inl (cI, 3000, .inl (upd g1 0 1)))]) [0, 2, 3, 1] rfl
  have hD := hD.sub (ws' := [(h0, .inr (0, f0)), (h1, .inr (6, f1)), (h3, .inl (cI, 48000, .inl g0)), (h2, .inl (cI, 3000, .inl (upd g1 0 1)))]) [0, 2, 3, 1] (by decide +kernel) rfl
  exact W.iret (v := 1) hx hb hr (fun t ht hW => ⟨⟨1, (), rfl, rfl, kB_mk ht hW hP hK hD⟩, hS.F ht⟩) hS.2.2 dX0_findEnds_48
set_option maxHeartbeats 400000000 in
set_option maxRecDepth 100000 in
theorem c_J7_fill_d0a16_0 (l : Launch) (E : kE) (D : va_G) (cI cJ cB cZ : ClassId) (h0 : Nat) (g0 : Nat → Int64)  : kV l E D (kT cI cJ cB cZ) yJ7_fill_d0a16 wsJ7_fill_d0a16 ({ frames := 0, cells := 0, slots := 0, locals := 0 }) [.ref h0, .long 0] [(h0, .inl (cJ, 4, .inr (.inl g0)))] (fun _ : Unit => [(h0, .inl (cJ, 4, .inr (.inl (k_fillL 0 4 g0))))]) 0 0 := by
  intro sz
  refine Met.ofW (cc := cJ7_fill_d0a16) (maxL := 5) (ret := none) (by decide) rfl ?_
  intro p e s m args below meth c s₁ B hml hv
  obtain ⟨rfl, hsz, hP, hK, hD0, hN, hX⟩ := hv
  have hx := B.exec
  have hb := B.bytes
  have hr := B.returns
  have hts := atoms_spec (ws := wsJ7_fill_d0a16) B.pre
  have hown : s.vm.findClass RJ7 = some m.cls := findClass_of_methodNamed B.named
  have hlocks := B.notSynchronized
  subst hsz
  have hD := hD0.self (sz := s.heap.size)
  have hAE := k_AE hD0 hX
  generalize hAe : va_A [(h0, .inl (cJ, 4, .inr (.inl g0)))] s.heap.size = A at hD hAE ⊢
  have hA : ∀ q : Nat, s.heap.size ≤ q → A q := fun q h => by rw [← hAe]; exact Or.inr h
  have hS : va_S A s.heap s.heap [] := va_S.rf
  have hP : va_P D vwCl [(h0, .inl (cJ, 4, .inr (.inl g0)))] s.heap := hP
  have hl := lv_entry ([.ref h0, .long 0] : List Value) (n := 5) (Nat.le_of_ble_eq_true rfl)
  rw [lg_entry_eq]
  generalize (lg_sl ([.ref h0, .long 0]) ++ List.replicate (5 - (lg_sl ([.ref h0, .long 0])).length) Slot.unset).toArray = ls at hl ⊢
  have hl : lv_has ls 5 [(0, .ref h0), (1, .long 0)] := hl
  refine lv_iconst (v := 0) hx hb dJ7_fill_d0a16_0 (by decide) ?_
  refine lv_istore_n (lv' := [(3, .int 0), (0, .ref h0), (1, .long 0)]) hx hb dJ7_fill_d0a16_1 rfl hl (by decide) rfl (fun ls hl => ?_)
  refine lv_aload_n hx hb dJ7_fill_d0a16_2 rfl (lv_at hl 1 rfl) ?_
  refine va_alen (v := 4) hx hb hK hP 0 1 rfl rfl (by decide) dJ7_fill_d0a16_3 ?_
  refine lv_istore (lv' := [(4, .int 4), (3, .int 0), (0, .ref h0), (1, .long 0)]) hx hb dJ7_fill_d0a16_4 hl (by decide) rfl (fun ls hl => ?_)
  refine k_loopW (P := fun i H locs ls => va_P D vwCl [(h0, .inl (cJ, 4, .inr (.inl (k_fillL 0 i g0))))] H ∧ va_D A [(h0, .inl (cJ, 4, .inr (.inl (k_fillL 0 i g0))))] ∧ va_S A s.heap H locs ∧ lv_has ls 5 [(4, .int 4), (3, .int (nI i)), (0, .ref h0), (1, .long 0)]) 4 (fun i H locs ls hi hh kk => ?_) (fun H locs ls hh => ?_) (Nat.zero_le 4) ⟨by rw [k_fillL_0]; exact hP, by rw [k_fillL_0]; exact hD, hS, hl⟩
  · obtain ⟨hP, hD, hS, hl⟩ := hh
    refine lv_iload_n hx hb dJ7_fill_d0a16_6 rfl (lv_at hl 1 rfl) ?_
    refine lv_iload hx hb dJ7_fill_d0a16_7 (lv_at hl 0 rfl) ?_
    refine lv_icmp_ge (tgt := 22) hx hb dJ7_fill_d0a16_9 (by decide) (fun c9 => absurd c9 (nI_ge hi (by decide))) (fun _ => ?_)
    refine lv_aload_n hx hb dJ7_fill_d0a16_12 rfl (lv_at hl 2 rfl) ?_
    refine lv_iload_n hx hb dJ7_fill_d0a16_13 rfl (lv_at hl 1 rfl) ?_
    refine lv_lload_n hx hb dJ7_fill_d0a16_14 rfl (lv_at hl 3 rfl) ?_
    refine va_last hx hb hK hP hD hS 0 1 rfl rfl (vp_in_nI hi (by decide)) dJ7_fill_d0a16_15 (fun H locs hP hD hS => ?_)
    refine lv_iinc (v := nI (i + 1)) (lv' := [(3, .int (nI (i + 1))), (4, .int 4), (0, .ref h0), (1, .long 0)]) hx hb dJ7_fill_d0a16_16 hl (k := 1) rfl (nI_succ i).symm (by decide) rfl (fun ls hl => ?_)
    refine lv_goto (tgt := 6) hx hb dJ7_fill_d0a16_19 (by decide) ?_
    rw [nI_clamp (by omega), k_fillL_1] at hP hD
    exact kk _ _ _ ⟨hP, hD, hS, lv_sub hl [1, 0, 2, 3] rfl⟩
  obtain ⟨hP, hD, hS, hl⟩ := hh
  have hP : va_P D vwCl [(h0, .inl (cJ, 4, .inr (.inl (k_fillL 0 4 g0))))] H := hP
  have hD : va_D A [(h0, .inl (cJ, 4, .inr (.inl (k_fillL 0 4 g0))))] := hD
  have hl : lv_has ls 5 [(4, .int 4), (3, .int 4), (0, .ref h0), (1, .long 0)] := hl
  refine lv_iload_n hx hb dJ7_fill_d0a16_6 rfl (lv_at hl 1 rfl) ?_
  refine lv_iload hx hb dJ7_fill_d0a16_7 (lv_at hl 0 rfl) ?_
  refine lv_icmp_ge (tgt := 22) hx hb dJ7_fill_d0a16_9 (by decide) (fun _ => ?_) (fun c9 => absurd (by decide) c9)
  exact W.vret hx hb hr (fun t ht hW => ⟨⟨(), rfl, trivial, kB_mk ht hW hP hK hD⟩, hS.F ht⟩) hS.2.2 dJ7_fill_d0a16_22
set_option maxHeartbeats 400000000 in
set_option maxRecDepth 100000 in
theorem c_X0_endsOf_0 (l : Launch) (E : kE) (D : va_G) (cI cJ cB cZ : ClassId) (h0 : Nat) (f0 : List Value) (h1 : Nat) (g0 : Nat → Int32) (e0 : f0[5]? = some (.ref h1)) (e1 : g0 0 = 1) : kI l E D (kT cI cJ cB cZ) yX0_endsOf wsX0_endsOf ({ frames := 0, cells := 0, slots := 0, locals := 0 }) [.ref h0, .int 0] [(h0, .inr (0, f0)), (h1, .inl (cI, 3000, .inl g0))] (1) [(h0, .inr (0, f0)), (h1, .inl (cI, 3000, .inl g0))] 0 0 := by
  intro sz
  refine Met.ofW (cc := cX0_endsOf) (maxL := 2) (ret := (some .int)) (by decide) rfl ?_
  intro p e s m args below meth c s₁ B hml hv
  obtain ⟨rfl, hsz, hP, hK, hD0, hN, hX⟩ := hv
  have hx := B.exec
  have hb := B.bytes
  have hr := B.returns
  have hts := atoms_spec (ws := wsX0_endsOf) B.pre
  have hown : s.vm.findClass RX0 = some m.cls := findClass_of_methodNamed B.named
  have hlocks := B.notSynchronized
  have hin0 : ∀ w ∈ wsX00, w ∈ wsX0_endsOf := (fun w h => (List.mem_cons_of_mem _ (List.mem_append_right _ h)))
  subst hsz
  have hD := hD0.self (sz := s.heap.size)
  have hAE := k_AE hD0 hX
  generalize hAe : va_A [(h0, .inr (0, f0)), (h1, .inl (cI, 3000, .inl g0))] s.heap.size = A at hD hAE ⊢
  have hA : ∀ q : Nat, s.heap.size ≤ q → A q := fun q h => by rw [← hAe]; exact Or.inr h
  have hS : va_S A s.heap s.heap [] := va_S.rf
  have hP : va_P D vwCl [(h0, .inr (0, f0)), (h1, .inl (cI, 3000, .inl g0))] s.heap := hP
  have hl := lv_entry ([.ref h0, .int 0] : List Value) (n := 2) (Nat.le_of_ble_eq_true rfl)
  rw [lg_entry_eq]
  generalize (lg_sl ([.ref h0, .int 0]) ++ List.replicate (2 - (lg_sl ([.ref h0, .int 0])).length) Slot.unset).toArray = ls at hl ⊢
  have hl : lv_has ls 2 [(0, .ref h0), (1, .int 0)] := hl
  refine lv_iload_n hx hb dX0_endsOf_0 rfl (lv_at hl 1 rfl) ?_
  refine lv_if_lt (tgt := 20) hx hb dX0_endsOf_1 (by decide) (fun c9 => absurd c9 (by decide)) (fun _ => ?_)
  refine lv_iload_n hx hb dX0_endsOf_4 rfl (lv_at hl 1 rfl) ?_
  refine lv_sipush (v := 3000) hx hb dX0_endsOf_5 (by decide) ?_
  refine lv_icmp_ge (tgt := 20) hx hb dX0_endsOf_8 (by decide) (fun c9 => absurd c9 (by decide)) (fun _ => ?_)
  refine lv_aload_n hx hb dX0_endsOf_11 rfl (lv_at hl 0 rfl) ?_
  refine va_get (D := D) (ref := "IntegerHouse$Answers") (ci := 0) (v := .ref h1) (C := RX0) (T := TX0) (N := 19) hx hb hts hin0 hown hK hP 0 rfl rfl 5 (by decide) (hts (.fieldLink RX0 22 "IntegerHouse$Answers" "ends" "[I") (List.mem_cons_of_mem _ (List.mem_append_left _ (List.mem_of_getElem? (i := 0) rfl)))) (fun _ h9 => h9) e0 dX0_endsOf_12 ?_
  refine lv_iload_n hx hb dX0_endsOf_15 rfl (lv_at hl 1 rfl) ?_
  refine va_iald hx hb hK hP 1 0 rfl rfl (k_in (by decide)) dX0_endsOf_16 ?_
  refine k_topi (y := 1) e1 ?_
  refine lv_goto (tgt := 21) hx hb dX0_endsOf_17 (by decide) ?_
  exact W.iret (v := 1) hx hb hr (fun t ht hW => ⟨⟨1, (), rfl, rfl, kB_mk ht hW hP hK hD⟩, hS.F ht⟩) hS.2.2 dX0_endsOf_21
set_option maxHeartbeats 400000000 in
set_option maxRecDepth 100000 in
theorem c_X0_addBits_0 (l : Launch) (E : kE) (D : va_G) (cI cJ cB cZ : ClassId) (h0 : Nat) (f0 : List Value) (h1 : Nat) (g0 : Nat → Int64) (e0 : f0[2]? = some (.ref h1)) (e1 : g0 0 = 0) (e2 : g0 1 = 0) (e3 : g0 2 = 0) (e4 : g0 3 = 0) : kV l E D (kT cI cJ cB cZ) yX0_addBits wsX0_addBits ({ frames := 0, cells := 0, slots := 0, locals := 0 }) [.ref h0, .int 0, .int 0, .int (-1)] [(h0, .inr (0, f0)), (h1, .inl (cJ, 4, .inr (.inl g0)))] (fun _ : Unit => [(h0, .inr (0, f0)), (h1, .inl (cJ, 4, .inr (.inl (vp_updL (vp_updL (vp_updL (vp_updL g0 0 0) 1 0) 2 0) 3 0))))]) 0 0 := by
  intro sz
  refine Met.ofW (cc := cX0_addBits) (maxL := 5) (ret := none) (by decide) rfl ?_
  intro p e s m args below meth c s₁ B hml hv
  obtain ⟨rfl, hsz, hP, hK, hD0, hN, hX⟩ := hv
  have hx := B.exec
  have hb := B.bytes
  have hr := B.returns
  have hts := atoms_spec (ws := wsX0_addBits) B.pre
  have hown : s.vm.findClass RX0 = some m.cls := findClass_of_methodNamed B.named
  have hlocks := B.notSynchronized
  have hin0 : ∀ w ∈ wsX00, w ∈ wsX0_addBits := (fun w h => (List.mem_cons_of_mem _ (List.mem_append_right _ h)))
  subst hsz
  have hD := hD0.self (sz := s.heap.size)
  have hAE := k_AE hD0 hX
  generalize hAe : va_A [(h0, .inr (0, f0)), (h1, .inl (cJ, 4, .inr (.inl g0)))] s.heap.size = A at hD hAE ⊢
  have hA : ∀ q : Nat, s.heap.size ≤ q → A q := fun q h => by rw [← hAe]; exact Or.inr h
  have hS : va_S A s.heap s.heap [] := va_S.rf
  have hP : va_P D vwCl [(h0, .inr (0, f0)), (h1, .inl (cJ, 4, .inr (.inl g0)))] s.heap := hP
  have hl := lv_entry ([.ref h0, .int 0, .int 0, .int (-1)] : List Value) (n := 5) (Nat.le_of_ble_eq_true rfl)
  rw [lg_entry_eq]
  generalize (lg_sl ([.ref h0, .int 0, .int 0, .int (-1)]) ++ List.replicate (5 - (lg_sl ([.ref h0, .int 0, .int 0, .int (-1)])).length) Slot.unset).toArray = ls at hl ⊢
  have hl : lv_has ls 5 [(0, .ref h0), (1, .int 0), (2, .int 0), (3, .int (-1))] := hl
  refine lv_iconst (v := 0) hx hb dX0_addBits_0 (by decide) ?_
  refine lv_istore (lv' := [(4, .int 0), (0, .ref h0), (1, .int 0), (2, .int 0), (3, .int (-1))]) hx hb dX0_addBits_1 hl (by decide) rfl (fun ls hl => ?_)
  refine lv_iload hx hb dX0_addBits_3 (lv_at hl 0 rfl) ?_
  refine lv_iconst (v := 4) hx hb dX0_addBits_5 (by decide) ?_
  refine lv_icmp_ge (tgt := 44) hx hb dX0_addBits_6 (by decide) (fun c9 => absurd c9 (by decide)) (fun _ => ?_)
  refine lv_iload_n hx hb dX0_addBits_9 rfl (lv_at hl 3 rfl) ?_
  refine lv_bipush (v := 62) hx hb dX0_addBits_10 (by decide) ?_
  refine lv_icmp_ge (tgt := 44) hx hb dX0_addBits_12 (by decide) (fun c9 => absurd c9 (by decide)) (fun _ => ?_)
  refine lv_aload_n hx hb dX0_addBits_15 rfl (lv_at hl 1 rfl) ?_
  refine va_get (D := D) (ref := "IntegerHouse$Answers") (ci := 0) (v := .ref h1) (C := RX0) (T := TX0) (N := 19) hx hb hts hin0 hown hK hP 0 rfl rfl 2 (by decide) (hts (.fieldLink RX0 9 "IntegerHouse$Answers" "values" "[J") (List.mem_cons_of_mem _ (List.mem_append_left _ (List.mem_of_getElem? (i := 0) rfl)))) (fun _ h9 => h9) e0 dX0_addBits_16 ?_
  refine lv_iload hx hb dX0_addBits_19 (lv_at hl 0 rfl) ?_
  refine lv_dup2_11 hx hb dX0_addBits_21 rfl rfl ?_
  refine va_lald hx hb hK hP 1 1 rfl rfl (k_in (by decide)) dX0_addBits_22 ?_
  refine k_topl (y := 0) e1 ?_
  refine lv_iload_n hx hb dX0_addBits_23 rfl (lv_at hl 2 rfl) ?_
  refine lv_iload hx hb dX0_addBits_24 (lv_at hl 0 rfl) ?_
  refine lv_iushr (v := 0) hx hb dX0_addBits_26 (by decide) ?_
  refine lv_iconst (v := 1) hx hb dX0_addBits_27 (by decide) ?_
  refine lv_iand hx hb dX0_addBits_28 ?_
  refine k_topi (y := 0) (by decide) ?_
  refine lv_iload_n hx hb dX0_addBits_29 rfl (lv_at hl 4 rfl) ?_
  refine lv_imul hx hb dX0_addBits_30 ?_
  refine k_topi (y := 0) (by decide) ?_
  refine lv_i2l (v := 0) hx hb dX0_addBits_31 (by decide) ?_
  refine lv_lconst (v := 1) hx hb dX0_addBits_32 (by decide) ?_
  refine lv_iload_n hx hb dX0_addBits_33 rfl (lv_at hl 3 rfl) ?_
  refine lv_lshl (v := 1) hx hb dX0_addBits_34 (by decide) ?_
  refine lv_lmul hx hb dX0_addBits_35 ?_
  refine k_topl (y := 0) (by decide) ?_
  refine lv_ladd hx hb dX0_addBits_36 ?_
  refine k_topl (y := 0) (by decide) ?_
  refine va_last hx hb hK hP hD hS 1 1 rfl rfl (k_in (by decide)) dX0_addBits_37 (fun H locs hP hD hS => ?_)
  have hP : va_P D vwCl [(h0, .inr (0, f0)), (h1, .inl (cJ, 4, .inr (.inl (vp_updL g0 0 0))))] H := hP
  have hD : va_D A [(h0, .inr (0, f0)), (h1, .inl (cJ, 4, .inr (.inl (vp_updL g0 0 0))))] := hD
  refine lv_iinc (v := 1) (lv' := [(4, .int 1), (0, .ref h0), (1, .int 0), (2, .int 0), (3, .int (-1))]) hx hb dX0_addBits_38 hl (k := 0) rfl (by decide) (by decide) rfl (fun ls hl => ?_)
  refine lv_goto (tgt := 3) hx hb dX0_addBits_41 (by decide) ?_
  refine lv_iload hx hb dX0_addBits_3 (lv_at hl 0 rfl) ?_
  refine lv_iconst (v := 4) hx hb dX0_addBits_5 (by decide) ?_
  refine lv_icmp_ge (tgt := 44) hx hb dX0_addBits_6 (by decide) (fun c9 => absurd c9 (by decide)) (fun _ => ?_)
  refine lv_iload_n hx hb dX0_addBits_9 rfl (lv_at hl 3 rfl) ?_
  refine lv_bipush (v := 62) hx hb dX0_addBits_10 (by decide) ?_
  refine lv_icmp_ge (tgt := 44) hx hb dX0_addBits_12 (by decide) (fun c9 => absurd c9 (by decide)) (fun _ => ?_)
  refine lv_aload_n hx hb dX0_addBits_15 rfl (lv_at hl 1 rfl) ?_
  refine va_get (D := D) (ref := "IntegerHouse$Answers") (ci := 0) (v := .ref h1) (C := RX0) (T := TX0) (N := 19) hx hb hts hin0 hown hK hP 0 rfl rfl 2 (by decide) (hts (.fieldLink RX0 9 "IntegerHouse$Answers" "values" "[J") (List.mem_cons_of_mem _ (List.mem_append_left _ (List.mem_of_getElem? (i := 0) rfl)))) (fun _ h9 => h9) e0 dX0_addBits_16 ?_
  refine lv_iload hx hb dX0_addBits_19 (lv_at hl 0 rfl) ?_
  refine lv_dup2_11 hx hb dX0_addBits_21 rfl rfl ?_
  refine va_lald hx hb hK hP 1 1 rfl rfl (k_in (by decide)) dX0_addBits_22 ?_
  refine k_topl (y := 0) e2 ?_
  refine lv_iload_n hx hb dX0_addBits_23 rfl (lv_at hl 2 rfl) ?_
  refine lv_iload hx hb dX0_addBits_24 (lv_at hl 0 rfl) ?_
  refine lv_iushr (v := 0) hx hb dX0_addBits_26 (by decide) ?_
  refine lv_iconst (v := 1) hx hb dX0_addBits_27 (by decide) ?_
  refine lv_iand hx hb dX0_addBits_28 ?_
  refine k_topi (y := 0) (by decide) ?_
  refine lv_iload_n hx hb dX0_addBits_29 rfl (lv_at hl 4 rfl) ?_
  refine lv_imul hx hb dX0_addBits_30 ?_
  refine k_topi (y := 0) (by decide) ?_
  refine lv_i2l (v := 0) hx hb dX0_addBits_31 (by decide) ?_
  refine lv_lconst (v := 1) hx hb dX0_addBits_32 (by decide) ?_
  refine lv_iload_n hx hb dX0_addBits_33 rfl (lv_at hl 3 rfl) ?_
  refine lv_lshl (v := 1) hx hb dX0_addBits_34 (by decide) ?_
  refine lv_lmul hx hb dX0_addBits_35 ?_
  refine k_topl (y := 0) (by decide) ?_
  refine lv_ladd hx hb dX0_addBits_36 ?_
  refine k_topl (y := 0) (by decide) ?_
  refine va_last hx hb hK hP hD hS 1 1 rfl rfl (k_in (by decide)) dX0_addBits_37 (fun H locs hP hD hS => ?_)
  have hP : va_P D vwCl [(h0, .inr (0, f0)), (h1, .inl (cJ, 4, .inr (.inl (vp_updL (vp_updL g0 0 0) 1 0))))] H := hP
  have hD : va_D A [(h0, .inr (0, f0)), (h1, .inl (cJ, 4, .inr (.inl (vp_updL (vp_updL g0 0 0) 1 0))))] := hD
  refine lv_iinc (v := 2) (lv' := [(4, .int 2), (0, .ref h0), (1, .int 0), (2, .int 0), (3, .int (-1))]) hx hb dX0_addBits_38 hl (k := 0) rfl (by decide) (by decide) rfl (fun ls hl => ?_)
  refine lv_goto (tgt := 3) hx hb dX0_addBits_41 (by decide) ?_
  refine lv_iload hx hb dX0_addBits_3 (lv_at hl 0 rfl) ?_
  refine lv_iconst (v := 4) hx hb dX0_addBits_5 (by decide) ?_
  refine lv_icmp_ge (tgt := 44) hx hb dX0_addBits_6 (by decide) (fun c9 => absurd c9 (by decide)) (fun _ => ?_)
  refine lv_iload_n hx hb dX0_addBits_9 rfl (lv_at hl 3 rfl) ?_
  refine lv_bipush (v := 62) hx hb dX0_addBits_10 (by decide) ?_
  refine lv_icmp_ge (tgt := 44) hx hb dX0_addBits_12 (by decide) (fun c9 => absurd c9 (by decide)) (fun _ => ?_)
  refine lv_aload_n hx hb dX0_addBits_15 rfl (lv_at hl 1 rfl) ?_
  refine va_get (D := D) (ref := "IntegerHouse$Answers") (ci := 0) (v := .ref h1) (C := RX0) (T := TX0) (N := 19) hx hb hts hin0 hown hK hP 0 rfl rfl 2 (by decide) (hts (.fieldLink RX0 9 "IntegerHouse$Answers" "values" "[J") (List.mem_cons_of_mem _ (List.mem_append_left _ (List.mem_of_getElem? (i := 0) rfl)))) (fun _ h9 => h9) e0 dX0_addBits_16 ?_
  refine lv_iload hx hb dX0_addBits_19 (lv_at hl 0 rfl) ?_
  refine lv_dup2_11 hx hb dX0_addBits_21 rfl rfl ?_
  refine va_lald hx hb hK hP 1 1 rfl rfl (k_in (by decide)) dX0_addBits_22 ?_
  refine k_topl (y := 0) e3 ?_
  refine lv_iload_n hx hb dX0_addBits_23 rfl (lv_at hl 2 rfl) ?_
  refine lv_iload hx hb dX0_addBits_24 (lv_at hl 0 rfl) ?_
  refine lv_iushr (v := 0) hx hb dX0_addBits_26 (by decide) ?_
  refine lv_iconst (v := 1) hx hb dX0_addBits_27 (by decide) ?_
  refine lv_iand hx hb dX0_addBits_28 ?_
  refine k_topi (y := 0) (by decide) ?_
  refine lv_iload_n hx hb dX0_addBits_29 rfl (lv_at hl 4 rfl) ?_
  refine lv_imul hx hb dX0_addBits_30 ?_
  refine k_topi (y := 0) (by decide) ?_
  refine lv_i2l (v := 0) hx hb dX0_addBits_31 (by decide) ?_
  refine lv_lconst (v := 1) hx hb dX0_addBits_32 (by decide) ?_
  refine lv_iload_n hx hb dX0_addBits_33 rfl (lv_at hl 3 rfl) ?_
  refine lv_lshl (v := 1) hx hb dX0_addBits_34 (by decide) ?_
  refine lv_lmul hx hb dX0_addBits_35 ?_
  refine k_topl (y := 0) (by decide) ?_
  refine lv_ladd hx hb dX0_addBits_36 ?_
  refine k_topl (y := 0) (by decide) ?_
  refine va_last hx hb hK hP hD hS 1 1 rfl rfl (k_in (by decide)) dX0_addBits_37 (fun H locs hP hD hS => ?_)
  have hP : va_P D vwCl [(h0, .inr (0, f0)), (h1, .inl (cJ, 4, .inr (.inl (vp_updL (vp_updL (vp_updL g0 0 0) 1 0) 2 0))))] H := hP
  have hD : va_D A [(h0, .inr (0, f0)), (h1, .inl (cJ, 4, .inr (.inl (vp_updL (vp_updL (vp_updL g0 0 0) 1 0) 2 0))))] := hD
  refine lv_iinc (v := 3) (lv' := [(4, .int 3), (0, .ref h0), (1, .int 0), (2, .int 0), (3, .int (-1))]) hx hb dX0_addBits_38 hl (k := 0) rfl (by decide) (by decide) rfl (fun ls hl => ?_)
  refine lv_goto (tgt := 3) hx hb dX0_addBits_41 (by decide) ?_
  refine lv_iload hx hb dX0_addBits_3 (lv_at hl 0 rfl) ?_
  refine lv_iconst (v := 4) hx hb dX0_addBits_5 (by decide) ?_
  refine lv_icmp_ge (tgt := 44) hx hb dX0_addBits_6 (by decide) (fun c9 => absurd c9 (by decide)) (fun _ => ?_)
  refine lv_iload_n hx hb dX0_addBits_9 rfl (lv_at hl 3 rfl) ?_
  refine lv_bipush (v := 62) hx hb dX0_addBits_10 (by decide) ?_
  refine lv_icmp_ge (tgt := 44) hx hb dX0_addBits_12 (by decide) (fun c9 => absurd c9 (by decide)) (fun _ => ?_)
  refine lv_aload_n hx hb dX0_addBits_15 rfl (lv_at hl 1 rfl) ?_
  refine va_get (D := D) (ref := "IntegerHouse$Answers") (ci := 0) (v := .ref h1) (C := RX0) (T := TX0) (N := 19) hx hb hts hin0 hown hK hP 0 rfl rfl 2 (by decide) (hts (.fieldLink RX0 9 "IntegerHouse$Answers" "values" "[J") (List.mem_cons_of_mem _ (List.mem_append_left _ (List.mem_of_getElem? (i := 0) rfl)))) (fun _ h9 => h9) e0 dX0_addBits_16 ?_
  refine lv_iload hx hb dX0_addBits_19 (lv_at hl 0 rfl) ?_
  refine lv_dup2_11 hx hb dX0_addBits_21 rfl rfl ?_
  refine va_lald hx hb hK hP 1 1 rfl rfl (k_in (by decide)) dX0_addBits_22 ?_
  refine k_topl (y := 0) e4 ?_
  refine lv_iload_n hx hb dX0_addBits_23 rfl (lv_at hl 2 rfl) ?_
  refine lv_iload hx hb dX0_addBits_24 (lv_at hl 0 rfl) ?_
  refine lv_iushr (v := 0) hx hb dX0_addBits_26 (by decide) ?_
  refine lv_iconst (v := 1) hx hb dX0_addBits_27 (by decide) ?_
  refine lv_iand hx hb dX0_addBits_28 ?_
  refine k_topi (y := 0) (by decide) ?_
  refine lv_iload_n hx hb dX0_addBits_29 rfl (lv_at hl 4 rfl) ?_
  refine lv_imul hx hb dX0_addBits_30 ?_
  refine k_topi (y := 0) (by decide) ?_
  refine lv_i2l (v := 0) hx hb dX0_addBits_31 (by decide) ?_
  refine lv_lconst (v := 1) hx hb dX0_addBits_32 (by decide) ?_
  refine lv_iload_n hx hb dX0_addBits_33 rfl (lv_at hl 3 rfl) ?_
  refine lv_lshl (v := 1) hx hb dX0_addBits_34 (by decide) ?_
  refine lv_lmul hx hb dX0_addBits_35 ?_
  refine k_topl (y := 0) (by decide) ?_
  refine lv_ladd hx hb dX0_addBits_36 ?_
  refine k_topl (y := 0) (by decide) ?_
  refine va_last hx hb hK hP hD hS 1 1 rfl rfl (k_in (by decide)) dX0_addBits_37 (fun H locs hP hD hS => ?_)
  have hP : va_P D vwCl [(h0, .inr (0, f0)), (h1, .inl (cJ, 4, .inr (.inl (vp_updL (vp_updL (vp_updL (vp_updL g0 0 0) 1 0) 2 0) 3 0))))] H := hP
  have hD : va_D A [(h0, .inr (0, f0)), (h1, .inl (cJ, 4, .inr (.inl (vp_updL (vp_updL (vp_updL (vp_updL g0 0 0) 1 0) 2 0) 3 0))))] := hD
  refine lv_iinc (v := 4) (lv' := [(4, .int 4), (0, .ref h0), (1, .int 0), (2, .int 0), (3, .int (-1))]) hx hb dX0_addBits_38 hl (k := 0) rfl (by decide) (by decide) rfl (fun ls hl => ?_)
  refine lv_goto (tgt := 3) hx hb dX0_addBits_41 (by decide) ?_
  refine lv_iload hx hb dX0_addBits_3 (lv_at hl 0 rfl) ?_
  refine lv_iconst (v := 4) hx hb dX0_addBits_5 (by decide) ?_
  refine lv_icmp_ge (tgt := 44) hx hb dX0_addBits_6 (by decide) (fun _ => ?_) (fun c9 => absurd (by decide) c9)
  exact W.vret hx hb hr (fun t ht hW => ⟨⟨(), rfl, trivial, kB_mk ht hW hP hK hD⟩, hS.F ht⟩) hS.2.2 dX0_addBits_44
set_option maxHeartbeats 400000000 in
set_option maxRecDepth 100000 in
theorem c_X0_walk_0 (l : Launch) (E : kE) (D : va_G) (cI cJ cB cZ : ClassId) (h0 : Nat) (f0 : List Value) (h1 : Nat) (g0 : Nat → Int32) (h2 : Nat) (f1 : List Value) (h3 : Nat) (g1 : Nat → Int64) (h4 : Nat) (g2 : Nat → Int32) (e0 : f0[4]? = some (.ref h1)) (e1 : g0 0 = 0) (e2 : f0[12]? = some (.int (-1))) (e3 : f0[0]? = some (.ref h2)) (e4 : f1[10]? = some (.int 0)) (e5 : f0[11]? = some (.int 0)) (e6 : f0[2]? = some (.ref h3)) (e7 : f0[5]? = some (.ref h4)) (e8 : g2 0 = 1) : kV l E D (kT cI cJ cB cZ) yX0_walk wsX0_walk ({ frames := 1, cells := 0, slots := 0, locals := 24 }) [.ref h0] [(h0, .inr (0, f0)), (h1, .inl (cI, 3000, .inl g0)), (h2, .inr (2, f1)), (h3, .inl (cJ, 4, .inr (.inl g1))), (h4, .inl (cI, 3000, .inl g2))] (fun _ : Unit => [(h0, .inr (0, ((f0.set 12 (.int 0)).set 11 (.int 0)))), (h1, .inl (cI, 3000, .inl g0)), (h2, .inr (2, f1)), (h3, .inl (cJ, 4, .inr (.inl (vp_updL (vp_updL (vp_updL (vp_updL (k_fillL 0 4 g1) 0 0) 1 0) 2 0) 3 0)))), (h4, .inl (cI, 3000, .inl g2))]) 0 0 := by
  intro sz
  refine Met.ofW (cc := cX0_walk) (maxL := 4) (ret := none) (by decide) rfl ?_
  intro p e s m args below meth c s₁ B hml hv
  obtain ⟨rfl, hsz, hP, hK, hD0, hN, hX⟩ := hv
  have hx := B.exec
  have hb := B.bytes
  have hr := B.returns
  have hts := atoms_spec (ws := wsX0_walk) B.pre
  have hown : s.vm.findClass RX0 = some m.cls := findClass_of_methodNamed B.named
  have hlocks := B.notSynchronized
  have hin0 : ∀ w ∈ wsX00, w ∈ wsX0_walk := (fun w h => (List.mem_cons_of_mem _ (List.mem_append_left _ (List.mem_append_left _ (List.mem_append_right _ h)))))
  have hin2 : ∀ w ∈ wsX20, w ∈ wsX0_walk := (fun w h => (List.mem_cons_of_mem _ (List.mem_append_left _ (List.mem_append_right _ h))))
  subst hsz
  have hD := hD0.self (sz := s.heap.size)
  have hAE := k_AE hD0 hX
  generalize hAe : va_A [(h0, .inr (0, f0)), (h1, .inl (cI, 3000, .inl g0)), (h2, .inr (2, f1)), (h3, .inl (cJ, 4, .inr (.inl g1))), (h4, .inl (cI, 3000, .inl g2))] s.heap.size = A at hD hAE ⊢
  have hA : ∀ q : Nat, s.heap.size ≤ q → A q := fun q h => by rw [← hAe]; exact Or.inr h
  have hS : va_S A s.heap s.heap [] := va_S.rf
  have hP : va_P D vwCl [(h0, .inr (0, f0)), (h1, .inl (cI, 3000, .inl g0)), (h2, .inr (2, f1)), (h3, .inl (cJ, 4, .inr (.inl g1))), (h4, .inl (cI, 3000, .inl g2))] s.heap := hP
  have hl := lv_entry ([.ref h0] : List Value) (n := 4) (Nat.le_of_ble_eq_true rfl)
  rw [lg_entry_eq]
  generalize (lg_sl ([.ref h0]) ++ List.replicate (4 - (lg_sl ([.ref h0])).length) Slot.unset).toArray = ls at hl ⊢
  have hl : lv_has ls 4 [(0, .ref h0)] := hl
  refine lv_iconst (v := 0) hx hb dX0_walk_0 (by decide) ?_
  refine lv_istore_n (lv' := [(1, .int 0), (0, .ref h0)]) hx hb dX0_walk_1 rfl hl (by decide) rfl (fun ls hl => ?_)
  refine lv_aload_n hx hb dX0_walk_2 rfl (lv_at hl 1 rfl) ?_
  refine lv_aload_n hx hb dX0_walk_3 rfl (lv_at hl 1 rfl) ?_
  refine va_get (D := D) (ref := "IntegerHouse$Answers") (ci := 0) (v := .ref h1) (C := RX0) (T := TX0) (N := 19) hx hb hts hin0 hown hK hP 0 rfl rfl 4 (by decide) (hts (.fieldLink RX0 18 "IntegerHouse$Answers" "far" "[I") (List.mem_cons_of_mem _ (List.mem_append_left _ (List.mem_append_left _ (List.mem_append_left _ (List.mem_append_left _ (List.mem_of_getElem? (i := 0) rfl))))))) (fun _ h9 => h9) e0 dX0_walk_4 ?_
  refine lv_iconst (v := 0) hx hb dX0_walk_7 (by decide) ?_
  refine va_iald hx hb hK hP 1 0 rfl rfl (k_in (by decide)) dX0_walk_8 ?_
  refine k_topi (y := 0) e1 ?_
  refine va_put (D := D) (ref := "IntegerHouse$Answers") (ci := 0) (v := .int 0) (ty := .int) (C := RX0) (T := TX0) (N := 19) hx hb hts hin0 tyX0 tyX0_ok nmX0 hown hK hP hD hS 0 rfl rfl 12 (by decide) (hts (.fieldLink RX0 40 "IntegerHouse$Answers" "toldHeight" "I") (List.mem_cons_of_mem _ (List.mem_append_left _ (List.mem_append_left _ (List.mem_append_left _ (List.mem_append_left _ (List.mem_of_getElem? (i := 1) rfl))))))) (fun _ h9 => h9) rfl (by decide +kernel) rfl rfl (k_len e2) dX0_walk_9 (fun H locs hP hD hS => ?_)
  have hP : va_P D vwCl [(h0, .inr (0, (f0.set 12 (.int 0)))), (h1, .inl (cI, 3000, .inl g0)), (h2, .inr (2, f1)), (h3, .inl (cJ, 4, .inr (.inl g1))), (h4, .inl (cI, 3000, .inl g2))] H := hP
  have hD : va_D A [(h0, .inr (0, (f0.set 12 (.int 0)))), (h1, .inl (cI, 3000, .inl g0)), (h2, .inr (2, f1)), (h3, .inl (cJ, 4, .inr (.inl g1))), (h4, .inl (cI, 3000, .inl g2))] := hD
  refine lv_aload_n hx hb dX0_walk_12 rfl (lv_at hl 1 rfl) ?_
  refine lv_aload_n hx hb dX0_walk_13 rfl (lv_at hl 1 rfl) ?_
  refine va_get (D := D) (ref := "IntegerHouse$Answers") (ci := 0) (v := .ref h2) (C := RX0) (T := TX0) (N := 19) hx hb hts hin0 hown hK hP 0 rfl rfl 0 (by decide) (hts (.fieldLink RX0 44 "IntegerHouse$Answers" "house" "LIntegerHouse$House;") (List.mem_cons_of_mem _ (List.mem_append_left _ (List.mem_append_left _ (List.mem_append_left _ (List.mem_append_left _ (List.mem_of_getElem? (i := 2) rfl))))))) (fun _ h9 => h9) (k_ne (by decide) e3) dX0_walk_14 ?_
  refine va_getN (host := "IntegerHouse") (D := D) (ref := "IntegerHouse$House") (ci := 2) (v := .int 0) (C := RX2) (T := TX2) (N := 16) hx hb hts hin2 hown hK hP 2 rfl rfl 10 (by decide) (va_Nw.use rfl (hN.1 ("IntegerHouse$Answers", 52, "IntegerHouse$House", "variables", "I", "IntegerHouse") (List.mem_of_getElem? (i := 8) rfl))) (fun _ h9 => h9) e4 dX0_walk_17 ?_
  refine va_put (D := D) (ref := "IntegerHouse$Answers") (ci := 0) (v := .int 0) (ty := .int) (C := RX0) (T := TX0) (N := 19) hx hb hts hin0 tyX0 tyX0_ok nmX0 hown hK hP hD hS 0 rfl rfl 11 (by decide) (hts (.fieldLink RX0 69 "IntegerHouse$Answers" "valuesTold" "I") (List.mem_cons_of_mem _ (List.mem_append_left _ (List.mem_append_left _ (List.mem_append_left _ (List.mem_append_left _ (List.mem_of_getElem? (i := 3) rfl))))))) (fun _ h9 => h9) rfl (by decide +kernel) rfl rfl (k_len (k_ne (by decide) e5)) dX0_walk_20 (fun H locs hP hD hS => ?_)
  have hP : va_P D vwCl [(h0, .inr (0, ((f0.set 12 (.int 0)).set 11 (.int 0)))), (h1, .inl (cI, 3000, .inl g0)), (h2, .inr (2, f1)), (h3, .inl (cJ, 4, .inr (.inl g1))), (h4, .inl (cI, 3000, .inl g2))] H := hP
  have hD : va_D A [(h0, .inr (0, ((f0.set 12 (.int 0)).set 11 (.int 0)))), (h1, .inl (cI, 3000, .inl g0)), (h2, .inr (2, f1)), (h3, .inl (cJ, 4, .inr (.inl g1))), (h4, .inl (cI, 3000, .inl g2))] := hD
  refine lv_aload_n hx hb dX0_walk_23 rfl (lv_at hl 1 rfl) ?_
  refine va_get (D := D) (ref := "IntegerHouse$Answers") (ci := 0) (v := .ref h3) (C := RX0) (T := TX0) (N := 19) hx hb hts hin0 hown hK hP 0 rfl rfl 2 (by decide) (hts (.fieldLink RX0 9 "IntegerHouse$Answers" "values" "[J") (List.mem_cons_of_mem _ (List.mem_append_left _ (List.mem_append_left _ (List.mem_append_left _ (List.mem_append_left _ (List.mem_of_getElem? (i := 4) rfl))))))) (fun _ h9 => h9) (k_ne (by decide) (k_ne (by decide) e6)) dX0_walk_24 ?_
  refine lv_lconst (v := 0) hx hb dX0_walk_27 (by decide) ?_
  refine k_cSv (As := [.ref h3, .long 0]) (rest := []) (wc := [(h3, .inl (cJ, 4, .inr (.inl g1)))]) (wr := [(h0, .inr (0, ((f0.set 12 (.int 0)).set 11 (.int 0)))), (h1, .inl (cI, 3000, .inl g0)), (h2, .inr (2, f1)), (h4, .inl (cI, 3000, .inl g2))]) (w1 := (fun _ : Unit => [(h3, .inl (cJ, 4, .inr (.inl (k_fillL 0 4 g1))))])) ⟨hx, hb, hml, hown, hts⟩ hN hX hAE hK hP hD hS hA [3] [0, 1, 2, 4] rfl rfl (by decide +kernel) (by decide +kernel) (by decide +kernel) (c_J7_fill_d0a16_0 l E D cI cJ cB cZ h3 g1 ) (va_cwS 2 hts gX0_walk_J7_fill_d0a16 rfl rfl rfl (by decide +kernel) ⟨Nat.le_of_ble_eq_true rfl, Nat.le_of_ble_eq_true rfl⟩) rfl hl.1 (Nat.le_of_ble_eq_true rfl) dX0_walk_28 ⟨Nat.le_of_ble_eq_true rfl, Nat.le_of_ble_eq_true rfl⟩ (fun _ H locs hP hD hS => ?_)
  have hP : va_P D vwCl [(h0, .inr (0, ((f0.set 12 (.int 0)).set 11 (.int 0)))), (h1, .inl (cI, 3000, .inl g0)), (h2, .inr (2, f1)), (h4, .inl (cI, 3000, .inl g2)), (h3, .inl (cJ, 4, .inr (.inl (k_fillL 0 4 g1))))] H := hP
  have hD : va_D A [(h0, .inr (0, ((f0.set 12 (.int 0)).set 11 (.int 0)))), (h1, .inl (cI, 3000, .inl g0)), (h2, .inr (2, f1)), (h4, .inl (cI, 3000, .inl g2)), (h3, .inl (cJ, 4, .inr (.inl (k_fillL 0 4 g1))))] := hD
  refine lv_aload_n hx hb dX0_walk_31 rfl (lv_at hl 1 rfl) ?_
  refine va_get (D := D) (ref := "IntegerHouse$Answers") (ci := 0) (v := .int 0) (C := RX0) (T := TX0) (N := 19) hx hb hts hin0 hown hK hP 0 rfl rfl 12 (by decide) (hts (.fieldLink RX0 40 "IntegerHouse$Answers" "toldHeight" "I") (List.mem_cons_of_mem _ (List.mem_append_left _ (List.mem_append_left _ (List.mem_append_left _ (List.mem_append_left _ (List.mem_of_getElem? (i := 1) rfl))))))) (fun _ h9 => h9) (k_ne (by decide) (k_set e2)) dX0_walk_32 ?_
  refine lv_istore_n (lv' := [(2, .int 0), (1, .int 0), (0, .ref h0)]) hx hb dX0_walk_35 rfl hl (by decide) rfl (fun ls hl => ?_)
  refine lv_iload_n hx hb dX0_walk_36 rfl (lv_at hl 0 rfl) ?_
  refine lv_if_le (tgt := 101) hx hb dX0_walk_37 (by decide) (fun _ => ?_) (fun c9 => absurd (by decide) c9)
  refine lv_iconst (v := 0) hx hb dX0_walk_101 (by decide) ?_
  refine lv_istore_n (lv' := [(2, .int 0), (1, .int 0), (0, .ref h0)]) hx hb dX0_walk_102 rfl hl (by decide) rfl (fun ls hl => ?_)
  refine lv_iload_n hx hb dX0_walk_103 rfl (lv_at hl 0 rfl) ?_
  refine lv_bipush (v := 15) hx hb dX0_walk_104 (by decide) ?_
  refine lv_icmp_ge (tgt := 127) hx hb dX0_walk_106 (by decide) (fun c9 => absurd c9 (by decide)) (fun _ => ?_)
  refine lv_aload_n hx hb dX0_walk_109 rfl (lv_at hl 2 rfl) ?_
  refine lv_iload_n hx hb dX0_walk_110 rfl (lv_at hl 1 rfl) ?_
  refine k_cVi (As := [.int 0]) (rest := []) (wc := [(h0, .inr (0, ((f0.set 12 (.int 0)).set 11 (.int 0)))), (h4, .inl (cI, 3000, .inl g2))]) (wr := [(h1, .inl (cI, 3000, .inl g0)), (h2, .inr (2, f1)), (h3, .inl (cJ, 4, .inr (.inl (k_fillL 0 4 g1))))]) (w1 := [(h0, .inr (0, ((f0.set 12 (.int 0)).set 11 (.int 0)))), (h4, .inl (cI, 3000, .inl g2))]) ⟨hx, hb, hml, hown, hts⟩ hN hX hAE hK hP hD hS hA [0, 3] [1, 2, 4] (ci := 0) rfl rfl rfl rfl (by decide +kernel) (by decide +kernel) (by decide +kernel) (c_X0_endsOf_0 l E D cI cJ cB cZ h0 (((f0.set 12 (.int 0)).set 11 (.int 0))) h4 g2 (k_ne (by decide) (k_ne (by decide) e7)) e8) (cwV 1 hts gX0_walk_X0_endsOf rfl rfl rfl (by decide +kernel) ⟨Nat.le_of_ble_eq_true rfl, Nat.le_of_ble_eq_true rfl⟩) rfl hl.1 (Nat.le_of_ble_eq_true rfl) dX0_walk_111 ⟨Nat.le_of_ble_eq_true rfl, Nat.le_of_ble_eq_true rfl⟩ (fun H locs hP hD hS => ?_)
  have hP : va_P D vwCl [(h1, .inl (cI, 3000, .inl g0)), (h2, .inr (2, f1)), (h3, .inl (cJ, 4, .inr (.inl (k_fillL 0 4 g1)))), (h0, .inr (0, ((f0.set 12 (.int 0)).set 11 (.int 0)))), (h4, .inl (cI, 3000, .inl g2))] H := hP
  have hD : va_D A [(h1, .inl (cI, 3000, .inl g0)), (h2, .inr (2, f1)), (h3, .inl (cJ, 4, .inr (.inl (k_fillL 0 4 g1)))), (h0, .inr (0, ((f0.set 12 (.int 0)).set 11 (.int 0)))), (h4, .inl (cI, 3000, .inl g2))] := hD
  refine lv_iload_n hx hb dX0_walk_114 rfl (lv_at hl 0 rfl) ?_
  refine lv_iushr (v := 1) hx hb dX0_walk_115 (by decide) ?_
  refine lv_iconst (v := 1) hx hb dX0_walk_116 (by decide) ?_
  refine lv_iand hx hb dX0_walk_117 ?_
  refine k_topi (y := 1) (by decide) ?_
  refine lv_if_ne (tgt := 127) hx hb dX0_walk_118 (by decide) (fun _ => ?_) (fun c9 => absurd c9 (by decide))
  refine lv_aload_n hx hb dX0_walk_127 rfl (lv_at hl 2 rfl) ?_
  refine lv_iload_n hx hb dX0_walk_128 rfl (lv_at hl 0 rfl) ?_
  refine lv_aload_n hx hb dX0_walk_129 rfl (lv_at hl 2 rfl) ?_
  refine va_get (D := D) (ref := "IntegerHouse$Answers") (ci := 0) (v := .int 0) (C := RX0) (T := TX0) (N := 19) hx hb hts hin0 hown hK hP 3 rfl rfl 12 (by decide) (hts (.fieldLink RX0 40 "IntegerHouse$Answers" "toldHeight" "I") (List.mem_cons_of_mem _ (List.mem_append_left _ (List.mem_append_left _ (List.mem_append_left _ (List.mem_append_left _ (List.mem_of_getElem? (i := 1) rfl))))))) (fun _ h9 => h9) (k_ne (by decide) (k_set e2)) dX0_walk_130 ?_
  refine lv_iconst (v := (-1)) hx hb dX0_walk_133 (by decide) ?_
  refine k_cVv (As := [.int 0, .int 0, .int (-1)]) (rest := []) (wc := [(h0, .inr (0, ((f0.set 12 (.int 0)).set 11 (.int 0)))), (h3, .inl (cJ, 4, .inr (.inl (k_fillL 0 4 g1))))]) (wr := [(h1, .inl (cI, 3000, .inl g0)), (h2, .inr (2, f1)), (h4, .inl (cI, 3000, .inl g2))]) (w1 := (fun _ : Unit => [(h0, .inr (0, ((f0.set 12 (.int 0)).set 11 (.int 0)))), (h3, .inl (cJ, 4, .inr (.inl (vp_updL (vp_updL (vp_updL (vp_updL (k_fillL 0 4 g1) 0 0) 1 0) 2 0) 3 0))))])) ⟨hx, hb, hml, hown, hts⟩ hN hX hAE hK hP hD hS hA [3, 2] [0, 1, 4] (ci := 0) rfl rfl rfl rfl (by decide +kernel) (by decide +kernel) (by decide +kernel) (c_X0_addBits_0 l E D cI cJ cB cZ h0 (((f0.set 12 (.int 0)).set 11 (.int 0))) h3 ((k_fillL 0 4 g1)) (k_ne (by decide) (k_ne (by decide) e6)) (if_pos (by decide)) (if_pos (by decide)) (if_pos (by decide)) (if_pos (by decide))) (cwV 3 hts gX0_walk_X0_addBits rfl rfl rfl (by decide +kernel) ⟨Nat.le_of_ble_eq_true rfl, Nat.le_of_ble_eq_true rfl⟩) rfl hl.1 (Nat.le_of_ble_eq_true rfl) dX0_walk_134 ⟨Nat.le_of_ble_eq_true rfl, Nat.le_of_ble_eq_true rfl⟩ (fun _ H locs hP hD hS => ?_)
  have hP : va_P D vwCl [(h1, .inl (cI, 3000, .inl g0)), (h2, .inr (2, f1)), (h4, .inl (cI, 3000, .inl g2)), (h0, .inr (0, ((f0.set 12 (.int 0)).set 11 (.int 0)))), (h3, .inl (cJ, 4, .inr (.inl (vp_updL (vp_updL (vp_updL (vp_updL (k_fillL 0 4 g1) 0 0) 1 0) 2 0) 3 0))))] H := hP
  have hD : va_D A [(h1, .inl (cI, 3000, .inl g0)), (h2, .inr (2, f1)), (h4, .inl (cI, 3000, .inl g2)), (h0, .inr (0, ((f0.set 12 (.int 0)).set 11 (.int 0)))), (h3, .inl (cJ, 4, .inr (.inl (vp_updL (vp_updL (vp_updL (vp_updL (k_fillL 0 4 g1) 0 0) 1 0) 2 0) 3 0))))] := hD
  have hP := hP.sub (ws' := [(h0, .inr (0, ((f0.set 12 (.int 0)).set 11 (.int 0)))), (h1, .inl (cI, 3000, .inl g0)), (h2, .inr (2, f1)), (h3, .inl (cJ, 4, .inr (.inl (vp_updL (vp_updL (vp_updL (vp_updL (k_fillL 0 4 g1) 0 0) 1 0) 2 0) 3 0)))), (h4, .inl (cI, 3000, .inl g2))]) [3, 0, 1, 4, 2] rfl
  have hD := hD.sub (ws' := [(h0, .inr (0, ((f0.set 12 (.int 0)).set 11 (.int 0)))), (h1, .inl (cI, 3000, .inl g0)), (h2, .inr (2, f1)), (h3, .inl (cJ, 4, .inr (.inl (vp_updL (vp_updL (vp_updL (vp_updL (k_fillL 0 4 g1) 0 0) 1 0) 2 0) 3 0)))), (h4, .inl (cI, 3000, .inl g2))]) [3, 0, 1, 4, 2] (by decide +kernel) rfl
  exact W.vret hx hb hr (fun t ht hW => ⟨⟨(), rfl, trivial, kB_mk ht hW hP hK hD⟩, hS.F ht⟩) hS.2.2 dX0_walk_137
set_option maxHeartbeats 400000000 in
set_option maxRecDepth 100000 in
theorem c_X0_tellLeast_0 (l : Launch) (E : kE) (D : va_G) (cI cJ cB cZ : ClassId) (h0 : Nat) (f0 : List Value) (h1 : Nat) (f1 : List Value) (h2 : Nat) (h3 : Nat) (g0 : Nat → Int32) (g1 : Nat → Int32) (h4 : Nat) (g2 : Nat → Int32) (h5 : Nat) (f2 : List Value) (h6 : Nat) (g3 : Nat → Int64) (e0 : f0[1]? = some (.ref h1)) (e1 : f1[13]? = some (.int 1)) (e2 : f0[5]? = some (.ref h2)) (e3 : f1[12]? = some (.int 1)) (e4 : f1[8]? = some (.ref h3)) (e5 : g0 0 = 0) (e6 : f0[4]? = some (.ref h4)) (e7 : f0[12]? = some (.int (-1))) (e8 : f0[0]? = some (.ref h5)) (e9 : f2[10]? = some (.int 0)) (e10 : f0[11]? = some (.int 0)) (e11 : f0[2]? = some (.ref h6)) : kI l E D (kT cI cJ cB cZ) yX0_tellLeast wsX0_tellLeast ({ frames := 3, cells := 0, slots := 0, locals := 75 }) [.ref h0, .int 0, .int 0] [(h0, .inr (0, f0)), (h1, .inr (6, f1)), (h3, .inl (cI, 48000, .inl g0)), (h2, .inl (cI, 3000, .inl g1)), (h4, .inl (cI, 3000, .inl g2)), (h5, .inr (2, f2)), (h6, .inl (cJ, 4, .inr (.inl g3)))] (1) [(h0, .inr (0, ((f0.set 12 (.int 0)).set 11 (.int 0)))), (h1, .inr (6, f1)), (h3, .inl (cI, 48000, .inl g0)), (h2, .inl (cI, 3000, .inl (upd g1 0 1))), (h4, .inl (cI, 3000, .inl (upd g2 0 0))), (h5, .inr (2, f2)), (h6, .inl (cJ, 4, .inr (.inl (vp_updL (vp_updL (vp_updL (vp_updL (k_fillL 0 4 g3) 0 0) 1 0) 2 0) 3 0))))] 0 0 := by
  intro sz
  refine Met.ofW (cc := cX0_tellLeast) (maxL := 6) (ret := (some .boolean)) (by decide) rfl ?_
  intro p e s m args below meth c s₁ B hml hv
  obtain ⟨rfl, hsz, hP, hK, hD0, hN, hX⟩ := hv
  have hx := B.exec
  have hb := B.bytes
  have hr := B.returns
  have hts := atoms_spec (ws := wsX0_tellLeast) B.pre
  have hown : s.vm.findClass RX0 = some m.cls := findClass_of_methodNamed B.named
  have hlocks := B.notSynchronized
  have hin0 : ∀ w ∈ wsX00, w ∈ wsX0_tellLeast := (fun w h => (List.mem_cons_of_mem _ (List.mem_append_left _ (List.mem_append_left _ (List.mem_append_right _ h)))))
  subst hsz
  have hD := hD0.self (sz := s.heap.size)
  have hAE := k_AE hD0 hX
  generalize hAe : va_A [(h0, .inr (0, f0)), (h1, .inr (6, f1)), (h3, .inl (cI, 48000, .inl g0)), (h2, .inl (cI, 3000, .inl g1)), (h4, .inl (cI, 3000, .inl g2)), (h5, .inr (2, f2)), (h6, .inl (cJ, 4, .inr (.inl g3)))] s.heap.size = A at hD hAE ⊢
  have hA : ∀ q : Nat, s.heap.size ≤ q → A q := fun q h => by rw [← hAe]; exact Or.inr h
  have hS : va_S A s.heap s.heap [] := va_S.rf
  have hP : va_P D vwCl [(h0, .inr (0, f0)), (h1, .inr (6, f1)), (h3, .inl (cI, 48000, .inl g0)), (h2, .inl (cI, 3000, .inl g1)), (h4, .inl (cI, 3000, .inl g2)), (h5, .inr (2, f2)), (h6, .inl (cJ, 4, .inr (.inl g3)))] s.heap := hP
  have hl := lv_entry ([.ref h0, .int 0, .int 0] : List Value) (n := 6) (Nat.le_of_ble_eq_true rfl)
  rw [lg_entry_eq]
  generalize (lg_sl ([.ref h0, .int 0, .int 0]) ++ List.replicate (6 - (lg_sl ([.ref h0, .int 0, .int 0])).length) Slot.unset).toArray = ls at hl ⊢
  have hl : lv_has ls 6 [(0, .ref h0), (1, .int 0), (2, .int 0)] := hl
  refine lv_aload_n hx hb dX0_tellLeast_0 rfl (lv_at hl 0 rfl) ?_
  refine lv_iload_n hx hb dX0_tellLeast_1 rfl (lv_at hl 1 rfl) ?_
  refine lv_iload_n hx hb dX0_tellLeast_2 rfl (lv_at hl 2 rfl) ?_
  refine k_cVi (As := [.int 0, .int 0]) (rest := []) (wc := [(h0, .inr (0, f0)), (h1, .inr (6, f1)), (h3, .inl (cI, 48000, .inl g0)), (h2, .inl (cI, 3000, .inl g1))]) (wr := [(h4, .inl (cI, 3000, .inl g2)), (h5, .inr (2, f2)), (h6, .inl (cJ, 4, .inr (.inl g3)))]) (w1 := [(h0, .inr (0, f0)), (h1, .inr (6, f1)), (h3, .inl (cI, 48000, .inl g0)), (h2, .inl (cI, 3000, .inl (upd g1 0 1)))]) ⟨hx, hb, hml, hown, hts⟩ hN hX hAE hK hP hD hS hA [0, 1, 2, 3] [4, 5, 6] (ci := 0) rfl rfl rfl rfl (by decide +kernel) (by decide +kernel) (by decide +kernel) (c_X0_findEnds_0 l E D cI cJ cB cZ h0 f0 h1 f1 h2 h3 g0 g1 e0 e1 e2 e3 e4 e5) (cwV 2 hts gX0_tellLeast_X0_findEnds rfl rfl rfl (by decide +kernel) ⟨Nat.le_of_ble_eq_true rfl, Nat.le_of_ble_eq_true rfl⟩) rfl hl.1 (Nat.le_of_ble_eq_true rfl) dX0_tellLeast_3 ⟨Nat.le_of_ble_eq_true rfl, Nat.le_of_ble_eq_true rfl⟩ (fun H locs hP hD hS => ?_)
  have hP : va_P D vwCl [(h4, .inl (cI, 3000, .inl g2)), (h5, .inr (2, f2)), (h6, .inl (cJ, 4, .inr (.inl g3))), (h0, .inr (0, f0)), (h1, .inr (6, f1)), (h3, .inl (cI, 48000, .inl g0)), (h2, .inl (cI, 3000, .inl (upd g1 0 1)))] H := hP
  have hD : va_D A [(h4, .inl (cI, 3000, .inl g2)), (h5, .inr (2, f2)), (h6, .inl (cJ, 4, .inr (.inl g3))), (h0, .inr (0, f0)), (h1, .inr (6, f1)), (h3, .inl (cI, 48000, .inl g0)), (h2, .inl (cI, 3000, .inl (upd g1 0 1)))] := hD
  refine lv_istore_n (lv' := [(3, .int 1), (0, .ref h0), (1, .int 0), (2, .int 0)]) hx hb dX0_tellLeast_6 rfl hl (by decide) rfl (fun ls hl => ?_)
  refine lv_iconst (v := 0) hx hb dX0_tellLeast_7 (by decide) ?_
  refine lv_istore (lv' := [(4, .int 0), (3, .int 1), (0, .ref h0), (1, .int 0), (2, .int 0)]) hx hb dX0_tellLeast_8 hl (by decide) rfl (fun ls hl => ?_)
  refine lv_iload hx hb dX0_tellLeast_10 (lv_at hl 0 rfl) ?_
  refine lv_iload_n hx hb dX0_tellLeast_12 rfl (lv_at hl 1 rfl) ?_
  refine lv_icmp_ge (tgt := 44) hx hb dX0_tellLeast_13 (by decide) (fun c9 => absurd c9 (by decide)) (fun _ => ?_)
  refine lv_aload_n hx hb dX0_tellLeast_16 rfl (lv_at hl 2 rfl) ?_
  refine va_get (D := D) (ref := "IntegerHouse$Answers") (ci := 0) (v := .ref h4) (C := RX0) (T := TX0) (N := 19) hx hb hts hin0 hown hK hP 3 rfl rfl 4 (by decide) (hts (.fieldLink RX0 18 "IntegerHouse$Answers" "far" "[I") (List.mem_cons_of_mem _ (List.mem_append_left _ (List.mem_append_left _ (List.mem_append_left _ (List.mem_append_left _ (List.mem_of_getElem? (i := 0) rfl))))))) (fun _ h9 => h9) e6 dX0_tellLeast_17 ?_
  refine lv_iload hx hb dX0_tellLeast_20 (lv_at hl 0 rfl) ?_
  refine lv_aload_n hx hb dX0_tellLeast_22 rfl (lv_at hl 2 rfl) ?_
  refine va_get (D := D) (ref := "IntegerHouse$Answers") (ci := 0) (v := .ref h2) (C := RX0) (T := TX0) (N := 19) hx hb hts hin0 hown hK hP 3 rfl rfl 5 (by decide) (hts (.fieldLink RX0 22 "IntegerHouse$Answers" "ends" "[I") (List.mem_cons_of_mem _ (List.mem_append_left _ (List.mem_append_left _ (List.mem_append_left _ (List.mem_append_left _ (List.mem_of_getElem? (i := 1) rfl))))))) (fun _ h9 => h9) e2 dX0_tellLeast_23 ?_
  refine lv_iload hx hb dX0_tellLeast_26 (lv_at hl 0 rfl) ?_
  refine va_iald hx hb hK hP 6 0 rfl rfl (k_in (by decide)) dX0_tellLeast_28 ?_
  refine k_topi (y := 1) rfl ?_
  refine lv_if_eq (tgt := 36) hx hb dX0_tellLeast_29 (by decide) (fun c9 => absurd c9 (by decide)) (fun _ => ?_)
  refine lv_iconst (v := 0) hx hb dX0_tellLeast_32 (by decide) ?_
  refine lv_goto (tgt := 37) hx hb dX0_tellLeast_33 (by decide) ?_
  refine va_iast hx hb hK hP hD hS 0 0 rfl rfl (k_in (by decide)) dX0_tellLeast_37 (fun H locs hP hD hS => ?_)
  have hP : va_P D vwCl [(h4, .inl (cI, 3000, .inl (upd g2 0 0))), (h5, .inr (2, f2)), (h6, .inl (cJ, 4, .inr (.inl g3))), (h0, .inr (0, f0)), (h1, .inr (6, f1)), (h3, .inl (cI, 48000, .inl g0)), (h2, .inl (cI, 3000, .inl (upd g1 0 1)))] H := hP
  have hD : va_D A [(h4, .inl (cI, 3000, .inl (upd g2 0 0))), (h5, .inr (2, f2)), (h6, .inl (cJ, 4, .inr (.inl g3))), (h0, .inr (0, f0)), (h1, .inr (6, f1)), (h3, .inl (cI, 48000, .inl g0)), (h2, .inl (cI, 3000, .inl (upd g1 0 1)))] := hD
  refine lv_iinc (v := 1) (lv' := [(4, .int 1), (3, .int 1), (0, .ref h0), (1, .int 0), (2, .int 0)]) hx hb dX0_tellLeast_38 hl (k := 0) rfl (by decide) (by decide) rfl (fun ls hl => ?_)
  refine lv_goto (tgt := 10) hx hb dX0_tellLeast_41 (by decide) ?_
  refine lv_iload hx hb dX0_tellLeast_10 (lv_at hl 0 rfl) ?_
  refine lv_iload_n hx hb dX0_tellLeast_12 rfl (lv_at hl 1 rfl) ?_
  refine lv_icmp_ge (tgt := 44) hx hb dX0_tellLeast_13 (by decide) (fun _ => ?_) (fun c9 => absurd (by decide) c9)
  refine lv_iconst (v := 1) hx hb dX0_tellLeast_44 (by decide) ?_
  refine lv_istore (lv' := [(4, .int 1), (3, .int 1), (0, .ref h0), (1, .int 0), (2, .int 0)]) hx hb dX0_tellLeast_45 hl (by decide) rfl (fun ls hl => ?_)
  refine lv_iconst (v := 1) hx hb dX0_tellLeast_47 (by decide) ?_
  refine lv_istore (lv' := [(5, .int 1), (4, .int 1), (3, .int 1), (0, .ref h0), (1, .int 0), (2, .int 0)]) hx hb dX0_tellLeast_48 hl (by decide) rfl (fun ls hl => ?_)
  refine lv_iload hx hb dX0_tellLeast_50 (lv_at hl 0 rfl) ?_
  refine lv_iload_n hx hb dX0_tellLeast_52 rfl (lv_at hl 2 rfl) ?_
  refine lv_icmp_gt (tgt := 86) hx hb dX0_tellLeast_53 (by decide) (fun c9 => absurd c9 (by decide)) (fun _ => ?_)
  refine lv_iload hx hb dX0_tellLeast_56 (lv_at hl 1 rfl) ?_
  refine lv_if_eq (tgt := 86) hx hb dX0_tellLeast_58 (by decide) (fun c9 => absurd c9 (by decide)) (fun _ => ?_)
  refine lv_aload_n hx hb dX0_tellLeast_61 rfl (lv_at hl 3 rfl) ?_
  refine va_get (D := D) (ref := "IntegerHouse$Answers") (ci := 0) (v := .ref h4) (C := RX0) (T := TX0) (N := 19) hx hb hts hin0 hown hK hP 3 rfl rfl 4 (by decide) (hts (.fieldLink RX0 18 "IntegerHouse$Answers" "far" "[I") (List.mem_cons_of_mem _ (List.mem_append_left _ (List.mem_append_left _ (List.mem_append_left _ (List.mem_append_left _ (List.mem_of_getElem? (i := 0) rfl))))))) (fun _ h9 => h9) e6 dX0_tellLeast_62 ?_
  refine lv_iconst (v := 0) hx hb dX0_tellLeast_65 (by decide) ?_
  refine va_iald hx hb hK hP 0 0 rfl rfl (k_in (by decide)) dX0_tellLeast_66 ?_
  refine k_topi (y := 0) rfl ?_
  refine lv_iconst (v := (-1)) hx hb dX0_tellLeast_67 (by decide) ?_
  refine lv_icmp_ne (tgt := 86) hx hb dX0_tellLeast_68 (by decide) (fun _ => ?_) (fun c9 => absurd c9 (by decide))
  refine lv_aload_n hx hb dX0_tellLeast_86 rfl (lv_at hl 3 rfl) ?_
  refine va_get (D := D) (ref := "IntegerHouse$Answers") (ci := 0) (v := .ref h4) (C := RX0) (T := TX0) (N := 19) hx hb hts hin0 hown hK hP 3 rfl rfl 4 (by decide) (hts (.fieldLink RX0 18 "IntegerHouse$Answers" "far" "[I") (List.mem_cons_of_mem _ (List.mem_append_left _ (List.mem_append_left _ (List.mem_append_left _ (List.mem_append_left _ (List.mem_of_getElem? (i := 0) rfl))))))) (fun _ h9 => h9) e6 dX0_tellLeast_87 ?_
  refine lv_iconst (v := 0) hx hb dX0_tellLeast_90 (by decide) ?_
  refine va_iald hx hb hK hP 0 0 rfl rfl (k_in (by decide)) dX0_tellLeast_91 ?_
  refine k_topi (y := 0) rfl ?_
  refine lv_iconst (v := (-1)) hx hb dX0_tellLeast_92 (by decide) ?_
  refine lv_icmp_ne (tgt := 98) hx hb dX0_tellLeast_93 (by decide) (fun _ => ?_) (fun c9 => absurd c9 (by decide))
  refine lv_aload_n hx hb dX0_tellLeast_98 rfl (lv_at hl 3 rfl) ?_
  refine k_cVv (As := []) (rest := []) (wc := [(h0, .inr (0, f0)), (h4, .inl (cI, 3000, .inl (upd g2 0 0))), (h5, .inr (2, f2)), (h6, .inl (cJ, 4, .inr (.inl g3))), (h2, .inl (cI, 3000, .inl (upd g1 0 1)))]) (wr := [(h1, .inr (6, f1)), (h3, .inl (cI, 48000, .inl g0))]) (w1 := (fun _ : Unit => [(h0, .inr (0, ((f0.set 12 (.int 0)).set 11 (.int 0)))), (h4, .inl (cI, 3000, .inl (upd g2 0 0))), (h5, .inr (2, f2)), (h6, .inl (cJ, 4, .inr (.inl (vp_updL (vp_updL (vp_updL (vp_updL (k_fillL 0 4 g3) 0 0) 1 0) 2 0) 3 0)))), (h2, .inl (cI, 3000, .inl (upd g1 0 1)))])) ⟨hx, hb, hml, hown, hts⟩ hN hX hAE hK hP hD hS hA [3, 0, 1, 2, 6] [4, 5] (ci := 0) rfl rfl rfl rfl (by decide +kernel) (by decide +kernel) (by decide +kernel) (c_X0_walk_0 l E D cI cJ cB cZ h0 f0 h4 ((upd g2 0 0)) h5 f2 h6 g3 h2 ((upd g1 0 1)) e6 rfl e7 e8 e9 e10 e11 e2 rfl) (cwV 0 hts gX0_tellLeast_X0_walk rfl rfl rfl (by decide +kernel) ⟨Nat.le_of_ble_eq_true rfl, Nat.le_of_ble_eq_true rfl⟩) rfl hl.1 (Nat.le_of_ble_eq_true rfl) dX0_tellLeast_99 ⟨Nat.le_of_ble_eq_true rfl, Nat.le_of_ble_eq_true rfl⟩ (fun _ H locs hP hD hS => ?_)
  have hP : va_P D vwCl [(h1, .inr (6, f1)), (h3, .inl (cI, 48000, .inl g0)), (h0, .inr (0, ((f0.set 12 (.int 0)).set 11 (.int 0)))), (h4, .inl (cI, 3000, .inl (upd g2 0 0))), (h5, .inr (2, f2)), (h6, .inl (cJ, 4, .inr (.inl (vp_updL (vp_updL (vp_updL (vp_updL (k_fillL 0 4 g3) 0 0) 1 0) 2 0) 3 0)))), (h2, .inl (cI, 3000, .inl (upd g1 0 1)))] H := hP
  have hD : va_D A [(h1, .inr (6, f1)), (h3, .inl (cI, 48000, .inl g0)), (h0, .inr (0, ((f0.set 12 (.int 0)).set 11 (.int 0)))), (h4, .inl (cI, 3000, .inl (upd g2 0 0))), (h5, .inr (2, f2)), (h6, .inl (cJ, 4, .inr (.inl (vp_updL (vp_updL (vp_updL (vp_updL (k_fillL 0 4 g3) 0 0) 1 0) 2 0) 3 0)))), (h2, .inl (cI, 3000, .inl (upd g1 0 1)))] := hD
  refine lv_iconst (v := 1) hx hb dX0_tellLeast_102 (by decide) ?_
  have hP := hP.sub (ws' := [(h0, .inr (0, ((f0.set 12 (.int 0)).set 11 (.int 0)))), (h1, .inr (6, f1)), (h3, .inl (cI, 48000, .inl g0)), (h2, .inl (cI, 3000, .inl (upd g1 0 1))), (h4, .inl (cI, 3000, .inl (upd g2 0 0))), (h5, .inr (2, f2)), (h6, .inl (cJ, 4, .inr (.inl (vp_updL (vp_updL (vp_updL (vp_updL (k_fillL 0 4 g3) 0 0) 1 0) 2 0) 3 0))))]) [2, 0, 1, 6, 3, 4, 5] rfl
  have hD := hD.sub (ws' := [(h0, .inr (0, ((f0.set 12 (.int 0)).set 11 (.int 0)))), (h1, .inr (6, f1)), (h3, .inl (cI, 48000, .inl g0)), (h2, .inl (cI, 3000, .inl (upd g1 0 1))), (h4, .inl (cI, 3000, .inl (upd g2 0 0))), (h5, .inr (2, f2)), (h6, .inl (cJ, 4, .inr (.inl (vp_updL (vp_updL (vp_updL (vp_updL (k_fillL 0 4 g3) 0 0) 1 0) 2 0) 3 0))))]) [2, 0, 1, 6, 3, 4, 5] (by decide +kernel) rfl
  exact W.zret (v := 1) hx hb hr rfl (fun t ht hW => ⟨⟨1, (), rfl, rfl, kB_mk ht hW hP hK hD⟩, hS.F ht⟩) hS.2.2 dX0_tellLeast_103
set_option maxHeartbeats 400000000 in
set_option maxRecDepth 100000 in
theorem c_X11_decide_0 (l : Launch) (E : kE) (D : va_G) (cI cJ cB cZ : ClassId) (h0 : Nat) (f0 : List Value) (h1 : Nat) (f1 : List Value) (h2 : Nat) (h3 : Nat) (f2 : List Value) (f3 : List Value) (h4 : Nat) (h5 : Nat) (h6 : Nat) (g0 : Nat → Int32) (g1 : Nat → Int32) (g2 : Nat → Int32) (h7 : Nat) (f4 : List Value) (h8 : Nat) (h9 : Nat) (h10 : Nat) (g3 : Nat → Int32) (g4 : Nat → Int32) (g5 : Nat → Int64) (e0 : f0[1]? = some (.ref h1)) (e1 : f1[8]? = some (.int 0)) (e2 : f0[6]? = some (.ref h2)) (e3 : f0[2]? = some (.ref h3)) (e4 : f2[13]? = some (.int 0)) (e5 : f3[10]? = some (.int 0)) (e6 : f3[11]? = some (.int 0)) (e7 : f3[0]? = some (.ref h3)) (e8 : f2[10]? = some (.int 0)) (e9 : f3[12]? = some (.int 0)) (e10 : f3[9]? = some (.ref h4)) (e11 : f3[13]? = some (.int 0)) (e12 : f3[7]? = some (.ref h5)) (e13 : f3[8]? = some (.ref h6)) (e14 : f0[7]? = some (.ref h7)) (e15 : f4[1]? = some (.ref h2)) (e16 : f4[5]? = some (.ref h8)) (e17 : f4[4]? = some (.ref h9)) (e18 : f4[12]? = some (.int (-1))) (e19 : f4[0]? = some (.ref h3)) (e20 : f4[11]? = some (.int 0)) (e21 : f4[2]? = some (.ref h10)) : kI l E D (kT cI cJ cB cZ) yX11_decide wsX11_decide ({ frames := 5, cells := 0, slots := 0, locals := 115 }) [.ref h0] [(h0, .inr (11, f0)), (h1, .inr (1, f1)), (h3, .inr (2, f2)), (h2, .inr (6, f3)), (h4, .inl (cI, 8192, .inl g0)), (h5, .inl (cI, 48000, .inl g1)), (h6, .inl (cI, 48000, .inl g2)), (h7, .inr (0, f4)), (h8, .inl (cI, 3000, .inl g3)), (h9, .inl (cI, 3000, .inl g4)), (h10, .inl (cJ, 4, .inr (.inl g5)))] (1) [(h0, .inr (11, f0)), (h1, .inr (1, f1)), (h3, .inr (2, f2)), (h2, .inr (6, ((((((((((((((((((((((((((((((f3.set 10 (.int 0)).set 11 (.int 0)).set 12 (.int 1)).set 11 (.int 0)).set 11 (.int 0)).set 11 (.int 0)).set 11 (.int 0)).set 11 (.int 0)).set 11 (.int 0)).set 11 (.int 0)).set 11 (.int 0)).set 11 (.int 0)).set 11 (.int 0)).set 11 (.int 0)).set 11 (.int 0)).set 11 (.int 0)).set 11 (.int 0)).set 11 (.int 0)).set 11 (.int 0)).set 11 (.int 0)).set 11 (.int 0)).set 11 (.int 0)).set 11 (.int 0)).set 11 (.int 0)).set 11 (.int 0)).set 11 (.int 0)).set 11 (.int 0)).set 11 (.int 0)).set 13 (.int 0)).set 13 (.int 1)))), (h4, .inl (cI, 8192, .inl (upd (k_fill 0 8192 g0) 782 1))), (h5, .inl (cI, 48000, .inl (upd g1 0 0))), (h6, .inl (cI, 48000, .inl (upd g2 0 0))), (h7, .inr (0, ((f4.set 12 (.int 0)).set 11 (.int 0)))), (h8, .inl (cI, 3000, .inl (upd g3 0 1))), (h9, .inl (cI, 3000, .inl (upd g4 0 0))), (h10, .inl (cJ, 4, .inr (.inl (vp_updL (vp_updL (vp_updL (vp_updL (k_fillL 0 4 g5) 0 0) 1 0) 2 0) 3 0))))] 0 0 := by
  intro sz
  refine Met.ofW (cc := cX11_decide) (maxL := 1) (ret := (some .int)) (by decide) rfl ?_
  intro p e s m args below meth c s₁ B hml hv
  obtain ⟨rfl, hsz, hP, hK, hD0, hN, hX⟩ := hv
  have hx := B.exec
  have hb := B.bytes
  have hr := B.returns
  have hts := atoms_spec (ws := wsX11_decide) B.pre
  have hown : s.vm.findClass RX11 = some m.cls := findClass_of_methodNamed B.named
  have hlocks := B.notSynchronized
  have hin11 : ∀ w ∈ wsX110, w ∈ wsX11_decide := (fun w h => (List.mem_cons_of_mem _ (List.mem_append_left _ (List.mem_append_left _ (List.mem_append_left _ (List.mem_append_left _ (List.mem_append_right _ h)))))))
  have hin1 : ∀ w ∈ wsX10, w ∈ wsX11_decide := (fun w h => (List.mem_cons_of_mem _ (List.mem_append_left _ (List.mem_append_left _ (List.mem_append_left _ (List.mem_append_right _ h))))))
  have hin2 : ∀ w ∈ wsX20, w ∈ wsX11_decide := (fun w h => (List.mem_cons_of_mem _ (List.mem_append_left _ (List.mem_append_left _ (List.mem_append_right _ h)))))
  subst hsz
  have hD := hD0.self (sz := s.heap.size)
  have hAE := k_AE hD0 hX
  generalize hAe : va_A [(h0, .inr (11, f0)), (h1, .inr (1, f1)), (h3, .inr (2, f2)), (h2, .inr (6, f3)), (h4, .inl (cI, 8192, .inl g0)), (h5, .inl (cI, 48000, .inl g1)), (h6, .inl (cI, 48000, .inl g2)), (h7, .inr (0, f4)), (h8, .inl (cI, 3000, .inl g3)), (h9, .inl (cI, 3000, .inl g4)), (h10, .inl (cJ, 4, .inr (.inl g5)))] s.heap.size = A at hD hAE ⊢
  have hA : ∀ q : Nat, s.heap.size ≤ q → A q := fun q h => by rw [← hAe]; exact Or.inr h
  have hS : va_S A s.heap s.heap [] := va_S.rf
  have hP : va_P D vwCl [(h0, .inr (11, f0)), (h1, .inr (1, f1)), (h3, .inr (2, f2)), (h2, .inr (6, f3)), (h4, .inl (cI, 8192, .inl g0)), (h5, .inl (cI, 48000, .inl g1)), (h6, .inl (cI, 48000, .inl g2)), (h7, .inr (0, f4)), (h8, .inl (cI, 3000, .inl g3)), (h9, .inl (cI, 3000, .inl g4)), (h10, .inl (cJ, 4, .inr (.inl g5)))] s.heap := hP
  have hl := lv_entry ([.ref h0] : List Value) (n := 1) (Nat.le_of_ble_eq_true rfl)
  rw [lg_entry_eq]
  generalize (lg_sl ([.ref h0]) ++ List.replicate (1 - (lg_sl ([.ref h0])).length) Slot.unset).toArray = ls at hl ⊢
  have hl : lv_has ls 1 [(0, .ref h0)] := hl
  refine lv_aload_n hx hb dX11_decide_0 rfl (lv_at hl 0 rfl) ?_
  refine va_get (D := D) (ref := "IntegerHouse") (ci := 11) (v := .ref h1) (C := RX11) (T := TX11) (N := 15) hx hb hts hin11 hown hK hP 0 rfl rfl 1 (by decide) (hts (.fieldLink RX11 16 "IntegerHouse" "disk" "LIntegerHouse$Disk;") (List.mem_cons_of_mem _ (List.mem_append_left _ (List.mem_append_left _ (List.mem_append_left _ (List.mem_append_left _ (List.mem_append_left _ (List.mem_append_left _ (List.mem_of_getElem? (i := 0) rfl))))))))) (fun _ h9 => h9) e0 dX11_decide_1 ?_
  refine va_getN (host := "IntegerHouse") (D := D) (ref := "IntegerHouse$Disk") (ci := 1) (v := .int 0) (C := RX1) (T := TX1) (N := 9) hx hb hts hin1 hown hK hP 1 rfl rfl 8 (by decide) (va_Nw.use rfl (hN.1 ("IntegerHouse", 122, "IntegerHouse$Disk", "down", "Z", "IntegerHouse") (List.mem_of_getElem? (i := 3) rfl))) (fun _ h9 => h9) e1 dX11_decide_4 ?_
  refine lv_if_eq (tgt := 13) hx hb dX11_decide_7 (by decide) (fun _ => ?_) (fun c9 => absurd (by decide) c9)
  refine lv_aload_n hx hb dX11_decide_13 rfl (lv_at hl 0 rfl) ?_
  refine va_get (D := D) (ref := "IntegerHouse") (ci := 11) (v := .ref h2) (C := RX11) (T := TX11) (N := 15) hx hb hts hin11 hown hK hP 0 rfl rfl 6 (by decide) (hts (.fieldLink RX11 55 "IntegerHouse" "places" "LIntegerHouse$Places;") (List.mem_cons_of_mem _ (List.mem_append_left _ (List.mem_append_left _ (List.mem_append_left _ (List.mem_append_left _ (List.mem_append_left _ (List.mem_append_left _ (List.mem_of_getElem? (i := 1) rfl))))))))) (fun _ h9 => h9) e2 dX11_decide_14 ?_
  refine lv_aload_n hx hb dX11_decide_17 rfl (lv_at hl 0 rfl) ?_
  refine va_get (D := D) (ref := "IntegerHouse") (ci := 11) (v := .ref h3) (C := RX11) (T := TX11) (N := 15) hx hb hts hin11 hown hK hP 0 rfl rfl 2 (by decide) (hts (.fieldLink RX11 23 "IntegerHouse" "house" "LIntegerHouse$House;") (List.mem_cons_of_mem _ (List.mem_append_left _ (List.mem_append_left _ (List.mem_append_left _ (List.mem_append_left _ (List.mem_append_left _ (List.mem_append_left _ (List.mem_of_getElem? (i := 2) rfl))))))))) (fun _ h9 => h9) e3 dX11_decide_18 ?_
  refine va_getN (host := "IntegerHouse") (D := D) (ref := "IntegerHouse$House") (ci := 2) (v := .int 0) (C := RX2) (T := TX2) (N := 16) hx hb hts hin2 hown hK hP 2 rfl rfl 13 (by decide) (va_Nw.use rfl (hN.1 ("IntegerHouse", 213, "IntegerHouse$House", "on", "I", "IntegerHouse") (List.mem_of_getElem? (i := 20) rfl))) (fun _ h9 => h9) e4 dX11_decide_21 ?_
  refine k_cVi (As := [.int 0]) (rest := []) (wc := [(h2, .inr (6, f3)), (h3, .inr (2, f2)), (h4, .inl (cI, 8192, .inl g0)), (h5, .inl (cI, 48000, .inl g1)), (h6, .inl (cI, 48000, .inl g2))]) (wr := [(h0, .inr (11, f0)), (h1, .inr (1, f1)), (h7, .inr (0, f4)), (h8, .inl (cI, 3000, .inl g3)), (h9, .inl (cI, 3000, .inl g4)), (h10, .inl (cJ, 4, .inr (.inl g5)))]) (w1 := [(h2, .inr (6, ((((((((((((((((((((((((((((((f3.set 10 (.int 0)).set 11 (.int 0)).set 12 (.int 1)).set 11 (.int 0)).set 11 (.int 0)).set 11 (.int 0)).set 11 (.int 0)).set 11 (.int 0)).set 11 (.int 0)).set 11 (.int 0)).set 11 (.int 0)).set 11 (.int 0)).set 11 (.int 0)).set 11 (.int 0)).set 11 (.int 0)).set 11 (.int 0)).set 11 (.int 0)).set 11 (.int 0)).set 11 (.int 0)).set 11 (.int 0)).set 11 (.int 0)).set 11 (.int 0)).set 11 (.int 0)).set 11 (.int 0)).set 11 (.int 0)).set 11 (.int 0)).set 11 (.int 0)).set 11 (.int 0)).set 13 (.int 0)).set 13 (.int 1)))), (h3, .inr (2, f2)), (h4, .inl (cI, 8192, .inl (upd (k_fill 0 8192 g0) 782 1))), (h5, .inl (cI, 48000, .inl (upd g1 0 0))), (h6, .inl (cI, 48000, .inl (upd g2 0 0)))]) ⟨hx, hb, hml, hown, hts⟩ hN hX hAE hK hP hD hS hA [3, 2, 4, 5, 6] [0, 1, 7, 8, 9, 10] (ci := 6) rfl rfl rfl rfl (by decide +kernel) (by decide +kernel) (by decide +kernel) (c_X6_judge_0 l E D cI cJ cB cZ h2 f3 h3 f2 h4 h5 g0 g1 h6 g2 e5 e6 e7 e8 e9 e10 e11 e12 e13) (cwV 1 hts gX11_decide_X6_judge rfl rfl rfl (by decide +kernel) ⟨Nat.le_of_ble_eq_true rfl, Nat.le_of_ble_eq_true rfl⟩) rfl hl.1 (Nat.le_of_ble_eq_true rfl) dX11_decide_24 ⟨Nat.le_of_ble_eq_true rfl, Nat.le_of_ble_eq_true rfl⟩ (fun H locs hP hD hS => ?_)
  have hP : va_P D vwCl [(h0, .inr (11, f0)), (h1, .inr (1, f1)), (h7, .inr (0, f4)), (h8, .inl (cI, 3000, .inl g3)), (h9, .inl (cI, 3000, .inl g4)), (h10, .inl (cJ, 4, .inr (.inl g5))), (h2, .inr (6, ((((((((((((((((((((((((((((((f3.set 10 (.int 0)).set 11 (.int 0)).set 12 (.int 1)).set 11 (.int 0)).set 11 (.int 0)).set 11 (.int 0)).set 11 (.int 0)).set 11 (.int 0)).set 11 (.int 0)).set 11 (.int 0)).set 11 (.int 0)).set 11 (.int 0)).set 11 (.int 0)).set 11 (.int 0)).set 11 (.int 0)).set 11 (.int 0)).set 11 (.int 0)).set 11 (.int 0)).set 11 (.int 0)).set 11 (.int 0)).set 11 (.int 0)).set 11 (.int 0)).set 11 (.int 0)).set 11 (.int 0)).set 11 (.int 0)).set 11 (.int 0)).set 11 (.int 0)).set 11 (.int 0)).set 13 (.int 0)).set 13 (.int 1)))), (h3, .inr (2, f2)), (h4, .inl (cI, 8192, .inl (upd (k_fill 0 8192 g0) 782 1))), (h5, .inl (cI, 48000, .inl (upd g1 0 0))), (h6, .inl (cI, 48000, .inl (upd g2 0 0)))] H := hP
  have hD : va_D A [(h0, .inr (11, f0)), (h1, .inr (1, f1)), (h7, .inr (0, f4)), (h8, .inl (cI, 3000, .inl g3)), (h9, .inl (cI, 3000, .inl g4)), (h10, .inl (cJ, 4, .inr (.inl g5))), (h2, .inr (6, ((((((((((((((((((((((((((((((f3.set 10 (.int 0)).set 11 (.int 0)).set 12 (.int 1)).set 11 (.int 0)).set 11 (.int 0)).set 11 (.int 0)).set 11 (.int 0)).set 11 (.int 0)).set 11 (.int 0)).set 11 (.int 0)).set 11 (.int 0)).set 11 (.int 0)).set 11 (.int 0)).set 11 (.int 0)).set 11 (.int 0)).set 11 (.int 0)).set 11 (.int 0)).set 11 (.int 0)).set 11 (.int 0)).set 11 (.int 0)).set 11 (.int 0)).set 11 (.int 0)).set 11 (.int 0)).set 11 (.int 0)).set 11 (.int 0)).set 11 (.int 0)).set 11 (.int 0)).set 11 (.int 0)).set 13 (.int 0)).set 13 (.int 1)))), (h3, .inr (2, f2)), (h4, .inl (cI, 8192, .inl (upd (k_fill 0 8192 g0) 782 1))), (h5, .inl (cI, 48000, .inl (upd g1 0 0))), (h6, .inl (cI, 48000, .inl (upd g2 0 0)))] := hD
  refine lv_if_ne (tgt := 33) hx hb dX11_decide_27 (by decide) (fun _ => ?_) (fun c9 => absurd c9 (by decide))
  refine lv_aload_n hx hb dX11_decide_33 rfl (lv_at hl 0 rfl) ?_
  refine va_get (D := D) (ref := "IntegerHouse") (ci := 11) (v := .ref h7) (C := RX11) (T := TX11) (N := 15) hx hb hts hin11 hown hK hP 0 rfl rfl 7 (by decide) (hts (.fieldLink RX11 64 "IntegerHouse" "answers" "LIntegerHouse$Answers;") (List.mem_cons_of_mem _ (List.mem_append_left _ (List.mem_append_left _ (List.mem_append_left _ (List.mem_append_left _ (List.mem_append_left _ (List.mem_append_left _ (List.mem_of_getElem? (i := 3) rfl))))))))) (fun _ h9 => h9) e14 dX11_decide_34 ?_
  refine lv_aload_n hx hb dX11_decide_37 rfl (lv_at hl 0 rfl) ?_
  refine va_get (D := D) (ref := "IntegerHouse") (ci := 11) (v := .ref h3) (C := RX11) (T := TX11) (N := 15) hx hb hts hin11 hown hK hP 0 rfl rfl 2 (by decide) (hts (.fieldLink RX11 23 "IntegerHouse" "house" "LIntegerHouse$House;") (List.mem_cons_of_mem _ (List.mem_append_left _ (List.mem_append_left _ (List.mem_append_left _ (List.mem_append_left _ (List.mem_append_left _ (List.mem_append_left _ (List.mem_of_getElem? (i := 2) rfl))))))))) (fun _ h9 => h9) e3 dX11_decide_38 ?_
  refine va_getN (host := "IntegerHouse") (D := D) (ref := "IntegerHouse$House") (ci := 2) (v := .int 0) (C := RX2) (T := TX2) (N := 16) hx hb hts hin2 hown hK hP 7 rfl rfl 13 (by decide) (va_Nw.use rfl (hN.1 ("IntegerHouse", 213, "IntegerHouse$House", "on", "I", "IntegerHouse") (List.mem_of_getElem? (i := 20) rfl))) (fun _ h9 => h9) e4 dX11_decide_41 ?_
  refine lv_iconst (v := 0) hx hb dX11_decide_44 (by decide) ?_
  refine k_cVi (As := [.int 0, .int 0]) (rest := []) (wc := [(h7, .inr (0, f4)), (h2, .inr (6, ((((((((((((((((((((((((((((((f3.set 10 (.int 0)).set 11 (.int 0)).set 12 (.int 1)).set 11 (.int 0)).set 11 (.int 0)).set 11 (.int 0)).set 11 (.int 0)).set 11 (.int 0)).set 11 (.int 0)).set 11 (.int 0)).set 11 (.int 0)).set 11 (.int 0)).set 11 (.int 0)).set 11 (.int 0)).set 11 (.int 0)).set 11 (.int 0)).set 11 (.int 0)).set 11 (.int 0)).set 11 (.int 0)).set 11 (.int 0)).set 11 (.int 0)).set 11 (.int 0)).set 11 (.int 0)).set 11 (.int 0)).set 11 (.int 0)).set 11 (.int 0)).set 11 (.int 0)).set 11 (.int 0)).set 13 (.int 0)).set 13 (.int 1)))), (h6, .inl (cI, 48000, .inl (upd g2 0 0))), (h8, .inl (cI, 3000, .inl g3)), (h9, .inl (cI, 3000, .inl g4)), (h3, .inr (2, f2)), (h10, .inl (cJ, 4, .inr (.inl g5)))]) (wr := [(h0, .inr (11, f0)), (h1, .inr (1, f1)), (h4, .inl (cI, 8192, .inl (upd (k_fill 0 8192 g0) 782 1))), (h5, .inl (cI, 48000, .inl (upd g1 0 0)))]) (w1 := [(h7, .inr (0, ((f4.set 12 (.int 0)).set 11 (.int 0)))), (h2, .inr (6, ((((((((((((((((((((((((((((((f3.set 10 (.int 0)).set 11 (.int 0)).set 12 (.int 1)).set 11 (.int 0)).set 11 (.int 0)).set 11 (.int 0)).set 11 (.int 0)).set 11 (.int 0)).set 11 (.int 0)).set 11 (.int 0)).set 11 (.int 0)).set 11 (.int 0)).set 11 (.int 0)).set 11 (.int 0)).set 11 (.int 0)).set 11 (.int 0)).set 11 (.int 0)).set 11 (.int 0)).set 11 (.int 0)).set 11 (.int 0)).set 11 (.int 0)).set 11 (.int 0)).set 11 (.int 0)).set 11 (.int 0)).set 11 (.int 0)).set 11 (.int 0)).set 11 (.int 0)).set 11 (.int 0)).set 13 (.int 0)).set 13 (.int 1)))), (h6, .inl (cI, 48000, .inl (upd g2 0 0))), (h8, .inl (cI, 3000, .inl (upd g3 0 1))), (h9, .inl (cI, 3000, .inl (upd g4 0 0))), (h3, .inr (2, f2)), (h10, .inl (cJ, 4, .inr (.inl (vp_updL (vp_updL (vp_updL (vp_updL (k_fillL 0 4 g5) 0 0) 1 0) 2 0) 3 0))))]) ⟨hx, hb, hml, hown, hts⟩ hN hX hAE hK hP hD hS hA [2, 6, 10, 3, 4, 7, 5] [0, 1, 8, 9] (ci := 0) rfl rfl rfl rfl (by decide +kernel) (by decide +kernel) (by decide +kernel) (c_X0_tellLeast_0 l E D cI cJ cB cZ h7 f4 h2 (((((((((((((((((((((((((((((((f3.set 10 (.int 0)).set 11 (.int 0)).set 12 (.int 1)).set 11 (.int 0)).set 11 (.int 0)).set 11 (.int 0)).set 11 (.int 0)).set 11 (.int 0)).set 11 (.int 0)).set 11 (.int 0)).set 11 (.int 0)).set 11 (.int 0)).set 11 (.int 0)).set 11 (.int 0)).set 11 (.int 0)).set 11 (.int 0)).set 11 (.int 0)).set 11 (.int 0)).set 11 (.int 0)).set 11 (.int 0)).set 11 (.int 0)).set 11 (.int 0)).set 11 (.int 0)).set 11 (.int 0)).set 11 (.int 0)).set 11 (.int 0)).set 11 (.int 0)).set 11 (.int 0)).set 13 (.int 0)).set 13 (.int 1))) h8 h6 ((upd g2 0 0)) g3 h9 g4 h3 f2 h10 g5 e15 (k_set (k_set (k_ne (by decide) (k_ne (by decide) (k_ne (by decide) (k_ne (by decide) (k_ne (by decide) (k_ne (by decide) (k_ne (by decide) (k_ne (by decide) (k_ne (by decide) (k_ne (by decide) (k_ne (by decide) (k_ne (by decide) (k_ne (by decide) (k_ne (by decide) (k_ne (by decide) (k_ne (by decide) (k_ne (by decide) (k_ne (by decide) (k_ne (by decide) (k_ne (by decide) (k_ne (by decide) (k_ne (by decide) (k_ne (by decide) (k_ne (by decide) (k_ne (by decide) (k_ne (by decide) (k_ne (by decide) (k_ne (by decide) e11)))))))))))))))))))))))))))))) e16 (k_ne (by decide) (k_ne (by decide) (k_ne (by decide) (k_ne (by decide) (k_ne (by decide) (k_ne (by decide) (k_ne (by decide) (k_ne (by decide) (k_ne (by decide) (k_ne (by decide) (k_ne (by decide) (k_ne (by decide) (k_ne (by decide) (k_ne (by decide) (k_ne (by decide) (k_ne (by decide) (k_ne (by decide) (k_ne (by decide) (k_ne (by decide) (k_ne (by decide) (k_ne (by decide) (k_ne (by decide) (k_ne (by decide) (k_ne (by decide) (k_ne (by decide) (k_ne (by decide) (k_ne (by decide) (k_set (k_ne (by decide) (k_ne (by decide) e9)))))))))))))))))))))))))))))) (k_ne (by decide) (k_ne (by decide) (k_ne (by decide) (k_ne (by decide) (k_ne (by decide) (k_ne (by decide) (k_ne (by decide) (k_ne (by decide) (k_ne (by decide) (k_ne (by decide) (k_ne (by decide) (k_ne (by decide) (k_ne (by decide) (k_ne (by decide) (k_ne (by decide) (k_ne (by decide) (k_ne (by decide) (k_ne (by decide) (k_ne (by decide) (k_ne (by decide) (k_ne (by decide) (k_ne (by decide) (k_ne (by decide) (k_ne (by decide) (k_ne (by decide) (k_ne (by decide) (k_ne (by decide) (k_ne (by decide) (k_ne (by decide) (k_ne (by decide) e13)))))))))))))))))))))))))))))) rfl e17 e18 e19 e8 e20 e21) (cwV 2 hts gX11_decide_X0_tellLeast rfl rfl rfl (by decide +kernel) ⟨Nat.le_of_ble_eq_true rfl, Nat.le_of_ble_eq_true rfl⟩) rfl hl.1 (Nat.le_of_ble_eq_true rfl) dX11_decide_45 ⟨Nat.le_of_ble_eq_true rfl, Nat.le_of_ble_eq_true rfl⟩ (fun H locs hP hD hS => ?_)
  have hP : va_P D vwCl [(h0, .inr (11, f0)), (h1, .inr (1, f1)), (h4, .inl (cI, 8192, .inl (upd (k_fill 0 8192 g0) 782 1))), (h5, .inl (cI, 48000, .inl (upd g1 0 0))), (h7, .inr (0, ((f4.set 12 (.int 0)).set 11 (.int 0)))), (h2, .inr (6, ((((((((((((((((((((((((((((((f3.set 10 (.int 0)).set 11 (.int 0)).set 12 (.int 1)).set 11 (.int 0)).set 11 (.int 0)).set 11 (.int 0)).set 11 (.int 0)).set 11 (.int 0)).set 11 (.int 0)).set 11 (.int 0)).set 11 (.int 0)).set 11 (.int 0)).set 11 (.int 0)).set 11 (.int 0)).set 11 (.int 0)).set 11 (.int 0)).set 11 (.int 0)).set 11 (.int 0)).set 11 (.int 0)).set 11 (.int 0)).set 11 (.int 0)).set 11 (.int 0)).set 11 (.int 0)).set 11 (.int 0)).set 11 (.int 0)).set 11 (.int 0)).set 11 (.int 0)).set 11 (.int 0)).set 13 (.int 0)).set 13 (.int 1)))), (h6, .inl (cI, 48000, .inl (upd g2 0 0))), (h8, .inl (cI, 3000, .inl (upd g3 0 1))), (h9, .inl (cI, 3000, .inl (upd g4 0 0))), (h3, .inr (2, f2)), (h10, .inl (cJ, 4, .inr (.inl (vp_updL (vp_updL (vp_updL (vp_updL (k_fillL 0 4 g5) 0 0) 1 0) 2 0) 3 0))))] H := hP
  have hD : va_D A [(h0, .inr (11, f0)), (h1, .inr (1, f1)), (h4, .inl (cI, 8192, .inl (upd (k_fill 0 8192 g0) 782 1))), (h5, .inl (cI, 48000, .inl (upd g1 0 0))), (h7, .inr (0, ((f4.set 12 (.int 0)).set 11 (.int 0)))), (h2, .inr (6, ((((((((((((((((((((((((((((((f3.set 10 (.int 0)).set 11 (.int 0)).set 12 (.int 1)).set 11 (.int 0)).set 11 (.int 0)).set 11 (.int 0)).set 11 (.int 0)).set 11 (.int 0)).set 11 (.int 0)).set 11 (.int 0)).set 11 (.int 0)).set 11 (.int 0)).set 11 (.int 0)).set 11 (.int 0)).set 11 (.int 0)).set 11 (.int 0)).set 11 (.int 0)).set 11 (.int 0)).set 11 (.int 0)).set 11 (.int 0)).set 11 (.int 0)).set 11 (.int 0)).set 11 (.int 0)).set 11 (.int 0)).set 11 (.int 0)).set 11 (.int 0)).set 11 (.int 0)).set 11 (.int 0)).set 13 (.int 0)).set 13 (.int 1)))), (h6, .inl (cI, 48000, .inl (upd g2 0 0))), (h8, .inl (cI, 3000, .inl (upd g3 0 1))), (h9, .inl (cI, 3000, .inl (upd g4 0 0))), (h3, .inr (2, f2)), (h10, .inl (cJ, 4, .inr (.inl (vp_updL (vp_updL (vp_updL (vp_updL (k_fillL 0 4 g5) 0 0) 1 0) 2 0) 3 0))))] := hD
  refine lv_if_eq (tgt := 55) hx hb dX11_decide_48 (by decide) (fun c9 => absurd c9 (by decide)) (fun _ => ?_)
  refine lv_iconst (v := 1) hx hb dX11_decide_51 (by decide) ?_
  refine lv_goto (tgt := 56) hx hb dX11_decide_52 (by decide) ?_
  have hP := hP.sub (ws' := [(h0, .inr (11, f0)), (h1, .inr (1, f1)), (h3, .inr (2, f2)), (h2, .inr (6, ((((((((((((((((((((((((((((((f3.set 10 (.int 0)).set 11 (.int 0)).set 12 (.int 1)).set 11 (.int 0)).set 11 (.int 0)).set 11 (.int 0)).set 11 (.int 0)).set 11 (.int 0)).set 11 (.int 0)).set 11 (.int 0)).set 11 (.int 0)).set 11 (.int 0)).set 11 (.int 0)).set 11 (.int 0)).set 11 (.int 0)).set 11 (.int 0)).set 11 (.int 0)).set 11 (.int 0)).set 11 (.int 0)).set 11 (.int 0)).set 11 (.int 0)).set 11 (.int 0)).set 11 (.int 0)).set 11 (.int 0)).set 11 (.int 0)).set 11 (.int 0)).set 11 (.int 0)).set 11 (.int 0)).set 13 (.int 0)).set 13 (.int 1)))), (h4, .inl (cI, 8192, .inl (upd (k_fill 0 8192 g0) 782 1))), (h5, .inl (cI, 48000, .inl (upd g1 0 0))), (h6, .inl (cI, 48000, .inl (upd g2 0 0))), (h7, .inr (0, ((f4.set 12 (.int 0)).set 11 (.int 0)))), (h8, .inl (cI, 3000, .inl (upd g3 0 1))), (h9, .inl (cI, 3000, .inl (upd g4 0 0))), (h10, .inl (cJ, 4, .inr (.inl (vp_updL (vp_updL (vp_updL (vp_updL (k_fillL 0 4 g5) 0 0) 1 0) 2 0) 3 0))))]) [0, 1, 9, 5, 2, 3, 6, 4, 7, 8, 10] rfl
  have hD := hD.sub (ws' := [(h0, .inr (11, f0)), (h1, .inr (1, f1)), (h3, .inr (2, f2)), (h2, .inr (6, ((((((((((((((((((((((((((((((f3.set 10 (.int 0)).set 11 (.int 0)).set 12 (.int 1)).set 11 (.int 0)).set 11 (.int 0)).set 11 (.int 0)).set 11 (.int 0)).set 11 (.int 0)).set 11 (.int 0)).set 11 (.int 0)).set 11 (.int 0)).set 11 (.int 0)).set 11 (.int 0)).set 11 (.int 0)).set 11 (.int 0)).set 11 (.int 0)).set 11 (.int 0)).set 11 (.int 0)).set 11 (.int 0)).set 11 (.int 0)).set 11 (.int 0)).set 11 (.int 0)).set 11 (.int 0)).set 11 (.int 0)).set 11 (.int 0)).set 11 (.int 0)).set 11 (.int 0)).set 11 (.int 0)).set 13 (.int 0)).set 13 (.int 1)))), (h4, .inl (cI, 8192, .inl (upd (k_fill 0 8192 g0) 782 1))), (h5, .inl (cI, 48000, .inl (upd g1 0 0))), (h6, .inl (cI, 48000, .inl (upd g2 0 0))), (h7, .inr (0, ((f4.set 12 (.int 0)).set 11 (.int 0)))), (h8, .inl (cI, 3000, .inl (upd g3 0 1))), (h9, .inl (cI, 3000, .inl (upd g4 0 0))), (h10, .inl (cJ, 4, .inr (.inl (vp_updL (vp_updL (vp_updL (vp_updL (k_fillL 0 4 g5) 0 0) 1 0) 2 0) 3 0))))]) [0, 1, 9, 5, 2, 3, 6, 4, 7, 8, 10] (by decide +kernel) rfl
  exact W.iret (v := 1) hx hb hr (fun t ht hW => ⟨⟨1, (), rfl, rfl, kB_mk ht hW hP hK hD⟩, hS.F ht⟩) hS.2.2 dX11_decide_56
set_option maxHeartbeats 400000000 in
set_option maxRecDepth 100000 in
theorem c_X12_idle_0 (l : Launch) (E : kE) (D : va_G) (cI cJ cB cZ : ClassId) (h0 : Nat) (f0 : List Value) (h1 : Nat) (g0 : Nat → Int32) (e0 : f0[119]? = some (.int 0)) (e1 : f0[121]? = some (.ref h1)) : kV l E D (kT cI cJ cB cZ) yX12_idle wsX12_idle ({ frames := 0, cells := 0, slots := 0, locals := 0 }) [.ref h0] [(h0, .inr (12, f0)), (h1, .inl (cZ, 26, .inl g0))] (fun _ : Unit => [(h0, .inr (12, (f0.set 119 (.int 0)))), (h1, .inl (cZ, 26, .inl (upd (upd (upd (upd (upd (upd (upd (upd (upd (upd (upd (upd (upd (upd (upd (upd (upd (upd (upd (upd (upd (upd (upd (upd (upd (upd g0 0 0) 1 0) 2 0) 3 0) 4 0) 5 0) 6 0) 7 0) 8 0) 9 0) 10 0) 11 0) 12 0) 13 0) 14 0) 15 0) 16 0) 17 0) 18 0) 19 0) 20 0) 21 0) 22 0) 23 0) 24 0) 25 0)))]) 0 0 := by
  intro sz
  refine Met.ofW (cc := cX12_idle) (maxL := 2) (ret := none) (by decide) rfl ?_
  intro p e s m args below meth c s₁ B hml hv
  obtain ⟨rfl, hsz, hP, hK, hD0, hN, hX⟩ := hv
  have hx := B.exec
  have hb := B.bytes
  have hr := B.returns
  have hts := atoms_spec (ws := wsX12_idle) B.pre
  have hown : s.vm.findClass RX12 = some m.cls := findClass_of_methodNamed B.named
  have hlocks := B.notSynchronized
  have hin12 : ∀ w ∈ wsX120, w ∈ wsX12_idle := (fun w h => (List.mem_cons_of_mem _ (List.mem_append_right _ h)))
  subst hsz
  have hD := hD0.self (sz := s.heap.size)
  have hAE := k_AE hD0 hX
  generalize hAe : va_A [(h0, .inr (12, f0)), (h1, .inl (cZ, 26, .inl g0))] s.heap.size = A at hD hAE ⊢
  have hA : ∀ q : Nat, s.heap.size ≤ q → A q := fun q h => by rw [← hAe]; exact Or.inr h
  have hS : va_S A s.heap s.heap [] := va_S.rf
  have hP : va_P D vwCl [(h0, .inr (12, f0)), (h1, .inl (cZ, 26, .inl g0))] s.heap := hP
  have hl := lv_entry ([.ref h0] : List Value) (n := 2) (Nat.le_of_ble_eq_true rfl)
  rw [lg_entry_eq]
  generalize (lg_sl ([.ref h0]) ++ List.replicate (2 - (lg_sl ([.ref h0])).length) Slot.unset).toArray = ls at hl ⊢
  have hl : lv_has ls 2 [(0, .ref h0)] := hl
  refine lv_aload_n hx hb dX12_idle_0 rfl (lv_at hl 0 rfl) ?_
  refine lv_iconst (v := 0) hx hb dX12_idle_1 (by decide) ?_
  refine va_put (D := D) (ref := "IntegerHouseModel") (ci := 12) (v := .int 0) (ty := .int) (C := RX12) (T := TX12) (N := 195) hx hb hts hin12 tyX12 tyX12_ok nmX12 hown hK hP hD hS 0 rfl rfl 119 (by decide) (hts (.fieldLink RX12 928 "IntegerHouseModel" "work" "I") (List.mem_cons_of_mem _ (List.mem_append_left _ (List.mem_of_getElem? (i := 0) rfl)))) (fun _ h9 => h9) rfl (by decide +kernel) rfl rfl (k_len e0) dX12_idle_2 (fun H locs hP hD hS => ?_)
  have hP : va_P D vwCl [(h0, .inr (12, (f0.set 119 (.int 0)))), (h1, .inl (cZ, 26, .inl g0))] H := hP
  have hD : va_D A [(h0, .inr (12, (f0.set 119 (.int 0)))), (h1, .inl (cZ, 26, .inl g0))] := hD
  refine lv_iconst (v := 0) hx hb dX12_idle_5 (by decide) ?_
  refine lv_istore_n (lv' := [(1, .int 0), (0, .ref h0)]) hx hb dX12_idle_6 rfl hl (by decide) rfl (fun ls hl => ?_)
  refine lv_iload_n hx hb dX12_idle_7 rfl (lv_at hl 0 rfl) ?_
  refine lv_bipush (v := 25) hx hb dX12_idle_8 (by decide) ?_
  refine lv_icmp_gt (tgt := 26) hx hb dX12_idle_10 (by decide) (fun c9 => absurd c9 (by decide)) (fun _ => ?_)
  refine lv_aload_n hx hb dX12_idle_13 rfl (lv_at hl 1 rfl) ?_
  refine va_get (D := D) (ref := "IntegerHouseModel") (ci := 12) (v := .ref h1) (C := RX12) (T := TX12) (N := 195) hx hb hts hin12 hown hK hP 0 rfl rfl 121 (by decide) (hts (.fieldLink RX12 304 "IntegerHouseModel" "needed" "[Z") (List.mem_cons_of_mem _ (List.mem_append_left _ (List.mem_of_getElem? (i := 1) rfl)))) (fun _ h9 => h9) (k_ne (by decide) e1) dX12_idle_14 ?_
  refine lv_iload_n hx hb dX12_idle_17 rfl (lv_at hl 0 rfl) ?_
  refine lv_iconst (v := 0) hx hb dX12_idle_18 (by decide) ?_
  refine va_zast hx hb hK hP hD hS 1 3 rfl rfl (k_in (by decide)) dX12_idle_19 (fun H locs hP hD hS => ?_)
  have hP : va_P D vwCl [(h0, .inr (12, (f0.set 119 (.int 0)))), (h1, .inl (cZ, 26, .inl (upd g0 0 0)))] H := hP
  have hD : va_D A [(h0, .inr (12, (f0.set 119 (.int 0)))), (h1, .inl (cZ, 26, .inl (upd g0 0 0)))] := hD
  refine lv_iinc (v := 1) (lv' := [(1, .int 1), (0, .ref h0)]) hx hb dX12_idle_20 hl (k := 0) rfl (by decide) (by decide) rfl (fun ls hl => ?_)
  refine lv_goto (tgt := 7) hx hb dX12_idle_23 (by decide) ?_
  refine lv_iload_n hx hb dX12_idle_7 rfl (lv_at hl 0 rfl) ?_
  refine lv_bipush (v := 25) hx hb dX12_idle_8 (by decide) ?_
  refine lv_icmp_gt (tgt := 26) hx hb dX12_idle_10 (by decide) (fun c9 => absurd c9 (by decide)) (fun _ => ?_)
  refine lv_aload_n hx hb dX12_idle_13 rfl (lv_at hl 1 rfl) ?_
  refine va_get (D := D) (ref := "IntegerHouseModel") (ci := 12) (v := .ref h1) (C := RX12) (T := TX12) (N := 195) hx hb hts hin12 hown hK hP 0 rfl rfl 121 (by decide) (hts (.fieldLink RX12 304 "IntegerHouseModel" "needed" "[Z") (List.mem_cons_of_mem _ (List.mem_append_left _ (List.mem_of_getElem? (i := 1) rfl)))) (fun _ h9 => h9) (k_ne (by decide) e1) dX12_idle_14 ?_
  refine lv_iload_n hx hb dX12_idle_17 rfl (lv_at hl 0 rfl) ?_
  refine lv_iconst (v := 0) hx hb dX12_idle_18 (by decide) ?_
  refine va_zast hx hb hK hP hD hS 1 3 rfl rfl (k_in (by decide)) dX12_idle_19 (fun H locs hP hD hS => ?_)
  have hP : va_P D vwCl [(h0, .inr (12, (f0.set 119 (.int 0)))), (h1, .inl (cZ, 26, .inl (upd (upd g0 0 0) 1 0)))] H := hP
  have hD : va_D A [(h0, .inr (12, (f0.set 119 (.int 0)))), (h1, .inl (cZ, 26, .inl (upd (upd g0 0 0) 1 0)))] := hD
  refine lv_iinc (v := 2) (lv' := [(1, .int 2), (0, .ref h0)]) hx hb dX12_idle_20 hl (k := 0) rfl (by decide) (by decide) rfl (fun ls hl => ?_)
  refine lv_goto (tgt := 7) hx hb dX12_idle_23 (by decide) ?_
  refine lv_iload_n hx hb dX12_idle_7 rfl (lv_at hl 0 rfl) ?_
  refine lv_bipush (v := 25) hx hb dX12_idle_8 (by decide) ?_
  refine lv_icmp_gt (tgt := 26) hx hb dX12_idle_10 (by decide) (fun c9 => absurd c9 (by decide)) (fun _ => ?_)
  refine lv_aload_n hx hb dX12_idle_13 rfl (lv_at hl 1 rfl) ?_
  refine va_get (D := D) (ref := "IntegerHouseModel") (ci := 12) (v := .ref h1) (C := RX12) (T := TX12) (N := 195) hx hb hts hin12 hown hK hP 0 rfl rfl 121 (by decide) (hts (.fieldLink RX12 304 "IntegerHouseModel" "needed" "[Z") (List.mem_cons_of_mem _ (List.mem_append_left _ (List.mem_of_getElem? (i := 1) rfl)))) (fun _ h9 => h9) (k_ne (by decide) e1) dX12_idle_14 ?_
  refine lv_iload_n hx hb dX12_idle_17 rfl (lv_at hl 0 rfl) ?_
  refine lv_iconst (v := 0) hx hb dX12_idle_18 (by decide) ?_
  refine va_zast hx hb hK hP hD hS 1 3 rfl rfl (k_in (by decide)) dX12_idle_19 (fun H locs hP hD hS => ?_)
  have hP : va_P D vwCl [(h0, .inr (12, (f0.set 119 (.int 0)))), (h1, .inl (cZ, 26, .inl (upd (upd (upd g0 0 0) 1 0) 2 0)))] H := hP
  have hD : va_D A [(h0, .inr (12, (f0.set 119 (.int 0)))), (h1, .inl (cZ, 26, .inl (upd (upd (upd g0 0 0) 1 0) 2 0)))] := hD
  refine lv_iinc (v := 3) (lv' := [(1, .int 3), (0, .ref h0)]) hx hb dX12_idle_20 hl (k := 0) rfl (by decide) (by decide) rfl (fun ls hl => ?_)
  refine lv_goto (tgt := 7) hx hb dX12_idle_23 (by decide) ?_
  refine lv_iload_n hx hb dX12_idle_7 rfl (lv_at hl 0 rfl) ?_
  refine lv_bipush (v := 25) hx hb dX12_idle_8 (by decide) ?_
  refine lv_icmp_gt (tgt := 26) hx hb dX12_idle_10 (by decide) (fun c9 => absurd c9 (by decide)) (fun _ => ?_)
  refine lv_aload_n hx hb dX12_idle_13 rfl (lv_at hl 1 rfl) ?_
  refine va_get (D := D) (ref := "IntegerHouseModel") (ci := 12) (v := .ref h1) (C := RX12) (T := TX12) (N := 195) hx hb hts hin12 hown hK hP 0 rfl rfl 121 (by decide) (hts (.fieldLink RX12 304 "IntegerHouseModel" "needed" "[Z") (List.mem_cons_of_mem _ (List.mem_append_left _ (List.mem_of_getElem? (i := 1) rfl)))) (fun _ h9 => h9) (k_ne (by decide) e1) dX12_idle_14 ?_
  refine lv_iload_n hx hb dX12_idle_17 rfl (lv_at hl 0 rfl) ?_
  refine lv_iconst (v := 0) hx hb dX12_idle_18 (by decide) ?_
  refine va_zast hx hb hK hP hD hS 1 3 rfl rfl (k_in (by decide)) dX12_idle_19 (fun H locs hP hD hS => ?_)
  have hP : va_P D vwCl [(h0, .inr (12, (f0.set 119 (.int 0)))), (h1, .inl (cZ, 26, .inl (upd (upd (upd (upd g0 0 0) 1 0) 2 0) 3 0)))] H := hP
  have hD : va_D A [(h0, .inr (12, (f0.set 119 (.int 0)))), (h1, .inl (cZ, 26, .inl (upd (upd (upd (upd g0 0 0) 1 0) 2 0) 3 0)))] := hD
  refine lv_iinc (v := 4) (lv' := [(1, .int 4), (0, .ref h0)]) hx hb dX12_idle_20 hl (k := 0) rfl (by decide) (by decide) rfl (fun ls hl => ?_)
  refine lv_goto (tgt := 7) hx hb dX12_idle_23 (by decide) ?_
  refine lv_iload_n hx hb dX12_idle_7 rfl (lv_at hl 0 rfl) ?_
  refine lv_bipush (v := 25) hx hb dX12_idle_8 (by decide) ?_
  refine lv_icmp_gt (tgt := 26) hx hb dX12_idle_10 (by decide) (fun c9 => absurd c9 (by decide)) (fun _ => ?_)
  refine lv_aload_n hx hb dX12_idle_13 rfl (lv_at hl 1 rfl) ?_
  refine va_get (D := D) (ref := "IntegerHouseModel") (ci := 12) (v := .ref h1) (C := RX12) (T := TX12) (N := 195) hx hb hts hin12 hown hK hP 0 rfl rfl 121 (by decide) (hts (.fieldLink RX12 304 "IntegerHouseModel" "needed" "[Z") (List.mem_cons_of_mem _ (List.mem_append_left _ (List.mem_of_getElem? (i := 1) rfl)))) (fun _ h9 => h9) (k_ne (by decide) e1) dX12_idle_14 ?_
  refine lv_iload_n hx hb dX12_idle_17 rfl (lv_at hl 0 rfl) ?_
  refine lv_iconst (v := 0) hx hb dX12_idle_18 (by decide) ?_
  refine va_zast hx hb hK hP hD hS 1 3 rfl rfl (k_in (by decide)) dX12_idle_19 (fun H locs hP hD hS => ?_)
  have hP : va_P D vwCl [(h0, .inr (12, (f0.set 119 (.int 0)))), (h1, .inl (cZ, 26, .inl (upd (upd (upd (upd (upd g0 0 0) 1 0) 2 0) 3 0) 4 0)))] H := hP
  have hD : va_D A [(h0, .inr (12, (f0.set 119 (.int 0)))), (h1, .inl (cZ, 26, .inl (upd (upd (upd (upd (upd g0 0 0) 1 0) 2 0) 3 0) 4 0)))] := hD
  refine lv_iinc (v := 5) (lv' := [(1, .int 5), (0, .ref h0)]) hx hb dX12_idle_20 hl (k := 0) rfl (by decide) (by decide) rfl (fun ls hl => ?_)
  refine lv_goto (tgt := 7) hx hb dX12_idle_23 (by decide) ?_
  refine lv_iload_n hx hb dX12_idle_7 rfl (lv_at hl 0 rfl) ?_
  refine lv_bipush (v := 25) hx hb dX12_idle_8 (by decide) ?_
  refine lv_icmp_gt (tgt := 26) hx hb dX12_idle_10 (by decide) (fun c9 => absurd c9 (by decide)) (fun _ => ?_)
  refine lv_aload_n hx hb dX12_idle_13 rfl (lv_at hl 1 rfl) ?_
  refine va_get (D := D) (ref := "IntegerHouseModel") (ci := 12) (v := .ref h1) (C := RX12) (T := TX12) (N := 195) hx hb hts hin12 hown hK hP 0 rfl rfl 121 (by decide) (hts (.fieldLink RX12 304 "IntegerHouseModel" "needed" "[Z") (List.mem_cons_of_mem _ (List.mem_append_left _ (List.mem_of_getElem? (i := 1) rfl)))) (fun _ h9 => h9) (k_ne (by decide) e1) dX12_idle_14 ?_
  refine lv_iload_n hx hb dX12_idle_17 rfl (lv_at hl 0 rfl) ?_
  refine lv_iconst (v := 0) hx hb dX12_idle_18 (by decide) ?_
  refine va_zast hx hb hK hP hD hS 1 3 rfl rfl (k_in (by decide)) dX12_idle_19 (fun H locs hP hD hS => ?_)
  have hP : va_P D vwCl [(h0, .inr (12, (f0.set 119 (.int 0)))), (h1, .inl (cZ, 26, .inl (upd (upd (upd (upd (upd (upd g0 0 0) 1 0) 2 0) 3 0) 4 0) 5 0)))] H := hP
  have hD : va_D A [(h0, .inr (12, (f0.set 119 (.int 0)))), (h1, .inl (cZ, 26, .inl (upd (upd (upd (upd (upd (upd g0 0 0) 1 0) 2 0) 3 0) 4 0) 5 0)))] := hD
  refine lv_iinc (v := 6) (lv' := [(1, .int 6), (0, .ref h0)]) hx hb dX12_idle_20 hl (k := 0) rfl (by decide) (by decide) rfl (fun ls hl => ?_)
  refine lv_goto (tgt := 7) hx hb dX12_idle_23 (by decide) ?_
  refine lv_iload_n hx hb dX12_idle_7 rfl (lv_at hl 0 rfl) ?_
  refine lv_bipush (v := 25) hx hb dX12_idle_8 (by decide) ?_
  refine lv_icmp_gt (tgt := 26) hx hb dX12_idle_10 (by decide) (fun c9 => absurd c9 (by decide)) (fun _ => ?_)
  refine lv_aload_n hx hb dX12_idle_13 rfl (lv_at hl 1 rfl) ?_
  refine va_get (D := D) (ref := "IntegerHouseModel") (ci := 12) (v := .ref h1) (C := RX12) (T := TX12) (N := 195) hx hb hts hin12 hown hK hP 0 rfl rfl 121 (by decide) (hts (.fieldLink RX12 304 "IntegerHouseModel" "needed" "[Z") (List.mem_cons_of_mem _ (List.mem_append_left _ (List.mem_of_getElem? (i := 1) rfl)))) (fun _ h9 => h9) (k_ne (by decide) e1) dX12_idle_14 ?_
  refine lv_iload_n hx hb dX12_idle_17 rfl (lv_at hl 0 rfl) ?_
  refine lv_iconst (v := 0) hx hb dX12_idle_18 (by decide) ?_
  refine va_zast hx hb hK hP hD hS 1 3 rfl rfl (k_in (by decide)) dX12_idle_19 (fun H locs hP hD hS => ?_)
  have hP : va_P D vwCl [(h0, .inr (12, (f0.set 119 (.int 0)))), (h1, .inl (cZ, 26, .inl (upd (upd (upd (upd (upd (upd (upd g0 0 0) 1 0) 2 0) 3 0) 4 0) 5 0) 6 0)))] H := hP
  have hD : va_D A [(h0, .inr (12, (f0.set 119 (.int 0)))), (h1, .inl (cZ, 26, .inl (upd (upd (upd (upd (upd (upd (upd g0 0 0) 1 0) 2 0) 3 0) 4 0) 5 0) 6 0)))] := hD
  refine lv_iinc (v := 7) (lv' := [(1, .int 7), (0, .ref h0)]) hx hb dX12_idle_20 hl (k := 0) rfl (by decide) (by decide) rfl (fun ls hl => ?_)
  refine lv_goto (tgt := 7) hx hb dX12_idle_23 (by decide) ?_
  refine lv_iload_n hx hb dX12_idle_7 rfl (lv_at hl 0 rfl) ?_
  refine lv_bipush (v := 25) hx hb dX12_idle_8 (by decide) ?_
  refine lv_icmp_gt (tgt := 26) hx hb dX12_idle_10 (by decide) (fun c9 => absurd c9 (by decide)) (fun _ => ?_)
  refine lv_aload_n hx hb dX12_idle_13 rfl (lv_at hl 1 rfl) ?_
  refine va_get (D := D) (ref := "IntegerHouseModel") (ci := 12) (v := .ref h1) (C := RX12) (T := TX12) (N := 195) hx hb hts hin12 hown hK hP 0 rfl rfl 121 (by decide) (hts (.fieldLink RX12 304 "IntegerHouseModel" "needed" "[Z") (List.mem_cons_of_mem _ (List.mem_append_left _ (List.mem_of_getElem? (i := 1) rfl)))) (fun _ h9 => h9) (k_ne (by decide) e1) dX12_idle_14 ?_
  refine lv_iload_n hx hb dX12_idle_17 rfl (lv_at hl 0 rfl) ?_
  refine lv_iconst (v := 0) hx hb dX12_idle_18 (by decide) ?_
  refine va_zast hx hb hK hP hD hS 1 3 rfl rfl (k_in (by decide)) dX12_idle_19 (fun H locs hP hD hS => ?_)
  have hP : va_P D vwCl [(h0, .inr (12, (f0.set 119 (.int 0)))), (h1, .inl (cZ, 26, .inl (upd (upd (upd (upd (upd (upd (upd (upd g0 0 0) 1 0) 2 0) 3 0) 4 0) 5 0) 6 0) 7 0)))] H := hP
  have hD : va_D A [(h0, .inr (12, (f0.set 119 (.int 0)))), (h1, .inl (cZ, 26, .inl (upd (upd (upd (upd (upd (upd (upd (upd g0 0 0) 1 0) 2 0) 3 0) 4 0) 5 0) 6 0) 7 0)))] := hD
  refine lv_iinc (v := 8) (lv' := [(1, .int 8), (0, .ref h0)]) hx hb dX12_idle_20 hl (k := 0) rfl (by decide) (by decide) rfl (fun ls hl => ?_)
  refine lv_goto (tgt := 7) hx hb dX12_idle_23 (by decide) ?_
  refine lv_iload_n hx hb dX12_idle_7 rfl (lv_at hl 0 rfl) ?_
  refine lv_bipush (v := 25) hx hb dX12_idle_8 (by decide) ?_
  refine lv_icmp_gt (tgt := 26) hx hb dX12_idle_10 (by decide) (fun c9 => absurd c9 (by decide)) (fun _ => ?_)
  refine lv_aload_n hx hb dX12_idle_13 rfl (lv_at hl 1 rfl) ?_
  refine va_get (D := D) (ref := "IntegerHouseModel") (ci := 12) (v := .ref h1) (C := RX12) (T := TX12) (N := 195) hx hb hts hin12 hown hK hP 0 rfl rfl 121 (by decide) (hts (.fieldLink RX12 304 "IntegerHouseModel" "needed" "[Z") (List.mem_cons_of_mem _ (List.mem_append_left _ (List.mem_of_getElem? (i := 1) rfl)))) (fun _ h9 => h9) (k_ne (by decide) e1) dX12_idle_14 ?_
  refine lv_iload_n hx hb dX12_idle_17 rfl (lv_at hl 0 rfl) ?_
  refine lv_iconst (v := 0) hx hb dX12_idle_18 (by decide) ?_
  refine va_zast hx hb hK hP hD hS 1 3 rfl rfl (k_in (by decide)) dX12_idle_19 (fun H locs hP hD hS => ?_)
  have hP : va_P D vwCl [(h0, .inr (12, (f0.set 119 (.int 0)))), (h1, .inl (cZ, 26, .inl (upd (upd (upd (upd (upd (upd (upd (upd (upd g0 0 0) 1 0) 2 0) 3 0) 4 0) 5 0) 6 0) 7 0) 8 0)))] H := hP
  have hD : va_D A [(h0, .inr (12, (f0.set 119 (.int 0)))), (h1, .inl (cZ, 26, .inl (upd (upd (upd (upd (upd (upd (upd (upd (upd g0 0 0) 1 0) 2 0) 3 0) 4 0) 5 0) 6 0) 7 0) 8 0)))] := hD
  refine lv_iinc (v := 9) (lv' := [(1, .int 9), (0, .ref h0)]) hx hb dX12_idle_20 hl (k := 0) rfl (by decide) (by decide) rfl (fun ls hl => ?_)
  refine lv_goto (tgt := 7) hx hb dX12_idle_23 (by decide) ?_
  refine lv_iload_n hx hb dX12_idle_7 rfl (lv_at hl 0 rfl) ?_
  refine lv_bipush (v := 25) hx hb dX12_idle_8 (by decide) ?_
  refine lv_icmp_gt (tgt := 26) hx hb dX12_idle_10 (by decide) (fun c9 => absurd c9 (by decide)) (fun _ => ?_)
  refine lv_aload_n hx hb dX12_idle_13 rfl (lv_at hl 1 rfl) ?_
  refine va_get (D := D) (ref := "IntegerHouseModel") (ci := 12) (v := .ref h1) (C := RX12) (T := TX12) (N := 195) hx hb hts hin12 hown hK hP 0 rfl rfl 121 (by decide) (hts (.fieldLink RX12 304 "IntegerHouseModel" "needed" "[Z") (List.mem_cons_of_mem _ (List.mem_append_left _ (List.mem_of_getElem? (i := 1) rfl)))) (fun _ h9 => h9) (k_ne (by decide) e1) dX12_idle_14 ?_
  refine lv_iload_n hx hb dX12_idle_17 rfl (lv_at hl 0 rfl) ?_
  refine lv_iconst (v := 0) hx hb dX12_idle_18 (by decide) ?_
  refine va_zast hx hb hK hP hD hS 1 3 rfl rfl (k_in (by decide)) dX12_idle_19 (fun H locs hP hD hS => ?_)
  have hP : va_P D vwCl [(h0, .inr (12, (f0.set 119 (.int 0)))), (h1, .inl (cZ, 26, .inl (upd (upd (upd (upd (upd (upd (upd (upd (upd (upd g0 0 0) 1 0) 2 0) 3 0) 4 0) 5 0) 6 0) 7 0) 8 0) 9 0)))] H := hP
  have hD : va_D A [(h0, .inr (12, (f0.set 119 (.int 0)))), (h1, .inl (cZ, 26, .inl (upd (upd (upd (upd (upd (upd (upd (upd (upd (upd g0 0 0) 1 0) 2 0) 3 0) 4 0) 5 0) 6 0) 7 0) 8 0) 9 0)))] := hD
  refine lv_iinc (v := 10) (lv' := [(1, .int 10), (0, .ref h0)]) hx hb dX12_idle_20 hl (k := 0) rfl (by decide) (by decide) rfl (fun ls hl => ?_)
  refine lv_goto (tgt := 7) hx hb dX12_idle_23 (by decide) ?_
  refine lv_iload_n hx hb dX12_idle_7 rfl (lv_at hl 0 rfl) ?_
  refine lv_bipush (v := 25) hx hb dX12_idle_8 (by decide) ?_
  refine lv_icmp_gt (tgt := 26) hx hb dX12_idle_10 (by decide) (fun c9 => absurd c9 (by decide)) (fun _ => ?_)
  refine lv_aload_n hx hb dX12_idle_13 rfl (lv_at hl 1 rfl) ?_
  refine va_get (D := D) (ref := "IntegerHouseModel") (ci := 12) (v := .ref h1) (C := RX12) (T := TX12) (N := 195) hx hb hts hin12 hown hK hP 0 rfl rfl 121 (by decide) (hts (.fieldLink RX12 304 "IntegerHouseModel" "needed" "[Z") (List.mem_cons_of_mem _ (List.mem_append_left _ (List.mem_of_getElem? (i := 1) rfl)))) (fun _ h9 => h9) (k_ne (by decide) e1) dX12_idle_14 ?_
  refine lv_iload_n hx hb dX12_idle_17 rfl (lv_at hl 0 rfl) ?_
  refine lv_iconst (v := 0) hx hb dX12_idle_18 (by decide) ?_
  refine va_zast hx hb hK hP hD hS 1 3 rfl rfl (k_in (by decide)) dX12_idle_19 (fun H locs hP hD hS => ?_)
  have hP : va_P D vwCl [(h0, .inr (12, (f0.set 119 (.int 0)))), (h1, .inl (cZ, 26, .inl (upd (upd (upd (upd (upd (upd (upd (upd (upd (upd (upd g0 0 0) 1 0) 2 0) 3 0) 4 0) 5 0) 6 0) 7 0) 8 0) 9 0) 10 0)))] H := hP
  have hD : va_D A [(h0, .inr (12, (f0.set 119 (.int 0)))), (h1, .inl (cZ, 26, .inl (upd (upd (upd (upd (upd (upd (upd (upd (upd (upd (upd g0 0 0) 1 0) 2 0) 3 0) 4 0) 5 0) 6 0) 7 0) 8 0) 9 0) 10 0)))] := hD
  refine lv_iinc (v := 11) (lv' := [(1, .int 11), (0, .ref h0)]) hx hb dX12_idle_20 hl (k := 0) rfl (by decide) (by decide) rfl (fun ls hl => ?_)
  refine lv_goto (tgt := 7) hx hb dX12_idle_23 (by decide) ?_
  refine lv_iload_n hx hb dX12_idle_7 rfl (lv_at hl 0 rfl) ?_
  refine lv_bipush (v := 25) hx hb dX12_idle_8 (by decide) ?_
  refine lv_icmp_gt (tgt := 26) hx hb dX12_idle_10 (by decide) (fun c9 => absurd c9 (by decide)) (fun _ => ?_)
  refine lv_aload_n hx hb dX12_idle_13 rfl (lv_at hl 1 rfl) ?_
  refine va_get (D := D) (ref := "IntegerHouseModel") (ci := 12) (v := .ref h1) (C := RX12) (T := TX12) (N := 195) hx hb hts hin12 hown hK hP 0 rfl rfl 121 (by decide) (hts (.fieldLink RX12 304 "IntegerHouseModel" "needed" "[Z") (List.mem_cons_of_mem _ (List.mem_append_left _ (List.mem_of_getElem? (i := 1) rfl)))) (fun _ h9 => h9) (k_ne (by decide) e1) dX12_idle_14 ?_
  refine lv_iload_n hx hb dX12_idle_17 rfl (lv_at hl 0 rfl) ?_
  refine lv_iconst (v := 0) hx hb dX12_idle_18 (by decide) ?_
  refine va_zast hx hb hK hP hD hS 1 3 rfl rfl (k_in (by decide)) dX12_idle_19 (fun H locs hP hD hS => ?_)
  have hP : va_P D vwCl [(h0, .inr (12, (f0.set 119 (.int 0)))), (h1, .inl (cZ, 26, .inl (upd (upd (upd (upd (upd (upd (upd (upd (upd (upd (upd (upd g0 0 0) 1 0) 2 0) 3 0) 4 0) 5 0) 6 0) 7 0) 8 0) 9 0) 10 0) 11 0)))] H := hP
  have hD : va_D A [(h0, .inr (12, (f0.set 119 (.int 0)))), (h1, .inl (cZ, 26, .inl (upd (upd (upd (upd (upd (upd (upd (upd (upd (upd (upd (upd g0 0 0) 1 0) 2 0) 3 0) 4 0) 5 0) 6 0) 7 0) 8 0) 9 0) 10 0) 11 0)))] := hD
  refine lv_iinc (v := 12) (lv' := [(1, .int 12), (0, .ref h0)]) hx hb dX12_idle_20 hl (k := 0) rfl (by decide) (by decide) rfl (fun ls hl => ?_)
  refine lv_goto (tgt := 7) hx hb dX12_idle_23 (by decide) ?_
  refine lv_iload_n hx hb dX12_idle_7 rfl (lv_at hl 0 rfl) ?_
  refine lv_bipush (v := 25) hx hb dX12_idle_8 (by decide) ?_
  refine lv_icmp_gt (tgt := 26) hx hb dX12_idle_10 (by decide) (fun c9 => absurd c9 (by decide)) (fun _ => ?_)
  refine lv_aload_n hx hb dX12_idle_13 rfl (lv_at hl 1 rfl) ?_
  refine va_get (D := D) (ref := "IntegerHouseModel") (ci := 12) (v := .ref h1) (C := RX12) (T := TX12) (N := 195) hx hb hts hin12 hown hK hP 0 rfl rfl 121 (by decide) (hts (.fieldLink RX12 304 "IntegerHouseModel" "needed" "[Z") (List.mem_cons_of_mem _ (List.mem_append_left _ (List.mem_of_getElem? (i := 1) rfl)))) (fun _ h9 => h9) (k_ne (by decide) e1) dX12_idle_14 ?_
  refine lv_iload_n hx hb dX12_idle_17 rfl (lv_at hl 0 rfl) ?_
  refine lv_iconst (v := 0) hx hb dX12_idle_18 (by decide) ?_
  refine va_zast hx hb hK hP hD hS 1 3 rfl rfl (k_in (by decide)) dX12_idle_19 (fun H locs hP hD hS => ?_)
  have hP : va_P D vwCl [(h0, .inr (12, (f0.set 119 (.int 0)))), (h1, .inl (cZ, 26, .inl (upd (upd (upd (upd (upd (upd (upd (upd (upd (upd (upd (upd (upd g0 0 0) 1 0) 2 0) 3 0) 4 0) 5 0) 6 0) 7 0) 8 0) 9 0) 10 0) 11 0) 12 0)))] H := hP
  have hD : va_D A [(h0, .inr (12, (f0.set 119 (.int 0)))), (h1, .inl (cZ, 26, .inl (upd (upd (upd (upd (upd (upd (upd (upd (upd (upd (upd (upd (upd g0 0 0) 1 0) 2 0) 3 0) 4 0) 5 0) 6 0) 7 0) 8 0) 9 0) 10 0) 11 0) 12 0)))] := hD
  refine lv_iinc (v := 13) (lv' := [(1, .int 13), (0, .ref h0)]) hx hb dX12_idle_20 hl (k := 0) rfl (by decide) (by decide) rfl (fun ls hl => ?_)
  refine lv_goto (tgt := 7) hx hb dX12_idle_23 (by decide) ?_
  refine lv_iload_n hx hb dX12_idle_7 rfl (lv_at hl 0 rfl) ?_
  refine lv_bipush (v := 25) hx hb dX12_idle_8 (by decide) ?_
  refine lv_icmp_gt (tgt := 26) hx hb dX12_idle_10 (by decide) (fun c9 => absurd c9 (by decide)) (fun _ => ?_)
  refine lv_aload_n hx hb dX12_idle_13 rfl (lv_at hl 1 rfl) ?_
  refine va_get (D := D) (ref := "IntegerHouseModel") (ci := 12) (v := .ref h1) (C := RX12) (T := TX12) (N := 195) hx hb hts hin12 hown hK hP 0 rfl rfl 121 (by decide) (hts (.fieldLink RX12 304 "IntegerHouseModel" "needed" "[Z") (List.mem_cons_of_mem _ (List.mem_append_left _ (List.mem_of_getElem? (i := 1) rfl)))) (fun _ h9 => h9) (k_ne (by decide) e1) dX12_idle_14 ?_
  refine lv_iload_n hx hb dX12_idle_17 rfl (lv_at hl 0 rfl) ?_
  refine lv_iconst (v := 0) hx hb dX12_idle_18 (by decide) ?_
  refine va_zast hx hb hK hP hD hS 1 3 rfl rfl (k_in (by decide)) dX12_idle_19 (fun H locs hP hD hS => ?_)
  have hP : va_P D vwCl [(h0, .inr (12, (f0.set 119 (.int 0)))), (h1, .inl (cZ, 26, .inl (upd (upd (upd (upd (upd (upd (upd (upd (upd (upd (upd (upd (upd (upd g0 0 0) 1 0) 2 0) 3 0) 4 0) 5 0) 6 0) 7 0) 8 0) 9 0) 10 0) 11 0) 12 0) 13 0)))] H := hP
  have hD : va_D A [(h0, .inr (12, (f0.set 119 (.int 0)))), (h1, .inl (cZ, 26, .inl (upd (upd (upd (upd (upd (upd (upd (upd (upd (upd (upd (upd (upd (upd g0 0 0) 1 0) 2 0) 3 0) 4 0) 5 0) 6 0) 7 0) 8 0) 9 0) 10 0) 11 0) 12 0) 13 0)))] := hD
  refine lv_iinc (v := 14) (lv' := [(1, .int 14), (0, .ref h0)]) hx hb dX12_idle_20 hl (k := 0) rfl (by decide) (by decide) rfl (fun ls hl => ?_)
  refine lv_goto (tgt := 7) hx hb dX12_idle_23 (by decide) ?_
  refine lv_iload_n hx hb dX12_idle_7 rfl (lv_at hl 0 rfl) ?_
  refine lv_bipush (v := 25) hx hb dX12_idle_8 (by decide) ?_
  refine lv_icmp_gt (tgt := 26) hx hb dX12_idle_10 (by decide) (fun c9 => absurd c9 (by decide)) (fun _ => ?_)
  refine lv_aload_n hx hb dX12_idle_13 rfl (lv_at hl 1 rfl) ?_
  refine va_get (D := D) (ref := "IntegerHouseModel") (ci := 12) (v := .ref h1) (C := RX12) (T := TX12) (N := 195) hx hb hts hin12 hown hK hP 0 rfl rfl 121 (by decide) (hts (.fieldLink RX12 304 "IntegerHouseModel" "needed" "[Z") (List.mem_cons_of_mem _ (List.mem_append_left _ (List.mem_of_getElem? (i := 1) rfl)))) (fun _ h9 => h9) (k_ne (by decide) e1) dX12_idle_14 ?_
  refine lv_iload_n hx hb dX12_idle_17 rfl (lv_at hl 0 rfl) ?_
  refine lv_iconst (v := 0) hx hb dX12_idle_18 (by decide) ?_
  refine va_zast hx hb hK hP hD hS 1 3 rfl rfl (k_in (by decide)) dX12_idle_19 (fun H locs hP hD hS => ?_)
  have hP : va_P D vwCl [(h0, .inr (12, (f0.set 119 (.int 0)))), (h1, .inl (cZ, 26, .inl (upd (upd (upd (upd (upd (upd (upd (upd (upd (upd (upd (upd (upd (upd (upd g0 0 0) 1 0) 2 0) 3 0) 4 0) 5 0) 6 0) 7 0) 8 0) 9 0) 10 0) 11 0) 12 0) 13 0) 14 0)))] H := hP
  have hD : va_D A [(h0, .inr (12, (f0.set 119 (.int 0)))), (h1, .inl (cZ, 26, .inl (upd (upd (upd (upd (upd (upd (upd (upd (upd (upd (upd (upd (upd (upd (upd g0 0 0) 1 0) 2 0) 3 0) 4 0) 5 0) 6 0) 7 0) 8 0) 9 0) 10 0) 11 0) 12 0) 13 0) 14 0)))] := hD
  refine lv_iinc (v := 15) (lv' := [(1, .int 15), (0, .ref h0)]) hx hb dX12_idle_20 hl (k := 0) rfl (by decide) (by decide) rfl (fun ls hl => ?_)
  refine lv_goto (tgt := 7) hx hb dX12_idle_23 (by decide) ?_
  refine lv_iload_n hx hb dX12_idle_7 rfl (lv_at hl 0 rfl) ?_
  refine lv_bipush (v := 25) hx hb dX12_idle_8 (by decide) ?_
  refine lv_icmp_gt (tgt := 26) hx hb dX12_idle_10 (by decide) (fun c9 => absurd c9 (by decide)) (fun _ => ?_)
  refine lv_aload_n hx hb dX12_idle_13 rfl (lv_at hl 1 rfl) ?_
  refine va_get (D := D) (ref := "IntegerHouseModel") (ci := 12) (v := .ref h1) (C := RX12) (T := TX12) (N := 195) hx hb hts hin12 hown hK hP 0 rfl rfl 121 (by decide) (hts (.fieldLink RX12 304 "IntegerHouseModel" "needed" "[Z") (List.mem_cons_of_mem _ (List.mem_append_left _ (List.mem_of_getElem? (i := 1) rfl)))) (fun _ h9 => h9) (k_ne (by decide) e1) dX12_idle_14 ?_
  refine lv_iload_n hx hb dX12_idle_17 rfl (lv_at hl 0 rfl) ?_
  refine lv_iconst (v := 0) hx hb dX12_idle_18 (by decide) ?_
  refine va_zast hx hb hK hP hD hS 1 3 rfl rfl (k_in (by decide)) dX12_idle_19 (fun H locs hP hD hS => ?_)
  have hP : va_P D vwCl [(h0, .inr (12, (f0.set 119 (.int 0)))), (h1, .inl (cZ, 26, .inl (upd (upd (upd (upd (upd (upd (upd (upd (upd (upd (upd (upd (upd (upd (upd (upd g0 0 0) 1 0) 2 0) 3 0) 4 0) 5 0) 6 0) 7 0) 8 0) 9 0) 10 0) 11 0) 12 0) 13 0) 14 0) 15 0)))] H := hP
  have hD : va_D A [(h0, .inr (12, (f0.set 119 (.int 0)))), (h1, .inl (cZ, 26, .inl (upd (upd (upd (upd (upd (upd (upd (upd (upd (upd (upd (upd (upd (upd (upd (upd g0 0 0) 1 0) 2 0) 3 0) 4 0) 5 0) 6 0) 7 0) 8 0) 9 0) 10 0) 11 0) 12 0) 13 0) 14 0) 15 0)))] := hD
  refine lv_iinc (v := 16) (lv' := [(1, .int 16), (0, .ref h0)]) hx hb dX12_idle_20 hl (k := 0) rfl (by decide) (by decide) rfl (fun ls hl => ?_)
  refine lv_goto (tgt := 7) hx hb dX12_idle_23 (by decide) ?_
  refine lv_iload_n hx hb dX12_idle_7 rfl (lv_at hl 0 rfl) ?_
  refine lv_bipush (v := 25) hx hb dX12_idle_8 (by decide) ?_
  refine lv_icmp_gt (tgt := 26) hx hb dX12_idle_10 (by decide) (fun c9 => absurd c9 (by decide)) (fun _ => ?_)
  refine lv_aload_n hx hb dX12_idle_13 rfl (lv_at hl 1 rfl) ?_
  refine va_get (D := D) (ref := "IntegerHouseModel") (ci := 12) (v := .ref h1) (C := RX12) (T := TX12) (N := 195) hx hb hts hin12 hown hK hP 0 rfl rfl 121 (by decide) (hts (.fieldLink RX12 304 "IntegerHouseModel" "needed" "[Z") (List.mem_cons_of_mem _ (List.mem_append_left _ (List.mem_of_getElem? (i := 1) rfl)))) (fun _ h9 => h9) (k_ne (by decide) e1) dX12_idle_14 ?_
  refine lv_iload_n hx hb dX12_idle_17 rfl (lv_at hl 0 rfl) ?_
  refine lv_iconst (v := 0) hx hb dX12_idle_18 (by decide) ?_
  refine va_zast hx hb hK hP hD hS 1 3 rfl rfl (k_in (by decide)) dX12_idle_19 (fun H locs hP hD hS => ?_)
  have hP : va_P D vwCl [(h0, .inr (12, (f0.set 119 (.int 0)))), (h1, .inl (cZ, 26, .inl (upd (upd (upd (upd (upd (upd (upd (upd (upd (upd (upd (upd (upd (upd (upd (upd (upd g0 0 0) 1 0) 2 0) 3 0) 4 0) 5 0) 6 0) 7 0) 8 0) 9 0) 10 0) 11 0) 12 0) 13 0) 14 0) 15 0) 16 0)))] H := hP
  have hD : va_D A [(h0, .inr (12, (f0.set 119 (.int 0)))), (h1, .inl (cZ, 26, .inl (upd (upd (upd (upd (upd (upd (upd (upd (upd (upd (upd (upd (upd (upd (upd (upd (upd g0 0 0) 1 0) 2 0) 3 0) 4 0) 5 0) 6 0) 7 0) 8 0) 9 0) 10 0) 11 0) 12 0) 13 0) 14 0) 15 0) 16 0)))] := hD
  refine lv_iinc (v := 17) (lv' := [(1, .int 17), (0, .ref h0)]) hx hb dX12_idle_20 hl (k := 0) rfl (by decide) (by decide) rfl (fun ls hl => ?_)
  refine lv_goto (tgt := 7) hx hb dX12_idle_23 (by decide) ?_
  refine lv_iload_n hx hb dX12_idle_7 rfl (lv_at hl 0 rfl) ?_
  refine lv_bipush (v := 25) hx hb dX12_idle_8 (by decide) ?_
  refine lv_icmp_gt (tgt := 26) hx hb dX12_idle_10 (by decide) (fun c9 => absurd c9 (by decide)) (fun _ => ?_)
  refine lv_aload_n hx hb dX12_idle_13 rfl (lv_at hl 1 rfl) ?_
  refine va_get (D := D) (ref := "IntegerHouseModel") (ci := 12) (v := .ref h1) (C := RX12) (T := TX12) (N := 195) hx hb hts hin12 hown hK hP 0 rfl rfl 121 (by decide) (hts (.fieldLink RX12 304 "IntegerHouseModel" "needed" "[Z") (List.mem_cons_of_mem _ (List.mem_append_left _ (List.mem_of_getElem? (i := 1) rfl)))) (fun _ h9 => h9) (k_ne (by decide) e1) dX12_idle_14 ?_
  refine lv_iload_n hx hb dX12_idle_17 rfl (lv_at hl 0 rfl) ?_
  refine lv_iconst (v := 0) hx hb dX12_idle_18 (by decide) ?_
  refine va_zast hx hb hK hP hD hS 1 3 rfl rfl (k_in (by decide)) dX12_idle_19 (fun H locs hP hD hS => ?_)
  have hP : va_P D vwCl [(h0, .inr (12, (f0.set 119 (.int 0)))), (h1, .inl (cZ, 26, .inl (upd (upd (upd (upd (upd (upd (upd (upd (upd (upd (upd (upd (upd (upd (upd (upd (upd (upd g0 0 0) 1 0) 2 0) 3 0) 4 0) 5 0) 6 0) 7 0) 8 0) 9 0) 10 0) 11 0) 12 0) 13 0) 14 0) 15 0) 16 0) 17 0)))] H := hP
  have hD : va_D A [(h0, .inr (12, (f0.set 119 (.int 0)))), (h1, .inl (cZ, 26, .inl (upd (upd (upd (upd (upd (upd (upd (upd (upd (upd (upd (upd (upd (upd (upd (upd (upd (upd g0 0 0) 1 0) 2 0) 3 0) 4 0) 5 0) 6 0) 7 0) 8 0) 9 0) 10 0) 11 0) 12 0) 13 0) 14 0) 15 0) 16 0) 17 0)))] := hD
  refine lv_iinc (v := 18) (lv' := [(1, .int 18), (0, .ref h0)]) hx hb dX12_idle_20 hl (k := 0) rfl (by decide) (by decide) rfl (fun ls hl => ?_)
  refine lv_goto (tgt := 7) hx hb dX12_idle_23 (by decide) ?_
  refine lv_iload_n hx hb dX12_idle_7 rfl (lv_at hl 0 rfl) ?_
  refine lv_bipush (v := 25) hx hb dX12_idle_8 (by decide) ?_
  refine lv_icmp_gt (tgt := 26) hx hb dX12_idle_10 (by decide) (fun c9 => absurd c9 (by decide)) (fun _ => ?_)
  refine lv_aload_n hx hb dX12_idle_13 rfl (lv_at hl 1 rfl) ?_
  refine va_get (D := D) (ref := "IntegerHouseModel") (ci := 12) (v := .ref h1) (C := RX12) (T := TX12) (N := 195) hx hb hts hin12 hown hK hP 0 rfl rfl 121 (by decide) (hts (.fieldLink RX12 304 "IntegerHouseModel" "needed" "[Z") (List.mem_cons_of_mem _ (List.mem_append_left _ (List.mem_of_getElem? (i := 1) rfl)))) (fun _ h9 => h9) (k_ne (by decide) e1) dX12_idle_14 ?_
  refine lv_iload_n hx hb dX12_idle_17 rfl (lv_at hl 0 rfl) ?_
  refine lv_iconst (v := 0) hx hb dX12_idle_18 (by decide) ?_
  refine va_zast hx hb hK hP hD hS 1 3 rfl rfl (k_in (by decide)) dX12_idle_19 (fun H locs hP hD hS => ?_)
  have hP : va_P D vwCl [(h0, .inr (12, (f0.set 119 (.int 0)))), (h1, .inl (cZ, 26, .inl (upd (upd (upd (upd (upd (upd (upd (upd (upd (upd (upd (upd (upd (upd (upd (upd (upd (upd (upd g0 0 0) 1 0) 2 0) 3 0) 4 0) 5 0) 6 0) 7 0) 8 0) 9 0) 10 0) 11 0) 12 0) 13 0) 14 0) 15 0) 16 0) 17 0) 18 0)))] H := hP
  have hD : va_D A [(h0, .inr (12, (f0.set 119 (.int 0)))), (h1, .inl (cZ, 26, .inl (upd (upd (upd (upd (upd (upd (upd (upd (upd (upd (upd (upd (upd (upd (upd (upd (upd (upd (upd g0 0 0) 1 0) 2 0) 3 0) 4 0) 5 0) 6 0) 7 0) 8 0) 9 0) 10 0) 11 0) 12 0) 13 0) 14 0) 15 0) 16 0) 17 0) 18 0)))] := hD
  refine lv_iinc (v := 19) (lv' := [(1, .int 19), (0, .ref h0)]) hx hb dX12_idle_20 hl (k := 0) rfl (by decide) (by decide) rfl (fun ls hl => ?_)
  refine lv_goto (tgt := 7) hx hb dX12_idle_23 (by decide) ?_
  refine lv_iload_n hx hb dX12_idle_7 rfl (lv_at hl 0 rfl) ?_
  refine lv_bipush (v := 25) hx hb dX12_idle_8 (by decide) ?_
  refine lv_icmp_gt (tgt := 26) hx hb dX12_idle_10 (by decide) (fun c9 => absurd c9 (by decide)) (fun _ => ?_)
  refine lv_aload_n hx hb dX12_idle_13 rfl (lv_at hl 1 rfl) ?_
  refine va_get (D := D) (ref := "IntegerHouseModel") (ci := 12) (v := .ref h1) (C := RX12) (T := TX12) (N := 195) hx hb hts hin12 hown hK hP 0 rfl rfl 121 (by decide) (hts (.fieldLink RX12 304 "IntegerHouseModel" "needed" "[Z") (List.mem_cons_of_mem _ (List.mem_append_left _ (List.mem_of_getElem? (i := 1) rfl)))) (fun _ h9 => h9) (k_ne (by decide) e1) dX12_idle_14 ?_
  refine lv_iload_n hx hb dX12_idle_17 rfl (lv_at hl 0 rfl) ?_
  refine lv_iconst (v := 0) hx hb dX12_idle_18 (by decide) ?_
  refine va_zast hx hb hK hP hD hS 1 3 rfl rfl (k_in (by decide)) dX12_idle_19 (fun H locs hP hD hS => ?_)
  have hP : va_P D vwCl [(h0, .inr (12, (f0.set 119 (.int 0)))), (h1, .inl (cZ, 26, .inl (upd (upd (upd (upd (upd (upd (upd (upd (upd (upd (upd (upd (upd (upd (upd (upd (upd (upd (upd (upd g0 0 0) 1 0) 2 0) 3 0) 4 0) 5 0) 6 0) 7 0) 8 0) 9 0) 10 0) 11 0) 12 0) 13 0) 14 0) 15 0) 16 0) 17 0) 18 0) 19 0)))] H := hP
  have hD : va_D A [(h0, .inr (12, (f0.set 119 (.int 0)))), (h1, .inl (cZ, 26, .inl (upd (upd (upd (upd (upd (upd (upd (upd (upd (upd (upd (upd (upd (upd (upd (upd (upd (upd (upd (upd g0 0 0) 1 0) 2 0) 3 0) 4 0) 5 0) 6 0) 7 0) 8 0) 9 0) 10 0) 11 0) 12 0) 13 0) 14 0) 15 0) 16 0) 17 0) 18 0) 19 0)))] := hD
  refine lv_iinc (v := 20) (lv' := [(1, .int 20), (0, .ref h0)]) hx hb dX12_idle_20 hl (k := 0) rfl (by decide) (by decide) rfl (fun ls hl => ?_)
  refine lv_goto (tgt := 7) hx hb dX12_idle_23 (by decide) ?_
  refine lv_iload_n hx hb dX12_idle_7 rfl (lv_at hl 0 rfl) ?_
  refine lv_bipush (v := 25) hx hb dX12_idle_8 (by decide) ?_
  refine lv_icmp_gt (tgt := 26) hx hb dX12_idle_10 (by decide) (fun c9 => absurd c9 (by decide)) (fun _ => ?_)
  refine lv_aload_n hx hb dX12_idle_13 rfl (lv_at hl 1 rfl) ?_
  refine va_get (D := D) (ref := "IntegerHouseModel") (ci := 12) (v := .ref h1) (C := RX12) (T := TX12) (N := 195) hx hb hts hin12 hown hK hP 0 rfl rfl 121 (by decide) (hts (.fieldLink RX12 304 "IntegerHouseModel" "needed" "[Z") (List.mem_cons_of_mem _ (List.mem_append_left _ (List.mem_of_getElem? (i := 1) rfl)))) (fun _ h9 => h9) (k_ne (by decide) e1) dX12_idle_14 ?_
  refine lv_iload_n hx hb dX12_idle_17 rfl (lv_at hl 0 rfl) ?_
  refine lv_iconst (v := 0) hx hb dX12_idle_18 (by decide) ?_
  refine va_zast hx hb hK hP hD hS 1 3 rfl rfl (k_in (by decide)) dX12_idle_19 (fun H locs hP hD hS => ?_)
  have hP : va_P D vwCl [(h0, .inr (12, (f0.set 119 (.int 0)))), (h1, .inl (cZ, 26, .inl (upd (upd (upd (upd (upd (upd (upd (upd (upd (upd (upd (upd (upd (upd (upd (upd (upd (upd (upd (upd (upd g0 0 0) 1 0) 2 0) 3 0) 4 0) 5 0) 6 0) 7 0) 8 0) 9 0) 10 0) 11 0) 12 0) 13 0) 14 0) 15 0) 16 0) 17 0) 18 0) 19 0) 20 0)))] H := hP
  have hD : va_D A [(h0, .inr (12, (f0.set 119 (.int 0)))), (h1, .inl (cZ, 26, .inl (upd (upd (upd (upd (upd (upd (upd (upd (upd (upd (upd (upd (upd (upd (upd (upd (upd (upd (upd (upd (upd g0 0 0) 1 0) 2 0) 3 0) 4 0) 5 0) 6 0) 7 0) 8 0) 9 0) 10 0) 11 0) 12 0) 13 0) 14 0) 15 0) 16 0) 17 0) 18 0) 19 0) 20 0)))] := hD
  refine lv_iinc (v := 21) (lv' := [(1, .int 21), (0, .ref h0)]) hx hb dX12_idle_20 hl (k := 0) rfl (by decide) (by decide) rfl (fun ls hl => ?_)
  refine lv_goto (tgt := 7) hx hb dX12_idle_23 (by decide) ?_
  refine lv_iload_n hx hb dX12_idle_7 rfl (lv_at hl 0 rfl) ?_
  refine lv_bipush (v := 25) hx hb dX12_idle_8 (by decide) ?_
  refine lv_icmp_gt (tgt := 26) hx hb dX12_idle_10 (by decide) (fun c9 => absurd c9 (by decide)) (fun _ => ?_)
  refine lv_aload_n hx hb dX12_idle_13 rfl (lv_at hl 1 rfl) ?_
  refine va_get (D := D) (ref := "IntegerHouseModel") (ci := 12) (v := .ref h1) (C := RX12) (T := TX12) (N := 195) hx hb hts hin12 hown hK hP 0 rfl rfl 121 (by decide) (hts (.fieldLink RX12 304 "IntegerHouseModel" "needed" "[Z") (List.mem_cons_of_mem _ (List.mem_append_left _ (List.mem_of_getElem? (i := 1) rfl)))) (fun _ h9 => h9) (k_ne (by decide) e1) dX12_idle_14 ?_
  refine lv_iload_n hx hb dX12_idle_17 rfl (lv_at hl 0 rfl) ?_
  refine lv_iconst (v := 0) hx hb dX12_idle_18 (by decide) ?_
  refine va_zast hx hb hK hP hD hS 1 3 rfl rfl (k_in (by decide)) dX12_idle_19 (fun H locs hP hD hS => ?_)
  have hP : va_P D vwCl [(h0, .inr (12, (f0.set 119 (.int 0)))), (h1, .inl (cZ, 26, .inl (upd (upd (upd (upd (upd (upd (upd (upd (upd (upd (upd (upd (upd (upd (upd (upd (upd (upd (upd (upd (upd (upd g0 0 0) 1 0) 2 0) 3 0) 4 0) 5 0) 6 0) 7 0) 8 0) 9 0) 10 0) 11 0) 12 0) 13 0) 14 0) 15 0) 16 0) 17 0) 18 0) 19 0) 20 0) 21 0)))] H := hP
  have hD : va_D A [(h0, .inr (12, (f0.set 119 (.int 0)))), (h1, .inl (cZ, 26, .inl (upd (upd (upd (upd (upd (upd (upd (upd (upd (upd (upd (upd (upd (upd (upd (upd (upd (upd (upd (upd (upd (upd g0 0 0) 1 0) 2 0) 3 0) 4 0) 5 0) 6 0) 7 0) 8 0) 9 0) 10 0) 11 0) 12 0) 13 0) 14 0) 15 0) 16 0) 17 0) 18 0) 19 0) 20 0) 21 0)))] := hD
  refine lv_iinc (v := 22) (lv' := [(1, .int 22), (0, .ref h0)]) hx hb dX12_idle_20 hl (k := 0) rfl (by decide) (by decide) rfl (fun ls hl => ?_)
  refine lv_goto (tgt := 7) hx hb dX12_idle_23 (by decide) ?_
  refine lv_iload_n hx hb dX12_idle_7 rfl (lv_at hl 0 rfl) ?_
  refine lv_bipush (v := 25) hx hb dX12_idle_8 (by decide) ?_
  refine lv_icmp_gt (tgt := 26) hx hb dX12_idle_10 (by decide) (fun c9 => absurd c9 (by decide)) (fun _ => ?_)
  refine lv_aload_n hx hb dX12_idle_13 rfl (lv_at hl 1 rfl) ?_
  refine va_get (D := D) (ref := "IntegerHouseModel") (ci := 12) (v := .ref h1) (C := RX12) (T := TX12) (N := 195) hx hb hts hin12 hown hK hP 0 rfl rfl 121 (by decide) (hts (.fieldLink RX12 304 "IntegerHouseModel" "needed" "[Z") (List.mem_cons_of_mem _ (List.mem_append_left _ (List.mem_of_getElem? (i := 1) rfl)))) (fun _ h9 => h9) (k_ne (by decide) e1) dX12_idle_14 ?_
  refine lv_iload_n hx hb dX12_idle_17 rfl (lv_at hl 0 rfl) ?_
  refine lv_iconst (v := 0) hx hb dX12_idle_18 (by decide) ?_
  refine va_zast hx hb hK hP hD hS 1 3 rfl rfl (k_in (by decide)) dX12_idle_19 (fun H locs hP hD hS => ?_)
  have hP : va_P D vwCl [(h0, .inr (12, (f0.set 119 (.int 0)))), (h1, .inl (cZ, 26, .inl (upd (upd (upd (upd (upd (upd (upd (upd (upd (upd (upd (upd (upd (upd (upd (upd (upd (upd (upd (upd (upd (upd (upd g0 0 0) 1 0) 2 0) 3 0) 4 0) 5 0) 6 0) 7 0) 8 0) 9 0) 10 0) 11 0) 12 0) 13 0) 14 0) 15 0) 16 0) 17 0) 18 0) 19 0) 20 0) 21 0) 22 0)))] H := hP
  have hD : va_D A [(h0, .inr (12, (f0.set 119 (.int 0)))), (h1, .inl (cZ, 26, .inl (upd (upd (upd (upd (upd (upd (upd (upd (upd (upd (upd (upd (upd (upd (upd (upd (upd (upd (upd (upd (upd (upd (upd g0 0 0) 1 0) 2 0) 3 0) 4 0) 5 0) 6 0) 7 0) 8 0) 9 0) 10 0) 11 0) 12 0) 13 0) 14 0) 15 0) 16 0) 17 0) 18 0) 19 0) 20 0) 21 0) 22 0)))] := hD
  refine lv_iinc (v := 23) (lv' := [(1, .int 23), (0, .ref h0)]) hx hb dX12_idle_20 hl (k := 0) rfl (by decide) (by decide) rfl (fun ls hl => ?_)
  refine lv_goto (tgt := 7) hx hb dX12_idle_23 (by decide) ?_
  refine lv_iload_n hx hb dX12_idle_7 rfl (lv_at hl 0 rfl) ?_
  refine lv_bipush (v := 25) hx hb dX12_idle_8 (by decide) ?_
  refine lv_icmp_gt (tgt := 26) hx hb dX12_idle_10 (by decide) (fun c9 => absurd c9 (by decide)) (fun _ => ?_)
  refine lv_aload_n hx hb dX12_idle_13 rfl (lv_at hl 1 rfl) ?_
  refine va_get (D := D) (ref := "IntegerHouseModel") (ci := 12) (v := .ref h1) (C := RX12) (T := TX12) (N := 195) hx hb hts hin12 hown hK hP 0 rfl rfl 121 (by decide) (hts (.fieldLink RX12 304 "IntegerHouseModel" "needed" "[Z") (List.mem_cons_of_mem _ (List.mem_append_left _ (List.mem_of_getElem? (i := 1) rfl)))) (fun _ h9 => h9) (k_ne (by decide) e1) dX12_idle_14 ?_
  refine lv_iload_n hx hb dX12_idle_17 rfl (lv_at hl 0 rfl) ?_
  refine lv_iconst (v := 0) hx hb dX12_idle_18 (by decide) ?_
  refine va_zast hx hb hK hP hD hS 1 3 rfl rfl (k_in (by decide)) dX12_idle_19 (fun H locs hP hD hS => ?_)
  have hP : va_P D vwCl [(h0, .inr (12, (f0.set 119 (.int 0)))), (h1, .inl (cZ, 26, .inl (upd (upd (upd (upd (upd (upd (upd (upd (upd (upd (upd (upd (upd (upd (upd (upd (upd (upd (upd (upd (upd (upd (upd (upd g0 0 0) 1 0) 2 0) 3 0) 4 0) 5 0) 6 0) 7 0) 8 0) 9 0) 10 0) 11 0) 12 0) 13 0) 14 0) 15 0) 16 0) 17 0) 18 0) 19 0) 20 0) 21 0) 22 0) 23 0)))] H := hP
  have hD : va_D A [(h0, .inr (12, (f0.set 119 (.int 0)))), (h1, .inl (cZ, 26, .inl (upd (upd (upd (upd (upd (upd (upd (upd (upd (upd (upd (upd (upd (upd (upd (upd (upd (upd (upd (upd (upd (upd (upd (upd g0 0 0) 1 0) 2 0) 3 0) 4 0) 5 0) 6 0) 7 0) 8 0) 9 0) 10 0) 11 0) 12 0) 13 0) 14 0) 15 0) 16 0) 17 0) 18 0) 19 0) 20 0) 21 0) 22 0) 23 0)))] := hD
  refine lv_iinc (v := 24) (lv' := [(1, .int 24), (0, .ref h0)]) hx hb dX12_idle_20 hl (k := 0) rfl (by decide) (by decide) rfl (fun ls hl => ?_)
  refine lv_goto (tgt := 7) hx hb dX12_idle_23 (by decide) ?_
  refine lv_iload_n hx hb dX12_idle_7 rfl (lv_at hl 0 rfl) ?_
  refine lv_bipush (v := 25) hx hb dX12_idle_8 (by decide) ?_
  refine lv_icmp_gt (tgt := 26) hx hb dX12_idle_10 (by decide) (fun c9 => absurd c9 (by decide)) (fun _ => ?_)
  refine lv_aload_n hx hb dX12_idle_13 rfl (lv_at hl 1 rfl) ?_
  refine va_get (D := D) (ref := "IntegerHouseModel") (ci := 12) (v := .ref h1) (C := RX12) (T := TX12) (N := 195) hx hb hts hin12 hown hK hP 0 rfl rfl 121 (by decide) (hts (.fieldLink RX12 304 "IntegerHouseModel" "needed" "[Z") (List.mem_cons_of_mem _ (List.mem_append_left _ (List.mem_of_getElem? (i := 1) rfl)))) (fun _ h9 => h9) (k_ne (by decide) e1) dX12_idle_14 ?_
  refine lv_iload_n hx hb dX12_idle_17 rfl (lv_at hl 0 rfl) ?_
  refine lv_iconst (v := 0) hx hb dX12_idle_18 (by decide) ?_
  refine va_zast hx hb hK hP hD hS 1 3 rfl rfl (k_in (by decide)) dX12_idle_19 (fun H locs hP hD hS => ?_)
  have hP : va_P D vwCl [(h0, .inr (12, (f0.set 119 (.int 0)))), (h1, .inl (cZ, 26, .inl (upd (upd (upd (upd (upd (upd (upd (upd (upd (upd (upd (upd (upd (upd (upd (upd (upd (upd (upd (upd (upd (upd (upd (upd (upd g0 0 0) 1 0) 2 0) 3 0) 4 0) 5 0) 6 0) 7 0) 8 0) 9 0) 10 0) 11 0) 12 0) 13 0) 14 0) 15 0) 16 0) 17 0) 18 0) 19 0) 20 0) 21 0) 22 0) 23 0) 24 0)))] H := hP
  have hD : va_D A [(h0, .inr (12, (f0.set 119 (.int 0)))), (h1, .inl (cZ, 26, .inl (upd (upd (upd (upd (upd (upd (upd (upd (upd (upd (upd (upd (upd (upd (upd (upd (upd (upd (upd (upd (upd (upd (upd (upd (upd g0 0 0) 1 0) 2 0) 3 0) 4 0) 5 0) 6 0) 7 0) 8 0) 9 0) 10 0) 11 0) 12 0) 13 0) 14 0) 15 0) 16 0) 17 0) 18 0) 19 0) 20 0) 21 0) 22 0) 23 0) 24 0)))] := hD
  refine lv_iinc (v := 25) (lv' := [(1, .int 25), (0, .ref h0)]) hx hb dX12_idle_20 hl (k := 0) rfl (by decide) (by decide) rfl (fun ls hl => ?_)
  refine lv_goto (tgt := 7) hx hb dX12_idle_23 (by decide) ?_
  refine lv_iload_n hx hb dX12_idle_7 rfl (lv_at hl 0 rfl) ?_
  refine lv_bipush (v := 25) hx hb dX12_idle_8 (by decide) ?_
  refine lv_icmp_gt (tgt := 26) hx hb dX12_idle_10 (by decide) (fun c9 => absurd c9 (by decide)) (fun _ => ?_)
  refine lv_aload_n hx hb dX12_idle_13 rfl (lv_at hl 1 rfl) ?_
  refine va_get (D := D) (ref := "IntegerHouseModel") (ci := 12) (v := .ref h1) (C := RX12) (T := TX12) (N := 195) hx hb hts hin12 hown hK hP 0 rfl rfl 121 (by decide) (hts (.fieldLink RX12 304 "IntegerHouseModel" "needed" "[Z") (List.mem_cons_of_mem _ (List.mem_append_left _ (List.mem_of_getElem? (i := 1) rfl)))) (fun _ h9 => h9) (k_ne (by decide) e1) dX12_idle_14 ?_
  refine lv_iload_n hx hb dX12_idle_17 rfl (lv_at hl 0 rfl) ?_
  refine lv_iconst (v := 0) hx hb dX12_idle_18 (by decide) ?_
  refine va_zast hx hb hK hP hD hS 1 3 rfl rfl (k_in (by decide)) dX12_idle_19 (fun H locs hP hD hS => ?_)
  have hP : va_P D vwCl [(h0, .inr (12, (f0.set 119 (.int 0)))), (h1, .inl (cZ, 26, .inl (upd (upd (upd (upd (upd (upd (upd (upd (upd (upd (upd (upd (upd (upd (upd (upd (upd (upd (upd (upd (upd (upd (upd (upd (upd (upd g0 0 0) 1 0) 2 0) 3 0) 4 0) 5 0) 6 0) 7 0) 8 0) 9 0) 10 0) 11 0) 12 0) 13 0) 14 0) 15 0) 16 0) 17 0) 18 0) 19 0) 20 0) 21 0) 22 0) 23 0) 24 0) 25 0)))] H := hP
  have hD : va_D A [(h0, .inr (12, (f0.set 119 (.int 0)))), (h1, .inl (cZ, 26, .inl (upd (upd (upd (upd (upd (upd (upd (upd (upd (upd (upd (upd (upd (upd (upd (upd (upd (upd (upd (upd (upd (upd (upd (upd (upd (upd g0 0 0) 1 0) 2 0) 3 0) 4 0) 5 0) 6 0) 7 0) 8 0) 9 0) 10 0) 11 0) 12 0) 13 0) 14 0) 15 0) 16 0) 17 0) 18 0) 19 0) 20 0) 21 0) 22 0) 23 0) 24 0) 25 0)))] := hD
  refine lv_iinc (v := 26) (lv' := [(1, .int 26), (0, .ref h0)]) hx hb dX12_idle_20 hl (k := 0) rfl (by decide) (by decide) rfl (fun ls hl => ?_)
  refine lv_goto (tgt := 7) hx hb dX12_idle_23 (by decide) ?_
  refine lv_iload_n hx hb dX12_idle_7 rfl (lv_at hl 0 rfl) ?_
  refine lv_bipush (v := 25) hx hb dX12_idle_8 (by decide) ?_
  refine lv_icmp_gt (tgt := 26) hx hb dX12_idle_10 (by decide) (fun _ => ?_) (fun c9 => absurd (by decide) c9)
  exact W.vret hx hb hr (fun t ht hW => ⟨⟨(), rfl, trivial, kB_mk ht hW hP hK hD⟩, hS.F ht⟩) hS.2.2 dX12_idle_26
set_option maxHeartbeats 400000000 in
set_option maxRecDepth 100000 in
theorem c_X12_putOn_0 (l : Launch) (E : kE) (D : va_G) (cI cJ cB cZ : ClassId) (h0 : Nat) (f0 : List Value) (h1 : Nat) (g0 : Nat → Int32) (e0 : f0[119]? = some (.int 0)) (e1 : f0[121]? = some (.ref h1)) (e2 : f0[33]? = some (.int 0)) : kV l E D (kT cI cJ cB cZ) yX12_putOn wsX12_putOn ({ frames := 1, cells := 0, slots := 0, locals := 21 }) [.ref h0] [(h0, .inr (12, f0)), (h1, .inl (cZ, 26, .inl g0))] (fun _ : Unit => [(h0, .inr (12, (f0.set 119 (.int 0)))), (h1, .inl (cZ, 26, .inl (upd (upd (upd (upd (upd (upd (upd (upd (upd (upd (upd (upd (upd (upd (upd (upd (upd (upd (upd (upd (upd (upd (upd (upd (upd (upd g0 0 0) 1 0) 2 0) 3 0) 4 0) 5 0) 6 0) 7 0) 8 0) 9 0) 10 0) 11 0) 12 0) 13 0) 14 0) 15 0) 16 0) 17 0) 18 0) 19 0) 20 0) 21 0) 22 0) 23 0) 24 0) 25 0)))]) 0 0 := by
  intro sz
  refine Met.ofW (cc := cX12_putOn) (maxL := 2) (ret := none) (by decide) rfl ?_
  intro p e s m args below meth c s₁ B hml hv
  obtain ⟨rfl, hsz, hP, hK, hD0, hN, hX⟩ := hv
  have hx := B.exec
  have hb := B.bytes
  have hr := B.returns
  have hts := atoms_spec (ws := wsX12_putOn) B.pre
  have hown : s.vm.findClass RX12 = some m.cls := findClass_of_methodNamed B.named
  have hlocks := B.notSynchronized
  have hin12 : ∀ w ∈ wsX120, w ∈ wsX12_putOn := (fun w h => (List.mem_cons_of_mem _ (List.mem_append_right _ h)))
  subst hsz
  have hD := hD0.self (sz := s.heap.size)
  have hAE := k_AE hD0 hX
  generalize hAe : va_A [(h0, .inr (12, f0)), (h1, .inl (cZ, 26, .inl g0))] s.heap.size = A at hD hAE ⊢
  have hA : ∀ q : Nat, s.heap.size ≤ q → A q := fun q h => by rw [← hAe]; exact Or.inr h
  have hS : va_S A s.heap s.heap [] := va_S.rf
  have hP : va_P D vwCl [(h0, .inr (12, f0)), (h1, .inl (cZ, 26, .inl g0))] s.heap := hP
  have hl := lv_entry ([.ref h0] : List Value) (n := 2) (Nat.le_of_ble_eq_true rfl)
  rw [lg_entry_eq]
  generalize (lg_sl ([.ref h0]) ++ List.replicate (2 - (lg_sl ([.ref h0])).length) Slot.unset).toArray = ls at hl ⊢
  have hl : lv_has ls 2 [(0, .ref h0)] := hl
  refine lv_aload_n hx hb dX12_putOn_0 rfl (lv_at hl 0 rfl) ?_
  refine k_cVv (As := []) (rest := []) (wc := [(h0, .inr (12, f0)), (h1, .inl (cZ, 26, .inl g0))]) (wr := []) (w1 := (fun _ : Unit => [(h0, .inr (12, (f0.set 119 (.int 0)))), (h1, .inl (cZ, 26, .inl (upd (upd (upd (upd (upd (upd (upd (upd (upd (upd (upd (upd (upd (upd (upd (upd (upd (upd (upd (upd (upd (upd (upd (upd (upd (upd g0 0 0) 1 0) 2 0) 3 0) 4 0) 5 0) 6 0) 7 0) 8 0) 9 0) 10 0) 11 0) 12 0) 13 0) 14 0) 15 0) 16 0) 17 0) 18 0) 19 0) 20 0) 21 0) 22 0) 23 0) 24 0) 25 0)))])) ⟨hx, hb, hml, hown, hts⟩ hN hX hAE hK hP hD hS hA [0, 1] [] (ci := 12) rfl rfl rfl rfl (by decide +kernel) (by decide +kernel) (by decide +kernel) (c_X12_idle_0 l E D cI cJ cB cZ h0 f0 h1 g0 e0 e1) (cwV 0 hts gX12_putOn_X12_idle rfl rfl rfl (by decide +kernel) ⟨Nat.le_of_ble_eq_true rfl, Nat.le_of_ble_eq_true rfl⟩) rfl hl.1 (Nat.le_of_ble_eq_true rfl) dX12_putOn_1 ⟨Nat.le_of_ble_eq_true rfl, Nat.le_of_ble_eq_true rfl⟩ (fun _ H locs hP hD hS => ?_)
  have hP : va_P D vwCl [(h0, .inr (12, (f0.set 119 (.int 0)))), (h1, .inl (cZ, 26, .inl (upd (upd (upd (upd (upd (upd (upd (upd (upd (upd (upd (upd (upd (upd (upd (upd (upd (upd (upd (upd (upd (upd (upd (upd (upd (upd g0 0 0) 1 0) 2 0) 3 0) 4 0) 5 0) 6 0) 7 0) 8 0) 9 0) 10 0) 11 0) 12 0) 13 0) 14 0) 15 0) 16 0) 17 0) 18 0) 19 0) 20 0) 21 0) 22 0) 23 0) 24 0) 25 0)))] H := hP
  have hD : va_D A [(h0, .inr (12, (f0.set 119 (.int 0)))), (h1, .inl (cZ, 26, .inl (upd (upd (upd (upd (upd (upd (upd (upd (upd (upd (upd (upd (upd (upd (upd (upd (upd (upd (upd (upd (upd (upd (upd (upd (upd (upd g0 0 0) 1 0) 2 0) 3 0) 4 0) 5 0) 6 0) 7 0) 8 0) 9 0) 10 0) 11 0) 12 0) 13 0) 14 0) 15 0) 16 0) 17 0) 18 0) 19 0) 20 0) 21 0) 22 0) 23 0) 24 0) 25 0)))] := hD
  refine lv_iconst (v := 0) hx hb dX12_putOn_4 (by decide) ?_
  refine lv_istore_n (lv' := [(1, .int 0), (0, .ref h0)]) hx hb dX12_putOn_5 rfl hl (by decide) rfl (fun ls hl => ?_)
  refine lv_iload_n hx hb dX12_putOn_6 rfl (lv_at hl 0 rfl) ?_
  refine lv_aload_n hx hb dX12_putOn_7 rfl (lv_at hl 1 rfl) ?_
  refine va_get (D := D) (ref := "IntegerHouseModel") (ci := 12) (v := .int 0) (C := RX12) (T := TX12) (N := 195) hx hb hts hin12 hown hK hP 0 rfl rfl 33 (by decide) (hts (.fieldLink RX12 818 "IntegerHouseModel" "claims" "I") (List.mem_cons_of_mem _ (List.mem_append_left _ (List.mem_of_getElem? (i := 0) rfl)))) (fun _ h9 => h9) (k_ne (by decide) e2) dX12_putOn_8 ?_
  refine lv_icmp_ge (tgt := 34) hx hb dX12_putOn_11 (by decide) (fun _ => ?_) (fun c9 => absurd (by decide) c9)
  exact W.vret hx hb hr (fun t ht hW => ⟨⟨(), rfl, trivial, kB_mk ht hW hP hK hD⟩, hS.F ht⟩) hS.2.2 dX12_putOn_34
set_option maxHeartbeats 400000000 in
set_option maxRecDepth 100000 in
theorem c_X12_findWork_0 (l : Launch) (E : kE) (D : va_G) (cI cJ cB cZ : ClassId) (h0 : Nat) (f0 : List Value) (h1 : Nat) (g0 : Nat → Int32) (e0 : f0[121]? = some (.ref h1)) (e1 : g0 24 = 0) (e2 : g0 23 = 0) (e3 : g0 22 = 0) (e4 : g0 21 = 0) (e5 : g0 20 = 0) (e6 : g0 19 = 0) (e7 : g0 18 = 0) (e8 : g0 17 = 0) (e9 : g0 16 = 0) (e10 : g0 15 = 0) (e11 : g0 14 = 0) (e12 : g0 13 = 0) (e13 : g0 12 = 0) (e14 : g0 11 = 0) (e15 : g0 10 = 0) (e16 : g0 9 = 0) (e17 : g0 8 = 0) (e18 : g0 7 = 0) (e19 : g0 6 = 0) (e20 : g0 5 = 0) (e21 : g0 4 = 0) (e22 : g0 3 = 0) (e23 : g0 2 = 0) (e24 : g0 1 = 0) (e25 : g0 0 = 0) : kV l E D (kT cI cJ cB cZ) yX12_findWork wsX12_findWork ({ frames := 0, cells := 0, slots := 0, locals := 0 }) [.ref h0] [(h0, .inr (12, f0)), (h1, .inl (cZ, 26, .inl g0))] (fun _ : Unit => [(h0, .inr (12, f0)), (h1, .inl (cZ, 26, .inl g0))]) 0 0 := by
  intro sz
  refine Met.ofW (cc := cX12_findWork) (maxL := 3) (ret := none) (by decide) rfl ?_
  intro p e s m args below meth c s₁ B hml hv
  obtain ⟨rfl, hsz, hP, hK, hD0, hN, hX⟩ := hv
  have hx := B.exec
  have hb := B.bytes
  have hr := B.returns
  have hts := atoms_spec (ws := wsX12_findWork) B.pre
  have hown : s.vm.findClass RX12 = some m.cls := findClass_of_methodNamed B.named
  have hlocks := B.notSynchronized
  have hin12 : ∀ w ∈ wsX120, w ∈ wsX12_findWork := (fun w h => (List.mem_cons_of_mem _ (List.mem_append_right _ h)))
  subst hsz
  have hD := hD0.self (sz := s.heap.size)
  have hAE := k_AE hD0 hX
  generalize hAe : va_A [(h0, .inr (12, f0)), (h1, .inl (cZ, 26, .inl g0))] s.heap.size = A at hD hAE ⊢
  have hA : ∀ q : Nat, s.heap.size ≤ q → A q := fun q h => by rw [← hAe]; exact Or.inr h
  have hS : va_S A s.heap s.heap [] := va_S.rf
  have hP : va_P D vwCl [(h0, .inr (12, f0)), (h1, .inl (cZ, 26, .inl g0))] s.heap := hP
  have hl := lv_entry ([.ref h0] : List Value) (n := 3) (Nat.le_of_ble_eq_true rfl)
  rw [lg_entry_eq]
  generalize (lg_sl ([.ref h0]) ++ List.replicate (3 - (lg_sl ([.ref h0])).length) Slot.unset).toArray = ls at hl ⊢
  have hl : lv_has ls 3 [(0, .ref h0)] := hl
  refine lv_bipush (v := 24) hx hb dX12_findWork_0 (by decide) ?_
  refine lv_istore_n (lv' := [(1, .int 24), (0, .ref h0)]) hx hb dX12_findWork_2 rfl hl (by decide) rfl (fun ls hl => ?_)
  refine lv_iload_n hx hb dX12_findWork_3 rfl (lv_at hl 0 rfl) ?_
  refine lv_if_lt (tgt := 119) hx hb dX12_findWork_4 (by decide) (fun c9 => absurd c9 (by decide)) (fun _ => ?_)
  refine lv_sipush (v := 250) hx hb dX12_findWork_7 (by decide) ?_
  refine lv_iload_n hx hb dX12_findWork_10 rfl (lv_at hl 0 rfl) ?_
  refine lv_imul hx hb dX12_findWork_11 ?_
  refine k_topi (y := 6000) (by decide) ?_
  refine lv_istore_n (lv' := [(2, .int 6000), (1, .int 24), (0, .ref h0)]) hx hb dX12_findWork_12 rfl hl (by decide) rfl (fun ls hl => ?_)
  refine lv_aload_n hx hb dX12_findWork_13 rfl (lv_at hl 2 rfl) ?_
  refine va_get (D := D) (ref := "IntegerHouseModel") (ci := 12) (v := .ref h1) (C := RX12) (T := TX12) (N := 195) hx hb hts hin12 hown hK hP 0 rfl rfl 121 (by decide) (hts (.fieldLink RX12 304 "IntegerHouseModel" "needed" "[Z") (List.mem_cons_of_mem _ (List.mem_append_left _ (List.mem_of_getElem? (i := 0) rfl)))) (fun _ h9 => h9) e0 dX12_findWork_14 ?_
  refine lv_iload_n hx hb dX12_findWork_17 rfl (lv_at hl 1 rfl) ?_
  refine va_zald hx hb hK hP 1 3 rfl rfl (k_in (by decide)) dX12_findWork_18 ?_
  refine k_topi (y := 0) e1 ?_
  refine lv_if_eq (tgt := 67) hx hb dX12_findWork_19 (by decide) (fun _ => ?_) (fun c9 => absurd (by decide) c9)
  refine lv_bipush (v := 24) hx hb dX12_findWork_67 (by decide) ?_
  refine lv_iload_n hx hb dX12_findWork_69 rfl (lv_at hl 1 rfl) ?_
  refine lv_imul hx hb dX12_findWork_70 ?_
  refine k_topi (y := 576) (by decide) ?_
  refine lv_istore_n (lv' := [(2, .int 576), (1, .int 24), (0, .ref h0)]) hx hb dX12_findWork_71 rfl hl (by decide) rfl (fun ls hl => ?_)
  refine lv_aload_n hx hb dX12_findWork_72 rfl (lv_at hl 2 rfl) ?_
  refine va_get (D := D) (ref := "IntegerHouseModel") (ci := 12) (v := .ref h1) (C := RX12) (T := TX12) (N := 195) hx hb hts hin12 hown hK hP 0 rfl rfl 121 (by decide) (hts (.fieldLink RX12 304 "IntegerHouseModel" "needed" "[Z") (List.mem_cons_of_mem _ (List.mem_append_left _ (List.mem_of_getElem? (i := 0) rfl)))) (fun _ h9 => h9) e0 dX12_findWork_73 ?_
  refine lv_iload_n hx hb dX12_findWork_76 rfl (lv_at hl 1 rfl) ?_
  refine va_zald hx hb hK hP 1 3 rfl rfl (k_in (by decide)) dX12_findWork_77 ?_
  refine k_topi (y := 0) e1 ?_
  refine lv_if_eq (tgt := 113) hx hb dX12_findWork_78 (by decide) (fun _ => ?_) (fun c9 => absurd (by decide) c9)
  refine lv_iinc (v := 23) (lv' := [(1, .int 23), (2, .int 576), (0, .ref h0)]) hx hb dX12_findWork_113 hl (k := 1) rfl (by decide) (by decide) rfl (fun ls hl => ?_)
  refine lv_goto (tgt := 3) hx hb dX12_findWork_116 (by decide) ?_
  refine lv_iload_n hx hb dX12_findWork_3 rfl (lv_at hl 0 rfl) ?_
  refine lv_if_lt (tgt := 119) hx hb dX12_findWork_4 (by decide) (fun c9 => absurd c9 (by decide)) (fun _ => ?_)
  refine lv_sipush (v := 250) hx hb dX12_findWork_7 (by decide) ?_
  refine lv_iload_n hx hb dX12_findWork_10 rfl (lv_at hl 0 rfl) ?_
  refine lv_imul hx hb dX12_findWork_11 ?_
  refine k_topi (y := 5750) (by decide) ?_
  refine lv_istore_n (lv' := [(2, .int 5750), (1, .int 23), (0, .ref h0)]) hx hb dX12_findWork_12 rfl hl (by decide) rfl (fun ls hl => ?_)
  refine lv_aload_n hx hb dX12_findWork_13 rfl (lv_at hl 2 rfl) ?_
  refine va_get (D := D) (ref := "IntegerHouseModel") (ci := 12) (v := .ref h1) (C := RX12) (T := TX12) (N := 195) hx hb hts hin12 hown hK hP 0 rfl rfl 121 (by decide) (hts (.fieldLink RX12 304 "IntegerHouseModel" "needed" "[Z") (List.mem_cons_of_mem _ (List.mem_append_left _ (List.mem_of_getElem? (i := 0) rfl)))) (fun _ h9 => h9) e0 dX12_findWork_14 ?_
  refine lv_iload_n hx hb dX12_findWork_17 rfl (lv_at hl 1 rfl) ?_
  refine va_zald hx hb hK hP 1 3 rfl rfl (k_in (by decide)) dX12_findWork_18 ?_
  refine k_topi (y := 0) e2 ?_
  refine lv_if_eq (tgt := 67) hx hb dX12_findWork_19 (by decide) (fun _ => ?_) (fun c9 => absurd (by decide) c9)
  refine lv_bipush (v := 24) hx hb dX12_findWork_67 (by decide) ?_
  refine lv_iload_n hx hb dX12_findWork_69 rfl (lv_at hl 1 rfl) ?_
  refine lv_imul hx hb dX12_findWork_70 ?_
  refine k_topi (y := 552) (by decide) ?_
  refine lv_istore_n (lv' := [(2, .int 552), (1, .int 23), (0, .ref h0)]) hx hb dX12_findWork_71 rfl hl (by decide) rfl (fun ls hl => ?_)
  refine lv_aload_n hx hb dX12_findWork_72 rfl (lv_at hl 2 rfl) ?_
  refine va_get (D := D) (ref := "IntegerHouseModel") (ci := 12) (v := .ref h1) (C := RX12) (T := TX12) (N := 195) hx hb hts hin12 hown hK hP 0 rfl rfl 121 (by decide) (hts (.fieldLink RX12 304 "IntegerHouseModel" "needed" "[Z") (List.mem_cons_of_mem _ (List.mem_append_left _ (List.mem_of_getElem? (i := 0) rfl)))) (fun _ h9 => h9) e0 dX12_findWork_73 ?_
  refine lv_iload_n hx hb dX12_findWork_76 rfl (lv_at hl 1 rfl) ?_
  refine va_zald hx hb hK hP 1 3 rfl rfl (k_in (by decide)) dX12_findWork_77 ?_
  refine k_topi (y := 0) e2 ?_
  refine lv_if_eq (tgt := 113) hx hb dX12_findWork_78 (by decide) (fun _ => ?_) (fun c9 => absurd (by decide) c9)
  refine lv_iinc (v := 22) (lv' := [(1, .int 22), (2, .int 552), (0, .ref h0)]) hx hb dX12_findWork_113 hl (k := 1) rfl (by decide) (by decide) rfl (fun ls hl => ?_)
  refine lv_goto (tgt := 3) hx hb dX12_findWork_116 (by decide) ?_
  refine lv_iload_n hx hb dX12_findWork_3 rfl (lv_at hl 0 rfl) ?_
  refine lv_if_lt (tgt := 119) hx hb dX12_findWork_4 (by decide) (fun c9 => absurd c9 (by decide)) (fun _ => ?_)
  refine lv_sipush (v := 250) hx hb dX12_findWork_7 (by decide) ?_
  refine lv_iload_n hx hb dX12_findWork_10 rfl (lv_at hl 0 rfl) ?_
  refine lv_imul hx hb dX12_findWork_11 ?_
  refine k_topi (y := 5500) (by decide) ?_
  refine lv_istore_n (lv' := [(2, .int 5500), (1, .int 22), (0, .ref h0)]) hx hb dX12_findWork_12 rfl hl (by decide) rfl (fun ls hl => ?_)
  refine lv_aload_n hx hb dX12_findWork_13 rfl (lv_at hl 2 rfl) ?_
  refine va_get (D := D) (ref := "IntegerHouseModel") (ci := 12) (v := .ref h1) (C := RX12) (T := TX12) (N := 195) hx hb hts hin12 hown hK hP 0 rfl rfl 121 (by decide) (hts (.fieldLink RX12 304 "IntegerHouseModel" "needed" "[Z") (List.mem_cons_of_mem _ (List.mem_append_left _ (List.mem_of_getElem? (i := 0) rfl)))) (fun _ h9 => h9) e0 dX12_findWork_14 ?_
  refine lv_iload_n hx hb dX12_findWork_17 rfl (lv_at hl 1 rfl) ?_
  refine va_zald hx hb hK hP 1 3 rfl rfl (k_in (by decide)) dX12_findWork_18 ?_
  refine k_topi (y := 0) e3 ?_
  refine lv_if_eq (tgt := 67) hx hb dX12_findWork_19 (by decide) (fun _ => ?_) (fun c9 => absurd (by decide) c9)
  refine lv_bipush (v := 24) hx hb dX12_findWork_67 (by decide) ?_
  refine lv_iload_n hx hb dX12_findWork_69 rfl (lv_at hl 1 rfl) ?_
  refine lv_imul hx hb dX12_findWork_70 ?_
  refine k_topi (y := 528) (by decide) ?_
  refine lv_istore_n (lv' := [(2, .int 528), (1, .int 22), (0, .ref h0)]) hx hb dX12_findWork_71 rfl hl (by decide) rfl (fun ls hl => ?_)
  refine lv_aload_n hx hb dX12_findWork_72 rfl (lv_at hl 2 rfl) ?_
  refine va_get (D := D) (ref := "IntegerHouseModel") (ci := 12) (v := .ref h1) (C := RX12) (T := TX12) (N := 195) hx hb hts hin12 hown hK hP 0 rfl rfl 121 (by decide) (hts (.fieldLink RX12 304 "IntegerHouseModel" "needed" "[Z") (List.mem_cons_of_mem _ (List.mem_append_left _ (List.mem_of_getElem? (i := 0) rfl)))) (fun _ h9 => h9) e0 dX12_findWork_73 ?_
  refine lv_iload_n hx hb dX12_findWork_76 rfl (lv_at hl 1 rfl) ?_
  refine va_zald hx hb hK hP 1 3 rfl rfl (k_in (by decide)) dX12_findWork_77 ?_
  refine k_topi (y := 0) e3 ?_
  refine lv_if_eq (tgt := 113) hx hb dX12_findWork_78 (by decide) (fun _ => ?_) (fun c9 => absurd (by decide) c9)
  refine lv_iinc (v := 21) (lv' := [(1, .int 21), (2, .int 528), (0, .ref h0)]) hx hb dX12_findWork_113 hl (k := 1) rfl (by decide) (by decide) rfl (fun ls hl => ?_)
  refine lv_goto (tgt := 3) hx hb dX12_findWork_116 (by decide) ?_
  refine lv_iload_n hx hb dX12_findWork_3 rfl (lv_at hl 0 rfl) ?_
  refine lv_if_lt (tgt := 119) hx hb dX12_findWork_4 (by decide) (fun c9 => absurd c9 (by decide)) (fun _ => ?_)
  refine lv_sipush (v := 250) hx hb dX12_findWork_7 (by decide) ?_
  refine lv_iload_n hx hb dX12_findWork_10 rfl (lv_at hl 0 rfl) ?_
  refine lv_imul hx hb dX12_findWork_11 ?_
  refine k_topi (y := 5250) (by decide) ?_
  refine lv_istore_n (lv' := [(2, .int 5250), (1, .int 21), (0, .ref h0)]) hx hb dX12_findWork_12 rfl hl (by decide) rfl (fun ls hl => ?_)
  refine lv_aload_n hx hb dX12_findWork_13 rfl (lv_at hl 2 rfl) ?_
  refine va_get (D := D) (ref := "IntegerHouseModel") (ci := 12) (v := .ref h1) (C := RX12) (T := TX12) (N := 195) hx hb hts hin12 hown hK hP 0 rfl rfl 121 (by decide) (hts (.fieldLink RX12 304 "IntegerHouseModel" "needed" "[Z") (List.mem_cons_of_mem _ (List.mem_append_left _ (List.mem_of_getElem? (i := 0) rfl)))) (fun _ h9 => h9) e0 dX12_findWork_14 ?_
  refine lv_iload_n hx hb dX12_findWork_17 rfl (lv_at hl 1 rfl) ?_
  refine va_zald hx hb hK hP 1 3 rfl rfl (k_in (by decide)) dX12_findWork_18 ?_
  refine k_topi (y := 0) e4 ?_
  refine lv_if_eq (tgt := 67) hx hb dX12_findWork_19 (by decide) (fun _ => ?_) (fun c9 => absurd (by decide) c9)
  refine lv_bipush (v := 24) hx hb dX12_findWork_67 (by decide) ?_
  refine lv_iload_n hx hb dX12_findWork_69 rfl (lv_at hl 1 rfl) ?_
  refine lv_imul hx hb dX12_findWork_70 ?_
  refine k_topi (y := 504) (by decide) ?_
  refine lv_istore_n (lv' := [(2, .int 504), (1, .int 21), (0, .ref h0)]) hx hb dX12_findWork_71 rfl hl (by decide) rfl (fun ls hl => ?_)
  refine lv_aload_n hx hb dX12_findWork_72 rfl (lv_at hl 2 rfl) ?_
  refine va_get (D := D) (ref := "IntegerHouseModel") (ci := 12) (v := .ref h1) (C := RX12) (T := TX12) (N := 195) hx hb hts hin12 hown hK hP 0 rfl rfl 121 (by decide) (hts (.fieldLink RX12 304 "IntegerHouseModel" "needed" "[Z") (List.mem_cons_of_mem _ (List.mem_append_left _ (List.mem_of_getElem? (i := 0) rfl)))) (fun _ h9 => h9) e0 dX12_findWork_73 ?_
  refine lv_iload_n hx hb dX12_findWork_76 rfl (lv_at hl 1 rfl) ?_
  refine va_zald hx hb hK hP 1 3 rfl rfl (k_in (by decide)) dX12_findWork_77 ?_
  refine k_topi (y := 0) e4 ?_
  refine lv_if_eq (tgt := 113) hx hb dX12_findWork_78 (by decide) (fun _ => ?_) (fun c9 => absurd (by decide) c9)
  refine lv_iinc (v := 20) (lv' := [(1, .int 20), (2, .int 504), (0, .ref h0)]) hx hb dX12_findWork_113 hl (k := 1) rfl (by decide) (by decide) rfl (fun ls hl => ?_)
  refine lv_goto (tgt := 3) hx hb dX12_findWork_116 (by decide) ?_
  refine lv_iload_n hx hb dX12_findWork_3 rfl (lv_at hl 0 rfl) ?_
  refine lv_if_lt (tgt := 119) hx hb dX12_findWork_4 (by decide) (fun c9 => absurd c9 (by decide)) (fun _ => ?_)
  refine lv_sipush (v := 250) hx hb dX12_findWork_7 (by decide) ?_
  refine lv_iload_n hx hb dX12_findWork_10 rfl (lv_at hl 0 rfl) ?_
  refine lv_imul hx hb dX12_findWork_11 ?_
  refine k_topi (y := 5000) (by decide) ?_
  refine lv_istore_n (lv' := [(2, .int 5000), (1, .int 20), (0, .ref h0)]) hx hb dX12_findWork_12 rfl hl (by decide) rfl (fun ls hl => ?_)
  refine lv_aload_n hx hb dX12_findWork_13 rfl (lv_at hl 2 rfl) ?_
  refine va_get (D := D) (ref := "IntegerHouseModel") (ci := 12) (v := .ref h1) (C := RX12) (T := TX12) (N := 195) hx hb hts hin12 hown hK hP 0 rfl rfl 121 (by decide) (hts (.fieldLink RX12 304 "IntegerHouseModel" "needed" "[Z") (List.mem_cons_of_mem _ (List.mem_append_left _ (List.mem_of_getElem? (i := 0) rfl)))) (fun _ h9 => h9) e0 dX12_findWork_14 ?_
  refine lv_iload_n hx hb dX12_findWork_17 rfl (lv_at hl 1 rfl) ?_
  refine va_zald hx hb hK hP 1 3 rfl rfl (k_in (by decide)) dX12_findWork_18 ?_
  refine k_topi (y := 0) e5 ?_
  refine lv_if_eq (tgt := 67) hx hb dX12_findWork_19 (by decide) (fun _ => ?_) (fun c9 => absurd (by decide) c9)
  refine lv_bipush (v := 24) hx hb dX12_findWork_67 (by decide) ?_
  refine lv_iload_n hx hb dX12_findWork_69 rfl (lv_at hl 1 rfl) ?_
  refine lv_imul hx hb dX12_findWork_70 ?_
  refine k_topi (y := 480) (by decide) ?_
  refine lv_istore_n (lv' := [(2, .int 480), (1, .int 20), (0, .ref h0)]) hx hb dX12_findWork_71 rfl hl (by decide) rfl (fun ls hl => ?_)
  refine lv_aload_n hx hb dX12_findWork_72 rfl (lv_at hl 2 rfl) ?_
  refine va_get (D := D) (ref := "IntegerHouseModel") (ci := 12) (v := .ref h1) (C := RX12) (T := TX12) (N := 195) hx hb hts hin12 hown hK hP 0 rfl rfl 121 (by decide) (hts (.fieldLink RX12 304 "IntegerHouseModel" "needed" "[Z") (List.mem_cons_of_mem _ (List.mem_append_left _ (List.mem_of_getElem? (i := 0) rfl)))) (fun _ h9 => h9) e0 dX12_findWork_73 ?_
  refine lv_iload_n hx hb dX12_findWork_76 rfl (lv_at hl 1 rfl) ?_
  refine va_zald hx hb hK hP 1 3 rfl rfl (k_in (by decide)) dX12_findWork_77 ?_
  refine k_topi (y := 0) e5 ?_
  refine lv_if_eq (tgt := 113) hx hb dX12_findWork_78 (by decide) (fun _ => ?_) (fun c9 => absurd (by decide) c9)
  refine lv_iinc (v := 19) (lv' := [(1, .int 19), (2, .int 480), (0, .ref h0)]) hx hb dX12_findWork_113 hl (k := 1) rfl (by decide) (by decide) rfl (fun ls hl => ?_)
  refine lv_goto (tgt := 3) hx hb dX12_findWork_116 (by decide) ?_
  refine lv_iload_n hx hb dX12_findWork_3 rfl (lv_at hl 0 rfl) ?_
  refine lv_if_lt (tgt := 119) hx hb dX12_findWork_4 (by decide) (fun c9 => absurd c9 (by decide)) (fun _ => ?_)
  refine lv_sipush (v := 250) hx hb dX12_findWork_7 (by decide) ?_
  refine lv_iload_n hx hb dX12_findWork_10 rfl (lv_at hl 0 rfl) ?_
  refine lv_imul hx hb dX12_findWork_11 ?_
  refine k_topi (y := 4750) (by decide) ?_
  refine lv_istore_n (lv' := [(2, .int 4750), (1, .int 19), (0, .ref h0)]) hx hb dX12_findWork_12 rfl hl (by decide) rfl (fun ls hl => ?_)
  refine lv_aload_n hx hb dX12_findWork_13 rfl (lv_at hl 2 rfl) ?_
  refine va_get (D := D) (ref := "IntegerHouseModel") (ci := 12) (v := .ref h1) (C := RX12) (T := TX12) (N := 195) hx hb hts hin12 hown hK hP 0 rfl rfl 121 (by decide) (hts (.fieldLink RX12 304 "IntegerHouseModel" "needed" "[Z") (List.mem_cons_of_mem _ (List.mem_append_left _ (List.mem_of_getElem? (i := 0) rfl)))) (fun _ h9 => h9) e0 dX12_findWork_14 ?_
  refine lv_iload_n hx hb dX12_findWork_17 rfl (lv_at hl 1 rfl) ?_
  refine va_zald hx hb hK hP 1 3 rfl rfl (k_in (by decide)) dX12_findWork_18 ?_
  refine k_topi (y := 0) e6 ?_
  refine lv_if_eq (tgt := 67) hx hb dX12_findWork_19 (by decide) (fun _ => ?_) (fun c9 => absurd (by decide) c9)
  refine lv_bipush (v := 24) hx hb dX12_findWork_67 (by decide) ?_
  refine lv_iload_n hx hb dX12_findWork_69 rfl (lv_at hl 1 rfl) ?_
  refine lv_imul hx hb dX12_findWork_70 ?_
  refine k_topi (y := 456) (by decide) ?_
  refine lv_istore_n (lv' := [(2, .int 456), (1, .int 19), (0, .ref h0)]) hx hb dX12_findWork_71 rfl hl (by decide) rfl (fun ls hl => ?_)
  refine lv_aload_n hx hb dX12_findWork_72 rfl (lv_at hl 2 rfl) ?_
  refine va_get (D := D) (ref := "IntegerHouseModel") (ci := 12) (v := .ref h1) (C := RX12) (T := TX12) (N := 195) hx hb hts hin12 hown hK hP 0 rfl rfl 121 (by decide) (hts (.fieldLink RX12 304 "IntegerHouseModel" "needed" "[Z") (List.mem_cons_of_mem _ (List.mem_append_left _ (List.mem_of_getElem? (i := 0) rfl)))) (fun _ h9 => h9) e0 dX12_findWork_73 ?_
  refine lv_iload_n hx hb dX12_findWork_76 rfl (lv_at hl 1 rfl) ?_
  refine va_zald hx hb hK hP 1 3 rfl rfl (k_in (by decide)) dX12_findWork_77 ?_
  refine k_topi (y := 0) e6 ?_
  refine lv_if_eq (tgt := 113) hx hb dX12_findWork_78 (by decide) (fun _ => ?_) (fun c9 => absurd (by decide) c9)
  refine lv_iinc (v := 18) (lv' := [(1, .int 18), (2, .int 456), (0, .ref h0)]) hx hb dX12_findWork_113 hl (k := 1) rfl (by decide) (by decide) rfl (fun ls hl => ?_)
  refine lv_goto (tgt := 3) hx hb dX12_findWork_116 (by decide) ?_
  refine lv_iload_n hx hb dX12_findWork_3 rfl (lv_at hl 0 rfl) ?_
  refine lv_if_lt (tgt := 119) hx hb dX12_findWork_4 (by decide) (fun c9 => absurd c9 (by decide)) (fun _ => ?_)
  refine lv_sipush (v := 250) hx hb dX12_findWork_7 (by decide) ?_
  refine lv_iload_n hx hb dX12_findWork_10 rfl (lv_at hl 0 rfl) ?_
  refine lv_imul hx hb dX12_findWork_11 ?_
  refine k_topi (y := 4500) (by decide) ?_
  refine lv_istore_n (lv' := [(2, .int 4500), (1, .int 18), (0, .ref h0)]) hx hb dX12_findWork_12 rfl hl (by decide) rfl (fun ls hl => ?_)
  refine lv_aload_n hx hb dX12_findWork_13 rfl (lv_at hl 2 rfl) ?_
  refine va_get (D := D) (ref := "IntegerHouseModel") (ci := 12) (v := .ref h1) (C := RX12) (T := TX12) (N := 195) hx hb hts hin12 hown hK hP 0 rfl rfl 121 (by decide) (hts (.fieldLink RX12 304 "IntegerHouseModel" "needed" "[Z") (List.mem_cons_of_mem _ (List.mem_append_left _ (List.mem_of_getElem? (i := 0) rfl)))) (fun _ h9 => h9) e0 dX12_findWork_14 ?_
  refine lv_iload_n hx hb dX12_findWork_17 rfl (lv_at hl 1 rfl) ?_
  refine va_zald hx hb hK hP 1 3 rfl rfl (k_in (by decide)) dX12_findWork_18 ?_
  refine k_topi (y := 0) e7 ?_
  refine lv_if_eq (tgt := 67) hx hb dX12_findWork_19 (by decide) (fun _ => ?_) (fun c9 => absurd (by decide) c9)
  refine lv_bipush (v := 24) hx hb dX12_findWork_67 (by decide) ?_
  refine lv_iload_n hx hb dX12_findWork_69 rfl (lv_at hl 1 rfl) ?_
  refine lv_imul hx hb dX12_findWork_70 ?_
  refine k_topi (y := 432) (by decide) ?_
  refine lv_istore_n (lv' := [(2, .int 432), (1, .int 18), (0, .ref h0)]) hx hb dX12_findWork_71 rfl hl (by decide) rfl (fun ls hl => ?_)
  refine lv_aload_n hx hb dX12_findWork_72 rfl (lv_at hl 2 rfl) ?_
  refine va_get (D := D) (ref := "IntegerHouseModel") (ci := 12) (v := .ref h1) (C := RX12) (T := TX12) (N := 195) hx hb hts hin12 hown hK hP 0 rfl rfl 121 (by decide) (hts (.fieldLink RX12 304 "IntegerHouseModel" "needed" "[Z") (List.mem_cons_of_mem _ (List.mem_append_left _ (List.mem_of_getElem? (i := 0) rfl)))) (fun _ h9 => h9) e0 dX12_findWork_73 ?_
  refine lv_iload_n hx hb dX12_findWork_76 rfl (lv_at hl 1 rfl) ?_
  refine va_zald hx hb hK hP 1 3 rfl rfl (k_in (by decide)) dX12_findWork_77 ?_
  refine k_topi (y := 0) e7 ?_
  refine lv_if_eq (tgt := 113) hx hb dX12_findWork_78 (by decide) (fun _ => ?_) (fun c9 => absurd (by decide) c9)
  refine lv_iinc (v := 17) (lv' := [(1, .int 17), (2, .int 432), (0, .ref h0)]) hx hb dX12_findWork_113 hl (k := 1) rfl (by decide) (by decide) rfl (fun ls hl => ?_)
  refine lv_goto (tgt := 3) hx hb dX12_findWork_116 (by decide) ?_
  refine lv_iload_n hx hb dX12_findWork_3 rfl (lv_at hl 0 rfl) ?_
  refine lv_if_lt (tgt := 119) hx hb dX12_findWork_4 (by decide) (fun c9 => absurd c9 (by decide)) (fun _ => ?_)
  refine lv_sipush (v := 250) hx hb dX12_findWork_7 (by decide) ?_
  refine lv_iload_n hx hb dX12_findWork_10 rfl (lv_at hl 0 rfl) ?_
  refine lv_imul hx hb dX12_findWork_11 ?_
  refine k_topi (y := 4250) (by decide) ?_
  refine lv_istore_n (lv' := [(2, .int 4250), (1, .int 17), (0, .ref h0)]) hx hb dX12_findWork_12 rfl hl (by decide) rfl (fun ls hl => ?_)
  refine lv_aload_n hx hb dX12_findWork_13 rfl (lv_at hl 2 rfl) ?_
  refine va_get (D := D) (ref := "IntegerHouseModel") (ci := 12) (v := .ref h1) (C := RX12) (T := TX12) (N := 195) hx hb hts hin12 hown hK hP 0 rfl rfl 121 (by decide) (hts (.fieldLink RX12 304 "IntegerHouseModel" "needed" "[Z") (List.mem_cons_of_mem _ (List.mem_append_left _ (List.mem_of_getElem? (i := 0) rfl)))) (fun _ h9 => h9) e0 dX12_findWork_14 ?_
  refine lv_iload_n hx hb dX12_findWork_17 rfl (lv_at hl 1 rfl) ?_
  refine va_zald hx hb hK hP 1 3 rfl rfl (k_in (by decide)) dX12_findWork_18 ?_
  refine k_topi (y := 0) e8 ?_
  refine lv_if_eq (tgt := 67) hx hb dX12_findWork_19 (by decide) (fun _ => ?_) (fun c9 => absurd (by decide) c9)
  refine lv_bipush (v := 24) hx hb dX12_findWork_67 (by decide) ?_
  refine lv_iload_n hx hb dX12_findWork_69 rfl (lv_at hl 1 rfl) ?_
  refine lv_imul hx hb dX12_findWork_70 ?_
  refine k_topi (y := 408) (by decide) ?_
  refine lv_istore_n (lv' := [(2, .int 408), (1, .int 17), (0, .ref h0)]) hx hb dX12_findWork_71 rfl hl (by decide) rfl (fun ls hl => ?_)
  refine lv_aload_n hx hb dX12_findWork_72 rfl (lv_at hl 2 rfl) ?_
  refine va_get (D := D) (ref := "IntegerHouseModel") (ci := 12) (v := .ref h1) (C := RX12) (T := TX12) (N := 195) hx hb hts hin12 hown hK hP 0 rfl rfl 121 (by decide) (hts (.fieldLink RX12 304 "IntegerHouseModel" "needed" "[Z") (List.mem_cons_of_mem _ (List.mem_append_left _ (List.mem_of_getElem? (i := 0) rfl)))) (fun _ h9 => h9) e0 dX12_findWork_73 ?_
  refine lv_iload_n hx hb dX12_findWork_76 rfl (lv_at hl 1 rfl) ?_
  refine va_zald hx hb hK hP 1 3 rfl rfl (k_in (by decide)) dX12_findWork_77 ?_
  refine k_topi (y := 0) e8 ?_
  refine lv_if_eq (tgt := 113) hx hb dX12_findWork_78 (by decide) (fun _ => ?_) (fun c9 => absurd (by decide) c9)
  refine lv_iinc (v := 16) (lv' := [(1, .int 16), (2, .int 408), (0, .ref h0)]) hx hb dX12_findWork_113 hl (k := 1) rfl (by decide) (by decide) rfl (fun ls hl => ?_)
  refine lv_goto (tgt := 3) hx hb dX12_findWork_116 (by decide) ?_
  refine lv_iload_n hx hb dX12_findWork_3 rfl (lv_at hl 0 rfl) ?_
  refine lv_if_lt (tgt := 119) hx hb dX12_findWork_4 (by decide) (fun c9 => absurd c9 (by decide)) (fun _ => ?_)
  refine lv_sipush (v := 250) hx hb dX12_findWork_7 (by decide) ?_
  refine lv_iload_n hx hb dX12_findWork_10 rfl (lv_at hl 0 rfl) ?_
  refine lv_imul hx hb dX12_findWork_11 ?_
  refine k_topi (y := 4000) (by decide) ?_
  refine lv_istore_n (lv' := [(2, .int 4000), (1, .int 16), (0, .ref h0)]) hx hb dX12_findWork_12 rfl hl (by decide) rfl (fun ls hl => ?_)
  refine lv_aload_n hx hb dX12_findWork_13 rfl (lv_at hl 2 rfl) ?_
  refine va_get (D := D) (ref := "IntegerHouseModel") (ci := 12) (v := .ref h1) (C := RX12) (T := TX12) (N := 195) hx hb hts hin12 hown hK hP 0 rfl rfl 121 (by decide) (hts (.fieldLink RX12 304 "IntegerHouseModel" "needed" "[Z") (List.mem_cons_of_mem _ (List.mem_append_left _ (List.mem_of_getElem? (i := 0) rfl)))) (fun _ h9 => h9) e0 dX12_findWork_14 ?_
  refine lv_iload_n hx hb dX12_findWork_17 rfl (lv_at hl 1 rfl) ?_
  refine va_zald hx hb hK hP 1 3 rfl rfl (k_in (by decide)) dX12_findWork_18 ?_
  refine k_topi (y := 0) e9 ?_
  refine lv_if_eq (tgt := 67) hx hb dX12_findWork_19 (by decide) (fun _ => ?_) (fun c9 => absurd (by decide) c9)
  refine lv_bipush (v := 24) hx hb dX12_findWork_67 (by decide) ?_
  refine lv_iload_n hx hb dX12_findWork_69 rfl (lv_at hl 1 rfl) ?_
  refine lv_imul hx hb dX12_findWork_70 ?_
  refine k_topi (y := 384) (by decide) ?_
  refine lv_istore_n (lv' := [(2, .int 384), (1, .int 16), (0, .ref h0)]) hx hb dX12_findWork_71 rfl hl (by decide) rfl (fun ls hl => ?_)
  refine lv_aload_n hx hb dX12_findWork_72 rfl (lv_at hl 2 rfl) ?_
  refine va_get (D := D) (ref := "IntegerHouseModel") (ci := 12) (v := .ref h1) (C := RX12) (T := TX12) (N := 195) hx hb hts hin12 hown hK hP 0 rfl rfl 121 (by decide) (hts (.fieldLink RX12 304 "IntegerHouseModel" "needed" "[Z") (List.mem_cons_of_mem _ (List.mem_append_left _ (List.mem_of_getElem? (i := 0) rfl)))) (fun _ h9 => h9) e0 dX12_findWork_73 ?_
  refine lv_iload_n hx hb dX12_findWork_76 rfl (lv_at hl 1 rfl) ?_
  refine va_zald hx hb hK hP 1 3 rfl rfl (k_in (by decide)) dX12_findWork_77 ?_
  refine k_topi (y := 0) e9 ?_
  refine lv_if_eq (tgt := 113) hx hb dX12_findWork_78 (by decide) (fun _ => ?_) (fun c9 => absurd (by decide) c9)
  refine lv_iinc (v := 15) (lv' := [(1, .int 15), (2, .int 384), (0, .ref h0)]) hx hb dX12_findWork_113 hl (k := 1) rfl (by decide) (by decide) rfl (fun ls hl => ?_)
  refine lv_goto (tgt := 3) hx hb dX12_findWork_116 (by decide) ?_
  refine lv_iload_n hx hb dX12_findWork_3 rfl (lv_at hl 0 rfl) ?_
  refine lv_if_lt (tgt := 119) hx hb dX12_findWork_4 (by decide) (fun c9 => absurd c9 (by decide)) (fun _ => ?_)
  refine lv_sipush (v := 250) hx hb dX12_findWork_7 (by decide) ?_
  refine lv_iload_n hx hb dX12_findWork_10 rfl (lv_at hl 0 rfl) ?_
  refine lv_imul hx hb dX12_findWork_11 ?_
  refine k_topi (y := 3750) (by decide) ?_
  refine lv_istore_n (lv' := [(2, .int 3750), (1, .int 15), (0, .ref h0)]) hx hb dX12_findWork_12 rfl hl (by decide) rfl (fun ls hl => ?_)
  refine lv_aload_n hx hb dX12_findWork_13 rfl (lv_at hl 2 rfl) ?_
  refine va_get (D := D) (ref := "IntegerHouseModel") (ci := 12) (v := .ref h1) (C := RX12) (T := TX12) (N := 195) hx hb hts hin12 hown hK hP 0 rfl rfl 121 (by decide) (hts (.fieldLink RX12 304 "IntegerHouseModel" "needed" "[Z") (List.mem_cons_of_mem _ (List.mem_append_left _ (List.mem_of_getElem? (i := 0) rfl)))) (fun _ h9 => h9) e0 dX12_findWork_14 ?_
  refine lv_iload_n hx hb dX12_findWork_17 rfl (lv_at hl 1 rfl) ?_
  refine va_zald hx hb hK hP 1 3 rfl rfl (k_in (by decide)) dX12_findWork_18 ?_
  refine k_topi (y := 0) e10 ?_
  refine lv_if_eq (tgt := 67) hx hb dX12_findWork_19 (by decide) (fun _ => ?_) (fun c9 => absurd (by decide) c9)
  refine lv_bipush (v := 24) hx hb dX12_findWork_67 (by decide) ?_
  refine lv_iload_n hx hb dX12_findWork_69 rfl (lv_at hl 1 rfl) ?_
  refine lv_imul hx hb dX12_findWork_70 ?_
  refine k_topi (y := 360) (by decide) ?_
  refine lv_istore_n (lv' := [(2, .int 360), (1, .int 15), (0, .ref h0)]) hx hb dX12_findWork_71 rfl hl (by decide) rfl (fun ls hl => ?_)
  refine lv_aload_n hx hb dX12_findWork_72 rfl (lv_at hl 2 rfl) ?_
  refine va_get (D := D) (ref := "IntegerHouseModel") (ci := 12) (v := .ref h1) (C := RX12) (T := TX12) (N := 195) hx hb hts hin12 hown hK hP 0 rfl rfl 121 (by decide) (hts (.fieldLink RX12 304 "IntegerHouseModel" "needed" "[Z") (List.mem_cons_of_mem _ (List.mem_append_left _ (List.mem_of_getElem? (i := 0) rfl)))) (fun _ h9 => h9) e0 dX12_findWork_73 ?_
  refine lv_iload_n hx hb dX12_findWork_76 rfl (lv_at hl 1 rfl) ?_
  refine va_zald hx hb hK hP 1 3 rfl rfl (k_in (by decide)) dX12_findWork_77 ?_
  refine k_topi (y := 0) e10 ?_
  refine lv_if_eq (tgt := 113) hx hb dX12_findWork_78 (by decide) (fun _ => ?_) (fun c9 => absurd (by decide) c9)
  refine lv_iinc (v := 14) (lv' := [(1, .int 14), (2, .int 360), (0, .ref h0)]) hx hb dX12_findWork_113 hl (k := 1) rfl (by decide) (by decide) rfl (fun ls hl => ?_)
  refine lv_goto (tgt := 3) hx hb dX12_findWork_116 (by decide) ?_
  refine lv_iload_n hx hb dX12_findWork_3 rfl (lv_at hl 0 rfl) ?_
  refine lv_if_lt (tgt := 119) hx hb dX12_findWork_4 (by decide) (fun c9 => absurd c9 (by decide)) (fun _ => ?_)
  refine lv_sipush (v := 250) hx hb dX12_findWork_7 (by decide) ?_
  refine lv_iload_n hx hb dX12_findWork_10 rfl (lv_at hl 0 rfl) ?_
  refine lv_imul hx hb dX12_findWork_11 ?_
  refine k_topi (y := 3500) (by decide) ?_
  refine lv_istore_n (lv' := [(2, .int 3500), (1, .int 14), (0, .ref h0)]) hx hb dX12_findWork_12 rfl hl (by decide) rfl (fun ls hl => ?_)
  refine lv_aload_n hx hb dX12_findWork_13 rfl (lv_at hl 2 rfl) ?_
  refine va_get (D := D) (ref := "IntegerHouseModel") (ci := 12) (v := .ref h1) (C := RX12) (T := TX12) (N := 195) hx hb hts hin12 hown hK hP 0 rfl rfl 121 (by decide) (hts (.fieldLink RX12 304 "IntegerHouseModel" "needed" "[Z") (List.mem_cons_of_mem _ (List.mem_append_left _ (List.mem_of_getElem? (i := 0) rfl)))) (fun _ h9 => h9) e0 dX12_findWork_14 ?_
  refine lv_iload_n hx hb dX12_findWork_17 rfl (lv_at hl 1 rfl) ?_
  refine va_zald hx hb hK hP 1 3 rfl rfl (k_in (by decide)) dX12_findWork_18 ?_
  refine k_topi (y := 0) e11 ?_
  refine lv_if_eq (tgt := 67) hx hb dX12_findWork_19 (by decide) (fun _ => ?_) (fun c9 => absurd (by decide) c9)
  refine lv_bipush (v := 24) hx hb dX12_findWork_67 (by decide) ?_
  refine lv_iload_n hx hb dX12_findWork_69 rfl (lv_at hl 1 rfl) ?_
  refine lv_imul hx hb dX12_findWork_70 ?_
  refine k_topi (y := 336) (by decide) ?_
  refine lv_istore_n (lv' := [(2, .int 336), (1, .int 14), (0, .ref h0)]) hx hb dX12_findWork_71 rfl hl (by decide) rfl (fun ls hl => ?_)
  refine lv_aload_n hx hb dX12_findWork_72 rfl (lv_at hl 2 rfl) ?_
  refine va_get (D := D) (ref := "IntegerHouseModel") (ci := 12) (v := .ref h1) (C := RX12) (T := TX12) (N := 195) hx hb hts hin12 hown hK hP 0 rfl rfl 121 (by decide) (hts (.fieldLink RX12 304 "IntegerHouseModel" "needed" "[Z") (List.mem_cons_of_mem _ (List.mem_append_left _ (List.mem_of_getElem? (i := 0) rfl)))) (fun _ h9 => h9) e0 dX12_findWork_73 ?_
  refine lv_iload_n hx hb dX12_findWork_76 rfl (lv_at hl 1 rfl) ?_
  refine va_zald hx hb hK hP 1 3 rfl rfl (k_in (by decide)) dX12_findWork_77 ?_
  refine k_topi (y := 0) e11 ?_
  refine lv_if_eq (tgt := 113) hx hb dX12_findWork_78 (by decide) (fun _ => ?_) (fun c9 => absurd (by decide) c9)
  refine lv_iinc (v := 13) (lv' := [(1, .int 13), (2, .int 336), (0, .ref h0)]) hx hb dX12_findWork_113 hl (k := 1) rfl (by decide) (by decide) rfl (fun ls hl => ?_)
  refine lv_goto (tgt := 3) hx hb dX12_findWork_116 (by decide) ?_
  refine lv_iload_n hx hb dX12_findWork_3 rfl (lv_at hl 0 rfl) ?_
  refine lv_if_lt (tgt := 119) hx hb dX12_findWork_4 (by decide) (fun c9 => absurd c9 (by decide)) (fun _ => ?_)
  refine lv_sipush (v := 250) hx hb dX12_findWork_7 (by decide) ?_
  refine lv_iload_n hx hb dX12_findWork_10 rfl (lv_at hl 0 rfl) ?_
  refine lv_imul hx hb dX12_findWork_11 ?_
  refine k_topi (y := 3250) (by decide) ?_
  refine lv_istore_n (lv' := [(2, .int 3250), (1, .int 13), (0, .ref h0)]) hx hb dX12_findWork_12 rfl hl (by decide) rfl (fun ls hl => ?_)
  refine lv_aload_n hx hb dX12_findWork_13 rfl (lv_at hl 2 rfl) ?_
  refine va_get (D := D) (ref := "IntegerHouseModel") (ci := 12) (v := .ref h1) (C := RX12) (T := TX12) (N := 195) hx hb hts hin12 hown hK hP 0 rfl rfl 121 (by decide) (hts (.fieldLink RX12 304 "IntegerHouseModel" "needed" "[Z") (List.mem_cons_of_mem _ (List.mem_append_left _ (List.mem_of_getElem? (i := 0) rfl)))) (fun _ h9 => h9) e0 dX12_findWork_14 ?_
  refine lv_iload_n hx hb dX12_findWork_17 rfl (lv_at hl 1 rfl) ?_
  refine va_zald hx hb hK hP 1 3 rfl rfl (k_in (by decide)) dX12_findWork_18 ?_
  refine k_topi (y := 0) e12 ?_
  refine lv_if_eq (tgt := 67) hx hb dX12_findWork_19 (by decide) (fun _ => ?_) (fun c9 => absurd (by decide) c9)
  refine lv_bipush (v := 24) hx hb dX12_findWork_67 (by decide) ?_
  refine lv_iload_n hx hb dX12_findWork_69 rfl (lv_at hl 1 rfl) ?_
  refine lv_imul hx hb dX12_findWork_70 ?_
  refine k_topi (y := 312) (by decide) ?_
  refine lv_istore_n (lv' := [(2, .int 312), (1, .int 13), (0, .ref h0)]) hx hb dX12_findWork_71 rfl hl (by decide) rfl (fun ls hl => ?_)
  refine lv_aload_n hx hb dX12_findWork_72 rfl (lv_at hl 2 rfl) ?_
  refine va_get (D := D) (ref := "IntegerHouseModel") (ci := 12) (v := .ref h1) (C := RX12) (T := TX12) (N := 195) hx hb hts hin12 hown hK hP 0 rfl rfl 121 (by decide) (hts (.fieldLink RX12 304 "IntegerHouseModel" "needed" "[Z") (List.mem_cons_of_mem _ (List.mem_append_left _ (List.mem_of_getElem? (i := 0) rfl)))) (fun _ h9 => h9) e0 dX12_findWork_73 ?_
  refine lv_iload_n hx hb dX12_findWork_76 rfl (lv_at hl 1 rfl) ?_
  refine va_zald hx hb hK hP 1 3 rfl rfl (k_in (by decide)) dX12_findWork_77 ?_
  refine k_topi (y := 0) e12 ?_
  refine lv_if_eq (tgt := 113) hx hb dX12_findWork_78 (by decide) (fun _ => ?_) (fun c9 => absurd (by decide) c9)
  refine lv_iinc (v := 12) (lv' := [(1, .int 12), (2, .int 312), (0, .ref h0)]) hx hb dX12_findWork_113 hl (k := 1) rfl (by decide) (by decide) rfl (fun ls hl => ?_)
  refine lv_goto (tgt := 3) hx hb dX12_findWork_116 (by decide) ?_
  refine lv_iload_n hx hb dX12_findWork_3 rfl (lv_at hl 0 rfl) ?_
  refine lv_if_lt (tgt := 119) hx hb dX12_findWork_4 (by decide) (fun c9 => absurd c9 (by decide)) (fun _ => ?_)
  refine lv_sipush (v := 250) hx hb dX12_findWork_7 (by decide) ?_
  refine lv_iload_n hx hb dX12_findWork_10 rfl (lv_at hl 0 rfl) ?_
  refine lv_imul hx hb dX12_findWork_11 ?_
  refine k_topi (y := 3000) (by decide) ?_
  refine lv_istore_n (lv' := [(2, .int 3000), (1, .int 12), (0, .ref h0)]) hx hb dX12_findWork_12 rfl hl (by decide) rfl (fun ls hl => ?_)
  refine lv_aload_n hx hb dX12_findWork_13 rfl (lv_at hl 2 rfl) ?_
  refine va_get (D := D) (ref := "IntegerHouseModel") (ci := 12) (v := .ref h1) (C := RX12) (T := TX12) (N := 195) hx hb hts hin12 hown hK hP 0 rfl rfl 121 (by decide) (hts (.fieldLink RX12 304 "IntegerHouseModel" "needed" "[Z") (List.mem_cons_of_mem _ (List.mem_append_left _ (List.mem_of_getElem? (i := 0) rfl)))) (fun _ h9 => h9) e0 dX12_findWork_14 ?_
  refine lv_iload_n hx hb dX12_findWork_17 rfl (lv_at hl 1 rfl) ?_
  refine va_zald hx hb hK hP 1 3 rfl rfl (k_in (by decide)) dX12_findWork_18 ?_
  refine k_topi (y := 0) e13 ?_
  refine lv_if_eq (tgt := 67) hx hb dX12_findWork_19 (by decide) (fun _ => ?_) (fun c9 => absurd (by decide) c9)
  refine lv_bipush (v := 24) hx hb dX12_findWork_67 (by decide) ?_
  refine lv_iload_n hx hb dX12_findWork_69 rfl (lv_at hl 1 rfl) ?_
  refine lv_imul hx hb dX12_findWork_70 ?_
  refine k_topi (y := 288) (by decide) ?_
  refine lv_istore_n (lv' := [(2, .int 288), (1, .int 12), (0, .ref h0)]) hx hb dX12_findWork_71 rfl hl (by decide) rfl (fun ls hl => ?_)
  refine lv_aload_n hx hb dX12_findWork_72 rfl (lv_at hl 2 rfl) ?_
  refine va_get (D := D) (ref := "IntegerHouseModel") (ci := 12) (v := .ref h1) (C := RX12) (T := TX12) (N := 195) hx hb hts hin12 hown hK hP 0 rfl rfl 121 (by decide) (hts (.fieldLink RX12 304 "IntegerHouseModel" "needed" "[Z") (List.mem_cons_of_mem _ (List.mem_append_left _ (List.mem_of_getElem? (i := 0) rfl)))) (fun _ h9 => h9) e0 dX12_findWork_73 ?_
  refine lv_iload_n hx hb dX12_findWork_76 rfl (lv_at hl 1 rfl) ?_
  refine va_zald hx hb hK hP 1 3 rfl rfl (k_in (by decide)) dX12_findWork_77 ?_
  refine k_topi (y := 0) e13 ?_
  refine lv_if_eq (tgt := 113) hx hb dX12_findWork_78 (by decide) (fun _ => ?_) (fun c9 => absurd (by decide) c9)
  refine lv_iinc (v := 11) (lv' := [(1, .int 11), (2, .int 288), (0, .ref h0)]) hx hb dX12_findWork_113 hl (k := 1) rfl (by decide) (by decide) rfl (fun ls hl => ?_)
  refine lv_goto (tgt := 3) hx hb dX12_findWork_116 (by decide) ?_
  refine lv_iload_n hx hb dX12_findWork_3 rfl (lv_at hl 0 rfl) ?_
  refine lv_if_lt (tgt := 119) hx hb dX12_findWork_4 (by decide) (fun c9 => absurd c9 (by decide)) (fun _ => ?_)
  refine lv_sipush (v := 250) hx hb dX12_findWork_7 (by decide) ?_
  refine lv_iload_n hx hb dX12_findWork_10 rfl (lv_at hl 0 rfl) ?_
  refine lv_imul hx hb dX12_findWork_11 ?_
  refine k_topi (y := 2750) (by decide) ?_
  refine lv_istore_n (lv' := [(2, .int 2750), (1, .int 11), (0, .ref h0)]) hx hb dX12_findWork_12 rfl hl (by decide) rfl (fun ls hl => ?_)
  refine lv_aload_n hx hb dX12_findWork_13 rfl (lv_at hl 2 rfl) ?_
  refine va_get (D := D) (ref := "IntegerHouseModel") (ci := 12) (v := .ref h1) (C := RX12) (T := TX12) (N := 195) hx hb hts hin12 hown hK hP 0 rfl rfl 121 (by decide) (hts (.fieldLink RX12 304 "IntegerHouseModel" "needed" "[Z") (List.mem_cons_of_mem _ (List.mem_append_left _ (List.mem_of_getElem? (i := 0) rfl)))) (fun _ h9 => h9) e0 dX12_findWork_14 ?_
  refine lv_iload_n hx hb dX12_findWork_17 rfl (lv_at hl 1 rfl) ?_
  refine va_zald hx hb hK hP 1 3 rfl rfl (k_in (by decide)) dX12_findWork_18 ?_
  refine k_topi (y := 0) e14 ?_
  refine lv_if_eq (tgt := 67) hx hb dX12_findWork_19 (by decide) (fun _ => ?_) (fun c9 => absurd (by decide) c9)
  refine lv_bipush (v := 24) hx hb dX12_findWork_67 (by decide) ?_
  refine lv_iload_n hx hb dX12_findWork_69 rfl (lv_at hl 1 rfl) ?_
  refine lv_imul hx hb dX12_findWork_70 ?_
  refine k_topi (y := 264) (by decide) ?_
  refine lv_istore_n (lv' := [(2, .int 264), (1, .int 11), (0, .ref h0)]) hx hb dX12_findWork_71 rfl hl (by decide) rfl (fun ls hl => ?_)
  refine lv_aload_n hx hb dX12_findWork_72 rfl (lv_at hl 2 rfl) ?_
  refine va_get (D := D) (ref := "IntegerHouseModel") (ci := 12) (v := .ref h1) (C := RX12) (T := TX12) (N := 195) hx hb hts hin12 hown hK hP 0 rfl rfl 121 (by decide) (hts (.fieldLink RX12 304 "IntegerHouseModel" "needed" "[Z") (List.mem_cons_of_mem _ (List.mem_append_left _ (List.mem_of_getElem? (i := 0) rfl)))) (fun _ h9 => h9) e0 dX12_findWork_73 ?_
  refine lv_iload_n hx hb dX12_findWork_76 rfl (lv_at hl 1 rfl) ?_
  refine va_zald hx hb hK hP 1 3 rfl rfl (k_in (by decide)) dX12_findWork_77 ?_
  refine k_topi (y := 0) e14 ?_
  refine lv_if_eq (tgt := 113) hx hb dX12_findWork_78 (by decide) (fun _ => ?_) (fun c9 => absurd (by decide) c9)
  refine lv_iinc (v := 10) (lv' := [(1, .int 10), (2, .int 264), (0, .ref h0)]) hx hb dX12_findWork_113 hl (k := 1) rfl (by decide) (by decide) rfl (fun ls hl => ?_)
  refine lv_goto (tgt := 3) hx hb dX12_findWork_116 (by decide) ?_
  refine lv_iload_n hx hb dX12_findWork_3 rfl (lv_at hl 0 rfl) ?_
  refine lv_if_lt (tgt := 119) hx hb dX12_findWork_4 (by decide) (fun c9 => absurd c9 (by decide)) (fun _ => ?_)
  refine lv_sipush (v := 250) hx hb dX12_findWork_7 (by decide) ?_
  refine lv_iload_n hx hb dX12_findWork_10 rfl (lv_at hl 0 rfl) ?_
  refine lv_imul hx hb dX12_findWork_11 ?_
  refine k_topi (y := 2500) (by decide) ?_
  refine lv_istore_n (lv' := [(2, .int 2500), (1, .int 10), (0, .ref h0)]) hx hb dX12_findWork_12 rfl hl (by decide) rfl (fun ls hl => ?_)
  refine lv_aload_n hx hb dX12_findWork_13 rfl (lv_at hl 2 rfl) ?_
  refine va_get (D := D) (ref := "IntegerHouseModel") (ci := 12) (v := .ref h1) (C := RX12) (T := TX12) (N := 195) hx hb hts hin12 hown hK hP 0 rfl rfl 121 (by decide) (hts (.fieldLink RX12 304 "IntegerHouseModel" "needed" "[Z") (List.mem_cons_of_mem _ (List.mem_append_left _ (List.mem_of_getElem? (i := 0) rfl)))) (fun _ h9 => h9) e0 dX12_findWork_14 ?_
  refine lv_iload_n hx hb dX12_findWork_17 rfl (lv_at hl 1 rfl) ?_
  refine va_zald hx hb hK hP 1 3 rfl rfl (k_in (by decide)) dX12_findWork_18 ?_
  refine k_topi (y := 0) e15 ?_
  refine lv_if_eq (tgt := 67) hx hb dX12_findWork_19 (by decide) (fun _ => ?_) (fun c9 => absurd (by decide) c9)
  refine lv_bipush (v := 24) hx hb dX12_findWork_67 (by decide) ?_
  refine lv_iload_n hx hb dX12_findWork_69 rfl (lv_at hl 1 rfl) ?_
  refine lv_imul hx hb dX12_findWork_70 ?_
  refine k_topi (y := 240) (by decide) ?_
  refine lv_istore_n (lv' := [(2, .int 240), (1, .int 10), (0, .ref h0)]) hx hb dX12_findWork_71 rfl hl (by decide) rfl (fun ls hl => ?_)
  refine lv_aload_n hx hb dX12_findWork_72 rfl (lv_at hl 2 rfl) ?_
  refine va_get (D := D) (ref := "IntegerHouseModel") (ci := 12) (v := .ref h1) (C := RX12) (T := TX12) (N := 195) hx hb hts hin12 hown hK hP 0 rfl rfl 121 (by decide) (hts (.fieldLink RX12 304 "IntegerHouseModel" "needed" "[Z") (List.mem_cons_of_mem _ (List.mem_append_left _ (List.mem_of_getElem? (i := 0) rfl)))) (fun _ h9 => h9) e0 dX12_findWork_73 ?_
  refine lv_iload_n hx hb dX12_findWork_76 rfl (lv_at hl 1 rfl) ?_
  refine va_zald hx hb hK hP 1 3 rfl rfl (k_in (by decide)) dX12_findWork_77 ?_
  refine k_topi (y := 0) e15 ?_
  refine lv_if_eq (tgt := 113) hx hb dX12_findWork_78 (by decide) (fun _ => ?_) (fun c9 => absurd (by decide) c9)
  refine lv_iinc (v := 9) (lv' := [(1, .int 9), (2, .int 240), (0, .ref h0)]) hx hb dX12_findWork_113 hl (k := 1) rfl (by decide) (by decide) rfl (fun ls hl => ?_)
  refine lv_goto (tgt := 3) hx hb dX12_findWork_116 (by decide) ?_
  refine lv_iload_n hx hb dX12_findWork_3 rfl (lv_at hl 0 rfl) ?_
  refine lv_if_lt (tgt := 119) hx hb dX12_findWork_4 (by decide) (fun c9 => absurd c9 (by decide)) (fun _ => ?_)
  refine lv_sipush (v := 250) hx hb dX12_findWork_7 (by decide) ?_
  refine lv_iload_n hx hb dX12_findWork_10 rfl (lv_at hl 0 rfl) ?_
  refine lv_imul hx hb dX12_findWork_11 ?_
  refine k_topi (y := 2250) (by decide) ?_
  refine lv_istore_n (lv' := [(2, .int 2250), (1, .int 9), (0, .ref h0)]) hx hb dX12_findWork_12 rfl hl (by decide) rfl (fun ls hl => ?_)
  refine lv_aload_n hx hb dX12_findWork_13 rfl (lv_at hl 2 rfl) ?_
  refine va_get (D := D) (ref := "IntegerHouseModel") (ci := 12) (v := .ref h1) (C := RX12) (T := TX12) (N := 195) hx hb hts hin12 hown hK hP 0 rfl rfl 121 (by decide) (hts (.fieldLink RX12 304 "IntegerHouseModel" "needed" "[Z") (List.mem_cons_of_mem _ (List.mem_append_left _ (List.mem_of_getElem? (i := 0) rfl)))) (fun _ h9 => h9) e0 dX12_findWork_14 ?_
  refine lv_iload_n hx hb dX12_findWork_17 rfl (lv_at hl 1 rfl) ?_
  refine va_zald hx hb hK hP 1 3 rfl rfl (k_in (by decide)) dX12_findWork_18 ?_
  refine k_topi (y := 0) e16 ?_
  refine lv_if_eq (tgt := 67) hx hb dX12_findWork_19 (by decide) (fun _ => ?_) (fun c9 => absurd (by decide) c9)
  refine lv_bipush (v := 24) hx hb dX12_findWork_67 (by decide) ?_
  refine lv_iload_n hx hb dX12_findWork_69 rfl (lv_at hl 1 rfl) ?_
  refine lv_imul hx hb dX12_findWork_70 ?_
  refine k_topi (y := 216) (by decide) ?_
  refine lv_istore_n (lv' := [(2, .int 216), (1, .int 9), (0, .ref h0)]) hx hb dX12_findWork_71 rfl hl (by decide) rfl (fun ls hl => ?_)
  refine lv_aload_n hx hb dX12_findWork_72 rfl (lv_at hl 2 rfl) ?_
  refine va_get (D := D) (ref := "IntegerHouseModel") (ci := 12) (v := .ref h1) (C := RX12) (T := TX12) (N := 195) hx hb hts hin12 hown hK hP 0 rfl rfl 121 (by decide) (hts (.fieldLink RX12 304 "IntegerHouseModel" "needed" "[Z") (List.mem_cons_of_mem _ (List.mem_append_left _ (List.mem_of_getElem? (i := 0) rfl)))) (fun _ h9 => h9) e0 dX12_findWork_73 ?_
  refine lv_iload_n hx hb dX12_findWork_76 rfl (lv_at hl 1 rfl) ?_
  refine va_zald hx hb hK hP 1 3 rfl rfl (k_in (by decide)) dX12_findWork_77 ?_
  refine k_topi (y := 0) e16 ?_
  refine lv_if_eq (tgt := 113) hx hb dX12_findWork_78 (by decide) (fun _ => ?_) (fun c9 => absurd (by decide) c9)
  refine lv_iinc (v := 8) (lv' := [(1, .int 8), (2, .int 216), (0, .ref h0)]) hx hb dX12_findWork_113 hl (k := 1) rfl (by decide) (by decide) rfl (fun ls hl => ?_)
  refine lv_goto (tgt := 3) hx hb dX12_findWork_116 (by decide) ?_
  refine lv_iload_n hx hb dX12_findWork_3 rfl (lv_at hl 0 rfl) ?_
  refine lv_if_lt (tgt := 119) hx hb dX12_findWork_4 (by decide) (fun c9 => absurd c9 (by decide)) (fun _ => ?_)
  refine lv_sipush (v := 250) hx hb dX12_findWork_7 (by decide) ?_
  refine lv_iload_n hx hb dX12_findWork_10 rfl (lv_at hl 0 rfl) ?_
  refine lv_imul hx hb dX12_findWork_11 ?_
  refine k_topi (y := 2000) (by decide) ?_
  refine lv_istore_n (lv' := [(2, .int 2000), (1, .int 8), (0, .ref h0)]) hx hb dX12_findWork_12 rfl hl (by decide) rfl (fun ls hl => ?_)
  refine lv_aload_n hx hb dX12_findWork_13 rfl (lv_at hl 2 rfl) ?_
  refine va_get (D := D) (ref := "IntegerHouseModel") (ci := 12) (v := .ref h1) (C := RX12) (T := TX12) (N := 195) hx hb hts hin12 hown hK hP 0 rfl rfl 121 (by decide) (hts (.fieldLink RX12 304 "IntegerHouseModel" "needed" "[Z") (List.mem_cons_of_mem _ (List.mem_append_left _ (List.mem_of_getElem? (i := 0) rfl)))) (fun _ h9 => h9) e0 dX12_findWork_14 ?_
  refine lv_iload_n hx hb dX12_findWork_17 rfl (lv_at hl 1 rfl) ?_
  refine va_zald hx hb hK hP 1 3 rfl rfl (k_in (by decide)) dX12_findWork_18 ?_
  refine k_topi (y := 0) e17 ?_
  refine lv_if_eq (tgt := 67) hx hb dX12_findWork_19 (by decide) (fun _ => ?_) (fun c9 => absurd (by decide) c9)
  refine lv_bipush (v := 24) hx hb dX12_findWork_67 (by decide) ?_
  refine lv_iload_n hx hb dX12_findWork_69 rfl (lv_at hl 1 rfl) ?_
  refine lv_imul hx hb dX12_findWork_70 ?_
  refine k_topi (y := 192) (by decide) ?_
  refine lv_istore_n (lv' := [(2, .int 192), (1, .int 8), (0, .ref h0)]) hx hb dX12_findWork_71 rfl hl (by decide) rfl (fun ls hl => ?_)
  refine lv_aload_n hx hb dX12_findWork_72 rfl (lv_at hl 2 rfl) ?_
  refine va_get (D := D) (ref := "IntegerHouseModel") (ci := 12) (v := .ref h1) (C := RX12) (T := TX12) (N := 195) hx hb hts hin12 hown hK hP 0 rfl rfl 121 (by decide) (hts (.fieldLink RX12 304 "IntegerHouseModel" "needed" "[Z") (List.mem_cons_of_mem _ (List.mem_append_left _ (List.mem_of_getElem? (i := 0) rfl)))) (fun _ h9 => h9) e0 dX12_findWork_73 ?_
  refine lv_iload_n hx hb dX12_findWork_76 rfl (lv_at hl 1 rfl) ?_
  refine va_zald hx hb hK hP 1 3 rfl rfl (k_in (by decide)) dX12_findWork_77 ?_
  refine k_topi (y := 0) e17 ?_
  refine lv_if_eq (tgt := 113) hx hb dX12_findWork_78 (by decide) (fun _ => ?_) (fun c9 => absurd (by decide) c9)
  refine lv_iinc (v := 7) (lv' := [(1, .int 7), (2, .int 192), (0, .ref h0)]) hx hb dX12_findWork_113 hl (k := 1) rfl (by decide) (by decide) rfl (fun ls hl => ?_)
  refine lv_goto (tgt := 3) hx hb dX12_findWork_116 (by decide) ?_
  refine lv_iload_n hx hb dX12_findWork_3 rfl (lv_at hl 0 rfl) ?_
  refine lv_if_lt (tgt := 119) hx hb dX12_findWork_4 (by decide) (fun c9 => absurd c9 (by decide)) (fun _ => ?_)
  refine lv_sipush (v := 250) hx hb dX12_findWork_7 (by decide) ?_
  refine lv_iload_n hx hb dX12_findWork_10 rfl (lv_at hl 0 rfl) ?_
  refine lv_imul hx hb dX12_findWork_11 ?_
  refine k_topi (y := 1750) (by decide) ?_
  refine lv_istore_n (lv' := [(2, .int 1750), (1, .int 7), (0, .ref h0)]) hx hb dX12_findWork_12 rfl hl (by decide) rfl (fun ls hl => ?_)
  refine lv_aload_n hx hb dX12_findWork_13 rfl (lv_at hl 2 rfl) ?_
  refine va_get (D := D) (ref := "IntegerHouseModel") (ci := 12) (v := .ref h1) (C := RX12) (T := TX12) (N := 195) hx hb hts hin12 hown hK hP 0 rfl rfl 121 (by decide) (hts (.fieldLink RX12 304 "IntegerHouseModel" "needed" "[Z") (List.mem_cons_of_mem _ (List.mem_append_left _ (List.mem_of_getElem? (i := 0) rfl)))) (fun _ h9 => h9) e0 dX12_findWork_14 ?_
  refine lv_iload_n hx hb dX12_findWork_17 rfl (lv_at hl 1 rfl) ?_
  refine va_zald hx hb hK hP 1 3 rfl rfl (k_in (by decide)) dX12_findWork_18 ?_
  refine k_topi (y := 0) e18 ?_
  refine lv_if_eq (tgt := 67) hx hb dX12_findWork_19 (by decide) (fun _ => ?_) (fun c9 => absurd (by decide) c9)
  refine lv_bipush (v := 24) hx hb dX12_findWork_67 (by decide) ?_
  refine lv_iload_n hx hb dX12_findWork_69 rfl (lv_at hl 1 rfl) ?_
  refine lv_imul hx hb dX12_findWork_70 ?_
  refine k_topi (y := 168) (by decide) ?_
  refine lv_istore_n (lv' := [(2, .int 168), (1, .int 7), (0, .ref h0)]) hx hb dX12_findWork_71 rfl hl (by decide) rfl (fun ls hl => ?_)
  refine lv_aload_n hx hb dX12_findWork_72 rfl (lv_at hl 2 rfl) ?_
  refine va_get (D := D) (ref := "IntegerHouseModel") (ci := 12) (v := .ref h1) (C := RX12) (T := TX12) (N := 195) hx hb hts hin12 hown hK hP 0 rfl rfl 121 (by decide) (hts (.fieldLink RX12 304 "IntegerHouseModel" "needed" "[Z") (List.mem_cons_of_mem _ (List.mem_append_left _ (List.mem_of_getElem? (i := 0) rfl)))) (fun _ h9 => h9) e0 dX12_findWork_73 ?_
  refine lv_iload_n hx hb dX12_findWork_76 rfl (lv_at hl 1 rfl) ?_
  refine va_zald hx hb hK hP 1 3 rfl rfl (k_in (by decide)) dX12_findWork_77 ?_
  refine k_topi (y := 0) e18 ?_
  refine lv_if_eq (tgt := 113) hx hb dX12_findWork_78 (by decide) (fun _ => ?_) (fun c9 => absurd (by decide) c9)
  refine lv_iinc (v := 6) (lv' := [(1, .int 6), (2, .int 168), (0, .ref h0)]) hx hb dX12_findWork_113 hl (k := 1) rfl (by decide) (by decide) rfl (fun ls hl => ?_)
  refine lv_goto (tgt := 3) hx hb dX12_findWork_116 (by decide) ?_
  refine lv_iload_n hx hb dX12_findWork_3 rfl (lv_at hl 0 rfl) ?_
  refine lv_if_lt (tgt := 119) hx hb dX12_findWork_4 (by decide) (fun c9 => absurd c9 (by decide)) (fun _ => ?_)
  refine lv_sipush (v := 250) hx hb dX12_findWork_7 (by decide) ?_
  refine lv_iload_n hx hb dX12_findWork_10 rfl (lv_at hl 0 rfl) ?_
  refine lv_imul hx hb dX12_findWork_11 ?_
  refine k_topi (y := 1500) (by decide) ?_
  refine lv_istore_n (lv' := [(2, .int 1500), (1, .int 6), (0, .ref h0)]) hx hb dX12_findWork_12 rfl hl (by decide) rfl (fun ls hl => ?_)
  refine lv_aload_n hx hb dX12_findWork_13 rfl (lv_at hl 2 rfl) ?_
  refine va_get (D := D) (ref := "IntegerHouseModel") (ci := 12) (v := .ref h1) (C := RX12) (T := TX12) (N := 195) hx hb hts hin12 hown hK hP 0 rfl rfl 121 (by decide) (hts (.fieldLink RX12 304 "IntegerHouseModel" "needed" "[Z") (List.mem_cons_of_mem _ (List.mem_append_left _ (List.mem_of_getElem? (i := 0) rfl)))) (fun _ h9 => h9) e0 dX12_findWork_14 ?_
  refine lv_iload_n hx hb dX12_findWork_17 rfl (lv_at hl 1 rfl) ?_
  refine va_zald hx hb hK hP 1 3 rfl rfl (k_in (by decide)) dX12_findWork_18 ?_
  refine k_topi (y := 0) e19 ?_
  refine lv_if_eq (tgt := 67) hx hb dX12_findWork_19 (by decide) (fun _ => ?_) (fun c9 => absurd (by decide) c9)
  refine lv_bipush (v := 24) hx hb dX12_findWork_67 (by decide) ?_
  refine lv_iload_n hx hb dX12_findWork_69 rfl (lv_at hl 1 rfl) ?_
  refine lv_imul hx hb dX12_findWork_70 ?_
  refine k_topi (y := 144) (by decide) ?_
  refine lv_istore_n (lv' := [(2, .int 144), (1, .int 6), (0, .ref h0)]) hx hb dX12_findWork_71 rfl hl (by decide) rfl (fun ls hl => ?_)
  refine lv_aload_n hx hb dX12_findWork_72 rfl (lv_at hl 2 rfl) ?_
  refine va_get (D := D) (ref := "IntegerHouseModel") (ci := 12) (v := .ref h1) (C := RX12) (T := TX12) (N := 195) hx hb hts hin12 hown hK hP 0 rfl rfl 121 (by decide) (hts (.fieldLink RX12 304 "IntegerHouseModel" "needed" "[Z") (List.mem_cons_of_mem _ (List.mem_append_left _ (List.mem_of_getElem? (i := 0) rfl)))) (fun _ h9 => h9) e0 dX12_findWork_73 ?_
  refine lv_iload_n hx hb dX12_findWork_76 rfl (lv_at hl 1 rfl) ?_
  refine va_zald hx hb hK hP 1 3 rfl rfl (k_in (by decide)) dX12_findWork_77 ?_
  refine k_topi (y := 0) e19 ?_
  refine lv_if_eq (tgt := 113) hx hb dX12_findWork_78 (by decide) (fun _ => ?_) (fun c9 => absurd (by decide) c9)
  refine lv_iinc (v := 5) (lv' := [(1, .int 5), (2, .int 144), (0, .ref h0)]) hx hb dX12_findWork_113 hl (k := 1) rfl (by decide) (by decide) rfl (fun ls hl => ?_)
  refine lv_goto (tgt := 3) hx hb dX12_findWork_116 (by decide) ?_
  refine lv_iload_n hx hb dX12_findWork_3 rfl (lv_at hl 0 rfl) ?_
  refine lv_if_lt (tgt := 119) hx hb dX12_findWork_4 (by decide) (fun c9 => absurd c9 (by decide)) (fun _ => ?_)
  refine lv_sipush (v := 250) hx hb dX12_findWork_7 (by decide) ?_
  refine lv_iload_n hx hb dX12_findWork_10 rfl (lv_at hl 0 rfl) ?_
  refine lv_imul hx hb dX12_findWork_11 ?_
  refine k_topi (y := 1250) (by decide) ?_
  refine lv_istore_n (lv' := [(2, .int 1250), (1, .int 5), (0, .ref h0)]) hx hb dX12_findWork_12 rfl hl (by decide) rfl (fun ls hl => ?_)
  refine lv_aload_n hx hb dX12_findWork_13 rfl (lv_at hl 2 rfl) ?_
  refine va_get (D := D) (ref := "IntegerHouseModel") (ci := 12) (v := .ref h1) (C := RX12) (T := TX12) (N := 195) hx hb hts hin12 hown hK hP 0 rfl rfl 121 (by decide) (hts (.fieldLink RX12 304 "IntegerHouseModel" "needed" "[Z") (List.mem_cons_of_mem _ (List.mem_append_left _ (List.mem_of_getElem? (i := 0) rfl)))) (fun _ h9 => h9) e0 dX12_findWork_14 ?_
  refine lv_iload_n hx hb dX12_findWork_17 rfl (lv_at hl 1 rfl) ?_
  refine va_zald hx hb hK hP 1 3 rfl rfl (k_in (by decide)) dX12_findWork_18 ?_
  refine k_topi (y := 0) e20 ?_
  refine lv_if_eq (tgt := 67) hx hb dX12_findWork_19 (by decide) (fun _ => ?_) (fun c9 => absurd (by decide) c9)
  refine lv_bipush (v := 24) hx hb dX12_findWork_67 (by decide) ?_
  refine lv_iload_n hx hb dX12_findWork_69 rfl (lv_at hl 1 rfl) ?_
  refine lv_imul hx hb dX12_findWork_70 ?_
  refine k_topi (y := 120) (by decide) ?_
  refine lv_istore_n (lv' := [(2, .int 120), (1, .int 5), (0, .ref h0)]) hx hb dX12_findWork_71 rfl hl (by decide) rfl (fun ls hl => ?_)
  refine lv_aload_n hx hb dX12_findWork_72 rfl (lv_at hl 2 rfl) ?_
  refine va_get (D := D) (ref := "IntegerHouseModel") (ci := 12) (v := .ref h1) (C := RX12) (T := TX12) (N := 195) hx hb hts hin12 hown hK hP 0 rfl rfl 121 (by decide) (hts (.fieldLink RX12 304 "IntegerHouseModel" "needed" "[Z") (List.mem_cons_of_mem _ (List.mem_append_left _ (List.mem_of_getElem? (i := 0) rfl)))) (fun _ h9 => h9) e0 dX12_findWork_73 ?_
  refine lv_iload_n hx hb dX12_findWork_76 rfl (lv_at hl 1 rfl) ?_
  refine va_zald hx hb hK hP 1 3 rfl rfl (k_in (by decide)) dX12_findWork_77 ?_
  refine k_topi (y := 0) e20 ?_
  refine lv_if_eq (tgt := 113) hx hb dX12_findWork_78 (by decide) (fun _ => ?_) (fun c9 => absurd (by decide) c9)
  refine lv_iinc (v := 4) (lv' := [(1, .int 4), (2, .int 120), (0, .ref h0)]) hx hb dX12_findWork_113 hl (k := 1) rfl (by decide) (by decide) rfl (fun ls hl => ?_)
  refine lv_goto (tgt := 3) hx hb dX12_findWork_116 (by decide) ?_
  refine lv_iload_n hx hb dX12_findWork_3 rfl (lv_at hl 0 rfl) ?_
  refine lv_if_lt (tgt := 119) hx hb dX12_findWork_4 (by decide) (fun c9 => absurd c9 (by decide)) (fun _ => ?_)
  refine lv_sipush (v := 250) hx hb dX12_findWork_7 (by decide) ?_
  refine lv_iload_n hx hb dX12_findWork_10 rfl (lv_at hl 0 rfl) ?_
  refine lv_imul hx hb dX12_findWork_11 ?_
  refine k_topi (y := 1000) (by decide) ?_
  refine lv_istore_n (lv' := [(2, .int 1000), (1, .int 4), (0, .ref h0)]) hx hb dX12_findWork_12 rfl hl (by decide) rfl (fun ls hl => ?_)
  refine lv_aload_n hx hb dX12_findWork_13 rfl (lv_at hl 2 rfl) ?_
  refine va_get (D := D) (ref := "IntegerHouseModel") (ci := 12) (v := .ref h1) (C := RX12) (T := TX12) (N := 195) hx hb hts hin12 hown hK hP 0 rfl rfl 121 (by decide) (hts (.fieldLink RX12 304 "IntegerHouseModel" "needed" "[Z") (List.mem_cons_of_mem _ (List.mem_append_left _ (List.mem_of_getElem? (i := 0) rfl)))) (fun _ h9 => h9) e0 dX12_findWork_14 ?_
  refine lv_iload_n hx hb dX12_findWork_17 rfl (lv_at hl 1 rfl) ?_
  refine va_zald hx hb hK hP 1 3 rfl rfl (k_in (by decide)) dX12_findWork_18 ?_
  refine k_topi (y := 0) e21 ?_
  refine lv_if_eq (tgt := 67) hx hb dX12_findWork_19 (by decide) (fun _ => ?_) (fun c9 => absurd (by decide) c9)
  refine lv_bipush (v := 24) hx hb dX12_findWork_67 (by decide) ?_
  refine lv_iload_n hx hb dX12_findWork_69 rfl (lv_at hl 1 rfl) ?_
  refine lv_imul hx hb dX12_findWork_70 ?_
  refine k_topi (y := 96) (by decide) ?_
  refine lv_istore_n (lv' := [(2, .int 96), (1, .int 4), (0, .ref h0)]) hx hb dX12_findWork_71 rfl hl (by decide) rfl (fun ls hl => ?_)
  refine lv_aload_n hx hb dX12_findWork_72 rfl (lv_at hl 2 rfl) ?_
  refine va_get (D := D) (ref := "IntegerHouseModel") (ci := 12) (v := .ref h1) (C := RX12) (T := TX12) (N := 195) hx hb hts hin12 hown hK hP 0 rfl rfl 121 (by decide) (hts (.fieldLink RX12 304 "IntegerHouseModel" "needed" "[Z") (List.mem_cons_of_mem _ (List.mem_append_left _ (List.mem_of_getElem? (i := 0) rfl)))) (fun _ h9 => h9) e0 dX12_findWork_73 ?_
  refine lv_iload_n hx hb dX12_findWork_76 rfl (lv_at hl 1 rfl) ?_
  refine va_zald hx hb hK hP 1 3 rfl rfl (k_in (by decide)) dX12_findWork_77 ?_
  refine k_topi (y := 0) e21 ?_
  refine lv_if_eq (tgt := 113) hx hb dX12_findWork_78 (by decide) (fun _ => ?_) (fun c9 => absurd (by decide) c9)
  refine lv_iinc (v := 3) (lv' := [(1, .int 3), (2, .int 96), (0, .ref h0)]) hx hb dX12_findWork_113 hl (k := 1) rfl (by decide) (by decide) rfl (fun ls hl => ?_)
  refine lv_goto (tgt := 3) hx hb dX12_findWork_116 (by decide) ?_
  refine lv_iload_n hx hb dX12_findWork_3 rfl (lv_at hl 0 rfl) ?_
  refine lv_if_lt (tgt := 119) hx hb dX12_findWork_4 (by decide) (fun c9 => absurd c9 (by decide)) (fun _ => ?_)
  refine lv_sipush (v := 250) hx hb dX12_findWork_7 (by decide) ?_
  refine lv_iload_n hx hb dX12_findWork_10 rfl (lv_at hl 0 rfl) ?_
  refine lv_imul hx hb dX12_findWork_11 ?_
  refine k_topi (y := 750) (by decide) ?_
  refine lv_istore_n (lv' := [(2, .int 750), (1, .int 3), (0, .ref h0)]) hx hb dX12_findWork_12 rfl hl (by decide) rfl (fun ls hl => ?_)
  refine lv_aload_n hx hb dX12_findWork_13 rfl (lv_at hl 2 rfl) ?_
  refine va_get (D := D) (ref := "IntegerHouseModel") (ci := 12) (v := .ref h1) (C := RX12) (T := TX12) (N := 195) hx hb hts hin12 hown hK hP 0 rfl rfl 121 (by decide) (hts (.fieldLink RX12 304 "IntegerHouseModel" "needed" "[Z") (List.mem_cons_of_mem _ (List.mem_append_left _ (List.mem_of_getElem? (i := 0) rfl)))) (fun _ h9 => h9) e0 dX12_findWork_14 ?_
  refine lv_iload_n hx hb dX12_findWork_17 rfl (lv_at hl 1 rfl) ?_
  refine va_zald hx hb hK hP 1 3 rfl rfl (k_in (by decide)) dX12_findWork_18 ?_
  refine k_topi (y := 0) e22 ?_
  refine lv_if_eq (tgt := 67) hx hb dX12_findWork_19 (by decide) (fun _ => ?_) (fun c9 => absurd (by decide) c9)
  refine lv_bipush (v := 24) hx hb dX12_findWork_67 (by decide) ?_
  refine lv_iload_n hx hb dX12_findWork_69 rfl (lv_at hl 1 rfl) ?_
  refine lv_imul hx hb dX12_findWork_70 ?_
  refine k_topi (y := 72) (by decide) ?_
  refine lv_istore_n (lv' := [(2, .int 72), (1, .int 3), (0, .ref h0)]) hx hb dX12_findWork_71 rfl hl (by decide) rfl (fun ls hl => ?_)
  refine lv_aload_n hx hb dX12_findWork_72 rfl (lv_at hl 2 rfl) ?_
  refine va_get (D := D) (ref := "IntegerHouseModel") (ci := 12) (v := .ref h1) (C := RX12) (T := TX12) (N := 195) hx hb hts hin12 hown hK hP 0 rfl rfl 121 (by decide) (hts (.fieldLink RX12 304 "IntegerHouseModel" "needed" "[Z") (List.mem_cons_of_mem _ (List.mem_append_left _ (List.mem_of_getElem? (i := 0) rfl)))) (fun _ h9 => h9) e0 dX12_findWork_73 ?_
  refine lv_iload_n hx hb dX12_findWork_76 rfl (lv_at hl 1 rfl) ?_
  refine va_zald hx hb hK hP 1 3 rfl rfl (k_in (by decide)) dX12_findWork_77 ?_
  refine k_topi (y := 0) e22 ?_
  refine lv_if_eq (tgt := 113) hx hb dX12_findWork_78 (by decide) (fun _ => ?_) (fun c9 => absurd (by decide) c9)
  refine lv_iinc (v := 2) (lv' := [(1, .int 2), (2, .int 72), (0, .ref h0)]) hx hb dX12_findWork_113 hl (k := 1) rfl (by decide) (by decide) rfl (fun ls hl => ?_)
  refine lv_goto (tgt := 3) hx hb dX12_findWork_116 (by decide) ?_
  refine lv_iload_n hx hb dX12_findWork_3 rfl (lv_at hl 0 rfl) ?_
  refine lv_if_lt (tgt := 119) hx hb dX12_findWork_4 (by decide) (fun c9 => absurd c9 (by decide)) (fun _ => ?_)
  refine lv_sipush (v := 250) hx hb dX12_findWork_7 (by decide) ?_
  refine lv_iload_n hx hb dX12_findWork_10 rfl (lv_at hl 0 rfl) ?_
  refine lv_imul hx hb dX12_findWork_11 ?_
  refine k_topi (y := 500) (by decide) ?_
  refine lv_istore_n (lv' := [(2, .int 500), (1, .int 2), (0, .ref h0)]) hx hb dX12_findWork_12 rfl hl (by decide) rfl (fun ls hl => ?_)
  refine lv_aload_n hx hb dX12_findWork_13 rfl (lv_at hl 2 rfl) ?_
  refine va_get (D := D) (ref := "IntegerHouseModel") (ci := 12) (v := .ref h1) (C := RX12) (T := TX12) (N := 195) hx hb hts hin12 hown hK hP 0 rfl rfl 121 (by decide) (hts (.fieldLink RX12 304 "IntegerHouseModel" "needed" "[Z") (List.mem_cons_of_mem _ (List.mem_append_left _ (List.mem_of_getElem? (i := 0) rfl)))) (fun _ h9 => h9) e0 dX12_findWork_14 ?_
  refine lv_iload_n hx hb dX12_findWork_17 rfl (lv_at hl 1 rfl) ?_
  refine va_zald hx hb hK hP 1 3 rfl rfl (k_in (by decide)) dX12_findWork_18 ?_
  refine k_topi (y := 0) e23 ?_
  refine lv_if_eq (tgt := 67) hx hb dX12_findWork_19 (by decide) (fun _ => ?_) (fun c9 => absurd (by decide) c9)
  refine lv_bipush (v := 24) hx hb dX12_findWork_67 (by decide) ?_
  refine lv_iload_n hx hb dX12_findWork_69 rfl (lv_at hl 1 rfl) ?_
  refine lv_imul hx hb dX12_findWork_70 ?_
  refine k_topi (y := 48) (by decide) ?_
  refine lv_istore_n (lv' := [(2, .int 48), (1, .int 2), (0, .ref h0)]) hx hb dX12_findWork_71 rfl hl (by decide) rfl (fun ls hl => ?_)
  refine lv_aload_n hx hb dX12_findWork_72 rfl (lv_at hl 2 rfl) ?_
  refine va_get (D := D) (ref := "IntegerHouseModel") (ci := 12) (v := .ref h1) (C := RX12) (T := TX12) (N := 195) hx hb hts hin12 hown hK hP 0 rfl rfl 121 (by decide) (hts (.fieldLink RX12 304 "IntegerHouseModel" "needed" "[Z") (List.mem_cons_of_mem _ (List.mem_append_left _ (List.mem_of_getElem? (i := 0) rfl)))) (fun _ h9 => h9) e0 dX12_findWork_73 ?_
  refine lv_iload_n hx hb dX12_findWork_76 rfl (lv_at hl 1 rfl) ?_
  refine va_zald hx hb hK hP 1 3 rfl rfl (k_in (by decide)) dX12_findWork_77 ?_
  refine k_topi (y := 0) e23 ?_
  refine lv_if_eq (tgt := 113) hx hb dX12_findWork_78 (by decide) (fun _ => ?_) (fun c9 => absurd (by decide) c9)
  refine lv_iinc (v := 1) (lv' := [(1, .int 1), (2, .int 48), (0, .ref h0)]) hx hb dX12_findWork_113 hl (k := 1) rfl (by decide) (by decide) rfl (fun ls hl => ?_)
  refine lv_goto (tgt := 3) hx hb dX12_findWork_116 (by decide) ?_
  refine lv_iload_n hx hb dX12_findWork_3 rfl (lv_at hl 0 rfl) ?_
  refine lv_if_lt (tgt := 119) hx hb dX12_findWork_4 (by decide) (fun c9 => absurd c9 (by decide)) (fun _ => ?_)
  refine lv_sipush (v := 250) hx hb dX12_findWork_7 (by decide) ?_
  refine lv_iload_n hx hb dX12_findWork_10 rfl (lv_at hl 0 rfl) ?_
  refine lv_imul hx hb dX12_findWork_11 ?_
  refine k_topi (y := 250) (by decide) ?_
  refine lv_istore_n (lv' := [(2, .int 250), (1, .int 1), (0, .ref h0)]) hx hb dX12_findWork_12 rfl hl (by decide) rfl (fun ls hl => ?_)
  refine lv_aload_n hx hb dX12_findWork_13 rfl (lv_at hl 2 rfl) ?_
  refine va_get (D := D) (ref := "IntegerHouseModel") (ci := 12) (v := .ref h1) (C := RX12) (T := TX12) (N := 195) hx hb hts hin12 hown hK hP 0 rfl rfl 121 (by decide) (hts (.fieldLink RX12 304 "IntegerHouseModel" "needed" "[Z") (List.mem_cons_of_mem _ (List.mem_append_left _ (List.mem_of_getElem? (i := 0) rfl)))) (fun _ h9 => h9) e0 dX12_findWork_14 ?_
  refine lv_iload_n hx hb dX12_findWork_17 rfl (lv_at hl 1 rfl) ?_
  refine va_zald hx hb hK hP 1 3 rfl rfl (k_in (by decide)) dX12_findWork_18 ?_
  refine k_topi (y := 0) e24 ?_
  refine lv_if_eq (tgt := 67) hx hb dX12_findWork_19 (by decide) (fun _ => ?_) (fun c9 => absurd (by decide) c9)
  refine lv_bipush (v := 24) hx hb dX12_findWork_67 (by decide) ?_
  refine lv_iload_n hx hb dX12_findWork_69 rfl (lv_at hl 1 rfl) ?_
  refine lv_imul hx hb dX12_findWork_70 ?_
  refine k_topi (y := 24) (by decide) ?_
  refine lv_istore_n (lv' := [(2, .int 24), (1, .int 1), (0, .ref h0)]) hx hb dX12_findWork_71 rfl hl (by decide) rfl (fun ls hl => ?_)
  refine lv_aload_n hx hb dX12_findWork_72 rfl (lv_at hl 2 rfl) ?_
  refine va_get (D := D) (ref := "IntegerHouseModel") (ci := 12) (v := .ref h1) (C := RX12) (T := TX12) (N := 195) hx hb hts hin12 hown hK hP 0 rfl rfl 121 (by decide) (hts (.fieldLink RX12 304 "IntegerHouseModel" "needed" "[Z") (List.mem_cons_of_mem _ (List.mem_append_left _ (List.mem_of_getElem? (i := 0) rfl)))) (fun _ h9 => h9) e0 dX12_findWork_73 ?_
  refine lv_iload_n hx hb dX12_findWork_76 rfl (lv_at hl 1 rfl) ?_
  refine va_zald hx hb hK hP 1 3 rfl rfl (k_in (by decide)) dX12_findWork_77 ?_
  refine k_topi (y := 0) e24 ?_
  refine lv_if_eq (tgt := 113) hx hb dX12_findWork_78 (by decide) (fun _ => ?_) (fun c9 => absurd (by decide) c9)
  refine lv_iinc (v := 0) (lv' := [(1, .int 0), (2, .int 24), (0, .ref h0)]) hx hb dX12_findWork_113 hl (k := 1) rfl (by decide) (by decide) rfl (fun ls hl => ?_)
  refine lv_goto (tgt := 3) hx hb dX12_findWork_116 (by decide) ?_
  refine lv_iload_n hx hb dX12_findWork_3 rfl (lv_at hl 0 rfl) ?_
  refine lv_if_lt (tgt := 119) hx hb dX12_findWork_4 (by decide) (fun c9 => absurd c9 (by decide)) (fun _ => ?_)
  refine lv_sipush (v := 250) hx hb dX12_findWork_7 (by decide) ?_
  refine lv_iload_n hx hb dX12_findWork_10 rfl (lv_at hl 0 rfl) ?_
  refine lv_imul hx hb dX12_findWork_11 ?_
  refine k_topi (y := 0) (by decide) ?_
  refine lv_istore_n (lv' := [(2, .int 0), (1, .int 0), (0, .ref h0)]) hx hb dX12_findWork_12 rfl hl (by decide) rfl (fun ls hl => ?_)
  refine lv_aload_n hx hb dX12_findWork_13 rfl (lv_at hl 2 rfl) ?_
  refine va_get (D := D) (ref := "IntegerHouseModel") (ci := 12) (v := .ref h1) (C := RX12) (T := TX12) (N := 195) hx hb hts hin12 hown hK hP 0 rfl rfl 121 (by decide) (hts (.fieldLink RX12 304 "IntegerHouseModel" "needed" "[Z") (List.mem_cons_of_mem _ (List.mem_append_left _ (List.mem_of_getElem? (i := 0) rfl)))) (fun _ h9 => h9) e0 dX12_findWork_14 ?_
  refine lv_iload_n hx hb dX12_findWork_17 rfl (lv_at hl 1 rfl) ?_
  refine va_zald hx hb hK hP 1 3 rfl rfl (k_in (by decide)) dX12_findWork_18 ?_
  refine k_topi (y := 0) e25 ?_
  refine lv_if_eq (tgt := 67) hx hb dX12_findWork_19 (by decide) (fun _ => ?_) (fun c9 => absurd (by decide) c9)
  refine lv_bipush (v := 24) hx hb dX12_findWork_67 (by decide) ?_
  refine lv_iload_n hx hb dX12_findWork_69 rfl (lv_at hl 1 rfl) ?_
  refine lv_imul hx hb dX12_findWork_70 ?_
  refine k_topi (y := 0) (by decide) ?_
  refine lv_istore_n (lv' := [(2, .int 0), (1, .int 0), (0, .ref h0)]) hx hb dX12_findWork_71 rfl hl (by decide) rfl (fun ls hl => ?_)
  refine lv_aload_n hx hb dX12_findWork_72 rfl (lv_at hl 2 rfl) ?_
  refine va_get (D := D) (ref := "IntegerHouseModel") (ci := 12) (v := .ref h1) (C := RX12) (T := TX12) (N := 195) hx hb hts hin12 hown hK hP 0 rfl rfl 121 (by decide) (hts (.fieldLink RX12 304 "IntegerHouseModel" "needed" "[Z") (List.mem_cons_of_mem _ (List.mem_append_left _ (List.mem_of_getElem? (i := 0) rfl)))) (fun _ h9 => h9) e0 dX12_findWork_73 ?_
  refine lv_iload_n hx hb dX12_findWork_76 rfl (lv_at hl 1 rfl) ?_
  refine va_zald hx hb hK hP 1 3 rfl rfl (k_in (by decide)) dX12_findWork_77 ?_
  refine k_topi (y := 0) e25 ?_
  refine lv_if_eq (tgt := 113) hx hb dX12_findWork_78 (by decide) (fun _ => ?_) (fun c9 => absurd (by decide) c9)
  refine lv_iinc (v := (-1)) (lv' := [(1, .int (-1)), (2, .int 0), (0, .ref h0)]) hx hb dX12_findWork_113 hl (k := 1) rfl (by decide) (by decide) rfl (fun ls hl => ?_)
  refine lv_goto (tgt := 3) hx hb dX12_findWork_116 (by decide) ?_
  refine lv_iload_n hx hb dX12_findWork_3 rfl (lv_at hl 0 rfl) ?_
  refine lv_if_lt (tgt := 119) hx hb dX12_findWork_4 (by decide) (fun _ => ?_) (fun c9 => absurd (by decide) c9)
  exact W.vret hx hb hr (fun t ht hW => ⟨⟨(), rfl, trivial, kB_mk ht hW hP hK hD⟩, hS.F ht⟩) hS.2.2 dX12_findWork_119
set_option maxHeartbeats 400000000 in
set_option maxRecDepth 100000 in
theorem c_X12_placeOf_0 (l : Launch) (E : kE) (D : va_G) (cI cJ cB cZ : ClassId) (h0 : Nat) (f0 : List Value) (h1 : Nat) (g0 : Nat → Int32) (h2 : Nat) (g1 : Nat → Int32) (e0 : f0[119]? = some (.int 0)) (e1 : f0[127]? = some (.ref h1)) (e2 : g0 17 = (-1)) (e3 : f0[129]? = some (.int 0)) (e4 : f0[128]? = some (.ref h2)) : kI l E D (kT cI cJ cB cZ) yX12_placeOf wsX12_placeOf ({ frames := 0, cells := 0, slots := 0, locals := 0 }) [.ref h0] [(h0, .inr (12, f0)), (h1, .inl (cI, 32768, .inl g0)), (h2, .inl (cI, 3000, .inl g1))] (0) [(h0, .inr (12, (f0.set 129 (.int 1)))), (h1, .inl (cI, 32768, .inl (upd g0 17 0))), (h2, .inl (cI, 3000, .inl (upd g1 0 (-1))))] 0 0 := by
  intro sz
  refine Met.ofW (cc := cX12_placeOf) (maxL := 5) (ret := (some .int)) (by decide) rfl ?_
  intro p e s m args below meth c s₁ B hml hv
  obtain ⟨rfl, hsz, hP, hK, hD0, hN, hX⟩ := hv
  have hx := B.exec
  have hb := B.bytes
  have hr := B.returns
  have hts := atoms_spec (ws := wsX12_placeOf) B.pre
  have hown : s.vm.findClass RX12 = some m.cls := findClass_of_methodNamed B.named
  have hlocks := B.notSynchronized
  have hin12 : ∀ w ∈ wsX120, w ∈ wsX12_placeOf := (fun w h => (List.mem_cons_of_mem _ (List.mem_append_right _ h)))
  subst hsz
  have hD := hD0.self (sz := s.heap.size)
  have hAE := k_AE hD0 hX
  generalize hAe : va_A [(h0, .inr (12, f0)), (h1, .inl (cI, 32768, .inl g0)), (h2, .inl (cI, 3000, .inl g1))] s.heap.size = A at hD hAE ⊢
  have hA : ∀ q : Nat, s.heap.size ≤ q → A q := fun q h => by rw [← hAe]; exact Or.inr h
  have hS : va_S A s.heap s.heap [] := va_S.rf
  have hP : va_P D vwCl [(h0, .inr (12, f0)), (h1, .inl (cI, 32768, .inl g0)), (h2, .inl (cI, 3000, .inl g1))] s.heap := hP
  have hl := lv_entry ([.ref h0] : List Value) (n := 5) (Nat.le_of_ble_eq_true rfl)
  rw [lg_entry_eq]
  generalize (lg_sl ([.ref h0]) ++ List.replicate (5 - (lg_sl ([.ref h0])).length) Slot.unset).toArray = ls at hl ⊢
  have hl : lv_has ls 5 [(0, .ref h0)] := hl
  refine lv_bipush (v := 17) hx hb dX12_placeOf_0 (by decide) ?_
  refine lv_istore_n (lv' := [(1, .int 17), (0, .ref h0)]) hx hb dX12_placeOf_2 rfl hl (by decide) rfl (fun ls hl => ?_)
  refine lv_iconst (v := 0) hx hb dX12_placeOf_3 (by decide) ?_
  refine lv_istore_n (lv' := [(2, .int 0), (1, .int 17), (0, .ref h0)]) hx hb dX12_placeOf_4 rfl hl (by decide) rfl (fun ls hl => ?_)
  refine lv_iload_n hx hb dX12_placeOf_5 rfl (lv_at hl 0 rfl) ?_
  refine lv_aload_n hx hb dX12_placeOf_6 rfl (lv_at hl 2 rfl) ?_
  refine va_get (D := D) (ref := "IntegerHouseModel") (ci := 12) (v := .int 0) (C := RX12) (T := TX12) (N := 195) hx hb hts hin12 hown hK hP 0 rfl rfl 119 (by decide) (hts (.fieldLink RX12 928 "IntegerHouseModel" "work" "I") (List.mem_cons_of_mem _ (List.mem_append_left _ (List.mem_of_getElem? (i := 0) rfl)))) (fun _ h9 => h9) e0 dX12_placeOf_7 ?_
  refine lv_icmp_ge (tgt := 39) hx hb dX12_placeOf_10 (by decide) (fun _ => ?_) (fun c9 => absurd (by decide) c9)
  refine lv_iload_n hx hb dX12_placeOf_39 rfl (lv_at hl 1 rfl) ?_
  refine lv_sipush (v := 32767) hx hb dX12_placeOf_40 (by decide) ?_
  refine lv_iand hx hb dX12_placeOf_43 ?_
  refine k_topi (y := 17) (by decide) ?_
  refine lv_istore_n (lv' := [(1, .int 17), (2, .int 0), (0, .ref h0)]) hx hb dX12_placeOf_44 rfl hl (by decide) rfl (fun ls hl => ?_)
  refine lv_aload_n hx hb dX12_placeOf_45 rfl (lv_at hl 2 rfl) ?_
  refine va_get (D := D) (ref := "IntegerHouseModel") (ci := 12) (v := .ref h1) (C := RX12) (T := TX12) (N := 195) hx hb hts hin12 hown hK hP 0 rfl rfl 127 (by decide) (hts (.fieldLink RX12 325 "IntegerHouseModel" "heads" "[I") (List.mem_cons_of_mem _ (List.mem_append_left _ (List.mem_of_getElem? (i := 3) rfl)))) (fun _ h9 => h9) e1 dX12_placeOf_46 ?_
  refine lv_iload_n hx hb dX12_placeOf_49 rfl (lv_at hl 0 rfl) ?_
  refine va_iald hx hb hK hP 1 0 rfl rfl (k_in (by decide)) dX12_placeOf_50 ?_
  refine k_topi (y := (-1)) e2 ?_
  refine lv_istore_n (lv' := [(2, .int (-1)), (1, .int 17), (0, .ref h0)]) hx hb dX12_placeOf_51 rfl hl (by decide) rfl (fun ls hl => ?_)
  refine lv_iload_n hx hb dX12_placeOf_52 rfl (lv_at hl 0 rfl) ?_
  refine lv_iconst (v := (-1)) hx hb dX12_placeOf_53 (by decide) ?_
  refine lv_icmp_eq (tgt := 125) hx hb dX12_placeOf_54 (by decide) (fun _ => ?_) (fun c9 => absurd (by decide) c9)
  refine lv_aload_n hx hb dX12_placeOf_125 rfl (lv_at hl 2 rfl) ?_
  refine va_get (D := D) (ref := "IntegerHouseModel") (ci := 12) (v := .int 0) (C := RX12) (T := TX12) (N := 195) hx hb hts hin12 hown hK hP 0 rfl rfl 129 (by decide) (hts (.fieldLink RX12 957 "IntegerHouseModel" "places" "I") (List.mem_cons_of_mem _ (List.mem_append_left _ (List.mem_of_getElem? (i := 6) rfl)))) (fun _ h9 => h9) e3 dX12_placeOf_126 ?_
  refine lv_sipush (v := 3000) hx hb dX12_placeOf_129 (by decide) ?_
  refine lv_icmp_ne (tgt := 139) hx hb dX12_placeOf_132 (by decide) (fun _ => ?_) (fun c9 => absurd c9 (by decide))
  refine lv_iconst (v := 0) hx hb dX12_placeOf_139 (by decide) ?_
  refine lv_istore_n (lv' := [(2, .int 0), (1, .int 17), (0, .ref h0)]) hx hb dX12_placeOf_140 rfl hl (by decide) rfl (fun ls hl => ?_)
  refine lv_iload_n hx hb dX12_placeOf_141 rfl (lv_at hl 0 rfl) ?_
  refine lv_aload_n hx hb dX12_placeOf_142 rfl (lv_at hl 2 rfl) ?_
  refine va_get (D := D) (ref := "IntegerHouseModel") (ci := 12) (v := .int 0) (C := RX12) (T := TX12) (N := 195) hx hb hts hin12 hown hK hP 0 rfl rfl 119 (by decide) (hts (.fieldLink RX12 928 "IntegerHouseModel" "work" "I") (List.mem_cons_of_mem _ (List.mem_append_left _ (List.mem_of_getElem? (i := 0) rfl)))) (fun _ h9 => h9) e0 dX12_placeOf_143 ?_
  refine lv_icmp_ge (tgt := 175) hx hb dX12_placeOf_146 (by decide) (fun _ => ?_) (fun c9 => absurd (by decide) c9)
  refine lv_aload_n hx hb dX12_placeOf_175 rfl (lv_at hl 2 rfl) ?_
  refine va_get (D := D) (ref := "IntegerHouseModel") (ci := 12) (v := .ref h2) (C := RX12) (T := TX12) (N := 195) hx hb hts hin12 hown hK hP 0 rfl rfl 128 (by decide) (hts (.fieldLink RX12 328 "IntegerHouseModel" "chain" "[I") (List.mem_cons_of_mem _ (List.mem_append_left _ (List.mem_of_getElem? (i := 5) rfl)))) (fun _ h9 => h9) e4 dX12_placeOf_176 ?_
  refine lv_aload_n hx hb dX12_placeOf_179 rfl (lv_at hl 2 rfl) ?_
  refine va_get (D := D) (ref := "IntegerHouseModel") (ci := 12) (v := .int 0) (C := RX12) (T := TX12) (N := 195) hx hb hts hin12 hown hK hP 0 rfl rfl 129 (by decide) (hts (.fieldLink RX12 957 "IntegerHouseModel" "places" "I") (List.mem_cons_of_mem _ (List.mem_append_left _ (List.mem_of_getElem? (i := 6) rfl)))) (fun _ h9 => h9) e3 dX12_placeOf_180 ?_
  refine lv_aload_n hx hb dX12_placeOf_183 rfl (lv_at hl 2 rfl) ?_
  refine va_get (D := D) (ref := "IntegerHouseModel") (ci := 12) (v := .ref h1) (C := RX12) (T := TX12) (N := 195) hx hb hts hin12 hown hK hP 0 rfl rfl 127 (by decide) (hts (.fieldLink RX12 325 "IntegerHouseModel" "heads" "[I") (List.mem_cons_of_mem _ (List.mem_append_left _ (List.mem_of_getElem? (i := 3) rfl)))) (fun _ h9 => h9) e1 dX12_placeOf_184 ?_
  refine lv_iload_n hx hb dX12_placeOf_187 rfl (lv_at hl 1 rfl) ?_
  refine va_iald hx hb hK hP 1 0 rfl rfl (k_in (by decide)) dX12_placeOf_188 ?_
  refine k_topi (y := (-1)) e2 ?_
  refine va_iast hx hb hK hP hD hS 2 0 rfl rfl (k_in (by decide)) dX12_placeOf_189 (fun H locs hP hD hS => ?_)
  have hP : va_P D vwCl [(h0, .inr (12, f0)), (h1, .inl (cI, 32768, .inl g0)), (h2, .inl (cI, 3000, .inl (upd g1 0 (-1))))] H := hP
  have hD : va_D A [(h0, .inr (12, f0)), (h1, .inl (cI, 32768, .inl g0)), (h2, .inl (cI, 3000, .inl (upd g1 0 (-1))))] := hD
  refine lv_aload_n hx hb dX12_placeOf_190 rfl (lv_at hl 2 rfl) ?_
  refine va_get (D := D) (ref := "IntegerHouseModel") (ci := 12) (v := .ref h1) (C := RX12) (T := TX12) (N := 195) hx hb hts hin12 hown hK hP 0 rfl rfl 127 (by decide) (hts (.fieldLink RX12 325 "IntegerHouseModel" "heads" "[I") (List.mem_cons_of_mem _ (List.mem_append_left _ (List.mem_of_getElem? (i := 3) rfl)))) (fun _ h9 => h9) e1 dX12_placeOf_191 ?_
  refine lv_iload_n hx hb dX12_placeOf_194 rfl (lv_at hl 1 rfl) ?_
  refine lv_aload_n hx hb dX12_placeOf_195 rfl (lv_at hl 2 rfl) ?_
  refine va_get (D := D) (ref := "IntegerHouseModel") (ci := 12) (v := .int 0) (C := RX12) (T := TX12) (N := 195) hx hb hts hin12 hown hK hP 0 rfl rfl 129 (by decide) (hts (.fieldLink RX12 957 "IntegerHouseModel" "places" "I") (List.mem_cons_of_mem _ (List.mem_append_left _ (List.mem_of_getElem? (i := 6) rfl)))) (fun _ h9 => h9) e3 dX12_placeOf_196 ?_
  refine va_iast hx hb hK hP hD hS 1 0 rfl rfl (k_in (by decide)) dX12_placeOf_199 (fun H locs hP hD hS => ?_)
  have hP : va_P D vwCl [(h0, .inr (12, f0)), (h1, .inl (cI, 32768, .inl (upd g0 17 0))), (h2, .inl (cI, 3000, .inl (upd g1 0 (-1))))] H := hP
  have hD : va_D A [(h0, .inr (12, f0)), (h1, .inl (cI, 32768, .inl (upd g0 17 0))), (h2, .inl (cI, 3000, .inl (upd g1 0 (-1))))] := hD
  refine lv_aload_n hx hb dX12_placeOf_200 rfl (lv_at hl 2 rfl) ?_
  refine lv_dup hx hb dX12_placeOf_201 rfl ?_
  refine va_get (D := D) (ref := "IntegerHouseModel") (ci := 12) (v := .int 0) (C := RX12) (T := TX12) (N := 195) hx hb hts hin12 hown hK hP 0 rfl rfl 129 (by decide) (hts (.fieldLink RX12 957 "IntegerHouseModel" "places" "I") (List.mem_cons_of_mem _ (List.mem_append_left _ (List.mem_of_getElem? (i := 6) rfl)))) (fun _ h9 => h9) e3 dX12_placeOf_202 ?_
  refine lv_iconst (v := 1) hx hb dX12_placeOf_205 (by decide) ?_
  refine lv_iadd hx hb dX12_placeOf_206 ?_
  refine k_topi (y := 1) (by decide) ?_
  refine va_put (D := D) (ref := "IntegerHouseModel") (ci := 12) (v := .int 1) (ty := .int) (C := RX12) (T := TX12) (N := 195) hx hb hts hin12 tyX12 tyX12_ok nmX12 hown hK hP hD hS 0 rfl rfl 129 (by decide) (hts (.fieldLink RX12 957 "IntegerHouseModel" "places" "I") (List.mem_cons_of_mem _ (List.mem_append_left _ (List.mem_of_getElem? (i := 6) rfl)))) (fun _ h9 => h9) rfl (by decide +kernel) rfl rfl (k_len e3) dX12_placeOf_207 (fun H locs hP hD hS => ?_)
  have hP : va_P D vwCl [(h0, .inr (12, (f0.set 129 (.int 1)))), (h1, .inl (cI, 32768, .inl (upd g0 17 0))), (h2, .inl (cI, 3000, .inl (upd g1 0 (-1))))] H := hP
  have hD : va_D A [(h0, .inr (12, (f0.set 129 (.int 1)))), (h1, .inl (cI, 32768, .inl (upd g0 17 0))), (h2, .inl (cI, 3000, .inl (upd g1 0 (-1))))] := hD
  refine lv_aload_n hx hb dX12_placeOf_210 rfl (lv_at hl 2 rfl) ?_
  refine va_get (D := D) (ref := "IntegerHouseModel") (ci := 12) (v := .int 1) (C := RX12) (T := TX12) (N := 195) hx hb hts hin12 hown hK hP 0 rfl rfl 129 (by decide) (hts (.fieldLink RX12 957 "IntegerHouseModel" "places" "I") (List.mem_cons_of_mem _ (List.mem_append_left _ (List.mem_of_getElem? (i := 6) rfl)))) (fun _ h9 => h9) (k_set e3) dX12_placeOf_211 ?_
  refine lv_iconst (v := 1) hx hb dX12_placeOf_214 (by decide) ?_
  refine lv_isub hx hb dX12_placeOf_215 ?_
  refine k_topi (y := 0) (by decide) ?_
  exact W.iret (v := 0) hx hb hr (fun t ht hW => ⟨⟨0, (), rfl, rfl, kB_mk ht hW hP hK hD⟩, hS.F ht⟩) hS.2.2 dX12_placeOf_216
set_option maxHeartbeats 400000000 in
set_option maxRecDepth 100000 in
theorem c_X12_placeOf_1 (l : Launch) (E : kE) (D : va_G) (cI cJ cB cZ : ClassId) (h0 : Nat) (f0 : List Value) (h1 : Nat) (g0 : Nat → Int32) (e0 : f0[119]? = some (.int 0)) (e1 : f0[127]? = some (.ref h1)) (e2 : g0 17 = 0) : kI l E D (kT cI cJ cB cZ) yX12_placeOf wsX12_placeOf ({ frames := 0, cells := 0, slots := 0, locals := 0 }) [.ref h0] [(h0, .inr (12, f0)), (h1, .inl (cI, 32768, .inl g0))] (0) [(h0, .inr (12, f0)), (h1, .inl (cI, 32768, .inl g0))] 0 0 := by
  intro sz
  refine Met.ofW (cc := cX12_placeOf) (maxL := 5) (ret := (some .int)) (by decide) rfl ?_
  intro p e s m args below meth c s₁ B hml hv
  obtain ⟨rfl, hsz, hP, hK, hD0, hN, hX⟩ := hv
  have hx := B.exec
  have hb := B.bytes
  have hr := B.returns
  have hts := atoms_spec (ws := wsX12_placeOf) B.pre
  have hown : s.vm.findClass RX12 = some m.cls := findClass_of_methodNamed B.named
  have hlocks := B.notSynchronized
  have hin12 : ∀ w ∈ wsX120, w ∈ wsX12_placeOf := (fun w h => (List.mem_cons_of_mem _ (List.mem_append_right _ h)))
  subst hsz
  have hD := hD0.self (sz := s.heap.size)
  have hAE := k_AE hD0 hX
  generalize hAe : va_A [(h0, .inr (12, f0)), (h1, .inl (cI, 32768, .inl g0))] s.heap.size = A at hD hAE ⊢
  have hA : ∀ q : Nat, s.heap.size ≤ q → A q := fun q h => by rw [← hAe]; exact Or.inr h
  have hS : va_S A s.heap s.heap [] := va_S.rf
  have hP : va_P D vwCl [(h0, .inr (12, f0)), (h1, .inl (cI, 32768, .inl g0))] s.heap := hP
  have hl := lv_entry ([.ref h0] : List Value) (n := 5) (Nat.le_of_ble_eq_true rfl)
  rw [lg_entry_eq]
  generalize (lg_sl ([.ref h0]) ++ List.replicate (5 - (lg_sl ([.ref h0])).length) Slot.unset).toArray = ls at hl ⊢
  have hl : lv_has ls 5 [(0, .ref h0)] := hl
  refine lv_bipush (v := 17) hx hb dX12_placeOf_0 (by decide) ?_
  refine lv_istore_n (lv' := [(1, .int 17), (0, .ref h0)]) hx hb dX12_placeOf_2 rfl hl (by decide) rfl (fun ls hl => ?_)
  refine lv_iconst (v := 0) hx hb dX12_placeOf_3 (by decide) ?_
  refine lv_istore_n (lv' := [(2, .int 0), (1, .int 17), (0, .ref h0)]) hx hb dX12_placeOf_4 rfl hl (by decide) rfl (fun ls hl => ?_)
  refine lv_iload_n hx hb dX12_placeOf_5 rfl (lv_at hl 0 rfl) ?_
  refine lv_aload_n hx hb dX12_placeOf_6 rfl (lv_at hl 2 rfl) ?_
  refine va_get (D := D) (ref := "IntegerHouseModel") (ci := 12) (v := .int 0) (C := RX12) (T := TX12) (N := 195) hx hb hts hin12 hown hK hP 0 rfl rfl 119 (by decide) (hts (.fieldLink RX12 928 "IntegerHouseModel" "work" "I") (List.mem_cons_of_mem _ (List.mem_append_left _ (List.mem_of_getElem? (i := 0) rfl)))) (fun _ h9 => h9) e0 dX12_placeOf_7 ?_
  refine lv_icmp_ge (tgt := 39) hx hb dX12_placeOf_10 (by decide) (fun _ => ?_) (fun c9 => absurd (by decide) c9)
  refine lv_iload_n hx hb dX12_placeOf_39 rfl (lv_at hl 1 rfl) ?_
  refine lv_sipush (v := 32767) hx hb dX12_placeOf_40 (by decide) ?_
  refine lv_iand hx hb dX12_placeOf_43 ?_
  refine k_topi (y := 17) (by decide) ?_
  refine lv_istore_n (lv' := [(1, .int 17), (2, .int 0), (0, .ref h0)]) hx hb dX12_placeOf_44 rfl hl (by decide) rfl (fun ls hl => ?_)
  refine lv_aload_n hx hb dX12_placeOf_45 rfl (lv_at hl 2 rfl) ?_
  refine va_get (D := D) (ref := "IntegerHouseModel") (ci := 12) (v := .ref h1) (C := RX12) (T := TX12) (N := 195) hx hb hts hin12 hown hK hP 0 rfl rfl 127 (by decide) (hts (.fieldLink RX12 325 "IntegerHouseModel" "heads" "[I") (List.mem_cons_of_mem _ (List.mem_append_left _ (List.mem_of_getElem? (i := 3) rfl)))) (fun _ h9 => h9) e1 dX12_placeOf_46 ?_
  refine lv_iload_n hx hb dX12_placeOf_49 rfl (lv_at hl 0 rfl) ?_
  refine va_iald hx hb hK hP 1 0 rfl rfl (k_in (by decide)) dX12_placeOf_50 ?_
  refine k_topi (y := 0) e2 ?_
  refine lv_istore_n (lv' := [(2, .int 0), (1, .int 17), (0, .ref h0)]) hx hb dX12_placeOf_51 rfl hl (by decide) rfl (fun ls hl => ?_)
  refine lv_iload_n hx hb dX12_placeOf_52 rfl (lv_at hl 0 rfl) ?_
  refine lv_iconst (v := (-1)) hx hb dX12_placeOf_53 (by decide) ?_
  refine lv_icmp_eq (tgt := 125) hx hb dX12_placeOf_54 (by decide) (fun c9 => absurd c9 (by decide)) (fun _ => ?_)
  refine lv_iconst (v := 1) hx hb dX12_placeOf_57 (by decide) ?_
  refine lv_istore_n (lv' := [(3, .int 1), (2, .int 0), (1, .int 17), (0, .ref h0)]) hx hb dX12_placeOf_58 rfl hl (by decide) rfl (fun ls hl => ?_)
  refine lv_iconst (v := 0) hx hb dX12_placeOf_59 (by decide) ?_
  refine lv_istore (lv' := [(4, .int 0), (3, .int 1), (2, .int 0), (1, .int 17), (0, .ref h0)]) hx hb dX12_placeOf_60 hl (by decide) rfl (fun ls hl => ?_)
  refine lv_iload hx hb dX12_placeOf_62 (lv_at hl 0 rfl) ?_
  refine lv_aload_n hx hb dX12_placeOf_64 rfl (lv_at hl 4 rfl) ?_
  refine va_get (D := D) (ref := "IntegerHouseModel") (ci := 12) (v := .int 0) (C := RX12) (T := TX12) (N := 195) hx hb hts hin12 hown hK hP 0 rfl rfl 119 (by decide) (hts (.fieldLink RX12 928 "IntegerHouseModel" "work" "I") (List.mem_cons_of_mem _ (List.mem_append_left _ (List.mem_of_getElem? (i := 0) rfl)))) (fun _ h9 => h9) e0 dX12_placeOf_65 ?_
  refine lv_icmp_ge (tgt := 109) hx hb dX12_placeOf_68 (by decide) (fun _ => ?_) (fun c9 => absurd (by decide) c9)
  refine lv_iload_n hx hb dX12_placeOf_109 rfl (lv_at hl 1 rfl) ?_
  refine lv_if_eq (tgt := 115) hx hb dX12_placeOf_110 (by decide) (fun c9 => absurd c9 (by decide)) (fun _ => ?_)
  refine lv_iload_n hx hb dX12_placeOf_113 rfl (lv_at hl 2 rfl) ?_
  exact W.iret (v := 0) hx hb hr (fun t ht hW => ⟨⟨0, (), rfl, rfl, kB_mk ht hW hP hK hD⟩, hS.F ht⟩) hS.2.2 dX12_placeOf_114
set_option maxHeartbeats 400000000 in
set_option maxRecDepth 100000 in
theorem c_X12_explore_0 (l : Launch) (E : kE) (D : va_G) (cI cJ cB cZ : ClassId) (h0 : Nat) (f0 : List Value) (h1 : Nat) (g0 : Nat → Int32) (h2 : Nat) (g1 : Nat → Int32) (h3 : Nat) (g2 : Nat → Int32) (h4 : Nat) (g3 : Nat → Int32) (e0 : f0[119]? = some (.int 0)) (e1 : f0[121]? = some (.ref h1)) (e2 : g0 24 = 0) (e3 : g0 23 = 0) (e4 : g0 22 = 0) (e5 : g0 21 = 0) (e6 : g0 20 = 0) (e7 : g0 19 = 0) (e8 : g0 18 = 0) (e9 : g0 17 = 0) (e10 : g0 16 = 0) (e11 : g0 15 = 0) (e12 : g0 14 = 0) (e13 : g0 13 = 0) (e14 : g0 12 = 0) (e15 : g0 11 = 0) (e16 : g0 10 = 0) (e17 : g0 9 = 0) (e18 : g0 8 = 0) (e19 : g0 7 = 0) (e20 : g0 6 = 0) (e21 : g0 5 = 0) (e22 : g0 4 = 0) (e23 : g0 3 = 0) (e24 : g0 2 = 0) (e25 : g0 1 = 0) (e26 : g0 0 = 0) (e27 : f0[32]? = some (.int 0)) (e28 : f0[131]? = some (.int 0)) (e29 : f0[127]? = some (.ref h2)) (e30 : f0[129]? = some (.int 0)) (e31 : f0[128]? = some (.ref h3)) (e32 : f0[126]? = some (.ref h4)) : kI l E D (kT cI cJ cB cZ) yX12_explore wsX12_explore ({ frames := 1, cells := 0, slots := 0, locals := 24 }) [.ref h0] [(h0, .inr (12, f0)), (h1, .inl (cZ, 26, .inl g0)), (h2, .inl (cI, 32768, .inl g1)), (h3, .inl (cI, 3000, .inl g2)), (h4, .inl (cI, 48000, .inl g3))] (1) [(h0, .inr (12, (((f0.set 131 (.int 1)).set 129 (.int 0)).set 129 (.int 1)))), (h1, .inl (cZ, 26, .inl g0)), (h2, .inl (cI, 32768, .inl (upd (k_fill (-1) 32768 g1) 17 0))), (h3, .inl (cI, 3000, .inl (upd g2 0 (-1)))), (h4, .inl (cI, 48000, .inl (upd g3 0 0)))] 0 0 := by
  intro sz
  refine Met.ofW (cc := cX12_explore) (maxL := 5) (ret := (some .boolean)) (by decide) rfl ?_
  intro p e s m args below meth c s₁ B hml hv
  obtain ⟨rfl, hsz, hP, hK, hD0, hN, hX⟩ := hv
  have hx := B.exec
  have hb := B.bytes
  have hr := B.returns
  have hts := atoms_spec (ws := wsX12_explore) B.pre
  have hown : s.vm.findClass RX12 = some m.cls := findClass_of_methodNamed B.named
  have hlocks := B.notSynchronized
  have hin12 : ∀ w ∈ wsX120, w ∈ wsX12_explore := (fun w h => (List.mem_cons_of_mem _ (List.mem_append_right _ h)))
  subst hsz
  have hD := hD0.self (sz := s.heap.size)
  have hAE := k_AE hD0 hX
  generalize hAe : va_A [(h0, .inr (12, f0)), (h1, .inl (cZ, 26, .inl g0)), (h2, .inl (cI, 32768, .inl g1)), (h3, .inl (cI, 3000, .inl g2)), (h4, .inl (cI, 48000, .inl g3))] s.heap.size = A at hD hAE ⊢
  have hA : ∀ q : Nat, s.heap.size ≤ q → A q := fun q h => by rw [← hAe]; exact Or.inr h
  have hS : va_S A s.heap s.heap [] := va_S.rf
  have hP : va_P D vwCl [(h0, .inr (12, f0)), (h1, .inl (cZ, 26, .inl g0)), (h2, .inl (cI, 32768, .inl g1)), (h3, .inl (cI, 3000, .inl g2)), (h4, .inl (cI, 48000, .inl g3))] s.heap := hP
  have hl := lv_entry ([.ref h0] : List Value) (n := 5) (Nat.le_of_ble_eq_true rfl)
  rw [lg_entry_eq]
  generalize (lg_sl ([.ref h0]) ++ List.replicate (5 - (lg_sl ([.ref h0])).length) Slot.unset).toArray = ls at hl ⊢
  have hl : lv_has ls 5 [(0, .ref h0)] := hl
  refine lv_aload_n hx hb dX12_explore_0 rfl (lv_at hl 0 rfl) ?_
  refine va_get (D := D) (ref := "IntegerHouseModel") (ci := 12) (v := .int 0) (C := RX12) (T := TX12) (N := 195) hx hb hts hin12 hown hK hP 0 rfl rfl 119 (by decide) (hts (.fieldLink RX12 928 "IntegerHouseModel" "work" "I") (List.mem_cons_of_mem _ (List.mem_append_left _ (List.mem_append_left _ (List.mem_of_getElem? (i := 0) rfl))))) (fun _ h9 => h9) e0 dX12_explore_1 ?_
  refine lv_bipush (v := 32) hx hb dX12_explore_4 (by decide) ?_
  refine lv_icmp_le (tgt := 11) hx hb dX12_explore_6 (by decide) (fun _ => ?_) (fun c9 => absurd (by decide) c9)
  refine lv_aload_n hx hb dX12_explore_11 rfl (lv_at hl 0 rfl) ?_
  refine k_cVv (As := []) (rest := []) (wc := [(h0, .inr (12, f0)), (h1, .inl (cZ, 26, .inl g0))]) (wr := [(h2, .inl (cI, 32768, .inl g1)), (h3, .inl (cI, 3000, .inl g2)), (h4, .inl (cI, 48000, .inl g3))]) (w1 := (fun _ : Unit => [(h0, .inr (12, f0)), (h1, .inl (cZ, 26, .inl g0))])) ⟨hx, hb, hml, hown, hts⟩ hN hX hAE hK hP hD hS hA [0, 1] [2, 3, 4] (ci := 12) rfl rfl rfl rfl (by decide +kernel) (by decide +kernel) (by decide +kernel) (c_X12_findWork_0 l E D cI cJ cB cZ h0 f0 h1 g0 e1 e2 e3 e4 e5 e6 e7 e8 e9 e10 e11 e12 e13 e14 e15 e16 e17 e18 e19 e20 e21 e22 e23 e24 e25 e26) (cwV 0 hts gX12_explore_X12_findWork rfl rfl rfl (by decide +kernel) ⟨Nat.le_of_ble_eq_true rfl, Nat.le_of_ble_eq_true rfl⟩) rfl hl.1 (Nat.le_of_ble_eq_true rfl) dX12_explore_12 ⟨Nat.le_of_ble_eq_true rfl, Nat.le_of_ble_eq_true rfl⟩ (fun _ H locs hP hD hS => ?_)
  have hP : va_P D vwCl [(h2, .inl (cI, 32768, .inl g1)), (h3, .inl (cI, 3000, .inl g2)), (h4, .inl (cI, 48000, .inl g3)), (h0, .inr (12, f0)), (h1, .inl (cZ, 26, .inl g0))] H := hP
  have hD : va_D A [(h2, .inl (cI, 32768, .inl g1)), (h3, .inl (cI, 3000, .inl g2)), (h4, .inl (cI, 48000, .inl g3)), (h0, .inr (12, f0)), (h1, .inl (cZ, 26, .inl g0))] := hD
  refine lv_aload_n hx hb dX12_explore_15 rfl (lv_at hl 0 rfl) ?_
  refine lv_iconst (v := 1) hx hb dX12_explore_16 (by decide) ?_
  refine lv_aload_n hx hb dX12_explore_17 rfl (lv_at hl 0 rfl) ?_
  refine va_get (D := D) (ref := "IntegerHouseModel") (ci := 12) (v := .int 0) (C := RX12) (T := TX12) (N := 195) hx hb hts hin12 hown hK hP 3 rfl rfl 32 (by decide) (hts (.fieldLink RX12 815 "IntegerHouseModel" "variables" "I") (List.mem_cons_of_mem _ (List.mem_append_left _ (List.mem_append_left _ (List.mem_of_getElem? (i := 1) rfl))))) (fun _ h9 => h9) e27 dX12_explore_18 ?_
  refine lv_ishl hx hb dX12_explore_21 ?_
  refine k_topi (y := 1) (by decide) ?_
  refine va_put (D := D) (ref := "IntegerHouseModel") (ci := 12) (v := .int 1) (ty := .int) (C := RX12) (T := TX12) (N := 195) hx hb hts hin12 tyX12 tyX12_ok nmX12 hown hK hP hD hS 3 rfl rfl 131 (by decide) (hts (.fieldLink RX12 960 "IntegerHouseModel" "letters" "I") (List.mem_cons_of_mem _ (List.mem_append_left _ (List.mem_append_left _ (List.mem_of_getElem? (i := 2) rfl))))) (fun _ h9 => h9) rfl (by decide +kernel) rfl rfl (k_len e28) dX12_explore_22 (fun H locs hP hD hS => ?_)
  have hP : va_P D vwCl [(h2, .inl (cI, 32768, .inl g1)), (h3, .inl (cI, 3000, .inl g2)), (h4, .inl (cI, 48000, .inl g3)), (h0, .inr (12, (f0.set 131 (.int 1)))), (h1, .inl (cZ, 26, .inl g0))] H := hP
  have hD : va_D A [(h2, .inl (cI, 32768, .inl g1)), (h3, .inl (cI, 3000, .inl g2)), (h4, .inl (cI, 48000, .inl g3)), (h0, .inr (12, (f0.set 131 (.int 1)))), (h1, .inl (cZ, 26, .inl g0))] := hD
  refine lv_iconst (v := 0) hx hb dX12_explore_25 (by decide) ?_
  refine lv_istore_n (lv' := [(1, .int 0), (0, .ref h0)]) hx hb dX12_explore_26 rfl hl (by decide) rfl (fun ls hl => ?_)
  refine k_loopW (P := fun i H locs ls => va_P D vwCl [(h2, .inl (cI, 32768, .inl (k_fill (-1) i g1))), (h3, .inl (cI, 3000, .inl g2)), (h4, .inl (cI, 48000, .inl g3)), (h0, .inr (12, (f0.set 131 (.int 1)))), (h1, .inl (cZ, 26, .inl g0))] H ∧ va_D A [(h2, .inl (cI, 32768, .inl (k_fill (-1) i g1))), (h3, .inl (cI, 3000, .inl g2)), (h4, .inl (cI, 48000, .inl g3)), (h0, .inr (12, (f0.set 131 (.int 1)))), (h1, .inl (cZ, 26, .inl g0))] ∧ va_S A s.heap H locs ∧ lv_has ls 5 [(1, .int (nI i)), (0, .ref h0)]) 32768 (fun i H locs ls hi hh kk => ?_) (fun H locs ls hh => ?_) (Nat.zero_le 32768) ⟨by rw [k_fill_0]; exact hP, by rw [k_fill_0]; exact hD, hS, hl⟩
  · obtain ⟨hP, hD, hS, hl⟩ := hh
    refine lv_iload_n hx hb dX12_explore_27 rfl (lv_at hl 0 rfl) ?_
    refine lv_ldcw (own := RX12) (index := 324) (v := 32768) hx hb hown (hts (.constant RX12 324 (32768)) (List.mem_cons_of_mem _ (List.mem_append_left _ (List.mem_append_left _ (List.mem_of_getElem? (i := 3) rfl))))) dX12_explore_28 ?_
    refine lv_icmp_ge (tgt := 47) hx hb dX12_explore_31 (by decide) (fun c9 => absurd c9 (nI_ge hi (by decide))) (fun _ => ?_)
    refine lv_aload_n hx hb dX12_explore_34 rfl (lv_at hl 1 rfl) ?_
    refine va_get (D := D) (ref := "IntegerHouseModel") (ci := 12) (v := .ref h2) (C := RX12) (T := TX12) (N := 195) hx hb hts hin12 hown hK hP 3 rfl rfl 127 (by decide) (hts (.fieldLink RX12 325 "IntegerHouseModel" "heads" "[I") (List.mem_cons_of_mem _ (List.mem_append_left _ (List.mem_append_left _ (List.mem_of_getElem? (i := 4) rfl))))) (fun _ h9 => h9) (k_ne (by decide) (k_ne (by decide) (k_ne (by decide) e29))) dX12_explore_35 ?_
    refine lv_iload_n hx hb dX12_explore_38 rfl (lv_at hl 0 rfl) ?_
    refine lv_iconst (v := (-1)) hx hb dX12_explore_39 (by decide) ?_
    refine va_iast hx hb hK hP hD hS 0 0 rfl rfl (vp_in_nI hi (by decide)) dX12_explore_40 (fun H locs hP hD hS => ?_)
    refine lv_iinc (v := nI (i + 1)) (lv' := [(1, .int (nI (i + 1))), (0, .ref h0)]) hx hb dX12_explore_41 hl (k := 0) rfl (nI_succ i).symm (by decide) rfl (fun ls hl => ?_)
    refine lv_goto (tgt := 27) hx hb dX12_explore_44 (by decide) ?_
    rw [nI_clamp (by omega), k_fill_1] at hP hD
    exact kk _ _ _ ⟨hP, hD, hS, lv_sub hl [0, 1] rfl⟩
  obtain ⟨hP, hD, hS, hl⟩ := hh
  have hP : va_P D vwCl [(h2, .inl (cI, 32768, .inl (k_fill (-1) 32768 g1))), (h3, .inl (cI, 3000, .inl g2)), (h4, .inl (cI, 48000, .inl g3)), (h0, .inr (12, (f0.set 131 (.int 1)))), (h1, .inl (cZ, 26, .inl g0))] H := hP
  have hD : va_D A [(h2, .inl (cI, 32768, .inl (k_fill (-1) 32768 g1))), (h3, .inl (cI, 3000, .inl g2)), (h4, .inl (cI, 48000, .inl g3)), (h0, .inr (12, (f0.set 131 (.int 1)))), (h1, .inl (cZ, 26, .inl g0))] := hD
  have hl : lv_has ls 5 [(1, .int 32768), (0, .ref h0)] := hl
  refine lv_iload_n hx hb dX12_explore_27 rfl (lv_at hl 0 rfl) ?_
  refine lv_ldcw (own := RX12) (index := 324) (v := 32768) hx hb hown (hts (.constant RX12 324 (32768)) (List.mem_cons_of_mem _ (List.mem_append_left _ (List.mem_append_left _ (List.mem_of_getElem? (i := 3) rfl))))) dX12_explore_28 ?_
  refine lv_icmp_ge (tgt := 47) hx hb dX12_explore_31 (by decide) (fun _ => ?_) (fun c9 => absurd (by decide) c9)
  refine lv_aload_n hx hb dX12_explore_47 rfl (lv_at hl 1 rfl) ?_
  refine lv_iconst (v := 0) hx hb dX12_explore_48 (by decide) ?_
  refine va_put (D := D) (ref := "IntegerHouseModel") (ci := 12) (v := .int 0) (ty := .int) (C := RX12) (T := TX12) (N := 195) hx hb hts hin12 tyX12 tyX12_ok nmX12 hown hK hP hD hS 3 rfl rfl 129 (by decide) (hts (.fieldLink RX12 957 "IntegerHouseModel" "places" "I") (List.mem_cons_of_mem _ (List.mem_append_left _ (List.mem_append_left _ (List.mem_of_getElem? (i := 5) rfl))))) (fun _ h9 => h9) rfl (by decide +kernel) rfl rfl (k_len (k_ne (by decide) e30)) dX12_explore_49 (fun H locs hP hD hS => ?_)
  have hP : va_P D vwCl [(h2, .inl (cI, 32768, .inl (k_fill (-1) 32768 g1))), (h3, .inl (cI, 3000, .inl g2)), (h4, .inl (cI, 48000, .inl g3)), (h0, .inr (12, ((f0.set 131 (.int 1)).set 129 (.int 0)))), (h1, .inl (cZ, 26, .inl g0))] H := hP
  have hD : va_D A [(h2, .inl (cI, 32768, .inl (k_fill (-1) 32768 g1))), (h3, .inl (cI, 3000, .inl g2)), (h4, .inl (cI, 48000, .inl g3)), (h0, .inr (12, ((f0.set 131 (.int 1)).set 129 (.int 0)))), (h1, .inl (cZ, 26, .inl g0))] := hD
  refine lv_iconst (v := 0) hx hb dX12_explore_52 (by decide) ?_
  refine lv_istore_n (lv' := [(1, .int 0), (0, .ref h0)]) hx hb dX12_explore_53 rfl hl (by decide) rfl (fun ls hl => ?_)
  refine lv_iload_n hx hb dX12_explore_54 rfl (lv_at hl 0 rfl) ?_
  refine lv_aload_n hx hb dX12_explore_55 rfl (lv_at hl 1 rfl) ?_
  refine va_get (D := D) (ref := "IntegerHouseModel") (ci := 12) (v := .int 0) (C := RX12) (T := TX12) (N := 195) hx hb hts hin12 hown hK hP 3 rfl rfl 119 (by decide) (hts (.fieldLink RX12 928 "IntegerHouseModel" "work" "I") (List.mem_cons_of_mem _ (List.mem_append_left _ (List.mem_append_left _ (List.mem_of_getElem? (i := 0) rfl))))) (fun _ h9 => h9) (k_ne (by decide) (k_ne (by decide) e0)) dX12_explore_56 ?_
  refine lv_icmp_ge (tgt := 108) hx hb dX12_explore_59 (by decide) (fun _ => ?_) (fun c9 => absurd (by decide) c9)
  refine lv_aload_n hx hb dX12_explore_108 rfl (lv_at hl 1 rfl) ?_
  refine k_cVi (As := []) (rest := []) (wc := [(h0, .inr (12, ((f0.set 131 (.int 1)).set 129 (.int 0)))), (h2, .inl (cI, 32768, .inl (k_fill (-1) 32768 g1))), (h3, .inl (cI, 3000, .inl g2))]) (wr := [(h4, .inl (cI, 48000, .inl g3)), (h1, .inl (cZ, 26, .inl g0))]) (w1 := [(h0, .inr (12, (((f0.set 131 (.int 1)).set 129 (.int 0)).set 129 (.int 1)))), (h2, .inl (cI, 32768, .inl (upd (k_fill (-1) 32768 g1) 17 0))), (h3, .inl (cI, 3000, .inl (upd g2 0 (-1))))]) ⟨hx, hb, hml, hown, hts⟩ hN hX hAE hK hP hD hS hA [3, 0, 1] [2, 4] (ci := 12) rfl rfl rfl rfl (by decide +kernel) (by decide +kernel) (by decide +kernel) (c_X12_placeOf_0 l E D cI cJ cB cZ h0 (((f0.set 131 (.int 1)).set 129 (.int 0))) h2 ((k_fill (-1) 32768 g1)) h3 g2 (k_ne (by decide) (k_ne (by decide) e0)) (k_ne (by decide) (k_ne (by decide) e29)) (if_pos (by decide)) (k_set (k_ne (by decide) e30)) (k_ne (by decide) (k_ne (by decide) e31))) (cwV 0 hts gX12_explore_X12_placeOf rfl rfl rfl (by decide +kernel) ⟨Nat.le_of_ble_eq_true rfl, Nat.le_of_ble_eq_true rfl⟩) rfl hl.1 (Nat.le_of_ble_eq_true rfl) dX12_explore_109 ⟨Nat.le_of_ble_eq_true rfl, Nat.le_of_ble_eq_true rfl⟩ (fun H locs hP hD hS => ?_)
  have hP : va_P D vwCl [(h4, .inl (cI, 48000, .inl g3)), (h1, .inl (cZ, 26, .inl g0)), (h0, .inr (12, (((f0.set 131 (.int 1)).set 129 (.int 0)).set 129 (.int 1)))), (h2, .inl (cI, 32768, .inl (upd (k_fill (-1) 32768 g1) 17 0))), (h3, .inl (cI, 3000, .inl (upd g2 0 (-1))))] H := hP
  have hD : va_D A [(h4, .inl (cI, 48000, .inl g3)), (h1, .inl (cZ, 26, .inl g0)), (h0, .inr (12, (((f0.set 131 (.int 1)).set 129 (.int 0)).set 129 (.int 1)))), (h2, .inl (cI, 32768, .inl (upd (k_fill (-1) 32768 g1) 17 0))), (h3, .inl (cI, 3000, .inl (upd g2 0 (-1))))] := hD
  refine lv_istore_n (lv' := [(1, .int 0), (0, .ref h0)]) hx hb dX12_explore_112 rfl hl (by decide) rfl (fun ls hl => ?_)
  refine lv_iconst (v := 0) hx hb dX12_explore_113 (by decide) ?_
  refine lv_istore_n (lv' := [(2, .int 0), (1, .int 0), (0, .ref h0)]) hx hb dX12_explore_114 rfl hl (by decide) rfl (fun ls hl => ?_)
  refine lv_iload_n hx hb dX12_explore_115 rfl (lv_at hl 0 rfl) ?_
  refine lv_aload_n hx hb dX12_explore_116 rfl (lv_at hl 2 rfl) ?_
  refine va_get (D := D) (ref := "IntegerHouseModel") (ci := 12) (v := .int 1) (C := RX12) (T := TX12) (N := 195) hx hb hts hin12 hown hK hP 2 rfl rfl 129 (by decide) (hts (.fieldLink RX12 957 "IntegerHouseModel" "places" "I") (List.mem_cons_of_mem _ (List.mem_append_left _ (List.mem_append_left _ (List.mem_of_getElem? (i := 5) rfl))))) (fun _ h9 => h9) (k_set (k_set (k_ne (by decide) e30))) dX12_explore_117 ?_
  refine lv_icmp_ge (tgt := 218) hx hb dX12_explore_120 (by decide) (fun c9 => absurd c9 (by decide)) (fun _ => ?_)
  refine lv_iconst (v := 0) hx hb dX12_explore_123 (by decide) ?_
  refine lv_istore_n (lv' := [(3, .int 0), (2, .int 0), (1, .int 0), (0, .ref h0)]) hx hb dX12_explore_124 rfl hl (by decide) rfl (fun ls hl => ?_)
  refine lv_iload_n hx hb dX12_explore_125 rfl (lv_at hl 0 rfl) ?_
  refine lv_aload_n hx hb dX12_explore_126 rfl (lv_at hl 3 rfl) ?_
  refine va_get (D := D) (ref := "IntegerHouseModel") (ci := 12) (v := .int 1) (C := RX12) (T := TX12) (N := 195) hx hb hts hin12 hown hK hP 2 rfl rfl 131 (by decide) (hts (.fieldLink RX12 960 "IntegerHouseModel" "letters" "I") (List.mem_cons_of_mem _ (List.mem_append_left _ (List.mem_append_left _ (List.mem_of_getElem? (i := 2) rfl))))) (fun _ h9 => h9) (k_ne (by decide) (k_ne (by decide) (k_set e28))) dX12_explore_127 ?_
  refine lv_icmp_ge (tgt := 212) hx hb dX12_explore_130 (by decide) (fun c9 => absurd c9 (by decide)) (fun _ => ?_)
  refine lv_iconst (v := 0) hx hb dX12_explore_133 (by decide) ?_
  refine lv_istore (lv' := [(4, .int 0), (3, .int 0), (2, .int 0), (1, .int 0), (0, .ref h0)]) hx hb dX12_explore_134 hl (by decide) rfl (fun ls hl => ?_)
  refine lv_iload hx hb dX12_explore_136 (lv_at hl 0 rfl) ?_
  refine lv_aload_n hx hb dX12_explore_138 rfl (lv_at hl 4 rfl) ?_
  refine va_get (D := D) (ref := "IntegerHouseModel") (ci := 12) (v := .int 0) (C := RX12) (T := TX12) (N := 195) hx hb hts hin12 hown hK hP 2 rfl rfl 119 (by decide) (hts (.fieldLink RX12 928 "IntegerHouseModel" "work" "I") (List.mem_cons_of_mem _ (List.mem_append_left _ (List.mem_append_left _ (List.mem_of_getElem? (i := 0) rfl))))) (fun _ h9 => h9) (k_ne (by decide) (k_ne (by decide) (k_ne (by decide) e0))) dX12_explore_139 ?_
  refine lv_icmp_ge (tgt := 177) hx hb dX12_explore_142 (by decide) (fun _ => ?_) (fun c9 => absurd (by decide) c9)
  refine lv_aload_n hx hb dX12_explore_177 rfl (lv_at hl 4 rfl) ?_
  refine k_cVi (As := []) (rest := []) (wc := [(h0, .inr (12, (((f0.set 131 (.int 1)).set 129 (.int 0)).set 129 (.int 1)))), (h2, .inl (cI, 32768, .inl (upd (k_fill (-1) 32768 g1) 17 0)))]) (wr := [(h4, .inl (cI, 48000, .inl g3)), (h1, .inl (cZ, 26, .inl g0)), (h3, .inl (cI, 3000, .inl (upd g2 0 (-1))))]) (w1 := [(h0, .inr (12, (((f0.set 131 (.int 1)).set 129 (.int 0)).set 129 (.int 1)))), (h2, .inl (cI, 32768, .inl (upd (k_fill (-1) 32768 g1) 17 0)))]) ⟨hx, hb, hml, hown, hts⟩ hN hX hAE hK hP hD hS hA [2, 3] [0, 1, 4] (ci := 12) rfl rfl rfl rfl (by decide +kernel) (by decide +kernel) (by decide +kernel) (c_X12_placeOf_1 l E D cI cJ cB cZ h0 ((((f0.set 131 (.int 1)).set 129 (.int 0)).set 129 (.int 1))) h2 ((upd (k_fill (-1) 32768 g1) 17 0)) (k_ne (by decide) (k_ne (by decide) (k_ne (by decide) e0))) (k_ne (by decide) (k_ne (by decide) (k_ne (by decide) e29))) rfl) (cwV 0 hts gX12_explore_X12_placeOf rfl rfl rfl (by decide +kernel) ⟨Nat.le_of_ble_eq_true rfl, Nat.le_of_ble_eq_true rfl⟩) rfl hl.1 (Nat.le_of_ble_eq_true rfl) dX12_explore_178 ⟨Nat.le_of_ble_eq_true rfl, Nat.le_of_ble_eq_true rfl⟩ (fun H locs hP hD hS => ?_)
  have hP : va_P D vwCl [(h4, .inl (cI, 48000, .inl g3)), (h1, .inl (cZ, 26, .inl g0)), (h3, .inl (cI, 3000, .inl (upd g2 0 (-1)))), (h0, .inr (12, (((f0.set 131 (.int 1)).set 129 (.int 0)).set 129 (.int 1)))), (h2, .inl (cI, 32768, .inl (upd (k_fill (-1) 32768 g1) 17 0)))] H := hP
  have hD : va_D A [(h4, .inl (cI, 48000, .inl g3)), (h1, .inl (cZ, 26, .inl g0)), (h3, .inl (cI, 3000, .inl (upd g2 0 (-1)))), (h0, .inr (12, (((f0.set 131 (.int 1)).set 129 (.int 0)).set 129 (.int 1)))), (h2, .inl (cI, 32768, .inl (upd (k_fill (-1) 32768 g1) 17 0)))] := hD
  refine lv_istore (lv' := [(4, .int 0), (3, .int 0), (2, .int 0), (1, .int 0), (0, .ref h0)]) hx hb dX12_explore_181 hl (by decide) rfl (fun ls hl => ?_)
  refine lv_iload hx hb dX12_explore_183 (lv_at hl 0 rfl) ?_
  refine lv_sipush (v := 3000) hx hb dX12_explore_185 (by decide) ?_
  refine lv_icmp_ne (tgt := 193) hx hb dX12_explore_188 (by decide) (fun _ => ?_) (fun c9 => absurd c9 (by decide))
  refine lv_aload_n hx hb dX12_explore_193 rfl (lv_at hl 4 rfl) ?_
  refine va_get (D := D) (ref := "IntegerHouseModel") (ci := 12) (v := .ref h4) (C := RX12) (T := TX12) (N := 195) hx hb hts hin12 hown hK hP 3 rfl rfl 126 (by decide) (hts (.fieldLink RX12 321 "IntegerHouseModel" "behind" "[I") (List.mem_cons_of_mem _ (List.mem_append_left _ (List.mem_append_left _ (List.mem_of_getElem? (i := 10) rfl))))) (fun _ h9 => h9) (k_ne (by decide) (k_ne (by decide) (k_ne (by decide) e32))) dX12_explore_194 ?_
  refine lv_bipush (v := 16) hx hb dX12_explore_197 (by decide) ?_
  refine lv_iload_n hx hb dX12_explore_199 rfl (lv_at hl 2 rfl) ?_
  refine lv_imul hx hb dX12_explore_200 ?_
  refine k_topi (y := 0) (by decide) ?_
  refine lv_iload_n hx hb dX12_explore_201 rfl (lv_at hl 1 rfl) ?_
  refine lv_iadd hx hb dX12_explore_202 ?_
  refine k_topi (y := 0) (by decide) ?_
  refine lv_iload hx hb dX12_explore_203 (lv_at hl 0 rfl) ?_
  refine va_iast hx hb hK hP hD hS 0 0 rfl rfl (k_in (by decide)) dX12_explore_205 (fun H locs hP hD hS => ?_)
  have hP : va_P D vwCl [(h4, .inl (cI, 48000, .inl (upd g3 0 0))), (h1, .inl (cZ, 26, .inl g0)), (h3, .inl (cI, 3000, .inl (upd g2 0 (-1)))), (h0, .inr (12, (((f0.set 131 (.int 1)).set 129 (.int 0)).set 129 (.int 1)))), (h2, .inl (cI, 32768, .inl (upd (k_fill (-1) 32768 g1) 17 0)))] H := hP
  have hD : va_D A [(h4, .inl (cI, 48000, .inl (upd g3 0 0))), (h1, .inl (cZ, 26, .inl g0)), (h3, .inl (cI, 3000, .inl (upd g2 0 (-1)))), (h0, .inr (12, (((f0.set 131 (.int 1)).set 129 (.int 0)).set 129 (.int 1)))), (h2, .inl (cI, 32768, .inl (upd (k_fill (-1) 32768 g1) 17 0)))] := hD
  refine lv_iinc (v := 1) (lv' := [(3, .int 1), (4, .int 0), (2, .int 0), (1, .int 0), (0, .ref h0)]) hx hb dX12_explore_206 hl (k := 1) rfl (by decide) (by decide) rfl (fun ls hl => ?_)
  refine lv_goto (tgt := 125) hx hb dX12_explore_209 (by decide) ?_
  refine lv_iload_n hx hb dX12_explore_125 rfl (lv_at hl 0 rfl) ?_
  refine lv_aload_n hx hb dX12_explore_126 rfl (lv_at hl 4 rfl) ?_
  refine va_get (D := D) (ref := "IntegerHouseModel") (ci := 12) (v := .int 1) (C := RX12) (T := TX12) (N := 195) hx hb hts hin12 hown hK hP 3 rfl rfl 131 (by decide) (hts (.fieldLink RX12 960 "IntegerHouseModel" "letters" "I") (List.mem_cons_of_mem _ (List.mem_append_left _ (List.mem_append_left _ (List.mem_of_getElem? (i := 2) rfl))))) (fun _ h9 => h9) (k_ne (by decide) (k_ne (by decide) (k_set e28))) dX12_explore_127 ?_
  refine lv_icmp_ge (tgt := 212) hx hb dX12_explore_130 (by decide) (fun _ => ?_) (fun c9 => absurd (by decide) c9)
  refine lv_iinc (v := 1) (lv' := [(2, .int 1), (3, .int 1), (4, .int 0), (1, .int 0), (0, .ref h0)]) hx hb dX12_explore_212 hl (k := 2) rfl (by decide) (by decide) rfl (fun ls hl => ?_)
  refine lv_goto (tgt := 115) hx hb dX12_explore_215 (by decide) ?_
  refine lv_iload_n hx hb dX12_explore_115 rfl (lv_at hl 0 rfl) ?_
  refine lv_aload_n hx hb dX12_explore_116 rfl (lv_at hl 4 rfl) ?_
  refine va_get (D := D) (ref := "IntegerHouseModel") (ci := 12) (v := .int 1) (C := RX12) (T := TX12) (N := 195) hx hb hts hin12 hown hK hP 3 rfl rfl 129 (by decide) (hts (.fieldLink RX12 957 "IntegerHouseModel" "places" "I") (List.mem_cons_of_mem _ (List.mem_append_left _ (List.mem_append_left _ (List.mem_of_getElem? (i := 5) rfl))))) (fun _ h9 => h9) (k_set (k_set (k_ne (by decide) e30))) dX12_explore_117 ?_
  refine lv_icmp_ge (tgt := 218) hx hb dX12_explore_120 (by decide) (fun _ => ?_) (fun c9 => absurd (by decide) c9)
  refine lv_iconst (v := 1) hx hb dX12_explore_218 (by decide) ?_
  have hP := hP.sub (ws' := [(h0, .inr (12, (((f0.set 131 (.int 1)).set 129 (.int 0)).set 129 (.int 1)))), (h1, .inl (cZ, 26, .inl g0)), (h2, .inl (cI, 32768, .inl (upd (k_fill (-1) 32768 g1) 17 0))), (h3, .inl (cI, 3000, .inl (upd g2 0 (-1)))), (h4, .inl (cI, 48000, .inl (upd g3 0 0)))]) [3, 1, 4, 2, 0] rfl
  have hD := hD.sub (ws' := [(h0, .inr (12, (((f0.set 131 (.int 1)).set 129 (.int 0)).set 129 (.int 1)))), (h1, .inl (cZ, 26, .inl g0)), (h2, .inl (cI, 32768, .inl (upd (k_fill (-1) 32768 g1) 17 0))), (h3, .inl (cI, 3000, .inl (upd g2 0 (-1)))), (h4, .inl (cI, 48000, .inl (upd g3 0 0)))]) [3, 1, 4, 2, 0] (by decide +kernel) rfl
  exact W.zret (v := 1) hx hb hr rfl (fun t ht hW => ⟨⟨1, (), rfl, rfl, kB_mk ht hW hP hK hD⟩, hS.F ht⟩) hS.2.2 dX12_explore_219
set_option maxHeartbeats 400000000 in
set_option maxRecDepth 100000 in
theorem c_X12_reckonSlots_0 (l : Launch) (E : kE) (D : va_G) (cI cJ cB cZ : ClassId) (h0 : Nat) (f0 : List Value) (h1 : Nat) (g0 : Nat → Int32) (e0 : f0[121]? = some (.ref h1)) (e1 : g0 0 = 0) (e2 : g0 1 = 0) (e3 : g0 2 = 0) (e4 : g0 3 = 0) (e5 : g0 4 = 0) (e6 : g0 5 = 0) (e7 : g0 6 = 0) (e8 : g0 7 = 0) (e9 : g0 8 = 0) (e10 : g0 9 = 0) (e11 : g0 10 = 0) (e12 : g0 11 = 0) (e13 : g0 12 = 0) (e14 : g0 13 = 0) (e15 : g0 14 = 0) (e16 : g0 15 = 0) (e17 : g0 16 = 0) (e18 : g0 17 = 0) (e19 : g0 18 = 0) (e20 : g0 19 = 0) (e21 : g0 20 = 0) (e22 : g0 21 = 0) (e23 : g0 22 = 0) (e24 : g0 23 = 0) (e25 : g0 24 = 0) : kV l E D (kT cI cJ cB cZ) yX12_reckonSlots wsX12_reckonSlots ({ frames := 0, cells := 0, slots := 0, locals := 0 }) [.ref h0] [(h0, .inr (12, f0)), (h1, .inl (cZ, 26, .inl g0))] (fun _ : Unit => [(h0, .inr (12, f0)), (h1, .inl (cZ, 26, .inl g0))]) 0 0 := by
  intro sz
  refine Met.ofW (cc := cX12_reckonSlots) (maxL := 3) (ret := none) (by decide) rfl ?_
  intro p e s m args below meth c s₁ B hml hv
  obtain ⟨rfl, hsz, hP, hK, hD0, hN, hX⟩ := hv
  have hx := B.exec
  have hb := B.bytes
  have hr := B.returns
  have hts := atoms_spec (ws := wsX12_reckonSlots) B.pre
  have hown : s.vm.findClass RX12 = some m.cls := findClass_of_methodNamed B.named
  have hlocks := B.notSynchronized
  have hin12 : ∀ w ∈ wsX120, w ∈ wsX12_reckonSlots := (fun w h => (List.mem_cons_of_mem _ (List.mem_append_right _ h)))
  subst hsz
  have hD := hD0.self (sz := s.heap.size)
  have hAE := k_AE hD0 hX
  generalize hAe : va_A [(h0, .inr (12, f0)), (h1, .inl (cZ, 26, .inl g0))] s.heap.size = A at hD hAE ⊢
  have hA : ∀ q : Nat, s.heap.size ≤ q → A q := fun q h => by rw [← hAe]; exact Or.inr h
  have hS : va_S A s.heap s.heap [] := va_S.rf
  have hP : va_P D vwCl [(h0, .inr (12, f0)), (h1, .inl (cZ, 26, .inl g0))] s.heap := hP
  have hl := lv_entry ([.ref h0] : List Value) (n := 3) (Nat.le_of_ble_eq_true rfl)
  rw [lg_entry_eq]
  generalize (lg_sl ([.ref h0]) ++ List.replicate (3 - (lg_sl ([.ref h0])).length) Slot.unset).toArray = ls at hl ⊢
  have hl : lv_has ls 3 [(0, .ref h0)] := hl
  refine lv_iconst (v := 0) hx hb dX12_reckonSlots_0 (by decide) ?_
  refine lv_istore_n (lv' := [(1, .int 0), (0, .ref h0)]) hx hb dX12_reckonSlots_1 rfl hl (by decide) rfl (fun ls hl => ?_)
  refine lv_iload_n hx hb dX12_reckonSlots_2 rfl (lv_at hl 0 rfl) ?_
  refine lv_bipush (v := 24) hx hb dX12_reckonSlots_3 (by decide) ?_
  refine lv_icmp_gt (tgt := 80) hx hb dX12_reckonSlots_5 (by decide) (fun c9 => absurd c9 (by decide)) (fun _ => ?_)
  refine lv_aload_n hx hb dX12_reckonSlots_8 rfl (lv_at hl 1 rfl) ?_
  refine va_get (D := D) (ref := "IntegerHouseModel") (ci := 12) (v := .ref h1) (C := RX12) (T := TX12) (N := 195) hx hb hts hin12 hown hK hP 0 rfl rfl 121 (by decide) (hts (.fieldLink RX12 304 "IntegerHouseModel" "needed" "[Z") (List.mem_cons_of_mem _ (List.mem_append_left _ (List.mem_append_left _ (List.mem_of_getElem? (i := 0) rfl))))) (fun _ h9 => h9) e0 dX12_reckonSlots_9 ?_
  refine lv_iload_n hx hb dX12_reckonSlots_12 rfl (lv_at hl 0 rfl) ?_
  refine va_zald hx hb hK hP 1 3 rfl rfl (k_in (by decide)) dX12_reckonSlots_13 ?_
  refine k_topi (y := 0) e1 ?_
  refine lv_if_eq (tgt := 74) hx hb dX12_reckonSlots_14 (by decide) (fun _ => ?_) (fun c9 => absurd (by decide) c9)
  refine lv_iinc (v := 1) (lv' := [(1, .int 1), (0, .ref h0)]) hx hb dX12_reckonSlots_74 hl (k := 0) rfl (by decide) (by decide) rfl (fun ls hl => ?_)
  refine lv_goto (tgt := 2) hx hb dX12_reckonSlots_77 (by decide) ?_
  refine lv_iload_n hx hb dX12_reckonSlots_2 rfl (lv_at hl 0 rfl) ?_
  refine lv_bipush (v := 24) hx hb dX12_reckonSlots_3 (by decide) ?_
  refine lv_icmp_gt (tgt := 80) hx hb dX12_reckonSlots_5 (by decide) (fun c9 => absurd c9 (by decide)) (fun _ => ?_)
  refine lv_aload_n hx hb dX12_reckonSlots_8 rfl (lv_at hl 1 rfl) ?_
  refine va_get (D := D) (ref := "IntegerHouseModel") (ci := 12) (v := .ref h1) (C := RX12) (T := TX12) (N := 195) hx hb hts hin12 hown hK hP 0 rfl rfl 121 (by decide) (hts (.fieldLink RX12 304 "IntegerHouseModel" "needed" "[Z") (List.mem_cons_of_mem _ (List.mem_append_left _ (List.mem_append_left _ (List.mem_of_getElem? (i := 0) rfl))))) (fun _ h9 => h9) e0 dX12_reckonSlots_9 ?_
  refine lv_iload_n hx hb dX12_reckonSlots_12 rfl (lv_at hl 0 rfl) ?_
  refine va_zald hx hb hK hP 1 3 rfl rfl (k_in (by decide)) dX12_reckonSlots_13 ?_
  refine k_topi (y := 0) e2 ?_
  refine lv_if_eq (tgt := 74) hx hb dX12_reckonSlots_14 (by decide) (fun _ => ?_) (fun c9 => absurd (by decide) c9)
  refine lv_iinc (v := 2) (lv' := [(1, .int 2), (0, .ref h0)]) hx hb dX12_reckonSlots_74 hl (k := 0) rfl (by decide) (by decide) rfl (fun ls hl => ?_)
  refine lv_goto (tgt := 2) hx hb dX12_reckonSlots_77 (by decide) ?_
  refine lv_iload_n hx hb dX12_reckonSlots_2 rfl (lv_at hl 0 rfl) ?_
  refine lv_bipush (v := 24) hx hb dX12_reckonSlots_3 (by decide) ?_
  refine lv_icmp_gt (tgt := 80) hx hb dX12_reckonSlots_5 (by decide) (fun c9 => absurd c9 (by decide)) (fun _ => ?_)
  refine lv_aload_n hx hb dX12_reckonSlots_8 rfl (lv_at hl 1 rfl) ?_
  refine va_get (D := D) (ref := "IntegerHouseModel") (ci := 12) (v := .ref h1) (C := RX12) (T := TX12) (N := 195) hx hb hts hin12 hown hK hP 0 rfl rfl 121 (by decide) (hts (.fieldLink RX12 304 "IntegerHouseModel" "needed" "[Z") (List.mem_cons_of_mem _ (List.mem_append_left _ (List.mem_append_left _ (List.mem_of_getElem? (i := 0) rfl))))) (fun _ h9 => h9) e0 dX12_reckonSlots_9 ?_
  refine lv_iload_n hx hb dX12_reckonSlots_12 rfl (lv_at hl 0 rfl) ?_
  refine va_zald hx hb hK hP 1 3 rfl rfl (k_in (by decide)) dX12_reckonSlots_13 ?_
  refine k_topi (y := 0) e3 ?_
  refine lv_if_eq (tgt := 74) hx hb dX12_reckonSlots_14 (by decide) (fun _ => ?_) (fun c9 => absurd (by decide) c9)
  refine lv_iinc (v := 3) (lv' := [(1, .int 3), (0, .ref h0)]) hx hb dX12_reckonSlots_74 hl (k := 0) rfl (by decide) (by decide) rfl (fun ls hl => ?_)
  refine lv_goto (tgt := 2) hx hb dX12_reckonSlots_77 (by decide) ?_
  refine lv_iload_n hx hb dX12_reckonSlots_2 rfl (lv_at hl 0 rfl) ?_
  refine lv_bipush (v := 24) hx hb dX12_reckonSlots_3 (by decide) ?_
  refine lv_icmp_gt (tgt := 80) hx hb dX12_reckonSlots_5 (by decide) (fun c9 => absurd c9 (by decide)) (fun _ => ?_)
  refine lv_aload_n hx hb dX12_reckonSlots_8 rfl (lv_at hl 1 rfl) ?_
  refine va_get (D := D) (ref := "IntegerHouseModel") (ci := 12) (v := .ref h1) (C := RX12) (T := TX12) (N := 195) hx hb hts hin12 hown hK hP 0 rfl rfl 121 (by decide) (hts (.fieldLink RX12 304 "IntegerHouseModel" "needed" "[Z") (List.mem_cons_of_mem _ (List.mem_append_left _ (List.mem_append_left _ (List.mem_of_getElem? (i := 0) rfl))))) (fun _ h9 => h9) e0 dX12_reckonSlots_9 ?_
  refine lv_iload_n hx hb dX12_reckonSlots_12 rfl (lv_at hl 0 rfl) ?_
  refine va_zald hx hb hK hP 1 3 rfl rfl (k_in (by decide)) dX12_reckonSlots_13 ?_
  refine k_topi (y := 0) e4 ?_
  refine lv_if_eq (tgt := 74) hx hb dX12_reckonSlots_14 (by decide) (fun _ => ?_) (fun c9 => absurd (by decide) c9)
  refine lv_iinc (v := 4) (lv' := [(1, .int 4), (0, .ref h0)]) hx hb dX12_reckonSlots_74 hl (k := 0) rfl (by decide) (by decide) rfl (fun ls hl => ?_)
  refine lv_goto (tgt := 2) hx hb dX12_reckonSlots_77 (by decide) ?_
  refine lv_iload_n hx hb dX12_reckonSlots_2 rfl (lv_at hl 0 rfl) ?_
  refine lv_bipush (v := 24) hx hb dX12_reckonSlots_3 (by decide) ?_
  refine lv_icmp_gt (tgt := 80) hx hb dX12_reckonSlots_5 (by decide) (fun c9 => absurd c9 (by decide)) (fun _ => ?_)
  refine lv_aload_n hx hb dX12_reckonSlots_8 rfl (lv_at hl 1 rfl) ?_
  refine va_get (D := D) (ref := "IntegerHouseModel") (ci := 12) (v := .ref h1) (C := RX12) (T := TX12) (N := 195) hx hb hts hin12 hown hK hP 0 rfl rfl 121 (by decide) (hts (.fieldLink RX12 304 "IntegerHouseModel" "needed" "[Z") (List.mem_cons_of_mem _ (List.mem_append_left _ (List.mem_append_left _ (List.mem_of_getElem? (i := 0) rfl))))) (fun _ h9 => h9) e0 dX12_reckonSlots_9 ?_
  refine lv_iload_n hx hb dX12_reckonSlots_12 rfl (lv_at hl 0 rfl) ?_
  refine va_zald hx hb hK hP 1 3 rfl rfl (k_in (by decide)) dX12_reckonSlots_13 ?_
  refine k_topi (y := 0) e5 ?_
  refine lv_if_eq (tgt := 74) hx hb dX12_reckonSlots_14 (by decide) (fun _ => ?_) (fun c9 => absurd (by decide) c9)
  refine lv_iinc (v := 5) (lv' := [(1, .int 5), (0, .ref h0)]) hx hb dX12_reckonSlots_74 hl (k := 0) rfl (by decide) (by decide) rfl (fun ls hl => ?_)
  refine lv_goto (tgt := 2) hx hb dX12_reckonSlots_77 (by decide) ?_
  refine lv_iload_n hx hb dX12_reckonSlots_2 rfl (lv_at hl 0 rfl) ?_
  refine lv_bipush (v := 24) hx hb dX12_reckonSlots_3 (by decide) ?_
  refine lv_icmp_gt (tgt := 80) hx hb dX12_reckonSlots_5 (by decide) (fun c9 => absurd c9 (by decide)) (fun _ => ?_)
  refine lv_aload_n hx hb dX12_reckonSlots_8 rfl (lv_at hl 1 rfl) ?_
  refine va_get (D := D) (ref := "IntegerHouseModel") (ci := 12) (v := .ref h1) (C := RX12) (T := TX12) (N := 195) hx hb hts hin12 hown hK hP 0 rfl rfl 121 (by decide) (hts (.fieldLink RX12 304 "IntegerHouseModel" "needed" "[Z") (List.mem_cons_of_mem _ (List.mem_append_left _ (List.mem_append_left _ (List.mem_of_getElem? (i := 0) rfl))))) (fun _ h9 => h9) e0 dX12_reckonSlots_9 ?_
  refine lv_iload_n hx hb dX12_reckonSlots_12 rfl (lv_at hl 0 rfl) ?_
  refine va_zald hx hb hK hP 1 3 rfl rfl (k_in (by decide)) dX12_reckonSlots_13 ?_
  refine k_topi (y := 0) e6 ?_
  refine lv_if_eq (tgt := 74) hx hb dX12_reckonSlots_14 (by decide) (fun _ => ?_) (fun c9 => absurd (by decide) c9)
  refine lv_iinc (v := 6) (lv' := [(1, .int 6), (0, .ref h0)]) hx hb dX12_reckonSlots_74 hl (k := 0) rfl (by decide) (by decide) rfl (fun ls hl => ?_)
  refine lv_goto (tgt := 2) hx hb dX12_reckonSlots_77 (by decide) ?_
  refine lv_iload_n hx hb dX12_reckonSlots_2 rfl (lv_at hl 0 rfl) ?_
  refine lv_bipush (v := 24) hx hb dX12_reckonSlots_3 (by decide) ?_
  refine lv_icmp_gt (tgt := 80) hx hb dX12_reckonSlots_5 (by decide) (fun c9 => absurd c9 (by decide)) (fun _ => ?_)
  refine lv_aload_n hx hb dX12_reckonSlots_8 rfl (lv_at hl 1 rfl) ?_
  refine va_get (D := D) (ref := "IntegerHouseModel") (ci := 12) (v := .ref h1) (C := RX12) (T := TX12) (N := 195) hx hb hts hin12 hown hK hP 0 rfl rfl 121 (by decide) (hts (.fieldLink RX12 304 "IntegerHouseModel" "needed" "[Z") (List.mem_cons_of_mem _ (List.mem_append_left _ (List.mem_append_left _ (List.mem_of_getElem? (i := 0) rfl))))) (fun _ h9 => h9) e0 dX12_reckonSlots_9 ?_
  refine lv_iload_n hx hb dX12_reckonSlots_12 rfl (lv_at hl 0 rfl) ?_
  refine va_zald hx hb hK hP 1 3 rfl rfl (k_in (by decide)) dX12_reckonSlots_13 ?_
  refine k_topi (y := 0) e7 ?_
  refine lv_if_eq (tgt := 74) hx hb dX12_reckonSlots_14 (by decide) (fun _ => ?_) (fun c9 => absurd (by decide) c9)
  refine lv_iinc (v := 7) (lv' := [(1, .int 7), (0, .ref h0)]) hx hb dX12_reckonSlots_74 hl (k := 0) rfl (by decide) (by decide) rfl (fun ls hl => ?_)
  refine lv_goto (tgt := 2) hx hb dX12_reckonSlots_77 (by decide) ?_
  refine lv_iload_n hx hb dX12_reckonSlots_2 rfl (lv_at hl 0 rfl) ?_
  refine lv_bipush (v := 24) hx hb dX12_reckonSlots_3 (by decide) ?_
  refine lv_icmp_gt (tgt := 80) hx hb dX12_reckonSlots_5 (by decide) (fun c9 => absurd c9 (by decide)) (fun _ => ?_)
  refine lv_aload_n hx hb dX12_reckonSlots_8 rfl (lv_at hl 1 rfl) ?_
  refine va_get (D := D) (ref := "IntegerHouseModel") (ci := 12) (v := .ref h1) (C := RX12) (T := TX12) (N := 195) hx hb hts hin12 hown hK hP 0 rfl rfl 121 (by decide) (hts (.fieldLink RX12 304 "IntegerHouseModel" "needed" "[Z") (List.mem_cons_of_mem _ (List.mem_append_left _ (List.mem_append_left _ (List.mem_of_getElem? (i := 0) rfl))))) (fun _ h9 => h9) e0 dX12_reckonSlots_9 ?_
  refine lv_iload_n hx hb dX12_reckonSlots_12 rfl (lv_at hl 0 rfl) ?_
  refine va_zald hx hb hK hP 1 3 rfl rfl (k_in (by decide)) dX12_reckonSlots_13 ?_
  refine k_topi (y := 0) e8 ?_
  refine lv_if_eq (tgt := 74) hx hb dX12_reckonSlots_14 (by decide) (fun _ => ?_) (fun c9 => absurd (by decide) c9)
  refine lv_iinc (v := 8) (lv' := [(1, .int 8), (0, .ref h0)]) hx hb dX12_reckonSlots_74 hl (k := 0) rfl (by decide) (by decide) rfl (fun ls hl => ?_)
  refine lv_goto (tgt := 2) hx hb dX12_reckonSlots_77 (by decide) ?_
  refine lv_iload_n hx hb dX12_reckonSlots_2 rfl (lv_at hl 0 rfl) ?_
  refine lv_bipush (v := 24) hx hb dX12_reckonSlots_3 (by decide) ?_
  refine lv_icmp_gt (tgt := 80) hx hb dX12_reckonSlots_5 (by decide) (fun c9 => absurd c9 (by decide)) (fun _ => ?_)
  refine lv_aload_n hx hb dX12_reckonSlots_8 rfl (lv_at hl 1 rfl) ?_
  refine va_get (D := D) (ref := "IntegerHouseModel") (ci := 12) (v := .ref h1) (C := RX12) (T := TX12) (N := 195) hx hb hts hin12 hown hK hP 0 rfl rfl 121 (by decide) (hts (.fieldLink RX12 304 "IntegerHouseModel" "needed" "[Z") (List.mem_cons_of_mem _ (List.mem_append_left _ (List.mem_append_left _ (List.mem_of_getElem? (i := 0) rfl))))) (fun _ h9 => h9) e0 dX12_reckonSlots_9 ?_
  refine lv_iload_n hx hb dX12_reckonSlots_12 rfl (lv_at hl 0 rfl) ?_
  refine va_zald hx hb hK hP 1 3 rfl rfl (k_in (by decide)) dX12_reckonSlots_13 ?_
  refine k_topi (y := 0) e9 ?_
  refine lv_if_eq (tgt := 74) hx hb dX12_reckonSlots_14 (by decide) (fun _ => ?_) (fun c9 => absurd (by decide) c9)
  refine lv_iinc (v := 9) (lv' := [(1, .int 9), (0, .ref h0)]) hx hb dX12_reckonSlots_74 hl (k := 0) rfl (by decide) (by decide) rfl (fun ls hl => ?_)
  refine lv_goto (tgt := 2) hx hb dX12_reckonSlots_77 (by decide) ?_
  refine lv_iload_n hx hb dX12_reckonSlots_2 rfl (lv_at hl 0 rfl) ?_
  refine lv_bipush (v := 24) hx hb dX12_reckonSlots_3 (by decide) ?_
  refine lv_icmp_gt (tgt := 80) hx hb dX12_reckonSlots_5 (by decide) (fun c9 => absurd c9 (by decide)) (fun _ => ?_)
  refine lv_aload_n hx hb dX12_reckonSlots_8 rfl (lv_at hl 1 rfl) ?_
  refine va_get (D := D) (ref := "IntegerHouseModel") (ci := 12) (v := .ref h1) (C := RX12) (T := TX12) (N := 195) hx hb hts hin12 hown hK hP 0 rfl rfl 121 (by decide) (hts (.fieldLink RX12 304 "IntegerHouseModel" "needed" "[Z") (List.mem_cons_of_mem _ (List.mem_append_left _ (List.mem_append_left _ (List.mem_of_getElem? (i := 0) rfl))))) (fun _ h9 => h9) e0 dX12_reckonSlots_9 ?_
  refine lv_iload_n hx hb dX12_reckonSlots_12 rfl (lv_at hl 0 rfl) ?_
  refine va_zald hx hb hK hP 1 3 rfl rfl (k_in (by decide)) dX12_reckonSlots_13 ?_
  refine k_topi (y := 0) e10 ?_
  refine lv_if_eq (tgt := 74) hx hb dX12_reckonSlots_14 (by decide) (fun _ => ?_) (fun c9 => absurd (by decide) c9)
  refine lv_iinc (v := 10) (lv' := [(1, .int 10), (0, .ref h0)]) hx hb dX12_reckonSlots_74 hl (k := 0) rfl (by decide) (by decide) rfl (fun ls hl => ?_)
  refine lv_goto (tgt := 2) hx hb dX12_reckonSlots_77 (by decide) ?_
  refine lv_iload_n hx hb dX12_reckonSlots_2 rfl (lv_at hl 0 rfl) ?_
  refine lv_bipush (v := 24) hx hb dX12_reckonSlots_3 (by decide) ?_
  refine lv_icmp_gt (tgt := 80) hx hb dX12_reckonSlots_5 (by decide) (fun c9 => absurd c9 (by decide)) (fun _ => ?_)
  refine lv_aload_n hx hb dX12_reckonSlots_8 rfl (lv_at hl 1 rfl) ?_
  refine va_get (D := D) (ref := "IntegerHouseModel") (ci := 12) (v := .ref h1) (C := RX12) (T := TX12) (N := 195) hx hb hts hin12 hown hK hP 0 rfl rfl 121 (by decide) (hts (.fieldLink RX12 304 "IntegerHouseModel" "needed" "[Z") (List.mem_cons_of_mem _ (List.mem_append_left _ (List.mem_append_left _ (List.mem_of_getElem? (i := 0) rfl))))) (fun _ h9 => h9) e0 dX12_reckonSlots_9 ?_
  refine lv_iload_n hx hb dX12_reckonSlots_12 rfl (lv_at hl 0 rfl) ?_
  refine va_zald hx hb hK hP 1 3 rfl rfl (k_in (by decide)) dX12_reckonSlots_13 ?_
  refine k_topi (y := 0) e11 ?_
  refine lv_if_eq (tgt := 74) hx hb dX12_reckonSlots_14 (by decide) (fun _ => ?_) (fun c9 => absurd (by decide) c9)
  refine lv_iinc (v := 11) (lv' := [(1, .int 11), (0, .ref h0)]) hx hb dX12_reckonSlots_74 hl (k := 0) rfl (by decide) (by decide) rfl (fun ls hl => ?_)
  refine lv_goto (tgt := 2) hx hb dX12_reckonSlots_77 (by decide) ?_
  refine lv_iload_n hx hb dX12_reckonSlots_2 rfl (lv_at hl 0 rfl) ?_
  refine lv_bipush (v := 24) hx hb dX12_reckonSlots_3 (by decide) ?_
  refine lv_icmp_gt (tgt := 80) hx hb dX12_reckonSlots_5 (by decide) (fun c9 => absurd c9 (by decide)) (fun _ => ?_)
  refine lv_aload_n hx hb dX12_reckonSlots_8 rfl (lv_at hl 1 rfl) ?_
  refine va_get (D := D) (ref := "IntegerHouseModel") (ci := 12) (v := .ref h1) (C := RX12) (T := TX12) (N := 195) hx hb hts hin12 hown hK hP 0 rfl rfl 121 (by decide) (hts (.fieldLink RX12 304 "IntegerHouseModel" "needed" "[Z") (List.mem_cons_of_mem _ (List.mem_append_left _ (List.mem_append_left _ (List.mem_of_getElem? (i := 0) rfl))))) (fun _ h9 => h9) e0 dX12_reckonSlots_9 ?_
  refine lv_iload_n hx hb dX12_reckonSlots_12 rfl (lv_at hl 0 rfl) ?_
  refine va_zald hx hb hK hP 1 3 rfl rfl (k_in (by decide)) dX12_reckonSlots_13 ?_
  refine k_topi (y := 0) e12 ?_
  refine lv_if_eq (tgt := 74) hx hb dX12_reckonSlots_14 (by decide) (fun _ => ?_) (fun c9 => absurd (by decide) c9)
  refine lv_iinc (v := 12) (lv' := [(1, .int 12), (0, .ref h0)]) hx hb dX12_reckonSlots_74 hl (k := 0) rfl (by decide) (by decide) rfl (fun ls hl => ?_)
  refine lv_goto (tgt := 2) hx hb dX12_reckonSlots_77 (by decide) ?_
  refine lv_iload_n hx hb dX12_reckonSlots_2 rfl (lv_at hl 0 rfl) ?_
  refine lv_bipush (v := 24) hx hb dX12_reckonSlots_3 (by decide) ?_
  refine lv_icmp_gt (tgt := 80) hx hb dX12_reckonSlots_5 (by decide) (fun c9 => absurd c9 (by decide)) (fun _ => ?_)
  refine lv_aload_n hx hb dX12_reckonSlots_8 rfl (lv_at hl 1 rfl) ?_
  refine va_get (D := D) (ref := "IntegerHouseModel") (ci := 12) (v := .ref h1) (C := RX12) (T := TX12) (N := 195) hx hb hts hin12 hown hK hP 0 rfl rfl 121 (by decide) (hts (.fieldLink RX12 304 "IntegerHouseModel" "needed" "[Z") (List.mem_cons_of_mem _ (List.mem_append_left _ (List.mem_append_left _ (List.mem_of_getElem? (i := 0) rfl))))) (fun _ h9 => h9) e0 dX12_reckonSlots_9 ?_
  refine lv_iload_n hx hb dX12_reckonSlots_12 rfl (lv_at hl 0 rfl) ?_
  refine va_zald hx hb hK hP 1 3 rfl rfl (k_in (by decide)) dX12_reckonSlots_13 ?_
  refine k_topi (y := 0) e13 ?_
  refine lv_if_eq (tgt := 74) hx hb dX12_reckonSlots_14 (by decide) (fun _ => ?_) (fun c9 => absurd (by decide) c9)
  refine lv_iinc (v := 13) (lv' := [(1, .int 13), (0, .ref h0)]) hx hb dX12_reckonSlots_74 hl (k := 0) rfl (by decide) (by decide) rfl (fun ls hl => ?_)
  refine lv_goto (tgt := 2) hx hb dX12_reckonSlots_77 (by decide) ?_
  refine lv_iload_n hx hb dX12_reckonSlots_2 rfl (lv_at hl 0 rfl) ?_
  refine lv_bipush (v := 24) hx hb dX12_reckonSlots_3 (by decide) ?_
  refine lv_icmp_gt (tgt := 80) hx hb dX12_reckonSlots_5 (by decide) (fun c9 => absurd c9 (by decide)) (fun _ => ?_)
  refine lv_aload_n hx hb dX12_reckonSlots_8 rfl (lv_at hl 1 rfl) ?_
  refine va_get (D := D) (ref := "IntegerHouseModel") (ci := 12) (v := .ref h1) (C := RX12) (T := TX12) (N := 195) hx hb hts hin12 hown hK hP 0 rfl rfl 121 (by decide) (hts (.fieldLink RX12 304 "IntegerHouseModel" "needed" "[Z") (List.mem_cons_of_mem _ (List.mem_append_left _ (List.mem_append_left _ (List.mem_of_getElem? (i := 0) rfl))))) (fun _ h9 => h9) e0 dX12_reckonSlots_9 ?_
  refine lv_iload_n hx hb dX12_reckonSlots_12 rfl (lv_at hl 0 rfl) ?_
  refine va_zald hx hb hK hP 1 3 rfl rfl (k_in (by decide)) dX12_reckonSlots_13 ?_
  refine k_topi (y := 0) e14 ?_
  refine lv_if_eq (tgt := 74) hx hb dX12_reckonSlots_14 (by decide) (fun _ => ?_) (fun c9 => absurd (by decide) c9)
  refine lv_iinc (v := 14) (lv' := [(1, .int 14), (0, .ref h0)]) hx hb dX12_reckonSlots_74 hl (k := 0) rfl (by decide) (by decide) rfl (fun ls hl => ?_)
  refine lv_goto (tgt := 2) hx hb dX12_reckonSlots_77 (by decide) ?_
  refine lv_iload_n hx hb dX12_reckonSlots_2 rfl (lv_at hl 0 rfl) ?_
  refine lv_bipush (v := 24) hx hb dX12_reckonSlots_3 (by decide) ?_
  refine lv_icmp_gt (tgt := 80) hx hb dX12_reckonSlots_5 (by decide) (fun c9 => absurd c9 (by decide)) (fun _ => ?_)
  refine lv_aload_n hx hb dX12_reckonSlots_8 rfl (lv_at hl 1 rfl) ?_
  refine va_get (D := D) (ref := "IntegerHouseModel") (ci := 12) (v := .ref h1) (C := RX12) (T := TX12) (N := 195) hx hb hts hin12 hown hK hP 0 rfl rfl 121 (by decide) (hts (.fieldLink RX12 304 "IntegerHouseModel" "needed" "[Z") (List.mem_cons_of_mem _ (List.mem_append_left _ (List.mem_append_left _ (List.mem_of_getElem? (i := 0) rfl))))) (fun _ h9 => h9) e0 dX12_reckonSlots_9 ?_
  refine lv_iload_n hx hb dX12_reckonSlots_12 rfl (lv_at hl 0 rfl) ?_
  refine va_zald hx hb hK hP 1 3 rfl rfl (k_in (by decide)) dX12_reckonSlots_13 ?_
  refine k_topi (y := 0) e15 ?_
  refine lv_if_eq (tgt := 74) hx hb dX12_reckonSlots_14 (by decide) (fun _ => ?_) (fun c9 => absurd (by decide) c9)
  refine lv_iinc (v := 15) (lv' := [(1, .int 15), (0, .ref h0)]) hx hb dX12_reckonSlots_74 hl (k := 0) rfl (by decide) (by decide) rfl (fun ls hl => ?_)
  refine lv_goto (tgt := 2) hx hb dX12_reckonSlots_77 (by decide) ?_
  refine lv_iload_n hx hb dX12_reckonSlots_2 rfl (lv_at hl 0 rfl) ?_
  refine lv_bipush (v := 24) hx hb dX12_reckonSlots_3 (by decide) ?_
  refine lv_icmp_gt (tgt := 80) hx hb dX12_reckonSlots_5 (by decide) (fun c9 => absurd c9 (by decide)) (fun _ => ?_)
  refine lv_aload_n hx hb dX12_reckonSlots_8 rfl (lv_at hl 1 rfl) ?_
  refine va_get (D := D) (ref := "IntegerHouseModel") (ci := 12) (v := .ref h1) (C := RX12) (T := TX12) (N := 195) hx hb hts hin12 hown hK hP 0 rfl rfl 121 (by decide) (hts (.fieldLink RX12 304 "IntegerHouseModel" "needed" "[Z") (List.mem_cons_of_mem _ (List.mem_append_left _ (List.mem_append_left _ (List.mem_of_getElem? (i := 0) rfl))))) (fun _ h9 => h9) e0 dX12_reckonSlots_9 ?_
  refine lv_iload_n hx hb dX12_reckonSlots_12 rfl (lv_at hl 0 rfl) ?_
  refine va_zald hx hb hK hP 1 3 rfl rfl (k_in (by decide)) dX12_reckonSlots_13 ?_
  refine k_topi (y := 0) e16 ?_
  refine lv_if_eq (tgt := 74) hx hb dX12_reckonSlots_14 (by decide) (fun _ => ?_) (fun c9 => absurd (by decide) c9)
  refine lv_iinc (v := 16) (lv' := [(1, .int 16), (0, .ref h0)]) hx hb dX12_reckonSlots_74 hl (k := 0) rfl (by decide) (by decide) rfl (fun ls hl => ?_)
  refine lv_goto (tgt := 2) hx hb dX12_reckonSlots_77 (by decide) ?_
  refine lv_iload_n hx hb dX12_reckonSlots_2 rfl (lv_at hl 0 rfl) ?_
  refine lv_bipush (v := 24) hx hb dX12_reckonSlots_3 (by decide) ?_
  refine lv_icmp_gt (tgt := 80) hx hb dX12_reckonSlots_5 (by decide) (fun c9 => absurd c9 (by decide)) (fun _ => ?_)
  refine lv_aload_n hx hb dX12_reckonSlots_8 rfl (lv_at hl 1 rfl) ?_
  refine va_get (D := D) (ref := "IntegerHouseModel") (ci := 12) (v := .ref h1) (C := RX12) (T := TX12) (N := 195) hx hb hts hin12 hown hK hP 0 rfl rfl 121 (by decide) (hts (.fieldLink RX12 304 "IntegerHouseModel" "needed" "[Z") (List.mem_cons_of_mem _ (List.mem_append_left _ (List.mem_append_left _ (List.mem_of_getElem? (i := 0) rfl))))) (fun _ h9 => h9) e0 dX12_reckonSlots_9 ?_
  refine lv_iload_n hx hb dX12_reckonSlots_12 rfl (lv_at hl 0 rfl) ?_
  refine va_zald hx hb hK hP 1 3 rfl rfl (k_in (by decide)) dX12_reckonSlots_13 ?_
  refine k_topi (y := 0) e17 ?_
  refine lv_if_eq (tgt := 74) hx hb dX12_reckonSlots_14 (by decide) (fun _ => ?_) (fun c9 => absurd (by decide) c9)
  refine lv_iinc (v := 17) (lv' := [(1, .int 17), (0, .ref h0)]) hx hb dX12_reckonSlots_74 hl (k := 0) rfl (by decide) (by decide) rfl (fun ls hl => ?_)
  refine lv_goto (tgt := 2) hx hb dX12_reckonSlots_77 (by decide) ?_
  refine lv_iload_n hx hb dX12_reckonSlots_2 rfl (lv_at hl 0 rfl) ?_
  refine lv_bipush (v := 24) hx hb dX12_reckonSlots_3 (by decide) ?_
  refine lv_icmp_gt (tgt := 80) hx hb dX12_reckonSlots_5 (by decide) (fun c9 => absurd c9 (by decide)) (fun _ => ?_)
  refine lv_aload_n hx hb dX12_reckonSlots_8 rfl (lv_at hl 1 rfl) ?_
  refine va_get (D := D) (ref := "IntegerHouseModel") (ci := 12) (v := .ref h1) (C := RX12) (T := TX12) (N := 195) hx hb hts hin12 hown hK hP 0 rfl rfl 121 (by decide) (hts (.fieldLink RX12 304 "IntegerHouseModel" "needed" "[Z") (List.mem_cons_of_mem _ (List.mem_append_left _ (List.mem_append_left _ (List.mem_of_getElem? (i := 0) rfl))))) (fun _ h9 => h9) e0 dX12_reckonSlots_9 ?_
  refine lv_iload_n hx hb dX12_reckonSlots_12 rfl (lv_at hl 0 rfl) ?_
  refine va_zald hx hb hK hP 1 3 rfl rfl (k_in (by decide)) dX12_reckonSlots_13 ?_
  refine k_topi (y := 0) e18 ?_
  refine lv_if_eq (tgt := 74) hx hb dX12_reckonSlots_14 (by decide) (fun _ => ?_) (fun c9 => absurd (by decide) c9)
  refine lv_iinc (v := 18) (lv' := [(1, .int 18), (0, .ref h0)]) hx hb dX12_reckonSlots_74 hl (k := 0) rfl (by decide) (by decide) rfl (fun ls hl => ?_)
  refine lv_goto (tgt := 2) hx hb dX12_reckonSlots_77 (by decide) ?_
  refine lv_iload_n hx hb dX12_reckonSlots_2 rfl (lv_at hl 0 rfl) ?_
  refine lv_bipush (v := 24) hx hb dX12_reckonSlots_3 (by decide) ?_
  refine lv_icmp_gt (tgt := 80) hx hb dX12_reckonSlots_5 (by decide) (fun c9 => absurd c9 (by decide)) (fun _ => ?_)
  refine lv_aload_n hx hb dX12_reckonSlots_8 rfl (lv_at hl 1 rfl) ?_
  refine va_get (D := D) (ref := "IntegerHouseModel") (ci := 12) (v := .ref h1) (C := RX12) (T := TX12) (N := 195) hx hb hts hin12 hown hK hP 0 rfl rfl 121 (by decide) (hts (.fieldLink RX12 304 "IntegerHouseModel" "needed" "[Z") (List.mem_cons_of_mem _ (List.mem_append_left _ (List.mem_append_left _ (List.mem_of_getElem? (i := 0) rfl))))) (fun _ h9 => h9) e0 dX12_reckonSlots_9 ?_
  refine lv_iload_n hx hb dX12_reckonSlots_12 rfl (lv_at hl 0 rfl) ?_
  refine va_zald hx hb hK hP 1 3 rfl rfl (k_in (by decide)) dX12_reckonSlots_13 ?_
  refine k_topi (y := 0) e19 ?_
  refine lv_if_eq (tgt := 74) hx hb dX12_reckonSlots_14 (by decide) (fun _ => ?_) (fun c9 => absurd (by decide) c9)
  refine lv_iinc (v := 19) (lv' := [(1, .int 19), (0, .ref h0)]) hx hb dX12_reckonSlots_74 hl (k := 0) rfl (by decide) (by decide) rfl (fun ls hl => ?_)
  refine lv_goto (tgt := 2) hx hb dX12_reckonSlots_77 (by decide) ?_
  refine lv_iload_n hx hb dX12_reckonSlots_2 rfl (lv_at hl 0 rfl) ?_
  refine lv_bipush (v := 24) hx hb dX12_reckonSlots_3 (by decide) ?_
  refine lv_icmp_gt (tgt := 80) hx hb dX12_reckonSlots_5 (by decide) (fun c9 => absurd c9 (by decide)) (fun _ => ?_)
  refine lv_aload_n hx hb dX12_reckonSlots_8 rfl (lv_at hl 1 rfl) ?_
  refine va_get (D := D) (ref := "IntegerHouseModel") (ci := 12) (v := .ref h1) (C := RX12) (T := TX12) (N := 195) hx hb hts hin12 hown hK hP 0 rfl rfl 121 (by decide) (hts (.fieldLink RX12 304 "IntegerHouseModel" "needed" "[Z") (List.mem_cons_of_mem _ (List.mem_append_left _ (List.mem_append_left _ (List.mem_of_getElem? (i := 0) rfl))))) (fun _ h9 => h9) e0 dX12_reckonSlots_9 ?_
  refine lv_iload_n hx hb dX12_reckonSlots_12 rfl (lv_at hl 0 rfl) ?_
  refine va_zald hx hb hK hP 1 3 rfl rfl (k_in (by decide)) dX12_reckonSlots_13 ?_
  refine k_topi (y := 0) e20 ?_
  refine lv_if_eq (tgt := 74) hx hb dX12_reckonSlots_14 (by decide) (fun _ => ?_) (fun c9 => absurd (by decide) c9)
  refine lv_iinc (v := 20) (lv' := [(1, .int 20), (0, .ref h0)]) hx hb dX12_reckonSlots_74 hl (k := 0) rfl (by decide) (by decide) rfl (fun ls hl => ?_)
  refine lv_goto (tgt := 2) hx hb dX12_reckonSlots_77 (by decide) ?_
  refine lv_iload_n hx hb dX12_reckonSlots_2 rfl (lv_at hl 0 rfl) ?_
  refine lv_bipush (v := 24) hx hb dX12_reckonSlots_3 (by decide) ?_
  refine lv_icmp_gt (tgt := 80) hx hb dX12_reckonSlots_5 (by decide) (fun c9 => absurd c9 (by decide)) (fun _ => ?_)
  refine lv_aload_n hx hb dX12_reckonSlots_8 rfl (lv_at hl 1 rfl) ?_
  refine va_get (D := D) (ref := "IntegerHouseModel") (ci := 12) (v := .ref h1) (C := RX12) (T := TX12) (N := 195) hx hb hts hin12 hown hK hP 0 rfl rfl 121 (by decide) (hts (.fieldLink RX12 304 "IntegerHouseModel" "needed" "[Z") (List.mem_cons_of_mem _ (List.mem_append_left _ (List.mem_append_left _ (List.mem_of_getElem? (i := 0) rfl))))) (fun _ h9 => h9) e0 dX12_reckonSlots_9 ?_
  refine lv_iload_n hx hb dX12_reckonSlots_12 rfl (lv_at hl 0 rfl) ?_
  refine va_zald hx hb hK hP 1 3 rfl rfl (k_in (by decide)) dX12_reckonSlots_13 ?_
  refine k_topi (y := 0) e21 ?_
  refine lv_if_eq (tgt := 74) hx hb dX12_reckonSlots_14 (by decide) (fun _ => ?_) (fun c9 => absurd (by decide) c9)
  refine lv_iinc (v := 21) (lv' := [(1, .int 21), (0, .ref h0)]) hx hb dX12_reckonSlots_74 hl (k := 0) rfl (by decide) (by decide) rfl (fun ls hl => ?_)
  refine lv_goto (tgt := 2) hx hb dX12_reckonSlots_77 (by decide) ?_
  refine lv_iload_n hx hb dX12_reckonSlots_2 rfl (lv_at hl 0 rfl) ?_
  refine lv_bipush (v := 24) hx hb dX12_reckonSlots_3 (by decide) ?_
  refine lv_icmp_gt (tgt := 80) hx hb dX12_reckonSlots_5 (by decide) (fun c9 => absurd c9 (by decide)) (fun _ => ?_)
  refine lv_aload_n hx hb dX12_reckonSlots_8 rfl (lv_at hl 1 rfl) ?_
  refine va_get (D := D) (ref := "IntegerHouseModel") (ci := 12) (v := .ref h1) (C := RX12) (T := TX12) (N := 195) hx hb hts hin12 hown hK hP 0 rfl rfl 121 (by decide) (hts (.fieldLink RX12 304 "IntegerHouseModel" "needed" "[Z") (List.mem_cons_of_mem _ (List.mem_append_left _ (List.mem_append_left _ (List.mem_of_getElem? (i := 0) rfl))))) (fun _ h9 => h9) e0 dX12_reckonSlots_9 ?_
  refine lv_iload_n hx hb dX12_reckonSlots_12 rfl (lv_at hl 0 rfl) ?_
  refine va_zald hx hb hK hP 1 3 rfl rfl (k_in (by decide)) dX12_reckonSlots_13 ?_
  refine k_topi (y := 0) e22 ?_
  refine lv_if_eq (tgt := 74) hx hb dX12_reckonSlots_14 (by decide) (fun _ => ?_) (fun c9 => absurd (by decide) c9)
  refine lv_iinc (v := 22) (lv' := [(1, .int 22), (0, .ref h0)]) hx hb dX12_reckonSlots_74 hl (k := 0) rfl (by decide) (by decide) rfl (fun ls hl => ?_)
  refine lv_goto (tgt := 2) hx hb dX12_reckonSlots_77 (by decide) ?_
  refine lv_iload_n hx hb dX12_reckonSlots_2 rfl (lv_at hl 0 rfl) ?_
  refine lv_bipush (v := 24) hx hb dX12_reckonSlots_3 (by decide) ?_
  refine lv_icmp_gt (tgt := 80) hx hb dX12_reckonSlots_5 (by decide) (fun c9 => absurd c9 (by decide)) (fun _ => ?_)
  refine lv_aload_n hx hb dX12_reckonSlots_8 rfl (lv_at hl 1 rfl) ?_
  refine va_get (D := D) (ref := "IntegerHouseModel") (ci := 12) (v := .ref h1) (C := RX12) (T := TX12) (N := 195) hx hb hts hin12 hown hK hP 0 rfl rfl 121 (by decide) (hts (.fieldLink RX12 304 "IntegerHouseModel" "needed" "[Z") (List.mem_cons_of_mem _ (List.mem_append_left _ (List.mem_append_left _ (List.mem_of_getElem? (i := 0) rfl))))) (fun _ h9 => h9) e0 dX12_reckonSlots_9 ?_
  refine lv_iload_n hx hb dX12_reckonSlots_12 rfl (lv_at hl 0 rfl) ?_
  refine va_zald hx hb hK hP 1 3 rfl rfl (k_in (by decide)) dX12_reckonSlots_13 ?_
  refine k_topi (y := 0) e23 ?_
  refine lv_if_eq (tgt := 74) hx hb dX12_reckonSlots_14 (by decide) (fun _ => ?_) (fun c9 => absurd (by decide) c9)
  refine lv_iinc (v := 23) (lv' := [(1, .int 23), (0, .ref h0)]) hx hb dX12_reckonSlots_74 hl (k := 0) rfl (by decide) (by decide) rfl (fun ls hl => ?_)
  refine lv_goto (tgt := 2) hx hb dX12_reckonSlots_77 (by decide) ?_
  refine lv_iload_n hx hb dX12_reckonSlots_2 rfl (lv_at hl 0 rfl) ?_
  refine lv_bipush (v := 24) hx hb dX12_reckonSlots_3 (by decide) ?_
  refine lv_icmp_gt (tgt := 80) hx hb dX12_reckonSlots_5 (by decide) (fun c9 => absurd c9 (by decide)) (fun _ => ?_)
  refine lv_aload_n hx hb dX12_reckonSlots_8 rfl (lv_at hl 1 rfl) ?_
  refine va_get (D := D) (ref := "IntegerHouseModel") (ci := 12) (v := .ref h1) (C := RX12) (T := TX12) (N := 195) hx hb hts hin12 hown hK hP 0 rfl rfl 121 (by decide) (hts (.fieldLink RX12 304 "IntegerHouseModel" "needed" "[Z") (List.mem_cons_of_mem _ (List.mem_append_left _ (List.mem_append_left _ (List.mem_of_getElem? (i := 0) rfl))))) (fun _ h9 => h9) e0 dX12_reckonSlots_9 ?_
  refine lv_iload_n hx hb dX12_reckonSlots_12 rfl (lv_at hl 0 rfl) ?_
  refine va_zald hx hb hK hP 1 3 rfl rfl (k_in (by decide)) dX12_reckonSlots_13 ?_
  refine k_topi (y := 0) e24 ?_
  refine lv_if_eq (tgt := 74) hx hb dX12_reckonSlots_14 (by decide) (fun _ => ?_) (fun c9 => absurd (by decide) c9)
  refine lv_iinc (v := 24) (lv' := [(1, .int 24), (0, .ref h0)]) hx hb dX12_reckonSlots_74 hl (k := 0) rfl (by decide) (by decide) rfl (fun ls hl => ?_)
  refine lv_goto (tgt := 2) hx hb dX12_reckonSlots_77 (by decide) ?_
  refine lv_iload_n hx hb dX12_reckonSlots_2 rfl (lv_at hl 0 rfl) ?_
  refine lv_bipush (v := 24) hx hb dX12_reckonSlots_3 (by decide) ?_
  refine lv_icmp_gt (tgt := 80) hx hb dX12_reckonSlots_5 (by decide) (fun c9 => absurd c9 (by decide)) (fun _ => ?_)
  refine lv_aload_n hx hb dX12_reckonSlots_8 rfl (lv_at hl 1 rfl) ?_
  refine va_get (D := D) (ref := "IntegerHouseModel") (ci := 12) (v := .ref h1) (C := RX12) (T := TX12) (N := 195) hx hb hts hin12 hown hK hP 0 rfl rfl 121 (by decide) (hts (.fieldLink RX12 304 "IntegerHouseModel" "needed" "[Z") (List.mem_cons_of_mem _ (List.mem_append_left _ (List.mem_append_left _ (List.mem_of_getElem? (i := 0) rfl))))) (fun _ h9 => h9) e0 dX12_reckonSlots_9 ?_
  refine lv_iload_n hx hb dX12_reckonSlots_12 rfl (lv_at hl 0 rfl) ?_
  refine va_zald hx hb hK hP 1 3 rfl rfl (k_in (by decide)) dX12_reckonSlots_13 ?_
  refine k_topi (y := 0) e25 ?_
  refine lv_if_eq (tgt := 74) hx hb dX12_reckonSlots_14 (by decide) (fun _ => ?_) (fun c9 => absurd (by decide) c9)
  refine lv_iinc (v := 25) (lv' := [(1, .int 25), (0, .ref h0)]) hx hb dX12_reckonSlots_74 hl (k := 0) rfl (by decide) (by decide) rfl (fun ls hl => ?_)
  refine lv_goto (tgt := 2) hx hb dX12_reckonSlots_77 (by decide) ?_
  refine lv_iload_n hx hb dX12_reckonSlots_2 rfl (lv_at hl 0 rfl) ?_
  refine lv_bipush (v := 24) hx hb dX12_reckonSlots_3 (by decide) ?_
  refine lv_icmp_gt (tgt := 80) hx hb dX12_reckonSlots_5 (by decide) (fun _ => ?_) (fun c9 => absurd (by decide) c9)
  exact W.vret hx hb hr (fun t ht hW => ⟨⟨(), rfl, trivial, kB_mk ht hW hP hK hD⟩, hS.F ht⟩) hS.2.2 dX12_reckonSlots_80
set_option maxHeartbeats 400000000 in
set_option maxRecDepth 100000 in
theorem c_X12_isAnswer_0 (l : Launch) (E : kE) (D : va_G) (cI cJ cB cZ : ClassId) (h0 : Nat) (f0 : List Value) (e0 : f0[33]? = some (.int 0)) : kI l E D (kT cI cJ cB cZ) yX12_isAnswer wsX12_isAnswer ({ frames := 0, cells := 0, slots := 0, locals := 0 }) [.ref h0, .int 0, .int 0] [(h0, .inr (12, f0))] (1) [(h0, .inr (12, f0))] 0 0 := by
  intro sz
  refine Met.ofW (cc := cX12_isAnswer) (maxL := 5) (ret := (some .boolean)) (by decide) rfl ?_
  intro p e s m args below meth c s₁ B hml hv
  obtain ⟨rfl, hsz, hP, hK, hD0, hN, hX⟩ := hv
  have hx := B.exec
  have hb := B.bytes
  have hr := B.returns
  have hts := atoms_spec (ws := wsX12_isAnswer) B.pre
  have hown : s.vm.findClass RX12 = some m.cls := findClass_of_methodNamed B.named
  have hlocks := B.notSynchronized
  have hin12 : ∀ w ∈ wsX120, w ∈ wsX12_isAnswer := (fun w h => (List.mem_cons_of_mem _ (List.mem_append_right _ h)))
  subst hsz
  have hD := hD0.self (sz := s.heap.size)
  have hAE := k_AE hD0 hX
  generalize hAe : va_A [(h0, .inr (12, f0))] s.heap.size = A at hD hAE ⊢
  have hA : ∀ q : Nat, s.heap.size ≤ q → A q := fun q h => by rw [← hAe]; exact Or.inr h
  have hS : va_S A s.heap s.heap [] := va_S.rf
  have hP : va_P D vwCl [(h0, .inr (12, f0))] s.heap := hP
  have hl := lv_entry ([.ref h0, .int 0, .int 0] : List Value) (n := 5) (Nat.le_of_ble_eq_true rfl)
  rw [lg_entry_eq]
  generalize (lg_sl ([.ref h0, .int 0, .int 0]) ++ List.replicate (5 - (lg_sl ([.ref h0, .int 0, .int 0])).length) Slot.unset).toArray = ls at hl ⊢
  have hl : lv_has ls 5 [(0, .ref h0), (1, .int 0), (2, .int 0)] := hl
  refine lv_iload_n hx hb dX12_isAnswer_0 rfl (lv_at hl 1 rfl) ?_
  refine lv_iconst (v := 2) hx hb dX12_isAnswer_1 (by decide) ?_
  refine lv_icmp_ne (tgt := 12) hx hb dX12_isAnswer_2 (by decide) (fun _ => ?_) (fun c9 => absurd c9 (by decide))
  refine lv_iconst (v := 1) hx hb dX12_isAnswer_12 (by decide) ?_
  refine lv_istore_n (lv' := [(3, .int 1), (0, .ref h0), (1, .int 0), (2, .int 0)]) hx hb dX12_isAnswer_13 rfl hl (by decide) rfl (fun ls hl => ?_)
  refine lv_iconst (v := 0) hx hb dX12_isAnswer_14 (by decide) ?_
  refine lv_istore (lv' := [(4, .int 0), (3, .int 1), (0, .ref h0), (1, .int 0), (2, .int 0)]) hx hb dX12_isAnswer_15 hl (by decide) rfl (fun ls hl => ?_)
  refine lv_iload hx hb dX12_isAnswer_17 (lv_at hl 0 rfl) ?_
  refine lv_aload_n hx hb dX12_isAnswer_19 rfl (lv_at hl 2 rfl) ?_
  refine va_get (D := D) (ref := "IntegerHouseModel") (ci := 12) (v := .int 0) (C := RX12) (T := TX12) (N := 195) hx hb hts hin12 hown hK hP 0 rfl rfl 33 (by decide) (hts (.fieldLink RX12 818 "IntegerHouseModel" "claims" "I") (List.mem_cons_of_mem _ (List.mem_append_left _ (List.mem_of_getElem? (i := 1) rfl)))) (fun _ h9 => h9) e0 dX12_isAnswer_20 ?_
  refine lv_icmp_ge (tgt := 72) hx hb dX12_isAnswer_23 (by decide) (fun _ => ?_) (fun c9 => absurd (by decide) c9)
  refine lv_iload_n hx hb dX12_isAnswer_72 rfl (lv_at hl 3 rfl) ?_
  refine lv_if_ne (tgt := 80) hx hb dX12_isAnswer_73 (by decide) (fun c9 => absurd (by decide) c9) (fun _ => ?_)
  refine lv_iload_n hx hb dX12_isAnswer_76 rfl (lv_at hl 1 rfl) ?_
  refine lv_goto (tgt := 124) hx hb dX12_isAnswer_77 (by decide) ?_
  exact W.zret (v := 1) hx hb hr rfl (fun t ht hW => ⟨⟨1, (), rfl, rfl, kB_mk ht hW hP hK hD⟩, hS.F ht⟩) hS.2.2 dX12_isAnswer_124
set_option maxHeartbeats 400000000 in
set_option maxRecDepth 100000 in
theorem c_X12_judge_0 (l : Launch) (E : kE) (D : va_G) (cI cJ cB cZ : ClassId) (h0 : Nat) (f0 : List Value) (h1 : Nat) (g0 : Nat → Int32) (h2 : Nat) (g1 : Nat → Int32) (h3 : Nat) (g2 : Nat → Int32) (h4 : Nat) (g3 : Nat → Int32) (h5 : Nat) (g4 : Nat → Int32) (e0 : f0[136]? = some (.ref h1)) (e1 : f0[129]? = some (.int 1)) (e2 : f0[132]? = some (.ref h2)) (e3 : f0[133]? = some (.ref h3)) (e4 : f0[131]? = some (.int 1)) (e5 : f0[119]? = some (.int 0)) (e6 : f0[121]? = some (.ref h4)) (e7 : g3 0 = 0) (e8 : g3 1 = 0) (e9 : g3 2 = 0) (e10 : g3 3 = 0) (e11 : g3 4 = 0) (e12 : g3 5 = 0) (e13 : g3 6 = 0) (e14 : g3 7 = 0) (e15 : g3 8 = 0) (e16 : g3 9 = 0) (e17 : g3 10 = 0) (e18 : g3 11 = 0) (e19 : g3 12 = 0) (e20 : g3 13 = 0) (e21 : g3 14 = 0) (e22 : g3 15 = 0) (e23 : g3 16 = 0) (e24 : g3 17 = 0) (e25 : g3 18 = 0) (e26 : g3 19 = 0) (e27 : g3 20 = 0) (e28 : g3 21 = 0) (e29 : g3 22 = 0) (e30 : g3 23 = 0) (e31 : g3 24 = 0) (e32 : f0[135]? = some (.ref h5)) (e33 : f0[33]? = some (.int 0)) : kV l E D (kT cI cJ cB cZ) yX12_judge wsX12_judge ({ frames := 1, cells := 0, slots := 0, locals := 24 }) [.ref h0, .int 0, .int 0, .int (-1)] [(h0, .inr (12, f0)), (h1, .inl (cI, 4096, .inl g0)), (h2, .inl (cI, 3000, .inl g1)), (h3, .inl (cI, 3000, .inl g2)), (h4, .inl (cZ, 26, .inl g3)), (h5, .inl (cI, 4096, .inl g4))] (fun _ : Unit => [(h0, .inr (12, f0)), (h1, .inl (cI, 4096, .inl (upd (k_fill (-1) 4096 g0) 0 1))), (h2, .inl (cI, 3000, .inl (upd (upd g1 0 0) 0 1))), (h3, .inl (cI, 3000, .inl (upd (upd g2 0 0) 0 0))), (h4, .inl (cZ, 26, .inl g3)), (h5, .inl (cI, 4096, .inl (upd g4 0 0)))]) 0 0 := by
  intro sz
  refine Met.ofW (cc := cX12_judge) (maxL := 8) (ret := none) (by decide) rfl ?_
  intro p e s m args below meth c s₁ B hml hv
  obtain ⟨rfl, hsz, hP, hK, hD0, hN, hX⟩ := hv
  have hx := B.exec
  have hb := B.bytes
  have hr := B.returns
  have hts := atoms_spec (ws := wsX12_judge) B.pre
  have hown : s.vm.findClass RX12 = some m.cls := findClass_of_methodNamed B.named
  have hlocks := B.notSynchronized
  have hin12 : ∀ w ∈ wsX120, w ∈ wsX12_judge := (fun w h => (List.mem_cons_of_mem _ (List.mem_append_right _ h)))
  subst hsz
  have hD := hD0.self (sz := s.heap.size)
  have hAE := k_AE hD0 hX
  generalize hAe : va_A [(h0, .inr (12, f0)), (h1, .inl (cI, 4096, .inl g0)), (h2, .inl (cI, 3000, .inl g1)), (h3, .inl (cI, 3000, .inl g2)), (h4, .inl (cZ, 26, .inl g3)), (h5, .inl (cI, 4096, .inl g4))] s.heap.size = A at hD hAE ⊢
  have hA : ∀ q : Nat, s.heap.size ≤ q → A q := fun q h => by rw [← hAe]; exact Or.inr h
  have hS : va_S A s.heap s.heap [] := va_S.rf
  have hP : va_P D vwCl [(h0, .inr (12, f0)), (h1, .inl (cI, 4096, .inl g0)), (h2, .inl (cI, 3000, .inl g1)), (h3, .inl (cI, 3000, .inl g2)), (h4, .inl (cZ, 26, .inl g3)), (h5, .inl (cI, 4096, .inl g4))] s.heap := hP
  have hl := lv_entry ([.ref h0, .int 0, .int 0, .int (-1)] : List Value) (n := 8) (Nat.le_of_ble_eq_true rfl)
  rw [lg_entry_eq]
  generalize (lg_sl ([.ref h0, .int 0, .int 0, .int (-1)]) ++ List.replicate (8 - (lg_sl ([.ref h0, .int 0, .int 0, .int (-1)])).length) Slot.unset).toArray = ls at hl ⊢
  have hl : lv_has ls 8 [(0, .ref h0), (1, .int 0), (2, .int 0), (3, .int (-1))] := hl
  refine lv_iconst (v := 0) hx hb dX12_judge_0 (by decide) ?_
  refine lv_istore (lv' := [(4, .int 0), (0, .ref h0), (1, .int 0), (2, .int 0), (3, .int (-1))]) hx hb dX12_judge_1 hl (by decide) rfl (fun ls hl => ?_)
  refine k_loopW (P := fun i H locs ls => va_P D vwCl [(h0, .inr (12, f0)), (h1, .inl (cI, 4096, .inl (k_fill (-1) i g0))), (h2, .inl (cI, 3000, .inl g1)), (h3, .inl (cI, 3000, .inl g2)), (h4, .inl (cZ, 26, .inl g3)), (h5, .inl (cI, 4096, .inl g4))] H ∧ va_D A [(h0, .inr (12, f0)), (h1, .inl (cI, 4096, .inl (k_fill (-1) i g0))), (h2, .inl (cI, 3000, .inl g1)), (h3, .inl (cI, 3000, .inl g2)), (h4, .inl (cZ, 26, .inl g3)), (h5, .inl (cI, 4096, .inl g4))] ∧ va_S A s.heap H locs ∧ lv_has ls 8 [(4, .int (nI i)), (0, .ref h0), (1, .int 0), (2, .int 0), (3, .int (-1))]) 4096 (fun i H locs ls hi hh kk => ?_) (fun H locs ls hh => ?_) (Nat.zero_le 4096) ⟨by rw [k_fill_0]; exact hP, by rw [k_fill_0]; exact hD, hS, hl⟩
  · obtain ⟨hP, hD, hS, hl⟩ := hh
    refine lv_iload hx hb dX12_judge_3 (lv_at hl 0 rfl) ?_
    refine lv_sipush (v := 4096) hx hb dX12_judge_5 (by decide) ?_
    refine lv_icmp_ge (tgt := 25) hx hb dX12_judge_8 (by decide) (fun c9 => absurd c9 (nI_ge hi (by decide))) (fun _ => ?_)
    refine lv_aload_n hx hb dX12_judge_11 rfl (lv_at hl 1 rfl) ?_
    refine va_get (D := D) (ref := "IntegerHouseModel") (ci := 12) (v := .ref h1) (C := RX12) (T := TX12) (N := 195) hx hb hts hin12 hown hK hP 0 rfl rfl 136 (by decide) (hts (.fieldLink RX12 346 "IntegerHouseModel" "keptAnswer" "[I") (List.mem_cons_of_mem _ (List.mem_append_left _ (List.mem_append_left _ (List.mem_of_getElem? (i := 0) rfl))))) (fun _ h9 => h9) e0 dX12_judge_12 ?_
    refine lv_iload hx hb dX12_judge_15 (lv_at hl 0 rfl) ?_
    refine lv_iconst (v := (-1)) hx hb dX12_judge_17 (by decide) ?_
    refine va_iast hx hb hK hP hD hS 1 0 rfl rfl (vp_in_nI hi (by decide)) dX12_judge_18 (fun H locs hP hD hS => ?_)
    refine lv_iinc (v := nI (i + 1)) (lv' := [(4, .int (nI (i + 1))), (0, .ref h0), (1, .int 0), (2, .int 0), (3, .int (-1))]) hx hb dX12_judge_19 hl (k := 0) rfl (nI_succ i).symm (by decide) rfl (fun ls hl => ?_)
    refine lv_goto (tgt := 3) hx hb dX12_judge_22 (by decide) ?_
    rw [nI_clamp (by omega), k_fill_1] at hP hD
    exact kk _ _ _ ⟨hP, hD, hS, lv_sub hl [0, 1, 2, 3, 4] rfl⟩
  obtain ⟨hP, hD, hS, hl⟩ := hh
  have hP : va_P D vwCl [(h0, .inr (12, f0)), (h1, .inl (cI, 4096, .inl (k_fill (-1) 4096 g0))), (h2, .inl (cI, 3000, .inl g1)), (h3, .inl (cI, 3000, .inl g2)), (h4, .inl (cZ, 26, .inl g3)), (h5, .inl (cI, 4096, .inl g4))] H := hP
  have hD : va_D A [(h0, .inr (12, f0)), (h1, .inl (cI, 4096, .inl (k_fill (-1) 4096 g0))), (h2, .inl (cI, 3000, .inl g1)), (h3, .inl (cI, 3000, .inl g2)), (h4, .inl (cZ, 26, .inl g3)), (h5, .inl (cI, 4096, .inl g4))] := hD
  have hl : lv_has ls 8 [(4, .int 4096), (0, .ref h0), (1, .int 0), (2, .int 0), (3, .int (-1))] := hl
  refine lv_iload hx hb dX12_judge_3 (lv_at hl 0 rfl) ?_
  refine lv_sipush (v := 4096) hx hb dX12_judge_5 (by decide) ?_
  refine lv_icmp_ge (tgt := 25) hx hb dX12_judge_8 (by decide) (fun _ => ?_) (fun c9 => absurd (by decide) c9)
  refine lv_iconst (v := 0) hx hb dX12_judge_25 (by decide) ?_
  refine lv_istore (lv' := [(4, .int 0), (0, .ref h0), (1, .int 0), (2, .int 0), (3, .int (-1))]) hx hb dX12_judge_26 hl (by decide) rfl (fun ls hl => ?_)
  refine lv_iload hx hb dX12_judge_28 (lv_at hl 0 rfl) ?_
  refine lv_aload_n hx hb dX12_judge_30 rfl (lv_at hl 1 rfl) ?_
  refine va_get (D := D) (ref := "IntegerHouseModel") (ci := 12) (v := .int 1) (C := RX12) (T := TX12) (N := 195) hx hb hts hin12 hown hK hP 0 rfl rfl 129 (by decide) (hts (.fieldLink RX12 957 "IntegerHouseModel" "places" "I") (List.mem_cons_of_mem _ (List.mem_append_left _ (List.mem_append_left _ (List.mem_of_getElem? (i := 1) rfl))))) (fun _ h9 => h9) e1 dX12_judge_31 ?_
  refine lv_icmp_ge (tgt := 300) hx hb dX12_judge_34 (by decide) (fun c9 => absurd c9 (by decide)) (fun _ => ?_)
  refine lv_aload_n hx hb dX12_judge_37 rfl (lv_at hl 1 rfl) ?_
  refine va_get (D := D) (ref := "IntegerHouseModel") (ci := 12) (v := .ref h2) (C := RX12) (T := TX12) (N := 195) hx hb hts hin12 hown hK hP 0 rfl rfl 132 (by decide) (hts (.fieldLink RX12 334 "IntegerHouseModel" "takes" "[I") (List.mem_cons_of_mem _ (List.mem_append_left _ (List.mem_append_left _ (List.mem_of_getElem? (i := 2) rfl))))) (fun _ h9 => h9) e2 dX12_judge_38 ?_
  refine lv_iload hx hb dX12_judge_41 (lv_at hl 0 rfl) ?_
  refine lv_iconst (v := 0) hx hb dX12_judge_43 (by decide) ?_
  refine va_iast hx hb hK hP hD hS 2 0 rfl rfl (k_in (by decide)) dX12_judge_44 (fun H locs hP hD hS => ?_)
  have hP : va_P D vwCl [(h0, .inr (12, f0)), (h1, .inl (cI, 4096, .inl (k_fill (-1) 4096 g0))), (h2, .inl (cI, 3000, .inl (upd g1 0 0))), (h3, .inl (cI, 3000, .inl g2)), (h4, .inl (cZ, 26, .inl g3)), (h5, .inl (cI, 4096, .inl g4))] H := hP
  have hD : va_D A [(h0, .inr (12, f0)), (h1, .inl (cI, 4096, .inl (k_fill (-1) 4096 g0))), (h2, .inl (cI, 3000, .inl (upd g1 0 0))), (h3, .inl (cI, 3000, .inl g2)), (h4, .inl (cZ, 26, .inl g3)), (h5, .inl (cI, 4096, .inl g4))] := hD
  refine lv_aload_n hx hb dX12_judge_45 rfl (lv_at hl 1 rfl) ?_
  refine va_get (D := D) (ref := "IntegerHouseModel") (ci := 12) (v := .ref h3) (C := RX12) (T := TX12) (N := 195) hx hb hts hin12 hown hK hP 0 rfl rfl 133 (by decide) (hts (.fieldLink RX12 337 "IntegerHouseModel" "takes2" "[I") (List.mem_cons_of_mem _ (List.mem_append_left _ (List.mem_append_left _ (List.mem_of_getElem? (i := 3) rfl))))) (fun _ h9 => h9) e3 dX12_judge_46 ?_
  refine lv_iload hx hb dX12_judge_49 (lv_at hl 0 rfl) ?_
  refine lv_iconst (v := 0) hx hb dX12_judge_51 (by decide) ?_
  refine va_iast hx hb hK hP hD hS 3 0 rfl rfl (k_in (by decide)) dX12_judge_52 (fun H locs hP hD hS => ?_)
  have hP : va_P D vwCl [(h0, .inr (12, f0)), (h1, .inl (cI, 4096, .inl (k_fill (-1) 4096 g0))), (h2, .inl (cI, 3000, .inl (upd g1 0 0))), (h3, .inl (cI, 3000, .inl (upd g2 0 0))), (h4, .inl (cZ, 26, .inl g3)), (h5, .inl (cI, 4096, .inl g4))] H := hP
  have hD : va_D A [(h0, .inr (12, f0)), (h1, .inl (cI, 4096, .inl (k_fill (-1) 4096 g0))), (h2, .inl (cI, 3000, .inl (upd g1 0 0))), (h3, .inl (cI, 3000, .inl (upd g2 0 0))), (h4, .inl (cZ, 26, .inl g3)), (h5, .inl (cI, 4096, .inl g4))] := hD
  refine lv_iconst (v := 0) hx hb dX12_judge_53 (by decide) ?_
  refine lv_istore (lv' := [(5, .int 0), (4, .int 0), (0, .ref h0), (1, .int 0), (2, .int 0), (3, .int (-1))]) hx hb dX12_judge_54 hl (by decide) rfl (fun ls hl => ?_)
  refine lv_iload hx hb dX12_judge_56 (lv_at hl 0 rfl) ?_
  refine lv_aload_n hx hb dX12_judge_58 rfl (lv_at hl 2 rfl) ?_
  refine va_get (D := D) (ref := "IntegerHouseModel") (ci := 12) (v := .int 1) (C := RX12) (T := TX12) (N := 195) hx hb hts hin12 hown hK hP 0 rfl rfl 131 (by decide) (hts (.fieldLink RX12 960 "IntegerHouseModel" "letters" "I") (List.mem_cons_of_mem _ (List.mem_append_left _ (List.mem_append_left _ (List.mem_of_getElem? (i := 4) rfl))))) (fun _ h9 => h9) e4 dX12_judge_59 ?_
  refine lv_icmp_ge (tgt := 294) hx hb dX12_judge_62 (by decide) (fun c9 => absurd c9 (by decide)) (fun _ => ?_)
  refine lv_iconst (v := 0) hx hb dX12_judge_65 (by decide) ?_
  refine lv_istore (lv' := [(6, .int 0), (5, .int 0), (4, .int 0), (0, .ref h0), (1, .int 0), (2, .int 0), (3, .int (-1))]) hx hb dX12_judge_66 hl (by decide) rfl (fun ls hl => ?_)
  refine lv_iconst (v := 0) hx hb dX12_judge_68 (by decide) ?_
  refine lv_istore (lv' := [(7, .int 0), (6, .int 0), (5, .int 0), (4, .int 0), (0, .ref h0), (1, .int 0), (2, .int 0), (3, .int (-1))]) hx hb dX12_judge_69 hl (by decide) rfl (fun ls hl => ?_)
  refine lv_iload hx hb dX12_judge_71 (lv_at hl 0 rfl) ?_
  refine lv_aload_n hx hb dX12_judge_73 rfl (lv_at hl 4 rfl) ?_
  refine va_get (D := D) (ref := "IntegerHouseModel") (ci := 12) (v := .int 0) (C := RX12) (T := TX12) (N := 195) hx hb hts hin12 hown hK hP 0 rfl rfl 119 (by decide) (hts (.fieldLink RX12 928 "IntegerHouseModel" "work" "I") (List.mem_cons_of_mem _ (List.mem_append_left _ (List.mem_append_left _ (List.mem_of_getElem? (i := 5) rfl))))) (fun _ h9 => h9) e5 dX12_judge_74 ?_
  refine lv_icmp_ge (tgt := 137) hx hb dX12_judge_77 (by decide) (fun _ => ?_) (fun c9 => absurd (by decide) c9)
  refine lv_iload hx hb dX12_judge_137 (lv_at hl 1 rfl) ?_
  refine lv_iload hx hb dX12_judge_139 (lv_at hl 1 rfl) ?_
  refine lv_bipush (v := 12) hx hb dX12_judge_141 (by decide) ?_
  refine lv_iushr (v := 0) hx hb dX12_judge_143 (by decide) ?_
  refine lv_ixor hx hb dX12_judge_144 ?_
  refine k_topi (y := 0) (by decide) ?_
  refine lv_iload hx hb dX12_judge_145 (lv_at hl 1 rfl) ?_
  refine lv_bipush (v := 24) hx hb dX12_judge_147 (by decide) ?_
  refine lv_iushr (v := 0) hx hb dX12_judge_149 (by decide) ?_
  refine lv_ixor hx hb dX12_judge_150 ?_
  refine k_topi (y := 0) (by decide) ?_
  refine lv_sipush (v := 4095) hx hb dX12_judge_151 (by decide) ?_
  refine lv_iand hx hb dX12_judge_154 ?_
  refine k_topi (y := 0) (by decide) ?_
  refine lv_istore (lv' := [(7, .int 0), (6, .int 0), (5, .int 0), (4, .int 0), (0, .ref h0), (1, .int 0), (2, .int 0), (3, .int (-1))]) hx hb dX12_judge_155 hl (by decide) rfl (fun ls hl => ?_)
  refine lv_aload_n hx hb dX12_judge_157 rfl (lv_at hl 4 rfl) ?_
  refine va_get (D := D) (ref := "IntegerHouseModel") (ci := 12) (v := .ref h1) (C := RX12) (T := TX12) (N := 195) hx hb hts hin12 hown hK hP 0 rfl rfl 136 (by decide) (hts (.fieldLink RX12 346 "IntegerHouseModel" "keptAnswer" "[I") (List.mem_cons_of_mem _ (List.mem_append_left _ (List.mem_append_left _ (List.mem_of_getElem? (i := 0) rfl))))) (fun _ h9 => h9) e0 dX12_judge_158 ?_
  refine lv_iload hx hb dX12_judge_161 (lv_at hl 0 rfl) ?_
  refine va_iald hx hb hK hP 1 0 rfl rfl (k_in (by decide)) dX12_judge_163 ?_
  refine k_topi (y := (-1)) (if_pos (by decide)) ?_
  refine lv_iconst (v := (-1)) hx hb dX12_judge_164 (by decide) ?_
  refine lv_icmp_eq (tgt := 180) hx hb dX12_judge_165 (by decide) (fun _ => ?_) (fun c9 => absurd (by decide) c9)
  refine lv_aload_n hx hb dX12_judge_180 rfl (lv_at hl 4 rfl) ?_
  refine k_cVv (As := []) (rest := []) (wc := [(h0, .inr (12, f0)), (h4, .inl (cZ, 26, .inl g3))]) (wr := [(h1, .inl (cI, 4096, .inl (k_fill (-1) 4096 g0))), (h2, .inl (cI, 3000, .inl (upd g1 0 0))), (h3, .inl (cI, 3000, .inl (upd g2 0 0))), (h5, .inl (cI, 4096, .inl g4))]) (w1 := (fun _ : Unit => [(h0, .inr (12, f0)), (h4, .inl (cZ, 26, .inl g3))])) ⟨hx, hb, hml, hown, hts⟩ hN hX hAE hK hP hD hS hA [0, 4] [1, 2, 3, 5] (ci := 12) rfl rfl rfl rfl (by decide +kernel) (by decide +kernel) (by decide +kernel) (c_X12_reckonSlots_0 l E D cI cJ cB cZ h0 f0 h4 g3 e6 e7 e8 e9 e10 e11 e12 e13 e14 e15 e16 e17 e18 e19 e20 e21 e22 e23 e24 e25 e26 e27 e28 e29 e30 e31) (cwV 0 hts gX12_judge_X12_reckonSlots rfl rfl rfl (by decide +kernel) ⟨Nat.le_of_ble_eq_true rfl, Nat.le_of_ble_eq_true rfl⟩) rfl hl.1 (Nat.le_of_ble_eq_true rfl) dX12_judge_181 ⟨Nat.le_of_ble_eq_true rfl, Nat.le_of_ble_eq_true rfl⟩ (fun _ H locs hP hD hS => ?_)
  have hP : va_P D vwCl [(h1, .inl (cI, 4096, .inl (k_fill (-1) 4096 g0))), (h2, .inl (cI, 3000, .inl (upd g1 0 0))), (h3, .inl (cI, 3000, .inl (upd g2 0 0))), (h5, .inl (cI, 4096, .inl g4)), (h0, .inr (12, f0)), (h4, .inl (cZ, 26, .inl g3))] H := hP
  have hD : va_D A [(h1, .inl (cI, 4096, .inl (k_fill (-1) 4096 g0))), (h2, .inl (cI, 3000, .inl (upd g1 0 0))), (h3, .inl (cI, 3000, .inl (upd g2 0 0))), (h5, .inl (cI, 4096, .inl g4)), (h0, .inr (12, f0)), (h4, .inl (cZ, 26, .inl g3))] := hD
  refine lv_aload_n hx hb dX12_judge_184 rfl (lv_at hl 4 rfl) ?_
  refine va_get (D := D) (ref := "IntegerHouseModel") (ci := 12) (v := .ref h5) (C := RX12) (T := TX12) (N := 195) hx hb hts hin12 hown hK hP 4 rfl rfl 135 (by decide) (hts (.fieldLink RX12 343 "IntegerHouseModel" "keptRow" "[I") (List.mem_cons_of_mem _ (List.mem_append_left _ (List.mem_append_left _ (List.mem_of_getElem? (i := 8) rfl))))) (fun _ h9 => h9) e32 dX12_judge_185 ?_
  refine lv_iload hx hb dX12_judge_188 (lv_at hl 0 rfl) ?_
  refine lv_iload hx hb dX12_judge_190 (lv_at hl 1 rfl) ?_
  refine va_iast hx hb hK hP hD hS 3 0 rfl rfl (k_in (by decide)) dX12_judge_192 (fun H locs hP hD hS => ?_)
  have hP : va_P D vwCl [(h1, .inl (cI, 4096, .inl (k_fill (-1) 4096 g0))), (h2, .inl (cI, 3000, .inl (upd g1 0 0))), (h3, .inl (cI, 3000, .inl (upd g2 0 0))), (h5, .inl (cI, 4096, .inl (upd g4 0 0))), (h0, .inr (12, f0)), (h4, .inl (cZ, 26, .inl g3))] H := hP
  have hD : va_D A [(h1, .inl (cI, 4096, .inl (k_fill (-1) 4096 g0))), (h2, .inl (cI, 3000, .inl (upd g1 0 0))), (h3, .inl (cI, 3000, .inl (upd g2 0 0))), (h5, .inl (cI, 4096, .inl (upd g4 0 0))), (h0, .inr (12, f0)), (h4, .inl (cZ, 26, .inl g3))] := hD
  refine lv_aload_n hx hb dX12_judge_193 rfl (lv_at hl 4 rfl) ?_
  refine va_get (D := D) (ref := "IntegerHouseModel") (ci := 12) (v := .ref h1) (C := RX12) (T := TX12) (N := 195) hx hb hts hin12 hown hK hP 4 rfl rfl 136 (by decide) (hts (.fieldLink RX12 346 "IntegerHouseModel" "keptAnswer" "[I") (List.mem_cons_of_mem _ (List.mem_append_left _ (List.mem_append_left _ (List.mem_of_getElem? (i := 0) rfl))))) (fun _ h9 => h9) e0 dX12_judge_194 ?_
  refine lv_iload hx hb dX12_judge_197 (lv_at hl 0 rfl) ?_
  refine lv_aload_n hx hb dX12_judge_199 rfl (lv_at hl 4 rfl) ?_
  refine lv_iload_n hx hb dX12_judge_200 rfl (lv_at hl 5 rfl) ?_
  refine lv_iload_n hx hb dX12_judge_201 rfl (lv_at hl 6 rfl) ?_
  refine k_cVi (As := [.int 0, .int 0]) (rest := [.int 0, .ref h1]) (wc := [(h0, .inr (12, f0))]) (wr := [(h1, .inl (cI, 4096, .inl (k_fill (-1) 4096 g0))), (h2, .inl (cI, 3000, .inl (upd g1 0 0))), (h3, .inl (cI, 3000, .inl (upd g2 0 0))), (h5, .inl (cI, 4096, .inl (upd g4 0 0))), (h4, .inl (cZ, 26, .inl g3))]) (w1 := [(h0, .inr (12, f0))]) ⟨hx, hb, hml, hown, hts⟩ hN hX hAE hK hP hD hS hA [4] [0, 1, 2, 3, 5] (ci := 12) rfl rfl rfl rfl (by decide +kernel) (by decide +kernel) (by decide +kernel) (c_X12_isAnswer_0 l E D cI cJ cB cZ h0 f0 e33) (cwV 2 hts gX12_judge_X12_isAnswer rfl rfl rfl (by decide +kernel) ⟨Nat.le_of_ble_eq_true rfl, Nat.le_of_ble_eq_true rfl⟩) rfl hl.1 (Nat.le_of_ble_eq_true rfl) dX12_judge_202 ⟨Nat.le_of_ble_eq_true rfl, Nat.le_of_ble_eq_true rfl⟩ (fun H locs hP hD hS => ?_)
  have hP : va_P D vwCl [(h1, .inl (cI, 4096, .inl (k_fill (-1) 4096 g0))), (h2, .inl (cI, 3000, .inl (upd g1 0 0))), (h3, .inl (cI, 3000, .inl (upd g2 0 0))), (h5, .inl (cI, 4096, .inl (upd g4 0 0))), (h4, .inl (cZ, 26, .inl g3)), (h0, .inr (12, f0))] H := hP
  have hD : va_D A [(h1, .inl (cI, 4096, .inl (k_fill (-1) 4096 g0))), (h2, .inl (cI, 3000, .inl (upd g1 0 0))), (h3, .inl (cI, 3000, .inl (upd g2 0 0))), (h5, .inl (cI, 4096, .inl (upd g4 0 0))), (h4, .inl (cZ, 26, .inl g3)), (h0, .inr (12, f0))] := hD
  refine lv_if_eq (tgt := 212) hx hb dX12_judge_205 (by decide) (fun c9 => absurd c9 (by decide)) (fun _ => ?_)
  refine lv_iconst (v := 1) hx hb dX12_judge_208 (by decide) ?_
  refine lv_goto (tgt := 213) hx hb dX12_judge_209 (by decide) ?_
  refine lv_iload_n hx hb dX12_judge_213 rfl (lv_at hl 7 rfl) ?_
  refine lv_iconst (v := (-1)) hx hb dX12_judge_214 (by decide) ?_
  refine lv_icmp_eq (tgt := 231) hx hb dX12_judge_215 (by decide) (fun _ => ?_) (fun c9 => absurd (by decide) c9)
  refine lv_iconst (v := 0) hx hb dX12_judge_231 (by decide) ?_
  refine lv_iadd hx hb dX12_judge_232 ?_
  refine k_topi (y := 1) (by decide) ?_
  refine va_iast hx hb hK hP hD hS 0 0 rfl rfl (k_in (by decide)) dX12_judge_233 (fun H locs hP hD hS => ?_)
  have hP : va_P D vwCl [(h1, .inl (cI, 4096, .inl (upd (k_fill (-1) 4096 g0) 0 1))), (h2, .inl (cI, 3000, .inl (upd g1 0 0))), (h3, .inl (cI, 3000, .inl (upd g2 0 0))), (h5, .inl (cI, 4096, .inl (upd g4 0 0))), (h4, .inl (cZ, 26, .inl g3)), (h0, .inr (12, f0))] H := hP
  have hD : va_D A [(h1, .inl (cI, 4096, .inl (upd (k_fill (-1) 4096 g0) 0 1))), (h2, .inl (cI, 3000, .inl (upd g1 0 0))), (h3, .inl (cI, 3000, .inl (upd g2 0 0))), (h5, .inl (cI, 4096, .inl (upd g4 0 0))), (h4, .inl (cZ, 26, .inl g3)), (h0, .inr (12, f0))] := hD
  refine lv_aload_n hx hb dX12_judge_234 rfl (lv_at hl 4 rfl) ?_
  refine va_get (D := D) (ref := "IntegerHouseModel") (ci := 12) (v := .ref h2) (C := RX12) (T := TX12) (N := 195) hx hb hts hin12 hown hK hP 5 rfl rfl 132 (by decide) (hts (.fieldLink RX12 334 "IntegerHouseModel" "takes" "[I") (List.mem_cons_of_mem _ (List.mem_append_left _ (List.mem_append_left _ (List.mem_of_getElem? (i := 2) rfl))))) (fun _ h9 => h9) e2 dX12_judge_235 ?_
  refine lv_iload hx hb dX12_judge_238 (lv_at hl 3 rfl) ?_
  refine lv_aload_n hx hb dX12_judge_240 rfl (lv_at hl 4 rfl) ?_
  refine va_get (D := D) (ref := "IntegerHouseModel") (ci := 12) (v := .ref h2) (C := RX12) (T := TX12) (N := 195) hx hb hts hin12 hown hK hP 5 rfl rfl 132 (by decide) (hts (.fieldLink RX12 334 "IntegerHouseModel" "takes" "[I") (List.mem_cons_of_mem _ (List.mem_append_left _ (List.mem_append_left _ (List.mem_of_getElem? (i := 2) rfl))))) (fun _ h9 => h9) e2 dX12_judge_241 ?_
  refine lv_iload hx hb dX12_judge_244 (lv_at hl 3 rfl) ?_
  refine va_iald hx hb hK hP 1 0 rfl rfl (k_in (by decide)) dX12_judge_246 ?_
  refine k_topi (y := 0) rfl ?_
  refine lv_aload_n hx hb dX12_judge_247 rfl (lv_at hl 4 rfl) ?_
  refine va_get (D := D) (ref := "IntegerHouseModel") (ci := 12) (v := .ref h1) (C := RX12) (T := TX12) (N := 195) hx hb hts hin12 hown hK hP 5 rfl rfl 136 (by decide) (hts (.fieldLink RX12 346 "IntegerHouseModel" "keptAnswer" "[I") (List.mem_cons_of_mem _ (List.mem_append_left _ (List.mem_append_left _ (List.mem_of_getElem? (i := 0) rfl))))) (fun _ h9 => h9) e0 dX12_judge_248 ?_
  refine lv_iload hx hb dX12_judge_251 (lv_at hl 0 rfl) ?_
  refine va_iald hx hb hK hP 0 0 rfl rfl (k_in (by decide)) dX12_judge_253 ?_
  refine k_topi (y := 1) rfl ?_
  refine lv_iconst (v := 2) hx hb dX12_judge_254 (by decide) ?_
  refine lv_irem hx hb dX12_judge_255 (by decide) ?_
  refine k_topi (y := 1) (by decide) ?_
  refine lv_iload hx hb dX12_judge_256 (lv_at hl 2 rfl) ?_
  refine lv_ishl hx hb dX12_judge_258 ?_
  refine k_topi (y := 1) (by decide) ?_
  refine lv_ior hx hb dX12_judge_259 ?_
  refine k_topi (y := 1) (by decide) ?_
  refine va_iast hx hb hK hP hD hS 1 0 rfl rfl (k_in (by decide)) dX12_judge_260 (fun H locs hP hD hS => ?_)
  have hP : va_P D vwCl [(h1, .inl (cI, 4096, .inl (upd (k_fill (-1) 4096 g0) 0 1))), (h2, .inl (cI, 3000, .inl (upd (upd g1 0 0) 0 1))), (h3, .inl (cI, 3000, .inl (upd g2 0 0))), (h5, .inl (cI, 4096, .inl (upd g4 0 0))), (h4, .inl (cZ, 26, .inl g3)), (h0, .inr (12, f0))] H := hP
  have hD : va_D A [(h1, .inl (cI, 4096, .inl (upd (k_fill (-1) 4096 g0) 0 1))), (h2, .inl (cI, 3000, .inl (upd (upd g1 0 0) 0 1))), (h3, .inl (cI, 3000, .inl (upd g2 0 0))), (h5, .inl (cI, 4096, .inl (upd g4 0 0))), (h4, .inl (cZ, 26, .inl g3)), (h0, .inr (12, f0))] := hD
  refine lv_aload_n hx hb dX12_judge_261 rfl (lv_at hl 4 rfl) ?_
  refine va_get (D := D) (ref := "IntegerHouseModel") (ci := 12) (v := .ref h3) (C := RX12) (T := TX12) (N := 195) hx hb hts hin12 hown hK hP 5 rfl rfl 133 (by decide) (hts (.fieldLink RX12 337 "IntegerHouseModel" "takes2" "[I") (List.mem_cons_of_mem _ (List.mem_append_left _ (List.mem_append_left _ (List.mem_of_getElem? (i := 3) rfl))))) (fun _ h9 => h9) e3 dX12_judge_262 ?_
  refine lv_iload hx hb dX12_judge_265 (lv_at hl 3 rfl) ?_
  refine lv_aload_n hx hb dX12_judge_267 rfl (lv_at hl 4 rfl) ?_
  refine va_get (D := D) (ref := "IntegerHouseModel") (ci := 12) (v := .ref h3) (C := RX12) (T := TX12) (N := 195) hx hb hts hin12 hown hK hP 5 rfl rfl 133 (by decide) (hts (.fieldLink RX12 337 "IntegerHouseModel" "takes2" "[I") (List.mem_cons_of_mem _ (List.mem_append_left _ (List.mem_append_left _ (List.mem_of_getElem? (i := 3) rfl))))) (fun _ h9 => h9) e3 dX12_judge_268 ?_
  refine lv_iload hx hb dX12_judge_271 (lv_at hl 3 rfl) ?_
  refine va_iald hx hb hK hP 2 0 rfl rfl (k_in (by decide)) dX12_judge_273 ?_
  refine k_topi (y := 0) rfl ?_
  refine lv_aload_n hx hb dX12_judge_274 rfl (lv_at hl 4 rfl) ?_
  refine va_get (D := D) (ref := "IntegerHouseModel") (ci := 12) (v := .ref h1) (C := RX12) (T := TX12) (N := 195) hx hb hts hin12 hown hK hP 5 rfl rfl 136 (by decide) (hts (.fieldLink RX12 346 "IntegerHouseModel" "keptAnswer" "[I") (List.mem_cons_of_mem _ (List.mem_append_left _ (List.mem_append_left _ (List.mem_of_getElem? (i := 0) rfl))))) (fun _ h9 => h9) e0 dX12_judge_275 ?_
  refine lv_iload hx hb dX12_judge_278 (lv_at hl 0 rfl) ?_
  refine va_iald hx hb hK hP 0 0 rfl rfl (k_in (by decide)) dX12_judge_280 ?_
  refine k_topi (y := 1) rfl ?_
  refine lv_iconst (v := 2) hx hb dX12_judge_281 (by decide) ?_
  refine lv_idiv hx hb dX12_judge_282 (by decide) ?_
  refine k_topi (y := 0) (by decide) ?_
  refine lv_iload hx hb dX12_judge_283 (lv_at hl 2 rfl) ?_
  refine lv_ishl hx hb dX12_judge_285 ?_
  refine k_topi (y := 0) (by decide) ?_
  refine lv_ior hx hb dX12_judge_286 ?_
  refine k_topi (y := 0) (by decide) ?_
  refine va_iast hx hb hK hP hD hS 2 0 rfl rfl (k_in (by decide)) dX12_judge_287 (fun H locs hP hD hS => ?_)
  have hP : va_P D vwCl [(h1, .inl (cI, 4096, .inl (upd (k_fill (-1) 4096 g0) 0 1))), (h2, .inl (cI, 3000, .inl (upd (upd g1 0 0) 0 1))), (h3, .inl (cI, 3000, .inl (upd (upd g2 0 0) 0 0))), (h5, .inl (cI, 4096, .inl (upd g4 0 0))), (h4, .inl (cZ, 26, .inl g3)), (h0, .inr (12, f0))] H := hP
  have hD : va_D A [(h1, .inl (cI, 4096, .inl (upd (k_fill (-1) 4096 g0) 0 1))), (h2, .inl (cI, 3000, .inl (upd (upd g1 0 0) 0 1))), (h3, .inl (cI, 3000, .inl (upd (upd g2 0 0) 0 0))), (h5, .inl (cI, 4096, .inl (upd g4 0 0))), (h4, .inl (cZ, 26, .inl g3)), (h0, .inr (12, f0))] := hD
  refine lv_iinc (v := 1) (lv' := [(5, .int 1), (7, .int 0), (6, .int 0), (4, .int 0), (0, .ref h0), (1, .int 0), (2, .int 0), (3, .int (-1))]) hx hb dX12_judge_288 hl (k := 2) rfl (by decide) (by decide) rfl (fun ls hl => ?_)
  refine lv_goto (tgt := 56) hx hb dX12_judge_291 (by decide) ?_
  refine lv_iload hx hb dX12_judge_56 (lv_at hl 0 rfl) ?_
  refine lv_aload_n hx hb dX12_judge_58 rfl (lv_at hl 4 rfl) ?_
  refine va_get (D := D) (ref := "IntegerHouseModel") (ci := 12) (v := .int 1) (C := RX12) (T := TX12) (N := 195) hx hb hts hin12 hown hK hP 5 rfl rfl 131 (by decide) (hts (.fieldLink RX12 960 "IntegerHouseModel" "letters" "I") (List.mem_cons_of_mem _ (List.mem_append_left _ (List.mem_append_left _ (List.mem_of_getElem? (i := 4) rfl))))) (fun _ h9 => h9) e4 dX12_judge_59 ?_
  refine lv_icmp_ge (tgt := 294) hx hb dX12_judge_62 (by decide) (fun _ => ?_) (fun c9 => absurd (by decide) c9)
  refine lv_iinc (v := 1) (lv' := [(4, .int 1), (5, .int 1), (7, .int 0), (6, .int 0), (0, .ref h0), (1, .int 0), (2, .int 0), (3, .int (-1))]) hx hb dX12_judge_294 hl (k := 3) rfl (by decide) (by decide) rfl (fun ls hl => ?_)
  refine lv_goto (tgt := 28) hx hb dX12_judge_297 (by decide) ?_
  refine lv_iload hx hb dX12_judge_28 (lv_at hl 0 rfl) ?_
  refine lv_aload_n hx hb dX12_judge_30 rfl (lv_at hl 4 rfl) ?_
  refine va_get (D := D) (ref := "IntegerHouseModel") (ci := 12) (v := .int 1) (C := RX12) (T := TX12) (N := 195) hx hb hts hin12 hown hK hP 5 rfl rfl 129 (by decide) (hts (.fieldLink RX12 957 "IntegerHouseModel" "places" "I") (List.mem_cons_of_mem _ (List.mem_append_left _ (List.mem_append_left _ (List.mem_of_getElem? (i := 1) rfl))))) (fun _ h9 => h9) e1 dX12_judge_31 ?_
  refine lv_icmp_ge (tgt := 300) hx hb dX12_judge_34 (by decide) (fun _ => ?_) (fun c9 => absurd (by decide) c9)
  have hP := hP.sub (ws' := [(h0, .inr (12, f0)), (h1, .inl (cI, 4096, .inl (upd (k_fill (-1) 4096 g0) 0 1))), (h2, .inl (cI, 3000, .inl (upd (upd g1 0 0) 0 1))), (h3, .inl (cI, 3000, .inl (upd (upd g2 0 0) 0 0))), (h4, .inl (cZ, 26, .inl g3)), (h5, .inl (cI, 4096, .inl (upd g4 0 0)))]) [5, 0, 1, 2, 4, 3] rfl
  have hD := hD.sub (ws' := [(h0, .inr (12, f0)), (h1, .inl (cI, 4096, .inl (upd (k_fill (-1) 4096 g0) 0 1))), (h2, .inl (cI, 3000, .inl (upd (upd g1 0 0) 0 1))), (h3, .inl (cI, 3000, .inl (upd (upd g2 0 0) 0 0))), (h4, .inl (cZ, 26, .inl g3)), (h5, .inl (cI, 4096, .inl (upd g4 0 0)))]) [5, 0, 1, 2, 4, 3] (by decide +kernel) rfl
  exact W.vret hx hb hr (fun t ht hW => ⟨⟨(), rfl, trivial, kB_mk ht hW hP hK hD⟩, hS.F ht⟩) hS.2.2 dX12_judge_300
set_option maxHeartbeats 400000000 in
set_option maxRecDepth 100000 in
theorem c_X12_measure_0 (l : Launch) (E : kE) (D : va_G) (cI cJ cB cZ : ClassId) (h0 : Nat) (f0 : List Value) (h1 : Nat) (h2 : Nat) (g0 : Nat → Int32) (g1 : Nat → Int32) (e0 : f0[129]? = some (.int 1)) (e1 : f0[137]? = some (.ref h1)) (e2 : f0[132]? = some (.ref h2)) (e3 : g0 0 = 1) (e4 : f0[131]? = some (.int 1)) : kV l E D (kT cI cJ cB cZ) yX12_measure wsX12_measure ({ frames := 0, cells := 0, slots := 0, locals := 0 }) [.ref h0] [(h0, .inr (12, f0)), (h2, .inl (cI, 3000, .inl g0)), (h1, .inl (cI, 3000, .inl g1))] (fun _ : Unit => [(h0, .inr (12, f0)), (h2, .inl (cI, 3000, .inl g0)), (h1, .inl (cI, 3000, .inl (upd g1 0 0)))]) 0 0 := by
  intro sz
  refine Met.ofW (cc := cX12_measure) (maxL := 5) (ret := none) (by decide) rfl ?_
  intro p e s m args below meth c s₁ B hml hv
  obtain ⟨rfl, hsz, hP, hK, hD0, hN, hX⟩ := hv
  have hx := B.exec
  have hb := B.bytes
  have hr := B.returns
  have hts := atoms_spec (ws := wsX12_measure) B.pre
  have hown : s.vm.findClass RX12 = some m.cls := findClass_of_methodNamed B.named
  have hlocks := B.notSynchronized
  have hin12 : ∀ w ∈ wsX120, w ∈ wsX12_measure := (fun w h => (List.mem_cons_of_mem _ (List.mem_append_right _ h)))
  subst hsz
  have hD := hD0.self (sz := s.heap.size)
  have hAE := k_AE hD0 hX
  generalize hAe : va_A [(h0, .inr (12, f0)), (h2, .inl (cI, 3000, .inl g0)), (h1, .inl (cI, 3000, .inl g1))] s.heap.size = A at hD hAE ⊢
  have hA : ∀ q : Nat, s.heap.size ≤ q → A q := fun q h => by rw [← hAe]; exact Or.inr h
  have hS : va_S A s.heap s.heap [] := va_S.rf
  have hP : va_P D vwCl [(h0, .inr (12, f0)), (h2, .inl (cI, 3000, .inl g0)), (h1, .inl (cI, 3000, .inl g1))] s.heap := hP
  have hl := lv_entry ([.ref h0] : List Value) (n := 5) (Nat.le_of_ble_eq_true rfl)
  rw [lg_entry_eq]
  generalize (lg_sl ([.ref h0]) ++ List.replicate (5 - (lg_sl ([.ref h0])).length) Slot.unset).toArray = ls at hl ⊢
  have hl : lv_has ls 5 [(0, .ref h0)] := hl
  refine lv_iconst (v := 1) hx hb dX12_measure_0 (by decide) ?_
  refine lv_istore_n (lv' := [(1, .int 1), (0, .ref h0)]) hx hb dX12_measure_1 rfl hl (by decide) rfl (fun ls hl => ?_)
  refine lv_iconst (v := 0) hx hb dX12_measure_2 (by decide) ?_
  refine lv_istore_n (lv' := [(2, .int 0), (1, .int 1), (0, .ref h0)]) hx hb dX12_measure_3 rfl hl (by decide) rfl (fun ls hl => ?_)
  refine lv_iload_n hx hb dX12_measure_4 rfl (lv_at hl 0 rfl) ?_
  refine lv_aload_n hx hb dX12_measure_5 rfl (lv_at hl 2 rfl) ?_
  refine va_get (D := D) (ref := "IntegerHouseModel") (ci := 12) (v := .int 1) (C := RX12) (T := TX12) (N := 195) hx hb hts hin12 hown hK hP 0 rfl rfl 129 (by decide) (hts (.fieldLink RX12 957 "IntegerHouseModel" "places" "I") (List.mem_cons_of_mem _ (List.mem_append_left _ (List.mem_of_getElem? (i := 0) rfl)))) (fun _ h9 => h9) e0 dX12_measure_6 ?_
  refine lv_icmp_ge (tgt := 38) hx hb dX12_measure_9 (by decide) (fun c9 => absurd c9 (by decide)) (fun _ => ?_)
  refine lv_aload_n hx hb dX12_measure_12 rfl (lv_at hl 2 rfl) ?_
  refine va_get (D := D) (ref := "IntegerHouseModel") (ci := 12) (v := .ref h1) (C := RX12) (T := TX12) (N := 195) hx hb hts hin12 hown hK hP 0 rfl rfl 137 (by decide) (hts (.fieldLink RX12 349 "IntegerHouseModel" "far" "[I") (List.mem_cons_of_mem _ (List.mem_append_left _ (List.mem_of_getElem? (i := 1) rfl)))) (fun _ h9 => h9) e1 dX12_measure_13 ?_
  refine lv_iload_n hx hb dX12_measure_16 rfl (lv_at hl 0 rfl) ?_
  refine lv_aload_n hx hb dX12_measure_17 rfl (lv_at hl 2 rfl) ?_
  refine va_get (D := D) (ref := "IntegerHouseModel") (ci := 12) (v := .ref h2) (C := RX12) (T := TX12) (N := 195) hx hb hts hin12 hown hK hP 0 rfl rfl 132 (by decide) (hts (.fieldLink RX12 334 "IntegerHouseModel" "takes" "[I") (List.mem_cons_of_mem _ (List.mem_append_left _ (List.mem_of_getElem? (i := 2) rfl)))) (fun _ h9 => h9) e2 dX12_measure_18 ?_
  refine lv_iload_n hx hb dX12_measure_21 rfl (lv_at hl 0 rfl) ?_
  refine va_iald hx hb hK hP 1 0 rfl rfl (k_in (by decide)) dX12_measure_22 ?_
  refine k_topi (y := 1) e3 ?_
  refine lv_if_eq (tgt := 30) hx hb dX12_measure_23 (by decide) (fun c9 => absurd c9 (by decide)) (fun _ => ?_)
  refine lv_iconst (v := 0) hx hb dX12_measure_26 (by decide) ?_
  refine lv_goto (tgt := 31) hx hb dX12_measure_27 (by decide) ?_
  refine va_iast hx hb hK hP hD hS 2 0 rfl rfl (k_in (by decide)) dX12_measure_31 (fun H locs hP hD hS => ?_)
  have hP : va_P D vwCl [(h0, .inr (12, f0)), (h2, .inl (cI, 3000, .inl g0)), (h1, .inl (cI, 3000, .inl (upd g1 0 0)))] H := hP
  have hD : va_D A [(h0, .inr (12, f0)), (h2, .inl (cI, 3000, .inl g0)), (h1, .inl (cI, 3000, .inl (upd g1 0 0)))] := hD
  refine lv_iinc (v := 1) (lv' := [(2, .int 1), (1, .int 1), (0, .ref h0)]) hx hb dX12_measure_32 hl (k := 0) rfl (by decide) (by decide) rfl (fun ls hl => ?_)
  refine lv_goto (tgt := 4) hx hb dX12_measure_35 (by decide) ?_
  refine lv_iload_n hx hb dX12_measure_4 rfl (lv_at hl 0 rfl) ?_
  refine lv_aload_n hx hb dX12_measure_5 rfl (lv_at hl 2 rfl) ?_
  refine va_get (D := D) (ref := "IntegerHouseModel") (ci := 12) (v := .int 1) (C := RX12) (T := TX12) (N := 195) hx hb hts hin12 hown hK hP 0 rfl rfl 129 (by decide) (hts (.fieldLink RX12 957 "IntegerHouseModel" "places" "I") (List.mem_cons_of_mem _ (List.mem_append_left _ (List.mem_of_getElem? (i := 0) rfl)))) (fun _ h9 => h9) e0 dX12_measure_6 ?_
  refine lv_icmp_ge (tgt := 38) hx hb dX12_measure_9 (by decide) (fun _ => ?_) (fun c9 => absurd (by decide) c9)
  refine lv_iconst (v := 0) hx hb dX12_measure_38 (by decide) ?_
  refine lv_istore_n (lv' := [(2, .int 0), (1, .int 1), (0, .ref h0)]) hx hb dX12_measure_39 rfl hl (by decide) rfl (fun ls hl => ?_)
  refine lv_iload_n hx hb dX12_measure_40 rfl (lv_at hl 1 rfl) ?_
  refine lv_if_eq (tgt := 128) hx hb dX12_measure_41 (by decide) (fun c9 => absurd c9 (by decide)) (fun _ => ?_)
  refine lv_iconst (v := 0) hx hb dX12_measure_44 (by decide) ?_
  refine lv_istore_n (lv' := [(1, .int 0), (2, .int 0), (0, .ref h0)]) hx hb dX12_measure_45 rfl hl (by decide) rfl (fun ls hl => ?_)
  refine lv_iconst (v := 0) hx hb dX12_measure_46 (by decide) ?_
  refine lv_istore_n (lv' := [(3, .int 0), (1, .int 0), (2, .int 0), (0, .ref h0)]) hx hb dX12_measure_47 rfl hl (by decide) rfl (fun ls hl => ?_)
  refine lv_iload_n hx hb dX12_measure_48 rfl (lv_at hl 0 rfl) ?_
  refine lv_aload_n hx hb dX12_measure_49 rfl (lv_at hl 3 rfl) ?_
  refine va_get (D := D) (ref := "IntegerHouseModel") (ci := 12) (v := .int 1) (C := RX12) (T := TX12) (N := 195) hx hb hts hin12 hown hK hP 0 rfl rfl 129 (by decide) (hts (.fieldLink RX12 957 "IntegerHouseModel" "places" "I") (List.mem_cons_of_mem _ (List.mem_append_left _ (List.mem_of_getElem? (i := 0) rfl)))) (fun _ h9 => h9) e0 dX12_measure_50 ?_
  refine lv_icmp_ge (tgt := 122) hx hb dX12_measure_53 (by decide) (fun c9 => absurd c9 (by decide)) (fun _ => ?_)
  refine lv_iconst (v := 0) hx hb dX12_measure_56 (by decide) ?_
  refine lv_istore (lv' := [(4, .int 0), (3, .int 0), (1, .int 0), (2, .int 0), (0, .ref h0)]) hx hb dX12_measure_57 hl (by decide) rfl (fun ls hl => ?_)
  refine lv_iload hx hb dX12_measure_59 (lv_at hl 0 rfl) ?_
  refine lv_aload_n hx hb dX12_measure_61 rfl (lv_at hl 4 rfl) ?_
  refine va_get (D := D) (ref := "IntegerHouseModel") (ci := 12) (v := .int 1) (C := RX12) (T := TX12) (N := 195) hx hb hts hin12 hown hK hP 0 rfl rfl 131 (by decide) (hts (.fieldLink RX12 960 "IntegerHouseModel" "letters" "I") (List.mem_cons_of_mem _ (List.mem_append_left _ (List.mem_of_getElem? (i := 3) rfl)))) (fun _ h9 => h9) e4 dX12_measure_62 ?_
  refine lv_icmp_ge (tgt := 116) hx hb dX12_measure_65 (by decide) (fun c9 => absurd c9 (by decide)) (fun _ => ?_)
  refine lv_aload_n hx hb dX12_measure_68 rfl (lv_at hl 4 rfl) ?_
  refine va_get (D := D) (ref := "IntegerHouseModel") (ci := 12) (v := .ref h1) (C := RX12) (T := TX12) (N := 195) hx hb hts hin12 hown hK hP 0 rfl rfl 137 (by decide) (hts (.fieldLink RX12 349 "IntegerHouseModel" "far" "[I") (List.mem_cons_of_mem _ (List.mem_append_left _ (List.mem_of_getElem? (i := 1) rfl)))) (fun _ h9 => h9) e1 dX12_measure_69 ?_
  refine lv_iload_n hx hb dX12_measure_72 rfl (lv_at hl 1 rfl) ?_
  refine va_iald hx hb hK hP 2 0 rfl rfl (k_in (by decide)) dX12_measure_73 ?_
  refine k_topi (y := 0) rfl ?_
  refine lv_iconst (v := (-1)) hx hb dX12_measure_74 (by decide) ?_
  refine lv_icmp_ne (tgt := 116) hx hb dX12_measure_75 (by decide) (fun _ => ?_) (fun c9 => absurd c9 (by decide))
  refine lv_iinc (v := 1) (lv' := [(3, .int 1), (4, .int 0), (1, .int 0), (2, .int 0), (0, .ref h0)]) hx hb dX12_measure_116 hl (k := 1) rfl (by decide) (by decide) rfl (fun ls hl => ?_)
  refine lv_goto (tgt := 48) hx hb dX12_measure_119 (by decide) ?_
  refine lv_iload_n hx hb dX12_measure_48 rfl (lv_at hl 0 rfl) ?_
  refine lv_aload_n hx hb dX12_measure_49 rfl (lv_at hl 4 rfl) ?_
  refine va_get (D := D) (ref := "IntegerHouseModel") (ci := 12) (v := .int 1) (C := RX12) (T := TX12) (N := 195) hx hb hts hin12 hown hK hP 0 rfl rfl 129 (by decide) (hts (.fieldLink RX12 957 "IntegerHouseModel" "places" "I") (List.mem_cons_of_mem _ (List.mem_append_left _ (List.mem_of_getElem? (i := 0) rfl)))) (fun _ h9 => h9) e0 dX12_measure_50 ?_
  refine lv_icmp_ge (tgt := 122) hx hb dX12_measure_53 (by decide) (fun _ => ?_) (fun c9 => absurd (by decide) c9)
  refine lv_iinc (v := 1) (lv' := [(2, .int 1), (3, .int 1), (4, .int 0), (1, .int 0), (0, .ref h0)]) hx hb dX12_measure_122 hl (k := 3) rfl (by decide) (by decide) rfl (fun ls hl => ?_)
  refine lv_goto (tgt := 40) hx hb dX12_measure_125 (by decide) ?_
  refine lv_iload_n hx hb dX12_measure_40 rfl (lv_at hl 3 rfl) ?_
  refine lv_if_eq (tgt := 128) hx hb dX12_measure_41 (by decide) (fun _ => ?_) (fun c9 => absurd (by decide) c9)
  exact W.vret hx hb hr (fun t ht hW => ⟨⟨(), rfl, trivial, kB_mk ht hW hP hK hD⟩, hS.F ht⟩) hS.2.2 dX12_measure_128
set_option maxHeartbeats 400000000 in
set_option maxRecDepth 100000 in
theorem c_X12_tellLeast_0 (l : Launch) (E : kE) (D : va_G) (cI cJ cB cZ : ClassId) (h0 : Nat) (f0 : List Value) (h1 : Nat) (h2 : Nat) (g0 : Nat → Int32) (g1 : Nat → Int32) (h3 : Nat) (g2 : Nat → Int64) (e0 : f0[129]? = some (.int 1)) (e1 : f0[137]? = some (.ref h1)) (e2 : f0[132]? = some (.ref h2)) (e3 : g0 0 = 1) (e4 : f0[131]? = some (.int 1)) (e5 : f0[138]? = some (.ref h3)) (e6 : f0[32]? = some (.int 0)) (e7 : f0[139]? = some (.int 0)) (e8 : f0[140]? = some (.int (-1))) : kI l E D (kT cI cJ cB cZ) yX12_tellLeast wsX12_tellLeast ({ frames := 1, cells := 0, slots := 0, locals := 24 }) [.ref h0] [(h0, .inr (12, f0)), (h2, .inl (cI, 3000, .inl g0)), (h1, .inl (cI, 3000, .inl g1)), (h3, .inl (cJ, 4, .inr (.inl g2)))] (1) [(h0, .inr (12, ((f0.set 139 (.int 0)).set 140 (.int 0)))), (h2, .inl (cI, 3000, .inl g0)), (h1, .inl (cI, 3000, .inl (upd g1 0 0))), (h3, .inl (cJ, 4, .inr (.inl (vp_updL (vp_updL (vp_updL (vp_updL g2 0 0) 1 0) 2 0) 3 0))))] 0 0 := by
  intro sz
  refine Met.ofW (cc := cX12_tellLeast) (maxL := 5) (ret := (some .boolean)) (by decide) rfl ?_
  intro p e s m args below meth c s₁ B hml hv
  obtain ⟨rfl, hsz, hP, hK, hD0, hN, hX⟩ := hv
  have hx := B.exec
  have hb := B.bytes
  have hr := B.returns
  have hts := atoms_spec (ws := wsX12_tellLeast) B.pre
  have hown : s.vm.findClass RX12 = some m.cls := findClass_of_methodNamed B.named
  have hlocks := B.notSynchronized
  have hin12 : ∀ w ∈ wsX120, w ∈ wsX12_tellLeast := (fun w h => (List.mem_cons_of_mem _ (List.mem_append_right _ h)))
  subst hsz
  have hD := hD0.self (sz := s.heap.size)
  have hAE := k_AE hD0 hX
  generalize hAe : va_A [(h0, .inr (12, f0)), (h2, .inl (cI, 3000, .inl g0)), (h1, .inl (cI, 3000, .inl g1)), (h3, .inl (cJ, 4, .inr (.inl g2)))] s.heap.size = A at hD hAE ⊢
  have hA : ∀ q : Nat, s.heap.size ≤ q → A q := fun q h => by rw [← hAe]; exact Or.inr h
  have hS : va_S A s.heap s.heap [] := va_S.rf
  have hP : va_P D vwCl [(h0, .inr (12, f0)), (h2, .inl (cI, 3000, .inl g0)), (h1, .inl (cI, 3000, .inl g1)), (h3, .inl (cJ, 4, .inr (.inl g2)))] s.heap := hP
  have hl := lv_entry ([.ref h0] : List Value) (n := 5) (Nat.le_of_ble_eq_true rfl)
  rw [lg_entry_eq]
  generalize (lg_sl ([.ref h0]) ++ List.replicate (5 - (lg_sl ([.ref h0])).length) Slot.unset).toArray = ls at hl ⊢
  have hl : lv_has ls 5 [(0, .ref h0)] := hl
  refine lv_aload_n hx hb dX12_tellLeast_0 rfl (lv_at hl 0 rfl) ?_
  refine k_cVv (As := []) (rest := []) (wc := [(h0, .inr (12, f0)), (h2, .inl (cI, 3000, .inl g0)), (h1, .inl (cI, 3000, .inl g1))]) (wr := [(h3, .inl (cJ, 4, .inr (.inl g2)))]) (w1 := (fun _ : Unit => [(h0, .inr (12, f0)), (h2, .inl (cI, 3000, .inl g0)), (h1, .inl (cI, 3000, .inl (upd g1 0 0)))])) ⟨hx, hb, hml, hown, hts⟩ hN hX hAE hK hP hD hS hA [0, 1, 2] [3] (ci := 12) rfl rfl rfl rfl (by decide +kernel) (by decide +kernel) (by decide +kernel) (c_X12_measure_0 l E D cI cJ cB cZ h0 f0 h1 h2 g0 g1 e0 e1 e2 e3 e4) (cwV 0 hts gX12_tellLeast_X12_measure rfl rfl rfl (by decide +kernel) ⟨Nat.le_of_ble_eq_true rfl, Nat.le_of_ble_eq_true rfl⟩) rfl hl.1 (Nat.le_of_ble_eq_true rfl) dX12_tellLeast_1 ⟨Nat.le_of_ble_eq_true rfl, Nat.le_of_ble_eq_true rfl⟩ (fun _ H locs hP hD hS => ?_)
  have hP : va_P D vwCl [(h3, .inl (cJ, 4, .inr (.inl g2))), (h0, .inr (12, f0)), (h2, .inl (cI, 3000, .inl g0)), (h1, .inl (cI, 3000, .inl (upd g1 0 0)))] H := hP
  have hD : va_D A [(h3, .inl (cJ, 4, .inr (.inl g2))), (h0, .inr (12, f0)), (h2, .inl (cI, 3000, .inl g0)), (h1, .inl (cI, 3000, .inl (upd g1 0 0)))] := hD
  refine lv_aload_n hx hb dX12_tellLeast_4 rfl (lv_at hl 0 rfl) ?_
  refine va_get (D := D) (ref := "IntegerHouseModel") (ci := 12) (v := .ref h1) (C := RX12) (T := TX12) (N := 195) hx hb hts hin12 hown hK hP 1 rfl rfl 137 (by decide) (hts (.fieldLink RX12 349 "IntegerHouseModel" "far" "[I") (List.mem_cons_of_mem _ (List.mem_append_left _ (List.mem_of_getElem? (i := 0) rfl)))) (fun _ h9 => h9) e1 dX12_tellLeast_5 ?_
  refine lv_iconst (v := 0) hx hb dX12_tellLeast_8 (by decide) ?_
  refine va_iald hx hb hK hP 3 0 rfl rfl (k_in (by decide)) dX12_tellLeast_9 ?_
  refine k_topi (y := 0) rfl ?_
  refine lv_iconst (v := (-1)) hx hb dX12_tellLeast_10 (by decide) ?_
  refine lv_icmp_ne (tgt := 16) hx hb dX12_tellLeast_11 (by decide) (fun _ => ?_) (fun c9 => absurd c9 (by decide))
  refine lv_iconst (v := 0) hx hb dX12_tellLeast_16 (by decide) ?_
  refine lv_istore_n (lv' := [(1, .int 0), (0, .ref h0)]) hx hb dX12_tellLeast_17 rfl hl (by decide) rfl (fun ls hl => ?_)
  refine lv_iload_n hx hb dX12_tellLeast_18 rfl (lv_at hl 0 rfl) ?_
  refine lv_iconst (v := 4) hx hb dX12_tellLeast_19 (by decide) ?_
  refine lv_icmp_ge (tgt := 36) hx hb dX12_tellLeast_20 (by decide) (fun c9 => absurd c9 (by decide)) (fun _ => ?_)
  refine lv_aload_n hx hb dX12_tellLeast_23 rfl (lv_at hl 1 rfl) ?_
  refine va_get (D := D) (ref := "IntegerHouseModel") (ci := 12) (v := .ref h3) (C := RX12) (T := TX12) (N := 195) hx hb hts hin12 hown hK hP 1 rfl rfl 138 (by decide) (hts (.fieldLink RX12 352 "IntegerHouseModel" "told" "[J") (List.mem_cons_of_mem _ (List.mem_append_left _ (List.mem_of_getElem? (i := 1) rfl)))) (fun _ h9 => h9) e5 dX12_tellLeast_24 ?_
  refine lv_iload_n hx hb dX12_tellLeast_27 rfl (lv_at hl 0 rfl) ?_
  refine lv_lconst (v := 0) hx hb dX12_tellLeast_28 (by decide) ?_
  refine va_last hx hb hK hP hD hS 0 1 rfl rfl (k_in (by decide)) dX12_tellLeast_29 (fun H locs hP hD hS => ?_)
  have hP : va_P D vwCl [(h3, .inl (cJ, 4, .inr (.inl (vp_updL g2 0 0)))), (h0, .inr (12, f0)), (h2, .inl (cI, 3000, .inl g0)), (h1, .inl (cI, 3000, .inl (upd g1 0 0)))] H := hP
  have hD : va_D A [(h3, .inl (cJ, 4, .inr (.inl (vp_updL g2 0 0)))), (h0, .inr (12, f0)), (h2, .inl (cI, 3000, .inl g0)), (h1, .inl (cI, 3000, .inl (upd g1 0 0)))] := hD
  refine lv_iinc (v := 1) (lv' := [(1, .int 1), (0, .ref h0)]) hx hb dX12_tellLeast_30 hl (k := 0) rfl (by decide) (by decide) rfl (fun ls hl => ?_)
  refine lv_goto (tgt := 18) hx hb dX12_tellLeast_33 (by decide) ?_
  refine lv_iload_n hx hb dX12_tellLeast_18 rfl (lv_at hl 0 rfl) ?_
  refine lv_iconst (v := 4) hx hb dX12_tellLeast_19 (by decide) ?_
  refine lv_icmp_ge (tgt := 36) hx hb dX12_tellLeast_20 (by decide) (fun c9 => absurd c9 (by decide)) (fun _ => ?_)
  refine lv_aload_n hx hb dX12_tellLeast_23 rfl (lv_at hl 1 rfl) ?_
  refine va_get (D := D) (ref := "IntegerHouseModel") (ci := 12) (v := .ref h3) (C := RX12) (T := TX12) (N := 195) hx hb hts hin12 hown hK hP 1 rfl rfl 138 (by decide) (hts (.fieldLink RX12 352 "IntegerHouseModel" "told" "[J") (List.mem_cons_of_mem _ (List.mem_append_left _ (List.mem_of_getElem? (i := 1) rfl)))) (fun _ h9 => h9) e5 dX12_tellLeast_24 ?_
  refine lv_iload_n hx hb dX12_tellLeast_27 rfl (lv_at hl 0 rfl) ?_
  refine lv_lconst (v := 0) hx hb dX12_tellLeast_28 (by decide) ?_
  refine va_last hx hb hK hP hD hS 0 1 rfl rfl (k_in (by decide)) dX12_tellLeast_29 (fun H locs hP hD hS => ?_)
  have hP : va_P D vwCl [(h3, .inl (cJ, 4, .inr (.inl (vp_updL (vp_updL g2 0 0) 1 0)))), (h0, .inr (12, f0)), (h2, .inl (cI, 3000, .inl g0)), (h1, .inl (cI, 3000, .inl (upd g1 0 0)))] H := hP
  have hD : va_D A [(h3, .inl (cJ, 4, .inr (.inl (vp_updL (vp_updL g2 0 0) 1 0)))), (h0, .inr (12, f0)), (h2, .inl (cI, 3000, .inl g0)), (h1, .inl (cI, 3000, .inl (upd g1 0 0)))] := hD
  refine lv_iinc (v := 2) (lv' := [(1, .int 2), (0, .ref h0)]) hx hb dX12_tellLeast_30 hl (k := 0) rfl (by decide) (by decide) rfl (fun ls hl => ?_)
  refine lv_goto (tgt := 18) hx hb dX12_tellLeast_33 (by decide) ?_
  refine lv_iload_n hx hb dX12_tellLeast_18 rfl (lv_at hl 0 rfl) ?_
  refine lv_iconst (v := 4) hx hb dX12_tellLeast_19 (by decide) ?_
  refine lv_icmp_ge (tgt := 36) hx hb dX12_tellLeast_20 (by decide) (fun c9 => absurd c9 (by decide)) (fun _ => ?_)
  refine lv_aload_n hx hb dX12_tellLeast_23 rfl (lv_at hl 1 rfl) ?_
  refine va_get (D := D) (ref := "IntegerHouseModel") (ci := 12) (v := .ref h3) (C := RX12) (T := TX12) (N := 195) hx hb hts hin12 hown hK hP 1 rfl rfl 138 (by decide) (hts (.fieldLink RX12 352 "IntegerHouseModel" "told" "[J") (List.mem_cons_of_mem _ (List.mem_append_left _ (List.mem_of_getElem? (i := 1) rfl)))) (fun _ h9 => h9) e5 dX12_tellLeast_24 ?_
  refine lv_iload_n hx hb dX12_tellLeast_27 rfl (lv_at hl 0 rfl) ?_
  refine lv_lconst (v := 0) hx hb dX12_tellLeast_28 (by decide) ?_
  refine va_last hx hb hK hP hD hS 0 1 rfl rfl (k_in (by decide)) dX12_tellLeast_29 (fun H locs hP hD hS => ?_)
  have hP : va_P D vwCl [(h3, .inl (cJ, 4, .inr (.inl (vp_updL (vp_updL (vp_updL g2 0 0) 1 0) 2 0)))), (h0, .inr (12, f0)), (h2, .inl (cI, 3000, .inl g0)), (h1, .inl (cI, 3000, .inl (upd g1 0 0)))] H := hP
  have hD : va_D A [(h3, .inl (cJ, 4, .inr (.inl (vp_updL (vp_updL (vp_updL g2 0 0) 1 0) 2 0)))), (h0, .inr (12, f0)), (h2, .inl (cI, 3000, .inl g0)), (h1, .inl (cI, 3000, .inl (upd g1 0 0)))] := hD
  refine lv_iinc (v := 3) (lv' := [(1, .int 3), (0, .ref h0)]) hx hb dX12_tellLeast_30 hl (k := 0) rfl (by decide) (by decide) rfl (fun ls hl => ?_)
  refine lv_goto (tgt := 18) hx hb dX12_tellLeast_33 (by decide) ?_
  refine lv_iload_n hx hb dX12_tellLeast_18 rfl (lv_at hl 0 rfl) ?_
  refine lv_iconst (v := 4) hx hb dX12_tellLeast_19 (by decide) ?_
  refine lv_icmp_ge (tgt := 36) hx hb dX12_tellLeast_20 (by decide) (fun c9 => absurd c9 (by decide)) (fun _ => ?_)
  refine lv_aload_n hx hb dX12_tellLeast_23 rfl (lv_at hl 1 rfl) ?_
  refine va_get (D := D) (ref := "IntegerHouseModel") (ci := 12) (v := .ref h3) (C := RX12) (T := TX12) (N := 195) hx hb hts hin12 hown hK hP 1 rfl rfl 138 (by decide) (hts (.fieldLink RX12 352 "IntegerHouseModel" "told" "[J") (List.mem_cons_of_mem _ (List.mem_append_left _ (List.mem_of_getElem? (i := 1) rfl)))) (fun _ h9 => h9) e5 dX12_tellLeast_24 ?_
  refine lv_iload_n hx hb dX12_tellLeast_27 rfl (lv_at hl 0 rfl) ?_
  refine lv_lconst (v := 0) hx hb dX12_tellLeast_28 (by decide) ?_
  refine va_last hx hb hK hP hD hS 0 1 rfl rfl (k_in (by decide)) dX12_tellLeast_29 (fun H locs hP hD hS => ?_)
  have hP : va_P D vwCl [(h3, .inl (cJ, 4, .inr (.inl (vp_updL (vp_updL (vp_updL (vp_updL g2 0 0) 1 0) 2 0) 3 0)))), (h0, .inr (12, f0)), (h2, .inl (cI, 3000, .inl g0)), (h1, .inl (cI, 3000, .inl (upd g1 0 0)))] H := hP
  have hD : va_D A [(h3, .inl (cJ, 4, .inr (.inl (vp_updL (vp_updL (vp_updL (vp_updL g2 0 0) 1 0) 2 0) 3 0)))), (h0, .inr (12, f0)), (h2, .inl (cI, 3000, .inl g0)), (h1, .inl (cI, 3000, .inl (upd g1 0 0)))] := hD
  refine lv_iinc (v := 4) (lv' := [(1, .int 4), (0, .ref h0)]) hx hb dX12_tellLeast_30 hl (k := 0) rfl (by decide) (by decide) rfl (fun ls hl => ?_)
  refine lv_goto (tgt := 18) hx hb dX12_tellLeast_33 (by decide) ?_
  refine lv_iload_n hx hb dX12_tellLeast_18 rfl (lv_at hl 0 rfl) ?_
  refine lv_iconst (v := 4) hx hb dX12_tellLeast_19 (by decide) ?_
  refine lv_icmp_ge (tgt := 36) hx hb dX12_tellLeast_20 (by decide) (fun _ => ?_) (fun c9 => absurd (by decide) c9)
  refine lv_aload_n hx hb dX12_tellLeast_36 rfl (lv_at hl 1 rfl) ?_
  refine lv_aload_n hx hb dX12_tellLeast_37 rfl (lv_at hl 1 rfl) ?_
  refine va_get (D := D) (ref := "IntegerHouseModel") (ci := 12) (v := .int 0) (C := RX12) (T := TX12) (N := 195) hx hb hts hin12 hown hK hP 1 rfl rfl 32 (by decide) (hts (.fieldLink RX12 815 "IntegerHouseModel" "variables" "I") (List.mem_cons_of_mem _ (List.mem_append_left _ (List.mem_of_getElem? (i := 2) rfl)))) (fun _ h9 => h9) e6 dX12_tellLeast_38 ?_
  refine va_put (D := D) (ref := "IntegerHouseModel") (ci := 12) (v := .int 0) (ty := .int) (C := RX12) (T := TX12) (N := 195) hx hb hts hin12 tyX12 tyX12_ok nmX12 hown hK hP hD hS 1 rfl rfl 139 (by decide) (hts (.fieldLink RX12 979 "IntegerHouseModel" "toldVariables" "I") (List.mem_cons_of_mem _ (List.mem_append_left _ (List.mem_of_getElem? (i := 3) rfl)))) (fun _ h9 => h9) rfl (by decide +kernel) rfl rfl (k_len e7) dX12_tellLeast_41 (fun H locs hP hD hS => ?_)
  have hP : va_P D vwCl [(h3, .inl (cJ, 4, .inr (.inl (vp_updL (vp_updL (vp_updL (vp_updL g2 0 0) 1 0) 2 0) 3 0)))), (h0, .inr (12, (f0.set 139 (.int 0)))), (h2, .inl (cI, 3000, .inl g0)), (h1, .inl (cI, 3000, .inl (upd g1 0 0)))] H := hP
  have hD : va_D A [(h3, .inl (cJ, 4, .inr (.inl (vp_updL (vp_updL (vp_updL (vp_updL g2 0 0) 1 0) 2 0) 3 0)))), (h0, .inr (12, (f0.set 139 (.int 0)))), (h2, .inl (cI, 3000, .inl g0)), (h1, .inl (cI, 3000, .inl (upd g1 0 0)))] := hD
  refine lv_aload_n hx hb dX12_tellLeast_44 rfl (lv_at hl 1 rfl) ?_
  refine lv_aload_n hx hb dX12_tellLeast_45 rfl (lv_at hl 1 rfl) ?_
  refine va_get (D := D) (ref := "IntegerHouseModel") (ci := 12) (v := .ref h1) (C := RX12) (T := TX12) (N := 195) hx hb hts hin12 hown hK hP 1 rfl rfl 137 (by decide) (hts (.fieldLink RX12 349 "IntegerHouseModel" "far" "[I") (List.mem_cons_of_mem _ (List.mem_append_left _ (List.mem_of_getElem? (i := 0) rfl)))) (fun _ h9 => h9) (k_ne (by decide) e1) dX12_tellLeast_46 ?_
  refine lv_iconst (v := 0) hx hb dX12_tellLeast_49 (by decide) ?_
  refine va_iald hx hb hK hP 3 0 rfl rfl (k_in (by decide)) dX12_tellLeast_50 ?_
  refine k_topi (y := 0) rfl ?_
  refine va_put (D := D) (ref := "IntegerHouseModel") (ci := 12) (v := .int 0) (ty := .int) (C := RX12) (T := TX12) (N := 195) hx hb hts hin12 tyX12 tyX12_ok nmX12 hown hK hP hD hS 1 rfl rfl 140 (by decide) (hts (.fieldLink RX12 355 "IntegerHouseModel" "toldHeight" "I") (List.mem_cons_of_mem _ (List.mem_append_left _ (List.mem_of_getElem? (i := 4) rfl)))) (fun _ h9 => h9) rfl (by decide +kernel) rfl rfl (k_len (k_ne (by decide) e8)) dX12_tellLeast_51 (fun H locs hP hD hS => ?_)
  have hP : va_P D vwCl [(h3, .inl (cJ, 4, .inr (.inl (vp_updL (vp_updL (vp_updL (vp_updL g2 0 0) 1 0) 2 0) 3 0)))), (h0, .inr (12, ((f0.set 139 (.int 0)).set 140 (.int 0)))), (h2, .inl (cI, 3000, .inl g0)), (h1, .inl (cI, 3000, .inl (upd g1 0 0)))] H := hP
  have hD : va_D A [(h3, .inl (cJ, 4, .inr (.inl (vp_updL (vp_updL (vp_updL (vp_updL g2 0 0) 1 0) 2 0) 3 0)))), (h0, .inr (12, ((f0.set 139 (.int 0)).set 140 (.int 0)))), (h2, .inl (cI, 3000, .inl g0)), (h1, .inl (cI, 3000, .inl (upd g1 0 0)))] := hD
  refine lv_iconst (v := 0) hx hb dX12_tellLeast_54 (by decide) ?_
  refine lv_istore_n (lv' := [(1, .int 0), (0, .ref h0)]) hx hb dX12_tellLeast_55 rfl hl (by decide) rfl (fun ls hl => ?_)
  refine lv_iconst (v := 0) hx hb dX12_tellLeast_56 (by decide) ?_
  refine lv_istore_n (lv' := [(2, .int 0), (1, .int 0), (0, .ref h0)]) hx hb dX12_tellLeast_57 rfl hl (by decide) rfl (fun ls hl => ?_)
  refine lv_aload_n hx hb dX12_tellLeast_58 rfl (lv_at hl 2 rfl) ?_
  refine va_get (D := D) (ref := "IntegerHouseModel") (ci := 12) (v := .ref h1) (C := RX12) (T := TX12) (N := 195) hx hb hts hin12 hown hK hP 1 rfl rfl 137 (by decide) (hts (.fieldLink RX12 349 "IntegerHouseModel" "far" "[I") (List.mem_cons_of_mem _ (List.mem_append_left _ (List.mem_of_getElem? (i := 0) rfl)))) (fun _ h9 => h9) (k_ne (by decide) (k_ne (by decide) e1)) dX12_tellLeast_59 ?_
  refine lv_iload_n hx hb dX12_tellLeast_62 rfl (lv_at hl 1 rfl) ?_
  refine va_iald hx hb hK hP 3 0 rfl rfl (k_in (by decide)) dX12_tellLeast_63 ?_
  refine k_topi (y := 0) rfl ?_
  refine lv_if_le (tgt := 162) hx hb dX12_tellLeast_64 (by decide) (fun _ => ?_) (fun c9 => absurd (by decide) c9)
  refine lv_iconst (v := 0) hx hb dX12_tellLeast_162 (by decide) ?_
  refine lv_istore_n (lv' := [(3, .int 0), (2, .int 0), (1, .int 0), (0, .ref h0)]) hx hb dX12_tellLeast_163 rfl hl (by decide) rfl (fun ls hl => ?_)
  refine lv_aload_n hx hb dX12_tellLeast_164 rfl (lv_at hl 3 rfl) ?_
  refine va_get (D := D) (ref := "IntegerHouseModel") (ci := 12) (v := .ref h2) (C := RX12) (T := TX12) (N := 195) hx hb hts hin12 hown hK hP 1 rfl rfl 132 (by decide) (hts (.fieldLink RX12 334 "IntegerHouseModel" "takes" "[I") (List.mem_cons_of_mem _ (List.mem_append_left _ (List.mem_of_getElem? (i := 6) rfl)))) (fun _ h9 => h9) (k_ne (by decide) (k_ne (by decide) e2)) dX12_tellLeast_165 ?_
  refine lv_iload_n hx hb dX12_tellLeast_168 rfl (lv_at hl 2 rfl) ?_
  refine va_iald hx hb hK hP 2 0 rfl rfl (k_in (by decide)) dX12_tellLeast_169 ?_
  refine k_topi (y := 1) e3 ?_
  refine lv_iload_n hx hb dX12_tellLeast_170 rfl (lv_at hl 0 rfl) ?_
  refine lv_ishr hx hb dX12_tellLeast_171 ?_
  refine k_topi (y := 1) (by decide) ?_
  refine lv_iconst (v := 1) hx hb dX12_tellLeast_172 (by decide) ?_
  refine lv_iand hx hb dX12_tellLeast_173 ?_
  refine k_topi (y := 1) (by decide) ?_
  refine lv_if_ne (tgt := 183) hx hb dX12_tellLeast_174 (by decide) (fun _ => ?_) (fun c9 => absurd c9 (by decide))
  refine lv_iconst (v := 0) hx hb dX12_tellLeast_183 (by decide) ?_
  refine lv_istore (lv' := [(4, .int 0), (3, .int 0), (2, .int 0), (1, .int 0), (0, .ref h0)]) hx hb dX12_tellLeast_184 hl (by decide) rfl (fun ls hl => ?_)
  refine lv_iload hx hb dX12_tellLeast_186 (lv_at hl 0 rfl) ?_
  refine lv_aload_n hx hb dX12_tellLeast_188 rfl (lv_at hl 4 rfl) ?_
  refine va_get (D := D) (ref := "IntegerHouseModel") (ci := 12) (v := .int 0) (C := RX12) (T := TX12) (N := 195) hx hb hts hin12 hown hK hP 1 rfl rfl 32 (by decide) (hts (.fieldLink RX12 815 "IntegerHouseModel" "variables" "I") (List.mem_cons_of_mem _ (List.mem_append_left _ (List.mem_of_getElem? (i := 2) rfl)))) (fun _ h9 => h9) (k_ne (by decide) (k_ne (by decide) e6)) dX12_tellLeast_189 ?_
  refine lv_icmp_ge (tgt := 225) hx hb dX12_tellLeast_192 (by decide) (fun _ => ?_) (fun c9 => absurd (by decide) c9)
  refine lv_iconst (v := 1) hx hb dX12_tellLeast_225 (by decide) ?_
  have hP := hP.sub (ws' := [(h0, .inr (12, ((f0.set 139 (.int 0)).set 140 (.int 0)))), (h2, .inl (cI, 3000, .inl g0)), (h1, .inl (cI, 3000, .inl (upd g1 0 0))), (h3, .inl (cJ, 4, .inr (.inl (vp_updL (vp_updL (vp_updL (vp_updL g2 0 0) 1 0) 2 0) 3 0))))]) [1, 2, 3, 0] rfl
  have hD := hD.sub (ws' := [(h0, .inr (12, ((f0.set 139 (.int 0)).set 140 (.int 0)))), (h2, .inl (cI, 3000, .inl g0)), (h1, .inl (cI, 3000, .inl (upd g1 0 0))), (h3, .inl (cJ, 4, .inr (.inl (vp_updL (vp_updL (vp_updL (vp_updL g2 0 0) 1 0) 2 0) 3 0))))]) [1, 2, 3, 0] (by decide +kernel) rfl
  exact W.zret (v := 1) hx hb hr rfl (fun t ht hW => ⟨⟨1, (), rfl, rfl, kB_mk ht hW hP hK hD⟩, hS.F ht⟩) hS.2.2 dX12_tellLeast_226
set_option maxHeartbeats 400000000 in
set_option maxRecDepth 100000 in
theorem c_X12_decide_0 (l : Launch) (E : kE) (D : va_G) (cI cJ cB cZ : ClassId) (h0 : Nat) (f0 : List Value) (h1 : Nat) (g0 : Nat → Int32) (h2 : Nat) (h3 : Nat) (h4 : Nat) (g1 : Nat → Int32) (g2 : Nat → Int32) (g3 : Nat → Int32) (h5 : Nat) (h6 : Nat) (h7 : Nat) (h8 : Nat) (g4 : Nat → Int32) (g5 : Nat → Int32) (g6 : Nat → Int32) (g7 : Nat → Int32) (h9 : Nat) (h10 : Nat) (g8 : Nat → Int32) (g9 : Nat → Int64) (e0 : f0[0]? = some (.int 0)) (e1 : f0[5]? = some (.int 0)) (e2 : f0[119]? = some (.int 0)) (e3 : f0[121]? = some (.ref h1)) (e4 : f0[33]? = some (.int 0)) (e5 : f0[32]? = some (.int 0)) (e6 : f0[131]? = some (.int 0)) (e7 : f0[127]? = some (.ref h2)) (e8 : f0[129]? = some (.int 0)) (e9 : f0[128]? = some (.ref h3)) (e10 : f0[126]? = some (.ref h4)) (e11 : f0[136]? = some (.ref h5)) (e12 : f0[132]? = some (.ref h6)) (e13 : f0[133]? = some (.ref h7)) (e14 : f0[135]? = some (.ref h8)) (e15 : f0[137]? = some (.ref h9)) (e16 : f0[138]? = some (.ref h10)) (e17 : f0[139]? = some (.int 0)) (e18 : f0[140]? = some (.int (-1))) : kI l E D (kT cI cJ cB cZ) yX12_decide wsX12_decide ({ frames := 2, cells := 0, slots := 0, locals := 51 }) [.ref h0] [(h0, .inr (12, f0)), (h1, .inl (cZ, 26, .inl g0)), (h2, .inl (cI, 32768, .inl g1)), (h3, .inl (cI, 3000, .inl g2)), (h4, .inl (cI, 48000, .inl g3)), (h5, .inl (cI, 4096, .inl g4)), (h6, .inl (cI, 3000, .inl g5)), (h7, .inl (cI, 3000, .inl g6)), (h8, .inl (cI, 4096, .inl g7)), (h9, .inl (cI, 3000, .inl g8)), (h10, .inl (cJ, 4, .inr (.inl g9)))] (1) [(h0, .inr (12, (((((((f0.set 0 (.int 0)).set 119 (.int 0)).set 131 (.int 1)).set 129 (.int 0)).set 129 (.int 1)).set 139 (.int 0)).set 140 (.int 0)))), (h1, .inl (cZ, 26, .inl (upd (upd (upd (upd (upd (upd (upd (upd (upd (upd (upd (upd (upd (upd (upd (upd (upd (upd (upd (upd (upd (upd (upd (upd (upd (upd g0 0 0) 1 0) 2 0) 3 0) 4 0) 5 0) 6 0) 7 0) 8 0) 9 0) 10 0) 11 0) 12 0) 13 0) 14 0) 15 0) 16 0) 17 0) 18 0) 19 0) 20 0) 21 0) 22 0) 23 0) 24 0) 25 0))), (h2, .inl (cI, 32768, .inl (upd (k_fill (-1) 32768 g1) 17 0))), (h3, .inl (cI, 3000, .inl (upd g2 0 (-1)))), (h4, .inl (cI, 48000, .inl (upd g3 0 0))), (h5, .inl (cI, 4096, .inl (upd (k_fill (-1) 4096 g4) 0 1))), (h6, .inl (cI, 3000, .inl (upd (upd g5 0 0) 0 1))), (h7, .inl (cI, 3000, .inl (upd (upd g6 0 0) 0 0))), (h8, .inl (cI, 4096, .inl (upd g7 0 0))), (h9, .inl (cI, 3000, .inl (upd g8 0 0))), (h10, .inl (cJ, 4, .inr (.inl (vp_updL (vp_updL (vp_updL (vp_updL g9 0 0) 1 0) 2 0) 3 0))))] 0 0 := by
  intro sz
  refine Met.ofW (cc := cX12_decide) (maxL := 1) (ret := (some .int)) (by decide) rfl ?_
  intro p e s m args below meth c s₁ B hml hv
  obtain ⟨rfl, hsz, hP, hK, hD0, hN, hX⟩ := hv
  have hx := B.exec
  have hb := B.bytes
  have hr := B.returns
  have hts := atoms_spec (ws := wsX12_decide) B.pre
  have hown : s.vm.findClass RX12 = some m.cls := findClass_of_methodNamed B.named
  have hlocks := B.notSynchronized
  subst hsz
  have hD := hD0.self (sz := s.heap.size)
  have hAE := k_AE hD0 hX
  generalize hAe : va_A [(h0, .inr (12, f0)), (h1, .inl (cZ, 26, .inl g0)), (h2, .inl (cI, 32768, .inl g1)), (h3, .inl (cI, 3000, .inl g2)), (h4, .inl (cI, 48000, .inl g3)), (h5, .inl (cI, 4096, .inl g4)), (h6, .inl (cI, 3000, .inl g5)), (h7, .inl (cI, 3000, .inl g6)), (h8, .inl (cI, 4096, .inl g7)), (h9, .inl (cI, 3000, .inl g8)), (h10, .inl (cJ, 4, .inr (.inl g9)))] s.heap.size = A at hD hAE ⊢
  have hA : ∀ q : Nat, s.heap.size ≤ q → A q := fun q h => by rw [← hAe]; exact Or.inr h
  have hS : va_S A s.heap s.heap [] := va_S.rf
  have hP : va_P D vwCl [(h0, .inr (12, f0)), (h1, .inl (cZ, 26, .inl g0)), (h2, .inl (cI, 32768, .inl g1)), (h3, .inl (cI, 3000, .inl g2)), (h4, .inl (cI, 48000, .inl g3)), (h5, .inl (cI, 4096, .inl g4)), (h6, .inl (cI, 3000, .inl g5)), (h7, .inl (cI, 3000, .inl g6)), (h8, .inl (cI, 4096, .inl g7)), (h9, .inl (cI, 3000, .inl g8)), (h10, .inl (cJ, 4, .inr (.inl g9)))] s.heap := hP
  have hl := lv_entry ([.ref h0] : List Value) (n := 1) (Nat.le_of_ble_eq_true rfl)
  rw [lg_entry_eq]
  generalize (lg_sl ([.ref h0]) ++ List.replicate (1 - (lg_sl ([.ref h0])).length) Slot.unset).toArray = ls at hl ⊢
  have hl : lv_has ls 1 [(0, .ref h0)] := hl
  refine lv_aload_n hx hb dX12_decide_0 rfl (lv_at hl 0 rfl) ?_
  refine k_cVi (As := []) (rest := []) (wc := [(h0, .inr (12, f0))]) (wr := [(h1, .inl (cZ, 26, .inl g0)), (h2, .inl (cI, 32768, .inl g1)), (h3, .inl (cI, 3000, .inl g2)), (h4, .inl (cI, 48000, .inl g3)), (h5, .inl (cI, 4096, .inl g4)), (h6, .inl (cI, 3000, .inl g5)), (h7, .inl (cI, 3000, .inl g6)), (h8, .inl (cI, 4096, .inl g7)), (h9, .inl (cI, 3000, .inl g8)), (h10, .inl (cJ, 4, .inr (.inl g9)))]) (w1 := [(h0, .inr (12, (f0.set 0 (.int 0))))]) ⟨hx, hb, hml, hown, hts⟩ hN hX hAE hK hP hD hS hA [0] [1, 2, 3, 4, 5, 6, 7, 8, 9, 10] (ci := 12) rfl rfl rfl rfl (by decide +kernel) (by decide +kernel) (by decide +kernel) (c_X12_asks_0 l E D cI cJ cB cZ h0 f0 e0 e1) (cwV 0 hts gX12_decide_X12_asks rfl rfl rfl (by decide +kernel) ⟨Nat.le_of_ble_eq_true rfl, Nat.le_of_ble_eq_true rfl⟩) rfl hl.1 (Nat.le_of_ble_eq_true rfl) dX12_decide_1 ⟨Nat.le_of_ble_eq_true rfl, Nat.le_of_ble_eq_true rfl⟩ (fun H locs hP hD hS => ?_)
  have hP : va_P D vwCl [(h1, .inl (cZ, 26, .inl g0)), (h2, .inl (cI, 32768, .inl g1)), (h3, .inl (cI, 3000, .inl g2)), (h4, .inl (cI, 48000, .inl g3)), (h5, .inl (cI, 4096, .inl g4)), (h6, .inl (cI, 3000, .inl g5)), (h7, .inl (cI, 3000, .inl g6)), (h8, .inl (cI, 4096, .inl g7)), (h9, .inl (cI, 3000, .inl g8)), (h10, .inl (cJ, 4, .inr (.inl g9))), (h0, .inr (12, (f0.set 0 (.int 0))))] H := hP
  have hD : va_D A [(h1, .inl (cZ, 26, .inl g0)), (h2, .inl (cI, 32768, .inl g1)), (h3, .inl (cI, 3000, .inl g2)), (h4, .inl (cI, 48000, .inl g3)), (h5, .inl (cI, 4096, .inl g4)), (h6, .inl (cI, 3000, .inl g5)), (h7, .inl (cI, 3000, .inl g6)), (h8, .inl (cI, 4096, .inl g7)), (h9, .inl (cI, 3000, .inl g8)), (h10, .inl (cJ, 4, .inr (.inl g9))), (h0, .inr (12, (f0.set 0 (.int 0))))] := hD
  refine lv_if_ne (tgt := 10) hx hb dX12_decide_4 (by decide) (fun _ => ?_) (fun c9 => absurd c9 (by decide))
  refine lv_aload_n hx hb dX12_decide_10 rfl (lv_at hl 0 rfl) ?_
  refine k_cVv (As := []) (rest := []) (wc := [(h0, .inr (12, (f0.set 0 (.int 0)))), (h1, .inl (cZ, 26, .inl g0))]) (wr := [(h2, .inl (cI, 32768, .inl g1)), (h3, .inl (cI, 3000, .inl g2)), (h4, .inl (cI, 48000, .inl g3)), (h5, .inl (cI, 4096, .inl g4)), (h6, .inl (cI, 3000, .inl g5)), (h7, .inl (cI, 3000, .inl g6)), (h8, .inl (cI, 4096, .inl g7)), (h9, .inl (cI, 3000, .inl g8)), (h10, .inl (cJ, 4, .inr (.inl g9)))]) (w1 := (fun _ : Unit => [(h0, .inr (12, ((f0.set 0 (.int 0)).set 119 (.int 0)))), (h1, .inl (cZ, 26, .inl (upd (upd (upd (upd (upd (upd (upd (upd (upd (upd (upd (upd (upd (upd (upd (upd (upd (upd (upd (upd (upd (upd (upd (upd (upd (upd g0 0 0) 1 0) 2 0) 3 0) 4 0) 5 0) 6 0) 7 0) 8 0) 9 0) 10 0) 11 0) 12 0) 13 0) 14 0) 15 0) 16 0) 17 0) 18 0) 19 0) 20 0) 21 0) 22 0) 23 0) 24 0) 25 0)))])) ⟨hx, hb, hml, hown, hts⟩ hN hX hAE hK hP hD hS hA [10, 0] [1, 2, 3, 4, 5, 6, 7, 8, 9] (ci := 12) rfl rfl rfl rfl (by decide +kernel) (by decide +kernel) (by decide +kernel) (c_X12_putOn_0 l E D cI cJ cB cZ h0 ((f0.set 0 (.int 0))) h1 g0 (k_ne (by decide) e2) (k_ne (by decide) e3) (k_ne (by decide) e4)) (cwV 0 hts gX12_decide_X12_putOn rfl rfl rfl (by decide +kernel) ⟨Nat.le_of_ble_eq_true rfl, Nat.le_of_ble_eq_true rfl⟩) rfl hl.1 (Nat.le_of_ble_eq_true rfl) dX12_decide_11 ⟨Nat.le_of_ble_eq_true rfl, Nat.le_of_ble_eq_true rfl⟩ (fun _ H locs hP hD hS => ?_)
  have hP : va_P D vwCl [(h2, .inl (cI, 32768, .inl g1)), (h3, .inl (cI, 3000, .inl g2)), (h4, .inl (cI, 48000, .inl g3)), (h5, .inl (cI, 4096, .inl g4)), (h6, .inl (cI, 3000, .inl g5)), (h7, .inl (cI, 3000, .inl g6)), (h8, .inl (cI, 4096, .inl g7)), (h9, .inl (cI, 3000, .inl g8)), (h10, .inl (cJ, 4, .inr (.inl g9))), (h0, .inr (12, ((f0.set 0 (.int 0)).set 119 (.int 0)))), (h1, .inl (cZ, 26, .inl (upd (upd (upd (upd (upd (upd (upd (upd (upd (upd (upd (upd (upd (upd (upd (upd (upd (upd (upd (upd (upd (upd (upd (upd (upd (upd g0 0 0) 1 0) 2 0) 3 0) 4 0) 5 0) 6 0) 7 0) 8 0) 9 0) 10 0) 11 0) 12 0) 13 0) 14 0) 15 0) 16 0) 17 0) 18 0) 19 0) 20 0) 21 0) 22 0) 23 0) 24 0) 25 0)))] H := hP
  have hD : va_D A [(h2, .inl (cI, 32768, .inl g1)), (h3, .inl (cI, 3000, .inl g2)), (h4, .inl (cI, 48000, .inl g3)), (h5, .inl (cI, 4096, .inl g4)), (h6, .inl (cI, 3000, .inl g5)), (h7, .inl (cI, 3000, .inl g6)), (h8, .inl (cI, 4096, .inl g7)), (h9, .inl (cI, 3000, .inl g8)), (h10, .inl (cJ, 4, .inr (.inl g9))), (h0, .inr (12, ((f0.set 0 (.int 0)).set 119 (.int 0)))), (h1, .inl (cZ, 26, .inl (upd (upd (upd (upd (upd (upd (upd (upd (upd (upd (upd (upd (upd (upd (upd (upd (upd (upd (upd (upd (upd (upd (upd (upd (upd (upd g0 0 0) 1 0) 2 0) 3 0) 4 0) 5 0) 6 0) 7 0) 8 0) 9 0) 10 0) 11 0) 12 0) 13 0) 14 0) 15 0) 16 0) 17 0) 18 0) 19 0) 20 0) 21 0) 22 0) 23 0) 24 0) 25 0)))] := hD
  refine lv_aload_n hx hb dX12_decide_14 rfl (lv_at hl 0 rfl) ?_
  refine k_cVi (As := []) (rest := []) (wc := [(h0, .inr (12, ((f0.set 0 (.int 0)).set 119 (.int 0)))), (h1, .inl (cZ, 26, .inl (upd (upd (upd (upd (upd (upd (upd (upd (upd (upd (upd (upd (upd (upd (upd (upd (upd (upd (upd (upd (upd (upd (upd (upd (upd (upd g0 0 0) 1 0) 2 0) 3 0) 4 0) 5 0) 6 0) 7 0) 8 0) 9 0) 10 0) 11 0) 12 0) 13 0) 14 0) 15 0) 16 0) 17 0) 18 0) 19 0) 20 0) 21 0) 22 0) 23 0) 24 0) 25 0))), (h2, .inl (cI, 32768, .inl g1)), (h3, .inl (cI, 3000, .inl g2)), (h4, .inl (cI, 48000, .inl g3))]) (wr := [(h5, .inl (cI, 4096, .inl g4)), (h6, .inl (cI, 3000, .inl g5)), (h7, .inl (cI, 3000, .inl g6)), (h8, .inl (cI, 4096, .inl g7)), (h9, .inl (cI, 3000, .inl g8)), (h10, .inl (cJ, 4, .inr (.inl g9)))]) (w1 := [(h0, .inr (12, (((((f0.set 0 (.int 0)).set 119 (.int 0)).set 131 (.int 1)).set 129 (.int 0)).set 129 (.int 1)))), (h1, .inl (cZ, 26, .inl (upd (upd (upd (upd (upd (upd (upd (upd (upd (upd (upd (upd (upd (upd (upd (upd (upd (upd (upd (upd (upd (upd (upd (upd (upd (upd g0 0 0) 1 0) 2 0) 3 0) 4 0) 5 0) 6 0) 7 0) 8 0) 9 0) 10 0) 11 0) 12 0) 13 0) 14 0) 15 0) 16 0) 17 0) 18 0) 19 0) 20 0) 21 0) 22 0) 23 0) 24 0) 25 0))), (h2, .inl (cI, 32768, .inl (upd (k_fill (-1) 32768 g1) 17 0))), (h3, .inl (cI, 3000, .inl (upd g2 0 (-1)))), (h4, .inl (cI, 48000, .inl (upd g3 0 0)))]) ⟨hx, hb, hml, hown, hts⟩ hN hX hAE hK hP hD hS hA [9, 10, 0, 1, 2] [3, 4, 5, 6, 7, 8] (ci := 12) rfl rfl rfl rfl (by decide +kernel) (by decide +kernel) (by decide +kernel) (c_X12_explore_0 l E D cI cJ cB cZ h0 (((f0.set 0 (.int 0)).set 119 (.int 0))) h1 ((upd (upd (upd (upd (upd (upd (upd (upd (upd (upd (upd (upd (upd (upd (upd (upd (upd (upd (upd (upd (upd (upd (upd (upd (upd (upd g0 0 0) 1 0) 2 0) 3 0) 4 0) 5 0) 6 0) 7 0) 8 0) 9 0) 10 0) 11 0) 12 0) 13 0) 14 0) 15 0) 16 0) 17 0) 18 0) 19 0) 20 0) 21 0) 22 0) 23 0) 24 0) 25 0)) h2 g1 h3 g2 h4 g3 (k_set (k_ne (by decide) e2)) (k_ne (by decide) (k_ne (by decide) e3)) rfl rfl rfl rfl rfl rfl rfl rfl rfl rfl rfl rfl rfl rfl rfl rfl rfl rfl rfl rfl rfl rfl rfl rfl rfl (k_ne (by decide) (k_ne (by decide) e5)) (k_ne (by decide) (k_ne (by decide) e6)) (k_ne (by decide) (k_ne (by decide) e7)) (k_ne (by decide) (k_ne (by decide) e8)) (k_ne (by decide) (k_ne (by decide) e9)) (k_ne (by decide) (k_ne (by decide) e10))) (cwV 0 hts gX12_decide_X12_explore rfl rfl rfl (by decide +kernel) ⟨Nat.le_of_ble_eq_true rfl, Nat.le_of_ble_eq_true rfl⟩) rfl hl.1 (Nat.le_of_ble_eq_true rfl) dX12_decide_15 ⟨Nat.le_of_ble_eq_true rfl, Nat.le_of_ble_eq_true rfl⟩ (fun H locs hP hD hS => ?_)
  have hP : va_P D vwCl [(h5, .inl (cI, 4096, .inl g4)), (h6, .inl (cI, 3000, .inl g5)), (h7, .inl (cI, 3000, .inl g6)), (h8, .inl (cI, 4096, .inl g7)), (h9, .inl (cI, 3000, .inl g8)), (h10, .inl (cJ, 4, .inr (.inl g9))), (h0, .inr (12, (((((f0.set 0 (.int 0)).set 119 (.int 0)).set 131 (.int 1)).set 129 (.int 0)).set 129 (.int 1)))), (h1, .inl (cZ, 26, .inl (upd (upd (upd (upd (upd (upd (upd (upd (upd (upd (upd (upd (upd (upd (upd (upd (upd (upd (upd (upd (upd (upd (upd (upd (upd (upd g0 0 0) 1 0) 2 0) 3 0) 4 0) 5 0) 6 0) 7 0) 8 0) 9 0) 10 0) 11 0) 12 0) 13 0) 14 0) 15 0) 16 0) 17 0) 18 0) 19 0) 20 0) 21 0) 22 0) 23 0) 24 0) 25 0))), (h2, .inl (cI, 32768, .inl (upd (k_fill (-1) 32768 g1) 17 0))), (h3, .inl (cI, 3000, .inl (upd g2 0 (-1)))), (h4, .inl (cI, 48000, .inl (upd g3 0 0)))] H := hP
  have hD : va_D A [(h5, .inl (cI, 4096, .inl g4)), (h6, .inl (cI, 3000, .inl g5)), (h7, .inl (cI, 3000, .inl g6)), (h8, .inl (cI, 4096, .inl g7)), (h9, .inl (cI, 3000, .inl g8)), (h10, .inl (cJ, 4, .inr (.inl g9))), (h0, .inr (12, (((((f0.set 0 (.int 0)).set 119 (.int 0)).set 131 (.int 1)).set 129 (.int 0)).set 129 (.int 1)))), (h1, .inl (cZ, 26, .inl (upd (upd (upd (upd (upd (upd (upd (upd (upd (upd (upd (upd (upd (upd (upd (upd (upd (upd (upd (upd (upd (upd (upd (upd (upd (upd g0 0 0) 1 0) 2 0) 3 0) 4 0) 5 0) 6 0) 7 0) 8 0) 9 0) 10 0) 11 0) 12 0) 13 0) 14 0) 15 0) 16 0) 17 0) 18 0) 19 0) 20 0) 21 0) 22 0) 23 0) 24 0) 25 0))), (h2, .inl (cI, 32768, .inl (upd (k_fill (-1) 32768 g1) 17 0))), (h3, .inl (cI, 3000, .inl (upd g2 0 (-1)))), (h4, .inl (cI, 48000, .inl (upd g3 0 0)))] := hD
  refine lv_if_ne (tgt := 24) hx hb dX12_decide_18 (by decide) (fun _ => ?_) (fun c9 => absurd c9 (by decide))
  refine lv_aload_n hx hb dX12_decide_24 rfl (lv_at hl 0 rfl) ?_
  refine lv_iconst (v := 0) hx hb dX12_decide_25 (by decide) ?_
  refine lv_iconst (v := 0) hx hb dX12_decide_26 (by decide) ?_
  refine lv_iconst (v := (-1)) hx hb dX12_decide_27 (by decide) ?_
  refine k_cVv (As := [.int 0, .int 0, .int (-1)]) (rest := []) (wc := [(h0, .inr (12, (((((f0.set 0 (.int 0)).set 119 (.int 0)).set 131 (.int 1)).set 129 (.int 0)).set 129 (.int 1)))), (h5, .inl (cI, 4096, .inl g4)), (h6, .inl (cI, 3000, .inl g5)), (h7, .inl (cI, 3000, .inl g6)), (h1, .inl (cZ, 26, .inl (upd (upd (upd (upd (upd (upd (upd (upd (upd (upd (upd (upd (upd (upd (upd (upd (upd (upd (upd (upd (upd (upd (upd (upd (upd (upd g0 0 0) 1 0) 2 0) 3 0) 4 0) 5 0) 6 0) 7 0) 8 0) 9 0) 10 0) 11 0) 12 0) 13 0) 14 0) 15 0) 16 0) 17 0) 18 0) 19 0) 20 0) 21 0) 22 0) 23 0) 24 0) 25 0))), (h8, .inl (cI, 4096, .inl g7))]) (wr := [(h9, .inl (cI, 3000, .inl g8)), (h10, .inl (cJ, 4, .inr (.inl g9))), (h2, .inl (cI, 32768, .inl (upd (k_fill (-1) 32768 g1) 17 0))), (h3, .inl (cI, 3000, .inl (upd g2 0 (-1)))), (h4, .inl (cI, 48000, .inl (upd g3 0 0)))]) (w1 := (fun _ : Unit => [(h0, .inr (12, (((((f0.set 0 (.int 0)).set 119 (.int 0)).set 131 (.int 1)).set 129 (.int 0)).set 129 (.int 1)))), (h5, .inl (cI, 4096, .inl (upd (k_fill (-1) 4096 g4) 0 1))), (h6, .inl (cI, 3000, .inl (upd (upd g5 0 0) 0 1))), (h7, .inl (cI, 3000, .inl (upd (upd g6 0 0) 0 0))), (h1, .inl (cZ, 26, .inl (upd (upd (upd (upd (upd (upd (upd (upd (upd (upd (upd (upd (upd (upd (upd (upd (upd (upd (upd (upd (upd (upd (upd (upd (upd (upd g0 0 0) 1 0) 2 0) 3 0) 4 0) 5 0) 6 0) 7 0) 8 0) 9 0) 10 0) 11 0) 12 0) 13 0) 14 0) 15 0) 16 0) 17 0) 18 0) 19 0) 20 0) 21 0) 22 0) 23 0) 24 0) 25 0))), (h8, .inl (cI, 4096, .inl (upd g7 0 0)))])) ⟨hx, hb, hml, hown, hts⟩ hN hX hAE hK hP hD hS hA [6, 0, 1, 2, 7, 3] [4, 5, 8, 9, 10] (ci := 12) rfl rfl rfl rfl (by decide +kernel) (by decide +kernel) (by decide +kernel) (c_X12_judge_0 l E D cI cJ cB cZ h0 ((((((f0.set 0 (.int 0)).set 119 (.int 0)).set 131 (.int 1)).set 129 (.int 0)).set 129 (.int 1))) h5 g4 h6 g5 h7 g6 h1 ((upd (upd (upd (upd (upd (upd (upd (upd (upd (upd (upd (upd (upd (upd (upd (upd (upd (upd (upd (upd (upd (upd (upd (upd (upd (upd g0 0 0) 1 0) 2 0) 3 0) 4 0) 5 0) 6 0) 7 0) 8 0) 9 0) 10 0) 11 0) 12 0) 13 0) 14 0) 15 0) 16 0) 17 0) 18 0) 19 0) 20 0) 21 0) 22 0) 23 0) 24 0) 25 0)) h8 g7 (k_ne (by decide) (k_ne (by decide) (k_ne (by decide) (k_ne (by decide) (k_ne (by decide) e11))))) (k_set (k_set (k_ne (by decide) (k_ne (by decide) (k_ne (by decide) e8))))) (k_ne (by decide) (k_ne (by decide) (k_ne (by decide) (k_ne (by decide) (k_ne (by decide) e12))))) (k_ne (by decide) (k_ne (by decide) (k_ne (by decide) (k_ne (by decide) (k_ne (by decide) e13))))) (k_ne (by decide) (k_ne (by decide) (k_set (k_ne (by decide) (k_ne (by decide) e6))))) (k_ne (by decide) (k_ne (by decide) (k_ne (by decide) (k_set (k_ne (by decide) e2))))) (k_ne (by decide) (k_ne (by decide) (k_ne (by decide) (k_ne (by decide) (k_ne (by decide) e3))))) rfl rfl rfl rfl rfl rfl rfl rfl rfl rfl rfl rfl rfl rfl rfl rfl rfl rfl rfl rfl rfl rfl rfl rfl rfl (k_ne (by decide) (k_ne (by decide) (k_ne (by decide) (k_ne (by decide) (k_ne (by decide) e14))))) (k_ne (by decide) (k_ne (by decide) (k_ne (by decide) (k_ne (by decide) (k_ne (by decide) e4)))))) (cwV 3 hts gX12_decide_X12_judge rfl rfl rfl (by decide +kernel) ⟨Nat.le_of_ble_eq_true rfl, Nat.le_of_ble_eq_true rfl⟩) rfl hl.1 (Nat.le_of_ble_eq_true rfl) dX12_decide_28 ⟨Nat.le_of_ble_eq_true rfl, Nat.le_of_ble_eq_true rfl⟩ (fun _ H locs hP hD hS => ?_)
  have hP : va_P D vwCl [(h9, .inl (cI, 3000, .inl g8)), (h10, .inl (cJ, 4, .inr (.inl g9))), (h2, .inl (cI, 32768, .inl (upd (k_fill (-1) 32768 g1) 17 0))), (h3, .inl (cI, 3000, .inl (upd g2 0 (-1)))), (h4, .inl (cI, 48000, .inl (upd g3 0 0))), (h0, .inr (12, (((((f0.set 0 (.int 0)).set 119 (.int 0)).set 131 (.int 1)).set 129 (.int 0)).set 129 (.int 1)))), (h5, .inl (cI, 4096, .inl (upd (k_fill (-1) 4096 g4) 0 1))), (h6, .inl (cI, 3000, .inl (upd (upd g5 0 0) 0 1))), (h7, .inl (cI, 3000, .inl (upd (upd g6 0 0) 0 0))), (h1, .inl (cZ, 26, .inl (upd (upd (upd (upd (upd (upd (upd (upd (upd (upd (upd (upd (upd (upd (upd (upd (upd (upd (upd (upd (upd (upd (upd (upd (upd (upd g0 0 0) 1 0) 2 0) 3 0) 4 0) 5 0) 6 0) 7 0) 8 0) 9 0) 10 0) 11 0) 12 0) 13 0) 14 0) 15 0) 16 0) 17 0) 18 0) 19 0) 20 0) 21 0) 22 0) 23 0) 24 0) 25 0))), (h8, .inl (cI, 4096, .inl (upd g7 0 0)))] H := hP
  have hD : va_D A [(h9, .inl (cI, 3000, .inl g8)), (h10, .inl (cJ, 4, .inr (.inl g9))), (h2, .inl (cI, 32768, .inl (upd (k_fill (-1) 32768 g1) 17 0))), (h3, .inl (cI, 3000, .inl (upd g2 0 (-1)))), (h4, .inl (cI, 48000, .inl (upd g3 0 0))), (h0, .inr (12, (((((f0.set 0 (.int 0)).set 119 (.int 0)).set 131 (.int 1)).set 129 (.int 0)).set 129 (.int 1)))), (h5, .inl (cI, 4096, .inl (upd (k_fill (-1) 4096 g4) 0 1))), (h6, .inl (cI, 3000, .inl (upd (upd g5 0 0) 0 1))), (h7, .inl (cI, 3000, .inl (upd (upd g6 0 0) 0 0))), (h1, .inl (cZ, 26, .inl (upd (upd (upd (upd (upd (upd (upd (upd (upd (upd (upd (upd (upd (upd (upd (upd (upd (upd (upd (upd (upd (upd (upd (upd (upd (upd g0 0 0) 1 0) 2 0) 3 0) 4 0) 5 0) 6 0) 7 0) 8 0) 9 0) 10 0) 11 0) 12 0) 13 0) 14 0) 15 0) 16 0) 17 0) 18 0) 19 0) 20 0) 21 0) 22 0) 23 0) 24 0) 25 0))), (h8, .inl (cI, 4096, .inl (upd g7 0 0)))] := hD
  refine lv_aload_n hx hb dX12_decide_31 rfl (lv_at hl 0 rfl) ?_
  refine k_cVi (As := []) (rest := []) (wc := [(h0, .inr (12, (((((f0.set 0 (.int 0)).set 119 (.int 0)).set 131 (.int 1)).set 129 (.int 0)).set 129 (.int 1)))), (h6, .inl (cI, 3000, .inl (upd (upd g5 0 0) 0 1))), (h9, .inl (cI, 3000, .inl g8)), (h10, .inl (cJ, 4, .inr (.inl g9)))]) (wr := [(h2, .inl (cI, 32768, .inl (upd (k_fill (-1) 32768 g1) 17 0))), (h3, .inl (cI, 3000, .inl (upd g2 0 (-1)))), (h4, .inl (cI, 48000, .inl (upd g3 0 0))), (h5, .inl (cI, 4096, .inl (upd (k_fill (-1) 4096 g4) 0 1))), (h7, .inl (cI, 3000, .inl (upd (upd g6 0 0) 0 0))), (h1, .inl (cZ, 26, .inl (upd (upd (upd (upd (upd (upd (upd (upd (upd (upd (upd (upd (upd (upd (upd (upd (upd (upd (upd (upd (upd (upd (upd (upd (upd (upd g0 0 0) 1 0) 2 0) 3 0) 4 0) 5 0) 6 0) 7 0) 8 0) 9 0) 10 0) 11 0) 12 0) 13 0) 14 0) 15 0) 16 0) 17 0) 18 0) 19 0) 20 0) 21 0) 22 0) 23 0) 24 0) 25 0))), (h8, .inl (cI, 4096, .inl (upd g7 0 0)))]) (w1 := [(h0, .inr (12, (((((((f0.set 0 (.int 0)).set 119 (.int 0)).set 131 (.int 1)).set 129 (.int 0)).set 129 (.int 1)).set 139 (.int 0)).set 140 (.int 0)))), (h6, .inl (cI, 3000, .inl (upd (upd g5 0 0) 0 1))), (h9, .inl (cI, 3000, .inl (upd g8 0 0))), (h10, .inl (cJ, 4, .inr (.inl (vp_updL (vp_updL (vp_updL (vp_updL g9 0 0) 1 0) 2 0) 3 0))))]) ⟨hx, hb, hml, hown, hts⟩ hN hX hAE hK hP hD hS hA [5, 7, 0, 1] [2, 3, 4, 6, 8, 9, 10] (ci := 12) rfl rfl rfl rfl (by decide +kernel) (by decide +kernel) (by decide +kernel) (c_X12_tellLeast_0 l E D cI cJ cB cZ h0 ((((((f0.set 0 (.int 0)).set 119 (.int 0)).set 131 (.int 1)).set 129 (.int 0)).set 129 (.int 1))) h9 h6 ((upd (upd g5 0 0) 0 1)) g8 h10 g9 (k_set (k_set (k_ne (by decide) (k_ne (by decide) (k_ne (by decide) e8))))) (k_ne (by decide) (k_ne (by decide) (k_ne (by decide) (k_ne (by decide) (k_ne (by decide) e15))))) (k_ne (by decide) (k_ne (by decide) (k_ne (by decide) (k_ne (by decide) (k_ne (by decide) e12))))) rfl (k_ne (by decide) (k_ne (by decide) (k_set (k_ne (by decide) (k_ne (by decide) e6))))) (k_ne (by decide) (k_ne (by decide) (k_ne (by decide) (k_ne (by decide) (k_ne (by decide) e16))))) (k_ne (by decide) (k_ne (by decide) (k_ne (by decide) (k_ne (by decide) (k_ne (by decide) e5))))) (k_ne (by decide) (k_ne (by decide) (k_ne (by decide) (k_ne (by decide) (k_ne (by decide) e17))))) (k_ne (by decide) (k_ne (by decide) (k_ne (by decide) (k_ne (by decide) (k_ne (by decide) e18)))))) (cwV 0 hts gX12_decide_X12_tellLeast rfl rfl rfl (by decide +kernel) ⟨Nat.le_of_ble_eq_true rfl, Nat.le_of_ble_eq_true rfl⟩) rfl hl.1 (Nat.le_of_ble_eq_true rfl) dX12_decide_32 ⟨Nat.le_of_ble_eq_true rfl, Nat.le_of_ble_eq_true rfl⟩ (fun H locs hP hD hS => ?_)
  have hP : va_P D vwCl [(h2, .inl (cI, 32768, .inl (upd (k_fill (-1) 32768 g1) 17 0))), (h3, .inl (cI, 3000, .inl (upd g2 0 (-1)))), (h4, .inl (cI, 48000, .inl (upd g3 0 0))), (h5, .inl (cI, 4096, .inl (upd (k_fill (-1) 4096 g4) 0 1))), (h7, .inl (cI, 3000, .inl (upd (upd g6 0 0) 0 0))), (h1, .inl (cZ, 26, .inl (upd (upd (upd (upd (upd (upd (upd (upd (upd (upd (upd (upd (upd (upd (upd (upd (upd (upd (upd (upd (upd (upd (upd (upd (upd (upd g0 0 0) 1 0) 2 0) 3 0) 4 0) 5 0) 6 0) 7 0) 8 0) 9 0) 10 0) 11 0) 12 0) 13 0) 14 0) 15 0) 16 0) 17 0) 18 0) 19 0) 20 0) 21 0) 22 0) 23 0) 24 0) 25 0))), (h8, .inl (cI, 4096, .inl (upd g7 0 0))), (h0, .inr (12, (((((((f0.set 0 (.int 0)).set 119 (.int 0)).set 131 (.int 1)).set 129 (.int 0)).set 129 (.int 1)).set 139 (.int 0)).set 140 (.int 0)))), (h6, .inl (cI, 3000, .inl (upd (upd g5 0 0) 0 1))), (h9, .inl (cI, 3000, .inl (upd g8 0 0))), (h10, .inl (cJ, 4, .inr (.inl (vp_updL (vp_updL (vp_updL (vp_updL g9 0 0) 1 0) 2 0) 3 0))))] H := hP
  have hD : va_D A [(h2, .inl (cI, 32768, .inl (upd (k_fill (-1) 32768 g1) 17 0))), (h3, .inl (cI, 3000, .inl (upd g2 0 (-1)))), (h4, .inl (cI, 48000, .inl (upd g3 0 0))), (h5, .inl (cI, 4096, .inl (upd (k_fill (-1) 4096 g4) 0 1))), (h7, .inl (cI, 3000, .inl (upd (upd g6 0 0) 0 0))), (h1, .inl (cZ, 26, .inl (upd (upd (upd (upd (upd (upd (upd (upd (upd (upd (upd (upd (upd (upd (upd (upd (upd (upd (upd (upd (upd (upd (upd (upd (upd (upd g0 0 0) 1 0) 2 0) 3 0) 4 0) 5 0) 6 0) 7 0) 8 0) 9 0) 10 0) 11 0) 12 0) 13 0) 14 0) 15 0) 16 0) 17 0) 18 0) 19 0) 20 0) 21 0) 22 0) 23 0) 24 0) 25 0))), (h8, .inl (cI, 4096, .inl (upd g7 0 0))), (h0, .inr (12, (((((((f0.set 0 (.int 0)).set 119 (.int 0)).set 131 (.int 1)).set 129 (.int 0)).set 129 (.int 1)).set 139 (.int 0)).set 140 (.int 0)))), (h6, .inl (cI, 3000, .inl (upd (upd g5 0 0) 0 1))), (h9, .inl (cI, 3000, .inl (upd g8 0 0))), (h10, .inl (cJ, 4, .inr (.inl (vp_updL (vp_updL (vp_updL (vp_updL g9 0 0) 1 0) 2 0) 3 0))))] := hD
  refine lv_if_eq (tgt := 42) hx hb dX12_decide_35 (by decide) (fun c9 => absurd c9 (by decide)) (fun _ => ?_)
  refine lv_iconst (v := 1) hx hb dX12_decide_38 (by decide) ?_
  refine lv_goto (tgt := 43) hx hb dX12_decide_39 (by decide) ?_
  have hP := hP.sub (ws' := [(h0, .inr (12, (((((((f0.set 0 (.int 0)).set 119 (.int 0)).set 131 (.int 1)).set 129 (.int 0)).set 129 (.int 1)).set 139 (.int 0)).set 140 (.int 0)))), (h1, .inl (cZ, 26, .inl (upd (upd (upd (upd (upd (upd (upd (upd (upd (upd (upd (upd (upd (upd (upd (upd (upd (upd (upd (upd (upd (upd (upd (upd (upd (upd g0 0 0) 1 0) 2 0) 3 0) 4 0) 5 0) 6 0) 7 0) 8 0) 9 0) 10 0) 11 0) 12 0) 13 0) 14 0) 15 0) 16 0) 17 0) 18 0) 19 0) 20 0) 21 0) 22 0) 23 0) 24 0) 25 0))), (h2, .inl (cI, 32768, .inl (upd (k_fill (-1) 32768 g1) 17 0))), (h3, .inl (cI, 3000, .inl (upd g2 0 (-1)))), (h4, .inl (cI, 48000, .inl (upd g3 0 0))), (h5, .inl (cI, 4096, .inl (upd (k_fill (-1) 4096 g4) 0 1))), (h6, .inl (cI, 3000, .inl (upd (upd g5 0 0) 0 1))), (h7, .inl (cI, 3000, .inl (upd (upd g6 0 0) 0 0))), (h8, .inl (cI, 4096, .inl (upd g7 0 0))), (h9, .inl (cI, 3000, .inl (upd g8 0 0))), (h10, .inl (cJ, 4, .inr (.inl (vp_updL (vp_updL (vp_updL (vp_updL g9 0 0) 1 0) 2 0) 3 0))))]) [7, 5, 0, 1, 2, 3, 8, 4, 6, 9, 10] rfl
  have hD := hD.sub (ws' := [(h0, .inr (12, (((((((f0.set 0 (.int 0)).set 119 (.int 0)).set 131 (.int 1)).set 129 (.int 0)).set 129 (.int 1)).set 139 (.int 0)).set 140 (.int 0)))), (h1, .inl (cZ, 26, .inl (upd (upd (upd (upd (upd (upd (upd (upd (upd (upd (upd (upd (upd (upd (upd (upd (upd (upd (upd (upd (upd (upd (upd (upd (upd (upd g0 0 0) 1 0) 2 0) 3 0) 4 0) 5 0) 6 0) 7 0) 8 0) 9 0) 10 0) 11 0) 12 0) 13 0) 14 0) 15 0) 16 0) 17 0) 18 0) 19 0) 20 0) 21 0) 22 0) 23 0) 24 0) 25 0))), (h2, .inl (cI, 32768, .inl (upd (k_fill (-1) 32768 g1) 17 0))), (h3, .inl (cI, 3000, .inl (upd g2 0 (-1)))), (h4, .inl (cI, 48000, .inl (upd g3 0 0))), (h5, .inl (cI, 4096, .inl (upd (k_fill (-1) 4096 g4) 0 1))), (h6, .inl (cI, 3000, .inl (upd (upd g5 0 0) 0 1))), (h7, .inl (cI, 3000, .inl (upd (upd g6 0 0) 0 0))), (h8, .inl (cI, 4096, .inl (upd g7 0 0))), (h9, .inl (cI, 3000, .inl (upd g8 0 0))), (h10, .inl (cJ, 4, .inr (.inl (vp_updL (vp_updL (vp_updL (vp_updL g9 0 0) 1 0) 2 0) 3 0))))]) [7, 5, 0, 1, 2, 3, 8, 4, 6, 9, 10] (by decide +kernel) rfl
  exact W.iret (v := 1) hx hb hr (fun t ht hW => ⟨⟨1, (), rfl, rfl, kB_mk ht hW hP hK hD⟩, hS.F ht⟩) hS.2.2 dX12_decide_43
