abbrev cX0_howMany : ByteArray := prog_2_method_17_code
def yX0_howMany : MethodName := ⟨RX0, "howMany", "(I)I"⟩
abbrev cX0_countAll : ByteArray := prog_2_method_19_code
def yX0_countAll : MethodName := ⟨RX0, "countAll", "(I)I"⟩
abbrev cX0_anyModel : ByteArray := prog_2_method_20_code
def yX0_anyModel : MethodName := ⟨RX0, "anyModel", "(I)Z"⟩
abbrev cX0_tellCore : ByteArray := prog_2_method_21_code
def yX0_tellCore : MethodName := ⟨RX0, "tellCore", "(I)I"⟩
abbrev cX0_toldInCore : ByteArray := prog_2_method_22_code
def yX0_toldInCore : MethodName := ⟨RX0, "toldInCore", "(I)I"⟩
abbrev cX0_areAlike : ByteArray := prog_2_method_23_code
def yX0_areAlike : MethodName := ⟨RX0, "areAlike", "(II)Z"⟩
abbrev cX5_tell : ByteArray := prog_7_method_5_code
def yX5_tell : MethodName := ⟨RX5, "tell", "(I)I"⟩
abbrev cX5_refine : ByteArray := prog_7_method_6_code
def yX5_refine : MethodName := ⟨RX5, "refine", "(I)I"⟩
abbrev cX5_likeOf : ByteArray := prog_7_method_7_code
def yX5_likeOf : MethodName := ⟨RX5, "likeOf", "(I)I"⟩
abbrev cX5_sortOf : ByteArray := prog_7_method_8_code
def yX5_sortOf : MethodName := ⟨RX5, "sortOf", "(I)I"⟩
abbrev cX5_areLike : ByteArray := prog_7_method_9_code
def yX5_areLike : MethodName := ⟨RX5, "areLike", "(II)Z"⟩
abbrev cX5_giveNumbers : ByteArray := prog_7_method_10_code
def yX5_giveNumbers : MethodName := ⟨RX5, "giveNumbers", "(I)V"⟩
abbrev cX5_addState : ByteArray := prog_7_method_11_code
def yX5_addState : MethodName := ⟨RX5, "addState", "(I)I"⟩
abbrev cX11_many : ByteArray := prog_1_method_33_code
def yX11_many : MethodName := ⟨RX11, "many", "()I"⟩
abbrev cX11_core : ByteArray := prog_1_method_34_code
def yX11_core : MethodName := ⟨RX11, "core", "()I"⟩
abbrev cX11_inCore : ByteArray := prog_1_method_35_code
def yX11_inCore : MethodName := ⟨RX11, "inCore", "(I)I"⟩
abbrev cX11_alike : ByteArray := prog_1_method_36_code
def yX11_alike : MethodName := ⟨RX11, "alike", "(II)I"⟩
abbrev cX11_places : ByteArray := prog_1_method_37_code
def yX11_places : MethodName := ⟨RX11, "places", "()I"⟩
abbrev cX11_own : ByteArray := prog_1_method_38_code
def yX11_own : MethodName := ⟨RX11, "own", "(I)I"⟩
abbrev cX12_firstNews : ByteArray := prog_14_method_145_code
def yX12_firstNews : MethodName := ⟨RX12, "firstNews", "(I)I"⟩
abbrev cX12_findCounts : ByteArray := prog_14_method_146_code
def yX12_findCounts : MethodName := ⟨RX12, "findCounts", "()V"⟩
abbrev cX12_many : ByteArray := prog_14_method_147_code
def yX12_many : MethodName := ⟨RX12, "many", "()I"⟩
abbrev cX12_tries : ByteArray := prog_14_method_148_code
def yX12_tries : MethodName := ⟨RX12, "tries", "()I"⟩
abbrev cX12_leaveNoneOut : ByteArray := prog_14_method_149_code
def yX12_leaveNoneOut : MethodName := ⟨RX12, "leaveNoneOut", "()V"⟩
abbrev cX12_core : ByteArray := prog_14_method_150_code
def yX12_core : MethodName := ⟨RX12, "core", "()I"⟩
abbrev cX12_inCore : ByteArray := prog_14_method_151_code
def yX12_inCore : MethodName := ⟨RX12, "inCore", "(I)I"⟩
abbrev cX12_alike : ByteArray := prog_14_method_152_code
def yX12_alike : MethodName := ⟨RX12, "alike", "(II)I"⟩
abbrev cX12_places : ByteArray := prog_14_method_153_code
def yX12_places : MethodName := ⟨RX12, "places", "()I"⟩
abbrev cX12_sortOut : ByteArray := prog_14_method_154_code
def yX12_sortOut : MethodName := ⟨RX12, "sortOut", "(Z)I"⟩
abbrev cX12_isOneSort : ByteArray := prog_14_method_155_code
def yX12_isOneSort : MethodName := ⟨RX12, "isOneSort", "(IIZ)Z"⟩
abbrev cX12_own : ByteArray := prog_14_method_156_code
def yX12_own : MethodName := ⟨RX12, "own", "(I)I"⟩
def wsX0_gainFrom : List Cond := .code yX0_gainFrom cX0_gainFrom 2 (some .long) :: ([.fieldLink RX0 28 "IntegerHouse$Answers" "gains" "[J", .constantLong RX0 119 (-9223372036854775808)] ++ wsX00)
def wsX0_countAll_r1 : List Cond := [Cond.fieldLink RX0 28 "IntegerHouse$Answers" "gains" "[J", Cond.fieldLink RX0 22 "IntegerHouse$Answers" "ends" "[I", Cond.fieldLink RX0 48 "IntegerHouse$Answers" "places" "LIntegerHouse$Places;", Cond.fieldLink RX0 31 "IntegerHouse$Answers" "gained" "[J", Cond.constantLong RX0 163 (1000000000), Cond.methodLink RX0 165 Lib.MathLoose.min_long.x, Cond.static Lib.MathLoose.min_long.x, Cond.initialized "java/lang/Math", Cond.code Lib.MathLoose.min_long.x Lib.MathLoose.min_long.code 4 (some .long), Cond.methodLink RX0 75 Lib.Math.min.name, Cond.static Lib.Math.min.name, Cond.code Lib.Math.min.name Lib.Math.min.code 2 (some .int), Cond.methodLink RX0 146 arraycopyName, Cond.native arraycopyName, Cond.static arraycopyName, Cond.initialized "java/lang/System", Cond.methodLink RX0 158 yJ6_bitCount_0f7a4, Cond.static yJ6_bitCount_0f7a4, Cond.initialized RJ6, Cond.code yJ6_bitCount_0f7a4 cJ6_bitCount_0f7a4 1 (some .int), Cond.constant RJ6 265 (1431655765), Cond.constant RJ6 266 (858993459), Cond.constant RJ6 267 (252645135), Cond.methodLink RX0 95 yX6_behind]
def wsX0_countAll_r2 : List Cond := [Cond.instanceMethod yX6_behind, Cond.selects RX6 yX6_behind yX6_behind, Cond.initialized RX6, Cond.code yX6_behind cX6_behind 4 (some .int), Cond.fieldLink RX6 35 "IntegerHouse$Places" "next" "[I", Cond.methodLink RX0 138 yX0_gainFrom, Cond.instanceMethod yX0_gainFrom, Cond.selects RX0 yX0_gainFrom yX0_gainFrom, Cond.initialized RX0, Cond.code yX0_gainFrom cX0_gainFrom 2 (some .long), Cond.constantLong RX0 119 (-9223372036854775808)]
def wsX0_countAll : List Cond := .code yX0_countAll cX0_countAll 8 (some .int) :: ((wsX0_countAll_r1 ++ wsX0_countAll_r2) ++ wsX00 ++ wsX60)
def wsX0_howMany_r1 : List Cond := [Cond.fieldLink RX0 18 "IntegerHouse$Answers" "far" "[I", Cond.fieldLink RX0 48 "IntegerHouse$Answers" "places" "LIntegerHouse$Places;", Cond.methodLink RX0 82 yX0_findEnds, Cond.instanceMethod yX0_findEnds, Cond.selects RX0 yX0_findEnds yX0_findEnds, Cond.initialized RX0, Cond.code yX0_findEnds cX0_findEnds 5 (some .int), Cond.methodLink RX0 75 Lib.Math.min.name, Cond.static Lib.Math.min.name, Cond.initialized "java/lang/Math", Cond.code Lib.Math.min.name Lib.Math.min.code 2 (some .int), Cond.fieldLink RX0 22 "IntegerHouse$Answers" "ends" "[I", Cond.methodLink RX0 78 yX6_acceptedBy, Cond.instanceMethod yX6_acceptedBy, Cond.selects RX6 yX6_acceptedBy yX6_acceptedBy, Cond.initialized RX6, Cond.code yX6_acceptedBy cX6_acceptedBy 6 (some .int), Cond.fieldLink RX6 56 "IntegerHouse$Places" "letters" "I", Cond.methodLink RX6 123 yX6_accepts, Cond.instanceMethod yX6_accepts, Cond.selects RX6 yX6_accepts yX6_accepts, Cond.code yX6_accepts cX6_accepts 7 (some .boolean), Cond.fieldLink RX6 38 "IntegerHouse$Places" "so" "[I", Cond.methodLink RX0 95 yX6_behind]
def wsX0_howMany_r2 : List Cond := [Cond.instanceMethod yX6_behind, Cond.selects RX6 yX6_behind yX6_behind, Cond.code yX6_behind cX6_behind 4 (some .int), Cond.fieldLink RX6 35 "IntegerHouse$Places" "next" "[I", Cond.methodLink RX0 112 yX0_endsOf, Cond.instanceMethod yX0_endsOf, Cond.selects RX0 yX0_endsOf yX0_endsOf, Cond.code yX0_endsOf cX0_endsOf 2 (some .int), Cond.methodLink RX0 152 yX0_mark, Cond.instanceMethod yX0_mark, Cond.selects RX0 yX0_mark yX0_mark, Cond.code yX0_mark cX0_mark 7 (some .boolean), Cond.methodLink RX0 98 yX0_farFrom, Cond.instanceMethod yX0_farFrom, Cond.selects RX0 yX0_farFrom yX0_farFrom, Cond.code yX0_farFrom cX0_farFrom 2 (some .int), Cond.methodLink RX0 155 yX0_countAll, Cond.instanceMethod yX0_countAll, Cond.selects RX0 yX0_countAll yX0_countAll, Cond.code yX0_countAll cX0_countAll 8 (some .int), Cond.fieldLink RX0 28 "IntegerHouse$Answers" "gains" "[J", Cond.fieldLink RX0 31 "IntegerHouse$Answers" "gained" "[J", Cond.constantLong RX0 163 (1000000000), Cond.methodLink RX0 165 Lib.MathLoose.min_long.x]
def wsX0_howMany_r3 : List Cond := [Cond.static Lib.MathLoose.min_long.x, Cond.code Lib.MathLoose.min_long.x Lib.MathLoose.min_long.code 4 (some .long), Cond.methodLink RX0 146 arraycopyName, Cond.native arraycopyName, Cond.static arraycopyName, Cond.initialized "java/lang/System", Cond.methodLink RX0 158 yJ6_bitCount_0f7a4, Cond.static yJ6_bitCount_0f7a4, Cond.initialized RJ6, Cond.code yJ6_bitCount_0f7a4 cJ6_bitCount_0f7a4 1 (some .int), Cond.constant RJ6 265 (1431655765), Cond.constant RJ6 266 (858993459), Cond.constant RJ6 267 (252645135), Cond.methodLink RX0 138 yX0_gainFrom, Cond.instanceMethod yX0_gainFrom, Cond.selects RX0 yX0_gainFrom yX0_gainFrom, Cond.code yX0_gainFrom cX0_gainFrom 2 (some .long), Cond.constantLong RX0 119 (-9223372036854775808)]
def wsX0_howMany : List Cond := .code yX0_howMany cX0_howMany 6 (some .int) :: ((wsX0_howMany_r1 ++ (wsX0_howMany_r2 ++ wsX0_howMany_r3)) ++ wsX00 ++ wsX60)
def wsX0_anyModel : List Cond := .code yX0_anyModel cX0_anyModel 3 (some .boolean) :: ([.fieldLink RX0 48 "IntegerHouse$Answers" "places" "LIntegerHouse$Places;", .methodLink RX0 78 yX6_acceptedBy, .instanceMethod yX6_acceptedBy, .selects RX6 yX6_acceptedBy yX6_acceptedBy, .initialized RX6, .code yX6_acceptedBy cX6_acceptedBy 6 (some .int), .fieldLink RX6 56 "IntegerHouse$Places" "letters" "I", .methodLink RX6 123 yX6_accepts, .instanceMethod yX6_accepts, .selects RX6 yX6_accepts yX6_accepts, .code yX6_accepts cX6_accepts 7 (some .boolean), .fieldLink RX6 38 "IntegerHouse$Places" "so" "[I"] ++ wsX00 ++ wsX60)
def wsX0_tellCore : List Cond := .code yX0_tellCore cX0_tellCore 4 (some .int) :: ([.fieldLink RX0 167 "IntegerHouse$Answers" "coreSize" "I", .fieldLink RX0 34 "IntegerHouse$Answers" "coreTold" "[I", .methodLink RX0 170 yX0_anyModel, .instanceMethod yX0_anyModel, .selects RX0 yX0_anyModel yX0_anyModel, .initialized RX0, .code yX0_anyModel cX0_anyModel 3 (some .boolean), .fieldLink RX0 48 "IntegerHouse$Answers" "places" "LIntegerHouse$Places;", .methodLink RX0 78 yX6_acceptedBy, .instanceMethod yX6_acceptedBy, .selects RX6 yX6_acceptedBy yX6_acceptedBy, .initialized RX6, .code yX6_acceptedBy cX6_acceptedBy 6 (some .int), .fieldLink RX6 56 "IntegerHouse$Places" "letters" "I", .methodLink RX6 123 yX6_accepts, .instanceMethod yX6_accepts, .selects RX6 yX6_accepts yX6_accepts, .code yX6_accepts cX6_accepts 7 (some .boolean), .fieldLink RX6 38 "IntegerHouse$Places" "so" "[I"] ++ wsX00 ++ wsX60)
def wsX0_toldInCore : List Cond := .code yX0_toldInCore cX0_toldInCore 2 (some .int) :: ([.fieldLink RX0 167 "IntegerHouse$Answers" "coreSize" "I", .fieldLink RX0 34 "IntegerHouse$Answers" "coreTold" "[I"] ++ wsX00)
def wsX11_many_r1 : List Cond := [Cond.fieldLink RX11 16 "IntegerHouse" "disk" "LIntegerHouse$Disk;", Cond.fieldLink RX11 55 "IntegerHouse" "places" "LIntegerHouse$Places;", Cond.fieldLink RX11 23 "IntegerHouse" "house" "LIntegerHouse$House;", Cond.fieldLink RX11 64 "IntegerHouse" "answers" "LIntegerHouse$Answers;", Cond.methodLink RX11 298 yX6_judge, Cond.instanceMethod yX6_judge, Cond.selects RX6 yX6_judge yX6_judge, Cond.initialized RX6, Cond.code yX6_judge cX6_judge 4 (some .boolean), Cond.fieldLink RX6 52 "IntegerHouse$Places" "size" "I", Cond.fieldLink RX6 56 "IntegerHouse$Places" "letters" "I", Cond.fieldLink RX6 38 "IntegerHouse$Places" "so" "[I", Cond.methodLink RX6 48 yX6_explore, Cond.instanceMethod yX6_explore, Cond.selects RX6 yX6_explore yX6_explore, Cond.code yX6_explore cX6_explore 5 (some .boolean), Cond.fieldLink RX6 41 "IntegerHouse$Places" "table" "[I", Cond.fieldLink RX6 76 "IntegerHouse$Places" "atoms" "I", Cond.fieldLink RX6 44 "IntegerHouse$Places" "house" "LIntegerHouse$House;", Cond.fieldLink RX6 11 "IntegerHouse$Places" "work" "[I", Cond.fieldLink RX6 27 "IntegerHouse$Places" "fresh" "[I", Cond.fieldLink RX6 20 "IntegerHouse$Places" "isLine" "[Z", Cond.fieldLink RX6 35 "IntegerHouse$Places" "next" "[I", Cond.methodLink RX6 67 yX6_gather]
def wsX11_many_r2 : List Cond := [Cond.instanceMethod yX6_gather, Cond.selects RX6 yX6_gather yX6_gather, Cond.code yX6_gather cX6_gather 5 (some .boolean), Cond.fieldLink RX6 90 "IntegerHouse$Places" "needed" "I", Cond.methodLink RX6 96 Lib.Math.min.name, Cond.static Lib.Math.min.name, Cond.initialized "java/lang/Math", Cond.code Lib.Math.min.name Lib.Math.min.code 2 (some .int), Cond.methodLink RX6 101 Lib.Math.max.name, Cond.static Lib.Math.max.name, Cond.code Lib.Math.max.name Lib.Math.max.code 2 (some .int), Cond.methodLink RX6 104 yX2_fact, Cond.instanceMethod yX2_fact, Cond.selects RX2 yX2_fact yX2_fact, Cond.initialized RX2, Cond.code yX2_fact cX2_fact 3 (some .int), Cond.fieldLink RX2 28 "IntegerHouse$House" "facts" "[I", Cond.methodLink RX6 107 yX2_atomOf, Cond.instanceMethod yX2_atomOf, Cond.selects RX2 yX2_atomOf yX2_atomOf, Cond.code yX2_atomOf cX2_atomOf 3 (some .int), Cond.fieldLink RX2 31 "IntegerHouse$House" "atoms" "[I", Cond.methodLink RX6 110 yX6_addWork, Cond.instanceMethod yX6_addWork]
def wsX11_many_r3 : List Cond := [Cond.selects RX6 yX6_addWork yX6_addWork, Cond.code yX6_addWork cX6_addWork 5 (some .boolean), Cond.fieldLink RX6 17 "IntegerHouse$Places" "workOf" "[I", Cond.fieldLink RX6 24 "IntegerHouse$Places" "sums" "[I", Cond.methodLink RX6 79 yX2_pooled, Cond.instanceMethod yX2_pooled, Cond.selects RX2 yX2_pooled yX2_pooled, Cond.code yX2_pooled cX2_pooled 3 (some .int), Cond.fieldLink RX2 34 "IntegerHouse$House" "pool" "[I", Cond.methodLink RX6 70 yJ7_fill_53178, Cond.static yJ7_fill_53178, Cond.initialized RJ7, Cond.code yJ7_fill_53178 cJ7_fill_53178 4 none, Cond.methodLink RX6 82 yX6_locate, Cond.instanceMethod yX6_locate, Cond.selects RX6 yX6_locate yX6_locate, Cond.code yX6_locate cX6_locate 5 (some .int), Cond.constant RX6 116 (739982445), Cond.methodLink RX6 117 yX6_addPlace, Cond.instanceMethod yX6_addPlace, Cond.selects RX6 yX6_addPlace yX6_addPlace, Cond.code yX6_addPlace cX6_addPlace 4 (some .int), Cond.fieldLink RX6 31 "IntegerHouse$Places" "stands" "[I", Cond.methodLink RX6 120 yX6_isFresh]
def wsX11_many_r4 : List Cond := [Cond.instanceMethod yX6_isFresh, Cond.selects RX6 yX6_isFresh yX6_isFresh, Cond.code yX6_isFresh cX6_isFresh 4 (some .boolean), Cond.methodLink RX6 86 yX6_halve, Cond.instanceMethod yX6_halve, Cond.selects RX6 yX6_halve yX6_halve, Cond.code yX6_halve cX6_halve 7 none, Cond.methodLink RX6 113 yX6_halved, Cond.static yX6_halved, Cond.code yX6_halved cX6_halved 5 (some .int), Cond.methodLink RX6 59 yX6_atomsAt, Cond.instanceMethod yX6_atomsAt, Cond.selects RX6 yX6_atomsAt yX6_atomsAt, Cond.code yX6_atomsAt cX6_atomsAt 10 (some .int), Cond.methodLink RX6 63 yX6_soOf, Cond.instanceMethod yX6_soOf, Cond.selects RX6 yX6_soOf yX6_soOf, Cond.code yX6_soOf cX6_soOf 4 (some .int), Cond.methodLink RX6 127 yX6_isSo, Cond.instanceMethod yX6_isSo, Cond.selects RX6 yX6_isSo yX6_isSo, Cond.code yX6_isSo cX6_isSo 10 (some .boolean), Cond.methodLink RX6 136 yX6_joined, Cond.static yX6_joined]
def wsX11_many_r5 : List Cond := [Cond.code yX6_joined cX6_joined 9 (some .long), Cond.methodLink RX11 339 yX0_howMany, Cond.instanceMethod yX0_howMany, Cond.selects RX0 yX0_howMany yX0_howMany, Cond.initialized RX0, Cond.code yX0_howMany cX0_howMany 6 (some .int), Cond.fieldLink RX0 18 "IntegerHouse$Answers" "far" "[I", Cond.fieldLink RX0 48 "IntegerHouse$Answers" "places" "LIntegerHouse$Places;", Cond.methodLink RX0 82 yX0_findEnds, Cond.instanceMethod yX0_findEnds, Cond.selects RX0 yX0_findEnds yX0_findEnds, Cond.code yX0_findEnds cX0_findEnds 5 (some .int), Cond.methodLink RX0 75 Lib.Math.min.name, Cond.fieldLink RX0 22 "IntegerHouse$Answers" "ends" "[I", Cond.methodLink RX0 78 yX6_acceptedBy, Cond.instanceMethod yX6_acceptedBy, Cond.selects RX6 yX6_acceptedBy yX6_acceptedBy, Cond.code yX6_acceptedBy cX6_acceptedBy 6 (some .int), Cond.methodLink RX6 123 yX6_accepts, Cond.instanceMethod yX6_accepts, Cond.selects RX6 yX6_accepts yX6_accepts, Cond.code yX6_accepts cX6_accepts 7 (some .boolean), Cond.methodLink RX0 95 yX6_behind, Cond.instanceMethod yX6_behind]
def wsX11_many_r6 : List Cond := [Cond.selects RX6 yX6_behind yX6_behind, Cond.code yX6_behind cX6_behind 4 (some .int), Cond.methodLink RX0 112 yX0_endsOf, Cond.instanceMethod yX0_endsOf, Cond.selects RX0 yX0_endsOf yX0_endsOf, Cond.code yX0_endsOf cX0_endsOf 2 (some .int), Cond.methodLink RX0 152 yX0_mark, Cond.instanceMethod yX0_mark, Cond.selects RX0 yX0_mark yX0_mark, Cond.code yX0_mark cX0_mark 7 (some .boolean), Cond.methodLink RX0 98 yX0_farFrom, Cond.instanceMethod yX0_farFrom, Cond.selects RX0 yX0_farFrom yX0_farFrom, Cond.code yX0_farFrom cX0_farFrom 2 (some .int), Cond.methodLink RX0 155 yX0_countAll, Cond.instanceMethod yX0_countAll, Cond.selects RX0 yX0_countAll yX0_countAll, Cond.code yX0_countAll cX0_countAll 8 (some .int), Cond.fieldLink RX0 28 "IntegerHouse$Answers" "gains" "[J", Cond.fieldLink RX0 31 "IntegerHouse$Answers" "gained" "[J", Cond.constantLong RX0 163 (1000000000), Cond.methodLink RX0 165 Lib.MathLoose.min_long.x, Cond.static Lib.MathLoose.min_long.x, Cond.code Lib.MathLoose.min_long.x Lib.MathLoose.min_long.code 4 (some .long)]
def wsX11_many_r7 : List Cond := [Cond.methodLink RX0 146 arraycopyName, Cond.native arraycopyName, Cond.static arraycopyName, Cond.initialized "java/lang/System", Cond.methodLink RX0 158 yJ6_bitCount_0f7a4, Cond.static yJ6_bitCount_0f7a4, Cond.initialized RJ6, Cond.code yJ6_bitCount_0f7a4 cJ6_bitCount_0f7a4 1 (some .int), Cond.constant RJ6 265 (1431655765), Cond.constant RJ6 266 (858993459), Cond.constant RJ6 267 (252645135), Cond.methodLink RX0 138 yX0_gainFrom, Cond.instanceMethod yX0_gainFrom, Cond.selects RX0 yX0_gainFrom yX0_gainFrom, Cond.code yX0_gainFrom cX0_gainFrom 2 (some .long), Cond.constantLong RX0 119 (-9223372036854775808)]
def wsX11_many : List Cond := .code yX11_many cX11_many 1 (some .int) :: ((wsX11_many_r1 ++ (wsX11_many_r2 ++ (wsX11_many_r3 ++ (wsX11_many_r4 ++ (wsX11_many_r5 ++ (wsX11_many_r6 ++ wsX11_many_r7)))))) ++ wsX110 ++ wsX10 ++ wsX20 ++ wsX60 ++ wsX00)
def wsX11_core_r1 : List Cond := [Cond.fieldLink RX11 16 "IntegerHouse" "disk" "LIntegerHouse$Disk;", Cond.fieldLink RX11 55 "IntegerHouse" "places" "LIntegerHouse$Places;", Cond.fieldLink RX11 23 "IntegerHouse" "house" "LIntegerHouse$House;", Cond.fieldLink RX11 64 "IntegerHouse" "answers" "LIntegerHouse$Answers;", Cond.methodLink RX11 298 yX6_judge, Cond.instanceMethod yX6_judge, Cond.selects RX6 yX6_judge yX6_judge, Cond.initialized RX6, Cond.code yX6_judge cX6_judge 4 (some .boolean), Cond.fieldLink RX6 52 "IntegerHouse$Places" "size" "I", Cond.fieldLink RX6 56 "IntegerHouse$Places" "letters" "I", Cond.fieldLink RX6 38 "IntegerHouse$Places" "so" "[I", Cond.methodLink RX6 48 yX6_explore, Cond.instanceMethod yX6_explore, Cond.selects RX6 yX6_explore yX6_explore, Cond.code yX6_explore cX6_explore 5 (some .boolean), Cond.fieldLink RX6 41 "IntegerHouse$Places" "table" "[I", Cond.fieldLink RX6 76 "IntegerHouse$Places" "atoms" "I", Cond.fieldLink RX6 44 "IntegerHouse$Places" "house" "LIntegerHouse$House;", Cond.fieldLink RX6 11 "IntegerHouse$Places" "work" "[I", Cond.fieldLink RX6 27 "IntegerHouse$Places" "fresh" "[I", Cond.fieldLink RX6 20 "IntegerHouse$Places" "isLine" "[Z", Cond.fieldLink RX6 35 "IntegerHouse$Places" "next" "[I", Cond.methodLink RX6 67 yX6_gather]
def wsX11_core_r2 : List Cond := [Cond.instanceMethod yX6_gather, Cond.selects RX6 yX6_gather yX6_gather, Cond.code yX6_gather cX6_gather 5 (some .boolean), Cond.fieldLink RX6 90 "IntegerHouse$Places" "needed" "I", Cond.methodLink RX6 96 Lib.Math.min.name, Cond.static Lib.Math.min.name, Cond.initialized "java/lang/Math", Cond.code Lib.Math.min.name Lib.Math.min.code 2 (some .int), Cond.methodLink RX6 101 Lib.Math.max.name, Cond.static Lib.Math.max.name, Cond.code Lib.Math.max.name Lib.Math.max.code 2 (some .int), Cond.methodLink RX6 104 yX2_fact, Cond.instanceMethod yX2_fact, Cond.selects RX2 yX2_fact yX2_fact, Cond.initialized RX2, Cond.code yX2_fact cX2_fact 3 (some .int), Cond.fieldLink RX2 28 "IntegerHouse$House" "facts" "[I", Cond.methodLink RX6 107 yX2_atomOf, Cond.instanceMethod yX2_atomOf, Cond.selects RX2 yX2_atomOf yX2_atomOf, Cond.code yX2_atomOf cX2_atomOf 3 (some .int), Cond.fieldLink RX2 31 "IntegerHouse$House" "atoms" "[I", Cond.methodLink RX6 110 yX6_addWork, Cond.instanceMethod yX6_addWork]
def wsX11_core_r3 : List Cond := [Cond.selects RX6 yX6_addWork yX6_addWork, Cond.code yX6_addWork cX6_addWork 5 (some .boolean), Cond.fieldLink RX6 17 "IntegerHouse$Places" "workOf" "[I", Cond.fieldLink RX6 24 "IntegerHouse$Places" "sums" "[I", Cond.methodLink RX6 79 yX2_pooled, Cond.instanceMethod yX2_pooled, Cond.selects RX2 yX2_pooled yX2_pooled, Cond.code yX2_pooled cX2_pooled 3 (some .int), Cond.fieldLink RX2 34 "IntegerHouse$House" "pool" "[I", Cond.methodLink RX6 70 yJ7_fill_53178, Cond.static yJ7_fill_53178, Cond.initialized RJ7, Cond.code yJ7_fill_53178 cJ7_fill_53178 4 none, Cond.methodLink RX6 82 yX6_locate, Cond.instanceMethod yX6_locate, Cond.selects RX6 yX6_locate yX6_locate, Cond.code yX6_locate cX6_locate 5 (some .int), Cond.constant RX6 116 (739982445), Cond.methodLink RX6 117 yX6_addPlace, Cond.instanceMethod yX6_addPlace, Cond.selects RX6 yX6_addPlace yX6_addPlace, Cond.code yX6_addPlace cX6_addPlace 4 (some .int), Cond.fieldLink RX6 31 "IntegerHouse$Places" "stands" "[I", Cond.methodLink RX6 120 yX6_isFresh]
def wsX11_core_r4 : List Cond := [Cond.instanceMethod yX6_isFresh, Cond.selects RX6 yX6_isFresh yX6_isFresh, Cond.code yX6_isFresh cX6_isFresh 4 (some .boolean), Cond.methodLink RX6 86 yX6_halve, Cond.instanceMethod yX6_halve, Cond.selects RX6 yX6_halve yX6_halve, Cond.code yX6_halve cX6_halve 7 none, Cond.methodLink RX6 113 yX6_halved, Cond.static yX6_halved, Cond.code yX6_halved cX6_halved 5 (some .int), Cond.methodLink RX6 59 yX6_atomsAt, Cond.instanceMethod yX6_atomsAt, Cond.selects RX6 yX6_atomsAt yX6_atomsAt, Cond.code yX6_atomsAt cX6_atomsAt 10 (some .int), Cond.methodLink RX6 63 yX6_soOf, Cond.instanceMethod yX6_soOf, Cond.selects RX6 yX6_soOf yX6_soOf, Cond.code yX6_soOf cX6_soOf 4 (some .int), Cond.methodLink RX6 127 yX6_isSo, Cond.instanceMethod yX6_isSo, Cond.selects RX6 yX6_isSo yX6_isSo, Cond.code yX6_isSo cX6_isSo 10 (some .boolean), Cond.methodLink RX6 136 yX6_joined, Cond.static yX6_joined]
def wsX11_core_r5 : List Cond := [Cond.code yX6_joined cX6_joined 9 (some .long), Cond.methodLink RX11 342 yX0_tellCore, Cond.instanceMethod yX0_tellCore, Cond.selects RX0 yX0_tellCore yX0_tellCore, Cond.initialized RX0, Cond.code yX0_tellCore cX0_tellCore 4 (some .int), Cond.fieldLink RX0 167 "IntegerHouse$Answers" "coreSize" "I", Cond.fieldLink RX0 34 "IntegerHouse$Answers" "coreTold" "[I", Cond.methodLink RX0 170 yX0_anyModel, Cond.instanceMethod yX0_anyModel, Cond.selects RX0 yX0_anyModel yX0_anyModel, Cond.code yX0_anyModel cX0_anyModel 3 (some .boolean), Cond.fieldLink RX0 48 "IntegerHouse$Answers" "places" "LIntegerHouse$Places;", Cond.methodLink RX0 78 yX6_acceptedBy, Cond.instanceMethod yX6_acceptedBy, Cond.selects RX6 yX6_acceptedBy yX6_acceptedBy, Cond.code yX6_acceptedBy cX6_acceptedBy 6 (some .int), Cond.methodLink RX6 123 yX6_accepts, Cond.instanceMethod yX6_accepts, Cond.selects RX6 yX6_accepts yX6_accepts, Cond.code yX6_accepts cX6_accepts 7 (some .boolean)]
def wsX11_core : List Cond := .code yX11_core cX11_core 1 (some .int) :: ((wsX11_core_r1 ++ (wsX11_core_r2 ++ (wsX11_core_r3 ++ (wsX11_core_r4 ++ wsX11_core_r5)))) ++ wsX110 ++ wsX10 ++ wsX20 ++ wsX60 ++ wsX00)
def wsX11_inCore : List Cond := .code yX11_inCore cX11_inCore 2 (some .int) :: ([.fieldLink RX11 64 "IntegerHouse" "answers" "LIntegerHouse$Answers;", .methodLink RX11 345 yX0_toldInCore, .instanceMethod yX0_toldInCore, .selects RX0 yX0_toldInCore yX0_toldInCore, .initialized RX0, .code yX0_toldInCore cX0_toldInCore 2 (some .int), .fieldLink RX0 167 "IntegerHouse$Answers" "coreSize" "I", .fieldLink RX0 34 "IntegerHouse$Answers" "coreTold" "[I"] ++ wsX110 ++ wsX00)
def wsX11_alike_r1 : List Cond := [Cond.fieldLink RX11 16 "IntegerHouse" "disk" "LIntegerHouse$Disk;", Cond.fieldLink RX11 23 "IntegerHouse" "house" "LIntegerHouse$House;", Cond.fieldLink RX11 55 "IntegerHouse" "places" "LIntegerHouse$Places;", Cond.fieldLink RX11 64 "IntegerHouse" "answers" "LIntegerHouse$Answers;", Cond.methodLink RX11 176 yX2_isClaim, Cond.instanceMethod yX2_isClaim, Cond.selects RX2 yX2_isClaim yX2_isClaim, Cond.initialized RX2, Cond.code yX2_isClaim cX2_isClaim 2 (some .boolean), Cond.fieldLink RX2 55 "IntegerHouse$House" "claims" "I", Cond.methodLink RX11 298 yX6_judge, Cond.instanceMethod yX6_judge, Cond.selects RX6 yX6_judge yX6_judge, Cond.initialized RX6, Cond.code yX6_judge cX6_judge 4 (some .boolean), Cond.fieldLink RX6 52 "IntegerHouse$Places" "size" "I", Cond.fieldLink RX6 56 "IntegerHouse$Places" "letters" "I", Cond.fieldLink RX6 38 "IntegerHouse$Places" "so" "[I", Cond.methodLink RX6 48 yX6_explore, Cond.instanceMethod yX6_explore, Cond.selects RX6 yX6_explore yX6_explore, Cond.code yX6_explore cX6_explore 5 (some .boolean), Cond.fieldLink RX6 41 "IntegerHouse$Places" "table" "[I", Cond.fieldLink RX6 76 "IntegerHouse$Places" "atoms" "I"]
def wsX11_alike_r2 : List Cond := [Cond.fieldLink RX6 44 "IntegerHouse$Places" "house" "LIntegerHouse$House;", Cond.fieldLink RX6 11 "IntegerHouse$Places" "work" "[I", Cond.fieldLink RX6 27 "IntegerHouse$Places" "fresh" "[I", Cond.fieldLink RX6 20 "IntegerHouse$Places" "isLine" "[Z", Cond.fieldLink RX6 35 "IntegerHouse$Places" "next" "[I", Cond.methodLink RX6 67 yX6_gather, Cond.instanceMethod yX6_gather, Cond.selects RX6 yX6_gather yX6_gather, Cond.code yX6_gather cX6_gather 5 (some .boolean), Cond.fieldLink RX6 90 "IntegerHouse$Places" "needed" "I", Cond.methodLink RX6 96 Lib.Math.min.name, Cond.static Lib.Math.min.name, Cond.initialized "java/lang/Math", Cond.code Lib.Math.min.name Lib.Math.min.code 2 (some .int), Cond.methodLink RX6 101 Lib.Math.max.name, Cond.static Lib.Math.max.name, Cond.code Lib.Math.max.name Lib.Math.max.code 2 (some .int), Cond.methodLink RX6 104 yX2_fact, Cond.instanceMethod yX2_fact, Cond.selects RX2 yX2_fact yX2_fact, Cond.code yX2_fact cX2_fact 3 (some .int), Cond.fieldLink RX2 28 "IntegerHouse$House" "facts" "[I", Cond.methodLink RX6 107 yX2_atomOf, Cond.instanceMethod yX2_atomOf]
def wsX11_alike_r3 : List Cond := [Cond.selects RX2 yX2_atomOf yX2_atomOf, Cond.code yX2_atomOf cX2_atomOf 3 (some .int), Cond.fieldLink RX2 31 "IntegerHouse$House" "atoms" "[I", Cond.methodLink RX6 110 yX6_addWork, Cond.instanceMethod yX6_addWork, Cond.selects RX6 yX6_addWork yX6_addWork, Cond.code yX6_addWork cX6_addWork 5 (some .boolean), Cond.fieldLink RX6 17 "IntegerHouse$Places" "workOf" "[I", Cond.fieldLink RX6 24 "IntegerHouse$Places" "sums" "[I", Cond.methodLink RX6 79 yX2_pooled, Cond.instanceMethod yX2_pooled, Cond.selects RX2 yX2_pooled yX2_pooled, Cond.code yX2_pooled cX2_pooled 3 (some .int), Cond.fieldLink RX2 34 "IntegerHouse$House" "pool" "[I", Cond.methodLink RX6 70 yJ7_fill_53178, Cond.static yJ7_fill_53178, Cond.initialized RJ7, Cond.code yJ7_fill_53178 cJ7_fill_53178 4 none, Cond.methodLink RX6 82 yX6_locate, Cond.instanceMethod yX6_locate, Cond.selects RX6 yX6_locate yX6_locate, Cond.code yX6_locate cX6_locate 5 (some .int), Cond.constant RX6 116 (739982445), Cond.methodLink RX6 117 yX6_addPlace]
def wsX11_alike_r4 : List Cond := [Cond.instanceMethod yX6_addPlace, Cond.selects RX6 yX6_addPlace yX6_addPlace, Cond.code yX6_addPlace cX6_addPlace 4 (some .int), Cond.fieldLink RX6 31 "IntegerHouse$Places" "stands" "[I", Cond.methodLink RX6 120 yX6_isFresh, Cond.instanceMethod yX6_isFresh, Cond.selects RX6 yX6_isFresh yX6_isFresh, Cond.code yX6_isFresh cX6_isFresh 4 (some .boolean), Cond.methodLink RX6 86 yX6_halve, Cond.instanceMethod yX6_halve, Cond.selects RX6 yX6_halve yX6_halve, Cond.code yX6_halve cX6_halve 7 none, Cond.methodLink RX6 113 yX6_halved, Cond.static yX6_halved, Cond.code yX6_halved cX6_halved 5 (some .int), Cond.methodLink RX6 59 yX6_atomsAt, Cond.instanceMethod yX6_atomsAt, Cond.selects RX6 yX6_atomsAt yX6_atomsAt, Cond.code yX6_atomsAt cX6_atomsAt 10 (some .int), Cond.methodLink RX6 63 yX6_soOf, Cond.instanceMethod yX6_soOf, Cond.selects RX6 yX6_soOf yX6_soOf, Cond.code yX6_soOf cX6_soOf 4 (some .int), Cond.methodLink RX6 127 yX6_isSo]
def wsX11_alike_r5 : List Cond := [Cond.instanceMethod yX6_isSo, Cond.selects RX6 yX6_isSo yX6_isSo, Cond.code yX6_isSo cX6_isSo 10 (some .boolean), Cond.methodLink RX6 136 yX6_joined, Cond.static yX6_joined, Cond.code yX6_joined cX6_joined 9 (some .long), Cond.methodLink RX11 348 yX0_areAlike, Cond.instanceMethod yX0_areAlike, Cond.selects RX0 yX0_areAlike yX0_areAlike, Cond.initialized RX0, Cond.code yX0_areAlike cX0_areAlike 4 (some .boolean), Cond.fieldLink RX0 48 "IntegerHouse$Answers" "places" "LIntegerHouse$Places;", Cond.methodLink RX0 78 yX6_acceptedBy, Cond.instanceMethod yX6_acceptedBy, Cond.selects RX6 yX6_acceptedBy yX6_acceptedBy, Cond.code yX6_acceptedBy cX6_acceptedBy 6 (some .int), Cond.methodLink RX6 123 yX6_accepts, Cond.instanceMethod yX6_accepts, Cond.selects RX6 yX6_accepts yX6_accepts, Cond.code yX6_accepts cX6_accepts 7 (some .boolean)]
def wsX11_alike : List Cond := .code yX11_alike cX11_alike 3 (some .int) :: ((wsX11_alike_r1 ++ (wsX11_alike_r2 ++ (wsX11_alike_r3 ++ (wsX11_alike_r4 ++ wsX11_alike_r5)))) ++ wsX110 ++ wsX10 ++ wsX20 ++ wsX60 ++ wsX00)
def wsX11_places_r1 : List Cond := [Cond.fieldLink RX11 16 "IntegerHouse" "disk" "LIntegerHouse$Disk;", Cond.fieldLink RX11 55 "IntegerHouse" "places" "LIntegerHouse$Places;", Cond.fieldLink RX11 23 "IntegerHouse" "house" "LIntegerHouse$House;", Cond.methodLink RX11 351 yX6_explore, Cond.instanceMethod yX6_explore, Cond.selects RX6 yX6_explore yX6_explore, Cond.initialized RX6, Cond.code yX6_explore cX6_explore 5 (some .boolean), Cond.fieldLink RX6 41 "IntegerHouse$Places" "table" "[I", Cond.fieldLink RX6 52 "IntegerHouse$Places" "size" "I", Cond.fieldLink RX6 76 "IntegerHouse$Places" "atoms" "I", Cond.fieldLink RX6 44 "IntegerHouse$Places" "house" "LIntegerHouse$House;", Cond.fieldLink RX6 11 "IntegerHouse$Places" "work" "[I", Cond.fieldLink RX6 27 "IntegerHouse$Places" "fresh" "[I", Cond.fieldLink RX6 20 "IntegerHouse$Places" "isLine" "[Z", Cond.fieldLink RX6 56 "IntegerHouse$Places" "letters" "I", Cond.fieldLink RX6 35 "IntegerHouse$Places" "next" "[I", Cond.methodLink RX6 67 yX6_gather, Cond.instanceMethod yX6_gather, Cond.selects RX6 yX6_gather yX6_gather, Cond.code yX6_gather cX6_gather 5 (some .boolean), Cond.fieldLink RX6 90 "IntegerHouse$Places" "needed" "I", Cond.methodLink RX6 96 Lib.Math.min.name, Cond.static Lib.Math.min.name]
def wsX11_places_r2 : List Cond := [Cond.initialized "java/lang/Math", Cond.code Lib.Math.min.name Lib.Math.min.code 2 (some .int), Cond.methodLink RX6 101 Lib.Math.max.name, Cond.static Lib.Math.max.name, Cond.code Lib.Math.max.name Lib.Math.max.code 2 (some .int), Cond.methodLink RX6 104 yX2_fact, Cond.instanceMethod yX2_fact, Cond.selects RX2 yX2_fact yX2_fact, Cond.initialized RX2, Cond.code yX2_fact cX2_fact 3 (some .int), Cond.fieldLink RX2 28 "IntegerHouse$House" "facts" "[I", Cond.methodLink RX6 107 yX2_atomOf, Cond.instanceMethod yX2_atomOf, Cond.selects RX2 yX2_atomOf yX2_atomOf, Cond.code yX2_atomOf cX2_atomOf 3 (some .int), Cond.fieldLink RX2 31 "IntegerHouse$House" "atoms" "[I", Cond.methodLink RX6 110 yX6_addWork, Cond.instanceMethod yX6_addWork, Cond.selects RX6 yX6_addWork yX6_addWork, Cond.code yX6_addWork cX6_addWork 5 (some .boolean), Cond.fieldLink RX6 17 "IntegerHouse$Places" "workOf" "[I", Cond.fieldLink RX6 24 "IntegerHouse$Places" "sums" "[I", Cond.methodLink RX6 79 yX2_pooled, Cond.instanceMethod yX2_pooled]
def wsX11_places_r3 : List Cond := [Cond.selects RX2 yX2_pooled yX2_pooled, Cond.code yX2_pooled cX2_pooled 3 (some .int), Cond.fieldLink RX2 34 "IntegerHouse$House" "pool" "[I", Cond.methodLink RX6 70 yJ7_fill_53178, Cond.static yJ7_fill_53178, Cond.initialized RJ7, Cond.code yJ7_fill_53178 cJ7_fill_53178 4 none, Cond.methodLink RX6 82 yX6_locate, Cond.instanceMethod yX6_locate, Cond.selects RX6 yX6_locate yX6_locate, Cond.code yX6_locate cX6_locate 5 (some .int), Cond.constant RX6 116 (739982445), Cond.methodLink RX6 117 yX6_addPlace, Cond.instanceMethod yX6_addPlace, Cond.selects RX6 yX6_addPlace yX6_addPlace, Cond.code yX6_addPlace cX6_addPlace 4 (some .int), Cond.fieldLink RX6 31 "IntegerHouse$Places" "stands" "[I", Cond.methodLink RX6 120 yX6_isFresh, Cond.instanceMethod yX6_isFresh, Cond.selects RX6 yX6_isFresh yX6_isFresh, Cond.code yX6_isFresh cX6_isFresh 4 (some .boolean), Cond.methodLink RX6 86 yX6_halve, Cond.instanceMethod yX6_halve, Cond.selects RX6 yX6_halve yX6_halve]
def wsX11_places_r4 : List Cond := [Cond.code yX6_halve cX6_halve 7 none, Cond.methodLink RX6 113 yX6_halved, Cond.static yX6_halved, Cond.code yX6_halved cX6_halved 5 (some .int)]
def wsX11_places : List Cond := .code yX11_places cX11_places 1 (some .int) :: ((wsX11_places_r1 ++ (wsX11_places_r2 ++ (wsX11_places_r3 ++ wsX11_places_r4))) ++ wsX110 ++ wsX10 ++ wsX20 ++ wsX60)
def wsX11_own_r1 : List Cond := [Cond.fieldLink RX11 16 "IntegerHouse" "disk" "LIntegerHouse$Disk;", Cond.fieldLink RX11 23 "IntegerHouse" "house" "LIntegerHouse$House;", Cond.fieldLink RX11 55 "IntegerHouse" "places" "LIntegerHouse$Places;", Cond.fieldLink RX11 73 "IntegerHouse" "ownForm" "LIntegerHouse$OwnForm;", Cond.methodLink RX11 176 yX2_isClaim, Cond.instanceMethod yX2_isClaim, Cond.selects RX2 yX2_isClaim yX2_isClaim, Cond.initialized RX2, Cond.code yX2_isClaim cX2_isClaim 2 (some .boolean), Cond.fieldLink RX2 55 "IntegerHouse$House" "claims" "I", Cond.methodLink RX11 298 yX6_judge, Cond.instanceMethod yX6_judge, Cond.selects RX6 yX6_judge yX6_judge, Cond.initialized RX6, Cond.code yX6_judge cX6_judge 4 (some .boolean), Cond.fieldLink RX6 52 "IntegerHouse$Places" "size" "I", Cond.fieldLink RX6 56 "IntegerHouse$Places" "letters" "I", Cond.fieldLink RX6 38 "IntegerHouse$Places" "so" "[I", Cond.methodLink RX6 48 yX6_explore, Cond.instanceMethod yX6_explore, Cond.selects RX6 yX6_explore yX6_explore, Cond.code yX6_explore cX6_explore 5 (some .boolean), Cond.fieldLink RX6 41 "IntegerHouse$Places" "table" "[I", Cond.fieldLink RX6 76 "IntegerHouse$Places" "atoms" "I"]
def wsX11_own_r2 : List Cond := [Cond.fieldLink RX6 44 "IntegerHouse$Places" "house" "LIntegerHouse$House;", Cond.fieldLink RX6 11 "IntegerHouse$Places" "work" "[I", Cond.fieldLink RX6 27 "IntegerHouse$Places" "fresh" "[I", Cond.fieldLink RX6 20 "IntegerHouse$Places" "isLine" "[Z", Cond.fieldLink RX6 35 "IntegerHouse$Places" "next" "[I", Cond.methodLink RX6 67 yX6_gather, Cond.instanceMethod yX6_gather, Cond.selects RX6 yX6_gather yX6_gather, Cond.code yX6_gather cX6_gather 5 (some .boolean), Cond.fieldLink RX6 90 "IntegerHouse$Places" "needed" "I", Cond.methodLink RX6 96 Lib.Math.min.name, Cond.static Lib.Math.min.name, Cond.initialized "java/lang/Math", Cond.code Lib.Math.min.name Lib.Math.min.code 2 (some .int), Cond.methodLink RX6 101 Lib.Math.max.name, Cond.static Lib.Math.max.name, Cond.code Lib.Math.max.name Lib.Math.max.code 2 (some .int), Cond.methodLink RX6 104 yX2_fact, Cond.instanceMethod yX2_fact, Cond.selects RX2 yX2_fact yX2_fact, Cond.code yX2_fact cX2_fact 3 (some .int), Cond.fieldLink RX2 28 "IntegerHouse$House" "facts" "[I", Cond.methodLink RX6 107 yX2_atomOf, Cond.instanceMethod yX2_atomOf]
def wsX11_own_r3 : List Cond := [Cond.selects RX2 yX2_atomOf yX2_atomOf, Cond.code yX2_atomOf cX2_atomOf 3 (some .int), Cond.fieldLink RX2 31 "IntegerHouse$House" "atoms" "[I", Cond.methodLink RX6 110 yX6_addWork, Cond.instanceMethod yX6_addWork, Cond.selects RX6 yX6_addWork yX6_addWork, Cond.code yX6_addWork cX6_addWork 5 (some .boolean), Cond.fieldLink RX6 17 "IntegerHouse$Places" "workOf" "[I", Cond.fieldLink RX6 24 "IntegerHouse$Places" "sums" "[I", Cond.methodLink RX6 79 yX2_pooled, Cond.instanceMethod yX2_pooled, Cond.selects RX2 yX2_pooled yX2_pooled, Cond.code yX2_pooled cX2_pooled 3 (some .int), Cond.fieldLink RX2 34 "IntegerHouse$House" "pool" "[I", Cond.methodLink RX6 70 yJ7_fill_53178, Cond.static yJ7_fill_53178, Cond.initialized RJ7, Cond.code yJ7_fill_53178 cJ7_fill_53178 4 none, Cond.methodLink RX6 82 yX6_locate, Cond.instanceMethod yX6_locate, Cond.selects RX6 yX6_locate yX6_locate, Cond.code yX6_locate cX6_locate 5 (some .int), Cond.constant RX6 116 (739982445), Cond.methodLink RX6 117 yX6_addPlace]
def wsX11_own_r4 : List Cond := [Cond.instanceMethod yX6_addPlace, Cond.selects RX6 yX6_addPlace yX6_addPlace, Cond.code yX6_addPlace cX6_addPlace 4 (some .int), Cond.fieldLink RX6 31 "IntegerHouse$Places" "stands" "[I", Cond.methodLink RX6 120 yX6_isFresh, Cond.instanceMethod yX6_isFresh, Cond.selects RX6 yX6_isFresh yX6_isFresh, Cond.code yX6_isFresh cX6_isFresh 4 (some .boolean), Cond.methodLink RX6 86 yX6_halve, Cond.instanceMethod yX6_halve, Cond.selects RX6 yX6_halve yX6_halve, Cond.code yX6_halve cX6_halve 7 none, Cond.methodLink RX6 113 yX6_halved, Cond.static yX6_halved, Cond.code yX6_halved cX6_halved 5 (some .int), Cond.methodLink RX6 59 yX6_atomsAt, Cond.instanceMethod yX6_atomsAt, Cond.selects RX6 yX6_atomsAt yX6_atomsAt, Cond.code yX6_atomsAt cX6_atomsAt 10 (some .int), Cond.methodLink RX6 63 yX6_soOf, Cond.instanceMethod yX6_soOf, Cond.selects RX6 yX6_soOf yX6_soOf, Cond.code yX6_soOf cX6_soOf 4 (some .int), Cond.methodLink RX6 127 yX6_isSo]
def wsX11_own_r5 : List Cond := [Cond.instanceMethod yX6_isSo, Cond.selects RX6 yX6_isSo yX6_isSo, Cond.code yX6_isSo cX6_isSo 10 (some .boolean), Cond.methodLink RX6 136 yX6_joined, Cond.static yX6_joined, Cond.code yX6_joined cX6_joined 9 (some .long), Cond.methodLink RX11 357 yX5_tell, Cond.instanceMethod yX5_tell, Cond.selects RX5 yX5_tell yX5_tell, Cond.initialized RX5, Cond.code yX5_tell cX5_tell 7 (some .int), Cond.fieldLink RX5 37 "IntegerHouse$OwnForm" "places" "LIntegerHouse$Places;", Cond.methodLink RX5 57 Lib.Math.min.name, Cond.fieldLink RX5 11 "IntegerHouse$OwnForm" "ends" "[I", Cond.fieldLink RX5 15 "IntegerHouse$OwnForm" "sorts" "[I", Cond.fieldLink RX5 41 "IntegerHouse$OwnForm" "toldStates" "I", Cond.methodLink RX5 63 yX6_acceptedBy, Cond.instanceMethod yX6_acceptedBy, Cond.selects RX6 yX6_acceptedBy yX6_acceptedBy, Cond.code yX6_acceptedBy cX6_acceptedBy 6 (some .int), Cond.methodLink RX6 123 yX6_accepts, Cond.instanceMethod yX6_accepts, Cond.selects RX6 yX6_accepts yX6_accepts, Cond.code yX6_accepts cX6_accepts 7 (some .boolean)]
def wsX11_own_r6 : List Cond := [Cond.methodLink RX5 67 yX5_refine, Cond.instanceMethod yX5_refine, Cond.selects RX5 yX5_refine yX5_refine, Cond.code yX5_refine cX5_refine 5 (some .int), Cond.fieldLink RX5 21 "IntegerHouse$OwnForm" "table" "[I", Cond.fieldLink RX5 18 "IntegerHouse$OwnForm" "finer" "[I", Cond.methodLink RX5 84 arraycopyName, Cond.native arraycopyName, Cond.static arraycopyName, Cond.initialized "java/lang/System", Cond.methodLink RX5 75 yJ7_fill_53178, Cond.methodLink RX5 81 yX5_likeOf, Cond.instanceMethod yX5_likeOf, Cond.selects RX5 yX5_likeOf yX5_likeOf, Cond.code yX5_likeOf cX5_likeOf 6 (some .int), Cond.constant RX5 99 (739982445), Cond.methodLink RX5 90 yX5_sortOf, Cond.instanceMethod yX5_sortOf, Cond.selects RX5 yX5_sortOf yX5_sortOf, Cond.code yX5_sortOf cX5_sortOf 2 (some .int), Cond.methodLink RX5 96 yX6_behind, Cond.instanceMethod yX6_behind, Cond.selects RX6 yX6_behind yX6_behind, Cond.code yX6_behind cX6_behind 4 (some .int)]
def wsX11_own_r7 : List Cond := [Cond.methodLink RX5 100 yX5_areLike, Cond.instanceMethod yX5_areLike, Cond.selects RX5 yX5_areLike yX5_areLike, Cond.code yX5_areLike cX5_areLike 5 (some .boolean), Cond.methodLink RX5 71 yX5_giveNumbers, Cond.instanceMethod yX5_giveNumbers, Cond.selects RX5 yX5_giveNumbers yX5_giveNumbers, Cond.code yX5_giveNumbers cX5_giveNumbers 4 none, Cond.fieldLink RX5 24 "IntegerHouse$OwnForm" "states" "[I", Cond.fieldLink RX5 45 "IntegerHouse$OwnForm" "toldLetters" "I", Cond.fieldLink RX5 31 "IntegerHouse$OwnForm" "halves" "[I", Cond.fieldLink RX5 27 "IntegerHouse$OwnForm" "samples" "[I", Cond.methodLink RX5 103 yX5_addState, Cond.instanceMethod yX5_addState, Cond.selects RX5 yX5_addState yX5_addState, Cond.code yX5_addState cX5_addState 3 (some .int), Cond.methodLink RX5 106 Lib.Math.max.name, Cond.fieldLink RX5 34 "IntegerHouse$OwnForm" "taken" "[I"]
def wsX11_own : List Cond := .code yX11_own cX11_own 2 (some .int) :: ((wsX11_own_r1 ++ (wsX11_own_r2 ++ (wsX11_own_r3 ++ (wsX11_own_r4 ++ (wsX11_own_r5 ++ (wsX11_own_r6 ++ wsX11_own_r7)))))) ++ wsX110 ++ wsX10 ++ wsX20 ++ wsX60 ++ wsX50)
def wsX12_firstNews : List Cond := .code yX12_firstNews cX12_firstNews 6 (some .int) :: ([.fieldLink RX12 960 "IntegerHouseModel" "letters" "I", .fieldLink RX12 334 "IntegerHouseModel" "takes" "[I", .fieldLink RX12 321 "IntegerHouseModel" "behind" "[I"] ++ wsX120)
def wsX12_findCounts : List Cond := .code yX12_findCounts cX12_findCounts 4 none :: ([.fieldLink RX12 957 "IntegerHouseModel" "places" "I", .fieldLink RX12 370 "IntegerHouseModel" "counts" "[Z", .fieldLink RX12 960 "IntegerHouseModel" "letters" "I", .fieldLink RX12 321 "IntegerHouseModel" "behind" "[I", .methodLink RX12 1033 yX12_firstNews, .instanceMethod yX12_firstNews, .selects RX12 yX12_firstNews yX12_firstNews, .initialized RX12, .code yX12_firstNews cX12_firstNews 6 (some .int), .fieldLink RX12 334 "IntegerHouseModel" "takes" "[I"] ++ wsX120)
def wsX12_many_r1 : List Cond := [Cond.fieldLink RX12 957 "IntegerHouseModel" "places" "I", Cond.fieldLink RX12 364 "IntegerHouseModel" "left" "[I", Cond.fieldLink RX12 960 "IntegerHouseModel" "letters" "I", Cond.fieldLink RX12 370 "IntegerHouseModel" "counts" "[Z", Cond.fieldLink RX12 321 "IntegerHouseModel" "behind" "[I", Cond.fieldLink RX12 373 "IntegerHouseModel" "row" "[I", Cond.fieldLink RX12 367 "IntegerHouseModel" "news" "[J", Cond.constantLong RX12 1039 (2000000000), Cond.fieldLink RX12 334 "IntegerHouseModel" "takes" "[I", Cond.constantLong RX12 1041 (1000000000), Cond.constant RX12 1043 (1000000000), Cond.methodLink RX12 871 yX12_asks, Cond.instanceMethod yX12_asks, Cond.selects RX12 yX12_asks yX12_asks, Cond.initialized RX12, Cond.code yX12_asks cX12_asks 1 (some .boolean), Cond.fieldLink RX12 3 "IntegerHouseModel" "thrown" "I", Cond.fieldLink RX12 488 "IntegerHouseModel" "down" "Z", Cond.methodLink RX12 982 yX12_putOn, Cond.instanceMethod yX12_putOn, Cond.selects RX12 yX12_putOn yX12_putOn, Cond.code yX12_putOn cX12_putOn 2 none, Cond.fieldLink RX12 818 "IntegerHouseModel" "claims" "I", Cond.fieldLink RX12 265 "IntegerHouseModel" "isOn" "[Z"]
def wsX12_many_r2 : List Cond := [Cond.methodLink RX12 934 yX12_idle, Cond.instanceMethod yX12_idle, Cond.selects RX12 yX12_idle yX12_idle, Cond.code yX12_idle cX12_idle 2 none, Cond.fieldLink RX12 928 "IntegerHouseModel" "work" "I", Cond.fieldLink RX12 304 "IntegerHouseModel" "needed" "[Z", Cond.methodLink RX12 937 yX12_put, Cond.instanceMethod yX12_put, Cond.selects RX12 yX12_put yX12_put, Cond.code yX12_put cX12_put 5 none, Cond.fieldLink RX12 235 "IntegerHouseModel" "atomCount" "[I", Cond.fieldLink RX12 298 "IntegerHouseModel" "workN" "[I", Cond.fieldLink RX12 232 "IntegerHouseModel" "atomN" "[I", Cond.fieldLink RX12 295 "IntegerHouseModel" "workC" "[I", Cond.fieldLink RX12 229 "IntegerHouseModel" "atomC" "[I", Cond.fieldLink RX12 292 "IntegerHouseModel" "workF" "[I", Cond.fieldLink RX12 226 "IntegerHouseModel" "atomF" "[I", Cond.methodLink RX12 931 yX12_workAt, Cond.instanceMethod yX12_workAt, Cond.selects RX12 yX12_workAt yX12_workAt, Cond.code yX12_workAt cX12_workAt 5 (some .int), Cond.methodLink RX12 985 yX12_explore, Cond.instanceMethod yX12_explore, Cond.selects RX12 yX12_explore yX12_explore]
def wsX12_many_r3 : List Cond := [Cond.code yX12_explore cX12_explore 5 (some .boolean), Cond.fieldLink RX12 815 "IntegerHouseModel" "variables" "I", Cond.constant RX12 324 (32768), Cond.fieldLink RX12 325 "IntegerHouseModel" "heads" "[I", Cond.fieldLink RX12 331 "IntegerHouseModel" "image2" "[I", Cond.fieldLink RX12 317 "IntegerHouseModel" "place" "[I", Cond.methodLink RX12 951 yX12_findWork, Cond.instanceMethod yX12_findWork, Cond.selects RX12 yX12_findWork yX12_findWork, Cond.code yX12_findWork cX12_findWork 3 none, Cond.fieldLink RX12 120 "IntegerHouseModel" "nodeCount" "[I", Cond.fieldLink RX12 108 "IntegerHouseModel" "nodeKind" "[I", Cond.fieldLink RX12 111 "IntegerHouseModel" "nodeA" "[I", Cond.fieldLink RX12 301 "IntegerHouseModel" "workOf" "[I", Cond.methodLink RX12 963 yX12_placeOf, Cond.instanceMethod yX12_placeOf, Cond.selects RX12 yX12_placeOf yX12_placeOf, Cond.code yX12_placeOf cX12_placeOf 5 (some .int), Cond.constant RX12 508 (-1640531535), Cond.fieldLink RX12 328 "IntegerHouseModel" "chain" "[I", Cond.methodLink RX12 966 yX12_halved, Cond.instanceMethod yX12_halved, Cond.selects RX12 yX12_halved yX12_halved, Cond.code yX12_halved cX12_halved 7 (some .int)]
def wsX12_many_r4 : List Cond := [Cond.methodLink RX12 988 yX12_judge, Cond.instanceMethod yX12_judge, Cond.selects RX12 yX12_judge yX12_judge, Cond.code yX12_judge cX12_judge 8 none, Cond.fieldLink RX12 346 "IntegerHouseModel" "keptAnswer" "[I", Cond.fieldLink RX12 337 "IntegerHouseModel" "takes2" "[I", Cond.fieldLink RX12 307 "IntegerHouseModel" "workIs" "[Z", Cond.fieldLink RX12 343 "IntegerHouseModel" "keptRow" "[I", Cond.fieldLink RX12 310 "IntegerHouseModel" "slotIs" "[Z", Cond.methodLink RX12 969 yX12_isSo, Cond.instanceMethod yX12_isSo, Cond.selects RX12 yX12_isSo yX12_isSo, Cond.code yX12_isSo cX12_isSo 7 (some .boolean), Cond.methodLink RX12 768 yX12_rest, Cond.static yX12_rest, Cond.code yX12_rest cX12_rest 6 (some .long), Cond.methodLink RX12 954 yX12_reckonSlots, Cond.instanceMethod yX12_reckonSlots, Cond.selects RX12 yX12_reckonSlots yX12_reckonSlots, Cond.code yX12_reckonSlots cX12_reckonSlots 3 none, Cond.fieldLink RX12 313 "IntegerHouseModel" "nodeIs" "[Z", Cond.fieldLink RX12 184 "IntegerHouseModel" "rootOf" "[I", Cond.methodLink RX12 946 yX12_isNode, Cond.instanceMethod yX12_isNode]
def wsX12_many_r5 : List Cond := [Cond.selects RX12 yX12_isNode yX12_isNode, Cond.code yX12_isNode cX12_isNode 5 (some .boolean), Cond.fieldLink RX12 114 "IntegerHouseModel" "nodeB" "[I", Cond.fieldLink RX12 117 "IntegerHouseModel" "nodeNext" "[I", Cond.methodLink RX12 943 yX12_isLeaf, Cond.instanceMethod yX12_isLeaf, Cond.selects RX12 yX12_isLeaf yX12_isLeaf, Cond.code yX12_isLeaf cX12_isLeaf 6 (some .boolean), Cond.fieldLink RX12 147 "IntegerHouseModel" "leafCase" "[I", Cond.fieldLink RX12 150 "IntegerHouseModel" "leafCases" "[I", Cond.fieldLink RX12 238 "IntegerHouseModel" "caseLit" "[I", Cond.fieldLink RX12 123 "IntegerHouseModel" "leafOp" "[I", Cond.methodLink RX12 940 yX12_isLit, Cond.instanceMethod yX12_isLit, Cond.selects RX12 yX12_isLit yX12_isLit, Cond.code yX12_isLit cX12_isLit 3 (some .boolean), Cond.methodLink RX12 973 yX12_isAnswer, Cond.instanceMethod yX12_isAnswer, Cond.selects RX12 yX12_isAnswer yX12_isAnswer, Cond.code yX12_isAnswer cX12_isAnswer 5 (some .boolean), Cond.fieldLink RX12 340 "IntegerHouseModel" "isOut" "[Z", Cond.methodLink RX12 1036 yX12_findCounts, Cond.instanceMethod yX12_findCounts, Cond.selects RX12 yX12_findCounts yX12_findCounts]
def wsX12_many_r6 : List Cond := [Cond.code yX12_findCounts cX12_findCounts 4 none, Cond.methodLink RX12 1033 yX12_firstNews, Cond.instanceMethod yX12_firstNews, Cond.selects RX12 yX12_firstNews yX12_firstNews, Cond.code yX12_firstNews cX12_firstNews 6 (some .int)]
def wsX12_many : List Cond := .code yX12_many cX12_many 6 (some .int) :: ((wsX12_many_r1 ++ (wsX12_many_r2 ++ (wsX12_many_r3 ++ (wsX12_many_r4 ++ (wsX12_many_r5 ++ wsX12_many_r6))))) ++ wsX120)
def wsX12_tries_r1 : List Cond := [Cond.fieldLink RX12 818 "IntegerHouseModel" "claims" "I", Cond.fieldLink RX12 265 "IntegerHouseModel" "isOn" "[Z", Cond.fieldLink RX12 340 "IntegerHouseModel" "isOut" "[Z", Cond.fieldLink RX12 349 "IntegerHouseModel" "far" "[I", Cond.methodLink RX12 934 yX12_idle, Cond.instanceMethod yX12_idle, Cond.selects RX12 yX12_idle yX12_idle, Cond.initialized RX12, Cond.code yX12_idle cX12_idle 2 none, Cond.fieldLink RX12 928 "IntegerHouseModel" "work" "I", Cond.fieldLink RX12 304 "IntegerHouseModel" "needed" "[Z", Cond.methodLink RX12 937 yX12_put, Cond.instanceMethod yX12_put, Cond.selects RX12 yX12_put yX12_put, Cond.code yX12_put cX12_put 5 none, Cond.fieldLink RX12 235 "IntegerHouseModel" "atomCount" "[I", Cond.fieldLink RX12 298 "IntegerHouseModel" "workN" "[I", Cond.fieldLink RX12 232 "IntegerHouseModel" "atomN" "[I", Cond.fieldLink RX12 295 "IntegerHouseModel" "workC" "[I", Cond.fieldLink RX12 229 "IntegerHouseModel" "atomC" "[I", Cond.fieldLink RX12 292 "IntegerHouseModel" "workF" "[I", Cond.fieldLink RX12 226 "IntegerHouseModel" "atomF" "[I", Cond.methodLink RX12 931 yX12_workAt, Cond.instanceMethod yX12_workAt]
def wsX12_tries_r2 : List Cond := [Cond.selects RX12 yX12_workAt yX12_workAt, Cond.code yX12_workAt cX12_workAt 5 (some .int), Cond.methodLink RX12 985 yX12_explore, Cond.instanceMethod yX12_explore, Cond.selects RX12 yX12_explore yX12_explore, Cond.code yX12_explore cX12_explore 5 (some .boolean), Cond.fieldLink RX12 815 "IntegerHouseModel" "variables" "I", Cond.fieldLink RX12 960 "IntegerHouseModel" "letters" "I", Cond.constant RX12 324 (32768), Cond.fieldLink RX12 325 "IntegerHouseModel" "heads" "[I", Cond.fieldLink RX12 957 "IntegerHouseModel" "places" "I", Cond.fieldLink RX12 331 "IntegerHouseModel" "image2" "[I", Cond.fieldLink RX12 317 "IntegerHouseModel" "place" "[I", Cond.fieldLink RX12 321 "IntegerHouseModel" "behind" "[I", Cond.methodLink RX12 951 yX12_findWork, Cond.instanceMethod yX12_findWork, Cond.selects RX12 yX12_findWork yX12_findWork, Cond.code yX12_findWork cX12_findWork 3 none, Cond.fieldLink RX12 120 "IntegerHouseModel" "nodeCount" "[I", Cond.fieldLink RX12 108 "IntegerHouseModel" "nodeKind" "[I", Cond.fieldLink RX12 111 "IntegerHouseModel" "nodeA" "[I", Cond.fieldLink RX12 301 "IntegerHouseModel" "workOf" "[I", Cond.methodLink RX12 963 yX12_placeOf, Cond.instanceMethod yX12_placeOf]
def wsX12_tries_r3 : List Cond := [Cond.selects RX12 yX12_placeOf yX12_placeOf, Cond.code yX12_placeOf cX12_placeOf 5 (some .int), Cond.constant RX12 508 (-1640531535), Cond.fieldLink RX12 328 "IntegerHouseModel" "chain" "[I", Cond.methodLink RX12 966 yX12_halved, Cond.instanceMethod yX12_halved, Cond.selects RX12 yX12_halved yX12_halved, Cond.code yX12_halved cX12_halved 7 (some .int), Cond.methodLink RX12 988 yX12_judge, Cond.instanceMethod yX12_judge, Cond.selects RX12 yX12_judge yX12_judge, Cond.code yX12_judge cX12_judge 8 none, Cond.fieldLink RX12 346 "IntegerHouseModel" "keptAnswer" "[I", Cond.fieldLink RX12 334 "IntegerHouseModel" "takes" "[I", Cond.fieldLink RX12 337 "IntegerHouseModel" "takes2" "[I", Cond.fieldLink RX12 307 "IntegerHouseModel" "workIs" "[Z", Cond.fieldLink RX12 343 "IntegerHouseModel" "keptRow" "[I", Cond.fieldLink RX12 310 "IntegerHouseModel" "slotIs" "[Z", Cond.methodLink RX12 969 yX12_isSo, Cond.instanceMethod yX12_isSo, Cond.selects RX12 yX12_isSo yX12_isSo, Cond.code yX12_isSo cX12_isSo 7 (some .boolean), Cond.methodLink RX12 768 yX12_rest, Cond.static yX12_rest]
def wsX12_tries_r4 : List Cond := [Cond.code yX12_rest cX12_rest 6 (some .long), Cond.methodLink RX12 954 yX12_reckonSlots, Cond.instanceMethod yX12_reckonSlots, Cond.selects RX12 yX12_reckonSlots yX12_reckonSlots, Cond.code yX12_reckonSlots cX12_reckonSlots 3 none, Cond.fieldLink RX12 313 "IntegerHouseModel" "nodeIs" "[Z", Cond.fieldLink RX12 184 "IntegerHouseModel" "rootOf" "[I", Cond.methodLink RX12 946 yX12_isNode, Cond.instanceMethod yX12_isNode, Cond.selects RX12 yX12_isNode yX12_isNode, Cond.code yX12_isNode cX12_isNode 5 (some .boolean), Cond.fieldLink RX12 114 "IntegerHouseModel" "nodeB" "[I", Cond.fieldLink RX12 117 "IntegerHouseModel" "nodeNext" "[I", Cond.methodLink RX12 943 yX12_isLeaf, Cond.instanceMethod yX12_isLeaf, Cond.selects RX12 yX12_isLeaf yX12_isLeaf, Cond.code yX12_isLeaf cX12_isLeaf 6 (some .boolean), Cond.fieldLink RX12 147 "IntegerHouseModel" "leafCase" "[I", Cond.fieldLink RX12 150 "IntegerHouseModel" "leafCases" "[I", Cond.fieldLink RX12 238 "IntegerHouseModel" "caseLit" "[I", Cond.fieldLink RX12 123 "IntegerHouseModel" "leafOp" "[I", Cond.methodLink RX12 940 yX12_isLit, Cond.instanceMethod yX12_isLit, Cond.selects RX12 yX12_isLit yX12_isLit]
def wsX12_tries_r5 : List Cond := [Cond.code yX12_isLit cX12_isLit 3 (some .boolean), Cond.methodLink RX12 973 yX12_isAnswer, Cond.instanceMethod yX12_isAnswer, Cond.selects RX12 yX12_isAnswer yX12_isAnswer, Cond.code yX12_isAnswer cX12_isAnswer 5 (some .boolean), Cond.methodLink RX12 976 yX12_measure, Cond.instanceMethod yX12_measure, Cond.selects RX12 yX12_measure yX12_measure, Cond.code yX12_measure cX12_measure 5 none]
def wsX12_tries : List Cond := .code yX12_tries cX12_tries 2 (some .int) :: ((wsX12_tries_r1 ++ (wsX12_tries_r2 ++ (wsX12_tries_r3 ++ (wsX12_tries_r4 ++ wsX12_tries_r5)))) ++ wsX120)
def wsX12_leaveNoneOut : List Cond := .code yX12_leaveNoneOut cX12_leaveNoneOut 2 none :: ([.fieldLink RX12 340 "IntegerHouseModel" "isOut" "[Z"] ++ wsX120)
def wsX12_core_r1 : List Cond := [Cond.fieldLink RX12 1050 "IntegerHouseModel" "coreSize" "I", Cond.fieldLink RX12 818 "IntegerHouseModel" "claims" "I", Cond.fieldLink RX12 265 "IntegerHouseModel" "isOn" "[Z", Cond.fieldLink RX12 340 "IntegerHouseModel" "isOut" "[Z", Cond.fieldLink RX12 376 "IntegerHouseModel" "coreRow" "[I", Cond.methodLink RX12 871 yX12_asks, Cond.instanceMethod yX12_asks, Cond.selects RX12 yX12_asks yX12_asks, Cond.initialized RX12, Cond.code yX12_asks cX12_asks 1 (some .boolean), Cond.fieldLink RX12 3 "IntegerHouseModel" "thrown" "I", Cond.fieldLink RX12 488 "IntegerHouseModel" "down" "Z", Cond.methodLink RX12 1044 yX12_leaveNoneOut, Cond.instanceMethod yX12_leaveNoneOut, Cond.selects RX12 yX12_leaveNoneOut yX12_leaveNoneOut, Cond.code yX12_leaveNoneOut cX12_leaveNoneOut 2 none, Cond.methodLink RX12 1047 yX12_tries, Cond.instanceMethod yX12_tries, Cond.selects RX12 yX12_tries yX12_tries, Cond.code yX12_tries cX12_tries 2 (some .int), Cond.fieldLink RX12 349 "IntegerHouseModel" "far" "[I", Cond.methodLink RX12 934 yX12_idle, Cond.instanceMethod yX12_idle, Cond.selects RX12 yX12_idle yX12_idle]
def wsX12_core_r2 : List Cond := [Cond.code yX12_idle cX12_idle 2 none, Cond.fieldLink RX12 928 "IntegerHouseModel" "work" "I", Cond.fieldLink RX12 304 "IntegerHouseModel" "needed" "[Z", Cond.methodLink RX12 937 yX12_put, Cond.instanceMethod yX12_put, Cond.selects RX12 yX12_put yX12_put, Cond.code yX12_put cX12_put 5 none, Cond.fieldLink RX12 235 "IntegerHouseModel" "atomCount" "[I", Cond.fieldLink RX12 298 "IntegerHouseModel" "workN" "[I", Cond.fieldLink RX12 232 "IntegerHouseModel" "atomN" "[I", Cond.fieldLink RX12 295 "IntegerHouseModel" "workC" "[I", Cond.fieldLink RX12 229 "IntegerHouseModel" "atomC" "[I", Cond.fieldLink RX12 292 "IntegerHouseModel" "workF" "[I", Cond.fieldLink RX12 226 "IntegerHouseModel" "atomF" "[I", Cond.methodLink RX12 931 yX12_workAt, Cond.instanceMethod yX12_workAt, Cond.selects RX12 yX12_workAt yX12_workAt, Cond.code yX12_workAt cX12_workAt 5 (some .int), Cond.methodLink RX12 985 yX12_explore, Cond.instanceMethod yX12_explore, Cond.selects RX12 yX12_explore yX12_explore, Cond.code yX12_explore cX12_explore 5 (some .boolean), Cond.fieldLink RX12 815 "IntegerHouseModel" "variables" "I", Cond.fieldLink RX12 960 "IntegerHouseModel" "letters" "I"]
def wsX12_core_r3 : List Cond := [Cond.constant RX12 324 (32768), Cond.fieldLink RX12 325 "IntegerHouseModel" "heads" "[I", Cond.fieldLink RX12 957 "IntegerHouseModel" "places" "I", Cond.fieldLink RX12 331 "IntegerHouseModel" "image2" "[I", Cond.fieldLink RX12 317 "IntegerHouseModel" "place" "[I", Cond.fieldLink RX12 321 "IntegerHouseModel" "behind" "[I", Cond.methodLink RX12 951 yX12_findWork, Cond.instanceMethod yX12_findWork, Cond.selects RX12 yX12_findWork yX12_findWork, Cond.code yX12_findWork cX12_findWork 3 none, Cond.fieldLink RX12 120 "IntegerHouseModel" "nodeCount" "[I", Cond.fieldLink RX12 108 "IntegerHouseModel" "nodeKind" "[I", Cond.fieldLink RX12 111 "IntegerHouseModel" "nodeA" "[I", Cond.fieldLink RX12 301 "IntegerHouseModel" "workOf" "[I", Cond.methodLink RX12 963 yX12_placeOf, Cond.instanceMethod yX12_placeOf, Cond.selects RX12 yX12_placeOf yX12_placeOf, Cond.code yX12_placeOf cX12_placeOf 5 (some .int), Cond.constant RX12 508 (-1640531535), Cond.fieldLink RX12 328 "IntegerHouseModel" "chain" "[I", Cond.methodLink RX12 966 yX12_halved, Cond.instanceMethod yX12_halved, Cond.selects RX12 yX12_halved yX12_halved, Cond.code yX12_halved cX12_halved 7 (some .int)]
def wsX12_core_r4 : List Cond := [Cond.methodLink RX12 988 yX12_judge, Cond.instanceMethod yX12_judge, Cond.selects RX12 yX12_judge yX12_judge, Cond.code yX12_judge cX12_judge 8 none, Cond.fieldLink RX12 346 "IntegerHouseModel" "keptAnswer" "[I", Cond.fieldLink RX12 334 "IntegerHouseModel" "takes" "[I", Cond.fieldLink RX12 337 "IntegerHouseModel" "takes2" "[I", Cond.fieldLink RX12 307 "IntegerHouseModel" "workIs" "[Z", Cond.fieldLink RX12 343 "IntegerHouseModel" "keptRow" "[I", Cond.fieldLink RX12 310 "IntegerHouseModel" "slotIs" "[Z", Cond.methodLink RX12 969 yX12_isSo, Cond.instanceMethod yX12_isSo, Cond.selects RX12 yX12_isSo yX12_isSo, Cond.code yX12_isSo cX12_isSo 7 (some .boolean), Cond.methodLink RX12 768 yX12_rest, Cond.static yX12_rest, Cond.code yX12_rest cX12_rest 6 (some .long), Cond.methodLink RX12 954 yX12_reckonSlots, Cond.instanceMethod yX12_reckonSlots, Cond.selects RX12 yX12_reckonSlots yX12_reckonSlots, Cond.code yX12_reckonSlots cX12_reckonSlots 3 none, Cond.fieldLink RX12 313 "IntegerHouseModel" "nodeIs" "[Z", Cond.fieldLink RX12 184 "IntegerHouseModel" "rootOf" "[I", Cond.methodLink RX12 946 yX12_isNode]
def wsX12_core_r5 : List Cond := [Cond.instanceMethod yX12_isNode, Cond.selects RX12 yX12_isNode yX12_isNode, Cond.code yX12_isNode cX12_isNode 5 (some .boolean), Cond.fieldLink RX12 114 "IntegerHouseModel" "nodeB" "[I", Cond.fieldLink RX12 117 "IntegerHouseModel" "nodeNext" "[I", Cond.methodLink RX12 943 yX12_isLeaf, Cond.instanceMethod yX12_isLeaf, Cond.selects RX12 yX12_isLeaf yX12_isLeaf, Cond.code yX12_isLeaf cX12_isLeaf 6 (some .boolean), Cond.fieldLink RX12 147 "IntegerHouseModel" "leafCase" "[I", Cond.fieldLink RX12 150 "IntegerHouseModel" "leafCases" "[I", Cond.fieldLink RX12 238 "IntegerHouseModel" "caseLit" "[I", Cond.fieldLink RX12 123 "IntegerHouseModel" "leafOp" "[I", Cond.methodLink RX12 940 yX12_isLit, Cond.instanceMethod yX12_isLit, Cond.selects RX12 yX12_isLit yX12_isLit, Cond.code yX12_isLit cX12_isLit 3 (some .boolean), Cond.methodLink RX12 973 yX12_isAnswer, Cond.instanceMethod yX12_isAnswer, Cond.selects RX12 yX12_isAnswer yX12_isAnswer, Cond.code yX12_isAnswer cX12_isAnswer 5 (some .boolean), Cond.methodLink RX12 976 yX12_measure, Cond.instanceMethod yX12_measure, Cond.selects RX12 yX12_measure yX12_measure]
def wsX12_core_r6 : List Cond := [Cond.code yX12_measure cX12_measure 5 none]
def wsX12_core : List Cond := .code yX12_core cX12_core 3 (some .int) :: ((wsX12_core_r1 ++ (wsX12_core_r2 ++ (wsX12_core_r3 ++ (wsX12_core_r4 ++ (wsX12_core_r5 ++ wsX12_core_r6))))) ++ wsX120)
def wsX12_inCore : List Cond := .code yX12_inCore cX12_inCore 2 (some .int) :: ([.fieldLink RX12 3 "IntegerHouseModel" "thrown" "I", .fieldLink RX12 1050 "IntegerHouseModel" "coreSize" "I", .fieldLink RX12 376 "IntegerHouseModel" "coreRow" "[I", .methodLink RX12 504 yX12_in, .static yX12_in, .initialized RX12, .code yX12_in cX12_in 6 (some .boolean)] ++ wsX120)
def wsX12_alike_r1 : List Cond := [Cond.fieldLink RX12 957 "IntegerHouseModel" "places" "I", Cond.fieldLink RX12 334 "IntegerHouseModel" "takes" "[I", Cond.fieldLink RX12 337 "IntegerHouseModel" "takes2" "[I", Cond.methodLink RX12 871 yX12_asks, Cond.instanceMethod yX12_asks, Cond.selects RX12 yX12_asks yX12_asks, Cond.initialized RX12, Cond.code yX12_asks cX12_asks 1 (some .boolean), Cond.fieldLink RX12 3 "IntegerHouseModel" "thrown" "I", Cond.fieldLink RX12 488 "IntegerHouseModel" "down" "Z", Cond.methodLink RX12 877 yX12_isClaim, Cond.instanceMethod yX12_isClaim, Cond.selects RX12 yX12_isClaim yX12_isClaim, Cond.code yX12_isClaim cX12_isClaim 2 (some .boolean), Cond.fieldLink RX12 818 "IntegerHouseModel" "claims" "I", Cond.methodLink RX12 504 yX12_in, Cond.static yX12_in, Cond.code yX12_in cX12_in 6 (some .boolean), Cond.methodLink RX12 934 yX12_idle, Cond.instanceMethod yX12_idle, Cond.selects RX12 yX12_idle yX12_idle, Cond.code yX12_idle cX12_idle 2 none, Cond.fieldLink RX12 928 "IntegerHouseModel" "work" "I", Cond.fieldLink RX12 304 "IntegerHouseModel" "needed" "[Z"]
def wsX12_alike_r2 : List Cond := [Cond.methodLink RX12 937 yX12_put, Cond.instanceMethod yX12_put, Cond.selects RX12 yX12_put yX12_put, Cond.code yX12_put cX12_put 5 none, Cond.fieldLink RX12 235 "IntegerHouseModel" "atomCount" "[I", Cond.fieldLink RX12 298 "IntegerHouseModel" "workN" "[I", Cond.fieldLink RX12 232 "IntegerHouseModel" "atomN" "[I", Cond.fieldLink RX12 295 "IntegerHouseModel" "workC" "[I", Cond.fieldLink RX12 229 "IntegerHouseModel" "atomC" "[I", Cond.fieldLink RX12 292 "IntegerHouseModel" "workF" "[I", Cond.fieldLink RX12 226 "IntegerHouseModel" "atomF" "[I", Cond.methodLink RX12 931 yX12_workAt, Cond.instanceMethod yX12_workAt, Cond.selects RX12 yX12_workAt yX12_workAt, Cond.code yX12_workAt cX12_workAt 5 (some .int), Cond.methodLink RX12 985 yX12_explore, Cond.instanceMethod yX12_explore, Cond.selects RX12 yX12_explore yX12_explore, Cond.code yX12_explore cX12_explore 5 (some .boolean), Cond.fieldLink RX12 815 "IntegerHouseModel" "variables" "I", Cond.fieldLink RX12 960 "IntegerHouseModel" "letters" "I", Cond.constant RX12 324 (32768), Cond.fieldLink RX12 325 "IntegerHouseModel" "heads" "[I", Cond.fieldLink RX12 331 "IntegerHouseModel" "image2" "[I"]
def wsX12_alike_r3 : List Cond := [Cond.fieldLink RX12 317 "IntegerHouseModel" "place" "[I", Cond.fieldLink RX12 321 "IntegerHouseModel" "behind" "[I", Cond.methodLink RX12 951 yX12_findWork, Cond.instanceMethod yX12_findWork, Cond.selects RX12 yX12_findWork yX12_findWork, Cond.code yX12_findWork cX12_findWork 3 none, Cond.fieldLink RX12 120 "IntegerHouseModel" "nodeCount" "[I", Cond.fieldLink RX12 108 "IntegerHouseModel" "nodeKind" "[I", Cond.fieldLink RX12 111 "IntegerHouseModel" "nodeA" "[I", Cond.fieldLink RX12 301 "IntegerHouseModel" "workOf" "[I", Cond.methodLink RX12 963 yX12_placeOf, Cond.instanceMethod yX12_placeOf, Cond.selects RX12 yX12_placeOf yX12_placeOf, Cond.code yX12_placeOf cX12_placeOf 5 (some .int), Cond.constant RX12 508 (-1640531535), Cond.fieldLink RX12 328 "IntegerHouseModel" "chain" "[I", Cond.methodLink RX12 966 yX12_halved, Cond.instanceMethod yX12_halved, Cond.selects RX12 yX12_halved yX12_halved, Cond.code yX12_halved cX12_halved 7 (some .int), Cond.methodLink RX12 988 yX12_judge, Cond.instanceMethod yX12_judge, Cond.selects RX12 yX12_judge yX12_judge, Cond.code yX12_judge cX12_judge 8 none]
def wsX12_alike_r4 : List Cond := [Cond.fieldLink RX12 346 "IntegerHouseModel" "keptAnswer" "[I", Cond.fieldLink RX12 307 "IntegerHouseModel" "workIs" "[Z", Cond.fieldLink RX12 343 "IntegerHouseModel" "keptRow" "[I", Cond.fieldLink RX12 310 "IntegerHouseModel" "slotIs" "[Z", Cond.methodLink RX12 969 yX12_isSo, Cond.instanceMethod yX12_isSo, Cond.selects RX12 yX12_isSo yX12_isSo, Cond.code yX12_isSo cX12_isSo 7 (some .boolean), Cond.methodLink RX12 768 yX12_rest, Cond.static yX12_rest, Cond.code yX12_rest cX12_rest 6 (some .long), Cond.methodLink RX12 954 yX12_reckonSlots, Cond.instanceMethod yX12_reckonSlots, Cond.selects RX12 yX12_reckonSlots yX12_reckonSlots, Cond.code yX12_reckonSlots cX12_reckonSlots 3 none, Cond.fieldLink RX12 313 "IntegerHouseModel" "nodeIs" "[Z", Cond.fieldLink RX12 184 "IntegerHouseModel" "rootOf" "[I", Cond.methodLink RX12 946 yX12_isNode, Cond.instanceMethod yX12_isNode, Cond.selects RX12 yX12_isNode yX12_isNode, Cond.code yX12_isNode cX12_isNode 5 (some .boolean), Cond.fieldLink RX12 114 "IntegerHouseModel" "nodeB" "[I", Cond.fieldLink RX12 117 "IntegerHouseModel" "nodeNext" "[I", Cond.methodLink RX12 943 yX12_isLeaf]
def wsX12_alike_r5 : List Cond := [Cond.instanceMethod yX12_isLeaf, Cond.selects RX12 yX12_isLeaf yX12_isLeaf, Cond.code yX12_isLeaf cX12_isLeaf 6 (some .boolean), Cond.fieldLink RX12 147 "IntegerHouseModel" "leafCase" "[I", Cond.fieldLink RX12 150 "IntegerHouseModel" "leafCases" "[I", Cond.fieldLink RX12 238 "IntegerHouseModel" "caseLit" "[I", Cond.fieldLink RX12 123 "IntegerHouseModel" "leafOp" "[I", Cond.methodLink RX12 940 yX12_isLit, Cond.instanceMethod yX12_isLit, Cond.selects RX12 yX12_isLit yX12_isLit, Cond.code yX12_isLit cX12_isLit 3 (some .boolean), Cond.methodLink RX12 973 yX12_isAnswer, Cond.instanceMethod yX12_isAnswer, Cond.selects RX12 yX12_isAnswer yX12_isAnswer, Cond.code yX12_isAnswer cX12_isAnswer 5 (some .boolean), Cond.fieldLink RX12 265 "IntegerHouseModel" "isOn" "[Z", Cond.fieldLink RX12 340 "IntegerHouseModel" "isOut" "[Z"]
def wsX12_alike : List Cond := .code yX12_alike cX12_alike 4 (some .int) :: ((wsX12_alike_r1 ++ (wsX12_alike_r2 ++ (wsX12_alike_r3 ++ (wsX12_alike_r4 ++ wsX12_alike_r5)))) ++ wsX120)
def wsX12_places_r1 : List Cond := [Cond.fieldLink RX12 957 "IntegerHouseModel" "places" "I", Cond.methodLink RX12 871 yX12_asks, Cond.instanceMethod yX12_asks, Cond.selects RX12 yX12_asks yX12_asks, Cond.initialized RX12, Cond.code yX12_asks cX12_asks 1 (some .boolean), Cond.fieldLink RX12 3 "IntegerHouseModel" "thrown" "I", Cond.fieldLink RX12 488 "IntegerHouseModel" "down" "Z", Cond.methodLink RX12 982 yX12_putOn, Cond.instanceMethod yX12_putOn, Cond.selects RX12 yX12_putOn yX12_putOn, Cond.code yX12_putOn cX12_putOn 2 none, Cond.fieldLink RX12 818 "IntegerHouseModel" "claims" "I", Cond.fieldLink RX12 265 "IntegerHouseModel" "isOn" "[Z", Cond.methodLink RX12 934 yX12_idle, Cond.instanceMethod yX12_idle, Cond.selects RX12 yX12_idle yX12_idle, Cond.code yX12_idle cX12_idle 2 none, Cond.fieldLink RX12 928 "IntegerHouseModel" "work" "I", Cond.fieldLink RX12 304 "IntegerHouseModel" "needed" "[Z", Cond.methodLink RX12 937 yX12_put, Cond.instanceMethod yX12_put, Cond.selects RX12 yX12_put yX12_put, Cond.code yX12_put cX12_put 5 none]
def wsX12_places_r2 : List Cond := [Cond.fieldLink RX12 235 "IntegerHouseModel" "atomCount" "[I", Cond.fieldLink RX12 298 "IntegerHouseModel" "workN" "[I", Cond.fieldLink RX12 232 "IntegerHouseModel" "atomN" "[I", Cond.fieldLink RX12 295 "IntegerHouseModel" "workC" "[I", Cond.fieldLink RX12 229 "IntegerHouseModel" "atomC" "[I", Cond.fieldLink RX12 292 "IntegerHouseModel" "workF" "[I", Cond.fieldLink RX12 226 "IntegerHouseModel" "atomF" "[I", Cond.methodLink RX12 931 yX12_workAt, Cond.instanceMethod yX12_workAt, Cond.selects RX12 yX12_workAt yX12_workAt, Cond.code yX12_workAt cX12_workAt 5 (some .int), Cond.methodLink RX12 985 yX12_explore, Cond.instanceMethod yX12_explore, Cond.selects RX12 yX12_explore yX12_explore, Cond.code yX12_explore cX12_explore 5 (some .boolean), Cond.fieldLink RX12 815 "IntegerHouseModel" "variables" "I", Cond.fieldLink RX12 960 "IntegerHouseModel" "letters" "I", Cond.constant RX12 324 (32768), Cond.fieldLink RX12 325 "IntegerHouseModel" "heads" "[I", Cond.fieldLink RX12 331 "IntegerHouseModel" "image2" "[I", Cond.fieldLink RX12 317 "IntegerHouseModel" "place" "[I", Cond.fieldLink RX12 321 "IntegerHouseModel" "behind" "[I", Cond.methodLink RX12 951 yX12_findWork, Cond.instanceMethod yX12_findWork]
def wsX12_places_r3 : List Cond := [Cond.selects RX12 yX12_findWork yX12_findWork, Cond.code yX12_findWork cX12_findWork 3 none, Cond.fieldLink RX12 120 "IntegerHouseModel" "nodeCount" "[I", Cond.fieldLink RX12 108 "IntegerHouseModel" "nodeKind" "[I", Cond.fieldLink RX12 111 "IntegerHouseModel" "nodeA" "[I", Cond.fieldLink RX12 301 "IntegerHouseModel" "workOf" "[I", Cond.methodLink RX12 963 yX12_placeOf, Cond.instanceMethod yX12_placeOf, Cond.selects RX12 yX12_placeOf yX12_placeOf, Cond.code yX12_placeOf cX12_placeOf 5 (some .int), Cond.constant RX12 508 (-1640531535), Cond.fieldLink RX12 328 "IntegerHouseModel" "chain" "[I", Cond.methodLink RX12 966 yX12_halved, Cond.instanceMethod yX12_halved, Cond.selects RX12 yX12_halved yX12_halved, Cond.code yX12_halved cX12_halved 7 (some .int)]
def wsX12_places : List Cond := .code yX12_places cX12_places 1 (some .int) :: ((wsX12_places_r1 ++ (wsX12_places_r2 ++ wsX12_places_r3)) ++ wsX120)
def wsX12_own_r1 : List Cond := [Cond.fieldLink RX12 385 "IntegerHouseModel" "stateOf" "[I", Cond.fieldLink RX12 379 "IntegerHouseModel" "sort" "[I", Cond.fieldLink RX12 373 "IntegerHouseModel" "row" "[I", Cond.fieldLink RX12 1061 "IntegerHouseModel" "ownStates" "I", Cond.fieldLink RX12 960 "IntegerHouseModel" "letters" "I", Cond.fieldLink RX12 1064 "IntegerHouseModel" "ownLetters" "I", Cond.fieldLink RX12 391 "IntegerHouseModel" "ownTakes" "[I", Cond.fieldLink RX12 334 "IntegerHouseModel" "takes" "[I", Cond.fieldLink RX12 321 "IntegerHouseModel" "behind" "[I", Cond.fieldLink RX12 388 "IntegerHouseModel" "ownBehind" "[I", Cond.methodLink RX12 871 yX12_asks, Cond.instanceMethod yX12_asks, Cond.selects RX12 yX12_asks yX12_asks, Cond.initialized RX12, Cond.code yX12_asks cX12_asks 1 (some .boolean), Cond.fieldLink RX12 3 "IntegerHouseModel" "thrown" "I", Cond.fieldLink RX12 488 "IntegerHouseModel" "down" "Z", Cond.methodLink RX12 877 yX12_isClaim, Cond.instanceMethod yX12_isClaim, Cond.selects RX12 yX12_isClaim yX12_isClaim, Cond.code yX12_isClaim cX12_isClaim 2 (some .boolean), Cond.fieldLink RX12 818 "IntegerHouseModel" "claims" "I", Cond.methodLink RX12 504 yX12_in, Cond.static yX12_in]
def wsX12_own_r2 : List Cond := [Cond.code yX12_in cX12_in 6 (some .boolean), Cond.methodLink RX12 934 yX12_idle, Cond.instanceMethod yX12_idle, Cond.selects RX12 yX12_idle yX12_idle, Cond.code yX12_idle cX12_idle 2 none, Cond.fieldLink RX12 928 "IntegerHouseModel" "work" "I", Cond.fieldLink RX12 304 "IntegerHouseModel" "needed" "[Z", Cond.methodLink RX12 937 yX12_put, Cond.instanceMethod yX12_put, Cond.selects RX12 yX12_put yX12_put, Cond.code yX12_put cX12_put 5 none, Cond.fieldLink RX12 235 "IntegerHouseModel" "atomCount" "[I", Cond.fieldLink RX12 298 "IntegerHouseModel" "workN" "[I", Cond.fieldLink RX12 232 "IntegerHouseModel" "atomN" "[I", Cond.fieldLink RX12 295 "IntegerHouseModel" "workC" "[I", Cond.fieldLink RX12 229 "IntegerHouseModel" "atomC" "[I", Cond.fieldLink RX12 292 "IntegerHouseModel" "workF" "[I", Cond.fieldLink RX12 226 "IntegerHouseModel" "atomF" "[I", Cond.methodLink RX12 931 yX12_workAt, Cond.instanceMethod yX12_workAt, Cond.selects RX12 yX12_workAt yX12_workAt, Cond.code yX12_workAt cX12_workAt 5 (some .int), Cond.methodLink RX12 985 yX12_explore, Cond.instanceMethod yX12_explore]
def wsX12_own_r3 : List Cond := [Cond.selects RX12 yX12_explore yX12_explore, Cond.code yX12_explore cX12_explore 5 (some .boolean), Cond.fieldLink RX12 815 "IntegerHouseModel" "variables" "I", Cond.constant RX12 324 (32768), Cond.fieldLink RX12 325 "IntegerHouseModel" "heads" "[I", Cond.fieldLink RX12 957 "IntegerHouseModel" "places" "I", Cond.fieldLink RX12 331 "IntegerHouseModel" "image2" "[I", Cond.fieldLink RX12 317 "IntegerHouseModel" "place" "[I", Cond.methodLink RX12 951 yX12_findWork, Cond.instanceMethod yX12_findWork, Cond.selects RX12 yX12_findWork yX12_findWork, Cond.code yX12_findWork cX12_findWork 3 none, Cond.fieldLink RX12 120 "IntegerHouseModel" "nodeCount" "[I", Cond.fieldLink RX12 108 "IntegerHouseModel" "nodeKind" "[I", Cond.fieldLink RX12 111 "IntegerHouseModel" "nodeA" "[I", Cond.fieldLink RX12 301 "IntegerHouseModel" "workOf" "[I", Cond.methodLink RX12 963 yX12_placeOf, Cond.instanceMethod yX12_placeOf, Cond.selects RX12 yX12_placeOf yX12_placeOf, Cond.code yX12_placeOf cX12_placeOf 5 (some .int), Cond.constant RX12 508 (-1640531535), Cond.fieldLink RX12 328 "IntegerHouseModel" "chain" "[I", Cond.methodLink RX12 966 yX12_halved, Cond.instanceMethod yX12_halved]
def wsX12_own_r4 : List Cond := [Cond.selects RX12 yX12_halved yX12_halved, Cond.code yX12_halved cX12_halved 7 (some .int), Cond.methodLink RX12 988 yX12_judge, Cond.instanceMethod yX12_judge, Cond.selects RX12 yX12_judge yX12_judge, Cond.code yX12_judge cX12_judge 8 none, Cond.fieldLink RX12 346 "IntegerHouseModel" "keptAnswer" "[I", Cond.fieldLink RX12 337 "IntegerHouseModel" "takes2" "[I", Cond.fieldLink RX12 307 "IntegerHouseModel" "workIs" "[Z", Cond.fieldLink RX12 343 "IntegerHouseModel" "keptRow" "[I", Cond.fieldLink RX12 310 "IntegerHouseModel" "slotIs" "[Z", Cond.methodLink RX12 969 yX12_isSo, Cond.instanceMethod yX12_isSo, Cond.selects RX12 yX12_isSo yX12_isSo, Cond.code yX12_isSo cX12_isSo 7 (some .boolean), Cond.methodLink RX12 768 yX12_rest, Cond.static yX12_rest, Cond.code yX12_rest cX12_rest 6 (some .long), Cond.methodLink RX12 954 yX12_reckonSlots, Cond.instanceMethod yX12_reckonSlots, Cond.selects RX12 yX12_reckonSlots yX12_reckonSlots, Cond.code yX12_reckonSlots cX12_reckonSlots 3 none, Cond.fieldLink RX12 313 "IntegerHouseModel" "nodeIs" "[Z", Cond.fieldLink RX12 184 "IntegerHouseModel" "rootOf" "[I"]
def wsX12_own_r5 : List Cond := [Cond.methodLink RX12 946 yX12_isNode, Cond.instanceMethod yX12_isNode, Cond.selects RX12 yX12_isNode yX12_isNode, Cond.code yX12_isNode cX12_isNode 5 (some .boolean), Cond.fieldLink RX12 114 "IntegerHouseModel" "nodeB" "[I", Cond.fieldLink RX12 117 "IntegerHouseModel" "nodeNext" "[I", Cond.methodLink RX12 943 yX12_isLeaf, Cond.instanceMethod yX12_isLeaf, Cond.selects RX12 yX12_isLeaf yX12_isLeaf, Cond.code yX12_isLeaf cX12_isLeaf 6 (some .boolean), Cond.fieldLink RX12 147 "IntegerHouseModel" "leafCase" "[I", Cond.fieldLink RX12 150 "IntegerHouseModel" "leafCases" "[I", Cond.fieldLink RX12 238 "IntegerHouseModel" "caseLit" "[I", Cond.fieldLink RX12 123 "IntegerHouseModel" "leafOp" "[I", Cond.methodLink RX12 940 yX12_isLit, Cond.instanceMethod yX12_isLit, Cond.selects RX12 yX12_isLit yX12_isLit, Cond.code yX12_isLit cX12_isLit 3 (some .boolean), Cond.methodLink RX12 973 yX12_isAnswer, Cond.instanceMethod yX12_isAnswer, Cond.selects RX12 yX12_isAnswer yX12_isAnswer, Cond.code yX12_isAnswer cX12_isAnswer 5 (some .boolean), Cond.fieldLink RX12 265 "IntegerHouseModel" "isOn" "[Z", Cond.fieldLink RX12 340 "IntegerHouseModel" "isOut" "[Z"]
def wsX12_own_r6 : List Cond := [Cond.methodLink RX12 1057 yX12_sortOut, Cond.instanceMethod yX12_sortOut, Cond.selects RX12 yX12_sortOut yX12_sortOut, Cond.code yX12_sortOut cX12_sortOut 6 (some .int), Cond.fieldLink RX12 382 "IntegerHouseModel" "sort2" "[I", Cond.methodLink RX12 1053 yX12_isOneSort, Cond.instanceMethod yX12_isOneSort, Cond.selects RX12 yX12_isOneSort yX12_isOneSort, Cond.code yX12_isOneSort cX12_isOneSort 6 (some .boolean)]
def wsX12_own : List Cond := .code yX12_own cX12_own 7 (some .int) :: ((wsX12_own_r1 ++ (wsX12_own_r2 ++ (wsX12_own_r3 ++ (wsX12_own_r4 ++ (wsX12_own_r5 ++ wsX12_own_r6))))) ++ wsX120)
theorem dX0_gainFrom_0 : decode cX0_gainFrom 0 = .ok (.iload_n 1, 1) := by decide +kernel
theorem dX0_gainFrom_1 : decode cX0_gainFrom 1 = .ok (.ifCond .lt 19, 3) := by decide +kernel
theorem dX0_gainFrom_4 : decode cX0_gainFrom 4 = .ok (.iload_n 1, 1) := by decide +kernel
theorem dX0_gainFrom_5 : decode cX0_gainFrom 5 = .ok (.sipush 3000, 3) := by decide +kernel
theorem dX0_gainFrom_8 : decode cX0_gainFrom 8 = .ok (.if_icmp .ge 12, 3) := by decide +kernel
theorem dX0_gainFrom_11 : decode cX0_gainFrom 11 = .ok (.aload_n 0, 1) := by decide +kernel
theorem dX0_gainFrom_12 : decode cX0_gainFrom 12 = .ok (.getfield 28, 3) := by decide +kernel
theorem dX0_gainFrom_15 : decode cX0_gainFrom 15 = .ok (.iload_n 1, 1) := by decide +kernel
theorem dX0_gainFrom_16 : decode cX0_gainFrom 16 = .ok (.laload, 1) := by decide +kernel
theorem dX0_gainFrom_17 : decode cX0_gainFrom 17 = .ok (.goto 6, 3) := by decide +kernel
theorem dX0_gainFrom_23 : decode cX0_gainFrom 23 = .ok (.lreturn, 1) := by decide +kernel
set_option maxRecDepth 20000 in
theorem ggX0_howMany_X0_findEnds : GoodIn wsX0_howMany wsX0_findEnds := goodIn_r _ [7, 2, 8, 9, 10, 11, 12, 13, 14, 15, 16, 17, 18, 19, 20, 21, 22, 23, 67, 68, 69, 70, 71, 72, 73, 74, 75, 76, 77, 78, 79, 80, 81, 82, 83, 84, 85, 86, 87, 88, 89, 90, 91, 92, 93, 94, 95, 96, 97, 98, 99] (by decide +kernel) (by decide +kernel)
set_option maxRecDepth 20000 in
theorem gX0_howMany_X0_findEnds : GoodIn wsX0_howMany (wsV RX0 82 RX0 yX0_findEnds wsX0_findEnds) := goodIn_app (goodIn_of _ (by decide +kernel)) ggX0_howMany_X0_findEnds
set_option maxRecDepth 20000 in
theorem ggX0_howMany_X6_behind : GoodIn wsX0_howMany wsX6_behind := goodIn_r _ [27, 28, 86, 87, 88, 89, 90, 91, 92, 93, 94, 95, 96, 97, 98, 99] (by decide +kernel) (by decide +kernel)
set_option maxRecDepth 20000 in
theorem gX0_howMany_X6_behind : GoodIn wsX0_howMany (wsV RX0 95 RX6 yX6_behind wsX6_behind) := goodIn_app (goodIn_of _ (by decide +kernel)) ggX0_howMany_X6_behind
set_option maxRecDepth 20000 in
theorem ggX0_howMany_X0_endsOf : GoodIn wsX0_howMany wsX0_endsOf := goodIn_r _ [32, 12, 67, 68, 69, 70, 71, 72, 73, 74, 75, 76, 77, 78, 79, 80, 81, 82, 83, 84, 85] (by decide +kernel) (by decide +kernel)
set_option maxRecDepth 20000 in
theorem gX0_howMany_X0_endsOf : GoodIn wsX0_howMany (wsV RX0 112 RX0 yX0_endsOf wsX0_endsOf) := goodIn_app (goodIn_of _ (by decide +kernel)) ggX0_howMany_X0_endsOf
set_option maxRecDepth 20000 in
theorem ggX0_howMany_X0_mark : GoodIn wsX0_howMany wsX0_mark := goodIn_r _ [36, 1, 2, 24, 25, 26, 16, 27, 28, 37, 38, 39, 6, 40, 67, 68, 69, 70, 71, 72, 73, 74, 75, 76, 77, 78, 79, 80, 81, 82, 83, 84, 85, 86, 87, 88, 89, 90, 91, 92, 93, 94, 95, 96, 97, 98, 99] (by decide +kernel) (by decide +kernel)
set_option maxRecDepth 20000 in
theorem gX0_howMany_X0_mark : GoodIn wsX0_howMany (wsV RX0 152 RX0 yX0_mark wsX0_mark) := goodIn_app (goodIn_of _ (by decide +kernel)) ggX0_howMany_X0_mark
set_option maxRecDepth 20000 in
theorem ggX0_howMany_X0_countAll : GoodIn wsX0_howMany wsX0_countAll := goodIn_r _ [44, 45, 12, 2, 46, 47, 48, 49, 10, 50, 8, 9, 11, 51, 52, 53, 54, 55, 56, 57, 58, 59, 60, 61, 24, 25, 26, 16, 27, 28, 62, 63, 64, 6, 65, 66, 67, 68, 69, 70, 71, 72, 73, 74, 75, 76, 77, 78, 79, 80, 81, 82, 83, 84, 85, 86, 87, 88, 89, 90, 91, 92, 93, 94, 95, 96, 97, 98, 99] (by decide +kernel) (by decide +kernel)
set_option maxRecDepth 20000 in
theorem gX0_howMany_X0_countAll : GoodIn wsX0_howMany (wsV RX0 155 RX0 yX0_countAll wsX0_countAll) := goodIn_app (goodIn_of _ (by decide +kernel)) ggX0_howMany_X0_countAll
theorem dX0_howMany_0 : decode cX0_howMany 0 = .ok (.aload_n 0, 1) := by decide +kernel
theorem dX0_howMany_1 : decode cX0_howMany 1 = .ok (.iload_n 1, 1) := by decide +kernel
theorem dX0_howMany_2 : decode cX0_howMany 2 = .ok (.iconst 0, 1) := by decide +kernel
theorem dX0_howMany_3 : decode cX0_howMany 3 = .ok (.invokevirtual 82, 3) := by decide +kernel
theorem dX0_howMany_6 : decode cX0_howMany 6 = .ok (.istore_n 2, 1) := by decide +kernel
theorem dX0_howMany_7 : decode cX0_howMany 7 = .ok (.iconst 0, 1) := by decide +kernel
theorem dX0_howMany_8 : decode cX0_howMany 8 = .ok (.istore_n 3, 1) := by decide +kernel
theorem dX0_howMany_9 : decode cX0_howMany 9 = .ok (.iload_n 3, 1) := by decide +kernel
theorem dX0_howMany_10 : decode cX0_howMany 10 = .ok (.iload_n 2, 1) := by decide +kernel
theorem dX0_howMany_11 : decode cX0_howMany 11 = .ok (.if_icmp .ge 75, 3) := by decide +kernel
theorem dX0_howMany_14 : decode cX0_howMany 14 = .ok (.aload_n 0, 1) := by decide +kernel
theorem dX0_howMany_15 : decode cX0_howMany 15 = .ok (.getfield 18, 3) := by decide +kernel
theorem dX0_howMany_18 : decode cX0_howMany 18 = .ok (.iload_n 3, 1) := by decide +kernel
theorem dX0_howMany_19 : decode cX0_howMany 19 = .ok (.iconst 0, 1) := by decide +kernel
theorem dX0_howMany_20 : decode cX0_howMany 20 = .ok (.iastore, 1) := by decide +kernel
theorem dX0_howMany_21 : decode cX0_howMany 21 = .ok (.iconst 0, 1) := by decide +kernel
theorem dX0_howMany_22 : decode cX0_howMany 22 = .ok (.istore 4, 2) := by decide +kernel
theorem dX0_howMany_24 : decode cX0_howMany 24 = .ok (.iload 4, 2) := by decide +kernel
theorem dX0_howMany_26 : decode cX0_howMany 26 = .ok (.aload_n 0, 1) := by decide +kernel
theorem dX0_howMany_27 : decode cX0_howMany 27 = .ok (.getfield 48, 3) := by decide +kernel
theorem dX0_howMany_30 : decode cX0_howMany 30 = .ok (.getfield 92, 3) := by decide +kernel
theorem dX0_howMany_33 : decode cX0_howMany 33 = .ok (.if_icmp .ge 47, 3) := by decide +kernel
theorem dX0_howMany_36 : decode cX0_howMany 36 = .ok (.aload_n 0, 1) := by decide +kernel
theorem dX0_howMany_37 : decode cX0_howMany 37 = .ok (.getfield 18, 3) := by decide +kernel
theorem dX0_howMany_40 : decode cX0_howMany 40 = .ok (.iload_n 3, 1) := by decide +kernel
theorem dX0_howMany_41 : decode cX0_howMany 41 = .ok (.dup2, 1) := by decide +kernel
theorem dX0_howMany_42 : decode cX0_howMany 42 = .ok (.iaload, 1) := by decide +kernel
theorem dX0_howMany_43 : decode cX0_howMany 43 = .ok (.aload_n 0, 1) := by decide +kernel
theorem dX0_howMany_44 : decode cX0_howMany 44 = .ok (.aload_n 0, 1) := by decide +kernel
theorem dX0_howMany_45 : decode cX0_howMany 45 = .ok (.getfield 48, 3) := by decide +kernel
theorem dX0_howMany_48 : decode cX0_howMany 48 = .ok (.iload_n 3, 1) := by decide +kernel
theorem dX0_howMany_49 : decode cX0_howMany 49 = .ok (.iload 4, 2) := by decide +kernel
theorem dX0_howMany_51 : decode cX0_howMany 51 = .ok (.invokevirtual 95, 3) := by decide +kernel
theorem dX0_howMany_54 : decode cX0_howMany 54 = .ok (.invokevirtual 112, 3) := by decide +kernel
theorem dX0_howMany_57 : decode cX0_howMany 57 = .ok (.iconst 1, 1) := by decide +kernel
theorem dX0_howMany_58 : decode cX0_howMany 58 = .ok (.iload 4, 2) := by decide +kernel
theorem dX0_howMany_60 : decode cX0_howMany 60 = .ok (.ishl, 1) := by decide +kernel
theorem dX0_howMany_61 : decode cX0_howMany 61 = .ok (.iconst (-1), 1) := by decide +kernel
theorem dX0_howMany_62 : decode cX0_howMany 62 = .ok (.ixor, 1) := by decide +kernel
theorem dX0_howMany_63 : decode cX0_howMany 63 = .ok (.iand, 1) := by decide +kernel
theorem dX0_howMany_64 : decode cX0_howMany 64 = .ok (.ifCond .eq 7, 3) := by decide +kernel
theorem dX0_howMany_71 : decode cX0_howMany 71 = .ok (.iconst 0, 1) := by decide +kernel
theorem dX0_howMany_72 : decode cX0_howMany 72 = .ok (.ior, 1) := by decide +kernel
theorem dX0_howMany_73 : decode cX0_howMany 73 = .ok (.iastore, 1) := by decide +kernel
theorem dX0_howMany_74 : decode cX0_howMany 74 = .ok (.iinc 4 1, 3) := by decide +kernel
theorem dX0_howMany_77 : decode cX0_howMany 77 = .ok (.goto (-53), 3) := by decide +kernel
theorem dX0_howMany_80 : decode cX0_howMany 80 = .ok (.iinc 3 1, 3) := by decide +kernel
theorem dX0_howMany_83 : decode cX0_howMany 83 = .ok (.goto (-74), 3) := by decide +kernel
theorem dX0_howMany_86 : decode cX0_howMany 86 = .ok (.iconst 1, 1) := by decide +kernel
theorem dX0_howMany_87 : decode cX0_howMany 87 = .ok (.istore_n 3, 1) := by decide +kernel
theorem dX0_howMany_88 : decode cX0_howMany 88 = .ok (.iconst 0, 1) := by decide +kernel
theorem dX0_howMany_89 : decode cX0_howMany 89 = .ok (.istore 4, 2) := by decide +kernel
theorem dX0_howMany_91 : decode cX0_howMany 91 = .ok (.iload 4, 2) := by decide +kernel
theorem dX0_howMany_93 : decode cX0_howMany 93 = .ok (.iload_n 2, 1) := by decide +kernel
theorem dX0_howMany_94 : decode cX0_howMany 94 = .ok (.if_icmp .gt 20, 3) := by decide +kernel
theorem dX0_howMany_97 : decode cX0_howMany 97 = .ok (.iload_n 3, 1) := by decide +kernel
theorem dX0_howMany_98 : decode cX0_howMany 98 = .ok (.ifCond .eq 16, 3) := by decide +kernel
theorem dX0_howMany_101 : decode cX0_howMany 101 = .ok (.aload_n 0, 1) := by decide +kernel
theorem dX0_howMany_102 : decode cX0_howMany 102 = .ok (.iload_n 2, 1) := by decide +kernel
theorem dX0_howMany_103 : decode cX0_howMany 103 = .ok (.iconst 0, 1) := by decide +kernel
theorem dX0_howMany_104 : decode cX0_howMany 104 = .ok (.invokevirtual 152, 3) := by decide +kernel
theorem dX0_howMany_107 : decode cX0_howMany 107 = .ok (.istore_n 3, 1) := by decide +kernel
theorem dX0_howMany_108 : decode cX0_howMany 108 = .ok (.iinc 4 1, 3) := by decide +kernel
theorem dX0_howMany_111 : decode cX0_howMany 111 = .ok (.goto (-20), 3) := by decide +kernel
theorem dX0_howMany_114 : decode cX0_howMany 114 = .ok (.iconst 1, 1) := by decide +kernel
theorem dX0_howMany_115 : decode cX0_howMany 115 = .ok (.istore 4, 2) := by decide +kernel
theorem dX0_howMany_117 : decode cX0_howMany 117 = .ok (.iconst 0, 1) := by decide +kernel
theorem dX0_howMany_118 : decode cX0_howMany 118 = .ok (.istore 5, 2) := by decide +kernel
theorem dX0_howMany_120 : decode cX0_howMany 120 = .ok (.iload 5, 2) := by decide +kernel
theorem dX0_howMany_122 : decode cX0_howMany 122 = .ok (.iload_n 2, 1) := by decide +kernel
theorem dX0_howMany_123 : decode cX0_howMany 123 = .ok (.if_icmp .gt 22, 3) := by decide +kernel
theorem dX0_howMany_126 : decode cX0_howMany 126 = .ok (.iload 4, 2) := by decide +kernel
theorem dX0_howMany_128 : decode cX0_howMany 128 = .ok (.ifCond .eq 17, 3) := by decide +kernel
theorem dX0_howMany_131 : decode cX0_howMany 131 = .ok (.aload_n 0, 1) := by decide +kernel
theorem dX0_howMany_132 : decode cX0_howMany 132 = .ok (.iload_n 2, 1) := by decide +kernel
theorem dX0_howMany_133 : decode cX0_howMany 133 = .ok (.iconst 1, 1) := by decide +kernel
theorem dX0_howMany_134 : decode cX0_howMany 134 = .ok (.invokevirtual 152, 3) := by decide +kernel
theorem dX0_howMany_137 : decode cX0_howMany 137 = .ok (.istore 4, 2) := by decide +kernel
theorem dX0_howMany_139 : decode cX0_howMany 139 = .ok (.iinc 5 1, 3) := by decide +kernel
theorem dX0_howMany_142 : decode cX0_howMany 142 = .ok (.goto (-22), 3) := by decide +kernel
theorem dX0_howMany_145 : decode cX0_howMany 145 = .ok (.iconst 0, 1) := by decide +kernel
theorem dX0_howMany_146 : decode cX0_howMany 146 = .ok (.istore 5, 2) := by decide +kernel
theorem dX0_howMany_148 : decode cX0_howMany 148 = .ok (.iload 5, 2) := by decide +kernel
theorem dX0_howMany_150 : decode cX0_howMany 150 = .ok (.iload_n 2, 1) := by decide +kernel
theorem dX0_howMany_151 : decode cX0_howMany 151 = .ok (.if_icmp .ge 23, 3) := by decide +kernel
theorem dX0_howMany_154 : decode cX0_howMany 154 = .ok (.aload_n 0, 1) := by decide +kernel
theorem dX0_howMany_155 : decode cX0_howMany 155 = .ok (.getfield 18, 3) := by decide +kernel
theorem dX0_howMany_158 : decode cX0_howMany 158 = .ok (.iload 5, 2) := by decide +kernel
theorem dX0_howMany_160 : decode cX0_howMany 160 = .ok (.iaload, 1) := by decide +kernel
theorem dX0_howMany_161 : decode cX0_howMany 161 = .ok (.iconst 1, 1) := by decide +kernel
theorem dX0_howMany_162 : decode cX0_howMany 162 = .ok (.if_icmp .ne 6, 3) := by decide +kernel
theorem dX0_howMany_168 : decode cX0_howMany 168 = .ok (.iinc 5 1, 3) := by decide +kernel
theorem dX0_howMany_171 : decode cX0_howMany 171 = .ok (.goto (-23), 3) := by decide +kernel
theorem dX0_howMany_174 : decode cX0_howMany 174 = .ok (.aload_n 0, 1) := by decide +kernel
theorem dX0_howMany_175 : decode cX0_howMany 175 = .ok (.iload_n 2, 1) := by decide +kernel
theorem dX0_howMany_176 : decode cX0_howMany 176 = .ok (.invokevirtual 155, 3) := by decide +kernel
theorem dX0_howMany_179 : decode cX0_howMany 179 = .ok (.ireturn, 1) := by decide +kernel
set_option maxRecDepth 20000 in
theorem ggX0_countAll_J6_bitCount_0f7a4 : GoodIn wsX0_countAll wsJ6_bitCount_0f7a4 := goodIn_r _ [20, 21, 22, 23] (by decide +kernel) (by decide +kernel)
set_option maxRecDepth 20000 in
theorem gX0_countAll_J6_bitCount_0f7a4 : GoodIn wsX0_countAll (va_wsS RX0 158 yJ6_bitCount_0f7a4 wsJ6_bitCount_0f7a4) := goodIn_app (goodIn_of _ (by decide +kernel)) ggX0_countAll_J6_bitCount_0f7a4
set_option maxRecDepth 20000 in
theorem ggX0_countAll_X6_behind : GoodIn wsX0_countAll wsX6_behind := goodIn_r _ [28, 29, 55, 56, 57, 58, 59, 60, 61, 62, 63, 64, 65, 66, 67, 68] (by decide +kernel) (by decide +kernel)
set_option maxRecDepth 20000 in
theorem gX0_countAll_X6_behind : GoodIn wsX0_countAll (wsV RX0 95 RX6 yX6_behind wsX6_behind) := goodIn_app (goodIn_of _ (by decide +kernel)) ggX0_countAll_X6_behind
set_option maxRecDepth 20000 in
theorem ggX0_countAll_X0_gainFrom : GoodIn wsX0_countAll wsX0_gainFrom := goodIn_r _ [34, 1, 35, 36, 37, 38, 39, 40, 41, 42, 43, 44, 45, 46, 47, 48, 49, 50, 51, 52, 53, 54] (by decide +kernel) (by decide +kernel)
set_option maxRecDepth 20000 in
theorem gX0_countAll_X0_gainFrom : GoodIn wsX0_countAll (wsV RX0 138 RX0 yX0_gainFrom wsX0_gainFrom) := goodIn_app (goodIn_of _ (by decide +kernel)) ggX0_countAll_X0_gainFrom
theorem dX0_countAll_0 : decode cX0_countAll 0 = .ok (.iconst 0, 1) := by decide +kernel
theorem dX0_countAll_1 : decode cX0_countAll 1 = .ok (.istore_n 2, 1) := by decide +kernel
theorem dX0_countAll_2 : decode cX0_countAll 2 = .ok (.iload_n 2, 1) := by decide +kernel
theorem dX0_countAll_3 : decode cX0_countAll 3 = .ok (.iload_n 1, 1) := by decide +kernel
theorem dX0_countAll_4 : decode cX0_countAll 4 = .ok (.if_icmp .ge 32, 3) := by decide +kernel
theorem dX0_countAll_7 : decode cX0_countAll 7 = .ok (.iload_n 2, 1) := by decide +kernel
theorem dX0_countAll_8 : decode cX0_countAll 8 = .ok (.sipush 3000, 3) := by decide +kernel
theorem dX0_countAll_11 : decode cX0_countAll 11 = .ok (.if_icmp .ge 25, 3) := by decide +kernel
theorem dX0_countAll_14 : decode cX0_countAll 14 = .ok (.aload_n 0, 1) := by decide +kernel
theorem dX0_countAll_15 : decode cX0_countAll 15 = .ok (.getfield 28, 3) := by decide +kernel
theorem dX0_countAll_18 : decode cX0_countAll 18 = .ok (.iload_n 2, 1) := by decide +kernel
theorem dX0_countAll_19 : decode cX0_countAll 19 = .ok (.aload_n 0, 1) := by decide +kernel
theorem dX0_countAll_20 : decode cX0_countAll 20 = .ok (.getfield 22, 3) := by decide +kernel
theorem dX0_countAll_23 : decode cX0_countAll 23 = .ok (.iload_n 2, 1) := by decide +kernel
theorem dX0_countAll_24 : decode cX0_countAll 24 = .ok (.iaload, 1) := by decide +kernel
theorem dX0_countAll_25 : decode cX0_countAll 25 = .ok (.invokestatic 158, 3) := by decide +kernel
theorem dX0_countAll_28 : decode cX0_countAll 28 = .ok (.i2l, 1) := by decide +kernel
theorem dX0_countAll_29 : decode cX0_countAll 29 = .ok (.lastore, 1) := by decide +kernel
theorem dX0_countAll_30 : decode cX0_countAll 30 = .ok (.iinc 2 1, 3) := by decide +kernel
theorem dX0_countAll_33 : decode cX0_countAll 33 = .ok (.goto (-31), 3) := by decide +kernel
theorem dX0_countAll_36 : decode cX0_countAll 36 = .ok (.iconst 1, 1) := by decide +kernel
theorem dX0_countAll_37 : decode cX0_countAll 37 = .ok (.istore_n 2, 1) := by decide +kernel
theorem dX0_countAll_38 : decode cX0_countAll 38 = .ok (.iconst 0, 1) := by decide +kernel
theorem dX0_countAll_39 : decode cX0_countAll 39 = .ok (.istore_n 3, 1) := by decide +kernel
theorem dX0_countAll_40 : decode cX0_countAll 40 = .ok (.iload_n 3, 1) := by decide +kernel
theorem dX0_countAll_41 : decode cX0_countAll 41 = .ok (.iload_n 1, 1) := by decide +kernel
theorem dX0_countAll_42 : decode cX0_countAll 42 = .ok (.if_icmp .gt 135, 3) := by decide +kernel
theorem dX0_countAll_45 : decode cX0_countAll 45 = .ok (.iload_n 2, 1) := by decide +kernel
theorem dX0_countAll_46 : decode cX0_countAll 46 = .ok (.ifCond .eq 131, 3) := by decide +kernel
theorem dX0_countAll_49 : decode cX0_countAll 49 = .ok (.iconst 0, 1) := by decide +kernel
theorem dX0_countAll_50 : decode cX0_countAll 50 = .ok (.istore_n 2, 1) := by decide +kernel
theorem dX0_countAll_51 : decode cX0_countAll 51 = .ok (.iconst 0, 1) := by decide +kernel
theorem dX0_countAll_52 : decode cX0_countAll 52 = .ok (.istore 4, 2) := by decide +kernel
theorem dX0_countAll_54 : decode cX0_countAll 54 = .ok (.iload 4, 2) := by decide +kernel
theorem dX0_countAll_56 : decode cX0_countAll 56 = .ok (.iload_n 1, 1) := by decide +kernel
theorem dX0_countAll_57 : decode cX0_countAll 57 = .ok (.if_icmp .ge 94, 3) := by decide +kernel
theorem dX0_countAll_60 : decode cX0_countAll 60 = .ok (.lconst 0, 1) := by decide +kernel
theorem dX0_countAll_61 : decode cX0_countAll 61 = .ok (.lstore 5, 2) := by decide +kernel
theorem dX0_countAll_63 : decode cX0_countAll 63 = .ok (.iconst 0, 1) := by decide +kernel
theorem dX0_countAll_64 : decode cX0_countAll 64 = .ok (.istore 7, 2) := by decide +kernel
theorem dX0_countAll_66 : decode cX0_countAll 66 = .ok (.iload 7, 2) := by decide +kernel
theorem dX0_countAll_68 : decode cX0_countAll 68 = .ok (.aload_n 0, 1) := by decide +kernel
theorem dX0_countAll_69 : decode cX0_countAll 69 = .ok (.getfield 48, 3) := by decide +kernel
theorem dX0_countAll_72 : decode cX0_countAll 72 = .ok (.getfield 92, 3) := by decide +kernel
theorem dX0_countAll_75 : decode cX0_countAll 75 = .ok (.if_icmp .ge 29, 3) := by decide +kernel
theorem dX0_countAll_78 : decode cX0_countAll 78 = .ok (.lload 5, 2) := by decide +kernel
theorem dX0_countAll_80 : decode cX0_countAll 80 = .ok (.aload_n 0, 1) := by decide +kernel
theorem dX0_countAll_81 : decode cX0_countAll 81 = .ok (.aload_n 0, 1) := by decide +kernel
theorem dX0_countAll_82 : decode cX0_countAll 82 = .ok (.getfield 48, 3) := by decide +kernel
theorem dX0_countAll_85 : decode cX0_countAll 85 = .ok (.iload 4, 2) := by decide +kernel
theorem dX0_countAll_87 : decode cX0_countAll 87 = .ok (.iload 7, 2) := by decide +kernel
theorem dX0_countAll_89 : decode cX0_countAll 89 = .ok (.invokevirtual 95, 3) := by decide +kernel
theorem dX0_countAll_92 : decode cX0_countAll 92 = .ok (.invokevirtual 138, 3) := by decide +kernel
theorem dX0_countAll_95 : decode cX0_countAll 95 = .ok (.ladd, 1) := by decide +kernel
theorem dX0_countAll_96 : decode cX0_countAll 96 = .ok (.lstore 5, 2) := by decide +kernel
theorem dX0_countAll_98 : decode cX0_countAll 98 = .ok (.iinc 7 1, 3) := by decide +kernel
theorem dX0_countAll_101 : decode cX0_countAll 101 = .ok (.goto (-35), 3) := by decide +kernel
theorem dX0_countAll_104 : decode cX0_countAll 104 = .ok (.aload_n 0, 1) := by decide +kernel
theorem dX0_countAll_105 : decode cX0_countAll 105 = .ok (.getfield 31, 3) := by decide +kernel
theorem dX0_countAll_108 : decode cX0_countAll 108 = .ok (.iload 4, 2) := by decide +kernel
theorem dX0_countAll_110 : decode cX0_countAll 110 = .ok (.lload 5, 2) := by decide +kernel
theorem dX0_countAll_112 : decode cX0_countAll 112 = .ok (.ldc2_w 163, 3) := by decide +kernel
theorem dX0_countAll_115 : decode cX0_countAll 115 = .ok (.invokestatic 165, 3) := by decide +kernel
theorem dX0_countAll_118 : decode cX0_countAll 118 = .ok (.lastore, 1) := by decide +kernel
theorem dX0_countAll_119 : decode cX0_countAll 119 = .ok (.iload_n 2, 1) := by decide +kernel
theorem dX0_countAll_120 : decode cX0_countAll 120 = .ok (.aload_n 0, 1) := by decide +kernel
theorem dX0_countAll_121 : decode cX0_countAll 121 = .ok (.getfield 31, 3) := by decide +kernel
theorem dX0_countAll_124 : decode cX0_countAll 124 = .ok (.iload 4, 2) := by decide +kernel
theorem dX0_countAll_126 : decode cX0_countAll 126 = .ok (.laload, 1) := by decide +kernel
theorem dX0_countAll_127 : decode cX0_countAll 127 = .ok (.aload_n 0, 1) := by decide +kernel
theorem dX0_countAll_128 : decode cX0_countAll 128 = .ok (.getfield 28, 3) := by decide +kernel
theorem dX0_countAll_131 : decode cX0_countAll 131 = .ok (.iload 4, 2) := by decide +kernel
theorem dX0_countAll_133 : decode cX0_countAll 133 = .ok (.laload, 1) := by decide +kernel
theorem dX0_countAll_134 : decode cX0_countAll 134 = .ok (.lcmp, 1) := by decide +kernel
theorem dX0_countAll_135 : decode cX0_countAll 135 = .ok (.ifCond .eq 7, 3) := by decide +kernel
theorem dX0_countAll_142 : decode cX0_countAll 142 = .ok (.iconst 0, 1) := by decide +kernel
theorem dX0_countAll_143 : decode cX0_countAll 143 = .ok (.ior, 1) := by decide +kernel
theorem dX0_countAll_144 : decode cX0_countAll 144 = .ok (.istore_n 2, 1) := by decide +kernel
theorem dX0_countAll_145 : decode cX0_countAll 145 = .ok (.iinc 4 1, 3) := by decide +kernel
theorem dX0_countAll_148 : decode cX0_countAll 148 = .ok (.goto (-94), 3) := by decide +kernel
theorem dX0_countAll_151 : decode cX0_countAll 151 = .ok (.aload_n 0, 1) := by decide +kernel
theorem dX0_countAll_152 : decode cX0_countAll 152 = .ok (.getfield 31, 3) := by decide +kernel
theorem dX0_countAll_155 : decode cX0_countAll 155 = .ok (.iconst 0, 1) := by decide +kernel
theorem dX0_countAll_156 : decode cX0_countAll 156 = .ok (.aload_n 0, 1) := by decide +kernel
theorem dX0_countAll_157 : decode cX0_countAll 157 = .ok (.getfield 28, 3) := by decide +kernel
theorem dX0_countAll_160 : decode cX0_countAll 160 = .ok (.iconst 0, 1) := by decide +kernel
theorem dX0_countAll_161 : decode cX0_countAll 161 = .ok (.iload_n 1, 1) := by decide +kernel
theorem dX0_countAll_162 : decode cX0_countAll 162 = .ok (.sipush 3000, 3) := by decide +kernel
theorem dX0_countAll_165 : decode cX0_countAll 165 = .ok (.invokestatic 75, 3) := by decide +kernel
theorem dX0_countAll_168 : decode cX0_countAll 168 = .ok (.invokestatic 146, 3) := by decide +kernel
theorem dX0_countAll_171 : decode cX0_countAll 171 = .ok (.iinc 3 1, 3) := by decide +kernel
theorem dX0_countAll_174 : decode cX0_countAll 174 = .ok (.goto (-134), 3) := by decide +kernel
theorem dX0_countAll_177 : decode cX0_countAll 177 = .ok (.aload_n 0, 1) := by decide +kernel
theorem dX0_countAll_178 : decode cX0_countAll 178 = .ok (.getfield 28, 3) := by decide +kernel
theorem dX0_countAll_181 : decode cX0_countAll 181 = .ok (.iconst 0, 1) := by decide +kernel
theorem dX0_countAll_182 : decode cX0_countAll 182 = .ok (.laload, 1) := by decide +kernel
theorem dX0_countAll_183 : decode cX0_countAll 183 = .ok (.l2i, 1) := by decide +kernel
theorem dX0_countAll_184 : decode cX0_countAll 184 = .ok (.ireturn, 1) := by decide +kernel
set_option maxRecDepth 20000 in
theorem ggX0_anyModel_X6_acceptedBy : GoodIn wsX0_anyModel wsX6_acceptedBy := goodIn_r _ [6, 7, 8, 9, 10, 5, 11, 12, 32, 33, 34, 35, 36, 37, 38, 39, 40, 41, 42, 43, 44, 45] (by decide +kernel) (by decide +kernel)
set_option maxRecDepth 20000 in
theorem gX0_anyModel_X6_acceptedBy : GoodIn wsX0_anyModel (wsV RX0 78 RX6 yX6_acceptedBy wsX6_acceptedBy) := goodIn_app (goodIn_of _ (by decide +kernel)) ggX0_anyModel_X6_acceptedBy
theorem dX0_anyModel_0 : decode cX0_anyModel 0 = .ok (.iconst 0, 1) := by decide +kernel
theorem dX0_anyModel_1 : decode cX0_anyModel 1 = .ok (.istore_n 2, 1) := by decide +kernel
theorem dX0_anyModel_2 : decode cX0_anyModel 2 = .ok (.iload_n 2, 1) := by decide +kernel
theorem dX0_anyModel_3 : decode cX0_anyModel 3 = .ok (.aload_n 0, 1) := by decide +kernel
theorem dX0_anyModel_4 : decode cX0_anyModel 4 = .ok (.getfield 48, 3) := by decide +kernel
theorem dX0_anyModel_7 : decode cX0_anyModel 7 = .ok (.getfield 72, 3) := by decide +kernel
theorem dX0_anyModel_10 : decode cX0_anyModel 10 = .ok (.if_icmp .ge 24, 3) := by decide +kernel
theorem dX0_anyModel_13 : decode cX0_anyModel 13 = .ok (.aload_n 0, 1) := by decide +kernel
theorem dX0_anyModel_14 : decode cX0_anyModel 14 = .ok (.getfield 48, 3) := by decide +kernel
theorem dX0_anyModel_17 : decode cX0_anyModel 17 = .ok (.iload_n 2, 1) := by decide +kernel
theorem dX0_anyModel_18 : decode cX0_anyModel 18 = .ok (.iload_n 1, 1) := by decide +kernel
theorem dX0_anyModel_19 : decode cX0_anyModel 19 = .ok (.iconst 0, 1) := by decide +kernel
theorem dX0_anyModel_20 : decode cX0_anyModel 20 = .ok (.invokevirtual 78, 3) := by decide +kernel
theorem dX0_anyModel_23 : decode cX0_anyModel 23 = .ok (.ifCond .eq 5, 3) := by decide +kernel
theorem dX0_anyModel_26 : decode cX0_anyModel 26 = .ok (.iconst 1, 1) := by decide +kernel
theorem dX0_anyModel_27 : decode cX0_anyModel 27 = .ok (.ireturn, 1) := by decide +kernel
set_option maxRecDepth 20000 in
theorem ggX0_tellCore_X0_anyModel : GoodIn wsX0_tellCore wsX0_anyModel := goodIn_r _ [7, 8, 9, 10, 11, 12, 13, 14, 15, 16, 17, 18, 19, 20, 21, 22, 23, 24, 25, 26, 27, 28, 29, 30, 31, 32, 33, 34, 35, 36, 37, 38, 39, 40, 41, 42, 43, 44, 45, 46, 47, 48, 49, 50, 51, 52] (by decide +kernel) (by decide +kernel)
set_option maxRecDepth 20000 in
theorem gX0_tellCore_X0_anyModel : GoodIn wsX0_tellCore (wsV RX0 170 RX0 yX0_anyModel wsX0_anyModel) := goodIn_app (goodIn_of _ (by decide +kernel)) ggX0_tellCore_X0_anyModel
theorem dX0_tellCore_0 : decode cX0_tellCore 0 = .ok (.aload_n 0, 1) := by decide +kernel
theorem dX0_tellCore_1 : decode cX0_tellCore 1 = .ok (.iconst 0, 1) := by decide +kernel
theorem dX0_tellCore_2 : decode cX0_tellCore 2 = .ok (.putfield 167, 3) := by decide +kernel
theorem dX0_tellCore_5 : decode cX0_tellCore 5 = .ok (.aload_n 0, 1) := by decide +kernel
theorem dX0_tellCore_6 : decode cX0_tellCore 6 = .ok (.iload_n 1, 1) := by decide +kernel
theorem dX0_tellCore_7 : decode cX0_tellCore 7 = .ok (.invokevirtual 170, 3) := by decide +kernel
theorem dX0_tellCore_10 : decode cX0_tellCore 10 = .ok (.ifCond .eq 5, 3) := by decide +kernel
theorem dX0_tellCore_13 : decode cX0_tellCore 13 = .ok (.iconst 0, 1) := by decide +kernel
theorem dX0_tellCore_14 : decode cX0_tellCore 14 = .ok (.ireturn, 1) := by decide +kernel
theorem dX0_toldInCore_0 : decode cX0_toldInCore 0 = .ok (.iload_n 1, 1) := by decide +kernel
theorem dX0_toldInCore_1 : decode cX0_toldInCore 1 = .ok (.ifCond .lt 26, 3) := by decide +kernel
theorem dX0_toldInCore_4 : decode cX0_toldInCore 4 = .ok (.iload_n 1, 1) := by decide +kernel
theorem dX0_toldInCore_5 : decode cX0_toldInCore 5 = .ok (.aload_n 0, 1) := by decide +kernel
theorem dX0_toldInCore_6 : decode cX0_toldInCore 6 = .ok (.getfield 167, 3) := by decide +kernel
theorem dX0_toldInCore_9 : decode cX0_toldInCore 9 = .ok (.if_icmp .ge 18, 3) := by decide +kernel
theorem dX0_toldInCore_27 : decode cX0_toldInCore 27 = .ok (.iconst (-1), 1) := by decide +kernel
theorem dX0_toldInCore_28 : decode cX0_toldInCore 28 = .ok (.ireturn, 1) := by decide +kernel
set_option maxRecDepth 20000 in
theorem ggX11_many_X6_judge : GoodIn wsX11_many wsX6_judge := goodIn_r _ [9, 10, 11, 12, 13, 14, 15, 8, 16, 17, 18, 19, 20, 21, 22, 23, 24, 25, 26, 27, 28, 29, 30, 31, 32, 33, 34, 35, 36, 37, 38, 39, 40, 41, 42, 43, 44, 45, 46, 47, 48, 49, 50, 51, 52, 53, 54, 55, 56, 57, 58, 59, 60, 61, 62, 63, 64, 65, 66, 67, 68, 69, 70, 71, 72, 73, 74, 75, 76, 77, 78, 79, 80, 81, 82, 83, 84, 85, 86, 87, 88, 89, 90, 91, 92, 93, 94, 95, 96, 97, 201, 202, 203, 204, 205, 206, 207, 208, 209, 210, 211, 212, 213, 214, 185, 186, 187, 188, 189, 190, 191, 192, 193, 194, 195, 196, 197, 198, 199, 200] (by decide +kernel) (by decide +kernel)
set_option maxRecDepth 20000 in
theorem gX11_many_X6_judge : GoodIn wsX11_many (wsV RX11 298 RX6 yX6_judge wsX6_judge) := goodIn_app (goodIn_of _ (by decide +kernel)) ggX11_many_X6_judge
set_option maxRecDepth 20000 in
theorem ggX11_many_X0_howMany : GoodIn wsX11_many wsX0_howMany := goodIn_r _ [102, 103, 104, 105, 106, 107, 101, 108, 109, 30, 31, 32, 110, 111, 112, 113, 8, 114, 11, 115, 116, 117, 118, 12, 119, 120, 121, 122, 23, 123, 124, 125, 126, 127, 128, 129, 130, 131, 132, 133, 134, 135, 136, 137, 138, 139, 140, 141, 142, 143, 144, 145, 146, 147, 148, 149, 150, 151, 152, 153, 154, 155, 156, 157, 158, 159, 160, 215, 216, 217, 218, 219, 220, 221, 222, 223, 224, 225, 226, 227, 228, 229, 230, 231, 232, 233, 201, 202, 203, 204, 205, 206, 207, 208, 209, 210, 211, 212, 213, 214] (by decide +kernel) (by decide +kernel)
set_option maxRecDepth 20000 in
theorem gX11_many_X0_howMany : GoodIn wsX11_many (wsV RX11 339 RX0 yX0_howMany wsX0_howMany) := goodIn_app (goodIn_of _ (by decide +kernel)) ggX11_many_X0_howMany
theorem dX11_many_0 : decode cX11_many 0 = .ok (.aload_n 0, 1) := by decide +kernel
theorem dX11_many_1 : decode cX11_many 1 = .ok (.getfield 16, 3) := by decide +kernel
theorem dX11_many_4 : decode cX11_many 4 = .ok (.getfield 122, 3) := by decide +kernel
theorem dX11_many_7 : decode cX11_many 7 = .ok (.ifCond .eq 6, 3) := by decide +kernel
theorem dX11_many_13 : decode cX11_many 13 = .ok (.aload_n 0, 1) := by decide +kernel
theorem dX11_many_14 : decode cX11_many 14 = .ok (.getfield 55, 3) := by decide +kernel
theorem dX11_many_17 : decode cX11_many 17 = .ok (.aload_n 0, 1) := by decide +kernel
theorem dX11_many_18 : decode cX11_many 18 = .ok (.getfield 23, 3) := by decide +kernel
theorem dX11_many_21 : decode cX11_many 21 = .ok (.getfield 213, 3) := by decide +kernel
theorem dX11_many_24 : decode cX11_many 24 = .ok (.invokevirtual 298, 3) := by decide +kernel
theorem dX11_many_27 : decode cX11_many 27 = .ok (.ifCond .eq 20, 3) := by decide +kernel
theorem dX11_many_30 : decode cX11_many 30 = .ok (.aload_n 0, 1) := by decide +kernel
theorem dX11_many_31 : decode cX11_many 31 = .ok (.getfield 64, 3) := by decide +kernel
theorem dX11_many_34 : decode cX11_many 34 = .ok (.aload_n 0, 1) := by decide +kernel
theorem dX11_many_35 : decode cX11_many 35 = .ok (.getfield 23, 3) := by decide +kernel
theorem dX11_many_38 : decode cX11_many 38 = .ok (.getfield 213, 3) := by decide +kernel
theorem dX11_many_41 : decode cX11_many 41 = .ok (.invokevirtual 339, 3) := by decide +kernel
theorem dX11_many_44 : decode cX11_many 44 = .ok (.goto 5, 3) := by decide +kernel
theorem dX11_many_49 : decode cX11_many 49 = .ok (.ireturn, 1) := by decide +kernel
set_option maxRecDepth 20000 in
theorem ggX11_core_X6_judge : GoodIn wsX11_core wsX6_judge := goodIn_r _ [9, 10, 11, 12, 13, 14, 15, 8, 16, 17, 18, 19, 20, 21, 22, 23, 24, 25, 26, 27, 28, 29, 30, 31, 32, 33, 34, 35, 36, 37, 38, 39, 40, 41, 42, 43, 44, 45, 46, 47, 48, 49, 50, 51, 52, 53, 54, 55, 56, 57, 58, 59, 60, 61, 62, 63, 64, 65, 66, 67, 68, 69, 70, 71, 72, 73, 74, 75, 76, 77, 78, 79, 80, 81, 82, 83, 84, 85, 86, 87, 88, 89, 90, 91, 92, 93, 94, 95, 96, 97, 158, 159, 160, 161, 162, 163, 164, 165, 166, 167, 168, 169, 170, 171, 142, 143, 144, 145, 146, 147, 148, 149, 150, 151, 152, 153, 154, 155, 156, 157] (by decide +kernel) (by decide +kernel)
set_option maxRecDepth 20000 in
theorem gX11_core_X6_judge : GoodIn wsX11_core (wsV RX11 298 RX6 yX6_judge wsX6_judge) := goodIn_app (goodIn_of _ (by decide +kernel)) ggX11_core_X6_judge
set_option maxRecDepth 20000 in
theorem ggX11_core_X0_tellCore : GoodIn wsX11_core wsX0_tellCore := goodIn_r _ [102, 103, 104, 105, 106, 107, 101, 108, 109, 110, 111, 112, 8, 113, 11, 114, 115, 116, 117, 12, 172, 173, 174, 175, 176, 177, 178, 179, 180, 181, 182, 183, 184, 185, 186, 187, 188, 189, 190, 158, 159, 160, 161, 162, 163, 164, 165, 166, 167, 168, 169, 170, 171] (by decide +kernel) (by decide +kernel)
set_option maxRecDepth 20000 in
theorem gX11_core_X0_tellCore : GoodIn wsX11_core (wsV RX11 342 RX0 yX0_tellCore wsX0_tellCore) := goodIn_app (goodIn_of _ (by decide +kernel)) ggX11_core_X0_tellCore
theorem dX11_core_0 : decode cX11_core 0 = .ok (.aload_n 0, 1) := by decide +kernel
theorem dX11_core_1 : decode cX11_core 1 = .ok (.getfield 16, 3) := by decide +kernel
theorem dX11_core_4 : decode cX11_core 4 = .ok (.getfield 122, 3) := by decide +kernel
theorem dX11_core_7 : decode cX11_core 7 = .ok (.ifCond .eq 6, 3) := by decide +kernel
theorem dX11_core_13 : decode cX11_core 13 = .ok (.aload_n 0, 1) := by decide +kernel
theorem dX11_core_14 : decode cX11_core 14 = .ok (.getfield 55, 3) := by decide +kernel
theorem dX11_core_17 : decode cX11_core 17 = .ok (.aload_n 0, 1) := by decide +kernel
theorem dX11_core_18 : decode cX11_core 18 = .ok (.getfield 23, 3) := by decide +kernel
theorem dX11_core_21 : decode cX11_core 21 = .ok (.getfield 213, 3) := by decide +kernel
theorem dX11_core_24 : decode cX11_core 24 = .ok (.invokevirtual 298, 3) := by decide +kernel
theorem dX11_core_27 : decode cX11_core 27 = .ok (.ifCond .eq 20, 3) := by decide +kernel
theorem dX11_core_30 : decode cX11_core 30 = .ok (.aload_n 0, 1) := by decide +kernel
theorem dX11_core_31 : decode cX11_core 31 = .ok (.getfield 64, 3) := by decide +kernel
theorem dX11_core_34 : decode cX11_core 34 = .ok (.aload_n 0, 1) := by decide +kernel
theorem dX11_core_35 : decode cX11_core 35 = .ok (.getfield 23, 3) := by decide +kernel
theorem dX11_core_38 : decode cX11_core 38 = .ok (.getfield 213, 3) := by decide +kernel
theorem dX11_core_41 : decode cX11_core 41 = .ok (.invokevirtual 342, 3) := by decide +kernel
theorem dX11_core_44 : decode cX11_core 44 = .ok (.goto 5, 3) := by decide +kernel
theorem dX11_core_49 : decode cX11_core 49 = .ok (.ireturn, 1) := by decide +kernel
set_option maxRecDepth 20000 in
theorem ggX11_inCore_X0_toldInCore : GoodIn wsX11_inCore wsX0_toldInCore := goodIn_r _ [6, 7, 8, 24, 25, 26, 27, 28, 29, 30, 31, 32, 33, 34, 35, 36, 37, 38, 39, 40, 41, 42] (by decide +kernel) (by decide +kernel)
set_option maxRecDepth 20000 in
theorem gX11_inCore_X0_toldInCore : GoodIn wsX11_inCore (wsV RX11 345 RX0 yX0_toldInCore wsX0_toldInCore) := goodIn_app (goodIn_of _ (by decide +kernel)) ggX11_inCore_X0_toldInCore
theorem dX11_inCore_0 : decode cX11_inCore 0 = .ok (.aload_n 0, 1) := by decide +kernel
theorem dX11_inCore_1 : decode cX11_inCore 1 = .ok (.getfield 64, 3) := by decide +kernel
theorem dX11_inCore_4 : decode cX11_inCore 4 = .ok (.iload_n 1, 1) := by decide +kernel
theorem dX11_inCore_5 : decode cX11_inCore 5 = .ok (.invokevirtual 345, 3) := by decide +kernel
theorem dX11_inCore_8 : decode cX11_inCore 8 = .ok (.ireturn, 1) := by decide +kernel
set_option maxRecDepth 20000 in
theorem ggX11_alike_X2_isClaim : GoodIn wsX11_alike wsX2_isClaim := goodIn_r _ [9, 10, 141, 142, 143, 144, 145, 146, 147, 148, 149, 150, 151, 152, 153, 154, 155, 156] (by decide +kernel) (by decide +kernel)
set_option maxRecDepth 20000 in
theorem gX11_alike_X2_isClaim : GoodIn wsX11_alike (wsV RX11 176 RX2 yX2_isClaim wsX2_isClaim) := goodIn_app (goodIn_of _ (by decide +kernel)) ggX11_alike_X2_isClaim
theorem dX11_alike_0 : decode cX11_alike 0 = .ok (.aload_n 0, 1) := by decide +kernel
theorem dX11_alike_1 : decode cX11_alike 1 = .ok (.getfield 16, 3) := by decide +kernel
theorem dX11_alike_4 : decode cX11_alike 4 = .ok (.getfield 122, 3) := by decide +kernel
theorem dX11_alike_7 : decode cX11_alike 7 = .ok (.ifCond .eq 6, 3) := by decide +kernel
theorem dX11_alike_13 : decode cX11_alike 13 = .ok (.aload_n 0, 1) := by decide +kernel
theorem dX11_alike_14 : decode cX11_alike 14 = .ok (.getfield 23, 3) := by decide +kernel
theorem dX11_alike_17 : decode cX11_alike 17 = .ok (.iload_n 1, 1) := by decide +kernel
theorem dX11_alike_18 : decode cX11_alike 18 = .ok (.invokevirtual 176, 3) := by decide +kernel
theorem dX11_alike_21 : decode cX11_alike 21 = .ok (.ifCond .eq 14, 3) := by decide +kernel
theorem dX11_alike_35 : decode cX11_alike 35 = .ok (.bipush (-101), 2) := by decide +kernel
theorem dX11_alike_37 : decode cX11_alike 37 = .ok (.ireturn, 1) := by decide +kernel
set_option maxRecDepth 20000 in
theorem ggX11_places_X6_explore : GoodIn wsX11_places wsX6_explore := goodIn_r _ [8, 9, 10, 11, 12, 13, 14, 15, 16, 17, 18, 19, 20, 7, 21, 22, 23, 24, 25, 26, 27, 28, 29, 30, 31, 32, 33, 34, 35, 36, 37, 38, 39, 40, 41, 42, 43, 44, 45, 46, 47, 48, 49, 50, 51, 52, 53, 54, 55, 56, 57, 58, 59, 60, 61, 62, 63, 64, 65, 66, 67, 68, 69, 70, 71, 72, 73, 74, 75, 76, 117, 118, 119, 120, 121, 122, 123, 124, 125, 126, 127, 128, 129, 130, 101, 102, 103, 104, 105, 106, 107, 108, 109, 110, 111, 112, 113, 114, 115, 116] (by decide +kernel) (by decide +kernel)
set_option maxRecDepth 20000 in
theorem gX11_places_X6_explore : GoodIn wsX11_places (wsV RX11 351 RX6 yX6_explore wsX6_explore) := goodIn_app (goodIn_of _ (by decide +kernel)) ggX11_places_X6_explore
theorem dX11_places_0 : decode cX11_places 0 = .ok (.aload_n 0, 1) := by decide +kernel
theorem dX11_places_1 : decode cX11_places 1 = .ok (.getfield 16, 3) := by decide +kernel
theorem dX11_places_4 : decode cX11_places 4 = .ok (.getfield 122, 3) := by decide +kernel
theorem dX11_places_7 : decode cX11_places 7 = .ok (.ifCond .eq 6, 3) := by decide +kernel
theorem dX11_places_13 : decode cX11_places 13 = .ok (.aload_n 0, 1) := by decide +kernel
theorem dX11_places_14 : decode cX11_places 14 = .ok (.getfield 55, 3) := by decide +kernel
theorem dX11_places_17 : decode cX11_places 17 = .ok (.aload_n 0, 1) := by decide +kernel
theorem dX11_places_18 : decode cX11_places 18 = .ok (.getfield 23, 3) := by decide +kernel
theorem dX11_places_21 : decode cX11_places 21 = .ok (.getfield 213, 3) := by decide +kernel
theorem dX11_places_24 : decode cX11_places 24 = .ok (.invokevirtual 351, 3) := by decide +kernel
theorem dX11_places_27 : decode cX11_places 27 = .ok (.ifCond .eq 13, 3) := by decide +kernel
theorem dX11_places_30 : decode cX11_places 30 = .ok (.aload_n 0, 1) := by decide +kernel
theorem dX11_places_31 : decode cX11_places 31 = .ok (.getfield 55, 3) := by decide +kernel
theorem dX11_places_34 : decode cX11_places 34 = .ok (.getfield 354, 3) := by decide +kernel
theorem dX11_places_37 : decode cX11_places 37 = .ok (.goto 5, 3) := by decide +kernel
theorem dX11_places_42 : decode cX11_places 42 = .ok (.ireturn, 1) := by decide +kernel
set_option maxRecDepth 20000 in
theorem ggX11_own_X2_isClaim : GoodIn wsX11_own wsX2_isClaim := goodIn_r _ [9, 10, 187, 188, 189, 190, 191, 192, 193, 194, 195, 196, 197, 198, 199, 200, 201, 202] (by decide +kernel) (by decide +kernel)
set_option maxRecDepth 20000 in
theorem gX11_own_X2_isClaim : GoodIn wsX11_own (wsV RX11 176 RX2 yX2_isClaim wsX2_isClaim) := goodIn_app (goodIn_of _ (by decide +kernel)) ggX11_own_X2_isClaim
theorem dX11_own_0 : decode cX11_own 0 = .ok (.aload_n 0, 1) := by decide +kernel
theorem dX11_own_1 : decode cX11_own 1 = .ok (.getfield 16, 3) := by decide +kernel
theorem dX11_own_4 : decode cX11_own 4 = .ok (.getfield 122, 3) := by decide +kernel
theorem dX11_own_7 : decode cX11_own 7 = .ok (.ifCond .eq 6, 3) := by decide +kernel
theorem dX11_own_13 : decode cX11_own 13 = .ok (.aload_n 0, 1) := by decide +kernel
theorem dX11_own_14 : decode cX11_own 14 = .ok (.getfield 23, 3) := by decide +kernel
theorem dX11_own_17 : decode cX11_own 17 = .ok (.iload_n 1, 1) := by decide +kernel
theorem dX11_own_18 : decode cX11_own 18 = .ok (.invokevirtual 176, 3) := by decide +kernel
theorem dX11_own_21 : decode cX11_own 21 = .ok (.ifCond .ne 6, 3) := by decide +kernel
theorem dX11_own_24 : decode cX11_own 24 = .ok (.bipush (-101), 2) := by decide +kernel
theorem dX11_own_26 : decode cX11_own 26 = .ok (.ireturn, 1) := by decide +kernel
theorem dX12_firstNews_0 : decode cX12_firstNews 0 = .ok (.iconst 0, 1) := by decide +kernel
theorem dX12_firstNews_1 : decode cX12_firstNews 1 = .ok (.istore_n 2, 1) := by decide +kernel
theorem dX12_firstNews_2 : decode cX12_firstNews 2 = .ok (.iconst 0, 1) := by decide +kernel
theorem dX12_firstNews_3 : decode cX12_firstNews 3 = .ok (.istore_n 3, 1) := by decide +kernel
theorem dX12_firstNews_4 : decode cX12_firstNews 4 = .ok (.iload_n 3, 1) := by decide +kernel
theorem dX12_firstNews_5 : decode cX12_firstNews 5 = .ok (.aload_n 0, 1) := by decide +kernel
theorem dX12_firstNews_6 : decode cX12_firstNews 6 = .ok (.getfield 960, 3) := by decide +kernel
theorem dX12_firstNews_9 : decode cX12_firstNews 9 = .ok (.if_icmp .ge 70, 3) := by decide +kernel
theorem dX12_firstNews_12 : decode cX12_firstNews 12 = .ok (.aload_n 0, 1) := by decide +kernel
theorem dX12_firstNews_13 : decode cX12_firstNews 13 = .ok (.getfield 334, 3) := by decide +kernel
theorem dX12_firstNews_16 : decode cX12_firstNews 16 = .ok (.aload_n 0, 1) := by decide +kernel
theorem dX12_firstNews_17 : decode cX12_firstNews 17 = .ok (.getfield 321, 3) := by decide +kernel
theorem dX12_firstNews_20 : decode cX12_firstNews 20 = .ok (.bipush 16, 2) := by decide +kernel
theorem dX12_firstNews_22 : decode cX12_firstNews 22 = .ok (.iload_n 1, 1) := by decide +kernel
theorem dX12_firstNews_23 : decode cX12_firstNews 23 = .ok (.imul, 1) := by decide +kernel
theorem dX12_firstNews_24 : decode cX12_firstNews 24 = .ok (.iload_n 3, 1) := by decide +kernel
theorem dX12_firstNews_25 : decode cX12_firstNews 25 = .ok (.iadd, 1) := by decide +kernel
theorem dX12_firstNews_26 : decode cX12_firstNews 26 = .ok (.iaload, 1) := by decide +kernel
theorem dX12_firstNews_27 : decode cX12_firstNews 27 = .ok (.iaload, 1) := by decide +kernel
theorem dX12_firstNews_28 : decode cX12_firstNews 28 = .ok (.istore 4, 2) := by decide +kernel
theorem dX12_firstNews_30 : decode cX12_firstNews 30 = .ok (.iconst 0, 1) := by decide +kernel
theorem dX12_firstNews_31 : decode cX12_firstNews 31 = .ok (.istore 5, 2) := by decide +kernel
theorem dX12_firstNews_33 : decode cX12_firstNews 33 = .ok (.iload 5, 2) := by decide +kernel
theorem dX12_firstNews_35 : decode cX12_firstNews 35 = .ok (.aload_n 0, 1) := by decide +kernel
theorem dX12_firstNews_36 : decode cX12_firstNews 36 = .ok (.getfield 960, 3) := by decide +kernel
theorem dX12_firstNews_39 : decode cX12_firstNews 39 = .ok (.if_icmp .ge 34, 3) := by decide +kernel
theorem dX12_firstNews_42 : decode cX12_firstNews 42 = .ok (.iload_n 2, 1) := by decide +kernel
theorem dX12_firstNews_43 : decode cX12_firstNews 43 = .ok (.iload 5, 2) := by decide +kernel
theorem dX12_firstNews_45 : decode cX12_firstNews 45 = .ok (.iload_n 3, 1) := by decide +kernel
theorem dX12_firstNews_46 : decode cX12_firstNews 46 = .ok (.if_icmp .eq 18, 3) := by decide +kernel
theorem dX12_firstNews_64 : decode cX12_firstNews 64 = .ok (.iconst 0, 1) := by decide +kernel
theorem dX12_firstNews_65 : decode cX12_firstNews 65 = .ok (.iadd, 1) := by decide +kernel
theorem dX12_firstNews_66 : decode cX12_firstNews 66 = .ok (.istore_n 2, 1) := by decide +kernel
theorem dX12_firstNews_67 : decode cX12_firstNews 67 = .ok (.iinc 5 1, 3) := by decide +kernel
theorem dX12_firstNews_70 : decode cX12_firstNews 70 = .ok (.goto (-37), 3) := by decide +kernel
theorem dX12_firstNews_73 : decode cX12_firstNews 73 = .ok (.iinc 3 1, 3) := by decide +kernel
theorem dX12_firstNews_76 : decode cX12_firstNews 76 = .ok (.goto (-72), 3) := by decide +kernel
theorem dX12_firstNews_79 : decode cX12_firstNews 79 = .ok (.iload_n 2, 1) := by decide +kernel
theorem dX12_firstNews_80 : decode cX12_firstNews 80 = .ok (.ireturn, 1) := by decide +kernel
set_option maxRecDepth 20000 in
theorem ggX12_findCounts_X12_firstNews : GoodIn wsX12_findCounts wsX12_firstNews := goodIn_r _ [9, 3, 10, 4, 11, 12, 13, 14, 15, 16, 17, 18, 19, 20, 21, 22, 23, 24, 25, 26, 27, 28, 29, 30, 31, 32, 33, 34, 35, 36, 37, 38, 39, 40, 41, 42, 43, 44, 45, 46, 47, 48, 49, 50, 51, 52, 53, 54, 55, 56, 57, 58, 59, 60, 61, 62, 63, 64, 65, 66, 67, 68, 69, 70, 71, 72, 73, 74, 75, 76, 77, 78, 79, 80, 81, 82, 83, 84, 85, 86, 87, 88, 89, 90, 91, 92, 93, 94, 95, 96, 97, 98, 99, 100, 101, 102, 103, 104, 105, 106, 107, 108, 109, 110, 111, 112, 113, 114, 115, 116, 117, 118, 119, 120, 121, 122, 123, 124, 125, 126, 127, 128, 129, 130, 131, 132, 133, 134, 135, 136, 137, 138, 139, 140, 141, 142, 143, 144, 145, 146, 147, 148, 149, 150, 151, 152, 153, 154, 155, 156, 157, 158, 159, 160, 161, 162, 163, 164, 165, 166, 167, 168, 169, 170, 171, 172, 173, 174, 175, 176, 177, 178, 179, 180, 181, 182, 183, 184, 185, 186, 187, 188, 189, 190, 191, 192, 193, 194, 195, 196, 197, 198, 199, 200, 201, 202, 203, 204, 205] (by decide +kernel) (by decide +kernel)
set_option maxRecDepth 20000 in
theorem gX12_findCounts_X12_firstNews : GoodIn wsX12_findCounts (wsV RX12 1033 RX12 yX12_firstNews wsX12_firstNews) := goodIn_app (goodIn_of _ (by decide +kernel)) ggX12_findCounts_X12_firstNews
theorem dX12_findCounts_0 : decode cX12_findCounts 0 = .ok (.iconst 0, 1) := by decide +kernel
theorem dX12_findCounts_1 : decode cX12_findCounts 1 = .ok (.istore_n 1, 1) := by decide +kernel
theorem dX12_findCounts_2 : decode cX12_findCounts 2 = .ok (.iload_n 1, 1) := by decide +kernel
theorem dX12_findCounts_3 : decode cX12_findCounts 3 = .ok (.aload_n 0, 1) := by decide +kernel
theorem dX12_findCounts_4 : decode cX12_findCounts 4 = .ok (.getfield 957, 3) := by decide +kernel
theorem dX12_findCounts_7 : decode cX12_findCounts 7 = .ok (.if_icmp .ge 28, 3) := by decide +kernel
theorem dX12_findCounts_10 : decode cX12_findCounts 10 = .ok (.aload_n 0, 1) := by decide +kernel
theorem dX12_findCounts_11 : decode cX12_findCounts 11 = .ok (.getfield 370, 3) := by decide +kernel
theorem dX12_findCounts_14 : decode cX12_findCounts 14 = .ok (.iload_n 1, 1) := by decide +kernel
theorem dX12_findCounts_15 : decode cX12_findCounts 15 = .ok (.aload_n 0, 1) := by decide +kernel
theorem dX12_findCounts_16 : decode cX12_findCounts 16 = .ok (.iload_n 1, 1) := by decide +kernel
theorem dX12_findCounts_17 : decode cX12_findCounts 17 = .ok (.invokevirtual 1033, 3) := by decide +kernel
theorem dX12_findCounts_20 : decode cX12_findCounts 20 = .ok (.ifCond .le 7, 3) := by decide +kernel
theorem dX12_findCounts_27 : decode cX12_findCounts 27 = .ok (.iconst 0, 1) := by decide +kernel
theorem dX12_findCounts_28 : decode cX12_findCounts 28 = .ok (.bastore, 1) := by decide +kernel
theorem dX12_findCounts_29 : decode cX12_findCounts 29 = .ok (.iinc 1 1, 3) := by decide +kernel
theorem dX12_findCounts_32 : decode cX12_findCounts 32 = .ok (.goto (-30), 3) := by decide +kernel
theorem dX12_findCounts_35 : decode cX12_findCounts 35 = .ok (.iconst 1, 1) := by decide +kernel
theorem dX12_findCounts_36 : decode cX12_findCounts 36 = .ok (.istore_n 1, 1) := by decide +kernel
theorem dX12_findCounts_37 : decode cX12_findCounts 37 = .ok (.iload_n 1, 1) := by decide +kernel
theorem dX12_findCounts_38 : decode cX12_findCounts 38 = .ok (.ifCond .eq 78, 3) := by decide +kernel
theorem dX12_findCounts_41 : decode cX12_findCounts 41 = .ok (.iconst 0, 1) := by decide +kernel
theorem dX12_findCounts_42 : decode cX12_findCounts 42 = .ok (.istore_n 1, 1) := by decide +kernel
theorem dX12_findCounts_43 : decode cX12_findCounts 43 = .ok (.aload_n 0, 1) := by decide +kernel
theorem dX12_findCounts_44 : decode cX12_findCounts 44 = .ok (.getfield 957, 3) := by decide +kernel
theorem dX12_findCounts_47 : decode cX12_findCounts 47 = .ok (.iconst 1, 1) := by decide +kernel
theorem dX12_findCounts_48 : decode cX12_findCounts 48 = .ok (.isub, 1) := by decide +kernel
theorem dX12_findCounts_49 : decode cX12_findCounts 49 = .ok (.istore_n 2, 1) := by decide +kernel
theorem dX12_findCounts_50 : decode cX12_findCounts 50 = .ok (.iload_n 2, 1) := by decide +kernel
theorem dX12_findCounts_51 : decode cX12_findCounts 51 = .ok (.ifCond .lt 62, 3) := by decide +kernel
theorem dX12_findCounts_54 : decode cX12_findCounts 54 = .ok (.iconst 0, 1) := by decide +kernel
theorem dX12_findCounts_55 : decode cX12_findCounts 55 = .ok (.istore_n 3, 1) := by decide +kernel
theorem dX12_findCounts_56 : decode cX12_findCounts 56 = .ok (.iload_n 3, 1) := by decide +kernel
theorem dX12_findCounts_57 : decode cX12_findCounts 57 = .ok (.aload_n 0, 1) := by decide +kernel
theorem dX12_findCounts_58 : decode cX12_findCounts 58 = .ok (.getfield 960, 3) := by decide +kernel
theorem dX12_findCounts_61 : decode cX12_findCounts 61 = .ok (.if_icmp .ge 46, 3) := by decide +kernel
theorem dX12_findCounts_64 : decode cX12_findCounts 64 = .ok (.aload_n 0, 1) := by decide +kernel
theorem dX12_findCounts_65 : decode cX12_findCounts 65 = .ok (.getfield 370, 3) := by decide +kernel
theorem dX12_findCounts_68 : decode cX12_findCounts 68 = .ok (.iload_n 2, 1) := by decide +kernel
theorem dX12_findCounts_69 : decode cX12_findCounts 69 = .ok (.baload, 1) := by decide +kernel
theorem dX12_findCounts_70 : decode cX12_findCounts 70 = .ok (.ifCond .ne 37, 3) := by decide +kernel
theorem dX12_findCounts_73 : decode cX12_findCounts 73 = .ok (.aload_n 0, 1) := by decide +kernel
theorem dX12_findCounts_74 : decode cX12_findCounts 74 = .ok (.getfield 370, 3) := by decide +kernel
theorem dX12_findCounts_77 : decode cX12_findCounts 77 = .ok (.aload_n 0, 1) := by decide +kernel
theorem dX12_findCounts_78 : decode cX12_findCounts 78 = .ok (.getfield 321, 3) := by decide +kernel
theorem dX12_findCounts_81 : decode cX12_findCounts 81 = .ok (.bipush 16, 2) := by decide +kernel
theorem dX12_findCounts_83 : decode cX12_findCounts 83 = .ok (.iload_n 2, 1) := by decide +kernel
theorem dX12_findCounts_84 : decode cX12_findCounts 84 = .ok (.imul, 1) := by decide +kernel
theorem dX12_findCounts_85 : decode cX12_findCounts 85 = .ok (.iload_n 3, 1) := by decide +kernel
theorem dX12_findCounts_86 : decode cX12_findCounts 86 = .ok (.iadd, 1) := by decide +kernel
theorem dX12_findCounts_87 : decode cX12_findCounts 87 = .ok (.iaload, 1) := by decide +kernel
theorem dX12_findCounts_88 : decode cX12_findCounts 88 = .ok (.baload, 1) := by decide +kernel
theorem dX12_findCounts_89 : decode cX12_findCounts 89 = .ok (.ifCond .eq 12, 3) := by decide +kernel
theorem dX12_findCounts_101 : decode cX12_findCounts 101 = .ok (.iinc 3 1, 3) := by decide +kernel
theorem dX12_findCounts_104 : decode cX12_findCounts 104 = .ok (.goto (-48), 3) := by decide +kernel
theorem dX12_findCounts_107 : decode cX12_findCounts 107 = .ok (.iinc 2 (-1), 3) := by decide +kernel
theorem dX12_findCounts_110 : decode cX12_findCounts 110 = .ok (.goto (-60), 3) := by decide +kernel
theorem dX12_findCounts_113 : decode cX12_findCounts 113 = .ok (.goto (-76), 3) := by decide +kernel
theorem dX12_findCounts_116 : decode cX12_findCounts 116 = .ok (.return_, 1) := by decide +kernel
set_option maxRecDepth 20000 in
theorem ggX12_many_X12_asks : GoodIn wsX12_many wsX12_asks := goodIn_r _ [16, 17, 18, 126, 127, 128, 129, 130, 131, 132, 133, 134, 135, 136, 137, 138, 139, 140, 141, 142, 143, 144, 145, 146, 147, 148, 149, 150, 151, 152, 153, 154, 155, 156, 157, 158, 159, 160, 161, 162, 163, 164, 165, 166, 167, 168, 169, 170, 171, 172, 173, 174, 175, 176, 177, 178, 179, 180, 181, 182, 183, 184, 185, 186, 187, 188, 189, 190, 191, 192, 193, 194, 195, 196, 197, 198, 199, 200, 201, 202, 203, 204, 205, 206, 207, 208, 209, 210, 211, 212, 213, 214, 215, 216, 217, 218, 219, 220, 221, 222, 223, 224, 225, 226, 227, 228, 229, 230, 231, 232, 233, 234, 235, 236, 237, 238, 239, 240, 241, 242, 243, 244, 245, 246, 247, 248, 249, 250, 251, 252, 253, 254, 255, 256, 257, 258, 259, 260, 261, 262, 263, 264, 265, 266, 267, 268, 269, 270, 271, 272, 273, 274, 275, 276, 277, 278, 279, 280, 281, 282, 283, 284, 285, 286, 287, 288, 289, 290, 291, 292, 293, 294, 295, 296, 297, 298, 299, 300, 301, 302, 303, 304, 305, 306, 307, 308, 309, 310, 311, 312, 313, 314, 315, 316, 317, 318, 319, 320] (by decide +kernel) (by decide +kernel)
set_option maxRecDepth 20000 in
theorem gX12_many_X12_asks : GoodIn wsX12_many (wsV RX12 871 RX12 yX12_asks wsX12_asks) := goodIn_app (goodIn_of _ (by decide +kernel)) ggX12_many_X12_asks
set_option maxRecDepth 20000 in
theorem ggX12_many_X12_putOn : GoodIn wsX12_many wsX12_putOn := goodIn_r _ [22, 23, 24, 25, 26, 27, 15, 28, 29, 30, 31, 32, 33, 34, 35, 36, 37, 38, 39, 40, 41, 42, 43, 44, 45, 126, 127, 128, 129, 130, 131, 132, 133, 134, 135, 136, 137, 138, 139, 140, 141, 142, 143, 144, 145, 146, 147, 148, 149, 150, 151, 152, 153, 154, 155, 156, 157, 158, 159, 160, 161, 162, 163, 164, 165, 166, 167, 168, 169, 170, 171, 172, 173, 174, 175, 176, 177, 178, 179, 180, 181, 182, 183, 184, 185, 186, 187, 188, 189, 190, 191, 192, 193, 194, 195, 196, 197, 198, 199, 200, 201, 202, 203, 204, 205, 206, 207, 208, 209, 210, 211, 212, 213, 214, 215, 216, 217, 218, 219, 220, 221, 222, 223, 224, 225, 226, 227, 228, 229, 230, 231, 232, 233, 234, 235, 236, 237, 238, 239, 240, 241, 242, 243, 244, 245, 246, 247, 248, 249, 250, 251, 252, 253, 254, 255, 256, 257, 258, 259, 260, 261, 262, 263, 264, 265, 266, 267, 268, 269, 270, 271, 272, 273, 274, 275, 276, 277, 278, 279, 280, 281, 282, 283, 284, 285, 286, 287, 288, 289, 290, 291, 292, 293, 294, 295, 296, 297, 298, 299, 300, 301, 302, 303, 304, 305, 306, 307, 308, 309, 310, 311, 312, 313, 314, 315, 316, 317, 318, 319, 320] (by decide +kernel) (by decide +kernel)
set_option maxRecDepth 20000 in
theorem gX12_many_X12_putOn : GoodIn wsX12_many (wsV RX12 982 RX12 yX12_putOn wsX12_putOn) := goodIn_app (goodIn_of _ (by decide +kernel)) ggX12_many_X12_putOn
set_option maxRecDepth 20000 in
theorem ggX12_many_X12_explore : GoodIn wsX12_many wsX12_explore := goodIn_r _ [49, 29, 50, 3, 51, 52, 1, 53, 36, 38, 54, 5, 55, 56, 57, 15, 58, 30, 59, 60, 61, 35, 62, 42, 43, 44, 45, 37, 39, 40, 41, 63, 64, 65, 66, 67, 68, 69, 70, 71, 72, 126, 127, 128, 129, 130, 131, 132, 133, 134, 135, 136, 137, 138, 139, 140, 141, 142, 143, 144, 145, 146, 147, 148, 149, 150, 151, 152, 153, 154, 155, 156, 157, 158, 159, 160, 161, 162, 163, 164, 165, 166, 167, 168, 169, 170, 171, 172, 173, 174, 175, 176, 177, 178, 179, 180, 181, 182, 183, 184, 185, 186, 187, 188, 189, 190, 191, 192, 193, 194, 195, 196, 197, 198, 199, 200, 201, 202, 203, 204, 205, 206, 207, 208, 209, 210, 211, 212, 213, 214, 215, 216, 217, 218, 219, 220, 221, 222, 223, 224, 225, 226, 227, 228, 229, 230, 231, 232, 233, 234, 235, 236, 237, 238, 239, 240, 241, 242, 243, 244, 245, 246, 247, 248, 249, 250, 251, 252, 253, 254, 255, 256, 257, 258, 259, 260, 261, 262, 263, 264, 265, 266, 267, 268, 269, 270, 271, 272, 273, 274, 275, 276, 277, 278, 279, 280, 281, 282, 283, 284, 285, 286, 287, 288, 289, 290, 291, 292, 293, 294, 295, 296, 297, 298, 299, 300, 301, 302, 303, 304, 305, 306, 307, 308, 309, 310, 311, 312, 313, 314, 315, 316, 317, 318, 319, 320] (by decide +kernel) (by decide +kernel)
set_option maxRecDepth 20000 in
theorem gX12_many_X12_explore : GoodIn wsX12_many (wsV RX12 985 RX12 yX12_explore wsX12_explore) := goodIn_app (goodIn_of _ (by decide +kernel)) ggX12_many_X12_explore
set_option maxRecDepth 20000 in
theorem ggX12_many_X12_judge : GoodIn wsX12_many wsX12_judge := goodIn_r _ [76, 77, 1, 9, 78, 3, 29, 79, 54, 80, 81, 82, 83, 84, 15, 85, 36, 50, 40, 86, 87, 88, 89, 90, 91, 92, 30, 59, 93, 94, 95, 96, 97, 98, 60, 61, 99, 100, 101, 102, 103, 104, 105, 106, 107, 108, 109, 110, 111, 112, 62, 113, 114, 115, 116, 23, 24, 117, 126, 127, 128, 129, 130, 131, 132, 133, 134, 135, 136, 137, 138, 139, 140, 141, 142, 143, 144, 145, 146, 147, 148, 149, 150, 151, 152, 153, 154, 155, 156, 157, 158, 159, 160, 161, 162, 163, 164, 165, 166, 167, 168, 169, 170, 171, 172, 173, 174, 175, 176, 177, 178, 179, 180, 181, 182, 183, 184, 185, 186, 187, 188, 189, 190, 191, 192, 193, 194, 195, 196, 197, 198, 199, 200, 201, 202, 203, 204, 205, 206, 207, 208, 209, 210, 211, 212, 213, 214, 215, 216, 217, 218, 219, 220, 221, 222, 223, 224, 225, 226, 227, 228, 229, 230, 231, 232, 233, 234, 235, 236, 237, 238, 239, 240, 241, 242, 243, 244, 245, 246, 247, 248, 249, 250, 251, 252, 253, 254, 255, 256, 257, 258, 259, 260, 261, 262, 263, 264, 265, 266, 267, 268, 269, 270, 271, 272, 273, 274, 275, 276, 277, 278, 279, 280, 281, 282, 283, 284, 285, 286, 287, 288, 289, 290, 291, 292, 293, 294, 295, 296, 297, 298, 299, 300, 301, 302, 303, 304, 305, 306, 307, 308, 309, 310, 311, 312, 313, 314, 315, 316, 317, 318, 319, 320] (by decide +kernel) (by decide +kernel)
set_option maxRecDepth 20000 in
theorem gX12_many_X12_judge : GoodIn wsX12_many (wsV RX12 988 RX12 yX12_judge wsX12_judge) := goodIn_app (goodIn_of _ (by decide +kernel)) ggX12_many_X12_judge
set_option maxRecDepth 20000 in
theorem ggX12_many_X12_findCounts : GoodIn wsX12_many wsX12_findCounts := goodIn_r _ [121, 1, 4, 3, 5, 122, 123, 124, 15, 125, 9, 126, 127, 128, 129, 130, 131, 132, 133, 134, 135, 136, 137, 138, 139, 140, 141, 142, 143, 144, 145, 146, 147, 148, 149, 150, 151, 152, 153, 154, 155, 156, 157, 158, 159, 160, 161, 162, 163, 164, 165, 166, 167, 168, 169, 170, 171, 172, 173, 174, 175, 176, 177, 178, 179, 180, 181, 182, 183, 184, 185, 186, 187, 188, 189, 190, 191, 192, 193, 194, 195, 196, 197, 198, 199, 200, 201, 202, 203, 204, 205, 206, 207, 208, 209, 210, 211, 212, 213, 214, 215, 216, 217, 218, 219, 220, 221, 222, 223, 224, 225, 226, 227, 228, 229, 230, 231, 232, 233, 234, 235, 236, 237, 238, 239, 240, 241, 242, 243, 244, 245, 246, 247, 248, 249, 250, 251, 252, 253, 254, 255, 256, 257, 258, 259, 260, 261, 262, 263, 264, 265, 266, 267, 268, 269, 270, 271, 272, 273, 274, 275, 276, 277, 278, 279, 280, 281, 282, 283, 284, 285, 286, 287, 288, 289, 290, 291, 292, 293, 294, 295, 296, 297, 298, 299, 300, 301, 302, 303, 304, 305, 306, 307, 308, 309, 310, 311, 312, 313, 314, 315, 316, 317, 318, 319, 320] (by decide +kernel) (by decide +kernel)
set_option maxRecDepth 20000 in
theorem gX12_many_X12_findCounts : GoodIn wsX12_many (wsV RX12 1036 RX12 yX12_findCounts wsX12_findCounts) := goodIn_app (goodIn_of _ (by decide +kernel)) ggX12_many_X12_findCounts
theorem dX12_many_0 : decode cX12_many 0 = .ok (.aload_n 0, 1) := by decide +kernel
theorem dX12_many_1 : decode cX12_many 1 = .ok (.invokevirtual 871, 3) := by decide +kernel
theorem dX12_many_4 : decode cX12_many 4 = .ok (.ifCond .ne 6, 3) := by decide +kernel
theorem dX12_many_10 : decode cX12_many 10 = .ok (.aload_n 0, 1) := by decide +kernel
theorem dX12_many_11 : decode cX12_many 11 = .ok (.invokevirtual 982, 3) := by decide +kernel
theorem dX12_many_14 : decode cX12_many 14 = .ok (.aload_n 0, 1) := by decide +kernel
theorem dX12_many_15 : decode cX12_many 15 = .ok (.invokevirtual 985, 3) := by decide +kernel
theorem dX12_many_18 : decode cX12_many 18 = .ok (.ifCond .ne 6, 3) := by decide +kernel
theorem dX12_many_24 : decode cX12_many 24 = .ok (.aload_n 0, 1) := by decide +kernel
theorem dX12_many_25 : decode cX12_many 25 = .ok (.iconst 0, 1) := by decide +kernel
theorem dX12_many_26 : decode cX12_many 26 = .ok (.iconst 0, 1) := by decide +kernel
theorem dX12_many_27 : decode cX12_many 27 = .ok (.iconst (-1), 1) := by decide +kernel
theorem dX12_many_28 : decode cX12_many 28 = .ok (.invokevirtual 988, 3) := by decide +kernel
theorem dX12_many_31 : decode cX12_many 31 = .ok (.aload_n 0, 1) := by decide +kernel
theorem dX12_many_32 : decode cX12_many 32 = .ok (.invokevirtual 1036, 3) := by decide +kernel
theorem dX12_many_35 : decode cX12_many 35 = .ok (.iconst 0, 1) := by decide +kernel
theorem dX12_many_36 : decode cX12_many 36 = .ok (.istore_n 1, 1) := by decide +kernel
theorem dX12_many_37 : decode cX12_many 37 = .ok (.iconst 0, 1) := by decide +kernel
theorem dX12_many_38 : decode cX12_many 38 = .ok (.istore_n 2, 1) := by decide +kernel
theorem dX12_many_39 : decode cX12_many 39 = .ok (.iload_n 2, 1) := by decide +kernel
theorem dX12_many_40 : decode cX12_many 40 = .ok (.aload_n 0, 1) := by decide +kernel
theorem dX12_many_41 : decode cX12_many 41 = .ok (.getfield 957, 3) := by decide +kernel
theorem dX12_many_44 : decode cX12_many 44 = .ok (.if_icmp .ge 122, 3) := by decide +kernel
theorem dX12_many_47 : decode cX12_many 47 = .ok (.aload_n 0, 1) := by decide +kernel
theorem dX12_many_48 : decode cX12_many 48 = .ok (.getfield 364, 3) := by decide +kernel
theorem dX12_many_51 : decode cX12_many 51 = .ok (.iload_n 2, 1) := by decide +kernel
theorem dX12_many_52 : decode cX12_many 52 = .ok (.iconst 0, 1) := by decide +kernel
theorem dX12_many_53 : decode cX12_many 53 = .ok (.iastore, 1) := by decide +kernel
theorem dX12_many_54 : decode cX12_many 54 = .ok (.iconst 0, 1) := by decide +kernel
theorem dX12_many_55 : decode cX12_many 55 = .ok (.istore_n 3, 1) := by decide +kernel
theorem dX12_many_56 : decode cX12_many 56 = .ok (.iload_n 3, 1) := by decide +kernel
theorem dX12_many_57 : decode cX12_many 57 = .ok (.aload_n 0, 1) := by decide +kernel
theorem dX12_many_58 : decode cX12_many 58 = .ok (.getfield 960, 3) := by decide +kernel
theorem dX12_many_61 : decode cX12_many 61 = .ok (.if_icmp .ge 55, 3) := by decide +kernel
theorem dX12_many_64 : decode cX12_many 64 = .ok (.aload_n 0, 1) := by decide +kernel
theorem dX12_many_65 : decode cX12_many 65 = .ok (.getfield 370, 3) := by decide +kernel
theorem dX12_many_68 : decode cX12_many 68 = .ok (.iload_n 2, 1) := by decide +kernel
theorem dX12_many_69 : decode cX12_many 69 = .ok (.baload, 1) := by decide +kernel
theorem dX12_many_70 : decode cX12_many 70 = .ok (.ifCond .eq 46, 3) := by decide +kernel
theorem dX12_many_116 : decode cX12_many 116 = .ok (.iload_n 1, 1) := by decide +kernel
theorem dX12_many_117 : decode cX12_many 117 = .ok (.aload_n 0, 1) := by decide +kernel
theorem dX12_many_118 : decode cX12_many 118 = .ok (.getfield 370, 3) := by decide +kernel
theorem dX12_many_121 : decode cX12_many 121 = .ok (.iload_n 2, 1) := by decide +kernel
theorem dX12_many_122 : decode cX12_many 122 = .ok (.baload, 1) := by decide +kernel
theorem dX12_many_123 : decode cX12_many 123 = .ok (.ifCond .eq 7, 3) := by decide +kernel
theorem dX12_many_130 : decode cX12_many 130 = .ok (.iconst 0, 1) := by decide +kernel
theorem dX12_many_131 : decode cX12_many 131 = .ok (.iadd, 1) := by decide +kernel
theorem dX12_many_132 : decode cX12_many 132 = .ok (.istore_n 1, 1) := by decide +kernel
theorem dX12_many_133 : decode cX12_many 133 = .ok (.aload_n 0, 1) := by decide +kernel
theorem dX12_many_134 : decode cX12_many 134 = .ok (.getfield 373, 3) := by decide +kernel
theorem dX12_many_137 : decode cX12_many 137 = .ok (.iload_n 2, 1) := by decide +kernel
theorem dX12_many_138 : decode cX12_many 138 = .ok (.aload_n 0, 1) := by decide +kernel
theorem dX12_many_139 : decode cX12_many 139 = .ok (.getfield 370, 3) := by decide +kernel
theorem dX12_many_142 : decode cX12_many 142 = .ok (.iload_n 2, 1) := by decide +kernel
theorem dX12_many_143 : decode cX12_many 143 = .ok (.baload, 1) := by decide +kernel
theorem dX12_many_144 : decode cX12_many 144 = .ok (.ifCond .eq 7, 3) := by decide +kernel
theorem dX12_many_151 : decode cX12_many 151 = .ok (.iconst 1, 1) := by decide +kernel
theorem dX12_many_152 : decode cX12_many 152 = .ok (.iastore, 1) := by decide +kernel
theorem dX12_many_153 : decode cX12_many 153 = .ok (.aload_n 0, 1) := by decide +kernel
theorem dX12_many_154 : decode cX12_many 154 = .ok (.getfield 367, 3) := by decide +kernel
theorem dX12_many_157 : decode cX12_many 157 = .ok (.iload_n 2, 1) := by decide +kernel
theorem dX12_many_158 : decode cX12_many 158 = .ok (.lconst 0, 1) := by decide +kernel
theorem dX12_many_159 : decode cX12_many 159 = .ok (.lastore, 1) := by decide +kernel
theorem dX12_many_160 : decode cX12_many 160 = .ok (.iinc 2 1, 3) := by decide +kernel
theorem dX12_many_163 : decode cX12_many 163 = .ok (.goto (-124), 3) := by decide +kernel
theorem dX12_many_166 : decode cX12_many 166 = .ok (.iconst 1, 1) := by decide +kernel
theorem dX12_many_167 : decode cX12_many 167 = .ok (.istore_n 2, 1) := by decide +kernel
theorem dX12_many_168 : decode cX12_many 168 = .ok (.iload_n 2, 1) := by decide +kernel
theorem dX12_many_169 : decode cX12_many 169 = .ok (.ifCond .eq 204, 3) := by decide +kernel
theorem dX12_many_172 : decode cX12_many 172 = .ok (.iload_n 1, 1) := by decide +kernel
theorem dX12_many_173 : decode cX12_many 173 = .ok (.ifCond .le 200, 3) := by decide +kernel
theorem dX12_many_373 : decode cX12_many 373 = .ok (.iload_n 1, 1) := by decide +kernel
theorem dX12_many_374 : decode cX12_many 374 = .ok (.ifCond .le 6, 3) := by decide +kernel
theorem dX12_many_380 : decode cX12_many 380 = .ok (.aload_n 0, 1) := by decide +kernel
theorem dX12_many_381 : decode cX12_many 381 = .ok (.getfield 367, 3) := by decide +kernel
theorem dX12_many_384 : decode cX12_many 384 = .ok (.iconst 0, 1) := by decide +kernel
theorem dX12_many_385 : decode cX12_many 385 = .ok (.laload, 1) := by decide +kernel
theorem dX12_many_386 : decode cX12_many 386 = .ok (.lstore_n 3, 1) := by decide +kernel
theorem dX12_many_387 : decode cX12_many 387 = .ok (.iconst 0, 1) := by decide +kernel
theorem dX12_many_388 : decode cX12_many 388 = .ok (.istore 5, 2) := by decide +kernel
theorem dX12_many_390 : decode cX12_many 390 = .ok (.iload 5, 2) := by decide +kernel
theorem dX12_many_392 : decode cX12_many 392 = .ok (.aload_n 0, 1) := by decide +kernel
theorem dX12_many_393 : decode cX12_many 393 = .ok (.getfield 960, 3) := by decide +kernel
theorem dX12_many_396 : decode cX12_many 396 = .ok (.if_icmp .ge 24, 3) := by decide +kernel
theorem dX12_many_399 : decode cX12_many 399 = .ok (.lload_n 3, 1) := by decide +kernel
theorem dX12_many_400 : decode cX12_many 400 = .ok (.aload_n 0, 1) := by decide +kernel
theorem dX12_many_401 : decode cX12_many 401 = .ok (.getfield 334, 3) := by decide +kernel
theorem dX12_many_404 : decode cX12_many 404 = .ok (.iconst 0, 1) := by decide +kernel
theorem dX12_many_405 : decode cX12_many 405 = .ok (.iaload, 1) := by decide +kernel
theorem dX12_many_406 : decode cX12_many 406 = .ok (.iload 5, 2) := by decide +kernel
theorem dX12_many_408 : decode cX12_many 408 = .ok (.ishr, 1) := by decide +kernel
theorem dX12_many_409 : decode cX12_many 409 = .ok (.iconst 1, 1) := by decide +kernel
theorem dX12_many_410 : decode cX12_many 410 = .ok (.iand, 1) := by decide +kernel
theorem dX12_many_411 : decode cX12_many 411 = .ok (.i2l, 1) := by decide +kernel
theorem dX12_many_412 : decode cX12_many 412 = .ok (.ladd, 1) := by decide +kernel
theorem dX12_many_413 : decode cX12_many 413 = .ok (.lstore_n 3, 1) := by decide +kernel
theorem dX12_many_414 : decode cX12_many 414 = .ok (.iinc 5 1, 3) := by decide +kernel
theorem dX12_many_417 : decode cX12_many 417 = .ok (.goto (-27), 3) := by decide +kernel
theorem dX12_many_420 : decode cX12_many 420 = .ok (.lload_n 3, 1) := by decide +kernel
theorem dX12_many_421 : decode cX12_many 421 = .ok (.ldc2_w 1041, 3) := by decide +kernel
theorem dX12_many_424 : decode cX12_many 424 = .ok (.lcmp, 1) := by decide +kernel
theorem dX12_many_425 : decode cX12_many 425 = .ok (.ifCond .le 9, 3) := by decide +kernel
theorem dX12_many_434 : decode cX12_many 434 = .ok (.lload_n 3, 1) := by decide +kernel
theorem dX12_many_435 : decode cX12_many 435 = .ok (.l2i, 1) := by decide +kernel
theorem dX12_many_436 : decode cX12_many 436 = .ok (.ireturn, 1) := by decide +kernel
set_option maxRecDepth 20000 in
theorem ggX12_tries_X12_idle : GoodIn wsX12_tries wsX12_idle := goodIn_r _ [9, 10, 11, 106, 107, 108, 109, 110, 111, 112, 113, 114, 115, 116, 117, 118, 119, 120, 121, 122, 123, 124, 125, 126, 127, 128, 129, 130, 131, 132, 133, 134, 135, 136, 137, 138, 139, 140, 141, 142, 143, 144, 145, 146, 147, 148, 149, 150, 151, 152, 153, 154, 155, 156, 157, 158, 159, 160, 161, 162, 163, 164, 165, 166, 167, 168, 169, 170, 171, 172, 173, 174, 175, 176, 177, 178, 179, 180, 181, 182, 183, 184, 185, 186, 187, 188, 189, 190, 191, 192, 193, 194, 195, 196, 197, 198, 199, 200, 201, 202, 203, 204, 205, 206, 207, 208, 209, 210, 211, 212, 213, 214, 215, 216, 217, 218, 219, 220, 221, 222, 223, 224, 225, 226, 227, 228, 229, 230, 231, 232, 233, 234, 235, 236, 237, 238, 239, 240, 241, 242, 243, 244, 245, 246, 247, 248, 249, 250, 251, 252, 253, 254, 255, 256, 257, 258, 259, 260, 261, 262, 263, 264, 265, 266, 267, 268, 269, 270, 271, 272, 273, 274, 275, 276, 277, 278, 279, 280, 281, 282, 283, 284, 285, 286, 287, 288, 289, 290, 291, 292, 293, 294, 295, 296, 297, 298, 299, 300] (by decide +kernel) (by decide +kernel)
set_option maxRecDepth 20000 in
theorem gX12_tries_X12_idle : GoodIn wsX12_tries (wsV RX12 934 RX12 yX12_idle wsX12_idle) := goodIn_app (goodIn_of _ (by decide +kernel)) ggX12_tries_X12_idle
set_option maxRecDepth 20000 in
theorem ggX12_tries_X12_explore : GoodIn wsX12_tries wsX12_explore := goodIn_r _ [30, 10, 31, 32, 33, 34, 35, 36, 17, 19, 37, 38, 39, 40, 41, 8, 42, 11, 43, 44, 45, 16, 46, 23, 24, 25, 26, 18, 20, 21, 22, 47, 48, 49, 50, 51, 52, 53, 54, 55, 56, 106, 107, 108, 109, 110, 111, 112, 113, 114, 115, 116, 117, 118, 119, 120, 121, 122, 123, 124, 125, 126, 127, 128, 129, 130, 131, 132, 133, 134, 135, 136, 137, 138, 139, 140, 141, 142, 143, 144, 145, 146, 147, 148, 149, 150, 151, 152, 153, 154, 155, 156, 157, 158, 159, 160, 161, 162, 163, 164, 165, 166, 167, 168, 169, 170, 171, 172, 173, 174, 175, 176, 177, 178, 179, 180, 181, 182, 183, 184, 185, 186, 187, 188, 189, 190, 191, 192, 193, 194, 195, 196, 197, 198, 199, 200, 201, 202, 203, 204, 205, 206, 207, 208, 209, 210, 211, 212, 213, 214, 215, 216, 217, 218, 219, 220, 221, 222, 223, 224, 225, 226, 227, 228, 229, 230, 231, 232, 233, 234, 235, 236, 237, 238, 239, 240, 241, 242, 243, 244, 245, 246, 247, 248, 249, 250, 251, 252, 253, 254, 255, 256, 257, 258, 259, 260, 261, 262, 263, 264, 265, 266, 267, 268, 269, 270, 271, 272, 273, 274, 275, 276, 277, 278, 279, 280, 281, 282, 283, 284, 285, 286, 287, 288, 289, 290, 291, 292, 293, 294, 295, 296, 297, 298, 299, 300] (by decide +kernel) (by decide +kernel)
set_option maxRecDepth 20000 in
theorem gX12_tries_X12_explore : GoodIn wsX12_tries (wsV RX12 985 RX12 yX12_explore wsX12_explore) := goodIn_app (goodIn_of _ (by decide +kernel)) ggX12_tries_X12_explore
set_option maxRecDepth 20000 in
theorem ggX12_tries_X12_judge : GoodIn wsX12_tries wsX12_judge := goodIn_r _ [60, 61, 35, 62, 63, 32, 10, 64, 37, 65, 66, 67, 68, 69, 8, 70, 17, 31, 21, 71, 72, 73, 74, 75, 76, 77, 11, 43, 78, 79, 80, 81, 82, 83, 44, 45, 84, 85, 86, 87, 88, 89, 90, 91, 92, 93, 94, 95, 96, 97, 46, 98, 99, 100, 101, 1, 2, 3, 106, 107, 108, 109, 110, 111, 112, 113, 114, 115, 116, 117, 118, 119, 120, 121, 122, 123, 124, 125, 126, 127, 128, 129, 130, 131, 132, 133, 134, 135, 136, 137, 138, 139, 140, 141, 142, 143, 144, 145, 146, 147, 148, 149, 150, 151, 152, 153, 154, 155, 156, 157, 158, 159, 160, 161, 162, 163, 164, 165, 166, 167, 168, 169, 170, 171, 172, 173, 174, 175, 176, 177, 178, 179, 180, 181, 182, 183, 184, 185, 186, 187, 188, 189, 190, 191, 192, 193, 194, 195, 196, 197, 198, 199, 200, 201, 202, 203, 204, 205, 206, 207, 208, 209, 210, 211, 212, 213, 214, 215, 216, 217, 218, 219, 220, 221, 222, 223, 224, 225, 226, 227, 228, 229, 230, 231, 232, 233, 234, 235, 236, 237, 238, 239, 240, 241, 242, 243, 244, 245, 246, 247, 248, 249, 250, 251, 252, 253, 254, 255, 256, 257, 258, 259, 260, 261, 262, 263, 264, 265, 266, 267, 268, 269, 270, 271, 272, 273, 274, 275, 276, 277, 278, 279, 280, 281, 282, 283, 284, 285, 286, 287, 288, 289, 290, 291, 292, 293, 294, 295, 296, 297, 298, 299, 300] (by decide +kernel) (by decide +kernel)
set_option maxRecDepth 20000 in
theorem gX12_tries_X12_judge : GoodIn wsX12_tries (wsV RX12 988 RX12 yX12_judge wsX12_judge) := goodIn_app (goodIn_of _ (by decide +kernel)) ggX12_tries_X12_judge
set_option maxRecDepth 20000 in
theorem ggX12_tries_X12_measure : GoodIn wsX12_tries wsX12_measure := goodIn_r _ [105, 35, 4, 62, 32, 38, 106, 107, 108, 109, 110, 111, 112, 113, 114, 115, 116, 117, 118, 119, 120, 121, 122, 123, 124, 125, 126, 127, 128, 129, 130, 131, 132, 133, 134, 135, 136, 137, 138, 139, 140, 141, 142, 143, 144, 145, 146, 147, 148, 149, 150, 151, 152, 153, 154, 155, 156, 157, 158, 159, 160, 161, 162, 163, 164, 165, 166, 167, 168, 169, 170, 171, 172, 173, 174, 175, 176, 177, 178, 179, 180, 181, 182, 183, 184, 185, 186, 187, 188, 189, 190, 191, 192, 193, 194, 195, 196, 197, 198, 199, 200, 201, 202, 203, 204, 205, 206, 207, 208, 209, 210, 211, 212, 213, 214, 215, 216, 217, 218, 219, 220, 221, 222, 223, 224, 225, 226, 227, 228, 229, 230, 231, 232, 233, 234, 235, 236, 237, 238, 239, 240, 241, 242, 243, 244, 245, 246, 247, 248, 249, 250, 251, 252, 253, 254, 255, 256, 257, 258, 259, 260, 261, 262, 263, 264, 265, 266, 267, 268, 269, 270, 271, 272, 273, 274, 275, 276, 277, 278, 279, 280, 281, 282, 283, 284, 285, 286, 287, 288, 289, 290, 291, 292, 293, 294, 295, 296, 297, 298, 299, 300] (by decide +kernel) (by decide +kernel)
set_option maxRecDepth 20000 in
theorem gX12_tries_X12_measure : GoodIn wsX12_tries (wsV RX12 976 RX12 yX12_measure wsX12_measure) := goodIn_app (goodIn_of _ (by decide +kernel)) ggX12_tries_X12_measure
theorem dX12_tries_0 : decode cX12_tries 0 = .ok (.aload_n 0, 1) := by decide +kernel
theorem dX12_tries_1 : decode cX12_tries 1 = .ok (.invokevirtual 934, 3) := by decide +kernel
theorem dX12_tries_4 : decode cX12_tries 4 = .ok (.iconst 0, 1) := by decide +kernel
theorem dX12_tries_5 : decode cX12_tries 5 = .ok (.istore_n 1, 1) := by decide +kernel
theorem dX12_tries_6 : decode cX12_tries 6 = .ok (.iload_n 1, 1) := by decide +kernel
theorem dX12_tries_7 : decode cX12_tries 7 = .ok (.aload_n 0, 1) := by decide +kernel
theorem dX12_tries_8 : decode cX12_tries 8 = .ok (.getfield 818, 3) := by decide +kernel
theorem dX12_tries_11 : decode cX12_tries 11 = .ok (.if_icmp .ge 32, 3) := by decide +kernel
theorem dX12_tries_43 : decode cX12_tries 43 = .ok (.aload_n 0, 1) := by decide +kernel
theorem dX12_tries_44 : decode cX12_tries 44 = .ok (.invokevirtual 985, 3) := by decide +kernel
theorem dX12_tries_47 : decode cX12_tries 47 = .ok (.ifCond .ne 6, 3) := by decide +kernel
theorem dX12_tries_53 : decode cX12_tries 53 = .ok (.aload_n 0, 1) := by decide +kernel
theorem dX12_tries_54 : decode cX12_tries 54 = .ok (.iconst 0, 1) := by decide +kernel
theorem dX12_tries_55 : decode cX12_tries 55 = .ok (.iconst 0, 1) := by decide +kernel
theorem dX12_tries_56 : decode cX12_tries 56 = .ok (.iconst (-1), 1) := by decide +kernel
theorem dX12_tries_57 : decode cX12_tries 57 = .ok (.invokevirtual 988, 3) := by decide +kernel
theorem dX12_tries_60 : decode cX12_tries 60 = .ok (.aload_n 0, 1) := by decide +kernel
theorem dX12_tries_61 : decode cX12_tries 61 = .ok (.invokevirtual 976, 3) := by decide +kernel
theorem dX12_tries_64 : decode cX12_tries 64 = .ok (.aload_n 0, 1) := by decide +kernel
theorem dX12_tries_65 : decode cX12_tries 65 = .ok (.getfield 349, 3) := by decide +kernel
theorem dX12_tries_68 : decode cX12_tries 68 = .ok (.iconst 0, 1) := by decide +kernel
theorem dX12_tries_69 : decode cX12_tries 69 = .ok (.iaload, 1) := by decide +kernel
theorem dX12_tries_70 : decode cX12_tries 70 = .ok (.iconst (-1), 1) := by decide +kernel
theorem dX12_tries_71 : decode cX12_tries 71 = .ok (.if_icmp .ne 7, 3) := by decide +kernel
theorem dX12_tries_78 : decode cX12_tries 78 = .ok (.iconst 1, 1) := by decide +kernel
theorem dX12_tries_79 : decode cX12_tries 79 = .ok (.ireturn, 1) := by decide +kernel
theorem dX12_leaveNoneOut_0 : decode cX12_leaveNoneOut 0 = .ok (.iconst 0, 1) := by decide +kernel
theorem dX12_leaveNoneOut_1 : decode cX12_leaveNoneOut 1 = .ok (.istore_n 1, 1) := by decide +kernel
theorem dX12_leaveNoneOut_2 : decode cX12_leaveNoneOut 2 = .ok (.iload_n 1, 1) := by decide +kernel
theorem dX12_leaveNoneOut_3 : decode cX12_leaveNoneOut 3 = .ok (.bipush 24, 2) := by decide +kernel
theorem dX12_leaveNoneOut_5 : decode cX12_leaveNoneOut 5 = .ok (.if_icmp .ge 16, 3) := by decide +kernel
theorem dX12_leaveNoneOut_8 : decode cX12_leaveNoneOut 8 = .ok (.aload_n 0, 1) := by decide +kernel
theorem dX12_leaveNoneOut_9 : decode cX12_leaveNoneOut 9 = .ok (.getfield 340, 3) := by decide +kernel
theorem dX12_leaveNoneOut_12 : decode cX12_leaveNoneOut 12 = .ok (.iload_n 1, 1) := by decide +kernel
theorem dX12_leaveNoneOut_13 : decode cX12_leaveNoneOut 13 = .ok (.iconst 0, 1) := by decide +kernel
theorem dX12_leaveNoneOut_14 : decode cX12_leaveNoneOut 14 = .ok (.bastore, 1) := by decide +kernel
theorem dX12_leaveNoneOut_15 : decode cX12_leaveNoneOut 15 = .ok (.iinc 1 1, 3) := by decide +kernel
theorem dX12_leaveNoneOut_18 : decode cX12_leaveNoneOut 18 = .ok (.goto (-16), 3) := by decide +kernel
theorem dX12_leaveNoneOut_21 : decode cX12_leaveNoneOut 21 = .ok (.return_, 1) := by decide +kernel
set_option maxRecDepth 20000 in
theorem ggX12_core_X12_asks : GoodIn wsX12_core wsX12_asks := goodIn_r _ [10, 11, 12, 122, 123, 124, 125, 126, 127, 128, 129, 130, 131, 132, 133, 134, 135, 136, 137, 138, 139, 140, 141, 142, 143, 144, 145, 146, 147, 148, 149, 150, 151, 152, 153, 154, 155, 156, 157, 158, 159, 160, 161, 162, 163, 164, 165, 166, 167, 168, 169, 170, 171, 172, 173, 174, 175, 176, 177, 178, 179, 180, 181, 182, 183, 184, 185, 186, 187, 188, 189, 190, 191, 192, 193, 194, 195, 196, 197, 198, 199, 200, 201, 202, 203, 204, 205, 206, 207, 208, 209, 210, 211, 212, 213, 214, 215, 216, 217, 218, 219, 220, 221, 222, 223, 224, 225, 226, 227, 228, 229, 230, 231, 232, 233, 234, 235, 236, 237, 238, 239, 240, 241, 242, 243, 244, 245, 246, 247, 248, 249, 250, 251, 252, 253, 254, 255, 256, 257, 258, 259, 260, 261, 262, 263, 264, 265, 266, 267, 268, 269, 270, 271, 272, 273, 274, 275, 276, 277, 278, 279, 280, 281, 282, 283, 284, 285, 286, 287, 288, 289, 290, 291, 292, 293, 294, 295, 296, 297, 298, 299, 300, 301, 302, 303, 304, 305, 306, 307, 308, 309, 310, 311, 312, 313, 314, 315, 316] (by decide +kernel) (by decide +kernel)
set_option maxRecDepth 20000 in
theorem gX12_core_X12_asks : GoodIn wsX12_core (wsV RX12 871 RX12 yX12_asks wsX12_asks) := goodIn_app (goodIn_of _ (by decide +kernel)) ggX12_core_X12_asks
set_option maxRecDepth 20000 in
theorem ggX12_core_X12_leaveNoneOut : GoodIn wsX12_core wsX12_leaveNoneOut := goodIn_r _ [16, 4, 122, 123, 124, 125, 126, 127, 128, 129, 130, 131, 132, 133, 134, 135, 136, 137, 138, 139, 140, 141, 142, 143, 144, 145, 146, 147, 148, 149, 150, 151, 152, 153, 154, 155, 156, 157, 158, 159, 160, 161, 162, 163, 164, 165, 166, 167, 168, 169, 170, 171, 172, 173, 174, 175, 176, 177, 178, 179, 180, 181, 182, 183, 184, 185, 186, 187, 188, 189, 190, 191, 192, 193, 194, 195, 196, 197, 198, 199, 200, 201, 202, 203, 204, 205, 206, 207, 208, 209, 210, 211, 212, 213, 214, 215, 216, 217, 218, 219, 220, 221, 222, 223, 224, 225, 226, 227, 228, 229, 230, 231, 232, 233, 234, 235, 236, 237, 238, 239, 240, 241, 242, 243, 244, 245, 246, 247, 248, 249, 250, 251, 252, 253, 254, 255, 256, 257, 258, 259, 260, 261, 262, 263, 264, 265, 266, 267, 268, 269, 270, 271, 272, 273, 274, 275, 276, 277, 278, 279, 280, 281, 282, 283, 284, 285, 286, 287, 288, 289, 290, 291, 292, 293, 294, 295, 296, 297, 298, 299, 300, 301, 302, 303, 304, 305, 306, 307, 308, 309, 310, 311, 312, 313, 314, 315, 316] (by decide +kernel) (by decide +kernel)
set_option maxRecDepth 20000 in
theorem gX12_core_X12_leaveNoneOut : GoodIn wsX12_core (wsV RX12 1044 RX12 yX12_leaveNoneOut wsX12_leaveNoneOut) := goodIn_app (goodIn_of _ (by decide +kernel)) ggX12_core_X12_leaveNoneOut
set_option maxRecDepth 20000 in
theorem ggX12_core_X12_tries : GoodIn wsX12_core wsX12_tries := goodIn_r _ [20, 2, 3, 4, 21, 22, 23, 24, 9, 25, 26, 27, 28, 29, 30, 31, 32, 33, 34, 35, 36, 37, 38, 39, 40, 41, 42, 43, 44, 45, 46, 47, 48, 49, 50, 51, 52, 53, 54, 55, 56, 57, 58, 59, 60, 61, 62, 63, 64, 65, 66, 67, 68, 69, 70, 71, 72, 73, 74, 75, 76, 77, 78, 79, 80, 81, 82, 83, 84, 85, 86, 87, 88, 89, 90, 91, 92, 93, 94, 95, 96, 97, 98, 99, 100, 101, 102, 103, 104, 105, 106, 107, 108, 109, 110, 111, 112, 113, 114, 115, 116, 117, 118, 119, 120, 121, 122, 123, 124, 125, 126, 127, 128, 129, 130, 131, 132, 133, 134, 135, 136, 137, 138, 139, 140, 141, 142, 143, 144, 145, 146, 147, 148, 149, 150, 151, 152, 153, 154, 155, 156, 157, 158, 159, 160, 161, 162, 163, 164, 165, 166, 167, 168, 169, 170, 171, 172, 173, 174, 175, 176, 177, 178, 179, 180, 181, 182, 183, 184, 185, 186, 187, 188, 189, 190, 191, 192, 193, 194, 195, 196, 197, 198, 199, 200, 201, 202, 203, 204, 205, 206, 207, 208, 209, 210, 211, 212, 213, 214, 215, 216, 217, 218, 219, 220, 221, 222, 223, 224, 225, 226, 227, 228, 229, 230, 231, 232, 233, 234, 235, 236, 237, 238, 239, 240, 241, 242, 243, 244, 245, 246, 247, 248, 249, 250, 251, 252, 253, 254, 255, 256, 257, 258, 259, 260, 261, 262, 263, 264, 265, 266, 267, 268, 269, 270, 271, 272, 273, 274, 275, 276, 277, 278, 279, 280, 281, 282, 283, 284, 285, 286, 287, 288, 289, 290, 291, 292, 293, 294, 295, 296, 297, 298, 299, 300, 301, 302, 303, 304, 305, 306, 307, 308, 309, 310, 311, 312, 313, 314, 315, 316] (by decide +kernel) (by decide +kernel)
set_option maxRecDepth 20000 in
theorem gX12_core_X12_tries : GoodIn wsX12_core (wsV RX12 1047 RX12 yX12_tries wsX12_tries) := goodIn_app (goodIn_of _ (by decide +kernel)) ggX12_core_X12_tries
theorem dX12_core_0 : decode cX12_core 0 = .ok (.aload_n 0, 1) := by decide +kernel
theorem dX12_core_1 : decode cX12_core 1 = .ok (.invokevirtual 871, 3) := by decide +kernel
theorem dX12_core_4 : decode cX12_core 4 = .ok (.ifCond .ne 6, 3) := by decide +kernel
theorem dX12_core_10 : decode cX12_core 10 = .ok (.aload_n 0, 1) := by decide +kernel
theorem dX12_core_11 : decode cX12_core 11 = .ok (.invokevirtual 1044, 3) := by decide +kernel
theorem dX12_core_14 : decode cX12_core 14 = .ok (.aload_n 0, 1) := by decide +kernel
theorem dX12_core_15 : decode cX12_core 15 = .ok (.invokevirtual 1047, 3) := by decide +kernel
theorem dX12_core_18 : decode cX12_core 18 = .ok (.istore_n 1, 1) := by decide +kernel
theorem dX12_core_19 : decode cX12_core 19 = .ok (.iload_n 1, 1) := by decide +kernel
theorem dX12_core_20 : decode cX12_core 20 = .ok (.bipush (-107), 2) := by decide +kernel
theorem dX12_core_22 : decode cX12_core 22 = .ok (.if_icmp .ne 6, 3) := by decide +kernel
theorem dX12_core_28 : decode cX12_core 28 = .ok (.aload_n 0, 1) := by decide +kernel
theorem dX12_core_29 : decode cX12_core 29 = .ok (.iconst 0, 1) := by decide +kernel
theorem dX12_core_30 : decode cX12_core 30 = .ok (.putfield 1050, 3) := by decide +kernel
theorem dX12_core_33 : decode cX12_core 33 = .ok (.iload_n 1, 1) := by decide +kernel
theorem dX12_core_34 : decode cX12_core 34 = .ok (.iconst 1, 1) := by decide +kernel
theorem dX12_core_35 : decode cX12_core 35 = .ok (.if_icmp .ne 5, 3) := by decide +kernel
theorem dX12_core_38 : decode cX12_core 38 = .ok (.iconst 0, 1) := by decide +kernel
theorem dX12_core_39 : decode cX12_core 39 = .ok (.ireturn, 1) := by decide +kernel
set_option maxRecDepth 20000 in
theorem ggX12_inCore_X12_in : GoodIn wsX12_inCore wsX12_in := goodIn_r _ [7] (by decide +kernel) (by decide +kernel)
set_option maxRecDepth 20000 in
theorem gX12_inCore_X12_in : GoodIn wsX12_inCore (va_wsS RX12 504 yX12_in wsX12_in) := goodIn_app (goodIn_of _ (by decide +kernel)) ggX12_inCore_X12_in
theorem dX12_inCore_0 : decode cX12_inCore 0 = .ok (.aload_n 0, 1) := by decide +kernel
theorem dX12_inCore_1 : decode cX12_inCore 1 = .ok (.iconst 0, 1) := by decide +kernel
theorem dX12_inCore_2 : decode cX12_inCore 2 = .ok (.putfield 3, 3) := by decide +kernel
theorem dX12_inCore_5 : decode cX12_inCore 5 = .ok (.iload_n 1, 1) := by decide +kernel
theorem dX12_inCore_6 : decode cX12_inCore 6 = .ok (.i2l, 1) := by decide +kernel
theorem dX12_inCore_7 : decode cX12_inCore 7 = .ok (.lconst 0, 1) := by decide +kernel
theorem dX12_inCore_8 : decode cX12_inCore 8 = .ok (.aload_n 0, 1) := by decide +kernel
theorem dX12_inCore_9 : decode cX12_inCore 9 = .ok (.getfield 1050, 3) := by decide +kernel
theorem dX12_inCore_12 : decode cX12_inCore 12 = .ok (.iconst 1, 1) := by decide +kernel
theorem dX12_inCore_13 : decode cX12_inCore 13 = .ok (.isub, 1) := by decide +kernel
theorem dX12_inCore_14 : decode cX12_inCore 14 = .ok (.i2l, 1) := by decide +kernel
theorem dX12_inCore_15 : decode cX12_inCore 15 = .ok (.invokestatic 504, 3) := by decide +kernel
theorem dX12_inCore_18 : decode cX12_inCore 18 = .ok (.ifCond .eq 12, 3) := by decide +kernel
theorem dX12_inCore_30 : decode cX12_inCore 30 = .ok (.iconst (-1), 1) := by decide +kernel
theorem dX12_inCore_31 : decode cX12_inCore 31 = .ok (.ireturn, 1) := by decide +kernel
set_option maxRecDepth 20000 in
theorem ggX12_alike_X12_asks : GoodIn wsX12_alike wsX12_asks := goodIn_r _ [8, 9, 10, 114, 115, 116, 117, 118, 119, 120, 121, 122, 123, 124, 125, 126, 127, 128, 129, 130, 131, 132, 133, 134, 135, 136, 137, 138, 139, 140, 141, 142, 143, 144, 145, 146, 147, 148, 149, 150, 151, 152, 153, 154, 155, 156, 157, 158, 159, 160, 161, 162, 163, 164, 165, 166, 167, 168, 169, 170, 171, 172, 173, 174, 175, 176, 177, 178, 179, 180, 181, 182, 183, 184, 185, 186, 187, 188, 189, 190, 191, 192, 193, 194, 195, 196, 197, 198, 199, 200, 201, 202, 203, 204, 205, 206, 207, 208, 209, 210, 211, 212, 213, 214, 215, 216, 217, 218, 219, 220, 221, 222, 223, 224, 225, 226, 227, 228, 229, 230, 231, 232, 233, 234, 235, 236, 237, 238, 239, 240, 241, 242, 243, 244, 245, 246, 247, 248, 249, 250, 251, 252, 253, 254, 255, 256, 257, 258, 259, 260, 261, 262, 263, 264, 265, 266, 267, 268, 269, 270, 271, 272, 273, 274, 275, 276, 277, 278, 279, 280, 281, 282, 283, 284, 285, 286, 287, 288, 289, 290, 291, 292, 293, 294, 295, 296, 297, 298, 299, 300, 301, 302, 303, 304, 305, 306, 307, 308] (by decide +kernel) (by decide +kernel)
set_option maxRecDepth 20000 in
theorem gX12_alike_X12_asks : GoodIn wsX12_alike (wsV RX12 871 RX12 yX12_asks wsX12_asks) := goodIn_app (goodIn_of _ (by decide +kernel)) ggX12_alike_X12_asks
set_option maxRecDepth 20000 in
theorem ggX12_alike_X12_isClaim : GoodIn wsX12_alike wsX12_isClaim := goodIn_r _ [14, 15, 16, 17, 7, 18, 114, 115, 116, 117, 118, 119, 120, 121, 122, 123, 124, 125, 126, 127, 128, 129, 130, 131, 132, 133, 134, 135, 136, 137, 138, 139, 140, 141, 142, 143, 144, 145, 146, 147, 148, 149, 150, 151, 152, 153, 154, 155, 156, 157, 158, 159, 160, 161, 162, 163, 164, 165, 166, 167, 168, 169, 170, 171, 172, 173, 174, 175, 176, 177, 178, 179, 180, 181, 182, 183, 184, 185, 186, 187, 188, 189, 190, 191, 192, 193, 194, 195, 196, 197, 198, 199, 200, 201, 202, 203, 204, 205, 206, 207, 208, 209, 210, 211, 212, 213, 214, 215, 216, 217, 218, 219, 220, 221, 222, 223, 224, 225, 226, 227, 228, 229, 230, 231, 232, 233, 234, 235, 236, 237, 238, 239, 240, 241, 242, 243, 244, 245, 246, 247, 248, 249, 250, 251, 252, 253, 254, 255, 256, 257, 258, 259, 260, 261, 262, 263, 264, 265, 266, 267, 268, 269, 270, 271, 272, 273, 274, 275, 276, 277, 278, 279, 280, 281, 282, 283, 284, 285, 286, 287, 288, 289, 290, 291, 292, 293, 294, 295, 296, 297, 298, 299, 300, 301, 302, 303, 304, 305, 306, 307, 308] (by decide +kernel) (by decide +kernel)
set_option maxRecDepth 20000 in
theorem gX12_alike_X12_isClaim : GoodIn wsX12_alike (wsV RX12 877 RX12 yX12_isClaim wsX12_isClaim) := goodIn_app (goodIn_of _ (by decide +kernel)) ggX12_alike_X12_isClaim
theorem dX12_alike_0 : decode cX12_alike 0 = .ok (.aload_n 0, 1) := by decide +kernel
theorem dX12_alike_1 : decode cX12_alike 1 = .ok (.invokevirtual 871, 3) := by decide +kernel
theorem dX12_alike_4 : decode cX12_alike 4 = .ok (.ifCond .ne 6, 3) := by decide +kernel
theorem dX12_alike_10 : decode cX12_alike 10 = .ok (.aload_n 0, 1) := by decide +kernel
theorem dX12_alike_11 : decode cX12_alike 11 = .ok (.iload_n 1, 1) := by decide +kernel
theorem dX12_alike_12 : decode cX12_alike 12 = .ok (.invokevirtual 877, 3) := by decide +kernel
theorem dX12_alike_15 : decode cX12_alike 15 = .ok (.ifCond .eq 11, 3) := by decide +kernel
theorem dX12_alike_26 : decode cX12_alike 26 = .ok (.bipush (-101), 2) := by decide +kernel
theorem dX12_alike_28 : decode cX12_alike 28 = .ok (.ireturn, 1) := by decide +kernel
set_option maxRecDepth 20000 in
theorem ggX12_places_X12_asks : GoodIn wsX12_places wsX12_asks := goodIn_r _ [6, 7, 8, 65, 66, 67, 68, 69, 70, 71, 72, 73, 74, 75, 76, 77, 78, 79, 80, 81, 82, 83, 84, 85, 86, 87, 88, 89, 90, 91, 92, 93, 94, 95, 96, 97, 98, 99, 100, 101, 102, 103, 104, 105, 106, 107, 108, 109, 110, 111, 112, 113, 114, 115, 116, 117, 118, 119, 120, 121, 122, 123, 124, 125, 126, 127, 128, 129, 130, 131, 132, 133, 134, 135, 136, 137, 138, 139, 140, 141, 142, 143, 144, 145, 146, 147, 148, 149, 150, 151, 152, 153, 154, 155, 156, 157, 158, 159, 160, 161, 162, 163, 164, 165, 166, 167, 168, 169, 170, 171, 172, 173, 174, 175, 176, 177, 178, 179, 180, 181, 182, 183, 184, 185, 186, 187, 188, 189, 190, 191, 192, 193, 194, 195, 196, 197, 198, 199, 200, 201, 202, 203, 204, 205, 206, 207, 208, 209, 210, 211, 212, 213, 214, 215, 216, 217, 218, 219, 220, 221, 222, 223, 224, 225, 226, 227, 228, 229, 230, 231, 232, 233, 234, 235, 236, 237, 238, 239, 240, 241, 242, 243, 244, 245, 246, 247, 248, 249, 250, 251, 252, 253, 254, 255, 256, 257, 258, 259] (by decide +kernel) (by decide +kernel)
set_option maxRecDepth 20000 in
theorem gX12_places_X12_asks : GoodIn wsX12_places (wsV RX12 871 RX12 yX12_asks wsX12_asks) := goodIn_app (goodIn_of _ (by decide +kernel)) ggX12_places_X12_asks
set_option maxRecDepth 20000 in
theorem ggX12_places_X12_putOn : GoodIn wsX12_places wsX12_putOn := goodIn_r _ [12, 13, 14, 15, 16, 17, 5, 18, 19, 20, 21, 22, 23, 24, 25, 26, 27, 28, 29, 30, 31, 32, 33, 34, 35, 65, 66, 67, 68, 69, 70, 71, 72, 73, 74, 75, 76, 77, 78, 79, 80, 81, 82, 83, 84, 85, 86, 87, 88, 89, 90, 91, 92, 93, 94, 95, 96, 97, 98, 99, 100, 101, 102, 103, 104, 105, 106, 107, 108, 109, 110, 111, 112, 113, 114, 115, 116, 117, 118, 119, 120, 121, 122, 123, 124, 125, 126, 127, 128, 129, 130, 131, 132, 133, 134, 135, 136, 137, 138, 139, 140, 141, 142, 143, 144, 145, 146, 147, 148, 149, 150, 151, 152, 153, 154, 155, 156, 157, 158, 159, 160, 161, 162, 163, 164, 165, 166, 167, 168, 169, 170, 171, 172, 173, 174, 175, 176, 177, 178, 179, 180, 181, 182, 183, 184, 185, 186, 187, 188, 189, 190, 191, 192, 193, 194, 195, 196, 197, 198, 199, 200, 201, 202, 203, 204, 205, 206, 207, 208, 209, 210, 211, 212, 213, 214, 215, 216, 217, 218, 219, 220, 221, 222, 223, 224, 225, 226, 227, 228, 229, 230, 231, 232, 233, 234, 235, 236, 237, 238, 239, 240, 241, 242, 243, 244, 245, 246, 247, 248, 249, 250, 251, 252, 253, 254, 255, 256, 257, 258, 259] (by decide +kernel) (by decide +kernel)
set_option maxRecDepth 20000 in
theorem gX12_places_X12_putOn : GoodIn wsX12_places (wsV RX12 982 RX12 yX12_putOn wsX12_putOn) := goodIn_app (goodIn_of _ (by decide +kernel)) ggX12_places_X12_putOn
set_option maxRecDepth 20000 in
theorem ggX12_places_X12_explore : GoodIn wsX12_places wsX12_explore := goodIn_r _ [39, 19, 40, 41, 42, 43, 1, 44, 26, 28, 45, 46, 47, 48, 49, 5, 50, 20, 51, 52, 53, 25, 54, 32, 33, 34, 35, 27, 29, 30, 31, 55, 56, 57, 58, 59, 60, 61, 62, 63, 64, 65, 66, 67, 68, 69, 70, 71, 72, 73, 74, 75, 76, 77, 78, 79, 80, 81, 82, 83, 84, 85, 86, 87, 88, 89, 90, 91, 92, 93, 94, 95, 96, 97, 98, 99, 100, 101, 102, 103, 104, 105, 106, 107, 108, 109, 110, 111, 112, 113, 114, 115, 116, 117, 118, 119, 120, 121, 122, 123, 124, 125, 126, 127, 128, 129, 130, 131, 132, 133, 134, 135, 136, 137, 138, 139, 140, 141, 142, 143, 144, 145, 146, 147, 148, 149, 150, 151, 152, 153, 154, 155, 156, 157, 158, 159, 160, 161, 162, 163, 164, 165, 166, 167, 168, 169, 170, 171, 172, 173, 174, 175, 176, 177, 178, 179, 180, 181, 182, 183, 184, 185, 186, 187, 188, 189, 190, 191, 192, 193, 194, 195, 196, 197, 198, 199, 200, 201, 202, 203, 204, 205, 206, 207, 208, 209, 210, 211, 212, 213, 214, 215, 216, 217, 218, 219, 220, 221, 222, 223, 224, 225, 226, 227, 228, 229, 230, 231, 232, 233, 234, 235, 236, 237, 238, 239, 240, 241, 242, 243, 244, 245, 246, 247, 248, 249, 250, 251, 252, 253, 254, 255, 256, 257, 258, 259] (by decide +kernel) (by decide +kernel)
set_option maxRecDepth 20000 in
theorem gX12_places_X12_explore : GoodIn wsX12_places (wsV RX12 985 RX12 yX12_explore wsX12_explore) := goodIn_app (goodIn_of _ (by decide +kernel)) ggX12_places_X12_explore
theorem dX12_places_0 : decode cX12_places 0 = .ok (.aload_n 0, 1) := by decide +kernel
theorem dX12_places_1 : decode cX12_places 1 = .ok (.invokevirtual 871, 3) := by decide +kernel
theorem dX12_places_4 : decode cX12_places 4 = .ok (.ifCond .ne 6, 3) := by decide +kernel
theorem dX12_places_10 : decode cX12_places 10 = .ok (.aload_n 0, 1) := by decide +kernel
theorem dX12_places_11 : decode cX12_places 11 = .ok (.invokevirtual 982, 3) := by decide +kernel
theorem dX12_places_14 : decode cX12_places 14 = .ok (.aload_n 0, 1) := by decide +kernel
theorem dX12_places_15 : decode cX12_places 15 = .ok (.invokevirtual 985, 3) := by decide +kernel
theorem dX12_places_18 : decode cX12_places 18 = .ok (.ifCond .eq 10, 3) := by decide +kernel
theorem dX12_places_21 : decode cX12_places 21 = .ok (.aload_n 0, 1) := by decide +kernel
theorem dX12_places_22 : decode cX12_places 22 = .ok (.getfield 957, 3) := by decide +kernel
theorem dX12_places_25 : decode cX12_places 25 = .ok (.goto 5, 3) := by decide +kernel
theorem dX12_places_30 : decode cX12_places 30 = .ok (.ireturn, 1) := by decide +kernel
set_option maxRecDepth 20000 in
theorem ggX12_own_X12_asks : GoodIn wsX12_own wsX12_asks := goodIn_r _ [15, 16, 17, 130, 131, 132, 133, 134, 135, 136, 137, 138, 139, 140, 141, 142, 143, 144, 145, 146, 147, 148, 149, 150, 151, 152, 153, 154, 155, 156, 157, 158, 159, 160, 161, 162, 163, 164, 165, 166, 167, 168, 169, 170, 171, 172, 173, 174, 175, 176, 177, 178, 179, 180, 181, 182, 183, 184, 185, 186, 187, 188, 189, 190, 191, 192, 193, 194, 195, 196, 197, 198, 199, 200, 201, 202, 203, 204, 205, 206, 207, 208, 209, 210, 211, 212, 213, 214, 215, 216, 217, 218, 219, 220, 221, 222, 223, 224, 225, 226, 227, 228, 229, 230, 231, 232, 233, 234, 235, 236, 237, 238, 239, 240, 241, 242, 243, 244, 245, 246, 247, 248, 249, 250, 251, 252, 253, 254, 255, 256, 257, 258, 259, 260, 261, 262, 263, 264, 265, 266, 267, 268, 269, 270, 271, 272, 273, 274, 275, 276, 277, 278, 279, 280, 281, 282, 283, 284, 285, 286, 287, 288, 289, 290, 291, 292, 293, 294, 295, 296, 297, 298, 299, 300, 301, 302, 303, 304, 305, 306, 307, 308, 309, 310, 311, 312, 313, 314, 315, 316, 317, 318, 319, 320, 321, 322, 323, 324] (by decide +kernel) (by decide +kernel)
set_option maxRecDepth 20000 in
theorem gX12_own_X12_asks : GoodIn wsX12_own (wsV RX12 871 RX12 yX12_asks wsX12_asks) := goodIn_app (goodIn_of _ (by decide +kernel)) ggX12_own_X12_asks
set_option maxRecDepth 20000 in
theorem ggX12_own_X12_isClaim : GoodIn wsX12_own wsX12_isClaim := goodIn_r _ [21, 22, 23, 24, 14, 25, 130, 131, 132, 133, 134, 135, 136, 137, 138, 139, 140, 141, 142, 143, 144, 145, 146, 147, 148, 149, 150, 151, 152, 153, 154, 155, 156, 157, 158, 159, 160, 161, 162, 163, 164, 165, 166, 167, 168, 169, 170, 171, 172, 173, 174, 175, 176, 177, 178, 179, 180, 181, 182, 183, 184, 185, 186, 187, 188, 189, 190, 191, 192, 193, 194, 195, 196, 197, 198, 199, 200, 201, 202, 203, 204, 205, 206, 207, 208, 209, 210, 211, 212, 213, 214, 215, 216, 217, 218, 219, 220, 221, 222, 223, 224, 225, 226, 227, 228, 229, 230, 231, 232, 233, 234, 235, 236, 237, 238, 239, 240, 241, 242, 243, 244, 245, 246, 247, 248, 249, 250, 251, 252, 253, 254, 255, 256, 257, 258, 259, 260, 261, 262, 263, 264, 265, 266, 267, 268, 269, 270, 271, 272, 273, 274, 275, 276, 277, 278, 279, 280, 281, 282, 283, 284, 285, 286, 287, 288, 289, 290, 291, 292, 293, 294, 295, 296, 297, 298, 299, 300, 301, 302, 303, 304, 305, 306, 307, 308, 309, 310, 311, 312, 313, 314, 315, 316, 317, 318, 319, 320, 321, 322, 323, 324] (by decide +kernel) (by decide +kernel)
set_option maxRecDepth 20000 in
theorem gX12_own_X12_isClaim : GoodIn wsX12_own (wsV RX12 877 RX12 yX12_isClaim wsX12_isClaim) := goodIn_app (goodIn_of _ (by decide +kernel)) ggX12_own_X12_isClaim
theorem dX12_own_0 : decode cX12_own 0 = .ok (.aload_n 0, 1) := by decide +kernel
theorem dX12_own_1 : decode cX12_own 1 = .ok (.invokevirtual 871, 3) := by decide +kernel
theorem dX12_own_4 : decode cX12_own 4 = .ok (.ifCond .ne 6, 3) := by decide +kernel
theorem dX12_own_10 : decode cX12_own 10 = .ok (.aload_n 0, 1) := by decide +kernel
theorem dX12_own_11 : decode cX12_own 11 = .ok (.iload_n 1, 1) := by decide +kernel
theorem dX12_own_12 : decode cX12_own 12 = .ok (.invokevirtual 877, 3) := by decide +kernel
theorem dX12_own_15 : decode cX12_own 15 = .ok (.ifCond .ne 6, 3) := by decide +kernel
theorem dX12_own_18 : decode cX12_own 18 = .ok (.bipush (-101), 2) := by decide +kernel
theorem dX12_own_20 : decode cX12_own 20 = .ok (.ireturn, 1) := by decide +kernel
set_option maxHeartbeats 400000000 in
set_option maxRecDepth 100000 in
theorem c_X0_mark_1 (l : Launch) (E : kE) (D : va_G) (cI cJ cB cZ : ClassId) (h0 : Nat) (f0 : List Value) (h1 : Nat) (g0 : Nat → Int32) (e0 : f0[4]? = some (.ref h1)) (e1 : g0 0 = 0) : kI l E D (kT cI cJ cB cZ) yX0_mark wsX0_mark ({ frames := 0, cells := 0, slots := 0, locals := 0 }) [.ref h0, .int 1, .int 1] [(h0, .inr (0, f0)), (h1, .inl (cI, 3000, .inl g0))] (0) [(h0, .inr (0, f0)), (h1, .inl (cI, 3000, .inl g0))] 0 0 := by
  intro sz
  refine Met.ofW (cc := cX0_mark) (maxL := 7) (ret := (some .boolean)) (by decide) rfl ?_
  intro p e s m args below meth c s₁ B hml hv
  obtain ⟨rfl, hsz, hP, hK, hD0, hN, hX⟩ := hv
  have hx := B.exec
  have hb := B.bytes
  have hr := B.returns
  have hts := atoms_spec (ws := wsX0_mark) B.pre
  have hown : s.vm.findClass RX0 = some m.cls := findClass_of_methodNamed B.named
  have hlocks := B.notSynchronized
  have hin0 : ∀ w ∈ wsX00, w ∈ wsX0_mark := (fun w h => (List.mem_cons_of_mem _ (List.mem_append_left _ (List.mem_append_right _ h))))
  subst hsz
  have hD := hD0.self (sz := s.heap.size)
  have hAE := k_AE hD0 hX
  generalize hAe : va_A [(h0, .inr (0, f0)), (h1, .inl (cI, 3000, .inl g0))] s.heap.size = A at hD hAE ⊢
  have hA : ∀ q : Nat, s.heap.size ≤ q → A q := fun q h => by rw [← hAe]; exact Or.inr h
  have hS : va_S A s.heap s.heap [] := va_S.rf
  have hP : va_P D vwCl [(h0, .inr (0, f0)), (h1, .inl (cI, 3000, .inl g0))] s.heap := hP
  have hl := lv_entry ([.ref h0, .int 1, .int 1] : List Value) (n := 7) (Nat.le_of_ble_eq_true rfl)
  rw [lg_entry_eq]
  generalize (lg_sl ([.ref h0, .int 1, .int 1]) ++ List.replicate (7 - (lg_sl ([.ref h0, .int 1, .int 1])).length) Slot.unset).toArray = ls at hl ⊢
  have hl : lv_has ls 7 [(0, .ref h0), (1, .int 1), (2, .int 1)] := hl
  refine lv_iconst (v := 0) hx hb dX0_mark_0 (by decide) ?_
  refine lv_istore_n (lv' := [(3, .int 0), (0, .ref h0), (1, .int 1), (2, .int 1)]) hx hb dX0_mark_1 rfl hl (by decide) rfl (fun ls hl => ?_)
  refine lv_iconst (v := 0) hx hb dX0_mark_2 (by decide) ?_
  refine lv_istore (lv' := [(4, .int 0), (3, .int 0), (0, .ref h0), (1, .int 1), (2, .int 1)]) hx hb dX0_mark_3 hl (by decide) rfl (fun ls hl => ?_)
  refine lv_iload hx hb dX0_mark_5 (lv_at hl 0 rfl) ?_
  refine lv_iload_n hx hb dX0_mark_7 rfl (lv_at hl 3 rfl) ?_
  refine lv_icmp_ge (tgt := 117) hx hb dX0_mark_8 (by decide) (fun c9 => absurd c9 (by decide)) (fun _ => ?_)
  refine lv_iload hx hb dX0_mark_11 (lv_at hl 0 rfl) ?_
  refine lv_sipush (v := 3000) hx hb dX0_mark_13 (by decide) ?_
  refine lv_icmp_ge (tgt := 117) hx hb dX0_mark_16 (by decide) (fun c9 => absurd c9 (by decide)) (fun _ => ?_)
  refine lv_aload_n hx hb dX0_mark_19 rfl (lv_at hl 2 rfl) ?_
  refine va_get (D := D) (ref := "IntegerHouse$Answers") (ci := 0) (v := .ref h1) (C := RX0) (T := TX0) (N := 19) hx hb hts hin0 hown hK hP 0 rfl rfl 4 (by decide) (hts (.fieldLink RX0 18 "IntegerHouse$Answers" "far" "[I") (List.mem_cons_of_mem _ (List.mem_append_left _ (List.mem_append_left _ (List.mem_of_getElem? (i := 0) rfl))))) (fun _ h9 => h9) e0 dX0_mark_20 ?_
  refine lv_iload hx hb dX0_mark_23 (lv_at hl 0 rfl) ?_
  refine va_iald hx hb hK hP 1 0 rfl rfl (k_in (by decide)) dX0_mark_25 ?_
  refine k_topi (y := 0) e1 ?_
  refine lv_iload_n hx hb dX0_mark_26 rfl (lv_at hl 4 rfl) ?_
  refine lv_icmp_ne (tgt := 111) hx hb dX0_mark_27 (by decide) (fun _ => ?_) (fun c9 => absurd c9 (by decide))
  refine lv_iinc (v := 1) (lv' := [(4, .int 1), (3, .int 0), (0, .ref h0), (1, .int 1), (2, .int 1)]) hx hb dX0_mark_111 hl (k := 0) rfl (by decide) (by decide) rfl (fun ls hl => ?_)
  refine lv_goto (tgt := 5) hx hb dX0_mark_114 (by decide) ?_
  refine lv_iload hx hb dX0_mark_5 (lv_at hl 0 rfl) ?_
  refine lv_iload_n hx hb dX0_mark_7 rfl (lv_at hl 3 rfl) ?_
  refine lv_icmp_ge (tgt := 117) hx hb dX0_mark_8 (by decide) (fun _ => ?_) (fun c9 => absurd (by decide) c9)
  refine lv_iload_n hx hb dX0_mark_117 rfl (lv_at hl 1 rfl) ?_
  exact W.zret (v := 0) hx hb hr rfl (fun t ht hW => ⟨⟨0, (), rfl, rfl, kB_mk ht hW hP hK hD⟩, hS.F ht⟩) hS.2.2 dX0_mark_118
set_option maxHeartbeats 400000000 in
set_option maxRecDepth 100000 in
theorem c_J6_bitCount_0f7a4_1 (l : Launch) (E : kE) (D : va_G) (cI cJ cB cZ : ClassId)   : kI l E D (kT cI cJ cB cZ) yJ6_bitCount_0f7a4 wsJ6_bitCount_0f7a4 ({ frames := 0, cells := 0, slots := 0, locals := 0 }) [.int 1] [] (1) [] 0 0 := by
  intro sz
  refine Met.ofW (cc := cJ6_bitCount_0f7a4) (maxL := 1) (ret := (some .int)) (by decide) rfl ?_
  intro p e s m args below meth c s₁ B hml hv
  obtain ⟨rfl, hsz, hP, hK, hD0, hN, hX⟩ := hv
  have hx := B.exec
  have hb := B.bytes
  have hr := B.returns
  have hts := atoms_spec (ws := wsJ6_bitCount_0f7a4) B.pre
  have hown : s.vm.findClass RJ6 = some m.cls := findClass_of_methodNamed B.named
  have hlocks := B.notSynchronized
  subst hsz
  have hD := hD0.self (sz := s.heap.size)
  have hAE := k_AE hD0 hX
  generalize hAe : va_A [] s.heap.size = A at hD hAE ⊢
  have hA : ∀ q : Nat, s.heap.size ≤ q → A q := fun q h => by rw [← hAe]; exact Or.inr h
  have hS : va_S A s.heap s.heap [] := va_S.rf
  have hP : va_P D vwCl [] s.heap := hP
  have hl := lv_entry ([.int 1] : List Value) (n := 1) (Nat.le_of_ble_eq_true rfl)
  rw [lg_entry_eq]
  generalize (lg_sl ([.int 1]) ++ List.replicate (1 - (lg_sl ([.int 1])).length) Slot.unset).toArray = ls at hl ⊢
  have hl : lv_has ls 1 [(0, .int 1)] := hl
  refine lv_iload_n hx hb dJ6_bitCount_0f7a4_0 rfl (lv_at hl 0 rfl) ?_
  refine lv_iload_n hx hb dJ6_bitCount_0f7a4_1 rfl (lv_at hl 0 rfl) ?_
  refine lv_iconst (v := 1) hx hb dJ6_bitCount_0f7a4_2 (by decide) ?_
  refine lv_iushr (v := 0) hx hb dJ6_bitCount_0f7a4_3 (by decide) ?_
  refine lv_ldcw (own := RJ6) (index := 265) (v := 1431655765) hx hb hown (hts (.constant RJ6 265 (1431655765)) (List.mem_cons_of_mem _ (List.mem_of_getElem? (i := 0) rfl))) dJ6_bitCount_0f7a4_4 ?_
  refine lv_iand hx hb dJ6_bitCount_0f7a4_7 ?_
  refine k_topi (y := 0) (by decide) ?_
  refine lv_isub hx hb dJ6_bitCount_0f7a4_8 ?_
  refine k_topi (y := 1) (by decide) ?_
  refine lv_istore_n (lv' := [(0, .int 1)]) hx hb dJ6_bitCount_0f7a4_9 rfl hl (by decide) rfl (fun ls hl => ?_)
  refine lv_iload_n hx hb dJ6_bitCount_0f7a4_10 rfl (lv_at hl 0 rfl) ?_
  refine lv_ldcw (own := RJ6) (index := 266) (v := 858993459) hx hb hown (hts (.constant RJ6 266 (858993459)) (List.mem_cons_of_mem _ (List.mem_of_getElem? (i := 1) rfl))) dJ6_bitCount_0f7a4_11 ?_
  refine lv_iand hx hb dJ6_bitCount_0f7a4_14 ?_
  refine k_topi (y := 1) (by decide) ?_
  refine lv_iload_n hx hb dJ6_bitCount_0f7a4_15 rfl (lv_at hl 0 rfl) ?_
  refine lv_iconst (v := 2) hx hb dJ6_bitCount_0f7a4_16 (by decide) ?_
  refine lv_iushr (v := 0) hx hb dJ6_bitCount_0f7a4_17 (by decide) ?_
  refine lv_ldcw (own := RJ6) (index := 266) (v := 858993459) hx hb hown (hts (.constant RJ6 266 (858993459)) (List.mem_cons_of_mem _ (List.mem_of_getElem? (i := 1) rfl))) dJ6_bitCount_0f7a4_18 ?_
  refine lv_iand hx hb dJ6_bitCount_0f7a4_21 ?_
  refine k_topi (y := 0) (by decide) ?_
  refine lv_iadd hx hb dJ6_bitCount_0f7a4_22 ?_
  refine k_topi (y := 1) (by decide) ?_
  refine lv_istore_n (lv' := [(0, .int 1)]) hx hb dJ6_bitCount_0f7a4_23 rfl hl (by decide) rfl (fun ls hl => ?_)
  refine lv_iload_n hx hb dJ6_bitCount_0f7a4_24 rfl (lv_at hl 0 rfl) ?_
  refine lv_iload_n hx hb dJ6_bitCount_0f7a4_25 rfl (lv_at hl 0 rfl) ?_
  refine lv_iconst (v := 4) hx hb dJ6_bitCount_0f7a4_26 (by decide) ?_
  refine lv_iushr (v := 0) hx hb dJ6_bitCount_0f7a4_27 (by decide) ?_
  refine lv_iadd hx hb dJ6_bitCount_0f7a4_28 ?_
  refine k_topi (y := 1) (by decide) ?_
  refine lv_ldcw (own := RJ6) (index := 267) (v := 252645135) hx hb hown (hts (.constant RJ6 267 (252645135)) (List.mem_cons_of_mem _ (List.mem_of_getElem? (i := 2) rfl))) dJ6_bitCount_0f7a4_29 ?_
  refine lv_iand hx hb dJ6_bitCount_0f7a4_32 ?_
  refine k_topi (y := 1) (by decide) ?_
  refine lv_istore_n (lv' := [(0, .int 1)]) hx hb dJ6_bitCount_0f7a4_33 rfl hl (by decide) rfl (fun ls hl => ?_)
  refine lv_iload_n hx hb dJ6_bitCount_0f7a4_34 rfl (lv_at hl 0 rfl) ?_
  refine lv_iload_n hx hb dJ6_bitCount_0f7a4_35 rfl (lv_at hl 0 rfl) ?_
  refine lv_bipush (v := 8) hx hb dJ6_bitCount_0f7a4_36 (by decide) ?_
  refine lv_iushr (v := 0) hx hb dJ6_bitCount_0f7a4_38 (by decide) ?_
  refine lv_iadd hx hb dJ6_bitCount_0f7a4_39 ?_
  refine k_topi (y := 1) (by decide) ?_
  refine lv_istore_n (lv' := [(0, .int 1)]) hx hb dJ6_bitCount_0f7a4_40 rfl hl (by decide) rfl (fun ls hl => ?_)
  refine lv_iload_n hx hb dJ6_bitCount_0f7a4_41 rfl (lv_at hl 0 rfl) ?_
  refine lv_iload_n hx hb dJ6_bitCount_0f7a4_42 rfl (lv_at hl 0 rfl) ?_
  refine lv_bipush (v := 16) hx hb dJ6_bitCount_0f7a4_43 (by decide) ?_
  refine lv_iushr (v := 0) hx hb dJ6_bitCount_0f7a4_45 (by decide) ?_
  refine lv_iadd hx hb dJ6_bitCount_0f7a4_46 ?_
  refine k_topi (y := 1) (by decide) ?_
  refine lv_istore_n (lv' := [(0, .int 1)]) hx hb dJ6_bitCount_0f7a4_47 rfl hl (by decide) rfl (fun ls hl => ?_)
  refine lv_iload_n hx hb dJ6_bitCount_0f7a4_48 rfl (lv_at hl 0 rfl) ?_
  refine lv_bipush (v := 63) hx hb dJ6_bitCount_0f7a4_49 (by decide) ?_
  refine lv_iand hx hb dJ6_bitCount_0f7a4_51 ?_
  refine k_topi (y := 1) (by decide) ?_
  exact W.iret (v := 1) hx hb hr (fun t ht hW => ⟨⟨1, (), rfl, rfl, kB_mk ht hW hP hK hD⟩, hS.F ht⟩) hS.2.2 dJ6_bitCount_0f7a4_52
set_option maxHeartbeats 400000000 in
set_option maxRecDepth 100000 in
theorem c_X0_gainFrom_0 (l : Launch) (E : kE) (D : va_G) (cI cJ cB cZ : ClassId) (h0 : Nat) (f0 : List Value) (h1 : Nat) (g0 : Nat → Int64) (e0 : f0[7]? = some (.ref h1)) (e1 : g0 0 = 1) : kJ l E D (kT cI cJ cB cZ) yX0_gainFrom wsX0_gainFrom ({ frames := 0, cells := 0, slots := 0, locals := 0 }) [.ref h0, .int 0] [(h0, .inr (0, f0)), (h1, .inl (cJ, 3000, .inr (.inl g0)))] (1) [(h0, .inr (0, f0)), (h1, .inl (cJ, 3000, .inr (.inl g0)))] 0 0 := by
  intro sz
  refine Met.ofW (cc := cX0_gainFrom) (maxL := 2) (ret := (some .long)) (by decide) rfl ?_
  intro p e s m args below meth c s₁ B hml hv
  obtain ⟨rfl, hsz, hP, hK, hD0, hN, hX⟩ := hv
  have hx := B.exec
  have hb := B.bytes
  have hr := B.returns
  have hts := atoms_spec (ws := wsX0_gainFrom) B.pre
  have hown : s.vm.findClass RX0 = some m.cls := findClass_of_methodNamed B.named
  have hlocks := B.notSynchronized
  have hin0 : ∀ w ∈ wsX00, w ∈ wsX0_gainFrom := (fun w h => (List.mem_cons_of_mem _ (List.mem_append_right _ h)))
  subst hsz
  have hD := hD0.self (sz := s.heap.size)
  have hAE := k_AE hD0 hX
  generalize hAe : va_A [(h0, .inr (0, f0)), (h1, .inl (cJ, 3000, .inr (.inl g0)))] s.heap.size = A at hD hAE ⊢
  have hA : ∀ q : Nat, s.heap.size ≤ q → A q := fun q h => by rw [← hAe]; exact Or.inr h
  have hS : va_S A s.heap s.heap [] := va_S.rf
  have hP : va_P D vwCl [(h0, .inr (0, f0)), (h1, .inl (cJ, 3000, .inr (.inl g0)))] s.heap := hP
  have hl := lv_entry ([.ref h0, .int 0] : List Value) (n := 2) (Nat.le_of_ble_eq_true rfl)
  rw [lg_entry_eq]
  generalize (lg_sl ([.ref h0, .int 0]) ++ List.replicate (2 - (lg_sl ([.ref h0, .int 0])).length) Slot.unset).toArray = ls at hl ⊢
  have hl : lv_has ls 2 [(0, .ref h0), (1, .int 0)] := hl
  refine lv_iload_n hx hb dX0_gainFrom_0 rfl (lv_at hl 1 rfl) ?_
  refine lv_if_lt (tgt := 20) hx hb dX0_gainFrom_1 (by decide) (fun c9 => absurd c9 (by decide)) (fun _ => ?_)
  refine lv_iload_n hx hb dX0_gainFrom_4 rfl (lv_at hl 1 rfl) ?_
  refine lv_sipush (v := 3000) hx hb dX0_gainFrom_5 (by decide) ?_
  refine lv_icmp_ge (tgt := 20) hx hb dX0_gainFrom_8 (by decide) (fun c9 => absurd c9 (by decide)) (fun _ => ?_)
  refine lv_aload_n hx hb dX0_gainFrom_11 rfl (lv_at hl 0 rfl) ?_
  refine va_get (D := D) (ref := "IntegerHouse$Answers") (ci := 0) (v := .ref h1) (C := RX0) (T := TX0) (N := 19) hx hb hts hin0 hown hK hP 0 rfl rfl 7 (by decide) (hts (.fieldLink RX0 28 "IntegerHouse$Answers" "gains" "[J") (List.mem_cons_of_mem _ (List.mem_append_left _ (List.mem_of_getElem? (i := 0) rfl)))) (fun _ h9 => h9) e0 dX0_gainFrom_12 ?_
  refine lv_iload_n hx hb dX0_gainFrom_15 rfl (lv_at hl 1 rfl) ?_
  refine va_lald hx hb hK hP 1 1 rfl rfl (k_in (by decide)) dX0_gainFrom_16 ?_
  refine k_topl (y := 1) e1 ?_
  refine lv_goto (tgt := 23) hx hb dX0_gainFrom_17 (by decide) ?_
  exact W.lret (v := 1) hx hb hr (fun t ht hW => ⟨⟨1, (), rfl, rfl, kB_mk ht hW hP hK hD⟩, hS.F ht⟩) hS.2.2 dX0_gainFrom_23
set_option maxHeartbeats 400000000 in
set_option maxRecDepth 100000 in
theorem c_X0_countAll_0 (l : Launch) (E : kE) (D : va_G) (cI cJ cB cZ : ClassId) (h0 : Nat) (f0 : List Value) (h1 : Nat) (h2 : Nat) (g0 : Nat → Int32) (g1 : Nat → Int64) (h3 : Nat) (f1 : List Value) (h4 : Nat) (g2 : Nat → Int32) (h5 : Nat) (g3 : Nat → Int64) (e0 : f0[7]? = some (.ref h1)) (e1 : f0[5]? = some (.ref h2)) (e2 : g0 0 = 1) (e3 : f0[1]? = some (.ref h3)) (e4 : f1[12]? = some (.int 1)) (e5 : f1[7]? = some (.ref h4)) (e6 : g2 0 = 0) (e7 : f0[8]? = some (.ref h5)) : kI l E D (kT cI cJ cB cZ) yX0_countAll wsX0_countAll ({ frames := 1, cells := 0, slots := 0, locals := 40 }) [.ref h0, .int 1] [(h0, .inr (0, f0)), (h2, .inl (cI, 3000, .inl g0)), (h1, .inl (cJ, 3000, .inr (.inl g1))), (h3, .inr (6, f1)), (h4, .inl (cI, 48000, .inl g2)), (h5, .inl (cJ, 3000, .inr (.inl g3)))] (1) [(h0, .inr (0, f0)), (h2, .inl (cI, 3000, .inl g0)), (h1, .inl (cJ, 3000, .inr (.inl (vp_updL (vp_updL g1 0 1) 0 1)))), (h3, .inr (6, f1)), (h4, .inl (cI, 48000, .inl g2)), (h5, .inl (cJ, 3000, .inr (.inl (vp_updL g3 0 1))))] 0 0 := by
  intro sz
  refine Met.ofW (cc := cX0_countAll) (maxL := 8) (ret := (some .int)) (by decide) rfl ?_
  intro p e s m args below meth c s₁ B hml hv
  obtain ⟨rfl, hsz, hP, hK, hD0, hN, hX⟩ := hv
  have hx := B.exec
  have hb := B.bytes
  have hr := B.returns
  have hts := atoms_spec (ws := wsX0_countAll) B.pre
  have hown : s.vm.findClass RX0 = some m.cls := findClass_of_methodNamed B.named
  have hlocks := B.notSynchronized
  have hin0 : ∀ w ∈ wsX00, w ∈ wsX0_countAll := (fun w h => (List.mem_cons_of_mem _ (List.mem_append_left _ (List.mem_append_right _ h))))
  have hin6 : ∀ w ∈ wsX60, w ∈ wsX0_countAll := (fun w h => (List.mem_cons_of_mem _ (List.mem_append_right _ h)))
  subst hsz
  have hD := hD0.self (sz := s.heap.size)
  have hAE := k_AE hD0 hX
  generalize hAe : va_A [(h0, .inr (0, f0)), (h2, .inl (cI, 3000, .inl g0)), (h1, .inl (cJ, 3000, .inr (.inl g1))), (h3, .inr (6, f1)), (h4, .inl (cI, 48000, .inl g2)), (h5, .inl (cJ, 3000, .inr (.inl g3)))] s.heap.size = A at hD hAE ⊢
  have hA : ∀ q : Nat, s.heap.size ≤ q → A q := fun q h => by rw [← hAe]; exact Or.inr h
  have hS : va_S A s.heap s.heap [] := va_S.rf
  have hP : va_P D vwCl [(h0, .inr (0, f0)), (h2, .inl (cI, 3000, .inl g0)), (h1, .inl (cJ, 3000, .inr (.inl g1))), (h3, .inr (6, f1)), (h4, .inl (cI, 48000, .inl g2)), (h5, .inl (cJ, 3000, .inr (.inl g3)))] s.heap := hP
  have hl := lv_entry ([.ref h0, .int 1] : List Value) (n := 8) (Nat.le_of_ble_eq_true rfl)
  rw [lg_entry_eq]
  generalize (lg_sl ([.ref h0, .int 1]) ++ List.replicate (8 - (lg_sl ([.ref h0, .int 1])).length) Slot.unset).toArray = ls at hl ⊢
  have hl : lv_has ls 8 [(0, .ref h0), (1, .int 1)] := hl
  refine lv_iconst (v := 0) hx hb dX0_countAll_0 (by decide) ?_
  refine lv_istore_n (lv' := [(2, .int 0), (0, .ref h0), (1, .int 1)]) hx hb dX0_countAll_1 rfl hl (by decide) rfl (fun ls hl => ?_)
  refine lv_iload_n hx hb dX0_countAll_2 rfl (lv_at hl 0 rfl) ?_
  refine lv_iload_n hx hb dX0_countAll_3 rfl (lv_at hl 2 rfl) ?_
  refine lv_icmp_ge (tgt := 36) hx hb dX0_countAll_4 (by decide) (fun c9 => absurd c9 (by decide)) (fun _ => ?_)
  refine lv_iload_n hx hb dX0_countAll_7 rfl (lv_at hl 0 rfl) ?_
  refine lv_sipush (v := 3000) hx hb dX0_countAll_8 (by decide) ?_
  refine lv_icmp_ge (tgt := 36) hx hb dX0_countAll_11 (by decide) (fun c9 => absurd c9 (by decide)) (fun _ => ?_)
  refine lv_aload_n hx hb dX0_countAll_14 rfl (lv_at hl 1 rfl) ?_
  refine va_get (D := D) (ref := "IntegerHouse$Answers") (ci := 0) (v := .ref h1) (C := RX0) (T := TX0) (N := 19) hx hb hts hin0 hown hK hP 0 rfl rfl 7 (by decide) (hts (.fieldLink RX0 28 "IntegerHouse$Answers" "gains" "[J") (List.mem_cons_of_mem _ (List.mem_append_left _ (List.mem_append_left _ (List.mem_append_left _ (List.mem_of_getElem? (i := 0) rfl)))))) (fun _ h9 => h9) e0 dX0_countAll_15 ?_
  refine lv_iload_n hx hb dX0_countAll_18 rfl (lv_at hl 0 rfl) ?_
  refine lv_aload_n hx hb dX0_countAll_19 rfl (lv_at hl 1 rfl) ?_
  refine va_get (D := D) (ref := "IntegerHouse$Answers") (ci := 0) (v := .ref h2) (C := RX0) (T := TX0) (N := 19) hx hb hts hin0 hown hK hP 0 rfl rfl 5 (by decide) (hts (.fieldLink RX0 22 "IntegerHouse$Answers" "ends" "[I") (List.mem_cons_of_mem _ (List.mem_append_left _ (List.mem_append_left _ (List.mem_append_left _ (List.mem_of_getElem? (i := 1) rfl)))))) (fun _ h9 => h9) e1 dX0_countAll_20 ?_
  refine lv_iload_n hx hb dX0_countAll_23 rfl (lv_at hl 0 rfl) ?_
  refine va_iald hx hb hK hP 1 0 rfl rfl (k_in (by decide)) dX0_countAll_24 ?_
  refine k_topi (y := 1) e2 ?_
  refine k_cSi (As := [.int 1]) (rest := [.int 0, .ref h1]) (wc := []) (wr := [(h0, .inr (0, f0)), (h2, .inl (cI, 3000, .inl g0)), (h1, .inl (cJ, 3000, .inr (.inl g1))), (h3, .inr (6, f1)), (h4, .inl (cI, 48000, .inl g2)), (h5, .inl (cJ, 3000, .inr (.inl g3)))]) (w1 := []) ⟨hx, hb, hml, hown, hts⟩ hN hX hAE hK hP hD hS hA [] [0, 1, 2, 3, 4, 5] rfl rfl (by decide +kernel) (by decide +kernel) (by decide +kernel) (c_J6_bitCount_0f7a4_1 l E D cI cJ cB cZ  ) (va_cwS 1 hts gX0_countAll_J6_bitCount_0f7a4 rfl rfl rfl (by decide +kernel) ⟨Nat.le_of_ble_eq_true rfl, Nat.le_of_ble_eq_true rfl⟩) rfl hl.1 (Nat.le_of_ble_eq_true rfl) dX0_countAll_25 ⟨Nat.le_of_ble_eq_true rfl, Nat.le_of_ble_eq_true rfl⟩ (fun H locs hP hD hS => ?_)
  have hP : va_P D vwCl [(h0, .inr (0, f0)), (h2, .inl (cI, 3000, .inl g0)), (h1, .inl (cJ, 3000, .inr (.inl g1))), (h3, .inr (6, f1)), (h4, .inl (cI, 48000, .inl g2)), (h5, .inl (cJ, 3000, .inr (.inl g3)))] H := hP
  have hD : va_D A [(h0, .inr (0, f0)), (h2, .inl (cI, 3000, .inl g0)), (h1, .inl (cJ, 3000, .inr (.inl g1))), (h3, .inr (6, f1)), (h4, .inl (cI, 48000, .inl g2)), (h5, .inl (cJ, 3000, .inr (.inl g3)))] := hD
  refine lv_i2l (v := 1) hx hb dX0_countAll_28 (by decide) ?_
  refine va_last hx hb hK hP hD hS 2 1 rfl rfl (k_in (by decide)) dX0_countAll_29 (fun H locs hP hD hS => ?_)
  have hP : va_P D vwCl [(h0, .inr (0, f0)), (h2, .inl (cI, 3000, .inl g0)), (h1, .inl (cJ, 3000, .inr (.inl (vp_updL g1 0 1)))), (h3, .inr (6, f1)), (h4, .inl (cI, 48000, .inl g2)), (h5, .inl (cJ, 3000, .inr (.inl g3)))] H := hP
  have hD : va_D A [(h0, .inr (0, f0)), (h2, .inl (cI, 3000, .inl g0)), (h1, .inl (cJ, 3000, .inr (.inl (vp_updL g1 0 1)))), (h3, .inr (6, f1)), (h4, .inl (cI, 48000, .inl g2)), (h5, .inl (cJ, 3000, .inr (.inl g3)))] := hD
  refine lv_iinc (v := 1) (lv' := [(2, .int 1), (0, .ref h0), (1, .int 1)]) hx hb dX0_countAll_30 hl (k := 0) rfl (by decide) (by decide) rfl (fun ls hl => ?_)
  refine lv_goto (tgt := 2) hx hb dX0_countAll_33 (by decide) ?_
  refine lv_iload_n hx hb dX0_countAll_2 rfl (lv_at hl 0 rfl) ?_
  refine lv_iload_n hx hb dX0_countAll_3 rfl (lv_at hl 2 rfl) ?_
  refine lv_icmp_ge (tgt := 36) hx hb dX0_countAll_4 (by decide) (fun _ => ?_) (fun c9 => absurd (by decide) c9)
  refine lv_iconst (v := 1) hx hb dX0_countAll_36 (by decide) ?_
  refine lv_istore_n (lv' := [(2, .int 1), (0, .ref h0), (1, .int 1)]) hx hb dX0_countAll_37 rfl hl (by decide) rfl (fun ls hl => ?_)
  refine lv_iconst (v := 0) hx hb dX0_countAll_38 (by decide) ?_
  refine lv_istore_n (lv' := [(3, .int 0), (2, .int 1), (0, .ref h0), (1, .int 1)]) hx hb dX0_countAll_39 rfl hl (by decide) rfl (fun ls hl => ?_)
  refine lv_iload_n hx hb dX0_countAll_40 rfl (lv_at hl 0 rfl) ?_
  refine lv_iload_n hx hb dX0_countAll_41 rfl (lv_at hl 3 rfl) ?_
  refine lv_icmp_gt (tgt := 177) hx hb dX0_countAll_42 (by decide) (fun c9 => absurd c9 (by decide)) (fun _ => ?_)
  refine lv_iload_n hx hb dX0_countAll_45 rfl (lv_at hl 1 rfl) ?_
  refine lv_if_eq (tgt := 177) hx hb dX0_countAll_46 (by decide) (fun c9 => absurd c9 (by decide)) (fun _ => ?_)
  refine lv_iconst (v := 0) hx hb dX0_countAll_49 (by decide) ?_
  refine lv_istore_n (lv' := [(2, .int 0), (3, .int 0), (0, .ref h0), (1, .int 1)]) hx hb dX0_countAll_50 rfl hl (by decide) rfl (fun ls hl => ?_)
  refine lv_iconst (v := 0) hx hb dX0_countAll_51 (by decide) ?_
  refine lv_istore (lv' := [(4, .int 0), (2, .int 0), (3, .int 0), (0, .ref h0), (1, .int 1)]) hx hb dX0_countAll_52 hl (by decide) rfl (fun ls hl => ?_)
  refine lv_iload hx hb dX0_countAll_54 (lv_at hl 0 rfl) ?_
  refine lv_iload_n hx hb dX0_countAll_56 rfl (lv_at hl 4 rfl) ?_
  refine lv_icmp_ge (tgt := 151) hx hb dX0_countAll_57 (by decide) (fun c9 => absurd c9 (by decide)) (fun _ => ?_)
  refine lv_lconst (v := 0) hx hb dX0_countAll_60 (by decide) ?_
  refine lv_lstore (lv' := [(5, .long 0), (4, .int 0), (2, .int 0), (3, .int 0), (0, .ref h0), (1, .int 1)]) hx hb dX0_countAll_61 hl (by decide) rfl (fun ls hl => ?_)
  refine lv_iconst (v := 0) hx hb dX0_countAll_63 (by decide) ?_
  refine lv_istore (lv' := [(7, .int 0), (5, .long 0), (4, .int 0), (2, .int 0), (3, .int 0), (0, .ref h0), (1, .int 1)]) hx hb dX0_countAll_64 hl (by decide) rfl (fun ls hl => ?_)
  refine lv_iload hx hb dX0_countAll_66 (lv_at hl 0 rfl) ?_
  refine lv_aload_n hx hb dX0_countAll_68 rfl (lv_at hl 5 rfl) ?_
  refine va_get (D := D) (ref := "IntegerHouse$Answers") (ci := 0) (v := .ref h3) (C := RX0) (T := TX0) (N := 19) hx hb hts hin0 hown hK hP 0 rfl rfl 1 (by decide) (hts (.fieldLink RX0 48 "IntegerHouse$Answers" "places" "LIntegerHouse$Places;") (List.mem_cons_of_mem _ (List.mem_append_left _ (List.mem_append_left _ (List.mem_append_left _ (List.mem_of_getElem? (i := 2) rfl)))))) (fun _ h9 => h9) e3 dX0_countAll_69 ?_
  refine va_getN (host := "IntegerHouse") (D := D) (ref := "IntegerHouse$Places") (ci := 6) (v := .int 1) (C := RX6) (T := TX6) (N := 14) hx hb hts hin6 hown hK hP 3 rfl rfl 12 (by decide) (va_Nw.use rfl (hN.1 ("IntegerHouse$Answers", 92, "IntegerHouse$Places", "letters", "I", "IntegerHouse") (List.mem_of_getElem? (i := 31) rfl))) (fun _ h9 => h9) e4 dX0_countAll_72 ?_
  refine lv_icmp_ge (tgt := 104) hx hb dX0_countAll_75 (by decide) (fun c9 => absurd c9 (by decide)) (fun _ => ?_)
  refine lv_lload hx hb dX0_countAll_78 (lv_at hl 1 rfl) ?_
  refine lv_aload_n hx hb dX0_countAll_80 rfl (lv_at hl 5 rfl) ?_
  refine lv_aload_n hx hb dX0_countAll_81 rfl (lv_at hl 5 rfl) ?_
  refine va_get (D := D) (ref := "IntegerHouse$Answers") (ci := 0) (v := .ref h3) (C := RX0) (T := TX0) (N := 19) hx hb hts hin0 hown hK hP 0 rfl rfl 1 (by decide) (hts (.fieldLink RX0 48 "IntegerHouse$Answers" "places" "LIntegerHouse$Places;") (List.mem_cons_of_mem _ (List.mem_append_left _ (List.mem_append_left _ (List.mem_append_left _ (List.mem_of_getElem? (i := 2) rfl)))))) (fun _ h9 => h9) e3 dX0_countAll_82 ?_
  refine lv_iload hx hb dX0_countAll_85 (lv_at hl 2 rfl) ?_
  refine lv_iload hx hb dX0_countAll_87 (lv_at hl 0 rfl) ?_
  refine k_cVi (As := [.int 0, .int 0]) (rest := [.ref h0, .long 0]) (wc := [(h3, .inr (6, f1)), (h4, .inl (cI, 48000, .inl g2))]) (wr := [(h0, .inr (0, f0)), (h2, .inl (cI, 3000, .inl g0)), (h1, .inl (cJ, 3000, .inr (.inl (vp_updL g1 0 1)))), (h5, .inl (cJ, 3000, .inr (.inl g3)))]) (w1 := [(h3, .inr (6, f1)), (h4, .inl (cI, 48000, .inl g2))]) ⟨hx, hb, hml, hown, hts⟩ hN hX hAE hK hP hD hS hA [3, 4] [0, 1, 2, 5] (ci := 6) rfl rfl rfl rfl (by decide +kernel) (by decide +kernel) (by decide +kernel) (c_X6_behind_0 l E D cI cJ cB cZ h3 f1 h4 g2 e5 e6) (cwV 2 hts gX0_countAll_X6_behind rfl rfl rfl (by decide +kernel) ⟨Nat.le_of_ble_eq_true rfl, Nat.le_of_ble_eq_true rfl⟩) rfl hl.1 (Nat.le_of_ble_eq_true rfl) dX0_countAll_89 ⟨Nat.le_of_ble_eq_true rfl, Nat.le_of_ble_eq_true rfl⟩ (fun H locs hP hD hS => ?_)
  have hP : va_P D vwCl [(h0, .inr (0, f0)), (h2, .inl (cI, 3000, .inl g0)), (h1, .inl (cJ, 3000, .inr (.inl (vp_updL g1 0 1)))), (h5, .inl (cJ, 3000, .inr (.inl g3))), (h3, .inr (6, f1)), (h4, .inl (cI, 48000, .inl g2))] H := hP
  have hD : va_D A [(h0, .inr (0, f0)), (h2, .inl (cI, 3000, .inl g0)), (h1, .inl (cJ, 3000, .inr (.inl (vp_updL g1 0 1)))), (h5, .inl (cJ, 3000, .inr (.inl g3))), (h3, .inr (6, f1)), (h4, .inl (cI, 48000, .inl g2))] := hD
  refine k_cVl (As := [.int 0]) (rest := [.long 0]) (wc := [(h0, .inr (0, f0)), (h1, .inl (cJ, 3000, .inr (.inl (vp_updL g1 0 1))))]) (wr := [(h2, .inl (cI, 3000, .inl g0)), (h5, .inl (cJ, 3000, .inr (.inl g3))), (h3, .inr (6, f1)), (h4, .inl (cI, 48000, .inl g2))]) (w1 := [(h0, .inr (0, f0)), (h1, .inl (cJ, 3000, .inr (.inl (vp_updL g1 0 1))))]) ⟨hx, hb, hml, hown, hts⟩ hN hX hAE hK hP hD hS hA [0, 2] [1, 3, 4, 5] (ci := 0) rfl rfl rfl rfl (by decide +kernel) (by decide +kernel) (by decide +kernel) (c_X0_gainFrom_0 l E D cI cJ cB cZ h0 f0 h1 ((vp_updL g1 0 1)) e0 rfl) (cwV 1 hts gX0_countAll_X0_gainFrom rfl rfl rfl (by decide +kernel) ⟨Nat.le_of_ble_eq_true rfl, Nat.le_of_ble_eq_true rfl⟩) rfl hl.1 (Nat.le_of_ble_eq_true rfl) dX0_countAll_92 ⟨Nat.le_of_ble_eq_true rfl, Nat.le_of_ble_eq_true rfl⟩ (fun H locs hP hD hS => ?_)
  have hP : va_P D vwCl [(h2, .inl (cI, 3000, .inl g0)), (h5, .inl (cJ, 3000, .inr (.inl g3))), (h3, .inr (6, f1)), (h4, .inl (cI, 48000, .inl g2)), (h0, .inr (0, f0)), (h1, .inl (cJ, 3000, .inr (.inl (vp_updL g1 0 1))))] H := hP
  have hD : va_D A [(h2, .inl (cI, 3000, .inl g0)), (h5, .inl (cJ, 3000, .inr (.inl g3))), (h3, .inr (6, f1)), (h4, .inl (cI, 48000, .inl g2)), (h0, .inr (0, f0)), (h1, .inl (cJ, 3000, .inr (.inl (vp_updL g1 0 1))))] := hD
  refine lv_ladd hx hb dX0_countAll_95 ?_
  refine k_topl (y := 1) (by decide) ?_
  refine lv_lstore (lv' := [(5, .long 1), (7, .int 0), (4, .int 0), (2, .int 0), (3, .int 0), (0, .ref h0), (1, .int 1)]) hx hb dX0_countAll_96 hl (by decide) rfl (fun ls hl => ?_)
  refine lv_iinc (v := 1) (lv' := [(7, .int 1), (5, .long 1), (4, .int 0), (2, .int 0), (3, .int 0), (0, .ref h0), (1, .int 1)]) hx hb dX0_countAll_98 hl (k := 1) rfl (by decide) (by decide) rfl (fun ls hl => ?_)
  refine lv_goto (tgt := 66) hx hb dX0_countAll_101 (by decide) ?_
  refine lv_iload hx hb dX0_countAll_66 (lv_at hl 0 rfl) ?_
  refine lv_aload_n hx hb dX0_countAll_68 rfl (lv_at hl 5 rfl) ?_
  refine va_get (D := D) (ref := "IntegerHouse$Answers") (ci := 0) (v := .ref h3) (C := RX0) (T := TX0) (N := 19) hx hb hts hin0 hown hK hP 4 rfl rfl 1 (by decide) (hts (.fieldLink RX0 48 "IntegerHouse$Answers" "places" "LIntegerHouse$Places;") (List.mem_cons_of_mem _ (List.mem_append_left _ (List.mem_append_left _ (List.mem_append_left _ (List.mem_of_getElem? (i := 2) rfl)))))) (fun _ h9 => h9) e3 dX0_countAll_69 ?_
  refine va_getN (host := "IntegerHouse") (D := D) (ref := "IntegerHouse$Places") (ci := 6) (v := .int 1) (C := RX6) (T := TX6) (N := 14) hx hb hts hin6 hown hK hP 2 rfl rfl 12 (by decide) (va_Nw.use rfl (hN.1 ("IntegerHouse$Answers", 92, "IntegerHouse$Places", "letters", "I", "IntegerHouse") (List.mem_of_getElem? (i := 31) rfl))) (fun _ h9 => h9) e4 dX0_countAll_72 ?_
  refine lv_icmp_ge (tgt := 104) hx hb dX0_countAll_75 (by decide) (fun _ => ?_) (fun c9 => absurd (by decide) c9)
  refine lv_aload_n hx hb dX0_countAll_104 rfl (lv_at hl 5 rfl) ?_
  refine va_get (D := D) (ref := "IntegerHouse$Answers") (ci := 0) (v := .ref h5) (C := RX0) (T := TX0) (N := 19) hx hb hts hin0 hown hK hP 4 rfl rfl 8 (by decide) (hts (.fieldLink RX0 31 "IntegerHouse$Answers" "gained" "[J") (List.mem_cons_of_mem _ (List.mem_append_left _ (List.mem_append_left _ (List.mem_append_left _ (List.mem_of_getElem? (i := 3) rfl)))))) (fun _ h9 => h9) e7 dX0_countAll_105 ?_
  refine lv_iload hx hb dX0_countAll_108 (lv_at hl 2 rfl) ?_
  refine lv_lload hx hb dX0_countAll_110 (lv_at hl 1 rfl) ?_
  refine lv_ldc2 (own := RX0) (index := 163) (v := 1000000000) hx hb hown (hts (.constantLong RX0 163 (1000000000)) (List.mem_cons_of_mem _ (List.mem_append_left _ (List.mem_append_left _ (List.mem_append_left _ (List.mem_of_getElem? (i := 4) rfl)))))) dX0_countAll_112 ?_
  refine va_mmin_long hx hb (by rw [hml]; exact hl.1.symm) hown (hts (.methodLink RX0 165 Lib.MathLoose.min_long.x) (List.mem_cons_of_mem _ (List.mem_append_left _ (List.mem_append_left _ (List.mem_append_left _ (List.mem_of_getElem? (i := 5) rfl)))))) (hts (.static Lib.MathLoose.min_long.x) (List.mem_cons_of_mem _ (List.mem_append_left _ (List.mem_append_left _ (List.mem_append_left _ (List.mem_of_getElem? (i := 6) rfl)))))) (hts (.initialized "java/lang/Math") (List.mem_cons_of_mem _ (List.mem_append_left _ (List.mem_append_left _ (List.mem_append_left _ (List.mem_of_getElem? (i := 7) rfl)))))) (hts (.code Lib.MathLoose.min_long.x Lib.MathLoose.min_long.code 4 (some .long)) (List.mem_cons_of_mem _ (List.mem_append_left _ (List.mem_append_left _ (List.mem_append_left _ (List.mem_of_getElem? (i := 8) rfl)))))) (Nat.le_of_ble_eq_true rfl) (Nat.le_of_ble_eq_true rfl) (Nat.le_of_ble_eq_true rfl) (Nat.le_of_ble_eq_true rfl) dX0_countAll_115 ?_
  refine k_topl (y := 1) (by decide) ?_
  refine va_last hx hb hK hP hD hS 1 1 rfl rfl (k_in (by decide)) dX0_countAll_118 (fun H locs hP hD hS => ?_)
  have hP : va_P D vwCl [(h2, .inl (cI, 3000, .inl g0)), (h5, .inl (cJ, 3000, .inr (.inl (vp_updL g3 0 1)))), (h3, .inr (6, f1)), (h4, .inl (cI, 48000, .inl g2)), (h0, .inr (0, f0)), (h1, .inl (cJ, 3000, .inr (.inl (vp_updL g1 0 1))))] H := hP
  have hD : va_D A [(h2, .inl (cI, 3000, .inl g0)), (h5, .inl (cJ, 3000, .inr (.inl (vp_updL g3 0 1)))), (h3, .inr (6, f1)), (h4, .inl (cI, 48000, .inl g2)), (h0, .inr (0, f0)), (h1, .inl (cJ, 3000, .inr (.inl (vp_updL g1 0 1))))] := hD
  refine lv_iload_n hx hb dX0_countAll_119 rfl (lv_at hl 3 rfl) ?_
  refine lv_aload_n hx hb dX0_countAll_120 rfl (lv_at hl 5 rfl) ?_
  refine va_get (D := D) (ref := "IntegerHouse$Answers") (ci := 0) (v := .ref h5) (C := RX0) (T := TX0) (N := 19) hx hb hts hin0 hown hK hP 4 rfl rfl 8 (by decide) (hts (.fieldLink RX0 31 "IntegerHouse$Answers" "gained" "[J") (List.mem_cons_of_mem _ (List.mem_append_left _ (List.mem_append_left _ (List.mem_append_left _ (List.mem_of_getElem? (i := 3) rfl)))))) (fun _ h9 => h9) e7 dX0_countAll_121 ?_
  refine lv_iload hx hb dX0_countAll_124 (lv_at hl 2 rfl) ?_
  refine va_lald hx hb hK hP 1 1 rfl rfl (k_in (by decide)) dX0_countAll_126 ?_
  refine k_topl (y := 1) rfl ?_
  refine lv_aload_n hx hb dX0_countAll_127 rfl (lv_at hl 5 rfl) ?_
  refine va_get (D := D) (ref := "IntegerHouse$Answers") (ci := 0) (v := .ref h1) (C := RX0) (T := TX0) (N := 19) hx hb hts hin0 hown hK hP 4 rfl rfl 7 (by decide) (hts (.fieldLink RX0 28 "IntegerHouse$Answers" "gains" "[J") (List.mem_cons_of_mem _ (List.mem_append_left _ (List.mem_append_left _ (List.mem_append_left _ (List.mem_of_getElem? (i := 0) rfl)))))) (fun _ h9 => h9) e0 dX0_countAll_128 ?_
  refine lv_iload hx hb dX0_countAll_131 (lv_at hl 2 rfl) ?_
  refine va_lald hx hb hK hP 5 1 rfl rfl (k_in (by decide)) dX0_countAll_133 ?_
  refine k_topl (y := 1) rfl ?_
  refine W.lcmp hx hb dX0_countAll_134 ?_
  refine k_topi (y := 0) (by decide) ?_
  refine lv_if_eq (tgt := 142) hx hb dX0_countAll_135 (by decide) (fun _ => ?_) (fun c9 => absurd (by decide) c9)
  refine lv_iconst (v := 0) hx hb dX0_countAll_142 (by decide) ?_
  refine lv_ior hx hb dX0_countAll_143 ?_
  refine k_topi (y := 0) (by decide) ?_
  refine lv_istore_n (lv' := [(2, .int 0), (7, .int 1), (5, .long 1), (4, .int 0), (3, .int 0), (0, .ref h0), (1, .int 1)]) hx hb dX0_countAll_144 rfl hl (by decide) rfl (fun ls hl => ?_)
  refine lv_iinc (v := 1) (lv' := [(4, .int 1), (2, .int 0), (7, .int 1), (5, .long 1), (3, .int 0), (0, .ref h0), (1, .int 1)]) hx hb dX0_countAll_145 hl (k := 3) rfl (by decide) (by decide) rfl (fun ls hl => ?_)
  refine lv_goto (tgt := 54) hx hb dX0_countAll_148 (by decide) ?_
  refine lv_iload hx hb dX0_countAll_54 (lv_at hl 0 rfl) ?_
  refine lv_iload_n hx hb dX0_countAll_56 rfl (lv_at hl 6 rfl) ?_
  refine lv_icmp_ge (tgt := 151) hx hb dX0_countAll_57 (by decide) (fun _ => ?_) (fun c9 => absurd (by decide) c9)
  refine lv_aload_n hx hb dX0_countAll_151 rfl (lv_at hl 5 rfl) ?_
  refine va_get (D := D) (ref := "IntegerHouse$Answers") (ci := 0) (v := .ref h5) (C := RX0) (T := TX0) (N := 19) hx hb hts hin0 hown hK hP 4 rfl rfl 8 (by decide) (hts (.fieldLink RX0 31 "IntegerHouse$Answers" "gained" "[J") (List.mem_cons_of_mem _ (List.mem_append_left _ (List.mem_append_left _ (List.mem_append_left _ (List.mem_of_getElem? (i := 3) rfl)))))) (fun _ h9 => h9) e7 dX0_countAll_152 ?_
  refine lv_iconst (v := 0) hx hb dX0_countAll_155 (by decide) ?_
  refine lv_aload_n hx hb dX0_countAll_156 rfl (lv_at hl 5 rfl) ?_
  refine va_get (D := D) (ref := "IntegerHouse$Answers") (ci := 0) (v := .ref h1) (C := RX0) (T := TX0) (N := 19) hx hb hts hin0 hown hK hP 4 rfl rfl 7 (by decide) (hts (.fieldLink RX0 28 "IntegerHouse$Answers" "gains" "[J") (List.mem_cons_of_mem _ (List.mem_append_left _ (List.mem_append_left _ (List.mem_append_left _ (List.mem_of_getElem? (i := 0) rfl)))))) (fun _ h9 => h9) e0 dX0_countAll_157 ?_
  refine lv_iconst (v := 0) hx hb dX0_countAll_160 (by decide) ?_
  refine lv_iload_n hx hb dX0_countAll_161 rfl (lv_at hl 6 rfl) ?_
  refine lv_sipush (v := 3000) hx hb dX0_countAll_162 (by decide) ?_
  refine va_mmin hx hb (by rw [hml]; exact hl.1.symm) hown (hts (.methodLink RX0 75 Lib.Math.min.name) (List.mem_cons_of_mem _ (List.mem_append_left _ (List.mem_append_left _ (List.mem_append_left _ (List.mem_of_getElem? (i := 9) rfl)))))) (hts (.static Lib.Math.min.name) (List.mem_cons_of_mem _ (List.mem_append_left _ (List.mem_append_left _ (List.mem_append_left _ (List.mem_of_getElem? (i := 10) rfl)))))) (hts (.initialized "java/lang/Math") (List.mem_cons_of_mem _ (List.mem_append_left _ (List.mem_append_left _ (List.mem_append_left _ (List.mem_of_getElem? (i := 7) rfl)))))) (hts (.code Lib.Math.min.name Lib.Math.min.code 2 (some .int)) (List.mem_cons_of_mem _ (List.mem_append_left _ (List.mem_append_left _ (List.mem_append_left _ (List.mem_of_getElem? (i := 11) rfl)))))) (Nat.le_of_ble_eq_true rfl) (Nat.le_of_ble_eq_true rfl) (Nat.le_of_ble_eq_true rfl) (Nat.le_of_ble_eq_true rfl) dX0_countAll_165 ?_
  refine k_topi (y := 1) (by decide) ?_
  refine va_copyl (ty := .long) hx hb (by rw [hml]; exact hl.1.symm) hown (hts (.methodLink RX0 146 arraycopyName) (List.mem_cons_of_mem _ (List.mem_append_left _ (List.mem_append_left _ (List.mem_append_left _ (List.mem_of_getElem? (i := 12) rfl)))))) (hts (.native arraycopyName) (List.mem_cons_of_mem _ (List.mem_append_left _ (List.mem_append_left _ (List.mem_append_left _ (List.mem_of_getElem? (i := 13) rfl)))))) (hts (.static arraycopyName) (List.mem_cons_of_mem _ (List.mem_append_left _ (List.mem_append_left _ (List.mem_append_left _ (List.mem_of_getElem? (i := 14) rfl)))))) (hts (.initialized "java/lang/System") (List.mem_cons_of_mem _ (List.mem_append_left _ (List.mem_append_left _ (List.mem_append_left _ (List.mem_of_getElem? (i := 15) rfl)))))) hK hP hD hS 1 5 1 1 rfl rfl rfl rfl rfl (by decide) (by decide) (by decide) (Nat.le_of_ble_eq_true rfl) (Nat.le_of_ble_eq_true rfl) (fun _ _ => rfl) (Nat.le_of_ble_eq_true rfl) (Nat.le_of_ble_eq_true rfl) dX0_countAll_168 (fun H locs hP hD hS => ?_)
  have hP : va_P D vwCl [(h2, .inl (cI, 3000, .inl g0)), (h5, .inl (cJ, 3000, .inr (.inl (vp_updL g3 0 1)))), (h3, .inr (6, f1)), (h4, .inl (cI, 48000, .inl g2)), (h0, .inr (0, f0)), (h1, .inl (cJ, 3000, .inr (.inl (vp_updL (vp_updL g1 0 1) 0 1))))] H := by rw [← k_cpy1L (f := (vp_updL g3 0 1)) rfl]; exact hP
  have hD : va_D A [(h2, .inl (cI, 3000, .inl g0)), (h5, .inl (cJ, 3000, .inr (.inl (vp_updL g3 0 1)))), (h3, .inr (6, f1)), (h4, .inl (cI, 48000, .inl g2)), (h0, .inr (0, f0)), (h1, .inl (cJ, 3000, .inr (.inl (vp_updL (vp_updL g1 0 1) 0 1))))] := by rw [← k_cpy1L (f := (vp_updL g3 0 1)) rfl]; exact hD
  refine lv_iinc (v := 1) (lv' := [(3, .int 1), (4, .int 1), (2, .int 0), (7, .int 1), (5, .long 1), (0, .ref h0), (1, .int 1)]) hx hb dX0_countAll_171 hl (k := 4) rfl (by decide) (by decide) rfl (fun ls hl => ?_)
  refine lv_goto (tgt := 40) hx hb dX0_countAll_174 (by decide) ?_
  refine lv_iload_n hx hb dX0_countAll_40 rfl (lv_at hl 0 rfl) ?_
  refine lv_iload_n hx hb dX0_countAll_41 rfl (lv_at hl 6 rfl) ?_
  refine lv_icmp_gt (tgt := 177) hx hb dX0_countAll_42 (by decide) (fun c9 => absurd c9 (by decide)) (fun _ => ?_)
  refine lv_iload_n hx hb dX0_countAll_45 rfl (lv_at hl 2 rfl) ?_
  refine lv_if_eq (tgt := 177) hx hb dX0_countAll_46 (by decide) (fun _ => ?_) (fun c9 => absurd (by decide) c9)
  refine lv_aload_n hx hb dX0_countAll_177 rfl (lv_at hl 5 rfl) ?_
  refine va_get (D := D) (ref := "IntegerHouse$Answers") (ci := 0) (v := .ref h1) (C := RX0) (T := TX0) (N := 19) hx hb hts hin0 hown hK hP 4 rfl rfl 7 (by decide) (hts (.fieldLink RX0 28 "IntegerHouse$Answers" "gains" "[J") (List.mem_cons_of_mem _ (List.mem_append_left _ (List.mem_append_left _ (List.mem_append_left _ (List.mem_of_getElem? (i := 0) rfl)))))) (fun _ h9 => h9) e0 dX0_countAll_178 ?_
  refine lv_iconst (v := 0) hx hb dX0_countAll_181 (by decide) ?_
  refine va_lald hx hb hK hP 5 1 rfl rfl (k_in (by decide)) dX0_countAll_182 ?_
  refine k_topl (y := 1) rfl ?_
  refine lv_l2i (v := 1) hx hb dX0_countAll_183 (by decide) ?_
  have hP := hP.sub (ws' := [(h0, .inr (0, f0)), (h2, .inl (cI, 3000, .inl g0)), (h1, .inl (cJ, 3000, .inr (.inl (vp_updL (vp_updL g1 0 1) 0 1)))), (h3, .inr (6, f1)), (h4, .inl (cI, 48000, .inl g2)), (h5, .inl (cJ, 3000, .inr (.inl (vp_updL g3 0 1))))]) [4, 0, 5, 2, 3, 1] rfl
  have hD := hD.sub (ws' := [(h0, .inr (0, f0)), (h2, .inl (cI, 3000, .inl g0)), (h1, .inl (cJ, 3000, .inr (.inl (vp_updL (vp_updL g1 0 1) 0 1)))), (h3, .inr (6, f1)), (h4, .inl (cI, 48000, .inl g2)), (h5, .inl (cJ, 3000, .inr (.inl (vp_updL g3 0 1))))]) [4, 0, 5, 2, 3, 1] (by decide +kernel) rfl
  exact W.iret (v := 1) hx hb hr (fun t ht hW => ⟨⟨1, (), rfl, rfl, kB_mk ht hW hP hK hD⟩, hS.F ht⟩) hS.2.2 dX0_countAll_184
set_option maxHeartbeats 400000000 in
set_option maxRecDepth 100000 in
theorem c_X0_howMany_0 (l : Launch) (E : kE) (D : va_G) (cI cJ cB cZ : ClassId) (h0 : Nat) (f0 : List Value) (h1 : Nat) (f1 : List Value) (h2 : Nat) (h3 : Nat) (g0 : Nat → Int32) (g1 : Nat → Int32) (h4 : Nat) (g2 : Nat → Int32) (h5 : Nat) (g3 : Nat → Int32) (h6 : Nat) (h7 : Nat) (g4 : Nat → Int64) (g5 : Nat → Int64) (e0 : f0[1]? = some (.ref h1)) (e1 : f1[13]? = some (.int 1)) (e2 : f0[5]? = some (.ref h2)) (e3 : f1[12]? = some (.int 1)) (e4 : f1[8]? = some (.ref h3)) (e5 : g0 0 = 0) (e6 : f0[4]? = some (.ref h4)) (e7 : f1[7]? = some (.ref h5)) (e8 : g3 0 = 0) (e9 : f0[7]? = some (.ref h6)) (e10 : f0[8]? = some (.ref h7)) : kI l E D (kT cI cJ cB cZ) yX0_howMany wsX0_howMany ({ frames := 3, cells := 0, slots := 0, locals := 75 }) [.ref h0, .int 0] [(h0, .inr (0, f0)), (h1, .inr (6, f1)), (h3, .inl (cI, 48000, .inl g0)), (h2, .inl (cI, 3000, .inl g1)), (h4, .inl (cI, 3000, .inl g2)), (h5, .inl (cI, 48000, .inl g3)), (h6, .inl (cJ, 3000, .inr (.inl g4))), (h7, .inl (cJ, 3000, .inr (.inl g5)))] (1) [(h0, .inr (0, f0)), (h1, .inr (6, f1)), (h3, .inl (cI, 48000, .inl g0)), (h2, .inl (cI, 3000, .inl (upd g1 0 1))), (h4, .inl (cI, 3000, .inl (upd (upd g2 0 0) 0 0))), (h5, .inl (cI, 48000, .inl g3)), (h6, .inl (cJ, 3000, .inr (.inl (vp_updL (vp_updL g4 0 1) 0 1)))), (h7, .inl (cJ, 3000, .inr (.inl (vp_updL g5 0 1))))] 0 0 := by
  intro sz
  refine Met.ofW (cc := cX0_howMany) (maxL := 6) (ret := (some .int)) (by decide) rfl ?_
  intro p e s m args below meth c s₁ B hml hv
  obtain ⟨rfl, hsz, hP, hK, hD0, hN, hX⟩ := hv
  have hx := B.exec
  have hb := B.bytes
  have hr := B.returns
  have hts := atoms_spec (ws := wsX0_howMany) B.pre
  have hown : s.vm.findClass RX0 = some m.cls := findClass_of_methodNamed B.named
  have hlocks := B.notSynchronized
  have hin0 : ∀ w ∈ wsX00, w ∈ wsX0_howMany := (fun w h => (List.mem_cons_of_mem _ (List.mem_append_left _ (List.mem_append_right _ h))))
  have hin6 : ∀ w ∈ wsX60, w ∈ wsX0_howMany := (fun w h => (List.mem_cons_of_mem _ (List.mem_append_right _ h)))
  subst hsz
  have hD := hD0.self (sz := s.heap.size)
  have hAE := k_AE hD0 hX
  generalize hAe : va_A [(h0, .inr (0, f0)), (h1, .inr (6, f1)), (h3, .inl (cI, 48000, .inl g0)), (h2, .inl (cI, 3000, .inl g1)), (h4, .inl (cI, 3000, .inl g2)), (h5, .inl (cI, 48000, .inl g3)), (h6, .inl (cJ, 3000, .inr (.inl g4))), (h7, .inl (cJ, 3000, .inr (.inl g5)))] s.heap.size = A at hD hAE ⊢
  have hA : ∀ q : Nat, s.heap.size ≤ q → A q := fun q h => by rw [← hAe]; exact Or.inr h
  have hS : va_S A s.heap s.heap [] := va_S.rf
  have hP : va_P D vwCl [(h0, .inr (0, f0)), (h1, .inr (6, f1)), (h3, .inl (cI, 48000, .inl g0)), (h2, .inl (cI, 3000, .inl g1)), (h4, .inl (cI, 3000, .inl g2)), (h5, .inl (cI, 48000, .inl g3)), (h6, .inl (cJ, 3000, .inr (.inl g4))), (h7, .inl (cJ, 3000, .inr (.inl g5)))] s.heap := hP
  have hl := lv_entry ([.ref h0, .int 0] : List Value) (n := 6) (Nat.le_of_ble_eq_true rfl)
  rw [lg_entry_eq]
  generalize (lg_sl ([.ref h0, .int 0]) ++ List.replicate (6 - (lg_sl ([.ref h0, .int 0])).length) Slot.unset).toArray = ls at hl ⊢
  have hl : lv_has ls 6 [(0, .ref h0), (1, .int 0)] := hl
  refine lv_aload_n hx hb dX0_howMany_0 rfl (lv_at hl 0 rfl) ?_
  refine lv_iload_n hx hb dX0_howMany_1 rfl (lv_at hl 1 rfl) ?_
  refine lv_iconst (v := 0) hx hb dX0_howMany_2 (by decide) ?_
  refine k_cVi (As := [.int 0, .int 0]) (rest := []) (wc := [(h0, .inr (0, f0)), (h1, .inr (6, f1)), (h3, .inl (cI, 48000, .inl g0)), (h2, .inl (cI, 3000, .inl g1))]) (wr := [(h4, .inl (cI, 3000, .inl g2)), (h5, .inl (cI, 48000, .inl g3)), (h6, .inl (cJ, 3000, .inr (.inl g4))), (h7, .inl (cJ, 3000, .inr (.inl g5)))]) (w1 := [(h0, .inr (0, f0)), (h1, .inr (6, f1)), (h3, .inl (cI, 48000, .inl g0)), (h2, .inl (cI, 3000, .inl (upd g1 0 1)))]) ⟨hx, hb, hml, hown, hts⟩ hN hX hAE hK hP hD hS hA [0, 1, 2, 3] [4, 5, 6, 7] (ci := 0) rfl rfl rfl rfl (by decide +kernel) (by decide +kernel) (by decide +kernel) (c_X0_findEnds_0 l E D cI cJ cB cZ h0 f0 h1 f1 h2 h3 g0 g1 e0 e1 e2 e3 e4 e5) (cwV 2 hts gX0_howMany_X0_findEnds rfl rfl rfl (by decide +kernel) ⟨Nat.le_of_ble_eq_true rfl, Nat.le_of_ble_eq_true rfl⟩) rfl hl.1 (Nat.le_of_ble_eq_true rfl) dX0_howMany_3 ⟨Nat.le_of_ble_eq_true rfl, Nat.le_of_ble_eq_true rfl⟩ (fun H locs hP hD hS => ?_)
  have hP : va_P D vwCl [(h4, .inl (cI, 3000, .inl g2)), (h5, .inl (cI, 48000, .inl g3)), (h6, .inl (cJ, 3000, .inr (.inl g4))), (h7, .inl (cJ, 3000, .inr (.inl g5))), (h0, .inr (0, f0)), (h1, .inr (6, f1)), (h3, .inl (cI, 48000, .inl g0)), (h2, .inl (cI, 3000, .inl (upd g1 0 1)))] H := hP
  have hD : va_D A [(h4, .inl (cI, 3000, .inl g2)), (h5, .inl (cI, 48000, .inl g3)), (h6, .inl (cJ, 3000, .inr (.inl g4))), (h7, .inl (cJ, 3000, .inr (.inl g5))), (h0, .inr (0, f0)), (h1, .inr (6, f1)), (h3, .inl (cI, 48000, .inl g0)), (h2, .inl (cI, 3000, .inl (upd g1 0 1)))] := hD
  refine lv_istore_n (lv' := [(2, .int 1), (0, .ref h0), (1, .int 0)]) hx hb dX0_howMany_6 rfl hl (by decide) rfl (fun ls hl => ?_)
  refine lv_iconst (v := 0) hx hb dX0_howMany_7 (by decide) ?_
  refine lv_istore_n (lv' := [(3, .int 0), (2, .int 1), (0, .ref h0), (1, .int 0)]) hx hb dX0_howMany_8 rfl hl (by decide) rfl (fun ls hl => ?_)
  refine lv_iload_n hx hb dX0_howMany_9 rfl (lv_at hl 0 rfl) ?_
  refine lv_iload_n hx hb dX0_howMany_10 rfl (lv_at hl 1 rfl) ?_
  refine lv_icmp_ge (tgt := 86) hx hb dX0_howMany_11 (by decide) (fun c9 => absurd c9 (by decide)) (fun _ => ?_)
  refine lv_aload_n hx hb dX0_howMany_14 rfl (lv_at hl 2 rfl) ?_
  refine va_get (D := D) (ref := "IntegerHouse$Answers") (ci := 0) (v := .ref h4) (C := RX0) (T := TX0) (N := 19) hx hb hts hin0 hown hK hP 4 rfl rfl 4 (by decide) (hts (.fieldLink RX0 18 "IntegerHouse$Answers" "far" "[I") (List.mem_cons_of_mem _ (List.mem_append_left _ (List.mem_append_left _ (List.mem_append_left _ (List.mem_of_getElem? (i := 0) rfl)))))) (fun _ h9 => h9) e6 dX0_howMany_15 ?_
  refine lv_iload_n hx hb dX0_howMany_18 rfl (lv_at hl 0 rfl) ?_
  refine lv_iconst (v := 0) hx hb dX0_howMany_19 (by decide) ?_
  refine va_iast hx hb hK hP hD hS 0 0 rfl rfl (k_in (by decide)) dX0_howMany_20 (fun H locs hP hD hS => ?_)
  have hP : va_P D vwCl [(h4, .inl (cI, 3000, .inl (upd g2 0 0))), (h5, .inl (cI, 48000, .inl g3)), (h6, .inl (cJ, 3000, .inr (.inl g4))), (h7, .inl (cJ, 3000, .inr (.inl g5))), (h0, .inr (0, f0)), (h1, .inr (6, f1)), (h3, .inl (cI, 48000, .inl g0)), (h2, .inl (cI, 3000, .inl (upd g1 0 1)))] H := hP
  have hD : va_D A [(h4, .inl (cI, 3000, .inl (upd g2 0 0))), (h5, .inl (cI, 48000, .inl g3)), (h6, .inl (cJ, 3000, .inr (.inl g4))), (h7, .inl (cJ, 3000, .inr (.inl g5))), (h0, .inr (0, f0)), (h1, .inr (6, f1)), (h3, .inl (cI, 48000, .inl g0)), (h2, .inl (cI, 3000, .inl (upd g1 0 1)))] := hD
  refine lv_iconst (v := 0) hx hb dX0_howMany_21 (by decide) ?_
  refine lv_istore (lv' := [(4, .int 0), (3, .int 0), (2, .int 1), (0, .ref h0), (1, .int 0)]) hx hb dX0_howMany_22 hl (by decide) rfl (fun ls hl => ?_)
  refine lv_iload hx hb dX0_howMany_24 (lv_at hl 0 rfl) ?_
  refine lv_aload_n hx hb dX0_howMany_26 rfl (lv_at hl 3 rfl) ?_
  refine va_get (D := D) (ref := "IntegerHouse$Answers") (ci := 0) (v := .ref h1) (C := RX0) (T := TX0) (N := 19) hx hb hts hin0 hown hK hP 4 rfl rfl 1 (by decide) (hts (.fieldLink RX0 48 "IntegerHouse$Answers" "places" "LIntegerHouse$Places;") (List.mem_cons_of_mem _ (List.mem_append_left _ (List.mem_append_left _ (List.mem_append_left _ (List.mem_of_getElem? (i := 1) rfl)))))) (fun _ h9 => h9) e0 dX0_howMany_27 ?_
  refine va_getN (host := "IntegerHouse") (D := D) (ref := "IntegerHouse$Places") (ci := 6) (v := .int 1) (C := RX6) (T := TX6) (N := 14) hx hb hts hin6 hown hK hP 5 rfl rfl 12 (by decide) (va_Nw.use rfl (hN.1 ("IntegerHouse$Answers", 92, "IntegerHouse$Places", "letters", "I", "IntegerHouse") (List.mem_of_getElem? (i := 31) rfl))) (fun _ h9 => h9) e3 dX0_howMany_30 ?_
  refine lv_icmp_ge (tgt := 80) hx hb dX0_howMany_33 (by decide) (fun c9 => absurd c9 (by decide)) (fun _ => ?_)
  refine lv_aload_n hx hb dX0_howMany_36 rfl (lv_at hl 3 rfl) ?_
  refine va_get (D := D) (ref := "IntegerHouse$Answers") (ci := 0) (v := .ref h4) (C := RX0) (T := TX0) (N := 19) hx hb hts hin0 hown hK hP 4 rfl rfl 4 (by decide) (hts (.fieldLink RX0 18 "IntegerHouse$Answers" "far" "[I") (List.mem_cons_of_mem _ (List.mem_append_left _ (List.mem_append_left _ (List.mem_append_left _ (List.mem_of_getElem? (i := 0) rfl)))))) (fun _ h9 => h9) e6 dX0_howMany_37 ?_
  refine lv_iload_n hx hb dX0_howMany_40 rfl (lv_at hl 1 rfl) ?_
  refine lv_dup2_11 hx hb dX0_howMany_41 rfl rfl ?_
  refine va_iald hx hb hK hP 0 0 rfl rfl (k_in (by decide)) dX0_howMany_42 ?_
  refine k_topi (y := 0) rfl ?_
  refine lv_aload_n hx hb dX0_howMany_43 rfl (lv_at hl 3 rfl) ?_
  refine lv_aload_n hx hb dX0_howMany_44 rfl (lv_at hl 3 rfl) ?_
  refine va_get (D := D) (ref := "IntegerHouse$Answers") (ci := 0) (v := .ref h1) (C := RX0) (T := TX0) (N := 19) hx hb hts hin0 hown hK hP 4 rfl rfl 1 (by decide) (hts (.fieldLink RX0 48 "IntegerHouse$Answers" "places" "LIntegerHouse$Places;") (List.mem_cons_of_mem _ (List.mem_append_left _ (List.mem_append_left _ (List.mem_append_left _ (List.mem_of_getElem? (i := 1) rfl)))))) (fun _ h9 => h9) e0 dX0_howMany_45 ?_
  refine lv_iload_n hx hb dX0_howMany_48 rfl (lv_at hl 1 rfl) ?_
  refine lv_iload hx hb dX0_howMany_49 (lv_at hl 0 rfl) ?_
  refine k_cVi (As := [.int 0, .int 0]) (rest := [.ref h0, .int 0, .int 0, .ref h4]) (wc := [(h1, .inr (6, f1)), (h5, .inl (cI, 48000, .inl g3))]) (wr := [(h4, .inl (cI, 3000, .inl (upd g2 0 0))), (h6, .inl (cJ, 3000, .inr (.inl g4))), (h7, .inl (cJ, 3000, .inr (.inl g5))), (h0, .inr (0, f0)), (h3, .inl (cI, 48000, .inl g0)), (h2, .inl (cI, 3000, .inl (upd g1 0 1)))]) (w1 := [(h1, .inr (6, f1)), (h5, .inl (cI, 48000, .inl g3))]) ⟨hx, hb, hml, hown, hts⟩ hN hX hAE hK hP hD hS hA [5, 1] [0, 2, 3, 4, 6, 7] (ci := 6) rfl rfl rfl rfl (by decide +kernel) (by decide +kernel) (by decide +kernel) (c_X6_behind_0 l E D cI cJ cB cZ h1 f1 h5 g3 e7 e8) (cwV 2 hts gX0_howMany_X6_behind rfl rfl rfl (by decide +kernel) ⟨Nat.le_of_ble_eq_true rfl, Nat.le_of_ble_eq_true rfl⟩) rfl hl.1 (Nat.le_of_ble_eq_true rfl) dX0_howMany_51 ⟨Nat.le_of_ble_eq_true rfl, Nat.le_of_ble_eq_true rfl⟩ (fun H locs hP hD hS => ?_)
  have hP : va_P D vwCl [(h4, .inl (cI, 3000, .inl (upd g2 0 0))), (h6, .inl (cJ, 3000, .inr (.inl g4))), (h7, .inl (cJ, 3000, .inr (.inl g5))), (h0, .inr (0, f0)), (h3, .inl (cI, 48000, .inl g0)), (h2, .inl (cI, 3000, .inl (upd g1 0 1))), (h1, .inr (6, f1)), (h5, .inl (cI, 48000, .inl g3))] H := hP
  have hD : va_D A [(h4, .inl (cI, 3000, .inl (upd g2 0 0))), (h6, .inl (cJ, 3000, .inr (.inl g4))), (h7, .inl (cJ, 3000, .inr (.inl g5))), (h0, .inr (0, f0)), (h3, .inl (cI, 48000, .inl g0)), (h2, .inl (cI, 3000, .inl (upd g1 0 1))), (h1, .inr (6, f1)), (h5, .inl (cI, 48000, .inl g3))] := hD
  refine k_cVi (As := [.int 0]) (rest := [.int 0, .int 0, .ref h4]) (wc := [(h0, .inr (0, f0)), (h2, .inl (cI, 3000, .inl (upd g1 0 1)))]) (wr := [(h4, .inl (cI, 3000, .inl (upd g2 0 0))), (h6, .inl (cJ, 3000, .inr (.inl g4))), (h7, .inl (cJ, 3000, .inr (.inl g5))), (h3, .inl (cI, 48000, .inl g0)), (h1, .inr (6, f1)), (h5, .inl (cI, 48000, .inl g3))]) (w1 := [(h0, .inr (0, f0)), (h2, .inl (cI, 3000, .inl (upd g1 0 1)))]) ⟨hx, hb, hml, hown, hts⟩ hN hX hAE hK hP hD hS hA [3, 5] [0, 1, 2, 4, 6, 7] (ci := 0) rfl rfl rfl rfl (by decide +kernel) (by decide +kernel) (by decide +kernel) (c_X0_endsOf_0 l E D cI cJ cB cZ h0 f0 h2 ((upd g1 0 1)) e2 rfl) (cwV 1 hts gX0_howMany_X0_endsOf rfl rfl rfl (by decide +kernel) ⟨Nat.le_of_ble_eq_true rfl, Nat.le_of_ble_eq_true rfl⟩) rfl hl.1 (Nat.le_of_ble_eq_true rfl) dX0_howMany_54 ⟨Nat.le_of_ble_eq_true rfl, Nat.le_of_ble_eq_true rfl⟩ (fun H locs hP hD hS => ?_)
  have hP : va_P D vwCl [(h4, .inl (cI, 3000, .inl (upd g2 0 0))), (h6, .inl (cJ, 3000, .inr (.inl g4))), (h7, .inl (cJ, 3000, .inr (.inl g5))), (h3, .inl (cI, 48000, .inl g0)), (h1, .inr (6, f1)), (h5, .inl (cI, 48000, .inl g3)), (h0, .inr (0, f0)), (h2, .inl (cI, 3000, .inl (upd g1 0 1)))] H := hP
  have hD : va_D A [(h4, .inl (cI, 3000, .inl (upd g2 0 0))), (h6, .inl (cJ, 3000, .inr (.inl g4))), (h7, .inl (cJ, 3000, .inr (.inl g5))), (h3, .inl (cI, 48000, .inl g0)), (h1, .inr (6, f1)), (h5, .inl (cI, 48000, .inl g3)), (h0, .inr (0, f0)), (h2, .inl (cI, 3000, .inl (upd g1 0 1)))] := hD
  refine lv_iconst (v := 1) hx hb dX0_howMany_57 (by decide) ?_
  refine lv_iload hx hb dX0_howMany_58 (lv_at hl 0 rfl) ?_
  refine lv_ishl hx hb dX0_howMany_60 ?_
  refine k_topi (y := 1) (by decide) ?_
  refine lv_iconst (v := (-1)) hx hb dX0_howMany_61 (by decide) ?_
  refine lv_ixor hx hb dX0_howMany_62 ?_
  refine k_topi (y := (-2)) (by decide) ?_
  refine lv_iand hx hb dX0_howMany_63 ?_
  refine k_topi (y := 0) (by decide) ?_
  refine lv_if_eq (tgt := 71) hx hb dX0_howMany_64 (by decide) (fun _ => ?_) (fun c9 => absurd (by decide) c9)
  refine lv_iconst (v := 0) hx hb dX0_howMany_71 (by decide) ?_
  refine lv_ior hx hb dX0_howMany_72 ?_
  refine k_topi (y := 0) (by decide) ?_
  refine va_iast hx hb hK hP hD hS 0 0 rfl rfl (k_in (by decide)) dX0_howMany_73 (fun H locs hP hD hS => ?_)
  have hP : va_P D vwCl [(h4, .inl (cI, 3000, .inl (upd (upd g2 0 0) 0 0))), (h6, .inl (cJ, 3000, .inr (.inl g4))), (h7, .inl (cJ, 3000, .inr (.inl g5))), (h3, .inl (cI, 48000, .inl g0)), (h1, .inr (6, f1)), (h5, .inl (cI, 48000, .inl g3)), (h0, .inr (0, f0)), (h2, .inl (cI, 3000, .inl (upd g1 0 1)))] H := hP
  have hD : va_D A [(h4, .inl (cI, 3000, .inl (upd (upd g2 0 0) 0 0))), (h6, .inl (cJ, 3000, .inr (.inl g4))), (h7, .inl (cJ, 3000, .inr (.inl g5))), (h3, .inl (cI, 48000, .inl g0)), (h1, .inr (6, f1)), (h5, .inl (cI, 48000, .inl g3)), (h0, .inr (0, f0)), (h2, .inl (cI, 3000, .inl (upd g1 0 1)))] := hD
  refine lv_iinc (v := 1) (lv' := [(4, .int 1), (3, .int 0), (2, .int 1), (0, .ref h0), (1, .int 0)]) hx hb dX0_howMany_74 hl (k := 0) rfl (by decide) (by decide) rfl (fun ls hl => ?_)
  refine lv_goto (tgt := 24) hx hb dX0_howMany_77 (by decide) ?_
  refine lv_iload hx hb dX0_howMany_24 (lv_at hl 0 rfl) ?_
  refine lv_aload_n hx hb dX0_howMany_26 rfl (lv_at hl 3 rfl) ?_
  refine va_get (D := D) (ref := "IntegerHouse$Answers") (ci := 0) (v := .ref h1) (C := RX0) (T := TX0) (N := 19) hx hb hts hin0 hown hK hP 6 rfl rfl 1 (by decide) (hts (.fieldLink RX0 48 "IntegerHouse$Answers" "places" "LIntegerHouse$Places;") (List.mem_cons_of_mem _ (List.mem_append_left _ (List.mem_append_left _ (List.mem_append_left _ (List.mem_of_getElem? (i := 1) rfl)))))) (fun _ h9 => h9) e0 dX0_howMany_27 ?_
  refine va_getN (host := "IntegerHouse") (D := D) (ref := "IntegerHouse$Places") (ci := 6) (v := .int 1) (C := RX6) (T := TX6) (N := 14) hx hb hts hin6 hown hK hP 4 rfl rfl 12 (by decide) (va_Nw.use rfl (hN.1 ("IntegerHouse$Answers", 92, "IntegerHouse$Places", "letters", "I", "IntegerHouse") (List.mem_of_getElem? (i := 31) rfl))) (fun _ h9 => h9) e3 dX0_howMany_30 ?_
  refine lv_icmp_ge (tgt := 80) hx hb dX0_howMany_33 (by decide) (fun _ => ?_) (fun c9 => absurd (by decide) c9)
  refine lv_iinc (v := 1) (lv' := [(3, .int 1), (4, .int 1), (2, .int 1), (0, .ref h0), (1, .int 0)]) hx hb dX0_howMany_80 hl (k := 1) rfl (by decide) (by decide) rfl (fun ls hl => ?_)
  refine lv_goto (tgt := 9) hx hb dX0_howMany_83 (by decide) ?_
  refine lv_iload_n hx hb dX0_howMany_9 rfl (lv_at hl 0 rfl) ?_
  refine lv_iload_n hx hb dX0_howMany_10 rfl (lv_at hl 2 rfl) ?_
  refine lv_icmp_ge (tgt := 86) hx hb dX0_howMany_11 (by decide) (fun _ => ?_) (fun c9 => absurd (by decide) c9)
  refine lv_iconst (v := 1) hx hb dX0_howMany_86 (by decide) ?_
  refine lv_istore_n (lv' := [(3, .int 1), (4, .int 1), (2, .int 1), (0, .ref h0), (1, .int 0)]) hx hb dX0_howMany_87 rfl hl (by decide) rfl (fun ls hl => ?_)
  refine lv_iconst (v := 0) hx hb dX0_howMany_88 (by decide) ?_
  refine lv_istore (lv' := [(4, .int 0), (3, .int 1), (2, .int 1), (0, .ref h0), (1, .int 0)]) hx hb dX0_howMany_89 hl (by decide) rfl (fun ls hl => ?_)
  refine lv_iload hx hb dX0_howMany_91 (lv_at hl 0 rfl) ?_
  refine lv_iload_n hx hb dX0_howMany_93 rfl (lv_at hl 2 rfl) ?_
  refine lv_icmp_gt (tgt := 114) hx hb dX0_howMany_94 (by decide) (fun c9 => absurd c9 (by decide)) (fun _ => ?_)
  refine lv_iload_n hx hb dX0_howMany_97 rfl (lv_at hl 1 rfl) ?_
  refine lv_if_eq (tgt := 114) hx hb dX0_howMany_98 (by decide) (fun c9 => absurd c9 (by decide)) (fun _ => ?_)
  refine lv_aload_n hx hb dX0_howMany_101 rfl (lv_at hl 3 rfl) ?_
  refine lv_iload_n hx hb dX0_howMany_102 rfl (lv_at hl 2 rfl) ?_
  refine lv_iconst (v := 0) hx hb dX0_howMany_103 (by decide) ?_
  refine k_cVi (As := [.int 1, .int 0]) (rest := []) (wc := [(h0, .inr (0, f0)), (h4, .inl (cI, 3000, .inl (upd (upd g2 0 0) 0 0))), (h1, .inr (6, f1)), (h5, .inl (cI, 48000, .inl g3))]) (wr := [(h6, .inl (cJ, 3000, .inr (.inl g4))), (h7, .inl (cJ, 3000, .inr (.inl g5))), (h3, .inl (cI, 48000, .inl g0)), (h2, .inl (cI, 3000, .inl (upd g1 0 1)))]) (w1 := [(h0, .inr (0, f0)), (h4, .inl (cI, 3000, .inl (upd (upd g2 0 0) 0 0))), (h1, .inr (6, f1)), (h5, .inl (cI, 48000, .inl g3))]) ⟨hx, hb, hml, hown, hts⟩ hN hX hAE hK hP hD hS hA [6, 0, 4, 5] [1, 2, 3, 7] (ci := 0) rfl rfl rfl rfl (by decide +kernel) (by decide +kernel) (by decide +kernel) (c_X0_mark_0 l E D cI cJ cB cZ h0 f0 h4 ((upd (upd g2 0 0) 0 0)) h1 f1 h5 g3 e6 rfl e0 e3 e7 e8) (cwV 2 hts gX0_howMany_X0_mark rfl rfl rfl (by decide +kernel) ⟨Nat.le_of_ble_eq_true rfl, Nat.le_of_ble_eq_true rfl⟩) rfl hl.1 (Nat.le_of_ble_eq_true rfl) dX0_howMany_104 ⟨Nat.le_of_ble_eq_true rfl, Nat.le_of_ble_eq_true rfl⟩ (fun H locs hP hD hS => ?_)
  have hP : va_P D vwCl [(h6, .inl (cJ, 3000, .inr (.inl g4))), (h7, .inl (cJ, 3000, .inr (.inl g5))), (h3, .inl (cI, 48000, .inl g0)), (h2, .inl (cI, 3000, .inl (upd g1 0 1))), (h0, .inr (0, f0)), (h4, .inl (cI, 3000, .inl (upd (upd g2 0 0) 0 0))), (h1, .inr (6, f1)), (h5, .inl (cI, 48000, .inl g3))] H := hP
  have hD : va_D A [(h6, .inl (cJ, 3000, .inr (.inl g4))), (h7, .inl (cJ, 3000, .inr (.inl g5))), (h3, .inl (cI, 48000, .inl g0)), (h2, .inl (cI, 3000, .inl (upd g1 0 1))), (h0, .inr (0, f0)), (h4, .inl (cI, 3000, .inl (upd (upd g2 0 0) 0 0))), (h1, .inr (6, f1)), (h5, .inl (cI, 48000, .inl g3))] := hD
  refine lv_istore_n (lv' := [(3, .int 0), (4, .int 0), (2, .int 1), (0, .ref h0), (1, .int 0)]) hx hb dX0_howMany_107 rfl hl (by decide) rfl (fun ls hl => ?_)
  refine lv_iinc (v := 1) (lv' := [(4, .int 1), (3, .int 0), (2, .int 1), (0, .ref h0), (1, .int 0)]) hx hb dX0_howMany_108 hl (k := 1) rfl (by decide) (by decide) rfl (fun ls hl => ?_)
  refine lv_goto (tgt := 91) hx hb dX0_howMany_111 (by decide) ?_
  refine lv_iload hx hb dX0_howMany_91 (lv_at hl 0 rfl) ?_
  refine lv_iload_n hx hb dX0_howMany_93 rfl (lv_at hl 2 rfl) ?_
  refine lv_icmp_gt (tgt := 114) hx hb dX0_howMany_94 (by decide) (fun c9 => absurd c9 (by decide)) (fun _ => ?_)
  refine lv_iload_n hx hb dX0_howMany_97 rfl (lv_at hl 1 rfl) ?_
  refine lv_if_eq (tgt := 114) hx hb dX0_howMany_98 (by decide) (fun _ => ?_) (fun c9 => absurd (by decide) c9)
  refine lv_iconst (v := 1) hx hb dX0_howMany_114 (by decide) ?_
  refine lv_istore (lv' := [(4, .int 1), (3, .int 0), (2, .int 1), (0, .ref h0), (1, .int 0)]) hx hb dX0_howMany_115 hl (by decide) rfl (fun ls hl => ?_)
  refine lv_iconst (v := 0) hx hb dX0_howMany_117 (by decide) ?_
  refine lv_istore (lv' := [(5, .int 0), (4, .int 1), (3, .int 0), (2, .int 1), (0, .ref h0), (1, .int 0)]) hx hb dX0_howMany_118 hl (by decide) rfl (fun ls hl => ?_)
  refine lv_iload hx hb dX0_howMany_120 (lv_at hl 0 rfl) ?_
  refine lv_iload_n hx hb dX0_howMany_122 rfl (lv_at hl 3 rfl) ?_
  refine lv_icmp_gt (tgt := 145) hx hb dX0_howMany_123 (by decide) (fun c9 => absurd c9 (by decide)) (fun _ => ?_)
  refine lv_iload hx hb dX0_howMany_126 (lv_at hl 1 rfl) ?_
  refine lv_if_eq (tgt := 145) hx hb dX0_howMany_128 (by decide) (fun c9 => absurd c9 (by decide)) (fun _ => ?_)
  refine lv_aload_n hx hb dX0_howMany_131 rfl (lv_at hl 4 rfl) ?_
  refine lv_iload_n hx hb dX0_howMany_132 rfl (lv_at hl 3 rfl) ?_
  refine lv_iconst (v := 1) hx hb dX0_howMany_133 (by decide) ?_
  refine k_cVi (As := [.int 1, .int 1]) (rest := []) (wc := [(h0, .inr (0, f0)), (h4, .inl (cI, 3000, .inl (upd (upd g2 0 0) 0 0)))]) (wr := [(h6, .inl (cJ, 3000, .inr (.inl g4))), (h7, .inl (cJ, 3000, .inr (.inl g5))), (h3, .inl (cI, 48000, .inl g0)), (h2, .inl (cI, 3000, .inl (upd g1 0 1))), (h1, .inr (6, f1)), (h5, .inl (cI, 48000, .inl g3))]) (w1 := [(h0, .inr (0, f0)), (h4, .inl (cI, 3000, .inl (upd (upd g2 0 0) 0 0)))]) ⟨hx, hb, hml, hown, hts⟩ hN hX hAE hK hP hD hS hA [4, 5] [0, 1, 2, 3, 6, 7] (ci := 0) rfl rfl rfl rfl (by decide +kernel) (by decide +kernel) (by decide +kernel) (c_X0_mark_1 l E D cI cJ cB cZ h0 f0 h4 ((upd (upd g2 0 0) 0 0)) e6 rfl) (cwV 2 hts gX0_howMany_X0_mark rfl rfl rfl (by decide +kernel) ⟨Nat.le_of_ble_eq_true rfl, Nat.le_of_ble_eq_true rfl⟩) rfl hl.1 (Nat.le_of_ble_eq_true rfl) dX0_howMany_134 ⟨Nat.le_of_ble_eq_true rfl, Nat.le_of_ble_eq_true rfl⟩ (fun H locs hP hD hS => ?_)
  have hP : va_P D vwCl [(h6, .inl (cJ, 3000, .inr (.inl g4))), (h7, .inl (cJ, 3000, .inr (.inl g5))), (h3, .inl (cI, 48000, .inl g0)), (h2, .inl (cI, 3000, .inl (upd g1 0 1))), (h1, .inr (6, f1)), (h5, .inl (cI, 48000, .inl g3)), (h0, .inr (0, f0)), (h4, .inl (cI, 3000, .inl (upd (upd g2 0 0) 0 0)))] H := hP
  have hD : va_D A [(h6, .inl (cJ, 3000, .inr (.inl g4))), (h7, .inl (cJ, 3000, .inr (.inl g5))), (h3, .inl (cI, 48000, .inl g0)), (h2, .inl (cI, 3000, .inl (upd g1 0 1))), (h1, .inr (6, f1)), (h5, .inl (cI, 48000, .inl g3)), (h0, .inr (0, f0)), (h4, .inl (cI, 3000, .inl (upd (upd g2 0 0) 0 0)))] := hD
  refine lv_istore (lv' := [(4, .int 0), (5, .int 0), (3, .int 0), (2, .int 1), (0, .ref h0), (1, .int 0)]) hx hb dX0_howMany_137 hl (by decide) rfl (fun ls hl => ?_)
  refine lv_iinc (v := 1) (lv' := [(5, .int 1), (4, .int 0), (3, .int 0), (2, .int 1), (0, .ref h0), (1, .int 0)]) hx hb dX0_howMany_139 hl (k := 1) rfl (by decide) (by decide) rfl (fun ls hl => ?_)
  refine lv_goto (tgt := 120) hx hb dX0_howMany_142 (by decide) ?_
  refine lv_iload hx hb dX0_howMany_120 (lv_at hl 0 rfl) ?_
  refine lv_iload_n hx hb dX0_howMany_122 rfl (lv_at hl 3 rfl) ?_
  refine lv_icmp_gt (tgt := 145) hx hb dX0_howMany_123 (by decide) (fun c9 => absurd c9 (by decide)) (fun _ => ?_)
  refine lv_iload hx hb dX0_howMany_126 (lv_at hl 1 rfl) ?_
  refine lv_if_eq (tgt := 145) hx hb dX0_howMany_128 (by decide) (fun _ => ?_) (fun c9 => absurd (by decide) c9)
  refine lv_iconst (v := 0) hx hb dX0_howMany_145 (by decide) ?_
  refine lv_istore (lv' := [(5, .int 0), (4, .int 0), (3, .int 0), (2, .int 1), (0, .ref h0), (1, .int 0)]) hx hb dX0_howMany_146 hl (by decide) rfl (fun ls hl => ?_)
  refine lv_iload hx hb dX0_howMany_148 (lv_at hl 0 rfl) ?_
  refine lv_iload_n hx hb dX0_howMany_150 rfl (lv_at hl 3 rfl) ?_
  refine lv_icmp_ge (tgt := 174) hx hb dX0_howMany_151 (by decide) (fun c9 => absurd c9 (by decide)) (fun _ => ?_)
  refine lv_aload_n hx hb dX0_howMany_154 rfl (lv_at hl 4 rfl) ?_
  refine va_get (D := D) (ref := "IntegerHouse$Answers") (ci := 0) (v := .ref h4) (C := RX0) (T := TX0) (N := 19) hx hb hts hin0 hown hK hP 6 rfl rfl 4 (by decide) (hts (.fieldLink RX0 18 "IntegerHouse$Answers" "far" "[I") (List.mem_cons_of_mem _ (List.mem_append_left _ (List.mem_append_left _ (List.mem_append_left _ (List.mem_of_getElem? (i := 0) rfl)))))) (fun _ h9 => h9) e6 dX0_howMany_155 ?_
  refine lv_iload hx hb dX0_howMany_158 (lv_at hl 0 rfl) ?_
  refine va_iald hx hb hK hP 7 0 rfl rfl (k_in (by decide)) dX0_howMany_160 ?_
  refine k_topi (y := 0) rfl ?_
  refine lv_iconst (v := 1) hx hb dX0_howMany_161 (by decide) ?_
  refine lv_icmp_ne (tgt := 168) hx hb dX0_howMany_162 (by decide) (fun _ => ?_) (fun c9 => absurd c9 (by decide))
  refine lv_iinc (v := 1) (lv' := [(5, .int 1), (4, .int 0), (3, .int 0), (2, .int 1), (0, .ref h0), (1, .int 0)]) hx hb dX0_howMany_168 hl (k := 0) rfl (by decide) (by decide) rfl (fun ls hl => ?_)
  refine lv_goto (tgt := 148) hx hb dX0_howMany_171 (by decide) ?_
  refine lv_iload hx hb dX0_howMany_148 (lv_at hl 0 rfl) ?_
  refine lv_iload_n hx hb dX0_howMany_150 rfl (lv_at hl 3 rfl) ?_
  refine lv_icmp_ge (tgt := 174) hx hb dX0_howMany_151 (by decide) (fun _ => ?_) (fun c9 => absurd (by decide) c9)
  refine lv_aload_n hx hb dX0_howMany_174 rfl (lv_at hl 4 rfl) ?_
  refine lv_iload_n hx hb dX0_howMany_175 rfl (lv_at hl 3 rfl) ?_
  refine k_cVi (As := [.int 1]) (rest := []) (wc := [(h0, .inr (0, f0)), (h2, .inl (cI, 3000, .inl (upd g1 0 1))), (h6, .inl (cJ, 3000, .inr (.inl g4))), (h1, .inr (6, f1)), (h5, .inl (cI, 48000, .inl g3)), (h7, .inl (cJ, 3000, .inr (.inl g5)))]) (wr := [(h3, .inl (cI, 48000, .inl g0)), (h4, .inl (cI, 3000, .inl (upd (upd g2 0 0) 0 0)))]) (w1 := [(h0, .inr (0, f0)), (h2, .inl (cI, 3000, .inl (upd g1 0 1))), (h6, .inl (cJ, 3000, .inr (.inl (vp_updL (vp_updL g4 0 1) 0 1)))), (h1, .inr (6, f1)), (h5, .inl (cI, 48000, .inl g3)), (h7, .inl (cJ, 3000, .inr (.inl (vp_updL g5 0 1))))]) ⟨hx, hb, hml, hown, hts⟩ hN hX hAE hK hP hD hS hA [6, 3, 0, 4, 5, 1] [2, 7] (ci := 0) rfl rfl rfl rfl (by decide +kernel) (by decide +kernel) (by decide +kernel) (c_X0_countAll_0 l E D cI cJ cB cZ h0 f0 h6 h2 ((upd g1 0 1)) g4 h1 f1 h5 g3 h7 g5 e9 e2 rfl e0 e3 e7 e8 e10) (cwV 1 hts gX0_howMany_X0_countAll rfl rfl rfl (by decide +kernel) ⟨Nat.le_of_ble_eq_true rfl, Nat.le_of_ble_eq_true rfl⟩) rfl hl.1 (Nat.le_of_ble_eq_true rfl) dX0_howMany_176 ⟨Nat.le_of_ble_eq_true rfl, Nat.le_of_ble_eq_true rfl⟩ (fun H locs hP hD hS => ?_)
  have hP : va_P D vwCl [(h3, .inl (cI, 48000, .inl g0)), (h4, .inl (cI, 3000, .inl (upd (upd g2 0 0) 0 0))), (h0, .inr (0, f0)), (h2, .inl (cI, 3000, .inl (upd g1 0 1))), (h6, .inl (cJ, 3000, .inr (.inl (vp_updL (vp_updL g4 0 1) 0 1)))), (h1, .inr (6, f1)), (h5, .inl (cI, 48000, .inl g3)), (h7, .inl (cJ, 3000, .inr (.inl (vp_updL g5 0 1))))] H := hP
  have hD : va_D A [(h3, .inl (cI, 48000, .inl g0)), (h4, .inl (cI, 3000, .inl (upd (upd g2 0 0) 0 0))), (h0, .inr (0, f0)), (h2, .inl (cI, 3000, .inl (upd g1 0 1))), (h6, .inl (cJ, 3000, .inr (.inl (vp_updL (vp_updL g4 0 1) 0 1)))), (h1, .inr (6, f1)), (h5, .inl (cI, 48000, .inl g3)), (h7, .inl (cJ, 3000, .inr (.inl (vp_updL g5 0 1))))] := hD
  have hP := hP.sub (ws' := [(h0, .inr (0, f0)), (h1, .inr (6, f1)), (h3, .inl (cI, 48000, .inl g0)), (h2, .inl (cI, 3000, .inl (upd g1 0 1))), (h4, .inl (cI, 3000, .inl (upd (upd g2 0 0) 0 0))), (h5, .inl (cI, 48000, .inl g3)), (h6, .inl (cJ, 3000, .inr (.inl (vp_updL (vp_updL g4 0 1) 0 1)))), (h7, .inl (cJ, 3000, .inr (.inl (vp_updL g5 0 1))))]) [2, 5, 0, 3, 1, 6, 4, 7] rfl
  have hD := hD.sub (ws' := [(h0, .inr (0, f0)), (h1, .inr (6, f1)), (h3, .inl (cI, 48000, .inl g0)), (h2, .inl (cI, 3000, .inl (upd g1 0 1))), (h4, .inl (cI, 3000, .inl (upd (upd g2 0 0) 0 0))), (h5, .inl (cI, 48000, .inl g3)), (h6, .inl (cJ, 3000, .inr (.inl (vp_updL (vp_updL g4 0 1) 0 1)))), (h7, .inl (cJ, 3000, .inr (.inl (vp_updL g5 0 1))))]) [2, 5, 0, 3, 1, 6, 4, 7] (by decide +kernel) rfl
  exact W.iret (v := 1) hx hb hr (fun t ht hW => ⟨⟨1, (), rfl, rfl, kB_mk ht hW hP hK hD⟩, hS.F ht⟩) hS.2.2 dX0_howMany_179
set_option maxHeartbeats 400000000 in
set_option maxRecDepth 100000 in
theorem c_X11_many_0 (l : Launch) (E : kE) (D : va_G) (cI cJ cB cZ : ClassId) (h0 : Nat) (f0 : List Value) (h1 : Nat) (f1 : List Value) (h2 : Nat) (h3 : Nat) (f2 : List Value) (f3 : List Value) (h4 : Nat) (h5 : Nat) (h6 : Nat) (g0 : Nat → Int32) (g1 : Nat → Int32) (g2 : Nat → Int32) (h7 : Nat) (f4 : List Value) (h8 : Nat) (h9 : Nat) (h10 : Nat) (h11 : Nat) (g3 : Nat → Int32) (g4 : Nat → Int32) (g5 : Nat → Int64) (g6 : Nat → Int64) (e0 : f0[1]? = some (.ref h1)) (e1 : f1[8]? = some (.int 0)) (e2 : f0[6]? = some (.ref h2)) (e3 : f0[2]? = some (.ref h3)) (e4 : f2[13]? = some (.int 0)) (e5 : f3[10]? = some (.int 0)) (e6 : f3[11]? = some (.int 0)) (e7 : f3[0]? = some (.ref h3)) (e8 : f2[10]? = some (.int 0)) (e9 : f3[12]? = some (.int 0)) (e10 : f3[9]? = some (.ref h4)) (e11 : f3[13]? = some (.int 0)) (e12 : f3[7]? = some (.ref h5)) (e13 : f3[8]? = some (.ref h6)) (e14 : f0[7]? = some (.ref h7)) (e15 : f4[1]? = some (.ref h2)) (e16 : f4[5]? = some (.ref h8)) (e17 : f4[4]? = some (.ref h9)) (e18 : f4[7]? = some (.ref h10)) (e19 : f4[8]? = some (.ref h11)) : kI l E D (kT cI cJ cB cZ) yX11_many wsX11_many ({ frames := 5, cells := 0, slots := 0, locals := 115 }) [.ref h0] [(h0, .inr (11, f0)), (h1, .inr (1, f1)), (h3, .inr (2, f2)), (h2, .inr (6, f3)), (h4, .inl (cI, 8192, .inl g0)), (h5, .inl (cI, 48000, .inl g1)), (h6, .inl (cI, 48000, .inl g2)), (h7, .inr (0, f4)), (h8, .inl (cI, 3000, .inl g3)), (h9, .inl (cI, 3000, .inl g4)), (h10, .inl (cJ, 3000, .inr (.inl g5))), (h11, .inl (cJ, 3000, .inr (.inl g6)))] (1) [(h0, .inr (11, f0)), (h1, .inr (1, f1)), (h3, .inr (2, f2)), (h2, .inr (6, ((((((((((((((((((((((((((((((f3.set 10 (.int 0)).set 11 (.int 0)).set 12 (.int 1)).set 11 (.int 0)).set 11 (.int 0)).set 11 (.int 0)).set 11 (.int 0)).set 11 (.int 0)).set 11 (.int 0)).set 11 (.int 0)).set 11 (.int 0)).set 11 (.int 0)).set 11 (.int 0)).set 11 (.int 0)).set 11 (.int 0)).set 11 (.int 0)).set 11 (.int 0)).set 11 (.int 0)).set 11 (.int 0)).set 11 (.int 0)).set 11 (.int 0)).set 11 (.int 0)).set 11 (.int 0)).set 11 (.int 0)).set 11 (.int 0)).set 11 (.int 0)).set 11 (.int 0)).set 11 (.int 0)).set 13 (.int 0)).set 13 (.int 1)))), (h4, .inl (cI, 8192, .inl (upd (k_fill 0 8192 g0) 782 1))), (h5, .inl (cI, 48000, .inl (upd g1 0 0))), (h6, .inl (cI, 48000, .inl (upd g2 0 0))), (h7, .inr (0, f4)), (h8, .inl (cI, 3000, .inl (upd g3 0 1))), (h9, .inl (cI, 3000, .inl (upd (upd g4 0 0) 0 0))), (h10, .inl (cJ, 3000, .inr (.inl (vp_updL (vp_updL g5 0 1) 0 1)))), (h11, .inl (cJ, 3000, .inr (.inl (vp_updL g6 0 1))))] 0 0 := by
  intro sz
  refine Met.ofW (cc := cX11_many) (maxL := 1) (ret := (some .int)) (by decide) rfl ?_
  intro p e s m args below meth c s₁ B hml hv
  obtain ⟨rfl, hsz, hP, hK, hD0, hN, hX⟩ := hv
  have hx := B.exec
  have hb := B.bytes
  have hr := B.returns
  have hts := atoms_spec (ws := wsX11_many) B.pre
  have hown : s.vm.findClass RX11 = some m.cls := findClass_of_methodNamed B.named
  have hlocks := B.notSynchronized
  have hin11 : ∀ w ∈ wsX110, w ∈ wsX11_many := (fun w h => (List.mem_cons_of_mem _ (List.mem_append_left _ (List.mem_append_left _ (List.mem_append_left _ (List.mem_append_left _ (List.mem_append_right _ h)))))))
  have hin1 : ∀ w ∈ wsX10, w ∈ wsX11_many := (fun w h => (List.mem_cons_of_mem _ (List.mem_append_left _ (List.mem_append_left _ (List.mem_append_left _ (List.mem_append_right _ h))))))
  have hin2 : ∀ w ∈ wsX20, w ∈ wsX11_many := (fun w h => (List.mem_cons_of_mem _ (List.mem_append_left _ (List.mem_append_left _ (List.mem_append_right _ h)))))
  subst hsz
  have hD := hD0.self (sz := s.heap.size)
  have hAE := k_AE hD0 hX
  generalize hAe : va_A [(h0, .inr (11, f0)), (h1, .inr (1, f1)), (h3, .inr (2, f2)), (h2, .inr (6, f3)), (h4, .inl (cI, 8192, .inl g0)), (h5, .inl (cI, 48000, .inl g1)), (h6, .inl (cI, 48000, .inl g2)), (h7, .inr (0, f4)), (h8, .inl (cI, 3000, .inl g3)), (h9, .inl (cI, 3000, .inl g4)), (h10, .inl (cJ, 3000, .inr (.inl g5))), (h11, .inl (cJ, 3000, .inr (.inl g6)))] s.heap.size = A at hD hAE ⊢
  have hA : ∀ q : Nat, s.heap.size ≤ q → A q := fun q h => by rw [← hAe]; exact Or.inr h
  have hS : va_S A s.heap s.heap [] := va_S.rf
  have hP : va_P D vwCl [(h0, .inr (11, f0)), (h1, .inr (1, f1)), (h3, .inr (2, f2)), (h2, .inr (6, f3)), (h4, .inl (cI, 8192, .inl g0)), (h5, .inl (cI, 48000, .inl g1)), (h6, .inl (cI, 48000, .inl g2)), (h7, .inr (0, f4)), (h8, .inl (cI, 3000, .inl g3)), (h9, .inl (cI, 3000, .inl g4)), (h10, .inl (cJ, 3000, .inr (.inl g5))), (h11, .inl (cJ, 3000, .inr (.inl g6)))] s.heap := hP
  have hl := lv_entry ([.ref h0] : List Value) (n := 1) (Nat.le_of_ble_eq_true rfl)
  rw [lg_entry_eq]
  generalize (lg_sl ([.ref h0]) ++ List.replicate (1 - (lg_sl ([.ref h0])).length) Slot.unset).toArray = ls at hl ⊢
  have hl : lv_has ls 1 [(0, .ref h0)] := hl
  refine lv_aload_n hx hb dX11_many_0 rfl (lv_at hl 0 rfl) ?_
  refine va_get (D := D) (ref := "IntegerHouse") (ci := 11) (v := .ref h1) (C := RX11) (T := TX11) (N := 15) hx hb hts hin11 hown hK hP 0 rfl rfl 1 (by decide) (hts (.fieldLink RX11 16 "IntegerHouse" "disk" "LIntegerHouse$Disk;") (List.mem_cons_of_mem _ (List.mem_append_left _ (List.mem_append_left _ (List.mem_append_left _ (List.mem_append_left _ (List.mem_append_left _ (List.mem_append_left _ (List.mem_of_getElem? (i := 0) rfl))))))))) (fun _ h9 => h9) e0 dX11_many_1 ?_
  refine va_getN (host := "IntegerHouse") (D := D) (ref := "IntegerHouse$Disk") (ci := 1) (v := .int 0) (C := RX1) (T := TX1) (N := 9) hx hb hts hin1 hown hK hP 1 rfl rfl 8 (by decide) (va_Nw.use rfl (hN.1 ("IntegerHouse", 122, "IntegerHouse$Disk", "down", "Z", "IntegerHouse") (List.mem_of_getElem? (i := 3) rfl))) (fun _ h9 => h9) e1 dX11_many_4 ?_
  refine lv_if_eq (tgt := 13) hx hb dX11_many_7 (by decide) (fun _ => ?_) (fun c9 => absurd (by decide) c9)
  refine lv_aload_n hx hb dX11_many_13 rfl (lv_at hl 0 rfl) ?_
  refine va_get (D := D) (ref := "IntegerHouse") (ci := 11) (v := .ref h2) (C := RX11) (T := TX11) (N := 15) hx hb hts hin11 hown hK hP 0 rfl rfl 6 (by decide) (hts (.fieldLink RX11 55 "IntegerHouse" "places" "LIntegerHouse$Places;") (List.mem_cons_of_mem _ (List.mem_append_left _ (List.mem_append_left _ (List.mem_append_left _ (List.mem_append_left _ (List.mem_append_left _ (List.mem_append_left _ (List.mem_of_getElem? (i := 1) rfl))))))))) (fun _ h9 => h9) e2 dX11_many_14 ?_
  refine lv_aload_n hx hb dX11_many_17 rfl (lv_at hl 0 rfl) ?_
  refine va_get (D := D) (ref := "IntegerHouse") (ci := 11) (v := .ref h3) (C := RX11) (T := TX11) (N := 15) hx hb hts hin11 hown hK hP 0 rfl rfl 2 (by decide) (hts (.fieldLink RX11 23 "IntegerHouse" "house" "LIntegerHouse$House;") (List.mem_cons_of_mem _ (List.mem_append_left _ (List.mem_append_left _ (List.mem_append_left _ (List.mem_append_left _ (List.mem_append_left _ (List.mem_append_left _ (List.mem_of_getElem? (i := 2) rfl))))))))) (fun _ h9 => h9) e3 dX11_many_18 ?_
  refine va_getN (host := "IntegerHouse") (D := D) (ref := "IntegerHouse$House") (ci := 2) (v := .int 0) (C := RX2) (T := TX2) (N := 16) hx hb hts hin2 hown hK hP 2 rfl rfl 13 (by decide) (va_Nw.use rfl (hN.1 ("IntegerHouse", 213, "IntegerHouse$House", "on", "I", "IntegerHouse") (List.mem_of_getElem? (i := 20) rfl))) (fun _ h9 => h9) e4 dX11_many_21 ?_
  refine k_cVi (As := [.int 0]) (rest := []) (wc := [(h2, .inr (6, f3)), (h3, .inr (2, f2)), (h4, .inl (cI, 8192, .inl g0)), (h5, .inl (cI, 48000, .inl g1)), (h6, .inl (cI, 48000, .inl g2))]) (wr := [(h0, .inr (11, f0)), (h1, .inr (1, f1)), (h7, .inr (0, f4)), (h8, .inl (cI, 3000, .inl g3)), (h9, .inl (cI, 3000, .inl g4)), (h10, .inl (cJ, 3000, .inr (.inl g5))), (h11, .inl (cJ, 3000, .inr (.inl g6)))]) (w1 := [(h2, .inr (6, ((((((((((((((((((((((((((((((f3.set 10 (.int 0)).set 11 (.int 0)).set 12 (.int 1)).set 11 (.int 0)).set 11 (.int 0)).set 11 (.int 0)).set 11 (.int 0)).set 11 (.int 0)).set 11 (.int 0)).set 11 (.int 0)).set 11 (.int 0)).set 11 (.int 0)).set 11 (.int 0)).set 11 (.int 0)).set 11 (.int 0)).set 11 (.int 0)).set 11 (.int 0)).set 11 (.int 0)).set 11 (.int 0)).set 11 (.int 0)).set 11 (.int 0)).set 11 (.int 0)).set 11 (.int 0)).set 11 (.int 0)).set 11 (.int 0)).set 11 (.int 0)).set 11 (.int 0)).set 11 (.int 0)).set 13 (.int 0)).set 13 (.int 1)))), (h3, .inr (2, f2)), (h4, .inl (cI, 8192, .inl (upd (k_fill 0 8192 g0) 782 1))), (h5, .inl (cI, 48000, .inl (upd g1 0 0))), (h6, .inl (cI, 48000, .inl (upd g2 0 0)))]) ⟨hx, hb, hml, hown, hts⟩ hN hX hAE hK hP hD hS hA [3, 2, 4, 5, 6] [0, 1, 7, 8, 9, 10, 11] (ci := 6) rfl rfl rfl rfl (by decide +kernel) (by decide +kernel) (by decide +kernel) (c_X6_judge_0 l E D cI cJ cB cZ h2 f3 h3 f2 h4 h5 g0 g1 h6 g2 e5 e6 e7 e8 e9 e10 e11 e12 e13) (cwV 1 hts gX11_many_X6_judge rfl rfl rfl (by decide +kernel) ⟨Nat.le_of_ble_eq_true rfl, Nat.le_of_ble_eq_true rfl⟩) rfl hl.1 (Nat.le_of_ble_eq_true rfl) dX11_many_24 ⟨Nat.le_of_ble_eq_true rfl, Nat.le_of_ble_eq_true rfl⟩ (fun H locs hP hD hS => ?_)
  have hP : va_P D vwCl [(h0, .inr (11, f0)), (h1, .inr (1, f1)), (h7, .inr (0, f4)), (h8, .inl (cI, 3000, .inl g3)), (h9, .inl (cI, 3000, .inl g4)), (h10, .inl (cJ, 3000, .inr (.inl g5))), (h11, .inl (cJ, 3000, .inr (.inl g6))), (h2, .inr (6, ((((((((((((((((((((((((((((((f3.set 10 (.int 0)).set 11 (.int 0)).set 12 (.int 1)).set 11 (.int 0)).set 11 (.int 0)).set 11 (.int 0)).set 11 (.int 0)).set 11 (.int 0)).set 11 (.int 0)).set 11 (.int 0)).set 11 (.int 0)).set 11 (.int 0)).set 11 (.int 0)).set 11 (.int 0)).set 11 (.int 0)).set 11 (.int 0)).set 11 (.int 0)).set 11 (.int 0)).set 11 (.int 0)).set 11 (.int 0)).set 11 (.int 0)).set 11 (.int 0)).set 11 (.int 0)).set 11 (.int 0)).set 11 (.int 0)).set 11 (.int 0)).set 11 (.int 0)).set 11 (.int 0)).set 13 (.int 0)).set 13 (.int 1)))), (h3, .inr (2, f2)), (h4, .inl (cI, 8192, .inl (upd (k_fill 0 8192 g0) 782 1))), (h5, .inl (cI, 48000, .inl (upd g1 0 0))), (h6, .inl (cI, 48000, .inl (upd g2 0 0)))] H := hP
  have hD : va_D A [(h0, .inr (11, f0)), (h1, .inr (1, f1)), (h7, .inr (0, f4)), (h8, .inl (cI, 3000, .inl g3)), (h9, .inl (cI, 3000, .inl g4)), (h10, .inl (cJ, 3000, .inr (.inl g5))), (h11, .inl (cJ, 3000, .inr (.inl g6))), (h2, .inr (6, ((((((((((((((((((((((((((((((f3.set 10 (.int 0)).set 11 (.int 0)).set 12 (.int 1)).set 11 (.int 0)).set 11 (.int 0)).set 11 (.int 0)).set 11 (.int 0)).set 11 (.int 0)).set 11 (.int 0)).set 11 (.int 0)).set 11 (.int 0)).set 11 (.int 0)).set 11 (.int 0)).set 11 (.int 0)).set 11 (.int 0)).set 11 (.int 0)).set 11 (.int 0)).set 11 (.int 0)).set 11 (.int 0)).set 11 (.int 0)).set 11 (.int 0)).set 11 (.int 0)).set 11 (.int 0)).set 11 (.int 0)).set 11 (.int 0)).set 11 (.int 0)).set 11 (.int 0)).set 11 (.int 0)).set 13 (.int 0)).set 13 (.int 1)))), (h3, .inr (2, f2)), (h4, .inl (cI, 8192, .inl (upd (k_fill 0 8192 g0) 782 1))), (h5, .inl (cI, 48000, .inl (upd g1 0 0))), (h6, .inl (cI, 48000, .inl (upd g2 0 0)))] := hD
  refine lv_if_eq (tgt := 47) hx hb dX11_many_27 (by decide) (fun c9 => absurd c9 (by decide)) (fun _ => ?_)
  refine lv_aload_n hx hb dX11_many_30 rfl (lv_at hl 0 rfl) ?_
  refine va_get (D := D) (ref := "IntegerHouse") (ci := 11) (v := .ref h7) (C := RX11) (T := TX11) (N := 15) hx hb hts hin11 hown hK hP 0 rfl rfl 7 (by decide) (hts (.fieldLink RX11 64 "IntegerHouse" "answers" "LIntegerHouse$Answers;") (List.mem_cons_of_mem _ (List.mem_append_left _ (List.mem_append_left _ (List.mem_append_left _ (List.mem_append_left _ (List.mem_append_left _ (List.mem_append_left _ (List.mem_of_getElem? (i := 3) rfl))))))))) (fun _ h9 => h9) e14 dX11_many_31 ?_
  refine lv_aload_n hx hb dX11_many_34 rfl (lv_at hl 0 rfl) ?_
  refine va_get (D := D) (ref := "IntegerHouse") (ci := 11) (v := .ref h3) (C := RX11) (T := TX11) (N := 15) hx hb hts hin11 hown hK hP 0 rfl rfl 2 (by decide) (hts (.fieldLink RX11 23 "IntegerHouse" "house" "LIntegerHouse$House;") (List.mem_cons_of_mem _ (List.mem_append_left _ (List.mem_append_left _ (List.mem_append_left _ (List.mem_append_left _ (List.mem_append_left _ (List.mem_append_left _ (List.mem_of_getElem? (i := 2) rfl))))))))) (fun _ h9 => h9) e3 dX11_many_35 ?_
  refine va_getN (host := "IntegerHouse") (D := D) (ref := "IntegerHouse$House") (ci := 2) (v := .int 0) (C := RX2) (T := TX2) (N := 16) hx hb hts hin2 hown hK hP 8 rfl rfl 13 (by decide) (va_Nw.use rfl (hN.1 ("IntegerHouse", 213, "IntegerHouse$House", "on", "I", "IntegerHouse") (List.mem_of_getElem? (i := 20) rfl))) (fun _ h9 => h9) e4 dX11_many_38 ?_
  refine k_cVi (As := [.int 0]) (rest := []) (wc := [(h7, .inr (0, f4)), (h2, .inr (6, ((((((((((((((((((((((((((((((f3.set 10 (.int 0)).set 11 (.int 0)).set 12 (.int 1)).set 11 (.int 0)).set 11 (.int 0)).set 11 (.int 0)).set 11 (.int 0)).set 11 (.int 0)).set 11 (.int 0)).set 11 (.int 0)).set 11 (.int 0)).set 11 (.int 0)).set 11 (.int 0)).set 11 (.int 0)).set 11 (.int 0)).set 11 (.int 0)).set 11 (.int 0)).set 11 (.int 0)).set 11 (.int 0)).set 11 (.int 0)).set 11 (.int 0)).set 11 (.int 0)).set 11 (.int 0)).set 11 (.int 0)).set 11 (.int 0)).set 11 (.int 0)).set 11 (.int 0)).set 11 (.int 0)).set 13 (.int 0)).set 13 (.int 1)))), (h6, .inl (cI, 48000, .inl (upd g2 0 0))), (h8, .inl (cI, 3000, .inl g3)), (h9, .inl (cI, 3000, .inl g4)), (h5, .inl (cI, 48000, .inl (upd g1 0 0))), (h10, .inl (cJ, 3000, .inr (.inl g5))), (h11, .inl (cJ, 3000, .inr (.inl g6)))]) (wr := [(h0, .inr (11, f0)), (h1, .inr (1, f1)), (h3, .inr (2, f2)), (h4, .inl (cI, 8192, .inl (upd (k_fill 0 8192 g0) 782 1)))]) (w1 := [(h7, .inr (0, f4)), (h2, .inr (6, ((((((((((((((((((((((((((((((f3.set 10 (.int 0)).set 11 (.int 0)).set 12 (.int 1)).set 11 (.int 0)).set 11 (.int 0)).set 11 (.int 0)).set 11 (.int 0)).set 11 (.int 0)).set 11 (.int 0)).set 11 (.int 0)).set 11 (.int 0)).set 11 (.int 0)).set 11 (.int 0)).set 11 (.int 0)).set 11 (.int 0)).set 11 (.int 0)).set 11 (.int 0)).set 11 (.int 0)).set 11 (.int 0)).set 11 (.int 0)).set 11 (.int 0)).set 11 (.int 0)).set 11 (.int 0)).set 11 (.int 0)).set 11 (.int 0)).set 11 (.int 0)).set 11 (.int 0)).set 11 (.int 0)).set 13 (.int 0)).set 13 (.int 1)))), (h6, .inl (cI, 48000, .inl (upd g2 0 0))), (h8, .inl (cI, 3000, .inl (upd g3 0 1))), (h9, .inl (cI, 3000, .inl (upd (upd g4 0 0) 0 0))), (h5, .inl (cI, 48000, .inl (upd g1 0 0))), (h10, .inl (cJ, 3000, .inr (.inl (vp_updL (vp_updL g5 0 1) 0 1)))), (h11, .inl (cJ, 3000, .inr (.inl (vp_updL g6 0 1))))]) ⟨hx, hb, hml, hown, hts⟩ hN hX hAE hK hP hD hS hA [2, 7, 11, 3, 4, 10, 5, 6] [0, 1, 8, 9] (ci := 0) rfl rfl rfl rfl (by decide +kernel) (by decide +kernel) (by decide +kernel) (c_X0_howMany_0 l E D cI cJ cB cZ h7 f4 h2 (((((((((((((((((((((((((((((((f3.set 10 (.int 0)).set 11 (.int 0)).set 12 (.int 1)).set 11 (.int 0)).set 11 (.int 0)).set 11 (.int 0)).set 11 (.int 0)).set 11 (.int 0)).set 11 (.int 0)).set 11 (.int 0)).set 11 (.int 0)).set 11 (.int 0)).set 11 (.int 0)).set 11 (.int 0)).set 11 (.int 0)).set 11 (.int 0)).set 11 (.int 0)).set 11 (.int 0)).set 11 (.int 0)).set 11 (.int 0)).set 11 (.int 0)).set 11 (.int 0)).set 11 (.int 0)).set 11 (.int 0)).set 11 (.int 0)).set 11 (.int 0)).set 11 (.int 0)).set 11 (.int 0)).set 13 (.int 0)).set 13 (.int 1))) h8 h6 ((upd g2 0 0)) g3 h9 g4 h5 ((upd g1 0 0)) h10 h11 g5 g6 e15 (k_set (k_set (k_ne (by decide) (k_ne (by decide) (k_ne (by decide) (k_ne (by decide) (k_ne (by decide) (k_ne (by decide) (k_ne (by decide) (k_ne (by decide) (k_ne (by decide) (k_ne (by decide) (k_ne (by decide) (k_ne (by decide) (k_ne (by decide) (k_ne (by decide) (k_ne (by decide) (k_ne (by decide) (k_ne (by decide) (k_ne (by decide) (k_ne (by decide) (k_ne (by decide) (k_ne (by decide) (k_ne (by decide) (k_ne (by decide) (k_ne (by decide) (k_ne (by decide) (k_ne (by decide) (k_ne (by decide) (k_ne (by decide) e11)))))))))))))))))))))))))))))) e16 (k_ne (by decide) (k_ne (by decide) (k_ne (by decide) (k_ne (by decide) (k_ne (by decide) (k_ne (by decide) (k_ne (by decide) (k_ne (by decide) (k_ne (by decide) (k_ne (by decide) (k_ne (by decide) (k_ne (by decide) (k_ne (by decide) (k_ne (by decide) (k_ne (by decide) (k_ne (by decide) (k_ne (by decide) (k_ne (by decide) (k_ne (by decide) (k_ne (by decide) (k_ne (by decide) (k_ne (by decide) (k_ne (by decide) (k_ne (by decide) (k_ne (by decide) (k_ne (by decide) (k_ne (by decide) (k_set (k_ne (by decide) (k_ne (by decide) e9)))))))))))))))))))))))))))))) (k_ne (by decide) (k_ne (by decide) (k_ne (by decide) (k_ne (by decide) (k_ne (by decide) (k_ne (by decide) (k_ne (by decide) (k_ne (by decide) (k_ne (by decide) (k_ne (by decide) (k_ne (by decide) (k_ne (by decide) (k_ne (by decide) (k_ne (by decide) (k_ne (by decide) (k_ne (by decide) (k_ne (by decide) (k_ne (by decide) (k_ne (by decide) (k_ne (by decide) (k_ne (by decide) (k_ne (by decide) (k_ne (by decide) (k_ne (by decide) (k_ne (by decide) (k_ne (by decide) (k_ne (by decide) (k_ne (by decide) (k_ne (by decide) (k_ne (by decide) e13)))))))))))))))))))))))))))))) rfl e17 (k_ne (by decide) (k_ne (by decide) (k_ne (by decide) (k_ne (by decide) (k_ne (by decide) (k_ne (by decide) (k_ne (by decide) (k_ne (by decide) (k_ne (by decide) (k_ne (by decide) (k_ne (by decide) (k_ne (by decide) (k_ne (by decide) (k_ne (by decide) (k_ne (by decide) (k_ne (by decide) (k_ne (by decide) (k_ne (by decide) (k_ne (by decide) (k_ne (by decide) (k_ne (by decide) (k_ne (by decide) (k_ne (by decide) (k_ne (by decide) (k_ne (by decide) (k_ne (by decide) (k_ne (by decide) (k_ne (by decide) (k_ne (by decide) (k_ne (by decide) e12)))))))))))))))))))))))))))))) rfl e18 e19) (cwV 1 hts gX11_many_X0_howMany rfl rfl rfl (by decide +kernel) ⟨Nat.le_of_ble_eq_true rfl, Nat.le_of_ble_eq_true rfl⟩) rfl hl.1 (Nat.le_of_ble_eq_true rfl) dX11_many_41 ⟨Nat.le_of_ble_eq_true rfl, Nat.le_of_ble_eq_true rfl⟩ (fun H locs hP hD hS => ?_)
  have hP : va_P D vwCl [(h0, .inr (11, f0)), (h1, .inr (1, f1)), (h3, .inr (2, f2)), (h4, .inl (cI, 8192, .inl (upd (k_fill 0 8192 g0) 782 1))), (h7, .inr (0, f4)), (h2, .inr (6, ((((((((((((((((((((((((((((((f3.set 10 (.int 0)).set 11 (.int 0)).set 12 (.int 1)).set 11 (.int 0)).set 11 (.int 0)).set 11 (.int 0)).set 11 (.int 0)).set 11 (.int 0)).set 11 (.int 0)).set 11 (.int 0)).set 11 (.int 0)).set 11 (.int 0)).set 11 (.int 0)).set 11 (.int 0)).set 11 (.int 0)).set 11 (.int 0)).set 11 (.int 0)).set 11 (.int 0)).set 11 (.int 0)).set 11 (.int 0)).set 11 (.int 0)).set 11 (.int 0)).set 11 (.int 0)).set 11 (.int 0)).set 11 (.int 0)).set 11 (.int 0)).set 11 (.int 0)).set 11 (.int 0)).set 13 (.int 0)).set 13 (.int 1)))), (h6, .inl (cI, 48000, .inl (upd g2 0 0))), (h8, .inl (cI, 3000, .inl (upd g3 0 1))), (h9, .inl (cI, 3000, .inl (upd (upd g4 0 0) 0 0))), (h5, .inl (cI, 48000, .inl (upd g1 0 0))), (h10, .inl (cJ, 3000, .inr (.inl (vp_updL (vp_updL g5 0 1) 0 1)))), (h11, .inl (cJ, 3000, .inr (.inl (vp_updL g6 0 1))))] H := hP
  have hD : va_D A [(h0, .inr (11, f0)), (h1, .inr (1, f1)), (h3, .inr (2, f2)), (h4, .inl (cI, 8192, .inl (upd (k_fill 0 8192 g0) 782 1))), (h7, .inr (0, f4)), (h2, .inr (6, ((((((((((((((((((((((((((((((f3.set 10 (.int 0)).set 11 (.int 0)).set 12 (.int 1)).set 11 (.int 0)).set 11 (.int 0)).set 11 (.int 0)).set 11 (.int 0)).set 11 (.int 0)).set 11 (.int 0)).set 11 (.int 0)).set 11 (.int 0)).set 11 (.int 0)).set 11 (.int 0)).set 11 (.int 0)).set 11 (.int 0)).set 11 (.int 0)).set 11 (.int 0)).set 11 (.int 0)).set 11 (.int 0)).set 11 (.int 0)).set 11 (.int 0)).set 11 (.int 0)).set 11 (.int 0)).set 11 (.int 0)).set 11 (.int 0)).set 11 (.int 0)).set 11 (.int 0)).set 11 (.int 0)).set 13 (.int 0)).set 13 (.int 1)))), (h6, .inl (cI, 48000, .inl (upd g2 0 0))), (h8, .inl (cI, 3000, .inl (upd g3 0 1))), (h9, .inl (cI, 3000, .inl (upd (upd g4 0 0) 0 0))), (h5, .inl (cI, 48000, .inl (upd g1 0 0))), (h10, .inl (cJ, 3000, .inr (.inl (vp_updL (vp_updL g5 0 1) 0 1)))), (h11, .inl (cJ, 3000, .inr (.inl (vp_updL g6 0 1))))] := hD
  refine lv_goto (tgt := 49) hx hb dX11_many_44 (by decide) ?_
  have hP := hP.sub (ws' := [(h0, .inr (11, f0)), (h1, .inr (1, f1)), (h3, .inr (2, f2)), (h2, .inr (6, ((((((((((((((((((((((((((((((f3.set 10 (.int 0)).set 11 (.int 0)).set 12 (.int 1)).set 11 (.int 0)).set 11 (.int 0)).set 11 (.int 0)).set 11 (.int 0)).set 11 (.int 0)).set 11 (.int 0)).set 11 (.int 0)).set 11 (.int 0)).set 11 (.int 0)).set 11 (.int 0)).set 11 (.int 0)).set 11 (.int 0)).set 11 (.int 0)).set 11 (.int 0)).set 11 (.int 0)).set 11 (.int 0)).set 11 (.int 0)).set 11 (.int 0)).set 11 (.int 0)).set 11 (.int 0)).set 11 (.int 0)).set 11 (.int 0)).set 11 (.int 0)).set 11 (.int 0)).set 11 (.int 0)).set 13 (.int 0)).set 13 (.int 1)))), (h4, .inl (cI, 8192, .inl (upd (k_fill 0 8192 g0) 782 1))), (h5, .inl (cI, 48000, .inl (upd g1 0 0))), (h6, .inl (cI, 48000, .inl (upd g2 0 0))), (h7, .inr (0, f4)), (h8, .inl (cI, 3000, .inl (upd g3 0 1))), (h9, .inl (cI, 3000, .inl (upd (upd g4 0 0) 0 0))), (h10, .inl (cJ, 3000, .inr (.inl (vp_updL (vp_updL g5 0 1) 0 1)))), (h11, .inl (cJ, 3000, .inr (.inl (vp_updL g6 0 1))))]) [0, 1, 2, 5, 3, 9, 6, 4, 7, 8, 10, 11] rfl
  have hD := hD.sub (ws' := [(h0, .inr (11, f0)), (h1, .inr (1, f1)), (h3, .inr (2, f2)), (h2, .inr (6, ((((((((((((((((((((((((((((((f3.set 10 (.int 0)).set 11 (.int 0)).set 12 (.int 1)).set 11 (.int 0)).set 11 (.int 0)).set 11 (.int 0)).set 11 (.int 0)).set 11 (.int 0)).set 11 (.int 0)).set 11 (.int 0)).set 11 (.int 0)).set 11 (.int 0)).set 11 (.int 0)).set 11 (.int 0)).set 11 (.int 0)).set 11 (.int 0)).set 11 (.int 0)).set 11 (.int 0)).set 11 (.int 0)).set 11 (.int 0)).set 11 (.int 0)).set 11 (.int 0)).set 11 (.int 0)).set 11 (.int 0)).set 11 (.int 0)).set 11 (.int 0)).set 11 (.int 0)).set 11 (.int 0)).set 13 (.int 0)).set 13 (.int 1)))), (h4, .inl (cI, 8192, .inl (upd (k_fill 0 8192 g0) 782 1))), (h5, .inl (cI, 48000, .inl (upd g1 0 0))), (h6, .inl (cI, 48000, .inl (upd g2 0 0))), (h7, .inr (0, f4)), (h8, .inl (cI, 3000, .inl (upd g3 0 1))), (h9, .inl (cI, 3000, .inl (upd (upd g4 0 0) 0 0))), (h10, .inl (cJ, 3000, .inr (.inl (vp_updL (vp_updL g5 0 1) 0 1)))), (h11, .inl (cJ, 3000, .inr (.inl (vp_updL g6 0 1))))]) [0, 1, 2, 5, 3, 9, 6, 4, 7, 8, 10, 11] (by decide +kernel) rfl
  exact W.iret (v := 1) hx hb hr (fun t ht hW => ⟨⟨1, (), rfl, rfl, kB_mk ht hW hP hK hD⟩, hS.F ht⟩) hS.2.2 dX11_many_49
set_option maxHeartbeats 400000000 in
set_option maxRecDepth 100000 in
theorem c_X12_firstNews_0 (l : Launch) (E : kE) (D : va_G) (cI cJ cB cZ : ClassId) (h0 : Nat) (f0 : List Value) (h1 : Nat) (h2 : Nat) (g0 : Nat → Int32) (g1 : Nat → Int32) (e0 : f0[131]? = some (.int 1)) (e1 : f0[132]? = some (.ref h1)) (e2 : f0[126]? = some (.ref h2)) (e3 : g0 0 = 0) (e4 : g1 0 = 1) : kI l E D (kT cI cJ cB cZ) yX12_firstNews wsX12_firstNews ({ frames := 0, cells := 0, slots := 0, locals := 0 }) [.ref h0, .int 0] [(h0, .inr (12, f0)), (h2, .inl (cI, 48000, .inl g0)), (h1, .inl (cI, 3000, .inl g1))] (0) [(h0, .inr (12, f0)), (h2, .inl (cI, 48000, .inl g0)), (h1, .inl (cI, 3000, .inl g1))] 0 0 := by
  intro sz
  refine Met.ofW (cc := cX12_firstNews) (maxL := 6) (ret := (some .int)) (by decide) rfl ?_
  intro p e s m args below meth c s₁ B hml hv
  obtain ⟨rfl, hsz, hP, hK, hD0, hN, hX⟩ := hv
  have hx := B.exec
  have hb := B.bytes
  have hr := B.returns
  have hts := atoms_spec (ws := wsX12_firstNews) B.pre
  have hown : s.vm.findClass RX12 = some m.cls := findClass_of_methodNamed B.named
  have hlocks := B.notSynchronized
  have hin12 : ∀ w ∈ wsX120, w ∈ wsX12_firstNews := (fun w h => (List.mem_cons_of_mem _ (List.mem_append_right _ h)))
  subst hsz
  have hD := hD0.self (sz := s.heap.size)
  have hAE := k_AE hD0 hX
  generalize hAe : va_A [(h0, .inr (12, f0)), (h2, .inl (cI, 48000, .inl g0)), (h1, .inl (cI, 3000, .inl g1))] s.heap.size = A at hD hAE ⊢
  have hA : ∀ q : Nat, s.heap.size ≤ q → A q := fun q h => by rw [← hAe]; exact Or.inr h
  have hS : va_S A s.heap s.heap [] := va_S.rf
  have hP : va_P D vwCl [(h0, .inr (12, f0)), (h2, .inl (cI, 48000, .inl g0)), (h1, .inl (cI, 3000, .inl g1))] s.heap := hP
  have hl := lv_entry ([.ref h0, .int 0] : List Value) (n := 6) (Nat.le_of_ble_eq_true rfl)
  rw [lg_entry_eq]
  generalize (lg_sl ([.ref h0, .int 0]) ++ List.replicate (6 - (lg_sl ([.ref h0, .int 0])).length) Slot.unset).toArray = ls at hl ⊢
  have hl : lv_has ls 6 [(0, .ref h0), (1, .int 0)] := hl
  refine lv_iconst (v := 0) hx hb dX12_firstNews_0 (by decide) ?_
  refine lv_istore_n (lv' := [(2, .int 0), (0, .ref h0), (1, .int 0)]) hx hb dX12_firstNews_1 rfl hl (by decide) rfl (fun ls hl => ?_)
  refine lv_iconst (v := 0) hx hb dX12_firstNews_2 (by decide) ?_
  refine lv_istore_n (lv' := [(3, .int 0), (2, .int 0), (0, .ref h0), (1, .int 0)]) hx hb dX12_firstNews_3 rfl hl (by decide) rfl (fun ls hl => ?_)
  refine lv_iload_n hx hb dX12_firstNews_4 rfl (lv_at hl 0 rfl) ?_
  refine lv_aload_n hx hb dX12_firstNews_5 rfl (lv_at hl 2 rfl) ?_
  refine va_get (D := D) (ref := "IntegerHouseModel") (ci := 12) (v := .int 1) (C := RX12) (T := TX12) (N := 195) hx hb hts hin12 hown hK hP 0 rfl rfl 131 (by decide) (hts (.fieldLink RX12 960 "IntegerHouseModel" "letters" "I") (List.mem_cons_of_mem _ (List.mem_append_left _ (List.mem_of_getElem? (i := 0) rfl)))) (fun _ h9 => h9) e0 dX12_firstNews_6 ?_
  refine lv_icmp_ge (tgt := 79) hx hb dX12_firstNews_9 (by decide) (fun c9 => absurd c9 (by decide)) (fun _ => ?_)
  refine lv_aload_n hx hb dX12_firstNews_12 rfl (lv_at hl 2 rfl) ?_
  refine va_get (D := D) (ref := "IntegerHouseModel") (ci := 12) (v := .ref h1) (C := RX12) (T := TX12) (N := 195) hx hb hts hin12 hown hK hP 0 rfl rfl 132 (by decide) (hts (.fieldLink RX12 334 "IntegerHouseModel" "takes" "[I") (List.mem_cons_of_mem _ (List.mem_append_left _ (List.mem_of_getElem? (i := 1) rfl)))) (fun _ h9 => h9) e1 dX12_firstNews_13 ?_
  refine lv_aload_n hx hb dX12_firstNews_16 rfl (lv_at hl 2 rfl) ?_
  refine va_get (D := D) (ref := "IntegerHouseModel") (ci := 12) (v := .ref h2) (C := RX12) (T := TX12) (N := 195) hx hb hts hin12 hown hK hP 0 rfl rfl 126 (by decide) (hts (.fieldLink RX12 321 "IntegerHouseModel" "behind" "[I") (List.mem_cons_of_mem _ (List.mem_append_left _ (List.mem_of_getElem? (i := 2) rfl)))) (fun _ h9 => h9) e2 dX12_firstNews_17 ?_
  refine lv_bipush (v := 16) hx hb dX12_firstNews_20 (by decide) ?_
  refine lv_iload_n hx hb dX12_firstNews_22 rfl (lv_at hl 3 rfl) ?_
  refine lv_imul hx hb dX12_firstNews_23 ?_
  refine k_topi (y := 0) (by decide) ?_
  refine lv_iload_n hx hb dX12_firstNews_24 rfl (lv_at hl 0 rfl) ?_
  refine lv_iadd hx hb dX12_firstNews_25 ?_
  refine k_topi (y := 0) (by decide) ?_
  refine va_iald hx hb hK hP 1 0 rfl rfl (k_in (by decide)) dX12_firstNews_26 ?_
  refine k_topi (y := 0) e3 ?_
  refine va_iald hx hb hK hP 2 0 rfl rfl (k_in (by decide)) dX12_firstNews_27 ?_
  refine k_topi (y := 1) e4 ?_
  refine lv_istore (lv' := [(4, .int 1), (3, .int 0), (2, .int 0), (0, .ref h0), (1, .int 0)]) hx hb dX12_firstNews_28 hl (by decide) rfl (fun ls hl => ?_)
  refine lv_iconst (v := 0) hx hb dX12_firstNews_30 (by decide) ?_
  refine lv_istore (lv' := [(5, .int 0), (4, .int 1), (3, .int 0), (2, .int 0), (0, .ref h0), (1, .int 0)]) hx hb dX12_firstNews_31 hl (by decide) rfl (fun ls hl => ?_)
  refine lv_iload hx hb dX12_firstNews_33 (lv_at hl 0 rfl) ?_
  refine lv_aload_n hx hb dX12_firstNews_35 rfl (lv_at hl 4 rfl) ?_
  refine va_get (D := D) (ref := "IntegerHouseModel") (ci := 12) (v := .int 1) (C := RX12) (T := TX12) (N := 195) hx hb hts hin12 hown hK hP 0 rfl rfl 131 (by decide) (hts (.fieldLink RX12 960 "IntegerHouseModel" "letters" "I") (List.mem_cons_of_mem _ (List.mem_append_left _ (List.mem_of_getElem? (i := 0) rfl)))) (fun _ h9 => h9) e0 dX12_firstNews_36 ?_
  refine lv_icmp_ge (tgt := 73) hx hb dX12_firstNews_39 (by decide) (fun c9 => absurd c9 (by decide)) (fun _ => ?_)
  refine lv_iload_n hx hb dX12_firstNews_42 rfl (lv_at hl 3 rfl) ?_
  refine lv_iload hx hb dX12_firstNews_43 (lv_at hl 0 rfl) ?_
  refine lv_iload_n hx hb dX12_firstNews_45 rfl (lv_at hl 2 rfl) ?_
  refine lv_icmp_eq (tgt := 64) hx hb dX12_firstNews_46 (by decide) (fun _ => ?_) (fun c9 => absurd (by decide) c9)
  refine lv_iconst (v := 0) hx hb dX12_firstNews_64 (by decide) ?_
  refine lv_iadd hx hb dX12_firstNews_65 ?_
  refine k_topi (y := 0) (by decide) ?_
  refine lv_istore_n (lv' := [(2, .int 0), (5, .int 0), (4, .int 1), (3, .int 0), (0, .ref h0), (1, .int 0)]) hx hb dX12_firstNews_66 rfl hl (by decide) rfl (fun ls hl => ?_)
  refine lv_iinc (v := 1) (lv' := [(5, .int 1), (2, .int 0), (4, .int 1), (3, .int 0), (0, .ref h0), (1, .int 0)]) hx hb dX12_firstNews_67 hl (k := 1) rfl (by decide) (by decide) rfl (fun ls hl => ?_)
  refine lv_goto (tgt := 33) hx hb dX12_firstNews_70 (by decide) ?_
  refine lv_iload hx hb dX12_firstNews_33 (lv_at hl 0 rfl) ?_
  refine lv_aload_n hx hb dX12_firstNews_35 rfl (lv_at hl 4 rfl) ?_
  refine va_get (D := D) (ref := "IntegerHouseModel") (ci := 12) (v := .int 1) (C := RX12) (T := TX12) (N := 195) hx hb hts hin12 hown hK hP 0 rfl rfl 131 (by decide) (hts (.fieldLink RX12 960 "IntegerHouseModel" "letters" "I") (List.mem_cons_of_mem _ (List.mem_append_left _ (List.mem_of_getElem? (i := 0) rfl)))) (fun _ h9 => h9) e0 dX12_firstNews_36 ?_
  refine lv_icmp_ge (tgt := 73) hx hb dX12_firstNews_39 (by decide) (fun _ => ?_) (fun c9 => absurd (by decide) c9)
  refine lv_iinc (v := 1) (lv' := [(3, .int 1), (5, .int 1), (2, .int 0), (4, .int 1), (0, .ref h0), (1, .int 0)]) hx hb dX12_firstNews_73 hl (k := 3) rfl (by decide) (by decide) rfl (fun ls hl => ?_)
  refine lv_goto (tgt := 4) hx hb dX12_firstNews_76 (by decide) ?_
  refine lv_iload_n hx hb dX12_firstNews_4 rfl (lv_at hl 0 rfl) ?_
  refine lv_aload_n hx hb dX12_firstNews_5 rfl (lv_at hl 4 rfl) ?_
  refine va_get (D := D) (ref := "IntegerHouseModel") (ci := 12) (v := .int 1) (C := RX12) (T := TX12) (N := 195) hx hb hts hin12 hown hK hP 0 rfl rfl 131 (by decide) (hts (.fieldLink RX12 960 "IntegerHouseModel" "letters" "I") (List.mem_cons_of_mem _ (List.mem_append_left _ (List.mem_of_getElem? (i := 0) rfl)))) (fun _ h9 => h9) e0 dX12_firstNews_6 ?_
  refine lv_icmp_ge (tgt := 79) hx hb dX12_firstNews_9 (by decide) (fun _ => ?_) (fun c9 => absurd (by decide) c9)
  refine lv_iload_n hx hb dX12_firstNews_79 rfl (lv_at hl 2 rfl) ?_
  exact W.iret (v := 0) hx hb hr (fun t ht hW => ⟨⟨0, (), rfl, rfl, kB_mk ht hW hP hK hD⟩, hS.F ht⟩) hS.2.2 dX12_firstNews_80
set_option maxHeartbeats 400000000 in
set_option maxRecDepth 100000 in
theorem c_X12_findCounts_0 (l : Launch) (E : kE) (D : va_G) (cI cJ cB cZ : ClassId) (h0 : Nat) (f0 : List Value) (h1 : Nat) (h2 : Nat) (h3 : Nat) (g0 : Nat → Int32) (g1 : Nat → Int32) (g2 : Nat → Int32) (e0 : f0[129]? = some (.int 1)) (e1 : f0[147]? = some (.ref h1)) (e2 : f0[131]? = some (.int 1)) (e3 : f0[132]? = some (.ref h2)) (e4 : f0[126]? = some (.ref h3)) (e5 : g0 0 = 0) (e6 : g1 0 = 1) : kV l E D (kT cI cJ cB cZ) yX12_findCounts wsX12_findCounts ({ frames := 1, cells := 0, slots := 0, locals := 25 }) [.ref h0] [(h0, .inr (12, f0)), (h3, .inl (cI, 48000, .inl g0)), (h2, .inl (cI, 3000, .inl g1)), (h1, .inl (cZ, 3000, .inl g2))] (fun _ : Unit => [(h0, .inr (12, f0)), (h3, .inl (cI, 48000, .inl g0)), (h2, .inl (cI, 3000, .inl g1)), (h1, .inl (cZ, 3000, .inl (upd g2 0 0)))]) 0 0 := by
  intro sz
  refine Met.ofW (cc := cX12_findCounts) (maxL := 4) (ret := none) (by decide) rfl ?_
  intro p e s m args below meth c s₁ B hml hv
  obtain ⟨rfl, hsz, hP, hK, hD0, hN, hX⟩ := hv
  have hx := B.exec
  have hb := B.bytes
  have hr := B.returns
  have hts := atoms_spec (ws := wsX12_findCounts) B.pre
  have hown : s.vm.findClass RX12 = some m.cls := findClass_of_methodNamed B.named
  have hlocks := B.notSynchronized
  have hin12 : ∀ w ∈ wsX120, w ∈ wsX12_findCounts := (fun w h => (List.mem_cons_of_mem _ (List.mem_append_right _ h)))
  subst hsz
  have hD := hD0.self (sz := s.heap.size)
  have hAE := k_AE hD0 hX
  generalize hAe : va_A [(h0, .inr (12, f0)), (h3, .inl (cI, 48000, .inl g0)), (h2, .inl (cI, 3000, .inl g1)), (h1, .inl (cZ, 3000, .inl g2))] s.heap.size = A at hD hAE ⊢
  have hA : ∀ q : Nat, s.heap.size ≤ q → A q := fun q h => by rw [← hAe]; exact Or.inr h
  have hS : va_S A s.heap s.heap [] := va_S.rf
  have hP : va_P D vwCl [(h0, .inr (12, f0)), (h3, .inl (cI, 48000, .inl g0)), (h2, .inl (cI, 3000, .inl g1)), (h1, .inl (cZ, 3000, .inl g2))] s.heap := hP
  have hl := lv_entry ([.ref h0] : List Value) (n := 4) (Nat.le_of_ble_eq_true rfl)
  rw [lg_entry_eq]
  generalize (lg_sl ([.ref h0]) ++ List.replicate (4 - (lg_sl ([.ref h0])).length) Slot.unset).toArray = ls at hl ⊢
  have hl : lv_has ls 4 [(0, .ref h0)] := hl
  refine lv_iconst (v := 0) hx hb dX12_findCounts_0 (by decide) ?_
  refine lv_istore_n (lv' := [(1, .int 0), (0, .ref h0)]) hx hb dX12_findCounts_1 rfl hl (by decide) rfl (fun ls hl => ?_)
  refine lv_iload_n hx hb dX12_findCounts_2 rfl (lv_at hl 0 rfl) ?_
  refine lv_aload_n hx hb dX12_findCounts_3 rfl (lv_at hl 1 rfl) ?_
  refine va_get (D := D) (ref := "IntegerHouseModel") (ci := 12) (v := .int 1) (C := RX12) (T := TX12) (N := 195) hx hb hts hin12 hown hK hP 0 rfl rfl 129 (by decide) (hts (.fieldLink RX12 957 "IntegerHouseModel" "places" "I") (List.mem_cons_of_mem _ (List.mem_append_left _ (List.mem_of_getElem? (i := 0) rfl)))) (fun _ h9 => h9) e0 dX12_findCounts_4 ?_
  refine lv_icmp_ge (tgt := 35) hx hb dX12_findCounts_7 (by decide) (fun c9 => absurd c9 (by decide)) (fun _ => ?_)
  refine lv_aload_n hx hb dX12_findCounts_10 rfl (lv_at hl 1 rfl) ?_
  refine va_get (D := D) (ref := "IntegerHouseModel") (ci := 12) (v := .ref h1) (C := RX12) (T := TX12) (N := 195) hx hb hts hin12 hown hK hP 0 rfl rfl 147 (by decide) (hts (.fieldLink RX12 370 "IntegerHouseModel" "counts" "[Z") (List.mem_cons_of_mem _ (List.mem_append_left _ (List.mem_of_getElem? (i := 1) rfl)))) (fun _ h9 => h9) e1 dX12_findCounts_11 ?_
  refine lv_iload_n hx hb dX12_findCounts_14 rfl (lv_at hl 0 rfl) ?_
  refine lv_aload_n hx hb dX12_findCounts_15 rfl (lv_at hl 1 rfl) ?_
  refine lv_iload_n hx hb dX12_findCounts_16 rfl (lv_at hl 0 rfl) ?_
  refine k_cVi (As := [.int 0]) (rest := [.int 0, .ref h1]) (wc := [(h0, .inr (12, f0)), (h3, .inl (cI, 48000, .inl g0)), (h2, .inl (cI, 3000, .inl g1))]) (wr := [(h1, .inl (cZ, 3000, .inl g2))]) (w1 := [(h0, .inr (12, f0)), (h3, .inl (cI, 48000, .inl g0)), (h2, .inl (cI, 3000, .inl g1))]) ⟨hx, hb, hml, hown, hts⟩ hN hX hAE hK hP hD hS hA [0, 1, 2] [3] (ci := 12) rfl rfl rfl rfl (by decide +kernel) (by decide +kernel) (by decide +kernel) (c_X12_firstNews_0 l E D cI cJ cB cZ h0 f0 h2 h3 g0 g1 e2 e3 e4 e5 e6) (cwV 1 hts gX12_findCounts_X12_firstNews rfl rfl rfl (by decide +kernel) ⟨Nat.le_of_ble_eq_true rfl, Nat.le_of_ble_eq_true rfl⟩) rfl hl.1 (Nat.le_of_ble_eq_true rfl) dX12_findCounts_17 ⟨Nat.le_of_ble_eq_true rfl, Nat.le_of_ble_eq_true rfl⟩ (fun H locs hP hD hS => ?_)
  have hP : va_P D vwCl [(h1, .inl (cZ, 3000, .inl g2)), (h0, .inr (12, f0)), (h3, .inl (cI, 48000, .inl g0)), (h2, .inl (cI, 3000, .inl g1))] H := hP
  have hD : va_D A [(h1, .inl (cZ, 3000, .inl g2)), (h0, .inr (12, f0)), (h3, .inl (cI, 48000, .inl g0)), (h2, .inl (cI, 3000, .inl g1))] := hD
  refine lv_if_le (tgt := 27) hx hb dX12_findCounts_20 (by decide) (fun _ => ?_) (fun c9 => absurd (by decide) c9)
  refine lv_iconst (v := 0) hx hb dX12_findCounts_27 (by decide) ?_
  refine va_zast hx hb hK hP hD hS 0 3 rfl rfl (k_in (by decide)) dX12_findCounts_28 (fun H locs hP hD hS => ?_)
  have hP : va_P D vwCl [(h1, .inl (cZ, 3000, .inl (upd g2 0 0))), (h0, .inr (12, f0)), (h3, .inl (cI, 48000, .inl g0)), (h2, .inl (cI, 3000, .inl g1))] H := hP
  have hD : va_D A [(h1, .inl (cZ, 3000, .inl (upd g2 0 0))), (h0, .inr (12, f0)), (h3, .inl (cI, 48000, .inl g0)), (h2, .inl (cI, 3000, .inl g1))] := hD
  refine lv_iinc (v := 1) (lv' := [(1, .int 1), (0, .ref h0)]) hx hb dX12_findCounts_29 hl (k := 0) rfl (by decide) (by decide) rfl (fun ls hl => ?_)
  refine lv_goto (tgt := 2) hx hb dX12_findCounts_32 (by decide) ?_
  refine lv_iload_n hx hb dX12_findCounts_2 rfl (lv_at hl 0 rfl) ?_
  refine lv_aload_n hx hb dX12_findCounts_3 rfl (lv_at hl 1 rfl) ?_
  refine va_get (D := D) (ref := "IntegerHouseModel") (ci := 12) (v := .int 1) (C := RX12) (T := TX12) (N := 195) hx hb hts hin12 hown hK hP 1 rfl rfl 129 (by decide) (hts (.fieldLink RX12 957 "IntegerHouseModel" "places" "I") (List.mem_cons_of_mem _ (List.mem_append_left _ (List.mem_of_getElem? (i := 0) rfl)))) (fun _ h9 => h9) e0 dX12_findCounts_4 ?_
  refine lv_icmp_ge (tgt := 35) hx hb dX12_findCounts_7 (by decide) (fun _ => ?_) (fun c9 => absurd (by decide) c9)
  refine lv_iconst (v := 1) hx hb dX12_findCounts_35 (by decide) ?_
  refine lv_istore_n (lv' := [(1, .int 1), (0, .ref h0)]) hx hb dX12_findCounts_36 rfl hl (by decide) rfl (fun ls hl => ?_)
  refine lv_iload_n hx hb dX12_findCounts_37 rfl (lv_at hl 0 rfl) ?_
  refine lv_if_eq (tgt := 116) hx hb dX12_findCounts_38 (by decide) (fun c9 => absurd c9 (by decide)) (fun _ => ?_)
  refine lv_iconst (v := 0) hx hb dX12_findCounts_41 (by decide) ?_
  refine lv_istore_n (lv' := [(1, .int 0), (0, .ref h0)]) hx hb dX12_findCounts_42 rfl hl (by decide) rfl (fun ls hl => ?_)
  refine lv_aload_n hx hb dX12_findCounts_43 rfl (lv_at hl 1 rfl) ?_
  refine va_get (D := D) (ref := "IntegerHouseModel") (ci := 12) (v := .int 1) (C := RX12) (T := TX12) (N := 195) hx hb hts hin12 hown hK hP 1 rfl rfl 129 (by decide) (hts (.fieldLink RX12 957 "IntegerHouseModel" "places" "I") (List.mem_cons_of_mem _ (List.mem_append_left _ (List.mem_of_getElem? (i := 0) rfl)))) (fun _ h9 => h9) e0 dX12_findCounts_44 ?_
  refine lv_iconst (v := 1) hx hb dX12_findCounts_47 (by decide) ?_
  refine lv_isub hx hb dX12_findCounts_48 ?_
  refine k_topi (y := 0) (by decide) ?_
  refine lv_istore_n (lv' := [(2, .int 0), (1, .int 0), (0, .ref h0)]) hx hb dX12_findCounts_49 rfl hl (by decide) rfl (fun ls hl => ?_)
  refine lv_iload_n hx hb dX12_findCounts_50 rfl (lv_at hl 0 rfl) ?_
  refine lv_if_lt (tgt := 113) hx hb dX12_findCounts_51 (by decide) (fun c9 => absurd c9 (by decide)) (fun _ => ?_)
  refine lv_iconst (v := 0) hx hb dX12_findCounts_54 (by decide) ?_
  refine lv_istore_n (lv' := [(3, .int 0), (2, .int 0), (1, .int 0), (0, .ref h0)]) hx hb dX12_findCounts_55 rfl hl (by decide) rfl (fun ls hl => ?_)
  refine lv_iload_n hx hb dX12_findCounts_56 rfl (lv_at hl 0 rfl) ?_
  refine lv_aload_n hx hb dX12_findCounts_57 rfl (lv_at hl 3 rfl) ?_
  refine va_get (D := D) (ref := "IntegerHouseModel") (ci := 12) (v := .int 1) (C := RX12) (T := TX12) (N := 195) hx hb hts hin12 hown hK hP 1 rfl rfl 131 (by decide) (hts (.fieldLink RX12 960 "IntegerHouseModel" "letters" "I") (List.mem_cons_of_mem _ (List.mem_append_left _ (List.mem_of_getElem? (i := 2) rfl)))) (fun _ h9 => h9) e2 dX12_findCounts_58 ?_
  refine lv_icmp_ge (tgt := 107) hx hb dX12_findCounts_61 (by decide) (fun c9 => absurd c9 (by decide)) (fun _ => ?_)
  refine lv_aload_n hx hb dX12_findCounts_64 rfl (lv_at hl 3 rfl) ?_
  refine va_get (D := D) (ref := "IntegerHouseModel") (ci := 12) (v := .ref h1) (C := RX12) (T := TX12) (N := 195) hx hb hts hin12 hown hK hP 1 rfl rfl 147 (by decide) (hts (.fieldLink RX12 370 "IntegerHouseModel" "counts" "[Z") (List.mem_cons_of_mem _ (List.mem_append_left _ (List.mem_of_getElem? (i := 1) rfl)))) (fun _ h9 => h9) e1 dX12_findCounts_65 ?_
  refine lv_iload_n hx hb dX12_findCounts_68 rfl (lv_at hl 1 rfl) ?_
  refine va_zald hx hb hK hP 0 3 rfl rfl (k_in (by decide)) dX12_findCounts_69 ?_
  refine k_topi (y := 0) rfl ?_
  refine lv_if_ne (tgt := 107) hx hb dX12_findCounts_70 (by decide) (fun c9 => absurd (by decide) c9) (fun _ => ?_)
  refine lv_aload_n hx hb dX12_findCounts_73 rfl (lv_at hl 3 rfl) ?_
  refine va_get (D := D) (ref := "IntegerHouseModel") (ci := 12) (v := .ref h1) (C := RX12) (T := TX12) (N := 195) hx hb hts hin12 hown hK hP 1 rfl rfl 147 (by decide) (hts (.fieldLink RX12 370 "IntegerHouseModel" "counts" "[Z") (List.mem_cons_of_mem _ (List.mem_append_left _ (List.mem_of_getElem? (i := 1) rfl)))) (fun _ h9 => h9) e1 dX12_findCounts_74 ?_
  refine lv_aload_n hx hb dX12_findCounts_77 rfl (lv_at hl 3 rfl) ?_
  refine va_get (D := D) (ref := "IntegerHouseModel") (ci := 12) (v := .ref h3) (C := RX12) (T := TX12) (N := 195) hx hb hts hin12 hown hK hP 1 rfl rfl 126 (by decide) (hts (.fieldLink RX12 321 "IntegerHouseModel" "behind" "[I") (List.mem_cons_of_mem _ (List.mem_append_left _ (List.mem_of_getElem? (i := 3) rfl)))) (fun _ h9 => h9) e4 dX12_findCounts_78 ?_
  refine lv_bipush (v := 16) hx hb dX12_findCounts_81 (by decide) ?_
  refine lv_iload_n hx hb dX12_findCounts_83 rfl (lv_at hl 1 rfl) ?_
  refine lv_imul hx hb dX12_findCounts_84 ?_
  refine k_topi (y := 0) (by decide) ?_
  refine lv_iload_n hx hb dX12_findCounts_85 rfl (lv_at hl 0 rfl) ?_
  refine lv_iadd hx hb dX12_findCounts_86 ?_
  refine k_topi (y := 0) (by decide) ?_
  refine va_iald hx hb hK hP 2 0 rfl rfl (k_in (by decide)) dX12_findCounts_87 ?_
  refine k_topi (y := 0) e5 ?_
  refine va_zald hx hb hK hP 0 3 rfl rfl (k_in (by decide)) dX12_findCounts_88 ?_
  refine k_topi (y := 0) rfl ?_
  refine lv_if_eq (tgt := 101) hx hb dX12_findCounts_89 (by decide) (fun _ => ?_) (fun c9 => absurd (by decide) c9)
  refine lv_iinc (v := 1) (lv' := [(3, .int 1), (2, .int 0), (1, .int 0), (0, .ref h0)]) hx hb dX12_findCounts_101 hl (k := 0) rfl (by decide) (by decide) rfl (fun ls hl => ?_)
  refine lv_goto (tgt := 56) hx hb dX12_findCounts_104 (by decide) ?_
  refine lv_iload_n hx hb dX12_findCounts_56 rfl (lv_at hl 0 rfl) ?_
  refine lv_aload_n hx hb dX12_findCounts_57 rfl (lv_at hl 3 rfl) ?_
  refine va_get (D := D) (ref := "IntegerHouseModel") (ci := 12) (v := .int 1) (C := RX12) (T := TX12) (N := 195) hx hb hts hin12 hown hK hP 1 rfl rfl 131 (by decide) (hts (.fieldLink RX12 960 "IntegerHouseModel" "letters" "I") (List.mem_cons_of_mem _ (List.mem_append_left _ (List.mem_of_getElem? (i := 2) rfl)))) (fun _ h9 => h9) e2 dX12_findCounts_58 ?_
  refine lv_icmp_ge (tgt := 107) hx hb dX12_findCounts_61 (by decide) (fun _ => ?_) (fun c9 => absurd (by decide) c9)
  refine lv_iinc (v := (-1)) (lv' := [(2, .int (-1)), (3, .int 1), (1, .int 0), (0, .ref h0)]) hx hb dX12_findCounts_107 hl (k := 1) rfl (by decide) (by decide) rfl (fun ls hl => ?_)
  refine lv_goto (tgt := 50) hx hb dX12_findCounts_110 (by decide) ?_
  refine lv_iload_n hx hb dX12_findCounts_50 rfl (lv_at hl 0 rfl) ?_
  refine lv_if_lt (tgt := 113) hx hb dX12_findCounts_51 (by decide) (fun _ => ?_) (fun c9 => absurd (by decide) c9)
  refine lv_goto (tgt := 37) hx hb dX12_findCounts_113 (by decide) ?_
  refine lv_iload_n hx hb dX12_findCounts_37 rfl (lv_at hl 2 rfl) ?_
  refine lv_if_eq (tgt := 116) hx hb dX12_findCounts_38 (by decide) (fun _ => ?_) (fun c9 => absurd (by decide) c9)
  have hP := hP.sub (ws' := [(h0, .inr (12, f0)), (h3, .inl (cI, 48000, .inl g0)), (h2, .inl (cI, 3000, .inl g1)), (h1, .inl (cZ, 3000, .inl (upd g2 0 0)))]) [1, 2, 3, 0] rfl
  have hD := hD.sub (ws' := [(h0, .inr (12, f0)), (h3, .inl (cI, 48000, .inl g0)), (h2, .inl (cI, 3000, .inl g1)), (h1, .inl (cZ, 3000, .inl (upd g2 0 0)))]) [1, 2, 3, 0] (by decide +kernel) rfl
  exact W.vret hx hb hr (fun t ht hW => ⟨⟨(), rfl, trivial, kB_mk ht hW hP hK hD⟩, hS.F ht⟩) hS.2.2 dX12_findCounts_116
set_option maxHeartbeats 400000000 in
set_option maxRecDepth 100000 in
theorem c_X12_many_0 (l : Launch) (E : kE) (D : va_G) (cI cJ cB cZ : ClassId) (h0 : Nat) (f0 : List Value) (h1 : Nat) (g0 : Nat → Int32) (h2 : Nat) (h3 : Nat) (h4 : Nat) (g1 : Nat → Int32) (g2 : Nat → Int32) (g3 : Nat → Int32) (h5 : Nat) (h6 : Nat) (h7 : Nat) (h8 : Nat) (g4 : Nat → Int32) (g5 : Nat → Int32) (g6 : Nat → Int32) (g7 : Nat → Int32) (h9 : Nat) (g8 : Nat → Int32) (h10 : Nat) (g9 : Nat → Int32) (h11 : Nat) (g10 : Nat → Int32) (h12 : Nat) (g11 : Nat → Int64) (e0 : f0[0]? = some (.int 0)) (e1 : f0[5]? = some (.int 0)) (e2 : f0[119]? = some (.int 0)) (e3 : f0[121]? = some (.ref h1)) (e4 : f0[33]? = some (.int 0)) (e5 : f0[32]? = some (.int 0)) (e6 : f0[131]? = some (.int 0)) (e7 : f0[127]? = some (.ref h2)) (e8 : f0[129]? = some (.int 0)) (e9 : f0[128]? = some (.ref h3)) (e10 : f0[126]? = some (.ref h4)) (e11 : f0[136]? = some (.ref h5)) (e12 : f0[132]? = some (.ref h6)) (e13 : f0[133]? = some (.ref h7)) (e14 : f0[135]? = some (.ref h8)) (e15 : f0[147]? = some (.ref h9)) (e16 : f0[145]? = some (.ref h10)) (e17 : f0[148]? = some (.ref h11)) (e18 : f0[146]? = some (.ref h12)) : kI l E D (kT cI cJ cB cZ) yX12_many wsX12_many ({ frames := 2, cells := 0, slots := 0, locals := 51 }) [.ref h0] [(h0, .inr (12, f0)), (h1, .inl (cZ, 26, .inl g0)), (h2, .inl (cI, 32768, .inl g1)), (h3, .inl (cI, 3000, .inl g2)), (h4, .inl (cI, 48000, .inl g3)), (h5, .inl (cI, 4096, .inl g4)), (h6, .inl (cI, 3000, .inl g5)), (h7, .inl (cI, 3000, .inl g6)), (h8, .inl (cI, 4096, .inl g7)), (h9, .inl (cZ, 3000, .inl g8)), (h10, .inl (cI, 3000, .inl g9)), (h11, .inl (cI, 3000, .inl g10)), (h12, .inl (cJ, 3000, .inr (.inl g11)))] (1) [(h0, .inr (12, (((((f0.set 0 (.int 0)).set 119 (.int 0)).set 131 (.int 1)).set 129 (.int 0)).set 129 (.int 1)))), (h1, .inl (cZ, 26, .inl (upd (upd (upd (upd (upd (upd (upd (upd (upd (upd (upd (upd (upd (upd (upd (upd (upd (upd (upd (upd (upd (upd (upd (upd (upd (upd g0 0 0) 1 0) 2 0) 3 0) 4 0) 5 0) 6 0) 7 0) 8 0) 9 0) 10 0) 11 0) 12 0) 13 0) 14 0) 15 0) 16 0) 17 0) 18 0) 19 0) 20 0) 21 0) 22 0) 23 0) 24 0) 25 0))), (h2, .inl (cI, 32768, .inl (upd (k_fill (-1) 32768 g1) 17 0))), (h3, .inl (cI, 3000, .inl (upd g2 0 (-1)))), (h4, .inl (cI, 48000, .inl (upd g3 0 0))), (h5, .inl (cI, 4096, .inl (upd (k_fill (-1) 4096 g4) 0 1))), (h6, .inl (cI, 3000, .inl (upd (upd g5 0 0) 0 1))), (h7, .inl (cI, 3000, .inl (upd (upd g6 0 0) 0 0))), (h8, .inl (cI, 4096, .inl (upd g7 0 0))), (h9, .inl (cZ, 3000, .inl (upd g8 0 0))), (h10, .inl (cI, 3000, .inl (upd g9 0 0))), (h11, .inl (cI, 3000, .inl (upd g10 0 1))), (h12, .inl (cJ, 3000, .inr (.inl (vp_updL g11 0 0))))] 0 0 := by
  intro sz
  refine Met.ofW (cc := cX12_many) (maxL := 6) (ret := (some .int)) (by decide) rfl ?_
  intro p e s m args below meth c s₁ B hml hv
  obtain ⟨rfl, hsz, hP, hK, hD0, hN, hX⟩ := hv
  have hx := B.exec
  have hb := B.bytes
  have hr := B.returns
  have hts := atoms_spec (ws := wsX12_many) B.pre
  have hown : s.vm.findClass RX12 = some m.cls := findClass_of_methodNamed B.named
  have hlocks := B.notSynchronized
  have hin12 : ∀ w ∈ wsX120, w ∈ wsX12_many := (fun w h => (List.mem_cons_of_mem _ (List.mem_append_right _ h)))
  subst hsz
  have hD := hD0.self (sz := s.heap.size)
  have hAE := k_AE hD0 hX
  generalize hAe : va_A [(h0, .inr (12, f0)), (h1, .inl (cZ, 26, .inl g0)), (h2, .inl (cI, 32768, .inl g1)), (h3, .inl (cI, 3000, .inl g2)), (h4, .inl (cI, 48000, .inl g3)), (h5, .inl (cI, 4096, .inl g4)), (h6, .inl (cI, 3000, .inl g5)), (h7, .inl (cI, 3000, .inl g6)), (h8, .inl (cI, 4096, .inl g7)), (h9, .inl (cZ, 3000, .inl g8)), (h10, .inl (cI, 3000, .inl g9)), (h11, .inl (cI, 3000, .inl g10)), (h12, .inl (cJ, 3000, .inr (.inl g11)))] s.heap.size = A at hD hAE ⊢
  have hA : ∀ q : Nat, s.heap.size ≤ q → A q := fun q h => by rw [← hAe]; exact Or.inr h
  have hS : va_S A s.heap s.heap [] := va_S.rf
  have hP : va_P D vwCl [(h0, .inr (12, f0)), (h1, .inl (cZ, 26, .inl g0)), (h2, .inl (cI, 32768, .inl g1)), (h3, .inl (cI, 3000, .inl g2)), (h4, .inl (cI, 48000, .inl g3)), (h5, .inl (cI, 4096, .inl g4)), (h6, .inl (cI, 3000, .inl g5)), (h7, .inl (cI, 3000, .inl g6)), (h8, .inl (cI, 4096, .inl g7)), (h9, .inl (cZ, 3000, .inl g8)), (h10, .inl (cI, 3000, .inl g9)), (h11, .inl (cI, 3000, .inl g10)), (h12, .inl (cJ, 3000, .inr (.inl g11)))] s.heap := hP
  have hl := lv_entry ([.ref h0] : List Value) (n := 6) (Nat.le_of_ble_eq_true rfl)
  rw [lg_entry_eq]
  generalize (lg_sl ([.ref h0]) ++ List.replicate (6 - (lg_sl ([.ref h0])).length) Slot.unset).toArray = ls at hl ⊢
  have hl : lv_has ls 6 [(0, .ref h0)] := hl
  refine lv_aload_n hx hb dX12_many_0 rfl (lv_at hl 0 rfl) ?_
  refine k_cVi (As := []) (rest := []) (wc := [(h0, .inr (12, f0))]) (wr := [(h1, .inl (cZ, 26, .inl g0)), (h2, .inl (cI, 32768, .inl g1)), (h3, .inl (cI, 3000, .inl g2)), (h4, .inl (cI, 48000, .inl g3)), (h5, .inl (cI, 4096, .inl g4)), (h6, .inl (cI, 3000, .inl g5)), (h7, .inl (cI, 3000, .inl g6)), (h8, .inl (cI, 4096, .inl g7)), (h9, .inl (cZ, 3000, .inl g8)), (h10, .inl (cI, 3000, .inl g9)), (h11, .inl (cI, 3000, .inl g10)), (h12, .inl (cJ, 3000, .inr (.inl g11)))]) (w1 := [(h0, .inr (12, (f0.set 0 (.int 0))))]) ⟨hx, hb, hml, hown, hts⟩ hN hX hAE hK hP hD hS hA [0] [1, 2, 3, 4, 5, 6, 7, 8, 9, 10, 11, 12] (ci := 12) rfl rfl rfl rfl (by decide +kernel) (by decide +kernel) (by decide +kernel) (c_X12_asks_0 l E D cI cJ cB cZ h0 f0 e0 e1) (cwV 0 hts gX12_many_X12_asks rfl rfl rfl (by decide +kernel) ⟨Nat.le_of_ble_eq_true rfl, Nat.le_of_ble_eq_true rfl⟩) rfl hl.1 (Nat.le_of_ble_eq_true rfl) dX12_many_1 ⟨Nat.le_of_ble_eq_true rfl, Nat.le_of_ble_eq_true rfl⟩ (fun H locs hP hD hS => ?_)
  have hP : va_P D vwCl [(h1, .inl (cZ, 26, .inl g0)), (h2, .inl (cI, 32768, .inl g1)), (h3, .inl (cI, 3000, .inl g2)), (h4, .inl (cI, 48000, .inl g3)), (h5, .inl (cI, 4096, .inl g4)), (h6, .inl (cI, 3000, .inl g5)), (h7, .inl (cI, 3000, .inl g6)), (h8, .inl (cI, 4096, .inl g7)), (h9, .inl (cZ, 3000, .inl g8)), (h10, .inl (cI, 3000, .inl g9)), (h11, .inl (cI, 3000, .inl g10)), (h12, .inl (cJ, 3000, .inr (.inl g11))), (h0, .inr (12, (f0.set 0 (.int 0))))] H := hP
  have hD : va_D A [(h1, .inl (cZ, 26, .inl g0)), (h2, .inl (cI, 32768, .inl g1)), (h3, .inl (cI, 3000, .inl g2)), (h4, .inl (cI, 48000, .inl g3)), (h5, .inl (cI, 4096, .inl g4)), (h6, .inl (cI, 3000, .inl g5)), (h7, .inl (cI, 3000, .inl g6)), (h8, .inl (cI, 4096, .inl g7)), (h9, .inl (cZ, 3000, .inl g8)), (h10, .inl (cI, 3000, .inl g9)), (h11, .inl (cI, 3000, .inl g10)), (h12, .inl (cJ, 3000, .inr (.inl g11))), (h0, .inr (12, (f0.set 0 (.int 0))))] := hD
  refine lv_if_ne (tgt := 10) hx hb dX12_many_4 (by decide) (fun _ => ?_) (fun c9 => absurd c9 (by decide))
  refine lv_aload_n hx hb dX12_many_10 rfl (lv_at hl 0 rfl) ?_
  refine k_cVv (As := []) (rest := []) (wc := [(h0, .inr (12, (f0.set 0 (.int 0)))), (h1, .inl (cZ, 26, .inl g0))]) (wr := [(h2, .inl (cI, 32768, .inl g1)), (h3, .inl (cI, 3000, .inl g2)), (h4, .inl (cI, 48000, .inl g3)), (h5, .inl (cI, 4096, .inl g4)), (h6, .inl (cI, 3000, .inl g5)), (h7, .inl (cI, 3000, .inl g6)), (h8, .inl (cI, 4096, .inl g7)), (h9, .inl (cZ, 3000, .inl g8)), (h10, .inl (cI, 3000, .inl g9)), (h11, .inl (cI, 3000, .inl g10)), (h12, .inl (cJ, 3000, .inr (.inl g11)))]) (w1 := (fun _ : Unit => [(h0, .inr (12, ((f0.set 0 (.int 0)).set 119 (.int 0)))), (h1, .inl (cZ, 26, .inl (upd (upd (upd (upd (upd (upd (upd (upd (upd (upd (upd (upd (upd (upd (upd (upd (upd (upd (upd (upd (upd (upd (upd (upd (upd (upd g0 0 0) 1 0) 2 0) 3 0) 4 0) 5 0) 6 0) 7 0) 8 0) 9 0) 10 0) 11 0) 12 0) 13 0) 14 0) 15 0) 16 0) 17 0) 18 0) 19 0) 20 0) 21 0) 22 0) 23 0) 24 0) 25 0)))])) ⟨hx, hb, hml, hown, hts⟩ hN hX hAE hK hP hD hS hA [12, 0] [1, 2, 3, 4, 5, 6, 7, 8, 9, 10, 11] (ci := 12) rfl rfl rfl rfl (by decide +kernel) (by decide +kernel) (by decide +kernel) (c_X12_putOn_0 l E D cI cJ cB cZ h0 ((f0.set 0 (.int 0))) h1 g0 (k_ne (by decide) e2) (k_ne (by decide) e3) (k_ne (by decide) e4)) (cwV 0 hts gX12_many_X12_putOn rfl rfl rfl (by decide +kernel) ⟨Nat.le_of_ble_eq_true rfl, Nat.le_of_ble_eq_true rfl⟩) rfl hl.1 (Nat.le_of_ble_eq_true rfl) dX12_many_11 ⟨Nat.le_of_ble_eq_true rfl, Nat.le_of_ble_eq_true rfl⟩ (fun _ H locs hP hD hS => ?_)
  have hP : va_P D vwCl [(h2, .inl (cI, 32768, .inl g1)), (h3, .inl (cI, 3000, .inl g2)), (h4, .inl (cI, 48000, .inl g3)), (h5, .inl (cI, 4096, .inl g4)), (h6, .inl (cI, 3000, .inl g5)), (h7, .inl (cI, 3000, .inl g6)), (h8, .inl (cI, 4096, .inl g7)), (h9, .inl (cZ, 3000, .inl g8)), (h10, .inl (cI, 3000, .inl g9)), (h11, .inl (cI, 3000, .inl g10)), (h12, .inl (cJ, 3000, .inr (.inl g11))), (h0, .inr (12, ((f0.set 0 (.int 0)).set 119 (.int 0)))), (h1, .inl (cZ, 26, .inl (upd (upd (upd (upd (upd (upd (upd (upd (upd (upd (upd (upd (upd (upd (upd (upd (upd (upd (upd (upd (upd (upd (upd (upd (upd (upd g0 0 0) 1 0) 2 0) 3 0) 4 0) 5 0) 6 0) 7 0) 8 0) 9 0) 10 0) 11 0) 12 0) 13 0) 14 0) 15 0) 16 0) 17 0) 18 0) 19 0) 20 0) 21 0) 22 0) 23 0) 24 0) 25 0)))] H := hP
  have hD : va_D A [(h2, .inl (cI, 32768, .inl g1)), (h3, .inl (cI, 3000, .inl g2)), (h4, .inl (cI, 48000, .inl g3)), (h5, .inl (cI, 4096, .inl g4)), (h6, .inl (cI, 3000, .inl g5)), (h7, .inl (cI, 3000, .inl g6)), (h8, .inl (cI, 4096, .inl g7)), (h9, .inl (cZ, 3000, .inl g8)), (h10, .inl (cI, 3000, .inl g9)), (h11, .inl (cI, 3000, .inl g10)), (h12, .inl (cJ, 3000, .inr (.inl g11))), (h0, .inr (12, ((f0.set 0 (.int 0)).set 119 (.int 0)))), (h1, .inl (cZ, 26, .inl (upd (upd (upd (upd (upd (upd (upd (upd (upd (upd (upd (upd (upd (upd (upd (upd (upd (upd (upd (upd (upd (upd (upd (upd (upd (upd g0 0 0) 1 0) 2 0) 3 0) 4 0) 5 0) 6 0) 7 0) 8 0) 9 0) 10 0) 11 0) 12 0) 13 0) 14 0) 15 0) 16 0) 17 0) 18 0) 19 0) 20 0) 21 0) 22 0) 23 0) 24 0) 25 0)))] := hD
  refine lv_aload_n hx hb dX12_many_14 rfl (lv_at hl 0 rfl) ?_
  refine k_cVi (As := []) (rest := []) (wc := [(h0, .inr (12, ((f0.set 0 (.int 0)).set 119 (.int 0)))), (h1, .inl (cZ, 26, .inl (upd (upd (upd (upd (upd (upd (upd (upd (upd (upd (upd (upd (upd (upd (upd (upd (upd (upd (upd (upd (upd (upd (upd (upd (upd (upd g0 0 0) 1 0) 2 0) 3 0) 4 0) 5 0) 6 0) 7 0) 8 0) 9 0) 10 0) 11 0) 12 0) 13 0) 14 0) 15 0) 16 0) 17 0) 18 0) 19 0) 20 0) 21 0) 22 0) 23 0) 24 0) 25 0))), (h2, .inl (cI, 32768, .inl g1)), (h3, .inl (cI, 3000, .inl g2)), (h4, .inl (cI, 48000, .inl g3))]) (wr := [(h5, .inl (cI, 4096, .inl g4)), (h6, .inl (cI, 3000, .inl g5)), (h7, .inl (cI, 3000, .inl g6)), (h8, .inl (cI, 4096, .inl g7)), (h9, .inl (cZ, 3000, .inl g8)), (h10, .inl (cI, 3000, .inl g9)), (h11, .inl (cI, 3000, .inl g10)), (h12, .inl (cJ, 3000, .inr (.inl g11)))]) (w1 := [(h0, .inr (12, (((((f0.set 0 (.int 0)).set 119 (.int 0)).set 131 (.int 1)).set 129 (.int 0)).set 129 (.int 1)))), (h1, .inl (cZ, 26, .inl (upd (upd (upd (upd (upd (upd (upd (upd (upd (upd (upd (upd (upd (upd (upd (upd (upd (upd (upd (upd (upd (upd (upd (upd (upd (upd g0 0 0) 1 0) 2 0) 3 0) 4 0) 5 0) 6 0) 7 0) 8 0) 9 0) 10 0) 11 0) 12 0) 13 0) 14 0) 15 0) 16 0) 17 0) 18 0) 19 0) 20 0) 21 0) 22 0) 23 0) 24 0) 25 0))), (h2, .inl (cI, 32768, .inl (upd (k_fill (-1) 32768 g1) 17 0))), (h3, .inl (cI, 3000, .inl (upd g2 0 (-1)))), (h4, .inl (cI, 48000, .inl (upd g3 0 0)))]) ⟨hx, hb, hml, hown, hts⟩ hN hX hAE hK hP hD hS hA [11, 12, 0, 1, 2] [3, 4, 5, 6, 7, 8, 9, 10] (ci := 12) rfl rfl rfl rfl (by decide +kernel) (by decide +kernel) (by decide +kernel) (c_X12_explore_0 l E D cI cJ cB cZ h0 (((f0.set 0 (.int 0)).set 119 (.int 0))) h1 ((upd (upd (upd (upd (upd (upd (upd (upd (upd (upd (upd (upd (upd (upd (upd (upd (upd (upd (upd (upd (upd (upd (upd (upd (upd (upd g0 0 0) 1 0) 2 0) 3 0) 4 0) 5 0) 6 0) 7 0) 8 0) 9 0) 10 0) 11 0) 12 0) 13 0) 14 0) 15 0) 16 0) 17 0) 18 0) 19 0) 20 0) 21 0) 22 0) 23 0) 24 0) 25 0)) h2 g1 h3 g2 h4 g3 (k_set (k_ne (by decide) e2)) (k_ne (by decide) (k_ne (by decide) e3)) rfl rfl rfl rfl rfl rfl rfl rfl rfl rfl rfl rfl rfl rfl rfl rfl rfl rfl rfl rfl rfl rfl rfl rfl rfl (k_ne (by decide) (k_ne (by decide) e5)) (k_ne (by decide) (k_ne (by decide) e6)) (k_ne (by decide) (k_ne (by decide) e7)) (k_ne (by decide) (k_ne (by decide) e8)) (k_ne (by decide) (k_ne (by decide) e9)) (k_ne (by decide) (k_ne (by decide) e10))) (cwV 0 hts gX12_many_X12_explore rfl rfl rfl (by decide +kernel) ⟨Nat.le_of_ble_eq_true rfl, Nat.le_of_ble_eq_true rfl⟩) rfl hl.1 (Nat.le_of_ble_eq_true rfl) dX12_many_15 ⟨Nat.le_of_ble_eq_true rfl, Nat.le_of_ble_eq_true rfl⟩ (fun H locs hP hD hS => ?_)
  have hP : va_P D vwCl [(h5, .inl (cI, 4096, .inl g4)), (h6, .inl (cI, 3000, .inl g5)), (h7, .inl (cI, 3000, .inl g6)), (h8, .inl (cI, 4096, .inl g7)), (h9, .inl (cZ, 3000, .inl g8)), (h10, .inl (cI, 3000, .inl g9)), (h11, .inl (cI, 3000, .inl g10)), (h12, .inl (cJ, 3000, .inr (.inl g11))), (h0, .inr (12, (((((f0.set 0 (.int 0)).set 119 (.int 0)).set 131 (.int 1)).set 129 (.int 0)).set 129 (.int 1)))), (h1, .inl (cZ, 26, .inl (upd (upd (upd (upd (upd (upd (upd (upd (upd (upd (upd (upd (upd (upd (upd (upd (upd (upd (upd (upd (upd (upd (upd (upd (upd (upd g0 0 0) 1 0) 2 0) 3 0) 4 0) 5 0) 6 0) 7 0) 8 0) 9 0) 10 0) 11 0) 12 0) 13 0) 14 0) 15 0) 16 0) 17 0) 18 0) 19 0) 20 0) 21 0) 22 0) 23 0) 24 0) 25 0))), (h2, .inl (cI, 32768, .inl (upd (k_fill (-1) 32768 g1) 17 0))), (h3, .inl (cI, 3000, .inl (upd g2 0 (-1)))), (h4, .inl (cI, 48000, .inl (upd g3 0 0)))] H := hP
  have hD : va_D A [(h5, .inl (cI, 4096, .inl g4)), (h6, .inl (cI, 3000, .inl g5)), (h7, .inl (cI, 3000, .inl g6)), (h8, .inl (cI, 4096, .inl g7)), (h9, .inl (cZ, 3000, .inl g8)), (h10, .inl (cI, 3000, .inl g9)), (h11, .inl (cI, 3000, .inl g10)), (h12, .inl (cJ, 3000, .inr (.inl g11))), (h0, .inr (12, (((((f0.set 0 (.int 0)).set 119 (.int 0)).set 131 (.int 1)).set 129 (.int 0)).set 129 (.int 1)))), (h1, .inl (cZ, 26, .inl (upd (upd (upd (upd (upd (upd (upd (upd (upd (upd (upd (upd (upd (upd (upd (upd (upd (upd (upd (upd (upd (upd (upd (upd (upd (upd g0 0 0) 1 0) 2 0) 3 0) 4 0) 5 0) 6 0) 7 0) 8 0) 9 0) 10 0) 11 0) 12 0) 13 0) 14 0) 15 0) 16 0) 17 0) 18 0) 19 0) 20 0) 21 0) 22 0) 23 0) 24 0) 25 0))), (h2, .inl (cI, 32768, .inl (upd (k_fill (-1) 32768 g1) 17 0))), (h3, .inl (cI, 3000, .inl (upd g2 0 (-1)))), (h4, .inl (cI, 48000, .inl (upd g3 0 0)))] := hD
  refine lv_if_ne (tgt := 24) hx hb dX12_many_18 (by decide) (fun _ => ?_) (fun c9 => absurd c9 (by decide))
  refine lv_aload_n hx hb dX12_many_24 rfl (lv_at hl 0 rfl) ?_
  refine lv_iconst (v := 0) hx hb dX12_many_25 (by decide) ?_
  refine lv_iconst (v := 0) hx hb dX12_many_26 (by decide) ?_
  refine lv_iconst (v := (-1)) hx hb dX12_many_27 (by decide) ?_
  refine k_cVv (As := [.int 0, .int 0, .int (-1)]) (rest := []) (wc := [(h0, .inr (12, (((((f0.set 0 (.int 0)).set 119 (.int 0)).set 131 (.int 1)).set 129 (.int 0)).set 129 (.int 1)))), (h5, .inl (cI, 4096, .inl g4)), (h6, .inl (cI, 3000, .inl g5)), (h7, .inl (cI, 3000, .inl g6)), (h1, .inl (cZ, 26, .inl (upd (upd (upd (upd (upd (upd (upd (upd (upd (upd (upd (upd (upd (upd (upd (upd (upd (upd (upd (upd (upd (upd (upd (upd (upd (upd g0 0 0) 1 0) 2 0) 3 0) 4 0) 5 0) 6 0) 7 0) 8 0) 9 0) 10 0) 11 0) 12 0) 13 0) 14 0) 15 0) 16 0) 17 0) 18 0) 19 0) 20 0) 21 0) 22 0) 23 0) 24 0) 25 0))), (h8, .inl (cI, 4096, .inl g7))]) (wr := [(h9, .inl (cZ, 3000, .inl g8)), (h10, .inl (cI, 3000, .inl g9)), (h11, .inl (cI, 3000, .inl g10)), (h12, .inl (cJ, 3000, .inr (.inl g11))), (h2, .inl (cI, 32768, .inl (upd (k_fill (-1) 32768 g1) 17 0))), (h3, .inl (cI, 3000, .inl (upd g2 0 (-1)))), (h4, .inl (cI, 48000, .inl (upd g3 0 0)))]) (w1 := (fun _ : Unit => [(h0, .inr (12, (((((f0.set 0 (.int 0)).set 119 (.int 0)).set 131 (.int 1)).set 129 (.int 0)).set 129 (.int 1)))), (h5, .inl (cI, 4096, .inl (upd (k_fill (-1) 4096 g4) 0 1))), (h6, .inl (cI, 3000, .inl (upd (upd g5 0 0) 0 1))), (h7, .inl (cI, 3000, .inl (upd (upd g6 0 0) 0 0))), (h1, .inl (cZ, 26, .inl (upd (upd (upd (upd (upd (upd (upd (upd (upd (upd (upd (upd (upd (upd (upd (upd (upd (upd (upd (upd (upd (upd (upd (upd (upd (upd g0 0 0) 1 0) 2 0) 3 0) 4 0) 5 0) 6 0) 7 0) 8 0) 9 0) 10 0) 11 0) 12 0) 13 0) 14 0) 15 0) 16 0) 17 0) 18 0) 19 0) 20 0) 21 0) 22 0) 23 0) 24 0) 25 0))), (h8, .inl (cI, 4096, .inl (upd g7 0 0)))])) ⟨hx, hb, hml, hown, hts⟩ hN hX hAE hK hP hD hS hA [8, 0, 1, 2, 9, 3] [4, 5, 6, 7, 10, 11, 12] (ci := 12) rfl rfl rfl rfl (by decide +kernel) (by decide +kernel) (by decide +kernel) (c_X12_judge_0 l E D cI cJ cB cZ h0 ((((((f0.set 0 (.int 0)).set 119 (.int 0)).set 131 (.int 1)).set 129 (.int 0)).set 129 (.int 1))) h5 g4 h6 g5 h7 g6 h1 ((upd (upd (upd (upd (upd (upd (upd (upd (upd (upd (upd (upd (upd (upd (upd (upd (upd (upd (upd (upd (upd (upd (upd (upd (upd (upd g0 0 0) 1 0) 2 0) 3 0) 4 0) 5 0) 6 0) 7 0) 8 0) 9 0) 10 0) 11 0) 12 0) 13 0) 14 0) 15 0) 16 0) 17 0) 18 0) 19 0) 20 0) 21 0) 22 0) 23 0) 24 0) 25 0)) h8 g7 (k_ne (by decide) (k_ne (by decide) (k_ne (by decide) (k_ne (by decide) (k_ne (by decide) e11))))) (k_set (k_set (k_ne (by decide) (k_ne (by decide) (k_ne (by decide) e8))))) (k_ne (by decide) (k_ne (by decide) (k_ne (by decide) (k_ne (by decide) (k_ne (by decide) e12))))) (k_ne (by decide) (k_ne (by decide) (k_ne (by decide) (k_ne (by decide) (k_ne (by decide) e13))))) (k_ne (by decide) (k_ne (by decide) (k_set (k_ne (by decide) (k_ne (by decide) e6))))) (k_ne (by decide) (k_ne (by decide) (k_ne (by decide) (k_set (k_ne (by decide) e2))))) (k_ne (by decide) (k_ne (by decide) (k_ne (by decide) (k_ne (by decide) (k_ne (by decide) e3))))) rfl rfl rfl rfl rfl rfl rfl rfl rfl rfl rfl rfl rfl rfl rfl rfl rfl rfl rfl rfl rfl rfl rfl rfl rfl (k_ne (by decide) (k_ne (by decide) (k_ne (by decide) (k_ne (by decide) (k_ne (by decide) e14))))) (k_ne (by decide) (k_ne (by decide) (k_ne (by decide) (k_ne (by decide) (k_ne (by decide) e4)))))) (cwV 3 hts gX12_many_X12_judge rfl rfl rfl (by decide +kernel) ⟨Nat.le_of_ble_eq_true rfl, Nat.le_of_ble_eq_true rfl⟩) rfl hl.1 (Nat.le_of_ble_eq_true rfl) dX12_many_28 ⟨Nat.le_of_ble_eq_true rfl, Nat.le_of_ble_eq_true rfl⟩ (fun _ H locs hP hD hS => ?_)
  have hP : va_P D vwCl [(h9, .inl (cZ, 3000, .inl g8)), (h10, .inl (cI, 3000, .inl g9)), (h11, .inl (cI, 3000, .inl g10)), (h12, .inl (cJ, 3000, .inr (.inl g11))), (h2, .inl (cI, 32768, .inl (upd (k_fill (-1) 32768 g1) 17 0))), (h3, .inl (cI, 3000, .inl (upd g2 0 (-1)))), (h4, .inl (cI, 48000, .inl (upd g3 0 0))), (h0, .inr (12, (((((f0.set 0 (.int 0)).set 119 (.int 0)).set 131 (.int 1)).set 129 (.int 0)).set 129 (.int 1)))), (h5, .inl (cI, 4096, .inl (upd (k_fill (-1) 4096 g4) 0 1))), (h6, .inl (cI, 3000, .inl (upd (upd g5 0 0) 0 1))), (h7, .inl (cI, 3000, .inl (upd (upd g6 0 0) 0 0))), (h1, .inl (cZ, 26, .inl (upd (upd (upd (upd (upd (upd (upd (upd (upd (upd (upd (upd (upd (upd (upd (upd (upd (upd (upd (upd (upd (upd (upd (upd (upd (upd g0 0 0) 1 0) 2 0) 3 0) 4 0) 5 0) 6 0) 7 0) 8 0) 9 0) 10 0) 11 0) 12 0) 13 0) 14 0) 15 0) 16 0) 17 0) 18 0) 19 0) 20 0) 21 0) 22 0) 23 0) 24 0) 25 0))), (h8, .inl (cI, 4096, .inl (upd g7 0 0)))] H := hP
  have hD : va_D A [(h9, .inl (cZ, 3000, .inl g8)), (h10, .inl (cI, 3000, .inl g9)), (h11, .inl (cI, 3000, .inl g10)), (h12, .inl (cJ, 3000, .inr (.inl g11))), (h2, .inl (cI, 32768, .inl (upd (k_fill (-1) 32768 g1) 17 0))), (h3, .inl (cI, 3000, .inl (upd g2 0 (-1)))), (h4, .inl (cI, 48000, .inl (upd g3 0 0))), (h0, .inr (12, (((((f0.set 0 (.int 0)).set 119 (.int 0)).set 131 (.int 1)).set 129 (.int 0)).set 129 (.int 1)))), (h5, .inl (cI, 4096, .inl (upd (k_fill (-1) 4096 g4) 0 1))), (h6, .inl (cI, 3000, .inl (upd (upd g5 0 0) 0 1))), (h7, .inl (cI, 3000, .inl (upd (upd g6 0 0) 0 0))), (h1, .inl (cZ, 26, .inl (upd (upd (upd (upd (upd (upd (upd (upd (upd (upd (upd (upd (upd (upd (upd (upd (upd (upd (upd (upd (upd (upd (upd (upd (upd (upd g0 0 0) 1 0) 2 0) 3 0) 4 0) 5 0) 6 0) 7 0) 8 0) 9 0) 10 0) 11 0) 12 0) 13 0) 14 0) 15 0) 16 0) 17 0) 18 0) 19 0) 20 0) 21 0) 22 0) 23 0) 24 0) 25 0))), (h8, .inl (cI, 4096, .inl (upd g7 0 0)))] := hD
  refine lv_aload_n hx hb dX12_many_31 rfl (lv_at hl 0 rfl) ?_
  refine k_cVv (As := []) (rest := []) (wc := [(h0, .inr (12, (((((f0.set 0 (.int 0)).set 119 (.int 0)).set 131 (.int 1)).set 129 (.int 0)).set 129 (.int 1)))), (h4, .inl (cI, 48000, .inl (upd g3 0 0))), (h6, .inl (cI, 3000, .inl (upd (upd g5 0 0) 0 1))), (h9, .inl (cZ, 3000, .inl g8))]) (wr := [(h10, .inl (cI, 3000, .inl g9)), (h11, .inl (cI, 3000, .inl g10)), (h12, .inl (cJ, 3000, .inr (.inl g11))), (h2, .inl (cI, 32768, .inl (upd (k_fill (-1) 32768 g1) 17 0))), (h3, .inl (cI, 3000, .inl (upd g2 0 (-1)))), (h5, .inl (cI, 4096, .inl (upd (k_fill (-1) 4096 g4) 0 1))), (h7, .inl (cI, 3000, .inl (upd (upd g6 0 0) 0 0))), (h1, .inl (cZ, 26, .inl (upd (upd (upd (upd (upd (upd (upd (upd (upd (upd (upd (upd (upd (upd (upd (upd (upd (upd (upd (upd (upd (upd (upd (upd (upd (upd g0 0 0) 1 0) 2 0) 3 0) 4 0) 5 0) 6 0) 7 0) 8 0) 9 0) 10 0) 11 0) 12 0) 13 0) 14 0) 15 0) 16 0) 17 0) 18 0) 19 0) 20 0) 21 0) 22 0) 23 0) 24 0) 25 0))), (h8, .inl (cI, 4096, .inl (upd g7 0 0)))]) (w1 := (fun _ : Unit => [(h0, .inr (12, (((((f0.set 0 (.int 0)).set 119 (.int 0)).set 131 (.int 1)).set 129 (.int 0)).set 129 (.int 1)))), (h4, .inl (cI, 48000, .inl (upd g3 0 0))), (h6, .inl (cI, 3000, .inl (upd (upd g5 0 0) 0 1))), (h9, .inl (cZ, 3000, .inl (upd g8 0 0)))])) ⟨hx, hb, hml, hown, hts⟩ hN hX hAE hK hP hD hS hA [7, 6, 9, 0] [1, 2, 3, 4, 5, 8, 10, 11, 12] (ci := 12) rfl rfl rfl rfl (by decide +kernel) (by decide +kernel) (by decide +kernel) (c_X12_findCounts_0 l E D cI cJ cB cZ h0 ((((((f0.set 0 (.int 0)).set 119 (.int 0)).set 131 (.int 1)).set 129 (.int 0)).set 129 (.int 1))) h9 h6 h4 ((upd g3 0 0)) ((upd (upd g5 0 0) 0 1)) g8 (k_set (k_set (k_ne (by decide) (k_ne (by decide) (k_ne (by decide) e8))))) (k_ne (by decide) (k_ne (by decide) (k_ne (by decide) (k_ne (by decide) (k_ne (by decide) e15))))) (k_ne (by decide) (k_ne (by decide) (k_set (k_ne (by decide) (k_ne (by decide) e6))))) (k_ne (by decide) (k_ne (by decide) (k_ne (by decide) (k_ne (by decide) (k_ne (by decide) e12))))) (k_ne (by decide) (k_ne (by decide) (k_ne (by decide) (k_ne (by decide) (k_ne (by decide) e10))))) rfl rfl) (cwV 0 hts gX12_many_X12_findCounts rfl rfl rfl (by decide +kernel) ⟨Nat.le_of_ble_eq_true rfl, Nat.le_of_ble_eq_true rfl⟩) rfl hl.1 (Nat.le_of_ble_eq_true rfl) dX12_many_32 ⟨Nat.le_of_ble_eq_true rfl, Nat.le_of_ble_eq_true rfl⟩ (fun _ H locs hP hD hS => ?_)
  have hP : va_P D vwCl [(h10, .inl (cI, 3000, .inl g9)), (h11, .inl (cI, 3000, .inl g10)), (h12, .inl (cJ, 3000, .inr (.inl g11))), (h2, .inl (cI, 32768, .inl (upd (k_fill (-1) 32768 g1) 17 0))), (h3, .inl (cI, 3000, .inl (upd g2 0 (-1)))), (h5, .inl (cI, 4096, .inl (upd (k_fill (-1) 4096 g4) 0 1))), (h7, .inl (cI, 3000, .inl (upd (upd g6 0 0) 0 0))), (h1, .inl (cZ, 26, .inl (upd (upd (upd (upd (upd (upd (upd (upd (upd (upd (upd (upd (upd (upd (upd (upd (upd (upd (upd (upd (upd (upd (upd (upd (upd (upd g0 0 0) 1 0) 2 0) 3 0) 4 0) 5 0) 6 0) 7 0) 8 0) 9 0) 10 0) 11 0) 12 0) 13 0) 14 0) 15 0) 16 0) 17 0) 18 0) 19 0) 20 0) 21 0) 22 0) 23 0) 24 0) 25 0))), (h8, .inl (cI, 4096, .inl (upd g7 0 0))), (h0, .inr (12, (((((f0.set 0 (.int 0)).set 119 (.int 0)).set 131 (.int 1)).set 129 (.int 0)).set 129 (.int 1)))), (h4, .inl (cI, 48000, .inl (upd g3 0 0))), (h6, .inl (cI, 3000, .inl (upd (upd g5 0 0) 0 1))), (h9, .inl (cZ, 3000, .inl (upd g8 0 0)))] H := hP
  have hD : va_D A [(h10, .inl (cI, 3000, .inl g9)), (h11, .inl (cI, 3000, .inl g10)), (h12, .inl (cJ, 3000, .inr (.inl g11))), (h2, .inl (cI, 32768, .inl (upd (k_fill (-1) 32768 g1) 17 0))), (h3, .inl (cI, 3000, .inl (upd g2 0 (-1)))), (h5, .inl (cI, 4096, .inl (upd (k_fill (-1) 4096 g4) 0 1))), (h7, .inl (cI, 3000, .inl (upd (upd g6 0 0) 0 0))), (h1, .inl (cZ, 26, .inl (upd (upd (upd (upd (upd (upd (upd (upd (upd (upd (upd (upd (upd (upd (upd (upd (upd (upd (upd (upd (upd (upd (upd (upd (upd (upd g0 0 0) 1 0) 2 0) 3 0) 4 0) 5 0) 6 0) 7 0) 8 0) 9 0) 10 0) 11 0) 12 0) 13 0) 14 0) 15 0) 16 0) 17 0) 18 0) 19 0) 20 0) 21 0) 22 0) 23 0) 24 0) 25 0))), (h8, .inl (cI, 4096, .inl (upd g7 0 0))), (h0, .inr (12, (((((f0.set 0 (.int 0)).set 119 (.int 0)).set 131 (.int 1)).set 129 (.int 0)).set 129 (.int 1)))), (h4, .inl (cI, 48000, .inl (upd g3 0 0))), (h6, .inl (cI, 3000, .inl (upd (upd g5 0 0) 0 1))), (h9, .inl (cZ, 3000, .inl (upd g8 0 0)))] := hD
  refine lv_iconst (v := 0) hx hb dX12_many_35 (by decide) ?_
  refine lv_istore_n (lv' := [(1, .int 0), (0, .ref h0)]) hx hb dX12_many_36 rfl hl (by decide) rfl (fun ls hl => ?_)
  refine lv_iconst (v := 0) hx hb dX12_many_37 (by decide) ?_
  refine lv_istore_n (lv' := [(2, .int 0), (1, .int 0), (0, .ref h0)]) hx hb dX12_many_38 rfl hl (by decide) rfl (fun ls hl => ?_)
  refine lv_iload_n hx hb dX12_many_39 rfl (lv_at hl 0 rfl) ?_
  refine lv_aload_n hx hb dX12_many_40 rfl (lv_at hl 2 rfl) ?_
  refine va_get (D := D) (ref := "IntegerHouseModel") (ci := 12) (v := .int 1) (C := RX12) (T := TX12) (N := 195) hx hb hts hin12 hown hK hP 9 rfl rfl 129 (by decide) (hts (.fieldLink RX12 957 "IntegerHouseModel" "places" "I") (List.mem_cons_of_mem _ (List.mem_append_left _ (List.mem_append_left _ (List.mem_of_getElem? (i := 0) rfl))))) (fun _ h9 => h9) (k_set (k_set (k_ne (by decide) (k_ne (by decide) (k_ne (by decide) e8))))) dX12_many_41 ?_
  refine lv_icmp_ge (tgt := 166) hx hb dX12_many_44 (by decide) (fun c9 => absurd c9 (by decide)) (fun _ => ?_)
  refine lv_aload_n hx hb dX12_many_47 rfl (lv_at hl 2 rfl) ?_
  refine va_get (D := D) (ref := "IntegerHouseModel") (ci := 12) (v := .ref h10) (C := RX12) (T := TX12) (N := 195) hx hb hts hin12 hown hK hP 9 rfl rfl 145 (by decide) (hts (.fieldLink RX12 364 "IntegerHouseModel" "left" "[I") (List.mem_cons_of_mem _ (List.mem_append_left _ (List.mem_append_left _ (List.mem_of_getElem? (i := 1) rfl))))) (fun _ h9 => h9) (k_ne (by decide) (k_ne (by decide) (k_ne (by decide) (k_ne (by decide) (k_ne (by decide) e16))))) dX12_many_48 ?_
  refine lv_iload_n hx hb dX12_many_51 rfl (lv_at hl 0 rfl) ?_
  refine lv_iconst (v := 0) hx hb dX12_many_52 (by decide) ?_
  refine va_iast hx hb hK hP hD hS 0 0 rfl rfl (k_in (by decide)) dX12_many_53 (fun H locs hP hD hS => ?_)
  have hP : va_P D vwCl [(h10, .inl (cI, 3000, .inl (upd g9 0 0))), (h11, .inl (cI, 3000, .inl g10)), (h12, .inl (cJ, 3000, .inr (.inl g11))), (h2, .inl (cI, 32768, .inl (upd (k_fill (-1) 32768 g1) 17 0))), (h3, .inl (cI, 3000, .inl (upd g2 0 (-1)))), (h5, .inl (cI, 4096, .inl (upd (k_fill (-1) 4096 g4) 0 1))), (h7, .inl (cI, 3000, .inl (upd (upd g6 0 0) 0 0))), (h1, .inl (cZ, 26, .inl (upd (upd (upd (upd (upd (upd (upd (upd (upd (upd (upd (upd (upd (upd (upd (upd (upd (upd (upd (upd (upd (upd (upd (upd (upd (upd g0 0 0) 1 0) 2 0) 3 0) 4 0) 5 0) 6 0) 7 0) 8 0) 9 0) 10 0) 11 0) 12 0) 13 0) 14 0) 15 0) 16 0) 17 0) 18 0) 19 0) 20 0) 21 0) 22 0) 23 0) 24 0) 25 0))), (h8, .inl (cI, 4096, .inl (upd g7 0 0))), (h0, .inr (12, (((((f0.set 0 (.int 0)).set 119 (.int 0)).set 131 (.int 1)).set 129 (.int 0)).set 129 (.int 1)))), (h4, .inl (cI, 48000, .inl (upd g3 0 0))), (h6, .inl (cI, 3000, .inl (upd (upd g5 0 0) 0 1))), (h9, .inl (cZ, 3000, .inl (upd g8 0 0)))] H := hP
  have hD : va_D A [(h10, .inl (cI, 3000, .inl (upd g9 0 0))), (h11, .inl (cI, 3000, .inl g10)), (h12, .inl (cJ, 3000, .inr (.inl g11))), (h2, .inl (cI, 32768, .inl (upd (k_fill (-1) 32768 g1) 17 0))), (h3, .inl (cI, 3000, .inl (upd g2 0 (-1)))), (h5, .inl (cI, 4096, .inl (upd (k_fill (-1) 4096 g4) 0 1))), (h7, .inl (cI, 3000, .inl (upd (upd g6 0 0) 0 0))), (h1, .inl (cZ, 26, .inl (upd (upd (upd (upd (upd (upd (upd (upd (upd (upd (upd (upd (upd (upd (upd (upd (upd (upd (upd (upd (upd (upd (upd (upd (upd (upd g0 0 0) 1 0) 2 0) 3 0) 4 0) 5 0) 6 0) 7 0) 8 0) 9 0) 10 0) 11 0) 12 0) 13 0) 14 0) 15 0) 16 0) 17 0) 18 0) 19 0) 20 0) 21 0) 22 0) 23 0) 24 0) 25 0))), (h8, .inl (cI, 4096, .inl (upd g7 0 0))), (h0, .inr (12, (((((f0.set 0 (.int 0)).set 119 (.int 0)).set 131 (.int 1)).set 129 (.int 0)).set 129 (.int 1)))), (h4, .inl (cI, 48000, .inl (upd g3 0 0))), (h6, .inl (cI, 3000, .inl (upd (upd g5 0 0) 0 1))), (h9, .inl (cZ, 3000, .inl (upd g8 0 0)))] := hD
  refine lv_iconst (v := 0) hx hb dX12_many_54 (by decide) ?_
  refine lv_istore_n (lv' := [(3, .int 0), (2, .int 0), (1, .int 0), (0, .ref h0)]) hx hb dX12_many_55 rfl hl (by decide) rfl (fun ls hl => ?_)
  refine lv_iload_n hx hb dX12_many_56 rfl (lv_at hl 0 rfl) ?_
  refine lv_aload_n hx hb dX12_many_57 rfl (lv_at hl 3 rfl) ?_
  refine va_get (D := D) (ref := "IntegerHouseModel") (ci := 12) (v := .int 1) (C := RX12) (T := TX12) (N := 195) hx hb hts hin12 hown hK hP 9 rfl rfl 131 (by decide) (hts (.fieldLink RX12 960 "IntegerHouseModel" "letters" "I") (List.mem_cons_of_mem _ (List.mem_append_left _ (List.mem_append_left _ (List.mem_of_getElem? (i := 2) rfl))))) (fun _ h9 => h9) (k_ne (by decide) (k_ne (by decide) (k_set (k_ne (by decide) (k_ne (by decide) e6))))) dX12_many_58 ?_
  refine lv_icmp_ge (tgt := 116) hx hb dX12_many_61 (by decide) (fun c9 => absurd c9 (by decide)) (fun _ => ?_)
  refine lv_aload_n hx hb dX12_many_64 rfl (lv_at hl 3 rfl) ?_
  refine va_get (D := D) (ref := "IntegerHouseModel") (ci := 12) (v := .ref h9) (C := RX12) (T := TX12) (N := 195) hx hb hts hin12 hown hK hP 9 rfl rfl 147 (by decide) (hts (.fieldLink RX12 370 "IntegerHouseModel" "counts" "[Z") (List.mem_cons_of_mem _ (List.mem_append_left _ (List.mem_append_left _ (List.mem_of_getElem? (i := 3) rfl))))) (fun _ h9 => h9) (k_ne (by decide) (k_ne (by decide) (k_ne (by decide) (k_ne (by decide) (k_ne (by decide) e15))))) dX12_many_65 ?_
  refine lv_iload_n hx hb dX12_many_68 rfl (lv_at hl 1 rfl) ?_
  refine va_zald hx hb hK hP 12 3 rfl rfl (k_in (by decide)) dX12_many_69 ?_
  refine k_topi (y := 0) rfl ?_
  refine lv_if_eq (tgt := 116) hx hb dX12_many_70 (by decide) (fun _ => ?_) (fun c9 => absurd (by decide) c9)
  refine lv_iload_n hx hb dX12_many_116 rfl (lv_at hl 2 rfl) ?_
  refine lv_aload_n hx hb dX12_many_117 rfl (lv_at hl 3 rfl) ?_
  refine va_get (D := D) (ref := "IntegerHouseModel") (ci := 12) (v := .ref h9) (C := RX12) (T := TX12) (N := 195) hx hb hts hin12 hown hK hP 9 rfl rfl 147 (by decide) (hts (.fieldLink RX12 370 "IntegerHouseModel" "counts" "[Z") (List.mem_cons_of_mem _ (List.mem_append_left _ (List.mem_append_left _ (List.mem_of_getElem? (i := 3) rfl))))) (fun _ h9 => h9) (k_ne (by decide) (k_ne (by decide) (k_ne (by decide) (k_ne (by decide) (k_ne (by decide) e15))))) dX12_many_118 ?_
  refine lv_iload_n hx hb dX12_many_121 rfl (lv_at hl 1 rfl) ?_
  refine va_zald hx hb hK hP 12 3 rfl rfl (k_in (by decide)) dX12_many_122 ?_
  refine k_topi (y := 0) rfl ?_
  refine lv_if_eq (tgt := 130) hx hb dX12_many_123 (by decide) (fun _ => ?_) (fun c9 => absurd (by decide) c9)
  refine lv_iconst (v := 0) hx hb dX12_many_130 (by decide) ?_
  refine lv_iadd hx hb dX12_many_131 ?_
  refine k_topi (y := 0) (by decide) ?_
  refine lv_istore_n (lv' := [(1, .int 0), (3, .int 0), (2, .int 0), (0, .ref h0)]) hx hb dX12_many_132 rfl hl (by decide) rfl (fun ls hl => ?_)
  refine lv_aload_n hx hb dX12_many_133 rfl (lv_at hl 3 rfl) ?_
  refine va_get (D := D) (ref := "IntegerHouseModel") (ci := 12) (v := .ref h11) (C := RX12) (T := TX12) (N := 195) hx hb hts hin12 hown hK hP 9 rfl rfl 148 (by decide) (hts (.fieldLink RX12 373 "IntegerHouseModel" "row" "[I") (List.mem_cons_of_mem _ (List.mem_append_left _ (List.mem_append_left _ (List.mem_of_getElem? (i := 5) rfl))))) (fun _ h9 => h9) (k_ne (by decide) (k_ne (by decide) (k_ne (by decide) (k_ne (by decide) (k_ne (by decide) e17))))) dX12_many_134 ?_
  refine lv_iload_n hx hb dX12_many_137 rfl (lv_at hl 2 rfl) ?_
  refine lv_aload_n hx hb dX12_many_138 rfl (lv_at hl 3 rfl) ?_
  refine va_get (D := D) (ref := "IntegerHouseModel") (ci := 12) (v := .ref h9) (C := RX12) (T := TX12) (N := 195) hx hb hts hin12 hown hK hP 9 rfl rfl 147 (by decide) (hts (.fieldLink RX12 370 "IntegerHouseModel" "counts" "[Z") (List.mem_cons_of_mem _ (List.mem_append_left _ (List.mem_append_left _ (List.mem_of_getElem? (i := 3) rfl))))) (fun _ h9 => h9) (k_ne (by decide) (k_ne (by decide) (k_ne (by decide) (k_ne (by decide) (k_ne (by decide) e15))))) dX12_many_139 ?_
  refine lv_iload_n hx hb dX12_many_142 rfl (lv_at hl 2 rfl) ?_
  refine va_zald hx hb hK hP 12 3 rfl rfl (k_in (by decide)) dX12_many_143 ?_
  refine k_topi (y := 0) rfl ?_
  refine lv_if_eq (tgt := 151) hx hb dX12_many_144 (by decide) (fun _ => ?_) (fun c9 => absurd (by decide) c9)
  refine lv_iconst (v := 1) hx hb dX12_many_151 (by decide) ?_
  refine va_iast hx hb hK hP hD hS 1 0 rfl rfl (k_in (by decide)) dX12_many_152 (fun H locs hP hD hS => ?_)
  have hP : va_P D vwCl [(h10, .inl (cI, 3000, .inl (upd g9 0 0))), (h11, .inl (cI, 3000, .inl (upd g10 0 1))), (h12, .inl (cJ, 3000, .inr (.inl g11))), (h2, .inl (cI, 32768, .inl (upd (k_fill (-1) 32768 g1) 17 0))), (h3, .inl (cI, 3000, .inl (upd g2 0 (-1)))), (h5, .inl (cI, 4096, .inl (upd (k_fill (-1) 4096 g4) 0 1))), (h7, .inl (cI, 3000, .inl (upd (upd g6 0 0) 0 0))), (h1, .inl (cZ, 26, .inl (upd (upd (upd (upd (upd (upd (upd (upd (upd (upd (upd (upd (upd (upd (upd (upd (upd (upd (upd (upd (upd (upd (upd (upd (upd (upd g0 0 0) 1 0) 2 0) 3 0) 4 0) 5 0) 6 0) 7 0) 8 0) 9 0) 10 0) 11 0) 12 0) 13 0) 14 0) 15 0) 16 0) 17 0) 18 0) 19 0) 20 0) 21 0) 22 0) 23 0) 24 0) 25 0))), (h8, .inl (cI, 4096, .inl (upd g7 0 0))), (h0, .inr (12, (((((f0.set 0 (.int 0)).set 119 (.int 0)).set 131 (.int 1)).set 129 (.int 0)).set 129 (.int 1)))), (h4, .inl (cI, 48000, .inl (upd g3 0 0))), (h6, .inl (cI, 3000, .inl (upd (upd g5 0 0) 0 1))), (h9, .inl (cZ, 3000, .inl (upd g8 0 0)))] H := hP
  have hD : va_D A [(h10, .inl (cI, 3000, .inl (upd g9 0 0))), (h11, .inl (cI, 3000, .inl (upd g10 0 1))), (h12, .inl (cJ, 3000, .inr (.inl g11))), (h2, .inl (cI, 32768, .inl (upd (k_fill (-1) 32768 g1) 17 0))), (h3, .inl (cI, 3000, .inl (upd g2 0 (-1)))), (h5, .inl (cI, 4096, .inl (upd (k_fill (-1) 4096 g4) 0 1))), (h7, .inl (cI, 3000, .inl (upd (upd g6 0 0) 0 0))), (h1, .inl (cZ, 26, .inl (upd (upd (upd (upd (upd (upd (upd (upd (upd (upd (upd (upd (upd (upd (upd (upd (upd (upd (upd (upd (upd (upd (upd (upd (upd (upd g0 0 0) 1 0) 2 0) 3 0) 4 0) 5 0) 6 0) 7 0) 8 0) 9 0) 10 0) 11 0) 12 0) 13 0) 14 0) 15 0) 16 0) 17 0) 18 0) 19 0) 20 0) 21 0) 22 0) 23 0) 24 0) 25 0))), (h8, .inl (cI, 4096, .inl (upd g7 0 0))), (h0, .inr (12, (((((f0.set 0 (.int 0)).set 119 (.int 0)).set 131 (.int 1)).set 129 (.int 0)).set 129 (.int 1)))), (h4, .inl (cI, 48000, .inl (upd g3 0 0))), (h6, .inl (cI, 3000, .inl (upd (upd g5 0 0) 0 1))), (h9, .inl (cZ, 3000, .inl (upd g8 0 0)))] := hD
  refine lv_aload_n hx hb dX12_many_153 rfl (lv_at hl 3 rfl) ?_
  refine va_get (D := D) (ref := "IntegerHouseModel") (ci := 12) (v := .ref h12) (C := RX12) (T := TX12) (N := 195) hx hb hts hin12 hown hK hP 9 rfl rfl 146 (by decide) (hts (.fieldLink RX12 367 "IntegerHouseModel" "news" "[J") (List.mem_cons_of_mem _ (List.mem_append_left _ (List.mem_append_left _ (List.mem_of_getElem? (i := 6) rfl))))) (fun _ h9 => h9) (k_ne (by decide) (k_ne (by decide) (k_ne (by decide) (k_ne (by decide) (k_ne (by decide) e18))))) dX12_many_154 ?_
  refine lv_iload_n hx hb dX12_many_157 rfl (lv_at hl 2 rfl) ?_
  refine lv_lconst (v := 0) hx hb dX12_many_158 (by decide) ?_
  refine va_last hx hb hK hP hD hS 2 1 rfl rfl (k_in (by decide)) dX12_many_159 (fun H locs hP hD hS => ?_)
  have hP : va_P D vwCl [(h10, .inl (cI, 3000, .inl (upd g9 0 0))), (h11, .inl (cI, 3000, .inl (upd g10 0 1))), (h12, .inl (cJ, 3000, .inr (.inl (vp_updL g11 0 0)))), (h2, .inl (cI, 32768, .inl (upd (k_fill (-1) 32768 g1) 17 0))), (h3, .inl (cI, 3000, .inl (upd g2 0 (-1)))), (h5, .inl (cI, 4096, .inl (upd (k_fill (-1) 4096 g4) 0 1))), (h7, .inl (cI, 3000, .inl (upd (upd g6 0 0) 0 0))), (h1, .inl (cZ, 26, .inl (upd (upd (upd (upd (upd (upd (upd (upd (upd (upd (upd (upd (upd (upd (upd (upd (upd (upd (upd (upd (upd (upd (upd (upd (upd (upd g0 0 0) 1 0) 2 0) 3 0) 4 0) 5 0) 6 0) 7 0) 8 0) 9 0) 10 0) 11 0) 12 0) 13 0) 14 0) 15 0) 16 0) 17 0) 18 0) 19 0) 20 0) 21 0) 22 0) 23 0) 24 0) 25 0))), (h8, .inl (cI, 4096, .inl (upd g7 0 0))), (h0, .inr (12, (((((f0.set 0 (.int 0)).set 119 (.int 0)).set 131 (.int 1)).set 129 (.int 0)).set 129 (.int 1)))), (h4, .inl (cI, 48000, .inl (upd g3 0 0))), (h6, .inl (cI, 3000, .inl (upd (upd g5 0 0) 0 1))), (h9, .inl (cZ, 3000, .inl (upd g8 0 0)))] H := hP
  have hD : va_D A [(h10, .inl (cI, 3000, .inl (upd g9 0 0))), (h11, .inl (cI, 3000, .inl (upd g10 0 1))), (h12, .inl (cJ, 3000, .inr (.inl (vp_updL g11 0 0)))), (h2, .inl (cI, 32768, .inl (upd (k_fill (-1) 32768 g1) 17 0))), (h3, .inl (cI, 3000, .inl (upd g2 0 (-1)))), (h5, .inl (cI, 4096, .inl (upd (k_fill (-1) 4096 g4) 0 1))), (h7, .inl (cI, 3000, .inl (upd (upd g6 0 0) 0 0))), (h1, .inl (cZ, 26, .inl (upd (upd (upd (upd (upd (upd (upd (upd (upd (upd (upd (upd (upd (upd (upd (upd (upd (upd (upd (upd (upd (upd (upd (upd (upd (upd g0 0 0) 1 0) 2 0) 3 0) 4 0) 5 0) 6 0) 7 0) 8 0) 9 0) 10 0) 11 0) 12 0) 13 0) 14 0) 15 0) 16 0) 17 0) 18 0) 19 0) 20 0) 21 0) 22 0) 23 0) 24 0) 25 0))), (h8, .inl (cI, 4096, .inl (upd g7 0 0))), (h0, .inr (12, (((((f0.set 0 (.int 0)).set 119 (.int 0)).set 131 (.int 1)).set 129 (.int 0)).set 129 (.int 1)))), (h4, .inl (cI, 48000, .inl (upd g3 0 0))), (h6, .inl (cI, 3000, .inl (upd (upd g5 0 0) 0 1))), (h9, .inl (cZ, 3000, .inl (upd g8 0 0)))] := hD
  refine lv_iinc (v := 1) (lv' := [(2, .int 1), (1, .int 0), (3, .int 0), (0, .ref h0)]) hx hb dX12_many_160 hl (k := 2) rfl (by decide) (by decide) rfl (fun ls hl => ?_)
  refine lv_goto (tgt := 39) hx hb dX12_many_163 (by decide) ?_
  refine lv_iload_n hx hb dX12_many_39 rfl (lv_at hl 0 rfl) ?_
  refine lv_aload_n hx hb dX12_many_40 rfl (lv_at hl 3 rfl) ?_
  refine va_get (D := D) (ref := "IntegerHouseModel") (ci := 12) (v := .int 1) (C := RX12) (T := TX12) (N := 195) hx hb hts hin12 hown hK hP 9 rfl rfl 129 (by decide) (hts (.fieldLink RX12 957 "IntegerHouseModel" "places" "I") (List.mem_cons_of_mem _ (List.mem_append_left _ (List.mem_append_left _ (List.mem_of_getElem? (i := 0) rfl))))) (fun _ h9 => h9) (k_set (k_set (k_ne (by decide) (k_ne (by decide) (k_ne (by decide) e8))))) dX12_many_41 ?_
  refine lv_icmp_ge (tgt := 166) hx hb dX12_many_44 (by decide) (fun _ => ?_) (fun c9 => absurd (by decide) c9)
  refine lv_iconst (v := 1) hx hb dX12_many_166 (by decide) ?_
  refine lv_istore_n (lv' := [(2, .int 1), (1, .int 0), (3, .int 0), (0, .ref h0)]) hx hb dX12_many_167 rfl hl (by decide) rfl (fun ls hl => ?_)
  refine lv_iload_n hx hb dX12_many_168 rfl (lv_at hl 0 rfl) ?_
  refine lv_if_eq (tgt := 373) hx hb dX12_many_169 (by decide) (fun c9 => absurd c9 (by decide)) (fun _ => ?_)
  refine lv_iload_n hx hb dX12_many_172 rfl (lv_at hl 1 rfl) ?_
  refine lv_if_le (tgt := 373) hx hb dX12_many_173 (by decide) (fun _ => ?_) (fun c9 => absurd (by decide) c9)
  refine lv_iload_n hx hb dX12_many_373 rfl (lv_at hl 1 rfl) ?_
  refine lv_if_le (tgt := 380) hx hb dX12_many_374 (by decide) (fun _ => ?_) (fun c9 => absurd (by decide) c9)
  refine lv_aload_n hx hb dX12_many_380 rfl (lv_at hl 3 rfl) ?_
  refine va_get (D := D) (ref := "IntegerHouseModel") (ci := 12) (v := .ref h12) (C := RX12) (T := TX12) (N := 195) hx hb hts hin12 hown hK hP 9 rfl rfl 146 (by decide) (hts (.fieldLink RX12 367 "IntegerHouseModel" "news" "[J") (List.mem_cons_of_mem _ (List.mem_append_left _ (List.mem_append_left _ (List.mem_of_getElem? (i := 6) rfl))))) (fun _ h9 => h9) (k_ne (by decide) (k_ne (by decide) (k_ne (by decide) (k_ne (by decide) (k_ne (by decide) e18))))) dX12_many_381 ?_
  refine lv_iconst (v := 0) hx hb dX12_many_384 (by decide) ?_
  refine va_lald hx hb hK hP 2 1 rfl rfl (k_in (by decide)) dX12_many_385 ?_
  refine k_topl (y := 0) rfl ?_
  refine lv_lstore_n (lv' := [(3, .long 0), (2, .int 1), (1, .int 0), (0, .ref h0)]) hx hb dX12_many_386 rfl hl (by decide) rfl (fun ls hl => ?_)
  refine lv_iconst (v := 0) hx hb dX12_many_387 (by decide) ?_
  refine lv_istore (lv' := [(5, .int 0), (3, .long 0), (2, .int 1), (1, .int 0), (0, .ref h0)]) hx hb dX12_many_388 hl (by decide) rfl (fun ls hl => ?_)
  refine lv_iload hx hb dX12_many_390 (lv_at hl 0 rfl) ?_
  refine lv_aload_n hx hb dX12_many_392 rfl (lv_at hl 4 rfl) ?_
  refine va_get (D := D) (ref := "IntegerHouseModel") (ci := 12) (v := .int 1) (C := RX12) (T := TX12) (N := 195) hx hb hts hin12 hown hK hP 9 rfl rfl 131 (by decide) (hts (.fieldLink RX12 960 "IntegerHouseModel" "letters" "I") (List.mem_cons_of_mem _ (List.mem_append_left _ (List.mem_append_left _ (List.mem_of_getElem? (i := 2) rfl))))) (fun _ h9 => h9) (k_ne (by decide) (k_ne (by decide) (k_set (k_ne (by decide) (k_ne (by decide) e6))))) dX12_many_393 ?_
  refine lv_icmp_ge (tgt := 420) hx hb dX12_many_396 (by decide) (fun c9 => absurd c9 (by decide)) (fun _ => ?_)
  refine lv_lload_n hx hb dX12_many_399 rfl (lv_at hl 1 rfl) ?_
  refine lv_aload_n hx hb dX12_many_400 rfl (lv_at hl 4 rfl) ?_
  refine va_get (D := D) (ref := "IntegerHouseModel") (ci := 12) (v := .ref h6) (C := RX12) (T := TX12) (N := 195) hx hb hts hin12 hown hK hP 9 rfl rfl 132 (by decide) (hts (.fieldLink RX12 334 "IntegerHouseModel" "takes" "[I") (List.mem_cons_of_mem _ (List.mem_append_left _ (List.mem_append_left _ (List.mem_of_getElem? (i := 8) rfl))))) (fun _ h9 => h9) (k_ne (by decide) (k_ne (by decide) (k_ne (by decide) (k_ne (by decide) (k_ne (by decide) e12))))) dX12_many_401 ?_
  refine lv_iconst (v := 0) hx hb dX12_many_404 (by decide) ?_
  refine va_iald hx hb hK hP 11 0 rfl rfl (k_in (by decide)) dX12_many_405 ?_
  refine k_topi (y := 1) rfl ?_
  refine lv_iload hx hb dX12_many_406 (lv_at hl 0 rfl) ?_
  refine lv_ishr hx hb dX12_many_408 ?_
  refine k_topi (y := 1) (by decide) ?_
  refine lv_iconst (v := 1) hx hb dX12_many_409 (by decide) ?_
  refine lv_iand hx hb dX12_many_410 ?_
  refine k_topi (y := 1) (by decide) ?_
  refine lv_i2l (v := 1) hx hb dX12_many_411 (by decide) ?_
  refine lv_ladd hx hb dX12_many_412 ?_
  refine k_topl (y := 1) (by decide) ?_
  refine lv_lstore_n (lv' := [(3, .long 1), (5, .int 0), (2, .int 1), (1, .int 0), (0, .ref h0)]) hx hb dX12_many_413 rfl hl (by decide) rfl (fun ls hl => ?_)
  refine lv_iinc (v := 1) (lv' := [(5, .int 1), (3, .long 1), (2, .int 1), (1, .int 0), (0, .ref h0)]) hx hb dX12_many_414 hl (k := 1) rfl (by decide) (by decide) rfl (fun ls hl => ?_)
  refine lv_goto (tgt := 390) hx hb dX12_many_417 (by decide) ?_
  refine lv_iload hx hb dX12_many_390 (lv_at hl 0 rfl) ?_
  refine lv_aload_n hx hb dX12_many_392 rfl (lv_at hl 4 rfl) ?_
  refine va_get (D := D) (ref := "IntegerHouseModel") (ci := 12) (v := .int 1) (C := RX12) (T := TX12) (N := 195) hx hb hts hin12 hown hK hP 9 rfl rfl 131 (by decide) (hts (.fieldLink RX12 960 "IntegerHouseModel" "letters" "I") (List.mem_cons_of_mem _ (List.mem_append_left _ (List.mem_append_left _ (List.mem_of_getElem? (i := 2) rfl))))) (fun _ h9 => h9) (k_ne (by decide) (k_ne (by decide) (k_set (k_ne (by decide) (k_ne (by decide) e6))))) dX12_many_393 ?_
  refine lv_icmp_ge (tgt := 420) hx hb dX12_many_396 (by decide) (fun _ => ?_) (fun c9 => absurd (by decide) c9)
  refine lv_lload_n hx hb dX12_many_420 rfl (lv_at hl 1 rfl) ?_
  refine lv_ldc2 (own := RX12) (index := 1041) (v := 1000000000) hx hb hown (hts (.constantLong RX12 1041 (1000000000)) (List.mem_cons_of_mem _ (List.mem_append_left _ (List.mem_append_left _ (List.mem_of_getElem? (i := 9) rfl))))) dX12_many_421 ?_
  refine W.lcmp hx hb dX12_many_424 ?_
  refine k_topi (y := (-1)) (by decide) ?_
  refine lv_if_le (tgt := 434) hx hb dX12_many_425 (by decide) (fun _ => ?_) (fun c9 => absurd (by decide) c9)
  refine lv_lload_n hx hb dX12_many_434 rfl (lv_at hl 1 rfl) ?_
  refine lv_l2i (v := 1) hx hb dX12_many_435 (by decide) ?_
  have hP := hP.sub (ws' := [(h0, .inr (12, (((((f0.set 0 (.int 0)).set 119 (.int 0)).set 131 (.int 1)).set 129 (.int 0)).set 129 (.int 1)))), (h1, .inl (cZ, 26, .inl (upd (upd (upd (upd (upd (upd (upd (upd (upd (upd (upd (upd (upd (upd (upd (upd (upd (upd (upd (upd (upd (upd (upd (upd (upd (upd g0 0 0) 1 0) 2 0) 3 0) 4 0) 5 0) 6 0) 7 0) 8 0) 9 0) 10 0) 11 0) 12 0) 13 0) 14 0) 15 0) 16 0) 17 0) 18 0) 19 0) 20 0) 21 0) 22 0) 23 0) 24 0) 25 0))), (h2, .inl (cI, 32768, .inl (upd (k_fill (-1) 32768 g1) 17 0))), (h3, .inl (cI, 3000, .inl (upd g2 0 (-1)))), (h4, .inl (cI, 48000, .inl (upd g3 0 0))), (h5, .inl (cI, 4096, .inl (upd (k_fill (-1) 4096 g4) 0 1))), (h6, .inl (cI, 3000, .inl (upd (upd g5 0 0) 0 1))), (h7, .inl (cI, 3000, .inl (upd (upd g6 0 0) 0 0))), (h8, .inl (cI, 4096, .inl (upd g7 0 0))), (h9, .inl (cZ, 3000, .inl (upd g8 0 0))), (h10, .inl (cI, 3000, .inl (upd g9 0 0))), (h11, .inl (cI, 3000, .inl (upd g10 0 1))), (h12, .inl (cJ, 3000, .inr (.inl (vp_updL g11 0 0))))]) [9, 7, 3, 4, 10, 5, 11, 6, 8, 12, 0, 1, 2] rfl
  have hD := hD.sub (ws' := [(h0, .inr (12, (((((f0.set 0 (.int 0)).set 119 (.int 0)).set 131 (.int 1)).set 129 (.int 0)).set 129 (.int 1)))), (h1, .inl (cZ, 26, .inl (upd (upd (upd (upd (upd (upd (upd (upd (upd (upd (upd (upd (upd (upd (upd (upd (upd (upd (upd (upd (upd (upd (upd (upd (upd (upd g0 0 0) 1 0) 2 0) 3 0) 4 0) 5 0) 6 0) 7 0) 8 0) 9 0) 10 0) 11 0) 12 0) 13 0) 14 0) 15 0) 16 0) 17 0) 18 0) 19 0) 20 0) 21 0) 22 0) 23 0) 24 0) 25 0))), (h2, .inl (cI, 32768, .inl (upd (k_fill (-1) 32768 g1) 17 0))), (h3, .inl (cI, 3000, .inl (upd g2 0 (-1)))), (h4, .inl (cI, 48000, .inl (upd g3 0 0))), (h5, .inl (cI, 4096, .inl (upd (k_fill (-1) 4096 g4) 0 1))), (h6, .inl (cI, 3000, .inl (upd (upd g5 0 0) 0 1))), (h7, .inl (cI, 3000, .inl (upd (upd g6 0 0) 0 0))), (h8, .inl (cI, 4096, .inl (upd g7 0 0))), (h9, .inl (cZ, 3000, .inl (upd g8 0 0))), (h10, .inl (cI, 3000, .inl (upd g9 0 0))), (h11, .inl (cI, 3000, .inl (upd g10 0 1))), (h12, .inl (cJ, 3000, .inr (.inl (vp_updL g11 0 0))))]) [9, 7, 3, 4, 10, 5, 11, 6, 8, 12, 0, 1, 2] (by decide +kernel) rfl
  exact W.iret (v := 1) hx hb hr (fun t ht hW => ⟨⟨1, (), rfl, rfl, kB_mk ht hW hP hK hD⟩, hS.F ht⟩) hS.2.2 dX12_many_436
set_option maxHeartbeats 400000000 in
set_option maxRecDepth 100000 in
theorem c_X0_anyModel_0 (l : Launch) (E : kE) (D : va_G) (cI cJ cB cZ : ClassId) (h0 : Nat) (f0 : List Value) (h1 : Nat) (f1 : List Value) (h2 : Nat) (g0 : Nat → Int32) (e0 : f0[1]? = some (.ref h1)) (e1 : f1[13]? = some (.int 1)) (e2 : f1[12]? = some (.int 1)) (e3 : f1[8]? = some (.ref h2)) (e4 : g0 0 = 0) : kI l E D (kT cI cJ cB cZ) yX0_anyModel wsX0_anyModel ({ frames := 2, cells := 0, slots := 0, locals := 51 }) [.ref h0, .int 0] [(h0, .inr (0, f0)), (h1, .inr (6, f1)), (h2, .inl (cI, 48000, .inl g0))] (1) [(h0, .inr (0, f0)), (h1, .inr (6, f1)), (h2, .inl (cI, 48000, .inl g0))] 0 0 := by
  intro sz
  refine Met.ofW (cc := cX0_anyModel) (maxL := 3) (ret := (some .boolean)) (by decide) rfl ?_
  intro p e s m args below meth c s₁ B hml hv
  obtain ⟨rfl, hsz, hP, hK, hD0, hN, hX⟩ := hv
  have hx := B.exec
  have hb := B.bytes
  have hr := B.returns
  have hts := atoms_spec (ws := wsX0_anyModel) B.pre
  have hown : s.vm.findClass RX0 = some m.cls := findClass_of_methodNamed B.named
  have hlocks := B.notSynchronized
  have hin0 : ∀ w ∈ wsX00, w ∈ wsX0_anyModel := (fun w h => (List.mem_cons_of_mem _ (List.mem_append_left _ (List.mem_append_right _ h))))
  have hin6 : ∀ w ∈ wsX60, w ∈ wsX0_anyModel := (fun w h => (List.mem_cons_of_mem _ (List.mem_append_right _ h)))
  subst hsz
  have hD := hD0.self (sz := s.heap.size)
  have hAE := k_AE hD0 hX
  generalize hAe : va_A [(h0, .inr (0, f0)), (h1, .inr (6, f1)), (h2, .inl (cI, 48000, .inl g0))] s.heap.size = A at hD hAE ⊢
  have hA : ∀ q : Nat, s.heap.size ≤ q → A q := fun q h => by rw [← hAe]; exact Or.inr h
  have hS : va_S A s.heap s.heap [] := va_S.rf
  have hP : va_P D vwCl [(h0, .inr (0, f0)), (h1, .inr (6, f1)), (h2, .inl (cI, 48000, .inl g0))] s.heap := hP
  have hl := lv_entry ([.ref h0, .int 0] : List Value) (n := 3) (Nat.le_of_ble_eq_true rfl)
  rw [lg_entry_eq]
  generalize (lg_sl ([.ref h0, .int 0]) ++ List.replicate (3 - (lg_sl ([.ref h0, .int 0])).length) Slot.unset).toArray = ls at hl ⊢
  have hl : lv_has ls 3 [(0, .ref h0), (1, .int 0)] := hl
  refine lv_iconst (v := 0) hx hb dX0_anyModel_0 (by decide) ?_
  refine lv_istore_n (lv' := [(2, .int 0), (0, .ref h0), (1, .int 0)]) hx hb dX0_anyModel_1 rfl hl (by decide) rfl (fun ls hl => ?_)
  refine lv_iload_n hx hb dX0_anyModel_2 rfl (lv_at hl 0 rfl) ?_
  refine lv_aload_n hx hb dX0_anyModel_3 rfl (lv_at hl 1 rfl) ?_
  refine va_get (D := D) (ref := "IntegerHouse$Answers") (ci := 0) (v := .ref h1) (C := RX0) (T := TX0) (N := 19) hx hb hts hin0 hown hK hP 0 rfl rfl 1 (by decide) (hts (.fieldLink RX0 48 "IntegerHouse$Answers" "places" "LIntegerHouse$Places;") (List.mem_cons_of_mem _ (List.mem_append_left _ (List.mem_append_left _ (List.mem_of_getElem? (i := 0) rfl))))) (fun _ h9 => h9) e0 dX0_anyModel_4 ?_
  refine va_getN (host := "IntegerHouse") (D := D) (ref := "IntegerHouse$Places") (ci := 6) (v := .int 1) (C := RX6) (T := TX6) (N := 14) hx hb hts hin6 hown hK hP 1 rfl rfl 13 (by decide) (va_Nw.use rfl (hN.1 ("IntegerHouse$Answers", 72, "IntegerHouse$Places", "size", "I", "IntegerHouse") (List.mem_of_getElem? (i := 32) rfl))) (fun _ h9 => h9) e1 dX0_anyModel_7 ?_
  refine lv_icmp_ge (tgt := 34) hx hb dX0_anyModel_10 (by decide) (fun c9 => absurd c9 (by decide)) (fun _ => ?_)
  refine lv_aload_n hx hb dX0_anyModel_13 rfl (lv_at hl 1 rfl) ?_
  refine va_get (D := D) (ref := "IntegerHouse$Answers") (ci := 0) (v := .ref h1) (C := RX0) (T := TX0) (N := 19) hx hb hts hin0 hown hK hP 0 rfl rfl 1 (by decide) (hts (.fieldLink RX0 48 "IntegerHouse$Answers" "places" "LIntegerHouse$Places;") (List.mem_cons_of_mem _ (List.mem_append_left _ (List.mem_append_left _ (List.mem_of_getElem? (i := 0) rfl))))) (fun _ h9 => h9) e0 dX0_anyModel_14 ?_
  refine lv_iload_n hx hb dX0_anyModel_17 rfl (lv_at hl 0 rfl) ?_
  refine lv_iload_n hx hb dX0_anyModel_18 rfl (lv_at hl 2 rfl) ?_
  refine lv_iconst (v := 0) hx hb dX0_anyModel_19 (by decide) ?_
  refine k_cVi (As := [.int 0, .int 0, .int 0]) (rest := []) (wc := [(h1, .inr (6, f1)), (h2, .inl (cI, 48000, .inl g0))]) (wr := [(h0, .inr (0, f0))]) (w1 := [(h1, .inr (6, f1)), (h2, .inl (cI, 48000, .inl g0))]) ⟨hx, hb, hml, hown, hts⟩ hN hX hAE hK hP hD hS hA [1, 2] [0] (ci := 6) rfl rfl rfl rfl (by decide +kernel) (by decide +kernel) (by decide +kernel) (c_X6_acceptedBy_0 l E D cI cJ cB cZ h1 f1 h2 g0 e2 e3 e4) (cwV 3 hts gX0_anyModel_X6_acceptedBy rfl rfl rfl (by decide +kernel) ⟨Nat.le_of_ble_eq_true rfl, Nat.le_of_ble_eq_true rfl⟩) rfl hl.1 (Nat.le_of_ble_eq_true rfl) dX0_anyModel_20 ⟨Nat.le_of_ble_eq_true rfl, Nat.le_of_ble_eq_true rfl⟩ (fun H locs hP hD hS => ?_)
  have hP : va_P D vwCl [(h0, .inr (0, f0)), (h1, .inr (6, f1)), (h2, .inl (cI, 48000, .inl g0))] H := hP
  have hD : va_D A [(h0, .inr (0, f0)), (h1, .inr (6, f1)), (h2, .inl (cI, 48000, .inl g0))] := hD
  refine lv_if_eq (tgt := 28) hx hb dX0_anyModel_23 (by decide) (fun c9 => absurd c9 (by decide)) (fun _ => ?_)
  refine lv_iconst (v := 1) hx hb dX0_anyModel_26 (by decide) ?_
  exact W.zret (v := 1) hx hb hr rfl (fun t ht hW => ⟨⟨1, (), rfl, rfl, kB_mk ht hW hP hK hD⟩, hS.F ht⟩) hS.2.2 dX0_anyModel_27
set_option maxHeartbeats 400000000 in
set_option maxRecDepth 100000 in
theorem c_X0_tellCore_0 (l : Launch) (E : kE) (D : va_G) (cI cJ cB cZ : ClassId) (h0 : Nat) (f0 : List Value) (h1 : Nat) (f1 : List Value) (h2 : Nat) (g0 : Nat → Int32) (e0 : f0[14]? = some (.int 0)) (e1 : f0[1]? = some (.ref h1)) (e2 : f1[13]? = some (.int 1)) (e3 : f1[12]? = some (.int 1)) (e4 : f1[8]? = some (.ref h2)) (e5 : g0 0 = 0) : kI l E D (kT cI cJ cB cZ) yX0_tellCore wsX0_tellCore ({ frames := 3, cells := 0, slots := 0, locals := 73 }) [.ref h0, .int 0] [(h0, .inr (0, f0)), (h1, .inr (6, f1)), (h2, .inl (cI, 48000, .inl g0))] (0) [(h0, .inr (0, (f0.set 14 (.int 0)))), (h1, .inr (6, f1)), (h2, .inl (cI, 48000, .inl g0))] 0 0 := by
  intro sz
  refine Met.ofW (cc := cX0_tellCore) (maxL := 4) (ret := (some .int)) (by decide) rfl ?_
  intro p e s m args below meth c s₁ B hml hv
  obtain ⟨rfl, hsz, hP, hK, hD0, hN, hX⟩ := hv
  have hx := B.exec
  have hb := B.bytes
  have hr := B.returns
  have hts := atoms_spec (ws := wsX0_tellCore) B.pre
  have hown : s.vm.findClass RX0 = some m.cls := findClass_of_methodNamed B.named
  have hlocks := B.notSynchronized
  have hin0 : ∀ w ∈ wsX00, w ∈ wsX0_tellCore := (fun w h => (List.mem_cons_of_mem _ (List.mem_append_left _ (List.mem_append_right _ h))))
  subst hsz
  have hD := hD0.self (sz := s.heap.size)
  have hAE := k_AE hD0 hX
  generalize hAe : va_A [(h0, .inr (0, f0)), (h1, .inr (6, f1)), (h2, .inl (cI, 48000, .inl g0))] s.heap.size = A at hD hAE ⊢
  have hA : ∀ q : Nat, s.heap.size ≤ q → A q := fun q h => by rw [← hAe]; exact Or.inr h
  have hS : va_S A s.heap s.heap [] := va_S.rf
  have hP : va_P D vwCl [(h0, .inr (0, f0)), (h1, .inr (6, f1)), (h2, .inl (cI, 48000, .inl g0))] s.heap := hP
  have hl := lv_entry ([.ref h0, .int 0] : List Value) (n := 4) (Nat.le_of_ble_eq_true rfl)
  rw [lg_entry_eq]
  generalize (lg_sl ([.ref h0, .int 0]) ++ List.replicate (4 - (lg_sl ([.ref h0, .int 0])).length) Slot.unset).toArray = ls at hl ⊢
  have hl : lv_has ls 4 [(0, .ref h0), (1, .int 0)] := hl
  refine lv_aload_n hx hb dX0_tellCore_0 rfl (lv_at hl 0 rfl) ?_
  refine lv_iconst (v := 0) hx hb dX0_tellCore_1 (by decide) ?_
  refine va_put (D := D) (ref := "IntegerHouse$Answers") (ci := 0) (v := .int 0) (ty := .int) (C := RX0) (T := TX0) (N := 19) hx hb hts hin0 tyX0 tyX0_ok nmX0 hown hK hP hD hS 0 rfl rfl 14 (by decide) (hts (.fieldLink RX0 167 "IntegerHouse$Answers" "coreSize" "I") (List.mem_cons_of_mem _ (List.mem_append_left _ (List.mem_append_left _ (List.mem_of_getElem? (i := 0) rfl))))) (fun _ h9 => h9) rfl (by decide +kernel) rfl rfl (k_len e0) dX0_tellCore_2 (fun H locs hP hD hS => ?_)
  have hP : va_P D vwCl [(h0, .inr (0, (f0.set 14 (.int 0)))), (h1, .inr (6, f1)), (h2, .inl (cI, 48000, .inl g0))] H := hP
  have hD : va_D A [(h0, .inr (0, (f0.set 14 (.int 0)))), (h1, .inr (6, f1)), (h2, .inl (cI, 48000, .inl g0))] := hD
  refine lv_aload_n hx hb dX0_tellCore_5 rfl (lv_at hl 0 rfl) ?_
  refine lv_iload_n hx hb dX0_tellCore_6 rfl (lv_at hl 1 rfl) ?_
  refine k_cVi (As := [.int 0]) (rest := []) (wc := [(h0, .inr (0, (f0.set 14 (.int 0)))), (h1, .inr (6, f1)), (h2, .inl (cI, 48000, .inl g0))]) (wr := []) (w1 := [(h0, .inr (0, (f0.set 14 (.int 0)))), (h1, .inr (6, f1)), (h2, .inl (cI, 48000, .inl g0))]) ⟨hx, hb, hml, hown, hts⟩ hN hX hAE hK hP hD hS hA [0, 1, 2] [] (ci := 0) rfl rfl rfl rfl (by decide +kernel) (by decide +kernel) (by decide +kernel) (c_X0_anyModel_0 l E D cI cJ cB cZ h0 ((f0.set 14 (.int 0))) h1 f1 h2 g0 (k_ne (by decide) e1) e2 e3 e4 e5) (cwV 1 hts gX0_tellCore_X0_anyModel rfl rfl rfl (by decide +kernel) ⟨Nat.le_of_ble_eq_true rfl, Nat.le_of_ble_eq_true rfl⟩) rfl hl.1 (Nat.le_of_ble_eq_true rfl) dX0_tellCore_7 ⟨Nat.le_of_ble_eq_true rfl, Nat.le_of_ble_eq_true rfl⟩ (fun H locs hP hD hS => ?_)
  have hP : va_P D vwCl [(h0, .inr (0, (f0.set 14 (.int 0)))), (h1, .inr (6, f1)), (h2, .inl (cI, 48000, .inl g0))] H := hP
  have hD : va_D A [(h0, .inr (0, (f0.set 14 (.int 0)))), (h1, .inr (6, f1)), (h2, .inl (cI, 48000, .inl g0))] := hD
  refine lv_if_eq (tgt := 15) hx hb dX0_tellCore_10 (by decide) (fun c9 => absurd c9 (by decide)) (fun _ => ?_)
  refine lv_iconst (v := 0) hx hb dX0_tellCore_13 (by decide) ?_
  exact W.iret (v := 0) hx hb hr (fun t ht hW => ⟨⟨0, (), rfl, rfl, kB_mk ht hW hP hK hD⟩, hS.F ht⟩) hS.2.2 dX0_tellCore_14
set_option maxHeartbeats 400000000 in
set_option maxRecDepth 100000 in
theorem c_X11_core_0 (l : Launch) (E : kE) (D : va_G) (cI cJ cB cZ : ClassId) (h0 : Nat) (f0 : List Value) (h1 : Nat) (f1 : List Value) (h2 : Nat) (h3 : Nat) (f2 : List Value) (f3 : List Value) (h4 : Nat) (h5 : Nat) (h6 : Nat) (g0 : Nat → Int32) (g1 : Nat → Int32) (g2 : Nat → Int32) (h7 : Nat) (f4 : List Value) (e0 : f0[1]? = some (.ref h1)) (e1 : f1[8]? = some (.int 0)) (e2 : f0[6]? = some (.ref h2)) (e3 : f0[2]? = some (.ref h3)) (e4 : f2[13]? = some (.int 0)) (e5 : f3[10]? = some (.int 0)) (e6 : f3[11]? = some (.int 0)) (e7 : f3[0]? = some (.ref h3)) (e8 : f2[10]? = some (.int 0)) (e9 : f3[12]? = some (.int 0)) (e10 : f3[9]? = some (.ref h4)) (e11 : f3[13]? = some (.int 0)) (e12 : f3[7]? = some (.ref h5)) (e13 : f3[8]? = some (.ref h6)) (e14 : f0[7]? = some (.ref h7)) (e15 : f4[14]? = some (.int 0)) (e16 : f4[1]? = some (.ref h2)) : kI l E D (kT cI cJ cB cZ) yX11_core wsX11_core ({ frames := 5, cells := 0, slots := 0, locals := 115 }) [.ref h0] [(h0, .inr (11, f0)), (h1, .inr (1, f1)), (h3, .inr (2, f2)), (h2, .inr (6, f3)), (h4, .inl (cI, 8192, .inl g0)), (h5, .inl (cI, 48000, .inl g1)), (h6, .inl (cI, 48000, .inl g2)), (h7, .inr (0, f4))] (0) [(h0, .inr (11, f0)), (h1, .inr (1, f1)), (h3, .inr (2, f2)), (h2, .inr (6, ((((((((((((((((((((((((((((((f3.set 10 (.int 0)).set 11 (.int 0)).set 12 (.int 1)).set 11 (.int 0)).set 11 (.int 0)).set 11 (.int 0)).set 11 (.int 0)).set 11 (.int 0)).set 11 (.int 0)).set 11 (.int 0)).set 11 (.int 0)).set 11 (.int 0)).set 11 (.int 0)).set 11 (.int 0)).set 11 (.int 0)).set 11 (.int 0)).set 11 (.int 0)).set 11 (.int 0)).set 11 (.int 0)).set 11 (.int 0)).set 11 (.int 0)).set 11 (.int 0)).set 11 (.int 0)).set 11 (.int 0)).set 11 (.int 0)).set 11 (.int 0)).set 11 (.int 0)).set 11 (.int 0)).set 13 (.int 0)).set 13 (.int 1)))), (h4, .inl (cI, 8192, .inl (upd (k_fill 0 8192 g0) 782 1))), (h5, .inl (cI, 48000, .inl (upd g1 0 0))), (h6, .inl (cI, 48000, .inl (upd g2 0 0))), (h7, .inr (0, (f4.set 14 (.int 0))))] 0 0 := by
  intro sz
  refine Met.ofW (cc := cX11_core) (maxL := 1) (ret := (some .int)) (by decide) rfl ?_
  intro p e s m args below meth c s₁ B hml hv
  obtain ⟨rfl, hsz, hP, hK, hD0, hN, hX⟩ := hv
  have hx := B.exec
  have hb := B.bytes
  have hr := B.returns
  have hts := atoms_spec (ws := wsX11_core) B.pre
  have hown : s.vm.findClass RX11 = some m.cls := findClass_of_methodNamed B.named
  have hlocks := B.notSynchronized
  have hin11 : ∀ w ∈ wsX110, w ∈ wsX11_core := (fun w h => (List.mem_cons_of_mem _ (List.mem_append_left _ (List.mem_append_left _ (List.mem_append_left _ (List.mem_append_left _ (List.mem_append_right _ h)))))))
  have hin1 : ∀ w ∈ wsX10, w ∈ wsX11_core := (fun w h => (List.mem_cons_of_mem _ (List.mem_append_left _ (List.mem_append_left _ (List.mem_append_left _ (List.mem_append_right _ h))))))
  have hin2 : ∀ w ∈ wsX20, w ∈ wsX11_core := (fun w h => (List.mem_cons_of_mem _ (List.mem_append_left _ (List.mem_append_left _ (List.mem_append_right _ h)))))
  subst hsz
  have hD := hD0.self (sz := s.heap.size)
  have hAE := k_AE hD0 hX
  generalize hAe : va_A [(h0, .inr (11, f0)), (h1, .inr (1, f1)), (h3, .inr (2, f2)), (h2, .inr (6, f3)), (h4, .inl (cI, 8192, .inl g0)), (h5, .inl (cI, 48000, .inl g1)), (h6, .inl (cI, 48000, .inl g2)), (h7, .inr (0, f4))] s.heap.size = A at hD hAE ⊢
  have hA : ∀ q : Nat, s.heap.size ≤ q → A q := fun q h => by rw [← hAe]; exact Or.inr h
  have hS : va_S A s.heap s.heap [] := va_S.rf
  have hP : va_P D vwCl [(h0, .inr (11, f0)), (h1, .inr (1, f1)), (h3, .inr (2, f2)), (h2, .inr (6, f3)), (h4, .inl (cI, 8192, .inl g0)), (h5, .inl (cI, 48000, .inl g1)), (h6, .inl (cI, 48000, .inl g2)), (h7, .inr (0, f4))] s.heap := hP
  have hl := lv_entry ([.ref h0] : List Value) (n := 1) (Nat.le_of_ble_eq_true rfl)
  rw [lg_entry_eq]
  generalize (lg_sl ([.ref h0]) ++ List.replicate (1 - (lg_sl ([.ref h0])).length) Slot.unset).toArray = ls at hl ⊢
  have hl : lv_has ls 1 [(0, .ref h0)] := hl
  refine lv_aload_n hx hb dX11_core_0 rfl (lv_at hl 0 rfl) ?_
  refine va_get (D := D) (ref := "IntegerHouse") (ci := 11) (v := .ref h1) (C := RX11) (T := TX11) (N := 15) hx hb hts hin11 hown hK hP 0 rfl rfl 1 (by decide) (hts (.fieldLink RX11 16 "IntegerHouse" "disk" "LIntegerHouse$Disk;") (List.mem_cons_of_mem _ (List.mem_append_left _ (List.mem_append_left _ (List.mem_append_left _ (List.mem_append_left _ (List.mem_append_left _ (List.mem_append_left _ (List.mem_of_getElem? (i := 0) rfl))))))))) (fun _ h9 => h9) e0 dX11_core_1 ?_
  refine va_getN (host := "IntegerHouse") (D := D) (ref := "IntegerHouse$Disk") (ci := 1) (v := .int 0) (C := RX1) (T := TX1) (N := 9) hx hb hts hin1 hown hK hP 1 rfl rfl 8 (by decide) (va_Nw.use rfl (hN.1 ("IntegerHouse", 122, "IntegerHouse$Disk", "down", "Z", "IntegerHouse") (List.mem_of_getElem? (i := 3) rfl))) (fun _ h9 => h9) e1 dX11_core_4 ?_
  refine lv_if_eq (tgt := 13) hx hb dX11_core_7 (by decide) (fun _ => ?_) (fun c9 => absurd (by decide) c9)
  refine lv_aload_n hx hb dX11_core_13 rfl (lv_at hl 0 rfl) ?_
  refine va_get (D := D) (ref := "IntegerHouse") (ci := 11) (v := .ref h2) (C := RX11) (T := TX11) (N := 15) hx hb hts hin11 hown hK hP 0 rfl rfl 6 (by decide) (hts (.fieldLink RX11 55 "IntegerHouse" "places" "LIntegerHouse$Places;") (List.mem_cons_of_mem _ (List.mem_append_left _ (List.mem_append_left _ (List.mem_append_left _ (List.mem_append_left _ (List.mem_append_left _ (List.mem_append_left _ (List.mem_of_getElem? (i := 1) rfl))))))))) (fun _ h9 => h9) e2 dX11_core_14 ?_
  refine lv_aload_n hx hb dX11_core_17 rfl (lv_at hl 0 rfl) ?_
  refine va_get (D := D) (ref := "IntegerHouse") (ci := 11) (v := .ref h3) (C := RX11) (T := TX11) (N := 15) hx hb hts hin11 hown hK hP 0 rfl rfl 2 (by decide) (hts (.fieldLink RX11 23 "IntegerHouse" "house" "LIntegerHouse$House;") (List.mem_cons_of_mem _ (List.mem_append_left _ (List.mem_append_left _ (List.mem_append_left _ (List.mem_append_left _ (List.mem_append_left _ (List.mem_append_left _ (List.mem_of_getElem? (i := 2) rfl))))))))) (fun _ h9 => h9) e3 dX11_core_18 ?_
  refine va_getN (host := "IntegerHouse") (D := D) (ref := "IntegerHouse$House") (ci := 2) (v := .int 0) (C := RX2) (T := TX2) (N := 16) hx hb hts hin2 hown hK hP 2 rfl rfl 13 (by decide) (va_Nw.use rfl (hN.1 ("IntegerHouse", 213, "IntegerHouse$House", "on", "I", "IntegerHouse") (List.mem_of_getElem? (i := 20) rfl))) (fun _ h9 => h9) e4 dX11_core_21 ?_
  refine k_cVi (As := [.int 0]) (rest := []) (wc := [(h2, .inr (6, f3)), (h3, .inr (2, f2)), (h4, .inl (cI, 8192, .inl g0)), (h5, .inl (cI, 48000, .inl g1)), (h6, .inl (cI, 48000, .inl g2))]) (wr := [(h0, .inr (11, f0)), (h1, .inr (1, f1)), (h7, .inr (0, f4))]) (w1 := [(h2, .inr (6, ((((((((((((((((((((((((((((((f3.set 10 (.int 0)).set 11 (.int 0)).set 12 (.int 1)).set 11 (.int 0)).set 11 (.int 0)).set 11 (.int 0)).set 11 (.int 0)).set 11 (.int 0)).set 11 (.int 0)).set 11 (.int 0)).set 11 (.int 0)).set 11 (.int 0)).set 11 (.int 0)).set 11 (.int 0)).set 11 (.int 0)).set 11 (.int 0)).set 11 (.int 0)).set 11 (.int 0)).set 11 (.int 0)).set 11 (.int 0)).set 11 (.int 0)).set 11 (.int 0)).set 11 (.int 0)).set 11 (.int 0)).set 11 (.int 0)).set 11 (.int 0)).set 11 (.int 0)).set 11 (.int 0)).set 13 (.int 0)).set 13 (.int 1)))), (h3, .inr (2, f2)), (h4, .inl (cI, 8192, .inl (upd (k_fill 0 8192 g0) 782 1))), (h5, .inl (cI, 48000, .inl (upd g1 0 0))), (h6, .inl (cI, 48000, .inl (upd g2 0 0)))]) ⟨hx, hb, hml, hown, hts⟩ hN hX hAE hK hP hD hS hA [3, 2, 4, 5, 6] [0, 1, 7] (ci := 6) rfl rfl rfl rfl (by decide +kernel) (by decide +kernel) (by decide +kernel) (c_X6_judge_0 l E D cI cJ cB cZ h2 f3 h3 f2 h4 h5 g0 g1 h6 g2 e5 e6 e7 e8 e9 e10 e11 e12 e13) (cwV 1 hts gX11_core_X6_judge rfl rfl rfl (by decide +kernel) ⟨Nat.le_of_ble_eq_true rfl, Nat.le_of_ble_eq_true rfl⟩) rfl hl.1 (Nat.le_of_ble_eq_true rfl) dX11_core_24 ⟨Nat.le_of_ble_eq_true rfl, Nat.le_of_ble_eq_true rfl⟩ (fun H locs hP hD hS => ?_)
  have hP : va_P D vwCl [(h0, .inr (11, f0)), (h1, .inr (1, f1)), (h7, .inr (0, f4)), (h2, .inr (6, ((((((((((((((((((((((((((((((f3.set 10 (.int 0)).set 11 (.int 0)).set 12 (.int 1)).set 11 (.int 0)).set 11 (.int 0)).set 11 (.int 0)).set 11 (.int 0)).set 11 (.int 0)).set 11 (.int 0)).set 11 (.int 0)).set 11 (.int 0)).set 11 (.int 0)).set 11 (.int 0)).set 11 (.int 0)).set 11 (.int 0)).set 11 (.int 0)).set 11 (.int 0)).set 11 (.int 0)).set 11 (.int 0)).set 11 (.int 0)).set 11 (.int 0)).set 11 (.int 0)).set 11 (.int 0)).set 11 (.int 0)).set 11 (.int 0)).set 11 (.int 0)).set 11 (.int 0)).set 11 (.int 0)).set 13 (.int 0)).set 13 (.int 1)))), (h3, .inr (2, f2)), (h4, .inl (cI, 8192, .inl (upd (k_fill 0 8192 g0) 782 1))), (h5, .inl (cI, 48000, .inl (upd g1 0 0))), (h6, .inl (cI, 48000, .inl (upd g2 0 0)))] H := hP
  have hD : va_D A [(h0, .inr (11, f0)), (h1, .inr (1, f1)), (h7, .inr (0, f4)), (h2, .inr (6, ((((((((((((((((((((((((((((((f3.set 10 (.int 0)).set 11 (.int 0)).set 12 (.int 1)).set 11 (.int 0)).set 11 (.int 0)).set 11 (.int 0)).set 11 (.int 0)).set 11 (.int 0)).set 11 (.int 0)).set 11 (.int 0)).set 11 (.int 0)).set 11 (.int 0)).set 11 (.int 0)).set 11 (.int 0)).set 11 (.int 0)).set 11 (.int 0)).set 11 (.int 0)).set 11 (.int 0)).set 11 (.int 0)).set 11 (.int 0)).set 11 (.int 0)).set 11 (.int 0)).set 11 (.int 0)).set 11 (.int 0)).set 11 (.int 0)).set 11 (.int 0)).set 11 (.int 0)).set 11 (.int 0)).set 13 (.int 0)).set 13 (.int 1)))), (h3, .inr (2, f2)), (h4, .inl (cI, 8192, .inl (upd (k_fill 0 8192 g0) 782 1))), (h5, .inl (cI, 48000, .inl (upd g1 0 0))), (h6, .inl (cI, 48000, .inl (upd g2 0 0)))] := hD
  refine lv_if_eq (tgt := 47) hx hb dX11_core_27 (by decide) (fun c9 => absurd c9 (by decide)) (fun _ => ?_)
  refine lv_aload_n hx hb dX11_core_30 rfl (lv_at hl 0 rfl) ?_
  refine va_get (D := D) (ref := "IntegerHouse") (ci := 11) (v := .ref h7) (C := RX11) (T := TX11) (N := 15) hx hb hts hin11 hown hK hP 0 rfl rfl 7 (by decide) (hts (.fieldLink RX11 64 "IntegerHouse" "answers" "LIntegerHouse$Answers;") (List.mem_cons_of_mem _ (List.mem_append_left _ (List.mem_append_left _ (List.mem_append_left _ (List.mem_append_left _ (List.mem_append_left _ (List.mem_append_left _ (List.mem_of_getElem? (i := 3) rfl))))))))) (fun _ h9 => h9) e14 dX11_core_31 ?_
  refine lv_aload_n hx hb dX11_core_34 rfl (lv_at hl 0 rfl) ?_
  refine va_get (D := D) (ref := "IntegerHouse") (ci := 11) (v := .ref h3) (C := RX11) (T := TX11) (N := 15) hx hb hts hin11 hown hK hP 0 rfl rfl 2 (by decide) (hts (.fieldLink RX11 23 "IntegerHouse" "house" "LIntegerHouse$House;") (List.mem_cons_of_mem _ (List.mem_append_left _ (List.mem_append_left _ (List.mem_append_left _ (List.mem_append_left _ (List.mem_append_left _ (List.mem_append_left _ (List.mem_of_getElem? (i := 2) rfl))))))))) (fun _ h9 => h9) e3 dX11_core_35 ?_
  refine va_getN (host := "IntegerHouse") (D := D) (ref := "IntegerHouse$House") (ci := 2) (v := .int 0) (C := RX2) (T := TX2) (N := 16) hx hb hts hin2 hown hK hP 4 rfl rfl 13 (by decide) (va_Nw.use rfl (hN.1 ("IntegerHouse", 213, "IntegerHouse$House", "on", "I", "IntegerHouse") (List.mem_of_getElem? (i := 20) rfl))) (fun _ h9 => h9) e4 dX11_core_38 ?_
  refine k_cVi (As := [.int 0]) (rest := []) (wc := [(h7, .inr (0, f4)), (h2, .inr (6, ((((((((((((((((((((((((((((((f3.set 10 (.int 0)).set 11 (.int 0)).set 12 (.int 1)).set 11 (.int 0)).set 11 (.int 0)).set 11 (.int 0)).set 11 (.int 0)).set 11 (.int 0)).set 11 (.int 0)).set 11 (.int 0)).set 11 (.int 0)).set 11 (.int 0)).set 11 (.int 0)).set 11 (.int 0)).set 11 (.int 0)).set 11 (.int 0)).set 11 (.int 0)).set 11 (.int 0)).set 11 (.int 0)).set 11 (.int 0)).set 11 (.int 0)).set 11 (.int 0)).set 11 (.int 0)).set 11 (.int 0)).set 11 (.int 0)).set 11 (.int 0)).set 11 (.int 0)).set 11 (.int 0)).set 13 (.int 0)).set 13 (.int 1)))), (h6, .inl (cI, 48000, .inl (upd g2 0 0)))]) (wr := [(h0, .inr (11, f0)), (h1, .inr (1, f1)), (h3, .inr (2, f2)), (h4, .inl (cI, 8192, .inl (upd (k_fill 0 8192 g0) 782 1))), (h5, .inl (cI, 48000, .inl (upd g1 0 0)))]) (w1 := [(h7, .inr (0, (f4.set 14 (.int 0)))), (h2, .inr (6, ((((((((((((((((((((((((((((((f3.set 10 (.int 0)).set 11 (.int 0)).set 12 (.int 1)).set 11 (.int 0)).set 11 (.int 0)).set 11 (.int 0)).set 11 (.int 0)).set 11 (.int 0)).set 11 (.int 0)).set 11 (.int 0)).set 11 (.int 0)).set 11 (.int 0)).set 11 (.int 0)).set 11 (.int 0)).set 11 (.int 0)).set 11 (.int 0)).set 11 (.int 0)).set 11 (.int 0)).set 11 (.int 0)).set 11 (.int 0)).set 11 (.int 0)).set 11 (.int 0)).set 11 (.int 0)).set 11 (.int 0)).set 11 (.int 0)).set 11 (.int 0)).set 11 (.int 0)).set 11 (.int 0)).set 13 (.int 0)).set 13 (.int 1)))), (h6, .inl (cI, 48000, .inl (upd g2 0 0)))]) ⟨hx, hb, hml, hown, hts⟩ hN hX hAE hK hP hD hS hA [2, 3, 7] [0, 1, 4, 5, 6] (ci := 0) rfl rfl rfl rfl (by decide +kernel) (by decide +kernel) (by decide +kernel) (c_X0_tellCore_0 l E D cI cJ cB cZ h7 f4 h2 (((((((((((((((((((((((((((((((f3.set 10 (.int 0)).set 11 (.int 0)).set 12 (.int 1)).set 11 (.int 0)).set 11 (.int 0)).set 11 (.int 0)).set 11 (.int 0)).set 11 (.int 0)).set 11 (.int 0)).set 11 (.int 0)).set 11 (.int 0)).set 11 (.int 0)).set 11 (.int 0)).set 11 (.int 0)).set 11 (.int 0)).set 11 (.int 0)).set 11 (.int 0)).set 11 (.int 0)).set 11 (.int 0)).set 11 (.int 0)).set 11 (.int 0)).set 11 (.int 0)).set 11 (.int 0)).set 11 (.int 0)).set 11 (.int 0)).set 11 (.int 0)).set 11 (.int 0)).set 11 (.int 0)).set 13 (.int 0)).set 13 (.int 1))) h6 ((upd g2 0 0)) e15 e16 (k_set (k_set (k_ne (by decide) (k_ne (by decide) (k_ne (by decide) (k_ne (by decide) (k_ne (by decide) (k_ne (by decide) (k_ne (by decide) (k_ne (by decide) (k_ne (by decide) (k_ne (by decide) (k_ne (by decide) (k_ne (by decide) (k_ne (by decide) (k_ne (by decide) (k_ne (by decide) (k_ne (by decide) (k_ne (by decide) (k_ne (by decide) (k_ne (by decide) (k_ne (by decide) (k_ne (by decide) (k_ne (by decide) (k_ne (by decide) (k_ne (by decide) (k_ne (by decide) (k_ne (by decide) (k_ne (by decide) (k_ne (by decide) e11)))))))))))))))))))))))))))))) (k_ne (by decide) (k_ne (by decide) (k_ne (by decide) (k_ne (by decide) (k_ne (by decide) (k_ne (by decide) (k_ne (by decide) (k_ne (by decide) (k_ne (by decide) (k_ne (by decide) (k_ne (by decide) (k_ne (by decide) (k_ne (by decide) (k_ne (by decide) (k_ne (by decide) (k_ne (by decide) (k_ne (by decide) (k_ne (by decide) (k_ne (by decide) (k_ne (by decide) (k_ne (by decide) (k_ne (by decide) (k_ne (by decide) (k_ne (by decide) (k_ne (by decide) (k_ne (by decide) (k_ne (by decide) (k_set (k_ne (by decide) (k_ne (by decide) e9)))))))))))))))))))))))))))))) (k_ne (by decide) (k_ne (by decide) (k_ne (by decide) (k_ne (by decide) (k_ne (by decide) (k_ne (by decide) (k_ne (by decide) (k_ne (by decide) (k_ne (by decide) (k_ne (by decide) (k_ne (by decide) (k_ne (by decide) (k_ne (by decide) (k_ne (by decide) (k_ne (by decide) (k_ne (by decide) (k_ne (by decide) (k_ne (by decide) (k_ne (by decide) (k_ne (by decide) (k_ne (by decide) (k_ne (by decide) (k_ne (by decide) (k_ne (by decide) (k_ne (by decide) (k_ne (by decide) (k_ne (by decide) (k_ne (by decide) (k_ne (by decide) (k_ne (by decide) e13)))))))))))))))))))))))))))))) rfl) (cwV 1 hts gX11_core_X0_tellCore rfl rfl rfl (by decide +kernel) ⟨Nat.le_of_ble_eq_true rfl, Nat.le_of_ble_eq_true rfl⟩) rfl hl.1 (Nat.le_of_ble_eq_true rfl) dX11_core_41 ⟨Nat.le_of_ble_eq_true rfl, Nat.le_of_ble_eq_true rfl⟩ (fun H locs hP hD hS => ?_)
  have hP : va_P D vwCl [(h0, .inr (11, f0)), (h1, .inr (1, f1)), (h3, .inr (2, f2)), (h4, .inl (cI, 8192, .inl (upd (k_fill 0 8192 g0) 782 1))), (h5, .inl (cI, 48000, .inl (upd g1 0 0))), (h7, .inr (0, (f4.set 14 (.int 0)))), (h2, .inr (6, ((((((((((((((((((((((((((((((f3.set 10 (.int 0)).set 11 (.int 0)).set 12 (.int 1)).set 11 (.int 0)).set 11 (.int 0)).set 11 (.int 0)).set 11 (.int 0)).set 11 (.int 0)).set 11 (.int 0)).set 11 (.int 0)).set 11 (.int 0)).set 11 (.int 0)).set 11 (.int 0)).set 11 (.int 0)).set 11 (.int 0)).set 11 (.int 0)).set 11 (.int 0)).set 11 (.int 0)).set 11 (.int 0)).set 11 (.int 0)).set 11 (.int 0)).set 11 (.int 0)).set 11 (.int 0)).set 11 (.int 0)).set 11 (.int 0)).set 11 (.int 0)).set 11 (.int 0)).set 11 (.int 0)).set 13 (.int 0)).set 13 (.int 1)))), (h6, .inl (cI, 48000, .inl (upd g2 0 0)))] H := hP
  have hD : va_D A [(h0, .inr (11, f0)), (h1, .inr (1, f1)), (h3, .inr (2, f2)), (h4, .inl (cI, 8192, .inl (upd (k_fill 0 8192 g0) 782 1))), (h5, .inl (cI, 48000, .inl (upd g1 0 0))), (h7, .inr (0, (f4.set 14 (.int 0)))), (h2, .inr (6, ((((((((((((((((((((((((((((((f3.set 10 (.int 0)).set 11 (.int 0)).set 12 (.int 1)).set 11 (.int 0)).set 11 (.int 0)).set 11 (.int 0)).set 11 (.int 0)).set 11 (.int 0)).set 11 (.int 0)).set 11 (.int 0)).set 11 (.int 0)).set 11 (.int 0)).set 11 (.int 0)).set 11 (.int 0)).set 11 (.int 0)).set 11 (.int 0)).set 11 (.int 0)).set 11 (.int 0)).set 11 (.int 0)).set 11 (.int 0)).set 11 (.int 0)).set 11 (.int 0)).set 11 (.int 0)).set 11 (.int 0)).set 11 (.int 0)).set 11 (.int 0)).set 11 (.int 0)).set 11 (.int 0)).set 13 (.int 0)).set 13 (.int 1)))), (h6, .inl (cI, 48000, .inl (upd g2 0 0)))] := hD
  refine lv_goto (tgt := 49) hx hb dX11_core_44 (by decide) ?_
  have hP := hP.sub (ws' := [(h0, .inr (11, f0)), (h1, .inr (1, f1)), (h3, .inr (2, f2)), (h2, .inr (6, ((((((((((((((((((((((((((((((f3.set 10 (.int 0)).set 11 (.int 0)).set 12 (.int 1)).set 11 (.int 0)).set 11 (.int 0)).set 11 (.int 0)).set 11 (.int 0)).set 11 (.int 0)).set 11 (.int 0)).set 11 (.int 0)).set 11 (.int 0)).set 11 (.int 0)).set 11 (.int 0)).set 11 (.int 0)).set 11 (.int 0)).set 11 (.int 0)).set 11 (.int 0)).set 11 (.int 0)).set 11 (.int 0)).set 11 (.int 0)).set 11 (.int 0)).set 11 (.int 0)).set 11 (.int 0)).set 11 (.int 0)).set 11 (.int 0)).set 11 (.int 0)).set 11 (.int 0)).set 11 (.int 0)).set 13 (.int 0)).set 13 (.int 1)))), (h4, .inl (cI, 8192, .inl (upd (k_fill 0 8192 g0) 782 1))), (h5, .inl (cI, 48000, .inl (upd g1 0 0))), (h6, .inl (cI, 48000, .inl (upd g2 0 0))), (h7, .inr (0, (f4.set 14 (.int 0))))]) [0, 1, 2, 6, 3, 4, 7, 5] rfl
  have hD := hD.sub (ws' := [(h0, .inr (11, f0)), (h1, .inr (1, f1)), (h3, .inr (2, f2)), (h2, .inr (6, ((((((((((((((((((((((((((((((f3.set 10 (.int 0)).set 11 (.int 0)).set 12 (.int 1)).set 11 (.int 0)).set 11 (.int 0)).set 11 (.int 0)).set 11 (.int 0)).set 11 (.int 0)).set 11 (.int 0)).set 11 (.int 0)).set 11 (.int 0)).set 11 (.int 0)).set 11 (.int 0)).set 11 (.int 0)).set 11 (.int 0)).set 11 (.int 0)).set 11 (.int 0)).set 11 (.int 0)).set 11 (.int 0)).set 11 (.int 0)).set 11 (.int 0)).set 11 (.int 0)).set 11 (.int 0)).set 11 (.int 0)).set 11 (.int 0)).set 11 (.int 0)).set 11 (.int 0)).set 11 (.int 0)).set 13 (.int 0)).set 13 (.int 1)))), (h4, .inl (cI, 8192, .inl (upd (k_fill 0 8192 g0) 782 1))), (h5, .inl (cI, 48000, .inl (upd g1 0 0))), (h6, .inl (cI, 48000, .inl (upd g2 0 0))), (h7, .inr (0, (f4.set 14 (.int 0))))]) [0, 1, 2, 6, 3, 4, 7, 5] (by decide +kernel) rfl
  exact W.iret (v := 0) hx hb hr (fun t ht hW => ⟨⟨0, (), rfl, rfl, kB_mk ht hW hP hK hD⟩, hS.F ht⟩) hS.2.2 dX11_core_49
set_option maxHeartbeats 400000000 in
set_option maxRecDepth 100000 in
theorem c_X12_leaveNoneOut_0 (l : Launch) (E : kE) (D : va_G) (cI cJ cB cZ : ClassId) (h0 : Nat) (f0 : List Value) (h1 : Nat) (g0 : Nat → Int32) (e0 : f0[134]? = some (.ref h1)) : kV l E D (kT cI cJ cB cZ) yX12_leaveNoneOut wsX12_leaveNoneOut ({ frames := 0, cells := 0, slots := 0, locals := 0 }) [.ref h0] [(h0, .inr (12, f0)), (h1, .inl (cZ, 24, .inl g0))] (fun _ : Unit => [(h0, .inr (12, f0)), (h1, .inl (cZ, 24, .inl (upd (upd (upd (upd (upd (upd (upd (upd (upd (upd (upd (upd (upd (upd (upd (upd (upd (upd (upd (upd (upd (upd (upd (upd g0 0 0) 1 0) 2 0) 3 0) 4 0) 5 0) 6 0) 7 0) 8 0) 9 0) 10 0) 11 0) 12 0) 13 0) 14 0) 15 0) 16 0) 17 0) 18 0) 19 0) 20 0) 21 0) 22 0) 23 0)))]) 0 0 := by
  intro sz
  refine Met.ofW (cc := cX12_leaveNoneOut) (maxL := 2) (ret := none) (by decide) rfl ?_
  intro p e s m args below meth c s₁ B hml hv
  obtain ⟨rfl, hsz, hP, hK, hD0, hN, hX⟩ := hv
  have hx := B.exec
  have hb := B.bytes
  have hr := B.returns
  have hts := atoms_spec (ws := wsX12_leaveNoneOut) B.pre
  have hown : s.vm.findClass RX12 = some m.cls := findClass_of_methodNamed B.named
  have hlocks := B.notSynchronized
  have hin12 : ∀ w ∈ wsX120, w ∈ wsX12_leaveNoneOut := (fun w h => (List.mem_cons_of_mem _ (List.mem_append_right _ h)))
  subst hsz
  have hD := hD0.self (sz := s.heap.size)
  have hAE := k_AE hD0 hX
  generalize hAe : va_A [(h0, .inr (12, f0)), (h1, .inl (cZ, 24, .inl g0))] s.heap.size = A at hD hAE ⊢
  have hA : ∀ q : Nat, s.heap.size ≤ q → A q := fun q h => by rw [← hAe]; exact Or.inr h
  have hS : va_S A s.heap s.heap [] := va_S.rf
  have hP : va_P D vwCl [(h0, .inr (12, f0)), (h1, .inl (cZ, 24, .inl g0))] s.heap := hP
  have hl := lv_entry ([.ref h0] : List Value) (n := 2) (Nat.le_of_ble_eq_true rfl)
  rw [lg_entry_eq]
  generalize (lg_sl ([.ref h0]) ++ List.replicate (2 - (lg_sl ([.ref h0])).length) Slot.unset).toArray = ls at hl ⊢
  have hl : lv_has ls 2 [(0, .ref h0)] := hl
  refine lv_iconst (v := 0) hx hb dX12_leaveNoneOut_0 (by decide) ?_
  refine lv_istore_n (lv' := [(1, .int 0), (0, .ref h0)]) hx hb dX12_leaveNoneOut_1 rfl hl (by decide) rfl (fun ls hl => ?_)
  refine lv_iload_n hx hb dX12_leaveNoneOut_2 rfl (lv_at hl 0 rfl) ?_
  refine lv_bipush (v := 24) hx hb dX12_leaveNoneOut_3 (by decide) ?_
  refine lv_icmp_ge (tgt := 21) hx hb dX12_leaveNoneOut_5 (by decide) (fun c9 => absurd c9 (by decide)) (fun _ => ?_)
  refine lv_aload_n hx hb dX12_leaveNoneOut_8 rfl (lv_at hl 1 rfl) ?_
  refine va_get (D := D) (ref := "IntegerHouseModel") (ci := 12) (v := .ref h1) (C := RX12) (T := TX12) (N := 195) hx hb hts hin12 hown hK hP 0 rfl rfl 134 (by decide) (hts (.fieldLink RX12 340 "IntegerHouseModel" "isOut" "[Z") (List.mem_cons_of_mem _ (List.mem_append_left _ (List.mem_of_getElem? (i := 0) rfl)))) (fun _ h9 => h9) e0 dX12_leaveNoneOut_9 ?_
  refine lv_iload_n hx hb dX12_leaveNoneOut_12 rfl (lv_at hl 0 rfl) ?_
  refine lv_iconst (v := 0) hx hb dX12_leaveNoneOut_13 (by decide) ?_
  refine va_zast hx hb hK hP hD hS 1 3 rfl rfl (k_in (by decide)) dX12_leaveNoneOut_14 (fun H locs hP hD hS => ?_)
  have hP : va_P D vwCl [(h0, .inr (12, f0)), (h1, .inl (cZ, 24, .inl (upd g0 0 0)))] H := hP
  have hD : va_D A [(h0, .inr (12, f0)), (h1, .inl (cZ, 24, .inl (upd g0 0 0)))] := hD
  refine lv_iinc (v := 1) (lv' := [(1, .int 1), (0, .ref h0)]) hx hb dX12_leaveNoneOut_15 hl (k := 0) rfl (by decide) (by decide) rfl (fun ls hl => ?_)
  refine lv_goto (tgt := 2) hx hb dX12_leaveNoneOut_18 (by decide) ?_
  refine lv_iload_n hx hb dX12_leaveNoneOut_2 rfl (lv_at hl 0 rfl) ?_
  refine lv_bipush (v := 24) hx hb dX12_leaveNoneOut_3 (by decide) ?_
  refine lv_icmp_ge (tgt := 21) hx hb dX12_leaveNoneOut_5 (by decide) (fun c9 => absurd c9 (by decide)) (fun _ => ?_)
  refine lv_aload_n hx hb dX12_leaveNoneOut_8 rfl (lv_at hl 1 rfl) ?_
  refine va_get (D := D) (ref := "IntegerHouseModel") (ci := 12) (v := .ref h1) (C := RX12) (T := TX12) (N := 195) hx hb hts hin12 hown hK hP 0 rfl rfl 134 (by decide) (hts (.fieldLink RX12 340 "IntegerHouseModel" "isOut" "[Z") (List.mem_cons_of_mem _ (List.mem_append_left _ (List.mem_of_getElem? (i := 0) rfl)))) (fun _ h9 => h9) e0 dX12_leaveNoneOut_9 ?_
  refine lv_iload_n hx hb dX12_leaveNoneOut_12 rfl (lv_at hl 0 rfl) ?_
  refine lv_iconst (v := 0) hx hb dX12_leaveNoneOut_13 (by decide) ?_
  refine va_zast hx hb hK hP hD hS 1 3 rfl rfl (k_in (by decide)) dX12_leaveNoneOut_14 (fun H locs hP hD hS => ?_)
  have hP : va_P D vwCl [(h0, .inr (12, f0)), (h1, .inl (cZ, 24, .inl (upd (upd g0 0 0) 1 0)))] H := hP
  have hD : va_D A [(h0, .inr (12, f0)), (h1, .inl (cZ, 24, .inl (upd (upd g0 0 0) 1 0)))] := hD
  refine lv_iinc (v := 2) (lv' := [(1, .int 2), (0, .ref h0)]) hx hb dX12_leaveNoneOut_15 hl (k := 0) rfl (by decide) (by decide) rfl (fun ls hl => ?_)
  refine lv_goto (tgt := 2) hx hb dX12_leaveNoneOut_18 (by decide) ?_
  refine lv_iload_n hx hb dX12_leaveNoneOut_2 rfl (lv_at hl 0 rfl) ?_
  refine lv_bipush (v := 24) hx hb dX12_leaveNoneOut_3 (by decide) ?_
  refine lv_icmp_ge (tgt := 21) hx hb dX12_leaveNoneOut_5 (by decide) (fun c9 => absurd c9 (by decide)) (fun _ => ?_)
  refine lv_aload_n hx hb dX12_leaveNoneOut_8 rfl (lv_at hl 1 rfl) ?_
  refine va_get (D := D) (ref := "IntegerHouseModel") (ci := 12) (v := .ref h1) (C := RX12) (T := TX12) (N := 195) hx hb hts hin12 hown hK hP 0 rfl rfl 134 (by decide) (hts (.fieldLink RX12 340 "IntegerHouseModel" "isOut" "[Z") (List.mem_cons_of_mem _ (List.mem_append_left _ (List.mem_of_getElem? (i := 0) rfl)))) (fun _ h9 => h9) e0 dX12_leaveNoneOut_9 ?_
  refine lv_iload_n hx hb dX12_leaveNoneOut_12 rfl (lv_at hl 0 rfl) ?_
  refine lv_iconst (v := 0) hx hb dX12_leaveNoneOut_13 (by decide) ?_
  refine va_zast hx hb hK hP hD hS 1 3 rfl rfl (k_in (by decide)) dX12_leaveNoneOut_14 (fun H locs hP hD hS => ?_)
  have hP : va_P D vwCl [(h0, .inr (12, f0)), (h1, .inl (cZ, 24, .inl (upd (upd (upd g0 0 0) 1 0) 2 0)))] H := hP
  have hD : va_D A [(h0, .inr (12, f0)), (h1, .inl (cZ, 24, .inl (upd (upd (upd g0 0 0) 1 0) 2 0)))] := hD
  refine lv_iinc (v := 3) (lv' := [(1, .int 3), (0, .ref h0)]) hx hb dX12_leaveNoneOut_15 hl (k := 0) rfl (by decide) (by decide) rfl (fun ls hl => ?_)
  refine lv_goto (tgt := 2) hx hb dX12_leaveNoneOut_18 (by decide) ?_
  refine lv_iload_n hx hb dX12_leaveNoneOut_2 rfl (lv_at hl 0 rfl) ?_
  refine lv_bipush (v := 24) hx hb dX12_leaveNoneOut_3 (by decide) ?_
  refine lv_icmp_ge (tgt := 21) hx hb dX12_leaveNoneOut_5 (by decide) (fun c9 => absurd c9 (by decide)) (fun _ => ?_)
  refine lv_aload_n hx hb dX12_leaveNoneOut_8 rfl (lv_at hl 1 rfl) ?_
  refine va_get (D := D) (ref := "IntegerHouseModel") (ci := 12) (v := .ref h1) (C := RX12) (T := TX12) (N := 195) hx hb hts hin12 hown hK hP 0 rfl rfl 134 (by decide) (hts (.fieldLink RX12 340 "IntegerHouseModel" "isOut" "[Z") (List.mem_cons_of_mem _ (List.mem_append_left _ (List.mem_of_getElem? (i := 0) rfl)))) (fun _ h9 => h9) e0 dX12_leaveNoneOut_9 ?_
  refine lv_iload_n hx hb dX12_leaveNoneOut_12 rfl (lv_at hl 0 rfl) ?_
  refine lv_iconst (v := 0) hx hb dX12_leaveNoneOut_13 (by decide) ?_
  refine va_zast hx hb hK hP hD hS 1 3 rfl rfl (k_in (by decide)) dX12_leaveNoneOut_14 (fun H locs hP hD hS => ?_)
  have hP : va_P D vwCl [(h0, .inr (12, f0)), (h1, .inl (cZ, 24, .inl (upd (upd (upd (upd g0 0 0) 1 0) 2 0) 3 0)))] H := hP
  have hD : va_D A [(h0, .inr (12, f0)), (h1, .inl (cZ, 24, .inl (upd (upd (upd (upd g0 0 0) 1 0) 2 0) 3 0)))] := hD
  refine lv_iinc (v := 4) (lv' := [(1, .int 4), (0, .ref h0)]) hx hb dX12_leaveNoneOut_15 hl (k := 0) rfl (by decide) (by decide) rfl (fun ls hl => ?_)
  refine lv_goto (tgt := 2) hx hb dX12_leaveNoneOut_18 (by decide) ?_
  refine lv_iload_n hx hb dX12_leaveNoneOut_2 rfl (lv_at hl 0 rfl) ?_
  refine lv_bipush (v := 24) hx hb dX12_leaveNoneOut_3 (by decide) ?_
  refine lv_icmp_ge (tgt := 21) hx hb dX12_leaveNoneOut_5 (by decide) (fun c9 => absurd c9 (by decide)) (fun _ => ?_)
  refine lv_aload_n hx hb dX12_leaveNoneOut_8 rfl (lv_at hl 1 rfl) ?_
  refine va_get (D := D) (ref := "IntegerHouseModel") (ci := 12) (v := .ref h1) (C := RX12) (T := TX12) (N := 195) hx hb hts hin12 hown hK hP 0 rfl rfl 134 (by decide) (hts (.fieldLink RX12 340 "IntegerHouseModel" "isOut" "[Z") (List.mem_cons_of_mem _ (List.mem_append_left _ (List.mem_of_getElem? (i := 0) rfl)))) (fun _ h9 => h9) e0 dX12_leaveNoneOut_9 ?_
  refine lv_iload_n hx hb dX12_leaveNoneOut_12 rfl (lv_at hl 0 rfl) ?_
  refine lv_iconst (v := 0) hx hb dX12_leaveNoneOut_13 (by decide) ?_
  refine va_zast hx hb hK hP hD hS 1 3 rfl rfl (k_in (by decide)) dX12_leaveNoneOut_14 (fun H locs hP hD hS => ?_)
  have hP : va_P D vwCl [(h0, .inr (12, f0)), (h1, .inl (cZ, 24, .inl (upd (upd (upd (upd (upd g0 0 0) 1 0) 2 0) 3 0) 4 0)))] H := hP
  have hD : va_D A [(h0, .inr (12, f0)), (h1, .inl (cZ, 24, .inl (upd (upd (upd (upd (upd g0 0 0) 1 0) 2 0) 3 0) 4 0)))] := hD
  refine lv_iinc (v := 5) (lv' := [(1, .int 5), (0, .ref h0)]) hx hb dX12_leaveNoneOut_15 hl (k := 0) rfl (by decide) (by decide) rfl (fun ls hl => ?_)
  refine lv_goto (tgt := 2) hx hb dX12_leaveNoneOut_18 (by decide) ?_
  refine lv_iload_n hx hb dX12_leaveNoneOut_2 rfl (lv_at hl 0 rfl) ?_
  refine lv_bipush (v := 24) hx hb dX12_leaveNoneOut_3 (by decide) ?_
  refine lv_icmp_ge (tgt := 21) hx hb dX12_leaveNoneOut_5 (by decide) (fun c9 => absurd c9 (by decide)) (fun _ => ?_)
  refine lv_aload_n hx hb dX12_leaveNoneOut_8 rfl (lv_at hl 1 rfl) ?_
  refine va_get (D := D) (ref := "IntegerHouseModel") (ci := 12) (v := .ref h1) (C := RX12) (T := TX12) (N := 195) hx hb hts hin12 hown hK hP 0 rfl rfl 134 (by decide) (hts (.fieldLink RX12 340 "IntegerHouseModel" "isOut" "[Z") (List.mem_cons_of_mem _ (List.mem_append_left _ (List.mem_of_getElem? (i := 0) rfl)))) (fun _ h9 => h9) e0 dX12_leaveNoneOut_9 ?_
  refine lv_iload_n hx hb dX12_leaveNoneOut_12 rfl (lv_at hl 0 rfl) ?_
  refine lv_iconst (v := 0) hx hb dX12_leaveNoneOut_13 (by decide) ?_
  refine va_zast hx hb hK hP hD hS 1 3 rfl rfl (k_in (by decide)) dX12_leaveNoneOut_14 (fun H locs hP hD hS => ?_)
  have hP : va_P D vwCl [(h0, .inr (12, f0)), (h1, .inl (cZ, 24, .inl (upd (upd (upd (upd (upd (upd g0 0 0) 1 0) 2 0) 3 0) 4 0) 5 0)))] H := hP
  have hD : va_D A [(h0, .inr (12, f0)), (h1, .inl (cZ, 24, .inl (upd (upd (upd (upd (upd (upd g0 0 0) 1 0) 2 0) 3 0) 4 0) 5 0)))] := hD
  refine lv_iinc (v := 6) (lv' := [(1, .int 6), (0, .ref h0)]) hx hb dX12_leaveNoneOut_15 hl (k := 0) rfl (by decide) (by decide) rfl (fun ls hl => ?_)
  refine lv_goto (tgt := 2) hx hb dX12_leaveNoneOut_18 (by decide) ?_
  refine lv_iload_n hx hb dX12_leaveNoneOut_2 rfl (lv_at hl 0 rfl) ?_
  refine lv_bipush (v := 24) hx hb dX12_leaveNoneOut_3 (by decide) ?_
  refine lv_icmp_ge (tgt := 21) hx hb dX12_leaveNoneOut_5 (by decide) (fun c9 => absurd c9 (by decide)) (fun _ => ?_)
  refine lv_aload_n hx hb dX12_leaveNoneOut_8 rfl (lv_at hl 1 rfl) ?_
  refine va_get (D := D) (ref := "IntegerHouseModel") (ci := 12) (v := .ref h1) (C := RX12) (T := TX12) (N := 195) hx hb hts hin12 hown hK hP 0 rfl rfl 134 (by decide) (hts (.fieldLink RX12 340 "IntegerHouseModel" "isOut" "[Z") (List.mem_cons_of_mem _ (List.mem_append_left _ (List.mem_of_getElem? (i := 0) rfl)))) (fun _ h9 => h9) e0 dX12_leaveNoneOut_9 ?_
  refine lv_iload_n hx hb dX12_leaveNoneOut_12 rfl (lv_at hl 0 rfl) ?_
  refine lv_iconst (v := 0) hx hb dX12_leaveNoneOut_13 (by decide) ?_
  refine va_zast hx hb hK hP hD hS 1 3 rfl rfl (k_in (by decide)) dX12_leaveNoneOut_14 (fun H locs hP hD hS => ?_)
  have hP : va_P D vwCl [(h0, .inr (12, f0)), (h1, .inl (cZ, 24, .inl (upd (upd (upd (upd (upd (upd (upd g0 0 0) 1 0) 2 0) 3 0) 4 0) 5 0) 6 0)))] H := hP
  have hD : va_D A [(h0, .inr (12, f0)), (h1, .inl (cZ, 24, .inl (upd (upd (upd (upd (upd (upd (upd g0 0 0) 1 0) 2 0) 3 0) 4 0) 5 0) 6 0)))] := hD
  refine lv_iinc (v := 7) (lv' := [(1, .int 7), (0, .ref h0)]) hx hb dX12_leaveNoneOut_15 hl (k := 0) rfl (by decide) (by decide) rfl (fun ls hl => ?_)
  refine lv_goto (tgt := 2) hx hb dX12_leaveNoneOut_18 (by decide) ?_
  refine lv_iload_n hx hb dX12_leaveNoneOut_2 rfl (lv_at hl 0 rfl) ?_
  refine lv_bipush (v := 24) hx hb dX12_leaveNoneOut_3 (by decide) ?_
  refine lv_icmp_ge (tgt := 21) hx hb dX12_leaveNoneOut_5 (by decide) (fun c9 => absurd c9 (by decide)) (fun _ => ?_)
  refine lv_aload_n hx hb dX12_leaveNoneOut_8 rfl (lv_at hl 1 rfl) ?_
  refine va_get (D := D) (ref := "IntegerHouseModel") (ci := 12) (v := .ref h1) (C := RX12) (T := TX12) (N := 195) hx hb hts hin12 hown hK hP 0 rfl rfl 134 (by decide) (hts (.fieldLink RX12 340 "IntegerHouseModel" "isOut" "[Z") (List.mem_cons_of_mem _ (List.mem_append_left _ (List.mem_of_getElem? (i := 0) rfl)))) (fun _ h9 => h9) e0 dX12_leaveNoneOut_9 ?_
  refine lv_iload_n hx hb dX12_leaveNoneOut_12 rfl (lv_at hl 0 rfl) ?_
  refine lv_iconst (v := 0) hx hb dX12_leaveNoneOut_13 (by decide) ?_
  refine va_zast hx hb hK hP hD hS 1 3 rfl rfl (k_in (by decide)) dX12_leaveNoneOut_14 (fun H locs hP hD hS => ?_)
  have hP : va_P D vwCl [(h0, .inr (12, f0)), (h1, .inl (cZ, 24, .inl (upd (upd (upd (upd (upd (upd (upd (upd g0 0 0) 1 0) 2 0) 3 0) 4 0) 5 0) 6 0) 7 0)))] H := hP
  have hD : va_D A [(h0, .inr (12, f0)), (h1, .inl (cZ, 24, .inl (upd (upd (upd (upd (upd (upd (upd (upd g0 0 0) 1 0) 2 0) 3 0) 4 0) 5 0) 6 0) 7 0)))] := hD
  refine lv_iinc (v := 8) (lv' := [(1, .int 8), (0, .ref h0)]) hx hb dX12_leaveNoneOut_15 hl (k := 0) rfl (by decide) (by decide) rfl (fun ls hl => ?_)
  refine lv_goto (tgt := 2) hx hb dX12_leaveNoneOut_18 (by decide) ?_
  refine lv_iload_n hx hb dX12_leaveNoneOut_2 rfl (lv_at hl 0 rfl) ?_
  refine lv_bipush (v := 24) hx hb dX12_leaveNoneOut_3 (by decide) ?_
  refine lv_icmp_ge (tgt := 21) hx hb dX12_leaveNoneOut_5 (by decide) (fun c9 => absurd c9 (by decide)) (fun _ => ?_)
  refine lv_aload_n hx hb dX12_leaveNoneOut_8 rfl (lv_at hl 1 rfl) ?_
  refine va_get (D := D) (ref := "IntegerHouseModel") (ci := 12) (v := .ref h1) (C := RX12) (T := TX12) (N := 195) hx hb hts hin12 hown hK hP 0 rfl rfl 134 (by decide) (hts (.fieldLink RX12 340 "IntegerHouseModel" "isOut" "[Z") (List.mem_cons_of_mem _ (List.mem_append_left _ (List.mem_of_getElem? (i := 0) rfl)))) (fun _ h9 => h9) e0 dX12_leaveNoneOut_9 ?_
  refine lv_iload_n hx hb dX12_leaveNoneOut_12 rfl (lv_at hl 0 rfl) ?_
  refine lv_iconst (v := 0) hx hb dX12_leaveNoneOut_13 (by decide) ?_
  refine va_zast hx hb hK hP hD hS 1 3 rfl rfl (k_in (by decide)) dX12_leaveNoneOut_14 (fun H locs hP hD hS => ?_)
  have hP : va_P D vwCl [(h0, .inr (12, f0)), (h1, .inl (cZ, 24, .inl (upd (upd (upd (upd (upd (upd (upd (upd (upd g0 0 0) 1 0) 2 0) 3 0) 4 0) 5 0) 6 0) 7 0) 8 0)))] H := hP
  have hD : va_D A [(h0, .inr (12, f0)), (h1, .inl (cZ, 24, .inl (upd (upd (upd (upd (upd (upd (upd (upd (upd g0 0 0) 1 0) 2 0) 3 0) 4 0) 5 0) 6 0) 7 0) 8 0)))] := hD
  refine lv_iinc (v := 9) (lv' := [(1, .int 9), (0, .ref h0)]) hx hb dX12_leaveNoneOut_15 hl (k := 0) rfl (by decide) (by decide) rfl (fun ls hl => ?_)
  refine lv_goto (tgt := 2) hx hb dX12_leaveNoneOut_18 (by decide) ?_
  refine lv_iload_n hx hb dX12_leaveNoneOut_2 rfl (lv_at hl 0 rfl) ?_
  refine lv_bipush (v := 24) hx hb dX12_leaveNoneOut_3 (by decide) ?_
  refine lv_icmp_ge (tgt := 21) hx hb dX12_leaveNoneOut_5 (by decide) (fun c9 => absurd c9 (by decide)) (fun _ => ?_)
  refine lv_aload_n hx hb dX12_leaveNoneOut_8 rfl (lv_at hl 1 rfl) ?_
  refine va_get (D := D) (ref := "IntegerHouseModel") (ci := 12) (v := .ref h1) (C := RX12) (T := TX12) (N := 195) hx hb hts hin12 hown hK hP 0 rfl rfl 134 (by decide) (hts (.fieldLink RX12 340 "IntegerHouseModel" "isOut" "[Z") (List.mem_cons_of_mem _ (List.mem_append_left _ (List.mem_of_getElem? (i := 0) rfl)))) (fun _ h9 => h9) e0 dX12_leaveNoneOut_9 ?_
  refine lv_iload_n hx hb dX12_leaveNoneOut_12 rfl (lv_at hl 0 rfl) ?_
  refine lv_iconst (v := 0) hx hb dX12_leaveNoneOut_13 (by decide) ?_
  refine va_zast hx hb hK hP hD hS 1 3 rfl rfl (k_in (by decide)) dX12_leaveNoneOut_14 (fun H locs hP hD hS => ?_)
  have hP : va_P D vwCl [(h0, .inr (12, f0)), (h1, .inl (cZ, 24, .inl (upd (upd (upd (upd (upd (upd (upd (upd (upd (upd g0 0 0) 1 0) 2 0) 3 0) 4 0) 5 0) 6 0) 7 0) 8 0) 9 0)))] H := hP
  have hD : va_D A [(h0, .inr (12, f0)), (h1, .inl (cZ, 24, .inl (upd (upd (upd (upd (upd (upd (upd (upd (upd (upd g0 0 0) 1 0) 2 0) 3 0) 4 0) 5 0) 6 0) 7 0) 8 0) 9 0)))] := hD
  refine lv_iinc (v := 10) (lv' := [(1, .int 10), (0, .ref h0)]) hx hb dX12_leaveNoneOut_15 hl (k := 0) rfl (by decide) (by decide) rfl (fun ls hl => ?_)
  refine lv_goto (tgt := 2) hx hb dX12_leaveNoneOut_18 (by decide) ?_
  refine lv_iload_n hx hb dX12_leaveNoneOut_2 rfl (lv_at hl 0 rfl) ?_
  refine lv_bipush (v := 24) hx hb dX12_leaveNoneOut_3 (by decide) ?_
  refine lv_icmp_ge (tgt := 21) hx hb dX12_leaveNoneOut_5 (by decide) (fun c9 => absurd c9 (by decide)) (fun _ => ?_)
  refine lv_aload_n hx hb dX12_leaveNoneOut_8 rfl (lv_at hl 1 rfl) ?_
  refine va_get (D := D) (ref := "IntegerHouseModel") (ci := 12) (v := .ref h1) (C := RX12) (T := TX12) (N := 195) hx hb hts hin12 hown hK hP 0 rfl rfl 134 (by decide) (hts (.fieldLink RX12 340 "IntegerHouseModel" "isOut" "[Z") (List.mem_cons_of_mem _ (List.mem_append_left _ (List.mem_of_getElem? (i := 0) rfl)))) (fun _ h9 => h9) e0 dX12_leaveNoneOut_9 ?_
  refine lv_iload_n hx hb dX12_leaveNoneOut_12 rfl (lv_at hl 0 rfl) ?_
  refine lv_iconst (v := 0) hx hb dX12_leaveNoneOut_13 (by decide) ?_
  refine va_zast hx hb hK hP hD hS 1 3 rfl rfl (k_in (by decide)) dX12_leaveNoneOut_14 (fun H locs hP hD hS => ?_)
  have hP : va_P D vwCl [(h0, .inr (12, f0)), (h1, .inl (cZ, 24, .inl (upd (upd (upd (upd (upd (upd (upd (upd (upd (upd (upd g0 0 0) 1 0) 2 0) 3 0) 4 0) 5 0) 6 0) 7 0) 8 0) 9 0) 10 0)))] H := hP
  have hD : va_D A [(h0, .inr (12, f0)), (h1, .inl (cZ, 24, .inl (upd (upd (upd (upd (upd (upd (upd (upd (upd (upd (upd g0 0 0) 1 0) 2 0) 3 0) 4 0) 5 0) 6 0) 7 0) 8 0) 9 0) 10 0)))] := hD
  refine lv_iinc (v := 11) (lv' := [(1, .int 11), (0, .ref h0)]) hx hb dX12_leaveNoneOut_15 hl (k := 0) rfl (by decide) (by decide) rfl (fun ls hl => ?_)
  refine lv_goto (tgt := 2) hx hb dX12_leaveNoneOut_18 (by decide) ?_
  refine lv_iload_n hx hb dX12_leaveNoneOut_2 rfl (lv_at hl 0 rfl) ?_
  refine lv_bipush (v := 24) hx hb dX12_leaveNoneOut_3 (by decide) ?_
  refine lv_icmp_ge (tgt := 21) hx hb dX12_leaveNoneOut_5 (by decide) (fun c9 => absurd c9 (by decide)) (fun _ => ?_)
  refine lv_aload_n hx hb dX12_leaveNoneOut_8 rfl (lv_at hl 1 rfl) ?_
  refine va_get (D := D) (ref := "IntegerHouseModel") (ci := 12) (v := .ref h1) (C := RX12) (T := TX12) (N := 195) hx hb hts hin12 hown hK hP 0 rfl rfl 134 (by decide) (hts (.fieldLink RX12 340 "IntegerHouseModel" "isOut" "[Z") (List.mem_cons_of_mem _ (List.mem_append_left _ (List.mem_of_getElem? (i := 0) rfl)))) (fun _ h9 => h9) e0 dX12_leaveNoneOut_9 ?_
  refine lv_iload_n hx hb dX12_leaveNoneOut_12 rfl (lv_at hl 0 rfl) ?_
  refine lv_iconst (v := 0) hx hb dX12_leaveNoneOut_13 (by decide) ?_
  refine va_zast hx hb hK hP hD hS 1 3 rfl rfl (k_in (by decide)) dX12_leaveNoneOut_14 (fun H locs hP hD hS => ?_)
  have hP : va_P D vwCl [(h0, .inr (12, f0)), (h1, .inl (cZ, 24, .inl (upd (upd (upd (upd (upd (upd (upd (upd (upd (upd (upd (upd g0 0 0) 1 0) 2 0) 3 0) 4 0) 5 0) 6 0) 7 0) 8 0) 9 0) 10 0) 11 0)))] H := hP
  have hD : va_D A [(h0, .inr (12, f0)), (h1, .inl (cZ, 24, .inl (upd (upd (upd (upd (upd (upd (upd (upd (upd (upd (upd (upd g0 0 0) 1 0) 2 0) 3 0) 4 0) 5 0) 6 0) 7 0) 8 0) 9 0) 10 0) 11 0)))] := hD
  refine lv_iinc (v := 12) (lv' := [(1, .int 12), (0, .ref h0)]) hx hb dX12_leaveNoneOut_15 hl (k := 0) rfl (by decide) (by decide) rfl (fun ls hl => ?_)
  refine lv_goto (tgt := 2) hx hb dX12_leaveNoneOut_18 (by decide) ?_
  refine lv_iload_n hx hb dX12_leaveNoneOut_2 rfl (lv_at hl 0 rfl) ?_
  refine lv_bipush (v := 24) hx hb dX12_leaveNoneOut_3 (by decide) ?_
  refine lv_icmp_ge (tgt := 21) hx hb dX12_leaveNoneOut_5 (by decide) (fun c9 => absurd c9 (by decide)) (fun _ => ?_)
  refine lv_aload_n hx hb dX12_leaveNoneOut_8 rfl (lv_at hl 1 rfl) ?_
  refine va_get (D := D) (ref := "IntegerHouseModel") (ci := 12) (v := .ref h1) (C := RX12) (T := TX12) (N := 195) hx hb hts hin12 hown hK hP 0 rfl rfl 134 (by decide) (hts (.fieldLink RX12 340 "IntegerHouseModel" "isOut" "[Z") (List.mem_cons_of_mem _ (List.mem_append_left _ (List.mem_of_getElem? (i := 0) rfl)))) (fun _ h9 => h9) e0 dX12_leaveNoneOut_9 ?_
  refine lv_iload_n hx hb dX12_leaveNoneOut_12 rfl (lv_at hl 0 rfl) ?_
  refine lv_iconst (v := 0) hx hb dX12_leaveNoneOut_13 (by decide) ?_
  refine va_zast hx hb hK hP hD hS 1 3 rfl rfl (k_in (by decide)) dX12_leaveNoneOut_14 (fun H locs hP hD hS => ?_)
  have hP : va_P D vwCl [(h0, .inr (12, f0)), (h1, .inl (cZ, 24, .inl (upd (upd (upd (upd (upd (upd (upd (upd (upd (upd (upd (upd (upd g0 0 0) 1 0) 2 0) 3 0) 4 0) 5 0) 6 0) 7 0) 8 0) 9 0) 10 0) 11 0) 12 0)))] H := hP
  have hD : va_D A [(h0, .inr (12, f0)), (h1, .inl (cZ, 24, .inl (upd (upd (upd (upd (upd (upd (upd (upd (upd (upd (upd (upd (upd g0 0 0) 1 0) 2 0) 3 0) 4 0) 5 0) 6 0) 7 0) 8 0) 9 0) 10 0) 11 0) 12 0)))] := hD
  refine lv_iinc (v := 13) (lv' := [(1, .int 13), (0, .ref h0)]) hx hb dX12_leaveNoneOut_15 hl (k := 0) rfl (by decide) (by decide) rfl (fun ls hl => ?_)
  refine lv_goto (tgt := 2) hx hb dX12_leaveNoneOut_18 (by decide) ?_
  refine lv_iload_n hx hb dX12_leaveNoneOut_2 rfl (lv_at hl 0 rfl) ?_
  refine lv_bipush (v := 24) hx hb dX12_leaveNoneOut_3 (by decide) ?_
  refine lv_icmp_ge (tgt := 21) hx hb dX12_leaveNoneOut_5 (by decide) (fun c9 => absurd c9 (by decide)) (fun _ => ?_)
  refine lv_aload_n hx hb dX12_leaveNoneOut_8 rfl (lv_at hl 1 rfl) ?_
  refine va_get (D := D) (ref := "IntegerHouseModel") (ci := 12) (v := .ref h1) (C := RX12) (T := TX12) (N := 195) hx hb hts hin12 hown hK hP 0 rfl rfl 134 (by decide) (hts (.fieldLink RX12 340 "IntegerHouseModel" "isOut" "[Z") (List.mem_cons_of_mem _ (List.mem_append_left _ (List.mem_of_getElem? (i := 0) rfl)))) (fun _ h9 => h9) e0 dX12_leaveNoneOut_9 ?_
  refine lv_iload_n hx hb dX12_leaveNoneOut_12 rfl (lv_at hl 0 rfl) ?_
  refine lv_iconst (v := 0) hx hb dX12_leaveNoneOut_13 (by decide) ?_
  refine va_zast hx hb hK hP hD hS 1 3 rfl rfl (k_in (by decide)) dX12_leaveNoneOut_14 (fun H locs hP hD hS => ?_)
  have hP : va_P D vwCl [(h0, .inr (12, f0)), (h1, .inl (cZ, 24, .inl (upd (upd (upd (upd (upd (upd (upd (upd (upd (upd (upd (upd (upd (upd g0 0 0) 1 0) 2 0) 3 0) 4 0) 5 0) 6 0) 7 0) 8 0) 9 0) 10 0) 11 0) 12 0) 13 0)))] H := hP
  have hD : va_D A [(h0, .inr (12, f0)), (h1, .inl (cZ, 24, .inl (upd (upd (upd (upd (upd (upd (upd (upd (upd (upd (upd (upd (upd (upd g0 0 0) 1 0) 2 0) 3 0) 4 0) 5 0) 6 0) 7 0) 8 0) 9 0) 10 0) 11 0) 12 0) 13 0)))] := hD
  refine lv_iinc (v := 14) (lv' := [(1, .int 14), (0, .ref h0)]) hx hb dX12_leaveNoneOut_15 hl (k := 0) rfl (by decide) (by decide) rfl (fun ls hl => ?_)
  refine lv_goto (tgt := 2) hx hb dX12_leaveNoneOut_18 (by decide) ?_
  refine lv_iload_n hx hb dX12_leaveNoneOut_2 rfl (lv_at hl 0 rfl) ?_
  refine lv_bipush (v := 24) hx hb dX12_leaveNoneOut_3 (by decide) ?_
  refine lv_icmp_ge (tgt := 21) hx hb dX12_leaveNoneOut_5 (by decide) (fun c9 => absurd c9 (by decide)) (fun _ => ?_)
  refine lv_aload_n hx hb dX12_leaveNoneOut_8 rfl (lv_at hl 1 rfl) ?_
  refine va_get (D := D) (ref := "IntegerHouseModel") (ci := 12) (v := .ref h1) (C := RX12) (T := TX12) (N := 195) hx hb hts hin12 hown hK hP 0 rfl rfl 134 (by decide) (hts (.fieldLink RX12 340 "IntegerHouseModel" "isOut" "[Z") (List.mem_cons_of_mem _ (List.mem_append_left _ (List.mem_of_getElem? (i := 0) rfl)))) (fun _ h9 => h9) e0 dX12_leaveNoneOut_9 ?_
  refine lv_iload_n hx hb dX12_leaveNoneOut_12 rfl (lv_at hl 0 rfl) ?_
  refine lv_iconst (v := 0) hx hb dX12_leaveNoneOut_13 (by decide) ?_
  refine va_zast hx hb hK hP hD hS 1 3 rfl rfl (k_in (by decide)) dX12_leaveNoneOut_14 (fun H locs hP hD hS => ?_)
  have hP : va_P D vwCl [(h0, .inr (12, f0)), (h1, .inl (cZ, 24, .inl (upd (upd (upd (upd (upd (upd (upd (upd (upd (upd (upd (upd (upd (upd (upd g0 0 0) 1 0) 2 0) 3 0) 4 0) 5 0) 6 0) 7 0) 8 0) 9 0) 10 0) 11 0) 12 0) 13 0) 14 0)))] H := hP
  have hD : va_D A [(h0, .inr (12, f0)), (h1, .inl (cZ, 24, .inl (upd (upd (upd (upd (upd (upd (upd (upd (upd (upd (upd (upd (upd (upd (upd g0 0 0) 1 0) 2 0) 3 0) 4 0) 5 0) 6 0) 7 0) 8 0) 9 0) 10 0) 11 0) 12 0) 13 0) 14 0)))] := hD
  refine lv_iinc (v := 15) (lv' := [(1, .int 15), (0, .ref h0)]) hx hb dX12_leaveNoneOut_15 hl (k := 0) rfl (by decide) (by decide) rfl (fun ls hl => ?_)
  refine lv_goto (tgt := 2) hx hb dX12_leaveNoneOut_18 (by decide) ?_
  refine lv_iload_n hx hb dX12_leaveNoneOut_2 rfl (lv_at hl 0 rfl) ?_
  refine lv_bipush (v := 24) hx hb dX12_leaveNoneOut_3 (by decide) ?_
  refine lv_icmp_ge (tgt := 21) hx hb dX12_leaveNoneOut_5 (by decide) (fun c9 => absurd c9 (by decide)) (fun _ => ?_)
  refine lv_aload_n hx hb dX12_leaveNoneOut_8 rfl (lv_at hl 1 rfl) ?_
  refine va_get (D := D) (ref := "IntegerHouseModel") (ci := 12) (v := .ref h1) (C := RX12) (T := TX12) (N := 195) hx hb hts hin12 hown hK hP 0 rfl rfl 134 (by decide) (hts (.fieldLink RX12 340 "IntegerHouseModel" "isOut" "[Z") (List.mem_cons_of_mem _ (List.mem_append_left _ (List.mem_of_getElem? (i := 0) rfl)))) (fun _ h9 => h9) e0 dX12_leaveNoneOut_9 ?_
  refine lv_iload_n hx hb dX12_leaveNoneOut_12 rfl (lv_at hl 0 rfl) ?_
  refine lv_iconst (v := 0) hx hb dX12_leaveNoneOut_13 (by decide) ?_
  refine va_zast hx hb hK hP hD hS 1 3 rfl rfl (k_in (by decide)) dX12_leaveNoneOut_14 (fun H locs hP hD hS => ?_)
  have hP : va_P D vwCl [(h0, .inr (12, f0)), (h1, .inl (cZ, 24, .inl (upd (upd (upd (upd (upd (upd (upd (upd (upd (upd (upd (upd (upd (upd (upd (upd g0 0 0) 1 0) 2 0) 3 0) 4 0) 5 0) 6 0) 7 0) 8 0) 9 0) 10 0) 11 0) 12 0) 13 0) 14 0) 15 0)))] H := hP
  have hD : va_D A [(h0, .inr (12, f0)), (h1, .inl (cZ, 24, .inl (upd (upd (upd (upd (upd (upd (upd (upd (upd (upd (upd (upd (upd (upd (upd (upd g0 0 0) 1 0) 2 0) 3 0) 4 0) 5 0) 6 0) 7 0) 8 0) 9 0) 10 0) 11 0) 12 0) 13 0) 14 0) 15 0)))] := hD
  refine lv_iinc (v := 16) (lv' := [(1, .int 16), (0, .ref h0)]) hx hb dX12_leaveNoneOut_15 hl (k := 0) rfl (by decide) (by decide) rfl (fun ls hl => ?_)
  refine lv_goto (tgt := 2) hx hb dX12_leaveNoneOut_18 (by decide) ?_
  refine lv_iload_n hx hb dX12_leaveNoneOut_2 rfl (lv_at hl 0 rfl) ?_
  refine lv_bipush (v := 24) hx hb dX12_leaveNoneOut_3 (by decide) ?_
  refine lv_icmp_ge (tgt := 21) hx hb dX12_leaveNoneOut_5 (by decide) (fun c9 => absurd c9 (by decide)) (fun _ => ?_)
  refine lv_aload_n hx hb dX12_leaveNoneOut_8 rfl (lv_at hl 1 rfl) ?_
  refine va_get (D := D) (ref := "IntegerHouseModel") (ci := 12) (v := .ref h1) (C := RX12) (T := TX12) (N := 195) hx hb hts hin12 hown hK hP 0 rfl rfl 134 (by decide) (hts (.fieldLink RX12 340 "IntegerHouseModel" "isOut" "[Z") (List.mem_cons_of_mem _ (List.mem_append_left _ (List.mem_of_getElem? (i := 0) rfl)))) (fun _ h9 => h9) e0 dX12_leaveNoneOut_9 ?_
  refine lv_iload_n hx hb dX12_leaveNoneOut_12 rfl (lv_at hl 0 rfl) ?_
  refine lv_iconst (v := 0) hx hb dX12_leaveNoneOut_13 (by decide) ?_
  refine va_zast hx hb hK hP hD hS 1 3 rfl rfl (k_in (by decide)) dX12_leaveNoneOut_14 (fun H locs hP hD hS => ?_)
  have hP : va_P D vwCl [(h0, .inr (12, f0)), (h1, .inl (cZ, 24, .inl (upd (upd (upd (upd (upd (upd (upd (upd (upd (upd (upd (upd (upd (upd (upd (upd (upd g0 0 0) 1 0) 2 0) 3 0) 4 0) 5 0) 6 0) 7 0) 8 0) 9 0) 10 0) 11 0) 12 0) 13 0) 14 0) 15 0) 16 0)))] H := hP
  have hD : va_D A [(h0, .inr (12, f0)), (h1, .inl (cZ, 24, .inl (upd (upd (upd (upd (upd (upd (upd (upd (upd (upd (upd (upd (upd (upd (upd (upd (upd g0 0 0) 1 0) 2 0) 3 0) 4 0) 5 0) 6 0) 7 0) 8 0) 9 0) 10 0) 11 0) 12 0) 13 0) 14 0) 15 0) 16 0)))] := hD
  refine lv_iinc (v := 17) (lv' := [(1, .int 17), (0, .ref h0)]) hx hb dX12_leaveNoneOut_15 hl (k := 0) rfl (by decide) (by decide) rfl (fun ls hl => ?_)
  refine lv_goto (tgt := 2) hx hb dX12_leaveNoneOut_18 (by decide) ?_
  refine lv_iload_n hx hb dX12_leaveNoneOut_2 rfl (lv_at hl 0 rfl) ?_
  refine lv_bipush (v := 24) hx hb dX12_leaveNoneOut_3 (by decide) ?_
  refine lv_icmp_ge (tgt := 21) hx hb dX12_leaveNoneOut_5 (by decide) (fun c9 => absurd c9 (by decide)) (fun _ => ?_)
  refine lv_aload_n hx hb dX12_leaveNoneOut_8 rfl (lv_at hl 1 rfl) ?_
  refine va_get (D := D) (ref := "IntegerHouseModel") (ci := 12) (v := .ref h1) (C := RX12) (T := TX12) (N := 195) hx hb hts hin12 hown hK hP 0 rfl rfl 134 (by decide) (hts (.fieldLink RX12 340 "IntegerHouseModel" "isOut" "[Z") (List.mem_cons_of_mem _ (List.mem_append_left _ (List.mem_of_getElem? (i := 0) rfl)))) (fun _ h9 => h9) e0 dX12_leaveNoneOut_9 ?_
  refine lv_iload_n hx hb dX12_leaveNoneOut_12 rfl (lv_at hl 0 rfl) ?_
  refine lv_iconst (v := 0) hx hb dX12_leaveNoneOut_13 (by decide) ?_
  refine va_zast hx hb hK hP hD hS 1 3 rfl rfl (k_in (by decide)) dX12_leaveNoneOut_14 (fun H locs hP hD hS => ?_)
  have hP : va_P D vwCl [(h0, .inr (12, f0)), (h1, .inl (cZ, 24, .inl (upd (upd (upd (upd (upd (upd (upd (upd (upd (upd (upd (upd (upd (upd (upd (upd (upd (upd g0 0 0) 1 0) 2 0) 3 0) 4 0) 5 0) 6 0) 7 0) 8 0) 9 0) 10 0) 11 0) 12 0) 13 0) 14 0) 15 0) 16 0) 17 0)))] H := hP
  have hD : va_D A [(h0, .inr (12, f0)), (h1, .inl (cZ, 24, .inl (upd (upd (upd (upd (upd (upd (upd (upd (upd (upd (upd (upd (upd (upd (upd (upd (upd (upd g0 0 0) 1 0) 2 0) 3 0) 4 0) 5 0) 6 0) 7 0) 8 0) 9 0) 10 0) 11 0) 12 0) 13 0) 14 0) 15 0) 16 0) 17 0)))] := hD
  refine lv_iinc (v := 18) (lv' := [(1, .int 18), (0, .ref h0)]) hx hb dX12_leaveNoneOut_15 hl (k := 0) rfl (by decide) (by decide) rfl (fun ls hl => ?_)
  refine lv_goto (tgt := 2) hx hb dX12_leaveNoneOut_18 (by decide) ?_
  refine lv_iload_n hx hb dX12_leaveNoneOut_2 rfl (lv_at hl 0 rfl) ?_
  refine lv_bipush (v := 24) hx hb dX12_leaveNoneOut_3 (by decide) ?_
  refine lv_icmp_ge (tgt := 21) hx hb dX12_leaveNoneOut_5 (by decide) (fun c9 => absurd c9 (by decide)) (fun _ => ?_)
  refine lv_aload_n hx hb dX12_leaveNoneOut_8 rfl (lv_at hl 1 rfl) ?_
  refine va_get (D := D) (ref := "IntegerHouseModel") (ci := 12) (v := .ref h1) (C := RX12) (T := TX12) (N := 195) hx hb hts hin12 hown hK hP 0 rfl rfl 134 (by decide) (hts (.fieldLink RX12 340 "IntegerHouseModel" "isOut" "[Z") (List.mem_cons_of_mem _ (List.mem_append_left _ (List.mem_of_getElem? (i := 0) rfl)))) (fun _ h9 => h9) e0 dX12_leaveNoneOut_9 ?_
  refine lv_iload_n hx hb dX12_leaveNoneOut_12 rfl (lv_at hl 0 rfl) ?_
  refine lv_iconst (v := 0) hx hb dX12_leaveNoneOut_13 (by decide) ?_
  refine va_zast hx hb hK hP hD hS 1 3 rfl rfl (k_in (by decide)) dX12_leaveNoneOut_14 (fun H locs hP hD hS => ?_)
  have hP : va_P D vwCl [(h0, .inr (12, f0)), (h1, .inl (cZ, 24, .inl (upd (upd (upd (upd (upd (upd (upd (upd (upd (upd (upd (upd (upd (upd (upd (upd (upd (upd (upd g0 0 0) 1 0) 2 0) 3 0) 4 0) 5 0) 6 0) 7 0) 8 0) 9 0) 10 0) 11 0) 12 0) 13 0) 14 0) 15 0) 16 0) 17 0) 18 0)))] H := hP
  have hD : va_D A [(h0, .inr (12, f0)), (h1, .inl (cZ, 24, .inl (upd (upd (upd (upd (upd (upd (upd (upd (upd (upd (upd (upd (upd (upd (upd (upd (upd (upd (upd g0 0 0) 1 0) 2 0) 3 0) 4 0) 5 0) 6 0) 7 0) 8 0) 9 0) 10 0) 11 0) 12 0) 13 0) 14 0) 15 0) 16 0) 17 0) 18 0)))] := hD
  refine lv_iinc (v := 19) (lv' := [(1, .int 19), (0, .ref h0)]) hx hb dX12_leaveNoneOut_15 hl (k := 0) rfl (by decide) (by decide) rfl (fun ls hl => ?_)
  refine lv_goto (tgt := 2) hx hb dX12_leaveNoneOut_18 (by decide) ?_
  refine lv_iload_n hx hb dX12_leaveNoneOut_2 rfl (lv_at hl 0 rfl) ?_
  refine lv_bipush (v := 24) hx hb dX12_leaveNoneOut_3 (by decide) ?_
  refine lv_icmp_ge (tgt := 21) hx hb dX12_leaveNoneOut_5 (by decide) (fun c9 => absurd c9 (by decide)) (fun _ => ?_)
  refine lv_aload_n hx hb dX12_leaveNoneOut_8 rfl (lv_at hl 1 rfl) ?_
  refine va_get (D := D) (ref := "IntegerHouseModel") (ci := 12) (v := .ref h1) (C := RX12) (T := TX12) (N := 195) hx hb hts hin12 hown hK hP 0 rfl rfl 134 (by decide) (hts (.fieldLink RX12 340 "IntegerHouseModel" "isOut" "[Z") (List.mem_cons_of_mem _ (List.mem_append_left _ (List.mem_of_getElem? (i := 0) rfl)))) (fun _ h9 => h9) e0 dX12_leaveNoneOut_9 ?_
  refine lv_iload_n hx hb dX12_leaveNoneOut_12 rfl (lv_at hl 0 rfl) ?_
  refine lv_iconst (v := 0) hx hb dX12_leaveNoneOut_13 (by decide) ?_
  refine va_zast hx hb hK hP hD hS 1 3 rfl rfl (k_in (by decide)) dX12_leaveNoneOut_14 (fun H locs hP hD hS => ?_)
  have hP : va_P D vwCl [(h0, .inr (12, f0)), (h1, .inl (cZ, 24, .inl (upd (upd (upd (upd (upd (upd (upd (upd (upd (upd (upd (upd (upd (upd (upd (upd (upd (upd (upd (upd g0 0 0) 1 0) 2 0) 3 0) 4 0) 5 0) 6 0) 7 0) 8 0) 9 0) 10 0) 11 0) 12 0) 13 0) 14 0) 15 0) 16 0) 17 0) 18 0) 19 0)))] H := hP
  have hD : va_D A [(h0, .inr (12, f0)), (h1, .inl (cZ, 24, .inl (upd (upd (upd (upd (upd (upd (upd (upd (upd (upd (upd (upd (upd (upd (upd (upd (upd (upd (upd (upd g0 0 0) 1 0) 2 0) 3 0) 4 0) 5 0) 6 0) 7 0) 8 0) 9 0) 10 0) 11 0) 12 0) 13 0) 14 0) 15 0) 16 0) 17 0) 18 0) 19 0)))] := hD
  refine lv_iinc (v := 20) (lv' := [(1, .int 20), (0, .ref h0)]) hx hb dX12_leaveNoneOut_15 hl (k := 0) rfl (by decide) (by decide) rfl (fun ls hl => ?_)
  refine lv_goto (tgt := 2) hx hb dX12_leaveNoneOut_18 (by decide) ?_
  refine lv_iload_n hx hb dX12_leaveNoneOut_2 rfl (lv_at hl 0 rfl) ?_
  refine lv_bipush (v := 24) hx hb dX12_leaveNoneOut_3 (by decide) ?_
  refine lv_icmp_ge (tgt := 21) hx hb dX12_leaveNoneOut_5 (by decide) (fun c9 => absurd c9 (by decide)) (fun _ => ?_)
  refine lv_aload_n hx hb dX12_leaveNoneOut_8 rfl (lv_at hl 1 rfl) ?_
  refine va_get (D := D) (ref := "IntegerHouseModel") (ci := 12) (v := .ref h1) (C := RX12) (T := TX12) (N := 195) hx hb hts hin12 hown hK hP 0 rfl rfl 134 (by decide) (hts (.fieldLink RX12 340 "IntegerHouseModel" "isOut" "[Z") (List.mem_cons_of_mem _ (List.mem_append_left _ (List.mem_of_getElem? (i := 0) rfl)))) (fun _ h9 => h9) e0 dX12_leaveNoneOut_9 ?_
  refine lv_iload_n hx hb dX12_leaveNoneOut_12 rfl (lv_at hl 0 rfl) ?_
  refine lv_iconst (v := 0) hx hb dX12_leaveNoneOut_13 (by decide) ?_
  refine va_zast hx hb hK hP hD hS 1 3 rfl rfl (k_in (by decide)) dX12_leaveNoneOut_14 (fun H locs hP hD hS => ?_)
  have hP : va_P D vwCl [(h0, .inr (12, f0)), (h1, .inl (cZ, 24, .inl (upd (upd (upd (upd (upd (upd (upd (upd (upd (upd (upd (upd (upd (upd (upd (upd (upd (upd (upd (upd (upd g0 0 0) 1 0) 2 0) 3 0) 4 0) 5 0) 6 0) 7 0) 8 0) 9 0) 10 0) 11 0) 12 0) 13 0) 14 0) 15 0) 16 0) 17 0) 18 0) 19 0) 20 0)))] H := hP
  have hD : va_D A [(h0, .inr (12, f0)), (h1, .inl (cZ, 24, .inl (upd (upd (upd (upd (upd (upd (upd (upd (upd (upd (upd (upd (upd (upd (upd (upd (upd (upd (upd (upd (upd g0 0 0) 1 0) 2 0) 3 0) 4 0) 5 0) 6 0) 7 0) 8 0) 9 0) 10 0) 11 0) 12 0) 13 0) 14 0) 15 0) 16 0) 17 0) 18 0) 19 0) 20 0)))] := hD
  refine lv_iinc (v := 21) (lv' := [(1, .int 21), (0, .ref h0)]) hx hb dX12_leaveNoneOut_15 hl (k := 0) rfl (by decide) (by decide) rfl (fun ls hl => ?_)
  refine lv_goto (tgt := 2) hx hb dX12_leaveNoneOut_18 (by decide) ?_
  refine lv_iload_n hx hb dX12_leaveNoneOut_2 rfl (lv_at hl 0 rfl) ?_
  refine lv_bipush (v := 24) hx hb dX12_leaveNoneOut_3 (by decide) ?_
  refine lv_icmp_ge (tgt := 21) hx hb dX12_leaveNoneOut_5 (by decide) (fun c9 => absurd c9 (by decide)) (fun _ => ?_)
  refine lv_aload_n hx hb dX12_leaveNoneOut_8 rfl (lv_at hl 1 rfl) ?_
  refine va_get (D := D) (ref := "IntegerHouseModel") (ci := 12) (v := .ref h1) (C := RX12) (T := TX12) (N := 195) hx hb hts hin12 hown hK hP 0 rfl rfl 134 (by decide) (hts (.fieldLink RX12 340 "IntegerHouseModel" "isOut" "[Z") (List.mem_cons_of_mem _ (List.mem_append_left _ (List.mem_of_getElem? (i := 0) rfl)))) (fun _ h9 => h9) e0 dX12_leaveNoneOut_9 ?_
  refine lv_iload_n hx hb dX12_leaveNoneOut_12 rfl (lv_at hl 0 rfl) ?_
  refine lv_iconst (v := 0) hx hb dX12_leaveNoneOut_13 (by decide) ?_
  refine va_zast hx hb hK hP hD hS 1 3 rfl rfl (k_in (by decide)) dX12_leaveNoneOut_14 (fun H locs hP hD hS => ?_)
  have hP : va_P D vwCl [(h0, .inr (12, f0)), (h1, .inl (cZ, 24, .inl (upd (upd (upd (upd (upd (upd (upd (upd (upd (upd (upd (upd (upd (upd (upd (upd (upd (upd (upd (upd (upd (upd g0 0 0) 1 0) 2 0) 3 0) 4 0) 5 0) 6 0) 7 0) 8 0) 9 0) 10 0) 11 0) 12 0) 13 0) 14 0) 15 0) 16 0) 17 0) 18 0) 19 0) 20 0) 21 0)))] H := hP
  have hD : va_D A [(h0, .inr (12, f0)), (h1, .inl (cZ, 24, .inl (upd (upd (upd (upd (upd (upd (upd (upd (upd (upd (upd (upd (upd (upd (upd (upd (upd (upd (upd (upd (upd (upd g0 0 0) 1 0) 2 0) 3 0) 4 0) 5 0) 6 0) 7 0) 8 0) 9 0) 10 0) 11 0) 12 0) 13 0) 14 0) 15 0) 16 0) 17 0) 18 0) 19 0) 20 0) 21 0)))] := hD
  refine lv_iinc (v := 22) (lv' := [(1, .int 22), (0, .ref h0)]) hx hb dX12_leaveNoneOut_15 hl (k := 0) rfl (by decide) (by decide) rfl (fun ls hl => ?_)
  refine lv_goto (tgt := 2) hx hb dX12_leaveNoneOut_18 (by decide) ?_
  refine lv_iload_n hx hb dX12_leaveNoneOut_2 rfl (lv_at hl 0 rfl) ?_
  refine lv_bipush (v := 24) hx hb dX12_leaveNoneOut_3 (by decide) ?_
  refine lv_icmp_ge (tgt := 21) hx hb dX12_leaveNoneOut_5 (by decide) (fun c9 => absurd c9 (by decide)) (fun _ => ?_)
  refine lv_aload_n hx hb dX12_leaveNoneOut_8 rfl (lv_at hl 1 rfl) ?_
  refine va_get (D := D) (ref := "IntegerHouseModel") (ci := 12) (v := .ref h1) (C := RX12) (T := TX12) (N := 195) hx hb hts hin12 hown hK hP 0 rfl rfl 134 (by decide) (hts (.fieldLink RX12 340 "IntegerHouseModel" "isOut" "[Z") (List.mem_cons_of_mem _ (List.mem_append_left _ (List.mem_of_getElem? (i := 0) rfl)))) (fun _ h9 => h9) e0 dX12_leaveNoneOut_9 ?_
  refine lv_iload_n hx hb dX12_leaveNoneOut_12 rfl (lv_at hl 0 rfl) ?_
  refine lv_iconst (v := 0) hx hb dX12_leaveNoneOut_13 (by decide) ?_
  refine va_zast hx hb hK hP hD hS 1 3 rfl rfl (k_in (by decide)) dX12_leaveNoneOut_14 (fun H locs hP hD hS => ?_)
  have hP : va_P D vwCl [(h0, .inr (12, f0)), (h1, .inl (cZ, 24, .inl (upd (upd (upd (upd (upd (upd (upd (upd (upd (upd (upd (upd (upd (upd (upd (upd (upd (upd (upd (upd (upd (upd (upd g0 0 0) 1 0) 2 0) 3 0) 4 0) 5 0) 6 0) 7 0) 8 0) 9 0) 10 0) 11 0) 12 0) 13 0) 14 0) 15 0) 16 0) 17 0) 18 0) 19 0) 20 0) 21 0) 22 0)))] H := hP
  have hD : va_D A [(h0, .inr (12, f0)), (h1, .inl (cZ, 24, .inl (upd (upd (upd (upd (upd (upd (upd (upd (upd (upd (upd (upd (upd (upd (upd (upd (upd (upd (upd (upd (upd (upd (upd g0 0 0) 1 0) 2 0) 3 0) 4 0) 5 0) 6 0) 7 0) 8 0) 9 0) 10 0) 11 0) 12 0) 13 0) 14 0) 15 0) 16 0) 17 0) 18 0) 19 0) 20 0) 21 0) 22 0)))] := hD
  refine lv_iinc (v := 23) (lv' := [(1, .int 23), (0, .ref h0)]) hx hb dX12_leaveNoneOut_15 hl (k := 0) rfl (by decide) (by decide) rfl (fun ls hl => ?_)
  refine lv_goto (tgt := 2) hx hb dX12_leaveNoneOut_18 (by decide) ?_
  refine lv_iload_n hx hb dX12_leaveNoneOut_2 rfl (lv_at hl 0 rfl) ?_
  refine lv_bipush (v := 24) hx hb dX12_leaveNoneOut_3 (by decide) ?_
  refine lv_icmp_ge (tgt := 21) hx hb dX12_leaveNoneOut_5 (by decide) (fun c9 => absurd c9 (by decide)) (fun _ => ?_)
  refine lv_aload_n hx hb dX12_leaveNoneOut_8 rfl (lv_at hl 1 rfl) ?_
  refine va_get (D := D) (ref := "IntegerHouseModel") (ci := 12) (v := .ref h1) (C := RX12) (T := TX12) (N := 195) hx hb hts hin12 hown hK hP 0 rfl rfl 134 (by decide) (hts (.fieldLink RX12 340 "IntegerHouseModel" "isOut" "[Z") (List.mem_cons_of_mem _ (List.mem_append_left _ (List.mem_of_getElem? (i := 0) rfl)))) (fun _ h9 => h9) e0 dX12_leaveNoneOut_9 ?_
  refine lv_iload_n hx hb dX12_leaveNoneOut_12 rfl (lv_at hl 0 rfl) ?_
  refine lv_iconst (v := 0) hx hb dX12_leaveNoneOut_13 (by decide) ?_
  refine va_zast hx hb hK hP hD hS 1 3 rfl rfl (k_in (by decide)) dX12_leaveNoneOut_14 (fun H locs hP hD hS => ?_)
  have hP : va_P D vwCl [(h0, .inr (12, f0)), (h1, .inl (cZ, 24, .inl (upd (upd (upd (upd (upd (upd (upd (upd (upd (upd (upd (upd (upd (upd (upd (upd (upd (upd (upd (upd (upd (upd (upd (upd g0 0 0) 1 0) 2 0) 3 0) 4 0) 5 0) 6 0) 7 0) 8 0) 9 0) 10 0) 11 0) 12 0) 13 0) 14 0) 15 0) 16 0) 17 0) 18 0) 19 0) 20 0) 21 0) 22 0) 23 0)))] H := hP
  have hD : va_D A [(h0, .inr (12, f0)), (h1, .inl (cZ, 24, .inl (upd (upd (upd (upd (upd (upd (upd (upd (upd (upd (upd (upd (upd (upd (upd (upd (upd (upd (upd (upd (upd (upd (upd (upd g0 0 0) 1 0) 2 0) 3 0) 4 0) 5 0) 6 0) 7 0) 8 0) 9 0) 10 0) 11 0) 12 0) 13 0) 14 0) 15 0) 16 0) 17 0) 18 0) 19 0) 20 0) 21 0) 22 0) 23 0)))] := hD
  refine lv_iinc (v := 24) (lv' := [(1, .int 24), (0, .ref h0)]) hx hb dX12_leaveNoneOut_15 hl (k := 0) rfl (by decide) (by decide) rfl (fun ls hl => ?_)
  refine lv_goto (tgt := 2) hx hb dX12_leaveNoneOut_18 (by decide) ?_
  refine lv_iload_n hx hb dX12_leaveNoneOut_2 rfl (lv_at hl 0 rfl) ?_
  refine lv_bipush (v := 24) hx hb dX12_leaveNoneOut_3 (by decide) ?_
  refine lv_icmp_ge (tgt := 21) hx hb dX12_leaveNoneOut_5 (by decide) (fun _ => ?_) (fun c9 => absurd (by decide) c9)
  exact W.vret hx hb hr (fun t ht hW => ⟨⟨(), rfl, trivial, kB_mk ht hW hP hK hD⟩, hS.F ht⟩) hS.2.2 dX12_leaveNoneOut_21
set_option maxHeartbeats 400000000 in
set_option maxRecDepth 100000 in
theorem c_X12_tries_0 (l : Launch) (E : kE) (D : va_G) (cI cJ cB cZ : ClassId) (h0 : Nat) (f0 : List Value) (h1 : Nat) (g0 : Nat → Int32) (h2 : Nat) (h3 : Nat) (h4 : Nat) (g1 : Nat → Int32) (g2 : Nat → Int32) (g3 : Nat → Int32) (h5 : Nat) (h6 : Nat) (h7 : Nat) (h8 : Nat) (g4 : Nat → Int32) (g5 : Nat → Int32) (g6 : Nat → Int32) (g7 : Nat → Int32) (h9 : Nat) (g8 : Nat → Int32) (e0 : f0[119]? = some (.int 0)) (e1 : f0[121]? = some (.ref h1)) (e2 : f0[33]? = some (.int 0)) (e3 : f0[32]? = some (.int 0)) (e4 : f0[131]? = some (.int 0)) (e5 : f0[127]? = some (.ref h2)) (e6 : f0[129]? = some (.int 0)) (e7 : f0[128]? = some (.ref h3)) (e8 : f0[126]? = some (.ref h4)) (e9 : f0[136]? = some (.ref h5)) (e10 : f0[132]? = some (.ref h6)) (e11 : f0[133]? = some (.ref h7)) (e12 : f0[135]? = some (.ref h8)) (e13 : f0[137]? = some (.ref h9)) : kI l E D (kT cI cJ cB cZ) yX12_tries wsX12_tries ({ frames := 2, cells := 0, slots := 0, locals := 51 }) [.ref h0] [(h0, .inr (12, f0)), (h1, .inl (cZ, 26, .inl g0)), (h2, .inl (cI, 32768, .inl g1)), (h3, .inl (cI, 3000, .inl g2)), (h4, .inl (cI, 48000, .inl g3)), (h5, .inl (cI, 4096, .inl g4)), (h6, .inl (cI, 3000, .inl g5)), (h7, .inl (cI, 3000, .inl g6)), (h8, .inl (cI, 4096, .inl g7)), (h9, .inl (cI, 3000, .inl g8))] (1) [(h0, .inr (12, ((((f0.set 119 (.int 0)).set 131 (.int 1)).set 129 (.int 0)).set 129 (.int 1)))), (h1, .inl (cZ, 26, .inl (upd (upd (upd (upd (upd (upd (upd (upd (upd (upd (upd (upd (upd (upd (upd (upd (upd (upd (upd (upd (upd (upd (upd (upd (upd (upd g0 0 0) 1 0) 2 0) 3 0) 4 0) 5 0) 6 0) 7 0) 8 0) 9 0) 10 0) 11 0) 12 0) 13 0) 14 0) 15 0) 16 0) 17 0) 18 0) 19 0) 20 0) 21 0) 22 0) 23 0) 24 0) 25 0))), (h2, .inl (cI, 32768, .inl (upd (k_fill (-1) 32768 g1) 17 0))), (h3, .inl (cI, 3000, .inl (upd g2 0 (-1)))), (h4, .inl (cI, 48000, .inl (upd g3 0 0))), (h5, .inl (cI, 4096, .inl (upd (k_fill (-1) 4096 g4) 0 1))), (h6, .inl (cI, 3000, .inl (upd (upd g5 0 0) 0 1))), (h7, .inl (cI, 3000, .inl (upd (upd g6 0 0) 0 0))), (h8, .inl (cI, 4096, .inl (upd g7 0 0))), (h9, .inl (cI, 3000, .inl (upd g8 0 0)))] 0 0 := by
  intro sz
  refine Met.ofW (cc := cX12_tries) (maxL := 2) (ret := (some .int)) (by decide) rfl ?_
  intro p e s m args below meth c s₁ B hml hv
  obtain ⟨rfl, hsz, hP, hK, hD0, hN, hX⟩ := hv
  have hx := B.exec
  have hb := B.bytes
  have hr := B.returns
  have hts := atoms_spec (ws := wsX12_tries) B.pre
  have hown : s.vm.findClass RX12 = some m.cls := findClass_of_methodNamed B.named
  have hlocks := B.notSynchronized
  have hin12 : ∀ w ∈ wsX120, w ∈ wsX12_tries := (fun w h => (List.mem_cons_of_mem _ (List.mem_append_right _ h)))
  subst hsz
  have hD := hD0.self (sz := s.heap.size)
  have hAE := k_AE hD0 hX
  generalize hAe : va_A [(h0, .inr (12, f0)), (h1, .inl (cZ, 26, .inl g0)), (h2, .inl (cI, 32768, .inl g1)), (h3, .inl (cI, 3000, .inl g2)), (h4, .inl (cI, 48000, .inl g3)), (h5, .inl (cI, 4096, .inl g4)), (h6, .inl (cI, 3000, .inl g5)), (h7, .inl (cI, 3000, .inl g6)), (h8, .inl (cI, 4096, .inl g7)), (h9, .inl (cI, 3000, .inl g8))] s.heap.size = A at hD hAE ⊢
  have hA : ∀ q : Nat, s.heap.size ≤ q → A q := fun q h => by rw [← hAe]; exact Or.inr h
  have hS : va_S A s.heap s.heap [] := va_S.rf
  have hP : va_P D vwCl [(h0, .inr (12, f0)), (h1, .inl (cZ, 26, .inl g0)), (h2, .inl (cI, 32768, .inl g1)), (h3, .inl (cI, 3000, .inl g2)), (h4, .inl (cI, 48000, .inl g3)), (h5, .inl (cI, 4096, .inl g4)), (h6, .inl (cI, 3000, .inl g5)), (h7, .inl (cI, 3000, .inl g6)), (h8, .inl (cI, 4096, .inl g7)), (h9, .inl (cI, 3000, .inl g8))] s.heap := hP
  have hl := lv_entry ([.ref h0] : List Value) (n := 2) (Nat.le_of_ble_eq_true rfl)
  rw [lg_entry_eq]
  generalize (lg_sl ([.ref h0]) ++ List.replicate (2 - (lg_sl ([.ref h0])).length) Slot.unset).toArray = ls at hl ⊢
  have hl : lv_has ls 2 [(0, .ref h0)] := hl
  refine lv_aload_n hx hb dX12_tries_0 rfl (lv_at hl 0 rfl) ?_
  refine k_cVv (As := []) (rest := []) (wc := [(h0, .inr (12, f0)), (h1, .inl (cZ, 26, .inl g0))]) (wr := [(h2, .inl (cI, 32768, .inl g1)), (h3, .inl (cI, 3000, .inl g2)), (h4, .inl (cI, 48000, .inl g3)), (h5, .inl (cI, 4096, .inl g4)), (h6, .inl (cI, 3000, .inl g5)), (h7, .inl (cI, 3000, .inl g6)), (h8, .inl (cI, 4096, .inl g7)), (h9, .inl (cI, 3000, .inl g8))]) (w1 := (fun _ : Unit => [(h0, .inr (12, (f0.set 119 (.int 0)))), (h1, .inl (cZ, 26, .inl (upd (upd (upd (upd (upd (upd (upd (upd (upd (upd (upd (upd (upd (upd (upd (upd (upd (upd (upd (upd (upd (upd (upd (upd (upd (upd g0 0 0) 1 0) 2 0) 3 0) 4 0) 5 0) 6 0) 7 0) 8 0) 9 0) 10 0) 11 0) 12 0) 13 0) 14 0) 15 0) 16 0) 17 0) 18 0) 19 0) 20 0) 21 0) 22 0) 23 0) 24 0) 25 0)))])) ⟨hx, hb, hml, hown, hts⟩ hN hX hAE hK hP hD hS hA [0, 1] [2, 3, 4, 5, 6, 7, 8, 9] (ci := 12) rfl rfl rfl rfl (by decide +kernel) (by decide +kernel) (by decide +kernel) (c_X12_idle_0 l E D cI cJ cB cZ h0 f0 h1 g0 e0 e1) (cwV 0 hts gX12_tries_X12_idle rfl rfl rfl (by decide +kernel) ⟨Nat.le_of_ble_eq_true rfl, Nat.le_of_ble_eq_true rfl⟩) rfl hl.1 (Nat.le_of_ble_eq_true rfl) dX12_tries_1 ⟨Nat.le_of_ble_eq_true rfl, Nat.le_of_ble_eq_true rfl⟩ (fun _ H locs hP hD hS => ?_)
  have hP : va_P D vwCl [(h2, .inl (cI, 32768, .inl g1)), (h3, .inl (cI, 3000, .inl g2)), (h4, .inl (cI, 48000, .inl g3)), (h5, .inl (cI, 4096, .inl g4)), (h6, .inl (cI, 3000, .inl g5)), (h7, .inl (cI, 3000, .inl g6)), (h8, .inl (cI, 4096, .inl g7)), (h9, .inl (cI, 3000, .inl g8)), (h0, .inr (12, (f0.set 119 (.int 0)))), (h1, .inl (cZ, 26, .inl (upd (upd (upd (upd (upd (upd (upd (upd (upd (upd (upd (upd (upd (upd (upd (upd (upd (upd (upd (upd (upd (upd (upd (upd (upd (upd g0 0 0) 1 0) 2 0) 3 0) 4 0) 5 0) 6 0) 7 0) 8 0) 9 0) 10 0) 11 0) 12 0) 13 0) 14 0) 15 0) 16 0) 17 0) 18 0) 19 0) 20 0) 21 0) 22 0) 23 0) 24 0) 25 0)))] H := hP
  have hD : va_D A [(h2, .inl (cI, 32768, .inl g1)), (h3, .inl (cI, 3000, .inl g2)), (h4, .inl (cI, 48000, .inl g3)), (h5, .inl (cI, 4096, .inl g4)), (h6, .inl (cI, 3000, .inl g5)), (h7, .inl (cI, 3000, .inl g6)), (h8, .inl (cI, 4096, .inl g7)), (h9, .inl (cI, 3000, .inl g8)), (h0, .inr (12, (f0.set 119 (.int 0)))), (h1, .inl (cZ, 26, .inl (upd (upd (upd (upd (upd (upd (upd (upd (upd (upd (upd (upd (upd (upd (upd (upd (upd (upd (upd (upd (upd (upd (upd (upd (upd (upd g0 0 0) 1 0) 2 0) 3 0) 4 0) 5 0) 6 0) 7 0) 8 0) 9 0) 10 0) 11 0) 12 0) 13 0) 14 0) 15 0) 16 0) 17 0) 18 0) 19 0) 20 0) 21 0) 22 0) 23 0) 24 0) 25 0)))] := hD
  refine lv_iconst (v := 0) hx hb dX12_tries_4 (by decide) ?_
  refine lv_istore_n (lv' := [(1, .int 0), (0, .ref h0)]) hx hb dX12_tries_5 rfl hl (by decide) rfl (fun ls hl => ?_)
  refine lv_iload_n hx hb dX12_tries_6 rfl (lv_at hl 0 rfl) ?_
  refine lv_aload_n hx hb dX12_tries_7 rfl (lv_at hl 1 rfl) ?_
  refine va_get (D := D) (ref := "IntegerHouseModel") (ci := 12) (v := .int 0) (C := RX12) (T := TX12) (N := 195) hx hb hts hin12 hown hK hP 8 rfl rfl 33 (by decide) (hts (.fieldLink RX12 818 "IntegerHouseModel" "claims" "I") (List.mem_cons_of_mem _ (List.mem_append_left _ (List.mem_append_left _ (List.mem_of_getElem? (i := 0) rfl))))) (fun _ h9 => h9) (k_ne (by decide) e2) dX12_tries_8 ?_
  refine lv_icmp_ge (tgt := 43) hx hb dX12_tries_11 (by decide) (fun _ => ?_) (fun c9 => absurd (by decide) c9)
  refine lv_aload_n hx hb dX12_tries_43 rfl (lv_at hl 1 rfl) ?_
  refine k_cVi (As := []) (rest := []) (wc := [(h0, .inr (12, (f0.set 119 (.int 0)))), (h1, .inl (cZ, 26, .inl (upd (upd (upd (upd (upd (upd (upd (upd (upd (upd (upd (upd (upd (upd (upd (upd (upd (upd (upd (upd (upd (upd (upd (upd (upd (upd g0 0 0) 1 0) 2 0) 3 0) 4 0) 5 0) 6 0) 7 0) 8 0) 9 0) 10 0) 11 0) 12 0) 13 0) 14 0) 15 0) 16 0) 17 0) 18 0) 19 0) 20 0) 21 0) 22 0) 23 0) 24 0) 25 0))), (h2, .inl (cI, 32768, .inl g1)), (h3, .inl (cI, 3000, .inl g2)), (h4, .inl (cI, 48000, .inl g3))]) (wr := [(h5, .inl (cI, 4096, .inl g4)), (h6, .inl (cI, 3000, .inl g5)), (h7, .inl (cI, 3000, .inl g6)), (h8, .inl (cI, 4096, .inl g7)), (h9, .inl (cI, 3000, .inl g8))]) (w1 := [(h0, .inr (12, ((((f0.set 119 (.int 0)).set 131 (.int 1)).set 129 (.int 0)).set 129 (.int 1)))), (h1, .inl (cZ, 26, .inl (upd (upd (upd (upd (upd (upd (upd (upd (upd (upd (upd (upd (upd (upd (upd (upd (upd (upd (upd (upd (upd (upd (upd (upd (upd (upd g0 0 0) 1 0) 2 0) 3 0) 4 0) 5 0) 6 0) 7 0) 8 0) 9 0) 10 0) 11 0) 12 0) 13 0) 14 0) 15 0) 16 0) 17 0) 18 0) 19 0) 20 0) 21 0) 22 0) 23 0) 24 0) 25 0))), (h2, .inl (cI, 32768, .inl (upd (k_fill (-1) 32768 g1) 17 0))), (h3, .inl (cI, 3000, .inl (upd g2 0 (-1)))), (h4, .inl (cI, 48000, .inl (upd g3 0 0)))]) ⟨hx, hb, hml, hown, hts⟩ hN hX hAE hK hP hD hS hA [8, 9, 0, 1, 2] [3, 4, 5, 6, 7] (ci := 12) rfl rfl rfl rfl (by decide +kernel) (by decide +kernel) (by decide +kernel) (c_X12_explore_0 l E D cI cJ cB cZ h0 ((f0.set 119 (.int 0))) h1 ((upd (upd (upd (upd (upd (upd (upd (upd (upd (upd (upd (upd (upd (upd (upd (upd (upd (upd (upd (upd (upd (upd (upd (upd (upd (upd g0 0 0) 1 0) 2 0) 3 0) 4 0) 5 0) 6 0) 7 0) 8 0) 9 0) 10 0) 11 0) 12 0) 13 0) 14 0) 15 0) 16 0) 17 0) 18 0) 19 0) 20 0) 21 0) 22 0) 23 0) 24 0) 25 0)) h2 g1 h3 g2 h4 g3 (k_set e0) (k_ne (by decide) e1) rfl rfl rfl rfl rfl rfl rfl rfl rfl rfl rfl rfl rfl rfl rfl rfl rfl rfl rfl rfl rfl rfl rfl rfl rfl (k_ne (by decide) e3) (k_ne (by decide) e4) (k_ne (by decide) e5) (k_ne (by decide) e6) (k_ne (by decide) e7) (k_ne (by decide) e8)) (cwV 0 hts gX12_tries_X12_explore rfl rfl rfl (by decide +kernel) ⟨Nat.le_of_ble_eq_true rfl, Nat.le_of_ble_eq_true rfl⟩) rfl hl.1 (Nat.le_of_ble_eq_true rfl) dX12_tries_44 ⟨Nat.le_of_ble_eq_true rfl, Nat.le_of_ble_eq_true rfl⟩ (fun H locs hP hD hS => ?_)
  have hP : va_P D vwCl [(h5, .inl (cI, 4096, .inl g4)), (h6, .inl (cI, 3000, .inl g5)), (h7, .inl (cI, 3000, .inl g6)), (h8, .inl (cI, 4096, .inl g7)), (h9, .inl (cI, 3000, .inl g8)), (h0, .inr (12, ((((f0.set 119 (.int 0)).set 131 (.int 1)).set 129 (.int 0)).set 129 (.int 1)))), (h1, .inl (cZ, 26, .inl (upd (upd (upd (upd (upd (upd (upd (upd (upd (upd (upd (upd (upd (upd (upd (upd (upd (upd (upd (upd (upd (upd (upd (upd (upd (upd g0 0 0) 1 0) 2 0) 3 0) 4 0) 5 0) 6 0) 7 0) 8 0) 9 0) 10 0) 11 0) 12 0) 13 0) 14 0) 15 0) 16 0) 17 0) 18 0) 19 0) 20 0) 21 0) 22 0) 23 0) 24 0) 25 0))), (h2, .inl (cI, 32768, .inl (upd (k_fill (-1) 32768 g1) 17 0))), (h3, .inl (cI, 3000, .inl (upd g2 0 (-1)))), (h4, .inl (cI, 48000, .inl (upd g3 0 0)))] H := hP
  have hD : va_D A [(h5, .inl (cI, 4096, .inl g4)), (h6, .inl (cI, 3000, .inl g5)), (h7, .inl (cI, 3000, .inl g6)), (h8, .inl (cI, 4096, .inl g7)), (h9, .inl (cI, 3000, .inl g8)), (h0, .inr (12, ((((f0.set 119 (.int 0)).set 131 (.int 1)).set 129 (.int 0)).set 129 (.int 1)))), (h1, .inl (cZ, 26, .inl (upd (upd (upd (upd (upd (upd (upd (upd (upd (upd (upd (upd (upd (upd (upd (upd (upd (upd (upd (upd (upd (upd (upd (upd (upd (upd g0 0 0) 1 0) 2 0) 3 0) 4 0) 5 0) 6 0) 7 0) 8 0) 9 0) 10 0) 11 0) 12 0) 13 0) 14 0) 15 0) 16 0) 17 0) 18 0) 19 0) 20 0) 21 0) 22 0) 23 0) 24 0) 25 0))), (h2, .inl (cI, 32768, .inl (upd (k_fill (-1) 32768 g1) 17 0))), (h3, .inl (cI, 3000, .inl (upd g2 0 (-1)))), (h4, .inl (cI, 48000, .inl (upd g3 0 0)))] := hD
  refine lv_if_ne (tgt := 53) hx hb dX12_tries_47 (by decide) (fun _ => ?_) (fun c9 => absurd c9 (by decide))
  refine lv_aload_n hx hb dX12_tries_53 rfl (lv_at hl 1 rfl) ?_
  refine lv_iconst (v := 0) hx hb dX12_tries_54 (by decide) ?_
  refine lv_iconst (v := 0) hx hb dX12_tries_55 (by decide) ?_
  refine lv_iconst (v := (-1)) hx hb dX12_tries_56 (by decide) ?_
  refine k_cVv (As := [.int 0, .int 0, .int (-1)]) (rest := []) (wc := [(h0, .inr (12, ((((f0.set 119 (.int 0)).set 131 (.int 1)).set 129 (.int 0)).set 129 (.int 1)))), (h5, .inl (cI, 4096, .inl g4)), (h6, .inl (cI, 3000, .inl g5)), (h7, .inl (cI, 3000, .inl g6)), (h1, .inl (cZ, 26, .inl (upd (upd (upd (upd (upd (upd (upd (upd (upd (upd (upd (upd (upd (upd (upd (upd (upd (upd (upd (upd (upd (upd (upd (upd (upd (upd g0 0 0) 1 0) 2 0) 3 0) 4 0) 5 0) 6 0) 7 0) 8 0) 9 0) 10 0) 11 0) 12 0) 13 0) 14 0) 15 0) 16 0) 17 0) 18 0) 19 0) 20 0) 21 0) 22 0) 23 0) 24 0) 25 0))), (h8, .inl (cI, 4096, .inl g7))]) (wr := [(h9, .inl (cI, 3000, .inl g8)), (h2, .inl (cI, 32768, .inl (upd (k_fill (-1) 32768 g1) 17 0))), (h3, .inl (cI, 3000, .inl (upd g2 0 (-1)))), (h4, .inl (cI, 48000, .inl (upd g3 0 0)))]) (w1 := (fun _ : Unit => [(h0, .inr (12, ((((f0.set 119 (.int 0)).set 131 (.int 1)).set 129 (.int 0)).set 129 (.int 1)))), (h5, .inl (cI, 4096, .inl (upd (k_fill (-1) 4096 g4) 0 1))), (h6, .inl (cI, 3000, .inl (upd (upd g5 0 0) 0 1))), (h7, .inl (cI, 3000, .inl (upd (upd g6 0 0) 0 0))), (h1, .inl (cZ, 26, .inl (upd (upd (upd (upd (upd (upd (upd (upd (upd (upd (upd (upd (upd (upd (upd (upd (upd (upd (upd (upd (upd (upd (upd (upd (upd (upd g0 0 0) 1 0) 2 0) 3 0) 4 0) 5 0) 6 0) 7 0) 8 0) 9 0) 10 0) 11 0) 12 0) 13 0) 14 0) 15 0) 16 0) 17 0) 18 0) 19 0) 20 0) 21 0) 22 0) 23 0) 24 0) 25 0))), (h8, .inl (cI, 4096, .inl (upd g7 0 0)))])) ⟨hx, hb, hml, hown, hts⟩ hN hX hAE hK hP hD hS hA [5, 0, 1, 2, 6, 3] [4, 7, 8, 9] (ci := 12) rfl rfl rfl rfl (by decide +kernel) (by decide +kernel) (by decide +kernel) (c_X12_judge_0 l E D cI cJ cB cZ h0 (((((f0.set 119 (.int 0)).set 131 (.int 1)).set 129 (.int 0)).set 129 (.int 1))) h5 g4 h6 g5 h7 g6 h1 ((upd (upd (upd (upd (upd (upd (upd (upd (upd (upd (upd (upd (upd (upd (upd (upd (upd (upd (upd (upd (upd (upd (upd (upd (upd (upd g0 0 0) 1 0) 2 0) 3 0) 4 0) 5 0) 6 0) 7 0) 8 0) 9 0) 10 0) 11 0) 12 0) 13 0) 14 0) 15 0) 16 0) 17 0) 18 0) 19 0) 20 0) 21 0) 22 0) 23 0) 24 0) 25 0)) h8 g7 (k_ne (by decide) (k_ne (by decide) (k_ne (by decide) (k_ne (by decide) e9)))) (k_set (k_set (k_ne (by decide) (k_ne (by decide) e6)))) (k_ne (by decide) (k_ne (by decide) (k_ne (by decide) (k_ne (by decide) e10)))) (k_ne (by decide) (k_ne (by decide) (k_ne (by decide) (k_ne (by decide) e11)))) (k_ne (by decide) (k_ne (by decide) (k_set (k_ne (by decide) e4)))) (k_ne (by decide) (k_ne (by decide) (k_ne (by decide) (k_set e0)))) (k_ne (by decide) (k_ne (by decide) (k_ne (by decide) (k_ne (by decide) e1)))) rfl rfl rfl rfl rfl rfl rfl rfl rfl rfl rfl rfl rfl rfl rfl rfl rfl rfl rfl rfl rfl rfl rfl rfl rfl (k_ne (by decide) (k_ne (by decide) (k_ne (by decide) (k_ne (by decide) e12)))) (k_ne (by decide) (k_ne (by decide) (k_ne (by decide) (k_ne (by decide) e2))))) (cwV 3 hts gX12_tries_X12_judge rfl rfl rfl (by decide +kernel) ⟨Nat.le_of_ble_eq_true rfl, Nat.le_of_ble_eq_true rfl⟩) rfl hl.1 (Nat.le_of_ble_eq_true rfl) dX12_tries_57 ⟨Nat.le_of_ble_eq_true rfl, Nat.le_of_ble_eq_true rfl⟩ (fun _ H locs hP hD hS => ?_)
  have hP : va_P D vwCl [(h9, .inl (cI, 3000, .inl g8)), (h2, .inl (cI, 32768, .inl (upd (k_fill (-1) 32768 g1) 17 0))), (h3, .inl (cI, 3000, .inl (upd g2 0 (-1)))), (h4, .inl (cI, 48000, .inl (upd g3 0 0))), (h0, .inr (12, ((((f0.set 119 (.int 0)).set 131 (.int 1)).set 129 (.int 0)).set 129 (.int 1)))), (h5, .inl (cI, 4096, .inl (upd (k_fill (-1) 4096 g4) 0 1))), (h6, .inl (cI, 3000, .inl (upd (upd g5 0 0) 0 1))), (h7, .inl (cI, 3000, .inl (upd (upd g6 0 0) 0 0))), (h1, .inl (cZ, 26, .inl (upd (upd (upd (upd (upd (upd (upd (upd (upd (upd (upd (upd (upd (upd (upd (upd (upd (upd (upd (upd (upd (upd (upd (upd (upd (upd g0 0 0) 1 0) 2 0) 3 0) 4 0) 5 0) 6 0) 7 0) 8 0) 9 0) 10 0) 11 0) 12 0) 13 0) 14 0) 15 0) 16 0) 17 0) 18 0) 19 0) 20 0) 21 0) 22 0) 23 0) 24 0) 25 0))), (h8, .inl (cI, 4096, .inl (upd g7 0 0)))] H := hP
  have hD : va_D A [(h9, .inl (cI, 3000, .inl g8)), (h2, .inl (cI, 32768, .inl (upd (k_fill (-1) 32768 g1) 17 0))), (h3, .inl (cI, 3000, .inl (upd g2 0 (-1)))), (h4, .inl (cI, 48000, .inl (upd g3 0 0))), (h0, .inr (12, ((((f0.set 119 (.int 0)).set 131 (.int 1)).set 129 (.int 0)).set 129 (.int 1)))), (h5, .inl (cI, 4096, .inl (upd (k_fill (-1) 4096 g4) 0 1))), (h6, .inl (cI, 3000, .inl (upd (upd g5 0 0) 0 1))), (h7, .inl (cI, 3000, .inl (upd (upd g6 0 0) 0 0))), (h1, .inl (cZ, 26, .inl (upd (upd (upd (upd (upd (upd (upd (upd (upd (upd (upd (upd (upd (upd (upd (upd (upd (upd (upd (upd (upd (upd (upd (upd (upd (upd g0 0 0) 1 0) 2 0) 3 0) 4 0) 5 0) 6 0) 7 0) 8 0) 9 0) 10 0) 11 0) 12 0) 13 0) 14 0) 15 0) 16 0) 17 0) 18 0) 19 0) 20 0) 21 0) 22 0) 23 0) 24 0) 25 0))), (h8, .inl (cI, 4096, .inl (upd g7 0 0)))] := hD
  refine lv_aload_n hx hb dX12_tries_60 rfl (lv_at hl 1 rfl) ?_
  refine k_cVv (As := []) (rest := []) (wc := [(h0, .inr (12, ((((f0.set 119 (.int 0)).set 131 (.int 1)).set 129 (.int 0)).set 129 (.int 1)))), (h6, .inl (cI, 3000, .inl (upd (upd g5 0 0) 0 1))), (h9, .inl (cI, 3000, .inl g8))]) (wr := [(h2, .inl (cI, 32768, .inl (upd (k_fill (-1) 32768 g1) 17 0))), (h3, .inl (cI, 3000, .inl (upd g2 0 (-1)))), (h4, .inl (cI, 48000, .inl (upd g3 0 0))), (h5, .inl (cI, 4096, .inl (upd (k_fill (-1) 4096 g4) 0 1))), (h7, .inl (cI, 3000, .inl (upd (upd g6 0 0) 0 0))), (h1, .inl (cZ, 26, .inl (upd (upd (upd (upd (upd (upd (upd (upd (upd (upd (upd (upd (upd (upd (upd (upd (upd (upd (upd (upd (upd (upd (upd (upd (upd (upd g0 0 0) 1 0) 2 0) 3 0) 4 0) 5 0) 6 0) 7 0) 8 0) 9 0) 10 0) 11 0) 12 0) 13 0) 14 0) 15 0) 16 0) 17 0) 18 0) 19 0) 20 0) 21 0) 22 0) 23 0) 24 0) 25 0))), (h8, .inl (cI, 4096, .inl (upd g7 0 0)))]) (w1 := (fun _ : Unit => [(h0, .inr (12, ((((f0.set 119 (.int 0)).set 131 (.int 1)).set 129 (.int 0)).set 129 (.int 1)))), (h6, .inl (cI, 3000, .inl (upd (upd g5 0 0) 0 1))), (h9, .inl (cI, 3000, .inl (upd g8 0 0)))])) ⟨hx, hb, hml, hown, hts⟩ hN hX hAE hK hP hD hS hA [4, 6, 0] [1, 2, 3, 5, 7, 8, 9] (ci := 12) rfl rfl rfl rfl (by decide +kernel) (by decide +kernel) (by decide +kernel) (c_X12_measure_0 l E D cI cJ cB cZ h0 (((((f0.set 119 (.int 0)).set 131 (.int 1)).set 129 (.int 0)).set 129 (.int 1))) h9 h6 ((upd (upd g5 0 0) 0 1)) g8 (k_set (k_set (k_ne (by decide) (k_ne (by decide) e6)))) (k_ne (by decide) (k_ne (by decide) (k_ne (by decide) (k_ne (by decide) e13)))) (k_ne (by decide) (k_ne (by decide) (k_ne (by decide) (k_ne (by decide) e10)))) rfl (k_ne (by decide) (k_ne (by decide) (k_set (k_ne (by decide) e4))))) (cwV 0 hts gX12_tries_X12_measure rfl rfl rfl (by decide +kernel) ⟨Nat.le_of_ble_eq_true rfl, Nat.le_of_ble_eq_true rfl⟩) rfl hl.1 (Nat.le_of_ble_eq_true rfl) dX12_tries_61 ⟨Nat.le_of_ble_eq_true rfl, Nat.le_of_ble_eq_true rfl⟩ (fun _ H locs hP hD hS => ?_)
  have hP : va_P D vwCl [(h2, .inl (cI, 32768, .inl (upd (k_fill (-1) 32768 g1) 17 0))), (h3, .inl (cI, 3000, .inl (upd g2 0 (-1)))), (h4, .inl (cI, 48000, .inl (upd g3 0 0))), (h5, .inl (cI, 4096, .inl (upd (k_fill (-1) 4096 g4) 0 1))), (h7, .inl (cI, 3000, .inl (upd (upd g6 0 0) 0 0))), (h1, .inl (cZ, 26, .inl (upd (upd (upd (upd (upd (upd (upd (upd (upd (upd (upd (upd (upd (upd (upd (upd (upd (upd (upd (upd (upd (upd (upd (upd (upd (upd g0 0 0) 1 0) 2 0) 3 0) 4 0) 5 0) 6 0) 7 0) 8 0) 9 0) 10 0) 11 0) 12 0) 13 0) 14 0) 15 0) 16 0) 17 0) 18 0) 19 0) 20 0) 21 0) 22 0) 23 0) 24 0) 25 0))), (h8, .inl (cI, 4096, .inl (upd g7 0 0))), (h0, .inr (12, ((((f0.set 119 (.int 0)).set 131 (.int 1)).set 129 (.int 0)).set 129 (.int 1)))), (h6, .inl (cI, 3000, .inl (upd (upd g5 0 0) 0 1))), (h9, .inl (cI, 3000, .inl (upd g8 0 0)))] H := hP
  have hD : va_D A [(h2, .inl (cI, 32768, .inl (upd (k_fill (-1) 32768 g1) 17 0))), (h3, .inl (cI, 3000, .inl (upd g2 0 (-1)))), (h4, .inl (cI, 48000, .inl (upd g3 0 0))), (h5, .inl (cI, 4096, .inl (upd (k_fill (-1) 4096 g4) 0 1))), (h7, .inl (cI, 3000, .inl (upd (upd g6 0 0) 0 0))), (h1, .inl (cZ, 26, .inl (upd (upd (upd (upd (upd (upd (upd (upd (upd (upd (upd (upd (upd (upd (upd (upd (upd (upd (upd (upd (upd (upd (upd (upd (upd (upd g0 0 0) 1 0) 2 0) 3 0) 4 0) 5 0) 6 0) 7 0) 8 0) 9 0) 10 0) 11 0) 12 0) 13 0) 14 0) 15 0) 16 0) 17 0) 18 0) 19 0) 20 0) 21 0) 22 0) 23 0) 24 0) 25 0))), (h8, .inl (cI, 4096, .inl (upd g7 0 0))), (h0, .inr (12, ((((f0.set 119 (.int 0)).set 131 (.int 1)).set 129 (.int 0)).set 129 (.int 1)))), (h6, .inl (cI, 3000, .inl (upd (upd g5 0 0) 0 1))), (h9, .inl (cI, 3000, .inl (upd g8 0 0)))] := hD
  refine lv_aload_n hx hb dX12_tries_64 rfl (lv_at hl 1 rfl) ?_
  refine va_get (D := D) (ref := "IntegerHouseModel") (ci := 12) (v := .ref h9) (C := RX12) (T := TX12) (N := 195) hx hb hts hin12 hown hK hP 7 rfl rfl 137 (by decide) (hts (.fieldLink RX12 349 "IntegerHouseModel" "far" "[I") (List.mem_cons_of_mem _ (List.mem_append_left _ (List.mem_append_left _ (List.mem_of_getElem? (i := 3) rfl))))) (fun _ h9 => h9) (k_ne (by decide) (k_ne (by decide) (k_ne (by decide) (k_ne (by decide) e13)))) dX12_tries_65 ?_
  refine lv_iconst (v := 0) hx hb dX12_tries_68 (by decide) ?_
  refine va_iald hx hb hK hP 9 0 rfl rfl (k_in (by decide)) dX12_tries_69 ?_
  refine k_topi (y := 0) rfl ?_
  refine lv_iconst (v := (-1)) hx hb dX12_tries_70 (by decide) ?_
  refine lv_icmp_ne (tgt := 78) hx hb dX12_tries_71 (by decide) (fun _ => ?_) (fun c9 => absurd c9 (by decide))
  refine lv_iconst (v := 1) hx hb dX12_tries_78 (by decide) ?_
  have hP := hP.sub (ws' := [(h0, .inr (12, ((((f0.set 119 (.int 0)).set 131 (.int 1)).set 129 (.int 0)).set 129 (.int 1)))), (h1, .inl (cZ, 26, .inl (upd (upd (upd (upd (upd (upd (upd (upd (upd (upd (upd (upd (upd (upd (upd (upd (upd (upd (upd (upd (upd (upd (upd (upd (upd (upd g0 0 0) 1 0) 2 0) 3 0) 4 0) 5 0) 6 0) 7 0) 8 0) 9 0) 10 0) 11 0) 12 0) 13 0) 14 0) 15 0) 16 0) 17 0) 18 0) 19 0) 20 0) 21 0) 22 0) 23 0) 24 0) 25 0))), (h2, .inl (cI, 32768, .inl (upd (k_fill (-1) 32768 g1) 17 0))), (h3, .inl (cI, 3000, .inl (upd g2 0 (-1)))), (h4, .inl (cI, 48000, .inl (upd g3 0 0))), (h5, .inl (cI, 4096, .inl (upd (k_fill (-1) 4096 g4) 0 1))), (h6, .inl (cI, 3000, .inl (upd (upd g5 0 0) 0 1))), (h7, .inl (cI, 3000, .inl (upd (upd g6 0 0) 0 0))), (h8, .inl (cI, 4096, .inl (upd g7 0 0))), (h9, .inl (cI, 3000, .inl (upd g8 0 0)))]) [7, 5, 0, 1, 2, 3, 8, 4, 6, 9] rfl
  have hD := hD.sub (ws' := [(h0, .inr (12, ((((f0.set 119 (.int 0)).set 131 (.int 1)).set 129 (.int 0)).set 129 (.int 1)))), (h1, .inl (cZ, 26, .inl (upd (upd (upd (upd (upd (upd (upd (upd (upd (upd (upd (upd (upd (upd (upd (upd (upd (upd (upd (upd (upd (upd (upd (upd (upd (upd g0 0 0) 1 0) 2 0) 3 0) 4 0) 5 0) 6 0) 7 0) 8 0) 9 0) 10 0) 11 0) 12 0) 13 0) 14 0) 15 0) 16 0) 17 0) 18 0) 19 0) 20 0) 21 0) 22 0) 23 0) 24 0) 25 0))), (h2, .inl (cI, 32768, .inl (upd (k_fill (-1) 32768 g1) 17 0))), (h3, .inl (cI, 3000, .inl (upd g2 0 (-1)))), (h4, .inl (cI, 48000, .inl (upd g3 0 0))), (h5, .inl (cI, 4096, .inl (upd (k_fill (-1) 4096 g4) 0 1))), (h6, .inl (cI, 3000, .inl (upd (upd g5 0 0) 0 1))), (h7, .inl (cI, 3000, .inl (upd (upd g6 0 0) 0 0))), (h8, .inl (cI, 4096, .inl (upd g7 0 0))), (h9, .inl (cI, 3000, .inl (upd g8 0 0)))]) [7, 5, 0, 1, 2, 3, 8, 4, 6, 9] (by decide +kernel) rfl
  exact W.iret (v := 1) hx hb hr (fun t ht hW => ⟨⟨1, (), rfl, rfl, kB_mk ht hW hP hK hD⟩, hS.F ht⟩) hS.2.2 dX12_tries_79
set_option maxHeartbeats 400000000 in
set_option maxRecDepth 100000 in
theorem c_X12_core_0 (l : Launch) (E : kE) (D : va_G) (cI cJ cB cZ : ClassId) (h0 : Nat) (f0 : List Value) (h1 : Nat) (g0 : Nat → Int32) (h2 : Nat) (h3 : Nat) (h4 : Nat) (h5 : Nat) (h6 : Nat) (h7 : Nat) (h8 : Nat) (h9 : Nat) (h10 : Nat) (g1 : Nat → Int32) (g2 : Nat → Int32) (g3 : Nat → Int32) (g4 : Nat → Int32) (g5 : Nat → Int32) (g6 : Nat → Int32) (g7 : Nat → Int32) (g8 : Nat → Int32) (g9 : Nat → Int32) (e0 : f0[0]? = some (.int 0)) (e1 : f0[5]? = some (.int 0)) (e2 : f0[134]? = some (.ref h1)) (e3 : f0[119]? = some (.int 0)) (e4 : f0[121]? = some (.ref h2)) (e5 : f0[33]? = some (.int 0)) (e6 : f0[32]? = some (.int 0)) (e7 : f0[131]? = some (.int 0)) (e8 : f0[127]? = some (.ref h3)) (e9 : f0[129]? = some (.int 0)) (e10 : f0[128]? = some (.ref h4)) (e11 : f0[126]? = some (.ref h5)) (e12 : f0[136]? = some (.ref h6)) (e13 : f0[132]? = some (.ref h7)) (e14 : f0[133]? = some (.ref h8)) (e15 : f0[135]? = some (.ref h9)) (e16 : f0[137]? = some (.ref h10)) (e17 : f0[149]? = some (.int 0)) : kI l E D (kT cI cJ cB cZ) yX12_core wsX12_core ({ frames := 3, cells := 0, slots := 0, locals := 72 }) [.ref h0] [(h0, .inr (12, f0)), (h1, .inl (cZ, 24, .inl g0)), (h2, .inl (cZ, 26, .inl g1)), (h3, .inl (cI, 32768, .inl g2)), (h4, .inl (cI, 3000, .inl g3)), (h5, .inl (cI, 48000, .inl g4)), (h6, .inl (cI, 4096, .inl g5)), (h7, .inl (cI, 3000, .inl g6)), (h8, .inl (cI, 3000, .inl g7)), (h9, .inl (cI, 4096, .inl g8)), (h10, .inl (cI, 3000, .inl g9))] (0) [(h0, .inr (12, ((((((f0.set 0 (.int 0)).set 119 (.int 0)).set 131 (.int 1)).set 129 (.int 0)).set 129 (.int 1)).set 149 (.int 0)))), (h1, .inl (cZ, 24, .inl (upd (upd (upd (upd (upd (upd (upd (upd (upd (upd (upd (upd (upd (upd (upd (upd (upd (upd (upd (upd (upd (upd (upd (upd g0 0 0) 1 0) 2 0) 3 0) 4 0) 5 0) 6 0) 7 0) 8 0) 9 0) 10 0) 11 0) 12 0) 13 0) 14 0) 15 0) 16 0) 17 0) 18 0) 19 0) 20 0) 21 0) 22 0) 23 0))), (h2, .inl (cZ, 26, .inl (upd (upd (upd (upd (upd (upd (upd (upd (upd (upd (upd (upd (upd (upd (upd (upd (upd (upd (upd (upd (upd (upd (upd (upd (upd (upd g1 0 0) 1 0) 2 0) 3 0) 4 0) 5 0) 6 0) 7 0) 8 0) 9 0) 10 0) 11 0) 12 0) 13 0) 14 0) 15 0) 16 0) 17 0) 18 0) 19 0) 20 0) 21 0) 22 0) 23 0) 24 0) 25 0))), (h3, .inl (cI, 32768, .inl (upd (k_fill (-1) 32768 g2) 17 0))), (h4, .inl (cI, 3000, .inl (upd g3 0 (-1)))), (h5, .inl (cI, 48000, .inl (upd g4 0 0))), (h6, .inl (cI, 4096, .inl (upd (k_fill (-1) 4096 g5) 0 1))), (h7, .inl (cI, 3000, .inl (upd (upd g6 0 0) 0 1))), (h8, .inl (cI, 3000, .inl (upd (upd g7 0 0) 0 0))), (h9, .inl (cI, 4096, .inl (upd g8 0 0))), (h10, .inl (cI, 3000, .inl (upd g9 0 0)))] 0 0 := by
  intro sz
  refine Met.ofW (cc := cX12_core) (maxL := 3) (ret := (some .int)) (by decide) rfl ?_
  intro p e s m args below meth c s₁ B hml hv
  obtain ⟨rfl, hsz, hP, hK, hD0, hN, hX⟩ := hv
  have hx := B.exec
  have hb := B.bytes
  have hr := B.returns
  have hts := atoms_spec (ws := wsX12_core) B.pre
  have hown : s.vm.findClass RX12 = some m.cls := findClass_of_methodNamed B.named
  have hlocks := B.notSynchronized
  have hin12 : ∀ w ∈ wsX120, w ∈ wsX12_core := (fun w h => (List.mem_cons_of_mem _ (List.mem_append_right _ h)))
  subst hsz
  have hD := hD0.self (sz := s.heap.size)
  have hAE := k_AE hD0 hX
  generalize hAe : va_A [(h0, .inr (12, f0)), (h1, .inl (cZ, 24, .inl g0)), (h2, .inl (cZ, 26, .inl g1)), (h3, .inl (cI, 32768, .inl g2)), (h4, .inl (cI, 3000, .inl g3)), (h5, .inl (cI, 48000, .inl g4)), (h6, .inl (cI, 4096, .inl g5)), (h7, .inl (cI, 3000, .inl g6)), (h8, .inl (cI, 3000, .inl g7)), (h9, .inl (cI, 4096, .inl g8)), (h10, .inl (cI, 3000, .inl g9))] s.heap.size = A at hD hAE ⊢
  have hA : ∀ q : Nat, s.heap.size ≤ q → A q := fun q h => by rw [← hAe]; exact Or.inr h
  have hS : va_S A s.heap s.heap [] := va_S.rf
  have hP : va_P D vwCl [(h0, .inr (12, f0)), (h1, .inl (cZ, 24, .inl g0)), (h2, .inl (cZ, 26, .inl g1)), (h3, .inl (cI, 32768, .inl g2)), (h4, .inl (cI, 3000, .inl g3)), (h5, .inl (cI, 48000, .inl g4)), (h6, .inl (cI, 4096, .inl g5)), (h7, .inl (cI, 3000, .inl g6)), (h8, .inl (cI, 3000, .inl g7)), (h9, .inl (cI, 4096, .inl g8)), (h10, .inl (cI, 3000, .inl g9))] s.heap := hP
  have hl := lv_entry ([.ref h0] : List Value) (n := 3) (Nat.le_of_ble_eq_true rfl)
  rw [lg_entry_eq]
  generalize (lg_sl ([.ref h0]) ++ List.replicate (3 - (lg_sl ([.ref h0])).length) Slot.unset).toArray = ls at hl ⊢
  have hl : lv_has ls 3 [(0, .ref h0)] := hl
  refine lv_aload_n hx hb dX12_core_0 rfl (lv_at hl 0 rfl) ?_
  refine k_cVi (As := []) (rest := []) (wc := [(h0, .inr (12, f0))]) (wr := [(h1, .inl (cZ, 24, .inl g0)), (h2, .inl (cZ, 26, .inl g1)), (h3, .inl (cI, 32768, .inl g2)), (h4, .inl (cI, 3000, .inl g3)), (h5, .inl (cI, 48000, .inl g4)), (h6, .inl (cI, 4096, .inl g5)), (h7, .inl (cI, 3000, .inl g6)), (h8, .inl (cI, 3000, .inl g7)), (h9, .inl (cI, 4096, .inl g8)), (h10, .inl (cI, 3000, .inl g9))]) (w1 := [(h0, .inr (12, (f0.set 0 (.int 0))))]) ⟨hx, hb, hml, hown, hts⟩ hN hX hAE hK hP hD hS hA [0] [1, 2, 3, 4, 5, 6, 7, 8, 9, 10] (ci := 12) rfl rfl rfl rfl (by decide +kernel) (by decide +kernel) (by decide +kernel) (c_X12_asks_0 l E D cI cJ cB cZ h0 f0 e0 e1) (cwV 0 hts gX12_core_X12_asks rfl rfl rfl (by decide +kernel) ⟨Nat.le_of_ble_eq_true rfl, Nat.le_of_ble_eq_true rfl⟩) rfl hl.1 (Nat.le_of_ble_eq_true rfl) dX12_core_1 ⟨Nat.le_of_ble_eq_true rfl, Nat.le_of_ble_eq_true rfl⟩ (fun H locs hP hD hS => ?_)
  have hP : va_P D vwCl [(h1, .inl (cZ, 24, .inl g0)), (h2, .inl (cZ, 26, .inl g1)), (h3, .inl (cI, 32768, .inl g2)), (h4, .inl (cI, 3000, .inl g3)), (h5, .inl (cI, 48000, .inl g4)), (h6, .inl (cI, 4096, .inl g5)), (h7, .inl (cI, 3000, .inl g6)), (h8, .inl (cI, 3000, .inl g7)), (h9, .inl (cI, 4096, .inl g8)), (h10, .inl (cI, 3000, .inl g9)), (h0, .inr (12, (f0.set 0 (.int 0))))] H := hP
  have hD : va_D A [(h1, .inl (cZ, 24, .inl g0)), (h2, .inl (cZ, 26, .inl g1)), (h3, .inl (cI, 32768, .inl g2)), (h4, .inl (cI, 3000, .inl g3)), (h5, .inl (cI, 48000, .inl g4)), (h6, .inl (cI, 4096, .inl g5)), (h7, .inl (cI, 3000, .inl g6)), (h8, .inl (cI, 3000, .inl g7)), (h9, .inl (cI, 4096, .inl g8)), (h10, .inl (cI, 3000, .inl g9)), (h0, .inr (12, (f0.set 0 (.int 0))))] := hD
  refine lv_if_ne (tgt := 10) hx hb dX12_core_4 (by decide) (fun _ => ?_) (fun c9 => absurd c9 (by decide))
  refine lv_aload_n hx hb dX12_core_10 rfl (lv_at hl 0 rfl) ?_
  refine k_cVv (As := []) (rest := []) (wc := [(h0, .inr (12, (f0.set 0 (.int 0)))), (h1, .inl (cZ, 24, .inl g0))]) (wr := [(h2, .inl (cZ, 26, .inl g1)), (h3, .inl (cI, 32768, .inl g2)), (h4, .inl (cI, 3000, .inl g3)), (h5, .inl (cI, 48000, .inl g4)), (h6, .inl (cI, 4096, .inl g5)), (h7, .inl (cI, 3000, .inl g6)), (h8, .inl (cI, 3000, .inl g7)), (h9, .inl (cI, 4096, .inl g8)), (h10, .inl (cI, 3000, .inl g9))]) (w1 := (fun _ : Unit => [(h0, .inr (12, (f0.set 0 (.int 0)))), (h1, .inl (cZ, 24, .inl (upd (upd (upd (upd (upd (upd (upd (upd (upd (upd (upd (upd (upd (upd (upd (upd (upd (upd (upd (upd (upd (upd (upd (upd g0 0 0) 1 0) 2 0) 3 0) 4 0) 5 0) 6 0) 7 0) 8 0) 9 0) 10 0) 11 0) 12 0) 13 0) 14 0) 15 0) 16 0) 17 0) 18 0) 19 0) 20 0) 21 0) 22 0) 23 0)))])) ⟨hx, hb, hml, hown, hts⟩ hN hX hAE hK hP hD hS hA [10, 0] [1, 2, 3, 4, 5, 6, 7, 8, 9] (ci := 12) rfl rfl rfl rfl (by decide +kernel) (by decide +kernel) (by decide +kernel) (c_X12_leaveNoneOut_0 l E D cI cJ cB cZ h0 ((f0.set 0 (.int 0))) h1 g0 (k_ne (by decide) e2)) (cwV 0 hts gX12_core_X12_leaveNoneOut rfl rfl rfl (by decide +kernel) ⟨Nat.le_of_ble_eq_true rfl, Nat.le_of_ble_eq_true rfl⟩) rfl hl.1 (Nat.le_of_ble_eq_true rfl) dX12_core_11 ⟨Nat.le_of_ble_eq_true rfl, Nat.le_of_ble_eq_true rfl⟩ (fun _ H locs hP hD hS => ?_)
  have hP : va_P D vwCl [(h2, .inl (cZ, 26, .inl g1)), (h3, .inl (cI, 32768, .inl g2)), (h4, .inl (cI, 3000, .inl g3)), (h5, .inl (cI, 48000, .inl g4)), (h6, .inl (cI, 4096, .inl g5)), (h7, .inl (cI, 3000, .inl g6)), (h8, .inl (cI, 3000, .inl g7)), (h9, .inl (cI, 4096, .inl g8)), (h10, .inl (cI, 3000, .inl g9)), (h0, .inr (12, (f0.set 0 (.int 0)))), (h1, .inl (cZ, 24, .inl (upd (upd (upd (upd (upd (upd (upd (upd (upd (upd (upd (upd (upd (upd (upd (upd (upd (upd (upd (upd (upd (upd (upd (upd g0 0 0) 1 0) 2 0) 3 0) 4 0) 5 0) 6 0) 7 0) 8 0) 9 0) 10 0) 11 0) 12 0) 13 0) 14 0) 15 0) 16 0) 17 0) 18 0) 19 0) 20 0) 21 0) 22 0) 23 0)))] H := hP
  have hD : va_D A [(h2, .inl (cZ, 26, .inl g1)), (h3, .inl (cI, 32768, .inl g2)), (h4, .inl (cI, 3000, .inl g3)), (h5, .inl (cI, 48000, .inl g4)), (h6, .inl (cI, 4096, .inl g5)), (h7, .inl (cI, 3000, .inl g6)), (h8, .inl (cI, 3000, .inl g7)), (h9, .inl (cI, 4096, .inl g8)), (h10, .inl (cI, 3000, .inl g9)), (h0, .inr (12, (f0.set 0 (.int 0)))), (h1, .inl (cZ, 24, .inl (upd (upd (upd (upd (upd (upd (upd (upd (upd (upd (upd (upd (upd (upd (upd (upd (upd (upd (upd (upd (upd (upd (upd (upd g0 0 0) 1 0) 2 0) 3 0) 4 0) 5 0) 6 0) 7 0) 8 0) 9 0) 10 0) 11 0) 12 0) 13 0) 14 0) 15 0) 16 0) 17 0) 18 0) 19 0) 20 0) 21 0) 22 0) 23 0)))] := hD
  refine lv_aload_n hx hb dX12_core_14 rfl (lv_at hl 0 rfl) ?_
  refine k_cVi (As := []) (rest := []) (wc := [(h0, .inr (12, (f0.set 0 (.int 0)))), (h2, .inl (cZ, 26, .inl g1)), (h3, .inl (cI, 32768, .inl g2)), (h4, .inl (cI, 3000, .inl g3)), (h5, .inl (cI, 48000, .inl g4)), (h6, .inl (cI, 4096, .inl g5)), (h7, .inl (cI, 3000, .inl g6)), (h8, .inl (cI, 3000, .inl g7)), (h9, .inl (cI, 4096, .inl g8)), (h10, .inl (cI, 3000, .inl g9))]) (wr := [(h1, .inl (cZ, 24, .inl (upd (upd (upd (upd (upd (upd (upd (upd (upd (upd (upd (upd (upd (upd (upd (upd (upd (upd (upd (upd (upd (upd (upd (upd g0 0 0) 1 0) 2 0) 3 0) 4 0) 5 0) 6 0) 7 0) 8 0) 9 0) 10 0) 11 0) 12 0) 13 0) 14 0) 15 0) 16 0) 17 0) 18 0) 19 0) 20 0) 21 0) 22 0) 23 0)))]) (w1 := [(h0, .inr (12, (((((f0.set 0 (.int 0)).set 119 (.int 0)).set 131 (.int 1)).set 129 (.int 0)).set 129 (.int 1)))), (h2, .inl (cZ, 26, .inl (upd (upd (upd (upd (upd (upd (upd (upd (upd (upd (upd (upd (upd (upd (upd (upd (upd (upd (upd (upd (upd (upd (upd (upd (upd (upd g1 0 0) 1 0) 2 0) 3 0) 4 0) 5 0) 6 0) 7 0) 8 0) 9 0) 10 0) 11 0) 12 0) 13 0) 14 0) 15 0) 16 0) 17 0) 18 0) 19 0) 20 0) 21 0) 22 0) 23 0) 24 0) 25 0))), (h3, .inl (cI, 32768, .inl (upd (k_fill (-1) 32768 g2) 17 0))), (h4, .inl (cI, 3000, .inl (upd g3 0 (-1)))), (h5, .inl (cI, 48000, .inl (upd g4 0 0))), (h6, .inl (cI, 4096, .inl (upd (k_fill (-1) 4096 g5) 0 1))), (h7, .inl (cI, 3000, .inl (upd (upd g6 0 0) 0 1))), (h8, .inl (cI, 3000, .inl (upd (upd g7 0 0) 0 0))), (h9, .inl (cI, 4096, .inl (upd g8 0 0))), (h10, .inl (cI, 3000, .inl (upd g9 0 0)))]) ⟨hx, hb, hml, hown, hts⟩ hN hX hAE hK hP hD hS hA [9, 0, 1, 2, 3, 4, 5, 6, 7, 8] [10] (ci := 12) rfl rfl rfl rfl (by decide +kernel) (by decide +kernel) (by decide +kernel) (c_X12_tries_0 l E D cI cJ cB cZ h0 ((f0.set 0 (.int 0))) h2 g1 h3 h4 h5 g2 g3 g4 h6 h7 h8 h9 g5 g6 g7 g8 h10 g9 (k_ne (by decide) e3) (k_ne (by decide) e4) (k_ne (by decide) e5) (k_ne (by decide) e6) (k_ne (by decide) e7) (k_ne (by decide) e8) (k_ne (by decide) e9) (k_ne (by decide) e10) (k_ne (by decide) e11) (k_ne (by decide) e12) (k_ne (by decide) e13) (k_ne (by decide) e14) (k_ne (by decide) e15) (k_ne (by decide) e16)) (cwV 0 hts gX12_core_X12_tries rfl rfl rfl (by decide +kernel) ⟨Nat.le_of_ble_eq_true rfl, Nat.le_of_ble_eq_true rfl⟩) rfl hl.1 (Nat.le_of_ble_eq_true rfl) dX12_core_15 ⟨Nat.le_of_ble_eq_true rfl, Nat.le_of_ble_eq_true rfl⟩ (fun H locs hP hD hS => ?_)
  have hP : va_P D vwCl [(h1, .inl (cZ, 24, .inl (upd (upd (upd (upd (upd (upd (upd (upd (upd (upd (upd (upd (upd (upd (upd (upd (upd (upd (upd (upd (upd (upd (upd (upd g0 0 0) 1 0) 2 0) 3 0) 4 0) 5 0) 6 0) 7 0) 8 0) 9 0) 10 0) 11 0) 12 0) 13 0) 14 0) 15 0) 16 0) 17 0) 18 0) 19 0) 20 0) 21 0) 22 0) 23 0))), (h0, .inr (12, (((((f0.set 0 (.int 0)).set 119 (.int 0)).set 131 (.int 1)).set 129 (.int 0)).set 129 (.int 1)))), (h2, .inl (cZ, 26, .inl (upd (upd (upd (upd (upd (upd (upd (upd (upd (upd (upd (upd (upd (upd (upd (upd (upd (upd (upd (upd (upd (upd (upd (upd (upd (upd g1 0 0) 1 0) 2 0) 3 0) 4 0) 5 0) 6 0) 7 0) 8 0) 9 0) 10 0) 11 0) 12 0) 13 0) 14 0) 15 0) 16 0) 17 0) 18 0) 19 0) 20 0) 21 0) 22 0) 23 0) 24 0) 25 0))), (h3, .inl (cI, 32768, .inl (upd (k_fill (-1) 32768 g2) 17 0))), (h4, .inl (cI, 3000, .inl (upd g3 0 (-1)))), (h5, .inl (cI, 48000, .inl (upd g4 0 0))), (h6, .inl (cI, 4096, .inl (upd (k_fill (-1) 4096 g5) 0 1))), (h7, .inl (cI, 3000, .inl (upd (upd g6 0 0) 0 1))), (h8, .inl (cI, 3000, .inl (upd (upd g7 0 0) 0 0))), (h9, .inl (cI, 4096, .inl (upd g8 0 0))), (h10, .inl (cI, 3000, .inl (upd g9 0 0)))] H := hP
  have hD : va_D A [(h1, .inl (cZ, 24, .inl (upd (upd (upd (upd (upd (upd (upd (upd (upd (upd (upd (upd (upd (upd (upd (upd (upd (upd (upd (upd (upd (upd (upd (upd g0 0 0) 1 0) 2 0) 3 0) 4 0) 5 0) 6 0) 7 0) 8 0) 9 0) 10 0) 11 0) 12 0) 13 0) 14 0) 15 0) 16 0) 17 0) 18 0) 19 0) 20 0) 21 0) 22 0) 23 0))), (h0, .inr (12, (((((f0.set 0 (.int 0)).set 119 (.int 0)).set 131 (.int 1)).set 129 (.int 0)).set 129 (.int 1)))), (h2, .inl (cZ, 26, .inl (upd (upd (upd (upd (upd (upd (upd (upd (upd (upd (upd (upd (upd (upd (upd (upd (upd (upd (upd (upd (upd (upd (upd (upd (upd (upd g1 0 0) 1 0) 2 0) 3 0) 4 0) 5 0) 6 0) 7 0) 8 0) 9 0) 10 0) 11 0) 12 0) 13 0) 14 0) 15 0) 16 0) 17 0) 18 0) 19 0) 20 0) 21 0) 22 0) 23 0) 24 0) 25 0))), (h3, .inl (cI, 32768, .inl (upd (k_fill (-1) 32768 g2) 17 0))), (h4, .inl (cI, 3000, .inl (upd g3 0 (-1)))), (h5, .inl (cI, 48000, .inl (upd g4 0 0))), (h6, .inl (cI, 4096, .inl (upd (k_fill (-1) 4096 g5) 0 1))), (h7, .inl (cI, 3000, .inl (upd (upd g6 0 0) 0 1))), (h8, .inl (cI, 3000, .inl (upd (upd g7 0 0) 0 0))), (h9, .inl (cI, 4096, .inl (upd g8 0 0))), (h10, .inl (cI, 3000, .inl (upd g9 0 0)))] := hD
  refine lv_istore_n (lv' := [(1, .int 1), (0, .ref h0)]) hx hb dX12_core_18 rfl hl (by decide) rfl (fun ls hl => ?_)
  refine lv_iload_n hx hb dX12_core_19 rfl (lv_at hl 0 rfl) ?_
  refine lv_bipush (v := (-107)) hx hb dX12_core_20 (by decide) ?_
  refine lv_icmp_ne (tgt := 28) hx hb dX12_core_22 (by decide) (fun _ => ?_) (fun c9 => absurd c9 (by decide))
  refine lv_aload_n hx hb dX12_core_28 rfl (lv_at hl 1 rfl) ?_
  refine lv_iconst (v := 0) hx hb dX12_core_29 (by decide) ?_
  refine va_put (D := D) (ref := "IntegerHouseModel") (ci := 12) (v := .int 0) (ty := .int) (C := RX12) (T := TX12) (N := 195) hx hb hts hin12 tyX12 tyX12_ok nmX12 hown hK hP hD hS 1 rfl rfl 149 (by decide) (hts (.fieldLink RX12 1050 "IntegerHouseModel" "coreSize" "I") (List.mem_cons_of_mem _ (List.mem_append_left _ (List.mem_append_left _ (List.mem_of_getElem? (i := 0) rfl))))) (fun _ h9 => h9) rfl (by decide +kernel) rfl rfl (k_len (k_ne (by decide) (k_ne (by decide) (k_ne (by decide) (k_ne (by decide) (k_ne (by decide) e17)))))) dX12_core_30 (fun H locs hP hD hS => ?_)
  have hP : va_P D vwCl [(h1, .inl (cZ, 24, .inl (upd (upd (upd (upd (upd (upd (upd (upd (upd (upd (upd (upd (upd (upd (upd (upd (upd (upd (upd (upd (upd (upd (upd (upd g0 0 0) 1 0) 2 0) 3 0) 4 0) 5 0) 6 0) 7 0) 8 0) 9 0) 10 0) 11 0) 12 0) 13 0) 14 0) 15 0) 16 0) 17 0) 18 0) 19 0) 20 0) 21 0) 22 0) 23 0))), (h0, .inr (12, ((((((f0.set 0 (.int 0)).set 119 (.int 0)).set 131 (.int 1)).set 129 (.int 0)).set 129 (.int 1)).set 149 (.int 0)))), (h2, .inl (cZ, 26, .inl (upd (upd (upd (upd (upd (upd (upd (upd (upd (upd (upd (upd (upd (upd (upd (upd (upd (upd (upd (upd (upd (upd (upd (upd (upd (upd g1 0 0) 1 0) 2 0) 3 0) 4 0) 5 0) 6 0) 7 0) 8 0) 9 0) 10 0) 11 0) 12 0) 13 0) 14 0) 15 0) 16 0) 17 0) 18 0) 19 0) 20 0) 21 0) 22 0) 23 0) 24 0) 25 0))), (h3, .inl (cI, 32768, .inl (upd (k_fill (-1) 32768 g2) 17 0))), (h4, .inl (cI, 3000, .inl (upd g3 0 (-1)))), (h5, .inl (cI, 48000, .inl (upd g4 0 0))), (h6, .inl (cI, 4096, .inl (upd (k_fill (-1) 4096 g5) 0 1))), (h7, .inl (cI, 3000, .inl (upd (upd g6 0 0) 0 1))), (h8, .inl (cI, 3000, .inl (upd (upd g7 0 0) 0 0))), (h9, .inl (cI, 4096, .inl (upd g8 0 0))), (h10, .inl (cI, 3000, .inl (upd g9 0 0)))] H := hP
  have hD : va_D A [(h1, .inl (cZ, 24, .inl (upd (upd (upd (upd (upd (upd (upd (upd (upd (upd (upd (upd (upd (upd (upd (upd (upd (upd (upd (upd (upd (upd (upd (upd g0 0 0) 1 0) 2 0) 3 0) 4 0) 5 0) 6 0) 7 0) 8 0) 9 0) 10 0) 11 0) 12 0) 13 0) 14 0) 15 0) 16 0) 17 0) 18 0) 19 0) 20 0) 21 0) 22 0) 23 0))), (h0, .inr (12, ((((((f0.set 0 (.int 0)).set 119 (.int 0)).set 131 (.int 1)).set 129 (.int 0)).set 129 (.int 1)).set 149 (.int 0)))), (h2, .inl (cZ, 26, .inl (upd (upd (upd (upd (upd (upd (upd (upd (upd (upd (upd (upd (upd (upd (upd (upd (upd (upd (upd (upd (upd (upd (upd (upd (upd (upd g1 0 0) 1 0) 2 0) 3 0) 4 0) 5 0) 6 0) 7 0) 8 0) 9 0) 10 0) 11 0) 12 0) 13 0) 14 0) 15 0) 16 0) 17 0) 18 0) 19 0) 20 0) 21 0) 22 0) 23 0) 24 0) 25 0))), (h3, .inl (cI, 32768, .inl (upd (k_fill (-1) 32768 g2) 17 0))), (h4, .inl (cI, 3000, .inl (upd g3 0 (-1)))), (h5, .inl (cI, 48000, .inl (upd g4 0 0))), (h6, .inl (cI, 4096, .inl (upd (k_fill (-1) 4096 g5) 0 1))), (h7, .inl (cI, 3000, .inl (upd (upd g6 0 0) 0 1))), (h8, .inl (cI, 3000, .inl (upd (upd g7 0 0) 0 0))), (h9, .inl (cI, 4096, .inl (upd g8 0 0))), (h10, .inl (cI, 3000, .inl (upd g9 0 0)))] := hD
  refine lv_iload_n hx hb dX12_core_33 rfl (lv_at hl 0 rfl) ?_
  refine lv_iconst (v := 1) hx hb dX12_core_34 (by decide) ?_
  refine lv_icmp_ne (tgt := 40) hx hb dX12_core_35 (by decide) (fun c9 => absurd (by decide) c9) (fun _ => ?_)
  refine lv_iconst (v := 0) hx hb dX12_core_38 (by decide) ?_
  have hP := hP.sub (ws' := [(h0, .inr (12, ((((((f0.set 0 (.int 0)).set 119 (.int 0)).set 131 (.int 1)).set 129 (.int 0)).set 129 (.int 1)).set 149 (.int 0)))), (h1, .inl (cZ, 24, .inl (upd (upd (upd (upd (upd (upd (upd (upd (upd (upd (upd (upd (upd (upd (upd (upd (upd (upd (upd (upd (upd (upd (upd (upd g0 0 0) 1 0) 2 0) 3 0) 4 0) 5 0) 6 0) 7 0) 8 0) 9 0) 10 0) 11 0) 12 0) 13 0) 14 0) 15 0) 16 0) 17 0) 18 0) 19 0) 20 0) 21 0) 22 0) 23 0))), (h2, .inl (cZ, 26, .inl (upd (upd (upd (upd (upd (upd (upd (upd (upd (upd (upd (upd (upd (upd (upd (upd (upd (upd (upd (upd (upd (upd (upd (upd (upd (upd g1 0 0) 1 0) 2 0) 3 0) 4 0) 5 0) 6 0) 7 0) 8 0) 9 0) 10 0) 11 0) 12 0) 13 0) 14 0) 15 0) 16 0) 17 0) 18 0) 19 0) 20 0) 21 0) 22 0) 23 0) 24 0) 25 0))), (h3, .inl (cI, 32768, .inl (upd (k_fill (-1) 32768 g2) 17 0))), (h4, .inl (cI, 3000, .inl (upd g3 0 (-1)))), (h5, .inl (cI, 48000, .inl (upd g4 0 0))), (h6, .inl (cI, 4096, .inl (upd (k_fill (-1) 4096 g5) 0 1))), (h7, .inl (cI, 3000, .inl (upd (upd g6 0 0) 0 1))), (h8, .inl (cI, 3000, .inl (upd (upd g7 0 0) 0 0))), (h9, .inl (cI, 4096, .inl (upd g8 0 0))), (h10, .inl (cI, 3000, .inl (upd g9 0 0)))]) [1, 0, 2, 3, 4, 5, 6, 7, 8, 9, 10] rfl
  have hD := hD.sub (ws' := [(h0, .inr (12, ((((((f0.set 0 (.int 0)).set 119 (.int 0)).set 131 (.int 1)).set 129 (.int 0)).set 129 (.int 1)).set 149 (.int 0)))), (h1, .inl (cZ, 24, .inl (upd (upd (upd (upd (upd (upd (upd (upd (upd (upd (upd (upd (upd (upd (upd (upd (upd (upd (upd (upd (upd (upd (upd (upd g0 0 0) 1 0) 2 0) 3 0) 4 0) 5 0) 6 0) 7 0) 8 0) 9 0) 10 0) 11 0) 12 0) 13 0) 14 0) 15 0) 16 0) 17 0) 18 0) 19 0) 20 0) 21 0) 22 0) 23 0))), (h2, .inl (cZ, 26, .inl (upd (upd (upd (upd (upd (upd (upd (upd (upd (upd (upd (upd (upd (upd (upd (upd (upd (upd (upd (upd (upd (upd (upd (upd (upd (upd g1 0 0) 1 0) 2 0) 3 0) 4 0) 5 0) 6 0) 7 0) 8 0) 9 0) 10 0) 11 0) 12 0) 13 0) 14 0) 15 0) 16 0) 17 0) 18 0) 19 0) 20 0) 21 0) 22 0) 23 0) 24 0) 25 0))), (h3, .inl (cI, 32768, .inl (upd (k_fill (-1) 32768 g2) 17 0))), (h4, .inl (cI, 3000, .inl (upd g3 0 (-1)))), (h5, .inl (cI, 48000, .inl (upd g4 0 0))), (h6, .inl (cI, 4096, .inl (upd (k_fill (-1) 4096 g5) 0 1))), (h7, .inl (cI, 3000, .inl (upd (upd g6 0 0) 0 1))), (h8, .inl (cI, 3000, .inl (upd (upd g7 0 0) 0 0))), (h9, .inl (cI, 4096, .inl (upd g8 0 0))), (h10, .inl (cI, 3000, .inl (upd g9 0 0)))]) [1, 0, 2, 3, 4, 5, 6, 7, 8, 9, 10] (by decide +kernel) rfl
  exact W.iret (v := 0) hx hb hr (fun t ht hW => ⟨⟨0, (), rfl, rfl, kB_mk ht hW hP hK hD⟩, hS.F ht⟩) hS.2.2 dX12_core_39
set_option maxHeartbeats 400000000 in
set_option maxRecDepth 100000 in
theorem c_X0_toldInCore_0 (l : Launch) (E : kE) (D : va_G) (cI cJ cB cZ : ClassId) (h0 : Nat) (x0 : Int32) (f0 : List Value) (e0 : ¬ ((x0 : Int32) < 0)) (e1 : f0[14]? = some (.int 0)) : kI l E D (kT cI cJ cB cZ) yX0_toldInCore wsX0_toldInCore ({ frames := 0, cells := 0, slots := 0, locals := 0 }) [.ref h0, .int x0] [(h0, .inr (0, f0))] ((-1)) [(h0, .inr (0, f0))] 0 0 := by
  intro sz
  refine Met.ofW (cc := cX0_toldInCore) (maxL := 2) (ret := (some .int)) (by decide) rfl ?_
  intro p e s m args below meth c s₁ B hml hv
  obtain ⟨rfl, hsz, hP, hK, hD0, hN, hX⟩ := hv
  have hx := B.exec
  have hb := B.bytes
  have hr := B.returns
  have hts := atoms_spec (ws := wsX0_toldInCore) B.pre
  have hown : s.vm.findClass RX0 = some m.cls := findClass_of_methodNamed B.named
  have hlocks := B.notSynchronized
  have hin0 : ∀ w ∈ wsX00, w ∈ wsX0_toldInCore := (fun w h => (List.mem_cons_of_mem _ (List.mem_append_right _ h)))
  subst hsz
  have hD := hD0.self (sz := s.heap.size)
  have hAE := k_AE hD0 hX
  generalize hAe : va_A [(h0, .inr (0, f0))] s.heap.size = A at hD hAE ⊢
  have hA : ∀ q : Nat, s.heap.size ≤ q → A q := fun q h => by rw [← hAe]; exact Or.inr h
  have hS : va_S A s.heap s.heap [] := va_S.rf
  have hP : va_P D vwCl [(h0, .inr (0, f0))] s.heap := hP
  have hl := lv_entry ([.ref h0, .int x0] : List Value) (n := 2) (Nat.le_of_ble_eq_true rfl)
  rw [lg_entry_eq]
  generalize (lg_sl ([.ref h0, .int x0]) ++ List.replicate (2 - (lg_sl ([.ref h0, .int x0])).length) Slot.unset).toArray = ls at hl ⊢
  have hl : lv_has ls 2 [(0, .ref h0), (1, .int x0)] := hl
  refine lv_iload_n hx hb dX0_toldInCore_0 rfl (lv_at hl 1 rfl) ?_
  refine lv_if_lt (tgt := 27) hx hb dX0_toldInCore_1 (by decide) (fun c9 => absurd c9 e0) (fun _ => ?_)
  refine lv_iload_n hx hb dX0_toldInCore_4 rfl (lv_at hl 1 rfl) ?_
  refine lv_aload_n hx hb dX0_toldInCore_5 rfl (lv_at hl 0 rfl) ?_
  refine va_get (D := D) (ref := "IntegerHouse$Answers") (ci := 0) (v := .int 0) (C := RX0) (T := TX0) (N := 19) hx hb hts hin0 hown hK hP 0 rfl rfl 14 (by decide) (hts (.fieldLink RX0 167 "IntegerHouse$Answers" "coreSize" "I") (List.mem_cons_of_mem _ (List.mem_append_left _ (List.mem_of_getElem? (i := 0) rfl)))) (fun _ h9 => h9) e1 dX0_toldInCore_6 ?_
  refine lv_icmp_ge (tgt := 27) hx hb dX0_toldInCore_9 (by decide) (fun _ => ?_) (fun c9 => absurd ((k_n2 (x := x0) (c := 0)).mpr e0) c9)
  refine lv_iconst (v := (-1)) hx hb dX0_toldInCore_27 (by decide) ?_
  exact W.iret (v := (-1)) hx hb hr (fun t ht hW => ⟨⟨(-1), (), rfl, rfl, kB_mk ht hW hP hK hD⟩, hS.F ht⟩) hS.2.2 dX0_toldInCore_28
set_option maxHeartbeats 400000000 in
set_option maxRecDepth 100000 in
theorem c_X11_inCore_0 (l : Launch) (E : kE) (D : va_G) (cI cJ cB cZ : ClassId) (h0 : Nat) (x0 : Int32) (f0 : List Value) (h1 : Nat) (f1 : List Value) (e0 : f0[7]? = some (.ref h1)) (e1 : f1[14]? = some (.int 0)) (e2 : ¬ ((x0 : Int32) < 0)) : kI l E D (kT cI cJ cB cZ) yX11_inCore wsX11_inCore ({ frames := 1, cells := 0, slots := 0, locals := 21 }) [.ref h0, .int x0] [(h0, .inr (11, f0)), (h1, .inr (0, f1))] ((-1)) [(h0, .inr (11, f0)), (h1, .inr (0, f1))] 0 0 := by
  intro sz
  refine Met.ofW (cc := cX11_inCore) (maxL := 2) (ret := (some .int)) (by decide) rfl ?_
  intro p e s m args below meth c s₁ B hml hv
  obtain ⟨rfl, hsz, hP, hK, hD0, hN, hX⟩ := hv
  have hx := B.exec
  have hb := B.bytes
  have hr := B.returns
  have hts := atoms_spec (ws := wsX11_inCore) B.pre
  have hown : s.vm.findClass RX11 = some m.cls := findClass_of_methodNamed B.named
  have hlocks := B.notSynchronized
  have hin11 : ∀ w ∈ wsX110, w ∈ wsX11_inCore := (fun w h => (List.mem_cons_of_mem _ (List.mem_append_left _ (List.mem_append_right _ h))))
  subst hsz
  have hD := hD0.self (sz := s.heap.size)
  have hAE := k_AE hD0 hX
  generalize hAe : va_A [(h0, .inr (11, f0)), (h1, .inr (0, f1))] s.heap.size = A at hD hAE ⊢
  have hA : ∀ q : Nat, s.heap.size ≤ q → A q := fun q h => by rw [← hAe]; exact Or.inr h
  have hS : va_S A s.heap s.heap [] := va_S.rf
  have hP : va_P D vwCl [(h0, .inr (11, f0)), (h1, .inr (0, f1))] s.heap := hP
  have hl := lv_entry ([.ref h0, .int x0] : List Value) (n := 2) (Nat.le_of_ble_eq_true rfl)
  rw [lg_entry_eq]
  generalize (lg_sl ([.ref h0, .int x0]) ++ List.replicate (2 - (lg_sl ([.ref h0, .int x0])).length) Slot.unset).toArray = ls at hl ⊢
  have hl : lv_has ls 2 [(0, .ref h0), (1, .int x0)] := hl
  refine lv_aload_n hx hb dX11_inCore_0 rfl (lv_at hl 0 rfl) ?_
  refine va_get (D := D) (ref := "IntegerHouse") (ci := 11) (v := .ref h1) (C := RX11) (T := TX11) (N := 15) hx hb hts hin11 hown hK hP 0 rfl rfl 7 (by decide) (hts (.fieldLink RX11 64 "IntegerHouse" "answers" "LIntegerHouse$Answers;") (List.mem_cons_of_mem _ (List.mem_append_left _ (List.mem_append_left _ (List.mem_of_getElem? (i := 0) rfl))))) (fun _ h9 => h9) e0 dX11_inCore_1 ?_
  refine lv_iload_n hx hb dX11_inCore_4 rfl (lv_at hl 1 rfl) ?_
  refine k_cVi (As := [.int x0]) (rest := []) (wc := [(h1, .inr (0, f1))]) (wr := [(h0, .inr (11, f0))]) (w1 := [(h1, .inr (0, f1))]) ⟨hx, hb, hml, hown, hts⟩ hN hX hAE hK hP hD hS hA [1] [0] (ci := 0) rfl rfl rfl rfl (by decide +kernel) (by decide +kernel) (by decide +kernel) (c_X0_toldInCore_0 l E D cI cJ cB cZ h1 x0 f1 e2 e1) (cwV 1 hts gX11_inCore_X0_toldInCore rfl rfl rfl (by decide +kernel) ⟨Nat.le_of_ble_eq_true rfl, Nat.le_of_ble_eq_true rfl⟩) rfl hl.1 (Nat.le_of_ble_eq_true rfl) dX11_inCore_5 ⟨Nat.le_of_ble_eq_true rfl, Nat.le_of_ble_eq_true rfl⟩ (fun H locs hP hD hS => ?_)
  have hP : va_P D vwCl [(h0, .inr (11, f0)), (h1, .inr (0, f1))] H := hP
  have hD : va_D A [(h0, .inr (11, f0)), (h1, .inr (0, f1))] := hD
  exact W.iret (v := (-1)) hx hb hr (fun t ht hW => ⟨⟨(-1), (), rfl, rfl, kB_mk ht hW hP hK hD⟩, hS.F ht⟩) hS.2.2 dX11_inCore_8
set_option maxHeartbeats 400000000 in
set_option maxRecDepth 100000 in
theorem c_X12_inCore_0 (l : Launch) (E : kE) (D : va_G) (cI cJ cB cZ : ClassId) (h0 : Nat) (x0 : Int32) (f0 : List Value) (e0 : f0[0]? = some (.int 0)) (e1 : f0[149]? = some (.int 0)) (e2 : ¬ ((x0 : Int32) < 0)) : kI l E D (kT cI cJ cB cZ) yX12_inCore wsX12_inCore ({ frames := 1, cells := 0, slots := 0, locals := 25 }) [.ref h0, .int x0] [(h0, .inr (12, f0))] ((-1)) [(h0, .inr (12, (f0.set 0 (.int 0))))] 0 0 := by
  intro sz
  refine Met.ofW (cc := cX12_inCore) (maxL := 2) (ret := (some .int)) (by decide) rfl ?_
  intro p e s m args below meth c s₁ B hml hv
  obtain ⟨rfl, hsz, hP, hK, hD0, hN, hX⟩ := hv
  have hx := B.exec
  have hb := B.bytes
  have hr := B.returns
  have hts := atoms_spec (ws := wsX12_inCore) B.pre
  have hown : s.vm.findClass RX12 = some m.cls := findClass_of_methodNamed B.named
  have hlocks := B.notSynchronized
  have hin12 : ∀ w ∈ wsX120, w ∈ wsX12_inCore := (fun w h => (List.mem_cons_of_mem _ (List.mem_append_right _ h)))
  subst hsz
  have hD := hD0.self (sz := s.heap.size)
  have hAE := k_AE hD0 hX
  generalize hAe : va_A [(h0, .inr (12, f0))] s.heap.size = A at hD hAE ⊢
  have hA : ∀ q : Nat, s.heap.size ≤ q → A q := fun q h => by rw [← hAe]; exact Or.inr h
  have hS : va_S A s.heap s.heap [] := va_S.rf
  have hP : va_P D vwCl [(h0, .inr (12, f0))] s.heap := hP
  have hl := lv_entry ([.ref h0, .int x0] : List Value) (n := 2) (Nat.le_of_ble_eq_true rfl)
  rw [lg_entry_eq]
  generalize (lg_sl ([.ref h0, .int x0]) ++ List.replicate (2 - (lg_sl ([.ref h0, .int x0])).length) Slot.unset).toArray = ls at hl ⊢
  have hl : lv_has ls 2 [(0, .ref h0), (1, .int x0)] := hl
  refine lv_aload_n hx hb dX12_inCore_0 rfl (lv_at hl 0 rfl) ?_
  refine lv_iconst (v := 0) hx hb dX12_inCore_1 (by decide) ?_
  refine va_put (D := D) (ref := "IntegerHouseModel") (ci := 12) (v := .int 0) (ty := .int) (C := RX12) (T := TX12) (N := 195) hx hb hts hin12 tyX12 tyX12_ok nmX12 hown hK hP hD hS 0 rfl rfl 0 (by decide) (hts (.fieldLink RX12 3 "IntegerHouseModel" "thrown" "I") (List.mem_cons_of_mem _ (List.mem_append_left _ (List.mem_of_getElem? (i := 0) rfl)))) (fun _ h9 => h9) rfl (by decide +kernel) rfl rfl (k_len e0) dX12_inCore_2 (fun H locs hP hD hS => ?_)
  have hP : va_P D vwCl [(h0, .inr (12, (f0.set 0 (.int 0))))] H := hP
  have hD : va_D A [(h0, .inr (12, (f0.set 0 (.int 0))))] := hD
  refine lv_iload_n hx hb dX12_inCore_5 rfl (lv_at hl 1 rfl) ?_
  refine lv_i2l (v := (Int32.toInt64 x0)) hx hb dX12_inCore_6 rfl ?_
  refine lv_lconst (v := 0) hx hb dX12_inCore_7 (by decide) ?_
  refine lv_aload_n hx hb dX12_inCore_8 rfl (lv_at hl 0 rfl) ?_
  refine va_get (D := D) (ref := "IntegerHouseModel") (ci := 12) (v := .int 0) (C := RX12) (T := TX12) (N := 195) hx hb hts hin12 hown hK hP 0 rfl rfl 149 (by decide) (hts (.fieldLink RX12 1050 "IntegerHouseModel" "coreSize" "I") (List.mem_cons_of_mem _ (List.mem_append_left _ (List.mem_of_getElem? (i := 1) rfl)))) (fun _ h9 => h9) (k_ne (by decide) e1) dX12_inCore_9 ?_
  refine lv_iconst (v := 1) hx hb dX12_inCore_12 (by decide) ?_
  refine lv_isub hx hb dX12_inCore_13 ?_
  refine k_topi (y := (-1)) (by decide) ?_
  refine lv_i2l (v := (-1)) hx hb dX12_inCore_14 (by decide) ?_
  refine k_cSi (As := [.long (Int32.toInt64 x0), .long 0, .long (-1)]) (rest := []) (wc := []) (wr := [(h0, .inr (12, (f0.set 0 (.int 0))))]) (w1 := []) ⟨hx, hb, hml, hown, hts⟩ hN hX hAE hK hP hD hS hA [] [0] rfl rfl (by decide +kernel) (by decide +kernel) (by decide +kernel) (c_X12_in_12 l E D cI cJ cB cZ (Int32.toInt64 x0) (fun z9 => e2 ((k_n4 (x := x0) (c := 0) (C := 0) (by decide)).mp z9)) ((k_n5 (x := x0) (c := (-1)) (d := 0) (C := (-1)) (by decide) (by decide)).mpr e2)) (va_cwS 3 hts gX12_inCore_X12_in rfl rfl rfl (by decide +kernel) ⟨Nat.le_of_ble_eq_true rfl, Nat.le_of_ble_eq_true rfl⟩) rfl hl.1 (Nat.le_of_ble_eq_true rfl) dX12_inCore_15 ⟨Nat.le_of_ble_eq_true rfl, Nat.le_of_ble_eq_true rfl⟩ (fun H locs hP hD hS => ?_)
  have hP : va_P D vwCl [(h0, .inr (12, (f0.set 0 (.int 0))))] H := hP
  have hD : va_D A [(h0, .inr (12, (f0.set 0 (.int 0))))] := hD
  refine lv_if_eq (tgt := 30) hx hb dX12_inCore_18 (by decide) (fun _ => ?_) (fun c9 => absurd (by decide) c9)
  refine lv_iconst (v := (-1)) hx hb dX12_inCore_30 (by decide) ?_
  exact W.iret (v := (-1)) hx hb hr (fun t ht hW => ⟨⟨(-1), (), rfl, rfl, kB_mk ht hW hP hK hD⟩, hS.F ht⟩) hS.2.2 dX12_inCore_31
set_option maxHeartbeats 400000000 in
set_option maxRecDepth 100000 in
theorem c_X0_toldInCore_1 (l : Launch) (E : kE) (D : va_G) (cI cJ cB cZ : ClassId) (h0 : Nat) (x0 : Int32) (e0 : (x0 : Int32) < 0) : kI l E D (kT cI cJ cB cZ) yX0_toldInCore wsX0_toldInCore ({ frames := 0, cells := 0, slots := 0, locals := 0 }) [.ref h0, .int x0] [] ((-1)) [] 0 0 := by
  intro sz
  refine Met.ofW (cc := cX0_toldInCore) (maxL := 2) (ret := (some .int)) (by decide) rfl ?_
  intro p e s m args below meth c s₁ B hml hv
  obtain ⟨rfl, hsz, hP, hK, hD0, hN, hX⟩ := hv
  have hx := B.exec
  have hb := B.bytes
  have hr := B.returns
  have hts := atoms_spec (ws := wsX0_toldInCore) B.pre
  have hown : s.vm.findClass RX0 = some m.cls := findClass_of_methodNamed B.named
  have hlocks := B.notSynchronized
  subst hsz
  have hD := hD0.self (sz := s.heap.size)
  have hAE := k_AE hD0 hX
  generalize hAe : va_A [] s.heap.size = A at hD hAE ⊢
  have hA : ∀ q : Nat, s.heap.size ≤ q → A q := fun q h => by rw [← hAe]; exact Or.inr h
  have hS : va_S A s.heap s.heap [] := va_S.rf
  have hP : va_P D vwCl [] s.heap := hP
  have hl := lv_entry ([.ref h0, .int x0] : List Value) (n := 2) (Nat.le_of_ble_eq_true rfl)
  rw [lg_entry_eq]
  generalize (lg_sl ([.ref h0, .int x0]) ++ List.replicate (2 - (lg_sl ([.ref h0, .int x0])).length) Slot.unset).toArray = ls at hl ⊢
  have hl : lv_has ls 2 [(0, .ref h0), (1, .int x0)] := hl
  refine lv_iload_n hx hb dX0_toldInCore_0 rfl (lv_at hl 1 rfl) ?_
  refine lv_if_lt (tgt := 27) hx hb dX0_toldInCore_1 (by decide) (fun _ => ?_) (fun c9 => absurd e0 c9)
  refine lv_iconst (v := (-1)) hx hb dX0_toldInCore_27 (by decide) ?_
  exact W.iret (v := (-1)) hx hb hr (fun t ht hW => ⟨⟨(-1), (), rfl, rfl, kB_mk ht hW hP hK hD⟩, hS.F ht⟩) hS.2.2 dX0_toldInCore_28
set_option maxHeartbeats 400000000 in
set_option maxRecDepth 100000 in
theorem c_X11_inCore_1 (l : Launch) (E : kE) (D : va_G) (cI cJ cB cZ : ClassId) (h0 : Nat) (x0 : Int32) (f0 : List Value) (h1 : Nat) (e0 : f0[7]? = some (.ref h1)) (e1 : (x0 : Int32) < 0) : kI l E D (kT cI cJ cB cZ) yX11_inCore wsX11_inCore ({ frames := 1, cells := 0, slots := 0, locals := 21 }) [.ref h0, .int x0] [(h0, .inr (11, f0))] ((-1)) [(h0, .inr (11, f0))] 0 0 := by
  intro sz
  refine Met.ofW (cc := cX11_inCore) (maxL := 2) (ret := (some .int)) (by decide) rfl ?_
  intro p e s m args below meth c s₁ B hml hv
  obtain ⟨rfl, hsz, hP, hK, hD0, hN, hX⟩ := hv
  have hx := B.exec
  have hb := B.bytes
  have hr := B.returns
  have hts := atoms_spec (ws := wsX11_inCore) B.pre
  have hown : s.vm.findClass RX11 = some m.cls := findClass_of_methodNamed B.named
  have hlocks := B.notSynchronized
  have hin11 : ∀ w ∈ wsX110, w ∈ wsX11_inCore := (fun w h => (List.mem_cons_of_mem _ (List.mem_append_left _ (List.mem_append_right _ h))))
  subst hsz
  have hD := hD0.self (sz := s.heap.size)
  have hAE := k_AE hD0 hX
  generalize hAe : va_A [(h0, .inr (11, f0))] s.heap.size = A at hD hAE ⊢
  have hA : ∀ q : Nat, s.heap.size ≤ q → A q := fun q h => by rw [← hAe]; exact Or.inr h
  have hS : va_S A s.heap s.heap [] := va_S.rf
  have hP : va_P D vwCl [(h0, .inr (11, f0))] s.heap := hP
  have hl := lv_entry ([.ref h0, .int x0] : List Value) (n := 2) (Nat.le_of_ble_eq_true rfl)
  rw [lg_entry_eq]
  generalize (lg_sl ([.ref h0, .int x0]) ++ List.replicate (2 - (lg_sl ([.ref h0, .int x0])).length) Slot.unset).toArray = ls at hl ⊢
  have hl : lv_has ls 2 [(0, .ref h0), (1, .int x0)] := hl
  refine lv_aload_n hx hb dX11_inCore_0 rfl (lv_at hl 0 rfl) ?_
  refine va_get (D := D) (ref := "IntegerHouse") (ci := 11) (v := .ref h1) (C := RX11) (T := TX11) (N := 15) hx hb hts hin11 hown hK hP 0 rfl rfl 7 (by decide) (hts (.fieldLink RX11 64 "IntegerHouse" "answers" "LIntegerHouse$Answers;") (List.mem_cons_of_mem _ (List.mem_append_left _ (List.mem_append_left _ (List.mem_of_getElem? (i := 0) rfl))))) (fun _ h9 => h9) e0 dX11_inCore_1 ?_
  refine lv_iload_n hx hb dX11_inCore_4 rfl (lv_at hl 1 rfl) ?_
  refine k_cVi (As := [.int x0]) (rest := []) (wc := []) (wr := [(h0, .inr (11, f0))]) (w1 := []) ⟨hx, hb, hml, hown, hts⟩ hN hX hAE hK hP hD hS hA [] [0] (ci := 0) rfl rfl rfl rfl (by decide +kernel) (by decide +kernel) (by decide +kernel) (c_X0_toldInCore_1 l E D cI cJ cB cZ h1 x0 e1) (cwV 1 hts gX11_inCore_X0_toldInCore rfl rfl rfl (by decide +kernel) ⟨Nat.le_of_ble_eq_true rfl, Nat.le_of_ble_eq_true rfl⟩) rfl hl.1 (Nat.le_of_ble_eq_true rfl) dX11_inCore_5 ⟨Nat.le_of_ble_eq_true rfl, Nat.le_of_ble_eq_true rfl⟩ (fun H locs hP hD hS => ?_)
  have hP : va_P D vwCl [(h0, .inr (11, f0))] H := hP
  have hD : va_D A [(h0, .inr (11, f0))] := hD
  exact W.iret (v := (-1)) hx hb hr (fun t ht hW => ⟨⟨(-1), (), rfl, rfl, kB_mk ht hW hP hK hD⟩, hS.F ht⟩) hS.2.2 dX11_inCore_8
set_option maxHeartbeats 400000000 in
set_option maxRecDepth 100000 in
theorem c_X12_inCore_1 (l : Launch) (E : kE) (D : va_G) (cI cJ cB cZ : ClassId) (h0 : Nat) (x0 : Int32) (f0 : List Value) (e0 : f0[0]? = some (.int 0)) (e1 : f0[149]? = some (.int 0)) (e2 : (x0 : Int32) < 0) : kI l E D (kT cI cJ cB cZ) yX12_inCore wsX12_inCore ({ frames := 1, cells := 0, slots := 0, locals := 25 }) [.ref h0, .int x0] [(h0, .inr (12, f0))] ((-1)) [(h0, .inr (12, (f0.set 0 (.int 0))))] 0 0 := by
  intro sz
  refine Met.ofW (cc := cX12_inCore) (maxL := 2) (ret := (some .int)) (by decide) rfl ?_
  intro p e s m args below meth c s₁ B hml hv
  obtain ⟨rfl, hsz, hP, hK, hD0, hN, hX⟩ := hv
  have hx := B.exec
  have hb := B.bytes
  have hr := B.returns
  have hts := atoms_spec (ws := wsX12_inCore) B.pre
  have hown : s.vm.findClass RX12 = some m.cls := findClass_of_methodNamed B.named
  have hlocks := B.notSynchronized
  have hin12 : ∀ w ∈ wsX120, w ∈ wsX12_inCore := (fun w h => (List.mem_cons_of_mem _ (List.mem_append_right _ h)))
  subst hsz
  have hD := hD0.self (sz := s.heap.size)
  have hAE := k_AE hD0 hX
  generalize hAe : va_A [(h0, .inr (12, f0))] s.heap.size = A at hD hAE ⊢
  have hA : ∀ q : Nat, s.heap.size ≤ q → A q := fun q h => by rw [← hAe]; exact Or.inr h
  have hS : va_S A s.heap s.heap [] := va_S.rf
  have hP : va_P D vwCl [(h0, .inr (12, f0))] s.heap := hP
  have hl := lv_entry ([.ref h0, .int x0] : List Value) (n := 2) (Nat.le_of_ble_eq_true rfl)
  rw [lg_entry_eq]
  generalize (lg_sl ([.ref h0, .int x0]) ++ List.replicate (2 - (lg_sl ([.ref h0, .int x0])).length) Slot.unset).toArray = ls at hl ⊢
  have hl : lv_has ls 2 [(0, .ref h0), (1, .int x0)] := hl
  refine lv_aload_n hx hb dX12_inCore_0 rfl (lv_at hl 0 rfl) ?_
  refine lv_iconst (v := 0) hx hb dX12_inCore_1 (by decide) ?_
  refine va_put (D := D) (ref := "IntegerHouseModel") (ci := 12) (v := .int 0) (ty := .int) (C := RX12) (T := TX12) (N := 195) hx hb hts hin12 tyX12 tyX12_ok nmX12 hown hK hP hD hS 0 rfl rfl 0 (by decide) (hts (.fieldLink RX12 3 "IntegerHouseModel" "thrown" "I") (List.mem_cons_of_mem _ (List.mem_append_left _ (List.mem_of_getElem? (i := 0) rfl)))) (fun _ h9 => h9) rfl (by decide +kernel) rfl rfl (k_len e0) dX12_inCore_2 (fun H locs hP hD hS => ?_)
  have hP : va_P D vwCl [(h0, .inr (12, (f0.set 0 (.int 0))))] H := hP
  have hD : va_D A [(h0, .inr (12, (f0.set 0 (.int 0))))] := hD
  refine lv_iload_n hx hb dX12_inCore_5 rfl (lv_at hl 1 rfl) ?_
  refine lv_i2l (v := (Int32.toInt64 x0)) hx hb dX12_inCore_6 rfl ?_
  refine lv_lconst (v := 0) hx hb dX12_inCore_7 (by decide) ?_
  refine lv_aload_n hx hb dX12_inCore_8 rfl (lv_at hl 0 rfl) ?_
  refine va_get (D := D) (ref := "IntegerHouseModel") (ci := 12) (v := .int 0) (C := RX12) (T := TX12) (N := 195) hx hb hts hin12 hown hK hP 0 rfl rfl 149 (by decide) (hts (.fieldLink RX12 1050 "IntegerHouseModel" "coreSize" "I") (List.mem_cons_of_mem _ (List.mem_append_left _ (List.mem_of_getElem? (i := 1) rfl)))) (fun _ h9 => h9) (k_ne (by decide) e1) dX12_inCore_9 ?_
  refine lv_iconst (v := 1) hx hb dX12_inCore_12 (by decide) ?_
  refine lv_isub hx hb dX12_inCore_13 ?_
  refine k_topi (y := (-1)) (by decide) ?_
  refine lv_i2l (v := (-1)) hx hb dX12_inCore_14 (by decide) ?_
  refine k_cSi (As := [.long (Int32.toInt64 x0), .long 0, .long (-1)]) (rest := []) (wc := []) (wr := [(h0, .inr (12, (f0.set 0 (.int 0))))]) (w1 := []) ⟨hx, hb, hml, hown, hts⟩ hN hX hAE hK hP hD hS hA [] [0] rfl rfl (by decide +kernel) (by decide +kernel) (by decide +kernel) (c_X12_in_13 l E D cI cJ cB cZ (Int32.toInt64 x0) ((k_n4 (x := x0) (c := 0) (C := 0) (by decide)).mpr e2)) (va_cwS 3 hts gX12_inCore_X12_in rfl rfl rfl (by decide +kernel) ⟨Nat.le_of_ble_eq_true rfl, Nat.le_of_ble_eq_true rfl⟩) rfl hl.1 (Nat.le_of_ble_eq_true rfl) dX12_inCore_15 ⟨Nat.le_of_ble_eq_true rfl, Nat.le_of_ble_eq_true rfl⟩ (fun H locs hP hD hS => ?_)
  have hP : va_P D vwCl [(h0, .inr (12, (f0.set 0 (.int 0))))] H := hP
  have hD : va_D A [(h0, .inr (12, (f0.set 0 (.int 0))))] := hD
  refine lv_if_eq (tgt := 30) hx hb dX12_inCore_18 (by decide) (fun _ => ?_) (fun c9 => absurd (by decide) c9)
  refine lv_iconst (v := (-1)) hx hb dX12_inCore_30 (by decide) ?_
  exact W.iret (v := (-1)) hx hb hr (fun t ht hW => ⟨⟨(-1), (), rfl, rfl, kB_mk ht hW hP hK hD⟩, hS.F ht⟩) hS.2.2 dX12_inCore_31
set_option maxHeartbeats 400000000 in
set_option maxRecDepth 100000 in
theorem c_X11_alike_0 (l : Launch) (E : kE) (D : va_G) (cI cJ cB cZ : ClassId) (h0 : Nat) (x0 : Int32) (x1 : Int32) (f0 : List Value) (h1 : Nat) (f1 : List Value) (h2 : Nat) (f2 : List Value) (e0 : f0[1]? = some (.ref h1)) (e1 : f1[8]? = some (.int 0)) (e2 : f0[2]? = some (.ref h2)) (e3 : ¬ ((x0 : Int32) < 0)) (e4 : f2[11]? = some (.int 0)) : kI l E D (kT cI cJ cB cZ) yX11_alike wsX11_alike ({ frames := 1, cells := 0, slots := 0, locals := 21 }) [.ref h0, .int x0, .int x1] [(h0, .inr (11, f0)), (h1, .inr (1, f1)), (h2, .inr (2, f2))] ((-101)) [(h0, .inr (11, f0)), (h1, .inr (1, f1)), (h2, .inr (2, f2))] 0 0 := by
  intro sz
  refine Met.ofW (cc := cX11_alike) (maxL := 3) (ret := (some .int)) (by decide) rfl ?_
  intro p e s m args below meth c s₁ B hml hv
  obtain ⟨rfl, hsz, hP, hK, hD0, hN, hX⟩ := hv
  have hx := B.exec
  have hb := B.bytes
  have hr := B.returns
  have hts := atoms_spec (ws := wsX11_alike) B.pre
  have hown : s.vm.findClass RX11 = some m.cls := findClass_of_methodNamed B.named
  have hlocks := B.notSynchronized
  have hin11 : ∀ w ∈ wsX110, w ∈ wsX11_alike := (fun w h => (List.mem_cons_of_mem _ (List.mem_append_left _ (List.mem_append_left _ (List.mem_append_left _ (List.mem_append_left _ (List.mem_append_right _ h)))))))
  have hin1 : ∀ w ∈ wsX10, w ∈ wsX11_alike := (fun w h => (List.mem_cons_of_mem _ (List.mem_append_left _ (List.mem_append_left _ (List.mem_append_left _ (List.mem_append_right _ h))))))
  subst hsz
  have hD := hD0.self (sz := s.heap.size)
  have hAE := k_AE hD0 hX
  generalize hAe : va_A [(h0, .inr (11, f0)), (h1, .inr (1, f1)), (h2, .inr (2, f2))] s.heap.size = A at hD hAE ⊢
  have hA : ∀ q : Nat, s.heap.size ≤ q → A q := fun q h => by rw [← hAe]; exact Or.inr h
  have hS : va_S A s.heap s.heap [] := va_S.rf
  have hP : va_P D vwCl [(h0, .inr (11, f0)), (h1, .inr (1, f1)), (h2, .inr (2, f2))] s.heap := hP
  have hl := lv_entry ([.ref h0, .int x0, .int x1] : List Value) (n := 3) (Nat.le_of_ble_eq_true rfl)
  rw [lg_entry_eq]
  generalize (lg_sl ([.ref h0, .int x0, .int x1]) ++ List.replicate (3 - (lg_sl ([.ref h0, .int x0, .int x1])).length) Slot.unset).toArray = ls at hl ⊢
  have hl : lv_has ls 3 [(0, .ref h0), (1, .int x0), (2, .int x1)] := hl
  refine lv_aload_n hx hb dX11_alike_0 rfl (lv_at hl 0 rfl) ?_
  refine va_get (D := D) (ref := "IntegerHouse") (ci := 11) (v := .ref h1) (C := RX11) (T := TX11) (N := 15) hx hb hts hin11 hown hK hP 0 rfl rfl 1 (by decide) (hts (.fieldLink RX11 16 "IntegerHouse" "disk" "LIntegerHouse$Disk;") (List.mem_cons_of_mem _ (List.mem_append_left _ (List.mem_append_left _ (List.mem_append_left _ (List.mem_append_left _ (List.mem_append_left _ (List.mem_append_left _ (List.mem_of_getElem? (i := 0) rfl))))))))) (fun _ h9 => h9) e0 dX11_alike_1 ?_
  refine va_getN (host := "IntegerHouse") (D := D) (ref := "IntegerHouse$Disk") (ci := 1) (v := .int 0) (C := RX1) (T := TX1) (N := 9) hx hb hts hin1 hown hK hP 1 rfl rfl 8 (by decide) (va_Nw.use rfl (hN.1 ("IntegerHouse", 122, "IntegerHouse$Disk", "down", "Z", "IntegerHouse") (List.mem_of_getElem? (i := 3) rfl))) (fun _ h9 => h9) e1 dX11_alike_4 ?_
  refine lv_if_eq (tgt := 13) hx hb dX11_alike_7 (by decide) (fun _ => ?_) (fun c9 => absurd (by decide) c9)
  refine lv_aload_n hx hb dX11_alike_13 rfl (lv_at hl 0 rfl) ?_
  refine va_get (D := D) (ref := "IntegerHouse") (ci := 11) (v := .ref h2) (C := RX11) (T := TX11) (N := 15) hx hb hts hin11 hown hK hP 0 rfl rfl 2 (by decide) (hts (.fieldLink RX11 23 "IntegerHouse" "house" "LIntegerHouse$House;") (List.mem_cons_of_mem _ (List.mem_append_left _ (List.mem_append_left _ (List.mem_append_left _ (List.mem_append_left _ (List.mem_append_left _ (List.mem_append_left _ (List.mem_of_getElem? (i := 1) rfl))))))))) (fun _ h9 => h9) e2 dX11_alike_14 ?_
  refine lv_iload_n hx hb dX11_alike_17 rfl (lv_at hl 1 rfl) ?_
  refine k_cVi (As := [.int x0]) (rest := []) (wc := [(h2, .inr (2, f2))]) (wr := [(h0, .inr (11, f0)), (h1, .inr (1, f1))]) (w1 := [(h2, .inr (2, f2))]) ⟨hx, hb, hml, hown, hts⟩ hN hX hAE hK hP hD hS hA [2] [0, 1] (ci := 2) rfl rfl rfl rfl (by decide +kernel) (by decide +kernel) (by decide +kernel) (c_X2_isClaim_0 l E D cI cJ cB cZ h2 x0 f2 e3 e4) (cwV 1 hts gX11_alike_X2_isClaim rfl rfl rfl (by decide +kernel) ⟨Nat.le_of_ble_eq_true rfl, Nat.le_of_ble_eq_true rfl⟩) rfl hl.1 (Nat.le_of_ble_eq_true rfl) dX11_alike_18 ⟨Nat.le_of_ble_eq_true rfl, Nat.le_of_ble_eq_true rfl⟩ (fun H locs hP hD hS => ?_)
  have hP : va_P D vwCl [(h0, .inr (11, f0)), (h1, .inr (1, f1)), (h2, .inr (2, f2))] H := hP
  have hD : va_D A [(h0, .inr (11, f0)), (h1, .inr (1, f1)), (h2, .inr (2, f2))] := hD
  refine lv_if_eq (tgt := 35) hx hb dX11_alike_21 (by decide) (fun _ => ?_) (fun c9 => absurd (by decide) c9)
  refine lv_bipush (v := (-101)) hx hb dX11_alike_35 (by decide) ?_
  exact W.iret (v := (-101)) hx hb hr (fun t ht hW => ⟨⟨(-101), (), rfl, rfl, kB_mk ht hW hP hK hD⟩, hS.F ht⟩) hS.2.2 dX11_alike_37
set_option maxHeartbeats 400000000 in
set_option maxRecDepth 100000 in
theorem c_X12_alike_0 (l : Launch) (E : kE) (D : va_G) (cI cJ cB cZ : ClassId) (h0 : Nat) (x0 : Int32) (x1 : Int32) (f0 : List Value) (e0 : f0[0]? = some (.int 0)) (e1 : f0[5]? = some (.int 0)) (e2 : f0[33]? = some (.int 0)) (e3 : ¬ ((x0 : Int32) < 0)) : kI l E D (kT cI cJ cB cZ) yX12_alike wsX12_alike ({ frames := 2, cells := 0, slots := 0, locals := 46 }) [.ref h0, .int x0, .int x1] [(h0, .inr (12, f0))] ((-101)) [(h0, .inr (12, (f0.set 0 (.int 0))))] 0 0 := by
  intro sz
  refine Met.ofW (cc := cX12_alike) (maxL := 4) (ret := (some .int)) (by decide) rfl ?_
  intro p e s m args below meth c s₁ B hml hv
  obtain ⟨rfl, hsz, hP, hK, hD0, hN, hX⟩ := hv
  have hx := B.exec
  have hb := B.bytes
  have hr := B.returns
  have hts := atoms_spec (ws := wsX12_alike) B.pre
  have hown : s.vm.findClass RX12 = some m.cls := findClass_of_methodNamed B.named
  have hlocks := B.notSynchronized
  subst hsz
  have hD := hD0.self (sz := s.heap.size)
  have hAE := k_AE hD0 hX
  generalize hAe : va_A [(h0, .inr (12, f0))] s.heap.size = A at hD hAE ⊢
  have hA : ∀ q : Nat, s.heap.size ≤ q → A q := fun q h => by rw [← hAe]; exact Or.inr h
  have hS : va_S A s.heap s.heap [] := va_S.rf
  have hP : va_P D vwCl [(h0, .inr (12, f0))] s.heap := hP
  have hl := lv_entry ([.ref h0, .int x0, .int x1] : List Value) (n := 4) (Nat.le_of_ble_eq_true rfl)
  rw [lg_entry_eq]
  generalize (lg_sl ([.ref h0, .int x0, .int x1]) ++ List.replicate (4 - (lg_sl ([.ref h0, .int x0, .int x1])).length) Slot.unset).toArray = ls at hl ⊢
  have hl : lv_has ls 4 [(0, .ref h0), (1, .int x0), (2, .int x1)] := hl
  refine lv_aload_n hx hb dX12_alike_0 rfl (lv_at hl 0 rfl) ?_
  refine k_cVi (As := []) (rest := []) (wc := [(h0, .inr (12, f0))]) (wr := []) (w1 := [(h0, .inr (12, (f0.set 0 (.int 0))))]) ⟨hx, hb, hml, hown, hts⟩ hN hX hAE hK hP hD hS hA [0] [] (ci := 12) rfl rfl rfl rfl (by decide +kernel) (by decide +kernel) (by decide +kernel) (c_X12_asks_0 l E D cI cJ cB cZ h0 f0 e0 e1) (cwV 0 hts gX12_alike_X12_asks rfl rfl rfl (by decide +kernel) ⟨Nat.le_of_ble_eq_true rfl, Nat.le_of_ble_eq_true rfl⟩) rfl hl.1 (Nat.le_of_ble_eq_true rfl) dX12_alike_1 ⟨Nat.le_of_ble_eq_true rfl, Nat.le_of_ble_eq_true rfl⟩ (fun H locs hP hD hS => ?_)
  have hP : va_P D vwCl [(h0, .inr (12, (f0.set 0 (.int 0))))] H := hP
  have hD : va_D A [(h0, .inr (12, (f0.set 0 (.int 0))))] := hD
  refine lv_if_ne (tgt := 10) hx hb dX12_alike_4 (by decide) (fun _ => ?_) (fun c9 => absurd c9 (by decide))
  refine lv_aload_n hx hb dX12_alike_10 rfl (lv_at hl 0 rfl) ?_
  refine lv_iload_n hx hb dX12_alike_11 rfl (lv_at hl 1 rfl) ?_
  refine k_cVi (As := [.int x0]) (rest := []) (wc := [(h0, .inr (12, (f0.set 0 (.int 0))))]) (wr := []) (w1 := [(h0, .inr (12, (f0.set 0 (.int 0))))]) ⟨hx, hb, hml, hown, hts⟩ hN hX hAE hK hP hD hS hA [0] [] (ci := 12) rfl rfl rfl rfl (by decide +kernel) (by decide +kernel) (by decide +kernel) (c_X12_isClaim_0 l E D cI cJ cB cZ h0 x0 ((f0.set 0 (.int 0))) (k_ne (by decide) e2) e3) (cwV 1 hts gX12_alike_X12_isClaim rfl rfl rfl (by decide +kernel) ⟨Nat.le_of_ble_eq_true rfl, Nat.le_of_ble_eq_true rfl⟩) rfl hl.1 (Nat.le_of_ble_eq_true rfl) dX12_alike_12 ⟨Nat.le_of_ble_eq_true rfl, Nat.le_of_ble_eq_true rfl⟩ (fun H locs hP hD hS => ?_)
  have hP : va_P D vwCl [(h0, .inr (12, (f0.set 0 (.int 0))))] H := hP
  have hD : va_D A [(h0, .inr (12, (f0.set 0 (.int 0))))] := hD
  refine lv_if_eq (tgt := 26) hx hb dX12_alike_15 (by decide) (fun _ => ?_) (fun c9 => absurd (by decide) c9)
  refine lv_bipush (v := (-101)) hx hb dX12_alike_26 (by decide) ?_
  exact W.iret (v := (-101)) hx hb hr (fun t ht hW => ⟨⟨(-101), (), rfl, rfl, kB_mk ht hW hP hK hD⟩, hS.F ht⟩) hS.2.2 dX12_alike_28
set_option maxHeartbeats 400000000 in
set_option maxRecDepth 100000 in
theorem c_X11_alike_1 (l : Launch) (E : kE) (D : va_G) (cI cJ cB cZ : ClassId) (h0 : Nat) (x0 : Int32) (x1 : Int32) (f0 : List Value) (h1 : Nat) (f1 : List Value) (h2 : Nat) (e0 : f0[1]? = some (.ref h1)) (e1 : f1[8]? = some (.int 0)) (e2 : f0[2]? = some (.ref h2)) (e3 : (x0 : Int32) < 0) : kI l E D (kT cI cJ cB cZ) yX11_alike wsX11_alike ({ frames := 1, cells := 0, slots := 0, locals := 21 }) [.ref h0, .int x0, .int x1] [(h0, .inr (11, f0)), (h1, .inr (1, f1))] ((-101)) [(h0, .inr (11, f0)), (h1, .inr (1, f1))] 0 0 := by
  intro sz
  refine Met.ofW (cc := cX11_alike) (maxL := 3) (ret := (some .int)) (by decide) rfl ?_
  intro p e s m args below meth c s₁ B hml hv
  obtain ⟨rfl, hsz, hP, hK, hD0, hN, hX⟩ := hv
  have hx := B.exec
  have hb := B.bytes
  have hr := B.returns
  have hts := atoms_spec (ws := wsX11_alike) B.pre
  have hown : s.vm.findClass RX11 = some m.cls := findClass_of_methodNamed B.named
  have hlocks := B.notSynchronized
  have hin11 : ∀ w ∈ wsX110, w ∈ wsX11_alike := (fun w h => (List.mem_cons_of_mem _ (List.mem_append_left _ (List.mem_append_left _ (List.mem_append_left _ (List.mem_append_left _ (List.mem_append_right _ h)))))))
  have hin1 : ∀ w ∈ wsX10, w ∈ wsX11_alike := (fun w h => (List.mem_cons_of_mem _ (List.mem_append_left _ (List.mem_append_left _ (List.mem_append_left _ (List.mem_append_right _ h))))))
  subst hsz
  have hD := hD0.self (sz := s.heap.size)
  have hAE := k_AE hD0 hX
  generalize hAe : va_A [(h0, .inr (11, f0)), (h1, .inr (1, f1))] s.heap.size = A at hD hAE ⊢
  have hA : ∀ q : Nat, s.heap.size ≤ q → A q := fun q h => by rw [← hAe]; exact Or.inr h
  have hS : va_S A s.heap s.heap [] := va_S.rf
  have hP : va_P D vwCl [(h0, .inr (11, f0)), (h1, .inr (1, f1))] s.heap := hP
  have hl := lv_entry ([.ref h0, .int x0, .int x1] : List Value) (n := 3) (Nat.le_of_ble_eq_true rfl)
  rw [lg_entry_eq]
  generalize (lg_sl ([.ref h0, .int x0, .int x1]) ++ List.replicate (3 - (lg_sl ([.ref h0, .int x0, .int x1])).length) Slot.unset).toArray = ls at hl ⊢
  have hl : lv_has ls 3 [(0, .ref h0), (1, .int x0), (2, .int x1)] := hl
  refine lv_aload_n hx hb dX11_alike_0 rfl (lv_at hl 0 rfl) ?_
  refine va_get (D := D) (ref := "IntegerHouse") (ci := 11) (v := .ref h1) (C := RX11) (T := TX11) (N := 15) hx hb hts hin11 hown hK hP 0 rfl rfl 1 (by decide) (hts (.fieldLink RX11 16 "IntegerHouse" "disk" "LIntegerHouse$Disk;") (List.mem_cons_of_mem _ (List.mem_append_left _ (List.mem_append_left _ (List.mem_append_left _ (List.mem_append_left _ (List.mem_append_left _ (List.mem_append_left _ (List.mem_of_getElem? (i := 0) rfl))))))))) (fun _ h9 => h9) e0 dX11_alike_1 ?_
  refine va_getN (host := "IntegerHouse") (D := D) (ref := "IntegerHouse$Disk") (ci := 1) (v := .int 0) (C := RX1) (T := TX1) (N := 9) hx hb hts hin1 hown hK hP 1 rfl rfl 8 (by decide) (va_Nw.use rfl (hN.1 ("IntegerHouse", 122, "IntegerHouse$Disk", "down", "Z", "IntegerHouse") (List.mem_of_getElem? (i := 3) rfl))) (fun _ h9 => h9) e1 dX11_alike_4 ?_
  refine lv_if_eq (tgt := 13) hx hb dX11_alike_7 (by decide) (fun _ => ?_) (fun c9 => absurd (by decide) c9)
  refine lv_aload_n hx hb dX11_alike_13 rfl (lv_at hl 0 rfl) ?_
  refine va_get (D := D) (ref := "IntegerHouse") (ci := 11) (v := .ref h2) (C := RX11) (T := TX11) (N := 15) hx hb hts hin11 hown hK hP 0 rfl rfl 2 (by decide) (hts (.fieldLink RX11 23 "IntegerHouse" "house" "LIntegerHouse$House;") (List.mem_cons_of_mem _ (List.mem_append_left _ (List.mem_append_left _ (List.mem_append_left _ (List.mem_append_left _ (List.mem_append_left _ (List.mem_append_left _ (List.mem_of_getElem? (i := 1) rfl))))))))) (fun _ h9 => h9) e2 dX11_alike_14 ?_
  refine lv_iload_n hx hb dX11_alike_17 rfl (lv_at hl 1 rfl) ?_
  refine k_cVi (As := [.int x0]) (rest := []) (wc := []) (wr := [(h0, .inr (11, f0)), (h1, .inr (1, f1))]) (w1 := []) ⟨hx, hb, hml, hown, hts⟩ hN hX hAE hK hP hD hS hA [] [0, 1] (ci := 2) rfl rfl rfl rfl (by decide +kernel) (by decide +kernel) (by decide +kernel) (c_X2_isClaim_1 l E D cI cJ cB cZ h2 x0 e3) (cwV 1 hts gX11_alike_X2_isClaim rfl rfl rfl (by decide +kernel) ⟨Nat.le_of_ble_eq_true rfl, Nat.le_of_ble_eq_true rfl⟩) rfl hl.1 (Nat.le_of_ble_eq_true rfl) dX11_alike_18 ⟨Nat.le_of_ble_eq_true rfl, Nat.le_of_ble_eq_true rfl⟩ (fun H locs hP hD hS => ?_)
  have hP : va_P D vwCl [(h0, .inr (11, f0)), (h1, .inr (1, f1))] H := hP
  have hD : va_D A [(h0, .inr (11, f0)), (h1, .inr (1, f1))] := hD
  refine lv_if_eq (tgt := 35) hx hb dX11_alike_21 (by decide) (fun _ => ?_) (fun c9 => absurd (by decide) c9)
  refine lv_bipush (v := (-101)) hx hb dX11_alike_35 (by decide) ?_
  exact W.iret (v := (-101)) hx hb hr (fun t ht hW => ⟨⟨(-101), (), rfl, rfl, kB_mk ht hW hP hK hD⟩, hS.F ht⟩) hS.2.2 dX11_alike_37
set_option maxHeartbeats 400000000 in
set_option maxRecDepth 100000 in
theorem c_X12_alike_1 (l : Launch) (E : kE) (D : va_G) (cI cJ cB cZ : ClassId) (h0 : Nat) (x0 : Int32) (x1 : Int32) (f0 : List Value) (e0 : f0[0]? = some (.int 0)) (e1 : f0[5]? = some (.int 0)) (e2 : f0[33]? = some (.int 0)) (e3 : (x0 : Int32) < 0) : kI l E D (kT cI cJ cB cZ) yX12_alike wsX12_alike ({ frames := 2, cells := 0, slots := 0, locals := 46 }) [.ref h0, .int x0, .int x1] [(h0, .inr (12, f0))] ((-101)) [(h0, .inr (12, (f0.set 0 (.int 0))))] 0 0 := by
  intro sz
  refine Met.ofW (cc := cX12_alike) (maxL := 4) (ret := (some .int)) (by decide) rfl ?_
  intro p e s m args below meth c s₁ B hml hv
  obtain ⟨rfl, hsz, hP, hK, hD0, hN, hX⟩ := hv
  have hx := B.exec
  have hb := B.bytes
  have hr := B.returns
  have hts := atoms_spec (ws := wsX12_alike) B.pre
  have hown : s.vm.findClass RX12 = some m.cls := findClass_of_methodNamed B.named
  have hlocks := B.notSynchronized
  subst hsz
  have hD := hD0.self (sz := s.heap.size)
  have hAE := k_AE hD0 hX
  generalize hAe : va_A [(h0, .inr (12, f0))] s.heap.size = A at hD hAE ⊢
  have hA : ∀ q : Nat, s.heap.size ≤ q → A q := fun q h => by rw [← hAe]; exact Or.inr h
  have hS : va_S A s.heap s.heap [] := va_S.rf
  have hP : va_P D vwCl [(h0, .inr (12, f0))] s.heap := hP
  have hl := lv_entry ([.ref h0, .int x0, .int x1] : List Value) (n := 4) (Nat.le_of_ble_eq_true rfl)
  rw [lg_entry_eq]
  generalize (lg_sl ([.ref h0, .int x0, .int x1]) ++ List.replicate (4 - (lg_sl ([.ref h0, .int x0, .int x1])).length) Slot.unset).toArray = ls at hl ⊢
  have hl : lv_has ls 4 [(0, .ref h0), (1, .int x0), (2, .int x1)] := hl
  refine lv_aload_n hx hb dX12_alike_0 rfl (lv_at hl 0 rfl) ?_
  refine k_cVi (As := []) (rest := []) (wc := [(h0, .inr (12, f0))]) (wr := []) (w1 := [(h0, .inr (12, (f0.set 0 (.int 0))))]) ⟨hx, hb, hml, hown, hts⟩ hN hX hAE hK hP hD hS hA [0] [] (ci := 12) rfl rfl rfl rfl (by decide +kernel) (by decide +kernel) (by decide +kernel) (c_X12_asks_0 l E D cI cJ cB cZ h0 f0 e0 e1) (cwV 0 hts gX12_alike_X12_asks rfl rfl rfl (by decide +kernel) ⟨Nat.le_of_ble_eq_true rfl, Nat.le_of_ble_eq_true rfl⟩) rfl hl.1 (Nat.le_of_ble_eq_true rfl) dX12_alike_1 ⟨Nat.le_of_ble_eq_true rfl, Nat.le_of_ble_eq_true rfl⟩ (fun H locs hP hD hS => ?_)
  have hP : va_P D vwCl [(h0, .inr (12, (f0.set 0 (.int 0))))] H := hP
  have hD : va_D A [(h0, .inr (12, (f0.set 0 (.int 0))))] := hD
  refine lv_if_ne (tgt := 10) hx hb dX12_alike_4 (by decide) (fun _ => ?_) (fun c9 => absurd c9 (by decide))
  refine lv_aload_n hx hb dX12_alike_10 rfl (lv_at hl 0 rfl) ?_
  refine lv_iload_n hx hb dX12_alike_11 rfl (lv_at hl 1 rfl) ?_
  refine k_cVi (As := [.int x0]) (rest := []) (wc := [(h0, .inr (12, (f0.set 0 (.int 0))))]) (wr := []) (w1 := [(h0, .inr (12, (f0.set 0 (.int 0))))]) ⟨hx, hb, hml, hown, hts⟩ hN hX hAE hK hP hD hS hA [0] [] (ci := 12) rfl rfl rfl rfl (by decide +kernel) (by decide +kernel) (by decide +kernel) (c_X12_isClaim_1 l E D cI cJ cB cZ h0 x0 ((f0.set 0 (.int 0))) (k_ne (by decide) e2) e3) (cwV 1 hts gX12_alike_X12_isClaim rfl rfl rfl (by decide +kernel) ⟨Nat.le_of_ble_eq_true rfl, Nat.le_of_ble_eq_true rfl⟩) rfl hl.1 (Nat.le_of_ble_eq_true rfl) dX12_alike_12 ⟨Nat.le_of_ble_eq_true rfl, Nat.le_of_ble_eq_true rfl⟩ (fun H locs hP hD hS => ?_)
  have hP : va_P D vwCl [(h0, .inr (12, (f0.set 0 (.int 0))))] H := hP
  have hD : va_D A [(h0, .inr (12, (f0.set 0 (.int 0))))] := hD
  refine lv_if_eq (tgt := 26) hx hb dX12_alike_15 (by decide) (fun _ => ?_) (fun c9 => absurd (by decide) c9)
  refine lv_bipush (v := (-101)) hx hb dX12_alike_26 (by decide) ?_
  exact W.iret (v := (-101)) hx hb hr (fun t ht hW => ⟨⟨(-101), (), rfl, rfl, kB_mk ht hW hP hK hD⟩, hS.F ht⟩) hS.2.2 dX12_alike_28
set_option maxHeartbeats 400000000 in
set_option maxRecDepth 100000 in
theorem c_X11_places_0 (l : Launch) (E : kE) (D : va_G) (cI cJ cB cZ : ClassId) (h0 : Nat) (f0 : List Value) (h1 : Nat) (f1 : List Value) (h2 : Nat) (h3 : Nat) (f2 : List Value) (f3 : List Value) (h4 : Nat) (h5 : Nat) (g0 : Nat → Int32) (g1 : Nat → Int32) (e0 : f0[1]? = some (.ref h1)) (e1 : f1[8]? = some (.int 0)) (e2 : f0[6]? = some (.ref h2)) (e3 : f0[2]? = some (.ref h3)) (e4 : f2[13]? = some (.int 0)) (e5 : f3[10]? = some (.int 0)) (e6 : f3[11]? = some (.int 0)) (e7 : f3[0]? = some (.ref h3)) (e8 : f2[10]? = some (.int 0)) (e9 : f3[12]? = some (.int 0)) (e10 : f3[9]? = some (.ref h4)) (e11 : f3[13]? = some (.int 0)) (e12 : f3[7]? = some (.ref h5)) : kI l E D (kT cI cJ cB cZ) yX11_places wsX11_places ({ frames := 4, cells := 0, slots := 0, locals := 92 }) [.ref h0] [(h0, .inr (11, f0)), (h1, .inr (1, f1)), (h3, .inr (2, f2)), (h2, .inr (6, f3)), (h4, .inl (cI, 8192, .inl g0)), (h5, .inl (cI, 48000, .inl g1))] (1) [(h0, .inr (11, f0)), (h1, .inr (1, f1)), (h3, .inr (2, f2)), (h2, .inr (6, ((((((((((((((((((((((((((((((f3.set 10 (.int 0)).set 11 (.int 0)).set 12 (.int 1)).set 11 (.int 0)).set 11 (.int 0)).set 11 (.int 0)).set 11 (.int 0)).set 11 (.int 0)).set 11 (.int 0)).set 11 (.int 0)).set 11 (.int 0)).set 11 (.int 0)).set 11 (.int 0)).set 11 (.int 0)).set 11 (.int 0)).set 11 (.int 0)).set 11 (.int 0)).set 11 (.int 0)).set 11 (.int 0)).set 11 (.int 0)).set 11 (.int 0)).set 11 (.int 0)).set 11 (.int 0)).set 11 (.int 0)).set 11 (.int 0)).set 11 (.int 0)).set 11 (.int 0)).set 11 (.int 0)).set 13 (.int 0)).set 13 (.int 1)))), (h4, .inl (cI, 8192, .inl (upd (k_fill 0 8192 g0) 782 1))), (h5, .inl (cI, 48000, .inl (upd g1 0 0)))] 0 0 := by
  intro sz
  refine Met.ofW (cc := cX11_places) (maxL := 1) (ret := (some .int)) (by decide) rfl ?_
  intro p e s m args below meth c s₁ B hml hv
  obtain ⟨rfl, hsz, hP, hK, hD0, hN, hX⟩ := hv
  have hx := B.exec
  have hb := B.bytes
  have hr := B.returns
  have hts := atoms_spec (ws := wsX11_places) B.pre
  have hown : s.vm.findClass RX11 = some m.cls := findClass_of_methodNamed B.named
  have hlocks := B.notSynchronized
  have hin11 : ∀ w ∈ wsX110, w ∈ wsX11_places := (fun w h => (List.mem_cons_of_mem _ (List.mem_append_left _ (List.mem_append_left _ (List.mem_append_left _ (List.mem_append_right _ h))))))
  have hin1 : ∀ w ∈ wsX10, w ∈ wsX11_places := (fun w h => (List.mem_cons_of_mem _ (List.mem_append_left _ (List.mem_append_left _ (List.mem_append_right _ h)))))
  have hin2 : ∀ w ∈ wsX20, w ∈ wsX11_places := (fun w h => (List.mem_cons_of_mem _ (List.mem_append_left _ (List.mem_append_right _ h))))
  have hin6 : ∀ w ∈ wsX60, w ∈ wsX11_places := (fun w h => (List.mem_cons_of_mem _ (List.mem_append_right _ h)))
  subst hsz
  have hD := hD0.self (sz := s.heap.size)
  have hAE := k_AE hD0 hX
  generalize hAe : va_A [(h0, .inr (11, f0)), (h1, .inr (1, f1)), (h3, .inr (2, f2)), (h2, .inr (6, f3)), (h4, .inl (cI, 8192, .inl g0)), (h5, .inl (cI, 48000, .inl g1))] s.heap.size = A at hD hAE ⊢
  have hA : ∀ q : Nat, s.heap.size ≤ q → A q := fun q h => by rw [← hAe]; exact Or.inr h
  have hS : va_S A s.heap s.heap [] := va_S.rf
  have hP : va_P D vwCl [(h0, .inr (11, f0)), (h1, .inr (1, f1)), (h3, .inr (2, f2)), (h2, .inr (6, f3)), (h4, .inl (cI, 8192, .inl g0)), (h5, .inl (cI, 48000, .inl g1))] s.heap := hP
  have hl := lv_entry ([.ref h0] : List Value) (n := 1) (Nat.le_of_ble_eq_true rfl)
  rw [lg_entry_eq]
  generalize (lg_sl ([.ref h0]) ++ List.replicate (1 - (lg_sl ([.ref h0])).length) Slot.unset).toArray = ls at hl ⊢
  have hl : lv_has ls 1 [(0, .ref h0)] := hl
  refine lv_aload_n hx hb dX11_places_0 rfl (lv_at hl 0 rfl) ?_
  refine va_get (D := D) (ref := "IntegerHouse") (ci := 11) (v := .ref h1) (C := RX11) (T := TX11) (N := 15) hx hb hts hin11 hown hK hP 0 rfl rfl 1 (by decide) (hts (.fieldLink RX11 16 "IntegerHouse" "disk" "LIntegerHouse$Disk;") (List.mem_cons_of_mem _ (List.mem_append_left _ (List.mem_append_left _ (List.mem_append_left _ (List.mem_append_left _ (List.mem_append_left _ (List.mem_of_getElem? (i := 0) rfl)))))))) (fun _ h9 => h9) e0 dX11_places_1 ?_
  refine va_getN (host := "IntegerHouse") (D := D) (ref := "IntegerHouse$Disk") (ci := 1) (v := .int 0) (C := RX1) (T := TX1) (N := 9) hx hb hts hin1 hown hK hP 1 rfl rfl 8 (by decide) (va_Nw.use rfl (hN.1 ("IntegerHouse", 122, "IntegerHouse$Disk", "down", "Z", "IntegerHouse") (List.mem_of_getElem? (i := 3) rfl))) (fun _ h9 => h9) e1 dX11_places_4 ?_
  refine lv_if_eq (tgt := 13) hx hb dX11_places_7 (by decide) (fun _ => ?_) (fun c9 => absurd (by decide) c9)
  refine lv_aload_n hx hb dX11_places_13 rfl (lv_at hl 0 rfl) ?_
  refine va_get (D := D) (ref := "IntegerHouse") (ci := 11) (v := .ref h2) (C := RX11) (T := TX11) (N := 15) hx hb hts hin11 hown hK hP 0 rfl rfl 6 (by decide) (hts (.fieldLink RX11 55 "IntegerHouse" "places" "LIntegerHouse$Places;") (List.mem_cons_of_mem _ (List.mem_append_left _ (List.mem_append_left _ (List.mem_append_left _ (List.mem_append_left _ (List.mem_append_left _ (List.mem_of_getElem? (i := 1) rfl)))))))) (fun _ h9 => h9) e2 dX11_places_14 ?_
  refine lv_aload_n hx hb dX11_places_17 rfl (lv_at hl 0 rfl) ?_
  refine va_get (D := D) (ref := "IntegerHouse") (ci := 11) (v := .ref h3) (C := RX11) (T := TX11) (N := 15) hx hb hts hin11 hown hK hP 0 rfl rfl 2 (by decide) (hts (.fieldLink RX11 23 "IntegerHouse" "house" "LIntegerHouse$House;") (List.mem_cons_of_mem _ (List.mem_append_left _ (List.mem_append_left _ (List.mem_append_left _ (List.mem_append_left _ (List.mem_append_left _ (List.mem_of_getElem? (i := 2) rfl)))))))) (fun _ h9 => h9) e3 dX11_places_18 ?_
  refine va_getN (host := "IntegerHouse") (D := D) (ref := "IntegerHouse$House") (ci := 2) (v := .int 0) (C := RX2) (T := TX2) (N := 16) hx hb hts hin2 hown hK hP 2 rfl rfl 13 (by decide) (va_Nw.use rfl (hN.1 ("IntegerHouse", 213, "IntegerHouse$House", "on", "I", "IntegerHouse") (List.mem_of_getElem? (i := 20) rfl))) (fun _ h9 => h9) e4 dX11_places_21 ?_
  refine k_cVi (As := [.int 0]) (rest := []) (wc := [(h2, .inr (6, f3)), (h3, .inr (2, f2)), (h4, .inl (cI, 8192, .inl g0)), (h5, .inl (cI, 48000, .inl g1))]) (wr := [(h0, .inr (11, f0)), (h1, .inr (1, f1))]) (w1 := [(h2, .inr (6, ((((((((((((((((((((((((((((((f3.set 10 (.int 0)).set 11 (.int 0)).set 12 (.int 1)).set 11 (.int 0)).set 11 (.int 0)).set 11 (.int 0)).set 11 (.int 0)).set 11 (.int 0)).set 11 (.int 0)).set 11 (.int 0)).set 11 (.int 0)).set 11 (.int 0)).set 11 (.int 0)).set 11 (.int 0)).set 11 (.int 0)).set 11 (.int 0)).set 11 (.int 0)).set 11 (.int 0)).set 11 (.int 0)).set 11 (.int 0)).set 11 (.int 0)).set 11 (.int 0)).set 11 (.int 0)).set 11 (.int 0)).set 11 (.int 0)).set 11 (.int 0)).set 11 (.int 0)).set 11 (.int 0)).set 13 (.int 0)).set 13 (.int 1)))), (h3, .inr (2, f2)), (h4, .inl (cI, 8192, .inl (upd (k_fill 0 8192 g0) 782 1))), (h5, .inl (cI, 48000, .inl (upd g1 0 0)))]) ⟨hx, hb, hml, hown, hts⟩ hN hX hAE hK hP hD hS hA [3, 2, 4, 5] [0, 1] (ci := 6) rfl rfl rfl rfl (by decide +kernel) (by decide +kernel) (by decide +kernel) (c_X6_explore_0 l E D cI cJ cB cZ h2 f3 h3 f2 h4 g0 h5 g1 e5 e6 e7 e8 e9 e10 e11 e12) (cwV 1 hts gX11_places_X6_explore rfl rfl rfl (by decide +kernel) ⟨Nat.le_of_ble_eq_true rfl, Nat.le_of_ble_eq_true rfl⟩) rfl hl.1 (Nat.le_of_ble_eq_true rfl) dX11_places_24 ⟨Nat.le_of_ble_eq_true rfl, Nat.le_of_ble_eq_true rfl⟩ (fun H locs hP hD hS => ?_)
  have hP : va_P D vwCl [(h0, .inr (11, f0)), (h1, .inr (1, f1)), (h2, .inr (6, ((((((((((((((((((((((((((((((f3.set 10 (.int 0)).set 11 (.int 0)).set 12 (.int 1)).set 11 (.int 0)).set 11 (.int 0)).set 11 (.int 0)).set 11 (.int 0)).set 11 (.int 0)).set 11 (.int 0)).set 11 (.int 0)).set 11 (.int 0)).set 11 (.int 0)).set 11 (.int 0)).set 11 (.int 0)).set 11 (.int 0)).set 11 (.int 0)).set 11 (.int 0)).set 11 (.int 0)).set 11 (.int 0)).set 11 (.int 0)).set 11 (.int 0)).set 11 (.int 0)).set 11 (.int 0)).set 11 (.int 0)).set 11 (.int 0)).set 11 (.int 0)).set 11 (.int 0)).set 11 (.int 0)).set 13 (.int 0)).set 13 (.int 1)))), (h3, .inr (2, f2)), (h4, .inl (cI, 8192, .inl (upd (k_fill 0 8192 g0) 782 1))), (h5, .inl (cI, 48000, .inl (upd g1 0 0)))] H := hP
  have hD : va_D A [(h0, .inr (11, f0)), (h1, .inr (1, f1)), (h2, .inr (6, ((((((((((((((((((((((((((((((f3.set 10 (.int 0)).set 11 (.int 0)).set 12 (.int 1)).set 11 (.int 0)).set 11 (.int 0)).set 11 (.int 0)).set 11 (.int 0)).set 11 (.int 0)).set 11 (.int 0)).set 11 (.int 0)).set 11 (.int 0)).set 11 (.int 0)).set 11 (.int 0)).set 11 (.int 0)).set 11 (.int 0)).set 11 (.int 0)).set 11 (.int 0)).set 11 (.int 0)).set 11 (.int 0)).set 11 (.int 0)).set 11 (.int 0)).set 11 (.int 0)).set 11 (.int 0)).set 11 (.int 0)).set 11 (.int 0)).set 11 (.int 0)).set 11 (.int 0)).set 11 (.int 0)).set 13 (.int 0)).set 13 (.int 1)))), (h3, .inr (2, f2)), (h4, .inl (cI, 8192, .inl (upd (k_fill 0 8192 g0) 782 1))), (h5, .inl (cI, 48000, .inl (upd g1 0 0)))] := hD
  refine lv_if_eq (tgt := 40) hx hb dX11_places_27 (by decide) (fun c9 => absurd c9 (by decide)) (fun _ => ?_)
  refine lv_aload_n hx hb dX11_places_30 rfl (lv_at hl 0 rfl) ?_
  refine va_get (D := D) (ref := "IntegerHouse") (ci := 11) (v := .ref h2) (C := RX11) (T := TX11) (N := 15) hx hb hts hin11 hown hK hP 0 rfl rfl 6 (by decide) (hts (.fieldLink RX11 55 "IntegerHouse" "places" "LIntegerHouse$Places;") (List.mem_cons_of_mem _ (List.mem_append_left _ (List.mem_append_left _ (List.mem_append_left _ (List.mem_append_left _ (List.mem_append_left _ (List.mem_of_getElem? (i := 1) rfl)))))))) (fun _ h9 => h9) e2 dX11_places_31 ?_
  refine va_getN (host := "IntegerHouse") (D := D) (ref := "IntegerHouse$Places") (ci := 6) (v := .int 1) (C := RX6) (T := TX6) (N := 14) hx hb hts hin6 hown hK hP 2 rfl rfl 13 (by decide) (va_Nw.use rfl (hN.1 ("IntegerHouse", 354, "IntegerHouse$Places", "size", "I", "IntegerHouse") (List.mem_of_getElem? (i := 34) rfl))) (fun _ h9 => h9) (k_set (k_set (k_ne (by decide) (k_ne (by decide) (k_ne (by decide) (k_ne (by decide) (k_ne (by decide) (k_ne (by decide) (k_ne (by decide) (k_ne (by decide) (k_ne (by decide) (k_ne (by decide) (k_ne (by decide) (k_ne (by decide) (k_ne (by decide) (k_ne (by decide) (k_ne (by decide) (k_ne (by decide) (k_ne (by decide) (k_ne (by decide) (k_ne (by decide) (k_ne (by decide) (k_ne (by decide) (k_ne (by decide) (k_ne (by decide) (k_ne (by decide) (k_ne (by decide) (k_ne (by decide) (k_ne (by decide) (k_ne (by decide) e11)))))))))))))))))))))))))))))) dX11_places_34 ?_
  refine lv_goto (tgt := 42) hx hb dX11_places_37 (by decide) ?_
  have hP := hP.sub (ws' := [(h0, .inr (11, f0)), (h1, .inr (1, f1)), (h3, .inr (2, f2)), (h2, .inr (6, ((((((((((((((((((((((((((((((f3.set 10 (.int 0)).set 11 (.int 0)).set 12 (.int 1)).set 11 (.int 0)).set 11 (.int 0)).set 11 (.int 0)).set 11 (.int 0)).set 11 (.int 0)).set 11 (.int 0)).set 11 (.int 0)).set 11 (.int 0)).set 11 (.int 0)).set 11 (.int 0)).set 11 (.int 0)).set 11 (.int 0)).set 11 (.int 0)).set 11 (.int 0)).set 11 (.int 0)).set 11 (.int 0)).set 11 (.int 0)).set 11 (.int 0)).set 11 (.int 0)).set 11 (.int 0)).set 11 (.int 0)).set 11 (.int 0)).set 11 (.int 0)).set 11 (.int 0)).set 11 (.int 0)).set 13 (.int 0)).set 13 (.int 1)))), (h4, .inl (cI, 8192, .inl (upd (k_fill 0 8192 g0) 782 1))), (h5, .inl (cI, 48000, .inl (upd g1 0 0)))]) [0, 1, 3, 2, 4, 5] rfl
  have hD := hD.sub (ws' := [(h0, .inr (11, f0)), (h1, .inr (1, f1)), (h3, .inr (2, f2)), (h2, .inr (6, ((((((((((((((((((((((((((((((f3.set 10 (.int 0)).set 11 (.int 0)).set 12 (.int 1)).set 11 (.int 0)).set 11 (.int 0)).set 11 (.int 0)).set 11 (.int 0)).set 11 (.int 0)).set 11 (.int 0)).set 11 (.int 0)).set 11 (.int 0)).set 11 (.int 0)).set 11 (.int 0)).set 11 (.int 0)).set 11 (.int 0)).set 11 (.int 0)).set 11 (.int 0)).set 11 (.int 0)).set 11 (.int 0)).set 11 (.int 0)).set 11 (.int 0)).set 11 (.int 0)).set 11 (.int 0)).set 11 (.int 0)).set 11 (.int 0)).set 11 (.int 0)).set 11 (.int 0)).set 11 (.int 0)).set 13 (.int 0)).set 13 (.int 1)))), (h4, .inl (cI, 8192, .inl (upd (k_fill 0 8192 g0) 782 1))), (h5, .inl (cI, 48000, .inl (upd g1 0 0)))]) [0, 1, 3, 2, 4, 5] (by decide +kernel) rfl
  exact W.iret (v := 1) hx hb hr (fun t ht hW => ⟨⟨1, (), rfl, rfl, kB_mk ht hW hP hK hD⟩, hS.F ht⟩) hS.2.2 dX11_places_42
set_option maxHeartbeats 400000000 in
set_option maxRecDepth 100000 in
theorem c_X12_places_0 (l : Launch) (E : kE) (D : va_G) (cI cJ cB cZ : ClassId) (h0 : Nat) (f0 : List Value) (h1 : Nat) (g0 : Nat → Int32) (h2 : Nat) (h3 : Nat) (h4 : Nat) (g1 : Nat → Int32) (g2 : Nat → Int32) (g3 : Nat → Int32) (e0 : f0[0]? = some (.int 0)) (e1 : f0[5]? = some (.int 0)) (e2 : f0[119]? = some (.int 0)) (e3 : f0[121]? = some (.ref h1)) (e4 : f0[33]? = some (.int 0)) (e5 : f0[32]? = some (.int 0)) (e6 : f0[131]? = some (.int 0)) (e7 : f0[127]? = some (.ref h2)) (e8 : f0[129]? = some (.int 0)) (e9 : f0[128]? = some (.ref h3)) (e10 : f0[126]? = some (.ref h4)) : kI l E D (kT cI cJ cB cZ) yX12_places wsX12_places ({ frames := 2, cells := 0, slots := 0, locals := 48 }) [.ref h0] [(h0, .inr (12, f0)), (h1, .inl (cZ, 26, .inl g0)), (h2, .inl (cI, 32768, .inl g1)), (h3, .inl (cI, 3000, .inl g2)), (h4, .inl (cI, 48000, .inl g3))] (1) [(h0, .inr (12, (((((f0.set 0 (.int 0)).set 119 (.int 0)).set 131 (.int 1)).set 129 (.int 0)).set 129 (.int 1)))), (h1, .inl (cZ, 26, .inl (upd (upd (upd (upd (upd (upd (upd (upd (upd (upd (upd (upd (upd (upd (upd (upd (upd (upd (upd (upd (upd (upd (upd (upd (upd (upd g0 0 0) 1 0) 2 0) 3 0) 4 0) 5 0) 6 0) 7 0) 8 0) 9 0) 10 0) 11 0) 12 0) 13 0) 14 0) 15 0) 16 0) 17 0) 18 0) 19 0) 20 0) 21 0) 22 0) 23 0) 24 0) 25 0))), (h2, .inl (cI, 32768, .inl (upd (k_fill (-1) 32768 g1) 17 0))), (h3, .inl (cI, 3000, .inl (upd g2 0 (-1)))), (h4, .inl (cI, 48000, .inl (upd g3 0 0)))] 0 0 := by
  intro sz
  refine Met.ofW (cc := cX12_places) (maxL := 1) (ret := (some .int)) (by decide) rfl ?_
  intro p e s m args below meth c s₁ B hml hv
  obtain ⟨rfl, hsz, hP, hK, hD0, hN, hX⟩ := hv
  have hx := B.exec
  have hb := B.bytes
  have hr := B.returns
  have hts := atoms_spec (ws := wsX12_places) B.pre
  have hown : s.vm.findClass RX12 = some m.cls := findClass_of_methodNamed B.named
  have hlocks := B.notSynchronized
  have hin12 : ∀ w ∈ wsX120, w ∈ wsX12_places := (fun w h => (List.mem_cons_of_mem _ (List.mem_append_right _ h)))
  subst hsz
  have hD := hD0.self (sz := s.heap.size)
  have hAE := k_AE hD0 hX
  generalize hAe : va_A [(h0, .inr (12, f0)), (h1, .inl (cZ, 26, .inl g0)), (h2, .inl (cI, 32768, .inl g1)), (h3, .inl (cI, 3000, .inl g2)), (h4, .inl (cI, 48000, .inl g3))] s.heap.size = A at hD hAE ⊢
  have hA : ∀ q : Nat, s.heap.size ≤ q → A q := fun q h => by rw [← hAe]; exact Or.inr h
  have hS : va_S A s.heap s.heap [] := va_S.rf
  have hP : va_P D vwCl [(h0, .inr (12, f0)), (h1, .inl (cZ, 26, .inl g0)), (h2, .inl (cI, 32768, .inl g1)), (h3, .inl (cI, 3000, .inl g2)), (h4, .inl (cI, 48000, .inl g3))] s.heap := hP
  have hl := lv_entry ([.ref h0] : List Value) (n := 1) (Nat.le_of_ble_eq_true rfl)
  rw [lg_entry_eq]
  generalize (lg_sl ([.ref h0]) ++ List.replicate (1 - (lg_sl ([.ref h0])).length) Slot.unset).toArray = ls at hl ⊢
  have hl : lv_has ls 1 [(0, .ref h0)] := hl
  refine lv_aload_n hx hb dX12_places_0 rfl (lv_at hl 0 rfl) ?_
  refine k_cVi (As := []) (rest := []) (wc := [(h0, .inr (12, f0))]) (wr := [(h1, .inl (cZ, 26, .inl g0)), (h2, .inl (cI, 32768, .inl g1)), (h3, .inl (cI, 3000, .inl g2)), (h4, .inl (cI, 48000, .inl g3))]) (w1 := [(h0, .inr (12, (f0.set 0 (.int 0))))]) ⟨hx, hb, hml, hown, hts⟩ hN hX hAE hK hP hD hS hA [0] [1, 2, 3, 4] (ci := 12) rfl rfl rfl rfl (by decide +kernel) (by decide +kernel) (by decide +kernel) (c_X12_asks_0 l E D cI cJ cB cZ h0 f0 e0 e1) (cwV 0 hts gX12_places_X12_asks rfl rfl rfl (by decide +kernel) ⟨Nat.le_of_ble_eq_true rfl, Nat.le_of_ble_eq_true rfl⟩) rfl hl.1 (Nat.le_of_ble_eq_true rfl) dX12_places_1 ⟨Nat.le_of_ble_eq_true rfl, Nat.le_of_ble_eq_true rfl⟩ (fun H locs hP hD hS => ?_)
  have hP : va_P D vwCl [(h1, .inl (cZ, 26, .inl g0)), (h2, .inl (cI, 32768, .inl g1)), (h3, .inl (cI, 3000, .inl g2)), (h4, .inl (cI, 48000, .inl g3)), (h0, .inr (12, (f0.set 0 (.int 0))))] H := hP
  have hD : va_D A [(h1, .inl (cZ, 26, .inl g0)), (h2, .inl (cI, 32768, .inl g1)), (h3, .inl (cI, 3000, .inl g2)), (h4, .inl (cI, 48000, .inl g3)), (h0, .inr (12, (f0.set 0 (.int 0))))] := hD
  refine lv_if_ne (tgt := 10) hx hb dX12_places_4 (by decide) (fun _ => ?_) (fun c9 => absurd c9 (by decide))
  refine lv_aload_n hx hb dX12_places_10 rfl (lv_at hl 0 rfl) ?_
  refine k_cVv (As := []) (rest := []) (wc := [(h0, .inr (12, (f0.set 0 (.int 0)))), (h1, .inl (cZ, 26, .inl g0))]) (wr := [(h2, .inl (cI, 32768, .inl g1)), (h3, .inl (cI, 3000, .inl g2)), (h4, .inl (cI, 48000, .inl g3))]) (w1 := (fun _ : Unit => [(h0, .inr (12, ((f0.set 0 (.int 0)).set 119 (.int 0)))), (h1, .inl (cZ, 26, .inl (upd (upd (upd (upd (upd (upd (upd (upd (upd (upd (upd (upd (upd (upd (upd (upd (upd (upd (upd (upd (upd (upd (upd (upd (upd (upd g0 0 0) 1 0) 2 0) 3 0) 4 0) 5 0) 6 0) 7 0) 8 0) 9 0) 10 0) 11 0) 12 0) 13 0) 14 0) 15 0) 16 0) 17 0) 18 0) 19 0) 20 0) 21 0) 22 0) 23 0) 24 0) 25 0)))])) ⟨hx, hb, hml, hown, hts⟩ hN hX hAE hK hP hD hS hA [4, 0] [1, 2, 3] (ci := 12) rfl rfl rfl rfl (by decide +kernel) (by decide +kernel) (by decide +kernel) (c_X12_putOn_0 l E D cI cJ cB cZ h0 ((f0.set 0 (.int 0))) h1 g0 (k_ne (by decide) e2) (k_ne (by decide) e3) (k_ne (by decide) e4)) (cwV 0 hts gX12_places_X12_putOn rfl rfl rfl (by decide +kernel) ⟨Nat.le_of_ble_eq_true rfl, Nat.le_of_ble_eq_true rfl⟩) rfl hl.1 (Nat.le_of_ble_eq_true rfl) dX12_places_11 ⟨Nat.le_of_ble_eq_true rfl, Nat.le_of_ble_eq_true rfl⟩ (fun _ H locs hP hD hS => ?_)
  have hP : va_P D vwCl [(h2, .inl (cI, 32768, .inl g1)), (h3, .inl (cI, 3000, .inl g2)), (h4, .inl (cI, 48000, .inl g3)), (h0, .inr (12, ((f0.set 0 (.int 0)).set 119 (.int 0)))), (h1, .inl (cZ, 26, .inl (upd (upd (upd (upd (upd (upd (upd (upd (upd (upd (upd (upd (upd (upd (upd (upd (upd (upd (upd (upd (upd (upd (upd (upd (upd (upd g0 0 0) 1 0) 2 0) 3 0) 4 0) 5 0) 6 0) 7 0) 8 0) 9 0) 10 0) 11 0) 12 0) 13 0) 14 0) 15 0) 16 0) 17 0) 18 0) 19 0) 20 0) 21 0) 22 0) 23 0) 24 0) 25 0)))] H := hP
  have hD : va_D A [(h2, .inl (cI, 32768, .inl g1)), (h3, .inl (cI, 3000, .inl g2)), (h4, .inl (cI, 48000, .inl g3)), (h0, .inr (12, ((f0.set 0 (.int 0)).set 119 (.int 0)))), (h1, .inl (cZ, 26, .inl (upd (upd (upd (upd (upd (upd (upd (upd (upd (upd (upd (upd (upd (upd (upd (upd (upd (upd (upd (upd (upd (upd (upd (upd (upd (upd g0 0 0) 1 0) 2 0) 3 0) 4 0) 5 0) 6 0) 7 0) 8 0) 9 0) 10 0) 11 0) 12 0) 13 0) 14 0) 15 0) 16 0) 17 0) 18 0) 19 0) 20 0) 21 0) 22 0) 23 0) 24 0) 25 0)))] := hD
  refine lv_aload_n hx hb dX12_places_14 rfl (lv_at hl 0 rfl) ?_
  refine k_cVi (As := []) (rest := []) (wc := [(h0, .inr (12, ((f0.set 0 (.int 0)).set 119 (.int 0)))), (h1, .inl (cZ, 26, .inl (upd (upd (upd (upd (upd (upd (upd (upd (upd (upd (upd (upd (upd (upd (upd (upd (upd (upd (upd (upd (upd (upd (upd (upd (upd (upd g0 0 0) 1 0) 2 0) 3 0) 4 0) 5 0) 6 0) 7 0) 8 0) 9 0) 10 0) 11 0) 12 0) 13 0) 14 0) 15 0) 16 0) 17 0) 18 0) 19 0) 20 0) 21 0) 22 0) 23 0) 24 0) 25 0))), (h2, .inl (cI, 32768, .inl g1)), (h3, .inl (cI, 3000, .inl g2)), (h4, .inl (cI, 48000, .inl g3))]) (wr := []) (w1 := [(h0, .inr (12, (((((f0.set 0 (.int 0)).set 119 (.int 0)).set 131 (.int 1)).set 129 (.int 0)).set 129 (.int 1)))), (h1, .inl (cZ, 26, .inl (upd (upd (upd (upd (upd (upd (upd (upd (upd (upd (upd (upd (upd (upd (upd (upd (upd (upd (upd (upd (upd (upd (upd (upd (upd (upd g0 0 0) 1 0) 2 0) 3 0) 4 0) 5 0) 6 0) 7 0) 8 0) 9 0) 10 0) 11 0) 12 0) 13 0) 14 0) 15 0) 16 0) 17 0) 18 0) 19 0) 20 0) 21 0) 22 0) 23 0) 24 0) 25 0))), (h2, .inl (cI, 32768, .inl (upd (k_fill (-1) 32768 g1) 17 0))), (h3, .inl (cI, 3000, .inl (upd g2 0 (-1)))), (h4, .inl (cI, 48000, .inl (upd g3 0 0)))]) ⟨hx, hb, hml, hown, hts⟩ hN hX hAE hK hP hD hS hA [3, 4, 0, 1, 2] [] (ci := 12) rfl rfl rfl rfl (by decide +kernel) (by decide +kernel) (by decide +kernel) (c_X12_explore_0 l E D cI cJ cB cZ h0 (((f0.set 0 (.int 0)).set 119 (.int 0))) h1 ((upd (upd (upd (upd (upd (upd (upd (upd (upd (upd (upd (upd (upd (upd (upd (upd (upd (upd (upd (upd (upd (upd (upd (upd (upd (upd g0 0 0) 1 0) 2 0) 3 0) 4 0) 5 0) 6 0) 7 0) 8 0) 9 0) 10 0) 11 0) 12 0) 13 0) 14 0) 15 0) 16 0) 17 0) 18 0) 19 0) 20 0) 21 0) 22 0) 23 0) 24 0) 25 0)) h2 g1 h3 g2 h4 g3 (k_set (k_ne (by decide) e2)) (k_ne (by decide) (k_ne (by decide) e3)) rfl rfl rfl rfl rfl rfl rfl rfl rfl rfl rfl rfl rfl rfl rfl rfl rfl rfl rfl rfl rfl rfl rfl rfl rfl (k_ne (by decide) (k_ne (by decide) e5)) (k_ne (by decide) (k_ne (by decide) e6)) (k_ne (by decide) (k_ne (by decide) e7)) (k_ne (by decide) (k_ne (by decide) e8)) (k_ne (by decide) (k_ne (by decide) e9)) (k_ne (by decide) (k_ne (by decide) e10))) (cwV 0 hts gX12_places_X12_explore rfl rfl rfl (by decide +kernel) ⟨Nat.le_of_ble_eq_true rfl, Nat.le_of_ble_eq_true rfl⟩) rfl hl.1 (Nat.le_of_ble_eq_true rfl) dX12_places_15 ⟨Nat.le_of_ble_eq_true rfl, Nat.le_of_ble_eq_true rfl⟩ (fun H locs hP hD hS => ?_)
  have hP : va_P D vwCl [(h0, .inr (12, (((((f0.set 0 (.int 0)).set 119 (.int 0)).set 131 (.int 1)).set 129 (.int 0)).set 129 (.int 1)))), (h1, .inl (cZ, 26, .inl (upd (upd (upd (upd (upd (upd (upd (upd (upd (upd (upd (upd (upd (upd (upd (upd (upd (upd (upd (upd (upd (upd (upd (upd (upd (upd g0 0 0) 1 0) 2 0) 3 0) 4 0) 5 0) 6 0) 7 0) 8 0) 9 0) 10 0) 11 0) 12 0) 13 0) 14 0) 15 0) 16 0) 17 0) 18 0) 19 0) 20 0) 21 0) 22 0) 23 0) 24 0) 25 0))), (h2, .inl (cI, 32768, .inl (upd (k_fill (-1) 32768 g1) 17 0))), (h3, .inl (cI, 3000, .inl (upd g2 0 (-1)))), (h4, .inl (cI, 48000, .inl (upd g3 0 0)))] H := hP
  have hD : va_D A [(h0, .inr (12, (((((f0.set 0 (.int 0)).set 119 (.int 0)).set 131 (.int 1)).set 129 (.int 0)).set 129 (.int 1)))), (h1, .inl (cZ, 26, .inl (upd (upd (upd (upd (upd (upd (upd (upd (upd (upd (upd (upd (upd (upd (upd (upd (upd (upd (upd (upd (upd (upd (upd (upd (upd (upd g0 0 0) 1 0) 2 0) 3 0) 4 0) 5 0) 6 0) 7 0) 8 0) 9 0) 10 0) 11 0) 12 0) 13 0) 14 0) 15 0) 16 0) 17 0) 18 0) 19 0) 20 0) 21 0) 22 0) 23 0) 24 0) 25 0))), (h2, .inl (cI, 32768, .inl (upd (k_fill (-1) 32768 g1) 17 0))), (h3, .inl (cI, 3000, .inl (upd g2 0 (-1)))), (h4, .inl (cI, 48000, .inl (upd g3 0 0)))] := hD
  refine lv_if_eq (tgt := 28) hx hb dX12_places_18 (by decide) (fun c9 => absurd c9 (by decide)) (fun _ => ?_)
  refine lv_aload_n hx hb dX12_places_21 rfl (lv_at hl 0 rfl) ?_
  refine va_get (D := D) (ref := "IntegerHouseModel") (ci := 12) (v := .int 1) (C := RX12) (T := TX12) (N := 195) hx hb hts hin12 hown hK hP 0 rfl rfl 129 (by decide) (hts (.fieldLink RX12 957 "IntegerHouseModel" "places" "I") (List.mem_cons_of_mem _ (List.mem_append_left _ (List.mem_append_left _ (List.mem_of_getElem? (i := 0) rfl))))) (fun _ h9 => h9) (k_set (k_set (k_ne (by decide) (k_ne (by decide) (k_ne (by decide) e8))))) dX12_places_22 ?_
  refine lv_goto (tgt := 30) hx hb dX12_places_25 (by decide) ?_
  exact W.iret (v := 1) hx hb hr (fun t ht hW => ⟨⟨1, (), rfl, rfl, kB_mk ht hW hP hK hD⟩, hS.F ht⟩) hS.2.2 dX12_places_30
set_option maxHeartbeats 400000000 in
set_option maxRecDepth 100000 in
theorem c_X11_own_0 (l : Launch) (E : kE) (D : va_G) (cI cJ cB cZ : ClassId) (h0 : Nat) (x0 : Int32) (f0 : List Value) (h1 : Nat) (f1 : List Value) (h2 : Nat) (f2 : List Value) (e0 : f0[1]? = some (.ref h1)) (e1 : f1[8]? = some (.int 0)) (e2 : f0[2]? = some (.ref h2)) (e3 : ¬ ((x0 : Int32) < 0)) (e4 : f2[11]? = some (.int 0)) : kI l E D (kT cI cJ cB cZ) yX11_own wsX11_own ({ frames := 1, cells := 0, slots := 0, locals := 21 }) [.ref h0, .int x0] [(h0, .inr (11, f0)), (h1, .inr (1, f1)), (h2, .inr (2, f2))] ((-101)) [(h0, .inr (11, f0)), (h1, .inr (1, f1)), (h2, .inr (2, f2))] 0 0 := by
  intro sz
  refine Met.ofW (cc := cX11_own) (maxL := 2) (ret := (some .int)) (by decide) rfl ?_
  intro p e s m args below meth c s₁ B hml hv
  obtain ⟨rfl, hsz, hP, hK, hD0, hN, hX⟩ := hv
  have hx := B.exec
  have hb := B.bytes
  have hr := B.returns
  have hts := atoms_spec (ws := wsX11_own) B.pre
  have hown : s.vm.findClass RX11 = some m.cls := findClass_of_methodNamed B.named
  have hlocks := B.notSynchronized
  have hin11 : ∀ w ∈ wsX110, w ∈ wsX11_own := (fun w h => (List.mem_cons_of_mem _ (List.mem_append_left _ (List.mem_append_left _ (List.mem_append_left _ (List.mem_append_left _ (List.mem_append_right _ h)))))))
  have hin1 : ∀ w ∈ wsX10, w ∈ wsX11_own := (fun w h => (List.mem_cons_of_mem _ (List.mem_append_left _ (List.mem_append_left _ (List.mem_append_left _ (List.mem_append_right _ h))))))
  subst hsz
  have hD := hD0.self (sz := s.heap.size)
  have hAE := k_AE hD0 hX
  generalize hAe : va_A [(h0, .inr (11, f0)), (h1, .inr (1, f1)), (h2, .inr (2, f2))] s.heap.size = A at hD hAE ⊢
  have hA : ∀ q : Nat, s.heap.size ≤ q → A q := fun q h => by rw [← hAe]; exact Or.inr h
  have hS : va_S A s.heap s.heap [] := va_S.rf
  have hP : va_P D vwCl [(h0, .inr (11, f0)), (h1, .inr (1, f1)), (h2, .inr (2, f2))] s.heap := hP
  have hl := lv_entry ([.ref h0, .int x0] : List Value) (n := 2) (Nat.le_of_ble_eq_true rfl)
  rw [lg_entry_eq]
  generalize (lg_sl ([.ref h0, .int x0]) ++ List.replicate (2 - (lg_sl ([.ref h0, .int x0])).length) Slot.unset).toArray = ls at hl ⊢
  have hl : lv_has ls 2 [(0, .ref h0), (1, .int x0)] := hl
  refine lv_aload_n hx hb dX11_own_0 rfl (lv_at hl 0 rfl) ?_
  refine va_get (D := D) (ref := "IntegerHouse") (ci := 11) (v := .ref h1) (C := RX11) (T := TX11) (N := 15) hx hb hts hin11 hown hK hP 0 rfl rfl 1 (by decide) (hts (.fieldLink RX11 16 "IntegerHouse" "disk" "LIntegerHouse$Disk;") (List.mem_cons_of_mem _ (List.mem_append_left _ (List.mem_append_left _ (List.mem_append_left _ (List.mem_append_left _ (List.mem_append_left _ (List.mem_append_left _ (List.mem_of_getElem? (i := 0) rfl))))))))) (fun _ h9 => h9) e0 dX11_own_1 ?_
  refine va_getN (host := "IntegerHouse") (D := D) (ref := "IntegerHouse$Disk") (ci := 1) (v := .int 0) (C := RX1) (T := TX1) (N := 9) hx hb hts hin1 hown hK hP 1 rfl rfl 8 (by decide) (va_Nw.use rfl (hN.1 ("IntegerHouse", 122, "IntegerHouse$Disk", "down", "Z", "IntegerHouse") (List.mem_of_getElem? (i := 3) rfl))) (fun _ h9 => h9) e1 dX11_own_4 ?_
  refine lv_if_eq (tgt := 13) hx hb dX11_own_7 (by decide) (fun _ => ?_) (fun c9 => absurd (by decide) c9)
  refine lv_aload_n hx hb dX11_own_13 rfl (lv_at hl 0 rfl) ?_
  refine va_get (D := D) (ref := "IntegerHouse") (ci := 11) (v := .ref h2) (C := RX11) (T := TX11) (N := 15) hx hb hts hin11 hown hK hP 0 rfl rfl 2 (by decide) (hts (.fieldLink RX11 23 "IntegerHouse" "house" "LIntegerHouse$House;") (List.mem_cons_of_mem _ (List.mem_append_left _ (List.mem_append_left _ (List.mem_append_left _ (List.mem_append_left _ (List.mem_append_left _ (List.mem_append_left _ (List.mem_of_getElem? (i := 1) rfl))))))))) (fun _ h9 => h9) e2 dX11_own_14 ?_
  refine lv_iload_n hx hb dX11_own_17 rfl (lv_at hl 1 rfl) ?_
  refine k_cVi (As := [.int x0]) (rest := []) (wc := [(h2, .inr (2, f2))]) (wr := [(h0, .inr (11, f0)), (h1, .inr (1, f1))]) (w1 := [(h2, .inr (2, f2))]) ⟨hx, hb, hml, hown, hts⟩ hN hX hAE hK hP hD hS hA [2] [0, 1] (ci := 2) rfl rfl rfl rfl (by decide +kernel) (by decide +kernel) (by decide +kernel) (c_X2_isClaim_0 l E D cI cJ cB cZ h2 x0 f2 e3 e4) (cwV 1 hts gX11_own_X2_isClaim rfl rfl rfl (by decide +kernel) ⟨Nat.le_of_ble_eq_true rfl, Nat.le_of_ble_eq_true rfl⟩) rfl hl.1 (Nat.le_of_ble_eq_true rfl) dX11_own_18 ⟨Nat.le_of_ble_eq_true rfl, Nat.le_of_ble_eq_true rfl⟩ (fun H locs hP hD hS => ?_)
  have hP : va_P D vwCl [(h0, .inr (11, f0)), (h1, .inr (1, f1)), (h2, .inr (2, f2))] H := hP
  have hD : va_D A [(h0, .inr (11, f0)), (h1, .inr (1, f1)), (h2, .inr (2, f2))] := hD
  refine lv_if_ne (tgt := 27) hx hb dX11_own_21 (by decide) (fun c9 => absurd (by decide) c9) (fun _ => ?_)
  refine lv_bipush (v := (-101)) hx hb dX11_own_24 (by decide) ?_
  exact W.iret (v := (-101)) hx hb hr (fun t ht hW => ⟨⟨(-101), (), rfl, rfl, kB_mk ht hW hP hK hD⟩, hS.F ht⟩) hS.2.2 dX11_own_26
set_option maxHeartbeats 400000000 in
set_option maxRecDepth 100000 in
theorem c_X12_own_0 (l : Launch) (E : kE) (D : va_G) (cI cJ cB cZ : ClassId) (h0 : Nat) (x0 : Int32) (f0 : List Value) (e0 : f0[0]? = some (.int 0)) (e1 : f0[5]? = some (.int 0)) (e2 : f0[33]? = some (.int 0)) (e3 : ¬ ((x0 : Int32) < 0)) : kI l E D (kT cI cJ cB cZ) yX12_own wsX12_own ({ frames := 2, cells := 0, slots := 0, locals := 46 }) [.ref h0, .int x0] [(h0, .inr (12, f0))] ((-101)) [(h0, .inr (12, (f0.set 0 (.int 0))))] 0 0 := by
  intro sz
  refine Met.ofW (cc := cX12_own) (maxL := 7) (ret := (some .int)) (by decide) rfl ?_
  intro p e s m args below meth c s₁ B hml hv
  obtain ⟨rfl, hsz, hP, hK, hD0, hN, hX⟩ := hv
  have hx := B.exec
  have hb := B.bytes
  have hr := B.returns
  have hts := atoms_spec (ws := wsX12_own) B.pre
  have hown : s.vm.findClass RX12 = some m.cls := findClass_of_methodNamed B.named
  have hlocks := B.notSynchronized
  subst hsz
  have hD := hD0.self (sz := s.heap.size)
  have hAE := k_AE hD0 hX
  generalize hAe : va_A [(h0, .inr (12, f0))] s.heap.size = A at hD hAE ⊢
  have hA : ∀ q : Nat, s.heap.size ≤ q → A q := fun q h => by rw [← hAe]; exact Or.inr h
  have hS : va_S A s.heap s.heap [] := va_S.rf
  have hP : va_P D vwCl [(h0, .inr (12, f0))] s.heap := hP
  have hl := lv_entry ([.ref h0, .int x0] : List Value) (n := 7) (Nat.le_of_ble_eq_true rfl)
  rw [lg_entry_eq]
  generalize (lg_sl ([.ref h0, .int x0]) ++ List.replicate (7 - (lg_sl ([.ref h0, .int x0])).length) Slot.unset).toArray = ls at hl ⊢
  have hl : lv_has ls 7 [(0, .ref h0), (1, .int x0)] := hl
  refine lv_aload_n hx hb dX12_own_0 rfl (lv_at hl 0 rfl) ?_
  refine k_cVi (As := []) (rest := []) (wc := [(h0, .inr (12, f0))]) (wr := []) (w1 := [(h0, .inr (12, (f0.set 0 (.int 0))))]) ⟨hx, hb, hml, hown, hts⟩ hN hX hAE hK hP hD hS hA [0] [] (ci := 12) rfl rfl rfl rfl (by decide +kernel) (by decide +kernel) (by decide +kernel) (c_X12_asks_0 l E D cI cJ cB cZ h0 f0 e0 e1) (cwV 0 hts gX12_own_X12_asks rfl rfl rfl (by decide +kernel) ⟨Nat.le_of_ble_eq_true rfl, Nat.le_of_ble_eq_true rfl⟩) rfl hl.1 (Nat.le_of_ble_eq_true rfl) dX12_own_1 ⟨Nat.le_of_ble_eq_true rfl, Nat.le_of_ble_eq_true rfl⟩ (fun H locs hP hD hS => ?_)
  have hP : va_P D vwCl [(h0, .inr (12, (f0.set 0 (.int 0))))] H := hP
  have hD : va_D A [(h0, .inr (12, (f0.set 0 (.int 0))))] := hD
  refine lv_if_ne (tgt := 10) hx hb dX12_own_4 (by decide) (fun _ => ?_) (fun c9 => absurd c9 (by decide))
  refine lv_aload_n hx hb dX12_own_10 rfl (lv_at hl 0 rfl) ?_
  refine lv_iload_n hx hb dX12_own_11 rfl (lv_at hl 1 rfl) ?_
  refine k_cVi (As := [.int x0]) (rest := []) (wc := [(h0, .inr (12, (f0.set 0 (.int 0))))]) (wr := []) (w1 := [(h0, .inr (12, (f0.set 0 (.int 0))))]) ⟨hx, hb, hml, hown, hts⟩ hN hX hAE hK hP hD hS hA [0] [] (ci := 12) rfl rfl rfl rfl (by decide +kernel) (by decide +kernel) (by decide +kernel) (c_X12_isClaim_0 l E D cI cJ cB cZ h0 x0 ((f0.set 0 (.int 0))) (k_ne (by decide) e2) e3) (cwV 1 hts gX12_own_X12_isClaim rfl rfl rfl (by decide +kernel) ⟨Nat.le_of_ble_eq_true rfl, Nat.le_of_ble_eq_true rfl⟩) rfl hl.1 (Nat.le_of_ble_eq_true rfl) dX12_own_12 ⟨Nat.le_of_ble_eq_true rfl, Nat.le_of_ble_eq_true rfl⟩ (fun H locs hP hD hS => ?_)
  have hP : va_P D vwCl [(h0, .inr (12, (f0.set 0 (.int 0))))] H := hP
  have hD : va_D A [(h0, .inr (12, (f0.set 0 (.int 0))))] := hD
  refine lv_if_ne (tgt := 21) hx hb dX12_own_15 (by decide) (fun c9 => absurd (by decide) c9) (fun _ => ?_)
  refine lv_bipush (v := (-101)) hx hb dX12_own_18 (by decide) ?_
  exact W.iret (v := (-101)) hx hb hr (fun t ht hW => ⟨⟨(-101), (), rfl, rfl, kB_mk ht hW hP hK hD⟩, hS.F ht⟩) hS.2.2 dX12_own_20
