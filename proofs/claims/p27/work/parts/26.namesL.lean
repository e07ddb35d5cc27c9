abbrev cL_cell : ByteArray := method_2_code
def yL_cell : MethodName := ⟨RL, "cell", "([II)I"⟩
abbrev cL_addStation : ByteArray := method_3_code
def yL_addStation : MethodName := ⟨RL, "addStation", "(LSatellitering;I)I"⟩
abbrev cL_addRelay : ByteArray := method_4_code
def yL_addRelay : MethodName := ⟨RL, "addRelay", "(LSatellitering;IIII)I"⟩
abbrev cL_setCapacity : ByteArray := method_5_code
def yL_setCapacity : MethodName := ⟨RL, "setCapacity", "(LSatellitering;II)I"⟩
abbrev cL_placeAt : ByteArray := method_6_code
def yL_placeAt : MethodName := ⟨RL, "placeAt", "(LSatellitering;II)I"⟩
abbrev cL_see : ByteArray := method_7_code
def yL_see : MethodName := ⟨RL, "see", "(LSatellitering;III)I"⟩
abbrev cL_contact : ByteArray := method_8_code
def yL_contact : MethodName := ⟨RL, "contact", "(LSatellitering;III)I"⟩
abbrev cL_view : ByteArray := method_9_code
def yL_view : MethodName := ⟨RL, "view", "(LSatellitering;III)I"⟩
abbrev cL_arrival : ByteArray := method_10_code
def yL_arrival : MethodName := ⟨RL, "arrival", "(LSatellitering;III)I"⟩
abbrev cL_flood : ByteArray := method_11_code
def yL_flood : MethodName := ⟨RL, "flood", "(LSatellitering;III)I"⟩
abbrev cL_spread : ByteArray := method_12_code
def yL_spread : MethodName := ⟨RL, "spread", "(LSatellitering;III)I"⟩
abbrev cL_send : ByteArray := method_13_code
def yL_send : MethodName := ⟨RL, "send", "(LSatellitering;II)I"⟩
abbrev cL_pass : ByteArray := method_14_code
def yL_pass : MethodName := ⟨RL, "pass", "(LSatellitering;I)I"⟩
abbrev cL_nodeOf : ByteArray := method_15_code
def yL_nodeOf : MethodName := ⟨RL, "nodeOf", "(LSatellitering;I)I"⟩
abbrev cL_arrivedAt : ByteArray := method_16_code
def yL_arrivedAt : MethodName := ⟨RL, "arrivedAt", "(LSatellitering;I)I"⟩
abbrev cL_hops : ByteArray := method_17_code
def yL_hops : MethodName := ⟨RL, "hops", "(LSatellitering;I)I"⟩
abbrev cL_hopNode : ByteArray := method_18_code
def yL_hopNode : MethodName := ⟨RL, "hopNode", "(LSatellitering;II)I"⟩
abbrev cL_hopMinute : ByteArray := method_19_code
def yL_hopMinute : MethodName := ⟨RL, "hopMinute", "(LSatellitering;II)I"⟩
abbrev cL_blocked : ByteArray := method_20_code
def yL_blocked : MethodName := ⟨RL, "blocked", "(LSatellitering;I)I"⟩
abbrev cL_load : ByteArray := method_21_code
def yL_load : MethodName := ⟨RL, "load", "(LSatellitering;I)I"⟩
abbrev cL_relayOf : ByteArray := method_22_code
def yL_relayOf : MethodName := ⟨RL, "relayOf", "(LSatellitering;I)I"⟩
abbrev cL_handovers : ByteArray := method_23_code
def yL_handovers : MethodName := ⟨RL, "handovers", "(LSatellitering;I)I"⟩
abbrev cL_meets : ByteArray := method_24_code
def yL_meets : MethodName := ⟨RL, "meets", "(LSatellitering;III)Z"⟩
abbrev cL_carries : ByteArray := method_25_code
def yL_carries : MethodName := ⟨RL, "carries", "(LSatellitering;I[I[II)Z"⟩
abbrev cL_law : ByteArray := code
def yL_law : MethodName := ⟨RL, "law", "([I)Z"⟩
def wsL_cell : List Cond := .code yL_cell cL_cell 2 (some .int) :: ([.constant RL 7 (59021), .constant RL 8 (2147483647)])
def wsL_addStation_r1 : List Cond := [Cond.classLink RL 15 "java/lang/IllegalArgumentException", Cond.classLink RL 17 "java/lang/IllegalStateException", Cond.methodLink RL 9 yX5_addStation, Cond.instanceMethod yX5_addStation, Cond.selects RX5 yX5_addStation yX5_addStation, Cond.initialized RX5, Cond.code yX5_addStation cX5_addStation 4 (some .int), Cond.classLink RX5 62 "java/lang/IllegalStateException", Cond.initialized "java/lang/IllegalStateException", Cond.fieldLink RX5 41 "Satellitering" "stationCount" "I", Cond.fieldLink RX5 12 "Satellitering" "sky" "LSatellitering$Sky;", Cond.classLink RX5 25 RX3, Cond.instantiable RX3 3, Cond.initialized RX3, Cond.classLink RX5 73 RX4, Cond.instantiable RX4 6, Cond.initialized RX4, Cond.fieldLink RX5 27 "Satellitering" "stations" "[LSatellitering$Station;", Cond.methodLink RX5 54 yX5_inRange, Cond.static yX5_inRange, Cond.code yX5_inRange cX5_inRange 3 (some .boolean), Cond.methodLink RX5 58 yX5_requireArgument, Cond.static yX5_requireArgument, Cond.code yX5_requireArgument cX5_requireArgument 1 none]
def wsL_addStation_r2 : List Cond := [Cond.classLink RX5 214 "java/lang/IllegalArgumentException", Cond.initialized "java/lang/IllegalArgumentException", Cond.methodLink RX5 69 yX2_addNode, Cond.instanceMethod yX2_addNode, Cond.selects RX2 yX2_addNode yX2_addNode, Cond.initialized RX2, Cond.code yX2_addNode cX2_addNode 6 (some .int), Cond.fieldLink RX2 26 "Satellitering$Sky" "count" "I", Cond.fieldLink RX2 9 "Satellitering$Sky" "places" "[I", Cond.fieldLink RX2 15 "Satellitering$Sky" "speeds" "[I", Cond.fieldLink RX2 18 "Satellitering$Sky" "reaches" "[I", Cond.methodLink RX2 30 yX2_markContacts, Cond.instanceMethod yX2_markContacts, Cond.selects RX2 yX2_markContacts yX2_markContacts, Cond.code yX2_markContacts cX2_markContacts 5 none, Cond.fieldLink RX2 23 "Satellitering$Sky" "seen" "[[I", Cond.methodLink RX2 34 yX2_commonReach, Cond.instanceMethod yX2_commonReach, Cond.selects RX2 yX2_commonReach yX2_commonReach, Cond.code yX2_commonReach cX2_commonReach 3 (some .int), Cond.methodLink RX2 44 Lib.Math.min.name, Cond.static Lib.Math.min.name, Cond.initialized "java/lang/Math", Cond.code Lib.Math.min.name Lib.Math.min.code 2 (some .int)]
def wsL_addStation_r3 : List Cond := [Cond.methodLink RX2 38 yX2_placeOf, Cond.instanceMethod yX2_placeOf, Cond.selects RX2 yX2_placeOf yX2_placeOf, Cond.code yX2_placeOf cX2_placeOf 3 (some .int), Cond.methodLink RX2 53 yJ9_floorMod_7cf53, Cond.static yJ9_floorMod_7cf53, Cond.initialized RJ9, Cond.code yJ9_floorMod_7cf53 cJ9_floorMod_7cf53 3 (some .int), Cond.methodLink RX2 41 yX2_distance, Cond.static yX2_distance, Cond.code yX2_distance cX2_distance 3 (some .int), Cond.methodLink RX2 49 Lib.Math.abs.name, Cond.static Lib.Math.abs.name, Cond.code Lib.Math.abs.name Lib.Math.abs.code 1 (some .int), Cond.methodLink RX5 75 yX4_init, Cond.instanceMethod yX4_init, Cond.code yX4_init cX4_init 3 none, Cond.methodLink RX4 3 objectInit, Cond.instanceMethod objectInit, Cond.code objectInit ⟨#[0xb1]⟩ 1 none, Cond.classLink RX4 9 "[[I", Cond.arrayClass .int, Cond.fieldLink RX4 11 "Satellitering$Timetable" "left" "[[I", Cond.fieldLink RX4 16 "Satellitering$Timetable" "soonest" "[I"]
def wsL_addStation_r4 : List Cond := [Cond.fieldLink RX4 20 "Satellitering$Timetable" "soonestBefore" "[I", Cond.fieldLink RX4 23 "Satellitering$Timetable" "nodesKnown" "I", Cond.fieldLink RX4 27 "Satellitering$Timetable" "sky" "LSatellitering$Sky;", Cond.fieldLink RX4 31 "Satellitering$Timetable" "goal" "I", Cond.methodLink RX5 78 yX3_init, Cond.instanceMethod yX3_init, Cond.code yX3_init cX3_init 2 none, Cond.methodLink RX3 3 objectInit, Cond.fieldLink RX3 9 "Satellitering$Station" "relay" "I", Cond.fieldLink RX3 15 "Satellitering$Station" "handoverCount" "I", Cond.fieldLink RX3 18 "Satellitering$Station" "timetable" "LSatellitering$Timetable;", Cond.methodLink RX5 81 yX5_lookForRelay, Cond.instanceMethod yX5_lookForRelay, Cond.selects RX5 yX5_lookForRelay yX5_lookForRelay, Cond.code yX5_lookForRelay cX5_lookForRelay 7 none, Cond.fieldLink RX5 51 "Satellitering" "now" "I", Cond.methodLink RX5 110 yX2_inContact, Cond.instanceMethod yX2_inContact, Cond.selects RX2 yX2_inContact yX2_inContact, Cond.code yX2_inContact cX2_inContact 4 (some .boolean), Cond.methodLink RX2 56 yX2_seenFrom, Cond.instanceMethod yX2_seenFrom, Cond.selects RX2 yX2_seenFrom yX2_seenFrom, Cond.code yX2_seenFrom cX2_seenFrom 3 (some .int)]
def wsL_addStation_r5 : List Cond := [Cond.methodLink RX5 116 yX2_contactLength, Cond.instanceMethod yX2_contactLength, Cond.selects RX2 yX2_contactLength yX2_contactLength, Cond.code yX2_contactLength cX2_contactLength 5 (some .int), Cond.methodLink RX2 59 yX2_inContact]
def wsL_addStation : List Cond := .codeWith yL_addStation cL_addStation 3 (some .int) [(0, 5, 6, 15), (0, 5, 10, 17)] :: ((wsL_addStation_r1 ++ (wsL_addStation_r2 ++ (wsL_addStation_r3 ++ (wsL_addStation_r4 ++ wsL_addStation_r5)))) ++ wsX50 ++ wsX30 ++ wsX40 ++ wsX20 ++ (vx_atS RX5 66 "java/lang/IllegalStateException" ["java/lang/RuntimeException", "java/lang/Exception"]).filter goodWord ++ (vx_atS RX5 218 "java/lang/IllegalArgumentException" ["java/lang/RuntimeException", "java/lang/Exception"]).filter goodWord)
def wsL_addRelay_r1 : List Cond := [Cond.classLink RL 15 "java/lang/IllegalArgumentException", Cond.classLink RL 17 "java/lang/IllegalStateException", Cond.methodLink RL 19 yX5_addRelay, Cond.instanceMethod yX5_addRelay, Cond.selects RX5 yX5_addRelay yX5_addRelay, Cond.initialized RX5, Cond.code yX5_addRelay cX5_addRelay 6 (some .int), Cond.classLink RX5 62 "java/lang/IllegalStateException", Cond.initialized "java/lang/IllegalStateException", Cond.fieldLink RX5 45 "Satellitering" "relayCount" "I", Cond.fieldLink RX5 12 "Satellitering" "sky" "LSatellitering$Sky;", Cond.fieldLink RX5 31 "Satellitering" "capacities" "[I", Cond.methodLink RX5 54 yX5_inRange, Cond.static yX5_inRange, Cond.code yX5_inRange cX5_inRange 3 (some .boolean), Cond.methodLink RX5 58 yX5_requireArgument, Cond.static yX5_requireArgument, Cond.code yX5_requireArgument cX5_requireArgument 1 none, Cond.classLink RX5 214 "java/lang/IllegalArgumentException", Cond.initialized "java/lang/IllegalArgumentException", Cond.methodLink RX5 69 yX2_addNode, Cond.instanceMethod yX2_addNode, Cond.selects RX2 yX2_addNode yX2_addNode, Cond.initialized RX2]
def wsL_addRelay_r2 : List Cond := [Cond.code yX2_addNode cX2_addNode 6 (some .int), Cond.fieldLink RX2 26 "Satellitering$Sky" "count" "I", Cond.fieldLink RX2 9 "Satellitering$Sky" "places" "[I", Cond.fieldLink RX2 15 "Satellitering$Sky" "speeds" "[I", Cond.fieldLink RX2 18 "Satellitering$Sky" "reaches" "[I", Cond.methodLink RX2 30 yX2_markContacts, Cond.instanceMethod yX2_markContacts, Cond.selects RX2 yX2_markContacts yX2_markContacts, Cond.code yX2_markContacts cX2_markContacts 5 none, Cond.fieldLink RX2 23 "Satellitering$Sky" "seen" "[[I", Cond.methodLink RX2 34 yX2_commonReach, Cond.instanceMethod yX2_commonReach, Cond.selects RX2 yX2_commonReach yX2_commonReach, Cond.code yX2_commonReach cX2_commonReach 3 (some .int), Cond.methodLink RX2 44 Lib.Math.min.name, Cond.static Lib.Math.min.name, Cond.initialized "java/lang/Math", Cond.code Lib.Math.min.name Lib.Math.min.code 2 (some .int), Cond.methodLink RX2 38 yX2_placeOf, Cond.instanceMethod yX2_placeOf, Cond.selects RX2 yX2_placeOf yX2_placeOf, Cond.code yX2_placeOf cX2_placeOf 3 (some .int), Cond.methodLink RX2 53 yJ9_floorMod_7cf53, Cond.static yJ9_floorMod_7cf53]
def wsL_addRelay_r3 : List Cond := [Cond.initialized RJ9, Cond.code yJ9_floorMod_7cf53 cJ9_floorMod_7cf53 3 (some .int), Cond.methodLink RX2 41 yX2_distance, Cond.static yX2_distance, Cond.code yX2_distance cX2_distance 3 (some .int), Cond.methodLink RX2 49 Lib.Math.abs.name, Cond.static Lib.Math.abs.name, Cond.code Lib.Math.abs.name Lib.Math.abs.code 1 (some .int)]
def wsL_addRelay : List Cond := .codeWith yL_addRelay cL_addRelay 6 (some .int) [(0, 9, 10, 15), (0, 9, 15, 17)] :: ((wsL_addRelay_r1 ++ (wsL_addRelay_r2 ++ wsL_addRelay_r3)) ++ wsX50 ++ wsX20 ++ (vx_atS RX5 66 "java/lang/IllegalStateException" ["java/lang/RuntimeException", "java/lang/Exception"]).filter goodWord ++ (vx_atS RX5 218 "java/lang/IllegalArgumentException" ["java/lang/RuntimeException", "java/lang/Exception"]).filter goodWord)
def wsL_setCapacity : List Cond := .codeWith yL_setCapacity cL_setCapacity 4 (some .int) [(0, 6, 7, 27), (0, 6, 11, 15)] :: ([.classLink RL 27 "java/lang/IndexOutOfBoundsException", .classLink RL 15 "java/lang/IllegalArgumentException", .methodLink RL 23 yX5_setCapacity, .instanceMethod yX5_setCapacity, .selects RX5 yX5_setCapacity yX5_setCapacity, .initialized RX5, .code yX5_setCapacity cX5_setCapacity 4 (some .int), .classLink RX5 91 "java/lang/IndexOutOfBoundsException", .initialized "java/lang/IndexOutOfBoundsException", .fieldLink RX5 27 "Satellitering" "stations" "[LSatellitering$Station;", .fieldLink RX5 31 "Satellitering" "capacities" "[I", .methodLink RX5 87 yX5_requireNode, .instanceMethod yX5_requireNode, .selects RX5 yX5_requireNode yX5_requireNode, .code yX5_requireNode cX5_requireNode 2 none, .fieldLink RX5 12 "Satellitering" "sky" "LSatellitering$Sky;", .methodLink RX5 54 yX5_inRange, .static yX5_inRange, .code yX5_inRange cX5_inRange 3 (some .boolean), .methodLink RX5 58 yX5_requireArgument, .static yX5_requireArgument, .code yX5_requireArgument cX5_requireArgument 1 none, .classLink RX5 214 "java/lang/IllegalArgumentException", .initialized "java/lang/IllegalArgumentException"] ++ wsX50 ++ wsX20 ++ (vx_atS RX5 95 "java/lang/IndexOutOfBoundsException" ["java/lang/RuntimeException", "java/lang/Exception"]).filter goodWord ++ (vx_atS RX5 218 "java/lang/IllegalArgumentException" ["java/lang/RuntimeException", "java/lang/Exception"]).filter goodWord)
def wsL_placeAt_r1 : List Cond := [Cond.classLink RL 27 "java/lang/IndexOutOfBoundsException", Cond.classLink RL 15 "java/lang/IllegalArgumentException", Cond.methodLink RL 29 yX5_placeAt, Cond.instanceMethod yX5_placeAt, Cond.selects RX5 yX5_placeAt yX5_placeAt, Cond.initialized RX5, Cond.code yX5_placeAt cX5_placeAt 3 (some .int), Cond.fieldLink RX5 12 "Satellitering" "sky" "LSatellitering$Sky;", Cond.methodLink RX5 87 yX5_requireNode, Cond.instanceMethod yX5_requireNode, Cond.selects RX5 yX5_requireNode yX5_requireNode, Cond.code yX5_requireNode cX5_requireNode 2 none, Cond.classLink RX5 91 "java/lang/IndexOutOfBoundsException", Cond.initialized "java/lang/IndexOutOfBoundsException", Cond.methodLink RX5 54 yX5_inRange, Cond.static yX5_inRange, Cond.code yX5_inRange cX5_inRange 3 (some .boolean), Cond.methodLink RX5 99 yX5_requireMinute, Cond.static yX5_requireMinute, Cond.code yX5_requireMinute cX5_requireMinute 1 none, Cond.constant RX5 147 (1000000), Cond.methodLink RX5 58 yX5_requireArgument, Cond.static yX5_requireArgument, Cond.code yX5_requireArgument cX5_requireArgument 1 none]
def wsL_placeAt_r2 : List Cond := [Cond.classLink RX5 214 "java/lang/IllegalArgumentException", Cond.initialized "java/lang/IllegalArgumentException", Cond.methodLink RX5 102 yX2_placeOf, Cond.instanceMethod yX2_placeOf, Cond.selects RX2 yX2_placeOf yX2_placeOf, Cond.initialized RX2, Cond.code yX2_placeOf cX2_placeOf 3 (some .int), Cond.fieldLink RX2 9 "Satellitering$Sky" "places" "[I", Cond.fieldLink RX2 15 "Satellitering$Sky" "speeds" "[I", Cond.methodLink RX2 53 yJ9_floorMod_7cf53, Cond.static yJ9_floorMod_7cf53, Cond.initialized RJ9, Cond.code yJ9_floorMod_7cf53 cJ9_floorMod_7cf53 3 (some .int)]
def wsL_placeAt : List Cond := .codeWith yL_placeAt cL_placeAt 4 (some .int) [(0, 6, 7, 27), (0, 6, 11, 15)] :: ((wsL_placeAt_r1 ++ wsL_placeAt_r2) ++ wsX50 ++ wsX20 ++ (vx_atS RX5 95 "java/lang/IndexOutOfBoundsException" ["java/lang/RuntimeException", "java/lang/Exception"]).filter goodWord ++ (vx_atS RX5 218 "java/lang/IllegalArgumentException" ["java/lang/RuntimeException", "java/lang/Exception"]).filter goodWord)
def wsL_see_r1 : List Cond := [Cond.classLink RL 27 "java/lang/IndexOutOfBoundsException", Cond.classLink RL 15 "java/lang/IllegalArgumentException", Cond.methodLink RL 32 yX5_see, Cond.instanceMethod yX5_see, Cond.selects RX5 yX5_see yX5_see, Cond.initialized RX5, Cond.code yX5_see cX5_see 4 (some .boolean), Cond.fieldLink RX5 12 "Satellitering" "sky" "LSatellitering$Sky;", Cond.methodLink RX5 106 yX5_requireTwoNodesAndMinute, Cond.instanceMethod yX5_requireTwoNodesAndMinute, Cond.selects RX5 yX5_requireTwoNodesAndMinute yX5_requireTwoNodesAndMinute, Cond.code yX5_requireTwoNodesAndMinute cX5_requireTwoNodesAndMinute 4 none, Cond.methodLink RX5 87 yX5_requireNode, Cond.instanceMethod yX5_requireNode, Cond.selects RX5 yX5_requireNode yX5_requireNode, Cond.code yX5_requireNode cX5_requireNode 2 none, Cond.classLink RX5 91 "java/lang/IndexOutOfBoundsException", Cond.initialized "java/lang/IndexOutOfBoundsException", Cond.methodLink RX5 54 yX5_inRange, Cond.static yX5_inRange, Cond.code yX5_inRange cX5_inRange 3 (some .boolean), Cond.methodLink RX5 99 yX5_requireMinute, Cond.static yX5_requireMinute, Cond.code yX5_requireMinute cX5_requireMinute 1 none]
def wsL_see_r2 : List Cond := [Cond.constant RX5 147 (1000000), Cond.methodLink RX5 58 yX5_requireArgument, Cond.static yX5_requireArgument, Cond.code yX5_requireArgument cX5_requireArgument 1 none, Cond.classLink RX5 214 "java/lang/IllegalArgumentException", Cond.initialized "java/lang/IllegalArgumentException", Cond.methodLink RX5 110 yX2_inContact, Cond.instanceMethod yX2_inContact, Cond.selects RX2 yX2_inContact yX2_inContact, Cond.initialized RX2, Cond.code yX2_inContact cX2_inContact 4 (some .boolean), Cond.methodLink RX2 56 yX2_seenFrom, Cond.instanceMethod yX2_seenFrom, Cond.selects RX2 yX2_seenFrom yX2_seenFrom, Cond.code yX2_seenFrom cX2_seenFrom 3 (some .int), Cond.fieldLink RX2 23 "Satellitering$Sky" "seen" "[[I"]
def wsL_see : List Cond := .codeWith yL_see cL_see 5 (some .int) [(0, 15, 16, 27), (0, 15, 21, 15)] :: ((wsL_see_r1 ++ wsL_see_r2) ++ wsX50 ++ wsX20 ++ (vx_atS RX5 95 "java/lang/IndexOutOfBoundsException" ["java/lang/RuntimeException", "java/lang/Exception"]).filter goodWord ++ (vx_atS RX5 218 "java/lang/IllegalArgumentException" ["java/lang/RuntimeException", "java/lang/Exception"]).filter goodWord)
def wsL_contact_r1 : List Cond := [Cond.classLink RL 27 "java/lang/IndexOutOfBoundsException", Cond.classLink RL 15 "java/lang/IllegalArgumentException", Cond.methodLink RL 36 yX5_nextContact, Cond.instanceMethod yX5_nextContact, Cond.selects RX5 yX5_nextContact yX5_nextContact, Cond.initialized RX5, Cond.code yX5_nextContact cX5_nextContact 4 (some .int), Cond.fieldLink RX5 12 "Satellitering" "sky" "LSatellitering$Sky;", Cond.methodLink RX5 106 yX5_requireTwoNodesAndMinute, Cond.instanceMethod yX5_requireTwoNodesAndMinute, Cond.selects RX5 yX5_requireTwoNodesAndMinute yX5_requireTwoNodesAndMinute, Cond.code yX5_requireTwoNodesAndMinute cX5_requireTwoNodesAndMinute 4 none, Cond.methodLink RX5 87 yX5_requireNode, Cond.instanceMethod yX5_requireNode, Cond.selects RX5 yX5_requireNode yX5_requireNode, Cond.code yX5_requireNode cX5_requireNode 2 none, Cond.classLink RX5 91 "java/lang/IndexOutOfBoundsException", Cond.initialized "java/lang/IndexOutOfBoundsException", Cond.methodLink RX5 54 yX5_inRange, Cond.static yX5_inRange, Cond.code yX5_inRange cX5_inRange 3 (some .boolean), Cond.methodLink RX5 99 yX5_requireMinute, Cond.static yX5_requireMinute, Cond.code yX5_requireMinute cX5_requireMinute 1 none]
def wsL_contact_r2 : List Cond := [Cond.constant RX5 147 (1000000), Cond.methodLink RX5 58 yX5_requireArgument, Cond.static yX5_requireArgument, Cond.code yX5_requireArgument cX5_requireArgument 1 none, Cond.classLink RX5 214 "java/lang/IllegalArgumentException", Cond.initialized "java/lang/IllegalArgumentException", Cond.methodLink RX5 113 yX2_firstContact, Cond.instanceMethod yX2_firstContact, Cond.selects RX2 yX2_firstContact yX2_firstContact, Cond.initialized RX2, Cond.code yX2_firstContact cX2_firstContact 5 (some .int), Cond.methodLink RX2 59 yX2_inContact, Cond.instanceMethod yX2_inContact, Cond.selects RX2 yX2_inContact yX2_inContact, Cond.code yX2_inContact cX2_inContact 4 (some .boolean), Cond.methodLink RX2 56 yX2_seenFrom, Cond.instanceMethod yX2_seenFrom, Cond.selects RX2 yX2_seenFrom yX2_seenFrom, Cond.code yX2_seenFrom cX2_seenFrom 3 (some .int), Cond.fieldLink RX2 23 "Satellitering$Sky" "seen" "[[I"]
def wsL_contact : List Cond := .codeWith yL_contact cL_contact 5 (some .int) [(0, 7, 8, 27), (0, 7, 13, 15)] :: ((wsL_contact_r1 ++ wsL_contact_r2) ++ wsX50 ++ wsX20 ++ (vx_atS RX5 95 "java/lang/IndexOutOfBoundsException" ["java/lang/RuntimeException", "java/lang/Exception"]).filter goodWord ++ (vx_atS RX5 218 "java/lang/IllegalArgumentException" ["java/lang/RuntimeException", "java/lang/Exception"]).filter goodWord)
def wsL_view_r1 : List Cond := [Cond.classLink RL 27 "java/lang/IndexOutOfBoundsException", Cond.classLink RL 15 "java/lang/IllegalArgumentException", Cond.methodLink RL 40 yX5_view, Cond.instanceMethod yX5_view, Cond.selects RX5 yX5_view yX5_view, Cond.initialized RX5, Cond.code yX5_view cX5_view 4 (some .int), Cond.fieldLink RX5 12 "Satellitering" "sky" "LSatellitering$Sky;", Cond.methodLink RX5 106 yX5_requireTwoNodesAndMinute, Cond.instanceMethod yX5_requireTwoNodesAndMinute, Cond.selects RX5 yX5_requireTwoNodesAndMinute yX5_requireTwoNodesAndMinute, Cond.code yX5_requireTwoNodesAndMinute cX5_requireTwoNodesAndMinute 4 none, Cond.methodLink RX5 87 yX5_requireNode, Cond.instanceMethod yX5_requireNode, Cond.selects RX5 yX5_requireNode yX5_requireNode, Cond.code yX5_requireNode cX5_requireNode 2 none, Cond.classLink RX5 91 "java/lang/IndexOutOfBoundsException", Cond.initialized "java/lang/IndexOutOfBoundsException", Cond.methodLink RX5 54 yX5_inRange, Cond.static yX5_inRange, Cond.code yX5_inRange cX5_inRange 3 (some .boolean), Cond.methodLink RX5 99 yX5_requireMinute, Cond.static yX5_requireMinute, Cond.code yX5_requireMinute cX5_requireMinute 1 none]
def wsL_view_r2 : List Cond := [Cond.constant RX5 147 (1000000), Cond.methodLink RX5 58 yX5_requireArgument, Cond.static yX5_requireArgument, Cond.code yX5_requireArgument cX5_requireArgument 1 none, Cond.classLink RX5 214 "java/lang/IllegalArgumentException", Cond.initialized "java/lang/IllegalArgumentException", Cond.methodLink RX5 116 yX2_contactLength, Cond.instanceMethod yX2_contactLength, Cond.selects RX2 yX2_contactLength yX2_contactLength, Cond.initialized RX2, Cond.code yX2_contactLength cX2_contactLength 5 (some .int), Cond.methodLink RX2 59 yX2_inContact, Cond.instanceMethod yX2_inContact, Cond.selects RX2 yX2_inContact yX2_inContact, Cond.code yX2_inContact cX2_inContact 4 (some .boolean), Cond.methodLink RX2 56 yX2_seenFrom, Cond.instanceMethod yX2_seenFrom, Cond.selects RX2 yX2_seenFrom yX2_seenFrom, Cond.code yX2_seenFrom cX2_seenFrom 3 (some .int), Cond.fieldLink RX2 23 "Satellitering$Sky" "seen" "[[I"]
def wsL_view : List Cond := .codeWith yL_view cL_view 5 (some .int) [(0, 7, 8, 27), (0, 7, 13, 15)] :: ((wsL_view_r1 ++ wsL_view_r2) ++ wsX50 ++ wsX20 ++ (vx_atS RX5 95 "java/lang/IndexOutOfBoundsException" ["java/lang/RuntimeException", "java/lang/Exception"]).filter goodWord ++ (vx_atS RX5 218 "java/lang/IllegalArgumentException" ["java/lang/RuntimeException", "java/lang/Exception"]).filter goodWord)
def wsL_arrival_r1 : List Cond := [Cond.classLink RL 27 "java/lang/IndexOutOfBoundsException", Cond.classLink RL 15 "java/lang/IllegalArgumentException", Cond.methodLink RL 43 yX5_arrival, Cond.instanceMethod yX5_arrival, Cond.selects RX5 yX5_arrival yX5_arrival, Cond.initialized RX5, Cond.code yX5_arrival cX5_arrival 4 (some .int), Cond.fieldLink RX5 21 "Satellitering" "search" "LSatellitering$Search;", Cond.methodLink RX5 106 yX5_requireTwoNodesAndMinute, Cond.instanceMethod yX5_requireTwoNodesAndMinute, Cond.selects RX5 yX5_requireTwoNodesAndMinute yX5_requireTwoNodesAndMinute, Cond.code yX5_requireTwoNodesAndMinute cX5_requireTwoNodesAndMinute 4 none, Cond.methodLink RX5 87 yX5_requireNode, Cond.instanceMethod yX5_requireNode, Cond.selects RX5 yX5_requireNode yX5_requireNode, Cond.code yX5_requireNode cX5_requireNode 2 none, Cond.classLink RX5 91 "java/lang/IndexOutOfBoundsException", Cond.initialized "java/lang/IndexOutOfBoundsException", Cond.fieldLink RX5 12 "Satellitering" "sky" "LSatellitering$Sky;", Cond.methodLink RX5 54 yX5_inRange, Cond.static yX5_inRange, Cond.code yX5_inRange cX5_inRange 3 (some .boolean), Cond.methodLink RX5 99 yX5_requireMinute, Cond.static yX5_requireMinute]
def wsL_arrival_r2 : List Cond := [Cond.code yX5_requireMinute cX5_requireMinute 1 none, Cond.constant RX5 147 (1000000), Cond.methodLink RX5 58 yX5_requireArgument, Cond.static yX5_requireArgument, Cond.code yX5_requireArgument cX5_requireArgument 1 none, Cond.classLink RX5 214 "java/lang/IllegalArgumentException", Cond.initialized "java/lang/IllegalArgumentException", Cond.methodLink RX5 119 yX1_byContacts, Cond.instanceMethod yX1_byContacts, Cond.selects RX1 yX1_byContacts yX1_byContacts, Cond.initialized RX1, Cond.code yX1_byContacts cX1_byContacts 8 (some .int), Cond.fieldLink RX1 9 "Satellitering$Search" "reached" "[I", Cond.fieldLink RX1 15 "Satellitering$Search" "sky" "LSatellitering$Sky;", Cond.methodLink RX1 19 yJ7_fill_53178, Cond.static yJ7_fill_53178, Cond.initialized RJ7, Cond.code yJ7_fill_53178 cJ7_fill_53178 4 none, Cond.methodLink RX1 31 yX1_earliestReached, Cond.instanceMethod yX1_earliestReached, Cond.selects RX1 yX1_earliestReached yX1_earliestReached, Cond.code yX1_earliestReached cX1_earliestReached 6 (some .int), Cond.methodLink RX1 35 yX1_goOnFrom, Cond.instanceMethod yX1_goOnFrom]
def wsL_arrival_r3 : List Cond := [Cond.selects RX1 yX1_goOnFrom yX1_goOnFrom, Cond.code yX1_goOnFrom cX1_goOnFrom 5 none, Cond.methodLink RX1 39 yX2_firstContact, Cond.instanceMethod yX2_firstContact, Cond.selects RX2 yX2_firstContact yX2_firstContact, Cond.initialized RX2, Cond.code yX2_firstContact cX2_firstContact 5 (some .int), Cond.methodLink RX2 59 yX2_inContact, Cond.instanceMethod yX2_inContact, Cond.selects RX2 yX2_inContact yX2_inContact, Cond.code yX2_inContact cX2_inContact 4 (some .boolean), Cond.methodLink RX2 56 yX2_seenFrom, Cond.instanceMethod yX2_seenFrom, Cond.selects RX2 yX2_seenFrom yX2_seenFrom, Cond.code yX2_seenFrom cX2_seenFrom 3 (some .int), Cond.fieldLink RX2 23 "Satellitering$Sky" "seen" "[[I"]
def wsL_arrival : List Cond := .codeWith yL_arrival cL_arrival 5 (some .int) [(0, 7, 8, 27), (0, 7, 13, 15)] :: ((wsL_arrival_r1 ++ (wsL_arrival_r2 ++ wsL_arrival_r3)) ++ wsX50 ++ wsX20 ++ wsX10 ++ (vx_atS RX5 95 "java/lang/IndexOutOfBoundsException" ["java/lang/RuntimeException", "java/lang/Exception"]).filter goodWord ++ (vx_atS RX5 218 "java/lang/IllegalArgumentException" ["java/lang/RuntimeException", "java/lang/Exception"]).filter goodWord)
def wsL_flood_r1 : List Cond := [Cond.classLink RL 27 "java/lang/IndexOutOfBoundsException", Cond.classLink RL 15 "java/lang/IllegalArgumentException", Cond.methodLink RL 46 yX5_arrivalByFlooding, Cond.instanceMethod yX5_arrivalByFlooding, Cond.selects RX5 yX5_arrivalByFlooding yX5_arrivalByFlooding, Cond.initialized RX5, Cond.code yX5_arrivalByFlooding cX5_arrivalByFlooding 4 (some .int), Cond.fieldLink RX5 21 "Satellitering" "search" "LSatellitering$Search;", Cond.methodLink RX5 106 yX5_requireTwoNodesAndMinute, Cond.instanceMethod yX5_requireTwoNodesAndMinute, Cond.selects RX5 yX5_requireTwoNodesAndMinute yX5_requireTwoNodesAndMinute, Cond.code yX5_requireTwoNodesAndMinute cX5_requireTwoNodesAndMinute 4 none, Cond.methodLink RX5 87 yX5_requireNode, Cond.instanceMethod yX5_requireNode, Cond.selects RX5 yX5_requireNode yX5_requireNode, Cond.code yX5_requireNode cX5_requireNode 2 none, Cond.classLink RX5 91 "java/lang/IndexOutOfBoundsException", Cond.initialized "java/lang/IndexOutOfBoundsException", Cond.fieldLink RX5 12 "Satellitering" "sky" "LSatellitering$Sky;", Cond.methodLink RX5 54 yX5_inRange, Cond.static yX5_inRange, Cond.code yX5_inRange cX5_inRange 3 (some .boolean), Cond.methodLink RX5 99 yX5_requireMinute, Cond.static yX5_requireMinute]
def wsL_flood_r2 : List Cond := [Cond.code yX5_requireMinute cX5_requireMinute 1 none, Cond.constant RX5 147 (1000000), Cond.methodLink RX5 58 yX5_requireArgument, Cond.static yX5_requireArgument, Cond.code yX5_requireArgument cX5_requireArgument 1 none, Cond.classLink RX5 214 "java/lang/IllegalArgumentException", Cond.initialized "java/lang/IllegalArgumentException", Cond.methodLink RX5 122 yX1_byFlooding, Cond.instanceMethod yX1_byFlooding, Cond.selects RX1 yX1_byFlooding yX1_byFlooding, Cond.initialized RX1, Cond.code yX1_byFlooding cX1_byFlooding 6 (some .int), Cond.methodLink RX1 43 yX1_floodedNext, Cond.instanceMethod yX1_floodedNext, Cond.selects RX1 yX1_floodedNext yX1_floodedNext, Cond.code yX1_floodedNext cX1_floodedNext 5 (some .int), Cond.fieldLink RX1 15 "Satellitering$Search" "sky" "LSatellitering$Sky;", Cond.methodLink RX1 46 yX2_seenFrom, Cond.instanceMethod yX2_seenFrom, Cond.selects RX2 yX2_seenFrom yX2_seenFrom, Cond.initialized RX2, Cond.code yX2_seenFrom cX2_seenFrom 3 (some .int), Cond.fieldLink RX2 23 "Satellitering$Sky" "seen" "[[I"]
def wsL_flood : List Cond := .codeWith yL_flood cL_flood 5 (some .int) [(0, 7, 8, 27), (0, 7, 13, 15)] :: ((wsL_flood_r1 ++ wsL_flood_r2) ++ wsX50 ++ wsX20 ++ wsX10 ++ (vx_atS RX5 95 "java/lang/IndexOutOfBoundsException" ["java/lang/RuntimeException", "java/lang/Exception"]).filter goodWord ++ (vx_atS RX5 218 "java/lang/IllegalArgumentException" ["java/lang/RuntimeException", "java/lang/Exception"]).filter goodWord)
def wsL_spread_r1 : List Cond := [Cond.classLink RL 27 "java/lang/IndexOutOfBoundsException", Cond.classLink RL 15 "java/lang/IllegalArgumentException", Cond.methodLink RL 49 yX5_spread, Cond.instanceMethod yX5_spread, Cond.selects RX5 yX5_spread yX5_spread, Cond.initialized RX5, Cond.code yX5_spread cX5_spread 4 (some .int), Cond.fieldLink RX5 21 "Satellitering" "search" "LSatellitering$Search;", Cond.methodLink RX5 87 yX5_requireNode, Cond.instanceMethod yX5_requireNode, Cond.selects RX5 yX5_requireNode yX5_requireNode, Cond.code yX5_requireNode cX5_requireNode 2 none, Cond.classLink RX5 91 "java/lang/IndexOutOfBoundsException", Cond.initialized "java/lang/IndexOutOfBoundsException", Cond.fieldLink RX5 12 "Satellitering" "sky" "LSatellitering$Sky;", Cond.methodLink RX5 54 yX5_inRange, Cond.static yX5_inRange, Cond.code yX5_inRange cX5_inRange 3 (some .boolean), Cond.methodLink RX5 99 yX5_requireMinute, Cond.static yX5_requireMinute, Cond.code yX5_requireMinute cX5_requireMinute 1 none, Cond.constant RX5 147 (1000000), Cond.methodLink RX5 58 yX5_requireArgument, Cond.static yX5_requireArgument]
def wsL_spread_r2 : List Cond := [Cond.code yX5_requireArgument cX5_requireArgument 1 none, Cond.classLink RX5 214 "java/lang/IllegalArgumentException", Cond.initialized "java/lang/IllegalArgumentException", Cond.methodLink RX5 125 yX1_flooded, Cond.instanceMethod yX1_flooded, Cond.selects RX1 yX1_flooded yX1_flooded, Cond.initialized RX1, Cond.code yX1_flooded cX1_flooded 6 (some .int), Cond.methodLink RX1 43 yX1_floodedNext, Cond.instanceMethod yX1_floodedNext, Cond.selects RX1 yX1_floodedNext yX1_floodedNext, Cond.code yX1_floodedNext cX1_floodedNext 5 (some .int), Cond.fieldLink RX1 15 "Satellitering$Search" "sky" "LSatellitering$Sky;", Cond.methodLink RX1 46 yX2_seenFrom, Cond.instanceMethod yX2_seenFrom, Cond.selects RX2 yX2_seenFrom yX2_seenFrom, Cond.initialized RX2, Cond.code yX2_seenFrom cX2_seenFrom 3 (some .int), Cond.fieldLink RX2 23 "Satellitering$Sky" "seen" "[[I", Cond.methodLink RX5 128 yJ6_bitCount_0f7a4, Cond.static yJ6_bitCount_0f7a4, Cond.initialized RJ6, Cond.code yJ6_bitCount_0f7a4 cJ6_bitCount_0f7a4 1 (some .int), Cond.constant RJ6 265 (1431655765)]
def wsL_spread_r3 : List Cond := [Cond.constant RJ6 266 (858993459), Cond.constant RJ6 267 (252645135)]
def wsL_spread : List Cond := .codeWith yL_spread cL_spread 5 (some .int) [(0, 7, 8, 27), (0, 7, 13, 15)] :: ((wsL_spread_r1 ++ (wsL_spread_r2 ++ wsL_spread_r3)) ++ wsX50 ++ wsX20 ++ wsX10 ++ (vx_atS RX5 95 "java/lang/IndexOutOfBoundsException" ["java/lang/RuntimeException", "java/lang/Exception"]).filter goodWord ++ (vx_atS RX5 218 "java/lang/IllegalArgumentException" ["java/lang/RuntimeException", "java/lang/Exception"]).filter goodWord)
def wsL_send_r1 : List Cond := [Cond.classLink RL 27 "java/lang/IndexOutOfBoundsException", Cond.classLink RL 15 "java/lang/IllegalArgumentException", Cond.classLink RL 17 "java/lang/IllegalStateException", Cond.methodLink RL 52 yX5_send, Cond.instanceMethod yX5_send, Cond.selects RX5 yX5_send yX5_send, Cond.initialized RX5, Cond.code yX5_send cX5_send 5 (some .int), Cond.classLink RX5 62 "java/lang/IllegalStateException", Cond.initialized "java/lang/IllegalStateException", Cond.fieldLink RX5 48 "Satellitering" "sentCount" "I", Cond.fieldLink RX5 37 "Satellitering" "sent" "[LSatellitering$Message;", Cond.classLink RX5 35 RX0, Cond.instantiable RX0 8, Cond.initialized RX0, Cond.methodLink RX5 134 yX5_requireStation, Cond.instanceMethod yX5_requireStation, Cond.selects RX5 yX5_requireStation yX5_requireStation, Cond.code yX5_requireStation cX5_requireStation 3 (some (.object "Satellitering$Station")), Cond.classLink RX5 91 "java/lang/IndexOutOfBoundsException", Cond.initialized "java/lang/IndexOutOfBoundsException", Cond.fieldLink RX5 27 "Satellitering" "stations" "[LSatellitering$Station;", Cond.methodLink RX5 87 yX5_requireNode, Cond.instanceMethod yX5_requireNode]
def wsL_send_r2 : List Cond := [Cond.selects RX5 yX5_requireNode yX5_requireNode, Cond.code yX5_requireNode cX5_requireNode 2 none, Cond.fieldLink RX5 12 "Satellitering" "sky" "LSatellitering$Sky;", Cond.methodLink RX5 54 yX5_inRange, Cond.static yX5_inRange, Cond.code yX5_inRange cX5_inRange 3 (some .boolean), Cond.methodLink RX5 58 yX5_requireArgument, Cond.static yX5_requireArgument, Cond.code yX5_requireArgument cX5_requireArgument 1 none, Cond.classLink RX5 214 "java/lang/IllegalArgumentException", Cond.initialized "java/lang/IllegalArgumentException", Cond.methodLink RX5 144 yX0_init, Cond.instanceMethod yX0_init, Cond.code yX0_init cX0_init 4 none, Cond.methodLink RX0 1 objectInit, Cond.instanceMethod objectInit, Cond.code objectInit ⟨#[0xb1]⟩ 1 none, Cond.fieldLink RX0 7 "Satellitering$Message" "since" "I", Cond.fieldLink RX0 13 "Satellitering$Message" "blocks" "I", Cond.fieldLink RX0 16 "Satellitering$Message" "hopCount" "I", Cond.arrayClass .int, Cond.fieldLink RX0 19 "Satellitering$Message" "hopNodes" "[I", Cond.fieldLink RX0 23 "Satellitering$Message" "hopMinutes" "[I", Cond.fieldLink RX0 26 "Satellitering$Message" "node" "I"]
def wsL_send_r3 : List Cond := [Cond.fieldLink RX0 29 "Satellitering$Message" "goal" "I", Cond.fieldLink RX0 32 "Satellitering$Message" "timetable" "LSatellitering$Timetable;"]
def wsL_send : List Cond := .codeWith yL_send cL_send 4 (some .int) [(0, 6, 7, 27), (0, 6, 11, 15), (0, 6, 15, 17)] :: ((wsL_send_r1 ++ (wsL_send_r2 ++ wsL_send_r3)) ++ wsX50 ++ wsX00 ++ wsX30 ++ wsX20 ++ (vx_atS RX5 66 "java/lang/IllegalStateException" ["java/lang/RuntimeException", "java/lang/Exception"]).filter goodWord ++ (vx_atS RX5 95 "java/lang/IndexOutOfBoundsException" ["java/lang/RuntimeException", "java/lang/Exception"]).filter goodWord ++ (vx_atS RX5 218 "java/lang/IllegalArgumentException" ["java/lang/RuntimeException", "java/lang/Exception"]).filter goodWord)
def wsL_pass_r1 : List Cond := [Cond.classLink RL 15 "java/lang/IllegalArgumentException", Cond.classLink RL 17 "java/lang/IllegalStateException", Cond.methodLink RL 55 yX5_pass, Cond.instanceMethod yX5_pass, Cond.selects RX5 yX5_pass yX5_pass, Cond.initialized RX5, Cond.code yX5_pass cX5_pass 4 (some .int), Cond.classLink RX5 62 "java/lang/IllegalStateException", Cond.initialized "java/lang/IllegalStateException", Cond.fieldLink RX5 51 "Satellitering" "now" "I", Cond.constant RX5 147 (1000000), Cond.methodLink RX5 54 yX5_inRange, Cond.static yX5_inRange, Cond.code yX5_inRange cX5_inRange 3 (some .boolean), Cond.methodLink RX5 58 yX5_requireArgument, Cond.static yX5_requireArgument, Cond.code yX5_requireArgument cX5_requireArgument 1 none, Cond.classLink RX5 214 "java/lang/IllegalArgumentException", Cond.initialized "java/lang/IllegalArgumentException", Cond.methodLink RX5 150 yX5_passOneMinute, Cond.instanceMethod yX5_passOneMinute, Cond.selects RX5 yX5_passOneMinute yX5_passOneMinute, Cond.code yX5_passOneMinute cX5_passOneMinute 4 (some .int), Cond.fieldLink RX5 48 "Satellitering" "sentCount" "I"]
def wsL_pass_r2 : List Cond := [Cond.fieldLink RX5 37 "Satellitering" "sent" "[LSatellitering$Message;", Cond.fieldLink RX5 12 "Satellitering" "sky" "LSatellitering$Sky;", Cond.fieldLink RX5 27 "Satellitering" "stations" "[LSatellitering$Station;", Cond.methodLink RX5 161 yX0_isAtGoal, Cond.instanceMethod yX0_isAtGoal, Cond.selects RX0 yX0_isAtGoal yX0_isAtGoal, Cond.initialized RX0, Cond.code yX0_isAtGoal cX0_isAtGoal 1 (some .boolean), Cond.fieldLink RX0 26 "Satellitering$Message" "node" "I", Cond.fieldLink RX0 29 "Satellitering$Message" "goal" "I", Cond.methodLink RX5 198 yX5_moveOn, Cond.instanceMethod yX5_moveOn, Cond.selects RX5 yX5_moveOn yX5_moveOn, Cond.code yX5_moveOn cX5_moveOn 3 none, Cond.methodLink RX5 203 yX4_nextNode, Cond.instanceMethod yX4_nextNode, Cond.selects RX4 yX4_nextNode yX4_nextNode, Cond.initialized RX4, Cond.code yX4_nextNode cX4_nextNode 6 (some .int), Cond.fieldLink RX4 23 "Satellitering$Timetable" "nodesKnown" "I", Cond.fieldLink RX4 27 "Satellitering$Timetable" "sky" "LSatellitering$Sky;", Cond.fieldLink RX4 11 "Satellitering$Timetable" "left" "[[I", Cond.methodLink RX4 39 yX4_reckon, Cond.instanceMethod yX4_reckon]
def wsL_pass_r3 : List Cond := [Cond.selects RX4 yX4_reckon yX4_reckon, Cond.code yX4_reckon cX4_reckon 3 none, Cond.fieldLink RX4 16 "Satellitering$Timetable" "soonest" "[I", Cond.methodLink RX4 46 yJ7_fill_53178, Cond.static yJ7_fill_53178, Cond.initialized RJ7, Cond.code yJ7_fill_53178 cJ7_fill_53178 4 none, Cond.methodLink RX4 52 yX4_stepBack, Cond.instanceMethod yX4_stepBack, Cond.selects RX4 yX4_stepBack yX4_stepBack, Cond.code yX4_stepBack cX4_stepBack 4 none, Cond.fieldLink RX4 20 "Satellitering$Timetable" "soonestBefore" "[I", Cond.fieldLink RX4 31 "Satellitering$Timetable" "goal" "I", Cond.methodLink RX4 59 yX2_seenFrom, Cond.instanceMethod yX2_seenFrom, Cond.selects RX2 yX2_seenFrom yX2_seenFrom, Cond.initialized RX2, Cond.code yX2_seenFrom cX2_seenFrom 3 (some .int), Cond.fieldLink RX2 23 "Satellitering$Sky" "seen" "[[I", Cond.methodLink RX4 63 yX4_soonestThrough, Cond.instanceMethod yX4_soonestThrough, Cond.selects RX4 yX4_soonestThrough yX4_soonestThrough, Cond.code yX4_soonestThrough cX4_soonestThrough 5 (some .int), Cond.methodLink RX4 56 yX4_writeDown]
def wsL_pass_r4 : List Cond := [Cond.instanceMethod yX4_writeDown, Cond.selects RX4 yX4_writeDown yX4_writeDown, Cond.code yX4_writeDown cX4_writeDown 4 none, Cond.methodLink RX4 42 yX2_inContact, Cond.instanceMethod yX2_inContact, Cond.selects RX2 yX2_inContact yX2_inContact, Cond.code yX2_inContact cX2_inContact 4 (some .boolean), Cond.methodLink RX2 56 yX2_seenFrom, Cond.methodLink RX5 206 yX5_isFull, Cond.instanceMethod yX5_isFull, Cond.selects RX5 yX5_isFull yX5_isFull, Cond.code yX5_isFull cX5_isFull 2 (some .boolean), Cond.fieldLink RX5 31 "Satellitering" "capacities" "[I", Cond.methodLink RX5 189 yX5_messagesAt, Cond.instanceMethod yX5_messagesAt, Cond.selects RX5 yX5_messagesAt yX5_messagesAt, Cond.code yX5_messagesAt cX5_messagesAt 4 (some .int), Cond.methodLink RX5 210 yX0_handTo, Cond.instanceMethod yX0_handTo, Cond.selects RX0 yX0_handTo yX0_handTo, Cond.code yX0_handTo cX0_handTo 3 none, Cond.fieldLink RX0 16 "Satellitering$Message" "hopCount" "I", Cond.fieldLink RX0 19 "Satellitering$Message" "hopNodes" "[I", Cond.fieldLink RX0 23 "Satellitering$Message" "hopMinutes" "[I"]
def wsL_pass_r5 : List Cond := [Cond.fieldLink RX0 7 "Satellitering$Message" "since" "I", Cond.methodLink RX0 36 yJ7_copyOf_59c91, Cond.static yJ7_copyOf_59c91, Cond.code yJ7_copyOf_59c91 cJ7_copyOf_59c91 3 (some (.array .int)), Cond.methodLink RJ7 316 ⟨"[I", "clone", "()Ljava/lang/Object;"⟩, Cond.sameMethod "[I" "java/lang/Object" "clone" "()Ljava/lang/Object;", Cond.native ⟨"java/lang/Object", "clone", "()Ljava/lang/Object;"⟩, Cond.instanceMethod ⟨"java/lang/Object", "clone", "()Ljava/lang/Object;"⟩, Cond.selects "[I" ⟨"[I", "clone", "()Ljava/lang/Object;"⟩ ⟨"java/lang/Object", "clone", "()Ljava/lang/Object;"⟩, Cond.classLink RJ7 317 "[I", Cond.arrayClass .int, Cond.methodLink RJ7 304 Lib.Math.min.name, Cond.static Lib.Math.min.name, Cond.initialized "java/lang/Math", Cond.code Lib.Math.min.name Lib.Math.min.code 2 (some .int), Cond.methodLink RJ7 150 arraycopyName, Cond.native arraycopyName, Cond.static arraycopyName, Cond.initialized "java/lang/System", Cond.methodLink RX5 81 yX5_lookForRelay, Cond.instanceMethod yX5_lookForRelay, Cond.selects RX5 yX5_lookForRelay yX5_lookForRelay, Cond.code yX5_lookForRelay cX5_lookForRelay 7 none, Cond.methodLink RX5 110 yX2_inContact]
def wsL_pass_r6 : List Cond := [Cond.methodLink RX5 116 yX2_contactLength, Cond.instanceMethod yX2_contactLength, Cond.selects RX2 yX2_contactLength yX2_contactLength, Cond.code yX2_contactLength cX2_contactLength 5 (some .int), Cond.methodLink RX2 59 yX2_inContact]
def wsL_pass : List Cond := .codeWith yL_pass cL_pass 3 (some .int) [(0, 5, 6, 15), (0, 5, 10, 17)] :: ((wsL_pass_r1 ++ (wsL_pass_r2 ++ (wsL_pass_r3 ++ (wsL_pass_r4 ++ (wsL_pass_r5 ++ wsL_pass_r6))))) ++ wsX50 ++ wsX20 ++ wsX00 ++ wsX40 ++ wsX30 ++ (vx_atS RX5 66 "java/lang/IllegalStateException" ["java/lang/RuntimeException", "java/lang/Exception"]).filter goodWord ++ (vx_atS RX5 218 "java/lang/IllegalArgumentException" ["java/lang/RuntimeException", "java/lang/Exception"]).filter goodWord)
def wsL_nodeOf : List Cond := .codeWith yL_nodeOf cL_nodeOf 3 (some .int) [(0, 5, 6, 27)] :: ([.classLink RL 27 "java/lang/IndexOutOfBoundsException", .methodLink RL 58 yX5_nodeOf, .instanceMethod yX5_nodeOf, .selects RX5 yX5_nodeOf yX5_nodeOf, .initialized RX5, .code yX5_nodeOf cX5_nodeOf 2 (some .int), .methodLink RX5 154 yX5_requireMessage, .instanceMethod yX5_requireMessage, .selects RX5 yX5_requireMessage yX5_requireMessage, .code yX5_requireMessage cX5_requireMessage 2 (some (.object "Satellitering$Message")), .classLink RX5 91 "java/lang/IndexOutOfBoundsException", .initialized "java/lang/IndexOutOfBoundsException", .fieldLink RX5 48 "Satellitering" "sentCount" "I", .fieldLink RX5 37 "Satellitering" "sent" "[LSatellitering$Message;", .methodLink RX5 54 yX5_inRange, .static yX5_inRange, .code yX5_inRange cX5_inRange 3 (some .boolean)] ++ wsX00 ++ wsX50 ++ (vx_atS RX5 95 "java/lang/IndexOutOfBoundsException" ["java/lang/RuntimeException", "java/lang/Exception"]).filter goodWord)
def wsL_arrivedAt_r1 : List Cond := [Cond.classLink RL 27 "java/lang/IndexOutOfBoundsException", Cond.classLink RL 64 "java/util/NoSuchElementException", Cond.methodLink RL 61 yX5_arrivedAt, Cond.instanceMethod yX5_arrivedAt, Cond.selects RX5 yX5_arrivedAt yX5_arrivedAt, Cond.initialized RX5, Cond.code yX5_arrivedAt cX5_arrivedAt 3 (some .int), Cond.classLink RX5 165 "java/util/NoSuchElementException", Cond.initialized "java/util/NoSuchElementException", Cond.methodLink RX5 154 yX5_requireMessage, Cond.instanceMethod yX5_requireMessage, Cond.selects RX5 yX5_requireMessage yX5_requireMessage, Cond.code yX5_requireMessage cX5_requireMessage 2 (some (.object "Satellitering$Message")), Cond.classLink RX5 91 "java/lang/IndexOutOfBoundsException", Cond.initialized "java/lang/IndexOutOfBoundsException", Cond.fieldLink RX5 48 "Satellitering" "sentCount" "I", Cond.fieldLink RX5 37 "Satellitering" "sent" "[LSatellitering$Message;", Cond.methodLink RX5 54 yX5_inRange, Cond.static yX5_inRange, Cond.code yX5_inRange cX5_inRange 3 (some .boolean), Cond.methodLink RX5 161 yX0_isAtGoal, Cond.instanceMethod yX0_isAtGoal, Cond.selects RX0 yX0_isAtGoal yX0_isAtGoal, Cond.initialized RX0]
def wsL_arrivedAt_r2 : List Cond := [Cond.code yX0_isAtGoal cX0_isAtGoal 1 (some .boolean), Cond.fieldLink RX0 26 "Satellitering$Message" "node" "I", Cond.fieldLink RX0 29 "Satellitering$Message" "goal" "I"]
def wsL_arrivedAt : List Cond := .codeWith yL_arrivedAt cL_arrivedAt 3 (some .int) [(0, 5, 6, 27), (0, 5, 10, 64)] :: ((wsL_arrivedAt_r1 ++ wsL_arrivedAt_r2) ++ wsX00 ++ wsX50 ++ (vx_atX RX5 169 "java/util/NoSuchElementException" 13 nsB "java/lang/RuntimeException" ["java/lang/Exception"]).filter goodWord ++ (vx_atS RX5 95 "java/lang/IndexOutOfBoundsException" ["java/lang/RuntimeException", "java/lang/Exception"]).filter goodWord)
def wsL_hops : List Cond := .codeWith yL_hops cL_hops 3 (some .int) [(0, 5, 6, 27)] :: ([.classLink RL 27 "java/lang/IndexOutOfBoundsException", .methodLink RL 66 yX5_hops, .instanceMethod yX5_hops, .selects RX5 yX5_hops yX5_hops, .initialized RX5, .code yX5_hops cX5_hops 2 (some .int), .methodLink RX5 154 yX5_requireMessage, .instanceMethod yX5_requireMessage, .selects RX5 yX5_requireMessage yX5_requireMessage, .code yX5_requireMessage cX5_requireMessage 2 (some (.object "Satellitering$Message")), .classLink RX5 91 "java/lang/IndexOutOfBoundsException", .initialized "java/lang/IndexOutOfBoundsException", .fieldLink RX5 48 "Satellitering" "sentCount" "I", .fieldLink RX5 37 "Satellitering" "sent" "[LSatellitering$Message;", .methodLink RX5 54 yX5_inRange, .static yX5_inRange, .code yX5_inRange cX5_inRange 3 (some .boolean)] ++ wsX00 ++ wsX50 ++ (vx_atS RX5 95 "java/lang/IndexOutOfBoundsException" ["java/lang/RuntimeException", "java/lang/Exception"]).filter goodWord)
def wsL_hopNode : List Cond := .codeWith yL_hopNode cL_hopNode 4 (some .int) [(0, 6, 7, 27)] :: ([.classLink RL 27 "java/lang/IndexOutOfBoundsException", .methodLink RL 69 yX5_hopNode, .instanceMethod yX5_hopNode, .selects RX5 yX5_hopNode yX5_hopNode, .initialized RX5, .code yX5_hopNode cX5_hopNode 4 (some .int), .methodLink RX5 154 yX5_requireMessage, .instanceMethod yX5_requireMessage, .selects RX5 yX5_requireMessage yX5_requireMessage, .code yX5_requireMessage cX5_requireMessage 2 (some (.object "Satellitering$Message")), .classLink RX5 91 "java/lang/IndexOutOfBoundsException", .initialized "java/lang/IndexOutOfBoundsException", .fieldLink RX5 48 "Satellitering" "sentCount" "I", .fieldLink RX5 37 "Satellitering" "sent" "[LSatellitering$Message;", .methodLink RX5 54 yX5_inRange, .static yX5_inRange, .code yX5_inRange cX5_inRange 3 (some .boolean), .methodLink RX5 176 yX5_requireHop, .static yX5_requireHop, .code yX5_requireHop cX5_requireHop 2 none] ++ wsX00 ++ wsX50 ++ (vx_atS RX5 95 "java/lang/IndexOutOfBoundsException" ["java/lang/RuntimeException", "java/lang/Exception"]).filter goodWord)
def wsL_hopMinute : List Cond := .codeWith yL_hopMinute cL_hopMinute 4 (some .int) [(0, 6, 7, 27)] :: ([.classLink RL 27 "java/lang/IndexOutOfBoundsException", .methodLink RL 72 yX5_hopMinute, .instanceMethod yX5_hopMinute, .selects RX5 yX5_hopMinute yX5_hopMinute, .initialized RX5, .code yX5_hopMinute cX5_hopMinute 4 (some .int), .methodLink RX5 154 yX5_requireMessage, .instanceMethod yX5_requireMessage, .selects RX5 yX5_requireMessage yX5_requireMessage, .code yX5_requireMessage cX5_requireMessage 2 (some (.object "Satellitering$Message")), .classLink RX5 91 "java/lang/IndexOutOfBoundsException", .initialized "java/lang/IndexOutOfBoundsException", .fieldLink RX5 48 "Satellitering" "sentCount" "I", .fieldLink RX5 37 "Satellitering" "sent" "[LSatellitering$Message;", .methodLink RX5 54 yX5_inRange, .static yX5_inRange, .code yX5_inRange cX5_inRange 3 (some .boolean), .methodLink RX5 176 yX5_requireHop, .static yX5_requireHop, .code yX5_requireHop cX5_requireHop 2 none] ++ wsX00 ++ wsX50 ++ (vx_atS RX5 95 "java/lang/IndexOutOfBoundsException" ["java/lang/RuntimeException", "java/lang/Exception"]).filter goodWord)
def wsL_blocked : List Cond := .codeWith yL_blocked cL_blocked 3 (some .int) [(0, 5, 6, 27)] :: ([.classLink RL 27 "java/lang/IndexOutOfBoundsException", .methodLink RL 75 yX5_blocked, .instanceMethod yX5_blocked, .selects RX5 yX5_blocked yX5_blocked, .initialized RX5, .code yX5_blocked cX5_blocked 2 (some .int), .methodLink RX5 154 yX5_requireMessage, .instanceMethod yX5_requireMessage, .selects RX5 yX5_requireMessage yX5_requireMessage, .code yX5_requireMessage cX5_requireMessage 2 (some (.object "Satellitering$Message")), .classLink RX5 91 "java/lang/IndexOutOfBoundsException", .initialized "java/lang/IndexOutOfBoundsException", .fieldLink RX5 48 "Satellitering" "sentCount" "I", .fieldLink RX5 37 "Satellitering" "sent" "[LSatellitering$Message;", .methodLink RX5 54 yX5_inRange, .static yX5_inRange, .code yX5_inRange cX5_inRange 3 (some .boolean)] ++ wsX00 ++ wsX50 ++ (vx_atS RX5 95 "java/lang/IndexOutOfBoundsException" ["java/lang/RuntimeException", "java/lang/Exception"]).filter goodWord)
def wsL_load : List Cond := .codeWith yL_load cL_load 3 (some .int) [(0, 5, 6, 27)] :: ([.classLink RL 27 "java/lang/IndexOutOfBoundsException", .methodLink RL 78 yX5_load, .instanceMethod yX5_load, .selects RX5 yX5_load yX5_load, .initialized RX5, .code yX5_load cX5_load 2 (some .int), .methodLink RX5 87 yX5_requireNode, .instanceMethod yX5_requireNode, .selects RX5 yX5_requireNode yX5_requireNode, .code yX5_requireNode cX5_requireNode 2 none, .classLink RX5 91 "java/lang/IndexOutOfBoundsException", .initialized "java/lang/IndexOutOfBoundsException", .fieldLink RX5 12 "Satellitering" "sky" "LSatellitering$Sky;", .methodLink RX5 54 yX5_inRange, .static yX5_inRange, .code yX5_inRange cX5_inRange 3 (some .boolean), .methodLink RX5 189 yX5_messagesAt, .instanceMethod yX5_messagesAt, .selects RX5 yX5_messagesAt yX5_messagesAt, .code yX5_messagesAt cX5_messagesAt 4 (some .int), .fieldLink RX5 48 "Satellitering" "sentCount" "I", .fieldLink RX5 37 "Satellitering" "sent" "[LSatellitering$Message;"] ++ wsX50 ++ wsX20 ++ wsX00 ++ (vx_atS RX5 95 "java/lang/IndexOutOfBoundsException" ["java/lang/RuntimeException", "java/lang/Exception"]).filter goodWord)
def wsL_relayOf : List Cond := .codeWith yL_relayOf cL_relayOf 3 (some .int) [(0, 5, 6, 27)] :: ([.classLink RL 27 "java/lang/IndexOutOfBoundsException", .methodLink RL 81 yX5_relayOf, .instanceMethod yX5_relayOf, .selects RX5 yX5_relayOf yX5_relayOf, .initialized RX5, .code yX5_relayOf cX5_relayOf 2 (some .int), .methodLink RX5 134 yX5_requireStation, .instanceMethod yX5_requireStation, .selects RX5 yX5_requireStation yX5_requireStation, .code yX5_requireStation cX5_requireStation 3 (some (.object "Satellitering$Station")), .classLink RX5 91 "java/lang/IndexOutOfBoundsException", .initialized "java/lang/IndexOutOfBoundsException", .fieldLink RX5 27 "Satellitering" "stations" "[LSatellitering$Station;", .methodLink RX5 87 yX5_requireNode, .instanceMethod yX5_requireNode, .selects RX5 yX5_requireNode yX5_requireNode, .code yX5_requireNode cX5_requireNode 2 none, .fieldLink RX5 12 "Satellitering" "sky" "LSatellitering$Sky;", .methodLink RX5 54 yX5_inRange, .static yX5_inRange, .code yX5_inRange cX5_inRange 3 (some .boolean)] ++ wsX30 ++ wsX50 ++ wsX20 ++ (vx_atS RX5 95 "java/lang/IndexOutOfBoundsException" ["java/lang/RuntimeException", "java/lang/Exception"]).filter goodWord)
def wsL_handovers : List Cond := .codeWith yL_handovers cL_handovers 3 (some .int) [(0, 5, 6, 27)] :: ([.classLink RL 27 "java/lang/IndexOutOfBoundsException", .methodLink RL 84 yX5_handovers, .instanceMethod yX5_handovers, .selects RX5 yX5_handovers yX5_handovers, .initialized RX5, .code yX5_handovers cX5_handovers 2 (some .int), .methodLink RX5 134 yX5_requireStation, .instanceMethod yX5_requireStation, .selects RX5 yX5_requireStation yX5_requireStation, .code yX5_requireStation cX5_requireStation 3 (some (.object "Satellitering$Station")), .classLink RX5 91 "java/lang/IndexOutOfBoundsException", .initialized "java/lang/IndexOutOfBoundsException", .fieldLink RX5 27 "Satellitering" "stations" "[LSatellitering$Station;", .methodLink RX5 87 yX5_requireNode, .instanceMethod yX5_requireNode, .selects RX5 yX5_requireNode yX5_requireNode, .code yX5_requireNode cX5_requireNode 2 none, .fieldLink RX5 12 "Satellitering" "sky" "LSatellitering$Sky;", .methodLink RX5 54 yX5_inRange, .static yX5_inRange, .code yX5_inRange cX5_inRange 3 (some .boolean)] ++ wsX30 ++ wsX50 ++ wsX20 ++ (vx_atS RX5 95 "java/lang/IndexOutOfBoundsException" ["java/lang/RuntimeException", "java/lang/Exception"]).filter goodWord)
def wsL_meets_r1 : List Cond := [Cond.methodLink RL 87 yL_view, Cond.static yL_view, Cond.initialized RL, Cond.codeWith yL_view cL_view 5 (some .int) [(0, 7, 8, 27), (0, 7, 13, 15)], Cond.classLink RL 27 "java/lang/IndexOutOfBoundsException", Cond.classLink RL 15 "java/lang/IllegalArgumentException", Cond.methodLink RL 40 yX5_view, Cond.instanceMethod yX5_view, Cond.selects RX5 yX5_view yX5_view, Cond.initialized RX5, Cond.code yX5_view cX5_view 4 (some .int), Cond.fieldLink RX5 12 "Satellitering" "sky" "LSatellitering$Sky;", Cond.methodLink RX5 106 yX5_requireTwoNodesAndMinute, Cond.instanceMethod yX5_requireTwoNodesAndMinute, Cond.selects RX5 yX5_requireTwoNodesAndMinute yX5_requireTwoNodesAndMinute, Cond.code yX5_requireTwoNodesAndMinute cX5_requireTwoNodesAndMinute 4 none, Cond.methodLink RX5 87 yX5_requireNode, Cond.instanceMethod yX5_requireNode, Cond.selects RX5 yX5_requireNode yX5_requireNode, Cond.code yX5_requireNode cX5_requireNode 2 none, Cond.classLink RX5 91 "java/lang/IndexOutOfBoundsException", Cond.initialized "java/lang/IndexOutOfBoundsException", Cond.methodLink RX5 54 yX5_inRange, Cond.static yX5_inRange]
def wsL_meets_r2 : List Cond := [Cond.code yX5_inRange cX5_inRange 3 (some .boolean), Cond.methodLink RX5 99 yX5_requireMinute, Cond.static yX5_requireMinute, Cond.code yX5_requireMinute cX5_requireMinute 1 none, Cond.constant RX5 147 (1000000), Cond.methodLink RX5 58 yX5_requireArgument, Cond.static yX5_requireArgument, Cond.code yX5_requireArgument cX5_requireArgument 1 none, Cond.classLink RX5 214 "java/lang/IllegalArgumentException", Cond.initialized "java/lang/IllegalArgumentException", Cond.methodLink RX5 116 yX2_contactLength, Cond.instanceMethod yX2_contactLength, Cond.selects RX2 yX2_contactLength yX2_contactLength, Cond.initialized RX2, Cond.code yX2_contactLength cX2_contactLength 5 (some .int), Cond.methodLink RX2 59 yX2_inContact, Cond.instanceMethod yX2_inContact, Cond.selects RX2 yX2_inContact yX2_inContact, Cond.code yX2_inContact cX2_inContact 4 (some .boolean), Cond.methodLink RX2 56 yX2_seenFrom, Cond.instanceMethod yX2_seenFrom, Cond.selects RX2 yX2_seenFrom yX2_seenFrom, Cond.code yX2_seenFrom cX2_seenFrom 3 (some .int), Cond.fieldLink RX2 23 "Satellitering$Sky" "seen" "[[I"]
def wsL_meets_r3 : List Cond := [Cond.methodLink RL 92 yL_contact, Cond.static yL_contact, Cond.codeWith yL_contact cL_contact 5 (some .int) [(0, 7, 8, 27), (0, 7, 13, 15)], Cond.methodLink RL 36 yX5_nextContact, Cond.instanceMethod yX5_nextContact, Cond.selects RX5 yX5_nextContact yX5_nextContact, Cond.code yX5_nextContact cX5_nextContact 4 (some .int), Cond.methodLink RX5 113 yX2_firstContact, Cond.instanceMethod yX2_firstContact, Cond.selects RX2 yX2_firstContact yX2_firstContact, Cond.code yX2_firstContact cX2_firstContact 5 (some .int), Cond.methodLink RL 95 yL_see, Cond.static yL_see, Cond.codeWith yL_see cL_see 5 (some .int) [(0, 15, 16, 27), (0, 15, 21, 15)], Cond.methodLink RL 32 yX5_see, Cond.instanceMethod yX5_see, Cond.selects RX5 yX5_see yX5_see, Cond.code yX5_see cX5_see 4 (some .boolean), Cond.methodLink RX5 110 yX2_inContact, Cond.methodLink RL 97 yL_arrival, Cond.static yL_arrival, Cond.codeWith yL_arrival cL_arrival 5 (some .int) [(0, 7, 8, 27), (0, 7, 13, 15)], Cond.methodLink RL 43 yX5_arrival, Cond.instanceMethod yX5_arrival]
def wsL_meets_r4 : List Cond := [Cond.selects RX5 yX5_arrival yX5_arrival, Cond.code yX5_arrival cX5_arrival 4 (some .int), Cond.fieldLink RX5 21 "Satellitering" "search" "LSatellitering$Search;", Cond.methodLink RX5 119 yX1_byContacts, Cond.instanceMethod yX1_byContacts, Cond.selects RX1 yX1_byContacts yX1_byContacts, Cond.initialized RX1, Cond.code yX1_byContacts cX1_byContacts 8 (some .int), Cond.fieldLink RX1 9 "Satellitering$Search" "reached" "[I", Cond.fieldLink RX1 15 "Satellitering$Search" "sky" "LSatellitering$Sky;", Cond.methodLink RX1 19 yJ7_fill_53178, Cond.static yJ7_fill_53178, Cond.initialized RJ7, Cond.code yJ7_fill_53178 cJ7_fill_53178 4 none, Cond.methodLink RX1 31 yX1_earliestReached, Cond.instanceMethod yX1_earliestReached, Cond.selects RX1 yX1_earliestReached yX1_earliestReached, Cond.code yX1_earliestReached cX1_earliestReached 6 (some .int), Cond.methodLink RX1 35 yX1_goOnFrom, Cond.instanceMethod yX1_goOnFrom, Cond.selects RX1 yX1_goOnFrom yX1_goOnFrom, Cond.code yX1_goOnFrom cX1_goOnFrom 5 none, Cond.methodLink RX1 39 yX2_firstContact, Cond.methodLink RL 99 yL_flood]
def wsL_meets_r5 : List Cond := [Cond.static yL_flood, Cond.codeWith yL_flood cL_flood 5 (some .int) [(0, 7, 8, 27), (0, 7, 13, 15)], Cond.methodLink RL 46 yX5_arrivalByFlooding, Cond.instanceMethod yX5_arrivalByFlooding, Cond.selects RX5 yX5_arrivalByFlooding yX5_arrivalByFlooding, Cond.code yX5_arrivalByFlooding cX5_arrivalByFlooding 4 (some .int), Cond.methodLink RX5 122 yX1_byFlooding, Cond.instanceMethod yX1_byFlooding, Cond.selects RX1 yX1_byFlooding yX1_byFlooding, Cond.code yX1_byFlooding cX1_byFlooding 6 (some .int), Cond.methodLink RX1 43 yX1_floodedNext, Cond.instanceMethod yX1_floodedNext, Cond.selects RX1 yX1_floodedNext yX1_floodedNext, Cond.code yX1_floodedNext cX1_floodedNext 5 (some .int), Cond.methodLink RX1 46 yX2_seenFrom]
def wsL_meets : List Cond := .code yL_meets cL_meets 9 (some .boolean) :: ((wsL_meets_r1 ++ (wsL_meets_r2 ++ (wsL_meets_r3 ++ (wsL_meets_r4 ++ wsL_meets_r5)))) ++ wsX50 ++ wsX20 ++ wsX10 ++ (vx_atS RX5 95 "java/lang/IndexOutOfBoundsException" ["java/lang/RuntimeException", "java/lang/Exception"]).filter goodWord ++ (vx_atS RX5 218 "java/lang/IllegalArgumentException" ["java/lang/RuntimeException", "java/lang/Exception"]).filter goodWord)
def wsL_carries_r1 : List Cond := [Cond.methodLink RL 102 yL_nodeOf, Cond.static yL_nodeOf, Cond.initialized RL, Cond.codeWith yL_nodeOf cL_nodeOf 3 (some .int) [(0, 5, 6, 27)], Cond.classLink RL 27 "java/lang/IndexOutOfBoundsException", Cond.methodLink RL 58 yX5_nodeOf, Cond.instanceMethod yX5_nodeOf, Cond.selects RX5 yX5_nodeOf yX5_nodeOf, Cond.initialized RX5, Cond.code yX5_nodeOf cX5_nodeOf 2 (some .int), Cond.methodLink RX5 154 yX5_requireMessage, Cond.instanceMethod yX5_requireMessage, Cond.selects RX5 yX5_requireMessage yX5_requireMessage, Cond.code yX5_requireMessage cX5_requireMessage 2 (some (.object "Satellitering$Message")), Cond.classLink RX5 91 "java/lang/IndexOutOfBoundsException", Cond.initialized "java/lang/IndexOutOfBoundsException", Cond.fieldLink RX5 48 "Satellitering" "sentCount" "I", Cond.fieldLink RX5 37 "Satellitering" "sent" "[LSatellitering$Message;", Cond.methodLink RX5 54 yX5_inRange, Cond.static yX5_inRange, Cond.code yX5_inRange cX5_inRange 3 (some .boolean), Cond.methodLink RL 105 yL_hops, Cond.static yL_hops, Cond.codeWith yL_hops cL_hops 3 (some .int) [(0, 5, 6, 27)]]
def wsL_carries_r2 : List Cond := [Cond.methodLink RL 66 yX5_hops, Cond.instanceMethod yX5_hops, Cond.selects RX5 yX5_hops yX5_hops, Cond.code yX5_hops cX5_hops 2 (some .int), Cond.methodLink RL 107 yL_arrivedAt, Cond.static yL_arrivedAt, Cond.codeWith yL_arrivedAt cL_arrivedAt 3 (some .int) [(0, 5, 6, 27), (0, 5, 10, 64)], Cond.classLink RL 64 "java/util/NoSuchElementException", Cond.methodLink RL 61 yX5_arrivedAt, Cond.instanceMethod yX5_arrivedAt, Cond.selects RX5 yX5_arrivedAt yX5_arrivedAt, Cond.code yX5_arrivedAt cX5_arrivedAt 3 (some .int), Cond.classLink RX5 165 "java/util/NoSuchElementException", Cond.initialized "java/util/NoSuchElementException", Cond.methodLink RX5 161 yX0_isAtGoal, Cond.instanceMethod yX0_isAtGoal, Cond.selects RX0 yX0_isAtGoal yX0_isAtGoal, Cond.initialized RX0, Cond.code yX0_isAtGoal cX0_isAtGoal 1 (some .boolean), Cond.fieldLink RX0 26 "Satellitering$Message" "node" "I", Cond.fieldLink RX0 29 "Satellitering$Message" "goal" "I", Cond.methodLink RL 109 yL_blocked, Cond.static yL_blocked, Cond.codeWith yL_blocked cL_blocked 3 (some .int) [(0, 5, 6, 27)]]
def wsL_carries_r3 : List Cond := [Cond.methodLink RL 75 yX5_blocked, Cond.instanceMethod yX5_blocked, Cond.selects RX5 yX5_blocked yX5_blocked, Cond.code yX5_blocked cX5_blocked 2 (some .int), Cond.methodLink RL 111 yL_hopMinute, Cond.static yL_hopMinute, Cond.codeWith yL_hopMinute cL_hopMinute 4 (some .int) [(0, 6, 7, 27)], Cond.methodLink RL 72 yX5_hopMinute, Cond.instanceMethod yX5_hopMinute, Cond.selects RX5 yX5_hopMinute yX5_hopMinute, Cond.code yX5_hopMinute cX5_hopMinute 4 (some .int), Cond.methodLink RX5 176 yX5_requireHop, Cond.static yX5_requireHop, Cond.code yX5_requireHop cX5_requireHop 2 none, Cond.methodLink RL 114 yL_hopNode, Cond.static yL_hopNode, Cond.codeWith yL_hopNode cL_hopNode 4 (some .int) [(0, 6, 7, 27)], Cond.methodLink RL 69 yX5_hopNode, Cond.instanceMethod yX5_hopNode, Cond.selects RX5 yX5_hopNode yX5_hopNode, Cond.code yX5_hopNode cX5_hopNode 4 (some .int), Cond.methodLink RL 116 yX5_now, Cond.instanceMethod yX5_now, Cond.selects RX5 yX5_now yX5_now]
def wsL_carries_r4 : List Cond := [Cond.code yX5_now cX5_now 1 (some .int), Cond.fieldLink RX5 51 "Satellitering" "now" "I", Cond.methodLink RL 95 yL_see, Cond.static yL_see, Cond.codeWith yL_see cL_see 5 (some .int) [(0, 15, 16, 27), (0, 15, 21, 15)], Cond.classLink RL 15 "java/lang/IllegalArgumentException", Cond.methodLink RL 32 yX5_see, Cond.instanceMethod yX5_see, Cond.selects RX5 yX5_see yX5_see, Cond.code yX5_see cX5_see 4 (some .boolean), Cond.fieldLink RX5 12 "Satellitering" "sky" "LSatellitering$Sky;", Cond.methodLink RX5 106 yX5_requireTwoNodesAndMinute, Cond.instanceMethod yX5_requireTwoNodesAndMinute, Cond.selects RX5 yX5_requireTwoNodesAndMinute yX5_requireTwoNodesAndMinute, Cond.code yX5_requireTwoNodesAndMinute cX5_requireTwoNodesAndMinute 4 none, Cond.methodLink RX5 87 yX5_requireNode, Cond.instanceMethod yX5_requireNode, Cond.selects RX5 yX5_requireNode yX5_requireNode, Cond.code yX5_requireNode cX5_requireNode 2 none, Cond.methodLink RX5 99 yX5_requireMinute, Cond.static yX5_requireMinute, Cond.code yX5_requireMinute cX5_requireMinute 1 none, Cond.constant RX5 147 (1000000), Cond.methodLink RX5 58 yX5_requireArgument]
def wsL_carries_r5 : List Cond := [Cond.static yX5_requireArgument, Cond.code yX5_requireArgument cX5_requireArgument 1 none, Cond.classLink RX5 214 "java/lang/IllegalArgumentException", Cond.initialized "java/lang/IllegalArgumentException", Cond.methodLink RX5 110 yX2_inContact, Cond.instanceMethod yX2_inContact, Cond.selects RX2 yX2_inContact yX2_inContact, Cond.initialized RX2, Cond.code yX2_inContact cX2_inContact 4 (some .boolean), Cond.methodLink RX2 56 yX2_seenFrom, Cond.instanceMethod yX2_seenFrom, Cond.selects RX2 yX2_seenFrom yX2_seenFrom, Cond.code yX2_seenFrom cX2_seenFrom 3 (some .int), Cond.fieldLink RX2 23 "Satellitering$Sky" "seen" "[[I", Cond.methodLink RL 120 yL_load, Cond.static yL_load, Cond.codeWith yL_load cL_load 3 (some .int) [(0, 5, 6, 27)], Cond.methodLink RL 78 yX5_load, Cond.instanceMethod yX5_load, Cond.selects RX5 yX5_load yX5_load, Cond.code yX5_load cX5_load 2 (some .int), Cond.methodLink RX5 189 yX5_messagesAt, Cond.instanceMethod yX5_messagesAt, Cond.selects RX5 yX5_messagesAt yX5_messagesAt]
def wsL_carries_r6 : List Cond := [Cond.code yX5_messagesAt cX5_messagesAt 4 (some .int)]
def wsL_carries : List Cond := .code yL_carries cL_carries 13 (some .boolean) :: ((wsL_carries_r1 ++ (wsL_carries_r2 ++ (wsL_carries_r3 ++ (wsL_carries_r4 ++ (wsL_carries_r5 ++ wsL_carries_r6))))) ++ wsX00 ++ wsX50 ++ wsX20 ++ (vx_atS RX5 95 "java/lang/IndexOutOfBoundsException" ["java/lang/RuntimeException", "java/lang/Exception"]).filter goodWord ++ (vx_atX RX5 169 "java/util/NoSuchElementException" 13 nsB "java/lang/RuntimeException" ["java/lang/Exception"]).filter goodWord ++ (vx_atS RX5 218 "java/lang/IllegalArgumentException" ["java/lang/RuntimeException", "java/lang/Exception"]).filter goodWord)
theorem dL_cell_0 : decode cL_cell 0 = .ok (.iload_n 1, 1) := by decide +kernel
theorem dL_cell_1 : decode cL_cell 1 = .ok (.aload_n 0, 1) := by decide +kernel
theorem dL_cell_2 : decode cL_cell 2 = .ok (.arraylength, 1) := by decide +kernel
theorem dL_cell_3 : decode cL_cell 3 = .ok (.if_icmp .ge 9, 3) := by decide +kernel
theorem dL_cell_6 : decode cL_cell 6 = .ok (.aload_n 0, 1) := by decide +kernel
theorem dL_cell_7 : decode cL_cell 7 = .ok (.iload_n 1, 1) := by decide +kernel
theorem dL_cell_8 : decode cL_cell 8 = .ok (.iaload, 1) := by decide +kernel
theorem dL_cell_9 : decode cL_cell 9 = .ok (.goto 15, 3) := by decide +kernel
theorem dL_cell_12 : decode cL_cell 12 = .ok (.ldc 7, 2) := by decide +kernel
theorem dL_cell_14 : decode cL_cell 14 = .ok (.iload_n 1, 1) := by decide +kernel
theorem dL_cell_15 : decode cL_cell 15 = .ok (.sipush 7919, 3) := by decide +kernel
theorem dL_cell_18 : decode cL_cell 18 = .ok (.irem, 1) := by decide +kernel
theorem dL_cell_19 : decode cL_cell 19 = .ok (.imul, 1) := by decide +kernel
theorem dL_cell_20 : decode cL_cell 20 = .ok (.sipush 4241, 3) := by decide +kernel
theorem dL_cell_23 : decode cL_cell 23 = .ok (.iadd, 1) := by decide +kernel
theorem dL_cell_24 : decode cL_cell 24 = .ok (.ldc 8, 2) := by decide +kernel
theorem dL_cell_26 : decode cL_cell 26 = .ok (.iand, 1) := by decide +kernel
theorem dL_cell_27 : decode cL_cell 27 = .ok (.ireturn, 1) := by decide +kernel
set_option maxRecDepth 20000 in
theorem ggL_addStation_X5_addStation : GoodIn wsL_addStation wsX5_addStation := goodIn_ca (goodIn_ca (goodIn_r _ [7, 8, 9, 10, 11, 12, 13, 14, 15, 16, 17, 18, 19, 20, 6, 21, 22, 23, 24, 25, 26, 27, 28, 29, 30, 31, 32, 33, 34, 35, 36, 37, 38, 39, 40, 41, 42, 43, 44, 45, 46, 47, 48, 49, 50, 51, 52, 53, 54, 55, 56, 57, 58, 59, 60, 61, 62, 63, 64, 65, 66, 67, 68, 69, 70, 71, 72, 73, 74, 75, 76, 77, 78, 79, 80, 81, 82, 83, 84, 85, 86, 87, 88, 89, 90, 91, 92, 93, 94, 95, 96, 97, 98, 99, 100, 101, 102, 103, 104, 105, 106, 107, 108, 109, 110, 111, 112, 113, 114, 115, 116, 117, 118, 119, 120, 121, 122, 123, 124] (by decide +kernel) (by decide +kernel)) (goodIn_sub (fun _ h => List.mem_cons_of_mem _ (List.mem_append_left _ (List.mem_append_right _ h))) (by decide +kernel))) (goodIn_sub (fun _ h => List.mem_cons_of_mem _ (List.mem_append_right _ h)) (by decide +kernel))
set_option maxRecDepth 20000 in
theorem gL_addStation_X5_addStation : GoodIn wsL_addStation (wsV RL 9 RX5 yX5_addStation wsX5_addStation) := goodIn_app (goodIn_of _ (by decide +kernel)) ggL_addStation_X5_addStation
theorem dL_addStation_0 : decode cL_addStation 0 = .ok (.aload_n 0, 1) := by decide +kernel
theorem dL_addStation_1 : decode cL_addStation 1 = .ok (.iload_n 1, 1) := by decide +kernel
theorem dL_addStation_2 : decode cL_addStation 2 = .ok (.invokevirtual 9, 3) := by decide +kernel
theorem dL_addStation_5 : decode cL_addStation 5 = .ok (.ireturn, 1) := by decide +kernel
theorem dL_addStation_6 : decode cL_addStation 6 = .ok (.astore_n 2, 1) := by decide +kernel
theorem dL_addStation_7 : decode cL_addStation 7 = .ok (.bipush (-102), 2) := by decide +kernel
theorem dL_addStation_9 : decode cL_addStation 9 = .ok (.ireturn, 1) := by decide +kernel
theorem dL_addStation_10 : decode cL_addStation 10 = .ok (.astore_n 2, 1) := by decide +kernel
theorem dL_addStation_11 : decode cL_addStation 11 = .ok (.bipush (-103), 2) := by decide +kernel
theorem dL_addStation_13 : decode cL_addStation 13 = .ok (.ireturn, 1) := by decide +kernel
set_option maxRecDepth 20000 in
theorem ggL_addRelay_X5_addRelay : GoodIn wsL_addRelay wsX5_addRelay := goodIn_ca (goodIn_ca (goodIn_r _ [7, 8, 9, 10, 11, 12, 13, 14, 6, 15, 16, 17, 18, 19, 20, 21, 22, 23, 24, 25, 26, 27, 28, 29, 30, 31, 32, 33, 34, 35, 36, 37, 38, 39, 40, 41, 42, 43, 44, 45, 46, 47, 48, 49, 50, 51, 52, 53, 54, 55, 56, 57, 58, 59, 60, 61, 62, 63, 64, 65, 66, 67, 68, 69, 70] (by decide +kernel) (by decide +kernel)) (goodIn_sub (fun _ h => List.mem_cons_of_mem _ (List.mem_append_left _ (List.mem_append_right _ h))) (by decide +kernel))) (goodIn_sub (fun _ h => List.mem_cons_of_mem _ (List.mem_append_right _ h)) (by decide +kernel))
set_option maxRecDepth 20000 in
theorem gL_addRelay_X5_addRelay : GoodIn wsL_addRelay (wsV RL 19 RX5 yX5_addRelay wsX5_addRelay) := goodIn_app (goodIn_of _ (by decide +kernel)) ggL_addRelay_X5_addRelay
theorem dL_addRelay_0 : decode cL_addRelay 0 = .ok (.aload_n 0, 1) := by decide +kernel
theorem dL_addRelay_1 : decode cL_addRelay 1 = .ok (.iload_n 1, 1) := by decide +kernel
theorem dL_addRelay_2 : decode cL_addRelay 2 = .ok (.iload_n 2, 1) := by decide +kernel
theorem dL_addRelay_3 : decode cL_addRelay 3 = .ok (.iload_n 3, 1) := by decide +kernel
theorem dL_addRelay_4 : decode cL_addRelay 4 = .ok (.iload 4, 2) := by decide +kernel
theorem dL_addRelay_6 : decode cL_addRelay 6 = .ok (.invokevirtual 19, 3) := by decide +kernel
theorem dL_addRelay_9 : decode cL_addRelay 9 = .ok (.ireturn, 1) := by decide +kernel
theorem dL_addRelay_10 : decode cL_addRelay 10 = .ok (.astore 5, 2) := by decide +kernel
theorem dL_addRelay_12 : decode cL_addRelay 12 = .ok (.bipush (-102), 2) := by decide +kernel
theorem dL_addRelay_14 : decode cL_addRelay 14 = .ok (.ireturn, 1) := by decide +kernel
theorem dL_addRelay_15 : decode cL_addRelay 15 = .ok (.astore 5, 2) := by decide +kernel
theorem dL_addRelay_17 : decode cL_addRelay 17 = .ok (.bipush (-103), 2) := by decide +kernel
theorem dL_addRelay_19 : decode cL_addRelay 19 = .ok (.ireturn, 1) := by decide +kernel
set_option maxRecDepth 20000 in
theorem ggL_setCapacity_X5_setCapacity : GoodIn wsL_setCapacity wsX5_setCapacity := goodIn_ca (goodIn_ca (goodIn_r _ [7, 8, 9, 10, 11, 12, 13, 14, 6, 15, 16, 17, 18, 19, 20, 21, 22, 23, 24, 25, 26, 27, 28, 29, 30, 31, 32, 33, 34, 35, 36, 37, 38] (by decide +kernel) (by decide +kernel)) (goodIn_sub (fun _ h => List.mem_cons_of_mem _ (List.mem_append_left _ (List.mem_append_right _ h))) (by decide +kernel))) (goodIn_sub (fun _ h => List.mem_cons_of_mem _ (List.mem_append_right _ h)) (by decide +kernel))
set_option maxRecDepth 20000 in
theorem gL_setCapacity_X5_setCapacity : GoodIn wsL_setCapacity (wsV RL 23 RX5 yX5_setCapacity wsX5_setCapacity) := goodIn_app (goodIn_of _ (by decide +kernel)) ggL_setCapacity_X5_setCapacity
theorem dL_setCapacity_0 : decode cL_setCapacity 0 = .ok (.aload_n 0, 1) := by decide +kernel
theorem dL_setCapacity_1 : decode cL_setCapacity 1 = .ok (.iload_n 1, 1) := by decide +kernel
theorem dL_setCapacity_2 : decode cL_setCapacity 2 = .ok (.iload_n 2, 1) := by decide +kernel
theorem dL_setCapacity_3 : decode cL_setCapacity 3 = .ok (.invokevirtual 23, 3) := by decide +kernel
theorem dL_setCapacity_6 : decode cL_setCapacity 6 = .ok (.ireturn, 1) := by decide +kernel
theorem dL_setCapacity_7 : decode cL_setCapacity 7 = .ok (.astore_n 3, 1) := by decide +kernel
theorem dL_setCapacity_8 : decode cL_setCapacity 8 = .ok (.bipush (-101), 2) := by decide +kernel
theorem dL_setCapacity_10 : decode cL_setCapacity 10 = .ok (.ireturn, 1) := by decide +kernel
theorem dL_setCapacity_11 : decode cL_setCapacity 11 = .ok (.astore_n 3, 1) := by decide +kernel
theorem dL_setCapacity_12 : decode cL_setCapacity 12 = .ok (.bipush (-102), 2) := by decide +kernel
theorem dL_setCapacity_14 : decode cL_setCapacity 14 = .ok (.ireturn, 1) := by decide +kernel
set_option maxRecDepth 20000 in
theorem ggL_placeAt_X5_placeAt : GoodIn wsL_placeAt wsX5_placeAt := goodIn_ca (goodIn_ca (goodIn_r _ [7, 8, 9, 10, 11, 6, 12, 13, 14, 15, 16, 17, 18, 19, 20, 21, 22, 23, 24, 25, 26, 27, 28, 29, 30, 31, 32, 33, 34, 35, 36, 37, 38, 39, 40, 41, 42, 43, 44, 45, 46, 47, 48, 49, 50, 51] (by decide +kernel) (by decide +kernel)) (goodIn_sub (fun _ h => List.mem_cons_of_mem _ (List.mem_append_left _ (List.mem_append_right _ h))) (by decide +kernel))) (goodIn_sub (fun _ h => List.mem_cons_of_mem _ (List.mem_append_right _ h)) (by decide +kernel))
set_option maxRecDepth 20000 in
theorem gL_placeAt_X5_placeAt : GoodIn wsL_placeAt (wsV RL 29 RX5 yX5_placeAt wsX5_placeAt) := goodIn_app (goodIn_of _ (by decide +kernel)) ggL_placeAt_X5_placeAt
theorem dL_placeAt_0 : decode cL_placeAt 0 = .ok (.aload_n 0, 1) := by decide +kernel
theorem dL_placeAt_1 : decode cL_placeAt 1 = .ok (.iload_n 1, 1) := by decide +kernel
theorem dL_placeAt_2 : decode cL_placeAt 2 = .ok (.iload_n 2, 1) := by decide +kernel
theorem dL_placeAt_3 : decode cL_placeAt 3 = .ok (.invokevirtual 29, 3) := by decide +kernel
theorem dL_placeAt_6 : decode cL_placeAt 6 = .ok (.ireturn, 1) := by decide +kernel
theorem dL_placeAt_7 : decode cL_placeAt 7 = .ok (.astore_n 3, 1) := by decide +kernel
theorem dL_placeAt_8 : decode cL_placeAt 8 = .ok (.bipush (-101), 2) := by decide +kernel
theorem dL_placeAt_10 : decode cL_placeAt 10 = .ok (.ireturn, 1) := by decide +kernel
theorem dL_placeAt_11 : decode cL_placeAt 11 = .ok (.astore_n 3, 1) := by decide +kernel
theorem dL_placeAt_12 : decode cL_placeAt 12 = .ok (.bipush (-102), 2) := by decide +kernel
theorem dL_placeAt_14 : decode cL_placeAt 14 = .ok (.ireturn, 1) := by decide +kernel
set_option maxRecDepth 20000 in
theorem ggL_see_X5_see : GoodIn wsL_see wsX5_see := goodIn_ca (goodIn_ca (goodIn_r _ [7, 8, 9, 10, 11, 6, 12, 13, 14, 15, 16, 17, 18, 19, 20, 21, 22, 23, 24, 25, 26, 27, 28, 29, 30, 31, 32, 33, 34, 35, 36, 37, 38, 39, 40, 41, 42, 43, 44, 45, 46, 47, 48, 49, 50, 51, 52, 53, 54] (by decide +kernel) (by decide +kernel)) (goodIn_sub (fun _ h => List.mem_cons_of_mem _ (List.mem_append_left _ (List.mem_append_right _ h))) (by decide +kernel))) (goodIn_sub (fun _ h => List.mem_cons_of_mem _ (List.mem_append_right _ h)) (by decide +kernel))
set_option maxRecDepth 20000 in
theorem gL_see_X5_see : GoodIn wsL_see (wsV RL 32 RX5 yX5_see wsX5_see) := goodIn_app (goodIn_of _ (by decide +kernel)) ggL_see_X5_see
theorem dL_see_0 : decode cL_see 0 = .ok (.aload_n 0, 1) := by decide +kernel
theorem dL_see_1 : decode cL_see 1 = .ok (.iload_n 1, 1) := by decide +kernel
theorem dL_see_2 : decode cL_see 2 = .ok (.iload_n 2, 1) := by decide +kernel
theorem dL_see_3 : decode cL_see 3 = .ok (.iload_n 3, 1) := by decide +kernel
theorem dL_see_4 : decode cL_see 4 = .ok (.invokevirtual 32, 3) := by decide +kernel
theorem dL_see_7 : decode cL_see 7 = .ok (.ifCond .eq 7, 3) := by decide +kernel
theorem dL_see_10 : decode cL_see 10 = .ok (.iconst 1, 1) := by decide +kernel
theorem dL_see_11 : decode cL_see 11 = .ok (.goto 4, 3) := by decide +kernel
theorem dL_see_14 : decode cL_see 14 = .ok (.iconst 0, 1) := by decide +kernel
theorem dL_see_15 : decode cL_see 15 = .ok (.ireturn, 1) := by decide +kernel
theorem dL_see_16 : decode cL_see 16 = .ok (.astore 4, 2) := by decide +kernel
theorem dL_see_18 : decode cL_see 18 = .ok (.bipush (-101), 2) := by decide +kernel
theorem dL_see_20 : decode cL_see 20 = .ok (.ireturn, 1) := by decide +kernel
theorem dL_see_21 : decode cL_see 21 = .ok (.astore 4, 2) := by decide +kernel
theorem dL_see_23 : decode cL_see 23 = .ok (.bipush (-102), 2) := by decide +kernel
theorem dL_see_25 : decode cL_see 25 = .ok (.ireturn, 1) := by decide +kernel
set_option maxRecDepth 20000 in
theorem ggL_contact_X5_nextContact : GoodIn wsL_contact wsX5_nextContact := goodIn_ca (goodIn_ca (goodIn_r _ [7, 8, 9, 10, 11, 6, 12, 13, 14, 15, 16, 17, 18, 19, 20, 21, 22, 23, 24, 25, 26, 27, 28, 29, 30, 31, 32, 33, 34, 35, 36, 37, 38, 39, 40, 41, 42, 43, 44, 45, 46, 47, 48, 49, 50, 51, 52, 53, 54, 55, 56, 57, 58] (by decide +kernel) (by decide +kernel)) (goodIn_sub (fun _ h => List.mem_cons_of_mem _ (List.mem_append_left _ (List.mem_append_right _ h))) (by decide +kernel))) (goodIn_sub (fun _ h => List.mem_cons_of_mem _ (List.mem_append_right _ h)) (by decide +kernel))
set_option maxRecDepth 20000 in
theorem gL_contact_X5_nextContact : GoodIn wsL_contact (wsV RL 36 RX5 yX5_nextContact wsX5_nextContact) := goodIn_app (goodIn_of _ (by decide +kernel)) ggL_contact_X5_nextContact
theorem dL_contact_0 : decode cL_contact 0 = .ok (.aload_n 0, 1) := by decide +kernel
theorem dL_contact_1 : decode cL_contact 1 = .ok (.iload_n 1, 1) := by decide +kernel
theorem dL_contact_2 : decode cL_contact 2 = .ok (.iload_n 2, 1) := by decide +kernel
theorem dL_contact_3 : decode cL_contact 3 = .ok (.iload_n 3, 1) := by decide +kernel
theorem dL_contact_4 : decode cL_contact 4 = .ok (.invokevirtual 36, 3) := by decide +kernel
theorem dL_contact_7 : decode cL_contact 7 = .ok (.ireturn, 1) := by decide +kernel
theorem dL_contact_8 : decode cL_contact 8 = .ok (.astore 4, 2) := by decide +kernel
theorem dL_contact_10 : decode cL_contact 10 = .ok (.bipush (-101), 2) := by decide +kernel
theorem dL_contact_12 : decode cL_contact 12 = .ok (.ireturn, 1) := by decide +kernel
theorem dL_contact_13 : decode cL_contact 13 = .ok (.astore 4, 2) := by decide +kernel
theorem dL_contact_15 : decode cL_contact 15 = .ok (.bipush (-102), 2) := by decide +kernel
theorem dL_contact_17 : decode cL_contact 17 = .ok (.ireturn, 1) := by decide +kernel
set_option maxRecDepth 20000 in
theorem ggL_view_X5_view : GoodIn wsL_view wsX5_view := goodIn_ca (goodIn_ca (goodIn_r _ [7, 8, 9, 10, 11, 6, 12, 13, 14, 15, 16, 17, 18, 19, 20, 21, 22, 23, 24, 25, 26, 27, 28, 29, 30, 31, 32, 33, 34, 35, 36, 37, 38, 39, 40, 41, 42, 43, 44, 45, 46, 47, 48, 49, 50, 51, 52, 53, 54, 55, 56, 57, 58] (by decide +kernel) (by decide +kernel)) (goodIn_sub (fun _ h => List.mem_cons_of_mem _ (List.mem_append_left _ (List.mem_append_right _ h))) (by decide +kernel))) (goodIn_sub (fun _ h => List.mem_cons_of_mem _ (List.mem_append_right _ h)) (by decide +kernel))
set_option maxRecDepth 20000 in
theorem gL_view_X5_view : GoodIn wsL_view (wsV RL 40 RX5 yX5_view wsX5_view) := goodIn_app (goodIn_of _ (by decide +kernel)) ggL_view_X5_view
theorem dL_view_0 : decode cL_view 0 = .ok (.aload_n 0, 1) := by decide +kernel
theorem dL_view_1 : decode cL_view 1 = .ok (.iload_n 1, 1) := by decide +kernel
theorem dL_view_2 : decode cL_view 2 = .ok (.iload_n 2, 1) := by decide +kernel
theorem dL_view_3 : decode cL_view 3 = .ok (.iload_n 3, 1) := by decide +kernel
theorem dL_view_4 : decode cL_view 4 = .ok (.invokevirtual 40, 3) := by decide +kernel
theorem dL_view_7 : decode cL_view 7 = .ok (.ireturn, 1) := by decide +kernel
theorem dL_view_8 : decode cL_view 8 = .ok (.astore 4, 2) := by decide +kernel
theorem dL_view_10 : decode cL_view 10 = .ok (.bipush (-101), 2) := by decide +kernel
theorem dL_view_12 : decode cL_view 12 = .ok (.ireturn, 1) := by decide +kernel
theorem dL_view_13 : decode cL_view 13 = .ok (.astore 4, 2) := by decide +kernel
theorem dL_view_15 : decode cL_view 15 = .ok (.bipush (-102), 2) := by decide +kernel
theorem dL_view_17 : decode cL_view 17 = .ok (.ireturn, 1) := by decide +kernel
set_option maxRecDepth 20000 in
theorem ggL_arrival_X5_arrival : GoodIn wsL_arrival wsX5_arrival := goodIn_ca (goodIn_ca (goodIn_r _ [7, 8, 9, 10, 11, 6, 12, 13, 14, 15, 16, 17, 18, 19, 20, 21, 22, 23, 24, 25, 26, 27, 28, 29, 30, 31, 32, 33, 34, 35, 36, 37, 38, 39, 40, 41, 42, 43, 44, 45, 46, 47, 48, 49, 50, 51, 52, 53, 54, 55, 56, 57, 58, 59, 60, 61, 62, 63, 64, 65, 66, 67, 68, 69, 70, 71, 72, 73, 74, 75, 76, 77, 78, 79, 80] (by decide +kernel) (by decide +kernel)) (goodIn_sub (fun _ h => List.mem_cons_of_mem _ (List.mem_append_left _ (List.mem_append_right _ h))) (by decide +kernel))) (goodIn_sub (fun _ h => List.mem_cons_of_mem _ (List.mem_append_right _ h)) (by decide +kernel))
set_option maxRecDepth 20000 in
theorem gL_arrival_X5_arrival : GoodIn wsL_arrival (wsV RL 43 RX5 yX5_arrival wsX5_arrival) := goodIn_app (goodIn_of _ (by decide +kernel)) ggL_arrival_X5_arrival
theorem dL_arrival_0 : decode cL_arrival 0 = .ok (.aload_n 0, 1) := by decide +kernel
theorem dL_arrival_1 : decode cL_arrival 1 = .ok (.iload_n 1, 1) := by decide +kernel
theorem dL_arrival_2 : decode cL_arrival 2 = .ok (.iload_n 2, 1) := by decide +kernel
theorem dL_arrival_3 : decode cL_arrival 3 = .ok (.iload_n 3, 1) := by decide +kernel
theorem dL_arrival_4 : decode cL_arrival 4 = .ok (.invokevirtual 43, 3) := by decide +kernel
theorem dL_arrival_7 : decode cL_arrival 7 = .ok (.ireturn, 1) := by decide +kernel
theorem dL_arrival_8 : decode cL_arrival 8 = .ok (.astore 4, 2) := by decide +kernel
theorem dL_arrival_10 : decode cL_arrival 10 = .ok (.bipush (-101), 2) := by decide +kernel
theorem dL_arrival_12 : decode cL_arrival 12 = .ok (.ireturn, 1) := by decide +kernel
theorem dL_arrival_13 : decode cL_arrival 13 = .ok (.astore 4, 2) := by decide +kernel
theorem dL_arrival_15 : decode cL_arrival 15 = .ok (.bipush (-102), 2) := by decide +kernel
theorem dL_arrival_17 : decode cL_arrival 17 = .ok (.ireturn, 1) := by decide +kernel
set_option maxRecDepth 20000 in
theorem ggL_flood_X5_arrivalByFlooding : GoodIn wsL_flood wsX5_arrivalByFlooding := goodIn_ca (goodIn_ca (goodIn_r _ [7, 8, 9, 10, 11, 6, 12, 13, 14, 15, 16, 17, 18, 19, 20, 21, 22, 23, 24, 25, 26, 27, 28, 29, 30, 31, 32, 33, 34, 35, 36, 37, 38, 39, 40, 41, 42, 43, 44, 45, 46, 47, 48, 49, 50, 51, 52, 53, 54, 55, 56, 57, 58, 59, 60, 61, 62, 63] (by decide +kernel) (by decide +kernel)) (goodIn_sub (fun _ h => List.mem_cons_of_mem _ (List.mem_append_left _ (List.mem_append_right _ h))) (by decide +kernel))) (goodIn_sub (fun _ h => List.mem_cons_of_mem _ (List.mem_append_right _ h)) (by decide +kernel))
set_option maxRecDepth 20000 in
theorem gL_flood_X5_arrivalByFlooding : GoodIn wsL_flood (wsV RL 46 RX5 yX5_arrivalByFlooding wsX5_arrivalByFlooding) := goodIn_app (goodIn_of _ (by decide +kernel)) ggL_flood_X5_arrivalByFlooding
theorem dL_flood_0 : decode cL_flood 0 = .ok (.aload_n 0, 1) := by decide +kernel
theorem dL_flood_1 : decode cL_flood 1 = .ok (.iload_n 1, 1) := by decide +kernel
theorem dL_flood_2 : decode cL_flood 2 = .ok (.iload_n 2, 1) := by decide +kernel
theorem dL_flood_3 : decode cL_flood 3 = .ok (.iload_n 3, 1) := by decide +kernel
theorem dL_flood_4 : decode cL_flood 4 = .ok (.invokevirtual 46, 3) := by decide +kernel
theorem dL_flood_7 : decode cL_flood 7 = .ok (.ireturn, 1) := by decide +kernel
theorem dL_flood_8 : decode cL_flood 8 = .ok (.astore 4, 2) := by decide +kernel
theorem dL_flood_10 : decode cL_flood 10 = .ok (.bipush (-101), 2) := by decide +kernel
theorem dL_flood_12 : decode cL_flood 12 = .ok (.ireturn, 1) := by decide +kernel
theorem dL_flood_13 : decode cL_flood 13 = .ok (.astore 4, 2) := by decide +kernel
theorem dL_flood_15 : decode cL_flood 15 = .ok (.bipush (-102), 2) := by decide +kernel
theorem dL_flood_17 : decode cL_flood 17 = .ok (.ireturn, 1) := by decide +kernel
set_option maxRecDepth 20000 in
theorem ggL_spread_X5_spread : GoodIn wsL_spread wsX5_spread := goodIn_ca (goodIn_ca (goodIn_r _ [7, 8, 9, 10, 11, 6, 12, 13, 14, 15, 16, 17, 18, 19, 20, 21, 22, 23, 24, 25, 26, 27, 28, 29, 30, 31, 32, 33, 34, 35, 36, 37, 38, 39, 40, 41, 42, 43, 44, 45, 46, 47, 48, 49, 50, 51, 52, 53, 54, 55, 56, 57, 58, 59, 60, 61, 62, 63, 64, 65, 66] (by decide +kernel) (by decide +kernel)) (goodIn_sub (fun _ h => List.mem_cons_of_mem _ (List.mem_append_left _ (List.mem_append_right _ h))) (by decide +kernel))) (goodIn_sub (fun _ h => List.mem_cons_of_mem _ (List.mem_append_right _ h)) (by decide +kernel))
set_option maxRecDepth 20000 in
theorem gL_spread_X5_spread : GoodIn wsL_spread (wsV RL 49 RX5 yX5_spread wsX5_spread) := goodIn_app (goodIn_of _ (by decide +kernel)) ggL_spread_X5_spread
theorem dL_spread_0 : decode cL_spread 0 = .ok (.aload_n 0, 1) := by decide +kernel
theorem dL_spread_1 : decode cL_spread 1 = .ok (.iload_n 1, 1) := by decide +kernel
theorem dL_spread_2 : decode cL_spread 2 = .ok (.iload_n 2, 1) := by decide +kernel
theorem dL_spread_3 : decode cL_spread 3 = .ok (.iload_n 3, 1) := by decide +kernel
theorem dL_spread_4 : decode cL_spread 4 = .ok (.invokevirtual 49, 3) := by decide +kernel
theorem dL_spread_7 : decode cL_spread 7 = .ok (.ireturn, 1) := by decide +kernel
theorem dL_spread_8 : decode cL_spread 8 = .ok (.astore 4, 2) := by decide +kernel
theorem dL_spread_10 : decode cL_spread 10 = .ok (.bipush (-101), 2) := by decide +kernel
theorem dL_spread_12 : decode cL_spread 12 = .ok (.ireturn, 1) := by decide +kernel
theorem dL_spread_13 : decode cL_spread 13 = .ok (.astore 4, 2) := by decide +kernel
theorem dL_spread_15 : decode cL_spread 15 = .ok (.bipush (-102), 2) := by decide +kernel
theorem dL_spread_17 : decode cL_spread 17 = .ok (.ireturn, 1) := by decide +kernel
set_option maxRecDepth 20000 in
theorem ggL_send_X5_send : GoodIn wsL_send wsX5_send := goodIn_ca (goodIn_ca (goodIn_ca (goodIn_r _ [8, 9, 10, 11, 12, 13, 14, 15, 16, 17, 18, 7, 19, 20, 21, 22, 23, 24, 25, 26, 27, 28, 29, 30, 31, 32, 33, 34, 35, 36, 37, 38, 39, 40, 41, 42, 43, 44, 45, 46, 47, 48, 49, 50, 51, 52, 53, 54, 55, 56, 57, 58, 59, 60, 61, 62, 63, 64, 65, 66, 67, 68, 69, 70, 71, 72, 73, 74, 75] (by decide +kernel) (by decide +kernel)) (goodIn_sub (fun _ h => List.mem_cons_of_mem _ (List.mem_append_left _ (List.mem_append_left _ (List.mem_append_right _ h)))) (by decide +kernel))) (goodIn_sub (fun _ h => List.mem_cons_of_mem _ (List.mem_append_left _ (List.mem_append_right _ h))) (by decide +kernel))) (goodIn_sub (fun _ h => List.mem_cons_of_mem _ (List.mem_append_right _ h)) (by decide +kernel))
set_option maxRecDepth 20000 in
theorem gL_send_X5_send : GoodIn wsL_send (wsV RL 52 RX5 yX5_send wsX5_send) := goodIn_app (goodIn_of _ (by decide +kernel)) ggL_send_X5_send
theorem dL_send_0 : decode cL_send 0 = .ok (.aload_n 0, 1) := by decide +kernel
theorem dL_send_1 : decode cL_send 1 = .ok (.iload_n 1, 1) := by decide +kernel
theorem dL_send_2 : decode cL_send 2 = .ok (.iload_n 2, 1) := by decide +kernel
theorem dL_send_3 : decode cL_send 3 = .ok (.invokevirtual 52, 3) := by decide +kernel
theorem dL_send_6 : decode cL_send 6 = .ok (.ireturn, 1) := by decide +kernel
theorem dL_send_7 : decode cL_send 7 = .ok (.astore_n 3, 1) := by decide +kernel
theorem dL_send_8 : decode cL_send 8 = .ok (.bipush (-101), 2) := by decide +kernel
theorem dL_send_10 : decode cL_send 10 = .ok (.ireturn, 1) := by decide +kernel
theorem dL_send_11 : decode cL_send 11 = .ok (.astore_n 3, 1) := by decide +kernel
theorem dL_send_12 : decode cL_send 12 = .ok (.bipush (-102), 2) := by decide +kernel
theorem dL_send_14 : decode cL_send 14 = .ok (.ireturn, 1) := by decide +kernel
theorem dL_send_15 : decode cL_send 15 = .ok (.astore_n 3, 1) := by decide +kernel
theorem dL_send_16 : decode cL_send 16 = .ok (.bipush (-103), 2) := by decide +kernel
theorem dL_send_18 : decode cL_send 18 = .ok (.ireturn, 1) := by decide +kernel
set_option maxRecDepth 20000 in
theorem ggL_pass_X5_pass : GoodIn wsL_pass wsX5_pass := goodIn_ca (goodIn_ca (goodIn_r _ [7, 8, 9, 10, 11, 12, 13, 6, 14, 15, 16, 17, 18, 19, 20, 21, 22, 23, 24, 25, 26, 27, 28, 29, 30, 31, 32, 33, 34, 35, 36, 37, 38, 39, 40, 41, 42, 43, 44, 45, 46, 47, 48, 49, 50, 51, 52, 53, 54, 55, 56, 57, 58, 59, 60, 61, 62, 63, 64, 65, 66, 67, 68, 69, 70, 71, 72, 73, 74, 75, 76, 77, 78, 79, 80, 81, 82, 83, 84, 85, 86, 87, 88, 89, 90, 91, 92, 93, 94, 95, 96, 97, 98, 99, 100, 101, 102, 103, 104, 105, 106, 107, 108, 109, 110, 111, 112, 113, 114, 115, 116, 117, 118, 119, 120, 121, 122, 123, 124, 125, 126, 127, 128, 129, 130, 131, 132, 133, 134, 135, 136, 137, 138, 139, 140, 141, 142, 143, 144, 145, 146, 147, 148, 149, 150, 151, 152, 153, 154, 155, 156] (by decide +kernel) (by decide +kernel)) (goodIn_sub (fun _ h => List.mem_cons_of_mem _ (List.mem_append_left _ (List.mem_append_right _ h))) (by decide +kernel))) (goodIn_sub (fun _ h => List.mem_cons_of_mem _ (List.mem_append_right _ h)) (by decide +kernel))
set_option maxRecDepth 20000 in
theorem gL_pass_X5_pass : GoodIn wsL_pass (wsV RL 55 RX5 yX5_pass wsX5_pass) := goodIn_app (goodIn_of _ (by decide +kernel)) ggL_pass_X5_pass
theorem dL_pass_0 : decode cL_pass 0 = .ok (.aload_n 0, 1) := by decide +kernel
theorem dL_pass_1 : decode cL_pass 1 = .ok (.iload_n 1, 1) := by decide +kernel
theorem dL_pass_2 : decode cL_pass 2 = .ok (.invokevirtual 55, 3) := by decide +kernel
theorem dL_pass_5 : decode cL_pass 5 = .ok (.ireturn, 1) := by decide +kernel
theorem dL_pass_6 : decode cL_pass 6 = .ok (.astore_n 2, 1) := by decide +kernel
theorem dL_pass_7 : decode cL_pass 7 = .ok (.bipush (-102), 2) := by decide +kernel
theorem dL_pass_9 : decode cL_pass 9 = .ok (.ireturn, 1) := by decide +kernel
theorem dL_pass_10 : decode cL_pass 10 = .ok (.astore_n 2, 1) := by decide +kernel
theorem dL_pass_11 : decode cL_pass 11 = .ok (.bipush (-103), 2) := by decide +kernel
theorem dL_pass_13 : decode cL_pass 13 = .ok (.ireturn, 1) := by decide +kernel
set_option maxRecDepth 20000 in
theorem ggL_nodeOf_X5_nodeOf : GoodIn wsL_nodeOf wsX5_nodeOf := goodIn_ca (goodIn_r _ [6, 7, 8, 9, 5, 10, 11, 12, 13, 14, 15, 16, 17, 18, 19, 20, 21, 22, 23, 24, 25, 26, 27, 28, 29, 30, 31, 32, 33, 34] (by decide +kernel) (by decide +kernel)) (goodIn_sub (fun _ h => List.mem_cons_of_mem _ (List.mem_append_right _ h)) (by decide +kernel))
set_option maxRecDepth 20000 in
theorem gL_nodeOf_X5_nodeOf : GoodIn wsL_nodeOf (wsV RL 58 RX5 yX5_nodeOf wsX5_nodeOf) := goodIn_app (goodIn_of _ (by decide +kernel)) ggL_nodeOf_X5_nodeOf
theorem dL_nodeOf_0 : decode cL_nodeOf 0 = .ok (.aload_n 0, 1) := by decide +kernel
theorem dL_nodeOf_1 : decode cL_nodeOf 1 = .ok (.iload_n 1, 1) := by decide +kernel
theorem dL_nodeOf_2 : decode cL_nodeOf 2 = .ok (.invokevirtual 58, 3) := by decide +kernel
theorem dL_nodeOf_5 : decode cL_nodeOf 5 = .ok (.ireturn, 1) := by decide +kernel
theorem dL_nodeOf_6 : decode cL_nodeOf 6 = .ok (.astore_n 2, 1) := by decide +kernel
theorem dL_nodeOf_7 : decode cL_nodeOf 7 = .ok (.bipush (-101), 2) := by decide +kernel
theorem dL_nodeOf_9 : decode cL_nodeOf 9 = .ok (.ireturn, 1) := by decide +kernel
set_option maxRecDepth 20000 in
theorem ggL_arrivedAt_X5_arrivedAt : GoodIn wsL_arrivedAt wsX5_arrivedAt := goodIn_ca (goodIn_ca (goodIn_r _ [7, 8, 9, 10, 11, 12, 6, 13, 14, 15, 16, 17, 18, 19, 20, 21, 22, 23, 24, 25, 26, 27, 28, 29, 30, 31, 32, 33, 34, 35, 36, 37, 38, 39, 40, 41, 42, 43, 44] (by decide +kernel) (by decide +kernel)) (goodIn_sub (fun _ h => List.mem_cons_of_mem _ (List.mem_append_left _ (List.mem_append_right _ h))) (by decide +kernel))) (goodIn_sub (fun _ h => List.mem_cons_of_mem _ (List.mem_append_right _ h)) (by decide +kernel))
set_option maxRecDepth 20000 in
theorem gL_arrivedAt_X5_arrivedAt : GoodIn wsL_arrivedAt (wsV RL 61 RX5 yX5_arrivedAt wsX5_arrivedAt) := goodIn_app (goodIn_of _ (by decide +kernel)) ggL_arrivedAt_X5_arrivedAt
theorem dL_arrivedAt_0 : decode cL_arrivedAt 0 = .ok (.aload_n 0, 1) := by decide +kernel
theorem dL_arrivedAt_1 : decode cL_arrivedAt 1 = .ok (.iload_n 1, 1) := by decide +kernel
theorem dL_arrivedAt_2 : decode cL_arrivedAt 2 = .ok (.invokevirtual 61, 3) := by decide +kernel
theorem dL_arrivedAt_5 : decode cL_arrivedAt 5 = .ok (.ireturn, 1) := by decide +kernel
theorem dL_arrivedAt_6 : decode cL_arrivedAt 6 = .ok (.astore_n 2, 1) := by decide +kernel
theorem dL_arrivedAt_7 : decode cL_arrivedAt 7 = .ok (.bipush (-101), 2) := by decide +kernel
theorem dL_arrivedAt_9 : decode cL_arrivedAt 9 = .ok (.ireturn, 1) := by decide +kernel
theorem dL_arrivedAt_10 : decode cL_arrivedAt 10 = .ok (.astore_n 2, 1) := by decide +kernel
theorem dL_arrivedAt_11 : decode cL_arrivedAt 11 = .ok (.bipush (-104), 2) := by decide +kernel
theorem dL_arrivedAt_13 : decode cL_arrivedAt 13 = .ok (.ireturn, 1) := by decide +kernel
set_option maxRecDepth 20000 in
theorem ggL_hops_X5_hops : GoodIn wsL_hops wsX5_hops := goodIn_ca (goodIn_r _ [6, 7, 8, 9, 5, 10, 11, 12, 13, 14, 15, 16, 17, 18, 19, 20, 21, 22, 23, 24, 25, 26, 27, 28, 29, 30, 31, 32, 33, 34] (by decide +kernel) (by decide +kernel)) (goodIn_sub (fun _ h => List.mem_cons_of_mem _ (List.mem_append_right _ h)) (by decide +kernel))
set_option maxRecDepth 20000 in
theorem gL_hops_X5_hops : GoodIn wsL_hops (wsV RL 66 RX5 yX5_hops wsX5_hops) := goodIn_app (goodIn_of _ (by decide +kernel)) ggL_hops_X5_hops
theorem dL_hops_0 : decode cL_hops 0 = .ok (.aload_n 0, 1) := by decide +kernel
theorem dL_hops_1 : decode cL_hops 1 = .ok (.iload_n 1, 1) := by decide +kernel
theorem dL_hops_2 : decode cL_hops 2 = .ok (.invokevirtual 66, 3) := by decide +kernel
theorem dL_hops_5 : decode cL_hops 5 = .ok (.ireturn, 1) := by decide +kernel
theorem dL_hops_6 : decode cL_hops 6 = .ok (.astore_n 2, 1) := by decide +kernel
theorem dL_hops_7 : decode cL_hops 7 = .ok (.bipush (-101), 2) := by decide +kernel
theorem dL_hops_9 : decode cL_hops 9 = .ok (.ireturn, 1) := by decide +kernel
set_option maxRecDepth 20000 in
theorem ggL_hopNode_X5_hopNode : GoodIn wsL_hopNode wsX5_hopNode := goodIn_ca (goodIn_r _ [6, 7, 8, 9, 5, 10, 11, 12, 13, 14, 15, 16, 17, 18, 19, 20, 21, 22, 23, 24, 25, 26, 27, 28, 29, 30, 31, 32, 33, 34, 35, 36, 37] (by decide +kernel) (by decide +kernel)) (goodIn_sub (fun _ h => List.mem_cons_of_mem _ (List.mem_append_right _ h)) (by decide +kernel))
set_option maxRecDepth 20000 in
theorem gL_hopNode_X5_hopNode : GoodIn wsL_hopNode (wsV RL 69 RX5 yX5_hopNode wsX5_hopNode) := goodIn_app (goodIn_of _ (by decide +kernel)) ggL_hopNode_X5_hopNode
theorem dL_hopNode_0 : decode cL_hopNode 0 = .ok (.aload_n 0, 1) := by decide +kernel
theorem dL_hopNode_1 : decode cL_hopNode 1 = .ok (.iload_n 1, 1) := by decide +kernel
theorem dL_hopNode_2 : decode cL_hopNode 2 = .ok (.iload_n 2, 1) := by decide +kernel
theorem dL_hopNode_3 : decode cL_hopNode 3 = .ok (.invokevirtual 69, 3) := by decide +kernel
theorem dL_hopNode_6 : decode cL_hopNode 6 = .ok (.ireturn, 1) := by decide +kernel
theorem dL_hopNode_7 : decode cL_hopNode 7 = .ok (.astore_n 3, 1) := by decide +kernel
theorem dL_hopNode_8 : decode cL_hopNode 8 = .ok (.bipush (-101), 2) := by decide +kernel
theorem dL_hopNode_10 : decode cL_hopNode 10 = .ok (.ireturn, 1) := by decide +kernel
set_option maxRecDepth 20000 in
theorem ggL_hopMinute_X5_hopMinute : GoodIn wsL_hopMinute wsX5_hopMinute := goodIn_ca (goodIn_r _ [6, 7, 8, 9, 5, 10, 11, 12, 13, 14, 15, 16, 17, 18, 19, 20, 21, 22, 23, 24, 25, 26, 27, 28, 29, 30, 31, 32, 33, 34, 35, 36, 37] (by decide +kernel) (by decide +kernel)) (goodIn_sub (fun _ h => List.mem_cons_of_mem _ (List.mem_append_right _ h)) (by decide +kernel))
set_option maxRecDepth 20000 in
theorem gL_hopMinute_X5_hopMinute : GoodIn wsL_hopMinute (wsV RL 72 RX5 yX5_hopMinute wsX5_hopMinute) := goodIn_app (goodIn_of _ (by decide +kernel)) ggL_hopMinute_X5_hopMinute
theorem dL_hopMinute_0 : decode cL_hopMinute 0 = .ok (.aload_n 0, 1) := by decide +kernel
theorem dL_hopMinute_1 : decode cL_hopMinute 1 = .ok (.iload_n 1, 1) := by decide +kernel
theorem dL_hopMinute_2 : decode cL_hopMinute 2 = .ok (.iload_n 2, 1) := by decide +kernel
theorem dL_hopMinute_3 : decode cL_hopMinute 3 = .ok (.invokevirtual 72, 3) := by decide +kernel
theorem dL_hopMinute_6 : decode cL_hopMinute 6 = .ok (.ireturn, 1) := by decide +kernel
theorem dL_hopMinute_7 : decode cL_hopMinute 7 = .ok (.astore_n 3, 1) := by decide +kernel
theorem dL_hopMinute_8 : decode cL_hopMinute 8 = .ok (.bipush (-101), 2) := by decide +kernel
theorem dL_hopMinute_10 : decode cL_hopMinute 10 = .ok (.ireturn, 1) := by decide +kernel
set_option maxRecDepth 20000 in
theorem ggL_blocked_X5_blocked : GoodIn wsL_blocked wsX5_blocked := goodIn_ca (goodIn_r _ [6, 7, 8, 9, 5, 10, 11, 12, 13, 14, 15, 16, 17, 18, 19, 20, 21, 22, 23, 24, 25, 26, 27, 28, 29, 30, 31, 32, 33, 34] (by decide +kernel) (by decide +kernel)) (goodIn_sub (fun _ h => List.mem_cons_of_mem _ (List.mem_append_right _ h)) (by decide +kernel))
set_option maxRecDepth 20000 in
theorem gL_blocked_X5_blocked : GoodIn wsL_blocked (wsV RL 75 RX5 yX5_blocked wsX5_blocked) := goodIn_app (goodIn_of _ (by decide +kernel)) ggL_blocked_X5_blocked
theorem dL_blocked_0 : decode cL_blocked 0 = .ok (.aload_n 0, 1) := by decide +kernel
theorem dL_blocked_1 : decode cL_blocked 1 = .ok (.iload_n 1, 1) := by decide +kernel
theorem dL_blocked_2 : decode cL_blocked 2 = .ok (.invokevirtual 75, 3) := by decide +kernel
theorem dL_blocked_5 : decode cL_blocked 5 = .ok (.ireturn, 1) := by decide +kernel
theorem dL_blocked_6 : decode cL_blocked 6 = .ok (.astore_n 2, 1) := by decide +kernel
theorem dL_blocked_7 : decode cL_blocked 7 = .ok (.bipush (-101), 2) := by decide +kernel
theorem dL_blocked_9 : decode cL_blocked 9 = .ok (.ireturn, 1) := by decide +kernel
set_option maxRecDepth 20000 in
theorem ggL_load_X5_load : GoodIn wsL_load wsX5_load := goodIn_ca (goodIn_r _ [6, 7, 8, 9, 5, 10, 11, 12, 13, 14, 15, 16, 17, 18, 19, 20, 21, 22, 23, 24, 25, 26, 27, 28, 29, 30, 31, 32, 33, 34, 35, 36, 37, 38, 39, 40, 41, 42, 43, 44] (by decide +kernel) (by decide +kernel)) (goodIn_sub (fun _ h => List.mem_cons_of_mem _ (List.mem_append_right _ h)) (by decide +kernel))
set_option maxRecDepth 20000 in
theorem gL_load_X5_load : GoodIn wsL_load (wsV RL 78 RX5 yX5_load wsX5_load) := goodIn_app (goodIn_of _ (by decide +kernel)) ggL_load_X5_load
theorem dL_load_0 : decode cL_load 0 = .ok (.aload_n 0, 1) := by decide +kernel
theorem dL_load_1 : decode cL_load 1 = .ok (.iload_n 1, 1) := by decide +kernel
theorem dL_load_2 : decode cL_load 2 = .ok (.invokevirtual 78, 3) := by decide +kernel
theorem dL_load_5 : decode cL_load 5 = .ok (.ireturn, 1) := by decide +kernel
theorem dL_load_6 : decode cL_load 6 = .ok (.astore_n 2, 1) := by decide +kernel
theorem dL_load_7 : decode cL_load 7 = .ok (.bipush (-101), 2) := by decide +kernel
theorem dL_load_9 : decode cL_load 9 = .ok (.ireturn, 1) := by decide +kernel
set_option maxRecDepth 20000 in
theorem ggL_relayOf_X5_relayOf : GoodIn wsL_relayOf wsX5_relayOf := goodIn_ca (goodIn_r _ [6, 7, 8, 9, 5, 10, 11, 12, 13, 14, 15, 16, 17, 18, 19, 20, 21, 22, 23, 24, 25, 26, 27, 28, 29, 30, 31, 32, 33, 34, 35, 36, 37, 38] (by decide +kernel) (by decide +kernel)) (goodIn_sub (fun _ h => List.mem_cons_of_mem _ (List.mem_append_right _ h)) (by decide +kernel))
set_option maxRecDepth 20000 in
theorem gL_relayOf_X5_relayOf : GoodIn wsL_relayOf (wsV RL 81 RX5 yX5_relayOf wsX5_relayOf) := goodIn_app (goodIn_of _ (by decide +kernel)) ggL_relayOf_X5_relayOf
theorem dL_relayOf_0 : decode cL_relayOf 0 = .ok (.aload_n 0, 1) := by decide +kernel
theorem dL_relayOf_1 : decode cL_relayOf 1 = .ok (.iload_n 1, 1) := by decide +kernel
theorem dL_relayOf_2 : decode cL_relayOf 2 = .ok (.invokevirtual 81, 3) := by decide +kernel
theorem dL_relayOf_5 : decode cL_relayOf 5 = .ok (.ireturn, 1) := by decide +kernel
theorem dL_relayOf_6 : decode cL_relayOf 6 = .ok (.astore_n 2, 1) := by decide +kernel
theorem dL_relayOf_7 : decode cL_relayOf 7 = .ok (.bipush (-101), 2) := by decide +kernel
theorem dL_relayOf_9 : decode cL_relayOf 9 = .ok (.ireturn, 1) := by decide +kernel
set_option maxRecDepth 20000 in
theorem ggL_handovers_X5_handovers : GoodIn wsL_handovers wsX5_handovers := goodIn_ca (goodIn_r _ [6, 7, 8, 9, 5, 10, 11, 12, 13, 14, 15, 16, 17, 18, 19, 20, 21, 22, 23, 24, 25, 26, 27, 28, 29, 30, 31, 32, 33, 34, 35, 36, 37, 38] (by decide +kernel) (by decide +kernel)) (goodIn_sub (fun _ h => List.mem_cons_of_mem _ (List.mem_append_right _ h)) (by decide +kernel))
set_option maxRecDepth 20000 in
theorem gL_handovers_X5_handovers : GoodIn wsL_handovers (wsV RL 84 RX5 yX5_handovers wsX5_handovers) := goodIn_app (goodIn_of _ (by decide +kernel)) ggL_handovers_X5_handovers
theorem dL_handovers_0 : decode cL_handovers 0 = .ok (.aload_n 0, 1) := by decide +kernel
theorem dL_handovers_1 : decode cL_handovers 1 = .ok (.iload_n 1, 1) := by decide +kernel
theorem dL_handovers_2 : decode cL_handovers 2 = .ok (.invokevirtual 84, 3) := by decide +kernel
theorem dL_handovers_5 : decode cL_handovers 5 = .ok (.ireturn, 1) := by decide +kernel
theorem dL_handovers_6 : decode cL_handovers 6 = .ok (.astore_n 2, 1) := by decide +kernel
theorem dL_handovers_7 : decode cL_handovers 7 = .ok (.bipush (-101), 2) := by decide +kernel
theorem dL_handovers_9 : decode cL_handovers 9 = .ok (.ireturn, 1) := by decide +kernel
set_option maxRecDepth 20000 in
theorem ggL_meets_L_view : GoodIn wsL_meets wsL_view := goodIn_ca (goodIn_ca (goodIn_r _ [4, 5, 6, 7, 8, 9, 10, 11, 12, 13, 14, 15, 16, 17, 18, 19, 20, 21, 22, 23, 24, 25, 26, 27, 28, 29, 30, 31, 32, 33, 34, 35, 36, 37, 38, 39, 40, 41, 42, 43, 44, 45, 46, 47, 48, 112, 113, 114, 115, 116, 117, 118, 119, 120, 121, 122, 123, 124, 125] (by decide +kernel) (by decide +kernel)) (goodIn_sub (fun _ h => List.mem_cons_of_mem _ (List.mem_append_left _ (List.mem_append_right _ h))) (by decide +kernel))) (goodIn_sub (fun _ h => List.mem_cons_of_mem _ (List.mem_append_right _ h)) (by decide +kernel))
set_option maxRecDepth 20000 in
theorem gL_meets_L_view : GoodIn wsL_meets (va_wsS RL 87 yL_view wsL_view) := goodIn_app (goodIn_of _ (by decide +kernel)) ggL_meets_L_view
set_option maxRecDepth 20000 in
theorem ggL_meets_L_contact : GoodIn wsL_meets wsL_contact := goodIn_ca (goodIn_ca (goodIn_r _ [51, 5, 6, 52, 53, 54, 10, 55, 12, 13, 14, 15, 16, 17, 18, 19, 20, 21, 22, 23, 24, 25, 26, 27, 28, 29, 30, 31, 32, 33, 34, 56, 57, 58, 38, 59, 40, 41, 42, 43, 44, 45, 46, 47, 48, 112, 113, 114, 115, 116, 117, 118, 119, 120, 121, 122, 123, 124, 125] (by decide +kernel) (by decide +kernel)) (goodIn_sub (fun _ h => List.mem_cons_of_mem _ (List.mem_append_left _ (List.mem_append_right _ h))) (by decide +kernel))) (goodIn_sub (fun _ h => List.mem_cons_of_mem _ (List.mem_append_right _ h)) (by decide +kernel))
set_option maxRecDepth 20000 in
theorem gL_meets_L_contact : GoodIn wsL_meets (va_wsS RL 92 yL_contact wsL_contact) := goodIn_app (goodIn_of _ (by decide +kernel)) ggL_meets_L_contact
set_option maxRecDepth 20000 in
theorem ggL_meets_L_see : GoodIn wsL_meets wsL_see := goodIn_ca (goodIn_ca (goodIn_r _ [62, 5, 6, 63, 64, 65, 10, 66, 12, 13, 14, 15, 16, 17, 18, 19, 20, 21, 22, 23, 24, 25, 26, 27, 28, 29, 30, 31, 32, 33, 34, 67, 41, 42, 38, 43, 44, 45, 46, 47, 48, 112, 113, 114, 115, 116, 117, 118, 119, 120, 121, 122, 123, 124, 125] (by decide +kernel) (by decide +kernel)) (goodIn_sub (fun _ h => List.mem_cons_of_mem _ (List.mem_append_left _ (List.mem_append_right _ h))) (by decide +kernel))) (goodIn_sub (fun _ h => List.mem_cons_of_mem _ (List.mem_append_right _ h)) (by decide +kernel))
set_option maxRecDepth 20000 in
theorem gL_meets_L_see : GoodIn wsL_meets (va_wsS RL 95 yL_see wsL_see) := goodIn_app (goodIn_of _ (by decide +kernel)) ggL_meets_L_see
set_option maxRecDepth 20000 in
theorem ggL_meets_L_arrival : GoodIn wsL_meets wsL_arrival := goodIn_ca (goodIn_ca (goodIn_r _ [70, 5, 6, 71, 72, 73, 10, 74, 75, 13, 14, 15, 16, 17, 18, 19, 20, 21, 22, 12, 23, 24, 25, 26, 27, 28, 29, 30, 31, 32, 33, 34, 76, 77, 78, 79, 80, 81, 82, 83, 84, 85, 86, 87, 88, 89, 90, 91, 92, 93, 94, 95, 57, 58, 38, 59, 40, 41, 42, 43, 44, 45, 46, 47, 48, 112, 113, 114, 115, 116, 117, 118, 119, 120, 121, 122, 123, 124, 125, 126, 127] (by decide +kernel) (by decide +kernel)) (goodIn_sub (fun _ h => List.mem_cons_of_mem _ (List.mem_append_left _ (List.mem_append_right _ h))) (by decide +kernel))) (goodIn_sub (fun _ h => List.mem_cons_of_mem _ (List.mem_append_right _ h)) (by decide +kernel))
set_option maxRecDepth 20000 in
theorem gL_meets_L_arrival : GoodIn wsL_meets (va_wsS RL 97 yL_arrival wsL_arrival) := goodIn_app (goodIn_of _ (by decide +kernel)) ggL_meets_L_arrival
set_option maxRecDepth 20000 in
theorem ggL_meets_L_flood : GoodIn wsL_meets wsL_flood := goodIn_ca (goodIn_ca (goodIn_r _ [98, 5, 6, 99, 100, 101, 10, 102, 75, 13, 14, 15, 16, 17, 18, 19, 20, 21, 22, 12, 23, 24, 25, 26, 27, 28, 29, 30, 31, 32, 33, 34, 103, 104, 105, 79, 106, 107, 108, 109, 110, 82, 111, 45, 46, 38, 47, 48, 112, 113, 114, 115, 116, 117, 118, 119, 120, 121, 122, 123, 124, 125, 126, 127] (by decide +kernel) (by decide +kernel)) (goodIn_sub (fun _ h => List.mem_cons_of_mem _ (List.mem_append_left _ (List.mem_append_right _ h))) (by decide +kernel))) (goodIn_sub (fun _ h => List.mem_cons_of_mem _ (List.mem_append_right _ h)) (by decide +kernel))
set_option maxRecDepth 20000 in
theorem gL_meets_L_flood : GoodIn wsL_meets (va_wsS RL 99 yL_flood wsL_flood) := goodIn_app (goodIn_of _ (by decide +kernel)) ggL_meets_L_flood
theorem dL_meets_0 : decode cL_meets 0 = .ok (.aload_n 0, 1) := by decide +kernel
theorem dL_meets_1 : decode cL_meets 1 = .ok (.iload_n 1, 1) := by decide +kernel
theorem dL_meets_2 : decode cL_meets 2 = .ok (.iload_n 2, 1) := by decide +kernel
theorem dL_meets_3 : decode cL_meets 3 = .ok (.iload_n 3, 1) := by decide +kernel
theorem dL_meets_4 : decode cL_meets 4 = .ok (.invokestatic 87, 3) := by decide +kernel
theorem dL_meets_7 : decode cL_meets 7 = .ok (.istore 4, 2) := by decide +kernel
theorem dL_meets_9 : decode cL_meets 9 = .ok (.aload_n 0, 1) := by decide +kernel
theorem dL_meets_10 : decode cL_meets 10 = .ok (.iload_n 1, 1) := by decide +kernel
theorem dL_meets_11 : decode cL_meets 11 = .ok (.iload_n 2, 1) := by decide +kernel
theorem dL_meets_12 : decode cL_meets 12 = .ok (.iload_n 3, 1) := by decide +kernel
theorem dL_meets_13 : decode cL_meets 13 = .ok (.invokestatic 92, 3) := by decide +kernel
theorem dL_meets_16 : decode cL_meets 16 = .ok (.istore 5, 2) := by decide +kernel
theorem dL_meets_18 : decode cL_meets 18 = .ok (.aload_n 0, 1) := by decide +kernel
theorem dL_meets_19 : decode cL_meets 19 = .ok (.iload_n 1, 1) := by decide +kernel
theorem dL_meets_20 : decode cL_meets 20 = .ok (.iload_n 2, 1) := by decide +kernel
theorem dL_meets_21 : decode cL_meets 21 = .ok (.iload_n 3, 1) := by decide +kernel
theorem dL_meets_22 : decode cL_meets 22 = .ok (.invokestatic 95, 3) := by decide +kernel
theorem dL_meets_25 : decode cL_meets 25 = .ok (.aload_n 0, 1) := by decide +kernel
theorem dL_meets_26 : decode cL_meets 26 = .ok (.iload_n 2, 1) := by decide +kernel
theorem dL_meets_27 : decode cL_meets 27 = .ok (.iload_n 1, 1) := by decide +kernel
theorem dL_meets_28 : decode cL_meets 28 = .ok (.iload_n 3, 1) := by decide +kernel
theorem dL_meets_29 : decode cL_meets 29 = .ok (.invokestatic 95, 3) := by decide +kernel
theorem dL_meets_32 : decode cL_meets 32 = .ok (.if_icmp .ne 77, 3) := by decide +kernel
theorem dL_meets_35 : decode cL_meets 35 = .ok (.aload_n 0, 1) := by decide +kernel
theorem dL_meets_36 : decode cL_meets 36 = .ok (.iload_n 1, 1) := by decide +kernel
theorem dL_meets_37 : decode cL_meets 37 = .ok (.iload_n 2, 1) := by decide +kernel
theorem dL_meets_38 : decode cL_meets 38 = .ok (.iload_n 3, 1) := by decide +kernel
theorem dL_meets_39 : decode cL_meets 39 = .ok (.invokestatic 95, 3) := by decide +kernel
theorem dL_meets_42 : decode cL_meets 42 = .ok (.aload_n 0, 1) := by decide +kernel
theorem dL_meets_43 : decode cL_meets 43 = .ok (.iload_n 1, 1) := by decide +kernel
theorem dL_meets_44 : decode cL_meets 44 = .ok (.iload_n 2, 1) := by decide +kernel
theorem dL_meets_45 : decode cL_meets 45 = .ok (.iload_n 3, 1) := by decide +kernel
theorem dL_meets_46 : decode cL_meets 46 = .ok (.sipush 360, 3) := by decide +kernel
theorem dL_meets_49 : decode cL_meets 49 = .ok (.iadd, 1) := by decide +kernel
theorem dL_meets_50 : decode cL_meets 50 = .ok (.invokestatic 95, 3) := by decide +kernel
theorem dL_meets_53 : decode cL_meets 53 = .ok (.if_icmp .ne 56, 3) := by decide +kernel
theorem dL_meets_56 : decode cL_meets 56 = .ok (.aload_n 0, 1) := by decide +kernel
theorem dL_meets_57 : decode cL_meets 57 = .ok (.iload_n 1, 1) := by decide +kernel
theorem dL_meets_58 : decode cL_meets 58 = .ok (.iload_n 2, 1) := by decide +kernel
theorem dL_meets_59 : decode cL_meets 59 = .ok (.iload_n 3, 1) := by decide +kernel
theorem dL_meets_60 : decode cL_meets 60 = .ok (.invokestatic 95, 3) := by decide +kernel
theorem dL_meets_63 : decode cL_meets 63 = .ok (.iconst 1, 1) := by decide +kernel
theorem dL_meets_64 : decode cL_meets 64 = .ok (.if_icmp .ne 7, 3) := by decide +kernel
theorem dL_meets_67 : decode cL_meets 67 = .ok (.iconst 1, 1) := by decide +kernel
theorem dL_meets_68 : decode cL_meets 68 = .ok (.goto 4, 3) := by decide +kernel
theorem dL_meets_71 : decode cL_meets 71 = .ok (.iconst 0, 1) := by decide +kernel
theorem dL_meets_72 : decode cL_meets 72 = .ok (.iload 4, 2) := by decide +kernel
theorem dL_meets_74 : decode cL_meets 74 = .ok (.ifCond .le 7, 3) := by decide +kernel
theorem dL_meets_77 : decode cL_meets 77 = .ok (.iconst 1, 1) := by decide +kernel
theorem dL_meets_78 : decode cL_meets 78 = .ok (.goto 4, 3) := by decide +kernel
theorem dL_meets_81 : decode cL_meets 81 = .ok (.iconst 0, 1) := by decide +kernel
theorem dL_meets_82 : decode cL_meets 82 = .ok (.if_icmp .ne 27, 3) := by decide +kernel
theorem dL_meets_85 : decode cL_meets 85 = .ok (.iload 4, 2) := by decide +kernel
theorem dL_meets_87 : decode cL_meets 87 = .ok (.aload_n 0, 1) := by decide +kernel
theorem dL_meets_88 : decode cL_meets 88 = .ok (.iload_n 2, 1) := by decide +kernel
theorem dL_meets_89 : decode cL_meets 89 = .ok (.iload_n 1, 1) := by decide +kernel
theorem dL_meets_90 : decode cL_meets 90 = .ok (.iload_n 3, 1) := by decide +kernel
theorem dL_meets_91 : decode cL_meets 91 = .ok (.invokestatic 87, 3) := by decide +kernel
theorem dL_meets_94 : decode cL_meets 94 = .ok (.if_icmp .ne 15, 3) := by decide +kernel
theorem dL_meets_97 : decode cL_meets 97 = .ok (.iload 4, 2) := by decide +kernel
theorem dL_meets_99 : decode cL_meets 99 = .ok (.sipush 360, 3) := by decide +kernel
theorem dL_meets_102 : decode cL_meets 102 = .ok (.if_icmp .gt 7, 3) := by decide +kernel
theorem dL_meets_105 : decode cL_meets 105 = .ok (.iconst 1, 1) := by decide +kernel
theorem dL_meets_106 : decode cL_meets 106 = .ok (.goto 4, 3) := by decide +kernel
theorem dL_meets_109 : decode cL_meets 109 = .ok (.iconst 0, 1) := by decide +kernel
theorem dL_meets_110 : decode cL_meets 110 = .ok (.istore 6, 2) := by decide +kernel
theorem dL_meets_112 : decode cL_meets 112 = .ok (.iload 6, 2) := by decide +kernel
theorem dL_meets_114 : decode cL_meets 114 = .ok (.ifCond .eq 104, 3) := by decide +kernel
theorem dL_meets_117 : decode cL_meets 117 = .ok (.iload 4, 2) := by decide +kernel
theorem dL_meets_119 : decode cL_meets 119 = .ok (.ifCond .eq 9, 3) := by decide +kernel
theorem dL_meets_122 : decode cL_meets 122 = .ok (.iload 5, 2) := by decide +kernel
theorem dL_meets_124 : decode cL_meets 124 = .ok (.iload_n 3, 1) := by decide +kernel
theorem dL_meets_125 : decode cL_meets 125 = .ok (.if_icmp .ne 93, 3) := by decide +kernel
theorem dL_meets_128 : decode cL_meets 128 = .ok (.iload 5, 2) := by decide +kernel
theorem dL_meets_130 : decode cL_meets 130 = .ok (.ifCond .ge 24, 3) := by decide +kernel
theorem dL_meets_133 : decode cL_meets 133 = .ok (.iload 4, 2) := by decide +kernel
theorem dL_meets_135 : decode cL_meets 135 = .ok (.ifCond .ne 83, 3) := by decide +kernel
theorem dL_meets_138 : decode cL_meets 138 = .ok (.aload_n 0, 1) := by decide +kernel
theorem dL_meets_139 : decode cL_meets 139 = .ok (.iload_n 1, 1) := by decide +kernel
theorem dL_meets_140 : decode cL_meets 140 = .ok (.iload_n 2, 1) := by decide +kernel
theorem dL_meets_141 : decode cL_meets 141 = .ok (.iload_n 3, 1) := by decide +kernel
theorem dL_meets_142 : decode cL_meets 142 = .ok (.bipush 77, 2) := by decide +kernel
theorem dL_meets_144 : decode cL_meets 144 = .ok (.iadd, 1) := by decide +kernel
theorem dL_meets_145 : decode cL_meets 145 = .ok (.invokestatic 95, 3) := by decide +kernel
theorem dL_meets_148 : decode cL_meets 148 = .ok (.ifCond .ne 70, 3) := by decide +kernel
theorem dL_meets_151 : decode cL_meets 151 = .ok (.goto 63, 3) := by decide +kernel
theorem dL_meets_154 : decode cL_meets 154 = .ok (.iload 5, 2) := by decide +kernel
theorem dL_meets_156 : decode cL_meets 156 = .ok (.iload_n 3, 1) := by decide +kernel
theorem dL_meets_157 : decode cL_meets 157 = .ok (.if_icmp .lt 61, 3) := by decide +kernel
theorem dL_meets_160 : decode cL_meets 160 = .ok (.iload 5, 2) := by decide +kernel
theorem dL_meets_162 : decode cL_meets 162 = .ok (.iload_n 3, 1) := by decide +kernel
theorem dL_meets_163 : decode cL_meets 163 = .ok (.sipush 360, 3) := by decide +kernel
theorem dL_meets_166 : decode cL_meets 166 = .ok (.iadd, 1) := by decide +kernel
theorem dL_meets_167 : decode cL_meets 167 = .ok (.if_icmp .ge 51, 3) := by decide +kernel
theorem dL_meets_170 : decode cL_meets 170 = .ok (.aload_n 0, 1) := by decide +kernel
theorem dL_meets_171 : decode cL_meets 171 = .ok (.iload_n 1, 1) := by decide +kernel
theorem dL_meets_172 : decode cL_meets 172 = .ok (.iload_n 2, 1) := by decide +kernel
theorem dL_meets_173 : decode cL_meets 173 = .ok (.iload 5, 2) := by decide +kernel
theorem dL_meets_175 : decode cL_meets 175 = .ok (.invokestatic 95, 3) := by decide +kernel
theorem dL_meets_178 : decode cL_meets 178 = .ok (.iconst 1, 1) := by decide +kernel
theorem dL_meets_179 : decode cL_meets 179 = .ok (.if_icmp .ne 39, 3) := by decide +kernel
theorem dL_meets_182 : decode cL_meets 182 = .ok (.iload 5, 2) := by decide +kernel
theorem dL_meets_184 : decode cL_meets 184 = .ok (.iload_n 3, 1) := by decide +kernel
theorem dL_meets_185 : decode cL_meets 185 = .ok (.if_icmp .eq 29, 3) := by decide +kernel
theorem dL_meets_188 : decode cL_meets 188 = .ok (.aload_n 0, 1) := by decide +kernel
theorem dL_meets_189 : decode cL_meets 189 = .ok (.iload_n 1, 1) := by decide +kernel
theorem dL_meets_190 : decode cL_meets 190 = .ok (.iload_n 2, 1) := by decide +kernel
theorem dL_meets_191 : decode cL_meets 191 = .ok (.iload 5, 2) := by decide +kernel
theorem dL_meets_193 : decode cL_meets 193 = .ok (.iconst 1, 1) := by decide +kernel
theorem dL_meets_194 : decode cL_meets 194 = .ok (.isub, 1) := by decide +kernel
theorem dL_meets_195 : decode cL_meets 195 = .ok (.invokestatic 95, 3) := by decide +kernel
theorem dL_meets_198 : decode cL_meets 198 = .ok (.ifCond .ne 20, 3) := by decide +kernel
theorem dL_meets_201 : decode cL_meets 201 = .ok (.aload_n 0, 1) := by decide +kernel
theorem dL_meets_202 : decode cL_meets 202 = .ok (.iload_n 1, 1) := by decide +kernel
theorem dL_meets_203 : decode cL_meets 203 = .ok (.iload_n 2, 1) := by decide +kernel
theorem dL_meets_204 : decode cL_meets 204 = .ok (.iload 5, 2) := by decide +kernel
theorem dL_meets_206 : decode cL_meets 206 = .ok (.invokestatic 92, 3) := by decide +kernel
theorem dL_meets_209 : decode cL_meets 209 = .ok (.iload 5, 2) := by decide +kernel
theorem dL_meets_211 : decode cL_meets 211 = .ok (.if_icmp .ne 7, 3) := by decide +kernel
theorem dL_meets_214 : decode cL_meets 214 = .ok (.iconst 1, 1) := by decide +kernel
theorem dL_meets_215 : decode cL_meets 215 = .ok (.goto 4, 3) := by decide +kernel
theorem dL_meets_218 : decode cL_meets 218 = .ok (.iconst 0, 1) := by decide +kernel
theorem dL_meets_219 : decode cL_meets 219 = .ok (.istore 6, 2) := by decide +kernel
theorem dL_meets_221 : decode cL_meets 221 = .ok (.iload 6, 2) := by decide +kernel
theorem dL_meets_223 : decode cL_meets 223 = .ok (.ifCond .eq 49, 3) := by decide +kernel
theorem dL_meets_226 : decode cL_meets 226 = .ok (.iload 4, 2) := by decide +kernel
theorem dL_meets_228 : decode cL_meets 228 = .ok (.ifCond .eq 40, 3) := by decide +kernel
theorem dL_meets_231 : decode cL_meets 231 = .ok (.iload 4, 2) := by decide +kernel
theorem dL_meets_233 : decode cL_meets 233 = .ok (.sipush 360, 3) := by decide +kernel
theorem dL_meets_236 : decode cL_meets 236 = .ok (.if_icmp .eq 32, 3) := by decide +kernel
theorem dL_meets_239 : decode cL_meets 239 = .ok (.aload_n 0, 1) := by decide +kernel
theorem dL_meets_240 : decode cL_meets 240 = .ok (.iload_n 1, 1) := by decide +kernel
theorem dL_meets_241 : decode cL_meets 241 = .ok (.iload_n 2, 1) := by decide +kernel
theorem dL_meets_242 : decode cL_meets 242 = .ok (.iload_n 3, 1) := by decide +kernel
theorem dL_meets_243 : decode cL_meets 243 = .ok (.iload 4, 2) := by decide +kernel
theorem dL_meets_245 : decode cL_meets 245 = .ok (.iadd, 1) := by decide +kernel
theorem dL_meets_246 : decode cL_meets 246 = .ok (.invokestatic 95, 3) := by decide +kernel
theorem dL_meets_249 : decode cL_meets 249 = .ok (.ifCond .ne 23, 3) := by decide +kernel
theorem dL_meets_252 : decode cL_meets 252 = .ok (.aload_n 0, 1) := by decide +kernel
theorem dL_meets_253 : decode cL_meets 253 = .ok (.iload_n 1, 1) := by decide +kernel
theorem dL_meets_254 : decode cL_meets 254 = .ok (.iload_n 2, 1) := by decide +kernel
theorem dL_meets_255 : decode cL_meets 255 = .ok (.iload_n 3, 1) := by decide +kernel
theorem dL_meets_256 : decode cL_meets 256 = .ok (.iload 4, 2) := by decide +kernel
theorem dL_meets_258 : decode cL_meets 258 = .ok (.iadd, 1) := by decide +kernel
theorem dL_meets_259 : decode cL_meets 259 = .ok (.iconst 1, 1) := by decide +kernel
theorem dL_meets_260 : decode cL_meets 260 = .ok (.isub, 1) := by decide +kernel
theorem dL_meets_261 : decode cL_meets 261 = .ok (.invokestatic 95, 3) := by decide +kernel
theorem dL_meets_264 : decode cL_meets 264 = .ok (.iconst 1, 1) := by decide +kernel
theorem dL_meets_265 : decode cL_meets 265 = .ok (.if_icmp .ne 7, 3) := by decide +kernel
theorem dL_meets_268 : decode cL_meets 268 = .ok (.iconst 1, 1) := by decide +kernel
theorem dL_meets_269 : decode cL_meets 269 = .ok (.goto 4, 3) := by decide +kernel
theorem dL_meets_272 : decode cL_meets 272 = .ok (.iconst 0, 1) := by decide +kernel
theorem dL_meets_273 : decode cL_meets 273 = .ok (.istore 6, 2) := by decide +kernel
theorem dL_meets_275 : decode cL_meets 275 = .ok (.aload_n 0, 1) := by decide +kernel
theorem dL_meets_276 : decode cL_meets 276 = .ok (.iload_n 1, 1) := by decide +kernel
theorem dL_meets_277 : decode cL_meets 277 = .ok (.iload_n 2, 1) := by decide +kernel
theorem dL_meets_278 : decode cL_meets 278 = .ok (.iload_n 3, 1) := by decide +kernel
theorem dL_meets_279 : decode cL_meets 279 = .ok (.invokestatic 97, 3) := by decide +kernel
theorem dL_meets_282 : decode cL_meets 282 = .ok (.istore 7, 2) := by decide +kernel
theorem dL_meets_284 : decode cL_meets 284 = .ok (.iload 6, 2) := by decide +kernel
theorem dL_meets_286 : decode cL_meets 286 = .ok (.ifCond .eq 94, 3) := by decide +kernel
theorem dL_meets_289 : decode cL_meets 289 = .ok (.iload 7, 2) := by decide +kernel
theorem dL_meets_291 : decode cL_meets 291 = .ok (.aload_n 0, 1) := by decide +kernel
theorem dL_meets_292 : decode cL_meets 292 = .ok (.iload_n 1, 1) := by decide +kernel
theorem dL_meets_293 : decode cL_meets 293 = .ok (.iload_n 2, 1) := by decide +kernel
theorem dL_meets_294 : decode cL_meets 294 = .ok (.iload_n 3, 1) := by decide +kernel
theorem dL_meets_295 : decode cL_meets 295 = .ok (.invokestatic 99, 3) := by decide +kernel
theorem dL_meets_298 : decode cL_meets 298 = .ok (.if_icmp .ne 82, 3) := by decide +kernel
theorem dL_meets_301 : decode cL_meets 301 = .ok (.iload_n 1, 1) := by decide +kernel
theorem dL_meets_302 : decode cL_meets 302 = .ok (.iload_n 2, 1) := by decide +kernel
theorem dL_meets_303 : decode cL_meets 303 = .ok (.if_icmp .ne 7, 3) := by decide +kernel
theorem dL_meets_306 : decode cL_meets 306 = .ok (.iconst 1, 1) := by decide +kernel
theorem dL_meets_307 : decode cL_meets 307 = .ok (.goto 4, 3) := by decide +kernel
theorem dL_meets_310 : decode cL_meets 310 = .ok (.iconst 0, 1) := by decide +kernel
theorem dL_meets_311 : decode cL_meets 311 = .ok (.iload 7, 2) := by decide +kernel
theorem dL_meets_313 : decode cL_meets 313 = .ok (.iload_n 3, 1) := by decide +kernel
theorem dL_meets_314 : decode cL_meets 314 = .ok (.if_icmp .ne 7, 3) := by decide +kernel
theorem dL_meets_317 : decode cL_meets 317 = .ok (.iconst 1, 1) := by decide +kernel
theorem dL_meets_318 : decode cL_meets 318 = .ok (.goto 4, 3) := by decide +kernel
theorem dL_meets_321 : decode cL_meets 321 = .ok (.iconst 0, 1) := by decide +kernel
theorem dL_meets_322 : decode cL_meets 322 = .ok (.if_icmp .ne 58, 3) := by decide +kernel
theorem dL_meets_325 : decode cL_meets 325 = .ok (.iload 7, 2) := by decide +kernel
theorem dL_meets_327 : decode cL_meets 327 = .ok (.ifCond .lt 13, 3) := by decide +kernel
theorem dL_meets_330 : decode cL_meets 330 = .ok (.iload 7, 2) := by decide +kernel
theorem dL_meets_332 : decode cL_meets 332 = .ok (.iload_n 3, 1) := by decide +kernel
theorem dL_meets_333 : decode cL_meets 333 = .ok (.sipush 400, 3) := by decide +kernel
theorem dL_meets_336 : decode cL_meets 336 = .ok (.iadd, 1) := by decide +kernel
theorem dL_meets_337 : decode cL_meets 337 = .ok (.if_icmp .gt 43, 3) := by decide +kernel
theorem dL_meets_340 : decode cL_meets 340 = .ok (.iload 5, 2) := by decide +kernel
theorem dL_meets_342 : decode cL_meets 342 = .ok (.ifCond .lt 34, 3) := by decide +kernel
theorem dL_meets_345 : decode cL_meets 345 = .ok (.iload_n 1, 1) := by decide +kernel
theorem dL_meets_346 : decode cL_meets 346 = .ok (.iload_n 2, 1) := by decide +kernel
theorem dL_meets_347 : decode cL_meets 347 = .ok (.if_icmp .eq 29, 3) := by decide +kernel
theorem dL_meets_350 : decode cL_meets 350 = .ok (.iload 7, 2) := by decide +kernel
theorem dL_meets_352 : decode cL_meets 352 = .ok (.ifCond .lt 12, 3) := by decide +kernel
theorem dL_meets_355 : decode cL_meets 355 = .ok (.iload 7, 2) := by decide +kernel
theorem dL_meets_357 : decode cL_meets 357 = .ok (.iload 5, 2) := by decide +kernel
theorem dL_meets_359 : decode cL_meets 359 = .ok (.iconst 1, 1) := by decide +kernel
theorem dL_meets_360 : decode cL_meets 360 = .ok (.iadd, 1) := by decide +kernel
theorem dL_meets_361 : decode cL_meets 361 = .ok (.if_icmp .le 15, 3) := by decide +kernel
theorem dL_meets_364 : decode cL_meets 364 = .ok (.iload 5, 2) := by decide +kernel
theorem dL_meets_366 : decode cL_meets 366 = .ok (.iconst 1, 1) := by decide +kernel
theorem dL_meets_367 : decode cL_meets 367 = .ok (.iadd, 1) := by decide +kernel
theorem dL_meets_368 : decode cL_meets 368 = .ok (.iload_n 3, 1) := by decide +kernel
theorem dL_meets_369 : decode cL_meets 369 = .ok (.sipush 400, 3) := by decide +kernel
theorem dL_meets_372 : decode cL_meets 372 = .ok (.iadd, 1) := by decide +kernel
theorem dL_meets_373 : decode cL_meets 373 = .ok (.if_icmp .le 7, 3) := by decide +kernel
theorem dL_meets_376 : decode cL_meets 376 = .ok (.iconst 1, 1) := by decide +kernel
theorem dL_meets_377 : decode cL_meets 377 = .ok (.goto 4, 3) := by decide +kernel
theorem dL_meets_380 : decode cL_meets 380 = .ok (.iconst 0, 1) := by decide +kernel
theorem dL_meets_381 : decode cL_meets 381 = .ok (.istore 6, 2) := by decide +kernel
theorem dL_meets_383 : decode cL_meets 383 = .ok (.aload_n 0, 1) := by decide +kernel
theorem dL_meets_384 : decode cL_meets 384 = .ok (.iload_n 1, 1) := by decide +kernel
theorem dL_meets_385 : decode cL_meets 385 = .ok (.iload_n 2, 1) := by decide +kernel
theorem dL_meets_386 : decode cL_meets 386 = .ok (.iload_n 3, 1) := by decide +kernel
theorem dL_meets_387 : decode cL_meets 387 = .ok (.iconst 1, 1) := by decide +kernel
theorem dL_meets_388 : decode cL_meets 388 = .ok (.iadd, 1) := by decide +kernel
theorem dL_meets_389 : decode cL_meets 389 = .ok (.invokestatic 97, 3) := by decide +kernel
theorem dL_meets_392 : decode cL_meets 392 = .ok (.istore 8, 2) := by decide +kernel
theorem dL_meets_394 : decode cL_meets 394 = .ok (.iload 6, 2) := by decide +kernel
theorem dL_meets_396 : decode cL_meets 396 = .ok (.ifCond .eq 54, 3) := by decide +kernel
theorem dL_meets_399 : decode cL_meets 399 = .ok (.iload_n 1, 1) := by decide +kernel
theorem dL_meets_400 : decode cL_meets 400 = .ok (.iload_n 2, 1) := by decide +kernel
theorem dL_meets_401 : decode cL_meets 401 = .ok (.if_icmp .eq 20, 3) := by decide +kernel
theorem dL_meets_404 : decode cL_meets 404 = .ok (.iload 7, 2) := by decide +kernel
theorem dL_meets_406 : decode cL_meets 406 = .ok (.ifCond .lt 15, 3) := by decide +kernel
theorem dL_meets_409 : decode cL_meets 409 = .ok (.iload 8, 2) := by decide +kernel
theorem dL_meets_411 : decode cL_meets 411 = .ok (.ifCond .lt 10, 3) := by decide +kernel
theorem dL_meets_414 : decode cL_meets 414 = .ok (.iload 8, 2) := by decide +kernel
theorem dL_meets_416 : decode cL_meets 416 = .ok (.iload 7, 2) := by decide +kernel
theorem dL_meets_418 : decode cL_meets 418 = .ok (.if_icmp .lt 32, 3) := by decide +kernel
theorem dL_meets_421 : decode cL_meets 421 = .ok (.iload_n 1, 1) := by decide +kernel
theorem dL_meets_422 : decode cL_meets 422 = .ok (.iload_n 2, 1) := by decide +kernel
theorem dL_meets_423 : decode cL_meets 423 = .ok (.if_icmp .eq 23, 3) := by decide +kernel
theorem dL_meets_426 : decode cL_meets 426 = .ok (.iload 8, 2) := by decide +kernel
theorem dL_meets_428 : decode cL_meets 428 = .ok (.ifCond .lt 18, 3) := by decide +kernel
theorem dL_meets_431 : decode cL_meets 431 = .ok (.iload 7, 2) := by decide +kernel
theorem dL_meets_433 : decode cL_meets 433 = .ok (.ifCond .ge 13, 3) := by decide +kernel
theorem dL_meets_436 : decode cL_meets 436 = .ok (.iload 8, 2) := by decide +kernel
theorem dL_meets_438 : decode cL_meets 438 = .ok (.iload_n 3, 1) := by decide +kernel
theorem dL_meets_439 : decode cL_meets 439 = .ok (.sipush 401, 3) := by decide +kernel
theorem dL_meets_442 : decode cL_meets 442 = .ok (.iadd, 1) := by decide +kernel
theorem dL_meets_443 : decode cL_meets 443 = .ok (.if_icmp .ne 7, 3) := by decide +kernel
theorem dL_meets_446 : decode cL_meets 446 = .ok (.iconst 1, 1) := by decide +kernel
theorem dL_meets_447 : decode cL_meets 447 = .ok (.goto 4, 3) := by decide +kernel
theorem dL_meets_450 : decode cL_meets 450 = .ok (.iconst 0, 1) := by decide +kernel
theorem dL_meets_451 : decode cL_meets 451 = .ok (.ireturn, 1) := by decide +kernel
set_option maxRecDepth 20000 in
theorem ggL_carries_L_nodeOf : GoodIn wsL_carries wsL_nodeOf := goodIn_ca (goodIn_r _ [4, 5, 6, 7, 8, 9, 10, 11, 12, 13, 14, 15, 16, 17, 18, 19, 20, 21, 122, 123, 124, 125, 126, 127, 128, 129, 130, 131, 132, 133, 134, 135, 136, 137, 138] (by decide +kernel) (by decide +kernel)) (goodIn_sub (fun _ h => List.mem_cons_of_mem _ (List.mem_append_left _ (List.mem_append_left _ (List.mem_append_right _ h)))) (by decide +kernel))
set_option maxRecDepth 20000 in
theorem gL_carries_L_nodeOf : GoodIn wsL_carries (va_wsS RL 102 yL_nodeOf wsL_nodeOf) := goodIn_app (goodIn_of _ (by decide +kernel)) ggL_carries_L_nodeOf
set_option maxRecDepth 20000 in
theorem ggL_carries_L_hops : GoodIn wsL_carries wsL_hops := goodIn_ca (goodIn_r _ [24, 5, 25, 26, 27, 9, 28, 11, 12, 13, 14, 15, 16, 17, 18, 19, 20, 21, 122, 123, 124, 125, 126, 127, 128, 129, 130, 131, 132, 133, 134, 135, 136, 137, 138] (by decide +kernel) (by decide +kernel)) (goodIn_sub (fun _ h => List.mem_cons_of_mem _ (List.mem_append_left _ (List.mem_append_left _ (List.mem_append_right _ h)))) (by decide +kernel))
set_option maxRecDepth 20000 in
theorem gL_carries_L_hops : GoodIn wsL_carries (va_wsS RL 105 yL_hops wsL_hops) := goodIn_app (goodIn_of _ (by decide +kernel)) ggL_carries_L_hops
set_option maxRecDepth 20000 in
theorem ggL_carries_L_arrivedAt : GoodIn wsL_carries wsL_arrivedAt := goodIn_ca (goodIn_ca (goodIn_r _ [31, 5, 32, 33, 34, 35, 9, 36, 37, 38, 11, 12, 13, 14, 15, 16, 17, 18, 19, 20, 21, 39, 40, 41, 42, 43, 44, 45, 122, 123, 124, 125, 126, 127, 128, 129, 130, 131, 132, 133, 134, 135, 136, 137, 138] (by decide +kernel) (by decide +kernel)) (goodIn_sub (fun _ h => List.mem_cons_of_mem _ (List.mem_append_left _ (List.mem_append_right _ h))) (by decide +kernel))) (goodIn_sub (fun _ h => List.mem_cons_of_mem _ (List.mem_append_left _ (List.mem_append_left _ (List.mem_append_right _ h)))) (by decide +kernel))
set_option maxRecDepth 20000 in
theorem gL_carries_L_arrivedAt : GoodIn wsL_carries (va_wsS RL 107 yL_arrivedAt wsL_arrivedAt) := goodIn_app (goodIn_of _ (by decide +kernel)) ggL_carries_L_arrivedAt
set_option maxRecDepth 20000 in
theorem ggL_carries_L_blocked : GoodIn wsL_carries wsL_blocked := goodIn_ca (goodIn_r _ [48, 5, 49, 50, 51, 9, 52, 11, 12, 13, 14, 15, 16, 17, 18, 19, 20, 21, 122, 123, 124, 125, 126, 127, 128, 129, 130, 131, 132, 133, 134, 135, 136, 137, 138] (by decide +kernel) (by decide +kernel)) (goodIn_sub (fun _ h => List.mem_cons_of_mem _ (List.mem_append_left _ (List.mem_append_left _ (List.mem_append_right _ h)))) (by decide +kernel))
set_option maxRecDepth 20000 in
theorem gL_carries_L_blocked : GoodIn wsL_carries (va_wsS RL 109 yL_blocked wsL_blocked) := goodIn_app (goodIn_of _ (by decide +kernel)) ggL_carries_L_blocked
set_option maxRecDepth 20000 in
theorem ggL_carries_L_hopMinute : GoodIn wsL_carries wsL_hopMinute := goodIn_ca (goodIn_r _ [55, 5, 56, 57, 58, 9, 59, 11, 12, 13, 14, 15, 16, 17, 18, 19, 20, 21, 60, 61, 62, 122, 123, 124, 125, 126, 127, 128, 129, 130, 131, 132, 133, 134, 135, 136, 137, 138] (by decide +kernel) (by decide +kernel)) (goodIn_sub (fun _ h => List.mem_cons_of_mem _ (List.mem_append_left _ (List.mem_append_left _ (List.mem_append_right _ h)))) (by decide +kernel))
set_option maxRecDepth 20000 in
theorem gL_carries_L_hopMinute : GoodIn wsL_carries (va_wsS RL 111 yL_hopMinute wsL_hopMinute) := goodIn_app (goodIn_of _ (by decide +kernel)) ggL_carries_L_hopMinute
set_option maxRecDepth 20000 in
theorem ggL_carries_L_hopNode : GoodIn wsL_carries wsL_hopNode := goodIn_ca (goodIn_r _ [65, 5, 66, 67, 68, 9, 69, 11, 12, 13, 14, 15, 16, 17, 18, 19, 20, 21, 60, 61, 62, 122, 123, 124, 125, 126, 127, 128, 129, 130, 131, 132, 133, 134, 135, 136, 137, 138] (by decide +kernel) (by decide +kernel)) (goodIn_sub (fun _ h => List.mem_cons_of_mem _ (List.mem_append_left _ (List.mem_append_left _ (List.mem_append_right _ h)))) (by decide +kernel))
set_option maxRecDepth 20000 in
theorem gL_carries_L_hopNode : GoodIn wsL_carries (va_wsS RL 114 yL_hopNode wsL_hopNode) := goodIn_app (goodIn_of _ (by decide +kernel)) ggL_carries_L_hopNode
set_option maxRecDepth 20000 in
theorem ggL_carries_X5_now : GoodIn wsL_carries wsX5_now := goodIn_r _ [73, 74, 130, 131, 132, 133, 134, 135, 136, 137, 138] (by decide +kernel) (by decide +kernel)
set_option maxRecDepth 20000 in
theorem gL_carries_X5_now : GoodIn wsL_carries (wsV RL 116 RX5 yX5_now wsX5_now) := goodIn_app (goodIn_of _ (by decide +kernel)) ggL_carries_X5_now
set_option maxRecDepth 20000 in
theorem ggL_carries_L_see : GoodIn wsL_carries wsL_see := goodIn_ca (goodIn_ca (goodIn_r _ [77, 5, 78, 79, 80, 81, 9, 82, 83, 84, 85, 86, 87, 88, 89, 90, 91, 15, 16, 19, 20, 21, 92, 93, 94, 95, 96, 97, 98, 99, 100, 101, 102, 103, 104, 105, 106, 107, 108, 109, 110, 130, 131, 132, 133, 134, 135, 136, 137, 138, 139, 140, 141, 142, 143] (by decide +kernel) (by decide +kernel)) (goodIn_sub (fun _ h => List.mem_cons_of_mem _ (List.mem_append_left _ (List.mem_append_left _ (List.mem_append_right _ h)))) (by decide +kernel))) (goodIn_sub (fun _ h => List.mem_cons_of_mem _ (List.mem_append_right _ h)) (by decide +kernel))
set_option maxRecDepth 20000 in
theorem gL_carries_L_see : GoodIn wsL_carries (va_wsS RL 95 yL_see wsL_see) := goodIn_app (goodIn_of _ (by decide +kernel)) ggL_carries_L_see
set_option maxRecDepth 20000 in
theorem ggL_carries_L_load : GoodIn wsL_carries wsL_load := goodIn_ca (goodIn_r _ [113, 5, 114, 115, 116, 9, 117, 88, 89, 90, 91, 15, 16, 83, 19, 20, 21, 118, 119, 120, 121, 17, 18, 130, 131, 132, 133, 134, 135, 136, 137, 138, 139, 140, 141, 142, 143, 122, 123, 124, 125, 126, 127, 128, 129] (by decide +kernel) (by decide +kernel)) (goodIn_sub (fun _ h => List.mem_cons_of_mem _ (List.mem_append_left _ (List.mem_append_left _ (List.mem_append_right _ h)))) (by decide +kernel))
set_option maxRecDepth 20000 in
theorem gL_carries_L_load : GoodIn wsL_carries (va_wsS RL 120 yL_load wsL_load) := goodIn_app (goodIn_of _ (by decide +kernel)) ggL_carries_L_load
theorem dL_carries_0 : decode cL_carries 0 = .ok (.aload_n 0, 1) := by decide +kernel
theorem dL_carries_1 : decode cL_carries 1 = .ok (.iload_n 1, 1) := by decide +kernel
theorem dL_carries_2 : decode cL_carries 2 = .ok (.invokestatic 102, 3) := by decide +kernel
theorem dL_carries_5 : decode cL_carries 5 = .ok (.bipush (-101), 2) := by decide +kernel
theorem dL_carries_7 : decode cL_carries 7 = .ok (.if_icmp .ne 37, 3) := by decide +kernel
theorem dL_carries_10 : decode cL_carries 10 = .ok (.aload_n 0, 1) := by decide +kernel
theorem dL_carries_11 : decode cL_carries 11 = .ok (.iconst (-1), 1) := by decide +kernel
theorem dL_carries_12 : decode cL_carries 12 = .ok (.invokestatic 105, 3) := by decide +kernel
theorem dL_carries_15 : decode cL_carries 15 = .ok (.bipush (-101), 2) := by decide +kernel
theorem dL_carries_17 : decode cL_carries 17 = .ok (.if_icmp .ne 27, 3) := by decide +kernel
theorem dL_carries_20 : decode cL_carries 20 = .ok (.aload_n 0, 1) := by decide +kernel
theorem dL_carries_21 : decode cL_carries 21 = .ok (.iload_n 1, 1) := by decide +kernel
theorem dL_carries_22 : decode cL_carries 22 = .ok (.invokestatic 107, 3) := by decide +kernel
theorem dL_carries_25 : decode cL_carries 25 = .ok (.bipush (-101), 2) := by decide +kernel
theorem dL_carries_27 : decode cL_carries 27 = .ok (.if_icmp .ne 17, 3) := by decide +kernel
theorem dL_carries_30 : decode cL_carries 30 = .ok (.aload_n 0, 1) := by decide +kernel
theorem dL_carries_31 : decode cL_carries 31 = .ok (.iload_n 1, 1) := by decide +kernel
theorem dL_carries_32 : decode cL_carries 32 = .ok (.invokestatic 109, 3) := by decide +kernel
theorem dL_carries_35 : decode cL_carries 35 = .ok (.bipush (-101), 2) := by decide +kernel
theorem dL_carries_37 : decode cL_carries 37 = .ok (.if_icmp .ne 7, 3) := by decide +kernel
theorem dL_carries_40 : decode cL_carries 40 = .ok (.iconst 1, 1) := by decide +kernel
theorem dL_carries_41 : decode cL_carries 41 = .ok (.goto 4, 3) := by decide +kernel
theorem dL_carries_44 : decode cL_carries 44 = .ok (.iconst 0, 1) := by decide +kernel
theorem dL_carries_45 : decode cL_carries 45 = .ok (.istore 5, 2) := by decide +kernel
theorem dL_carries_47 : decode cL_carries 47 = .ok (.iconst 0, 1) := by decide +kernel
theorem dL_carries_48 : decode cL_carries 48 = .ok (.istore 6, 2) := by decide +kernel
theorem dL_carries_50 : decode cL_carries 50 = .ok (.iload 6, 2) := by decide +kernel
theorem dL_carries_52 : decode cL_carries 52 = .ok (.iload_n 1, 1) := by decide +kernel
theorem dL_carries_53 : decode cL_carries 53 = .ok (.if_icmp .ge 237, 3) := by decide +kernel
theorem dL_carries_56 : decode cL_carries 56 = .ok (.iload 5, 2) := by decide +kernel
theorem dL_carries_58 : decode cL_carries 58 = .ok (.ifCond .eq 232, 3) := by decide +kernel
theorem dL_carries_61 : decode cL_carries 61 = .ok (.aload_n 2, 1) := by decide +kernel
theorem dL_carries_62 : decode cL_carries 62 = .ok (.iload 6, 2) := by decide +kernel
theorem dL_carries_64 : decode cL_carries 64 = .ok (.iaload, 1) := by decide +kernel
theorem dL_carries_65 : decode cL_carries 65 = .ok (.istore 7, 2) := by decide +kernel
theorem dL_carries_67 : decode cL_carries 67 = .ok (.iconst (-1), 1) := by decide +kernel
theorem dL_carries_68 : decode cL_carries 68 = .ok (.istore 8, 2) := by decide +kernel
theorem dL_carries_70 : decode cL_carries 70 = .ok (.aload_n 0, 1) := by decide +kernel
theorem dL_carries_71 : decode cL_carries 71 = .ok (.iload 6, 2) := by decide +kernel
theorem dL_carries_73 : decode cL_carries 73 = .ok (.invokestatic 105, 3) := by decide +kernel
theorem dL_carries_76 : decode cL_carries 76 = .ok (.istore 9, 2) := by decide +kernel
theorem dL_carries_78 : decode cL_carries 78 = .ok (.iconst 0, 1) := by decide +kernel
theorem dL_carries_79 : decode cL_carries 79 = .ok (.istore 10, 2) := by decide +kernel
theorem dL_carries_81 : decode cL_carries 81 = .ok (.iload 10, 2) := by decide +kernel
theorem dL_carries_83 : decode cL_carries 83 = .ok (.iload 9, 2) := by decide +kernel
theorem dL_carries_85 : decode cL_carries 85 = .ok (.if_icmp .ge 88, 3) := by decide +kernel
theorem dL_carries_88 : decode cL_carries 88 = .ok (.iload 5, 2) := by decide +kernel
theorem dL_carries_90 : decode cL_carries 90 = .ok (.ifCond .eq 83, 3) := by decide +kernel
theorem dL_carries_93 : decode cL_carries 93 = .ok (.aload_n 0, 1) := by decide +kernel
theorem dL_carries_94 : decode cL_carries 94 = .ok (.iload 6, 2) := by decide +kernel
theorem dL_carries_96 : decode cL_carries 96 = .ok (.iload 10, 2) := by decide +kernel
theorem dL_carries_98 : decode cL_carries 98 = .ok (.invokestatic 111, 3) := by decide +kernel
theorem dL_carries_101 : decode cL_carries 101 = .ok (.istore 11, 2) := by decide +kernel
theorem dL_carries_103 : decode cL_carries 103 = .ok (.aload_n 0, 1) := by decide +kernel
theorem dL_carries_104 : decode cL_carries 104 = .ok (.iload 6, 2) := by decide +kernel
theorem dL_carries_106 : decode cL_carries 106 = .ok (.iload 10, 2) := by decide +kernel
theorem dL_carries_108 : decode cL_carries 108 = .ok (.invokestatic 114, 3) := by decide +kernel
theorem dL_carries_111 : decode cL_carries 111 = .ok (.istore 12, 2) := by decide +kernel
theorem dL_carries_113 : decode cL_carries 113 = .ok (.iload 11, 2) := by decide +kernel
theorem dL_carries_115 : decode cL_carries 115 = .ok (.iload 8, 2) := by decide +kernel
theorem dL_carries_117 : decode cL_carries 117 = .ok (.if_icmp .le 39, 3) := by decide +kernel
theorem dL_carries_120 : decode cL_carries 120 = .ok (.iload 11, 2) := by decide +kernel
theorem dL_carries_122 : decode cL_carries 122 = .ok (.aload_n 0, 1) := by decide +kernel
theorem dL_carries_123 : decode cL_carries 123 = .ok (.invokevirtual 116, 3) := by decide +kernel
theorem dL_carries_126 : decode cL_carries 126 = .ok (.if_icmp .ge 30, 3) := by decide +kernel
theorem dL_carries_129 : decode cL_carries 129 = .ok (.aload_n 0, 1) := by decide +kernel
theorem dL_carries_130 : decode cL_carries 130 = .ok (.iload 7, 2) := by decide +kernel
theorem dL_carries_132 : decode cL_carries 132 = .ok (.iload 12, 2) := by decide +kernel
theorem dL_carries_134 : decode cL_carries 134 = .ok (.iload 11, 2) := by decide +kernel
theorem dL_carries_136 : decode cL_carries 136 = .ok (.invokestatic 95, 3) := by decide +kernel
theorem dL_carries_139 : decode cL_carries 139 = .ok (.iconst 1, 1) := by decide +kernel
theorem dL_carries_140 : decode cL_carries 140 = .ok (.if_icmp .ne 16, 3) := by decide +kernel
theorem dL_carries_143 : decode cL_carries 143 = .ok (.iload 7, 2) := by decide +kernel
theorem dL_carries_145 : decode cL_carries 145 = .ok (.aload_n 3, 1) := by decide +kernel
theorem dL_carries_146 : decode cL_carries 146 = .ok (.iload 6, 2) := by decide +kernel
theorem dL_carries_148 : decode cL_carries 148 = .ok (.iaload, 1) := by decide +kernel
theorem dL_carries_149 : decode cL_carries 149 = .ok (.if_icmp .eq 7, 3) := by decide +kernel
theorem dL_carries_152 : decode cL_carries 152 = .ok (.iconst 1, 1) := by decide +kernel
theorem dL_carries_153 : decode cL_carries 153 = .ok (.goto 4, 3) := by decide +kernel
theorem dL_carries_156 : decode cL_carries 156 = .ok (.iconst 0, 1) := by decide +kernel
theorem dL_carries_157 : decode cL_carries 157 = .ok (.istore 5, 2) := by decide +kernel
theorem dL_carries_159 : decode cL_carries 159 = .ok (.iload 12, 2) := by decide +kernel
theorem dL_carries_161 : decode cL_carries 161 = .ok (.istore 7, 2) := by decide +kernel
theorem dL_carries_163 : decode cL_carries 163 = .ok (.iload 11, 2) := by decide +kernel
theorem dL_carries_165 : decode cL_carries 165 = .ok (.istore 8, 2) := by decide +kernel
theorem dL_carries_167 : decode cL_carries 167 = .ok (.iinc 10 1, 3) := by decide +kernel
theorem dL_carries_170 : decode cL_carries 170 = .ok (.goto (-89), 3) := by decide +kernel
theorem dL_carries_173 : decode cL_carries 173 = .ok (.iload 5, 2) := by decide +kernel
theorem dL_carries_175 : decode cL_carries 175 = .ok (.ifCond .eq 106, 3) := by decide +kernel
theorem dL_carries_178 : decode cL_carries 178 = .ok (.aload_n 0, 1) := by decide +kernel
theorem dL_carries_179 : decode cL_carries 179 = .ok (.iload 6, 2) := by decide +kernel
theorem dL_carries_181 : decode cL_carries 181 = .ok (.invokestatic 102, 3) := by decide +kernel
theorem dL_carries_184 : decode cL_carries 184 = .ok (.iload 7, 2) := by decide +kernel
theorem dL_carries_186 : decode cL_carries 186 = .ok (.if_icmp .ne 95, 3) := by decide +kernel
theorem dL_carries_189 : decode cL_carries 189 = .ok (.aload_n 0, 1) := by decide +kernel
theorem dL_carries_190 : decode cL_carries 190 = .ok (.iload 6, 2) := by decide +kernel
theorem dL_carries_192 : decode cL_carries 192 = .ok (.invokestatic 107, 3) := by decide +kernel
theorem dL_carries_195 : decode cL_carries 195 = .ok (.ifCond .lt 7, 3) := by decide +kernel
theorem dL_carries_198 : decode cL_carries 198 = .ok (.iconst 1, 1) := by decide +kernel
theorem dL_carries_199 : decode cL_carries 199 = .ok (.goto 4, 3) := by decide +kernel
theorem dL_carries_202 : decode cL_carries 202 = .ok (.iconst 0, 1) := by decide +kernel
theorem dL_carries_203 : decode cL_carries 203 = .ok (.iload 7, 2) := by decide +kernel
theorem dL_carries_205 : decode cL_carries 205 = .ok (.aload_n 3, 1) := by decide +kernel
theorem dL_carries_206 : decode cL_carries 206 = .ok (.iload 6, 2) := by decide +kernel
theorem dL_carries_208 : decode cL_carries 208 = .ok (.iaload, 1) := by decide +kernel
theorem dL_carries_209 : decode cL_carries 209 = .ok (.if_icmp .ne 7, 3) := by decide +kernel
theorem dL_carries_212 : decode cL_carries 212 = .ok (.iconst 1, 1) := by decide +kernel
theorem dL_carries_213 : decode cL_carries 213 = .ok (.goto 4, 3) := by decide +kernel
theorem dL_carries_216 : decode cL_carries 216 = .ok (.iconst 0, 1) := by decide +kernel
theorem dL_carries_217 : decode cL_carries 217 = .ok (.if_icmp .ne 64, 3) := by decide +kernel
theorem dL_carries_220 : decode cL_carries 220 = .ok (.iload 7, 2) := by decide +kernel
theorem dL_carries_222 : decode cL_carries 222 = .ok (.aload_n 3, 1) := by decide +kernel
theorem dL_carries_223 : decode cL_carries 223 = .ok (.iload 6, 2) := by decide +kernel
theorem dL_carries_225 : decode cL_carries 225 = .ok (.iaload, 1) := by decide +kernel
theorem dL_carries_226 : decode cL_carries 226 = .ok (.if_icmp .ne 16, 3) := by decide +kernel
theorem dL_carries_229 : decode cL_carries 229 = .ok (.aload_n 0, 1) := by decide +kernel
theorem dL_carries_230 : decode cL_carries 230 = .ok (.iload 6, 2) := by decide +kernel
theorem dL_carries_232 : decode cL_carries 232 = .ok (.invokestatic 107, 3) := by decide +kernel
theorem dL_carries_235 : decode cL_carries 235 = .ok (.iload 8, 2) := by decide +kernel
theorem dL_carries_237 : decode cL_carries 237 = .ok (.iconst 1, 1) := by decide +kernel
theorem dL_carries_238 : decode cL_carries 238 = .ok (.iadd, 1) := by decide +kernel
theorem dL_carries_239 : decode cL_carries 239 = .ok (.if_icmp .ne 42, 3) := by decide +kernel
theorem dL_carries_242 : decode cL_carries 242 = .ok (.aload_n 0, 1) := by decide +kernel
theorem dL_carries_243 : decode cL_carries 243 = .ok (.iload 6, 2) := by decide +kernel
theorem dL_carries_245 : decode cL_carries 245 = .ok (.iload 9, 2) := by decide +kernel
theorem dL_carries_247 : decode cL_carries 247 = .ok (.invokestatic 114, 3) := by decide +kernel
theorem dL_carries_250 : decode cL_carries 250 = .ok (.bipush (-101), 2) := by decide +kernel
theorem dL_carries_252 : decode cL_carries 252 = .ok (.if_icmp .ne 29, 3) := by decide +kernel
theorem dL_carries_255 : decode cL_carries 255 = .ok (.aload_n 0, 1) := by decide +kernel
theorem dL_carries_256 : decode cL_carries 256 = .ok (.iload 6, 2) := by decide +kernel
theorem dL_carries_258 : decode cL_carries 258 = .ok (.iload 9, 2) := by decide +kernel
theorem dL_carries_260 : decode cL_carries 260 = .ok (.invokestatic 111, 3) := by decide +kernel
theorem dL_carries_263 : decode cL_carries 263 = .ok (.bipush (-101), 2) := by decide +kernel
theorem dL_carries_265 : decode cL_carries 265 = .ok (.if_icmp .ne 16, 3) := by decide +kernel
theorem dL_carries_268 : decode cL_carries 268 = .ok (.aload_n 0, 1) := by decide +kernel
theorem dL_carries_269 : decode cL_carries 269 = .ok (.iload 6, 2) := by decide +kernel
theorem dL_carries_271 : decode cL_carries 271 = .ok (.invokestatic 109, 3) := by decide +kernel
theorem dL_carries_274 : decode cL_carries 274 = .ok (.ifCond .lt 7, 3) := by decide +kernel
theorem dL_carries_277 : decode cL_carries 277 = .ok (.iconst 1, 1) := by decide +kernel
theorem dL_carries_278 : decode cL_carries 278 = .ok (.goto 4, 3) := by decide +kernel
theorem dL_carries_281 : decode cL_carries 281 = .ok (.iconst 0, 1) := by decide +kernel
theorem dL_carries_282 : decode cL_carries 282 = .ok (.istore 5, 2) := by decide +kernel
theorem dL_carries_284 : decode cL_carries 284 = .ok (.iinc 6 1, 3) := by decide +kernel
theorem dL_carries_287 : decode cL_carries 287 = .ok (.goto (-237), 3) := by decide +kernel
theorem dL_carries_290 : decode cL_carries 290 = .ok (.iconst 0, 1) := by decide +kernel
theorem dL_carries_291 : decode cL_carries 291 = .ok (.istore 6, 2) := by decide +kernel
theorem dL_carries_293 : decode cL_carries 293 = .ok (.iconst 0, 1) := by decide +kernel
theorem dL_carries_294 : decode cL_carries 294 = .ok (.istore 7, 2) := by decide +kernel
theorem dL_carries_296 : decode cL_carries 296 = .ok (.iload 7, 2) := by decide +kernel
theorem dL_carries_298 : decode cL_carries 298 = .ok (.iload 4, 2) := by decide +kernel
theorem dL_carries_300 : decode cL_carries 300 = .ok (.if_icmp .ge 82, 3) := by decide +kernel
theorem dL_carries_303 : decode cL_carries 303 = .ok (.iload 5, 2) := by decide +kernel
theorem dL_carries_305 : decode cL_carries 305 = .ok (.ifCond .eq 77, 3) := by decide +kernel
theorem dL_carries_308 : decode cL_carries 308 = .ok (.aload_n 0, 1) := by decide +kernel
theorem dL_carries_309 : decode cL_carries 309 = .ok (.iload 7, 2) := by decide +kernel
theorem dL_carries_311 : decode cL_carries 311 = .ok (.invokestatic 120, 3) := by decide +kernel
theorem dL_carries_314 : decode cL_carries 314 = .ok (.istore 8, 2) := by decide +kernel
theorem dL_carries_316 : decode cL_carries 316 = .ok (.iconst 0, 1) := by decide +kernel
theorem dL_carries_317 : decode cL_carries 317 = .ok (.istore 9, 2) := by decide +kernel
theorem dL_carries_319 : decode cL_carries 319 = .ok (.iconst 0, 1) := by decide +kernel
theorem dL_carries_320 : decode cL_carries 320 = .ok (.istore 10, 2) := by decide +kernel
theorem dL_carries_322 : decode cL_carries 322 = .ok (.iload 10, 2) := by decide +kernel
theorem dL_carries_324 : decode cL_carries 324 = .ok (.iload_n 1, 1) := by decide +kernel
theorem dL_carries_325 : decode cL_carries 325 = .ok (.if_icmp .ge 30, 3) := by decide +kernel
theorem dL_carries_328 : decode cL_carries 328 = .ok (.iload 9, 2) := by decide +kernel
theorem dL_carries_330 : decode cL_carries 330 = .ok (.aload_n 0, 1) := by decide +kernel
theorem dL_carries_331 : decode cL_carries 331 = .ok (.iload 10, 2) := by decide +kernel
theorem dL_carries_333 : decode cL_carries 333 = .ok (.invokestatic 102, 3) := by decide +kernel
theorem dL_carries_336 : decode cL_carries 336 = .ok (.iload 7, 2) := by decide +kernel
theorem dL_carries_338 : decode cL_carries 338 = .ok (.if_icmp .ne 7, 3) := by decide +kernel
theorem dL_carries_341 : decode cL_carries 341 = .ok (.iconst 1, 1) := by decide +kernel
theorem dL_carries_342 : decode cL_carries 342 = .ok (.goto 4, 3) := by decide +kernel
theorem dL_carries_345 : decode cL_carries 345 = .ok (.iconst 0, 1) := by decide +kernel
theorem dL_carries_346 : decode cL_carries 346 = .ok (.iadd, 1) := by decide +kernel
theorem dL_carries_347 : decode cL_carries 347 = .ok (.istore 9, 2) := by decide +kernel
theorem dL_carries_349 : decode cL_carries 349 = .ok (.iinc 10 1, 3) := by decide +kernel
theorem dL_carries_352 : decode cL_carries 352 = .ok (.goto (-30), 3) := by decide +kernel
theorem dL_carries_355 : decode cL_carries 355 = .ok (.iload 6, 2) := by decide +kernel
theorem dL_carries_357 : decode cL_carries 357 = .ok (.iload 8, 2) := by decide +kernel
theorem dL_carries_359 : decode cL_carries 359 = .ok (.iadd, 1) := by decide +kernel
theorem dL_carries_360 : decode cL_carries 360 = .ok (.istore 6, 2) := by decide +kernel
theorem dL_carries_362 : decode cL_carries 362 = .ok (.iload 8, 2) := by decide +kernel
theorem dL_carries_364 : decode cL_carries 364 = .ok (.iload 9, 2) := by decide +kernel
theorem dL_carries_366 : decode cL_carries 366 = .ok (.if_icmp .ne 7, 3) := by decide +kernel
theorem dL_carries_369 : decode cL_carries 369 = .ok (.iconst 1, 1) := by decide +kernel
theorem dL_carries_370 : decode cL_carries 370 = .ok (.goto 4, 3) := by decide +kernel
theorem dL_carries_373 : decode cL_carries 373 = .ok (.iconst 0, 1) := by decide +kernel
theorem dL_carries_374 : decode cL_carries 374 = .ok (.istore 5, 2) := by decide +kernel
theorem dL_carries_376 : decode cL_carries 376 = .ok (.iinc 7 1, 3) := by decide +kernel
theorem dL_carries_379 : decode cL_carries 379 = .ok (.goto (-83), 3) := by decide +kernel
theorem dL_carries_382 : decode cL_carries 382 = .ok (.iload 5, 2) := by decide +kernel
theorem dL_carries_384 : decode cL_carries 384 = .ok (.ifCond .eq 13, 3) := by decide +kernel
theorem dL_carries_387 : decode cL_carries 387 = .ok (.iload 6, 2) := by decide +kernel
theorem dL_carries_389 : decode cL_carries 389 = .ok (.iload_n 1, 1) := by decide +kernel
theorem dL_carries_390 : decode cL_carries 390 = .ok (.if_icmp .ne 7, 3) := by decide +kernel
theorem dL_carries_393 : decode cL_carries 393 = .ok (.iconst 1, 1) := by decide +kernel
theorem dL_carries_394 : decode cL_carries 394 = .ok (.goto 4, 3) := by decide +kernel
theorem dL_carries_397 : decode cL_carries 397 = .ok (.iconst 0, 1) := by decide +kernel
theorem dL_carries_398 : decode cL_carries 398 = .ok (.ireturn, 1) := by decide +kernel
theorem dL_law_0 : decode cL_law 0 = .ok (.new 10, 3) := by decide +kernel
theorem dL_law_3 : decode cL_law 3 = .ok (.dup, 1) := by decide +kernel
theorem dL_law_4 : decode cL_law 4 = .ok (.invokespecial 122, 3) := by decide +kernel
theorem dL_law_7 : decode cL_law 7 = .ok (.astore_n 1, 1) := by decide +kernel
theorem dL_law_8 : decode cL_law 8 = .ok (.aload_n 1, 1) := by decide +kernel
theorem dL_law_9 : decode cL_law 9 = .ok (.invokevirtual 123, 3) := by decide +kernel
theorem dL_law_12 : decode cL_law 12 = .ok (.ifCond .ne 14, 3) := by decide +kernel
theorem dL_law_15 : decode cL_law 15 = .ok (.aload_n 1, 1) := by decide +kernel
theorem dL_law_16 : decode cL_law 16 = .ok (.invokevirtual 126, 3) := by decide +kernel
theorem dL_law_19 : decode cL_law 19 = .ok (.ifCond .ne 7, 3) := by decide +kernel
theorem dL_law_22 : decode cL_law 22 = .ok (.iconst 1, 1) := by decide +kernel
theorem dL_law_23 : decode cL_law 23 = .ok (.goto 4, 3) := by decide +kernel
theorem dL_law_26 : decode cL_law 26 = .ok (.iconst 0, 1) := by decide +kernel
theorem dL_law_27 : decode cL_law 27 = .ok (.istore_n 2, 1) := by decide +kernel
theorem dL_law_28 : decode cL_law 28 = .ok (.iconst 2, 1) := by decide +kernel
theorem dL_law_29 : decode cL_law 29 = .ok (.aload_n 0, 1) := by decide +kernel
theorem dL_law_30 : decode cL_law 30 = .ok (.iconst 0, 1) := by decide +kernel
theorem dL_law_31 : decode cL_law 31 = .ok (.invokestatic 129, 3) := by decide +kernel
theorem dL_law_34 : decode cL_law 34 = .ok (.iconst 2, 1) := by decide +kernel
theorem dL_law_35 : decode cL_law 35 = .ok (.irem, 1) := by decide +kernel
theorem dL_law_36 : decode cL_law 36 = .ok (.iadd, 1) := by decide +kernel
theorem dL_law_37 : decode cL_law 37 = .ok (.istore_n 3, 1) := by decide +kernel
theorem dL_law_38 : decode cL_law 38 = .ok (.iload_n 3, 1) := by decide +kernel
theorem dL_law_39 : decode cL_law 39 = .ok (.iconst 1, 1) := by decide +kernel
theorem dL_law_40 : decode cL_law 40 = .ok (.iadd, 1) := by decide +kernel
theorem dL_law_41 : decode cL_law 41 = .ok (.aload_n 0, 1) := by decide +kernel
theorem dL_law_42 : decode cL_law 42 = .ok (.iconst 1, 1) := by decide +kernel
theorem dL_law_43 : decode cL_law 43 = .ok (.invokestatic 129, 3) := by decide +kernel
theorem dL_law_46 : decode cL_law 46 = .ok (.iconst 4, 1) := by decide +kernel
theorem dL_law_47 : decode cL_law 47 = .ok (.irem, 1) := by decide +kernel
theorem dL_law_48 : decode cL_law 48 = .ok (.iadd, 1) := by decide +kernel
theorem dL_law_49 : decode cL_law 49 = .ok (.istore 4, 2) := by decide +kernel
theorem dL_law_51 : decode cL_law 51 = .ok (.iconst 0, 1) := by decide +kernel
theorem dL_law_52 : decode cL_law 52 = .ok (.istore 5, 2) := by decide +kernel
theorem dL_law_54 : decode cL_law 54 = .ok (.iload 5, 2) := by decide +kernel
theorem dL_law_56 : decode cL_law 56 = .ok (.iload 4, 2) := by decide +kernel
theorem dL_law_58 : decode cL_law 58 = .ok (.if_icmp .ge 110, 3) := by decide +kernel
theorem dL_law_61 : decode cL_law 61 = .ok (.iload_n 2, 1) := by decide +kernel
theorem dL_law_62 : decode cL_law 62 = .ok (.ifCond .eq 106, 3) := by decide +kernel
theorem dL_law_65 : decode cL_law 65 = .ok (.aload_n 0, 1) := by decide +kernel
theorem dL_law_66 : decode cL_law 66 = .ok (.iconst 2, 1) := by decide +kernel
theorem dL_law_67 : decode cL_law 67 = .ok (.iload 5, 2) := by decide +kernel
theorem dL_law_69 : decode cL_law 69 = .ok (.iadd, 1) := by decide +kernel
theorem dL_law_70 : decode cL_law 70 = .ok (.invokestatic 129, 3) := by decide +kernel
theorem dL_law_73 : decode cL_law 73 = .ok (.istore 6, 2) := by decide +kernel
theorem dL_law_75 : decode cL_law 75 = .ok (.iload 5, 2) := by decide +kernel
theorem dL_law_77 : decode cL_law 77 = .ok (.iload_n 3, 1) := by decide +kernel
theorem dL_law_78 : decode cL_law 78 = .ok (.if_icmp .ge 16, 3) := by decide +kernel
theorem dL_law_81 : decode cL_law 81 = .ok (.aload_n 1, 1) := by decide +kernel
theorem dL_law_82 : decode cL_law 82 = .ok (.iload 6, 2) := by decide +kernel
theorem dL_law_84 : decode cL_law 84 = .ok (.sipush 360, 3) := by decide +kernel
theorem dL_law_87 : decode cL_law 87 = .ok (.irem, 1) := by decide +kernel
theorem dL_law_88 : decode cL_law 88 = .ok (.invokestatic 133, 3) := by decide +kernel
theorem dL_law_91 : decode cL_law 91 = .ok (.goto 44, 3) := by decide +kernel
theorem dL_law_94 : decode cL_law 94 = .ok (.aload_n 1, 1) := by decide +kernel
theorem dL_law_95 : decode cL_law 95 = .ok (.iload 6, 2) := by decide +kernel
theorem dL_law_97 : decode cL_law 97 = .ok (.sipush 360, 3) := by decide +kernel
theorem dL_law_100 : decode cL_law 100 = .ok (.irem, 1) := by decide +kernel
theorem dL_law_101 : decode cL_law 101 = .ok (.iload 6, 2) := by decide +kernel
theorem dL_law_103 : decode cL_law 103 = .ok (.sipush 360, 3) := by decide +kernel
theorem dL_law_106 : decode cL_law 106 = .ok (.idiv, 1) := by decide +kernel
theorem dL_law_107 : decode cL_law 107 = .ok (.bipush 61, 2) := by decide +kernel
theorem dL_law_109 : decode cL_law 109 = .ok (.irem, 1) := by decide +kernel
theorem dL_law_110 : decode cL_law 110 = .ok (.bipush 30, 2) := by decide +kernel
theorem dL_law_112 : decode cL_law 112 = .ok (.isub, 1) := by decide +kernel
theorem dL_law_113 : decode cL_law 113 = .ok (.iload 6, 2) := by decide +kernel
theorem dL_law_115 : decode cL_law 115 = .ok (.sipush 22000, 3) := by decide +kernel
theorem dL_law_118 : decode cL_law 118 = .ok (.idiv, 1) := by decide +kernel
theorem dL_law_119 : decode cL_law 119 = .ok (.bipush 100, 2) := by decide +kernel
theorem dL_law_121 : decode cL_law 121 = .ok (.irem, 1) := by decide +kernel
theorem dL_law_122 : decode cL_law 122 = .ok (.iconst 1, 1) := by decide +kernel
theorem dL_law_123 : decode cL_law 123 = .ok (.iload 6, 2) := by decide +kernel
theorem dL_law_125 : decode cL_law 125 = .ok (.ldc 135, 2) := by decide +kernel
theorem dL_law_127 : decode cL_law 127 = .ok (.idiv, 1) := by decide +kernel
theorem dL_law_128 : decode cL_law 128 = .ok (.bipush 9, 2) := by decide +kernel
theorem dL_law_130 : decode cL_law 130 = .ok (.irem, 1) := by decide +kernel
theorem dL_law_131 : decode cL_law 131 = .ok (.iadd, 1) := by decide +kernel
theorem dL_law_132 : decode cL_law 132 = .ok (.invokestatic 136, 3) := by decide +kernel
theorem dL_law_135 : decode cL_law 135 = .ok (.iload 5, 2) := by decide +kernel
theorem dL_law_137 : decode cL_law 137 = .ok (.if_icmp .ne 23, 3) := by decide +kernel
theorem dL_law_140 : decode cL_law 140 = .ok (.aload_n 1, 1) := by decide +kernel
theorem dL_law_141 : decode cL_law 141 = .ok (.iload 5, 2) := by decide +kernel
theorem dL_law_143 : decode cL_law 143 = .ok (.iconst 0, 1) := by decide +kernel
theorem dL_law_144 : decode cL_law 144 = .ok (.invokestatic 139, 3) := by decide +kernel
theorem dL_law_147 : decode cL_law 147 = .ok (.iload 6, 2) := by decide +kernel
theorem dL_law_149 : decode cL_law 149 = .ok (.sipush 360, 3) := by decide +kernel
theorem dL_law_152 : decode cL_law 152 = .ok (.irem, 1) := by decide +kernel
theorem dL_law_153 : decode cL_law 153 = .ok (.if_icmp .ne 7, 3) := by decide +kernel
theorem dL_law_156 : decode cL_law 156 = .ok (.iconst 1, 1) := by decide +kernel
theorem dL_law_157 : decode cL_law 157 = .ok (.goto 4, 3) := by decide +kernel
theorem dL_law_160 : decode cL_law 160 = .ok (.iconst 0, 1) := by decide +kernel
theorem dL_law_161 : decode cL_law 161 = .ok (.istore_n 2, 1) := by decide +kernel
theorem dL_law_162 : decode cL_law 162 = .ok (.iinc 5 1, 3) := by decide +kernel
theorem dL_law_165 : decode cL_law 165 = .ok (.goto (-111), 3) := by decide +kernel
theorem dL_law_168 : decode cL_law 168 = .ok (.bipush 20, 2) := by decide +kernel
theorem dL_law_170 : decode cL_law 170 = .ok (.newarray .int, 2) := by decide +kernel
theorem dL_law_172 : decode cL_law 172 = .ok (.astore 5, 2) := by decide +kernel
theorem dL_law_174 : decode cL_law 174 = .ok (.bipush 20, 2) := by decide +kernel
theorem dL_law_176 : decode cL_law 176 = .ok (.newarray .int, 2) := by decide +kernel
theorem dL_law_178 : decode cL_law 178 = .ok (.astore 6, 2) := by decide +kernel
theorem dL_law_180 : decode cL_law 180 = .ok (.iconst 0, 1) := by decide +kernel
theorem dL_law_181 : decode cL_law 181 = .ok (.istore 7, 2) := by decide +kernel
theorem dL_law_183 : decode cL_law 183 = .ok (.iconst 0, 1) := by decide +kernel
theorem dL_law_184 : decode cL_law 184 = .ok (.istore 8, 2) := by decide +kernel
theorem dL_law_186 : decode cL_law 186 = .ok (.iload 8, 2) := by decide +kernel
theorem dL_law_188 : decode cL_law 188 = .ok (.bipush 36, 2) := by decide +kernel
theorem dL_law_190 : decode cL_law 190 = .ok (.if_icmp .ge 702, 3) := by decide +kernel
theorem dL_law_193 : decode cL_law 193 = .ok (.iload_n 2, 1) := by decide +kernel
theorem dL_law_194 : decode cL_law 194 = .ok (.ifCond .eq 698, 3) := by decide +kernel
theorem dL_law_197 : decode cL_law 197 = .ok (.aload_n 0, 1) := by decide +kernel
theorem dL_law_198 : decode cL_law 198 = .ok (.bipush 9, 2) := by decide +kernel
theorem dL_law_200 : decode cL_law 200 = .ok (.iload 8, 2) := by decide +kernel
theorem dL_law_202 : decode cL_law 202 = .ok (.iadd, 1) := by decide +kernel
theorem dL_law_203 : decode cL_law 203 = .ok (.invokestatic 129, 3) := by decide +kernel
theorem dL_law_206 : decode cL_law 206 = .ok (.istore 9, 2) := by decide +kernel
theorem dL_law_208 : decode cL_law 208 = .ok (.iload 9, 2) := by decide +kernel
theorem dL_law_210 : decode cL_law 210 = .ok (.bipush 8, 2) := by decide +kernel
theorem dL_law_212 : decode cL_law 212 = .ok (.idiv, 1) := by decide +kernel
theorem dL_law_213 : decode cL_law 213 = .ok (.istore 10, 2) := by decide +kernel
theorem dL_law_215 : decode cL_law 215 = .ok (.iload 10, 2) := by decide +kernel
theorem dL_law_217 : decode cL_law 217 = .ok (.iload 4, 2) := by decide +kernel
theorem dL_law_219 : decode cL_law 219 = .ok (.irem, 1) := by decide +kernel
theorem dL_law_220 : decode cL_law 220 = .ok (.istore 11, 2) := by decide +kernel
theorem dL_law_222 : decode cL_law 222 = .ok (.iload 10, 2) := by decide +kernel
theorem dL_law_224 : decode cL_law 224 = .ok (.bipush 7, 2) := by decide +kernel
theorem dL_law_226 : decode cL_law 226 = .ok (.idiv, 1) := by decide +kernel
theorem dL_law_227 : decode cL_law 227 = .ok (.iload 4, 2) := by decide +kernel
theorem dL_law_229 : decode cL_law 229 = .ok (.irem, 1) := by decide +kernel
theorem dL_law_230 : decode cL_law 230 = .ok (.istore 12, 2) := by decide +kernel
theorem dL_law_232 : decode cL_law 232 = .ok (.iload 10, 2) := by decide +kernel
theorem dL_law_234 : decode cL_law 234 = .ok (.bipush 49, 2) := by decide +kernel
theorem dL_law_236 : decode cL_law 236 = .ok (.idiv, 1) := by decide +kernel
theorem dL_law_237 : decode cL_law 237 = .ok (.sipush 2000, 3) := by decide +kernel
theorem dL_law_240 : decode cL_law 240 = .ok (.irem, 1) := by decide +kernel
theorem dL_law_241 : decode cL_law 241 = .ok (.istore 13, 2) := by decide +kernel
theorem dL_law_243 : decode cL_law 243 = .ok (.iload 9, 2) := by decide +kernel
theorem dL_law_245 : decode cL_law 245 = .ok (.bipush 8, 2) := by decide +kernel
theorem dL_law_247 : decode cL_law 247 = .ok (.irem, 1) := by decide +kernel
theorem dL_law_248 : decode cL_law 248 = .ok (.iconst 2, 1) := by decide +kernel
theorem dL_law_249 : decode cL_law 249 = .ok (.if_icmp .ge 96, 3) := by decide +kernel
theorem dL_law_252 : decode cL_law 252 = .ok (.iload 7, 2) := by decide +kernel
theorem dL_law_254 : decode cL_law 254 = .ok (.bipush 20, 2) := by decide +kernel
theorem dL_law_256 : decode cL_law 256 = .ok (.if_icmp .ge 89, 3) := by decide +kernel
theorem dL_law_259 : decode cL_law 259 = .ok (.aload 5, 2) := by decide +kernel
theorem dL_law_261 : decode cL_law 261 = .ok (.iload 7, 2) := by decide +kernel
theorem dL_law_263 : decode cL_law 263 = .ok (.iload 10, 2) := by decide +kernel
theorem dL_law_265 : decode cL_law 265 = .ok (.iload_n 3, 1) := by decide +kernel
theorem dL_law_266 : decode cL_law 266 = .ok (.irem, 1) := by decide +kernel
theorem dL_law_267 : decode cL_law 267 = .ok (.iastore, 1) := by decide +kernel
theorem dL_law_268 : decode cL_law 268 = .ok (.aload 6, 2) := by decide +kernel
theorem dL_law_270 : decode cL_law 270 = .ok (.iload 7, 2) := by decide +kernel
theorem dL_law_272 : decode cL_law 272 = .ok (.iload 10, 2) := by decide +kernel
theorem dL_law_274 : decode cL_law 274 = .ok (.iload_n 3, 1) := by decide +kernel
theorem dL_law_275 : decode cL_law 275 = .ok (.irem, 1) := by decide +kernel
theorem dL_law_276 : decode cL_law 276 = .ok (.iconst 1, 1) := by decide +kernel
theorem dL_law_277 : decode cL_law 277 = .ok (.iadd, 1) := by decide +kernel
theorem dL_law_278 : decode cL_law 278 = .ok (.iload 10, 2) := by decide +kernel
theorem dL_law_280 : decode cL_law 280 = .ok (.bipush 7, 2) := by decide +kernel
theorem dL_law_282 : decode cL_law 282 = .ok (.idiv, 1) := by decide +kernel
theorem dL_law_283 : decode cL_law 283 = .ok (.iload_n 3, 1) := by decide +kernel
theorem dL_law_284 : decode cL_law 284 = .ok (.iconst 1, 1) := by decide +kernel
theorem dL_law_285 : decode cL_law 285 = .ok (.isub, 1) := by decide +kernel
theorem dL_law_286 : decode cL_law 286 = .ok (.irem, 1) := by decide +kernel
theorem dL_law_287 : decode cL_law 287 = .ok (.iadd, 1) := by decide +kernel
theorem dL_law_288 : decode cL_law 288 = .ok (.iload_n 3, 1) := by decide +kernel
theorem dL_law_289 : decode cL_law 289 = .ok (.irem, 1) := by decide +kernel
theorem dL_law_290 : decode cL_law 290 = .ok (.iastore, 1) := by decide +kernel
theorem dL_law_291 : decode cL_law 291 = .ok (.aload_n 1, 1) := by decide +kernel
theorem dL_law_292 : decode cL_law 292 = .ok (.aload 5, 2) := by decide +kernel
theorem dL_law_294 : decode cL_law 294 = .ok (.iload 7, 2) := by decide +kernel
theorem dL_law_296 : decode cL_law 296 = .ok (.iaload, 1) := by decide +kernel
theorem dL_law_297 : decode cL_law 297 = .ok (.aload 6, 2) := by decide +kernel
theorem dL_law_299 : decode cL_law 299 = .ok (.iload 7, 2) := by decide +kernel
theorem dL_law_301 : decode cL_law 301 = .ok (.iaload, 1) := by decide +kernel
theorem dL_law_302 : decode cL_law 302 = .ok (.invokestatic 141, 3) := by decide +kernel
theorem dL_law_305 : decode cL_law 305 = .ok (.iload 7, 2) := by decide +kernel
theorem dL_law_307 : decode cL_law 307 = .ok (.if_icmp .ne 30, 3) := by decide +kernel
theorem dL_law_310 : decode cL_law 310 = .ok (.aload_n 1, 1) := by decide +kernel
theorem dL_law_311 : decode cL_law 311 = .ok (.iload 7, 2) := by decide +kernel
theorem dL_law_313 : decode cL_law 313 = .ok (.invokestatic 102, 3) := by decide +kernel
theorem dL_law_316 : decode cL_law 316 = .ok (.aload 5, 2) := by decide +kernel
theorem dL_law_318 : decode cL_law 318 = .ok (.iload 7, 2) := by decide +kernel
theorem dL_law_320 : decode cL_law 320 = .ok (.iaload, 1) := by decide +kernel
theorem dL_law_321 : decode cL_law 321 = .ok (.if_icmp .ne 16, 3) := by decide +kernel
theorem dL_law_324 : decode cL_law 324 = .ok (.aload_n 1, 1) := by decide +kernel
theorem dL_law_325 : decode cL_law 325 = .ok (.iload 7, 2) := by decide +kernel
theorem dL_law_327 : decode cL_law 327 = .ok (.invokestatic 105, 3) := by decide +kernel
theorem dL_law_330 : decode cL_law 330 = .ok (.ifCond .ne 7, 3) := by decide +kernel
theorem dL_law_333 : decode cL_law 333 = .ok (.iconst 1, 1) := by decide +kernel
theorem dL_law_334 : decode cL_law 334 = .ok (.goto 4, 3) := by decide +kernel
theorem dL_law_337 : decode cL_law 337 = .ok (.iconst 0, 1) := by decide +kernel
theorem dL_law_338 : decode cL_law 338 = .ok (.istore_n 2, 1) := by decide +kernel
theorem dL_law_339 : decode cL_law 339 = .ok (.iinc 7 1, 3) := by decide +kernel
theorem dL_law_342 : decode cL_law 342 = .ok (.goto 519, 3) := by decide +kernel
theorem dL_law_345 : decode cL_law 345 = .ok (.iload 9, 2) := by decide +kernel
theorem dL_law_347 : decode cL_law 347 = .ok (.bipush 8, 2) := by decide +kernel
theorem dL_law_349 : decode cL_law 349 = .ok (.irem, 1) := by decide +kernel
theorem dL_law_350 : decode cL_law 350 = .ok (.iconst 4, 1) := by decide +kernel
theorem dL_law_351 : decode cL_law 351 = .ok (.if_icmp .ge 275, 3) := by decide +kernel
theorem dL_law_354 : decode cL_law 354 = .ok (.aload_n 1, 1) := by decide +kernel
theorem dL_law_355 : decode cL_law 355 = .ok (.invokevirtual 116, 3) := by decide +kernel
theorem dL_law_358 : decode cL_law 358 = .ok (.istore 14, 2) := by decide +kernel
theorem dL_law_360 : decode cL_law 360 = .ok (.iconst 0, 1) := by decide +kernel
theorem dL_law_361 : decode cL_law 361 = .ok (.istore 15, 2) := by decide +kernel
theorem dL_law_363 : decode cL_law 363 = .ok (.iconst 0, 1) := by decide +kernel
theorem dL_law_364 : decode cL_law 364 = .ok (.istore 16, 2) := by decide +kernel
theorem dL_law_366 : decode cL_law 366 = .ok (.iload 16, 2) := by decide +kernel
theorem dL_law_368 : decode cL_law 368 = .ok (.iload 7, 2) := by decide +kernel
theorem dL_law_370 : decode cL_law 370 = .ok (.if_icmp .ge 28, 3) := by decide +kernel
theorem dL_law_373 : decode cL_law 373 = .ok (.iload 15, 2) := by decide +kernel
theorem dL_law_375 : decode cL_law 375 = .ok (.aload_n 1, 1) := by decide +kernel
theorem dL_law_376 : decode cL_law 376 = .ok (.iload 16, 2) := by decide +kernel
theorem dL_law_378 : decode cL_law 378 = .ok (.invokestatic 107, 3) := by decide +kernel
theorem dL_law_381 : decode cL_law 381 = .ok (.ifCond .lt 7, 3) := by decide +kernel
theorem dL_law_384 : decode cL_law 384 = .ok (.iconst 1, 1) := by decide +kernel
theorem dL_law_385 : decode cL_law 385 = .ok (.goto 4, 3) := by decide +kernel
theorem dL_law_388 : decode cL_law 388 = .ok (.iconst 0, 1) := by decide +kernel
theorem dL_law_389 : decode cL_law 389 = .ok (.isub, 1) := by decide +kernel
theorem dL_law_390 : decode cL_law 390 = .ok (.istore 15, 2) := by decide +kernel
theorem dL_law_392 : decode cL_law 392 = .ok (.iinc 16 1, 3) := by decide +kernel
theorem dL_law_395 : decode cL_law 395 = .ok (.goto (-29), 3) := by decide +kernel
theorem dL_law_398 : decode cL_law 398 = .ok (.aload_n 1, 1) := by decide +kernel
theorem dL_law_399 : decode cL_law 399 = .ok (.iconst 1, 1) := by decide +kernel
theorem dL_law_400 : decode cL_law 400 = .ok (.iload 10, 2) := by decide +kernel
theorem dL_law_402 : decode cL_law 402 = .ok (.bipush 12, 2) := by decide +kernel
theorem dL_law_404 : decode cL_law 404 = .ok (.irem, 1) := by decide +kernel
theorem dL_law_405 : decode cL_law 405 = .ok (.iadd, 1) := by decide +kernel
theorem dL_law_406 : decode cL_law 406 = .ok (.invokestatic 143, 3) := by decide +kernel
theorem dL_law_409 : decode cL_law 409 = .ok (.istore 16, 2) := by decide +kernel
theorem dL_law_411 : decode cL_law 411 = .ok (.iconst 0, 1) := by decide +kernel
theorem dL_law_412 : decode cL_law 412 = .ok (.istore 17, 2) := by decide +kernel
theorem dL_law_414 : decode cL_law 414 = .ok (.iload 17, 2) := by decide +kernel
theorem dL_law_416 : decode cL_law 416 = .ok (.iload 7, 2) := by decide +kernel
theorem dL_law_418 : decode cL_law 418 = .ok (.if_icmp .ge 28, 3) := by decide +kernel
theorem dL_law_421 : decode cL_law 421 = .ok (.iload 15, 2) := by decide +kernel
theorem dL_law_423 : decode cL_law 423 = .ok (.aload_n 1, 1) := by decide +kernel
theorem dL_law_424 : decode cL_law 424 = .ok (.iload 17, 2) := by decide +kernel
theorem dL_law_426 : decode cL_law 426 = .ok (.invokestatic 107, 3) := by decide +kernel
theorem dL_law_429 : decode cL_law 429 = .ok (.ifCond .lt 7, 3) := by decide +kernel
theorem dL_law_432 : decode cL_law 432 = .ok (.iconst 1, 1) := by decide +kernel
theorem dL_law_433 : decode cL_law 433 = .ok (.goto 4, 3) := by decide +kernel
theorem dL_law_436 : decode cL_law 436 = .ok (.iconst 0, 1) := by decide +kernel
theorem dL_law_437 : decode cL_law 437 = .ok (.iadd, 1) := by decide +kernel
theorem dL_law_438 : decode cL_law 438 = .ok (.istore 15, 2) := by decide +kernel
theorem dL_law_440 : decode cL_law 440 = .ok (.iinc 17 1, 3) := by decide +kernel
theorem dL_law_443 : decode cL_law 443 = .ok (.goto (-29), 3) := by decide +kernel
theorem dL_law_446 : decode cL_law 446 = .ok (.iload 16, 2) := by decide +kernel
theorem dL_law_448 : decode cL_law 448 = .ok (.iload 15, 2) := by decide +kernel
theorem dL_law_450 : decode cL_law 450 = .ok (.if_icmp .ne 24, 3) := by decide +kernel
theorem dL_law_453 : decode cL_law 453 = .ok (.aload_n 1, 1) := by decide +kernel
theorem dL_law_454 : decode cL_law 454 = .ok (.invokevirtual 116, 3) := by decide +kernel
theorem dL_law_457 : decode cL_law 457 = .ok (.iload 14, 2) := by decide +kernel
theorem dL_law_459 : decode cL_law 459 = .ok (.iconst 1, 1) := by decide +kernel
theorem dL_law_460 : decode cL_law 460 = .ok (.iadd, 1) := by decide +kernel
theorem dL_law_461 : decode cL_law 461 = .ok (.iload 10, 2) := by decide +kernel
theorem dL_law_463 : decode cL_law 463 = .ok (.bipush 12, 2) := by decide +kernel
theorem dL_law_465 : decode cL_law 465 = .ok (.irem, 1) := by decide +kernel
theorem dL_law_466 : decode cL_law 466 = .ok (.iadd, 1) := by decide +kernel
theorem dL_law_467 : decode cL_law 467 = .ok (.if_icmp .ne 7, 3) := by decide +kernel
theorem dL_law_470 : decode cL_law 470 = .ok (.iconst 1, 1) := by decide +kernel
theorem dL_law_471 : decode cL_law 471 = .ok (.goto 4, 3) := by decide +kernel
theorem dL_law_474 : decode cL_law 474 = .ok (.iconst 0, 1) := by decide +kernel
theorem dL_law_475 : decode cL_law 475 = .ok (.istore_n 2, 1) := by decide +kernel
theorem dL_law_476 : decode cL_law 476 = .ok (.iconst 0, 1) := by decide +kernel
theorem dL_law_477 : decode cL_law 477 = .ok (.istore 17, 2) := by decide +kernel
theorem dL_law_479 : decode cL_law 479 = .ok (.iload 17, 2) := by decide +kernel
theorem dL_law_481 : decode cL_law 481 = .ok (.iload_n 3, 1) := by decide +kernel
theorem dL_law_482 : decode cL_law 482 = .ok (.if_icmp .ge 141, 3) := by decide +kernel
theorem dL_law_485 : decode cL_law 485 = .ok (.iload_n 2, 1) := by decide +kernel
theorem dL_law_486 : decode cL_law 486 = .ok (.ifCond .eq 137, 3) := by decide +kernel
theorem dL_law_489 : decode cL_law 489 = .ok (.aload_n 1, 1) := by decide +kernel
theorem dL_law_490 : decode cL_law 490 = .ok (.iload 17, 2) := by decide +kernel
theorem dL_law_492 : decode cL_law 492 = .ok (.invokestatic 145, 3) := by decide +kernel
theorem dL_law_495 : decode cL_law 495 = .ok (.istore 18, 2) := by decide +kernel
theorem dL_law_497 : decode cL_law 497 = .ok (.iconst 0, 1) := by decide +kernel
theorem dL_law_498 : decode cL_law 498 = .ok (.istore 19, 2) := by decide +kernel
theorem dL_law_500 : decode cL_law 500 = .ok (.iload_n 3, 1) := by decide +kernel
theorem dL_law_501 : decode cL_law 501 = .ok (.istore 20, 2) := by decide +kernel
theorem dL_law_503 : decode cL_law 503 = .ok (.iload 20, 2) := by decide +kernel
theorem dL_law_505 : decode cL_law 505 = .ok (.iload 4, 2) := by decide +kernel
theorem dL_law_507 : decode cL_law 507 = .ok (.if_icmp .ge 45, 3) := by decide +kernel
theorem dL_law_510 : decode cL_law 510 = .ok (.aload_n 1, 1) := by decide +kernel
theorem dL_law_511 : decode cL_law 511 = .ok (.iload 17, 2) := by decide +kernel
theorem dL_law_513 : decode cL_law 513 = .ok (.iload 20, 2) := by decide +kernel
theorem dL_law_515 : decode cL_law 515 = .ok (.aload_n 1, 1) := by decide +kernel
theorem dL_law_516 : decode cL_law 516 = .ok (.invokevirtual 116, 3) := by decide +kernel
theorem dL_law_519 : decode cL_law 519 = .ok (.invokestatic 87, 3) := by decide +kernel
theorem dL_law_522 : decode cL_law 522 = .ok (.iload 19, 2) := by decide +kernel
theorem dL_law_524 : decode cL_law 524 = .ok (.if_icmp .le 18, 3) := by decide +kernel
theorem dL_law_527 : decode cL_law 527 = .ok (.aload_n 1, 1) := by decide +kernel
theorem dL_law_528 : decode cL_law 528 = .ok (.iload 17, 2) := by decide +kernel
theorem dL_law_530 : decode cL_law 530 = .ok (.iload 20, 2) := by decide +kernel
theorem dL_law_532 : decode cL_law 532 = .ok (.aload_n 1, 1) := by decide +kernel
theorem dL_law_533 : decode cL_law 533 = .ok (.invokevirtual 116, 3) := by decide +kernel
theorem dL_law_536 : decode cL_law 536 = .ok (.invokestatic 87, 3) := by decide +kernel
theorem dL_law_539 : decode cL_law 539 = .ok (.goto 5, 3) := by decide +kernel
theorem dL_law_542 : decode cL_law 542 = .ok (.iload 19, 2) := by decide +kernel
theorem dL_law_544 : decode cL_law 544 = .ok (.istore 19, 2) := by decide +kernel
theorem dL_law_546 : decode cL_law 546 = .ok (.iinc 20 1, 3) := by decide +kernel
theorem dL_law_549 : decode cL_law 549 = .ok (.goto (-46), 3) := by decide +kernel
theorem dL_law_552 : decode cL_law 552 = .ok (.iload 18, 2) := by decide +kernel
theorem dL_law_554 : decode cL_law 554 = .ok (.ifCond .ge 16, 3) := by decide +kernel
theorem dL_law_557 : decode cL_law 557 = .ok (.iload 19, 2) := by decide +kernel
theorem dL_law_559 : decode cL_law 559 = .ok (.ifCond .ne 7, 3) := by decide +kernel
theorem dL_law_562 : decode cL_law 562 = .ok (.iconst 1, 1) := by decide +kernel
theorem dL_law_563 : decode cL_law 563 = .ok (.goto 34, 3) := by decide +kernel
theorem dL_law_566 : decode cL_law 566 = .ok (.iconst 0, 1) := by decide +kernel
theorem dL_law_567 : decode cL_law 567 = .ok (.goto 30, 3) := by decide +kernel
theorem dL_law_570 : decode cL_law 570 = .ok (.iload 18, 2) := by decide +kernel
theorem dL_law_572 : decode cL_law 572 = .ok (.iload_n 3, 1) := by decide +kernel
theorem dL_law_573 : decode cL_law 573 = .ok (.if_icmp .lt 23, 3) := by decide +kernel
theorem dL_law_576 : decode cL_law 576 = .ok (.aload_n 1, 1) := by decide +kernel
theorem dL_law_577 : decode cL_law 577 = .ok (.iload 17, 2) := by decide +kernel
theorem dL_law_579 : decode cL_law 579 = .ok (.iload 18, 2) := by decide +kernel
theorem dL_law_581 : decode cL_law 581 = .ok (.aload_n 1, 1) := by decide +kernel
theorem dL_law_582 : decode cL_law 582 = .ok (.invokevirtual 116, 3) := by decide +kernel
theorem dL_law_585 : decode cL_law 585 = .ok (.invokestatic 95, 3) := by decide +kernel
theorem dL_law_588 : decode cL_law 588 = .ok (.iconst 1, 1) := by decide +kernel
theorem dL_law_589 : decode cL_law 589 = .ok (.if_icmp .ne 7, 3) := by decide +kernel
theorem dL_law_592 : decode cL_law 592 = .ok (.iconst 1, 1) := by decide +kernel
theorem dL_law_593 : decode cL_law 593 = .ok (.goto 4, 3) := by decide +kernel
theorem dL_law_596 : decode cL_law 596 = .ok (.iconst 0, 1) := by decide +kernel
theorem dL_law_597 : decode cL_law 597 = .ok (.istore_n 2, 1) := by decide +kernel
theorem dL_law_598 : decode cL_law 598 = .ok (.iload_n 2, 1) := by decide +kernel
theorem dL_law_599 : decode cL_law 599 = .ok (.ifCond .eq 16, 3) := by decide +kernel
theorem dL_law_602 : decode cL_law 602 = .ok (.aload_n 1, 1) := by decide +kernel
theorem dL_law_603 : decode cL_law 603 = .ok (.iload 17, 2) := by decide +kernel
theorem dL_law_605 : decode cL_law 605 = .ok (.invokestatic 147, 3) := by decide +kernel
theorem dL_law_608 : decode cL_law 608 = .ok (.ifCond .lt 7, 3) := by decide +kernel
theorem dL_law_611 : decode cL_law 611 = .ok (.iconst 1, 1) := by decide +kernel
theorem dL_law_612 : decode cL_law 612 = .ok (.goto 4, 3) := by decide +kernel
theorem dL_law_615 : decode cL_law 615 = .ok (.iconst 0, 1) := by decide +kernel
theorem dL_law_616 : decode cL_law 616 = .ok (.istore_n 2, 1) := by decide +kernel
theorem dL_law_617 : decode cL_law 617 = .ok (.iinc 17 1, 3) := by decide +kernel
theorem dL_law_620 : decode cL_law 620 = .ok (.goto (-141), 3) := by decide +kernel
theorem dL_law_623 : decode cL_law 623 = .ok (.goto 238, 3) := by decide +kernel
theorem dL_law_626 : decode cL_law 626 = .ok (.iload 9, 2) := by decide +kernel
theorem dL_law_628 : decode cL_law 628 = .ok (.bipush 8, 2) := by decide +kernel
theorem dL_law_630 : decode cL_law 630 = .ok (.irem, 1) := by decide +kernel
theorem dL_law_631 : decode cL_law 631 = .ok (.iconst 4, 1) := by decide +kernel
theorem dL_law_632 : decode cL_law 632 = .ok (.if_icmp .ne 71, 3) := by decide +kernel
theorem dL_law_635 : decode cL_law 635 = .ok (.iload 11, 2) := by decide +kernel
theorem dL_law_637 : decode cL_law 637 = .ok (.iload_n 3, 1) := by decide +kernel
theorem dL_law_638 : decode cL_law 638 = .ok (.if_icmp .ge 33, 3) := by decide +kernel
theorem dL_law_641 : decode cL_law 641 = .ok (.aload_n 1, 1) := by decide +kernel
theorem dL_law_642 : decode cL_law 642 = .ok (.iload 11, 2) := by decide +kernel
theorem dL_law_644 : decode cL_law 644 = .ok (.invokestatic 145, 3) := by decide +kernel
theorem dL_law_647 : decode cL_law 647 = .ok (.iconst (-1), 1) := by decide +kernel
theorem dL_law_648 : decode cL_law 648 = .ok (.if_icmp .lt 19, 3) := by decide +kernel
theorem dL_law_651 : decode cL_law 651 = .ok (.aload_n 1, 1) := by decide +kernel
theorem dL_law_652 : decode cL_law 652 = .ok (.iload 11, 2) := by decide +kernel
theorem dL_law_654 : decode cL_law 654 = .ok (.iconst 3, 1) := by decide +kernel
theorem dL_law_655 : decode cL_law 655 = .ok (.invokestatic 149, 3) := by decide +kernel
theorem dL_law_658 : decode cL_law 658 = .ok (.bipush (-101), 2) := by decide +kernel
theorem dL_law_660 : decode cL_law 660 = .ok (.if_icmp .ne 7, 3) := by decide +kernel
theorem dL_law_663 : decode cL_law 663 = .ok (.iconst 1, 1) := by decide +kernel
theorem dL_law_664 : decode cL_law 664 = .ok (.goto 35, 3) := by decide +kernel
theorem dL_law_667 : decode cL_law 667 = .ok (.iconst 0, 1) := by decide +kernel
theorem dL_law_668 : decode cL_law 668 = .ok (.goto 31, 3) := by decide +kernel
theorem dL_law_671 : decode cL_law 671 = .ok (.aload_n 1, 1) := by decide +kernel
theorem dL_law_672 : decode cL_law 672 = .ok (.iload 11, 2) := by decide +kernel
theorem dL_law_674 : decode cL_law 674 = .ok (.bipush 9, 2) := by decide +kernel
theorem dL_law_676 : decode cL_law 676 = .ok (.invokestatic 149, 3) := by decide +kernel
theorem dL_law_679 : decode cL_law 679 = .ok (.iconst 1, 1) := by decide +kernel
theorem dL_law_680 : decode cL_law 680 = .ok (.if_icmp .lt 18, 3) := by decide +kernel
theorem dL_law_683 : decode cL_law 683 = .ok (.aload_n 1, 1) := by decide +kernel
theorem dL_law_684 : decode cL_law 684 = .ok (.iload 11, 2) := by decide +kernel
theorem dL_law_686 : decode cL_law 686 = .ok (.invokestatic 145, 3) := by decide +kernel
theorem dL_law_689 : decode cL_law 689 = .ok (.bipush (-101), 2) := by decide +kernel
theorem dL_law_691 : decode cL_law 691 = .ok (.if_icmp .ne 7, 3) := by decide +kernel
theorem dL_law_694 : decode cL_law 694 = .ok (.iconst 1, 1) := by decide +kernel
theorem dL_law_695 : decode cL_law 695 = .ok (.goto 4, 3) := by decide +kernel
theorem dL_law_698 : decode cL_law 698 = .ok (.iconst 0, 1) := by decide +kernel
theorem dL_law_699 : decode cL_law 699 = .ok (.istore_n 2, 1) := by decide +kernel
theorem dL_law_700 : decode cL_law 700 = .ok (.goto 161, 3) := by decide +kernel
theorem dL_law_703 : decode cL_law 703 = .ok (.aload_n 1, 1) := by decide +kernel
theorem dL_law_704 : decode cL_law 704 = .ok (.iload 11, 2) := by decide +kernel
theorem dL_law_706 : decode cL_law 706 = .ok (.iload 12, 2) := by decide +kernel
theorem dL_law_708 : decode cL_law 708 = .ok (.iload 13, 2) := by decide +kernel
theorem dL_law_710 : decode cL_law 710 = .ok (.invokestatic 151, 3) := by decide +kernel
theorem dL_law_713 : decode cL_law 713 = .ok (.ifCond .eq 22, 3) := by decide +kernel
theorem dL_law_716 : decode cL_law 716 = .ok (.aload_n 1, 1) := by decide +kernel
theorem dL_law_717 : decode cL_law 717 = .ok (.iload 11, 2) := by decide +kernel
theorem dL_law_719 : decode cL_law 719 = .ok (.iload 12, 2) := by decide +kernel
theorem dL_law_721 : decode cL_law 721 = .ok (.aload_n 1, 1) := by decide +kernel
theorem dL_law_722 : decode cL_law 722 = .ok (.invokevirtual 116, 3) := by decide +kernel
theorem dL_law_725 : decode cL_law 725 = .ok (.invokestatic 151, 3) := by decide +kernel
theorem dL_law_728 : decode cL_law 728 = .ok (.ifCond .eq 7, 3) := by decide +kernel
theorem dL_law_731 : decode cL_law 731 = .ok (.iconst 1, 1) := by decide +kernel
theorem dL_law_732 : decode cL_law 732 = .ok (.goto 4, 3) := by decide +kernel
theorem dL_law_735 : decode cL_law 735 = .ok (.iconst 0, 1) := by decide +kernel
theorem dL_law_736 : decode cL_law 736 = .ok (.istore_n 2, 1) := by decide +kernel
theorem dL_law_737 : decode cL_law 737 = .ok (.aload_n 1, 1) := by decide +kernel
theorem dL_law_738 : decode cL_law 738 = .ok (.iload 11, 2) := by decide +kernel
theorem dL_law_740 : decode cL_law 740 = .ok (.iload 13, 2) := by decide +kernel
theorem dL_law_742 : decode cL_law 742 = .ok (.iconst 0, 1) := by decide +kernel
theorem dL_law_743 : decode cL_law 743 = .ok (.invokestatic 155, 3) := by decide +kernel
theorem dL_law_746 : decode cL_law 746 = .ok (.istore 14, 2) := by decide +kernel
theorem dL_law_748 : decode cL_law 748 = .ok (.iload_n 2, 1) := by decide +kernel
theorem dL_law_749 : decode cL_law 749 = .ok (.ifCond .eq 13, 3) := by decide +kernel
theorem dL_law_752 : decode cL_law 752 = .ok (.iload 14, 2) := by decide +kernel
theorem dL_law_754 : decode cL_law 754 = .ok (.iconst 1, 1) := by decide +kernel
theorem dL_law_755 : decode cL_law 755 = .ok (.if_icmp .ne 7, 3) := by decide +kernel
theorem dL_law_758 : decode cL_law 758 = .ok (.iconst 1, 1) := by decide +kernel
theorem dL_law_759 : decode cL_law 759 = .ok (.goto 4, 3) := by decide +kernel
theorem dL_law_762 : decode cL_law 762 = .ok (.iconst 0, 1) := by decide +kernel
theorem dL_law_763 : decode cL_law 763 = .ok (.istore_n 2, 1) := by decide +kernel
theorem dL_law_764 : decode cL_law 764 = .ok (.iconst 1, 1) := by decide +kernel
theorem dL_law_765 : decode cL_law 765 = .ok (.istore 15, 2) := by decide +kernel
theorem dL_law_767 : decode cL_law 767 = .ok (.iload 15, 2) := by decide +kernel
theorem dL_law_769 : decode cL_law 769 = .ok (.sipush 400, 3) := by decide +kernel
theorem dL_law_772 : decode cL_law 772 = .ok (.if_icmp .gt 89, 3) := by decide +kernel
theorem dL_law_775 : decode cL_law 775 = .ok (.iload_n 2, 1) := by decide +kernel
theorem dL_law_776 : decode cL_law 776 = .ok (.ifCond .eq 85, 3) := by decide +kernel
theorem dL_law_779 : decode cL_law 779 = .ok (.aload_n 1, 1) := by decide +kernel
theorem dL_law_780 : decode cL_law 780 = .ok (.iload 11, 2) := by decide +kernel
theorem dL_law_782 : decode cL_law 782 = .ok (.iload 13, 2) := by decide +kernel
theorem dL_law_784 : decode cL_law 784 = .ok (.iload 15, 2) := by decide +kernel
theorem dL_law_786 : decode cL_law 786 = .ok (.invokestatic 155, 3) := by decide +kernel
theorem dL_law_789 : decode cL_law 789 = .ok (.istore 16, 2) := by decide +kernel
theorem dL_law_791 : decode cL_law 791 = .ok (.aload_n 1, 1) := by decide +kernel
theorem dL_law_792 : decode cL_law 792 = .ok (.iload 11, 2) := by decide +kernel
theorem dL_law_794 : decode cL_law 794 = .ok (.iload 12, 2) := by decide +kernel
theorem dL_law_796 : decode cL_law 796 = .ok (.iload 13, 2) := by decide +kernel
theorem dL_law_798 : decode cL_law 798 = .ok (.invokestatic 97, 3) := by decide +kernel
theorem dL_law_801 : decode cL_law 801 = .ok (.istore 17, 2) := by decide +kernel
theorem dL_law_803 : decode cL_law 803 = .ok (.iload 16, 2) := by decide +kernel
theorem dL_law_805 : decode cL_law 805 = .ok (.iload 14, 2) := by decide +kernel
theorem dL_law_807 : decode cL_law 807 = .ok (.if_icmp .lt 42, 3) := by decide +kernel
theorem dL_law_810 : decode cL_law 810 = .ok (.iload 16, 2) := by decide +kernel
theorem dL_law_812 : decode cL_law 812 = .ok (.iload 4, 2) := by decide +kernel
theorem dL_law_814 : decode cL_law 814 = .ok (.if_icmp .gt 35, 3) := by decide +kernel
theorem dL_law_817 : decode cL_law 817 = .ok (.iload 17, 2) := by decide +kernel
theorem dL_law_819 : decode cL_law 819 = .ok (.ifCond .lt 26, 3) := by decide +kernel
theorem dL_law_822 : decode cL_law 822 = .ok (.iload 17, 2) := by decide +kernel
theorem dL_law_824 : decode cL_law 824 = .ok (.iload 13, 2) := by decide +kernel
theorem dL_law_826 : decode cL_law 826 = .ok (.iload 15, 2) := by decide +kernel
theorem dL_law_828 : decode cL_law 828 = .ok (.iadd, 1) := by decide +kernel
theorem dL_law_829 : decode cL_law 829 = .ok (.if_icmp .gt 16, 3) := by decide +kernel
theorem dL_law_832 : decode cL_law 832 = .ok (.iload 11, 2) := by decide +kernel
theorem dL_law_834 : decode cL_law 834 = .ok (.iload 12, 2) := by decide +kernel
theorem dL_law_836 : decode cL_law 836 = .ok (.if_icmp .eq 9, 3) := by decide +kernel
theorem dL_law_839 : decode cL_law 839 = .ok (.iload 16, 2) := by decide +kernel
theorem dL_law_841 : decode cL_law 841 = .ok (.iconst 2, 1) := by decide +kernel
theorem dL_law_842 : decode cL_law 842 = .ok (.if_icmp .lt 7, 3) := by decide +kernel
theorem dL_law_845 : decode cL_law 845 = .ok (.iconst 1, 1) := by decide +kernel
theorem dL_law_846 : decode cL_law 846 = .ok (.goto 4, 3) := by decide +kernel
theorem dL_law_849 : decode cL_law 849 = .ok (.iconst 0, 1) := by decide +kernel
theorem dL_law_850 : decode cL_law 850 = .ok (.istore_n 2, 1) := by decide +kernel
theorem dL_law_851 : decode cL_law 851 = .ok (.iload 16, 2) := by decide +kernel
theorem dL_law_853 : decode cL_law 853 = .ok (.istore 14, 2) := by decide +kernel
theorem dL_law_855 : decode cL_law 855 = .ok (.iinc 15 57, 3) := by decide +kernel
theorem dL_law_858 : decode cL_law 858 = .ok (.goto (-91), 3) := by decide +kernel
theorem dL_law_861 : decode cL_law 861 = .ok (.iload_n 2, 1) := by decide +kernel
theorem dL_law_862 : decode cL_law 862 = .ok (.ifCond .eq 22, 3) := by decide +kernel
theorem dL_law_865 : decode cL_law 865 = .ok (.aload_n 1, 1) := by decide +kernel
theorem dL_law_866 : decode cL_law 866 = .ok (.iload 7, 2) := by decide +kernel
theorem dL_law_868 : decode cL_law 868 = .ok (.aload 5, 2) := by decide +kernel
theorem dL_law_870 : decode cL_law 870 = .ok (.aload 6, 2) := by decide +kernel
theorem dL_law_872 : decode cL_law 872 = .ok (.iload 4, 2) := by decide +kernel
theorem dL_law_874 : decode cL_law 874 = .ok (.invokestatic 157, 3) := by decide +kernel
theorem dL_law_877 : decode cL_law 877 = .ok (.ifCond .eq 7, 3) := by decide +kernel
theorem dL_law_880 : decode cL_law 880 = .ok (.iconst 1, 1) := by decide +kernel
theorem dL_law_881 : decode cL_law 881 = .ok (.goto 4, 3) := by decide +kernel
theorem dL_law_884 : decode cL_law 884 = .ok (.iconst 0, 1) := by decide +kernel
theorem dL_law_885 : decode cL_law 885 = .ok (.istore_n 2, 1) := by decide +kernel
theorem dL_law_886 : decode cL_law 886 = .ok (.iinc 8 1, 3) := by decide +kernel
theorem dL_law_889 : decode cL_law 889 = .ok (.goto (-703), 3) := by decide +kernel
theorem dL_law_892 : decode cL_law 892 = .ok (.iload_n 2, 1) := by decide +kernel
theorem dL_law_893 : decode cL_law 893 = .ok (.ireturn, 1) := by decide +kernel
