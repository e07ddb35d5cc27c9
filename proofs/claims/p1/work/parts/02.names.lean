/-! ===== BEGIN printed: names, fields, word lists, decode rows ===== -/
def RX0 : String := "Satellitering$Message"
def TX0 : u_T := fun k => match k with
  | 0 => ("Satellitering$Message", "goal", "I", true)
  | 1 => ("Satellitering$Message", "timetable", "LSatellitering$Timetable;", true)
  | 2 => ("Satellitering$Message", "node", "I", false)
  | 3 => ("Satellitering$Message", "since", "I", false)
  | 4 => ("Satellitering$Message", "blocks", "I", false)
  | 5 => ("Satellitering$Message", "hopCount", "I", false)
  | 6 => ("Satellitering$Message", "hopNodes", "[I", false)
  | _ => ("Satellitering$Message", "hopMinutes", "[I", false)
def tyX0 : Nat → FieldType := fun k => match k with
  | 0 => .int
  | 1 => .object "Satellitering$Timetable"
  | 2 => .int
  | 3 => .int
  | 4 => .int
  | 5 => .int
  | 6 => .array .int
  | _ => .array .int
abbrev wsX00 : List Cond := u_ws RX0 TX0 8
theorem nmX0 : ∀ a, a < 8 → ∀ b, b < 8 → a ≠ b → (TX0 a).2.1 ≠ (TX0 b).2.1 := by decide +kernel
theorem tyX0_ok : ∀ k, k < 8 → parseFieldDescriptor (TX0 k).2.2.1 = some (tyX0 k) := by decide +kernel
abbrev cX0_init : ByteArray := prog_2_method_1_code
def yX0_init : MethodName := ⟨RX0, "<init>", "(IILSatellitering$Timetable;)V"⟩
abbrev cX0_isAtGoal : ByteArray := prog_2_method_2_code
def yX0_isAtGoal : MethodName := ⟨RX0, "isAtGoal", "()Z"⟩
abbrev cX0_handTo : ByteArray := prog_2_method_3_code
def yX0_handTo : MethodName := ⟨RX0, "handTo", "(II)V"⟩
def RX1 : String := "Satellitering$Search"
def TX1 : u_T := fun k => match k with
  | 0 => ("Satellitering$Search", "sky", "LSatellitering$Sky;", true)
  | _ => ("Satellitering$Search", "reached", "[I", true)
def tyX1 : Nat → FieldType := fun k => match k with
  | 0 => .object "Satellitering$Sky"
  | _ => .array .int
abbrev wsX10 : List Cond := u_ws RX1 TX1 2
theorem nmX1 : ∀ a, a < 2 → ∀ b, b < 2 → a ≠ b → (TX1 a).2.1 ≠ (TX1 b).2.1 := by decide +kernel
theorem tyX1_ok : ∀ k, k < 2 → parseFieldDescriptor (TX1 k).2.2.1 = some (tyX1 k) := by decide +kernel
abbrev cX1_init : ByteArray := prog_3_method_1_code
def yX1_init : MethodName := ⟨RX1, "<init>", "(LSatellitering$Sky;)V"⟩
abbrev cX1_byContacts : ByteArray := prog_3_method_2_code
def yX1_byContacts : MethodName := ⟨RX1, "byContacts", "(III)I"⟩
abbrev cX1_earliestReached : ByteArray := prog_3_method_3_code
def yX1_earliestReached : MethodName := ⟨RX1, "earliestReached", "(II)I"⟩
abbrev cX1_goOnFrom : ByteArray := prog_3_method_4_code
def yX1_goOnFrom : MethodName := ⟨RX1, "goOnFrom", "(II)V"⟩
abbrev cX1_byFlooding : ByteArray := prog_3_method_5_code
def yX1_byFlooding : MethodName := ⟨RX1, "byFlooding", "(III)I"⟩
abbrev cX1_flooded : ByteArray := prog_3_method_6_code
def yX1_flooded : MethodName := ⟨RX1, "flooded", "(III)I"⟩
abbrev cX1_floodedNext : ByteArray := prog_3_method_7_code
def yX1_floodedNext : MethodName := ⟨RX1, "floodedNext", "(II)I"⟩
def RX2 : String := "Satellitering$Sky"
def TX2 : u_T := fun k => match k with
  | 0 => ("Satellitering$Sky", "places", "[I", true)
  | 1 => ("Satellitering$Sky", "speeds", "[I", true)
  | 2 => ("Satellitering$Sky", "reaches", "[I", true)
  | 3 => ("Satellitering$Sky", "seen", "[[I", true)
  | _ => ("Satellitering$Sky", "count", "I", false)
def tyX2 : Nat → FieldType := fun k => match k with
  | 0 => .array .int
  | 1 => .array .int
  | 2 => .array .int
  | 3 => .array (.array .int)
  | _ => .int
abbrev wsX20 : List Cond := u_ws RX2 TX2 5
theorem nmX2 : ∀ a, a < 5 → ∀ b, b < 5 → a ≠ b → (TX2 a).2.1 ≠ (TX2 b).2.1 := by decide +kernel
theorem tyX2_ok : ∀ k, k < 5 → parseFieldDescriptor (TX2 k).2.2.1 = some (tyX2 k) := by decide +kernel
abbrev cX2_init : ByteArray := prog_4_method_1_code
def yX2_init : MethodName := ⟨RX2, "<init>", "()V"⟩
abbrev cX2_addNode : ByteArray := prog_4_method_2_code
def yX2_addNode : MethodName := ⟨RX2, "addNode", "(III)I"⟩
abbrev cX2_markContacts : ByteArray := prog_4_method_3_code
def yX2_markContacts : MethodName := ⟨RX2, "markContacts", "(II)V"⟩
abbrev cX2_commonReach : ByteArray := prog_4_method_4_code
def yX2_commonReach : MethodName := ⟨RX2, "commonReach", "(II)I"⟩
abbrev cX2_distance : ByteArray := prog_4_method_5_code
def yX2_distance : MethodName := ⟨RX2, "distance", "(II)I"⟩
abbrev cX2_placeOf : ByteArray := prog_4_method_6_code
def yX2_placeOf : MethodName := ⟨RX2, "placeOf", "(II)I"⟩
abbrev cX2_seenFrom : ByteArray := prog_4_method_7_code
def yX2_seenFrom : MethodName := ⟨RX2, "seenFrom", "(II)I"⟩
abbrev cX2_inContact : ByteArray := prog_4_method_8_code
def yX2_inContact : MethodName := ⟨RX2, "inContact", "(III)Z"⟩
abbrev cX2_firstContact : ByteArray := prog_4_method_9_code
def yX2_firstContact : MethodName := ⟨RX2, "firstContact", "(III)I"⟩
abbrev cX2_contactLength : ByteArray := prog_4_method_10_code
def yX2_contactLength : MethodName := ⟨RX2, "contactLength", "(III)I"⟩
def RX3 : String := "Satellitering$Station"
def TX3 : u_T := fun k => match k with
  | 0 => ("Satellitering$Station", "timetable", "LSatellitering$Timetable;", true)
  | 1 => ("Satellitering$Station", "relay", "I", false)
  | _ => ("Satellitering$Station", "handoverCount", "I", false)
def tyX3 : Nat → FieldType := fun k => match k with
  | 0 => .object "Satellitering$Timetable"
  | 1 => .int
  | _ => .int
abbrev wsX30 : List Cond := u_ws RX3 TX3 3
theorem nmX3 : ∀ a, a < 3 → ∀ b, b < 3 → a ≠ b → (TX3 a).2.1 ≠ (TX3 b).2.1 := by decide +kernel
theorem tyX3_ok : ∀ k, k < 3 → parseFieldDescriptor (TX3 k).2.2.1 = some (tyX3 k) := by decide +kernel
abbrev cX3_init : ByteArray := prog_5_method_1_code
def yX3_init : MethodName := ⟨RX3, "<init>", "(LSatellitering$Timetable;)V"⟩
def RX4 : String := "Satellitering$Timetable"
def TX4 : u_T := fun k => match k with
  | 0 => ("Satellitering$Timetable", "sky", "LSatellitering$Sky;", true)
  | 1 => ("Satellitering$Timetable", "goal", "I", true)
  | 2 => ("Satellitering$Timetable", "left", "[[I", true)
  | 3 => ("Satellitering$Timetable", "soonest", "[I", false)
  | 4 => ("Satellitering$Timetable", "soonestBefore", "[I", false)
  | _ => ("Satellitering$Timetable", "nodesKnown", "I", false)
def tyX4 : Nat → FieldType := fun k => match k with
  | 0 => .object "Satellitering$Sky"
  | 1 => .int
  | 2 => .array (.array .int)
  | 3 => .array .int
  | 4 => .array .int
  | _ => .int
abbrev wsX40 : List Cond := u_ws RX4 TX4 6
theorem nmX4 : ∀ a, a < 6 → ∀ b, b < 6 → a ≠ b → (TX4 a).2.1 ≠ (TX4 b).2.1 := by decide +kernel
theorem tyX4_ok : ∀ k, k < 6 → parseFieldDescriptor (TX4 k).2.2.1 = some (tyX4 k) := by decide +kernel
abbrev cX4_init : ByteArray := prog_6_method_1_code
def yX4_init : MethodName := ⟨RX4, "<init>", "(LSatellitering$Sky;I)V"⟩
abbrev cX4_nextNode : ByteArray := prog_6_method_2_code
def yX4_nextNode : MethodName := ⟨RX4, "nextNode", "(II)I"⟩
abbrev cX4_reckon : ByteArray := prog_6_method_3_code
def yX4_reckon : MethodName := ⟨RX4, "reckon", "()V"⟩
abbrev cX4_stepBack : ByteArray := prog_6_method_4_code
def yX4_stepBack : MethodName := ⟨RX4, "stepBack", "(I)V"⟩
abbrev cX4_soonestThrough : ByteArray := prog_6_method_5_code
def yX4_soonestThrough : MethodName := ⟨RX4, "soonestThrough", "(II)I"⟩
abbrev cX4_writeDown : ByteArray := prog_6_method_6_code
def yX4_writeDown : MethodName := ⟨RX4, "writeDown", "(I)V"⟩
def RX5 : String := "Satellitering"
def TX5 : u_T := fun k => match k with
  | 0 => ("Satellitering", "sky", "LSatellitering$Sky;", true)
  | 1 => ("Satellitering", "search", "LSatellitering$Search;", true)
  | 2 => ("Satellitering", "stations", "[LSatellitering$Station;", true)
  | 3 => ("Satellitering", "capacities", "[I", true)
  | 4 => ("Satellitering", "sent", "[LSatellitering$Message;", true)
  | 5 => ("Satellitering", "stationCount", "I", false)
  | 6 => ("Satellitering", "relayCount", "I", false)
  | 7 => ("Satellitering", "sentCount", "I", false)
  | _ => ("Satellitering", "now", "I", false)
def tyX5 : Nat → FieldType := fun k => match k with
  | 0 => .object "Satellitering$Sky"
  | 1 => .object "Satellitering$Search"
  | 2 => .array (.object "Satellitering$Station")
  | 3 => .array .int
  | 4 => .array (.object "Satellitering$Message")
  | 5 => .int
  | 6 => .int
  | 7 => .int
  | _ => .int
abbrev wsX50 : List Cond := u_ws RX5 TX5 9
theorem nmX5 : ∀ a, a < 9 → ∀ b, b < 9 → a ≠ b → (TX5 a).2.1 ≠ (TX5 b).2.1 := by decide +kernel
theorem tyX5_ok : ∀ k, k < 9 → parseFieldDescriptor (TX5 k).2.2.1 = some (tyX5 k) := by decide +kernel
abbrev cX5_init : ByteArray := prog_1_method_1_code
def yX5_init : MethodName := ⟨RX5, "<init>", "()V"⟩
abbrev cX5_addStation : ByteArray := prog_1_method_2_code
def yX5_addStation : MethodName := ⟨RX5, "addStation", "(I)I"⟩
abbrev cX5_addRelay : ByteArray := prog_1_method_3_code
def yX5_addRelay : MethodName := ⟨RX5, "addRelay", "(IIII)I"⟩
abbrev cX5_setCapacity : ByteArray := prog_1_method_4_code
def yX5_setCapacity : MethodName := ⟨RX5, "setCapacity", "(II)I"⟩
abbrev cX5_nodes : ByteArray := prog_1_method_5_code
def yX5_nodes : MethodName := ⟨RX5, "nodes", "()I"⟩
abbrev cX5_placeAt : ByteArray := prog_1_method_6_code
def yX5_placeAt : MethodName := ⟨RX5, "placeAt", "(II)I"⟩
abbrev cX5_see : ByteArray := prog_1_method_7_code
def yX5_see : MethodName := ⟨RX5, "see", "(III)Z"⟩
abbrev cX5_nextContact : ByteArray := prog_1_method_8_code
def yX5_nextContact : MethodName := ⟨RX5, "nextContact", "(III)I"⟩
abbrev cX5_view : ByteArray := prog_1_method_9_code
def yX5_view : MethodName := ⟨RX5, "view", "(III)I"⟩
abbrev cX5_arrival : ByteArray := prog_1_method_10_code
def yX5_arrival : MethodName := ⟨RX5, "arrival", "(III)I"⟩
abbrev cX5_arrivalByFlooding : ByteArray := prog_1_method_11_code
def yX5_arrivalByFlooding : MethodName := ⟨RX5, "arrivalByFlooding", "(III)I"⟩
abbrev cX5_spread : ByteArray := prog_1_method_12_code
def yX5_spread : MethodName := ⟨RX5, "spread", "(III)I"⟩
abbrev cX5_send : ByteArray := prog_1_method_13_code
def yX5_send : MethodName := ⟨RX5, "send", "(II)I"⟩
abbrev cX5_pass : ByteArray := prog_1_method_14_code
def yX5_pass : MethodName := ⟨RX5, "pass", "(I)I"⟩
abbrev cX5_now : ByteArray := prog_1_method_15_code
def yX5_now : MethodName := ⟨RX5, "now", "()I"⟩
abbrev cX5_messages : ByteArray := prog_1_method_16_code
def yX5_messages : MethodName := ⟨RX5, "messages", "()I"⟩
abbrev cX5_nodeOf : ByteArray := prog_1_method_17_code
def yX5_nodeOf : MethodName := ⟨RX5, "nodeOf", "(I)I"⟩
abbrev cX5_arrivedAt : ByteArray := prog_1_method_18_code
def yX5_arrivedAt : MethodName := ⟨RX5, "arrivedAt", "(I)I"⟩
abbrev cX5_hops : ByteArray := prog_1_method_19_code
def yX5_hops : MethodName := ⟨RX5, "hops", "(I)I"⟩
abbrev cX5_hopNode : ByteArray := prog_1_method_20_code
def yX5_hopNode : MethodName := ⟨RX5, "hopNode", "(II)I"⟩
abbrev cX5_hopMinute : ByteArray := prog_1_method_21_code
def yX5_hopMinute : MethodName := ⟨RX5, "hopMinute", "(II)I"⟩
abbrev cX5_blocked : ByteArray := prog_1_method_22_code
def yX5_blocked : MethodName := ⟨RX5, "blocked", "(I)I"⟩
abbrev cX5_load : ByteArray := prog_1_method_23_code
def yX5_load : MethodName := ⟨RX5, "load", "(I)I"⟩
abbrev cX5_relayOf : ByteArray := prog_1_method_24_code
def yX5_relayOf : MethodName := ⟨RX5, "relayOf", "(I)I"⟩
abbrev cX5_handovers : ByteArray := prog_1_method_25_code
def yX5_handovers : MethodName := ⟨RX5, "handovers", "(I)I"⟩
abbrev cX5_passOneMinute : ByteArray := prog_1_method_26_code
def yX5_passOneMinute : MethodName := ⟨RX5, "passOneMinute", "()I"⟩
abbrev cX5_moveOn : ByteArray := prog_1_method_27_code
def yX5_moveOn : MethodName := ⟨RX5, "moveOn", "(LSatellitering$Message;)V"⟩
abbrev cX5_isFull : ByteArray := prog_1_method_28_code
def yX5_isFull : MethodName := ⟨RX5, "isFull", "(I)Z"⟩
abbrev cX5_messagesAt : ByteArray := prog_1_method_29_code
def yX5_messagesAt : MethodName := ⟨RX5, "messagesAt", "(I)I"⟩
abbrev cX5_lookForRelay : ByteArray := prog_1_method_30_code
def yX5_lookForRelay : MethodName := ⟨RX5, "lookForRelay", "(ILSatellitering$Station;)V"⟩
abbrev cX5_inRange : ByteArray := prog_1_method_31_code
def yX5_inRange : MethodName := ⟨RX5, "inRange", "(III)Z"⟩
abbrev cX5_requireArgument : ByteArray := prog_1_method_32_code
def yX5_requireArgument : MethodName := ⟨RX5, "requireArgument", "(Z)V"⟩
abbrev cX5_requireMinute : ByteArray := prog_1_method_33_code
def yX5_requireMinute : MethodName := ⟨RX5, "requireMinute", "(I)V"⟩
abbrev cX5_requireNode : ByteArray := prog_1_method_34_code
def yX5_requireNode : MethodName := ⟨RX5, "requireNode", "(I)V"⟩
abbrev cX5_requireTwoNodesAndMinute : ByteArray := prog_1_method_35_code
def yX5_requireTwoNodesAndMinute : MethodName := ⟨RX5, "requireTwoNodesAndMinute", "(III)V"⟩
abbrev cX5_requireStation : ByteArray := prog_1_method_36_code
def yX5_requireStation : MethodName := ⟨RX5, "requireStation", "(I)LSatellitering$Station;"⟩
abbrev cX5_requireMessage : ByteArray := prog_1_method_37_code
def yX5_requireMessage : MethodName := ⟨RX5, "requireMessage", "(I)LSatellitering$Message;"⟩
abbrev cX5_requireHop : ByteArray := prog_1_method_38_code
def yX5_requireHop : MethodName := ⟨RX5, "requireHop", "(LSatellitering$Message;I)V"⟩
def RX6 : String := "SatelliteringModel"
def TX6 : u_T := fun k => match k with
  | 0 => ("SatelliteringModel", "place", "[I", true)
  | 1 => ("SatelliteringModel", "speed", "[I", true)
  | 2 => ("SatelliteringModel", "reach", "[I", true)
  | 3 => ("SatelliteringModel", "capacity", "[I", true)
  | 4 => ("SatelliteringModel", "isRelay", "[Z", true)
  | 5 => ("SatelliteringModel", "nodes", "I", false)
  | 6 => ("SatelliteringModel", "relays", "I", false)
  | 7 => ("SatelliteringModel", "seen", "[I", true)
  | 8 => ("SatelliteringModel", "relay", "[I", true)
  | 9 => ("SatelliteringModel", "handovers", "[I", true)
  | 10 => ("SatelliteringModel", "at", "[I", true)
  | 11 => ("SatelliteringModel", "to", "[I", true)
  | 12 => ("SatelliteringModel", "arrived", "[I", true)
  | 13 => ("SatelliteringModel", "blocked", "[I", true)
  | 14 => ("SatelliteringModel", "messages", "I", false)
  | 15 => ("SatelliteringModel", "hops", "[I", true)
  | 16 => ("SatelliteringModel", "many", "I", false)
  | 17 => ("SatelliteringModel", "now", "I", false)
  | _ => ("SatelliteringModel", "thrown", "I", false)
def tyX6 : Nat → FieldType := fun k => match k with
  | 0 => .array .int
  | 1 => .array .int
  | 2 => .array .int
  | 3 => .array .int
  | 4 => .array .boolean
  | 5 => .int
  | 6 => .int
  | 7 => .array .int
  | 8 => .array .int
  | 9 => .array .int
  | 10 => .array .int
  | 11 => .array .int
  | 12 => .array .int
  | 13 => .array .int
  | 14 => .int
  | 15 => .array .int
  | 16 => .int
  | 17 => .int
  | _ => .int
abbrev wsX60 : List Cond := u_ws RX6 TX6 19
theorem nmX6 : ∀ a, a < 19 → ∀ b, b < 19 → a ≠ b → (TX6 a).2.1 ≠ (TX6 b).2.1 := by decide +kernel
theorem tyX6_ok : ∀ k, k < 19 → parseFieldDescriptor (TX6 k).2.2.1 = some (tyX6 k) := by decide +kernel
abbrev cX6_init : ByteArray := prog_8_method_1_code
def yX6_init : MethodName := ⟨RX6, "<init>", "()V"⟩
abbrev cX6_thrown : ByteArray := prog_8_method_2_code
def yX6_thrown : MethodName := ⟨RX6, "thrown", "()I"⟩
abbrev cX6_goes : ByteArray := prog_8_method_3_code
def yX6_goes : MethodName := ⟨RX6, "goes", "(ZZZ)Z"⟩
abbrev cX6_isNode : ByteArray := prog_8_method_4_code
def yX6_isNode : MethodName := ⟨RX6, "isNode", "(I)Z"⟩
abbrev cX6_isStation : ByteArray := prog_8_method_5_code
def yX6_isStation : MethodName := ⟨RX6, "isStation", "(I)Z"⟩
abbrev cX6_isMessage : ByteArray := prog_8_method_6_code
def yX6_isMessage : MethodName := ⟨RX6, "isMessage", "(I)Z"⟩
abbrev cX6_isMinute : ByteArray := prog_8_method_7_code
def yX6_isMinute : MethodName := ⟨RX6, "isMinute", "(I)Z"⟩
abbrev cX6_has : ByteArray := prog_8_method_8_code
def yX6_has : MethodName := ⟨RX6, "has", "(II)Z"⟩
abbrev cX6_placeOf : ByteArray := prog_8_method_9_code
def yX6_placeOf : MethodName := ⟨RX6, "placeOf", "(II)I"⟩
abbrev cX6_sees : ByteArray := prog_8_method_10_code
def yX6_sees : MethodName := ⟨RX6, "sees", "(III)Z"⟩
abbrev cX6_looks : ByteArray := prog_8_method_11_code
def yX6_looks : MethodName := ⟨RX6, "looks", "()V"⟩
abbrev cX6_seenAt : ByteArray := prog_8_method_12_code
def yX6_seenAt : MethodName := ⟨RX6, "seenAt", "(II)I"⟩
abbrev cX6_adds : ByteArray := prog_8_method_13_code
def yX6_adds : MethodName := ⟨RX6, "adds", "(IIIIZ)I"⟩
abbrev cX6_addStation : ByteArray := prog_8_method_14_code
def yX6_addStation : MethodName := ⟨RX6, "addStation", "(I)I"⟩
abbrev cX6_addRelay : ByteArray := prog_8_method_15_code
def yX6_addRelay : MethodName := ⟨RX6, "addRelay", "(IIII)I"⟩
abbrev cX6_setCapacity : ByteArray := prog_8_method_16_code
def yX6_setCapacity : MethodName := ⟨RX6, "setCapacity", "(II)I"⟩
abbrev cX6_nodes : ByteArray := prog_8_method_17_code
def yX6_nodes : MethodName := ⟨RX6, "nodes", "()I"⟩
abbrev cX6_placeAt : ByteArray := prog_8_method_18_code
def yX6_placeAt : MethodName := ⟨RX6, "placeAt", "(II)I"⟩
abbrev cX6_see : ByteArray := prog_8_method_19_code
def yX6_see : MethodName := ⟨RX6, "see", "(III)Z"⟩
abbrev cX6_nextContact : ByteArray := prog_8_method_20_code
def yX6_nextContact : MethodName := ⟨RX6, "nextContact", "(III)I"⟩
abbrev cX6_viewOf : ByteArray := prog_8_method_21_code
def yX6_viewOf : MethodName := ⟨RX6, "viewOf", "(III)I"⟩
abbrev cX6_view : ByteArray := prog_8_method_22_code
def yX6_view : MethodName := ⟨RX6, "view", "(III)I"⟩
abbrev cX6_next : ByteArray := prog_8_method_23_code
def yX6_next : MethodName := ⟨RX6, "next", "(II)I"⟩
abbrev cX6_earliest : ByteArray := prog_8_method_24_code
def yX6_earliest : MethodName := ⟨RX6, "earliest", "(III)I"⟩
abbrev cX6_arrival : ByteArray := prog_8_method_25_code
def yX6_arrival : MethodName := ⟨RX6, "arrival", "(III)I"⟩
abbrev cX6_arrivalByFlooding : ByteArray := prog_8_method_26_code
def yX6_arrivalByFlooding : MethodName := ⟨RX6, "arrivalByFlooding", "(III)I"⟩
abbrev cX6_spread : ByteArray := prog_8_method_27_code
def yX6_spread : MethodName := ⟨RX6, "spread", "(III)I"⟩
abbrev cX6_send : ByteArray := prog_8_method_28_code
def yX6_send : MethodName := ⟨RX6, "send", "(II)I"⟩
abbrev cX6_loadOf : ByteArray := prog_8_method_29_code
def yX6_loadOf : MethodName := ⟨RX6, "loadOf", "(I)I"⟩
abbrev cX6_handTo : ByteArray := prog_8_method_30_code
def yX6_handTo : MethodName := ⟨RX6, "handTo", "(I)I"⟩
abbrev cX6_moves : ByteArray := prog_8_method_31_code
def yX6_moves : MethodName := ⟨RX6, "moves", "(I)I"⟩
abbrev cX6_serves : ByteArray := prog_8_method_32_code
def yX6_serves : MethodName := ⟨RX6, "serves", "(I)V"⟩
abbrev cX6_pass : ByteArray := prog_8_method_33_code
def yX6_pass : MethodName := ⟨RX6, "pass", "(I)I"⟩
abbrev cX6_now : ByteArray := prog_8_method_34_code
def yX6_now : MethodName := ⟨RX6, "now", "()I"⟩
abbrev cX6_messages : ByteArray := prog_8_method_35_code
def yX6_messages : MethodName := ⟨RX6, "messages", "()I"⟩
abbrev cX6_nodeOf : ByteArray := prog_8_method_36_code
def yX6_nodeOf : MethodName := ⟨RX6, "nodeOf", "(I)I"⟩
abbrev cX6_arrivedAt : ByteArray := prog_8_method_37_code
def yX6_arrivedAt : MethodName := ⟨RX6, "arrivedAt", "(I)I"⟩
abbrev cX6_entry : ByteArray := prog_8_method_38_code
def yX6_entry : MethodName := ⟨RX6, "entry", "(II)I"⟩
abbrev cX6_hops : ByteArray := prog_8_method_39_code
def yX6_hops : MethodName := ⟨RX6, "hops", "(I)I"⟩
abbrev cX6_hopNode : ByteArray := prog_8_method_40_code
def yX6_hopNode : MethodName := ⟨RX6, "hopNode", "(II)I"⟩
abbrev cX6_hopMinute : ByteArray := prog_8_method_41_code
def yX6_hopMinute : MethodName := ⟨RX6, "hopMinute", "(II)I"⟩
abbrev cX6_blocked : ByteArray := prog_8_method_42_code
def yX6_blocked : MethodName := ⟨RX6, "blocked", "(I)I"⟩
abbrev cX6_load : ByteArray := prog_8_method_43_code
def yX6_load : MethodName := ⟨RX6, "load", "(I)I"⟩
abbrev cX6_relayOf : ByteArray := prog_8_method_44_code
def yX6_relayOf : MethodName := ⟨RX6, "relayOf", "(I)I"⟩
abbrev cX6_handovers : ByteArray := prog_8_method_45_code
def yX6_handovers : MethodName := ⟨RX6, "handovers", "(I)I"⟩
def RJx145de : String := "java/io/Serializable"
def TJx145de : u_T := fun k => match k with
  | _ => ("", "", "", false)
def tyJx145de : Nat → FieldType := fun k => match k with
  | _ => .int
abbrev wsJx145de0 : List Cond := u_ws RJx145de TJx145de 0
theorem nmJx145de : ∀ a, a < 0 → ∀ b, b < 0 → a ≠ b → (TJx145de a).2.1 ≠ (TJx145de b).2.1 := by decide +kernel
theorem tyJx145de_ok : ∀ k, k < 0 → parseFieldDescriptor (TJx145de k).2.2.1 = some (tyJx145de k) := by decide +kernel
def RJx8e188 : String := "java/lang/Cloneable"
def TJx8e188 : u_T := fun k => match k with
  | _ => ("", "", "", false)
def tyJx8e188 : Nat → FieldType := fun k => match k with
  | _ => .int
abbrev wsJx8e1880 : List Cond := u_ws RJx8e188 TJx8e188 0
theorem nmJx8e188 : ∀ a, a < 0 → ∀ b, b < 0 → a ≠ b → (TJx8e188 a).2.1 ≠ (TJx8e188 b).2.1 := by decide +kernel
theorem tyJx8e188_ok : ∀ k, k < 0 → parseFieldDescriptor (TJx8e188 k).2.2.1 = some (tyJx8e188 k) := by decide +kernel
def RJ6 : String := "java/lang/Integer"
def TJ6 : u_T := fun k => match k with
  | _ => ("", "", "", false)
def tyJ6 : Nat → FieldType := fun k => match k with
  | _ => .int
abbrev wsJ60 : List Cond := u_ws RJ6 TJ6 0
theorem nmJ6 : ∀ a, a < 0 → ∀ b, b < 0 → a ≠ b → (TJ6 a).2.1 ≠ (TJ6 b).2.1 := by decide +kernel
theorem tyJ6_ok : ∀ k, k < 0 → parseFieldDescriptor (TJ6 k).2.2.1 = some (tyJ6 k) := by decide +kernel
abbrev cJ6_bitCount_0f7a4 : ByteArray := prog_15_method_49_code
def yJ6_bitCount_0f7a4 : MethodName := ⟨RJ6, "bitCount", "(I)I"⟩
def RJ9 : String := "java/lang/Math"
def TJ9 : u_T := fun k => match k with
  | _ => ("", "", "", false)
def tyJ9 : Nat → FieldType := fun k => match k with
  | _ => .int
abbrev wsJ90 : List Cond := u_ws RJ9 TJ9 0
theorem nmJ9 : ∀ a, a < 0 → ∀ b, b < 0 → a ≠ b → (TJ9 a).2.1 ≠ (TJ9 b).2.1 := by decide +kernel
theorem tyJ9_ok : ∀ k, k < 0 → parseFieldDescriptor (TJ9 k).2.2.1 = some (tyJ9 k) := by decide +kernel
abbrev cJ9_floorMod_7cf53 : ByteArray := prog_16_method_50_code
def yJ9_floorMod_7cf53 : MethodName := ⟨RJ9, "floorMod", "(II)I"⟩
abbrev cJ9_abs_0f7a4 : ByteArray := prog_16_method_59_code
def yJ9_abs_0f7a4 : MethodName := ⟨RJ9, "abs", "(I)I"⟩
abbrev cJ9_min_7cf53 : ByteArray := prog_16_method_69_code
def yJ9_min_7cf53 : MethodName := ⟨RJ9, "min", "(II)I"⟩
def RJ0 : String := "java/lang/String"
def TJ0 : u_T := fun k => match k with
  | _ => ("", "", "", false)
def tyJ0 : Nat → FieldType := fun k => match k with
  | _ => .int
abbrev wsJ00 : List Cond := u_ws RJ0 TJ0 0
theorem nmJ0 : ∀ a, a < 0 → ∀ b, b < 0 → a ≠ b → (TJ0 a).2.1 ≠ (TJ0 b).2.1 := by decide +kernel
theorem tyJ0_ok : ∀ k, k < 0 → parseFieldDescriptor (TJ0 k).2.2.1 = some (tyJ0 k) := by decide +kernel
def RJ10 : String := "java/lang/System"
def TJ10 : u_T := fun k => match k with
  | _ => ("", "", "", false)
def tyJ10 : Nat → FieldType := fun k => match k with
  | _ => .int
abbrev wsJ100 : List Cond := u_ws RJ10 TJ10 0
theorem nmJ10 : ∀ a, a < 0 → ∀ b, b < 0 → a ≠ b → (TJ10 a).2.1 ≠ (TJ10 b).2.1 := by decide +kernel
theorem tyJ10_ok : ∀ k, k < 0 → parseFieldDescriptor (TJ10 k).2.2.1 = some (tyJ10 k) := by decide +kernel
def RJ7 : String := "java/util/Arrays"
def TJ7 : u_T := fun k => match k with
  | _ => ("", "", "", false)
def tyJ7 : Nat → FieldType := fun k => match k with
  | _ => .int
abbrev wsJ70 : List Cond := u_ws RJ7 TJ7 0
theorem nmJ7 : ∀ a, a < 0 → ∀ b, b < 0 → a ≠ b → (TJ7 a).2.1 ≠ (TJ7 b).2.1 := by decide +kernel
theorem tyJ7_ok : ∀ k, k < 0 → parseFieldDescriptor (TJ7 k).2.2.1 = some (tyJ7 k) := by decide +kernel
abbrev cJ7_fill_53178 : ByteArray := prog_21_method_103_code
def yJ7_fill_53178 : MethodName := ⟨RJ7, "fill", "([II)V"⟩
abbrev cJ7_copyOf_59c91 : ByteArray := prog_21_method_123_code
def yJ7_copyOf_59c91 : MethodName := ⟨RJ7, "copyOf", "([II)[I"⟩
def RL : String := "SatelliteringLaw"
def wsX0_init : List Cond := .code yX0_init cX0_init 4 none :: ([.methodLink RX0 1 objectInit, .instanceMethod objectInit, .code objectInit ⟨#[0xb1]⟩ 1 none, .fieldLink RX0 7 "Satellitering$Message" "since" "I", .fieldLink RX0 13 "Satellitering$Message" "blocks" "I", .fieldLink RX0 16 "Satellitering$Message" "hopCount" "I", .arrayClass .int, .fieldLink RX0 19 "Satellitering$Message" "hopNodes" "[I", .fieldLink RX0 23 "Satellitering$Message" "hopMinutes" "[I", .fieldLink RX0 26 "Satellitering$Message" "node" "I", .fieldLink RX0 29 "Satellitering$Message" "goal" "I", .fieldLink RX0 32 "Satellitering$Message" "timetable" "LSatellitering$Timetable;"] ++ wsX00)
def wsX0_isAtGoal : List Cond := .code yX0_isAtGoal cX0_isAtGoal 1 (some .boolean) :: ([.fieldLink RX0 26 "Satellitering$Message" "node" "I", .fieldLink RX0 29 "Satellitering$Message" "goal" "I"] ++ wsX00)
def wsJ7_copyOf_59c91 : List Cond := .code yJ7_copyOf_59c91 cJ7_copyOf_59c91 3 (some (.array .int)) :: ([.methodLink RJ7 316 ⟨"[I", "clone", "()Ljava/lang/Object;"⟩, .sameMethod "[I" "java/lang/Object" "clone" "()Ljava/lang/Object;", .native ⟨"java/lang/Object", "clone", "()Ljava/lang/Object;"⟩, .instanceMethod ⟨"java/lang/Object", "clone", "()Ljava/lang/Object;"⟩, .selects "[I" ⟨"[I", "clone", "()Ljava/lang/Object;"⟩ ⟨"java/lang/Object", "clone", "()Ljava/lang/Object;"⟩, .classLink RJ7 317 "[I", .arrayClass .int, .methodLink RJ7 304 Lib.Math.min.name, .static Lib.Math.min.name, .initialized "java/lang/Math", .code Lib.Math.min.name Lib.Math.min.code 2 (some .int), .methodLink RJ7 150 arraycopyName, .native arraycopyName, .static arraycopyName, .initialized "java/lang/System"])
def wsX0_handTo : List Cond := .code yX0_handTo cX0_handTo 3 none :: ([.fieldLink RX0 16 "Satellitering$Message" "hopCount" "I", .fieldLink RX0 19 "Satellitering$Message" "hopNodes" "[I", .fieldLink RX0 23 "Satellitering$Message" "hopMinutes" "[I", .fieldLink RX0 26 "Satellitering$Message" "node" "I", .fieldLink RX0 7 "Satellitering$Message" "since" "I", .methodLink RX0 36 yJ7_copyOf_59c91, .static yJ7_copyOf_59c91, .initialized RJ7, .code yJ7_copyOf_59c91 cJ7_copyOf_59c91 3 (some (.array .int)), .methodLink RJ7 316 ⟨"[I", "clone", "()Ljava/lang/Object;"⟩, .sameMethod "[I" "java/lang/Object" "clone" "()Ljava/lang/Object;", .native ⟨"java/lang/Object", "clone", "()Ljava/lang/Object;"⟩, .instanceMethod ⟨"java/lang/Object", "clone", "()Ljava/lang/Object;"⟩, .selects "[I" ⟨"[I", "clone", "()Ljava/lang/Object;"⟩ ⟨"java/lang/Object", "clone", "()Ljava/lang/Object;"⟩, .classLink RJ7 317 "[I", .arrayClass .int, .methodLink RJ7 304 Lib.Math.min.name, .static Lib.Math.min.name, .initialized "java/lang/Math", .code Lib.Math.min.name Lib.Math.min.code 2 (some .int), .methodLink RJ7 150 arraycopyName, .native arraycopyName, .static arraycopyName, .initialized "java/lang/System"] ++ wsX00)
def wsX1_init : List Cond := .code yX1_init cX1_init 2 none :: ([.methodLink RX1 3 objectInit, .instanceMethod objectInit, .code objectInit ⟨#[0xb1]⟩ 1 none, .arrayClass .int, .fieldLink RX1 9 "Satellitering$Search" "reached" "[I", .fieldLink RX1 15 "Satellitering$Search" "sky" "LSatellitering$Sky;"] ++ wsX10)
def wsJ7_fill_53178 : List Cond := .code yJ7_fill_53178 cJ7_fill_53178 4 none :: ([])
def wsX1_earliestReached : List Cond := .code yX1_earliestReached cX1_earliestReached 6 (some .int) :: ([.fieldLink RX1 15 "Satellitering$Search" "sky" "LSatellitering$Sky;", .fieldLink RX1 9 "Satellitering$Search" "reached" "[I"] ++ wsX10 ++ wsX20)
def wsX2_seenFrom : List Cond := .code yX2_seenFrom cX2_seenFrom 3 (some .int) :: ([.fieldLink RX2 23 "Satellitering$Sky" "seen" "[[I"] ++ wsX20)
def wsX2_inContact : List Cond := .code yX2_inContact cX2_inContact 4 (some .boolean) :: ([.methodLink RX2 56 yX2_seenFrom, .instanceMethod yX2_seenFrom, .selects RX2 yX2_seenFrom yX2_seenFrom, .initialized RX2, .code yX2_seenFrom cX2_seenFrom 3 (some .int), .fieldLink RX2 23 "Satellitering$Sky" "seen" "[[I"] ++ wsX20)
def wsX2_firstContact : List Cond := .code yX2_firstContact cX2_firstContact 5 (some .int) :: ([.methodLink RX2 59 yX2_inContact, .instanceMethod yX2_inContact, .selects RX2 yX2_inContact yX2_inContact, .initialized RX2, .code yX2_inContact cX2_inContact 4 (some .boolean), .methodLink RX2 56 yX2_seenFrom, .instanceMethod yX2_seenFrom, .selects RX2 yX2_seenFrom yX2_seenFrom, .code yX2_seenFrom cX2_seenFrom 3 (some .int), .fieldLink RX2 23 "Satellitering$Sky" "seen" "[[I"] ++ wsX20)
def wsX1_goOnFrom : List Cond := .code yX1_goOnFrom cX1_goOnFrom 5 none :: ([.fieldLink RX1 15 "Satellitering$Search" "sky" "LSatellitering$Sky;", .fieldLink RX1 9 "Satellitering$Search" "reached" "[I", .methodLink RX1 39 yX2_firstContact, .instanceMethod yX2_firstContact, .selects RX2 yX2_firstContact yX2_firstContact, .initialized RX2, .code yX2_firstContact cX2_firstContact 5 (some .int), .methodLink RX2 59 yX2_inContact, .instanceMethod yX2_inContact, .selects RX2 yX2_inContact yX2_inContact, .code yX2_inContact cX2_inContact 4 (some .boolean), .methodLink RX2 56 yX2_seenFrom, .instanceMethod yX2_seenFrom, .selects RX2 yX2_seenFrom yX2_seenFrom, .code yX2_seenFrom cX2_seenFrom 3 (some .int), .fieldLink RX2 23 "Satellitering$Sky" "seen" "[[I"] ++ wsX10 ++ wsX20)
def wsX1_byContacts_r1 : List Cond := [Cond.fieldLink RX1 9 "Satellitering$Search" "reached" "[I", Cond.fieldLink RX1 15 "Satellitering$Search" "sky" "LSatellitering$Sky;", Cond.methodLink RX1 19 yJ7_fill_53178, Cond.static yJ7_fill_53178, Cond.initialized RJ7, Cond.code yJ7_fill_53178 cJ7_fill_53178 4 none, Cond.methodLink RX1 31 yX1_earliestReached, Cond.instanceMethod yX1_earliestReached, Cond.selects RX1 yX1_earliestReached yX1_earliestReached, Cond.initialized RX1, Cond.code yX1_earliestReached cX1_earliestReached 6 (some .int), Cond.methodLink RX1 35 yX1_goOnFrom, Cond.instanceMethod yX1_goOnFrom, Cond.selects RX1 yX1_goOnFrom yX1_goOnFrom, Cond.code yX1_goOnFrom cX1_goOnFrom 5 none, Cond.methodLink RX1 39 yX2_firstContact, Cond.instanceMethod yX2_firstContact, Cond.selects RX2 yX2_firstContact yX2_firstContact, Cond.initialized RX2, Cond.code yX2_firstContact cX2_firstContact 5 (some .int), Cond.methodLink RX2 59 yX2_inContact, Cond.instanceMethod yX2_inContact, Cond.selects RX2 yX2_inContact yX2_inContact, Cond.code yX2_inContact cX2_inContact 4 (some .boolean)]
def wsX1_byContacts_r2 : List Cond := [Cond.methodLink RX2 56 yX2_seenFrom, Cond.instanceMethod yX2_seenFrom, Cond.selects RX2 yX2_seenFrom yX2_seenFrom, Cond.code yX2_seenFrom cX2_seenFrom 3 (some .int), Cond.fieldLink RX2 23 "Satellitering$Sky" "seen" "[[I"]
def wsX1_byContacts : List Cond := .code yX1_byContacts cX1_byContacts 8 (some .int) :: ((wsX1_byContacts_r1 ++ wsX1_byContacts_r2) ++ wsX10 ++ wsX20)
def wsX1_floodedNext : List Cond := .code yX1_floodedNext cX1_floodedNext 5 (some .int) :: ([.fieldLink RX1 15 "Satellitering$Search" "sky" "LSatellitering$Sky;", .methodLink RX1 46 yX2_seenFrom, .instanceMethod yX2_seenFrom, .selects RX2 yX2_seenFrom yX2_seenFrom, .initialized RX2, .code yX2_seenFrom cX2_seenFrom 3 (some .int), .fieldLink RX2 23 "Satellitering$Sky" "seen" "[[I"] ++ wsX10 ++ wsX20)
def wsX1_byFlooding : List Cond := .code yX1_byFlooding cX1_byFlooding 6 (some .int) :: ([.methodLink RX1 43 yX1_floodedNext, .instanceMethod yX1_floodedNext, .selects RX1 yX1_floodedNext yX1_floodedNext, .initialized RX1, .code yX1_floodedNext cX1_floodedNext 5 (some .int), .fieldLink RX1 15 "Satellitering$Search" "sky" "LSatellitering$Sky;", .methodLink RX1 46 yX2_seenFrom, .instanceMethod yX2_seenFrom, .selects RX2 yX2_seenFrom yX2_seenFrom, .initialized RX2, .code yX2_seenFrom cX2_seenFrom 3 (some .int), .fieldLink RX2 23 "Satellitering$Sky" "seen" "[[I"] ++ wsX10 ++ wsX20)
def wsX1_flooded : List Cond := .code yX1_flooded cX1_flooded 6 (some .int) :: ([.methodLink RX1 43 yX1_floodedNext, .instanceMethod yX1_floodedNext, .selects RX1 yX1_floodedNext yX1_floodedNext, .initialized RX1, .code yX1_floodedNext cX1_floodedNext 5 (some .int), .fieldLink RX1 15 "Satellitering$Search" "sky" "LSatellitering$Sky;", .methodLink RX1 46 yX2_seenFrom, .instanceMethod yX2_seenFrom, .selects RX2 yX2_seenFrom yX2_seenFrom, .initialized RX2, .code yX2_seenFrom cX2_seenFrom 3 (some .int), .fieldLink RX2 23 "Satellitering$Sky" "seen" "[[I"] ++ wsX10 ++ wsX20)
def wsX2_init : List Cond := .code yX2_init cX2_init 1 none :: ([.methodLink RX2 3 objectInit, .instanceMethod objectInit, .code objectInit ⟨#[0xb1]⟩ 1 none, .arrayClass .int, .fieldLink RX2 9 "Satellitering$Sky" "places" "[I", .fieldLink RX2 15 "Satellitering$Sky" "speeds" "[I", .fieldLink RX2 18 "Satellitering$Sky" "reaches" "[I", .classLink RX2 21 "[[I", .fieldLink RX2 23 "Satellitering$Sky" "seen" "[[I", .fieldLink RX2 26 "Satellitering$Sky" "count" "I"] ++ wsX20)
def wsX2_commonReach : List Cond := .code yX2_commonReach cX2_commonReach 3 (some .int) :: ([.fieldLink RX2 18 "Satellitering$Sky" "reaches" "[I", .methodLink RX2 44 Lib.Math.min.name, .static Lib.Math.min.name, .initialized "java/lang/Math", .code Lib.Math.min.name Lib.Math.min.code 2 (some .int)] ++ wsX20)
def wsJ9_floorMod_7cf53 : List Cond := .code yJ9_floorMod_7cf53 cJ9_floorMod_7cf53 3 (some .int) :: ([])
def wsX2_placeOf : List Cond := .code yX2_placeOf cX2_placeOf 3 (some .int) :: ([.fieldLink RX2 9 "Satellitering$Sky" "places" "[I", .fieldLink RX2 15 "Satellitering$Sky" "speeds" "[I", .methodLink RX2 53 yJ9_floorMod_7cf53, .static yJ9_floorMod_7cf53, .initialized RJ9, .code yJ9_floorMod_7cf53 cJ9_floorMod_7cf53 3 (some .int)] ++ wsX20)
def wsX2_distance : List Cond := .code yX2_distance cX2_distance 3 (some .int) :: ([.methodLink RX2 49 Lib.Math.abs.name, .static Lib.Math.abs.name, .initialized "java/lang/Math", .code Lib.Math.abs.name Lib.Math.abs.code 1 (some .int), .methodLink RX2 44 Lib.Math.min.name, .static Lib.Math.min.name, .code Lib.Math.min.name Lib.Math.min.code 2 (some .int)])
def wsX2_markContacts_r1 : List Cond := [Cond.fieldLink RX2 23 "Satellitering$Sky" "seen" "[[I", Cond.methodLink RX2 34 yX2_commonReach, Cond.instanceMethod yX2_commonReach, Cond.selects RX2 yX2_commonReach yX2_commonReach, Cond.initialized RX2, Cond.code yX2_commonReach cX2_commonReach 3 (some .int), Cond.fieldLink RX2 18 "Satellitering$Sky" "reaches" "[I", Cond.methodLink RX2 44 Lib.Math.min.name, Cond.static Lib.Math.min.name, Cond.initialized "java/lang/Math", Cond.code Lib.Math.min.name Lib.Math.min.code 2 (some .int), Cond.methodLink RX2 38 yX2_placeOf, Cond.instanceMethod yX2_placeOf, Cond.selects RX2 yX2_placeOf yX2_placeOf, Cond.code yX2_placeOf cX2_placeOf 3 (some .int), Cond.fieldLink RX2 9 "Satellitering$Sky" "places" "[I", Cond.fieldLink RX2 15 "Satellitering$Sky" "speeds" "[I", Cond.methodLink RX2 53 yJ9_floorMod_7cf53, Cond.static yJ9_floorMod_7cf53, Cond.initialized RJ9, Cond.code yJ9_floorMod_7cf53 cJ9_floorMod_7cf53 3 (some .int), Cond.methodLink RX2 41 yX2_distance, Cond.static yX2_distance, Cond.code yX2_distance cX2_distance 3 (some .int)]
def wsX2_markContacts_r2 : List Cond := [Cond.methodLink RX2 49 Lib.Math.abs.name, Cond.static Lib.Math.abs.name, Cond.code Lib.Math.abs.name Lib.Math.abs.code 1 (some .int)]
def wsX2_markContacts : List Cond := .code yX2_markContacts cX2_markContacts 5 none :: ((wsX2_markContacts_r1 ++ wsX2_markContacts_r2) ++ wsX20)
def wsX2_addNode_r1 : List Cond := [Cond.fieldLink RX2 26 "Satellitering$Sky" "count" "I", Cond.fieldLink RX2 9 "Satellitering$Sky" "places" "[I", Cond.fieldLink RX2 15 "Satellitering$Sky" "speeds" "[I", Cond.fieldLink RX2 18 "Satellitering$Sky" "reaches" "[I", Cond.methodLink RX2 30 yX2_markContacts, Cond.instanceMethod yX2_markContacts, Cond.selects RX2 yX2_markContacts yX2_markContacts, Cond.initialized RX2, Cond.code yX2_markContacts cX2_markContacts 5 none, Cond.fieldLink RX2 23 "Satellitering$Sky" "seen" "[[I", Cond.methodLink RX2 34 yX2_commonReach, Cond.instanceMethod yX2_commonReach, Cond.selects RX2 yX2_commonReach yX2_commonReach, Cond.code yX2_commonReach cX2_commonReach 3 (some .int), Cond.methodLink RX2 44 Lib.Math.min.name, Cond.static Lib.Math.min.name, Cond.initialized "java/lang/Math", Cond.code Lib.Math.min.name Lib.Math.min.code 2 (some .int), Cond.methodLink RX2 38 yX2_placeOf, Cond.instanceMethod yX2_placeOf, Cond.selects RX2 yX2_placeOf yX2_placeOf, Cond.code yX2_placeOf cX2_placeOf 3 (some .int), Cond.methodLink RX2 53 yJ9_floorMod_7cf53, Cond.static yJ9_floorMod_7cf53]
def wsX2_addNode_r2 : List Cond := [Cond.initialized RJ9, Cond.code yJ9_floorMod_7cf53 cJ9_floorMod_7cf53 3 (some .int), Cond.methodLink RX2 41 yX2_distance, Cond.static yX2_distance, Cond.code yX2_distance cX2_distance 3 (some .int), Cond.methodLink RX2 49 Lib.Math.abs.name, Cond.static Lib.Math.abs.name, Cond.code Lib.Math.abs.name Lib.Math.abs.code 1 (some .int)]
def wsX2_addNode : List Cond := .code yX2_addNode cX2_addNode 6 (some .int) :: ((wsX2_addNode_r1 ++ wsX2_addNode_r2) ++ wsX20)
def wsX2_contactLength : List Cond := .code yX2_contactLength cX2_contactLength 5 (some .int) :: ([.methodLink RX2 59 yX2_inContact, .instanceMethod yX2_inContact, .selects RX2 yX2_inContact yX2_inContact, .initialized RX2, .code yX2_inContact cX2_inContact 4 (some .boolean), .methodLink RX2 56 yX2_seenFrom, .instanceMethod yX2_seenFrom, .selects RX2 yX2_seenFrom yX2_seenFrom, .code yX2_seenFrom cX2_seenFrom 3 (some .int), .fieldLink RX2 23 "Satellitering$Sky" "seen" "[[I"] ++ wsX20)
def wsX3_init : List Cond := .code yX3_init cX3_init 2 none :: ([.methodLink RX3 3 objectInit, .instanceMethod objectInit, .code objectInit ⟨#[0xb1]⟩ 1 none, .fieldLink RX3 9 "Satellitering$Station" "relay" "I", .fieldLink RX3 15 "Satellitering$Station" "handoverCount" "I", .fieldLink RX3 18 "Satellitering$Station" "timetable" "LSatellitering$Timetable;"] ++ wsX30)
def wsX4_init : List Cond := .code yX4_init cX4_init 3 none :: ([.methodLink RX4 3 objectInit, .instanceMethod objectInit, .code objectInit ⟨#[0xb1]⟩ 1 none, .classLink RX4 9 "[[I", .arrayClass .int, .fieldLink RX4 11 "Satellitering$Timetable" "left" "[[I", .fieldLink RX4 16 "Satellitering$Timetable" "soonest" "[I", .fieldLink RX4 20 "Satellitering$Timetable" "soonestBefore" "[I", .fieldLink RX4 23 "Satellitering$Timetable" "nodesKnown" "I", .fieldLink RX4 27 "Satellitering$Timetable" "sky" "LSatellitering$Sky;", .fieldLink RX4 31 "Satellitering$Timetable" "goal" "I"] ++ wsX40)
def wsX4_soonestThrough : List Cond := .code yX4_soonestThrough cX4_soonestThrough 5 (some .int) :: ([.fieldLink RX4 16 "Satellitering$Timetable" "soonest" "[I", .fieldLink RX4 27 "Satellitering$Timetable" "sky" "LSatellitering$Sky;"] ++ wsX40 ++ wsX20)
def wsX4_stepBack : List Cond := .code yX4_stepBack cX4_stepBack 4 none :: ([.fieldLink RX4 27 "Satellitering$Timetable" "sky" "LSatellitering$Sky;", .fieldLink RX4 20 "Satellitering$Timetable" "soonestBefore" "[I", .fieldLink RX4 31 "Satellitering$Timetable" "goal" "I", .fieldLink RX4 16 "Satellitering$Timetable" "soonest" "[I", .methodLink RX4 59 yX2_seenFrom, .instanceMethod yX2_seenFrom, .selects RX2 yX2_seenFrom yX2_seenFrom, .initialized RX2, .code yX2_seenFrom cX2_seenFrom 3 (some .int), .fieldLink RX2 23 "Satellitering$Sky" "seen" "[[I", .methodLink RX4 63 yX4_soonestThrough, .instanceMethod yX4_soonestThrough, .selects RX4 yX4_soonestThrough yX4_soonestThrough, .initialized RX4, .code yX4_soonestThrough cX4_soonestThrough 5 (some .int)] ++ wsX40 ++ wsX20)
def wsX4_writeDown : List Cond := .code yX4_writeDown cX4_writeDown 4 none :: ([.fieldLink RX4 27 "Satellitering$Timetable" "sky" "LSatellitering$Sky;", .fieldLink RX4 16 "Satellitering$Timetable" "soonest" "[I", .fieldLink RX4 11 "Satellitering$Timetable" "left" "[[I"] ++ wsX40 ++ wsX20)
def wsX4_reckon_r1 : List Cond := [Cond.fieldLink RX4 16 "Satellitering$Timetable" "soonest" "[I", Cond.fieldLink RX4 27 "Satellitering$Timetable" "sky" "LSatellitering$Sky;", Cond.fieldLink RX4 23 "Satellitering$Timetable" "nodesKnown" "I", Cond.methodLink RX4 46 yJ7_fill_53178, Cond.static yJ7_fill_53178, Cond.initialized RJ7, Cond.code yJ7_fill_53178 cJ7_fill_53178 4 none, Cond.methodLink RX4 52 yX4_stepBack, Cond.instanceMethod yX4_stepBack, Cond.selects RX4 yX4_stepBack yX4_stepBack, Cond.initialized RX4, Cond.code yX4_stepBack cX4_stepBack 4 none, Cond.fieldLink RX4 20 "Satellitering$Timetable" "soonestBefore" "[I", Cond.fieldLink RX4 31 "Satellitering$Timetable" "goal" "I", Cond.methodLink RX4 59 yX2_seenFrom, Cond.instanceMethod yX2_seenFrom, Cond.selects RX2 yX2_seenFrom yX2_seenFrom, Cond.initialized RX2, Cond.code yX2_seenFrom cX2_seenFrom 3 (some .int), Cond.fieldLink RX2 23 "Satellitering$Sky" "seen" "[[I", Cond.methodLink RX4 63 yX4_soonestThrough, Cond.instanceMethod yX4_soonestThrough, Cond.selects RX4 yX4_soonestThrough yX4_soonestThrough, Cond.code yX4_soonestThrough cX4_soonestThrough 5 (some .int)]
def wsX4_reckon_r2 : List Cond := [Cond.methodLink RX4 56 yX4_writeDown, Cond.instanceMethod yX4_writeDown, Cond.selects RX4 yX4_writeDown yX4_writeDown, Cond.code yX4_writeDown cX4_writeDown 4 none, Cond.fieldLink RX4 11 "Satellitering$Timetable" "left" "[[I"]
def wsX4_reckon : List Cond := .code yX4_reckon cX4_reckon 3 none :: ((wsX4_reckon_r1 ++ wsX4_reckon_r2) ++ wsX40 ++ wsX20)
def wsX4_nextNode_r1 : List Cond := [Cond.fieldLink RX4 23 "Satellitering$Timetable" "nodesKnown" "I", Cond.fieldLink RX4 27 "Satellitering$Timetable" "sky" "LSatellitering$Sky;", Cond.fieldLink RX4 11 "Satellitering$Timetable" "left" "[[I", Cond.methodLink RX4 39 yX4_reckon, Cond.instanceMethod yX4_reckon, Cond.selects RX4 yX4_reckon yX4_reckon, Cond.initialized RX4, Cond.code yX4_reckon cX4_reckon 3 none, Cond.fieldLink RX4 16 "Satellitering$Timetable" "soonest" "[I", Cond.methodLink RX4 46 yJ7_fill_53178, Cond.static yJ7_fill_53178, Cond.initialized RJ7, Cond.code yJ7_fill_53178 cJ7_fill_53178 4 none, Cond.methodLink RX4 52 yX4_stepBack, Cond.instanceMethod yX4_stepBack, Cond.selects RX4 yX4_stepBack yX4_stepBack, Cond.code yX4_stepBack cX4_stepBack 4 none, Cond.fieldLink RX4 20 "Satellitering$Timetable" "soonestBefore" "[I", Cond.fieldLink RX4 31 "Satellitering$Timetable" "goal" "I", Cond.methodLink RX4 59 yX2_seenFrom, Cond.instanceMethod yX2_seenFrom, Cond.selects RX2 yX2_seenFrom yX2_seenFrom, Cond.initialized RX2, Cond.code yX2_seenFrom cX2_seenFrom 3 (some .int)]
def wsX4_nextNode_r2 : List Cond := [Cond.fieldLink RX2 23 "Satellitering$Sky" "seen" "[[I", Cond.methodLink RX4 63 yX4_soonestThrough, Cond.instanceMethod yX4_soonestThrough, Cond.selects RX4 yX4_soonestThrough yX4_soonestThrough, Cond.code yX4_soonestThrough cX4_soonestThrough 5 (some .int), Cond.methodLink RX4 56 yX4_writeDown, Cond.instanceMethod yX4_writeDown, Cond.selects RX4 yX4_writeDown yX4_writeDown, Cond.code yX4_writeDown cX4_writeDown 4 none, Cond.methodLink RX4 42 yX2_inContact, Cond.instanceMethod yX2_inContact, Cond.selects RX2 yX2_inContact yX2_inContact, Cond.code yX2_inContact cX2_inContact 4 (some .boolean), Cond.methodLink RX2 56 yX2_seenFrom]
def wsX4_nextNode : List Cond := .code yX4_nextNode cX4_nextNode 6 (some .int) :: ((wsX4_nextNode_r1 ++ wsX4_nextNode_r2) ++ wsX40 ++ wsX20)
def wsX5_init_r1 : List Cond := [Cond.methodLink RX5 3 objectInit, Cond.instanceMethod objectInit, Cond.code objectInit ⟨#[0xb1]⟩ 1 none, Cond.classLink RX5 9 RX2, Cond.instantiable RX2 5, Cond.initialized RX2, Cond.fieldLink RX5 12 "Satellitering" "sky" "LSatellitering$Sky;", Cond.classLink RX5 16 RX1, Cond.instantiable RX1 2, Cond.initialized RX1, Cond.fieldLink RX5 21 "Satellitering" "search" "LSatellitering$Search;", Cond.classLink RX5 25 RX3, Cond.fieldLink RX5 27 "Satellitering" "stations" "[LSatellitering$Station;", Cond.arrayClass .int, Cond.fieldLink RX5 31 "Satellitering" "capacities" "[I", Cond.classLink RX5 35 RX0, Cond.fieldLink RX5 37 "Satellitering" "sent" "[LSatellitering$Message;", Cond.fieldLink RX5 41 "Satellitering" "stationCount" "I", Cond.fieldLink RX5 45 "Satellitering" "relayCount" "I", Cond.fieldLink RX5 48 "Satellitering" "sentCount" "I", Cond.fieldLink RX5 51 "Satellitering" "now" "I", Cond.instanceMethod yX2_init, Cond.code yX2_init cX2_init 1 none, Cond.methodLink RX2 3 objectInit]
def wsX5_init_r2 : List Cond := [Cond.fieldLink RX2 9 "Satellitering$Sky" "places" "[I", Cond.fieldLink RX2 15 "Satellitering$Sky" "speeds" "[I", Cond.fieldLink RX2 18 "Satellitering$Sky" "reaches" "[I", Cond.classLink RX2 21 "[[I", Cond.fieldLink RX2 23 "Satellitering$Sky" "seen" "[[I", Cond.fieldLink RX2 26 "Satellitering$Sky" "count" "I", Cond.methodLink RX5 18 yX1_init, Cond.instanceMethod yX1_init, Cond.code yX1_init cX1_init 2 none, Cond.methodLink RX1 3 objectInit, Cond.fieldLink RX1 9 "Satellitering$Search" "reached" "[I", Cond.fieldLink RX1 15 "Satellitering$Search" "sky" "LSatellitering$Sky;"]
def wsX5_init : List Cond := .code yX5_init cX5_init 1 none :: ((wsX5_init_r1 ++ wsX5_init_r2) ++ wsX20 ++ wsX50 ++ wsX10)
def wsX5_inRange : List Cond := .code yX5_inRange cX5_inRange 3 (some .boolean) :: ([])
def wsX5_requireArgument : List Cond := .code yX5_requireArgument cX5_requireArgument 1 none :: ([.classLink RX5 214 "java/lang/IllegalArgumentException", .initialized "java/lang/IllegalArgumentException"] ++ (vx_atS RX5 218 "java/lang/IllegalArgumentException" ["java/lang/RuntimeException", "java/lang/Exception"]).filter goodWord)
def wsX5_lookForRelay : List Cond := .code yX5_lookForRelay cX5_lookForRelay 7 none :: ([.fieldLink RX5 12 "Satellitering" "sky" "LSatellitering$Sky;", .fieldLink RX5 51 "Satellitering" "now" "I", .methodLink RX5 110 yX2_inContact, .instanceMethod yX2_inContact, .selects RX2 yX2_inContact yX2_inContact, .initialized RX2, .code yX2_inContact cX2_inContact 4 (some .boolean), .methodLink RX2 56 yX2_seenFrom, .instanceMethod yX2_seenFrom, .selects RX2 yX2_seenFrom yX2_seenFrom, .code yX2_seenFrom cX2_seenFrom 3 (some .int), .fieldLink RX2 23 "Satellitering$Sky" "seen" "[[I", .methodLink RX5 116 yX2_contactLength, .instanceMethod yX2_contactLength, .selects RX2 yX2_contactLength yX2_contactLength, .code yX2_contactLength cX2_contactLength 5 (some .int), .methodLink RX2 59 yX2_inContact] ++ wsX30 ++ wsX50 ++ wsX20)
def wsX5_addStation_r1 : List Cond := [Cond.classLink RX5 62 "java/lang/IllegalStateException", Cond.initialized "java/lang/IllegalStateException", Cond.fieldLink RX5 41 "Satellitering" "stationCount" "I", Cond.fieldLink RX5 12 "Satellitering" "sky" "LSatellitering$Sky;", Cond.classLink RX5 25 RX3, Cond.instantiable RX3 3, Cond.initialized RX3, Cond.classLink RX5 73 RX4, Cond.instantiable RX4 6, Cond.initialized RX4, Cond.fieldLink RX5 27 "Satellitering" "stations" "[LSatellitering$Station;", Cond.methodLink RX5 54 yX5_inRange, Cond.static yX5_inRange, Cond.initialized RX5, Cond.code yX5_inRange cX5_inRange 3 (some .boolean), Cond.methodLink RX5 58 yX5_requireArgument, Cond.static yX5_requireArgument, Cond.code yX5_requireArgument cX5_requireArgument 1 none, Cond.classLink RX5 214 "java/lang/IllegalArgumentException", Cond.initialized "java/lang/IllegalArgumentException", Cond.methodLink RX5 69 yX2_addNode, Cond.instanceMethod yX2_addNode, Cond.selects RX2 yX2_addNode yX2_addNode, Cond.initialized RX2]
def wsX5_addStation_r2 : List Cond := [Cond.code yX2_addNode cX2_addNode 6 (some .int), Cond.fieldLink RX2 26 "Satellitering$Sky" "count" "I", Cond.fieldLink RX2 9 "Satellitering$Sky" "places" "[I", Cond.fieldLink RX2 15 "Satellitering$Sky" "speeds" "[I", Cond.fieldLink RX2 18 "Satellitering$Sky" "reaches" "[I", Cond.methodLink RX2 30 yX2_markContacts, Cond.instanceMethod yX2_markContacts, Cond.selects RX2 yX2_markContacts yX2_markContacts, Cond.code yX2_markContacts cX2_markContacts 5 none, Cond.fieldLink RX2 23 "Satellitering$Sky" "seen" "[[I", Cond.methodLink RX2 34 yX2_commonReach, Cond.instanceMethod yX2_commonReach, Cond.selects RX2 yX2_commonReach yX2_commonReach, Cond.code yX2_commonReach cX2_commonReach 3 (some .int), Cond.methodLink RX2 44 Lib.Math.min.name, Cond.static Lib.Math.min.name, Cond.initialized "java/lang/Math", Cond.code Lib.Math.min.name Lib.Math.min.code 2 (some .int), Cond.methodLink RX2 38 yX2_placeOf, Cond.instanceMethod yX2_placeOf, Cond.selects RX2 yX2_placeOf yX2_placeOf, Cond.code yX2_placeOf cX2_placeOf 3 (some .int), Cond.methodLink RX2 53 yJ9_floorMod_7cf53, Cond.static yJ9_floorMod_7cf53]
def wsX5_addStation_r3 : List Cond := [Cond.initialized RJ9, Cond.code yJ9_floorMod_7cf53 cJ9_floorMod_7cf53 3 (some .int), Cond.methodLink RX2 41 yX2_distance, Cond.static yX2_distance, Cond.code yX2_distance cX2_distance 3 (some .int), Cond.methodLink RX2 49 Lib.Math.abs.name, Cond.static Lib.Math.abs.name, Cond.code Lib.Math.abs.name Lib.Math.abs.code 1 (some .int), Cond.methodLink RX5 75 yX4_init, Cond.instanceMethod yX4_init, Cond.code yX4_init cX4_init 3 none, Cond.methodLink RX4 3 objectInit, Cond.instanceMethod objectInit, Cond.code objectInit ⟨#[0xb1]⟩ 1 none, Cond.classLink RX4 9 "[[I", Cond.arrayClass .int, Cond.fieldLink RX4 11 "Satellitering$Timetable" "left" "[[I", Cond.fieldLink RX4 16 "Satellitering$Timetable" "soonest" "[I", Cond.fieldLink RX4 20 "Satellitering$Timetable" "soonestBefore" "[I", Cond.fieldLink RX4 23 "Satellitering$Timetable" "nodesKnown" "I", Cond.fieldLink RX4 27 "Satellitering$Timetable" "sky" "LSatellitering$Sky;", Cond.fieldLink RX4 31 "Satellitering$Timetable" "goal" "I", Cond.methodLink RX5 78 yX3_init, Cond.instanceMethod yX3_init]
def wsX5_addStation_r4 : List Cond := [Cond.code yX3_init cX3_init 2 none, Cond.methodLink RX3 3 objectInit, Cond.fieldLink RX3 9 "Satellitering$Station" "relay" "I", Cond.fieldLink RX3 15 "Satellitering$Station" "handoverCount" "I", Cond.fieldLink RX3 18 "Satellitering$Station" "timetable" "LSatellitering$Timetable;", Cond.methodLink RX5 81 yX5_lookForRelay, Cond.instanceMethod yX5_lookForRelay, Cond.selects RX5 yX5_lookForRelay yX5_lookForRelay, Cond.code yX5_lookForRelay cX5_lookForRelay 7 none, Cond.fieldLink RX5 51 "Satellitering" "now" "I", Cond.methodLink RX5 110 yX2_inContact, Cond.instanceMethod yX2_inContact, Cond.selects RX2 yX2_inContact yX2_inContact, Cond.code yX2_inContact cX2_inContact 4 (some .boolean), Cond.methodLink RX2 56 yX2_seenFrom, Cond.instanceMethod yX2_seenFrom, Cond.selects RX2 yX2_seenFrom yX2_seenFrom, Cond.code yX2_seenFrom cX2_seenFrom 3 (some .int), Cond.methodLink RX5 116 yX2_contactLength, Cond.instanceMethod yX2_contactLength, Cond.selects RX2 yX2_contactLength yX2_contactLength, Cond.code yX2_contactLength cX2_contactLength 5 (some .int), Cond.methodLink RX2 59 yX2_inContact]
def wsX5_addStation : List Cond := .code yX5_addStation cX5_addStation 4 (some .int) :: ((wsX5_addStation_r1 ++ (wsX5_addStation_r2 ++ (wsX5_addStation_r3 ++ wsX5_addStation_r4))) ++ wsX50 ++ wsX30 ++ wsX40 ++ wsX20 ++ (vx_atS RX5 66 "java/lang/IllegalStateException" ["java/lang/RuntimeException", "java/lang/Exception"]).filter goodWord ++ (vx_atS RX5 218 "java/lang/IllegalArgumentException" ["java/lang/RuntimeException", "java/lang/Exception"]).filter goodWord)
def wsX5_addRelay_r1 : List Cond := [Cond.classLink RX5 62 "java/lang/IllegalStateException", Cond.initialized "java/lang/IllegalStateException", Cond.fieldLink RX5 45 "Satellitering" "relayCount" "I", Cond.fieldLink RX5 12 "Satellitering" "sky" "LSatellitering$Sky;", Cond.fieldLink RX5 31 "Satellitering" "capacities" "[I", Cond.methodLink RX5 54 yX5_inRange, Cond.static yX5_inRange, Cond.initialized RX5, Cond.code yX5_inRange cX5_inRange 3 (some .boolean), Cond.methodLink RX5 58 yX5_requireArgument, Cond.static yX5_requireArgument, Cond.code yX5_requireArgument cX5_requireArgument 1 none, Cond.classLink RX5 214 "java/lang/IllegalArgumentException", Cond.initialized "java/lang/IllegalArgumentException", Cond.methodLink RX5 69 yX2_addNode, Cond.instanceMethod yX2_addNode, Cond.selects RX2 yX2_addNode yX2_addNode, Cond.initialized RX2, Cond.code yX2_addNode cX2_addNode 6 (some .int), Cond.fieldLink RX2 26 "Satellitering$Sky" "count" "I", Cond.fieldLink RX2 9 "Satellitering$Sky" "places" "[I", Cond.fieldLink RX2 15 "Satellitering$Sky" "speeds" "[I", Cond.fieldLink RX2 18 "Satellitering$Sky" "reaches" "[I", Cond.methodLink RX2 30 yX2_markContacts]
def wsX5_addRelay_r2 : List Cond := [Cond.instanceMethod yX2_markContacts, Cond.selects RX2 yX2_markContacts yX2_markContacts, Cond.code yX2_markContacts cX2_markContacts 5 none, Cond.fieldLink RX2 23 "Satellitering$Sky" "seen" "[[I", Cond.methodLink RX2 34 yX2_commonReach, Cond.instanceMethod yX2_commonReach, Cond.selects RX2 yX2_commonReach yX2_commonReach, Cond.code yX2_commonReach cX2_commonReach 3 (some .int), Cond.methodLink RX2 44 Lib.Math.min.name, Cond.static Lib.Math.min.name, Cond.initialized "java/lang/Math", Cond.code Lib.Math.min.name Lib.Math.min.code 2 (some .int), Cond.methodLink RX2 38 yX2_placeOf, Cond.instanceMethod yX2_placeOf, Cond.selects RX2 yX2_placeOf yX2_placeOf, Cond.code yX2_placeOf cX2_placeOf 3 (some .int), Cond.methodLink RX2 53 yJ9_floorMod_7cf53, Cond.static yJ9_floorMod_7cf53, Cond.initialized RJ9, Cond.code yJ9_floorMod_7cf53 cJ9_floorMod_7cf53 3 (some .int), Cond.methodLink RX2 41 yX2_distance, Cond.static yX2_distance, Cond.code yX2_distance cX2_distance 3 (some .int), Cond.methodLink RX2 49 Lib.Math.abs.name]
def wsX5_addRelay_r3 : List Cond := [Cond.static Lib.Math.abs.name, Cond.code Lib.Math.abs.name Lib.Math.abs.code 1 (some .int)]
def wsX5_addRelay : List Cond := .code yX5_addRelay cX5_addRelay 6 (some .int) :: ((wsX5_addRelay_r1 ++ (wsX5_addRelay_r2 ++ wsX5_addRelay_r3)) ++ wsX50 ++ wsX20 ++ (vx_atS RX5 66 "java/lang/IllegalStateException" ["java/lang/RuntimeException", "java/lang/Exception"]).filter goodWord ++ (vx_atS RX5 218 "java/lang/IllegalArgumentException" ["java/lang/RuntimeException", "java/lang/Exception"]).filter goodWord)
def wsX5_requireNode : List Cond := .code yX5_requireNode cX5_requireNode 2 none :: ([.classLink RX5 91 "java/lang/IndexOutOfBoundsException", .initialized "java/lang/IndexOutOfBoundsException", .fieldLink RX5 12 "Satellitering" "sky" "LSatellitering$Sky;", .methodLink RX5 54 yX5_inRange, .static yX5_inRange, .initialized RX5, .code yX5_inRange cX5_inRange 3 (some .boolean)] ++ wsX50 ++ wsX20 ++ (vx_atS RX5 95 "java/lang/IndexOutOfBoundsException" ["java/lang/RuntimeException", "java/lang/Exception"]).filter goodWord)
def wsX5_setCapacity : List Cond := .code yX5_setCapacity cX5_setCapacity 4 (some .int) :: ([.classLink RX5 91 "java/lang/IndexOutOfBoundsException", .initialized "java/lang/IndexOutOfBoundsException", .fieldLink RX5 27 "Satellitering" "stations" "[LSatellitering$Station;", .fieldLink RX5 31 "Satellitering" "capacities" "[I", .methodLink RX5 87 yX5_requireNode, .instanceMethod yX5_requireNode, .selects RX5 yX5_requireNode yX5_requireNode, .initialized RX5, .code yX5_requireNode cX5_requireNode 2 none, .fieldLink RX5 12 "Satellitering" "sky" "LSatellitering$Sky;", .methodLink RX5 54 yX5_inRange, .static yX5_inRange, .code yX5_inRange cX5_inRange 3 (some .boolean), .methodLink RX5 58 yX5_requireArgument, .static yX5_requireArgument, .code yX5_requireArgument cX5_requireArgument 1 none, .classLink RX5 214 "java/lang/IllegalArgumentException", .initialized "java/lang/IllegalArgumentException"] ++ wsX50 ++ wsX20 ++ (vx_atS RX5 95 "java/lang/IndexOutOfBoundsException" ["java/lang/RuntimeException", "java/lang/Exception"]).filter goodWord ++ (vx_atS RX5 218 "java/lang/IllegalArgumentException" ["java/lang/RuntimeException", "java/lang/Exception"]).filter goodWord)
def wsX5_nodes : List Cond := .code yX5_nodes cX5_nodes 1 (some .int) :: ([.fieldLink RX5 12 "Satellitering" "sky" "LSatellitering$Sky;"] ++ wsX50 ++ wsX20)
def wsX5_requireMinute : List Cond := .code yX5_requireMinute cX5_requireMinute 1 none :: ([.constant RX5 147 (1000000), .methodLink RX5 54 yX5_inRange, .static yX5_inRange, .initialized RX5, .code yX5_inRange cX5_inRange 3 (some .boolean), .methodLink RX5 58 yX5_requireArgument, .static yX5_requireArgument, .code yX5_requireArgument cX5_requireArgument 1 none, .classLink RX5 214 "java/lang/IllegalArgumentException", .initialized "java/lang/IllegalArgumentException"] ++ (vx_atS RX5 218 "java/lang/IllegalArgumentException" ["java/lang/RuntimeException", "java/lang/Exception"]).filter goodWord)
def wsX5_placeAt_r1 : List Cond := [Cond.fieldLink RX5 12 "Satellitering" "sky" "LSatellitering$Sky;", Cond.methodLink RX5 87 yX5_requireNode, Cond.instanceMethod yX5_requireNode, Cond.selects RX5 yX5_requireNode yX5_requireNode, Cond.initialized RX5, Cond.code yX5_requireNode cX5_requireNode 2 none, Cond.classLink RX5 91 "java/lang/IndexOutOfBoundsException", Cond.initialized "java/lang/IndexOutOfBoundsException", Cond.methodLink RX5 54 yX5_inRange, Cond.static yX5_inRange, Cond.code yX5_inRange cX5_inRange 3 (some .boolean), Cond.methodLink RX5 99 yX5_requireMinute, Cond.static yX5_requireMinute, Cond.code yX5_requireMinute cX5_requireMinute 1 none, Cond.constant RX5 147 (1000000), Cond.methodLink RX5 58 yX5_requireArgument, Cond.static yX5_requireArgument, Cond.code yX5_requireArgument cX5_requireArgument 1 none, Cond.classLink RX5 214 "java/lang/IllegalArgumentException", Cond.initialized "java/lang/IllegalArgumentException", Cond.methodLink RX5 102 yX2_placeOf, Cond.instanceMethod yX2_placeOf, Cond.selects RX2 yX2_placeOf yX2_placeOf, Cond.initialized RX2]
def wsX5_placeAt_r2 : List Cond := [Cond.code yX2_placeOf cX2_placeOf 3 (some .int), Cond.fieldLink RX2 9 "Satellitering$Sky" "places" "[I", Cond.fieldLink RX2 15 "Satellitering$Sky" "speeds" "[I", Cond.methodLink RX2 53 yJ9_floorMod_7cf53, Cond.static yJ9_floorMod_7cf53, Cond.initialized RJ9, Cond.code yJ9_floorMod_7cf53 cJ9_floorMod_7cf53 3 (some .int)]
def wsX5_placeAt : List Cond := .code yX5_placeAt cX5_placeAt 3 (some .int) :: ((wsX5_placeAt_r1 ++ wsX5_placeAt_r2) ++ wsX50 ++ wsX20 ++ (vx_atS RX5 95 "java/lang/IndexOutOfBoundsException" ["java/lang/RuntimeException", "java/lang/Exception"]).filter goodWord ++ (vx_atS RX5 218 "java/lang/IllegalArgumentException" ["java/lang/RuntimeException", "java/lang/Exception"]).filter goodWord)
def wsX5_requireTwoNodesAndMinute : List Cond := .code yX5_requireTwoNodesAndMinute cX5_requireTwoNodesAndMinute 4 none :: ([.methodLink RX5 87 yX5_requireNode, .instanceMethod yX5_requireNode, .selects RX5 yX5_requireNode yX5_requireNode, .initialized RX5, .code yX5_requireNode cX5_requireNode 2 none, .classLink RX5 91 "java/lang/IndexOutOfBoundsException", .initialized "java/lang/IndexOutOfBoundsException", .fieldLink RX5 12 "Satellitering" "sky" "LSatellitering$Sky;", .methodLink RX5 54 yX5_inRange, .static yX5_inRange, .code yX5_inRange cX5_inRange 3 (some .boolean), .methodLink RX5 99 yX5_requireMinute, .static yX5_requireMinute, .code yX5_requireMinute cX5_requireMinute 1 none, .constant RX5 147 (1000000), .methodLink RX5 58 yX5_requireArgument, .static yX5_requireArgument, .code yX5_requireArgument cX5_requireArgument 1 none, .classLink RX5 214 "java/lang/IllegalArgumentException", .initialized "java/lang/IllegalArgumentException"] ++ wsX50 ++ wsX20 ++ (vx_atS RX5 95 "java/lang/IndexOutOfBoundsException" ["java/lang/RuntimeException", "java/lang/Exception"]).filter goodWord ++ (vx_atS RX5 218 "java/lang/IllegalArgumentException" ["java/lang/RuntimeException", "java/lang/Exception"]).filter goodWord)
def wsX5_see_r1 : List Cond := [Cond.fieldLink RX5 12 "Satellitering" "sky" "LSatellitering$Sky;", Cond.methodLink RX5 106 yX5_requireTwoNodesAndMinute, Cond.instanceMethod yX5_requireTwoNodesAndMinute, Cond.selects RX5 yX5_requireTwoNodesAndMinute yX5_requireTwoNodesAndMinute, Cond.initialized RX5, Cond.code yX5_requireTwoNodesAndMinute cX5_requireTwoNodesAndMinute 4 none, Cond.methodLink RX5 87 yX5_requireNode, Cond.instanceMethod yX5_requireNode, Cond.selects RX5 yX5_requireNode yX5_requireNode, Cond.code yX5_requireNode cX5_requireNode 2 none, Cond.classLink RX5 91 "java/lang/IndexOutOfBoundsException", Cond.initialized "java/lang/IndexOutOfBoundsException", Cond.methodLink RX5 54 yX5_inRange, Cond.static yX5_inRange, Cond.code yX5_inRange cX5_inRange 3 (some .boolean), Cond.methodLink RX5 99 yX5_requireMinute, Cond.static yX5_requireMinute, Cond.code yX5_requireMinute cX5_requireMinute 1 none, Cond.constant RX5 147 (1000000), Cond.methodLink RX5 58 yX5_requireArgument, Cond.static yX5_requireArgument, Cond.code yX5_requireArgument cX5_requireArgument 1 none, Cond.classLink RX5 214 "java/lang/IllegalArgumentException", Cond.initialized "java/lang/IllegalArgumentException"]
def wsX5_see_r2 : List Cond := [Cond.methodLink RX5 110 yX2_inContact, Cond.instanceMethod yX2_inContact, Cond.selects RX2 yX2_inContact yX2_inContact, Cond.initialized RX2, Cond.code yX2_inContact cX2_inContact 4 (some .boolean), Cond.methodLink RX2 56 yX2_seenFrom, Cond.instanceMethod yX2_seenFrom, Cond.selects RX2 yX2_seenFrom yX2_seenFrom, Cond.code yX2_seenFrom cX2_seenFrom 3 (some .int), Cond.fieldLink RX2 23 "Satellitering$Sky" "seen" "[[I"]
def wsX5_see : List Cond := .code yX5_see cX5_see 4 (some .boolean) :: ((wsX5_see_r1 ++ wsX5_see_r2) ++ wsX50 ++ wsX20 ++ (vx_atS RX5 95 "java/lang/IndexOutOfBoundsException" ["java/lang/RuntimeException", "java/lang/Exception"]).filter goodWord ++ (vx_atS RX5 218 "java/lang/IllegalArgumentException" ["java/lang/RuntimeException", "java/lang/Exception"]).filter goodWord)
def wsX5_nextContact_r1 : List Cond := [Cond.fieldLink RX5 12 "Satellitering" "sky" "LSatellitering$Sky;", Cond.methodLink RX5 106 yX5_requireTwoNodesAndMinute, Cond.instanceMethod yX5_requireTwoNodesAndMinute, Cond.selects RX5 yX5_requireTwoNodesAndMinute yX5_requireTwoNodesAndMinute, Cond.initialized RX5, Cond.code yX5_requireTwoNodesAndMinute cX5_requireTwoNodesAndMinute 4 none, Cond.methodLink RX5 87 yX5_requireNode, Cond.instanceMethod yX5_requireNode, Cond.selects RX5 yX5_requireNode yX5_requireNode, Cond.code yX5_requireNode cX5_requireNode 2 none, Cond.classLink RX5 91 "java/lang/IndexOutOfBoundsException", Cond.initialized "java/lang/IndexOutOfBoundsException", Cond.methodLink RX5 54 yX5_inRange, Cond.static yX5_inRange, Cond.code yX5_inRange cX5_inRange 3 (some .boolean), Cond.methodLink RX5 99 yX5_requireMinute, Cond.static yX5_requireMinute, Cond.code yX5_requireMinute cX5_requireMinute 1 none, Cond.constant RX5 147 (1000000), Cond.methodLink RX5 58 yX5_requireArgument, Cond.static yX5_requireArgument, Cond.code yX5_requireArgument cX5_requireArgument 1 none, Cond.classLink RX5 214 "java/lang/IllegalArgumentException", Cond.initialized "java/lang/IllegalArgumentException"]
def wsX5_nextContact_r2 : List Cond := [Cond.methodLink RX5 113 yX2_firstContact, Cond.instanceMethod yX2_firstContact, Cond.selects RX2 yX2_firstContact yX2_firstContact, Cond.initialized RX2, Cond.code yX2_firstContact cX2_firstContact 5 (some .int), Cond.methodLink RX2 59 yX2_inContact, Cond.instanceMethod yX2_inContact, Cond.selects RX2 yX2_inContact yX2_inContact, Cond.code yX2_inContact cX2_inContact 4 (some .boolean), Cond.methodLink RX2 56 yX2_seenFrom, Cond.instanceMethod yX2_seenFrom, Cond.selects RX2 yX2_seenFrom yX2_seenFrom, Cond.code yX2_seenFrom cX2_seenFrom 3 (some .int), Cond.fieldLink RX2 23 "Satellitering$Sky" "seen" "[[I"]
def wsX5_nextContact : List Cond := .code yX5_nextContact cX5_nextContact 4 (some .int) :: ((wsX5_nextContact_r1 ++ wsX5_nextContact_r2) ++ wsX50 ++ wsX20 ++ (vx_atS RX5 95 "java/lang/IndexOutOfBoundsException" ["java/lang/RuntimeException", "java/lang/Exception"]).filter goodWord ++ (vx_atS RX5 218 "java/lang/IllegalArgumentException" ["java/lang/RuntimeException", "java/lang/Exception"]).filter goodWord)
def wsX5_view_r1 : List Cond := [Cond.fieldLink RX5 12 "Satellitering" "sky" "LSatellitering$Sky;", Cond.methodLink RX5 106 yX5_requireTwoNodesAndMinute, Cond.instanceMethod yX5_requireTwoNodesAndMinute, Cond.selects RX5 yX5_requireTwoNodesAndMinute yX5_requireTwoNodesAndMinute, Cond.initialized RX5, Cond.code yX5_requireTwoNodesAndMinute cX5_requireTwoNodesAndMinute 4 none, Cond.methodLink RX5 87 yX5_requireNode, Cond.instanceMethod yX5_requireNode, Cond.selects RX5 yX5_requireNode yX5_requireNode, Cond.code yX5_requireNode cX5_requireNode 2 none, Cond.classLink RX5 91 "java/lang/IndexOutOfBoundsException", Cond.initialized "java/lang/IndexOutOfBoundsException", Cond.methodLink RX5 54 yX5_inRange, Cond.static yX5_inRange, Cond.code yX5_inRange cX5_inRange 3 (some .boolean), Cond.methodLink RX5 99 yX5_requireMinute, Cond.static yX5_requireMinute, Cond.code yX5_requireMinute cX5_requireMinute 1 none, Cond.constant RX5 147 (1000000), Cond.methodLink RX5 58 yX5_requireArgument, Cond.static yX5_requireArgument, Cond.code yX5_requireArgument cX5_requireArgument 1 none, Cond.classLink RX5 214 "java/lang/IllegalArgumentException", Cond.initialized "java/lang/IllegalArgumentException"]
def wsX5_view_r2 : List Cond := [Cond.methodLink RX5 116 yX2_contactLength, Cond.instanceMethod yX2_contactLength, Cond.selects RX2 yX2_contactLength yX2_contactLength, Cond.initialized RX2, Cond.code yX2_contactLength cX2_contactLength 5 (some .int), Cond.methodLink RX2 59 yX2_inContact, Cond.instanceMethod yX2_inContact, Cond.selects RX2 yX2_inContact yX2_inContact, Cond.code yX2_inContact cX2_inContact 4 (some .boolean), Cond.methodLink RX2 56 yX2_seenFrom, Cond.instanceMethod yX2_seenFrom, Cond.selects RX2 yX2_seenFrom yX2_seenFrom, Cond.code yX2_seenFrom cX2_seenFrom 3 (some .int), Cond.fieldLink RX2 23 "Satellitering$Sky" "seen" "[[I"]
def wsX5_view : List Cond := .code yX5_view cX5_view 4 (some .int) :: ((wsX5_view_r1 ++ wsX5_view_r2) ++ wsX50 ++ wsX20 ++ (vx_atS RX5 95 "java/lang/IndexOutOfBoundsException" ["java/lang/RuntimeException", "java/lang/Exception"]).filter goodWord ++ (vx_atS RX5 218 "java/lang/IllegalArgumentException" ["java/lang/RuntimeException", "java/lang/Exception"]).filter goodWord)
def wsX5_arrival_r1 : List Cond := [Cond.fieldLink RX5 21 "Satellitering" "search" "LSatellitering$Search;", Cond.methodLink RX5 106 yX5_requireTwoNodesAndMinute, Cond.instanceMethod yX5_requireTwoNodesAndMinute, Cond.selects RX5 yX5_requireTwoNodesAndMinute yX5_requireTwoNodesAndMinute, Cond.initialized RX5, Cond.code yX5_requireTwoNodesAndMinute cX5_requireTwoNodesAndMinute 4 none, Cond.methodLink RX5 87 yX5_requireNode, Cond.instanceMethod yX5_requireNode, Cond.selects RX5 yX5_requireNode yX5_requireNode, Cond.code yX5_requireNode cX5_requireNode 2 none, Cond.classLink RX5 91 "java/lang/IndexOutOfBoundsException", Cond.initialized "java/lang/IndexOutOfBoundsException", Cond.fieldLink RX5 12 "Satellitering" "sky" "LSatellitering$Sky;", Cond.methodLink RX5 54 yX5_inRange, Cond.static yX5_inRange, Cond.code yX5_inRange cX5_inRange 3 (some .boolean), Cond.methodLink RX5 99 yX5_requireMinute, Cond.static yX5_requireMinute, Cond.code yX5_requireMinute cX5_requireMinute 1 none, Cond.constant RX5 147 (1000000), Cond.methodLink RX5 58 yX5_requireArgument, Cond.static yX5_requireArgument, Cond.code yX5_requireArgument cX5_requireArgument 1 none, Cond.classLink RX5 214 "java/lang/IllegalArgumentException"]
def wsX5_arrival_r2 : List Cond := [Cond.initialized "java/lang/IllegalArgumentException", Cond.methodLink RX5 119 yX1_byContacts, Cond.instanceMethod yX1_byContacts, Cond.selects RX1 yX1_byContacts yX1_byContacts, Cond.initialized RX1, Cond.code yX1_byContacts cX1_byContacts 8 (some .int), Cond.fieldLink RX1 9 "Satellitering$Search" "reached" "[I", Cond.fieldLink RX1 15 "Satellitering$Search" "sky" "LSatellitering$Sky;", Cond.methodLink RX1 19 yJ7_fill_53178, Cond.static yJ7_fill_53178, Cond.initialized RJ7, Cond.code yJ7_fill_53178 cJ7_fill_53178 4 none, Cond.methodLink RX1 31 yX1_earliestReached, Cond.instanceMethod yX1_earliestReached, Cond.selects RX1 yX1_earliestReached yX1_earliestReached, Cond.code yX1_earliestReached cX1_earliestReached 6 (some .int), Cond.methodLink RX1 35 yX1_goOnFrom, Cond.instanceMethod yX1_goOnFrom, Cond.selects RX1 yX1_goOnFrom yX1_goOnFrom, Cond.code yX1_goOnFrom cX1_goOnFrom 5 none, Cond.methodLink RX1 39 yX2_firstContact, Cond.instanceMethod yX2_firstContact, Cond.selects RX2 yX2_firstContact yX2_firstContact, Cond.initialized RX2]
def wsX5_arrival_r3 : List Cond := [Cond.code yX2_firstContact cX2_firstContact 5 (some .int), Cond.methodLink RX2 59 yX2_inContact, Cond.instanceMethod yX2_inContact, Cond.selects RX2 yX2_inContact yX2_inContact, Cond.code yX2_inContact cX2_inContact 4 (some .boolean), Cond.methodLink RX2 56 yX2_seenFrom, Cond.instanceMethod yX2_seenFrom, Cond.selects RX2 yX2_seenFrom yX2_seenFrom, Cond.code yX2_seenFrom cX2_seenFrom 3 (some .int), Cond.fieldLink RX2 23 "Satellitering$Sky" "seen" "[[I"]
def wsX5_arrival : List Cond := .code yX5_arrival cX5_arrival 4 (some .int) :: ((wsX5_arrival_r1 ++ (wsX5_arrival_r2 ++ wsX5_arrival_r3)) ++ wsX50 ++ wsX20 ++ wsX10 ++ (vx_atS RX5 95 "java/lang/IndexOutOfBoundsException" ["java/lang/RuntimeException", "java/lang/Exception"]).filter goodWord ++ (vx_atS RX5 218 "java/lang/IllegalArgumentException" ["java/lang/RuntimeException", "java/lang/Exception"]).filter goodWord)
def wsX5_arrivalByFlooding_r1 : List Cond := [Cond.fieldLink RX5 21 "Satellitering" "search" "LSatellitering$Search;", Cond.methodLink RX5 106 yX5_requireTwoNodesAndMinute, Cond.instanceMethod yX5_requireTwoNodesAndMinute, Cond.selects RX5 yX5_requireTwoNodesAndMinute yX5_requireTwoNodesAndMinute, Cond.initialized RX5, Cond.code yX5_requireTwoNodesAndMinute cX5_requireTwoNodesAndMinute 4 none, Cond.methodLink RX5 87 yX5_requireNode, Cond.instanceMethod yX5_requireNode, Cond.selects RX5 yX5_requireNode yX5_requireNode, Cond.code yX5_requireNode cX5_requireNode 2 none, Cond.classLink RX5 91 "java/lang/IndexOutOfBoundsException", Cond.initialized "java/lang/IndexOutOfBoundsException", Cond.fieldLink RX5 12 "Satellitering" "sky" "LSatellitering$Sky;", Cond.methodLink RX5 54 yX5_inRange, Cond.static yX5_inRange, Cond.code yX5_inRange cX5_inRange 3 (some .boolean), Cond.methodLink RX5 99 yX5_requireMinute, Cond.static yX5_requireMinute, Cond.code yX5_requireMinute cX5_requireMinute 1 none, Cond.constant RX5 147 (1000000), Cond.methodLink RX5 58 yX5_requireArgument, Cond.static yX5_requireArgument, Cond.code yX5_requireArgument cX5_requireArgument 1 none, Cond.classLink RX5 214 "java/lang/IllegalArgumentException"]
def wsX5_arrivalByFlooding_r2 : List Cond := [Cond.initialized "java/lang/IllegalArgumentException", Cond.methodLink RX5 122 yX1_byFlooding, Cond.instanceMethod yX1_byFlooding, Cond.selects RX1 yX1_byFlooding yX1_byFlooding, Cond.initialized RX1, Cond.code yX1_byFlooding cX1_byFlooding 6 (some .int), Cond.methodLink RX1 43 yX1_floodedNext, Cond.instanceMethod yX1_floodedNext, Cond.selects RX1 yX1_floodedNext yX1_floodedNext, Cond.code yX1_floodedNext cX1_floodedNext 5 (some .int), Cond.fieldLink RX1 15 "Satellitering$Search" "sky" "LSatellitering$Sky;", Cond.methodLink RX1 46 yX2_seenFrom, Cond.instanceMethod yX2_seenFrom, Cond.selects RX2 yX2_seenFrom yX2_seenFrom, Cond.initialized RX2, Cond.code yX2_seenFrom cX2_seenFrom 3 (some .int), Cond.fieldLink RX2 23 "Satellitering$Sky" "seen" "[[I"]
def wsX5_arrivalByFlooding : List Cond := .code yX5_arrivalByFlooding cX5_arrivalByFlooding 4 (some .int) :: ((wsX5_arrivalByFlooding_r1 ++ wsX5_arrivalByFlooding_r2) ++ wsX50 ++ wsX20 ++ wsX10 ++ (vx_atS RX5 95 "java/lang/IndexOutOfBoundsException" ["java/lang/RuntimeException", "java/lang/Exception"]).filter goodWord ++ (vx_atS RX5 218 "java/lang/IllegalArgumentException" ["java/lang/RuntimeException", "java/lang/Exception"]).filter goodWord)
def wsJ6_bitCount_0f7a4 : List Cond := .code yJ6_bitCount_0f7a4 cJ6_bitCount_0f7a4 1 (some .int) :: ([.constant RJ6 265 (1431655765), .constant RJ6 266 (858993459), .constant RJ6 267 (252645135)])
def wsX5_spread_r1 : List Cond := [Cond.fieldLink RX5 21 "Satellitering" "search" "LSatellitering$Search;", Cond.methodLink RX5 87 yX5_requireNode, Cond.instanceMethod yX5_requireNode, Cond.selects RX5 yX5_requireNode yX5_requireNode, Cond.initialized RX5, Cond.code yX5_requireNode cX5_requireNode 2 none, Cond.classLink RX5 91 "java/lang/IndexOutOfBoundsException", Cond.initialized "java/lang/IndexOutOfBoundsException", Cond.fieldLink RX5 12 "Satellitering" "sky" "LSatellitering$Sky;", Cond.methodLink RX5 54 yX5_inRange, Cond.static yX5_inRange, Cond.code yX5_inRange cX5_inRange 3 (some .boolean), Cond.methodLink RX5 99 yX5_requireMinute, Cond.static yX5_requireMinute, Cond.code yX5_requireMinute cX5_requireMinute 1 none, Cond.constant RX5 147 (1000000), Cond.methodLink RX5 58 yX5_requireArgument, Cond.static yX5_requireArgument, Cond.code yX5_requireArgument cX5_requireArgument 1 none, Cond.classLink RX5 214 "java/lang/IllegalArgumentException", Cond.initialized "java/lang/IllegalArgumentException", Cond.methodLink RX5 125 yX1_flooded, Cond.instanceMethod yX1_flooded, Cond.selects RX1 yX1_flooded yX1_flooded]
def wsX5_spread_r2 : List Cond := [Cond.initialized RX1, Cond.code yX1_flooded cX1_flooded 6 (some .int), Cond.methodLink RX1 43 yX1_floodedNext, Cond.instanceMethod yX1_floodedNext, Cond.selects RX1 yX1_floodedNext yX1_floodedNext, Cond.code yX1_floodedNext cX1_floodedNext 5 (some .int), Cond.fieldLink RX1 15 "Satellitering$Search" "sky" "LSatellitering$Sky;", Cond.methodLink RX1 46 yX2_seenFrom, Cond.instanceMethod yX2_seenFrom, Cond.selects RX2 yX2_seenFrom yX2_seenFrom, Cond.initialized RX2, Cond.code yX2_seenFrom cX2_seenFrom 3 (some .int), Cond.fieldLink RX2 23 "Satellitering$Sky" "seen" "[[I", Cond.methodLink RX5 128 yJ6_bitCount_0f7a4, Cond.static yJ6_bitCount_0f7a4, Cond.initialized RJ6, Cond.code yJ6_bitCount_0f7a4 cJ6_bitCount_0f7a4 1 (some .int), Cond.constant RJ6 265 (1431655765), Cond.constant RJ6 266 (858993459), Cond.constant RJ6 267 (252645135)]
def wsX5_spread : List Cond := .code yX5_spread cX5_spread 4 (some .int) :: ((wsX5_spread_r1 ++ wsX5_spread_r2) ++ wsX50 ++ wsX20 ++ wsX10 ++ (vx_atS RX5 95 "java/lang/IndexOutOfBoundsException" ["java/lang/RuntimeException", "java/lang/Exception"]).filter goodWord ++ (vx_atS RX5 218 "java/lang/IllegalArgumentException" ["java/lang/RuntimeException", "java/lang/Exception"]).filter goodWord)
def wsX5_requireStation : List Cond := .code yX5_requireStation cX5_requireStation 3 (some (.object "Satellitering$Station")) :: ([.classLink RX5 91 "java/lang/IndexOutOfBoundsException", .initialized "java/lang/IndexOutOfBoundsException", .fieldLink RX5 27 "Satellitering" "stations" "[LSatellitering$Station;", .methodLink RX5 87 yX5_requireNode, .instanceMethod yX5_requireNode, .selects RX5 yX5_requireNode yX5_requireNode, .initialized RX5, .code yX5_requireNode cX5_requireNode 2 none, .fieldLink RX5 12 "Satellitering" "sky" "LSatellitering$Sky;", .methodLink RX5 54 yX5_inRange, .static yX5_inRange, .code yX5_inRange cX5_inRange 3 (some .boolean)] ++ wsX50 ++ wsX20 ++ (vx_atS RX5 95 "java/lang/IndexOutOfBoundsException" ["java/lang/RuntimeException", "java/lang/Exception"]).filter goodWord)
def wsX5_send_r1 : List Cond := [Cond.classLink RX5 62 "java/lang/IllegalStateException", Cond.initialized "java/lang/IllegalStateException", Cond.fieldLink RX5 48 "Satellitering" "sentCount" "I", Cond.fieldLink RX5 37 "Satellitering" "sent" "[LSatellitering$Message;", Cond.classLink RX5 35 RX0, Cond.instantiable RX0 8, Cond.initialized RX0, Cond.methodLink RX5 134 yX5_requireStation, Cond.instanceMethod yX5_requireStation, Cond.selects RX5 yX5_requireStation yX5_requireStation, Cond.initialized RX5, Cond.code yX5_requireStation cX5_requireStation 3 (some (.object "Satellitering$Station")), Cond.classLink RX5 91 "java/lang/IndexOutOfBoundsException", Cond.initialized "java/lang/IndexOutOfBoundsException", Cond.fieldLink RX5 27 "Satellitering" "stations" "[LSatellitering$Station;", Cond.methodLink RX5 87 yX5_requireNode, Cond.instanceMethod yX5_requireNode, Cond.selects RX5 yX5_requireNode yX5_requireNode, Cond.code yX5_requireNode cX5_requireNode 2 none, Cond.fieldLink RX5 12 "Satellitering" "sky" "LSatellitering$Sky;", Cond.methodLink RX5 54 yX5_inRange, Cond.static yX5_inRange, Cond.code yX5_inRange cX5_inRange 3 (some .boolean), Cond.methodLink RX5 58 yX5_requireArgument]
def wsX5_send_r2 : List Cond := [Cond.static yX5_requireArgument, Cond.code yX5_requireArgument cX5_requireArgument 1 none, Cond.classLink RX5 214 "java/lang/IllegalArgumentException", Cond.initialized "java/lang/IllegalArgumentException", Cond.methodLink RX5 144 yX0_init, Cond.instanceMethod yX0_init, Cond.code yX0_init cX0_init 4 none, Cond.methodLink RX0 1 objectInit, Cond.instanceMethod objectInit, Cond.code objectInit ⟨#[0xb1]⟩ 1 none, Cond.fieldLink RX0 7 "Satellitering$Message" "since" "I", Cond.fieldLink RX0 13 "Satellitering$Message" "blocks" "I", Cond.fieldLink RX0 16 "Satellitering$Message" "hopCount" "I", Cond.arrayClass .int, Cond.fieldLink RX0 19 "Satellitering$Message" "hopNodes" "[I", Cond.fieldLink RX0 23 "Satellitering$Message" "hopMinutes" "[I", Cond.fieldLink RX0 26 "Satellitering$Message" "node" "I", Cond.fieldLink RX0 29 "Satellitering$Message" "goal" "I", Cond.fieldLink RX0 32 "Satellitering$Message" "timetable" "LSatellitering$Timetable;"]
def wsX5_send : List Cond := .code yX5_send cX5_send 5 (some .int) :: ((wsX5_send_r1 ++ wsX5_send_r2) ++ wsX50 ++ wsX00 ++ wsX30 ++ wsX20 ++ (vx_atS RX5 66 "java/lang/IllegalStateException" ["java/lang/RuntimeException", "java/lang/Exception"]).filter goodWord ++ (vx_atS RX5 95 "java/lang/IndexOutOfBoundsException" ["java/lang/RuntimeException", "java/lang/Exception"]).filter goodWord ++ (vx_atS RX5 218 "java/lang/IllegalArgumentException" ["java/lang/RuntimeException", "java/lang/Exception"]).filter goodWord)
def wsX5_messagesAt : List Cond := .code yX5_messagesAt cX5_messagesAt 4 (some .int) :: ([.fieldLink RX5 48 "Satellitering" "sentCount" "I", .fieldLink RX5 37 "Satellitering" "sent" "[LSatellitering$Message;"] ++ wsX50 ++ wsX00)
def wsX5_isFull : List Cond := .code yX5_isFull cX5_isFull 2 (some .boolean) :: ([.fieldLink RX5 27 "Satellitering" "stations" "[LSatellitering$Station;", .fieldLink RX5 31 "Satellitering" "capacities" "[I", .methodLink RX5 189 yX5_messagesAt, .instanceMethod yX5_messagesAt, .selects RX5 yX5_messagesAt yX5_messagesAt, .initialized RX5, .code yX5_messagesAt cX5_messagesAt 4 (some .int), .fieldLink RX5 48 "Satellitering" "sentCount" "I", .fieldLink RX5 37 "Satellitering" "sent" "[LSatellitering$Message;"] ++ wsX50 ++ wsX00)
def wsX5_moveOn_r1 : List Cond := [Cond.fieldLink RX5 51 "Satellitering" "now" "I", Cond.methodLink RX5 203 yX4_nextNode, Cond.instanceMethod yX4_nextNode, Cond.selects RX4 yX4_nextNode yX4_nextNode, Cond.initialized RX4, Cond.code yX4_nextNode cX4_nextNode 6 (some .int), Cond.fieldLink RX4 23 "Satellitering$Timetable" "nodesKnown" "I", Cond.fieldLink RX4 27 "Satellitering$Timetable" "sky" "LSatellitering$Sky;", Cond.fieldLink RX4 11 "Satellitering$Timetable" "left" "[[I", Cond.methodLink RX4 39 yX4_reckon, Cond.instanceMethod yX4_reckon, Cond.selects RX4 yX4_reckon yX4_reckon, Cond.code yX4_reckon cX4_reckon 3 none, Cond.fieldLink RX4 16 "Satellitering$Timetable" "soonest" "[I", Cond.methodLink RX4 46 yJ7_fill_53178, Cond.static yJ7_fill_53178, Cond.initialized RJ7, Cond.code yJ7_fill_53178 cJ7_fill_53178 4 none, Cond.methodLink RX4 52 yX4_stepBack, Cond.instanceMethod yX4_stepBack, Cond.selects RX4 yX4_stepBack yX4_stepBack, Cond.code yX4_stepBack cX4_stepBack 4 none, Cond.fieldLink RX4 20 "Satellitering$Timetable" "soonestBefore" "[I", Cond.fieldLink RX4 31 "Satellitering$Timetable" "goal" "I"]
def wsX5_moveOn_r2 : List Cond := [Cond.methodLink RX4 59 yX2_seenFrom, Cond.instanceMethod yX2_seenFrom, Cond.selects RX2 yX2_seenFrom yX2_seenFrom, Cond.initialized RX2, Cond.code yX2_seenFrom cX2_seenFrom 3 (some .int), Cond.fieldLink RX2 23 "Satellitering$Sky" "seen" "[[I", Cond.methodLink RX4 63 yX4_soonestThrough, Cond.instanceMethod yX4_soonestThrough, Cond.selects RX4 yX4_soonestThrough yX4_soonestThrough, Cond.code yX4_soonestThrough cX4_soonestThrough 5 (some .int), Cond.methodLink RX4 56 yX4_writeDown, Cond.instanceMethod yX4_writeDown, Cond.selects RX4 yX4_writeDown yX4_writeDown, Cond.code yX4_writeDown cX4_writeDown 4 none, Cond.methodLink RX4 42 yX2_inContact, Cond.instanceMethod yX2_inContact, Cond.selects RX2 yX2_inContact yX2_inContact, Cond.code yX2_inContact cX2_inContact 4 (some .boolean), Cond.methodLink RX2 56 yX2_seenFrom, Cond.methodLink RX5 206 yX5_isFull, Cond.instanceMethod yX5_isFull, Cond.selects RX5 yX5_isFull yX5_isFull, Cond.initialized RX5, Cond.code yX5_isFull cX5_isFull 2 (some .boolean)]
def wsX5_moveOn_r3 : List Cond := [Cond.fieldLink RX5 27 "Satellitering" "stations" "[LSatellitering$Station;", Cond.fieldLink RX5 31 "Satellitering" "capacities" "[I", Cond.methodLink RX5 189 yX5_messagesAt, Cond.instanceMethod yX5_messagesAt, Cond.selects RX5 yX5_messagesAt yX5_messagesAt, Cond.code yX5_messagesAt cX5_messagesAt 4 (some .int), Cond.fieldLink RX5 48 "Satellitering" "sentCount" "I", Cond.fieldLink RX5 37 "Satellitering" "sent" "[LSatellitering$Message;", Cond.methodLink RX5 210 yX0_handTo, Cond.instanceMethod yX0_handTo, Cond.selects RX0 yX0_handTo yX0_handTo, Cond.initialized RX0, Cond.code yX0_handTo cX0_handTo 3 none, Cond.fieldLink RX0 16 "Satellitering$Message" "hopCount" "I", Cond.fieldLink RX0 19 "Satellitering$Message" "hopNodes" "[I", Cond.fieldLink RX0 23 "Satellitering$Message" "hopMinutes" "[I", Cond.fieldLink RX0 26 "Satellitering$Message" "node" "I", Cond.fieldLink RX0 7 "Satellitering$Message" "since" "I", Cond.methodLink RX0 36 yJ7_copyOf_59c91, Cond.static yJ7_copyOf_59c91, Cond.code yJ7_copyOf_59c91 cJ7_copyOf_59c91 3 (some (.array .int)), Cond.methodLink RJ7 316 ⟨"[I", "clone", "()Ljava/lang/Object;"⟩, Cond.sameMethod "[I" "java/lang/Object" "clone" "()Ljava/lang/Object;", Cond.native ⟨"java/lang/Object", "clone", "()Ljava/lang/Object;"⟩]
def wsX5_moveOn_r4 : List Cond := [Cond.instanceMethod ⟨"java/lang/Object", "clone", "()Ljava/lang/Object;"⟩, Cond.selects "[I" ⟨"[I", "clone", "()Ljava/lang/Object;"⟩ ⟨"java/lang/Object", "clone", "()Ljava/lang/Object;"⟩, Cond.classLink RJ7 317 "[I", Cond.arrayClass .int, Cond.methodLink RJ7 304 Lib.Math.min.name, Cond.static Lib.Math.min.name, Cond.initialized "java/lang/Math", Cond.code Lib.Math.min.name Lib.Math.min.code 2 (some .int), Cond.methodLink RJ7 150 arraycopyName, Cond.native arraycopyName, Cond.static arraycopyName, Cond.initialized "java/lang/System"]
def wsX5_moveOn : List Cond := .code yX5_moveOn cX5_moveOn 3 none :: ((wsX5_moveOn_r1 ++ (wsX5_moveOn_r2 ++ (wsX5_moveOn_r3 ++ wsX5_moveOn_r4))) ++ wsX00 ++ wsX50 ++ wsX40 ++ wsX20)
def wsX5_passOneMinute_r1 : List Cond := [Cond.fieldLink RX5 48 "Satellitering" "sentCount" "I", Cond.fieldLink RX5 37 "Satellitering" "sent" "[LSatellitering$Message;", Cond.fieldLink RX5 51 "Satellitering" "now" "I", Cond.fieldLink RX5 12 "Satellitering" "sky" "LSatellitering$Sky;", Cond.fieldLink RX5 27 "Satellitering" "stations" "[LSatellitering$Station;", Cond.methodLink RX5 161 yX0_isAtGoal, Cond.instanceMethod yX0_isAtGoal, Cond.selects RX0 yX0_isAtGoal yX0_isAtGoal, Cond.initialized RX0, Cond.code yX0_isAtGoal cX0_isAtGoal 1 (some .boolean), Cond.fieldLink RX0 26 "Satellitering$Message" "node" "I", Cond.fieldLink RX0 29 "Satellitering$Message" "goal" "I", Cond.methodLink RX5 198 yX5_moveOn, Cond.instanceMethod yX5_moveOn, Cond.selects RX5 yX5_moveOn yX5_moveOn, Cond.initialized RX5, Cond.code yX5_moveOn cX5_moveOn 3 none, Cond.methodLink RX5 203 yX4_nextNode, Cond.instanceMethod yX4_nextNode, Cond.selects RX4 yX4_nextNode yX4_nextNode, Cond.initialized RX4, Cond.code yX4_nextNode cX4_nextNode 6 (some .int), Cond.fieldLink RX4 23 "Satellitering$Timetable" "nodesKnown" "I", Cond.fieldLink RX4 27 "Satellitering$Timetable" "sky" "LSatellitering$Sky;"]
def wsX5_passOneMinute_r2 : List Cond := [Cond.fieldLink RX4 11 "Satellitering$Timetable" "left" "[[I", Cond.methodLink RX4 39 yX4_reckon, Cond.instanceMethod yX4_reckon, Cond.selects RX4 yX4_reckon yX4_reckon, Cond.code yX4_reckon cX4_reckon 3 none, Cond.fieldLink RX4 16 "Satellitering$Timetable" "soonest" "[I", Cond.methodLink RX4 46 yJ7_fill_53178, Cond.static yJ7_fill_53178, Cond.initialized RJ7, Cond.code yJ7_fill_53178 cJ7_fill_53178 4 none, Cond.methodLink RX4 52 yX4_stepBack, Cond.instanceMethod yX4_stepBack, Cond.selects RX4 yX4_stepBack yX4_stepBack, Cond.code yX4_stepBack cX4_stepBack 4 none, Cond.fieldLink RX4 20 "Satellitering$Timetable" "soonestBefore" "[I", Cond.fieldLink RX4 31 "Satellitering$Timetable" "goal" "I", Cond.methodLink RX4 59 yX2_seenFrom, Cond.instanceMethod yX2_seenFrom, Cond.selects RX2 yX2_seenFrom yX2_seenFrom, Cond.initialized RX2, Cond.code yX2_seenFrom cX2_seenFrom 3 (some .int), Cond.fieldLink RX2 23 "Satellitering$Sky" "seen" "[[I", Cond.methodLink RX4 63 yX4_soonestThrough, Cond.instanceMethod yX4_soonestThrough]
def wsX5_passOneMinute_r3 : List Cond := [Cond.selects RX4 yX4_soonestThrough yX4_soonestThrough, Cond.code yX4_soonestThrough cX4_soonestThrough 5 (some .int), Cond.methodLink RX4 56 yX4_writeDown, Cond.instanceMethod yX4_writeDown, Cond.selects RX4 yX4_writeDown yX4_writeDown, Cond.code yX4_writeDown cX4_writeDown 4 none, Cond.methodLink RX4 42 yX2_inContact, Cond.instanceMethod yX2_inContact, Cond.selects RX2 yX2_inContact yX2_inContact, Cond.code yX2_inContact cX2_inContact 4 (some .boolean), Cond.methodLink RX2 56 yX2_seenFrom, Cond.methodLink RX5 206 yX5_isFull, Cond.instanceMethod yX5_isFull, Cond.selects RX5 yX5_isFull yX5_isFull, Cond.code yX5_isFull cX5_isFull 2 (some .boolean), Cond.fieldLink RX5 31 "Satellitering" "capacities" "[I", Cond.methodLink RX5 189 yX5_messagesAt, Cond.instanceMethod yX5_messagesAt, Cond.selects RX5 yX5_messagesAt yX5_messagesAt, Cond.code yX5_messagesAt cX5_messagesAt 4 (some .int), Cond.methodLink RX5 210 yX0_handTo, Cond.instanceMethod yX0_handTo, Cond.selects RX0 yX0_handTo yX0_handTo, Cond.code yX0_handTo cX0_handTo 3 none]
def wsX5_passOneMinute_r4 : List Cond := [Cond.fieldLink RX0 16 "Satellitering$Message" "hopCount" "I", Cond.fieldLink RX0 19 "Satellitering$Message" "hopNodes" "[I", Cond.fieldLink RX0 23 "Satellitering$Message" "hopMinutes" "[I", Cond.fieldLink RX0 7 "Satellitering$Message" "since" "I", Cond.methodLink RX0 36 yJ7_copyOf_59c91, Cond.static yJ7_copyOf_59c91, Cond.code yJ7_copyOf_59c91 cJ7_copyOf_59c91 3 (some (.array .int)), Cond.methodLink RJ7 316 ⟨"[I", "clone", "()Ljava/lang/Object;"⟩, Cond.sameMethod "[I" "java/lang/Object" "clone" "()Ljava/lang/Object;", Cond.native ⟨"java/lang/Object", "clone", "()Ljava/lang/Object;"⟩, Cond.instanceMethod ⟨"java/lang/Object", "clone", "()Ljava/lang/Object;"⟩, Cond.selects "[I" ⟨"[I", "clone", "()Ljava/lang/Object;"⟩ ⟨"java/lang/Object", "clone", "()Ljava/lang/Object;"⟩, Cond.classLink RJ7 317 "[I", Cond.arrayClass .int, Cond.methodLink RJ7 304 Lib.Math.min.name, Cond.static Lib.Math.min.name, Cond.initialized "java/lang/Math", Cond.code Lib.Math.min.name Lib.Math.min.code 2 (some .int), Cond.methodLink RJ7 150 arraycopyName, Cond.native arraycopyName, Cond.static arraycopyName, Cond.initialized "java/lang/System", Cond.methodLink RX5 81 yX5_lookForRelay, Cond.instanceMethod yX5_lookForRelay]
def wsX5_passOneMinute_r5 : List Cond := [Cond.selects RX5 yX5_lookForRelay yX5_lookForRelay, Cond.code yX5_lookForRelay cX5_lookForRelay 7 none, Cond.methodLink RX5 110 yX2_inContact, Cond.methodLink RX5 116 yX2_contactLength, Cond.instanceMethod yX2_contactLength, Cond.selects RX2 yX2_contactLength yX2_contactLength, Cond.code yX2_contactLength cX2_contactLength 5 (some .int), Cond.methodLink RX2 59 yX2_inContact]
def wsX5_passOneMinute : List Cond := .code yX5_passOneMinute cX5_passOneMinute 4 (some .int) :: ((wsX5_passOneMinute_r1 ++ (wsX5_passOneMinute_r2 ++ (wsX5_passOneMinute_r3 ++ (wsX5_passOneMinute_r4 ++ wsX5_passOneMinute_r5)))) ++ wsX50 ++ wsX20 ++ wsX00 ++ wsX40 ++ wsX30)
def wsX5_pass_r1 : List Cond := [Cond.classLink RX5 62 "java/lang/IllegalStateException", Cond.initialized "java/lang/IllegalStateException", Cond.fieldLink RX5 51 "Satellitering" "now" "I", Cond.constant RX5 147 (1000000), Cond.methodLink RX5 54 yX5_inRange, Cond.static yX5_inRange, Cond.initialized RX5, Cond.code yX5_inRange cX5_inRange 3 (some .boolean), Cond.methodLink RX5 58 yX5_requireArgument, Cond.static yX5_requireArgument, Cond.code yX5_requireArgument cX5_requireArgument 1 none, Cond.classLink RX5 214 "java/lang/IllegalArgumentException", Cond.initialized "java/lang/IllegalArgumentException", Cond.methodLink RX5 150 yX5_passOneMinute, Cond.instanceMethod yX5_passOneMinute, Cond.selects RX5 yX5_passOneMinute yX5_passOneMinute, Cond.code yX5_passOneMinute cX5_passOneMinute 4 (some .int), Cond.fieldLink RX5 48 "Satellitering" "sentCount" "I", Cond.fieldLink RX5 37 "Satellitering" "sent" "[LSatellitering$Message;", Cond.fieldLink RX5 12 "Satellitering" "sky" "LSatellitering$Sky;", Cond.fieldLink RX5 27 "Satellitering" "stations" "[LSatellitering$Station;", Cond.methodLink RX5 161 yX0_isAtGoal, Cond.instanceMethod yX0_isAtGoal, Cond.selects RX0 yX0_isAtGoal yX0_isAtGoal]
def wsX5_pass_r2 : List Cond := [Cond.initialized RX0, Cond.code yX0_isAtGoal cX0_isAtGoal 1 (some .boolean), Cond.fieldLink RX0 26 "Satellitering$Message" "node" "I", Cond.fieldLink RX0 29 "Satellitering$Message" "goal" "I", Cond.methodLink RX5 198 yX5_moveOn, Cond.instanceMethod yX5_moveOn, Cond.selects RX5 yX5_moveOn yX5_moveOn, Cond.code yX5_moveOn cX5_moveOn 3 none, Cond.methodLink RX5 203 yX4_nextNode, Cond.instanceMethod yX4_nextNode, Cond.selects RX4 yX4_nextNode yX4_nextNode, Cond.initialized RX4, Cond.code yX4_nextNode cX4_nextNode 6 (some .int), Cond.fieldLink RX4 23 "Satellitering$Timetable" "nodesKnown" "I", Cond.fieldLink RX4 27 "Satellitering$Timetable" "sky" "LSatellitering$Sky;", Cond.fieldLink RX4 11 "Satellitering$Timetable" "left" "[[I", Cond.methodLink RX4 39 yX4_reckon, Cond.instanceMethod yX4_reckon, Cond.selects RX4 yX4_reckon yX4_reckon, Cond.code yX4_reckon cX4_reckon 3 none, Cond.fieldLink RX4 16 "Satellitering$Timetable" "soonest" "[I", Cond.methodLink RX4 46 yJ7_fill_53178, Cond.static yJ7_fill_53178, Cond.initialized RJ7]
def wsX5_pass_r3 : List Cond := [Cond.code yJ7_fill_53178 cJ7_fill_53178 4 none, Cond.methodLink RX4 52 yX4_stepBack, Cond.instanceMethod yX4_stepBack, Cond.selects RX4 yX4_stepBack yX4_stepBack, Cond.code yX4_stepBack cX4_stepBack 4 none, Cond.fieldLink RX4 20 "Satellitering$Timetable" "soonestBefore" "[I", Cond.fieldLink RX4 31 "Satellitering$Timetable" "goal" "I", Cond.methodLink RX4 59 yX2_seenFrom, Cond.instanceMethod yX2_seenFrom, Cond.selects RX2 yX2_seenFrom yX2_seenFrom, Cond.initialized RX2, Cond.code yX2_seenFrom cX2_seenFrom 3 (some .int), Cond.fieldLink RX2 23 "Satellitering$Sky" "seen" "[[I", Cond.methodLink RX4 63 yX4_soonestThrough, Cond.instanceMethod yX4_soonestThrough, Cond.selects RX4 yX4_soonestThrough yX4_soonestThrough, Cond.code yX4_soonestThrough cX4_soonestThrough 5 (some .int), Cond.methodLink RX4 56 yX4_writeDown, Cond.instanceMethod yX4_writeDown, Cond.selects RX4 yX4_writeDown yX4_writeDown, Cond.code yX4_writeDown cX4_writeDown 4 none, Cond.methodLink RX4 42 yX2_inContact, Cond.instanceMethod yX2_inContact, Cond.selects RX2 yX2_inContact yX2_inContact]
def wsX5_pass_r4 : List Cond := [Cond.code yX2_inContact cX2_inContact 4 (some .boolean), Cond.methodLink RX2 56 yX2_seenFrom, Cond.methodLink RX5 206 yX5_isFull, Cond.instanceMethod yX5_isFull, Cond.selects RX5 yX5_isFull yX5_isFull, Cond.code yX5_isFull cX5_isFull 2 (some .boolean), Cond.fieldLink RX5 31 "Satellitering" "capacities" "[I", Cond.methodLink RX5 189 yX5_messagesAt, Cond.instanceMethod yX5_messagesAt, Cond.selects RX5 yX5_messagesAt yX5_messagesAt, Cond.code yX5_messagesAt cX5_messagesAt 4 (some .int), Cond.methodLink RX5 210 yX0_handTo, Cond.instanceMethod yX0_handTo, Cond.selects RX0 yX0_handTo yX0_handTo, Cond.code yX0_handTo cX0_handTo 3 none, Cond.fieldLink RX0 16 "Satellitering$Message" "hopCount" "I", Cond.fieldLink RX0 19 "Satellitering$Message" "hopNodes" "[I", Cond.fieldLink RX0 23 "Satellitering$Message" "hopMinutes" "[I", Cond.fieldLink RX0 7 "Satellitering$Message" "since" "I", Cond.methodLink RX0 36 yJ7_copyOf_59c91, Cond.static yJ7_copyOf_59c91, Cond.code yJ7_copyOf_59c91 cJ7_copyOf_59c91 3 (some (.array .int)), Cond.methodLink RJ7 316 ⟨"[I", "clone", "()Ljava/lang/Object;"⟩, Cond.sameMethod "[I" "java/lang/Object" "clone" "()Ljava/lang/Object;"]
def wsX5_pass_r5 : List Cond := [Cond.native ⟨"java/lang/Object", "clone", "()Ljava/lang/Object;"⟩, Cond.instanceMethod ⟨"java/lang/Object", "clone", "()Ljava/lang/Object;"⟩, Cond.selects "[I" ⟨"[I", "clone", "()Ljava/lang/Object;"⟩ ⟨"java/lang/Object", "clone", "()Ljava/lang/Object;"⟩, Cond.classLink RJ7 317 "[I", Cond.arrayClass .int, Cond.methodLink RJ7 304 Lib.Math.min.name, Cond.static Lib.Math.min.name, Cond.initialized "java/lang/Math", Cond.code Lib.Math.min.name Lib.Math.min.code 2 (some .int), Cond.methodLink RJ7 150 arraycopyName, Cond.native arraycopyName, Cond.static arraycopyName, Cond.initialized "java/lang/System", Cond.methodLink RX5 81 yX5_lookForRelay, Cond.instanceMethod yX5_lookForRelay, Cond.selects RX5 yX5_lookForRelay yX5_lookForRelay, Cond.code yX5_lookForRelay cX5_lookForRelay 7 none, Cond.methodLink RX5 110 yX2_inContact, Cond.methodLink RX5 116 yX2_contactLength, Cond.instanceMethod yX2_contactLength, Cond.selects RX2 yX2_contactLength yX2_contactLength, Cond.code yX2_contactLength cX2_contactLength 5 (some .int), Cond.methodLink RX2 59 yX2_inContact]
def wsX5_pass : List Cond := .code yX5_pass cX5_pass 4 (some .int) :: ((wsX5_pass_r1 ++ (wsX5_pass_r2 ++ (wsX5_pass_r3 ++ (wsX5_pass_r4 ++ wsX5_pass_r5)))) ++ wsX50 ++ wsX20 ++ wsX00 ++ wsX40 ++ wsX30 ++ (vx_atS RX5 66 "java/lang/IllegalStateException" ["java/lang/RuntimeException", "java/lang/Exception"]).filter goodWord ++ (vx_atS RX5 218 "java/lang/IllegalArgumentException" ["java/lang/RuntimeException", "java/lang/Exception"]).filter goodWord)
def wsX5_now : List Cond := .code yX5_now cX5_now 1 (some .int) :: ([.fieldLink RX5 51 "Satellitering" "now" "I"] ++ wsX50)
def wsX5_messages : List Cond := .code yX5_messages cX5_messages 1 (some .int) :: ([.fieldLink RX5 48 "Satellitering" "sentCount" "I"] ++ wsX50)
def wsX5_requireMessage : List Cond := .code yX5_requireMessage cX5_requireMessage 2 (some (.object "Satellitering$Message")) :: ([.classLink RX5 91 "java/lang/IndexOutOfBoundsException", .initialized "java/lang/IndexOutOfBoundsException", .fieldLink RX5 48 "Satellitering" "sentCount" "I", .fieldLink RX5 37 "Satellitering" "sent" "[LSatellitering$Message;", .methodLink RX5 54 yX5_inRange, .static yX5_inRange, .initialized RX5, .code yX5_inRange cX5_inRange 3 (some .boolean)] ++ wsX50 ++ (vx_atS RX5 95 "java/lang/IndexOutOfBoundsException" ["java/lang/RuntimeException", "java/lang/Exception"]).filter goodWord)
def wsX5_nodeOf : List Cond := .code yX5_nodeOf cX5_nodeOf 2 (some .int) :: ([.methodLink RX5 154 yX5_requireMessage, .instanceMethod yX5_requireMessage, .selects RX5 yX5_requireMessage yX5_requireMessage, .initialized RX5, .code yX5_requireMessage cX5_requireMessage 2 (some (.object "Satellitering$Message")), .classLink RX5 91 "java/lang/IndexOutOfBoundsException", .initialized "java/lang/IndexOutOfBoundsException", .fieldLink RX5 48 "Satellitering" "sentCount" "I", .fieldLink RX5 37 "Satellitering" "sent" "[LSatellitering$Message;", .methodLink RX5 54 yX5_inRange, .static yX5_inRange, .code yX5_inRange cX5_inRange 3 (some .boolean)] ++ wsX00 ++ wsX50 ++ (vx_atS RX5 95 "java/lang/IndexOutOfBoundsException" ["java/lang/RuntimeException", "java/lang/Exception"]).filter goodWord)
def wsX5_arrivedAt : List Cond := .code yX5_arrivedAt cX5_arrivedAt 3 (some .int) :: ([.classLink RX5 165 "java/util/NoSuchElementException", .initialized "java/util/NoSuchElementException", .methodLink RX5 154 yX5_requireMessage, .instanceMethod yX5_requireMessage, .selects RX5 yX5_requireMessage yX5_requireMessage, .initialized RX5, .code yX5_requireMessage cX5_requireMessage 2 (some (.object "Satellitering$Message")), .classLink RX5 91 "java/lang/IndexOutOfBoundsException", .initialized "java/lang/IndexOutOfBoundsException", .fieldLink RX5 48 "Satellitering" "sentCount" "I", .fieldLink RX5 37 "Satellitering" "sent" "[LSatellitering$Message;", .methodLink RX5 54 yX5_inRange, .static yX5_inRange, .code yX5_inRange cX5_inRange 3 (some .boolean), .methodLink RX5 161 yX0_isAtGoal, .instanceMethod yX0_isAtGoal, .selects RX0 yX0_isAtGoal yX0_isAtGoal, .initialized RX0, .code yX0_isAtGoal cX0_isAtGoal 1 (some .boolean), .fieldLink RX0 26 "Satellitering$Message" "node" "I", .fieldLink RX0 29 "Satellitering$Message" "goal" "I"] ++ wsX00 ++ wsX50 ++ (vx_atX RX5 169 "java/util/NoSuchElementException" 13 nsB "java/lang/RuntimeException" ["java/lang/Exception"]).filter goodWord ++ (vx_atS RX5 95 "java/lang/IndexOutOfBoundsException" ["java/lang/RuntimeException", "java/lang/Exception"]).filter goodWord)
def wsX5_hops : List Cond := .code yX5_hops cX5_hops 2 (some .int) :: ([.methodLink RX5 154 yX5_requireMessage, .instanceMethod yX5_requireMessage, .selects RX5 yX5_requireMessage yX5_requireMessage, .initialized RX5, .code yX5_requireMessage cX5_requireMessage 2 (some (.object "Satellitering$Message")), .classLink RX5 91 "java/lang/IndexOutOfBoundsException", .initialized "java/lang/IndexOutOfBoundsException", .fieldLink RX5 48 "Satellitering" "sentCount" "I", .fieldLink RX5 37 "Satellitering" "sent" "[LSatellitering$Message;", .methodLink RX5 54 yX5_inRange, .static yX5_inRange, .code yX5_inRange cX5_inRange 3 (some .boolean)] ++ wsX00 ++ wsX50 ++ (vx_atS RX5 95 "java/lang/IndexOutOfBoundsException" ["java/lang/RuntimeException", "java/lang/Exception"]).filter goodWord)
def wsX5_requireHop : List Cond := .code yX5_requireHop cX5_requireHop 2 none :: ([.classLink RX5 91 "java/lang/IndexOutOfBoundsException", .initialized "java/lang/IndexOutOfBoundsException", .methodLink RX5 54 yX5_inRange, .static yX5_inRange, .initialized RX5, .code yX5_inRange cX5_inRange 3 (some .boolean)] ++ wsX00 ++ (vx_atS RX5 95 "java/lang/IndexOutOfBoundsException" ["java/lang/RuntimeException", "java/lang/Exception"]).filter goodWord)
def wsX5_hopNode : List Cond := .code yX5_hopNode cX5_hopNode 4 (some .int) :: ([.methodLink RX5 154 yX5_requireMessage, .instanceMethod yX5_requireMessage, .selects RX5 yX5_requireMessage yX5_requireMessage, .initialized RX5, .code yX5_requireMessage cX5_requireMessage 2 (some (.object "Satellitering$Message")), .classLink RX5 91 "java/lang/IndexOutOfBoundsException", .initialized "java/lang/IndexOutOfBoundsException", .fieldLink RX5 48 "Satellitering" "sentCount" "I", .fieldLink RX5 37 "Satellitering" "sent" "[LSatellitering$Message;", .methodLink RX5 54 yX5_inRange, .static yX5_inRange, .code yX5_inRange cX5_inRange 3 (some .boolean), .methodLink RX5 176 yX5_requireHop, .static yX5_requireHop, .code yX5_requireHop cX5_requireHop 2 none] ++ wsX00 ++ wsX50 ++ (vx_atS RX5 95 "java/lang/IndexOutOfBoundsException" ["java/lang/RuntimeException", "java/lang/Exception"]).filter goodWord)
def wsX5_hopMinute : List Cond := .code yX5_hopMinute cX5_hopMinute 4 (some .int) :: ([.methodLink RX5 154 yX5_requireMessage, .instanceMethod yX5_requireMessage, .selects RX5 yX5_requireMessage yX5_requireMessage, .initialized RX5, .code yX5_requireMessage cX5_requireMessage 2 (some (.object "Satellitering$Message")), .classLink RX5 91 "java/lang/IndexOutOfBoundsException", .initialized "java/lang/IndexOutOfBoundsException", .fieldLink RX5 48 "Satellitering" "sentCount" "I", .fieldLink RX5 37 "Satellitering" "sent" "[LSatellitering$Message;", .methodLink RX5 54 yX5_inRange, .static yX5_inRange, .code yX5_inRange cX5_inRange 3 (some .boolean), .methodLink RX5 176 yX5_requireHop, .static yX5_requireHop, .code yX5_requireHop cX5_requireHop 2 none] ++ wsX00 ++ wsX50 ++ (vx_atS RX5 95 "java/lang/IndexOutOfBoundsException" ["java/lang/RuntimeException", "java/lang/Exception"]).filter goodWord)
def wsX5_blocked : List Cond := .code yX5_blocked cX5_blocked 2 (some .int) :: ([.methodLink RX5 154 yX5_requireMessage, .instanceMethod yX5_requireMessage, .selects RX5 yX5_requireMessage yX5_requireMessage, .initialized RX5, .code yX5_requireMessage cX5_requireMessage 2 (some (.object "Satellitering$Message")), .classLink RX5 91 "java/lang/IndexOutOfBoundsException", .initialized "java/lang/IndexOutOfBoundsException", .fieldLink RX5 48 "Satellitering" "sentCount" "I", .fieldLink RX5 37 "Satellitering" "sent" "[LSatellitering$Message;", .methodLink RX5 54 yX5_inRange, .static yX5_inRange, .code yX5_inRange cX5_inRange 3 (some .boolean)] ++ wsX00 ++ wsX50 ++ (vx_atS RX5 95 "java/lang/IndexOutOfBoundsException" ["java/lang/RuntimeException", "java/lang/Exception"]).filter goodWord)
def wsX5_load : List Cond := .code yX5_load cX5_load 2 (some .int) :: ([.methodLink RX5 87 yX5_requireNode, .instanceMethod yX5_requireNode, .selects RX5 yX5_requireNode yX5_requireNode, .initialized RX5, .code yX5_requireNode cX5_requireNode 2 none, .classLink RX5 91 "java/lang/IndexOutOfBoundsException", .initialized "java/lang/IndexOutOfBoundsException", .fieldLink RX5 12 "Satellitering" "sky" "LSatellitering$Sky;", .methodLink RX5 54 yX5_inRange, .static yX5_inRange, .code yX5_inRange cX5_inRange 3 (some .boolean), .methodLink RX5 189 yX5_messagesAt, .instanceMethod yX5_messagesAt, .selects RX5 yX5_messagesAt yX5_messagesAt, .code yX5_messagesAt cX5_messagesAt 4 (some .int), .fieldLink RX5 48 "Satellitering" "sentCount" "I", .fieldLink RX5 37 "Satellitering" "sent" "[LSatellitering$Message;"] ++ wsX50 ++ wsX20 ++ wsX00 ++ (vx_atS RX5 95 "java/lang/IndexOutOfBoundsException" ["java/lang/RuntimeException", "java/lang/Exception"]).filter goodWord)
def wsX5_relayOf : List Cond := .code yX5_relayOf cX5_relayOf 2 (some .int) :: ([.methodLink RX5 134 yX5_requireStation, .instanceMethod yX5_requireStation, .selects RX5 yX5_requireStation yX5_requireStation, .initialized RX5, .code yX5_requireStation cX5_requireStation 3 (some (.object "Satellitering$Station")), .classLink RX5 91 "java/lang/IndexOutOfBoundsException", .initialized "java/lang/IndexOutOfBoundsException", .fieldLink RX5 27 "Satellitering" "stations" "[LSatellitering$Station;", .methodLink RX5 87 yX5_requireNode, .instanceMethod yX5_requireNode, .selects RX5 yX5_requireNode yX5_requireNode, .code yX5_requireNode cX5_requireNode 2 none, .fieldLink RX5 12 "Satellitering" "sky" "LSatellitering$Sky;", .methodLink RX5 54 yX5_inRange, .static yX5_inRange, .code yX5_inRange cX5_inRange 3 (some .boolean)] ++ wsX30 ++ wsX50 ++ wsX20 ++ (vx_atS RX5 95 "java/lang/IndexOutOfBoundsException" ["java/lang/RuntimeException", "java/lang/Exception"]).filter goodWord)
def wsX5_handovers : List Cond := .code yX5_handovers cX5_handovers 2 (some .int) :: ([.methodLink RX5 134 yX5_requireStation, .instanceMethod yX5_requireStation, .selects RX5 yX5_requireStation yX5_requireStation, .initialized RX5, .code yX5_requireStation cX5_requireStation 3 (some (.object "Satellitering$Station")), .classLink RX5 91 "java/lang/IndexOutOfBoundsException", .initialized "java/lang/IndexOutOfBoundsException", .fieldLink RX5 27 "Satellitering" "stations" "[LSatellitering$Station;", .methodLink RX5 87 yX5_requireNode, .instanceMethod yX5_requireNode, .selects RX5 yX5_requireNode yX5_requireNode, .code yX5_requireNode cX5_requireNode 2 none, .fieldLink RX5 12 "Satellitering" "sky" "LSatellitering$Sky;", .methodLink RX5 54 yX5_inRange, .static yX5_inRange, .code yX5_inRange cX5_inRange 3 (some .boolean)] ++ wsX30 ++ wsX50 ++ wsX20 ++ (vx_atS RX5 95 "java/lang/IndexOutOfBoundsException" ["java/lang/RuntimeException", "java/lang/Exception"]).filter goodWord)
def wsX6_init : List Cond := .code yX6_init cX6_init 1 none :: ([.methodLink RX6 1 objectInit, .instanceMethod objectInit, .code objectInit ⟨#[0xb1]⟩ 1 none, .arrayClass .int, .fieldLink RX6 7 "SatelliteringModel" "place" "[I", .fieldLink RX6 13 "SatelliteringModel" "speed" "[I", .fieldLink RX6 16 "SatelliteringModel" "reach" "[I", .fieldLink RX6 19 "SatelliteringModel" "capacity" "[I", .arrayClass .boolean, .fieldLink RX6 22 "SatelliteringModel" "isRelay" "[Z", .fieldLink RX6 26 "SatelliteringModel" "seen" "[I", .fieldLink RX6 29 "SatelliteringModel" "relay" "[I", .fieldLink RX6 32 "SatelliteringModel" "handovers" "[I", .fieldLink RX6 35 "SatelliteringModel" "at" "[I", .fieldLink RX6 38 "SatelliteringModel" "to" "[I", .fieldLink RX6 41 "SatelliteringModel" "arrived" "[I", .fieldLink RX6 44 "SatelliteringModel" "blocked" "[I", .constant RX6 47 (60000), .fieldLink RX6 48 "SatelliteringModel" "hops" "[I"] ++ wsX60)
def wsX6_thrown : List Cond := .code yX6_thrown cX6_thrown 1 (some .int) :: ([.fieldLink RX6 51 "SatelliteringModel" "thrown" "I"] ++ wsX60)
def wsX6_goes : List Cond := .code yX6_goes cX6_goes 4 (some .boolean) :: ([.fieldLink RX6 51 "SatelliteringModel" "thrown" "I"] ++ wsX60)
def wsX6_isNode : List Cond := .code yX6_isNode cX6_isNode 2 (some .boolean) :: ([.fieldLink RX6 55 "SatelliteringModel" "nodes" "I"] ++ wsX60)
def wsX6_isStation : List Cond := .code yX6_isStation cX6_isStation 2 (some .boolean) :: ([.fieldLink RX6 22 "SatelliteringModel" "isRelay" "[Z", .methodLink RX6 58 yX6_isNode, .instanceMethod yX6_isNode, .selects RX6 yX6_isNode yX6_isNode, .initialized RX6, .code yX6_isNode cX6_isNode 2 (some .boolean), .fieldLink RX6 55 "SatelliteringModel" "nodes" "I"] ++ wsX60)
def wsX6_isMessage : List Cond := .code yX6_isMessage cX6_isMessage 2 (some .boolean) :: ([.fieldLink RX6 62 "SatelliteringModel" "messages" "I"] ++ wsX60)
def wsX6_isMinute : List Cond := .code yX6_isMinute cX6_isMinute 1 (some .boolean) :: ([.constant RX6 65 (1000000)])
def wsX6_has : List Cond := .code yX6_has cX6_has 2 (some .boolean) :: ([])
def wsX6_placeOf : List Cond := .code yX6_placeOf cX6_placeOf 4 (some .int) :: ([.fieldLink RX6 13 "SatelliteringModel" "speed" "[I", .fieldLink RX6 7 "SatelliteringModel" "place" "[I"] ++ wsX60)
def wsX6_sees : List Cond := .code yX6_sees cX6_sees 6 (some .boolean) :: ([.fieldLink RX6 22 "SatelliteringModel" "isRelay" "[Z", .fieldLink RX6 16 "SatelliteringModel" "reach" "[I", .methodLink RX6 66 yX6_placeOf, .instanceMethod yX6_placeOf, .selects RX6 yX6_placeOf yX6_placeOf, .initialized RX6, .code yX6_placeOf cX6_placeOf 4 (some .int), .fieldLink RX6 13 "SatelliteringModel" "speed" "[I", .fieldLink RX6 7 "SatelliteringModel" "place" "[I"] ++ wsX60)
def wsX6_looks : List Cond := .code yX6_looks cX6_looks 4 none :: ([.fieldLink RX6 55 "SatelliteringModel" "nodes" "I", .fieldLink RX6 26 "SatelliteringModel" "seen" "[I", .methodLink RX6 70 yX6_sees, .instanceMethod yX6_sees, .selects RX6 yX6_sees yX6_sees, .initialized RX6, .code yX6_sees cX6_sees 6 (some .boolean), .fieldLink RX6 22 "SatelliteringModel" "isRelay" "[Z", .fieldLink RX6 16 "SatelliteringModel" "reach" "[I", .methodLink RX6 66 yX6_placeOf, .instanceMethod yX6_placeOf, .selects RX6 yX6_placeOf yX6_placeOf, .code yX6_placeOf cX6_placeOf 4 (some .int), .fieldLink RX6 13 "SatelliteringModel" "speed" "[I", .fieldLink RX6 7 "SatelliteringModel" "place" "[I"] ++ wsX60)
def wsX6_seenAt : List Cond := .code yX6_seenAt cX6_seenAt 3 (some .int) :: ([.fieldLink RX6 26 "SatelliteringModel" "seen" "[I"] ++ wsX60)
def wsX6_adds : List Cond := .code yX6_adds cX6_adds 6 (some .int) :: ([.fieldLink RX6 7 "SatelliteringModel" "place" "[I", .fieldLink RX6 55 "SatelliteringModel" "nodes" "I", .fieldLink RX6 13 "SatelliteringModel" "speed" "[I", .fieldLink RX6 16 "SatelliteringModel" "reach" "[I", .fieldLink RX6 19 "SatelliteringModel" "capacity" "[I", .fieldLink RX6 22 "SatelliteringModel" "isRelay" "[Z", .fieldLink RX6 29 "SatelliteringModel" "relay" "[I", .methodLink RX6 74 yX6_looks, .instanceMethod yX6_looks, .selects RX6 yX6_looks yX6_looks, .initialized RX6, .code yX6_looks cX6_looks 4 none, .fieldLink RX6 26 "SatelliteringModel" "seen" "[I", .methodLink RX6 70 yX6_sees, .instanceMethod yX6_sees, .selects RX6 yX6_sees yX6_sees, .code yX6_sees cX6_sees 6 (some .boolean), .methodLink RX6 66 yX6_placeOf, .instanceMethod yX6_placeOf, .selects RX6 yX6_placeOf yX6_placeOf, .code yX6_placeOf cX6_placeOf 4 (some .int)] ++ wsX60)
def wsX6_viewOf : List Cond := .code yX6_viewOf cX6_viewOf 5 (some .int) :: ([.methodLink RX6 95 yX6_seenAt, .instanceMethod yX6_seenAt, .selects RX6 yX6_seenAt yX6_seenAt, .initialized RX6, .code yX6_seenAt cX6_seenAt 3 (some .int), .fieldLink RX6 26 "SatelliteringModel" "seen" "[I", .methodLink RX6 98 yX6_has, .static yX6_has, .code yX6_has cX6_has 2 (some .boolean)] ++ wsX60)
def wsX6_serves : List Cond := .code yX6_serves cX6_serves 6 none :: ([.fieldLink RX6 29 "SatelliteringModel" "relay" "[I", .fieldLink RX6 118 "SatelliteringModel" "now" "I", .fieldLink RX6 55 "SatelliteringModel" "nodes" "I", .fieldLink RX6 32 "SatelliteringModel" "handovers" "[I", .methodLink RX6 95 yX6_seenAt, .instanceMethod yX6_seenAt, .selects RX6 yX6_seenAt yX6_seenAt, .initialized RX6, .code yX6_seenAt cX6_seenAt 3 (some .int), .fieldLink RX6 26 "SatelliteringModel" "seen" "[I", .methodLink RX6 98 yX6_has, .static yX6_has, .code yX6_has cX6_has 2 (some .boolean), .methodLink RX6 102 yX6_viewOf, .instanceMethod yX6_viewOf, .selects RX6 yX6_viewOf yX6_viewOf, .code yX6_viewOf cX6_viewOf 5 (some .int)] ++ wsX60)
def wsX6_addStation_r1 : List Cond := [Cond.fieldLink RX6 55 "SatelliteringModel" "nodes" "I", Cond.fieldLink RX6 77 "SatelliteringModel" "relays" "I", Cond.methodLink RX6 80 yX6_goes, Cond.instanceMethod yX6_goes, Cond.selects RX6 yX6_goes yX6_goes, Cond.initialized RX6, Cond.code yX6_goes cX6_goes 4 (some .boolean), Cond.fieldLink RX6 51 "SatelliteringModel" "thrown" "I", Cond.methodLink RX6 84 yX6_adds, Cond.instanceMethod yX6_adds, Cond.selects RX6 yX6_adds yX6_adds, Cond.code yX6_adds cX6_adds 6 (some .int), Cond.fieldLink RX6 7 "SatelliteringModel" "place" "[I", Cond.fieldLink RX6 13 "SatelliteringModel" "speed" "[I", Cond.fieldLink RX6 16 "SatelliteringModel" "reach" "[I", Cond.fieldLink RX6 19 "SatelliteringModel" "capacity" "[I", Cond.fieldLink RX6 22 "SatelliteringModel" "isRelay" "[Z", Cond.fieldLink RX6 29 "SatelliteringModel" "relay" "[I", Cond.methodLink RX6 74 yX6_looks, Cond.instanceMethod yX6_looks, Cond.selects RX6 yX6_looks yX6_looks, Cond.code yX6_looks cX6_looks 4 none, Cond.fieldLink RX6 26 "SatelliteringModel" "seen" "[I", Cond.methodLink RX6 70 yX6_sees]
def wsX6_addStation_r2 : List Cond := [Cond.instanceMethod yX6_sees, Cond.selects RX6 yX6_sees yX6_sees, Cond.code yX6_sees cX6_sees 6 (some .boolean), Cond.methodLink RX6 66 yX6_placeOf, Cond.instanceMethod yX6_placeOf, Cond.selects RX6 yX6_placeOf yX6_placeOf, Cond.code yX6_placeOf cX6_placeOf 4 (some .int), Cond.methodLink RX6 88 yX6_serves, Cond.instanceMethod yX6_serves, Cond.selects RX6 yX6_serves yX6_serves, Cond.code yX6_serves cX6_serves 6 none, Cond.fieldLink RX6 118 "SatelliteringModel" "now" "I", Cond.fieldLink RX6 32 "SatelliteringModel" "handovers" "[I", Cond.methodLink RX6 95 yX6_seenAt, Cond.instanceMethod yX6_seenAt, Cond.selects RX6 yX6_seenAt yX6_seenAt, Cond.code yX6_seenAt cX6_seenAt 3 (some .int), Cond.methodLink RX6 98 yX6_has, Cond.static yX6_has, Cond.code yX6_has cX6_has 2 (some .boolean), Cond.methodLink RX6 102 yX6_viewOf, Cond.instanceMethod yX6_viewOf, Cond.selects RX6 yX6_viewOf yX6_viewOf, Cond.code yX6_viewOf cX6_viewOf 5 (some .int)]
def wsX6_addStation : List Cond := .code yX6_addStation cX6_addStation 3 (some .int) :: ((wsX6_addStation_r1 ++ wsX6_addStation_r2) ++ wsX60)
def wsX6_addRelay_r1 : List Cond := [Cond.fieldLink RX6 77 "SatelliteringModel" "relays" "I", Cond.methodLink RX6 80 yX6_goes, Cond.instanceMethod yX6_goes, Cond.selects RX6 yX6_goes yX6_goes, Cond.initialized RX6, Cond.code yX6_goes cX6_goes 4 (some .boolean), Cond.fieldLink RX6 51 "SatelliteringModel" "thrown" "I", Cond.methodLink RX6 84 yX6_adds, Cond.instanceMethod yX6_adds, Cond.selects RX6 yX6_adds yX6_adds, Cond.code yX6_adds cX6_adds 6 (some .int), Cond.fieldLink RX6 7 "SatelliteringModel" "place" "[I", Cond.fieldLink RX6 55 "SatelliteringModel" "nodes" "I", Cond.fieldLink RX6 13 "SatelliteringModel" "speed" "[I", Cond.fieldLink RX6 16 "SatelliteringModel" "reach" "[I", Cond.fieldLink RX6 19 "SatelliteringModel" "capacity" "[I", Cond.fieldLink RX6 22 "SatelliteringModel" "isRelay" "[Z", Cond.fieldLink RX6 29 "SatelliteringModel" "relay" "[I", Cond.methodLink RX6 74 yX6_looks, Cond.instanceMethod yX6_looks, Cond.selects RX6 yX6_looks yX6_looks, Cond.code yX6_looks cX6_looks 4 none, Cond.fieldLink RX6 26 "SatelliteringModel" "seen" "[I", Cond.methodLink RX6 70 yX6_sees]
def wsX6_addRelay_r2 : List Cond := [Cond.instanceMethod yX6_sees, Cond.selects RX6 yX6_sees yX6_sees, Cond.code yX6_sees cX6_sees 6 (some .boolean), Cond.methodLink RX6 66 yX6_placeOf, Cond.instanceMethod yX6_placeOf, Cond.selects RX6 yX6_placeOf yX6_placeOf, Cond.code yX6_placeOf cX6_placeOf 4 (some .int)]
def wsX6_addRelay : List Cond := .code yX6_addRelay cX6_addRelay 6 (some .int) :: ((wsX6_addRelay_r1 ++ wsX6_addRelay_r2) ++ wsX60)
def wsX6_setCapacity : List Cond := .code yX6_setCapacity cX6_setCapacity 4 (some .int) :: ([.fieldLink RX6 22 "SatelliteringModel" "isRelay" "[Z", .fieldLink RX6 19 "SatelliteringModel" "capacity" "[I", .methodLink RX6 58 yX6_isNode, .instanceMethod yX6_isNode, .selects RX6 yX6_isNode yX6_isNode, .initialized RX6, .code yX6_isNode cX6_isNode 2 (some .boolean), .fieldLink RX6 55 "SatelliteringModel" "nodes" "I", .methodLink RX6 80 yX6_goes, .instanceMethod yX6_goes, .selects RX6 yX6_goes yX6_goes, .code yX6_goes cX6_goes 4 (some .boolean), .fieldLink RX6 51 "SatelliteringModel" "thrown" "I"] ++ wsX60)
def wsX6_nodes : List Cond := .code yX6_nodes cX6_nodes 1 (some .int) :: ([.fieldLink RX6 51 "SatelliteringModel" "thrown" "I", .fieldLink RX6 55 "SatelliteringModel" "nodes" "I"] ++ wsX60)
def wsX6_placeAt : List Cond := .code yX6_placeAt cX6_placeAt 3 (some .int) :: ([.methodLink RX6 58 yX6_isNode, .instanceMethod yX6_isNode, .selects RX6 yX6_isNode yX6_isNode, .initialized RX6, .code yX6_isNode cX6_isNode 2 (some .boolean), .fieldLink RX6 55 "SatelliteringModel" "nodes" "I", .methodLink RX6 92 yX6_isMinute, .static yX6_isMinute, .code yX6_isMinute cX6_isMinute 1 (some .boolean), .constant RX6 65 (1000000), .methodLink RX6 80 yX6_goes, .instanceMethod yX6_goes, .selects RX6 yX6_goes yX6_goes, .code yX6_goes cX6_goes 4 (some .boolean), .fieldLink RX6 51 "SatelliteringModel" "thrown" "I", .methodLink RX6 66 yX6_placeOf, .instanceMethod yX6_placeOf, .selects RX6 yX6_placeOf yX6_placeOf, .code yX6_placeOf cX6_placeOf 4 (some .int), .fieldLink RX6 13 "SatelliteringModel" "speed" "[I", .fieldLink RX6 7 "SatelliteringModel" "place" "[I"] ++ wsX60)
def wsX6_see : List Cond := .code yX6_see cX6_see 4 (some .boolean) :: ([.methodLink RX6 58 yX6_isNode, .instanceMethod yX6_isNode, .selects RX6 yX6_isNode yX6_isNode, .initialized RX6, .code yX6_isNode cX6_isNode 2 (some .boolean), .fieldLink RX6 55 "SatelliteringModel" "nodes" "I", .methodLink RX6 92 yX6_isMinute, .static yX6_isMinute, .code yX6_isMinute cX6_isMinute 1 (some .boolean), .constant RX6 65 (1000000), .methodLink RX6 80 yX6_goes, .instanceMethod yX6_goes, .selects RX6 yX6_goes yX6_goes, .code yX6_goes cX6_goes 4 (some .boolean), .fieldLink RX6 51 "SatelliteringModel" "thrown" "I", .methodLink RX6 95 yX6_seenAt, .instanceMethod yX6_seenAt, .selects RX6 yX6_seenAt yX6_seenAt, .code yX6_seenAt cX6_seenAt 3 (some .int), .fieldLink RX6 26 "SatelliteringModel" "seen" "[I", .methodLink RX6 98 yX6_has, .static yX6_has, .code yX6_has cX6_has 2 (some .boolean)] ++ wsX60)
def wsX6_nextContact : List Cond := .code yX6_nextContact cX6_nextContact 6 (some .int) :: ([.methodLink RX6 58 yX6_isNode, .instanceMethod yX6_isNode, .selects RX6 yX6_isNode yX6_isNode, .initialized RX6, .code yX6_isNode cX6_isNode 2 (some .boolean), .fieldLink RX6 55 "SatelliteringModel" "nodes" "I", .methodLink RX6 92 yX6_isMinute, .static yX6_isMinute, .code yX6_isMinute cX6_isMinute 1 (some .boolean), .constant RX6 65 (1000000), .methodLink RX6 80 yX6_goes, .instanceMethod yX6_goes, .selects RX6 yX6_goes yX6_goes, .code yX6_goes cX6_goes 4 (some .boolean), .fieldLink RX6 51 "SatelliteringModel" "thrown" "I", .methodLink RX6 95 yX6_seenAt, .instanceMethod yX6_seenAt, .selects RX6 yX6_seenAt yX6_seenAt, .code yX6_seenAt cX6_seenAt 3 (some .int), .fieldLink RX6 26 "SatelliteringModel" "seen" "[I", .methodLink RX6 98 yX6_has, .static yX6_has, .code yX6_has cX6_has 2 (some .boolean)] ++ wsX60)
def wsX6_view_r1 : List Cond := [Cond.methodLink RX6 58 yX6_isNode, Cond.instanceMethod yX6_isNode, Cond.selects RX6 yX6_isNode yX6_isNode, Cond.initialized RX6, Cond.code yX6_isNode cX6_isNode 2 (some .boolean), Cond.fieldLink RX6 55 "SatelliteringModel" "nodes" "I", Cond.methodLink RX6 92 yX6_isMinute, Cond.static yX6_isMinute, Cond.code yX6_isMinute cX6_isMinute 1 (some .boolean), Cond.constant RX6 65 (1000000), Cond.methodLink RX6 80 yX6_goes, Cond.instanceMethod yX6_goes, Cond.selects RX6 yX6_goes yX6_goes, Cond.code yX6_goes cX6_goes 4 (some .boolean), Cond.fieldLink RX6 51 "SatelliteringModel" "thrown" "I", Cond.methodLink RX6 102 yX6_viewOf, Cond.instanceMethod yX6_viewOf, Cond.selects RX6 yX6_viewOf yX6_viewOf, Cond.code yX6_viewOf cX6_viewOf 5 (some .int), Cond.methodLink RX6 95 yX6_seenAt, Cond.instanceMethod yX6_seenAt, Cond.selects RX6 yX6_seenAt yX6_seenAt, Cond.code yX6_seenAt cX6_seenAt 3 (some .int), Cond.fieldLink RX6 26 "SatelliteringModel" "seen" "[I"]
def wsX6_view_r2 : List Cond := [Cond.methodLink RX6 98 yX6_has, Cond.static yX6_has, Cond.code yX6_has cX6_has 2 (some .boolean)]
def wsX6_view : List Cond := .code yX6_view cX6_view 4 (some .int) :: ((wsX6_view_r1 ++ wsX6_view_r2) ++ wsX60)
def wsX6_next : List Cond := .code yX6_next cX6_next 5 (some .int) :: ([.fieldLink RX6 55 "SatelliteringModel" "nodes" "I", .methodLink RX6 98 yX6_has, .static yX6_has, .initialized RX6, .code yX6_has cX6_has 2 (some .boolean), .methodLink RX6 95 yX6_seenAt, .instanceMethod yX6_seenAt, .selects RX6 yX6_seenAt yX6_seenAt, .code yX6_seenAt cX6_seenAt 3 (some .int), .fieldLink RX6 26 "SatelliteringModel" "seen" "[I"] ++ wsX60)
def wsX6_earliest : List Cond := .code yX6_earliest cX6_earliest 7 (some .int) :: ([.methodLink RX6 106 yX6_next, .instanceMethod yX6_next, .selects RX6 yX6_next yX6_next, .initialized RX6, .code yX6_next cX6_next 5 (some .int), .fieldLink RX6 55 "SatelliteringModel" "nodes" "I", .methodLink RX6 98 yX6_has, .static yX6_has, .code yX6_has cX6_has 2 (some .boolean), .methodLink RX6 95 yX6_seenAt, .instanceMethod yX6_seenAt, .selects RX6 yX6_seenAt yX6_seenAt, .code yX6_seenAt cX6_seenAt 3 (some .int), .fieldLink RX6 26 "SatelliteringModel" "seen" "[I"] ++ wsX60)
def wsX6_arrival_r1 : List Cond := [Cond.methodLink RX6 58 yX6_isNode, Cond.instanceMethod yX6_isNode, Cond.selects RX6 yX6_isNode yX6_isNode, Cond.initialized RX6, Cond.code yX6_isNode cX6_isNode 2 (some .boolean), Cond.fieldLink RX6 55 "SatelliteringModel" "nodes" "I", Cond.methodLink RX6 92 yX6_isMinute, Cond.static yX6_isMinute, Cond.code yX6_isMinute cX6_isMinute 1 (some .boolean), Cond.constant RX6 65 (1000000), Cond.methodLink RX6 80 yX6_goes, Cond.instanceMethod yX6_goes, Cond.selects RX6 yX6_goes yX6_goes, Cond.code yX6_goes cX6_goes 4 (some .boolean), Cond.fieldLink RX6 51 "SatelliteringModel" "thrown" "I", Cond.methodLink RX6 109 yX6_earliest, Cond.instanceMethod yX6_earliest, Cond.selects RX6 yX6_earliest yX6_earliest, Cond.code yX6_earliest cX6_earliest 7 (some .int), Cond.methodLink RX6 106 yX6_next, Cond.instanceMethod yX6_next, Cond.selects RX6 yX6_next yX6_next, Cond.code yX6_next cX6_next 5 (some .int), Cond.methodLink RX6 98 yX6_has]
def wsX6_arrival_r2 : List Cond := [Cond.static yX6_has, Cond.code yX6_has cX6_has 2 (some .boolean), Cond.methodLink RX6 95 yX6_seenAt, Cond.instanceMethod yX6_seenAt, Cond.selects RX6 yX6_seenAt yX6_seenAt, Cond.code yX6_seenAt cX6_seenAt 3 (some .int), Cond.fieldLink RX6 26 "SatelliteringModel" "seen" "[I"]
def wsX6_arrival : List Cond := .code yX6_arrival cX6_arrival 4 (some .int) :: ((wsX6_arrival_r1 ++ wsX6_arrival_r2) ++ wsX60)
def wsX6_arrivalByFlooding_r1 : List Cond := [Cond.methodLink RX6 112 yX6_arrival, Cond.instanceMethod yX6_arrival, Cond.selects RX6 yX6_arrival yX6_arrival, Cond.initialized RX6, Cond.code yX6_arrival cX6_arrival 4 (some .int), Cond.methodLink RX6 58 yX6_isNode, Cond.instanceMethod yX6_isNode, Cond.selects RX6 yX6_isNode yX6_isNode, Cond.code yX6_isNode cX6_isNode 2 (some .boolean), Cond.fieldLink RX6 55 "SatelliteringModel" "nodes" "I", Cond.methodLink RX6 92 yX6_isMinute, Cond.static yX6_isMinute, Cond.code yX6_isMinute cX6_isMinute 1 (some .boolean), Cond.constant RX6 65 (1000000), Cond.methodLink RX6 80 yX6_goes, Cond.instanceMethod yX6_goes, Cond.selects RX6 yX6_goes yX6_goes, Cond.code yX6_goes cX6_goes 4 (some .boolean), Cond.fieldLink RX6 51 "SatelliteringModel" "thrown" "I", Cond.methodLink RX6 109 yX6_earliest, Cond.instanceMethod yX6_earliest, Cond.selects RX6 yX6_earliest yX6_earliest, Cond.code yX6_earliest cX6_earliest 7 (some .int), Cond.methodLink RX6 106 yX6_next]
def wsX6_arrivalByFlooding_r2 : List Cond := [Cond.instanceMethod yX6_next, Cond.selects RX6 yX6_next yX6_next, Cond.code yX6_next cX6_next 5 (some .int), Cond.methodLink RX6 98 yX6_has, Cond.static yX6_has, Cond.code yX6_has cX6_has 2 (some .boolean), Cond.methodLink RX6 95 yX6_seenAt, Cond.instanceMethod yX6_seenAt, Cond.selects RX6 yX6_seenAt yX6_seenAt, Cond.code yX6_seenAt cX6_seenAt 3 (some .int), Cond.fieldLink RX6 26 "SatelliteringModel" "seen" "[I"]
def wsX6_arrivalByFlooding : List Cond := .code yX6_arrivalByFlooding cX6_arrivalByFlooding 4 (some .int) :: ((wsX6_arrivalByFlooding_r1 ++ wsX6_arrivalByFlooding_r2) ++ wsX60)
def wsX6_spread_r1 : List Cond := [Cond.fieldLink RX6 55 "SatelliteringModel" "nodes" "I", Cond.methodLink RX6 58 yX6_isNode, Cond.instanceMethod yX6_isNode, Cond.selects RX6 yX6_isNode yX6_isNode, Cond.initialized RX6, Cond.code yX6_isNode cX6_isNode 2 (some .boolean), Cond.methodLink RX6 92 yX6_isMinute, Cond.static yX6_isMinute, Cond.code yX6_isMinute cX6_isMinute 1 (some .boolean), Cond.constant RX6 65 (1000000), Cond.methodLink RX6 80 yX6_goes, Cond.instanceMethod yX6_goes, Cond.selects RX6 yX6_goes yX6_goes, Cond.code yX6_goes cX6_goes 4 (some .boolean), Cond.fieldLink RX6 51 "SatelliteringModel" "thrown" "I", Cond.methodLink RX6 106 yX6_next, Cond.instanceMethod yX6_next, Cond.selects RX6 yX6_next yX6_next, Cond.code yX6_next cX6_next 5 (some .int), Cond.methodLink RX6 98 yX6_has, Cond.static yX6_has, Cond.code yX6_has cX6_has 2 (some .boolean), Cond.methodLink RX6 95 yX6_seenAt, Cond.instanceMethod yX6_seenAt]
def wsX6_spread_r2 : List Cond := [Cond.selects RX6 yX6_seenAt yX6_seenAt, Cond.code yX6_seenAt cX6_seenAt 3 (some .int), Cond.fieldLink RX6 26 "SatelliteringModel" "seen" "[I"]
def wsX6_spread : List Cond := .code yX6_spread cX6_spread 7 (some .int) :: ((wsX6_spread_r1 ++ wsX6_spread_r2) ++ wsX60)
def wsX6_send : List Cond := .code yX6_send cX6_send 3 (some .int) :: ([.fieldLink RX6 62 "SatelliteringModel" "messages" "I", .fieldLink RX6 35 "SatelliteringModel" "at" "[I", .fieldLink RX6 38 "SatelliteringModel" "to" "[I", .fieldLink RX6 41 "SatelliteringModel" "arrived" "[I", .methodLink RX6 115 yX6_isStation, .instanceMethod yX6_isStation, .selects RX6 yX6_isStation yX6_isStation, .initialized RX6, .code yX6_isStation cX6_isStation 2 (some .boolean), .fieldLink RX6 22 "SatelliteringModel" "isRelay" "[Z", .methodLink RX6 58 yX6_isNode, .instanceMethod yX6_isNode, .selects RX6 yX6_isNode yX6_isNode, .code yX6_isNode cX6_isNode 2 (some .boolean), .fieldLink RX6 55 "SatelliteringModel" "nodes" "I", .methodLink RX6 80 yX6_goes, .instanceMethod yX6_goes, .selects RX6 yX6_goes yX6_goes, .code yX6_goes cX6_goes 4 (some .boolean), .fieldLink RX6 51 "SatelliteringModel" "thrown" "I"] ++ wsX60)
def wsX6_loadOf : List Cond := .code yX6_loadOf cX6_loadOf 4 (some .int) :: ([.fieldLink RX6 62 "SatelliteringModel" "messages" "I", .fieldLink RX6 35 "SatelliteringModel" "at" "[I"] ++ wsX60)
def wsX6_handTo : List Cond := .code yX6_handTo cX6_handTo 6 (some .int) :: ([.fieldLink RX6 35 "SatelliteringModel" "at" "[I", .fieldLink RX6 38 "SatelliteringModel" "to" "[I", .fieldLink RX6 118 "SatelliteringModel" "now" "I", .fieldLink RX6 55 "SatelliteringModel" "nodes" "I", .methodLink RX6 109 yX6_earliest, .instanceMethod yX6_earliest, .selects RX6 yX6_earliest yX6_earliest, .initialized RX6, .code yX6_earliest cX6_earliest 7 (some .int), .methodLink RX6 106 yX6_next, .instanceMethod yX6_next, .selects RX6 yX6_next yX6_next, .code yX6_next cX6_next 5 (some .int), .methodLink RX6 98 yX6_has, .static yX6_has, .code yX6_has cX6_has 2 (some .boolean), .methodLink RX6 95 yX6_seenAt, .instanceMethod yX6_seenAt, .selects RX6 yX6_seenAt yX6_seenAt, .code yX6_seenAt cX6_seenAt 3 (some .int), .fieldLink RX6 26 "SatelliteringModel" "seen" "[I"] ++ wsX60)
def wsX6_moves_r1 : List Cond := [Cond.fieldLink RX6 22 "SatelliteringModel" "isRelay" "[Z", Cond.fieldLink RX6 19 "SatelliteringModel" "capacity" "[I", Cond.fieldLink RX6 44 "SatelliteringModel" "blocked" "[I", Cond.fieldLink RX6 35 "SatelliteringModel" "at" "[I", Cond.fieldLink RX6 48 "SatelliteringModel" "hops" "[I", Cond.fieldLink RX6 128 "SatelliteringModel" "many" "I", Cond.fieldLink RX6 118 "SatelliteringModel" "now" "I", Cond.fieldLink RX6 41 "SatelliteringModel" "arrived" "[I", Cond.fieldLink RX6 38 "SatelliteringModel" "to" "[I", Cond.methodLink RX6 121 yX6_handTo, Cond.instanceMethod yX6_handTo, Cond.selects RX6 yX6_handTo yX6_handTo, Cond.initialized RX6, Cond.code yX6_handTo cX6_handTo 6 (some .int), Cond.fieldLink RX6 55 "SatelliteringModel" "nodes" "I", Cond.methodLink RX6 109 yX6_earliest, Cond.instanceMethod yX6_earliest, Cond.selects RX6 yX6_earliest yX6_earliest, Cond.code yX6_earliest cX6_earliest 7 (some .int), Cond.methodLink RX6 106 yX6_next, Cond.instanceMethod yX6_next, Cond.selects RX6 yX6_next yX6_next, Cond.code yX6_next cX6_next 5 (some .int), Cond.methodLink RX6 98 yX6_has]
def wsX6_moves_r2 : List Cond := [Cond.static yX6_has, Cond.code yX6_has cX6_has 2 (some .boolean), Cond.methodLink RX6 95 yX6_seenAt, Cond.instanceMethod yX6_seenAt, Cond.selects RX6 yX6_seenAt yX6_seenAt, Cond.code yX6_seenAt cX6_seenAt 3 (some .int), Cond.fieldLink RX6 26 "SatelliteringModel" "seen" "[I", Cond.methodLink RX6 125 yX6_loadOf, Cond.instanceMethod yX6_loadOf, Cond.selects RX6 yX6_loadOf yX6_loadOf, Cond.code yX6_loadOf cX6_loadOf 4 (some .int), Cond.fieldLink RX6 62 "SatelliteringModel" "messages" "I"]
def wsX6_moves : List Cond := .code yX6_moves cX6_moves 3 (some .int) :: ((wsX6_moves_r1 ++ wsX6_moves_r2) ++ wsX60)
def wsX6_pass_r1 : List Cond := [Cond.fieldLink RX6 118 "SatelliteringModel" "now" "I", Cond.constant RX6 65 (1000000), Cond.fieldLink RX6 62 "SatelliteringModel" "messages" "I", Cond.fieldLink RX6 41 "SatelliteringModel" "arrived" "[I", Cond.fieldLink RX6 55 "SatelliteringModel" "nodes" "I", Cond.fieldLink RX6 22 "SatelliteringModel" "isRelay" "[Z", Cond.methodLink RX6 80 yX6_goes, Cond.instanceMethod yX6_goes, Cond.selects RX6 yX6_goes yX6_goes, Cond.initialized RX6, Cond.code yX6_goes cX6_goes 4 (some .boolean), Cond.fieldLink RX6 51 "SatelliteringModel" "thrown" "I", Cond.methodLink RX6 131 yX6_moves, Cond.instanceMethod yX6_moves, Cond.selects RX6 yX6_moves yX6_moves, Cond.code yX6_moves cX6_moves 3 (some .int), Cond.fieldLink RX6 19 "SatelliteringModel" "capacity" "[I", Cond.fieldLink RX6 44 "SatelliteringModel" "blocked" "[I", Cond.fieldLink RX6 35 "SatelliteringModel" "at" "[I", Cond.fieldLink RX6 48 "SatelliteringModel" "hops" "[I", Cond.fieldLink RX6 128 "SatelliteringModel" "many" "I", Cond.fieldLink RX6 38 "SatelliteringModel" "to" "[I", Cond.methodLink RX6 121 yX6_handTo, Cond.instanceMethod yX6_handTo]
def wsX6_pass_r2 : List Cond := [Cond.selects RX6 yX6_handTo yX6_handTo, Cond.code yX6_handTo cX6_handTo 6 (some .int), Cond.methodLink RX6 109 yX6_earliest, Cond.instanceMethod yX6_earliest, Cond.selects RX6 yX6_earliest yX6_earliest, Cond.code yX6_earliest cX6_earliest 7 (some .int), Cond.methodLink RX6 106 yX6_next, Cond.instanceMethod yX6_next, Cond.selects RX6 yX6_next yX6_next, Cond.code yX6_next cX6_next 5 (some .int), Cond.methodLink RX6 98 yX6_has, Cond.static yX6_has, Cond.code yX6_has cX6_has 2 (some .boolean), Cond.methodLink RX6 95 yX6_seenAt, Cond.instanceMethod yX6_seenAt, Cond.selects RX6 yX6_seenAt yX6_seenAt, Cond.code yX6_seenAt cX6_seenAt 3 (some .int), Cond.fieldLink RX6 26 "SatelliteringModel" "seen" "[I", Cond.methodLink RX6 125 yX6_loadOf, Cond.instanceMethod yX6_loadOf, Cond.selects RX6 yX6_loadOf yX6_loadOf, Cond.code yX6_loadOf cX6_loadOf 4 (some .int), Cond.methodLink RX6 88 yX6_serves, Cond.instanceMethod yX6_serves]
def wsX6_pass_r3 : List Cond := [Cond.selects RX6 yX6_serves yX6_serves, Cond.code yX6_serves cX6_serves 6 none, Cond.fieldLink RX6 29 "SatelliteringModel" "relay" "[I", Cond.fieldLink RX6 32 "SatelliteringModel" "handovers" "[I", Cond.methodLink RX6 102 yX6_viewOf, Cond.instanceMethod yX6_viewOf, Cond.selects RX6 yX6_viewOf yX6_viewOf, Cond.code yX6_viewOf cX6_viewOf 5 (some .int)]
def wsX6_pass : List Cond := .code yX6_pass cX6_pass 6 (some .int) :: ((wsX6_pass_r1 ++ (wsX6_pass_r2 ++ wsX6_pass_r3)) ++ wsX60)
def wsX6_now : List Cond := .code yX6_now cX6_now 1 (some .int) :: ([.fieldLink RX6 51 "SatelliteringModel" "thrown" "I", .fieldLink RX6 118 "SatelliteringModel" "now" "I"] ++ wsX60)
def wsX6_messages : List Cond := .code yX6_messages cX6_messages 1 (some .int) :: ([.fieldLink RX6 51 "SatelliteringModel" "thrown" "I", .fieldLink RX6 62 "SatelliteringModel" "messages" "I"] ++ wsX60)
def wsX6_nodeOf : List Cond := .code yX6_nodeOf cX6_nodeOf 2 (some .int) :: ([.fieldLink RX6 35 "SatelliteringModel" "at" "[I", .methodLink RX6 134 yX6_isMessage, .instanceMethod yX6_isMessage, .selects RX6 yX6_isMessage yX6_isMessage, .initialized RX6, .code yX6_isMessage cX6_isMessage 2 (some .boolean), .fieldLink RX6 62 "SatelliteringModel" "messages" "I", .methodLink RX6 80 yX6_goes, .instanceMethod yX6_goes, .selects RX6 yX6_goes yX6_goes, .code yX6_goes cX6_goes 4 (some .boolean), .fieldLink RX6 51 "SatelliteringModel" "thrown" "I"] ++ wsX60)
def wsX6_arrivedAt : List Cond := .code yX6_arrivedAt cX6_arrivedAt 3 (some .int) :: ([.fieldLink RX6 41 "SatelliteringModel" "arrived" "[I", .methodLink RX6 134 yX6_isMessage, .instanceMethod yX6_isMessage, .selects RX6 yX6_isMessage yX6_isMessage, .initialized RX6, .code yX6_isMessage cX6_isMessage 2 (some .boolean), .fieldLink RX6 62 "SatelliteringModel" "messages" "I", .methodLink RX6 80 yX6_goes, .instanceMethod yX6_goes, .selects RX6 yX6_goes yX6_goes, .code yX6_goes cX6_goes 4 (some .boolean), .fieldLink RX6 51 "SatelliteringModel" "thrown" "I"] ++ wsX60)
def wsX6_entry : List Cond := .code yX6_entry cX6_entry 7 (some .int) :: ([.fieldLink RX6 128 "SatelliteringModel" "many" "I", .fieldLink RX6 48 "SatelliteringModel" "hops" "[I"] ++ wsX60)
def wsX6_hops : List Cond := .code yX6_hops cX6_hops 4 (some .int) :: ([.fieldLink RX6 128 "SatelliteringModel" "many" "I", .fieldLink RX6 48 "SatelliteringModel" "hops" "[I", .methodLink RX6 134 yX6_isMessage, .instanceMethod yX6_isMessage, .selects RX6 yX6_isMessage yX6_isMessage, .initialized RX6, .code yX6_isMessage cX6_isMessage 2 (some .boolean), .fieldLink RX6 62 "SatelliteringModel" "messages" "I", .methodLink RX6 80 yX6_goes, .instanceMethod yX6_goes, .selects RX6 yX6_goes yX6_goes, .code yX6_goes cX6_goes 4 (some .boolean), .fieldLink RX6 51 "SatelliteringModel" "thrown" "I"] ++ wsX60)
def wsX6_hopNode : List Cond := .code yX6_hopNode cX6_hopNode 4 (some .int) :: ([.methodLink RX6 134 yX6_isMessage, .instanceMethod yX6_isMessage, .selects RX6 yX6_isMessage yX6_isMessage, .initialized RX6, .code yX6_isMessage cX6_isMessage 2 (some .boolean), .fieldLink RX6 62 "SatelliteringModel" "messages" "I", .methodLink RX6 137 yX6_entry, .instanceMethod yX6_entry, .selects RX6 yX6_entry yX6_entry, .code yX6_entry cX6_entry 7 (some .int), .fieldLink RX6 128 "SatelliteringModel" "many" "I", .fieldLink RX6 48 "SatelliteringModel" "hops" "[I", .methodLink RX6 80 yX6_goes, .instanceMethod yX6_goes, .selects RX6 yX6_goes yX6_goes, .code yX6_goes cX6_goes 4 (some .boolean), .fieldLink RX6 51 "SatelliteringModel" "thrown" "I"] ++ wsX60)
def wsX6_hopMinute : List Cond := .code yX6_hopMinute cX6_hopMinute 4 (some .int) :: ([.methodLink RX6 134 yX6_isMessage, .instanceMethod yX6_isMessage, .selects RX6 yX6_isMessage yX6_isMessage, .initialized RX6, .code yX6_isMessage cX6_isMessage 2 (some .boolean), .fieldLink RX6 62 "SatelliteringModel" "messages" "I", .methodLink RX6 137 yX6_entry, .instanceMethod yX6_entry, .selects RX6 yX6_entry yX6_entry, .code yX6_entry cX6_entry 7 (some .int), .fieldLink RX6 128 "SatelliteringModel" "many" "I", .fieldLink RX6 48 "SatelliteringModel" "hops" "[I", .methodLink RX6 80 yX6_goes, .instanceMethod yX6_goes, .selects RX6 yX6_goes yX6_goes, .code yX6_goes cX6_goes 4 (some .boolean), .fieldLink RX6 51 "SatelliteringModel" "thrown" "I"] ++ wsX60)
def wsX6_blocked : List Cond := .code yX6_blocked cX6_blocked 2 (some .int) :: ([.fieldLink RX6 44 "SatelliteringModel" "blocked" "[I", .methodLink RX6 134 yX6_isMessage, .instanceMethod yX6_isMessage, .selects RX6 yX6_isMessage yX6_isMessage, .initialized RX6, .code yX6_isMessage cX6_isMessage 2 (some .boolean), .fieldLink RX6 62 "SatelliteringModel" "messages" "I", .methodLink RX6 80 yX6_goes, .instanceMethod yX6_goes, .selects RX6 yX6_goes yX6_goes, .code yX6_goes cX6_goes 4 (some .boolean), .fieldLink RX6 51 "SatelliteringModel" "thrown" "I"] ++ wsX60)
def wsX6_load : List Cond := .code yX6_load cX6_load 2 (some .int) :: ([.methodLink RX6 58 yX6_isNode, .instanceMethod yX6_isNode, .selects RX6 yX6_isNode yX6_isNode, .initialized RX6, .code yX6_isNode cX6_isNode 2 (some .boolean), .fieldLink RX6 55 "SatelliteringModel" "nodes" "I", .methodLink RX6 80 yX6_goes, .instanceMethod yX6_goes, .selects RX6 yX6_goes yX6_goes, .code yX6_goes cX6_goes 4 (some .boolean), .fieldLink RX6 51 "SatelliteringModel" "thrown" "I", .methodLink RX6 125 yX6_loadOf, .instanceMethod yX6_loadOf, .selects RX6 yX6_loadOf yX6_loadOf, .code yX6_loadOf cX6_loadOf 4 (some .int), .fieldLink RX6 62 "SatelliteringModel" "messages" "I", .fieldLink RX6 35 "SatelliteringModel" "at" "[I"] ++ wsX60)
def wsX6_relayOf : List Cond := .code yX6_relayOf cX6_relayOf 2 (some .int) :: ([.fieldLink RX6 29 "SatelliteringModel" "relay" "[I", .methodLink RX6 115 yX6_isStation, .instanceMethod yX6_isStation, .selects RX6 yX6_isStation yX6_isStation, .initialized RX6, .code yX6_isStation cX6_isStation 2 (some .boolean), .fieldLink RX6 22 "SatelliteringModel" "isRelay" "[Z", .methodLink RX6 58 yX6_isNode, .instanceMethod yX6_isNode, .selects RX6 yX6_isNode yX6_isNode, .code yX6_isNode cX6_isNode 2 (some .boolean), .fieldLink RX6 55 "SatelliteringModel" "nodes" "I", .methodLink RX6 80 yX6_goes, .instanceMethod yX6_goes, .selects RX6 yX6_goes yX6_goes, .code yX6_goes cX6_goes 4 (some .boolean), .fieldLink RX6 51 "SatelliteringModel" "thrown" "I"] ++ wsX60)
def wsX6_handovers : List Cond := .code yX6_handovers cX6_handovers 2 (some .int) :: ([.fieldLink RX6 32 "SatelliteringModel" "handovers" "[I", .methodLink RX6 115 yX6_isStation, .instanceMethod yX6_isStation, .selects RX6 yX6_isStation yX6_isStation, .initialized RX6, .code yX6_isStation cX6_isStation 2 (some .boolean), .fieldLink RX6 22 "SatelliteringModel" "isRelay" "[Z", .methodLink RX6 58 yX6_isNode, .instanceMethod yX6_isNode, .selects RX6 yX6_isNode yX6_isNode, .code yX6_isNode cX6_isNode 2 (some .boolean), .fieldLink RX6 55 "SatelliteringModel" "nodes" "I", .methodLink RX6 80 yX6_goes, .instanceMethod yX6_goes, .selects RX6 yX6_goes yX6_goes, .code yX6_goes cX6_goes 4 (some .boolean), .fieldLink RX6 51 "SatelliteringModel" "thrown" "I"] ++ wsX60)
def wsJ9_abs_0f7a4 : List Cond := .code yJ9_abs_0f7a4 cJ9_abs_0f7a4 1 (some .int) :: ([])
def wsJ9_min_7cf53 : List Cond := .code yJ9_min_7cf53 cJ9_min_7cf53 2 (some .int) :: ([])
theorem dX0_init_0 : decode cX0_init 0 = .ok (.aload_n 0, 1) := by decide +kernel
theorem dX0_init_1 : decode cX0_init 1 = .ok (.invokespecial 1, 3) := by decide +kernel
theorem dX0_init_4 : decode cX0_init 4 = .ok (.aload_n 0, 1) := by decide +kernel
theorem dX0_init_5 : decode cX0_init 5 = .ok (.iconst 0, 1) := by decide +kernel
theorem dX0_init_6 : decode cX0_init 6 = .ok (.putfield 7, 3) := by decide +kernel
theorem dX0_init_9 : decode cX0_init 9 = .ok (.aload_n 0, 1) := by decide +kernel
theorem dX0_init_10 : decode cX0_init 10 = .ok (.iconst 0, 1) := by decide +kernel
theorem dX0_init_11 : decode cX0_init 11 = .ok (.putfield 13, 3) := by decide +kernel
theorem dX0_init_14 : decode cX0_init 14 = .ok (.aload_n 0, 1) := by decide +kernel
theorem dX0_init_15 : decode cX0_init 15 = .ok (.iconst 0, 1) := by decide +kernel
theorem dX0_init_16 : decode cX0_init 16 = .ok (.putfield 16, 3) := by decide +kernel
theorem dX0_init_19 : decode cX0_init 19 = .ok (.aload_n 0, 1) := by decide +kernel
theorem dX0_init_20 : decode cX0_init 20 = .ok (.bipush 8, 2) := by decide +kernel
theorem dX0_init_22 : decode cX0_init 22 = .ok (.newarray .int, 2) := by decide +kernel
theorem dX0_init_24 : decode cX0_init 24 = .ok (.putfield 19, 3) := by decide +kernel
theorem dX0_init_27 : decode cX0_init 27 = .ok (.aload_n 0, 1) := by decide +kernel
theorem dX0_init_28 : decode cX0_init 28 = .ok (.bipush 8, 2) := by decide +kernel
theorem dX0_init_30 : decode cX0_init 30 = .ok (.newarray .int, 2) := by decide +kernel
theorem dX0_init_32 : decode cX0_init 32 = .ok (.putfield 23, 3) := by decide +kernel
theorem dX0_init_35 : decode cX0_init 35 = .ok (.aload_n 0, 1) := by decide +kernel
theorem dX0_init_36 : decode cX0_init 36 = .ok (.iload_n 1, 1) := by decide +kernel
theorem dX0_init_37 : decode cX0_init 37 = .ok (.putfield 26, 3) := by decide +kernel
theorem dX0_init_40 : decode cX0_init 40 = .ok (.aload_n 0, 1) := by decide +kernel
theorem dX0_init_41 : decode cX0_init 41 = .ok (.iload_n 2, 1) := by decide +kernel
theorem dX0_init_42 : decode cX0_init 42 = .ok (.putfield 29, 3) := by decide +kernel
theorem dX0_init_45 : decode cX0_init 45 = .ok (.aload_n 0, 1) := by decide +kernel
theorem dX0_init_46 : decode cX0_init 46 = .ok (.aload_n 3, 1) := by decide +kernel
theorem dX0_init_47 : decode cX0_init 47 = .ok (.putfield 32, 3) := by decide +kernel
theorem dX0_init_50 : decode cX0_init 50 = .ok (.return_, 1) := by decide +kernel
theorem dX0_isAtGoal_0 : decode cX0_isAtGoal 0 = .ok (.aload_n 0, 1) := by decide +kernel
theorem dX0_isAtGoal_1 : decode cX0_isAtGoal 1 = .ok (.getfield 26, 3) := by decide +kernel
theorem dX0_isAtGoal_4 : decode cX0_isAtGoal 4 = .ok (.aload_n 0, 1) := by decide +kernel
theorem dX0_isAtGoal_5 : decode cX0_isAtGoal 5 = .ok (.getfield 29, 3) := by decide +kernel
theorem dX0_isAtGoal_8 : decode cX0_isAtGoal 8 = .ok (.if_icmp .ne 7, 3) := by decide +kernel
theorem dX0_isAtGoal_11 : decode cX0_isAtGoal 11 = .ok (.iconst 1, 1) := by decide +kernel
theorem dX0_isAtGoal_12 : decode cX0_isAtGoal 12 = .ok (.goto 4, 3) := by decide +kernel
theorem dX0_isAtGoal_15 : decode cX0_isAtGoal 15 = .ok (.iconst 0, 1) := by decide +kernel
theorem dX0_isAtGoal_16 : decode cX0_isAtGoal 16 = .ok (.ireturn, 1) := by decide +kernel
set_option maxRecDepth 20000 in
theorem ggX0_handTo_J7_copyOf_59c91 : GoodIn wsX0_handTo wsJ7_copyOf_59c91 := goodIn_r _ [9, 10, 11, 12, 13, 14, 15, 16, 17, 18, 19, 20, 21, 22, 23, 24] (by decide +kernel) (by decide +kernel)
set_option maxRecDepth 20000 in
theorem gX0_handTo_J7_copyOf_59c91 : GoodIn wsX0_handTo (va_wsS RX0 36 yJ7_copyOf_59c91 wsJ7_copyOf_59c91) := goodIn_app (goodIn_of _ (by decide +kernel)) ggX0_handTo_J7_copyOf_59c91
theorem dX0_handTo_0 : decode cX0_handTo 0 = .ok (.aload_n 0, 1) := by decide +kernel
theorem dX0_handTo_1 : decode cX0_handTo 1 = .ok (.getfield 16, 3) := by decide +kernel
theorem dX0_handTo_4 : decode cX0_handTo 4 = .ok (.aload_n 0, 1) := by decide +kernel
theorem dX0_handTo_5 : decode cX0_handTo 5 = .ok (.getfield 19, 3) := by decide +kernel
theorem dX0_handTo_8 : decode cX0_handTo 8 = .ok (.arraylength, 1) := by decide +kernel
theorem dX0_handTo_9 : decode cX0_handTo 9 = .ok (.if_icmp .lt 37, 3) := by decide +kernel
theorem dX0_handTo_12 : decode cX0_handTo 12 = .ok (.aload_n 0, 1) := by decide +kernel
theorem dX0_handTo_13 : decode cX0_handTo 13 = .ok (.aload_n 0, 1) := by decide +kernel
theorem dX0_handTo_14 : decode cX0_handTo 14 = .ok (.getfield 19, 3) := by decide +kernel
theorem dX0_handTo_17 : decode cX0_handTo 17 = .ok (.iconst 2, 1) := by decide +kernel
theorem dX0_handTo_18 : decode cX0_handTo 18 = .ok (.aload_n 0, 1) := by decide +kernel
theorem dX0_handTo_19 : decode cX0_handTo 19 = .ok (.getfield 16, 3) := by decide +kernel
theorem dX0_handTo_22 : decode cX0_handTo 22 = .ok (.imul, 1) := by decide +kernel
theorem dX0_handTo_23 : decode cX0_handTo 23 = .ok (.invokestatic 36, 3) := by decide +kernel
theorem dX0_handTo_26 : decode cX0_handTo 26 = .ok (.putfield 19, 3) := by decide +kernel
theorem dX0_handTo_29 : decode cX0_handTo 29 = .ok (.aload_n 0, 1) := by decide +kernel
theorem dX0_handTo_30 : decode cX0_handTo 30 = .ok (.aload_n 0, 1) := by decide +kernel
theorem dX0_handTo_31 : decode cX0_handTo 31 = .ok (.getfield 23, 3) := by decide +kernel
theorem dX0_handTo_34 : decode cX0_handTo 34 = .ok (.iconst 2, 1) := by decide +kernel
theorem dX0_handTo_35 : decode cX0_handTo 35 = .ok (.aload_n 0, 1) := by decide +kernel
theorem dX0_handTo_36 : decode cX0_handTo 36 = .ok (.getfield 16, 3) := by decide +kernel
theorem dX0_handTo_39 : decode cX0_handTo 39 = .ok (.imul, 1) := by decide +kernel
theorem dX0_handTo_40 : decode cX0_handTo 40 = .ok (.invokestatic 36, 3) := by decide +kernel
theorem dX0_handTo_43 : decode cX0_handTo 43 = .ok (.putfield 23, 3) := by decide +kernel
theorem dX0_handTo_46 : decode cX0_handTo 46 = .ok (.aload_n 0, 1) := by decide +kernel
theorem dX0_handTo_47 : decode cX0_handTo 47 = .ok (.getfield 19, 3) := by decide +kernel
theorem dX0_handTo_50 : decode cX0_handTo 50 = .ok (.aload_n 0, 1) := by decide +kernel
theorem dX0_handTo_51 : decode cX0_handTo 51 = .ok (.getfield 16, 3) := by decide +kernel
theorem dX0_handTo_54 : decode cX0_handTo 54 = .ok (.iload_n 1, 1) := by decide +kernel
theorem dX0_handTo_55 : decode cX0_handTo 55 = .ok (.iastore, 1) := by decide +kernel
theorem dX0_handTo_56 : decode cX0_handTo 56 = .ok (.aload_n 0, 1) := by decide +kernel
theorem dX0_handTo_57 : decode cX0_handTo 57 = .ok (.getfield 23, 3) := by decide +kernel
theorem dX0_handTo_60 : decode cX0_handTo 60 = .ok (.aload_n 0, 1) := by decide +kernel
theorem dX0_handTo_61 : decode cX0_handTo 61 = .ok (.getfield 16, 3) := by decide +kernel
theorem dX0_handTo_64 : decode cX0_handTo 64 = .ok (.iload_n 2, 1) := by decide +kernel
theorem dX0_handTo_65 : decode cX0_handTo 65 = .ok (.iastore, 1) := by decide +kernel
theorem dX0_handTo_66 : decode cX0_handTo 66 = .ok (.aload_n 0, 1) := by decide +kernel
theorem dX0_handTo_67 : decode cX0_handTo 67 = .ok (.dup, 1) := by decide +kernel
theorem dX0_handTo_68 : decode cX0_handTo 68 = .ok (.getfield 16, 3) := by decide +kernel
theorem dX0_handTo_71 : decode cX0_handTo 71 = .ok (.iconst 1, 1) := by decide +kernel
theorem dX0_handTo_72 : decode cX0_handTo 72 = .ok (.iadd, 1) := by decide +kernel
theorem dX0_handTo_73 : decode cX0_handTo 73 = .ok (.putfield 16, 3) := by decide +kernel
theorem dX0_handTo_76 : decode cX0_handTo 76 = .ok (.aload_n 0, 1) := by decide +kernel
theorem dX0_handTo_77 : decode cX0_handTo 77 = .ok (.iload_n 1, 1) := by decide +kernel
theorem dX0_handTo_78 : decode cX0_handTo 78 = .ok (.putfield 26, 3) := by decide +kernel
theorem dX0_handTo_81 : decode cX0_handTo 81 = .ok (.aload_n 0, 1) := by decide +kernel
theorem dX0_handTo_82 : decode cX0_handTo 82 = .ok (.iload_n 2, 1) := by decide +kernel
theorem dX0_handTo_83 : decode cX0_handTo 83 = .ok (.iconst 1, 1) := by decide +kernel
theorem dX0_handTo_84 : decode cX0_handTo 84 = .ok (.iadd, 1) := by decide +kernel
theorem dX0_handTo_85 : decode cX0_handTo 85 = .ok (.putfield 7, 3) := by decide +kernel
theorem dX0_handTo_88 : decode cX0_handTo 88 = .ok (.return_, 1) := by decide +kernel
theorem dX1_init_0 : decode cX1_init 0 = .ok (.aload_n 0, 1) := by decide +kernel
theorem dX1_init_1 : decode cX1_init 1 = .ok (.invokespecial 3, 3) := by decide +kernel
theorem dX1_init_4 : decode cX1_init 4 = .ok (.aload_n 0, 1) := by decide +kernel
theorem dX1_init_5 : decode cX1_init 5 = .ok (.bipush 10, 2) := by decide +kernel
theorem dX1_init_7 : decode cX1_init 7 = .ok (.newarray .int, 2) := by decide +kernel
theorem dX1_init_9 : decode cX1_init 9 = .ok (.putfield 9, 3) := by decide +kernel
theorem dX1_init_12 : decode cX1_init 12 = .ok (.aload_n 0, 1) := by decide +kernel
theorem dX1_init_13 : decode cX1_init 13 = .ok (.aload_n 1, 1) := by decide +kernel
theorem dX1_init_14 : decode cX1_init 14 = .ok (.putfield 15, 3) := by decide +kernel
theorem dX1_init_17 : decode cX1_init 17 = .ok (.return_, 1) := by decide +kernel
set_option maxRecDepth 20000 in
theorem ggX1_byContacts_J7_fill_53178 : GoodIn wsX1_byContacts wsJ7_fill_53178 := goodIn_r _ [6] (by decide +kernel) (by decide +kernel)
set_option maxRecDepth 20000 in
theorem gX1_byContacts_J7_fill_53178 : GoodIn wsX1_byContacts (va_wsS RX1 19 yJ7_fill_53178 wsJ7_fill_53178) := goodIn_app (goodIn_of _ (by decide +kernel)) ggX1_byContacts_J7_fill_53178
set_option maxRecDepth 20000 in
theorem ggX1_byContacts_X1_earliestReached : GoodIn wsX1_byContacts wsX1_earliestReached := goodIn_r _ [11, 2, 1, 30, 31, 32, 33, 34, 35, 36] (by decide +kernel) (by decide +kernel)
set_option maxRecDepth 20000 in
theorem gX1_byContacts_X1_earliestReached : GoodIn wsX1_byContacts (wsV RX1 31 RX1 yX1_earliestReached wsX1_earliestReached) := goodIn_app (goodIn_of _ (by decide +kernel)) ggX1_byContacts_X1_earliestReached
set_option maxRecDepth 20000 in
theorem ggX1_byContacts_X1_goOnFrom : GoodIn wsX1_byContacts wsX1_goOnFrom := goodIn_r _ [15, 2, 1, 16, 17, 18, 19, 20, 21, 22, 23, 24, 25, 26, 27, 28, 29, 30, 31, 32, 33, 34, 35, 36] (by decide +kernel) (by decide +kernel)
set_option maxRecDepth 20000 in
theorem gX1_byContacts_X1_goOnFrom : GoodIn wsX1_byContacts (wsV RX1 35 RX1 yX1_goOnFrom wsX1_goOnFrom) := goodIn_app (goodIn_of _ (by decide +kernel)) ggX1_byContacts_X1_goOnFrom
theorem dX1_byContacts_0 : decode cX1_byContacts 0 = .ok (.iload_n 3, 1) := by decide +kernel
theorem dX1_byContacts_1 : decode cX1_byContacts 1 = .ok (.sipush 400, 3) := by decide +kernel
theorem dX1_byContacts_4 : decode cX1_byContacts 4 = .ok (.iadd, 1) := by decide +kernel
theorem dX1_byContacts_5 : decode cX1_byContacts 5 = .ok (.iconst 1, 1) := by decide +kernel
theorem dX1_byContacts_6 : decode cX1_byContacts 6 = .ok (.iadd, 1) := by decide +kernel
theorem dX1_byContacts_7 : decode cX1_byContacts 7 = .ok (.istore 4, 2) := by decide +kernel
theorem dX1_byContacts_9 : decode cX1_byContacts 9 = .ok (.aload_n 0, 1) := by decide +kernel
theorem dX1_byContacts_10 : decode cX1_byContacts 10 = .ok (.getfield 9, 3) := by decide +kernel
theorem dX1_byContacts_13 : decode cX1_byContacts 13 = .ok (.iload 4, 2) := by decide +kernel
theorem dX1_byContacts_15 : decode cX1_byContacts 15 = .ok (.invokestatic 19, 3) := by decide +kernel
theorem dX1_byContacts_18 : decode cX1_byContacts 18 = .ok (.aload_n 0, 1) := by decide +kernel
theorem dX1_byContacts_19 : decode cX1_byContacts 19 = .ok (.getfield 9, 3) := by decide +kernel
theorem dX1_byContacts_22 : decode cX1_byContacts 22 = .ok (.iload_n 1, 1) := by decide +kernel
theorem dX1_byContacts_23 : decode cX1_byContacts 23 = .ok (.iload_n 3, 1) := by decide +kernel
theorem dX1_byContacts_24 : decode cX1_byContacts 24 = .ok (.iastore, 1) := by decide +kernel
theorem dX1_byContacts_25 : decode cX1_byContacts 25 = .ok (.iconst 0, 1) := by decide +kernel
theorem dX1_byContacts_26 : decode cX1_byContacts 26 = .ok (.istore 5, 2) := by decide +kernel
theorem dX1_byContacts_28 : decode cX1_byContacts 28 = .ok (.iconst 0, 1) := by decide +kernel
theorem dX1_byContacts_29 : decode cX1_byContacts 29 = .ok (.istore 6, 2) := by decide +kernel
theorem dX1_byContacts_31 : decode cX1_byContacts 31 = .ok (.iload 6, 2) := by decide +kernel
theorem dX1_byContacts_33 : decode cX1_byContacts 33 = .ok (.aload_n 0, 1) := by decide +kernel
theorem dX1_byContacts_34 : decode cX1_byContacts 34 = .ok (.getfield 15, 3) := by decide +kernel
theorem dX1_byContacts_37 : decode cX1_byContacts 37 = .ok (.getfield 25, 3) := by decide +kernel
theorem dX1_byContacts_40 : decode cX1_byContacts 40 = .ok (.if_icmp .ge 51, 3) := by decide +kernel
theorem dX1_byContacts_43 : decode cX1_byContacts 43 = .ok (.aload_n 0, 1) := by decide +kernel
theorem dX1_byContacts_44 : decode cX1_byContacts 44 = .ok (.iload 5, 2) := by decide +kernel
theorem dX1_byContacts_46 : decode cX1_byContacts 46 = .ok (.iload 4, 2) := by decide +kernel
theorem dX1_byContacts_48 : decode cX1_byContacts 48 = .ok (.invokevirtual 31, 3) := by decide +kernel
theorem dX1_byContacts_51 : decode cX1_byContacts 51 = .ok (.istore 7, 2) := by decide +kernel
theorem dX1_byContacts_53 : decode cX1_byContacts 53 = .ok (.iload 7, 2) := by decide +kernel
theorem dX1_byContacts_55 : decode cX1_byContacts 55 = .ok (.iconst (-1), 1) := by decide +kernel
theorem dX1_byContacts_56 : decode cX1_byContacts 56 = .ok (.if_icmp .eq 35, 3) := by decide +kernel
theorem dX1_byContacts_59 : decode cX1_byContacts 59 = .ok (.iload 7, 2) := by decide +kernel
theorem dX1_byContacts_61 : decode cX1_byContacts 61 = .ok (.iload_n 2, 1) := by decide +kernel
theorem dX1_byContacts_62 : decode cX1_byContacts 62 = .ok (.if_icmp .ne 6, 3) := by decide +kernel
theorem dX1_byContacts_65 : decode cX1_byContacts 65 = .ok (.goto 26, 3) := by decide +kernel
theorem dX1_byContacts_68 : decode cX1_byContacts 68 = .ok (.iload 5, 2) := by decide +kernel
theorem dX1_byContacts_70 : decode cX1_byContacts 70 = .ok (.iconst 1, 1) := by decide +kernel
theorem dX1_byContacts_71 : decode cX1_byContacts 71 = .ok (.iload 7, 2) := by decide +kernel
theorem dX1_byContacts_73 : decode cX1_byContacts 73 = .ok (.ishl, 1) := by decide +kernel
theorem dX1_byContacts_74 : decode cX1_byContacts 74 = .ok (.ior, 1) := by decide +kernel
theorem dX1_byContacts_75 : decode cX1_byContacts 75 = .ok (.istore 5, 2) := by decide +kernel
theorem dX1_byContacts_77 : decode cX1_byContacts 77 = .ok (.aload_n 0, 1) := by decide +kernel
theorem dX1_byContacts_78 : decode cX1_byContacts 78 = .ok (.iload 7, 2) := by decide +kernel
theorem dX1_byContacts_80 : decode cX1_byContacts 80 = .ok (.iload 5, 2) := by decide +kernel
theorem dX1_byContacts_82 : decode cX1_byContacts 82 = .ok (.invokevirtual 35, 3) := by decide +kernel
theorem dX1_byContacts_85 : decode cX1_byContacts 85 = .ok (.iinc 6 1, 3) := by decide +kernel
theorem dX1_byContacts_88 : decode cX1_byContacts 88 = .ok (.goto (-57), 3) := by decide +kernel
theorem dX1_byContacts_91 : decode cX1_byContacts 91 = .ok (.aload_n 0, 1) := by decide +kernel
theorem dX1_byContacts_92 : decode cX1_byContacts 92 = .ok (.getfield 9, 3) := by decide +kernel
theorem dX1_byContacts_95 : decode cX1_byContacts 95 = .ok (.iload_n 2, 1) := by decide +kernel
theorem dX1_byContacts_96 : decode cX1_byContacts 96 = .ok (.iaload, 1) := by decide +kernel
theorem dX1_byContacts_97 : decode cX1_byContacts 97 = .ok (.iload 4, 2) := by decide +kernel
theorem dX1_byContacts_99 : decode cX1_byContacts 99 = .ok (.if_icmp .ge 12, 3) := by decide +kernel
theorem dX1_byContacts_102 : decode cX1_byContacts 102 = .ok (.aload_n 0, 1) := by decide +kernel
theorem dX1_byContacts_103 : decode cX1_byContacts 103 = .ok (.getfield 9, 3) := by decide +kernel
theorem dX1_byContacts_106 : decode cX1_byContacts 106 = .ok (.iload_n 2, 1) := by decide +kernel
theorem dX1_byContacts_107 : decode cX1_byContacts 107 = .ok (.iaload, 1) := by decide +kernel
theorem dX1_byContacts_108 : decode cX1_byContacts 108 = .ok (.goto 4, 3) := by decide +kernel
theorem dX1_byContacts_111 : decode cX1_byContacts 111 = .ok (.iconst (-1), 1) := by decide +kernel
theorem dX1_byContacts_112 : decode cX1_byContacts 112 = .ok (.ireturn, 1) := by decide +kernel
theorem dX1_earliestReached_0 : decode cX1_earliestReached 0 = .ok (.iconst (-1), 1) := by decide +kernel
theorem dX1_earliestReached_1 : decode cX1_earliestReached 1 = .ok (.istore_n 3, 1) := by decide +kernel
theorem dX1_earliestReached_2 : decode cX1_earliestReached 2 = .ok (.iload_n 2, 1) := by decide +kernel
theorem dX1_earliestReached_3 : decode cX1_earliestReached 3 = .ok (.istore 4, 2) := by decide +kernel
theorem dX1_earliestReached_5 : decode cX1_earliestReached 5 = .ok (.iconst 0, 1) := by decide +kernel
theorem dX1_earliestReached_6 : decode cX1_earliestReached 6 = .ok (.istore 5, 2) := by decide +kernel
theorem dX1_earliestReached_8 : decode cX1_earliestReached 8 = .ok (.iload 5, 2) := by decide +kernel
theorem dX1_earliestReached_10 : decode cX1_earliestReached 10 = .ok (.aload_n 0, 1) := by decide +kernel
theorem dX1_earliestReached_11 : decode cX1_earliestReached 11 = .ok (.getfield 15, 3) := by decide +kernel
theorem dX1_earliestReached_14 : decode cX1_earliestReached 14 = .ok (.getfield 25, 3) := by decide +kernel
theorem dX1_earliestReached_17 : decode cX1_earliestReached 17 = .ok (.if_icmp .ge 42, 3) := by decide +kernel
theorem dX1_earliestReached_20 : decode cX1_earliestReached 20 = .ok (.iload_n 1, 1) := by decide +kernel
theorem dX1_earliestReached_21 : decode cX1_earliestReached 21 = .ok (.iload 5, 2) := by decide +kernel
theorem dX1_earliestReached_23 : decode cX1_earliestReached 23 = .ok (.ishr, 1) := by decide +kernel
theorem dX1_earliestReached_24 : decode cX1_earliestReached 24 = .ok (.iconst 1, 1) := by decide +kernel
theorem dX1_earliestReached_25 : decode cX1_earliestReached 25 = .ok (.iand, 1) := by decide +kernel
theorem dX1_earliestReached_26 : decode cX1_earliestReached 26 = .ok (.ifCond .ne 27, 3) := by decide +kernel
theorem dX1_earliestReached_29 : decode cX1_earliestReached 29 = .ok (.aload_n 0, 1) := by decide +kernel
theorem dX1_earliestReached_30 : decode cX1_earliestReached 30 = .ok (.getfield 9, 3) := by decide +kernel
theorem dX1_earliestReached_33 : decode cX1_earliestReached 33 = .ok (.iload 5, 2) := by decide +kernel
theorem dX1_earliestReached_35 : decode cX1_earliestReached 35 = .ok (.iaload, 1) := by decide +kernel
theorem dX1_earliestReached_36 : decode cX1_earliestReached 36 = .ok (.iload 4, 2) := by decide +kernel
theorem dX1_earliestReached_38 : decode cX1_earliestReached 38 = .ok (.if_icmp .ge 15, 3) := by decide +kernel
theorem dX1_earliestReached_41 : decode cX1_earliestReached 41 = .ok (.aload_n 0, 1) := by decide +kernel
theorem dX1_earliestReached_42 : decode cX1_earliestReached 42 = .ok (.getfield 9, 3) := by decide +kernel
theorem dX1_earliestReached_45 : decode cX1_earliestReached 45 = .ok (.iload 5, 2) := by decide +kernel
theorem dX1_earliestReached_47 : decode cX1_earliestReached 47 = .ok (.iaload, 1) := by decide +kernel
theorem dX1_earliestReached_48 : decode cX1_earliestReached 48 = .ok (.istore 4, 2) := by decide +kernel
theorem dX1_earliestReached_50 : decode cX1_earliestReached 50 = .ok (.iload 5, 2) := by decide +kernel
theorem dX1_earliestReached_52 : decode cX1_earliestReached 52 = .ok (.istore_n 3, 1) := by decide +kernel
theorem dX1_earliestReached_53 : decode cX1_earliestReached 53 = .ok (.iinc 5 1, 3) := by decide +kernel
theorem dX1_earliestReached_56 : decode cX1_earliestReached 56 = .ok (.goto (-48), 3) := by decide +kernel
theorem dX1_earliestReached_59 : decode cX1_earliestReached 59 = .ok (.iload_n 3, 1) := by decide +kernel
theorem dX1_earliestReached_60 : decode cX1_earliestReached 60 = .ok (.ireturn, 1) := by decide +kernel
set_option maxRecDepth 20000 in
theorem ggX1_goOnFrom_X2_firstContact : GoodIn wsX1_goOnFrom wsX2_firstContact := goodIn_r _ [7, 8, 9, 10, 6, 11, 12, 13, 14, 15, 16, 19, 20, 21, 22, 23] (by decide +kernel) (by decide +kernel)
set_option maxRecDepth 20000 in
theorem gX1_goOnFrom_X2_firstContact : GoodIn wsX1_goOnFrom (wsV RX1 39 RX2 yX2_firstContact wsX2_firstContact) := goodIn_app (goodIn_of _ (by decide +kernel)) ggX1_goOnFrom_X2_firstContact
theorem dX1_goOnFrom_0 : decode cX1_goOnFrom 0 = .ok (.iconst 0, 1) := by decide +kernel
theorem dX1_goOnFrom_1 : decode cX1_goOnFrom 1 = .ok (.istore_n 3, 1) := by decide +kernel
theorem dX1_goOnFrom_2 : decode cX1_goOnFrom 2 = .ok (.iload_n 3, 1) := by decide +kernel
theorem dX1_goOnFrom_3 : decode cX1_goOnFrom 3 = .ok (.aload_n 0, 1) := by decide +kernel
theorem dX1_goOnFrom_4 : decode cX1_goOnFrom 4 = .ok (.getfield 15, 3) := by decide +kernel
theorem dX1_goOnFrom_7 : decode cX1_goOnFrom 7 = .ok (.getfield 25, 3) := by decide +kernel
theorem dX1_goOnFrom_10 : decode cX1_goOnFrom 10 = .ok (.if_icmp .ge 63, 3) := by decide +kernel
theorem dX1_goOnFrom_13 : decode cX1_goOnFrom 13 = .ok (.iload_n 2, 1) := by decide +kernel
theorem dX1_goOnFrom_14 : decode cX1_goOnFrom 14 = .ok (.iload_n 3, 1) := by decide +kernel
theorem dX1_goOnFrom_15 : decode cX1_goOnFrom 15 = .ok (.ishr, 1) := by decide +kernel
theorem dX1_goOnFrom_16 : decode cX1_goOnFrom 16 = .ok (.iconst 1, 1) := by decide +kernel
theorem dX1_goOnFrom_17 : decode cX1_goOnFrom 17 = .ok (.iand, 1) := by decide +kernel
theorem dX1_goOnFrom_18 : decode cX1_goOnFrom 18 = .ok (.ifCond .ne 49, 3) := by decide +kernel
theorem dX1_goOnFrom_21 : decode cX1_goOnFrom 21 = .ok (.aload_n 0, 1) := by decide +kernel
theorem dX1_goOnFrom_22 : decode cX1_goOnFrom 22 = .ok (.getfield 15, 3) := by decide +kernel
theorem dX1_goOnFrom_25 : decode cX1_goOnFrom 25 = .ok (.iload_n 1, 1) := by decide +kernel
theorem dX1_goOnFrom_26 : decode cX1_goOnFrom 26 = .ok (.iload_n 3, 1) := by decide +kernel
theorem dX1_goOnFrom_27 : decode cX1_goOnFrom 27 = .ok (.aload_n 0, 1) := by decide +kernel
theorem dX1_goOnFrom_28 : decode cX1_goOnFrom 28 = .ok (.getfield 9, 3) := by decide +kernel
theorem dX1_goOnFrom_31 : decode cX1_goOnFrom 31 = .ok (.iload_n 1, 1) := by decide +kernel
theorem dX1_goOnFrom_32 : decode cX1_goOnFrom 32 = .ok (.iaload, 1) := by decide +kernel
theorem dX1_goOnFrom_33 : decode cX1_goOnFrom 33 = .ok (.invokevirtual 39, 3) := by decide +kernel
theorem dX1_goOnFrom_36 : decode cX1_goOnFrom 36 = .ok (.istore 4, 2) := by decide +kernel
theorem dX1_goOnFrom_38 : decode cX1_goOnFrom 38 = .ok (.iload 4, 2) := by decide +kernel
theorem dX1_goOnFrom_40 : decode cX1_goOnFrom 40 = .ok (.iconst (-1), 1) := by decide +kernel
theorem dX1_goOnFrom_41 : decode cX1_goOnFrom 41 = .ok (.if_icmp .eq 26, 3) := by decide +kernel
theorem dX1_goOnFrom_44 : decode cX1_goOnFrom 44 = .ok (.iload 4, 2) := by decide +kernel
theorem dX1_goOnFrom_46 : decode cX1_goOnFrom 46 = .ok (.iconst 1, 1) := by decide +kernel
theorem dX1_goOnFrom_47 : decode cX1_goOnFrom 47 = .ok (.iadd, 1) := by decide +kernel
theorem dX1_goOnFrom_48 : decode cX1_goOnFrom 48 = .ok (.aload_n 0, 1) := by decide +kernel
theorem dX1_goOnFrom_49 : decode cX1_goOnFrom 49 = .ok (.getfield 9, 3) := by decide +kernel
theorem dX1_goOnFrom_52 : decode cX1_goOnFrom 52 = .ok (.iload_n 3, 1) := by decide +kernel
theorem dX1_goOnFrom_53 : decode cX1_goOnFrom 53 = .ok (.iaload, 1) := by decide +kernel
theorem dX1_goOnFrom_54 : decode cX1_goOnFrom 54 = .ok (.if_icmp .ge 13, 3) := by decide +kernel
theorem dX1_goOnFrom_57 : decode cX1_goOnFrom 57 = .ok (.aload_n 0, 1) := by decide +kernel
theorem dX1_goOnFrom_58 : decode cX1_goOnFrom 58 = .ok (.getfield 9, 3) := by decide +kernel
theorem dX1_goOnFrom_61 : decode cX1_goOnFrom 61 = .ok (.iload_n 3, 1) := by decide +kernel
theorem dX1_goOnFrom_62 : decode cX1_goOnFrom 62 = .ok (.iload 4, 2) := by decide +kernel
theorem dX1_goOnFrom_64 : decode cX1_goOnFrom 64 = .ok (.iconst 1, 1) := by decide +kernel
theorem dX1_goOnFrom_65 : decode cX1_goOnFrom 65 = .ok (.iadd, 1) := by decide +kernel
theorem dX1_goOnFrom_66 : decode cX1_goOnFrom 66 = .ok (.iastore, 1) := by decide +kernel
theorem dX1_goOnFrom_67 : decode cX1_goOnFrom 67 = .ok (.iinc 3 1, 3) := by decide +kernel
theorem dX1_goOnFrom_70 : decode cX1_goOnFrom 70 = .ok (.goto (-68), 3) := by decide +kernel
theorem dX1_goOnFrom_73 : decode cX1_goOnFrom 73 = .ok (.return_, 1) := by decide +kernel
set_option maxRecDepth 20000 in
theorem ggX1_byFlooding_X1_floodedNext : GoodIn wsX1_byFlooding wsX1_floodedNext := goodIn_r _ [5, 6, 7, 8, 9, 10, 11, 12, 13, 14, 15, 16, 17, 18, 19] (by decide +kernel) (by decide +kernel)
set_option maxRecDepth 20000 in
theorem gX1_byFlooding_X1_floodedNext : GoodIn wsX1_byFlooding (wsV RX1 43 RX1 yX1_floodedNext wsX1_floodedNext) := goodIn_app (goodIn_of _ (by decide +kernel)) ggX1_byFlooding_X1_floodedNext
theorem dX1_byFlooding_0 : decode cX1_byFlooding 0 = .ok (.iconst 1, 1) := by decide +kernel
theorem dX1_byFlooding_1 : decode cX1_byFlooding 1 = .ok (.iload_n 1, 1) := by decide +kernel
theorem dX1_byFlooding_2 : decode cX1_byFlooding 2 = .ok (.ishl, 1) := by decide +kernel
theorem dX1_byFlooding_3 : decode cX1_byFlooding 3 = .ok (.istore 4, 2) := by decide +kernel
theorem dX1_byFlooding_5 : decode cX1_byFlooding 5 = .ok (.iconst 0, 1) := by decide +kernel
theorem dX1_byFlooding_6 : decode cX1_byFlooding 6 = .ok (.istore 5, 2) := by decide +kernel
theorem dX1_byFlooding_8 : decode cX1_byFlooding 8 = .ok (.iload 5, 2) := by decide +kernel
theorem dX1_byFlooding_10 : decode cX1_byFlooding 10 = .ok (.sipush 400, 3) := by decide +kernel
theorem dX1_byFlooding_13 : decode cX1_byFlooding 13 = .ok (.if_icmp .gt 35, 3) := by decide +kernel
theorem dX1_byFlooding_16 : decode cX1_byFlooding 16 = .ok (.iload 4, 2) := by decide +kernel
theorem dX1_byFlooding_18 : decode cX1_byFlooding 18 = .ok (.iload_n 2, 1) := by decide +kernel
theorem dX1_byFlooding_19 : decode cX1_byFlooding 19 = .ok (.ishr, 1) := by decide +kernel
theorem dX1_byFlooding_20 : decode cX1_byFlooding 20 = .ok (.iconst 1, 1) := by decide +kernel
theorem dX1_byFlooding_21 : decode cX1_byFlooding 21 = .ok (.iand, 1) := by decide +kernel
theorem dX1_byFlooding_22 : decode cX1_byFlooding 22 = .ok (.ifCond .eq 8, 3) := by decide +kernel
theorem dX1_byFlooding_25 : decode cX1_byFlooding 25 = .ok (.iload_n 3, 1) := by decide +kernel
theorem dX1_byFlooding_26 : decode cX1_byFlooding 26 = .ok (.iload 5, 2) := by decide +kernel
theorem dX1_byFlooding_28 : decode cX1_byFlooding 28 = .ok (.iadd, 1) := by decide +kernel
theorem dX1_byFlooding_29 : decode cX1_byFlooding 29 = .ok (.ireturn, 1) := by decide +kernel
theorem dX1_byFlooding_30 : decode cX1_byFlooding 30 = .ok (.aload_n 0, 1) := by decide +kernel
theorem dX1_byFlooding_31 : decode cX1_byFlooding 31 = .ok (.iload 4, 2) := by decide +kernel
theorem dX1_byFlooding_33 : decode cX1_byFlooding 33 = .ok (.iload_n 3, 1) := by decide +kernel
theorem dX1_byFlooding_34 : decode cX1_byFlooding 34 = .ok (.iload 5, 2) := by decide +kernel
theorem dX1_byFlooding_36 : decode cX1_byFlooding 36 = .ok (.iadd, 1) := by decide +kernel
theorem dX1_byFlooding_37 : decode cX1_byFlooding 37 = .ok (.invokevirtual 43, 3) := by decide +kernel
theorem dX1_byFlooding_40 : decode cX1_byFlooding 40 = .ok (.istore 4, 2) := by decide +kernel
theorem dX1_byFlooding_42 : decode cX1_byFlooding 42 = .ok (.iinc 5 1, 3) := by decide +kernel
theorem dX1_byFlooding_45 : decode cX1_byFlooding 45 = .ok (.goto (-37), 3) := by decide +kernel
theorem dX1_byFlooding_48 : decode cX1_byFlooding 48 = .ok (.iconst (-1), 1) := by decide +kernel
theorem dX1_byFlooding_49 : decode cX1_byFlooding 49 = .ok (.ireturn, 1) := by decide +kernel
set_option maxRecDepth 20000 in
theorem ggX1_flooded_X1_floodedNext : GoodIn wsX1_flooded wsX1_floodedNext := goodIn_r _ [5, 6, 7, 8, 9, 10, 11, 12, 13, 14, 15, 16, 17, 18, 19] (by decide +kernel) (by decide +kernel)
set_option maxRecDepth 20000 in
theorem gX1_flooded_X1_floodedNext : GoodIn wsX1_flooded (wsV RX1 43 RX1 yX1_floodedNext wsX1_floodedNext) := goodIn_app (goodIn_of _ (by decide +kernel)) ggX1_flooded_X1_floodedNext
theorem dX1_flooded_0 : decode cX1_flooded 0 = .ok (.iconst 1, 1) := by decide +kernel
theorem dX1_flooded_1 : decode cX1_flooded 1 = .ok (.iload_n 1, 1) := by decide +kernel
theorem dX1_flooded_2 : decode cX1_flooded 2 = .ok (.ishl, 1) := by decide +kernel
theorem dX1_flooded_3 : decode cX1_flooded 3 = .ok (.istore 4, 2) := by decide +kernel
theorem dX1_flooded_5 : decode cX1_flooded 5 = .ok (.iconst 0, 1) := by decide +kernel
theorem dX1_flooded_6 : decode cX1_flooded 6 = .ok (.istore 5, 2) := by decide +kernel
theorem dX1_flooded_8 : decode cX1_flooded 8 = .ok (.iload 5, 2) := by decide +kernel
theorem dX1_flooded_10 : decode cX1_flooded 10 = .ok (.iload_n 3, 1) := by decide +kernel
theorem dX1_flooded_11 : decode cX1_flooded 11 = .ok (.if_icmp .ge 21, 3) := by decide +kernel
theorem dX1_flooded_14 : decode cX1_flooded 14 = .ok (.aload_n 0, 1) := by decide +kernel
theorem dX1_flooded_15 : decode cX1_flooded 15 = .ok (.iload 4, 2) := by decide +kernel
theorem dX1_flooded_17 : decode cX1_flooded 17 = .ok (.iload_n 2, 1) := by decide +kernel
theorem dX1_flooded_18 : decode cX1_flooded 18 = .ok (.iload 5, 2) := by decide +kernel
theorem dX1_flooded_20 : decode cX1_flooded 20 = .ok (.iadd, 1) := by decide +kernel
theorem dX1_flooded_21 : decode cX1_flooded 21 = .ok (.invokevirtual 43, 3) := by decide +kernel
theorem dX1_flooded_24 : decode cX1_flooded 24 = .ok (.istore 4, 2) := by decide +kernel
theorem dX1_flooded_26 : decode cX1_flooded 26 = .ok (.iinc 5 1, 3) := by decide +kernel
theorem dX1_flooded_29 : decode cX1_flooded 29 = .ok (.goto (-21), 3) := by decide +kernel
theorem dX1_flooded_32 : decode cX1_flooded 32 = .ok (.iload 4, 2) := by decide +kernel
theorem dX1_flooded_34 : decode cX1_flooded 34 = .ok (.ireturn, 1) := by decide +kernel
set_option maxRecDepth 20000 in
theorem ggX1_floodedNext_X2_seenFrom : GoodIn wsX1_floodedNext wsX2_seenFrom := goodIn_r _ [6, 7, 10, 11, 12, 13, 14] (by decide +kernel) (by decide +kernel)
set_option maxRecDepth 20000 in
theorem gX1_floodedNext_X2_seenFrom : GoodIn wsX1_floodedNext (wsV RX1 46 RX2 yX2_seenFrom wsX2_seenFrom) := goodIn_app (goodIn_of _ (by decide +kernel)) ggX1_floodedNext_X2_seenFrom
theorem dX1_floodedNext_0 : decode cX1_floodedNext 0 = .ok (.iload_n 1, 1) := by decide +kernel
theorem dX1_floodedNext_1 : decode cX1_floodedNext 1 = .ok (.istore_n 3, 1) := by decide +kernel
theorem dX1_floodedNext_2 : decode cX1_floodedNext 2 = .ok (.iconst 0, 1) := by decide +kernel
theorem dX1_floodedNext_3 : decode cX1_floodedNext 3 = .ok (.istore 4, 2) := by decide +kernel
theorem dX1_floodedNext_5 : decode cX1_floodedNext 5 = .ok (.iload 4, 2) := by decide +kernel
theorem dX1_floodedNext_7 : decode cX1_floodedNext 7 = .ok (.aload_n 0, 1) := by decide +kernel
theorem dX1_floodedNext_8 : decode cX1_floodedNext 8 = .ok (.getfield 15, 3) := by decide +kernel
theorem dX1_floodedNext_11 : decode cX1_floodedNext 11 = .ok (.getfield 25, 3) := by decide +kernel
theorem dX1_floodedNext_14 : decode cX1_floodedNext 14 = .ok (.if_icmp .ge 31, 3) := by decide +kernel
theorem dX1_floodedNext_17 : decode cX1_floodedNext 17 = .ok (.iload_n 1, 1) := by decide +kernel
theorem dX1_floodedNext_18 : decode cX1_floodedNext 18 = .ok (.iload 4, 2) := by decide +kernel
theorem dX1_floodedNext_20 : decode cX1_floodedNext 20 = .ok (.ishr, 1) := by decide +kernel
theorem dX1_floodedNext_21 : decode cX1_floodedNext 21 = .ok (.iconst 1, 1) := by decide +kernel
theorem dX1_floodedNext_22 : decode cX1_floodedNext 22 = .ok (.iand, 1) := by decide +kernel
theorem dX1_floodedNext_23 : decode cX1_floodedNext 23 = .ok (.ifCond .eq 16, 3) := by decide +kernel
theorem dX1_floodedNext_26 : decode cX1_floodedNext 26 = .ok (.iload_n 3, 1) := by decide +kernel
theorem dX1_floodedNext_27 : decode cX1_floodedNext 27 = .ok (.aload_n 0, 1) := by decide +kernel
theorem dX1_floodedNext_28 : decode cX1_floodedNext 28 = .ok (.getfield 15, 3) := by decide +kernel
theorem dX1_floodedNext_31 : decode cX1_floodedNext 31 = .ok (.iload 4, 2) := by decide +kernel
theorem dX1_floodedNext_33 : decode cX1_floodedNext 33 = .ok (.iload_n 2, 1) := by decide +kernel
theorem dX1_floodedNext_34 : decode cX1_floodedNext 34 = .ok (.invokevirtual 46, 3) := by decide +kernel
theorem dX1_floodedNext_37 : decode cX1_floodedNext 37 = .ok (.ior, 1) := by decide +kernel
theorem dX1_floodedNext_38 : decode cX1_floodedNext 38 = .ok (.istore_n 3, 1) := by decide +kernel
theorem dX1_floodedNext_39 : decode cX1_floodedNext 39 = .ok (.iinc 4 1, 3) := by decide +kernel
theorem dX1_floodedNext_42 : decode cX1_floodedNext 42 = .ok (.goto (-37), 3) := by decide +kernel
theorem dX1_floodedNext_45 : decode cX1_floodedNext 45 = .ok (.iload_n 3, 1) := by decide +kernel
theorem dX1_floodedNext_46 : decode cX1_floodedNext 46 = .ok (.ireturn, 1) := by decide +kernel
theorem dX2_init_0 : decode cX2_init 0 = .ok (.aload_n 0, 1) := by decide +kernel
theorem dX2_init_1 : decode cX2_init 1 = .ok (.invokespecial 3, 3) := by decide +kernel
theorem dX2_init_4 : decode cX2_init 4 = .ok (.aload_n 0, 1) := by decide +kernel
theorem dX2_init_5 : decode cX2_init 5 = .ok (.bipush 10, 2) := by decide +kernel
theorem dX2_init_7 : decode cX2_init 7 = .ok (.newarray .int, 2) := by decide +kernel
theorem dX2_init_9 : decode cX2_init 9 = .ok (.putfield 9, 3) := by decide +kernel
theorem dX2_init_12 : decode cX2_init 12 = .ok (.aload_n 0, 1) := by decide +kernel
theorem dX2_init_13 : decode cX2_init 13 = .ok (.bipush 10, 2) := by decide +kernel
theorem dX2_init_15 : decode cX2_init 15 = .ok (.newarray .int, 2) := by decide +kernel
theorem dX2_init_17 : decode cX2_init 17 = .ok (.putfield 15, 3) := by decide +kernel
theorem dX2_init_20 : decode cX2_init 20 = .ok (.aload_n 0, 1) := by decide +kernel
theorem dX2_init_21 : decode cX2_init 21 = .ok (.bipush 10, 2) := by decide +kernel
theorem dX2_init_23 : decode cX2_init 23 = .ok (.newarray .int, 2) := by decide +kernel
theorem dX2_init_25 : decode cX2_init 25 = .ok (.putfield 18, 3) := by decide +kernel
theorem dX2_init_28 : decode cX2_init 28 = .ok (.aload_n 0, 1) := by decide +kernel
theorem dX2_init_29 : decode cX2_init 29 = .ok (.bipush 10, 2) := by decide +kernel
theorem dX2_init_31 : decode cX2_init 31 = .ok (.sipush 360, 3) := by decide +kernel
theorem dX2_init_34 : decode cX2_init 34 = .ok (.multianewarray 21 2, 4) := by decide +kernel
theorem dX2_init_38 : decode cX2_init 38 = .ok (.putfield 23, 3) := by decide +kernel
theorem dX2_init_41 : decode cX2_init 41 = .ok (.aload_n 0, 1) := by decide +kernel
theorem dX2_init_42 : decode cX2_init 42 = .ok (.iconst 0, 1) := by decide +kernel
theorem dX2_init_43 : decode cX2_init 43 = .ok (.putfield 26, 3) := by decide +kernel
theorem dX2_init_46 : decode cX2_init 46 = .ok (.return_, 1) := by decide +kernel
set_option maxRecDepth 20000 in
theorem ggX2_addNode_X2_markContacts : GoodIn wsX2_addNode wsX2_markContacts := goodIn_r _ [9, 10, 11, 12, 13, 8, 14, 4, 15, 16, 17, 18, 19, 20, 21, 22, 2, 3, 23, 24, 25, 26, 27, 28, 29, 30, 31, 32, 33, 34, 35, 36, 37] (by decide +kernel) (by decide +kernel)
set_option maxRecDepth 20000 in
theorem gX2_addNode_X2_markContacts : GoodIn wsX2_addNode (wsV RX2 30 RX2 yX2_markContacts wsX2_markContacts) := goodIn_app (goodIn_of _ (by decide +kernel)) ggX2_addNode_X2_markContacts
theorem dX2_addNode_0 : decode cX2_addNode 0 = .ok (.aload_n 0, 1) := by decide +kernel
theorem dX2_addNode_1 : decode cX2_addNode 1 = .ok (.getfield 26, 3) := by decide +kernel
theorem dX2_addNode_4 : decode cX2_addNode 4 = .ok (.istore 4, 2) := by decide +kernel
theorem dX2_addNode_6 : decode cX2_addNode 6 = .ok (.aload_n 0, 1) := by decide +kernel
theorem dX2_addNode_7 : decode cX2_addNode 7 = .ok (.getfield 9, 3) := by decide +kernel
theorem dX2_addNode_10 : decode cX2_addNode 10 = .ok (.iload 4, 2) := by decide +kernel
theorem dX2_addNode_12 : decode cX2_addNode 12 = .ok (.iload_n 1, 1) := by decide +kernel
theorem dX2_addNode_13 : decode cX2_addNode 13 = .ok (.iastore, 1) := by decide +kernel
theorem dX2_addNode_14 : decode cX2_addNode 14 = .ok (.aload_n 0, 1) := by decide +kernel
theorem dX2_addNode_15 : decode cX2_addNode 15 = .ok (.getfield 15, 3) := by decide +kernel
theorem dX2_addNode_18 : decode cX2_addNode 18 = .ok (.iload 4, 2) := by decide +kernel
theorem dX2_addNode_20 : decode cX2_addNode 20 = .ok (.iload_n 2, 1) := by decide +kernel
theorem dX2_addNode_21 : decode cX2_addNode 21 = .ok (.iastore, 1) := by decide +kernel
theorem dX2_addNode_22 : decode cX2_addNode 22 = .ok (.aload_n 0, 1) := by decide +kernel
theorem dX2_addNode_23 : decode cX2_addNode 23 = .ok (.getfield 18, 3) := by decide +kernel
theorem dX2_addNode_26 : decode cX2_addNode 26 = .ok (.iload 4, 2) := by decide +kernel
theorem dX2_addNode_28 : decode cX2_addNode 28 = .ok (.iload_n 3, 1) := by decide +kernel
theorem dX2_addNode_29 : decode cX2_addNode 29 = .ok (.iastore, 1) := by decide +kernel
theorem dX2_addNode_30 : decode cX2_addNode 30 = .ok (.aload_n 0, 1) := by decide +kernel
theorem dX2_addNode_31 : decode cX2_addNode 31 = .ok (.dup, 1) := by decide +kernel
theorem dX2_addNode_32 : decode cX2_addNode 32 = .ok (.getfield 26, 3) := by decide +kernel
theorem dX2_addNode_35 : decode cX2_addNode 35 = .ok (.iconst 1, 1) := by decide +kernel
theorem dX2_addNode_36 : decode cX2_addNode 36 = .ok (.iadd, 1) := by decide +kernel
theorem dX2_addNode_37 : decode cX2_addNode 37 = .ok (.putfield 26, 3) := by decide +kernel
theorem dX2_addNode_40 : decode cX2_addNode 40 = .ok (.iconst 0, 1) := by decide +kernel
theorem dX2_addNode_41 : decode cX2_addNode 41 = .ok (.istore 5, 2) := by decide +kernel
theorem dX2_addNode_43 : decode cX2_addNode 43 = .ok (.iload 5, 2) := by decide +kernel
theorem dX2_addNode_45 : decode cX2_addNode 45 = .ok (.iload 4, 2) := by decide +kernel
theorem dX2_addNode_47 : decode cX2_addNode 47 = .ok (.if_icmp .ge 17, 3) := by decide +kernel
theorem dX2_addNode_50 : decode cX2_addNode 50 = .ok (.aload_n 0, 1) := by decide +kernel
theorem dX2_addNode_51 : decode cX2_addNode 51 = .ok (.iload 4, 2) := by decide +kernel
theorem dX2_addNode_53 : decode cX2_addNode 53 = .ok (.iload 5, 2) := by decide +kernel
theorem dX2_addNode_55 : decode cX2_addNode 55 = .ok (.invokevirtual 30, 3) := by decide +kernel
theorem dX2_addNode_58 : decode cX2_addNode 58 = .ok (.iinc 5 1, 3) := by decide +kernel
theorem dX2_addNode_61 : decode cX2_addNode 61 = .ok (.goto (-18), 3) := by decide +kernel
theorem dX2_addNode_64 : decode cX2_addNode 64 = .ok (.iload 4, 2) := by decide +kernel
theorem dX2_addNode_66 : decode cX2_addNode 66 = .ok (.ireturn, 1) := by decide +kernel
set_option maxRecDepth 20000 in
theorem ggX2_markContacts_X2_commonReach : GoodIn wsX2_markContacts wsX2_commonReach := goodIn_r _ [6, 7, 8, 9, 10, 11, 28, 29, 30, 31, 32] (by decide +kernel) (by decide +kernel)
set_option maxRecDepth 20000 in
theorem gX2_markContacts_X2_commonReach : GoodIn wsX2_markContacts (wsV RX2 34 RX2 yX2_commonReach wsX2_commonReach) := goodIn_app (goodIn_of _ (by decide +kernel)) ggX2_markContacts_X2_commonReach
set_option maxRecDepth 20000 in
theorem ggX2_markContacts_X2_placeOf : GoodIn wsX2_markContacts wsX2_placeOf := goodIn_r _ [15, 16, 17, 18, 19, 20, 21, 28, 29, 30, 31, 32] (by decide +kernel) (by decide +kernel)
set_option maxRecDepth 20000 in
theorem gX2_markContacts_X2_placeOf : GoodIn wsX2_markContacts (wsV RX2 38 RX2 yX2_placeOf wsX2_placeOf) := goodIn_app (goodIn_of _ (by decide +kernel)) ggX2_markContacts_X2_placeOf
set_option maxRecDepth 20000 in
theorem ggX2_markContacts_X2_distance : GoodIn wsX2_markContacts wsX2_distance := goodIn_r _ [24, 25, 26, 10, 27, 8, 9, 11] (by decide +kernel) (by decide +kernel)
set_option maxRecDepth 20000 in
theorem gX2_markContacts_X2_distance : GoodIn wsX2_markContacts (va_wsS RX2 41 yX2_distance wsX2_distance) := goodIn_app (goodIn_of _ (by decide +kernel)) ggX2_markContacts_X2_distance
theorem dX2_markContacts_0 : decode cX2_markContacts 0 = .ok (.aload_n 0, 1) := by decide +kernel
theorem dX2_markContacts_1 : decode cX2_markContacts 1 = .ok (.iload_n 1, 1) := by decide +kernel
theorem dX2_markContacts_2 : decode cX2_markContacts 2 = .ok (.iload_n 2, 1) := by decide +kernel
theorem dX2_markContacts_3 : decode cX2_markContacts 3 = .ok (.invokevirtual 34, 3) := by decide +kernel
theorem dX2_markContacts_6 : decode cX2_markContacts 6 = .ok (.istore_n 3, 1) := by decide +kernel
theorem dX2_markContacts_7 : decode cX2_markContacts 7 = .ok (.iconst 0, 1) := by decide +kernel
theorem dX2_markContacts_8 : decode cX2_markContacts 8 = .ok (.istore 4, 2) := by decide +kernel
theorem dX2_markContacts_10 : decode cX2_markContacts 10 = .ok (.iload 4, 2) := by decide +kernel
theorem dX2_markContacts_12 : decode cX2_markContacts 12 = .ok (.sipush 360, 3) := by decide +kernel
theorem dX2_markContacts_15 : decode cX2_markContacts 15 = .ok (.if_icmp .ge 60, 3) := by decide +kernel
theorem dX2_markContacts_18 : decode cX2_markContacts 18 = .ok (.aload_n 0, 1) := by decide +kernel
theorem dX2_markContacts_19 : decode cX2_markContacts 19 = .ok (.iload_n 1, 1) := by decide +kernel
theorem dX2_markContacts_20 : decode cX2_markContacts 20 = .ok (.iload 4, 2) := by decide +kernel
theorem dX2_markContacts_22 : decode cX2_markContacts 22 = .ok (.invokevirtual 38, 3) := by decide +kernel
theorem dX2_markContacts_25 : decode cX2_markContacts 25 = .ok (.aload_n 0, 1) := by decide +kernel
theorem dX2_markContacts_26 : decode cX2_markContacts 26 = .ok (.iload_n 2, 1) := by decide +kernel
theorem dX2_markContacts_27 : decode cX2_markContacts 27 = .ok (.iload 4, 2) := by decide +kernel
theorem dX2_markContacts_29 : decode cX2_markContacts 29 = .ok (.invokevirtual 38, 3) := by decide +kernel
theorem dX2_markContacts_32 : decode cX2_markContacts 32 = .ok (.invokestatic 41, 3) := by decide +kernel
theorem dX2_markContacts_35 : decode cX2_markContacts 35 = .ok (.iload_n 3, 1) := by decide +kernel
theorem dX2_markContacts_36 : decode cX2_markContacts 36 = .ok (.if_icmp .gt 33, 3) := by decide +kernel
theorem dX2_markContacts_39 : decode cX2_markContacts 39 = .ok (.aload_n 0, 1) := by decide +kernel
theorem dX2_markContacts_40 : decode cX2_markContacts 40 = .ok (.getfield 23, 3) := by decide +kernel
theorem dX2_markContacts_43 : decode cX2_markContacts 43 = .ok (.iload_n 1, 1) := by decide +kernel
theorem dX2_markContacts_44 : decode cX2_markContacts 44 = .ok (.aaload, 1) := by decide +kernel
theorem dX2_markContacts_45 : decode cX2_markContacts 45 = .ok (.iload 4, 2) := by decide +kernel
theorem dX2_markContacts_47 : decode cX2_markContacts 47 = .ok (.dup2, 1) := by decide +kernel
theorem dX2_markContacts_48 : decode cX2_markContacts 48 = .ok (.iaload, 1) := by decide +kernel
theorem dX2_markContacts_49 : decode cX2_markContacts 49 = .ok (.iconst 1, 1) := by decide +kernel
theorem dX2_markContacts_50 : decode cX2_markContacts 50 = .ok (.iload_n 2, 1) := by decide +kernel
theorem dX2_markContacts_51 : decode cX2_markContacts 51 = .ok (.ishl, 1) := by decide +kernel
theorem dX2_markContacts_52 : decode cX2_markContacts 52 = .ok (.ior, 1) := by decide +kernel
theorem dX2_markContacts_53 : decode cX2_markContacts 53 = .ok (.iastore, 1) := by decide +kernel
theorem dX2_markContacts_54 : decode cX2_markContacts 54 = .ok (.aload_n 0, 1) := by decide +kernel
theorem dX2_markContacts_55 : decode cX2_markContacts 55 = .ok (.getfield 23, 3) := by decide +kernel
theorem dX2_markContacts_58 : decode cX2_markContacts 58 = .ok (.iload_n 2, 1) := by decide +kernel
theorem dX2_markContacts_59 : decode cX2_markContacts 59 = .ok (.aaload, 1) := by decide +kernel
theorem dX2_markContacts_60 : decode cX2_markContacts 60 = .ok (.iload 4, 2) := by decide +kernel
theorem dX2_markContacts_62 : decode cX2_markContacts 62 = .ok (.dup2, 1) := by decide +kernel
theorem dX2_markContacts_63 : decode cX2_markContacts 63 = .ok (.iaload, 1) := by decide +kernel
theorem dX2_markContacts_64 : decode cX2_markContacts 64 = .ok (.iconst 1, 1) := by decide +kernel
theorem dX2_markContacts_65 : decode cX2_markContacts 65 = .ok (.iload_n 1, 1) := by decide +kernel
theorem dX2_markContacts_66 : decode cX2_markContacts 66 = .ok (.ishl, 1) := by decide +kernel
theorem dX2_markContacts_67 : decode cX2_markContacts 67 = .ok (.ior, 1) := by decide +kernel
theorem dX2_markContacts_68 : decode cX2_markContacts 68 = .ok (.iastore, 1) := by decide +kernel
theorem dX2_markContacts_69 : decode cX2_markContacts 69 = .ok (.iinc 4 1, 3) := by decide +kernel
theorem dX2_markContacts_72 : decode cX2_markContacts 72 = .ok (.goto (-62), 3) := by decide +kernel
theorem dX2_markContacts_75 : decode cX2_markContacts 75 = .ok (.return_, 1) := by decide +kernel
theorem dX2_commonReach_0 : decode cX2_commonReach 0 = .ok (.aload_n 0, 1) := by decide +kernel
theorem dX2_commonReach_1 : decode cX2_commonReach 1 = .ok (.getfield 18, 3) := by decide +kernel
theorem dX2_commonReach_4 : decode cX2_commonReach 4 = .ok (.iload_n 1, 1) := by decide +kernel
theorem dX2_commonReach_5 : decode cX2_commonReach 5 = .ok (.iaload, 1) := by decide +kernel
theorem dX2_commonReach_6 : decode cX2_commonReach 6 = .ok (.iconst (-1), 1) := by decide +kernel
theorem dX2_commonReach_7 : decode cX2_commonReach 7 = .ok (.if_icmp .ne 10, 3) := by decide +kernel
theorem dX2_commonReach_10 : decode cX2_commonReach 10 = .ok (.aload_n 0, 1) := by decide +kernel
theorem dX2_commonReach_11 : decode cX2_commonReach 11 = .ok (.getfield 18, 3) := by decide +kernel
theorem dX2_commonReach_14 : decode cX2_commonReach 14 = .ok (.iload_n 2, 1) := by decide +kernel
theorem dX2_commonReach_15 : decode cX2_commonReach 15 = .ok (.iaload, 1) := by decide +kernel
theorem dX2_commonReach_16 : decode cX2_commonReach 16 = .ok (.ireturn, 1) := by decide +kernel
theorem dX2_commonReach_17 : decode cX2_commonReach 17 = .ok (.aload_n 0, 1) := by decide +kernel
theorem dX2_commonReach_18 : decode cX2_commonReach 18 = .ok (.getfield 18, 3) := by decide +kernel
theorem dX2_commonReach_21 : decode cX2_commonReach 21 = .ok (.iload_n 2, 1) := by decide +kernel
theorem dX2_commonReach_22 : decode cX2_commonReach 22 = .ok (.iaload, 1) := by decide +kernel
theorem dX2_commonReach_23 : decode cX2_commonReach 23 = .ok (.iconst (-1), 1) := by decide +kernel
theorem dX2_commonReach_24 : decode cX2_commonReach 24 = .ok (.if_icmp .ne 10, 3) := by decide +kernel
theorem dX2_commonReach_27 : decode cX2_commonReach 27 = .ok (.aload_n 0, 1) := by decide +kernel
theorem dX2_commonReach_28 : decode cX2_commonReach 28 = .ok (.getfield 18, 3) := by decide +kernel
theorem dX2_commonReach_31 : decode cX2_commonReach 31 = .ok (.iload_n 1, 1) := by decide +kernel
theorem dX2_commonReach_32 : decode cX2_commonReach 32 = .ok (.iaload, 1) := by decide +kernel
theorem dX2_commonReach_33 : decode cX2_commonReach 33 = .ok (.ireturn, 1) := by decide +kernel
theorem dX2_commonReach_34 : decode cX2_commonReach 34 = .ok (.aload_n 0, 1) := by decide +kernel
theorem dX2_commonReach_35 : decode cX2_commonReach 35 = .ok (.getfield 18, 3) := by decide +kernel
theorem dX2_commonReach_38 : decode cX2_commonReach 38 = .ok (.iload_n 1, 1) := by decide +kernel
theorem dX2_commonReach_39 : decode cX2_commonReach 39 = .ok (.iaload, 1) := by decide +kernel
theorem dX2_commonReach_40 : decode cX2_commonReach 40 = .ok (.aload_n 0, 1) := by decide +kernel
theorem dX2_commonReach_41 : decode cX2_commonReach 41 = .ok (.getfield 18, 3) := by decide +kernel
theorem dX2_commonReach_44 : decode cX2_commonReach 44 = .ok (.iload_n 2, 1) := by decide +kernel
theorem dX2_commonReach_45 : decode cX2_commonReach 45 = .ok (.iaload, 1) := by decide +kernel
theorem dX2_commonReach_46 : decode cX2_commonReach 46 = .ok (.invokestatic 44, 3) := by decide +kernel
theorem dX2_commonReach_49 : decode cX2_commonReach 49 = .ok (.ireturn, 1) := by decide +kernel
theorem dX2_distance_0 : decode cX2_distance 0 = .ok (.iload_n 0, 1) := by decide +kernel
theorem dX2_distance_1 : decode cX2_distance 1 = .ok (.iload_n 1, 1) := by decide +kernel
theorem dX2_distance_2 : decode cX2_distance 2 = .ok (.isub, 1) := by decide +kernel
theorem dX2_distance_3 : decode cX2_distance 3 = .ok (.invokestatic 49, 3) := by decide +kernel
theorem dX2_distance_6 : decode cX2_distance 6 = .ok (.istore_n 2, 1) := by decide +kernel
theorem dX2_distance_7 : decode cX2_distance 7 = .ok (.iload_n 2, 1) := by decide +kernel
theorem dX2_distance_8 : decode cX2_distance 8 = .ok (.sipush 360, 3) := by decide +kernel
theorem dX2_distance_11 : decode cX2_distance 11 = .ok (.iload_n 2, 1) := by decide +kernel
theorem dX2_distance_12 : decode cX2_distance 12 = .ok (.isub, 1) := by decide +kernel
theorem dX2_distance_13 : decode cX2_distance 13 = .ok (.invokestatic 44, 3) := by decide +kernel
theorem dX2_distance_16 : decode cX2_distance 16 = .ok (.ireturn, 1) := by decide +kernel
set_option maxRecDepth 20000 in
theorem ggX2_placeOf_J9_floorMod_7cf53 : GoodIn wsX2_placeOf wsJ9_floorMod_7cf53 := goodIn_r _ [6] (by decide +kernel) (by decide +kernel)
set_option maxRecDepth 20000 in
theorem gX2_placeOf_J9_floorMod_7cf53 : GoodIn wsX2_placeOf (va_wsS RX2 53 yJ9_floorMod_7cf53 wsJ9_floorMod_7cf53) := goodIn_app (goodIn_of _ (by decide +kernel)) ggX2_placeOf_J9_floorMod_7cf53
theorem dX2_placeOf_0 : decode cX2_placeOf 0 = .ok (.aload_n 0, 1) := by decide +kernel
theorem dX2_placeOf_1 : decode cX2_placeOf 1 = .ok (.getfield 9, 3) := by decide +kernel
theorem dX2_placeOf_4 : decode cX2_placeOf 4 = .ok (.iload_n 1, 1) := by decide +kernel
theorem dX2_placeOf_5 : decode cX2_placeOf 5 = .ok (.iaload, 1) := by decide +kernel
theorem dX2_placeOf_6 : decode cX2_placeOf 6 = .ok (.iload_n 2, 1) := by decide +kernel
theorem dX2_placeOf_7 : decode cX2_placeOf 7 = .ok (.aload_n 0, 1) := by decide +kernel
theorem dX2_placeOf_8 : decode cX2_placeOf 8 = .ok (.getfield 15, 3) := by decide +kernel
theorem dX2_placeOf_11 : decode cX2_placeOf 11 = .ok (.iload_n 1, 1) := by decide +kernel
theorem dX2_placeOf_12 : decode cX2_placeOf 12 = .ok (.iaload, 1) := by decide +kernel
theorem dX2_placeOf_13 : decode cX2_placeOf 13 = .ok (.imul, 1) := by decide +kernel
theorem dX2_placeOf_14 : decode cX2_placeOf 14 = .ok (.iadd, 1) := by decide +kernel
theorem dX2_placeOf_15 : decode cX2_placeOf 15 = .ok (.sipush 360, 3) := by decide +kernel
theorem dX2_placeOf_18 : decode cX2_placeOf 18 = .ok (.invokestatic 53, 3) := by decide +kernel
theorem dX2_placeOf_21 : decode cX2_placeOf 21 = .ok (.ireturn, 1) := by decide +kernel
theorem dX2_seenFrom_0 : decode cX2_seenFrom 0 = .ok (.aload_n 0, 1) := by decide +kernel
theorem dX2_seenFrom_1 : decode cX2_seenFrom 1 = .ok (.getfield 23, 3) := by decide +kernel
theorem dX2_seenFrom_4 : decode cX2_seenFrom 4 = .ok (.iload_n 1, 1) := by decide +kernel
theorem dX2_seenFrom_5 : decode cX2_seenFrom 5 = .ok (.aaload, 1) := by decide +kernel
theorem dX2_seenFrom_6 : decode cX2_seenFrom 6 = .ok (.iload_n 2, 1) := by decide +kernel
theorem dX2_seenFrom_7 : decode cX2_seenFrom 7 = .ok (.sipush 360, 3) := by decide +kernel
theorem dX2_seenFrom_10 : decode cX2_seenFrom 10 = .ok (.irem, 1) := by decide +kernel
theorem dX2_seenFrom_11 : decode cX2_seenFrom 11 = .ok (.iaload, 1) := by decide +kernel
theorem dX2_seenFrom_12 : decode cX2_seenFrom 12 = .ok (.ireturn, 1) := by decide +kernel
set_option maxRecDepth 20000 in
theorem ggX2_inContact_X2_seenFrom : GoodIn wsX2_inContact wsX2_seenFrom := goodIn_r _ [5, 6, 7, 8, 9, 10, 11] (by decide +kernel) (by decide +kernel)
set_option maxRecDepth 20000 in
theorem gX2_inContact_X2_seenFrom : GoodIn wsX2_inContact (wsV RX2 56 RX2 yX2_seenFrom wsX2_seenFrom) := goodIn_app (goodIn_of _ (by decide +kernel)) ggX2_inContact_X2_seenFrom
theorem dX2_inContact_0 : decode cX2_inContact 0 = .ok (.aload_n 0, 1) := by decide +kernel
theorem dX2_inContact_1 : decode cX2_inContact 1 = .ok (.iload_n 1, 1) := by decide +kernel
theorem dX2_inContact_2 : decode cX2_inContact 2 = .ok (.iload_n 3, 1) := by decide +kernel
theorem dX2_inContact_3 : decode cX2_inContact 3 = .ok (.invokevirtual 56, 3) := by decide +kernel
theorem dX2_inContact_6 : decode cX2_inContact 6 = .ok (.iload_n 2, 1) := by decide +kernel
theorem dX2_inContact_7 : decode cX2_inContact 7 = .ok (.ishr, 1) := by decide +kernel
theorem dX2_inContact_8 : decode cX2_inContact 8 = .ok (.iconst 1, 1) := by decide +kernel
theorem dX2_inContact_9 : decode cX2_inContact 9 = .ok (.iand, 1) := by decide +kernel
theorem dX2_inContact_10 : decode cX2_inContact 10 = .ok (.ifCond .eq 7, 3) := by decide +kernel
theorem dX2_inContact_13 : decode cX2_inContact 13 = .ok (.iconst 1, 1) := by decide +kernel
theorem dX2_inContact_14 : decode cX2_inContact 14 = .ok (.goto 4, 3) := by decide +kernel
theorem dX2_inContact_17 : decode cX2_inContact 17 = .ok (.iconst 0, 1) := by decide +kernel
theorem dX2_inContact_18 : decode cX2_inContact 18 = .ok (.ireturn, 1) := by decide +kernel
set_option maxRecDepth 20000 in
theorem ggX2_firstContact_X2_inContact : GoodIn wsX2_firstContact wsX2_inContact := goodIn_r _ [5, 6, 7, 8, 4, 9, 10, 11, 12, 13, 14, 15] (by decide +kernel) (by decide +kernel)
set_option maxRecDepth 20000 in
theorem gX2_firstContact_X2_inContact : GoodIn wsX2_firstContact (wsV RX2 59 RX2 yX2_inContact wsX2_inContact) := goodIn_app (goodIn_of _ (by decide +kernel)) ggX2_firstContact_X2_inContact
theorem dX2_firstContact_0 : decode cX2_firstContact 0 = .ok (.iconst 0, 1) := by decide +kernel
theorem dX2_firstContact_1 : decode cX2_firstContact 1 = .ok (.istore 4, 2) := by decide +kernel
theorem dX2_firstContact_3 : decode cX2_firstContact 3 = .ok (.iload 4, 2) := by decide +kernel
theorem dX2_firstContact_5 : decode cX2_firstContact 5 = .ok (.sipush 360, 3) := by decide +kernel
theorem dX2_firstContact_8 : decode cX2_firstContact 8 = .ok (.if_icmp .ge 27, 3) := by decide +kernel
theorem dX2_firstContact_11 : decode cX2_firstContact 11 = .ok (.aload_n 0, 1) := by decide +kernel
theorem dX2_firstContact_12 : decode cX2_firstContact 12 = .ok (.iload_n 1, 1) := by decide +kernel
theorem dX2_firstContact_13 : decode cX2_firstContact 13 = .ok (.iload_n 2, 1) := by decide +kernel
theorem dX2_firstContact_14 : decode cX2_firstContact 14 = .ok (.iload_n 3, 1) := by decide +kernel
theorem dX2_firstContact_15 : decode cX2_firstContact 15 = .ok (.iload 4, 2) := by decide +kernel
theorem dX2_firstContact_17 : decode cX2_firstContact 17 = .ok (.iadd, 1) := by decide +kernel
theorem dX2_firstContact_18 : decode cX2_firstContact 18 = .ok (.invokevirtual 59, 3) := by decide +kernel
theorem dX2_firstContact_21 : decode cX2_firstContact 21 = .ok (.ifCond .eq 8, 3) := by decide +kernel
theorem dX2_firstContact_24 : decode cX2_firstContact 24 = .ok (.iload_n 3, 1) := by decide +kernel
theorem dX2_firstContact_25 : decode cX2_firstContact 25 = .ok (.iload 4, 2) := by decide +kernel
theorem dX2_firstContact_27 : decode cX2_firstContact 27 = .ok (.iadd, 1) := by decide +kernel
theorem dX2_firstContact_28 : decode cX2_firstContact 28 = .ok (.ireturn, 1) := by decide +kernel
theorem dX2_firstContact_29 : decode cX2_firstContact 29 = .ok (.iinc 4 1, 3) := by decide +kernel
theorem dX2_firstContact_32 : decode cX2_firstContact 32 = .ok (.goto (-29), 3) := by decide +kernel
theorem dX2_firstContact_35 : decode cX2_firstContact 35 = .ok (.iconst (-1), 1) := by decide +kernel
theorem dX2_firstContact_36 : decode cX2_firstContact 36 = .ok (.ireturn, 1) := by decide +kernel
set_option maxRecDepth 20000 in
theorem ggX2_contactLength_X2_inContact : GoodIn wsX2_contactLength wsX2_inContact := goodIn_r _ [5, 6, 7, 8, 4, 9, 10, 11, 12, 13, 14, 15] (by decide +kernel) (by decide +kernel)
set_option maxRecDepth 20000 in
theorem gX2_contactLength_X2_inContact : GoodIn wsX2_contactLength (wsV RX2 59 RX2 yX2_inContact wsX2_inContact) := goodIn_app (goodIn_of _ (by decide +kernel)) ggX2_contactLength_X2_inContact
theorem dX2_contactLength_0 : decode cX2_contactLength 0 = .ok (.iconst 0, 1) := by decide +kernel
theorem dX2_contactLength_1 : decode cX2_contactLength 1 = .ok (.istore 4, 2) := by decide +kernel
theorem dX2_contactLength_3 : decode cX2_contactLength 3 = .ok (.iload 4, 2) := by decide +kernel
theorem dX2_contactLength_5 : decode cX2_contactLength 5 = .ok (.sipush 360, 3) := by decide +kernel
theorem dX2_contactLength_8 : decode cX2_contactLength 8 = .ok (.if_icmp .ge 25, 3) := by decide +kernel
theorem dX2_contactLength_11 : decode cX2_contactLength 11 = .ok (.aload_n 0, 1) := by decide +kernel
theorem dX2_contactLength_12 : decode cX2_contactLength 12 = .ok (.iload_n 1, 1) := by decide +kernel
theorem dX2_contactLength_13 : decode cX2_contactLength 13 = .ok (.iload_n 2, 1) := by decide +kernel
theorem dX2_contactLength_14 : decode cX2_contactLength 14 = .ok (.iload_n 3, 1) := by decide +kernel
theorem dX2_contactLength_15 : decode cX2_contactLength 15 = .ok (.iload 4, 2) := by decide +kernel
theorem dX2_contactLength_17 : decode cX2_contactLength 17 = .ok (.iadd, 1) := by decide +kernel
theorem dX2_contactLength_18 : decode cX2_contactLength 18 = .ok (.invokevirtual 59, 3) := by decide +kernel
theorem dX2_contactLength_21 : decode cX2_contactLength 21 = .ok (.ifCond .ne 6, 3) := by decide +kernel
theorem dX2_contactLength_24 : decode cX2_contactLength 24 = .ok (.iload 4, 2) := by decide +kernel
theorem dX2_contactLength_26 : decode cX2_contactLength 26 = .ok (.ireturn, 1) := by decide +kernel
theorem dX2_contactLength_27 : decode cX2_contactLength 27 = .ok (.iinc 4 1, 3) := by decide +kernel
theorem dX2_contactLength_30 : decode cX2_contactLength 30 = .ok (.goto (-27), 3) := by decide +kernel
theorem dX2_contactLength_33 : decode cX2_contactLength 33 = .ok (.sipush 360, 3) := by decide +kernel
theorem dX2_contactLength_36 : decode cX2_contactLength 36 = .ok (.ireturn, 1) := by decide +kernel
theorem dX3_init_0 : decode cX3_init 0 = .ok (.aload_n 0, 1) := by decide +kernel
theorem dX3_init_1 : decode cX3_init 1 = .ok (.invokespecial 3, 3) := by decide +kernel
theorem dX3_init_4 : decode cX3_init 4 = .ok (.aload_n 0, 1) := by decide +kernel
theorem dX3_init_5 : decode cX3_init 5 = .ok (.iconst (-1), 1) := by decide +kernel
theorem dX3_init_6 : decode cX3_init 6 = .ok (.putfield 9, 3) := by decide +kernel
theorem dX3_init_9 : decode cX3_init 9 = .ok (.aload_n 0, 1) := by decide +kernel
theorem dX3_init_10 : decode cX3_init 10 = .ok (.iconst 0, 1) := by decide +kernel
theorem dX3_init_11 : decode cX3_init 11 = .ok (.putfield 15, 3) := by decide +kernel
theorem dX3_init_14 : decode cX3_init 14 = .ok (.aload_n 0, 1) := by decide +kernel
theorem dX3_init_15 : decode cX3_init 15 = .ok (.aload_n 1, 1) := by decide +kernel
theorem dX3_init_16 : decode cX3_init 16 = .ok (.putfield 18, 3) := by decide +kernel
theorem dX3_init_19 : decode cX3_init 19 = .ok (.return_, 1) := by decide +kernel
theorem dX4_init_0 : decode cX4_init 0 = .ok (.aload_n 0, 1) := by decide +kernel
theorem dX4_init_1 : decode cX4_init 1 = .ok (.invokespecial 3, 3) := by decide +kernel
theorem dX4_init_4 : decode cX4_init 4 = .ok (.aload_n 0, 1) := by decide +kernel
theorem dX4_init_5 : decode cX4_init 5 = .ok (.bipush 10, 2) := by decide +kernel
theorem dX4_init_7 : decode cX4_init 7 = .ok (.sipush 360, 3) := by decide +kernel
theorem dX4_init_10 : decode cX4_init 10 = .ok (.multianewarray 9 2, 4) := by decide +kernel
theorem dX4_init_14 : decode cX4_init 14 = .ok (.putfield 11, 3) := by decide +kernel
theorem dX4_init_17 : decode cX4_init 17 = .ok (.aload_n 0, 1) := by decide +kernel
theorem dX4_init_18 : decode cX4_init 18 = .ok (.bipush 10, 2) := by decide +kernel
theorem dX4_init_20 : decode cX4_init 20 = .ok (.newarray .int, 2) := by decide +kernel
theorem dX4_init_22 : decode cX4_init 22 = .ok (.putfield 16, 3) := by decide +kernel
theorem dX4_init_25 : decode cX4_init 25 = .ok (.aload_n 0, 1) := by decide +kernel
theorem dX4_init_26 : decode cX4_init 26 = .ok (.bipush 10, 2) := by decide +kernel
theorem dX4_init_28 : decode cX4_init 28 = .ok (.newarray .int, 2) := by decide +kernel
theorem dX4_init_30 : decode cX4_init 30 = .ok (.putfield 20, 3) := by decide +kernel
theorem dX4_init_33 : decode cX4_init 33 = .ok (.aload_n 0, 1) := by decide +kernel
theorem dX4_init_34 : decode cX4_init 34 = .ok (.iconst 0, 1) := by decide +kernel
theorem dX4_init_35 : decode cX4_init 35 = .ok (.putfield 23, 3) := by decide +kernel
theorem dX4_init_38 : decode cX4_init 38 = .ok (.aload_n 0, 1) := by decide +kernel
theorem dX4_init_39 : decode cX4_init 39 = .ok (.aload_n 1, 1) := by decide +kernel
theorem dX4_init_40 : decode cX4_init 40 = .ok (.putfield 27, 3) := by decide +kernel
theorem dX4_init_43 : decode cX4_init 43 = .ok (.aload_n 0, 1) := by decide +kernel
theorem dX4_init_44 : decode cX4_init 44 = .ok (.iload_n 2, 1) := by decide +kernel
theorem dX4_init_45 : decode cX4_init 45 = .ok (.putfield 31, 3) := by decide +kernel
theorem dX4_init_48 : decode cX4_init 48 = .ok (.return_, 1) := by decide +kernel
set_option maxRecDepth 20000 in
theorem ggX4_nextNode_X4_reckon : GoodIn wsX4_nextNode wsX4_reckon := goodIn_r _ [8, 9, 2, 1, 10, 11, 12, 13, 14, 15, 16, 7, 17, 18, 19, 20, 21, 22, 23, 24, 25, 26, 27, 28, 29, 30, 31, 32, 33, 3, 39, 40, 41, 42, 43, 44, 45, 46, 47, 48, 49] (by decide +kernel) (by decide +kernel)
set_option maxRecDepth 20000 in
theorem gX4_nextNode_X4_reckon : GoodIn wsX4_nextNode (wsV RX4 39 RX4 yX4_reckon wsX4_reckon) := goodIn_app (goodIn_of _ (by decide +kernel)) ggX4_nextNode_X4_reckon
set_option maxRecDepth 20000 in
theorem ggX4_nextNode_X2_inContact : GoodIn wsX4_nextNode wsX2_inContact := goodIn_r _ [37, 38, 21, 22, 23, 24, 25, 45, 46, 47, 48, 49] (by decide +kernel) (by decide +kernel)
set_option maxRecDepth 20000 in
theorem gX4_nextNode_X2_inContact : GoodIn wsX4_nextNode (wsV RX4 42 RX2 yX2_inContact wsX2_inContact) := goodIn_app (goodIn_of _ (by decide +kernel)) ggX4_nextNode_X2_inContact
theorem dX4_nextNode_0 : decode cX4_nextNode 0 = .ok (.aload_n 0, 1) := by decide +kernel
theorem dX4_nextNode_1 : decode cX4_nextNode 1 = .ok (.getfield 23, 3) := by decide +kernel
theorem dX4_nextNode_4 : decode cX4_nextNode 4 = .ok (.aload_n 0, 1) := by decide +kernel
theorem dX4_nextNode_5 : decode cX4_nextNode 5 = .ok (.getfield 27, 3) := by decide +kernel
theorem dX4_nextNode_8 : decode cX4_nextNode 8 = .ok (.getfield 34, 3) := by decide +kernel
theorem dX4_nextNode_11 : decode cX4_nextNode 11 = .ok (.if_icmp .eq 7, 3) := by decide +kernel
theorem dX4_nextNode_14 : decode cX4_nextNode 14 = .ok (.aload_n 0, 1) := by decide +kernel
theorem dX4_nextNode_15 : decode cX4_nextNode 15 = .ok (.invokevirtual 39, 3) := by decide +kernel
theorem dX4_nextNode_18 : decode cX4_nextNode 18 = .ok (.aload_n 0, 1) := by decide +kernel
theorem dX4_nextNode_19 : decode cX4_nextNode 19 = .ok (.getfield 11, 3) := by decide +kernel
theorem dX4_nextNode_22 : decode cX4_nextNode 22 = .ok (.iload_n 1, 1) := by decide +kernel
theorem dX4_nextNode_23 : decode cX4_nextNode 23 = .ok (.aaload, 1) := by decide +kernel
theorem dX4_nextNode_24 : decode cX4_nextNode 24 = .ok (.iload_n 2, 1) := by decide +kernel
theorem dX4_nextNode_25 : decode cX4_nextNode 25 = .ok (.sipush 360, 3) := by decide +kernel
theorem dX4_nextNode_28 : decode cX4_nextNode 28 = .ok (.irem, 1) := by decide +kernel
theorem dX4_nextNode_29 : decode cX4_nextNode 29 = .ok (.iaload, 1) := by decide +kernel
theorem dX4_nextNode_30 : decode cX4_nextNode 30 = .ok (.istore_n 3, 1) := by decide +kernel
theorem dX4_nextNode_31 : decode cX4_nextNode 31 = .ok (.iload_n 2, 1) := by decide +kernel
theorem dX4_nextNode_32 : decode cX4_nextNode 32 = .ok (.iconst 1, 1) := by decide +kernel
theorem dX4_nextNode_33 : decode cX4_nextNode 33 = .ok (.iadd, 1) := by decide +kernel
theorem dX4_nextNode_34 : decode cX4_nextNode 34 = .ok (.sipush 360, 3) := by decide +kernel
theorem dX4_nextNode_37 : decode cX4_nextNode 37 = .ok (.irem, 1) := by decide +kernel
theorem dX4_nextNode_38 : decode cX4_nextNode 38 = .ok (.istore 4, 2) := by decide +kernel
theorem dX4_nextNode_40 : decode cX4_nextNode 40 = .ok (.iload_n 3, 1) := by decide +kernel
theorem dX4_nextNode_41 : decode cX4_nextNode 41 = .ok (.iconst 1, 1) := by decide +kernel
theorem dX4_nextNode_42 : decode cX4_nextNode 42 = .ok (.if_icmp .lt 18, 3) := by decide +kernel
theorem dX4_nextNode_45 : decode cX4_nextNode 45 = .ok (.aload_n 0, 1) := by decide +kernel
theorem dX4_nextNode_46 : decode cX4_nextNode 46 = .ok (.getfield 11, 3) := by decide +kernel
theorem dX4_nextNode_49 : decode cX4_nextNode 49 = .ok (.iload_n 1, 1) := by decide +kernel
theorem dX4_nextNode_50 : decode cX4_nextNode 50 = .ok (.aaload, 1) := by decide +kernel
theorem dX4_nextNode_51 : decode cX4_nextNode 51 = .ok (.iload 4, 2) := by decide +kernel
theorem dX4_nextNode_53 : decode cX4_nextNode 53 = .ok (.iaload, 1) := by decide +kernel
theorem dX4_nextNode_54 : decode cX4_nextNode 54 = .ok (.iload_n 3, 1) := by decide +kernel
theorem dX4_nextNode_55 : decode cX4_nextNode 55 = .ok (.iconst 1, 1) := by decide +kernel
theorem dX4_nextNode_56 : decode cX4_nextNode 56 = .ok (.isub, 1) := by decide +kernel
theorem dX4_nextNode_57 : decode cX4_nextNode 57 = .ok (.if_icmp .ne 5, 3) := by decide +kernel
theorem dX4_nextNode_60 : decode cX4_nextNode 60 = .ok (.iconst (-1), 1) := by decide +kernel
theorem dX4_nextNode_61 : decode cX4_nextNode 61 = .ok (.ireturn, 1) := by decide +kernel
theorem dX4_nextNode_62 : decode cX4_nextNode 62 = .ok (.iconst 0, 1) := by decide +kernel
theorem dX4_nextNode_63 : decode cX4_nextNode 63 = .ok (.istore 5, 2) := by decide +kernel
theorem dX4_nextNode_65 : decode cX4_nextNode 65 = .ok (.iload 5, 2) := by decide +kernel
theorem dX4_nextNode_67 : decode cX4_nextNode 67 = .ok (.aload_n 0, 1) := by decide +kernel
theorem dX4_nextNode_68 : decode cX4_nextNode 68 = .ok (.getfield 27, 3) := by decide +kernel
theorem dX4_nextNode_71 : decode cX4_nextNode 71 = .ok (.getfield 34, 3) := by decide +kernel
theorem dX4_nextNode_74 : decode cX4_nextNode 74 = .ok (.if_icmp .ge 42, 3) := by decide +kernel
theorem dX4_nextNode_77 : decode cX4_nextNode 77 = .ok (.aload_n 0, 1) := by decide +kernel
theorem dX4_nextNode_78 : decode cX4_nextNode 78 = .ok (.getfield 27, 3) := by decide +kernel
theorem dX4_nextNode_81 : decode cX4_nextNode 81 = .ok (.iload_n 1, 1) := by decide +kernel
theorem dX4_nextNode_82 : decode cX4_nextNode 82 = .ok (.iload 5, 2) := by decide +kernel
theorem dX4_nextNode_84 : decode cX4_nextNode 84 = .ok (.iload_n 2, 1) := by decide +kernel
theorem dX4_nextNode_85 : decode cX4_nextNode 85 = .ok (.invokevirtual 42, 3) := by decide +kernel
theorem dX4_nextNode_88 : decode cX4_nextNode 88 = .ok (.ifCond .eq 22, 3) := by decide +kernel
theorem dX4_nextNode_91 : decode cX4_nextNode 91 = .ok (.aload_n 0, 1) := by decide +kernel
theorem dX4_nextNode_92 : decode cX4_nextNode 92 = .ok (.getfield 11, 3) := by decide +kernel
theorem dX4_nextNode_95 : decode cX4_nextNode 95 = .ok (.iload 5, 2) := by decide +kernel
theorem dX4_nextNode_97 : decode cX4_nextNode 97 = .ok (.aaload, 1) := by decide +kernel
theorem dX4_nextNode_98 : decode cX4_nextNode 98 = .ok (.iload 4, 2) := by decide +kernel
theorem dX4_nextNode_100 : decode cX4_nextNode 100 = .ok (.iaload, 1) := by decide +kernel
theorem dX4_nextNode_101 : decode cX4_nextNode 101 = .ok (.iload_n 3, 1) := by decide +kernel
theorem dX4_nextNode_102 : decode cX4_nextNode 102 = .ok (.iconst 1, 1) := by decide +kernel
theorem dX4_nextNode_103 : decode cX4_nextNode 103 = .ok (.isub, 1) := by decide +kernel
theorem dX4_nextNode_104 : decode cX4_nextNode 104 = .ok (.if_icmp .ne 6, 3) := by decide +kernel
theorem dX4_nextNode_107 : decode cX4_nextNode 107 = .ok (.iload 5, 2) := by decide +kernel
theorem dX4_nextNode_109 : decode cX4_nextNode 109 = .ok (.ireturn, 1) := by decide +kernel
theorem dX4_nextNode_110 : decode cX4_nextNode 110 = .ok (.iinc 5 1, 3) := by decide +kernel
theorem dX4_nextNode_113 : decode cX4_nextNode 113 = .ok (.goto (-48), 3) := by decide +kernel
theorem dX4_nextNode_116 : decode cX4_nextNode 116 = .ok (.iconst (-1), 1) := by decide +kernel
theorem dX4_nextNode_117 : decode cX4_nextNode 117 = .ok (.ireturn, 1) := by decide +kernel
set_option maxRecDepth 20000 in
theorem ggX4_reckon_J7_fill_53178 : GoodIn wsX4_reckon wsJ7_fill_53178 := goodIn_r _ [7] (by decide +kernel) (by decide +kernel)
set_option maxRecDepth 20000 in
theorem gX4_reckon_J7_fill_53178 : GoodIn wsX4_reckon (va_wsS RX4 46 yJ7_fill_53178 wsJ7_fill_53178) := goodIn_app (goodIn_of _ (by decide +kernel)) ggX4_reckon_J7_fill_53178
set_option maxRecDepth 20000 in
theorem ggX4_reckon_X4_stepBack : GoodIn wsX4_reckon wsX4_stepBack := goodIn_r _ [12, 2, 13, 14, 1, 15, 16, 17, 18, 19, 20, 21, 22, 23, 11, 24, 30, 31, 32, 33, 34, 35, 36, 37, 38, 39, 40] (by decide +kernel) (by decide +kernel)
set_option maxRecDepth 20000 in
theorem gX4_reckon_X4_stepBack : GoodIn wsX4_reckon (wsV RX4 52 RX4 yX4_stepBack wsX4_stepBack) := goodIn_app (goodIn_of _ (by decide +kernel)) ggX4_reckon_X4_stepBack
set_option maxRecDepth 20000 in
theorem ggX4_reckon_X4_writeDown : GoodIn wsX4_reckon wsX4_writeDown := goodIn_r _ [28, 2, 1, 29, 30, 31, 32, 33, 34, 35, 36, 37, 38, 39, 40] (by decide +kernel) (by decide +kernel)
set_option maxRecDepth 20000 in
theorem gX4_reckon_X4_writeDown : GoodIn wsX4_reckon (wsV RX4 56 RX4 yX4_writeDown wsX4_writeDown) := goodIn_app (goodIn_of _ (by decide +kernel)) ggX4_reckon_X4_writeDown
theorem dX4_reckon_0 : decode cX4_reckon 0 = .ok (.sipush 760, 3) := by decide +kernel
theorem dX4_reckon_3 : decode cX4_reckon 3 = .ok (.istore_n 1, 1) := by decide +kernel
theorem dX4_reckon_4 : decode cX4_reckon 4 = .ok (.aload_n 0, 1) := by decide +kernel
theorem dX4_reckon_5 : decode cX4_reckon 5 = .ok (.getfield 16, 3) := by decide +kernel
theorem dX4_reckon_8 : decode cX4_reckon 8 = .ok (.iload_n 1, 1) := by decide +kernel
theorem dX4_reckon_9 : decode cX4_reckon 9 = .ok (.invokestatic 46, 3) := by decide +kernel
theorem dX4_reckon_12 : decode cX4_reckon 12 = .ok (.iload_n 1, 1) := by decide +kernel
theorem dX4_reckon_13 : decode cX4_reckon 13 = .ok (.iconst 1, 1) := by decide +kernel
theorem dX4_reckon_14 : decode cX4_reckon 14 = .ok (.isub, 1) := by decide +kernel
theorem dX4_reckon_15 : decode cX4_reckon 15 = .ok (.istore_n 2, 1) := by decide +kernel
theorem dX4_reckon_16 : decode cX4_reckon 16 = .ok (.iload_n 2, 1) := by decide +kernel
theorem dX4_reckon_17 : decode cX4_reckon 17 = .ok (.ifCond .lt 26, 3) := by decide +kernel
theorem dX4_reckon_20 : decode cX4_reckon 20 = .ok (.aload_n 0, 1) := by decide +kernel
theorem dX4_reckon_21 : decode cX4_reckon 21 = .ok (.iload_n 2, 1) := by decide +kernel
theorem dX4_reckon_22 : decode cX4_reckon 22 = .ok (.invokevirtual 52, 3) := by decide +kernel
theorem dX4_reckon_25 : decode cX4_reckon 25 = .ok (.iload_n 2, 1) := by decide +kernel
theorem dX4_reckon_26 : decode cX4_reckon 26 = .ok (.sipush 360, 3) := by decide +kernel
theorem dX4_reckon_29 : decode cX4_reckon 29 = .ok (.if_icmp .ge 8, 3) := by decide +kernel
theorem dX4_reckon_32 : decode cX4_reckon 32 = .ok (.aload_n 0, 1) := by decide +kernel
theorem dX4_reckon_33 : decode cX4_reckon 33 = .ok (.iload_n 2, 1) := by decide +kernel
theorem dX4_reckon_34 : decode cX4_reckon 34 = .ok (.invokevirtual 56, 3) := by decide +kernel
theorem dX4_reckon_37 : decode cX4_reckon 37 = .ok (.iinc 2 (-1), 3) := by decide +kernel
theorem dX4_reckon_40 : decode cX4_reckon 40 = .ok (.goto (-24), 3) := by decide +kernel
theorem dX4_reckon_43 : decode cX4_reckon 43 = .ok (.aload_n 0, 1) := by decide +kernel
theorem dX4_reckon_44 : decode cX4_reckon 44 = .ok (.aload_n 0, 1) := by decide +kernel
theorem dX4_reckon_45 : decode cX4_reckon 45 = .ok (.getfield 27, 3) := by decide +kernel
theorem dX4_reckon_48 : decode cX4_reckon 48 = .ok (.getfield 34, 3) := by decide +kernel
theorem dX4_reckon_51 : decode cX4_reckon 51 = .ok (.putfield 23, 3) := by decide +kernel
theorem dX4_reckon_54 : decode cX4_reckon 54 = .ok (.return_, 1) := by decide +kernel
set_option maxRecDepth 20000 in
theorem ggX4_stepBack_X2_seenFrom : GoodIn wsX4_stepBack wsX2_seenFrom := goodIn_r _ [9, 10, 22, 23, 24, 25, 26] (by decide +kernel) (by decide +kernel)
set_option maxRecDepth 20000 in
theorem gX4_stepBack_X2_seenFrom : GoodIn wsX4_stepBack (wsV RX4 59 RX2 yX2_seenFrom wsX2_seenFrom) := goodIn_app (goodIn_of _ (by decide +kernel)) ggX4_stepBack_X2_seenFrom
set_option maxRecDepth 20000 in
theorem ggX4_stepBack_X4_soonestThrough : GoodIn wsX4_stepBack wsX4_soonestThrough := goodIn_r _ [15, 4, 1, 16, 17, 18, 19, 20, 21, 22, 23, 24, 25, 26] (by decide +kernel) (by decide +kernel)
set_option maxRecDepth 20000 in
theorem gX4_stepBack_X4_soonestThrough : GoodIn wsX4_stepBack (wsV RX4 63 RX4 yX4_soonestThrough wsX4_soonestThrough) := goodIn_app (goodIn_of _ (by decide +kernel)) ggX4_stepBack_X4_soonestThrough
theorem dX4_stepBack_0 : decode cX4_stepBack 0 = .ok (.iconst 0, 1) := by decide +kernel
theorem dX4_stepBack_1 : decode cX4_stepBack 1 = .ok (.istore_n 2, 1) := by decide +kernel
theorem dX4_stepBack_2 : decode cX4_stepBack 2 = .ok (.iload_n 2, 1) := by decide +kernel
theorem dX4_stepBack_3 : decode cX4_stepBack 3 = .ok (.aload_n 0, 1) := by decide +kernel
theorem dX4_stepBack_4 : decode cX4_stepBack 4 = .ok (.getfield 27, 3) := by decide +kernel
theorem dX4_stepBack_7 : decode cX4_stepBack 7 = .ok (.getfield 34, 3) := by decide +kernel
theorem dX4_stepBack_10 : decode cX4_stepBack 10 = .ok (.if_icmp .ge 43, 3) := by decide +kernel
theorem dX4_stepBack_13 : decode cX4_stepBack 13 = .ok (.aload_n 0, 1) := by decide +kernel
theorem dX4_stepBack_14 : decode cX4_stepBack 14 = .ok (.getfield 27, 3) := by decide +kernel
theorem dX4_stepBack_17 : decode cX4_stepBack 17 = .ok (.iload_n 2, 1) := by decide +kernel
theorem dX4_stepBack_18 : decode cX4_stepBack 18 = .ok (.iload_n 1, 1) := by decide +kernel
theorem dX4_stepBack_19 : decode cX4_stepBack 19 = .ok (.invokevirtual 59, 3) := by decide +kernel
theorem dX4_stepBack_22 : decode cX4_stepBack 22 = .ok (.istore_n 3, 1) := by decide +kernel
theorem dX4_stepBack_23 : decode cX4_stepBack 23 = .ok (.aload_n 0, 1) := by decide +kernel
theorem dX4_stepBack_24 : decode cX4_stepBack 24 = .ok (.getfield 20, 3) := by decide +kernel
theorem dX4_stepBack_27 : decode cX4_stepBack 27 = .ok (.iload_n 2, 1) := by decide +kernel
theorem dX4_stepBack_28 : decode cX4_stepBack 28 = .ok (.iload_n 2, 1) := by decide +kernel
theorem dX4_stepBack_29 : decode cX4_stepBack 29 = .ok (.aload_n 0, 1) := by decide +kernel
theorem dX4_stepBack_30 : decode cX4_stepBack 30 = .ok (.getfield 31, 3) := by decide +kernel
theorem dX4_stepBack_33 : decode cX4_stepBack 33 = .ok (.if_icmp .ne 7, 3) := by decide +kernel
theorem dX4_stepBack_36 : decode cX4_stepBack 36 = .ok (.iload_n 1, 1) := by decide +kernel
theorem dX4_stepBack_37 : decode cX4_stepBack 37 = .ok (.goto 9, 3) := by decide +kernel
theorem dX4_stepBack_40 : decode cX4_stepBack 40 = .ok (.aload_n 0, 1) := by decide +kernel
theorem dX4_stepBack_41 : decode cX4_stepBack 41 = .ok (.iload_n 2, 1) := by decide +kernel
theorem dX4_stepBack_42 : decode cX4_stepBack 42 = .ok (.iload_n 3, 1) := by decide +kernel
theorem dX4_stepBack_43 : decode cX4_stepBack 43 = .ok (.invokevirtual 63, 3) := by decide +kernel
theorem dX4_stepBack_46 : decode cX4_stepBack 46 = .ok (.iastore, 1) := by decide +kernel
theorem dX4_stepBack_47 : decode cX4_stepBack 47 = .ok (.iinc 2 1, 3) := by decide +kernel
theorem dX4_stepBack_50 : decode cX4_stepBack 50 = .ok (.goto (-48), 3) := by decide +kernel
theorem dX4_stepBack_53 : decode cX4_stepBack 53 = .ok (.aload_n 0, 1) := by decide +kernel
theorem dX4_stepBack_54 : decode cX4_stepBack 54 = .ok (.getfield 16, 3) := by decide +kernel
theorem dX4_stepBack_57 : decode cX4_stepBack 57 = .ok (.astore_n 2, 1) := by decide +kernel
theorem dX4_stepBack_58 : decode cX4_stepBack 58 = .ok (.aload_n 0, 1) := by decide +kernel
theorem dX4_stepBack_59 : decode cX4_stepBack 59 = .ok (.aload_n 0, 1) := by decide +kernel
theorem dX4_stepBack_60 : decode cX4_stepBack 60 = .ok (.getfield 20, 3) := by decide +kernel
theorem dX4_stepBack_63 : decode cX4_stepBack 63 = .ok (.putfield 16, 3) := by decide +kernel
theorem dX4_stepBack_66 : decode cX4_stepBack 66 = .ok (.aload_n 0, 1) := by decide +kernel
theorem dX4_stepBack_67 : decode cX4_stepBack 67 = .ok (.aload_n 2, 1) := by decide +kernel
theorem dX4_stepBack_68 : decode cX4_stepBack 68 = .ok (.putfield 20, 3) := by decide +kernel
theorem dX4_stepBack_71 : decode cX4_stepBack 71 = .ok (.return_, 1) := by decide +kernel
theorem dX4_soonestThrough_0 : decode cX4_soonestThrough 0 = .ok (.aload_n 0, 1) := by decide +kernel
theorem dX4_soonestThrough_1 : decode cX4_soonestThrough 1 = .ok (.getfield 16, 3) := by decide +kernel
theorem dX4_soonestThrough_4 : decode cX4_soonestThrough 4 = .ok (.iload_n 1, 1) := by decide +kernel
theorem dX4_soonestThrough_5 : decode cX4_soonestThrough 5 = .ok (.iaload, 1) := by decide +kernel
theorem dX4_soonestThrough_6 : decode cX4_soonestThrough 6 = .ok (.istore_n 3, 1) := by decide +kernel
theorem dX4_soonestThrough_7 : decode cX4_soonestThrough 7 = .ok (.iconst 0, 1) := by decide +kernel
theorem dX4_soonestThrough_8 : decode cX4_soonestThrough 8 = .ok (.istore 4, 2) := by decide +kernel
theorem dX4_soonestThrough_10 : decode cX4_soonestThrough 10 = .ok (.iload 4, 2) := by decide +kernel
theorem dX4_soonestThrough_12 : decode cX4_soonestThrough 12 = .ok (.aload_n 0, 1) := by decide +kernel
theorem dX4_soonestThrough_13 : decode cX4_soonestThrough 13 = .ok (.getfield 27, 3) := by decide +kernel
theorem dX4_soonestThrough_16 : decode cX4_soonestThrough 16 = .ok (.getfield 34, 3) := by decide +kernel
theorem dX4_soonestThrough_19 : decode cX4_soonestThrough 19 = .ok (.if_icmp .ge 37, 3) := by decide +kernel
theorem dX4_soonestThrough_22 : decode cX4_soonestThrough 22 = .ok (.iload_n 2, 1) := by decide +kernel
theorem dX4_soonestThrough_23 : decode cX4_soonestThrough 23 = .ok (.iload 4, 2) := by decide +kernel
theorem dX4_soonestThrough_25 : decode cX4_soonestThrough 25 = .ok (.ishr, 1) := by decide +kernel
theorem dX4_soonestThrough_26 : decode cX4_soonestThrough 26 = .ok (.iconst 1, 1) := by decide +kernel
theorem dX4_soonestThrough_27 : decode cX4_soonestThrough 27 = .ok (.iand, 1) := by decide +kernel
theorem dX4_soonestThrough_28 : decode cX4_soonestThrough 28 = .ok (.ifCond .eq 22, 3) := by decide +kernel
theorem dX4_soonestThrough_31 : decode cX4_soonestThrough 31 = .ok (.aload_n 0, 1) := by decide +kernel
theorem dX4_soonestThrough_32 : decode cX4_soonestThrough 32 = .ok (.getfield 16, 3) := by decide +kernel
theorem dX4_soonestThrough_35 : decode cX4_soonestThrough 35 = .ok (.iload 4, 2) := by decide +kernel
theorem dX4_soonestThrough_37 : decode cX4_soonestThrough 37 = .ok (.iaload, 1) := by decide +kernel
theorem dX4_soonestThrough_38 : decode cX4_soonestThrough 38 = .ok (.iload_n 3, 1) := by decide +kernel
theorem dX4_soonestThrough_39 : decode cX4_soonestThrough 39 = .ok (.if_icmp .ge 11, 3) := by decide +kernel
theorem dX4_soonestThrough_42 : decode cX4_soonestThrough 42 = .ok (.aload_n 0, 1) := by decide +kernel
theorem dX4_soonestThrough_43 : decode cX4_soonestThrough 43 = .ok (.getfield 16, 3) := by decide +kernel
theorem dX4_soonestThrough_46 : decode cX4_soonestThrough 46 = .ok (.iload 4, 2) := by decide +kernel
theorem dX4_soonestThrough_48 : decode cX4_soonestThrough 48 = .ok (.iaload, 1) := by decide +kernel
theorem dX4_soonestThrough_49 : decode cX4_soonestThrough 49 = .ok (.istore_n 3, 1) := by decide +kernel
theorem dX4_soonestThrough_50 : decode cX4_soonestThrough 50 = .ok (.iinc 4 1, 3) := by decide +kernel
theorem dX4_soonestThrough_53 : decode cX4_soonestThrough 53 = .ok (.goto (-43), 3) := by decide +kernel
theorem dX4_soonestThrough_56 : decode cX4_soonestThrough 56 = .ok (.iload_n 3, 1) := by decide +kernel
theorem dX4_soonestThrough_57 : decode cX4_soonestThrough 57 = .ok (.ireturn, 1) := by decide +kernel
theorem dX4_writeDown_0 : decode cX4_writeDown 0 = .ok (.iconst 0, 1) := by decide +kernel
theorem dX4_writeDown_1 : decode cX4_writeDown 1 = .ok (.istore_n 2, 1) := by decide +kernel
theorem dX4_writeDown_2 : decode cX4_writeDown 2 = .ok (.iload_n 2, 1) := by decide +kernel
theorem dX4_writeDown_3 : decode cX4_writeDown 3 = .ok (.aload_n 0, 1) := by decide +kernel
theorem dX4_writeDown_4 : decode cX4_writeDown 4 = .ok (.getfield 27, 3) := by decide +kernel
theorem dX4_writeDown_7 : decode cX4_writeDown 7 = .ok (.getfield 34, 3) := by decide +kernel
theorem dX4_writeDown_10 : decode cX4_writeDown 10 = .ok (.if_icmp .ge 38, 3) := by decide +kernel
theorem dX4_writeDown_13 : decode cX4_writeDown 13 = .ok (.aload_n 0, 1) := by decide +kernel
theorem dX4_writeDown_14 : decode cX4_writeDown 14 = .ok (.getfield 16, 3) := by decide +kernel
theorem dX4_writeDown_17 : decode cX4_writeDown 17 = .ok (.iload_n 2, 1) := by decide +kernel
theorem dX4_writeDown_18 : decode cX4_writeDown 18 = .ok (.iaload, 1) := by decide +kernel
theorem dX4_writeDown_19 : decode cX4_writeDown 19 = .ok (.iload_n 1, 1) := by decide +kernel
theorem dX4_writeDown_20 : decode cX4_writeDown 20 = .ok (.isub, 1) := by decide +kernel
theorem dX4_writeDown_21 : decode cX4_writeDown 21 = .ok (.istore_n 3, 1) := by decide +kernel
theorem dX4_writeDown_22 : decode cX4_writeDown 22 = .ok (.aload_n 0, 1) := by decide +kernel
theorem dX4_writeDown_23 : decode cX4_writeDown 23 = .ok (.getfield 11, 3) := by decide +kernel
theorem dX4_writeDown_26 : decode cX4_writeDown 26 = .ok (.iload_n 2, 1) := by decide +kernel
theorem dX4_writeDown_27 : decode cX4_writeDown 27 = .ok (.aaload, 1) := by decide +kernel
theorem dX4_writeDown_28 : decode cX4_writeDown 28 = .ok (.iload_n 1, 1) := by decide +kernel
theorem dX4_writeDown_29 : decode cX4_writeDown 29 = .ok (.iload_n 3, 1) := by decide +kernel
theorem dX4_writeDown_30 : decode cX4_writeDown 30 = .ok (.sipush 400, 3) := by decide +kernel
theorem dX4_writeDown_33 : decode cX4_writeDown 33 = .ok (.if_icmp .gt 7, 3) := by decide +kernel
theorem dX4_writeDown_36 : decode cX4_writeDown 36 = .ok (.iload_n 3, 1) := by decide +kernel
theorem dX4_writeDown_37 : decode cX4_writeDown 37 = .ok (.goto 4, 3) := by decide +kernel
theorem dX4_writeDown_40 : decode cX4_writeDown 40 = .ok (.iconst (-1), 1) := by decide +kernel
theorem dX4_writeDown_41 : decode cX4_writeDown 41 = .ok (.iastore, 1) := by decide +kernel
theorem dX4_writeDown_42 : decode cX4_writeDown 42 = .ok (.iinc 2 1, 3) := by decide +kernel
theorem dX4_writeDown_45 : decode cX4_writeDown 45 = .ok (.goto (-43), 3) := by decide +kernel
theorem dX4_writeDown_48 : decode cX4_writeDown 48 = .ok (.return_, 1) := by decide +kernel
theorem dJ6_bitCount_0f7a4_0 : decode cJ6_bitCount_0f7a4 0 = .ok (.iload_n 0, 1) := by decide +kernel
theorem dJ6_bitCount_0f7a4_1 : decode cJ6_bitCount_0f7a4 1 = .ok (.iload_n 0, 1) := by decide +kernel
theorem dJ6_bitCount_0f7a4_2 : decode cJ6_bitCount_0f7a4 2 = .ok (.iconst 1, 1) := by decide +kernel
theorem dJ6_bitCount_0f7a4_3 : decode cJ6_bitCount_0f7a4 3 = .ok (.iushr, 1) := by decide +kernel
theorem dJ6_bitCount_0f7a4_4 : decode cJ6_bitCount_0f7a4 4 = .ok (.ldc_w 265, 3) := by decide +kernel
theorem dJ6_bitCount_0f7a4_7 : decode cJ6_bitCount_0f7a4 7 = .ok (.iand, 1) := by decide +kernel
theorem dJ6_bitCount_0f7a4_8 : decode cJ6_bitCount_0f7a4 8 = .ok (.isub, 1) := by decide +kernel
theorem dJ6_bitCount_0f7a4_9 : decode cJ6_bitCount_0f7a4 9 = .ok (.istore_n 0, 1) := by decide +kernel
theorem dJ6_bitCount_0f7a4_10 : decode cJ6_bitCount_0f7a4 10 = .ok (.iload_n 0, 1) := by decide +kernel
theorem dJ6_bitCount_0f7a4_11 : decode cJ6_bitCount_0f7a4 11 = .ok (.ldc_w 266, 3) := by decide +kernel
theorem dJ6_bitCount_0f7a4_14 : decode cJ6_bitCount_0f7a4 14 = .ok (.iand, 1) := by decide +kernel
theorem dJ6_bitCount_0f7a4_15 : decode cJ6_bitCount_0f7a4 15 = .ok (.iload_n 0, 1) := by decide +kernel
theorem dJ6_bitCount_0f7a4_16 : decode cJ6_bitCount_0f7a4 16 = .ok (.iconst 2, 1) := by decide +kernel
theorem dJ6_bitCount_0f7a4_17 : decode cJ6_bitCount_0f7a4 17 = .ok (.iushr, 1) := by decide +kernel
theorem dJ6_bitCount_0f7a4_18 : decode cJ6_bitCount_0f7a4 18 = .ok (.ldc_w 266, 3) := by decide +kernel
theorem dJ6_bitCount_0f7a4_21 : decode cJ6_bitCount_0f7a4 21 = .ok (.iand, 1) := by decide +kernel
theorem dJ6_bitCount_0f7a4_22 : decode cJ6_bitCount_0f7a4 22 = .ok (.iadd, 1) := by decide +kernel
theorem dJ6_bitCount_0f7a4_23 : decode cJ6_bitCount_0f7a4 23 = .ok (.istore_n 0, 1) := by decide +kernel
theorem dJ6_bitCount_0f7a4_24 : decode cJ6_bitCount_0f7a4 24 = .ok (.iload_n 0, 1) := by decide +kernel
theorem dJ6_bitCount_0f7a4_25 : decode cJ6_bitCount_0f7a4 25 = .ok (.iload_n 0, 1) := by decide +kernel
theorem dJ6_bitCount_0f7a4_26 : decode cJ6_bitCount_0f7a4 26 = .ok (.iconst 4, 1) := by decide +kernel
theorem dJ6_bitCount_0f7a4_27 : decode cJ6_bitCount_0f7a4 27 = .ok (.iushr, 1) := by decide +kernel
theorem dJ6_bitCount_0f7a4_28 : decode cJ6_bitCount_0f7a4 28 = .ok (.iadd, 1) := by decide +kernel
theorem dJ6_bitCount_0f7a4_29 : decode cJ6_bitCount_0f7a4 29 = .ok (.ldc_w 267, 3) := by decide +kernel
theorem dJ6_bitCount_0f7a4_32 : decode cJ6_bitCount_0f7a4 32 = .ok (.iand, 1) := by decide +kernel
theorem dJ6_bitCount_0f7a4_33 : decode cJ6_bitCount_0f7a4 33 = .ok (.istore_n 0, 1) := by decide +kernel
theorem dJ6_bitCount_0f7a4_34 : decode cJ6_bitCount_0f7a4 34 = .ok (.iload_n 0, 1) := by decide +kernel
theorem dJ6_bitCount_0f7a4_35 : decode cJ6_bitCount_0f7a4 35 = .ok (.iload_n 0, 1) := by decide +kernel
theorem dJ6_bitCount_0f7a4_36 : decode cJ6_bitCount_0f7a4 36 = .ok (.bipush 8, 2) := by decide +kernel
theorem dJ6_bitCount_0f7a4_38 : decode cJ6_bitCount_0f7a4 38 = .ok (.iushr, 1) := by decide +kernel
theorem dJ6_bitCount_0f7a4_39 : decode cJ6_bitCount_0f7a4 39 = .ok (.iadd, 1) := by decide +kernel
theorem dJ6_bitCount_0f7a4_40 : decode cJ6_bitCount_0f7a4 40 = .ok (.istore_n 0, 1) := by decide +kernel
theorem dJ6_bitCount_0f7a4_41 : decode cJ6_bitCount_0f7a4 41 = .ok (.iload_n 0, 1) := by decide +kernel
theorem dJ6_bitCount_0f7a4_42 : decode cJ6_bitCount_0f7a4 42 = .ok (.iload_n 0, 1) := by decide +kernel
theorem dJ6_bitCount_0f7a4_43 : decode cJ6_bitCount_0f7a4 43 = .ok (.bipush 16, 2) := by decide +kernel
theorem dJ6_bitCount_0f7a4_45 : decode cJ6_bitCount_0f7a4 45 = .ok (.iushr, 1) := by decide +kernel
theorem dJ6_bitCount_0f7a4_46 : decode cJ6_bitCount_0f7a4 46 = .ok (.iadd, 1) := by decide +kernel
theorem dJ6_bitCount_0f7a4_47 : decode cJ6_bitCount_0f7a4 47 = .ok (.istore_n 0, 1) := by decide +kernel
theorem dJ6_bitCount_0f7a4_48 : decode cJ6_bitCount_0f7a4 48 = .ok (.iload_n 0, 1) := by decide +kernel
theorem dJ6_bitCount_0f7a4_49 : decode cJ6_bitCount_0f7a4 49 = .ok (.bipush 63, 2) := by decide +kernel
theorem dJ6_bitCount_0f7a4_51 : decode cJ6_bitCount_0f7a4 51 = .ok (.iand, 1) := by decide +kernel
theorem dJ6_bitCount_0f7a4_52 : decode cJ6_bitCount_0f7a4 52 = .ok (.ireturn, 1) := by decide +kernel
theorem dJ9_floorMod_7cf53_0 : decode cJ9_floorMod_7cf53 0 = .ok (.iload_n 0, 1) := by decide +kernel
theorem dJ9_floorMod_7cf53_1 : decode cJ9_floorMod_7cf53 1 = .ok (.iload_n 1, 1) := by decide +kernel
theorem dJ9_floorMod_7cf53_2 : decode cJ9_floorMod_7cf53 2 = .ok (.irem, 1) := by decide +kernel
theorem dJ9_floorMod_7cf53_3 : decode cJ9_floorMod_7cf53 3 = .ok (.istore_n 2, 1) := by decide +kernel
theorem dJ9_floorMod_7cf53_4 : decode cJ9_floorMod_7cf53 4 = .ok (.iload_n 0, 1) := by decide +kernel
theorem dJ9_floorMod_7cf53_5 : decode cJ9_floorMod_7cf53 5 = .ok (.iload_n 1, 1) := by decide +kernel
theorem dJ9_floorMod_7cf53_6 : decode cJ9_floorMod_7cf53 6 = .ok (.ixor, 1) := by decide +kernel
theorem dJ9_floorMod_7cf53_7 : decode cJ9_floorMod_7cf53 7 = .ok (.ifCond .ge 11, 3) := by decide +kernel
theorem dJ9_floorMod_7cf53_10 : decode cJ9_floorMod_7cf53 10 = .ok (.iload_n 2, 1) := by decide +kernel
theorem dJ9_floorMod_7cf53_11 : decode cJ9_floorMod_7cf53 11 = .ok (.ifCond .eq 7, 3) := by decide +kernel
theorem dJ9_floorMod_7cf53_14 : decode cJ9_floorMod_7cf53 14 = .ok (.iload_n 2, 1) := by decide +kernel
theorem dJ9_floorMod_7cf53_15 : decode cJ9_floorMod_7cf53 15 = .ok (.iload_n 1, 1) := by decide +kernel
theorem dJ9_floorMod_7cf53_16 : decode cJ9_floorMod_7cf53 16 = .ok (.iadd, 1) := by decide +kernel
theorem dJ9_floorMod_7cf53_17 : decode cJ9_floorMod_7cf53 17 = .ok (.ireturn, 1) := by decide +kernel
theorem dJ9_floorMod_7cf53_18 : decode cJ9_floorMod_7cf53 18 = .ok (.iload_n 2, 1) := by decide +kernel
theorem dJ9_floorMod_7cf53_19 : decode cJ9_floorMod_7cf53 19 = .ok (.ireturn, 1) := by decide +kernel
theorem dJ9_abs_0f7a4_0 : decode cJ9_abs_0f7a4 0 = .ok (.iload_n 0, 1) := by decide +kernel
theorem dJ9_abs_0f7a4_1 : decode cJ9_abs_0f7a4 1 = .ok (.ifCond .ge 8, 3) := by decide +kernel
theorem dJ9_abs_0f7a4_4 : decode cJ9_abs_0f7a4 4 = .ok (.iload_n 0, 1) := by decide +kernel
theorem dJ9_abs_0f7a4_5 : decode cJ9_abs_0f7a4 5 = .ok (.ineg, 1) := by decide +kernel
theorem dJ9_abs_0f7a4_6 : decode cJ9_abs_0f7a4 6 = .ok (.goto 4, 3) := by decide +kernel
theorem dJ9_abs_0f7a4_9 : decode cJ9_abs_0f7a4 9 = .ok (.iload_n 0, 1) := by decide +kernel
theorem dJ9_abs_0f7a4_10 : decode cJ9_abs_0f7a4 10 = .ok (.ireturn, 1) := by decide +kernel
theorem dJ9_min_7cf53_0 : decode cJ9_min_7cf53 0 = .ok (.iload_n 0, 1) := by decide +kernel
theorem dJ9_min_7cf53_1 : decode cJ9_min_7cf53 1 = .ok (.iload_n 1, 1) := by decide +kernel
theorem dJ9_min_7cf53_2 : decode cJ9_min_7cf53 2 = .ok (.if_icmp .gt 7, 3) := by decide +kernel
theorem dJ9_min_7cf53_5 : decode cJ9_min_7cf53 5 = .ok (.iload_n 0, 1) := by decide +kernel
theorem dJ9_min_7cf53_6 : decode cJ9_min_7cf53 6 = .ok (.goto 4, 3) := by decide +kernel
theorem dJ9_min_7cf53_9 : decode cJ9_min_7cf53 9 = .ok (.iload_n 1, 1) := by decide +kernel
theorem dJ9_min_7cf53_10 : decode cJ9_min_7cf53 10 = .ok (.ireturn, 1) := by decide +kernel
theorem dJ7_fill_53178_0 : decode cJ7_fill_53178 0 = .ok (.iconst 0, 1) := by decide +kernel
theorem dJ7_fill_53178_1 : decode cJ7_fill_53178 1 = .ok (.istore_n 2, 1) := by decide +kernel
theorem dJ7_fill_53178_2 : decode cJ7_fill_53178 2 = .ok (.aload_n 0, 1) := by decide +kernel
theorem dJ7_fill_53178_3 : decode cJ7_fill_53178 3 = .ok (.arraylength, 1) := by decide +kernel
theorem dJ7_fill_53178_4 : decode cJ7_fill_53178 4 = .ok (.istore_n 3, 1) := by decide +kernel
theorem dJ7_fill_53178_5 : decode cJ7_fill_53178 5 = .ok (.iload_n 2, 1) := by decide +kernel
theorem dJ7_fill_53178_6 : decode cJ7_fill_53178 6 = .ok (.iload_n 3, 1) := by decide +kernel
theorem dJ7_fill_53178_7 : decode cJ7_fill_53178 7 = .ok (.if_icmp .ge 13, 3) := by decide +kernel
theorem dJ7_fill_53178_10 : decode cJ7_fill_53178 10 = .ok (.aload_n 0, 1) := by decide +kernel
theorem dJ7_fill_53178_11 : decode cJ7_fill_53178 11 = .ok (.iload_n 2, 1) := by decide +kernel
theorem dJ7_fill_53178_12 : decode cJ7_fill_53178 12 = .ok (.iload_n 1, 1) := by decide +kernel
theorem dJ7_fill_53178_13 : decode cJ7_fill_53178 13 = .ok (.iastore, 1) := by decide +kernel
theorem dJ7_fill_53178_14 : decode cJ7_fill_53178 14 = .ok (.iinc 2 1, 3) := by decide +kernel
theorem dJ7_fill_53178_17 : decode cJ7_fill_53178 17 = .ok (.goto (-12), 3) := by decide +kernel
theorem dJ7_fill_53178_20 : decode cJ7_fill_53178 20 = .ok (.return_, 1) := by decide +kernel
theorem dJ7_copyOf_59c91_0 : decode cJ7_copyOf_59c91 0 = .ok (.iload_n 1, 1) := by decide +kernel
theorem dJ7_copyOf_59c91_1 : decode cJ7_copyOf_59c91 1 = .ok (.aload_n 0, 1) := by decide +kernel
theorem dJ7_copyOf_59c91_2 : decode cJ7_copyOf_59c91 2 = .ok (.arraylength, 1) := by decide +kernel
theorem dJ7_copyOf_59c91_3 : decode cJ7_copyOf_59c91 3 = .ok (.if_icmp .ne 11, 3) := by decide +kernel
theorem dJ7_copyOf_59c91_6 : decode cJ7_copyOf_59c91 6 = .ok (.aload_n 0, 1) := by decide +kernel
theorem dJ7_copyOf_59c91_7 : decode cJ7_copyOf_59c91 7 = .ok (.invokevirtual 316, 3) := by decide +kernel
theorem dJ7_copyOf_59c91_10 : decode cJ7_copyOf_59c91 10 = .ok (.checkcast 317, 3) := by decide +kernel
theorem dJ7_copyOf_59c91_13 : decode cJ7_copyOf_59c91 13 = .ok (.areturn, 1) := by decide +kernel
theorem dJ7_copyOf_59c91_14 : decode cJ7_copyOf_59c91 14 = .ok (.iload_n 1, 1) := by decide +kernel
theorem dJ7_copyOf_59c91_15 : decode cJ7_copyOf_59c91 15 = .ok (.newarray .int, 2) := by decide +kernel
theorem dJ7_copyOf_59c91_17 : decode cJ7_copyOf_59c91 17 = .ok (.astore_n 2, 1) := by decide +kernel
theorem dJ7_copyOf_59c91_18 : decode cJ7_copyOf_59c91 18 = .ok (.aload_n 0, 1) := by decide +kernel
theorem dJ7_copyOf_59c91_19 : decode cJ7_copyOf_59c91 19 = .ok (.iconst 0, 1) := by decide +kernel
theorem dJ7_copyOf_59c91_20 : decode cJ7_copyOf_59c91 20 = .ok (.aload_n 2, 1) := by decide +kernel
theorem dJ7_copyOf_59c91_21 : decode cJ7_copyOf_59c91 21 = .ok (.iconst 0, 1) := by decide +kernel
theorem dJ7_copyOf_59c91_22 : decode cJ7_copyOf_59c91 22 = .ok (.aload_n 0, 1) := by decide +kernel
theorem dJ7_copyOf_59c91_23 : decode cJ7_copyOf_59c91 23 = .ok (.arraylength, 1) := by decide +kernel
theorem dJ7_copyOf_59c91_24 : decode cJ7_copyOf_59c91 24 = .ok (.iload_n 1, 1) := by decide +kernel
theorem dJ7_copyOf_59c91_25 : decode cJ7_copyOf_59c91 25 = .ok (.invokestatic 304, 3) := by decide +kernel
theorem dJ7_copyOf_59c91_28 : decode cJ7_copyOf_59c91 28 = .ok (.invokestatic 150, 3) := by decide +kernel
theorem dJ7_copyOf_59c91_31 : decode cJ7_copyOf_59c91 31 = .ok (.aload_n 2, 1) := by decide +kernel
theorem dJ7_copyOf_59c91_32 : decode cJ7_copyOf_59c91 32 = .ok (.areturn, 1) := by decide +kernel
abbrev vwCl : List vw_C := [(RX0, TX0, 8), (RX1, TX1, 2), (RX2, TX2, 5), (RX3, TX3, 3), (RX4, TX4, 6), (RX5, TX5, 9), (RX6, TX6, 19)]

