def RX0 : String := "ValveRoom$1"
def TX0 : u_T := fun k => match k with
  | _ => ("", "", "", false)
def tyX0 : Nat → FieldType := fun k => match k with
  | _ => .int
abbrev wsX00 : List Cond := u_ws RX0 TX0 0
theorem nmX0 : ∀ a, a < 0 → ∀ b, b < 0 → a ≠ b → (TX0 a).2.1 ≠ (TX0 b).2.1 := by decide +kernel
theorem tyX0_ok : ∀ k, k < 0 → parseFieldDescriptor (TX0 k).2.2.1 = some (tyX0 k) := by decide +kernel
def RX1 : String := "ValveRoom$House"
def TX1 : u_T := fun k => match k with
  | 0 => ("ValveRoom$House", "time", "I", false)
  | 1 => ("ValveRoom$House", "outside", "I", false)
  | 2 => ("ValveRoom$House", "fall", "I", false)
  | 3 => ("ValveRoom$House", "hold", "I", false)
  | 4 => ("ValveRoom$House", "setback", "I", false)
  | 5 => ("ValveRoom$House", "band", "I", false)
  | 6 => ("ValveRoom$House", "gain", "I", false)
  | 7 => ("ValveRoom$House", "speed", "I", false)
  | 8 => ("ValveRoom$House", "exercise", "I", false)
  | 9 => ("ValveRoom$House", "roomCount", "I", false)
  | 10 => ("ValveRoom$House", "rooms", "[LValveRoom$Room;", true)
  | 11 => ("ValveRoom$House", "planCount", "I", false)
  | 12 => ("ValveRoom$House", "planTimes", "[I", true)
  | 13 => ("ValveRoom$House", "planRooms", "[I", true)
  | _ => ("ValveRoom$House", "planKinds", "[I", true)
def tyX1 : Nat → FieldType := fun k => match k with
  | 0 => .int
  | 1 => .int
  | 2 => .int
  | 3 => .int
  | 4 => .int
  | 5 => .int
  | 6 => .int
  | 7 => .int
  | 8 => .int
  | 9 => .int
  | 10 => .array (.object "ValveRoom$Room")
  | 11 => .int
  | 12 => .array .int
  | 13 => .array .int
  | _ => .array .int
abbrev wsX10 : List Cond := u_ws RX1 TX1 15
theorem nmX1 : ∀ a, a < 15 → ∀ b, b < 15 → a ≠ b → (TX1 a).2.1 ≠ (TX1 b).2.1 := by decide +kernel
theorem tyX1_ok : ∀ k, k < 15 → parseFieldDescriptor (TX1 k).2.2.1 = some (tyX1 k) := by decide +kernel
abbrev cX1_init : ByteArray := prog_3_method_1_code
def yX1_init : MethodName := ⟨RX1, "<init>", "()V"⟩
abbrev cX1_empty : ByteArray := prog_3_method_2_code
def yX1_empty : MethodName := ⟨RX1, "empty", "()V"⟩
abbrev cX1_copyFrom : ByteArray := prog_3_method_3_code
def yX1_copyFrom : MethodName := ⟨RX1, "copyFrom", "(LValveRoom$House;)V"⟩
abbrev cX1_numberOf : ByteArray := prog_3_method_4_code
def yX1_numberOf : MethodName := ⟨RX1, "numberOf", "([BII)I"⟩
abbrev cX1_tickOfDay : ByteArray := prog_3_method_5_code
def yX1_tickOfDay : MethodName := ⟨RX1, "tickOfDay", "()I"⟩
abbrev cX1_targetOf : ByteArray := prog_3_method_6_code
def yX1_targetOf : MethodName := ⟨RX1, "targetOf", "(LValveRoom$Room;)I"⟩
abbrev cX1_missingTo : ByteArray := prog_3_method_7_code
def yX1_missingTo : MethodName := ⟨RX1, "missingTo", "(LValveRoom$Room;)I"⟩
abbrev cX1_positionWanted : ByteArray := prog_3_method_8_code
def yX1_positionWanted : MethodName := ⟨RX1, "positionWanted", "(LValveRoom$Room;)I"⟩
abbrev cX1_putPlan : ByteArray := prog_3_method_10_code
def yX1_putPlan : MethodName := ⟨RX1, "putPlan", "(III)I"⟩
abbrev cX1_removePlans : ByteArray := prog_3_method_11_code
def yX1_removePlans : MethodName := ⟨RX1, "removePlans", "(II)V"⟩
abbrev cX1_movePlan : ByteArray := prog_3_method_12_code
def yX1_movePlan : MethodName := ⟨RX1, "movePlan", "(II)V"⟩
abbrev cX1_passTick : ByteArray := prog_3_method_13_code
def yX1_passTick : MethodName := ⟨RX1, "passTick", "()I"⟩
abbrev cX1_startTick : ByteArray := prog_3_method_15_code
def yX1_startTick : MethodName := ⟨RX1, "startTick", "()V"⟩
abbrev cX1_carryOut : ByteArray := prog_3_method_16_code
def yX1_carryOut : MethodName := ⟨RX1, "carryOut", "(LValveRoom$Room;I)V"⟩
abbrev cX1_live : ByteArray := prog_3_method_17_code
def yX1_live : MethodName := ⟨RX1, "live", "(LValveRoom$Room;I)I"⟩
abbrev cX1_changeTemperature : ByteArray := prog_3_method_18_code
def yX1_changeTemperature : MethodName := ⟨RX1, "changeTemperature", "(LValveRoom$Room;)V"⟩
def RX2 : String := "ValveRoom$Keyword"
def TX2 : u_T := fun k => match k with
  | _ => ("", "", "", false)
def tyX2 : Nat → FieldType := fun k => match k with
  | _ => .int
abbrev wsX20 : List Cond := u_ws RX2 TX2 0
theorem nmX2 : ∀ a, a < 0 → ∀ b, b < 0 → a ≠ b → (TX2 a).2.1 ≠ (TX2 b).2.1 := by decide +kernel
theorem tyX2_ok : ∀ k, k < 0 → parseFieldDescriptor (TX2 k).2.2.1 = some (tyX2 k) := by decide +kernel
def RX3 : String := "ValveRoom$Parser"
def TX3 : u_T := fun k => match k with
  | 0 => ("ValveRoom$Parser", "text", "[B", true)
  | 1 => ("ValveRoom$Parser", "length", "I", false)
  | 2 => ("ValveRoom$Parser", "draft", "LValveRoom$House;", true)
  | 3 => ("ValveRoom$Parser", "failure", "I", false)
  | 4 => ("ValveRoom$Parser", "failurePlace", "I", false)
  | 5 => ("ValveRoom$Parser", "tokens", "LValveRoom$Tokens;", true)
  | 6 => ("ValveRoom$Parser", "at", "I", false)
  | 7 => ("ValveRoom$Parser", "number", "I", false)
  | _ => ("ValveRoom$Parser", "toldOnce", "I", false)
def tyX3 : Nat → FieldType := fun k => match k with
  | 0 => .array .byte
  | 1 => .int
  | 2 => .object "ValveRoom$House"
  | 3 => .int
  | 4 => .int
  | 5 => .object "ValveRoom$Tokens"
  | 6 => .int
  | 7 => .int
  | _ => .int
abbrev wsX30 : List Cond := u_ws RX3 TX3 9
theorem nmX3 : ∀ a, a < 9 → ∀ b, b < 9 → a ≠ b → (TX3 a).2.1 ≠ (TX3 b).2.1 := by decide +kernel
theorem tyX3_ok : ∀ k, k < 9 → parseFieldDescriptor (TX3 k).2.2.1 = some (tyX3 k) := by decide +kernel
abbrev cX3_init : ByteArray := prog_5_method_1_code
def yX3_init : MethodName := ⟨RX3, "<init>", "()V"⟩
abbrev cX3_putFourBytes : ByteArray := prog_5_method_2_code
def yX3_putFourBytes : MethodName := ⟨RX3, "putFourBytes", "(I)V"⟩
abbrev cX3_parse : ByteArray := prog_5_method_3_code
def yX3_parse : MethodName := ⟨RX3, "parse", "()Z"⟩
abbrev cX3_fail : ByteArray := prog_5_method_4_code
def yX3_fail : MethodName := ⟨RX3, "fail", "(I)Z"⟩
abbrev cX3_pass : ByteArray := prog_5_method_5_code
def yX3_pass : MethodName := ⟨RX3, "pass", "()V"⟩
abbrev cX3_isAtEnd : ByteArray := prog_5_method_6_code
def yX3_isAtEnd : MethodName := ⟨RX3, "isAtEnd", "()Z"⟩
abbrev cX3_isSymbol : ByteArray := prog_5_method_7_code
def yX3_isSymbol : MethodName := ⟨RX3, "isSymbol", "(C)Z"⟩
abbrev cX3_isKeyword : ByteArray := prog_5_method_8_code
def yX3_isKeyword : MethodName := ⟨RX3, "isKeyword", "(LValveRoom$Keyword;)Z"⟩
abbrev cX3_isName : ByteArray := prog_5_method_9_code
def yX3_isName : MethodName := ⟨RX3, "isName", "()Z"⟩
abbrev cX3_takeSymbol : ByteArray := prog_5_method_10_code
def yX3_takeSymbol : MethodName := ⟨RX3, "takeSymbol", "(C)Z"⟩
abbrev cX3_takeKeyword : ByteArray := prog_5_method_11_code
def yX3_takeKeyword : MethodName := ⟨RX3, "takeKeyword", "(LValveRoom$Keyword;)Z"⟩
abbrev cX3_takeNumber : ByteArray := prog_5_method_12_code
def yX3_takeNumber : MethodName := ⟨RX3, "takeNumber", "(II)Z"⟩
abbrev cX3_takeOption : ByteArray := prog_5_method_13_code
def yX3_takeOption : MethodName := ⟨RX3, "takeOption", "(LValveRoom$Keyword;III)Z"⟩
abbrev cX3_takeStatement : ByteArray := prog_5_method_14_code
def yX3_takeStatement : MethodName := ⟨RX3, "takeStatement", "()Z"⟩
abbrev cX3_takeOnce : ByteArray := prog_5_method_15_code
def yX3_takeOnce : MethodName := ⟨RX3, "takeOnce", "(I)Z"⟩
abbrev cX3_takeOutside : ByteArray := prog_5_method_16_code
def yX3_takeOutside : MethodName := ⟨RX3, "takeOutside", "()Z"⟩
abbrev cX3_takeWindow : ByteArray := prog_5_method_17_code
def yX3_takeWindow : MethodName := ⟨RX3, "takeWindow", "()Z"⟩
abbrev cX3_takeBack : ByteArray := prog_5_method_18_code
def yX3_takeBack : MethodName := ⟨RX3, "takeBack", "()Z"⟩
abbrev cX3_takeControl : ByteArray := prog_5_method_19_code
def yX3_takeControl : MethodName := ⟨RX3, "takeControl", "()Z"⟩
abbrev cX3_takeExercise : ByteArray := prog_5_method_20_code
def yX3_takeExercise : MethodName := ⟨RX3, "takeExercise", "()Z"⟩
abbrev cX3_takeNewRoom : ByteArray := prog_5_method_21_code
def yX3_takeNewRoom : MethodName := ⟨RX3, "takeNewRoom", "()Z"⟩
abbrev cX3_takeFittings : ByteArray := prog_5_method_22_code
def yX3_takeFittings : MethodName := ⟨RX3, "takeFittings", "(LValveRoom$Room;)Z"⟩
abbrev cX3_wordHere : ByteArray := prog_5_method_23_code
def yX3_wordHere : MethodName := ⟨RX3, "wordHere", "()Ljava/lang/String;"⟩
abbrev cX3_knownRoomHere : ByteArray := prog_5_method_24_code
def yX3_knownRoomHere : MethodName := ⟨RX3, "knownRoomHere", "()I"⟩
abbrev cX3_takeProgram : ByteArray := prog_5_method_25_code
def yX3_takeProgram : MethodName := ⟨RX3, "takeProgram", "()Z"⟩
abbrev cX3_takeEntry : ByteArray := prog_5_method_26_code
def yX3_takeEntry : MethodName := ⟨RX3, "takeEntry", "(LValveRoom$Room;)Z"⟩
abbrev cX3_takePlan : ByteArray := prog_5_method_27_code
def yX3_takePlan : MethodName := ⟨RX3, "takePlan", "()Z"⟩
abbrev cX3_planKindHere : ByteArray := prog_5_method_28_code
def yX3_planKindHere : MethodName := ⟨RX3, "planKindHere", "()I"⟩
def RX4 : String := "ValveRoom$Room"
def TX4 : u_T := fun k => match k with
  | 0 => ("ValveRoom$Room", "name", "Ljava/lang/String;", false)
  | 1 => ("ValveRoom$Room", "temperature", "I", false)
  | 2 => ("ValveRoom$Room", "valve", "I", false)
  | 3 => ("ValveRoom$Room", "battery", "I", false)
  | 4 => ("ValveRoom$Room", "power", "I", false)
  | 5 => ("ValveRoom$Room", "loss", "I", false)
  | 6 => ("ValveRoom$Room", "open", "Z", false)
  | 7 => ("ValveRoom$Room", "present", "Z", false)
  | 8 => ("ValveRoom$Room", "windowLeft", "I", false)
  | 9 => ("ValveRoom$Room", "overrideTarget", "I", false)
  | 10 => ("ValveRoom$Room", "overrideLeft", "I", false)
  | 11 => ("ValveRoom$Room", "heat", "I", false)
  | 12 => ("ValveRoom$Room", "counts", "[I", true)
  | 13 => ("ValveRoom$Room", "program", "[I", true)
  | _ => ("ValveRoom$Room", "entries", "I", false)
def tyX4 : Nat → FieldType := fun k => match k with
  | 0 => .object "java/lang/String"
  | 1 => .int
  | 2 => .int
  | 3 => .int
  | 4 => .int
  | 5 => .int
  | 6 => .boolean
  | 7 => .boolean
  | 8 => .int
  | 9 => .int
  | 10 => .int
  | 11 => .int
  | 12 => .array .int
  | 13 => .array .int
  | _ => .int
abbrev wsX40 : List Cond := u_ws RX4 TX4 15
theorem nmX4 : ∀ a, a < 15 → ∀ b, b < 15 → a ≠ b → (TX4 a).2.1 ≠ (TX4 b).2.1 := by decide +kernel
theorem tyX4_ok : ∀ k, k < 15 → parseFieldDescriptor (TX4 k).2.2.1 = some (tyX4 k) := by decide +kernel
abbrev cX4_init : ByteArray := prog_6_method_1_code
def yX4_init : MethodName := ⟨RX4, "<init>", "()V"⟩
abbrev cX4_copyFrom : ByteArray := prog_6_method_2_code
def yX4_copyFrom : MethodName := ⟨RX4, "copyFrom", "(LValveRoom$Room;)V"⟩
abbrev cX4_startAs : ByteArray := prog_6_method_3_code
def yX4_startAs : MethodName := ⟨RX4, "startAs", "(Ljava/lang/String;)V"⟩
abbrev cX4_placeOf : ByteArray := prog_6_method_4_code
def yX4_placeOf : MethodName := ⟨RX4, "placeOf", "(I)I"⟩
abbrev cX4_isEntryOf : ByteArray := prog_6_method_5_code
def yX4_isEntryOf : MethodName := ⟨RX4, "isEntryOf", "(II)Z"⟩
abbrev cX4_toldAt : ByteArray := prog_6_method_6_code
def yX4_toldAt : MethodName := ⟨RX4, "toldAt", "(I)I"⟩
abbrev cX4_programmedAt : ByteArray := prog_6_method_7_code
def yX4_programmedAt : MethodName := ⟨RX4, "programmedAt", "(I)I"⟩
abbrev cX4_putEntry : ByteArray := prog_6_method_8_code
def yX4_putEntry : MethodName := ⟨RX4, "putEntry", "(II)V"⟩
abbrev cX4_removeEntry : ByteArray := prog_6_method_9_code
def yX4_removeEntry : MethodName := ⟨RX4, "removeEntry", "(I)V"⟩
abbrev cX4_drive : ByteArray := prog_6_method_10_code
def yX4_drive : MethodName := ⟨RX4, "drive", "(II)I"⟩
abbrev cX4_driveForExercise : ByteArray := prog_6_method_11_code
def yX4_driveForExercise : MethodName := ⟨RX4, "driveForExercise", "()I"⟩
def RX5 : String := "ValveRoom$Tokens"
def TX5 : u_T := fun k => match k with
  | 0 => ("ValveRoom$Tokens", "count", "I", false)
  | 1 => ("ValveRoom$Tokens", "kinds", "[I", true)
  | 2 => ("ValveRoom$Tokens", "starts", "[I", true)
  | 3 => ("ValveRoom$Tokens", "lengths", "[I", true)
  | 4 => ("ValveRoom$Tokens", "values", "[I", true)
  | _ => ("ValveRoom$Tokens", "keywords", "[LValveRoom$Keyword;", true)
def tyX5 : Nat → FieldType := fun k => match k with
  | 0 => .int
  | 1 => .array .int
  | 2 => .array .int
  | 3 => .array .int
  | 4 => .array .int
  | _ => .array (.object "ValveRoom$Keyword")
abbrev wsX50 : List Cond := u_ws RX5 TX5 6
theorem nmX5 : ∀ a, a < 6 → ∀ b, b < 6 → a ≠ b → (TX5 a).2.1 ≠ (TX5 b).2.1 := by decide +kernel
theorem tyX5_ok : ∀ k, k < 6 → parseFieldDescriptor (TX5 k).2.2.1 = some (tyX5 k) := by decide +kernel
abbrev cX5_init : ByteArray := prog_7_method_1_code
def yX5_init : MethodName := ⟨RX5, "<init>", "()V"⟩
abbrev cX5_read : ByteArray := prog_7_method_2_code
def yX5_read : MethodName := ⟨RX5, "read", "([BI)V"⟩
abbrev cX5_kindOf : ByteArray := prog_7_method_3_code
def yX5_kindOf : MethodName := ⟨RX5, "kindOf", "(B)I"⟩
abbrev cX5_begin : ByteArray := prog_7_method_4_code
def yX5_begin : MethodName := ⟨RX5, "begin", "(II)V"⟩
abbrev cX5_extend : ByteArray := prog_7_method_5_code
def yX5_extend : MethodName := ⟨RX5, "extend", "(B)V"⟩
abbrev cX5_keywordAt : ByteArray := prog_7_method_6_code
def yX5_keywordAt : MethodName := ⟨RX5, "keywordAt", "([BII)LValveRoom$Keyword;"⟩
def RX6 : String := "ValveRoom"
def TX6 : u_T := fun k => match k with
  | 0 => ("ValveRoom", "parser", "LValveRoom$Parser;", true)
  | 1 => ("ValveRoom", "errorFound", "I", false)
  | 2 => ("ValveRoom", "errorPlace", "I", false)
  | 3 => ("ValveRoom", "output", "Ljava/lang/StringBuilder;", true)
  | 4 => ("ValveRoom", "house", "LValveRoom$House;", true)
  | 5 => ("ValveRoom", "trial", "LValveRoom$House;", true)
  | 6 => ("ValveRoom", "past", "[LValveRoom$House;", true)
  | 7 => ("ValveRoom", "pastCount", "I", false)
  | 8 => ("ValveRoom", "kept", "[LValveRoom$House;", true)
  | _ => ("ValveRoom", "isKept", "[Z", true)
def tyX6 : Nat → FieldType := fun k => match k with
  | 0 => .object "ValveRoom$Parser"
  | 1 => .int
  | 2 => .int
  | 3 => .object "java/lang/StringBuilder"
  | 4 => .object "ValveRoom$House"
  | 5 => .object "ValveRoom$House"
  | 6 => .array (.object "ValveRoom$House")
  | 7 => .int
  | 8 => .array (.object "ValveRoom$House")
  | _ => .array .boolean
abbrev wsX60 : List Cond := u_ws RX6 TX6 10
theorem nmX6 : ∀ a, a < 10 → ∀ b, b < 10 → a ≠ b → (TX6 a).2.1 ≠ (TX6 b).2.1 := by decide +kernel
theorem tyX6_ok : ∀ k, k < 10 → parseFieldDescriptor (TX6 k).2.2.1 = some (tyX6 k) := by decide +kernel
abbrev cX6_init : ByteArray := prog_1_method_1_code
def yX6_init : MethodName := ⟨RX6, "<init>", "()V"⟩
abbrev cX6_append : ByteArray := prog_1_method_2_code
def yX6_append : MethodName := ⟨RX6, "append", "(IIIII)I"⟩
abbrev cX6_truncate : ByteArray := prog_1_method_3_code
def yX6_truncate : MethodName := ⟨RX6, "truncate", "(I)V"⟩
abbrev cX6_load : ByteArray := prog_1_method_4_code
def yX6_load : MethodName := ⟨RX6, "load", "()I"⟩
abbrev cX6_errorCode : ByteArray := prog_1_method_5_code
def yX6_errorCode : MethodName := ⟨RX6, "errorCode", "()I"⟩
abbrev cX6_property : ByteArray := prog_1_method_8_code
def yX6_property : MethodName := ⟨RX6, "property", "(I)I"⟩
abbrev cX6_room : ByteArray := prog_1_method_9_code
def yX6_room : MethodName := ⟨RX6, "room", "(II)I"⟩
abbrev cX6_count : ByteArray := prog_1_method_10_code
def yX6_count : MethodName := ⟨RX6, "count", "(II)I"⟩
abbrev cX6_target : ByteArray := prog_1_method_11_code
def yX6_target : MethodName := ⟨RX6, "target", "(I)I"⟩
abbrev cX6_programmed : ByteArray := prog_1_method_12_code
def yX6_programmed : MethodName := ⟨RX6, "programmed", "(II)I"⟩
abbrev cX6_wanted : ByteArray := prog_1_method_14_code
def yX6_wanted : MethodName := ⟨RX6, "wanted", "(I)I"⟩
abbrev cX6_why : ByteArray := prog_1_method_15_code
def yX6_why : MethodName := ⟨RX6, "why", "(I)I"⟩
abbrev cX6_planned : ByteArray := prog_1_method_16_code
def yX6_planned : MethodName := ⟨RX6, "planned", "(II)I"⟩
abbrev cX6_exerciseIn : ByteArray := prog_1_method_21_code
def yX6_exerciseIn : MethodName := ⟨RX6, "exerciseIn", "(I)I"⟩
abbrev cX6_warmth : ByteArray := prog_1_method_35_code
def yX6_warmth : MethodName := ⟨RX6, "warmth", "(I)F"⟩
abbrev cX6_reckoned : ByteArray := prog_1_method_36_code
def yX6_reckoned : MethodName := ⟨RX6, "reckoned", "(I)I"⟩
abbrev cX6_tick : ByteArray := prog_1_method_37_code
def yX6_tick : MethodName := ⟨RX6, "tick", "(I)I"⟩
abbrev cX6_setProgram : ByteArray := prog_1_method_38_code
def yX6_setProgram : MethodName := ⟨RX6, "setProgram", "(III)I"⟩
abbrev cX6_clearProgram : ByteArray := prog_1_method_39_code
def yX6_clearProgram : MethodName := ⟨RX6, "clearProgram", "(II)I"⟩
abbrev cX6_override : ByteArray := prog_1_method_40_code
def yX6_override : MethodName := ⟨RX6, "override", "(III)I"⟩
abbrev cX6_setWindow : ByteArray := prog_1_method_41_code
def yX6_setWindow : MethodName := ⟨RX6, "setWindow", "(IZ)Z"⟩
abbrev cX6_setPresent : ByteArray := prog_1_method_42_code
def yX6_setPresent : MethodName := ⟨RX6, "setPresent", "(IZ)I"⟩
abbrev cX6_plan : ByteArray := prog_1_method_43_code
def yX6_plan : MethodName := ⟨RX6, "plan", "(III)I"⟩
abbrev cX6_dropPlan : ByteArray := prog_1_method_44_code
def yX6_dropPlan : MethodName := ⟨RX6, "dropPlan", "(I)I"⟩
abbrev cX6_setOutside : ByteArray := prog_1_method_45_code
def yX6_setOutside : MethodName := ⟨RX6, "setOutside", "(I)I"⟩
abbrev cX6_setControl : ByteArray := prog_1_method_46_code
def yX6_setControl : MethodName := ⟨RX6, "setControl", "(III)I"⟩
abbrev cX6_newBattery : ByteArray := prog_1_method_47_code
def yX6_newBattery : MethodName := ⟨RX6, "newBattery", "(II)I"⟩
abbrev cX6_turn : ByteArray := prog_1_method_48_code
def yX6_turn : MethodName := ⟨RX6, "turn", "(II)I"⟩
abbrev cX6_remember : ByteArray := prog_1_method_53_code
def yX6_remember : MethodName := ⟨RX6, "remember", "()V"⟩
abbrev cX6_forgetOldest : ByteArray := prog_1_method_54_code
def yX6_forgetOldest : MethodName := ⟨RX6, "forgetOldest", "()V"⟩
abbrev cX6_roomAt : ByteArray := prog_1_method_61_code
def yX6_roomAt : MethodName := ⟨RX6, "roomAt", "(I)LValveRoom$Room;"⟩
abbrev cX6_requirePlan : ByteArray := prog_1_method_63_code
def yX6_requirePlan : MethodName := ⟨RX6, "requirePlan", "(I)V"⟩
abbrev cX6_requireRange : ByteArray := prog_1_method_65_code
def yX6_requireRange : MethodName := ⟨RX6, "requireRange", "(III)V"⟩
abbrev cX6_spells : ByteArray := prog_1_method_66_code
def yX6_spells : MethodName := ⟨RX6, "spells", "([BIILjava/lang/String;)Z"⟩
def RX7 : String := "ValveRoomModel"
def TX7 : u_T := fun k => match k with
  | _ => ("", "", "", false)
def tyX7 : Nat → FieldType := fun k => match k with
  | _ => .int
abbrev wsX70 : List Cond := u_ws RX7 TX7 0
theorem nmX7 : ∀ a, a < 0 → ∀ b, b < 0 → a ≠ b → (TX7 a).2.1 ≠ (TX7 b).2.1 := by decide +kernel
theorem tyX7_ok : ∀ k, k < 0 → parseFieldDescriptor (TX7 k).2.2.1 = some (tyX7 k) := by decide +kernel
def RJx145de : String := "java/io/Serializable"
def TJx145de : u_T := fun k => match k with
  | _ => ("", "", "", false)
def tyJx145de : Nat → FieldType := fun k => match k with
  | _ => .int
theorem nmJx145de : ∀ a, a < 0 → ∀ b, b < 0 → a ≠ b → (TJx145de a).2.1 ≠ (TJx145de b).2.1 := by decide +kernel
theorem tyJx145de_ok : ∀ k, k < 0 → parseFieldDescriptor (TJx145de k).2.2.1 = some (tyJx145de k) := by decide +kernel
def RJ5 : String := "java/lang/AbstractStringBuilder"
def TJ5 : u_T := fun k => match k with
  | _ => ("", "", "", false)
def tyJ5 : Nat → FieldType := fun k => match k with
  | _ => .int
abbrev wsJ50 : List Cond := u_ws RJ5 TJ5 0
theorem nmJ5 : ∀ a, a < 0 → ∀ b, b < 0 → a ≠ b → (TJ5 a).2.1 ≠ (TJ5 b).2.1 := by decide +kernel
theorem tyJ5_ok : ∀ k, k < 0 → parseFieldDescriptor (TJ5 k).2.2.1 = some (tyJ5 k) := by decide +kernel
abbrev cJ5_init_d00df : ByteArray := prog_11_method_2_code
def yJ5_init_d00df : MethodName := ⟨RJ5, "<init>", "(I)V"⟩
abbrev cJ5_length_8abf5 : ByteArray := prog_11_method_6_code
def yJ5_length_8abf5 : MethodName := ⟨RJ5, "length", "()I"⟩
abbrev cJ5_ensureCapacityInternal_d00df : ByteArray := prog_11_method_9_code
def yJ5_ensureCapacityInternal_d00df : MethodName := ⟨RJ5, "ensureCapacityInternal", "(I)V"⟩
abbrev cJ5_newCapacity_0f7a4 : ByteArray := prog_11_method_10_code
def yJ5_newCapacity_0f7a4 : MethodName := ⟨RJ5, "newCapacity", "(I)I"⟩
abbrev cJ5_inflate_da8c8 : ByteArray := prog_11_method_11_code
def yJ5_inflate_da8c8 : MethodName := ⟨RJ5, "inflate", "()V"⟩
abbrev cJ5_append_cf1ce : ByteArray := prog_11_method_22_code
def yJ5_append_cf1ce : MethodName := ⟨RJ5, "append", "(Ljava/lang/String;)Ljava/lang/AbstractStringBuilder;"⟩
abbrev cJ5_appendNull_278bc : ByteArray := prog_11_method_26_code
def yJ5_appendNull_278bc : MethodName := ⟨RJ5, "appendNull", "()Ljava/lang/AbstractStringBuilder;"⟩
abbrev cJ5_append_3fe6f : ByteArray := prog_11_method_31_code
def yJ5_append_3fe6f : MethodName := ⟨RJ5, "append", "(C)Ljava/lang/AbstractStringBuilder;"⟩
abbrev cJ5_append_c97b9 : ByteArray := prog_11_method_32_code
def yJ5_append_c97b9 : MethodName := ⟨RJ5, "append", "(I)Ljava/lang/AbstractStringBuilder;"⟩
abbrev cJ5_getValue_6d5f1 : ByteArray := prog_11_method_64_code
def yJ5_getValue_6d5f1 : MethodName := ⟨RJ5, "getValue", "()[B"⟩
abbrev cJ5_isLatin1_aae02 : ByteArray := prog_11_method_68_code
def yJ5_isLatin1_aae02 : MethodName := ⟨RJ5, "isLatin1", "()Z"⟩
abbrev cJ5_inflateIfNeededFor_a7421 : ByteArray := prog_11_method_71_code
def yJ5_inflateIfNeededFor_a7421 : MethodName := ⟨RJ5, "inflateIfNeededFor", "(Ljava/lang/String;)V"⟩
abbrev cJ5_putStringAt_47b60 : ByteArray := prog_11_method_73_code
def yJ5_putStringAt_47b60 : MethodName := ⟨RJ5, "putStringAt", "(ILjava/lang/String;)V"⟩
def RJx2cfe8 : String := "java/lang/Appendable"
def TJx2cfe8 : u_T := fun k => match k with
  | _ => ("", "", "", false)
def tyJx2cfe8 : Nat → FieldType := fun k => match k with
  | _ => .int
theorem nmJx2cfe8 : ∀ a, a < 0 → ∀ b, b < 0 → a ≠ b → (TJx2cfe8 a).2.1 ≠ (TJx2cfe8 b).2.1 := by decide +kernel
theorem tyJx2cfe8_ok : ∀ k, k < 0 → parseFieldDescriptor (TJx2cfe8 k).2.2.1 = some (tyJx2cfe8 k) := by decide +kernel
def RJx9f9b0 : String := "java/lang/CharSequence"
def TJx9f9b0 : u_T := fun k => match k with
  | _ => ("", "", "", false)
def tyJx9f9b0 : Nat → FieldType := fun k => match k with
  | _ => .int
theorem nmJx9f9b0 : ∀ a, a < 0 → ∀ b, b < 0 → a ≠ b → (TJx9f9b0 a).2.1 ≠ (TJx9f9b0 b).2.1 := by decide +kernel
theorem tyJx9f9b0_ok : ∀ k, k < 0 → parseFieldDescriptor (TJx9f9b0 k).2.2.1 = some (tyJx9f9b0 k) := by decide +kernel
def RJx8e188 : String := "java/lang/Cloneable"
def TJx8e188 : u_T := fun k => match k with
  | _ => ("", "", "", false)
def tyJx8e188 : Nat → FieldType := fun k => match k with
  | _ => .int
theorem nmJx8e188 : ∀ a, a < 0 → ∀ b, b < 0 → a ≠ b → (TJx8e188 a).2.1 ≠ (TJx8e188 b).2.1 := by decide +kernel
theorem tyJx8e188_ok : ∀ k, k < 0 → parseFieldDescriptor (TJx8e188 k).2.2.1 = some (tyJx8e188 k) := by decide +kernel
def RJxb160c : String := "java/lang/Comparable"
def TJxb160c : u_T := fun k => match k with
  | _ => ("", "", "", false)
def tyJxb160c : Nat → FieldType := fun k => match k with
  | _ => .int
theorem nmJxb160c : ∀ a, a < 0 → ∀ b, b < 0 → a ≠ b → (TJxb160c a).2.1 ≠ (TJxb160c b).2.1 := by decide +kernel
theorem tyJxb160c_ok : ∀ k, k < 0 → parseFieldDescriptor (TJxb160c k).2.2.1 = some (tyJxb160c k) := by decide +kernel
def RJx29ce0 : String := "java/lang/Enum"
def TJx29ce0 : u_T := fun k => match k with
  | _ => ("", "", "", false)
def tyJx29ce0 : Nat → FieldType := fun k => match k with
  | _ => .int
theorem nmJx29ce0 : ∀ a, a < 0 → ∀ b, b < 0 → a ≠ b → (TJx29ce0 a).2.1 ≠ (TJx29ce0 b).2.1 := by decide +kernel
theorem tyJx29ce0_ok : ∀ k, k < 0 → parseFieldDescriptor (TJx29ce0 k).2.2.1 = some (tyJx29ce0 k) := by decide +kernel
abbrev cJx29ce0_ordinal_8abf5 : ByteArray := prog_16_method_2_code
def yJx29ce0_ordinal_8abf5 : MethodName := ⟨RJx29ce0, "ordinal", "()I"⟩
def RJ6 : String := "java/lang/Integer"
def TJ6 : u_T := fun k => match k with
  | _ => ("", "", "", false)
def tyJ6 : Nat → FieldType := fun k => match k with
  | _ => .int
abbrev wsJ60 : List Cond := u_ws RJ6 TJ6 0
theorem nmJ6 : ∀ a, a < 0 → ∀ b, b < 0 → a ≠ b → (TJ6 a).2.1 ≠ (TJ6 b).2.1 := by decide +kernel
theorem tyJ6_ok : ∀ k, k < 0 → parseFieldDescriptor (TJ6 k).2.2.1 = some (tyJ6 k) := by decide +kernel
abbrev cJ6_getChars_ba4f3 : ByteArray := prog_21_method_12_code
def yJ6_getChars_ba4f3 : MethodName := ⟨RJ6, "getChars", "(II[B)I"⟩
abbrev cJ6_stringSize_0f7a4 : ByteArray := prog_21_method_13_code
def yJ6_stringSize_0f7a4 : MethodName := ⟨RJ6, "stringSize", "(I)I"⟩
def RJ9 : String := "java/lang/Math"
def TJ9 : u_T := fun k => match k with
  | _ => ("", "", "", false)
def tyJ9 : Nat → FieldType := fun k => match k with
  | _ => .int
abbrev wsJ90 : List Cond := u_ws RJ9 TJ9 0
theorem nmJ9 : ∀ a, a < 0 → ∀ b, b < 0 → a ≠ b → (TJ9 a).2.1 ≠ (TJ9 b).2.1 := by decide +kernel
theorem tyJ9_ok : ∀ k, k < 0 → parseFieldDescriptor (TJ9 k).2.2.1 = some (tyJ9 k) := by decide +kernel
abbrev cJ9_floorDiv_7cf53 : ByteArray := prog_22_method_47_code
def yJ9_floorDiv_7cf53 : MethodName := ⟨RJ9, "floorDiv", "(II)I"⟩
abbrev cJ9_floorMod_7cf53 : ByteArray := prog_22_method_50_code
def yJ9_floorMod_7cf53 : MethodName := ⟨RJ9, "floorMod", "(II)I"⟩
abbrev cJ9_abs_0f7a4 : ByteArray := prog_22_method_59_code
def yJ9_abs_0f7a4 : MethodName := ⟨RJ9, "abs", "(I)I"⟩
abbrev cJ9_max_7cf53 : ByteArray := prog_22_method_65_code
def yJ9_max_7cf53 : MethodName := ⟨RJ9, "max", "(II)I"⟩
abbrev cJ9_min_7cf53 : ByteArray := prog_22_method_69_code
def yJ9_min_7cf53 : MethodName := ⟨RJ9, "min", "(II)I"⟩
def RJxd2413 : String := "java/lang/Number"
def TJxd2413 : u_T := fun k => match k with
  | _ => ("", "", "", false)
def tyJxd2413 : Nat → FieldType := fun k => match k with
  | _ => .int
theorem nmJxd2413 : ∀ a, a < 0 → ∀ b, b < 0 → a ≠ b → (TJxd2413 a).2.1 ≠ (TJxd2413 b).2.1 := by decide +kernel
theorem tyJxd2413_ok : ∀ k, k < 0 → parseFieldDescriptor (TJxd2413 k).2.2.1 = some (tyJxd2413 k) := by decide +kernel
def RJ0 : String := "java/lang/String"
def TJ0 : u_T := fun k => match k with
  | 0 => ("java/lang/String", "value", "[B", true)
  | 1 => ("java/lang/String", "coder", "B", true)
  | 2 => ("java/lang/String", "hash", "I", false)
  | _ => ("java/lang/String", "hashIsZero", "Z", false)
def tyJ0 : Nat → FieldType := fun k => match k with
  | 0 => .array .byte
  | 1 => .byte
  | 2 => .int
  | _ => .boolean
abbrev wsJ00 : List Cond := u_ws RJ0 TJ0 4
theorem nmJ0 : ∀ a, a < 4 → ∀ b, b < 4 → a ≠ b → (TJ0 a).2.1 ≠ (TJ0 b).2.1 := by decide +kernel
theorem tyJ0_ok : ∀ k, k < 4 → parseFieldDescriptor (TJ0 k).2.2.1 = some (tyJ0 k) := by decide +kernel
abbrev cJ0_init_905df : ByteArray := prog_25_method_3_code
def yJ0_init_905df : MethodName := ⟨RJ0, "<init>", "([C)V"⟩
abbrev cJ0_init_81219 : ByteArray := prog_25_method_53_code
def yJ0_init_81219 : MethodName := ⟨RJ0, "<init>", "(Ljava/lang/StringBuilder;)V"⟩
abbrev cJ0_length_8abf5 : ByteArray := prog_25_method_54_code
def yJ0_length_8abf5 : MethodName := ⟨RJ0, "length", "()I"⟩
abbrev cJ0_charAt_5068e : ByteArray := prog_25_method_56_code
def yJ0_charAt_5068e : MethodName := ⟨RJ0, "charAt", "(I)C"⟩
abbrev cJ0_getBytes_840e7 : ByteArray := prog_25_method_147_code
def yJ0_getBytes_840e7 : MethodName := ⟨RJ0, "getBytes", "([BIB)V"⟩
abbrev cJ0_init_bb550 : ByteArray := prog_25_method_149_code
def yJ0_init_bb550 : MethodName := ⟨RJ0, "<init>", "([CIILjava/lang/Void;)V"⟩
abbrev cJ0_init_db425 : ByteArray := prog_25_method_150_code
def yJ0_init_db425 : MethodName := ⟨RJ0, "<init>", "(Ljava/lang/AbstractStringBuilder;Ljava/lang/Void;)V"⟩
abbrev cJ0_coder_7d493 : ByteArray := prog_25_method_152_code
def yJ0_coder_7d493 : MethodName := ⟨RJ0, "coder", "()B"⟩
abbrev cJ0_isLatin1_aae02 : ByteArray := prog_25_method_154_code
def yJ0_isLatin1_aae02 : MethodName := ⟨RJ0, "isLatin1", "()Z"⟩
abbrev cJ0_checkIndex_df160 : ByteArray := prog_25_method_155_code
def yJ0_checkIndex_df160 : MethodName := ⟨RJ0, "checkIndex", "(II)V"⟩
abbrev cJ0_checkBoundsOffCount_cabcc : ByteArray := prog_25_method_157_code
def yJ0_checkBoundsOffCount_cabcc : MethodName := ⟨RJ0, "checkBoundsOffCount", "(III)I"⟩
abbrev cJ0_checkBoundsBeginEnd_23922 : ByteArray := prog_25_method_158_code
def yJ0_checkBoundsBeginEnd_23922 : MethodName := ⟨RJ0, "checkBoundsBeginEnd", "(III)V"⟩
def RJ4 : String := "java/lang/StringBuilder"
def TJ4 : u_T := fun k => match k with
  | 0 => ("java/lang/AbstractStringBuilder", "value", "[B", false)
  | 1 => ("java/lang/AbstractStringBuilder", "coder", "B", false)
  | 2 => ("java/lang/AbstractStringBuilder", "maybeLatin1", "Z", false)
  | _ => ("java/lang/AbstractStringBuilder", "count", "I", false)
def tyJ4 : Nat → FieldType := fun k => match k with
  | 0 => .array .byte
  | 1 => .byte
  | 2 => .boolean
  | _ => .int
abbrev wsJ40 : List Cond := u_ws RJ4 TJ4 4
theorem nmJ4 : ∀ a, a < 4 → ∀ b, b < 4 → a ≠ b → (TJ4 a).2.1 ≠ (TJ4 b).2.1 := by decide +kernel
theorem tyJ4_ok : ∀ k, k < 4 → parseFieldDescriptor (TJ4 k).2.2.1 = some (tyJ4 k) := by decide +kernel
abbrev cJ4_init_da8c8 : ByteArray := prog_26_method_1_code
def yJ4_init_da8c8 : MethodName := ⟨RJ4, "<init>", "()V"⟩
abbrev cJ4_append_15ec4 : ByteArray := prog_26_method_7_code
def yJ4_append_15ec4 : MethodName := ⟨RJ4, "append", "(Ljava/lang/String;)Ljava/lang/StringBuilder;"⟩
abbrev cJ4_append_cf468 : ByteArray := prog_26_method_14_code
def yJ4_append_cf468 : MethodName := ⟨RJ4, "append", "(C)Ljava/lang/StringBuilder;"⟩
abbrev cJ4_append_bf812 : ByteArray := prog_26_method_15_code
def yJ4_append_bf812 : MethodName := ⟨RJ4, "append", "(I)Ljava/lang/StringBuilder;"⟩
abbrev cJ4_toString_0e30d : ByteArray := prog_26_method_42_code
def yJ4_toString_0e30d : MethodName := ⟨RJ4, "toString", "()Ljava/lang/String;"⟩
abbrev cJ4_length_8abf5 : ByteArray := prog_26_method_93_code
def yJ4_length_8abf5 : MethodName := ⟨RJ4, "length", "()I"⟩
def RJ1 : String := "java/lang/StringLatin1"
def TJ1 : u_T := fun k => match k with
  | _ => ("", "", "", false)
def tyJ1 : Nat → FieldType := fun k => match k with
  | _ => .int
abbrev wsJ10 : List Cond := u_ws RJ1 TJ1 0
theorem nmJ1 : ∀ a, a < 0 → ∀ b, b < 0 → a ≠ b → (TJ1 a).2.1 ≠ (TJ1 b).2.1 := by decide +kernel
theorem tyJ1_ok : ∀ k, k < 0 → parseFieldDescriptor (TJ1 k).2.2.1 = some (tyJ1 k) := by decide +kernel
abbrev cJ1_charAt_3b067 : ByteArray := prog_27_method_2_code
def yJ1_charAt_3b067 : MethodName := ⟨RJ1, "charAt", "([BI)C"⟩
abbrev cJ1_canEncode_fc78d : ByteArray := prog_27_method_3_code
def yJ1_canEncode_fc78d : MethodName := ⟨RJ1, "canEncode", "(C)Z"⟩
abbrev cJ1_inflate_0e8fd : ByteArray := prog_27_method_50_code
def yJ1_inflate_0e8fd : MethodName := ⟨RJ1, "inflate", "([BI[BII)V"⟩
def RJ2 : String := "java/lang/StringUTF16"
def TJ2 : u_T := fun k => match k with
  | _ => ("", "", "", false)
def tyJ2 : Nat → FieldType := fun k => match k with
  | _ => .int
abbrev wsJ20 : List Cond := u_ws RJ2 TJ2 0
theorem nmJ2 : ∀ a, a < 0 → ∀ b, b < 0 → a ≠ b → (TJ2 a).2.1 ≠ (TJ2 b).2.1 := by decide +kernel
theorem tyJ2_ok : ∀ k, k < 0 → parseFieldDescriptor (TJ2 k).2.2.1 = some (tyJ2 k) := by decide +kernel
abbrev cJ2_newBytesFor_77867 : ByteArray := prog_28_method_2_code
def yJ2_newBytesFor_77867 : MethodName := ⟨RJ2, "newBytesFor", "(I)[B"⟩
abbrev cJ2_newBytesLength_0f7a4 : ByteArray := prog_28_method_3_code
def yJ2_newBytesLength_0f7a4 : MethodName := ⟨RJ2, "newBytesLength", "(I)I"⟩
abbrev cJ2_putChar_b72d1 : ByteArray := prog_28_method_4_code
def yJ2_putChar_b72d1 : MethodName := ⟨RJ2, "putChar", "([BII)V"⟩
abbrev cJ2_getChar_3b067 : ByteArray := prog_28_method_5_code
def yJ2_getChar_3b067 : MethodName := ⟨RJ2, "getChar", "([BI)C"⟩
abbrev cJ2_length_9d52b : ByteArray := prog_28_method_6_code
def yJ2_length_9d52b : MethodName := ⟨RJ2, "length", "([B)I"⟩
abbrev cJ2_toBytes_dfd3c : ByteArray := prog_28_method_14_code
def yJ2_toBytes_dfd3c : MethodName := ⟨RJ2, "toBytes", "([CII)[B"⟩
abbrev cJ2_coderFromArrayLen_85cad : ByteArray := prog_28_method_15_code
def yJ2_coderFromArrayLen_85cad : MethodName := ⟨RJ2, "coderFromArrayLen", "([BI)B"⟩
abbrev cJ2_compress_dfd3c : ByteArray := prog_28_method_16_code
def yJ2_compress_dfd3c : MethodName := ⟨RJ2, "compress", "([CII)[B"⟩
abbrev cJ2_compress_39247 : ByteArray := prog_28_method_17_code
def yJ2_compress_39247 : MethodName := ⟨RJ2, "compress", "([BII)[B"⟩
abbrev cJ2_compress_fe38e : ByteArray := prog_28_method_21_code
def yJ2_compress_fe38e : MethodName := ⟨RJ2, "compress", "([CI[BII)I"⟩
abbrev cJ2_compress_5af95 : ByteArray := prog_28_method_22_code
def yJ2_compress_5af95 : MethodName := ⟨RJ2, "compress", "([BI[BII)I"⟩
abbrev cJ2_putCharSB_b72d1 : ByteArray := prog_28_method_71_code
def yJ2_putCharSB_b72d1 : MethodName := ⟨RJ2, "putCharSB", "([BII)V"⟩
abbrev cJ2_getChars_46870 : ByteArray := prog_28_method_77_code
def yJ2_getChars_46870 : MethodName := ⟨RJ2, "getChars", "(III[B)I"⟩
abbrev cJ2_putCharsAt_cd4e5 : ByteArray := prog_28_method_81_code
def yJ2_putCharsAt_cd4e5 : MethodName := ⟨RJ2, "putCharsAt", "([BICCCC)I"⟩
abbrev cJ2_charAt_3b067 : ByteArray := prog_28_method_83_code
def yJ2_charAt_3b067 : MethodName := ⟨RJ2, "charAt", "([BI)C"⟩
abbrev cJ2_inflate_0e8fd : ByteArray := prog_28_method_86_code
def yJ2_inflate_0e8fd : MethodName := ⟨RJ2, "inflate", "([BI[BII)V"⟩
abbrev cJ2_getChars_ba4f3 : ByteArray := prog_28_method_89_code
def yJ2_getChars_ba4f3 : MethodName := ⟨RJ2, "getChars", "(II[B)I"⟩
abbrev cJ2_checkIndex_2214a : ByteArray := prog_28_method_91_code
def yJ2_checkIndex_2214a : MethodName := ⟨RJ2, "checkIndex", "(I[B)V"⟩
abbrev cJ2_checkBoundsBeginEnd_d044e : ByteArray := prog_28_method_93_code
def yJ2_checkBoundsBeginEnd_d044e : MethodName := ⟨RJ2, "checkBoundsBeginEnd", "(II[B)V"⟩
abbrev cJ2_checkBoundsOffCount_d044e : ByteArray := prog_28_method_94_code
def yJ2_checkBoundsOffCount_d044e : MethodName := ⟨RJ2, "checkBoundsOffCount", "(II[B)V"⟩
def RJ10 : String := "java/lang/System"
def TJ10 : u_T := fun k => match k with
  | _ => ("", "", "", false)
def tyJ10 : Nat → FieldType := fun k => match k with
  | _ => .int
abbrev wsJ100 : List Cond := u_ws RJ10 TJ10 0
theorem nmJ10 : ∀ a, a < 0 → ∀ b, b < 0 → a ≠ b → (TJ10 a).2.1 ≠ (TJ10 b).2.1 := by decide +kernel
theorem tyJ10_ok : ∀ k, k < 0 → parseFieldDescriptor (TJ10 k).2.2.1 = some (tyJ10 k) := by decide +kernel
def RJxfd54e : String := "java/lang/constant/Constable"
def TJxfd54e : u_T := fun k => match k with
  | _ => ("", "", "", false)
def tyJxfd54e : Nat → FieldType := fun k => match k with
  | _ => .int
theorem nmJxfd54e : ∀ a, a < 0 → ∀ b, b < 0 → a ≠ b → (TJxfd54e a).2.1 ≠ (TJxfd54e b).2.1 := by decide +kernel
theorem tyJxfd54e_ok : ∀ k, k < 0 → parseFieldDescriptor (TJxfd54e k).2.2.1 = some (tyJxfd54e k) := by decide +kernel
def RJx3cf43 : String := "java/lang/constant/ConstantDesc"
def TJx3cf43 : u_T := fun k => match k with
  | _ => ("", "", "", false)
def tyJx3cf43 : Nat → FieldType := fun k => match k with
  | _ => .int
theorem nmJx3cf43 : ∀ a, a < 0 → ∀ b, b < 0 → a ≠ b → (TJx3cf43 a).2.1 ≠ (TJx3cf43 b).2.1 := by decide +kernel
theorem tyJx3cf43_ok : ∀ k, k < 0 → parseFieldDescriptor (TJx3cf43 k).2.2.1 = some (tyJx3cf43 k) := by decide +kernel
def RJ7 : String := "java/util/Arrays"
def TJ7 : u_T := fun k => match k with
  | _ => ("", "", "", false)
def tyJ7 : Nat → FieldType := fun k => match k with
  | _ => .int
abbrev wsJ70 : List Cond := u_ws RJ7 TJ7 0
theorem nmJ7 : ∀ a, a < 0 → ∀ b, b < 0 → a ≠ b → (TJ7 a).2.1 ≠ (TJ7 b).2.1 := by decide +kernel
theorem tyJ7_ok : ∀ k, k < 0 → parseFieldDescriptor (TJ7 k).2.2.1 = some (tyJ7 k) := by decide +kernel
abbrev cJ7_copyOf_9075b : ByteArray := prog_33_method_121_code
def yJ7_copyOf_9075b : MethodName := ⟨RJ7, "copyOf", "([BI)[B"⟩
abbrev cJ7_checkLength_df160 : ByteArray := prog_33_method_131_code
def yJ7_checkLength_df160 : MethodName := ⟨RJ7, "checkLength", "(II)V"⟩
abbrev cJ7_copyOfRange_39247 : ByteArray := prog_33_method_132_code
def yJ7_copyOfRange_39247 : MethodName := ⟨RJ7, "copyOfRange", "([BII)[B"⟩
abbrev cJ7_copyOfRangeByte_39247 : ByteArray := prog_33_method_133_code
def yJ7_copyOfRangeByte_39247 : MethodName := ⟨RJ7, "copyOfRangeByte", "([BII)[B"⟩
def RJ8 : String := "jdk/internal/util/ArraysSupport"
def TJ8 : u_T := fun k => match k with
  | _ => ("", "", "", false)
def tyJ8 : Nat → FieldType := fun k => match k with
  | _ => .int
abbrev wsJ80 : List Cond := u_ws RJ8 TJ8 0
theorem nmJ8 : ∀ a, a < 0 → ∀ b, b < 0 → a ≠ b → (TJ8 a).2.1 ≠ (TJ8 b).2.1 := by decide +kernel
theorem tyJ8_ok : ∀ k, k < 0 → parseFieldDescriptor (TJ8 k).2.2.1 = some (tyJ8 k) := by decide +kernel
abbrev cJ8_newLength_cabcc : ByteArray := prog_35_method_27_code
def yJ8_newLength_cabcc : MethodName := ⟨RJ8, "newLength", "(III)I"⟩
abbrev cJ8_hugeLength_7cf53 : ByteArray := prog_35_method_28_code
def yJ8_hugeLength_7cf53 : MethodName := ⟨RJ8, "hugeLength", "(II)I"⟩
def RJ3 : String := "jdk/internal/util/Preconditions"
def TJ3 : u_T := fun k => match k with
  | _ => ("", "", "", false)
def tyJ3 : Nat → FieldType := fun k => match k with
  | _ => .int
abbrev wsJ30 : List Cond := u_ws RJ3 TJ3 0
theorem nmJ3 : ∀ a, a < 0 → ∀ b, b < 0 → a ≠ b → (TJ3 a).2.1 ≠ (TJ3 b).2.1 := by decide +kernel
theorem tyJ3_ok : ∀ k, k < 0 → parseFieldDescriptor (TJ3 k).2.2.1 = some (tyJ3 k) := by decide +kernel
abbrev cJ3_checkIndex_8e157 : ByteArray := prog_36_method_11_code
def yJ3_checkIndex_8e157 : MethodName := ⟨RJ3, "checkIndex", "(IILjava/util/function/BiFunction;)I"⟩
abbrev cJ3_checkFromToIndex_8c36e : ByteArray := prog_36_method_12_code
def yJ3_checkFromToIndex_8c36e : MethodName := ⟨RJ3, "checkFromToIndex", "(IIILjava/util/function/BiFunction;)I"⟩
abbrev cJ3_checkFromIndexSize_8c36e : ByteArray := prog_36_method_13_code
def yJ3_checkFromIndexSize_8c36e : MethodName := ⟨RJ3, "checkFromIndexSize", "(IIILjava/util/function/BiFunction;)I"⟩
def RL : String := "ValveRoomLaw"
abbrev cL_draw : ByteArray := method_2_code
def yL_draw : MethodName := ⟨RL, "draw", "([III)I"⟩
abbrev cL_four : ByteArray := method_3_code
def yL_four : MethodName := ⟨RL, "four", "(Ljava/lang/String;I)I"⟩
abbrev cL_feed : ByteArray := method_4_code
def yL_feed : MethodName := ⟨RL, "feed", "(LValveRoom;Ljava/lang/String;)V"⟩
abbrev cL_name : ByteArray := method_5_code
def yL_name : MethodName := ⟨RL, "name", "(I)C"⟩
abbrev cL_load : ByteArray := method_6_code
def yL_load : MethodName := ⟨RL, "load", "(LValveRoom;[I)Z"⟩
abbrev cL_cleared : ByteArray := method_7_code
def yL_cleared : MethodName := ⟨RL, "cleared", "(LValveRoom;II)I"⟩
abbrev cL_planned : ByteArray := method_8_code
def yL_planned : MethodName := ⟨RL, "planned", "(LValveRoom;III)I"⟩
abbrev cL_act : ByteArray := method_9_code
def yL_act : MethodName := ⟨RL, "act", "(LValveRoom;[II)I"⟩
abbrev cL_wanted : ByteArray := method_11_code
def yL_wanted : MethodName := ⟨RL, "wanted", "(LValveRoom;IIII)I"⟩
abbrev cL_stands : ByteArray := method_12_code
def yL_stands : MethodName := ⟨RL, "stands", "(LValveRoom;)Z"⟩
abbrev cL_law : ByteArray := code
def yL_law : MethodName := ⟨RL, "law", "([I)Z"⟩
