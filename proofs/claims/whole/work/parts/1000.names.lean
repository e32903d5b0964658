def RX0 : String := "LavaLodger$Asker"
def TX0 : u_T := fun k => match k with
  | 0 => ("LavaLodger$Asker", "traced", "I", false)
  | _ => ("LavaLodger$Asker", "begun", "[I", true)
def tyX0 : Nat → FieldType := fun k => match k with
  | 0 => .int
  | _ => .array .int
abbrev wsX00 : List Cond := u_ws RX0 TX0 2
theorem nmX0 : ∀ a, a < 2 → ∀ b, b < 2 → a ≠ b → (TX0 a).2.1 ≠ (TX0 b).2.1 := by decide +kernel
theorem tyX0_ok : ∀ k, k < 2 → parseFieldDescriptor (TX0 k).2.2.1 = some (tyX0 k) := by decide +kernel
abbrev cX0_init : ByteArray := prog_2_method_1_code
def yX0_init : MethodName := ⟨RX0, "<init>", "()V"⟩
abbrev cX0_answer : ByteArray := prog_2_method_2_code
def yX0_answer : MethodName := ⟨RX0, "answer", "(LLavaLodger$Village;II)I"⟩
abbrev cX0_bodyFor : ByteArray := prog_2_method_3_code
def yX0_bodyFor : MethodName := ⟨RX0, "bodyFor", "(II)I"⟩
abbrev cX0_begin : ByteArray := prog_2_method_4_code
def yX0_begin : MethodName := ⟨RX0, "begin", "(I)V"⟩
abbrev cX0_give : ByteArray := prog_2_method_5_code
def yX0_give : MethodName := ⟨RX0, "give", "(LLavaLodger$Village;III)I"⟩
abbrev cX0_anew : ByteArray := prog_2_method_6_code
def yX0_anew : MethodName := ⟨RX0, "anew", "(LLavaLodger$Village;III)I"⟩
def RX1 : String := "LavaLodger$Carrier"
def TX1 : u_T := fun k => match k with
  | 0 => ("LavaLodger$Carrier", "fewest", "I", false)
  | 1 => ("LavaLodger$Carrier", "forecast", "LLavaLodger$Forecast;", true)
  | 2 => ("LavaLodger$Carrier", "stone", "[Z", true)
  | 3 => ("LavaLodger$Carrier", "choice", "[I", true)
  | 4 => ("LavaLodger$Carrier", "best", "[I", true)
  | 5 => ("LavaLodger$Carrier", "daysOf", "[I", true)
  | 6 => ("LavaLodger$Carrier", "things", "I", false)
  | _ => ("LavaLodger$Carrier", "carries", "I", false)
def tyX1 : Nat → FieldType := fun k => match k with
  | 0 => .int
  | 1 => .object "LavaLodger$Forecast"
  | 2 => .array .boolean
  | 3 => .array .int
  | 4 => .array .int
  | 5 => .array .int
  | 6 => .int
  | _ => .int
abbrev wsX10 : List Cond := u_ws RX1 TX1 8
theorem nmX1 : ∀ a, a < 8 → ∀ b, b < 8 → a ≠ b → (TX1 a).2.1 ≠ (TX1 b).2.1 := by decide +kernel
theorem tyX1_ok : ∀ k, k < 8 → parseFieldDescriptor (TX1 k).2.2.1 = some (tyX1 k) := by decide +kernel
abbrev cX1_init : ByteArray := prog_3_method_1_code
def yX1_init : MethodName := ⟨RX1, "<init>", "()V"⟩
abbrev cX1_search : ByteArray := prog_3_method_2_code
def yX1_search : MethodName := ⟨RX1, "search", "(LLavaLodger$Village;II)V"⟩
abbrev cX1_choiceAt : ByteArray := prog_3_method_3_code
def yX1_choiceAt : MethodName := ⟨RX1, "choiceAt", "(I)I"⟩
abbrev cX1_followAll : ByteArray := prog_3_method_4_code
def yX1_followAll : MethodName := ⟨RX1, "followAll", "(LLavaLodger$Village;I)V"⟩
abbrev cX1_placeBehind : ByteArray := prog_3_method_5_code
def yX1_placeBehind : MethodName := ⟨RX1, "placeBehind", "(LLavaLodger$Village;III)I"⟩
abbrev cX1_tryFrom : ByteArray := prog_3_method_6_code
def yX1_tryFrom : MethodName := ⟨RX1, "tryFrom", "(I)V"⟩
abbrev cX1_weigh : ByteArray := prog_3_method_7_code
def yX1_weigh : MethodName := ⟨RX1, "weigh", "()V"⟩
def RX2 : String := "LavaLodger$Forecast"
def TX2 : u_T := fun k => match k with
  | 0 => ("LavaLodger$Forecast", "mostDays", "I", true)
  | _ => ("LavaLodger$Forecast", "lies", "[I", true)
def tyX2 : Nat → FieldType := fun k => match k with
  | 0 => .int
  | _ => .array .int
abbrev wsX20 : List Cond := u_ws RX2 TX2 2
theorem nmX2 : ∀ a, a < 2 → ∀ b, b < 2 → a ≠ b → (TX2 a).2.1 ≠ (TX2 b).2.1 := by decide +kernel
theorem tyX2_ok : ∀ k, k < 2 → parseFieldDescriptor (TX2 k).2.2.1 = some (tyX2 k) := by decide +kernel
abbrev cX2_init : ByteArray := prog_4_method_1_code
def yX2_init : MethodName := ⟨RX2, "<init>", "(I)V"⟩
abbrev cX2_tell : ByteArray := prog_4_method_2_code
def yX2_tell : MethodName := ⟨RX2, "tell", "(LLavaLodger$Village;I)V"⟩
abbrev cX2_lavaIn : ByteArray := prog_4_method_3_code
def yX2_lavaIn : MethodName := ⟨RX2, "lavaIn", "(II)I"⟩
abbrev cX2_placeAfter : ByteArray := prog_4_method_4_code
def yX2_placeAfter : MethodName := ⟨RX2, "placeAfter", "(LLavaLodger$Village;III)I"⟩
abbrev cX2_placeBehind : ByteArray := prog_4_method_5_code
def yX2_placeBehind : MethodName := ⟨RX2, "placeBehind", "(LLavaLodger$Village;III)I"⟩
def RX3 : String := "LavaLodger$Past"
def TX3 : u_T := fun k => match k with
  | 0 => ("LavaLodger$Past", "acts", "I", false)
  | 1 => ("LavaLodger$Past", "oldest", "I", false)
  | _ => ("LavaLodger$Past", "ring", "[LLavaLodger$Village;", true)
def tyX3 : Nat → FieldType := fun k => match k with
  | 0 => .int
  | 1 => .int
  | _ => .array (.object "LavaLodger$Village")
abbrev wsX30 : List Cond := u_ws RX3 TX3 3
theorem nmX3 : ∀ a, a < 3 → ∀ b, b < 3 → a ≠ b → (TX3 a).2.1 ≠ (TX3 b).2.1 := by decide +kernel
theorem tyX3_ok : ∀ k, k < 3 → parseFieldDescriptor (TX3 k).2.2.1 = some (tyX3 k) := by decide +kernel
abbrev cX3_init : ByteArray := prog_5_method_1_code
def yX3_init : MethodName := ⟨RX3, "<init>", "()V"⟩
abbrev cX3_keep : ByteArray := prog_5_method_2_code
def yX3_keep : MethodName := ⟨RX3, "keep", "(LLavaLodger$Village;)V"⟩
abbrev cX3_goBack : ByteArray := prog_5_method_3_code
def yX3_goBack : MethodName := ⟨RX3, "goBack", "(LLavaLodger$Village;)Z"⟩
abbrev cX3_forget : ByteArray := prog_5_method_4_code
def yX3_forget : MethodName := ⟨RX3, "forget", "()V"⟩
def RX4 : String := "LavaLodger$Rows"
def TX4 : u_T := fun k => match k with
  | 0 => ("LavaLodger$Rows", "items", "[[I", true)
  | 1 => ("LavaLodger$Rows", "lanes", "[I", true)
  | _ => ("LavaLodger$Rows", "sizes", "[I", true)
def tyX4 : Nat → FieldType := fun k => match k with
  | 0 => .array (.array .int)
  | 1 => .array .int
  | _ => .array .int
abbrev wsX40 : List Cond := u_ws RX4 TX4 3
theorem nmX4 : ∀ a, a < 3 → ∀ b, b < 3 → a ≠ b → (TX4 a).2.1 ≠ (TX4 b).2.1 := by decide +kernel
theorem tyX4_ok : ∀ k, k < 3 → parseFieldDescriptor (TX4 k).2.2.1 = some (tyX4 k) := by decide +kernel
abbrev cX4_init : ByteArray := prog_6_method_1_code
def yX4_init : MethodName := ⟨RX4, "<init>", "()V"⟩
abbrev cX4_isNumber : ByteArray := prog_6_method_2_code
def yX4_isNumber : MethodName := ⟨RX4, "isNumber", "(I)Z"⟩
abbrev cX4_isMissing : ByteArray := prog_6_method_3_code
def yX4_isMissing : MethodName := ⟨RX4, "isMissing", "(I)Z"⟩
abbrev cX4_present : ByteArray := prog_6_method_4_code
def yX4_present : MethodName := ⟨RX4, "present", "()I"⟩
abbrev cX4_make : ByteArray := prog_6_method_5_code
def yX4_make : MethodName := ⟨RX4, "make", "(III)V"⟩
abbrev cX4_lose : ByteArray := prog_6_method_6_code
def yX4_lose : MethodName := ⟨RX4, "lose", "(I)I"⟩
abbrev cX4_put : ByteArray := prog_6_method_7_code
def yX4_put : MethodName := ⟨RX4, "put", "(III)I"⟩
abbrev cX4_item : ByteArray := prog_6_method_8_code
def yX4_item : MethodName := ⟨RX4, "item", "(II)I"⟩
abbrev cX4_move : ByteArray := prog_6_method_9_code
def yX4_move : MethodName := ⟨RX4, "move", "(IIIII)V"⟩
abbrev cX4_findingAt : ByteArray := prog_6_method_10_code
def yX4_findingAt : MethodName := ⟨RX4, "findingAt", "(III)I"⟩
abbrev cX4_findingBetween : ByteArray := prog_6_method_11_code
def yX4_findingBetween : MethodName := ⟨RX4, "findingBetween", "(IIIII)I"⟩
abbrev cX4_hasPlaces : ByteArray := prog_6_method_12_code
def yX4_hasPlaces : MethodName := ⟨RX4, "hasPlaces", "(III)Z"⟩
abbrev cX4_cut : ByteArray := prog_6_method_13_code
def yX4_cut : MethodName := ⟨RX4, "cut", "(II)I"⟩
def RX5 : String := "LavaLodger$Seer"
def TX5 : u_T := fun k => match k with
  | 0 => ("LavaLodger$Seer", "trial", "LLavaLodger$Village;", true)
  | 1 => ("LavaLodger$Seer", "forecast", "LLavaLodger$Forecast;", true)
  | 2 => ("LavaLodger$Seer", "heard", "[I", true)
  | _ => ("LavaLodger$Seer", "heardDays", "I", false)
def tyX5 : Nat → FieldType := fun k => match k with
  | 0 => .object "LavaLodger$Village"
  | 1 => .object "LavaLodger$Forecast"
  | 2 => .array .int
  | _ => .int
abbrev wsX50 : List Cond := u_ws RX5 TX5 4
theorem nmX5 : ∀ a, a < 4 → ∀ b, b < 4 → a ≠ b → (TX5 a).2.1 ≠ (TX5 b).2.1 := by decide +kernel
theorem tyX5_ok : ∀ k, k < 4 → parseFieldDescriptor (TX5 k).2.2.1 = some (tyX5 k) := by decide +kernel
abbrev cX5_init : ByteArray := prog_7_method_1_code
def yX5_init : MethodName := ⟨RX5, "<init>", "()V"⟩
abbrev cX5_placeBehind : ByteArray := prog_7_method_2_code
def yX5_placeBehind : MethodName := ⟨RX5, "placeBehind", "(LLavaLodger$Village;II)I"⟩
abbrev cX5_lavaBehind : ByteArray := prog_7_method_3_code
def yX5_lavaBehind : MethodName := ⟨RX5, "lavaBehind", "(LLavaLodger$Village;II)I"⟩
abbrev cX5_stonesBehind : ByteArray := prog_7_method_4_code
def yX5_stonesBehind : MethodName := ⟨RX5, "stonesBehind", "(LLavaLodger$Village;I)I"⟩
abbrev cX5_outsBehind : ByteArray := prog_7_method_5_code
def yX5_outsBehind : MethodName := ⟨RX5, "outsBehind", "(LLavaLodger$Village;I)I"⟩
abbrev cX5_passTrial : ByteArray := prog_7_method_6_code
def yX5_passTrial : MethodName := ⟨RX5, "passTrial", "(I)V"⟩
abbrev cX5_frontBehind : ByteArray := prog_7_method_7_code
def yX5_frontBehind : MethodName := ⟨RX5, "frontBehind", "(LLavaLodger$Village;I)I"⟩
abbrev cX5_firstDay : ByteArray := prog_7_method_8_code
def yX5_firstDay : MethodName := ⟨RX5, "firstDay", "(LLavaLodger$Village;II)I"⟩
abbrev cX5_isCome : ByteArray := prog_7_method_9_code
def yX5_isCome : MethodName := ⟨RX5, "isCome", "(III)Z"⟩
abbrev cX5_stonesWithDam : ByteArray := prog_7_method_10_code
def yX5_stonesWithDam : MethodName := ⟨RX5, "stonesWithDam", "(LLavaLodger$Village;III)I"⟩
abbrev cX5_bestDam : ByteArray := prog_7_method_11_code
def yX5_bestDam : MethodName := ⟨RX5, "bestDam", "(LLavaLodger$Village;II)I"⟩
abbrev cX5_leastWall : ByteArray := prog_7_method_12_code
def yX5_leastWall : MethodName := ⟨RX5, "leastWall", "(LLavaLodger$Village;III)I"⟩
abbrev cX5_mostFeed : ByteArray := prog_7_method_13_code
def yX5_mostFeed : MethodName := ⟨RX5, "mostFeed", "(LLavaLodger$Village;I)I"⟩
abbrev cX5_setsSoHigh : ByteArray := prog_7_method_14_code
def yX5_setsSoHigh : MethodName := ⟨RX5, "setsSoHigh", "(LLavaLodger$Village;II)I"⟩
abbrev cX5_highOfAll : ByteArray := prog_7_method_15_code
def yX5_highOfAll : MethodName := ⟨RX5, "highOfAll", "(LLavaLodger$Village;I)I"⟩
abbrev cX5_partOf : ByteArray := prog_7_method_16_code
def yX5_partOf : MethodName := ⟨RX5, "partOf", "(LLavaLodger$Village;II)I"⟩
abbrev cX5_hear : ByteArray := prog_7_method_17_code
def yX5_hear : MethodName := ⟨RX5, "hear", "(LLavaLodger$Rows;III)V"⟩
abbrev cX5_kindsThatFit : ByteArray := prog_7_method_18_code
def yX5_kindsThatFit : MethodName := ⟨RX5, "kindsThatFit", "(LLavaLodger$Village;I)I"⟩
abbrev cX5_highsThatFit : ByteArray := prog_7_method_19_code
def yX5_highsThatFit : MethodName := ⟨RX5, "highsThatFit", "(LLavaLodger$Village;I)I"⟩
abbrev cX5_roomsThatFit : ByteArray := prog_7_method_20_code
def yX5_roomsThatFit : MethodName := ⟨RX5, "roomsThatFit", "(LLavaLodger$Village;I)I"⟩
abbrev cX5_goesAsHeard : ByteArray := prog_7_method_21_code
def yX5_goesAsHeard : MethodName := ⟨RX5, "goesAsHeard", "(II)Z"⟩
abbrev cX5_floorsThatFit : ByteArray := prog_7_method_22_code
def yX5_floorsThatFit : MethodName := ⟨RX5, "floorsThatFit", "(LLavaLodger$Village;I)I"⟩
abbrev cX5_feedsThatFit : ByteArray := prog_7_method_23_code
def yX5_feedsThatFit : MethodName := ⟨RX5, "feedsThatFit", "(LLavaLodger$Village;I)I"⟩
abbrev cX5_liesAsHeard : ByteArray := prog_7_method_24_code
def yX5_liesAsHeard : MethodName := ⟨RX5, "liesAsHeard", "(I)Z"⟩
abbrev cX5_likelySpared : ByteArray := prog_7_method_25_code
def yX5_likelySpared : MethodName := ⟨RX5, "likelySpared", "(LLavaLodger$Village;IIII)J"⟩
abbrev cX5_wallsThatStand : ByteArray := prog_7_method_26_code
def yX5_wallsThatStand : MethodName := ⟨RX5, "wallsThatStand", "(LLavaLodger$Village;)I"⟩
abbrev cX5_casesOf : ByteArray := prog_7_method_27_code
def yX5_casesOf : MethodName := ⟨RX5, "casesOf", "(III)J"⟩
abbrev cX5_isSpared : ByteArray := prog_7_method_28_code
def yX5_isSpared : MethodName := ⟨RX5, "isSpared", "(LLavaLodger$Village;III)Z"⟩
abbrev cX5_greatestDivisor : ByteArray := prog_7_method_29_code
def yX5_greatestDivisor : MethodName := ⟨RX5, "greatestDivisor", "(JJ)J"⟩
abbrev cX5_becameInYears : ByteArray := prog_7_method_30_code
def yX5_becameInYears : MethodName := ⟨RX5, "becameInYears", "(LLavaLodger$Village;III)I"⟩
abbrev cX5_draw : ByteArray := prog_7_method_31_code
def yX5_draw : MethodName := ⟨RX5, "draw", "(J)V"⟩
def RX6 : String := "LavaLodger$Tape"
def TX6 : u_T := fun k => match k with
  | 0 => ("LavaLodger$Tape", "draft", "LLavaLodger$Village;", true)
  | 1 => ("LavaLodger$Tape", "bytes", "I", false)
  | 2 => ("LavaLodger$Tape", "faultNumber", "I", false)
  | 3 => ("LavaLodger$Tape", "faultPlace", "I", false)
  | 4 => ("LavaLodger$Tape", "letters", "[I", true)
  | _ => ("LavaLodger$Tape", "at", "I", false)
def tyX6 : Nat → FieldType := fun k => match k with
  | 0 => .object "LavaLodger$Village"
  | 1 => .int
  | 2 => .int
  | 3 => .int
  | 4 => .array .int
  | _ => .int
abbrev wsX60 : List Cond := u_ws RX6 TX6 6
theorem nmX6 : ∀ a, a < 6 → ∀ b, b < 6 → a ≠ b → (TX6 a).2.1 ≠ (TX6 b).2.1 := by decide +kernel
theorem tyX6_ok : ∀ k, k < 6 → parseFieldDescriptor (TX6 k).2.2.1 = some (tyX6 k) := by decide +kernel
abbrev cX6_init : ByteArray := prog_8_method_1_code
def yX6_init : MethodName := ⟨RX6, "<init>", "()V"⟩
abbrev cX6_takeByte : ByteArray := prog_8_method_2_code
def yX6_takeByte : MethodName := ⟨RX6, "takeByte", "(I)Z"⟩
abbrev cX6_read : ByteArray := prog_8_method_3_code
def yX6_read : MethodName := ⟨RX6, "read", "()Z"⟩
abbrev cX6_readLaw : ByteArray := prog_8_method_4_code
def yX6_readLaw : MethodName := ⟨RX6, "readLaw", "()Z"⟩
abbrev cX6_readRooms : ByteArray := prog_8_method_5_code
def yX6_readRooms : MethodName := ⟨RX6, "readRooms", "()Z"⟩
abbrev cX6_readRoom : ByteArray := prog_8_method_6_code
def yX6_readRoom : MethodName := ⟨RX6, "readRoom", "()Z"⟩
abbrev cX6_readThings : ByteArray := prog_8_method_7_code
def yX6_readThings : MethodName := ⟨RX6, "readThings", "()Z"⟩
abbrev cX6_readThing : ByteArray := prog_8_method_8_code
def yX6_readThing : MethodName := ⟨RX6, "readThing", "()Z"⟩
abbrev cX6_readSign : ByteArray := prog_8_method_9_code
def yX6_readSign : MethodName := ⟨RX6, "readSign", "(I)Z"⟩
abbrev cX6_readNumber : ByteArray := prog_8_method_10_code
def yX6_readNumber : MethodName := ⟨RX6, "readNumber", "(II)I"⟩
abbrev cX6_next : ByteArray := prog_8_method_11_code
def yX6_next : MethodName := ⟨RX6, "next", "()I"⟩
abbrev cX6_fails : ByteArray := prog_8_method_12_code
def yX6_fails : MethodName := ⟨RX6, "fails", "(I)Z"⟩
abbrev cX6_sortOf : ByteArray := prog_8_method_13_code
def yX6_sortOf : MethodName := ⟨RX6, "sortOf", "(I)I"⟩
def RX7 : String := "LavaLodger$Turns"
def TX7 : u_T := fun k => match k with
  | 0 => ("LavaLodger$Turns", "trial", "LLavaLodger$Village;", true)
  | 1 => ("LavaLodger$Turns", "forecast", "LLavaLodger$Forecast;", true)
  | 2 => ("LavaLodger$Turns", "stone", "[Z", true)
  | 3 => ("LavaLodger$Turns", "carriedOf", "[I", true)
  | 4 => ("LavaLodger$Turns", "raised", "I", false)
  | _ => ("LavaLodger$Turns", "things", "I", false)
def tyX7 : Nat → FieldType := fun k => match k with
  | 0 => .object "LavaLodger$Village"
  | 1 => .object "LavaLodger$Forecast"
  | 2 => .array .boolean
  | 3 => .array .int
  | 4 => .int
  | _ => .int
abbrev wsX70 : List Cond := u_ws RX7 TX7 6
theorem nmX7 : ∀ a, a < 6 → ∀ b, b < 6 → a ≠ b → (TX7 a).2.1 ≠ (TX7 b).2.1 := by decide +kernel
theorem tyX7_ok : ∀ k, k < 6 → parseFieldDescriptor (TX7 k).2.2.1 = some (tyX7 k) := by decide +kernel
abbrev cX7_init : ByteArray := prog_9_method_1_code
def yX7_init : MethodName := ⟨RX7, "<init>", "()V"⟩
abbrev cX7_play : ByteArray := prog_9_method_2_code
def yX7_play : MethodName := ⟨RX7, "play", "(LLavaLodger$Village;II)I"⟩
abbrev cX7_followAll : ByteArray := prog_9_method_3_code
def yX7_followAll : MethodName := ⟨RX7, "followAll", "(II)V"⟩
abbrev cX7_cell : ByteArray := prog_9_method_4_code
def yX7_cell : MethodName := ⟨RX7, "cell", "(III)I"⟩
abbrev cX7_outcome : ByteArray := prog_9_method_5_code
def yX7_outcome : MethodName := ⟨RX7, "outcome", "(II)I"⟩
abbrev cX7_auntTurn : ByteArray := prog_9_method_6_code
def yX7_auntTurn : MethodName := ⟨RX7, "auntTurn", "(II)I"⟩
abbrev cX7_dresserTurn : ByteArray := prog_9_method_7_code
def yX7_dresserTurn : MethodName := ⟨RX7, "dresserTurn", "(II)I"⟩
abbrev cX7_stonesNow : ByteArray := prog_9_method_8_code
def yX7_stonesNow : MethodName := ⟨RX7, "stonesNow", "()I"⟩
def RX8 : String := "LavaLodger$Village"
def TX8 : u_T := fun k => match k with
  | 0 => ("LavaLodger$Village", "rooms", "I", false)
  | 1 => ("LavaLodger$Village", "things", "I", false)
  | 2 => ("LavaLodger$Village", "feed", "I", false)
  | 3 => ("LavaLodger$Village", "stop", "I", false)
  | 4 => ("LavaLodger$Village", "day", "I", false)
  | 5 => ("LavaLodger$Village", "floor", "[I", true)
  | 6 => ("LavaLodger$Village", "lava", "[I", true)
  | 7 => ("LavaLodger$Village", "wall", "[I", true)
  | 8 => ("LavaLodger$Village", "sort", "[I", true)
  | 9 => ("LavaLodger$Village", "high", "[I", true)
  | 10 => ("LavaLodger$Village", "where", "[I", true)
  | _ => ("LavaLodger$Village", "last", "[I", true)
def tyX8 : Nat → FieldType := fun k => match k with
  | 0 => .int
  | 1 => .int
  | 2 => .int
  | 3 => .int
  | 4 => .int
  | 5 => .array .int
  | 6 => .array .int
  | 7 => .array .int
  | 8 => .array .int
  | 9 => .array .int
  | 10 => .array .int
  | _ => .array .int
abbrev wsX80 : List Cond := u_ws RX8 TX8 12
theorem nmX8 : ∀ a, a < 12 → ∀ b, b < 12 → a ≠ b → (TX8 a).2.1 ≠ (TX8 b).2.1 := by decide +kernel
theorem tyX8_ok : ∀ k, k < 12 → parseFieldDescriptor (TX8 k).2.2.1 = some (tyX8 k) := by decide +kernel
abbrev cX8_init : ByteArray := prog_10_method_1_code
def yX8_init : MethodName := ⟨RX8, "<init>", "()V"⟩
abbrev cX8_become : ByteArray := prog_10_method_2_code
def yX8_become : MethodName := ⟨RX8, "become", "(LLavaLodger$Village;)V"⟩
abbrev cX8_clear : ByteArray := prog_10_method_3_code
def yX8_clear : MethodName := ⟨RX8, "clear", "()V"⟩
abbrev cX8_addRoom : ByteArray := prog_10_method_4_code
def yX8_addRoom : MethodName := ⟨RX8, "addRoom", "(I)V"⟩
abbrev cX8_addThing : ByteArray := prog_10_method_5_code
def yX8_addThing : MethodName := ⟨RX8, "addThing", "(III)V"⟩
abbrev cX8_place : ByteArray := prog_10_method_6_code
def yX8_place : MethodName := ⟨RX8, "place", "(II)V"⟩
abbrev cX8_stands : ByteArray := prog_10_method_7_code
def yX8_stands : MethodName := ⟨RX8, "stands", "(I)Z"⟩
abbrev cX8_carried : ByteArray := prog_10_method_8_code
def yX8_carried : MethodName := ⟨RX8, "carried", "(I)I"⟩
abbrev cX8_goneOn : ByteArray := prog_10_method_9_code
def yX8_goneOn : MethodName := ⟨RX8, "goneOn", "(II)I"⟩
abbrev cX8_standing : ByteArray := prog_10_method_10_code
def yX8_standing : MethodName := ⟨RX8, "standing", "()I"⟩
abbrev cX8_stones : ByteArray := prog_10_method_11_code
def yX8_stones : MethodName := ⟨RX8, "stones", "()I"⟩
abbrev cX8_allAt : ByteArray := prog_10_method_12_code
def yX8_allAt : MethodName := ⟨RX8, "allAt", "(I)I"⟩
abbrev cX8_allLava : ByteArray := prog_10_method_13_code
def yX8_allLava : MethodName := ⟨RX8, "allLava", "()I"⟩
abbrev cX8_pass : ByteArray := prog_10_method_14_code
def yX8_pass : MethodName := ⟨RX8, "pass", "()V"⟩
abbrev cX8_flow : ByteArray := prog_10_method_15_code
def yX8_flow : MethodName := ⟨RX8, "flow", "([III)V"⟩
abbrev cX8_placeAfter : ByteArray := prog_10_method_16_code
def yX8_placeAfter : MethodName := ⟨RX8, "placeAfter", "(III[III)I"⟩
abbrev cX8_pace : ByteArray := prog_10_method_17_code
def yX8_pace : MethodName := ⟨RX8, "pace", "(II[III)I"⟩
def RX9 : String := "LavaLodger"
def TX9 : u_T := fun k => match k with
  | 0 => ("LavaLodger", "rows", "LLavaLodger$Rows;", true)
  | 1 => ("LavaLodger", "tape", "LLavaLodger$Tape;", true)
  | 2 => ("LavaLodger", "now", "LLavaLodger$Village;", true)
  | 3 => ("LavaLodger", "past", "LLavaLodger$Past;", true)
  | 4 => ("LavaLodger", "images", "[LLavaLodger$Village;", true)
  | 5 => ("LavaLodger", "seer", "LLavaLodger$Seer;", true)
  | 6 => ("LavaLodger", "carrier", "LLavaLodger$Carrier;", true)
  | 7 => ("LavaLodger", "turns", "LLavaLodger$Turns;", true)
  | 8 => ("LavaLodger", "asker", "LLavaLodger$Asker;", true)
  | _ => ("LavaLodger", "latestFinding", "I", false)
def tyX9 : Nat → FieldType := fun k => match k with
  | 0 => .object "LavaLodger$Rows"
  | 1 => .object "LavaLodger$Tape"
  | 2 => .object "LavaLodger$Village"
  | 3 => .object "LavaLodger$Past"
  | 4 => .array (.object "LavaLodger$Village")
  | 5 => .object "LavaLodger$Seer"
  | 6 => .object "LavaLodger$Carrier"
  | 7 => .object "LavaLodger$Turns"
  | 8 => .object "LavaLodger$Asker"
  | _ => .int
abbrev wsX90 : List Cond := u_ws RX9 TX9 10
theorem nmX9 : ∀ a, a < 10 → ∀ b, b < 10 → a ≠ b → (TX9 a).2.1 ≠ (TX9 b).2.1 := by decide +kernel
theorem tyX9_ok : ∀ k, k < 10 → parseFieldDescriptor (TX9 k).2.2.1 = some (tyX9 k) := by decide +kernel
abbrev cX9_init : ByteArray := prog_1_method_1_code
def yX9_init : MethodName := ⟨RX9, "<init>", "()V"⟩
abbrev cX9_row : ByteArray := prog_1_method_2_code
def yX9_row : MethodName := ⟨RX9, "row", "(III)I"⟩
abbrev cX9_set : ByteArray := prog_1_method_3_code
def yX9_set : MethodName := ⟨RX9, "set", "(III)I"⟩
abbrev cX9_copy : ByteArray := prog_1_method_4_code
def yX9_copy : MethodName := ⟨RX9, "copy", "(IIIII)I"⟩
abbrev cX9_drop : ByteArray := prog_1_method_5_code
def yX9_drop : MethodName := ⟨RX9, "drop", "(I)I"⟩
abbrev cX9_feed : ByteArray := prog_1_method_6_code
def yX9_feed : MethodName := ⟨RX9, "feed", "(I)I"⟩
abbrev cX9_street : ByteArray := prog_1_method_7_code
def yX9_street : MethodName := ⟨RX9, "street", "()I"⟩
abbrev cX9_fault : ByteArray := prog_1_method_8_code
def yX9_fault : MethodName := ⟨RX9, "fault", "()I"⟩
abbrev cX9_undo : ByteArray := prog_1_method_9_code
def yX9_undo : MethodName := ⟨RX9, "undo", "()I"⟩
abbrev cX9_days : ByteArray := prog_1_method_10_code
def yX9_days : MethodName := ⟨RX9, "days", "(I)I"⟩
abbrev cX9_wall : ByteArray := prog_1_method_11_code
def yX9_wall : MethodName := ⟨RX9, "wall", "(II)I"⟩
abbrev cX9_carry : ByteArray := prog_1_method_12_code
def yX9_carry : MethodName := ⟨RX9, "carry", "(I)I"⟩
abbrev cX9_feeding : ByteArray := prog_1_method_13_code
def yX9_feeding : MethodName := ⟨RX9, "feeding", "(I)I"⟩
abbrev cX9_dig : ByteArray := prog_1_method_14_code
def yX9_dig : MethodName := ⟨RX9, "dig", "(I)I"⟩
abbrev cX9_thing : ByteArray := prog_1_method_15_code
def yX9_thing : MethodName := ⟨RX9, "thing", "(II)I"⟩
abbrev cX9_roomOf : ByteArray := prog_1_method_16_code
def yX9_roomOf : MethodName := ⟨RX9, "roomOf", "(II)I"⟩
abbrev cX9_stand : ByteArray := prog_1_method_17_code
def yX9_stand : MethodName := ⟨RX9, "stand", "(I)I"⟩
abbrev cX9_ahead : ByteArray := prog_1_method_18_code
def yX9_ahead : MethodName := ⟨RX9, "ahead", "(II)I"⟩
abbrev cX9_lava : ByteArray := prog_1_method_19_code
def yX9_lava : MethodName := ⟨RX9, "lava", "(II)I"⟩
abbrev cX9_kept : ByteArray := prog_1_method_20_code
def yX9_kept : MethodName := ⟨RX9, "kept", "(II)I"⟩
abbrev cX9_when : ByteArray := prog_1_method_21_code
def yX9_when : MethodName := ⟨RX9, "when", "(II)I"⟩
abbrev cX9_front : ByteArray := prog_1_method_22_code
def yX9_front : MethodName := ⟨RX9, "front", "(I)I"⟩
abbrev cX9_carries : ByteArray := prog_1_method_23_code
def yX9_carries : MethodName := ⟨RX9, "carries", "(III)I"⟩
abbrev cX9_dam : ByteArray := prog_1_method_24_code
def yX9_dam : MethodName := ⟨RX9, "dam", "(III)I"⟩
abbrev cX9_hold : ByteArray := prog_1_method_25_code
def yX9_hold : MethodName := ⟨RX9, "hold", "(III)I"⟩
abbrev cX9_spare : ByteArray := prog_1_method_26_code
def yX9_spare : MethodName := ⟨RX9, "spare", "(I)I"⟩
abbrev cX9_sets : ByteArray := prog_1_method_27_code
def yX9_sets : MethodName := ⟨RX9, "sets", "(II)I"⟩
abbrev cX9_share : ByteArray := prog_1_method_28_code
def yX9_share : MethodName := ⟨RX9, "share", "(II)I"⟩
abbrev cX9_byTurns : ByteArray := prog_1_method_29_code
def yX9_byTurns : MethodName := ⟨RX9, "byTurns", "(II)I"⟩
abbrev cX9_who : ByteArray := prog_1_method_30_code
def yX9_who : MethodName := ⟨RX9, "who", "(IIIII)I"⟩
abbrev cX9_feeds : ByteArray := prog_1_method_31_code
def yX9_feeds : MethodName := ⟨RX9, "feeds", "(IIIII)I"⟩
abbrev cX9_gives : ByteArray := prog_1_method_32_code
def yX9_gives : MethodName := ⟨RX9, "gives", "(IIII)J"⟩
abbrev cX9_drawn : ByteArray := prog_1_method_33_code
def yX9_drawn : MethodName := ⟨RX9, "drawn", "(III)I"⟩
abbrev cX9_image : ByteArray := prog_1_method_34_code
def yX9_image : MethodName := ⟨RX9, "image", "(I)I"⟩
abbrev cX9_restore : ByteArray := prog_1_method_35_code
def yX9_restore : MethodName := ⟨RX9, "restore", "(I)I"⟩
abbrev cX9_kind : ByteArray := prog_1_method_36_code
def yX9_kind : MethodName := ⟨RX9, "kind", "(I)I"⟩
abbrev cX9_as : ByteArray := prog_1_method_37_code
def yX9_as : MethodName := ⟨RX9, "as", "(II)I"⟩
abbrev cX9_ask : ByteArray := prog_1_method_38_code
def yX9_ask : MethodName := ⟨RX9, "ask", "(II)I"⟩
abbrev cX9_trace : ByteArray := prog_1_method_39_code
def yX9_trace : MethodName := ⟨RX9, "trace", "(I)I"⟩
abbrev cX9_count : ByteArray := prog_1_method_40_code
def yX9_count : MethodName := ⟨RX9, "count", "(I)I"⟩
abbrev cX9_status : ByteArray := prog_1_method_41_code
def yX9_status : MethodName := ⟨RX9, "status", "()I"⟩
abbrev cX9_isStreet : ByteArray := prog_1_method_42_code
def yX9_isStreet : MethodName := ⟨RX9, "isStreet", "()Z"⟩
abbrev cX9_isThing : ByteArray := prog_1_method_43_code
def yX9_isThing : MethodName := ⟨RX9, "isThing", "(I)Z"⟩
abbrev cX9_isRoom : ByteArray := prog_1_method_44_code
def yX9_isRoom : MethodName := ⟨RX9, "isRoom", "(I)Z"⟩
abbrev cX9_found : ByteArray := prog_1_method_45_code
def yX9_found : MethodName := ⟨RX9, "found", "(I)I"⟩
abbrev cX9_unfound : ByteArray := prog_1_method_46_code
def yX9_unfound : MethodName := ⟨RX9, "unfound", "(I)I"⟩
abbrev cX9_within : ByteArray := prog_1_method_47_code
def yX9_within : MethodName := ⟨RX9, "within", "(III)Z"⟩
abbrev cX9_isOfKind : ByteArray := prog_1_method_48_code
def yX9_isOfKind : MethodName := ⟨RX9, "isOfKind", "(II)Z"⟩
def RX10 : String := "LavaLodgerModel"
def TX10 : u_T := fun k => match k with
  | 0 => ("LavaLodgerModel", "lanes", "[I", true)
  | 1 => ("LavaLodgerModel", "sizes", "[I", true)
  | 2 => ("LavaLodgerModel", "items", "[I", true)
  | 3 => ("LavaLodgerModel", "status", "I", false)
  | 4 => ("LavaLodgerModel", "now", "[I", true)
  | 5 => ("LavaLodgerModel", "read", "[I", true)
  | 6 => ("LavaLodgerModel", "aside", "[I", true)
  | 7 => ("LavaLodgerModel", "past", "[I", true)
  | 8 => ("LavaLodgerModel", "acts", "I", false)
  | 9 => ("LavaLodgerModel", "images", "[I", true)
  | 10 => ("LavaLodgerModel", "isKept", "[Z", true)
  | 11 => ("LavaLodgerModel", "tape", "[I", true)
  | 12 => ("LavaLodgerModel", "size", "I", false)
  | 13 => ("LavaLodgerModel", "fault", "I", false)
  | 14 => ("LavaLodgerModel", "trace", "[I", true)
  | 15 => ("LavaLodgerModel", "traced", "I", false)
  | 16 => ("LavaLodgerModel", "at", "I", false)
  | 17 => ("LavaLodgerModel", "begin", "I", false)
  | 18 => ("LavaLodgerModel", "token", "I", false)
  | 19 => ("LavaLodgerModel", "value", "I", false)
  | 20 => ("LavaLodgerModel", "wrong", "I", false)
  | 21 => ("LavaLodgerModel", "turns", "[I", true)
  | 22 => ("LavaLodgerModel", "choice", "[I", true)
  | _ => ("LavaLodgerModel", "worth", "[I", true)
def tyX10 : Nat → FieldType := fun k => match k with
  | 0 => .array .int
  | 1 => .array .int
  | 2 => .array .int
  | 3 => .int
  | 4 => .array .int
  | 5 => .array .int
  | 6 => .array .int
  | 7 => .array .int
  | 8 => .int
  | 9 => .array .int
  | 10 => .array .boolean
  | 11 => .array .int
  | 12 => .int
  | 13 => .int
  | 14 => .array .int
  | 15 => .int
  | 16 => .int
  | 17 => .int
  | 18 => .int
  | 19 => .int
  | 20 => .int
  | 21 => .array .int
  | 22 => .array .int
  | _ => .array .int
abbrev wsX100 : List Cond := u_ws RX10 TX10 24
theorem nmX10 : ∀ a, a < 24 → ∀ b, b < 24 → a ≠ b → (TX10 a).2.1 ≠ (TX10 b).2.1 := by decide +kernel
theorem tyX10_ok : ∀ k, k < 24 → parseFieldDescriptor (TX10 k).2.2.1 = some (tyX10 k) := by decide +kernel
abbrev cX10_init : ByteArray := prog_12_method_1_code
def yX10_init : MethodName := ⟨RX10, "<init>", "()V"⟩
abbrev cX10_in : ByteArray := prog_12_method_3_code
def yX10_in : MethodName := ⟨RX10, "in", "(JJJ)Z"⟩
abbrev cX10_isTwo : ByteArray := prog_12_method_4_code
def yX10_isTwo : MethodName := ⟨RX10, "isTwo", "(I)Z"⟩
abbrev cX10_has : ByteArray := prog_12_method_5_code
def yX10_has : MethodName := ⟨RX10, "has", "(II)Z"⟩
abbrev cX10_less : ByteArray := prog_12_method_6_code
def yX10_less : MethodName := ⟨RX10, "less", "(II)I"⟩
abbrev cX10_bits : ByteArray := prog_12_method_7_code
def yX10_bits : MethodName := ⟨RX10, "bits", "(I)I"⟩
abbrev cX10_copies : ByteArray := prog_12_method_8_code
def yX10_copies : MethodName := ⟨RX10, "copies", "([II[II)V"⟩
abbrev cX10_found : ByteArray := prog_12_method_9_code
def yX10_found : MethodName := ⟨RX10, "found", "(I)I"⟩
abbrev cX10_well : ByteArray := prog_12_method_10_code
def yX10_well : MethodName := ⟨RX10, "well", "(I)I"⟩
abbrev cX10_isRow : ByteArray := prog_12_method_11_code
def yX10_isRow : MethodName := ⟨RX10, "isRow", "(I)Z"⟩
abbrev cX10_row : ByteArray := prog_12_method_12_code
def yX10_row : MethodName := ⟨RX10, "row", "(III)I"⟩
abbrev cX10_set : ByteArray := prog_12_method_13_code
def yX10_set : MethodName := ⟨RX10, "set", "(III)I"⟩
abbrev cX10_copy : ByteArray := prog_12_method_14_code
def yX10_copy : MethodName := ⟨RX10, "copy", "(IIIII)I"⟩
abbrev cX10_drop : ByteArray := prog_12_method_15_code
def yX10_drop : MethodName := ⟨RX10, "drop", "(I)I"⟩
abbrev cX10_feed : ByteArray := prog_12_method_16_code
def yX10_feed : MethodName := ⟨RX10, "feed", "(I)I"⟩
abbrev cX10_here : ByteArray := prog_12_method_17_code
def yX10_here : MethodName := ⟨RX10, "here", "()I"⟩
abbrev cX10_step : ByteArray := prog_12_method_18_code
def yX10_step : MethodName := ⟨RX10, "step", "()V"⟩
abbrev cX10_fails : ByteArray := prog_12_method_19_code
def yX10_fails : MethodName := ⟨RX10, "fails", "(I)Z"⟩
abbrev cX10_number : ByteArray := prog_12_method_20_code
def yX10_number : MethodName := ⟨RX10, "number", "(IIII)Z"⟩
abbrev cX10_sortOf : ByteArray := prog_12_method_21_code
def yX10_sortOf : MethodName := ⟨RX10, "sortOf", "(I)I"⟩
abbrev cX10_readsRoom : ByteArray := prog_12_method_22_code
def yX10_readsRoom : MethodName := ⟨RX10, "readsRoom", "()Z"⟩
abbrev cX10_readsThing : ByteArray := prog_12_method_23_code
def yX10_readsThing : MethodName := ⟨RX10, "readsThing", "()Z"⟩
abbrev cX10_reads : ByteArray := prog_12_method_24_code
def yX10_reads : MethodName := ⟨RX10, "reads", "()Z"⟩
abbrev cX10_street : ByteArray := prog_12_method_25_code
def yX10_street : MethodName := ⟨RX10, "street", "()I"⟩
abbrev cX10_fault : ByteArray := prog_12_method_26_code
def yX10_fault : MethodName := ⟨RX10, "fault", "()I"⟩
abbrev cX10_flows : ByteArray := prog_12_method_27_code
def yX10_flows : MethodName := ⟨RX10, "flows", "([I)V"⟩
abbrev cX10_lies : ByteArray := prog_12_method_28_code
def yX10_lies : MethodName := ⟨RX10, "lies", "([II)Z"⟩
abbrev cX10_stepsOf : ByteArray := prog_12_method_29_code
def yX10_stepsOf : MethodName := ⟨RX10, "stepsOf", "([II)I"⟩
abbrev cX10_goes : ByteArray := prog_12_method_30_code
def yX10_goes : MethodName := ⟨RX10, "goes", "([III)V"⟩
abbrev cX10_passes : ByteArray := prog_12_method_31_code
def yX10_passes : MethodName := ⟨RX10, "passes", "([I)V"⟩
abbrev cX10_goesBy : ByteArray := prog_12_method_32_code
def yX10_goesBy : MethodName := ⟨RX10, "goesBy", "([II)V"⟩
abbrev cX10_whereOf : ByteArray := prog_12_method_33_code
def yX10_whereOf : MethodName := ⟨RX10, "whereOf", "([II)I"⟩
abbrev cX10_those : ByteArray := prog_12_method_34_code
def yX10_those : MethodName := ⟨RX10, "those", "([II)I"⟩
abbrev cX10_stones : ByteArray := prog_12_method_35_code
def yX10_stones : MethodName := ⟨RX10, "stones", "([I)I"⟩
abbrev cX10_isThing : ByteArray := prog_12_method_36_code
def yX10_isThing : MethodName := ⟨RX10, "isThing", "(I)Z"⟩
abbrev cX10_isRoom : ByteArray := prog_12_method_37_code
def yX10_isRoom : MethodName := ⟨RX10, "isRoom", "(I)Z"⟩
abbrev cX10_isThere : ByteArray := prog_12_method_38_code
def yX10_isThere : MethodName := ⟨RX10, "isThere", "()Z"⟩
abbrev cX10_notes : ByteArray := prog_12_method_39_code
def yX10_notes : MethodName := ⟨RX10, "notes", "()V"⟩
abbrev cX10_undo : ByteArray := prog_12_method_40_code
def yX10_undo : MethodName := ⟨RX10, "undo", "()I"⟩
abbrev cX10_days : ByteArray := prog_12_method_41_code
def yX10_days : MethodName := ⟨RX10, "days", "(I)I"⟩
abbrev cX10_wall : ByteArray := prog_12_method_42_code
def yX10_wall : MethodName := ⟨RX10, "wall", "(II)I"⟩
abbrev cX10_carry : ByteArray := prog_12_method_43_code
def yX10_carry : MethodName := ⟨RX10, "carry", "(I)I"⟩
abbrev cX10_feeding : ByteArray := prog_12_method_44_code
def yX10_feeding : MethodName := ⟨RX10, "feeding", "(I)I"⟩
abbrev cX10_dig : ByteArray := prog_12_method_45_code
def yX10_dig : MethodName := ⟨RX10, "dig", "(I)I"⟩
abbrev cX10_thing : ByteArray := prog_12_method_46_code
def yX10_thing : MethodName := ⟨RX10, "thing", "(II)I"⟩
abbrev cX10_thoseIn : ByteArray := prog_12_method_47_code
def yX10_thoseIn : MethodName := ⟨RX10, "thoseIn", "(II)I"⟩
abbrev cX10_roomOf : ByteArray := prog_12_method_48_code
def yX10_roomOf : MethodName := ⟨RX10, "roomOf", "(II)I"⟩
abbrev cX10_stand : ByteArray := prog_12_method_49_code
def yX10_stand : MethodName := ⟨RX10, "stand", "(I)I"⟩
abbrev cX10_laysAside : ByteArray := prog_12_method_50_code
def yX10_laysAside : MethodName := ⟨RX10, "laysAside", "(I)V"⟩
abbrev cX10_ahead : ByteArray := prog_12_method_51_code
def yX10_ahead : MethodName := ⟨RX10, "ahead", "(II)I"⟩
abbrev cX10_lava : ByteArray := prog_12_method_52_code
def yX10_lava : MethodName := ⟨RX10, "lava", "(II)I"⟩
abbrev cX10_kept : ByteArray := prog_12_method_53_code
def yX10_kept : MethodName := ⟨RX10, "kept", "(II)I"⟩
abbrev cX10_isSo : ByteArray := prog_12_method_54_code
def yX10_isSo : MethodName := ⟨RX10, "isSo", "(II)Z"⟩
abbrev cX10_when : ByteArray := prog_12_method_55_code
def yX10_when : MethodName := ⟨RX10, "when", "(II)I"⟩
abbrev cX10_front : ByteArray := prog_12_method_56_code
def yX10_front : MethodName := ⟨RX10, "front", "(I)I"⟩
abbrev cX10_power : ByteArray := prog_12_method_57_code
def yX10_power : MethodName := ⟨RX10, "power", "(II)I"⟩
abbrev cX10_keeps : ByteArray := prog_12_method_58_code
def yX10_keeps : MethodName := ⟨RX10, "keeps", "(III)I"⟩
abbrev cX10_carries : ByteArray := prog_12_method_59_code
def yX10_carries : MethodName := ⟨RX10, "carries", "(III)I"⟩
abbrev cX10_dam : ByteArray := prog_12_method_60_code
def yX10_dam : MethodName := ⟨RX10, "dam", "(III)I"⟩
abbrev cX10_hold : ByteArray := prog_12_method_61_code
def yX10_hold : MethodName := ⟨RX10, "hold", "(III)I"⟩
abbrev cX10_spare : ByteArray := prog_12_method_62_code
def yX10_spare : MethodName := ⟨RX10, "spare", "(I)I"⟩
abbrev cX10_highOf : ByteArray := prog_12_method_63_code
def yX10_highOf : MethodName := ⟨RX10, "highOf", "(I)I"⟩
abbrev cX10_sets : ByteArray := prog_12_method_64_code
def yX10_sets : MethodName := ⟨RX10, "sets", "(II)I"⟩
abbrev cX10_share : ByteArray := prog_12_method_65_code
def yX10_share : MethodName := ⟨RX10, "share", "(II)I"⟩
abbrev cX10_chooses : ByteArray := prog_12_method_66_code
def yX10_chooses : MethodName := ⟨RX10, "chooses", "(II)Z"⟩
abbrev cX10_endsIn : ByteArray := prog_12_method_67_code
def yX10_endsIn : MethodName := ⟨RX10, "endsIn", "(II)I"⟩
abbrev cX10_byTurns : ByteArray := prog_12_method_68_code
def yX10_byTurns : MethodName := ⟨RX10, "byTurns", "(II)I"⟩
abbrev cX10_fits : ByteArray := prog_12_method_69_code
def yX10_fits : MethodName := ⟨RX10, "fits", "(IIIII)Z"⟩
abbrev cX10_lacks : ByteArray := prog_12_method_70_code
def yX10_lacks : MethodName := ⟨RX10, "lacks", "(III)I"⟩
abbrev cX10_who : ByteArray := prog_12_method_71_code
def yX10_who : MethodName := ⟨RX10, "who", "(IIIII)I"⟩
abbrev cX10_feeds : ByteArray := prog_12_method_72_code
def yX10_feeds : MethodName := ⟨RX10, "feeds", "(IIIII)I"⟩
abbrev cX10_divisor : ByteArray := prog_12_method_73_code
def yX10_divisor : MethodName := ⟨RX10, "divisor", "(JJ)J"⟩
abbrev cX10_gives : ByteArray := prog_12_method_74_code
def yX10_gives : MethodName := ⟨RX10, "gives", "(IIII)J"⟩
abbrev cX10_drawn : ByteArray := prog_12_method_75_code
def yX10_drawn : MethodName := ⟨RX10, "drawn", "(III)I"⟩
abbrev cX10_image : ByteArray := prog_12_method_76_code
def yX10_image : MethodName := ⟨RX10, "image", "(I)I"⟩
abbrev cX10_restore : ByteArray := prog_12_method_77_code
def yX10_restore : MethodName := ⟨RX10, "restore", "(I)I"⟩
abbrev cX10_kind : ByteArray := prog_12_method_78_code
def yX10_kind : MethodName := ⟨RX10, "kind", "(I)I"⟩
abbrev cX10_isOf : ByteArray := prog_12_method_79_code
def yX10_isOf : MethodName := ⟨RX10, "isOf", "(II)Z"⟩
abbrev cX10_as : ByteArray := prog_12_method_80_code
def yX10_as : MethodName := ⟨RX10, "as", "(II)I"⟩
abbrev cX10_leave : ByteArray := prog_12_method_81_code
def yX10_leave : MethodName := ⟨RX10, "leave", "(J)V"⟩
abbrev cX10_mark : ByteArray := prog_12_method_82_code
def yX10_mark : MethodName := ⟨RX10, "mark", "(I)I"⟩
abbrev cX10_sizeOf : ByteArray := prog_12_method_83_code
def yX10_sizeOf : MethodName := ⟨RX10, "sizeOf", "(I)I"⟩
abbrev cX10_ask : ByteArray := prog_12_method_84_code
def yX10_ask : MethodName := ⟨RX10, "ask", "(II)I"⟩
abbrev cX10_trace : ByteArray := prog_12_method_85_code
def yX10_trace : MethodName := ⟨RX10, "trace", "(I)I"⟩
abbrev cX10_count : ByteArray := prog_12_method_86_code
def yX10_count : MethodName := ⟨RX10, "count", "(I)I"⟩
abbrev cX10_status : ByteArray := prog_12_method_87_code
def yX10_status : MethodName := ⟨RX10, "status", "()I"⟩
def RJ6 : String := "java/lang/Integer"
def TJ6 : u_T := fun k => match k with
  | _ => ("", "", "", false)
def tyJ6 : Nat → FieldType := fun k => match k with
  | _ => .int
abbrev wsJ60 : List Cond := u_ws RJ6 TJ6 0
theorem nmJ6 : ∀ a, a < 0 → ∀ b, b < 0 → a ≠ b → (TJ6 a).2.1 ≠ (TJ6 b).2.1 := by decide +kernel
theorem tyJ6_ok : ∀ k, k < 0 → parseFieldDescriptor (TJ6 k).2.2.1 = some (tyJ6 k) := by decide +kernel
abbrev cJ6_numberOfTrailingZeros_0f7a4 : ByteArray := prog_13_method_48_code
def yJ6_numberOfTrailingZeros_0f7a4 : MethodName := ⟨RJ6, "numberOfTrailingZeros", "(I)I"⟩
abbrev cJ6_bitCount_0f7a4 : ByteArray := prog_13_method_49_code
def yJ6_bitCount_0f7a4 : MethodName := ⟨RJ6, "bitCount", "(I)I"⟩
def RJ9 : String := "java/lang/Math"
def TJ9 : u_T := fun k => match k with
  | _ => ("", "", "", false)
def tyJ9 : Nat → FieldType := fun k => match k with
  | _ => .int
abbrev wsJ90 : List Cond := u_ws RJ9 TJ9 0
theorem nmJ9 : ∀ a, a < 0 → ∀ b, b < 0 → a ≠ b → (TJ9 a).2.1 ≠ (TJ9 b).2.1 := by decide +kernel
theorem tyJ9_ok : ∀ k, k < 0 → parseFieldDescriptor (TJ9 k).2.2.1 = some (tyJ9 k) := by decide +kernel
abbrev cJ9_max_7cf53 : ByteArray := prog_14_method_65_code
def yJ9_max_7cf53 : MethodName := ⟨RJ9, "max", "(II)I"⟩
abbrev cJ9_min_7cf53 : ByteArray := prog_14_method_69_code
def yJ9_min_7cf53 : MethodName := ⟨RJ9, "min", "(II)I"⟩
def RJ10 : String := "java/lang/System"
def TJ10 : u_T := fun k => match k with
  | _ => ("", "", "", false)
def tyJ10 : Nat → FieldType := fun k => match k with
  | _ => .int
abbrev wsJ100 : List Cond := u_ws RJ10 TJ10 0
theorem nmJ10 : ∀ a, a < 0 → ∀ b, b < 0 → a ≠ b → (TJ10 a).2.1 ≠ (TJ10 b).2.1 := by decide +kernel
theorem tyJ10_ok : ∀ k, k < 0 → parseFieldDescriptor (TJ10 k).2.2.1 = some (tyJ10 k) := by decide +kernel
def RL : String := "LavaLodgerLaw"
abbrev cL_law : ByteArray := code
def yL_law : MethodName := ⟨RL, "law", "([I)Z"⟩
def wsL_law_r1 : List Cond := [Cond.classLink RL 7 RX9, Cond.instantiable RX9 10, Cond.initialized RX9, Cond.classLink RL 10 RX10, Cond.instantiable RX10 24, Cond.initialized RX10, Cond.methodLink RL 9 yX9_init, Cond.instanceMethod yX9_init, Cond.code yX9_init cX9_init 2 none, Cond.methodLink RX9 1 objectInit, Cond.instanceMethod objectInit, Cond.code objectInit ⟨#[0xb1]⟩ 1 none, Cond.classLink RX9 7 RX4, Cond.instantiable RX4 3, Cond.initialized RX4, Cond.fieldLink RX9 10 "LavaLodger" "rows" "LLavaLodger$Rows;", Cond.classLink RX9 16 RX6, Cond.instantiable RX6 6, Cond.initialized RX6, Cond.fieldLink RX9 19 "LavaLodger" "tape" "LLavaLodger$Tape;", Cond.classLink RX9 23 RX8, Cond.instantiable RX8 12, Cond.initialized RX8, Cond.fieldLink RX9 26 "LavaLodger" "now" "LLavaLodger$Village;"]
def wsL_law_r2 : List Cond := [Cond.classLink RX9 30 RX3, Cond.instantiable RX3 3, Cond.initialized RX3, Cond.fieldLink RX9 33 "LavaLodger" "past" "LLavaLodger$Past;", Cond.fieldLink RX9 37 "LavaLodger" "images" "[LLavaLodger$Village;", Cond.classLink RX9 41 RX5, Cond.instantiable RX5 4, Cond.initialized RX5, Cond.fieldLink RX9 44 "LavaLodger" "seer" "LLavaLodger$Seer;", Cond.classLink RX9 48 RX1, Cond.instantiable RX1 8, Cond.initialized RX1, Cond.fieldLink RX9 51 "LavaLodger" "carrier" "LLavaLodger$Carrier;", Cond.classLink RX9 55 RX7, Cond.instantiable RX7 6, Cond.initialized RX7, Cond.fieldLink RX9 58 "LavaLodger" "turns" "LLavaLodger$Turns;", Cond.classLink RX9 62 RX0, Cond.instantiable RX0 2, Cond.initialized RX0, Cond.fieldLink RX9 65 "LavaLodger" "asker" "LLavaLodger$Asker;", Cond.fieldLink RX9 69 "LavaLodger" "latestFinding" "I", Cond.methodLink RX9 9 yX4_init, Cond.instanceMethod yX4_init]
def wsL_law_r3 : List Cond := [Cond.code yX4_init cX4_init 2 none, Cond.methodLink RX4 3 objectInit, Cond.classLink RX4 11 "[[I", Cond.arrayClass .int, Cond.fieldLink RX4 13 "LavaLodger$Rows" "items" "[[I", Cond.fieldLink RX4 16 "LavaLodger$Rows" "lanes" "[I", Cond.fieldLink RX4 20 "LavaLodger$Rows" "sizes" "[I", Cond.instanceMethod yX6_init, Cond.code yX6_init cX6_init 1 none, Cond.methodLink RX6 3 objectInit, Cond.classLink RX6 9 RX8, Cond.fieldLink RX6 12 "LavaLodger$Tape" "draft" "LLavaLodger$Village;", Cond.fieldLink RX6 18 "LavaLodger$Tape" "bytes" "I", Cond.fieldLink RX6 22 "LavaLodger$Tape" "faultNumber" "I", Cond.fieldLink RX6 25 "LavaLodger$Tape" "faultPlace" "I", Cond.fieldLink RX6 28 "LavaLodger$Tape" "letters" "[I", Cond.fieldLink RX6 32 "LavaLodger$Tape" "at" "I", Cond.instanceMethod yX8_init, Cond.code yX8_init cX8_init 1 none, Cond.methodLink RX8 3 objectInit, Cond.fieldLink RX8 9 "LavaLodger$Village" "rooms" "I", Cond.fieldLink RX8 15 "LavaLodger$Village" "things" "I", Cond.fieldLink RX8 18 "LavaLodger$Village" "feed" "I", Cond.fieldLink RX8 21 "LavaLodger$Village" "stop" "I"]
def wsL_law_r4 : List Cond := [Cond.fieldLink RX8 24 "LavaLodger$Village" "day" "I", Cond.fieldLink RX8 27 "LavaLodger$Village" "floor" "[I", Cond.fieldLink RX8 31 "LavaLodger$Village" "lava" "[I", Cond.fieldLink RX8 34 "LavaLodger$Village" "wall" "[I", Cond.fieldLink RX8 37 "LavaLodger$Village" "sort" "[I", Cond.fieldLink RX8 40 "LavaLodger$Village" "high" "[I", Cond.fieldLink RX8 43 "LavaLodger$Village" "where" "[I", Cond.fieldLink RX8 46 "LavaLodger$Village" "last" "[I", Cond.methodLink RX9 32 yX3_init, Cond.instanceMethod yX3_init, Cond.code yX3_init cX3_init 2 none, Cond.methodLink RX3 3 objectInit, Cond.fieldLink RX3 9 "LavaLodger$Past" "acts" "I", Cond.fieldLink RX3 15 "LavaLodger$Past" "oldest" "I", Cond.classLink RX3 18 RX8, Cond.fieldLink RX3 20 "LavaLodger$Past" "ring" "[LLavaLodger$Village;", Cond.instanceMethod yX5_init, Cond.code yX5_init cX5_init 1 none, Cond.methodLink RX5 3 objectInit, Cond.classLink RX5 9 RX8, Cond.fieldLink RX5 12 "LavaLodger$Seer" "trial" "LLavaLodger$Village;", Cond.classLink RX5 18 RX2, Cond.instantiable RX2 2, Cond.initialized RX2]
def wsL_law_r5 : List Cond := [Cond.fieldLink RX5 23 "LavaLodger$Seer" "forecast" "LLavaLodger$Forecast;", Cond.fieldLink RX5 27 "LavaLodger$Seer" "heard" "[I", Cond.fieldLink RX5 31 "LavaLodger$Seer" "heardDays" "I", Cond.methodLink RX5 20 yX2_init, Cond.instanceMethod yX2_init, Cond.code yX2_init cX2_init 2 none, Cond.methodLink RX2 3 objectInit, Cond.methodLink RX2 9 Lib.Math.max.name, Cond.static Lib.Math.max.name, Cond.initialized "java/lang/Math", Cond.code Lib.Math.max.name Lib.Math.max.code 2 (some .int), Cond.fieldLink RX2 15 "LavaLodger$Forecast" "mostDays" "I", Cond.fieldLink RX2 21 "LavaLodger$Forecast" "lies" "[I", Cond.instanceMethod yX1_init, Cond.code yX1_init cX1_init 1 none, Cond.methodLink RX1 5 objectInit, Cond.fieldLink RX1 11 "LavaLodger$Carrier" "fewest" "I", Cond.classLink RX1 15 RX2, Cond.fieldLink RX1 20 "LavaLodger$Carrier" "forecast" "LLavaLodger$Forecast;", Cond.arrayClass .boolean, Cond.fieldLink RX1 24 "LavaLodger$Carrier" "stone" "[Z", Cond.fieldLink RX1 28 "LavaLodger$Carrier" "choice" "[I", Cond.fieldLink RX1 32 "LavaLodger$Carrier" "best" "[I", Cond.fieldLink RX1 35 "LavaLodger$Carrier" "daysOf" "[I"]
def wsL_law_r6 : List Cond := [Cond.fieldLink RX1 38 "LavaLodger$Carrier" "things" "I", Cond.fieldLink RX1 41 "LavaLodger$Carrier" "carries" "I", Cond.methodLink RX1 17 yX2_init, Cond.instanceMethod yX7_init, Cond.code yX7_init cX7_init 1 none, Cond.methodLink RX7 5 objectInit, Cond.classLink RX7 11 RX8, Cond.fieldLink RX7 14 "LavaLodger$Turns" "trial" "LLavaLodger$Village;", Cond.classLink RX7 18 RX2, Cond.fieldLink RX7 23 "LavaLodger$Turns" "forecast" "LLavaLodger$Forecast;", Cond.fieldLink RX7 27 "LavaLodger$Turns" "stone" "[Z", Cond.fieldLink RX7 31 "LavaLodger$Turns" "carriedOf" "[I", Cond.fieldLink RX7 35 "LavaLodger$Turns" "raised" "I", Cond.fieldLink RX7 39 "LavaLodger$Turns" "things" "I", Cond.methodLink RX7 20 yX2_init, Cond.instanceMethod yX0_init, Cond.code yX0_init cX0_init 1 none, Cond.methodLink RX0 3 objectInit, Cond.fieldLink RX0 9 "LavaLodger$Asker" "traced" "I", Cond.fieldLink RX0 15 "LavaLodger$Asker" "begun" "[I", Cond.methodLink RL 12 yX10_init, Cond.instanceMethod yX10_init, Cond.code yX10_init cX10_init 2 none, Cond.methodLink RX10 1 objectInit]
def wsL_law_r7 : List Cond := [Cond.fieldLink RX10 7 "LavaLodgerModel" "lanes" "[I", Cond.fieldLink RX10 13 "LavaLodgerModel" "sizes" "[I", Cond.fieldLink RX10 16 "LavaLodgerModel" "items" "[I", Cond.fieldLink RX10 19 "LavaLodgerModel" "now" "[I", Cond.fieldLink RX10 22 "LavaLodgerModel" "read" "[I", Cond.fieldLink RX10 25 "LavaLodgerModel" "aside" "[I", Cond.fieldLink RX10 28 "LavaLodgerModel" "past" "[I", Cond.fieldLink RX10 31 "LavaLodgerModel" "images" "[I", Cond.fieldLink RX10 34 "LavaLodgerModel" "isKept" "[Z", Cond.fieldLink RX10 38 "LavaLodgerModel" "tape" "[I", Cond.fieldLink RX10 41 "LavaLodgerModel" "trace" "[I", Cond.fieldLink RX10 44 "LavaLodgerModel" "turns" "[I", Cond.fieldLink RX10 47 "LavaLodgerModel" "choice" "[I", Cond.fieldLink RX10 50 "LavaLodgerModel" "worth" "[I", Cond.methodLink RL 13 yX9_row, Cond.instanceMethod yX9_row, Cond.selects RX9 yX9_row yX9_row, Cond.code yX9_row cX9_row 4 (some .int), Cond.constant RX9 81 (-1000001), Cond.methodLink RX9 73 yX4_isNumber, Cond.instanceMethod yX4_isNumber, Cond.selects RX4 yX4_isNumber yX4_isNumber, Cond.code yX4_isNumber cX4_isNumber 2 (some .boolean), Cond.methodLink RX9 77 yX9_within]
def wsL_law_r8 : List Cond := [Cond.static yX9_within, Cond.code yX9_within cX9_within 3 (some .boolean), Cond.methodLink RX9 82 yX9_found, Cond.instanceMethod yX9_found, Cond.selects RX9 yX9_found yX9_found, Cond.code yX9_found cX9_found 2 (some .int), Cond.constant RX9 331 (-1000010), Cond.methodLink RX9 86 yX4_make, Cond.instanceMethod yX4_make, Cond.selects RX4 yX4_make yX4_make, Cond.code yX4_make cX4_make 5 none, Cond.methodLink RX9 90 yX9_unfound, Cond.instanceMethod yX9_unfound, Cond.selects RX9 yX9_unfound yX9_unfound, Cond.code yX9_unfound cX9_unfound 2 (some .int), Cond.methodLink RL 17 yX10_row, Cond.instanceMethod yX10_row, Cond.selects RX10 yX10_row yX10_row, Cond.code yX10_row cX10_row 5 (some .int), Cond.constantLong RX10 68 (2), Cond.constant RX10 70 (-1000001), Cond.methodLink RX10 64 yX10_isRow, Cond.static yX10_isRow, Cond.code yX10_isRow cX10_isRow 1 (some .boolean)]
def wsL_law_r9 : List Cond := [Cond.constantLong RX10 62 (7), Cond.methodLink RX10 53 yX10_in, Cond.static yX10_in, Cond.code yX10_in cX10_in 6 (some .boolean), Cond.methodLink RX10 71 yX10_found, Cond.instanceMethod yX10_found, Cond.selects RX10 yX10_found yX10_found, Cond.code yX10_found cX10_found 2 (some .int), Cond.fieldLink RX10 57 "LavaLodgerModel" "status" "I", Cond.constant RX10 61 (-1000010), Cond.methodLink RX10 75 yX10_well, Cond.instanceMethod yX10_well, Cond.selects RX10 yX10_well yX10_well, Cond.code yX10_well cX10_well 2 (some .int), Cond.methodLink RL 18 yX9_set, Cond.instanceMethod yX9_set, Cond.selects RX9 yX9_set yX9_set, Cond.code yX9_set cX9_set 5 (some .int), Cond.methodLink RX9 93 yX4_findingAt, Cond.instanceMethod yX4_findingAt, Cond.selects RX4 yX4_findingAt yX4_findingAt, Cond.code yX4_findingAt cX4_findingAt 4 (some .int), Cond.methodLink RX4 23 yX4_isMissing, Cond.instanceMethod yX4_isMissing]
def wsL_law_r10 : List Cond := [Cond.selects RX4 yX4_isMissing yX4_isMissing, Cond.code yX4_isMissing cX4_isMissing 2 (some .boolean), Cond.methodLink RX4 37 yX4_hasPlaces, Cond.instanceMethod yX4_hasPlaces, Cond.selects RX4 yX4_hasPlaces yX4_hasPlaces, Cond.code yX4_hasPlaces cX4_hasPlaces 4 (some .boolean), Cond.methodLink RX9 97 yX4_put, Cond.instanceMethod yX4_put, Cond.selects RX4 yX4_put yX4_put, Cond.code yX4_put cX4_put 4 (some .int), Cond.methodLink RX4 27 yX4_cut, Cond.static yX4_cut, Cond.code yX4_cut cX4_cut 2 (some .int), Cond.methodLink RL 21 yX10_set, Cond.instanceMethod yX10_set, Cond.selects RX10 yX10_set yX10_set, Cond.code yX10_set cX10_set 4 (some .int), Cond.methodLink RL 22 yX9_copy, Cond.instanceMethod yX9_copy, Cond.selects RX9 yX9_copy yX9_copy, Cond.code yX9_copy cX9_copy 7 (some .int), Cond.methodLink RX9 100 yX4_findingBetween, Cond.instanceMethod yX4_findingBetween, Cond.selects RX4 yX4_findingBetween yX4_findingBetween]
def wsL_law_r11 : List Cond := [Cond.code yX4_findingBetween cX4_findingBetween 6 (some .int), Cond.methodLink RX9 104 yX4_move, Cond.instanceMethod yX4_move, Cond.selects RX4 yX4_move yX4_move, Cond.code yX4_move cX4_move 6 none, Cond.methodLink RX4 31 arraycopyName, Cond.native arraycopyName, Cond.static arraycopyName, Cond.initialized "java/lang/System", Cond.methodLink RL 26 yX10_copy, Cond.instanceMethod yX10_copy, Cond.selects RX10 yX10_copy yX10_copy, Cond.code yX10_copy cX10_copy 8 (some .int), Cond.methodLink RL 27 yX9_drop, Cond.instanceMethod yX9_drop, Cond.selects RX9 yX9_drop yX9_drop, Cond.code yX9_drop cX9_drop 2 (some .int), Cond.methodLink RX9 108 yX4_isMissing, Cond.methodLink RX9 111 yX4_lose, Cond.instanceMethod yX4_lose, Cond.selects RX4 yX4_lose yX4_lose, Cond.code yX4_lose cX4_lose 2 (some .int), Cond.methodLink RL 31 yX10_drop, Cond.instanceMethod yX10_drop]
def wsL_law_r12 : List Cond := [Cond.selects RX10 yX10_drop yX10_drop, Cond.code yX10_drop cX10_drop 3 (some .int), Cond.methodLink RL 32 yX9_feed, Cond.instanceMethod yX9_feed, Cond.selects RX9 yX9_feed yX9_feed, Cond.code yX9_feed cX9_feed 2 (some .int), Cond.fieldLink RX9 117 "LavaLodger$Tape" "bytes" "I", Cond.constant RX9 120 (-1000003), Cond.methodLink RX9 114 yX6_takeByte, Cond.instanceMethod yX6_takeByte, Cond.selects RX6 yX6_takeByte yX6_takeByte, Cond.code yX6_takeByte cX6_takeByte 2 (some .boolean), Cond.methodLink RL 35 yX10_feed, Cond.instanceMethod yX10_feed, Cond.selects RX10 yX10_feed yX10_feed, Cond.code yX10_feed cX10_feed 2 (some .int), Cond.constantLong RX10 78 (255), Cond.fieldLink RX10 80 "LavaLodgerModel" "size" "I", Cond.constant RX10 83 (-1000003), Cond.methodLink RL 36 yX9_street, Cond.instanceMethod yX9_street, Cond.selects RX9 yX9_street yX9_street, Cond.code yX9_street cX9_street 1 (some .int), Cond.constant RX9 125 (-1000100)]
def wsL_law_r13 : List Cond := [Cond.fieldLink RX9 126 "LavaLodger$Tape" "faultPlace" "I", Cond.fieldLink RX9 129 "LavaLodger$Tape" "draft" "LLavaLodger$Village;", Cond.fieldLink RX9 139 "LavaLodger$Village" "things" "I", Cond.methodLink RX9 121 yX6_read, Cond.instanceMethod yX6_read, Cond.selects RX6 yX6_read yX6_read, Cond.code yX6_read cX6_read 2 (some .boolean), Cond.methodLink RX6 35 yX8_clear, Cond.instanceMethod yX8_clear, Cond.selects RX8 yX8_clear yX8_clear, Cond.code yX8_clear cX8_clear 1 none, Cond.methodLink RX6 38 yX6_readLaw, Cond.instanceMethod yX6_readLaw, Cond.selects RX6 yX6_readLaw yX6_readLaw, Cond.code yX6_readLaw cX6_readLaw 1 (some .boolean), Cond.fieldLink RX6 56 "LavaLodger$Village" "feed" "I", Cond.fieldLink RX6 59 "LavaLodger$Village" "stop" "I", Cond.methodLink RX6 48 yX6_readSign, Cond.instanceMethod yX6_readSign, Cond.selects RX6 yX6_readSign yX6_readSign, Cond.code yX6_readSign cX6_readSign 2 (some .boolean), Cond.methodLink RX6 62 yX6_next, Cond.instanceMethod yX6_next, Cond.selects RX6 yX6_next yX6_next]
def wsL_law_r14 : List Cond := [Cond.code yX6_next cX6_next 1 (some .int), Cond.methodLink RX6 72 yX6_fails, Cond.instanceMethod yX6_fails, Cond.selects RX6 yX6_fails yX6_fails, Cond.code yX6_fails cX6_fails 2 (some .boolean), Cond.methodLink RX6 52 yX6_readNumber, Cond.instanceMethod yX6_readNumber, Cond.selects RX6 yX6_readNumber yX6_readNumber, Cond.code yX6_readNumber cX6_readNumber 6 (some .int), Cond.methodLink RX6 42 yX6_readRooms, Cond.instanceMethod yX6_readRooms, Cond.selects RX6 yX6_readRooms yX6_readRooms, Cond.code yX6_readRooms cX6_readRooms 2 (some .boolean), Cond.fieldLink RX6 69 "LavaLodger$Village" "rooms" "I", Cond.methodLink RX6 66 yX6_readRoom, Cond.instanceMethod yX6_readRoom, Cond.selects RX6 yX6_readRoom yX6_readRoom, Cond.code yX6_readRoom cX6_readRoom 2 (some .boolean), Cond.methodLink RX6 75 yX8_addRoom, Cond.instanceMethod yX8_addRoom, Cond.selects RX8 yX8_addRoom yX8_addRoom, Cond.code yX8_addRoom cX8_addRoom 2 none, Cond.methodLink RX6 45 yX6_readThings, Cond.instanceMethod yX6_readThings]
def wsL_law_r15 : List Cond := [Cond.selects RX6 yX6_readThings yX6_readThings, Cond.code yX6_readThings cX6_readThings 2 (some .boolean), Cond.methodLink RX6 79 yX6_readThing, Cond.instanceMethod yX6_readThing, Cond.selects RX6 yX6_readThing yX6_readThing, Cond.code yX6_readThing cX6_readThing 4 (some .boolean), Cond.methodLink RX6 82 yX6_sortOf, Cond.static yX6_sortOf, Cond.code yX6_sortOf cX6_sortOf 1 (some .int), Cond.methodLink RX6 86 yX8_addThing, Cond.instanceMethod yX8_addThing, Cond.selects RX8 yX8_addThing yX8_addThing, Cond.code yX8_addThing cX8_addThing 4 none, Cond.methodLink RX8 55 yX8_place, Cond.instanceMethod yX8_place, Cond.selects RX8 yX8_place yX8_place, Cond.code yX8_place cX8_place 3 none, Cond.methodLink RX9 132 yX8_become, Cond.instanceMethod yX8_become, Cond.selects RX8 yX8_become yX8_become, Cond.code yX8_become cX8_become 2 none, Cond.methodLink RX8 49 arraycopyName, Cond.methodLink RX9 136 yX3_forget, Cond.instanceMethod yX3_forget]
def wsL_law_r16 : List Cond := [Cond.selects RX3 yX3_forget yX3_forget, Cond.code yX3_forget cX3_forget 1 none, Cond.methodLink RL 40 yX10_street, Cond.instanceMethod yX10_street, Cond.selects RX10 yX10_street yX10_street, Cond.code yX10_street cX10_street 2 (some .int), Cond.fieldLink RX10 108 "LavaLodgerModel" "wrong" "I", Cond.fieldLink RX10 134 "LavaLodgerModel" "fault" "I", Cond.constant RX10 137 (-1000100), Cond.fieldLink RX10 87 "LavaLodgerModel" "begin" "I", Cond.fieldLink RX10 142 "LavaLodgerModel" "acts" "I", Cond.methodLink RX10 131 yX10_reads, Cond.instanceMethod yX10_reads, Cond.selects RX10 yX10_reads yX10_reads, Cond.code yX10_reads cX10_reads 2 (some .boolean), Cond.fieldLink RX10 84 "LavaLodgerModel" "at" "I", Cond.fieldLink RX10 105 "LavaLodgerModel" "token" "I", Cond.fieldLink RX10 94 "LavaLodgerModel" "value" "I", Cond.methodLink RX10 111 yX10_step, Cond.instanceMethod yX10_step, Cond.selects RX10 yX10_step yX10_step, Cond.code yX10_step cX10_step 1 none, Cond.constantLong RX10 97 (97), Cond.constantLong RX10 99 (122)]
def wsL_law_r17 : List Cond := [Cond.constantLong RX10 101 (48), Cond.constantLong RX10 103 (57), Cond.methodLink RX10 90 yX10_here, Cond.instanceMethod yX10_here, Cond.selects RX10 yX10_here yX10_here, Cond.code yX10_here cX10_here 1 (some .int), Cond.methodLink RX10 114 yX10_fails, Cond.instanceMethod yX10_fails, Cond.selects RX10 yX10_fails yX10_fails, Cond.code yX10_fails cX10_fails 2 (some .boolean), Cond.methodLink RX10 117 yX10_number, Cond.instanceMethod yX10_number, Cond.selects RX10 yX10_number yX10_number, Cond.code yX10_number cX10_number 5 (some .boolean), Cond.methodLink RX10 124 yX10_readsRoom, Cond.instanceMethod yX10_readsRoom, Cond.selects RX10 yX10_readsRoom yX10_readsRoom, Cond.code yX10_readsRoom cX10_readsRoom 2 (some .boolean), Cond.methodLink RX10 128 yX10_readsThing, Cond.instanceMethod yX10_readsThing, Cond.selects RX10 yX10_readsThing yX10_readsThing, Cond.code yX10_readsThing cX10_readsThing 3 (some .boolean), Cond.methodLink RX10 121 yX10_sortOf, Cond.static yX10_sortOf]
def wsL_law_r18 : List Cond := [Cond.code yX10_sortOf cX10_sortOf 1 (some .int), Cond.methodLink RX10 138 yX10_copies, Cond.static yX10_copies, Cond.code yX10_copies cX10_copies 5 none, Cond.methodLink RL 41 yX9_fault, Cond.instanceMethod yX9_fault, Cond.selects RX9 yX9_fault yX9_fault, Cond.code yX9_fault cX9_fault 1 (some .int), Cond.fieldLink RX9 142 "LavaLodger$Tape" "faultNumber" "I", Cond.methodLink RL 44 yX10_fault, Cond.instanceMethod yX10_fault, Cond.selects RX10 yX10_fault yX10_fault, Cond.code yX10_fault cX10_fault 1 (some .int), Cond.methodLink RL 45 yX9_undo, Cond.instanceMethod yX9_undo, Cond.selects RX9 yX9_undo yX9_undo, Cond.code yX9_undo cX9_undo 1 (some .int), Cond.fieldLink RX9 149 "LavaLodger$Past" "acts" "I", Cond.constant RX9 152 (-1000002), Cond.methodLink RX9 145 yX3_goBack, Cond.instanceMethod yX3_goBack, Cond.selects RX3 yX3_goBack yX3_goBack, Cond.code yX3_goBack cX3_goBack 2 (some .boolean), Cond.methodLink RX3 25 yX8_become]
def wsL_law_r19 : List Cond := [Cond.methodLink RL 48 yX10_undo, Cond.instanceMethod yX10_undo, Cond.selects RX10 yX10_undo yX10_undo, Cond.code yX10_undo cX10_undo 1 (some .int), Cond.constant RX10 174 (-1000002), Cond.methodLink RL 49 yX9_days, Cond.instanceMethod yX9_days, Cond.selects RX9 yX9_days yX9_days, Cond.code yX9_days cX9_days 3 (some .int), Cond.fieldLink RX9 156 "LavaLodger$Village" "day" "I", Cond.methodLink RX9 153 yX9_isStreet, Cond.instanceMethod yX9_isStreet, Cond.selects RX9 yX9_isStreet yX9_isStreet, Cond.code yX9_isStreet cX9_isStreet 1 (some .boolean), Cond.fieldLink RX9 210 "LavaLodger$Village" "rooms" "I", Cond.methodLink RX9 159 yX3_keep, Cond.instanceMethod yX3_keep, Cond.selects RX3 yX3_keep yX3_keep, Cond.code yX3_keep cX3_keep 2 none, Cond.methodLink RX9 162 yX8_pass, Cond.instanceMethod yX8_pass, Cond.selects RX8 yX8_pass yX8_pass, Cond.code yX8_pass cX8_pass 2 none, Cond.methodLink RX8 63 yX8_flow]
def wsL_law_r20 : List Cond := [Cond.instanceMethod yX8_flow, Cond.selects RX8 yX8_flow yX8_flow, Cond.code yX8_flow cX8_flow 9 none, Cond.methodLink RX8 71 Lib.Math.min.name, Cond.static Lib.Math.min.name, Cond.code Lib.Math.min.name Lib.Math.min.code 2 (some .int), Cond.methodLink RX8 67 yX8_placeAfter, Cond.instanceMethod yX8_placeAfter, Cond.selects RX8 yX8_placeAfter yX8_placeAfter, Cond.code yX8_placeAfter cX8_placeAfter 8 (some .int), Cond.methodLink RX8 76 yX8_pace, Cond.static yX8_pace, Cond.code yX8_pace cX8_pace 9 (some .int), Cond.methodLink RX8 59 yX8_goneOn, Cond.instanceMethod yX8_goneOn, Cond.selects RX8 yX8_goneOn yX8_goneOn, Cond.code yX8_goneOn cX8_goneOn 3 (some .int), Cond.methodLink RX9 165 yX8_stones, Cond.instanceMethod yX8_stones, Cond.selects RX8 yX8_stones yX8_stones, Cond.code yX8_stones cX8_stones 3 (some .int), Cond.methodLink RL 52 yX10_days, Cond.instanceMethod yX10_days, Cond.selects RX10 yX10_days yX10_days]
def wsL_law_r21 : List Cond := [Cond.code yX10_days cX10_days 3 (some .int), Cond.constantLong RX10 178 (24), Cond.methodLink RX10 175 yX10_isThere, Cond.instanceMethod yX10_isThere, Cond.selects RX10 yX10_isThere yX10_isThere, Cond.code yX10_isThere cX10_isThere 1 (some .boolean), Cond.methodLink RX10 180 yX10_notes, Cond.instanceMethod yX10_notes, Cond.selects RX10 yX10_notes yX10_notes, Cond.code yX10_notes cX10_notes 2 none, Cond.methodLink RX10 165 yX10_passes, Cond.static yX10_passes, Cond.code yX10_passes cX10_passes 2 none, Cond.methodLink RX10 153 yX10_flows, Cond.static yX10_flows, Cond.code yX10_flows cX10_flows 6 none, Cond.methodLink RX10 145 yX10_less, Cond.static yX10_less, Cond.code yX10_less cX10_less 2 (some .int), Cond.methodLink RX10 157 yX10_stepsOf, Cond.static yX10_stepsOf, Cond.code yX10_stepsOf cX10_stepsOf 6 (some .int), Cond.methodLink RX10 149 yX10_lies, Cond.static yX10_lies]
def wsL_law_r22 : List Cond := [Cond.code yX10_lies cX10_lies 2 (some .boolean), Cond.methodLink RX10 161 yX10_goes, Cond.static yX10_goes, Cond.code yX10_goes cX10_goes 3 none, Cond.methodLink RX10 168 yX10_those, Cond.static yX10_those, Cond.code yX10_those cX10_those 4 (some .int), Cond.methodLink RL 53 yX9_wall, Cond.instanceMethod yX9_wall, Cond.selects RX9 yX9_wall yX9_wall, Cond.code yX9_wall cX9_wall 4 (some .int), Cond.fieldLink RX9 172 "LavaLodger$Village" "wall" "[I", Cond.methodLink RX9 169 yX9_isRoom, Cond.instanceMethod yX9_isRoom, Cond.selects RX9 yX9_isRoom yX9_isRoom, Cond.code yX9_isRoom cX9_isRoom 2 (some .boolean), Cond.methodLink RL 57 yX10_wall, Cond.instanceMethod yX10_wall, Cond.selects RX10 yX10_wall yX10_wall, Cond.code yX10_wall cX10_wall 4 (some .int), Cond.constantLong RX10 186 (9), Cond.methodLink RX10 183 yX10_isRoom, Cond.instanceMethod yX10_isRoom, Cond.selects RX10 yX10_isRoom yX10_isRoom]
def wsL_law_r23 : List Cond := [Cond.code yX10_isRoom cX10_isRoom 2 (some .boolean), Cond.methodLink RL 58 yX9_carry, Cond.instanceMethod yX9_carry, Cond.selects RX9 yX9_carry yX9_carry, Cond.code yX9_carry cX9_carry 2 (some .int), Cond.fieldLink RX9 182 "LavaLodger$Village" "where" "[I", Cond.methodLink RX9 176 yX9_isThing, Cond.instanceMethod yX9_isThing, Cond.selects RX9 yX9_isThing yX9_isThing, Cond.code yX9_isThing cX9_isThing 2 (some .boolean), Cond.methodLink RX9 179 yX8_stands, Cond.instanceMethod yX8_stands, Cond.selects RX8 yX8_stands yX8_stands, Cond.code yX8_stands cX8_stands 2 (some .boolean), Cond.methodLink RX9 185 yX8_carried, Cond.instanceMethod yX8_carried, Cond.selects RX8 yX8_carried yX8_carried, Cond.code yX8_carried cX8_carried 2 (some .int), Cond.methodLink RX9 188 yX8_place, Cond.methodLink RL 61 yX10_carry, Cond.instanceMethod yX10_carry, Cond.selects RX10 yX10_carry yX10_carry, Cond.code yX10_carry cX10_carry 2 (some .int), Cond.methodLink RX10 188 yX10_isThing]
def wsL_law_r24 : List Cond := [Cond.instanceMethod yX10_isThing, Cond.selects RX10 yX10_isThing yX10_isThing, Cond.code yX10_isThing cX10_isThing 2 (some .boolean), Cond.methodLink RX10 191 yX10_whereOf, Cond.static yX10_whereOf, Cond.code yX10_whereOf cX10_whereOf 2 (some .int), Cond.methodLink RL 62 yX9_feeding, Cond.instanceMethod yX9_feeding, Cond.selects RX9 yX9_feeding yX9_feeding, Cond.code yX9_feeding cX9_feeding 3 (some .int), Cond.fieldLink RX9 192 "LavaLodger$Village" "feed" "I", Cond.methodLink RL 65 yX10_feeding, Cond.instanceMethod yX10_feeding, Cond.selects RX10 yX10_feeding yX10_feeding, Cond.code yX10_feeding cX10_feeding 3 (some .int), Cond.constantLong RX10 194 (20), Cond.methodLink RL 66 yX9_dig, Cond.instanceMethod yX9_dig, Cond.selects RX9 yX9_dig yX9_dig, Cond.code yX9_dig cX9_dig 2 (some .int), Cond.methodLink RL 69 yX10_dig, Cond.instanceMethod yX10_dig, Cond.selects RX10 yX10_dig yX10_dig, Cond.code yX10_dig cX10_dig 2 (some .int)]
def wsL_law_r25 : List Cond := [Cond.methodLink RL 70 yX9_thing, Cond.instanceMethod yX9_thing, Cond.selects RX9 yX9_thing yX9_thing, Cond.code yX9_thing cX9_thing 3 (some .int), Cond.fieldLink RX9 195 "LavaLodger$Village" "high" "[I", Cond.fieldLink RX9 198 "LavaLodger$Village" "lava" "[I", Cond.fieldLink RX9 201 "LavaLodger$Village" "last" "[I", Cond.methodLink RL 73 yX10_thing, Cond.instanceMethod yX10_thing, Cond.selects RX10 yX10_thing yX10_thing, Cond.code yX10_thing cX10_thing 3 (some .int), Cond.methodLink RL 74 yX9_roomOf, Cond.instanceMethod yX9_roomOf, Cond.selects RX9 yX9_roomOf yX9_roomOf, Cond.code yX9_roomOf cX9_roomOf 3 (some .int), Cond.fieldLink RX9 204 "LavaLodger$Village" "floor" "[I", Cond.methodLink RX9 207 yX8_allAt, Cond.instanceMethod yX8_allAt, Cond.selects RX8 yX8_allAt yX8_allAt, Cond.code yX8_allAt cX8_allAt 4 (some .int), Cond.methodLink RL 77 yX10_roomOf, Cond.instanceMethod yX10_roomOf, Cond.selects RX10 yX10_roomOf yX10_roomOf, Cond.code yX10_roomOf cX10_roomOf 3 (some .int)]
def wsL_law_r26 : List Cond := [Cond.methodLink RX10 196 yX10_thoseIn, Cond.instanceMethod yX10_thoseIn, Cond.selects RX10 yX10_thoseIn yX10_thoseIn, Cond.code yX10_thoseIn cX10_thoseIn 5 (some .int), Cond.methodLink RL 78 yX9_stand, Cond.instanceMethod yX9_stand, Cond.selects RX9 yX9_stand yX9_stand, Cond.code yX9_stand cX9_stand 2 (some .int), Cond.fieldLink RX9 213 "LavaLodger$Village" "stop" "I", Cond.methodLink RX9 216 yX8_standing, Cond.instanceMethod yX8_standing, Cond.selects RX8 yX8_standing yX8_standing, Cond.code yX8_standing cX8_standing 3 (some .int), Cond.methodLink RL 81 yX10_stand, Cond.instanceMethod yX10_stand, Cond.selects RX10 yX10_stand yX10_stand, Cond.code yX10_stand cX10_stand 2 (some .int), Cond.methodLink RL 82 yX9_ahead, Cond.instanceMethod yX9_ahead, Cond.selects RX9 yX9_ahead yX9_ahead, Cond.code yX9_ahead cX9_ahead 3 (some .int), Cond.methodLink RX9 219 yX5_placeBehind, Cond.instanceMethod yX5_placeBehind, Cond.selects RX5 yX5_placeBehind yX5_placeBehind]
def wsL_law_r27 : List Cond := [Cond.code yX5_placeBehind cX5_placeBehind 4 (some .int), Cond.fieldLink RX5 39 "LavaLodger$Village" "where" "[I", Cond.methodLink RX5 35 yX2_tell, Cond.instanceMethod yX2_tell, Cond.selects RX2 yX2_tell yX2_tell, Cond.code yX2_tell cX2_tell 5 none, Cond.fieldLink RX2 25 "LavaLodger$Village" "lava" "[I", Cond.methodLink RX2 30 arraycopyName, Cond.fieldLink RX2 36 "LavaLodger$Village" "day" "I", Cond.methodLink RX2 39 yX8_flow, Cond.methodLink RX5 42 yX2_placeBehind, Cond.instanceMethod yX2_placeBehind, Cond.selects RX2 yX2_placeBehind yX2_placeBehind, Cond.code yX2_placeBehind cX2_placeBehind 7 (some .int), Cond.methodLink RX2 53 yX2_placeAfter, Cond.instanceMethod yX2_placeAfter, Cond.selects RX2 yX2_placeAfter yX2_placeAfter, Cond.code yX2_placeAfter cX2_placeAfter 5 (some .int), Cond.fieldLink RX2 43 "LavaLodger$Village" "sort" "[I", Cond.fieldLink RX2 46 "LavaLodger$Village" "high" "[I", Cond.methodLink RX2 49 yX8_placeAfter, Cond.methodLink RL 85 yX10_ahead, Cond.instanceMethod yX10_ahead, Cond.selects RX10 yX10_ahead yX10_ahead]
def wsL_law_r28 : List Cond := [Cond.code yX10_ahead cX10_ahead 3 (some .int), Cond.constantLong RX10 203 (60), Cond.methodLink RX10 205 yX10_laysAside, Cond.instanceMethod yX10_laysAside, Cond.selects RX10 yX10_laysAside yX10_laysAside, Cond.code yX10_laysAside cX10_laysAside 2 none, Cond.methodLink RX10 199 yX10_goesBy, Cond.static yX10_goesBy, Cond.code yX10_goesBy cX10_goesBy 3 none, Cond.methodLink RL 86 yX9_lava, Cond.instanceMethod yX9_lava, Cond.selects RX9 yX9_lava yX9_lava, Cond.code yX9_lava cX9_lava 3 (some .int), Cond.methodLink RX9 223 yX5_lavaBehind, Cond.instanceMethod yX5_lavaBehind, Cond.selects RX5 yX5_lavaBehind yX5_lavaBehind, Cond.code yX5_lavaBehind cX5_lavaBehind 4 (some .int), Cond.methodLink RX5 46 yX2_lavaIn, Cond.instanceMethod yX2_lavaIn, Cond.selects RX2 yX2_lavaIn yX2_lavaIn, Cond.code yX2_lavaIn cX2_lavaIn 3 (some .int), Cond.methodLink RL 89 yX10_lava, Cond.instanceMethod yX10_lava, Cond.selects RX10 yX10_lava yX10_lava]
def wsL_law_r29 : List Cond := [Cond.code yX10_lava cX10_lava 3 (some .int), Cond.methodLink RL 90 yX9_kept, Cond.instanceMethod yX9_kept, Cond.selects RX9 yX9_kept yX9_kept, Cond.code yX9_kept cX9_kept 3 (some .int), Cond.methodLink RX9 226 yX5_stonesBehind, Cond.instanceMethod yX5_stonesBehind, Cond.selects RX5 yX5_stonesBehind yX5_stonesBehind, Cond.code yX5_stonesBehind cX5_stonesBehind 3 (some .int), Cond.methodLink RX5 50 yX8_become, Cond.methodLink RX5 54 yX5_passTrial, Cond.instanceMethod yX5_passTrial, Cond.selects RX5 yX5_passTrial yX5_passTrial, Cond.code yX5_passTrial cX5_passTrial 3 none, Cond.methodLink RX5 65 yX8_pass, Cond.methodLink RX5 57 yX8_stones, Cond.methodLink RX9 230 yX5_outsBehind, Cond.instanceMethod yX5_outsBehind, Cond.selects RX5 yX5_outsBehind yX5_outsBehind, Cond.code yX5_outsBehind cX5_outsBehind 3 (some .int), Cond.methodLink RX5 61 yX8_allAt, Cond.methodLink RL 93 yX10_kept, Cond.instanceMethod yX10_kept, Cond.selects RX10 yX10_kept yX10_kept]
def wsL_law_r30 : List Cond := [Cond.code yX10_kept cX10_kept 3 (some .int), Cond.methodLink RX10 209 yX10_isTwo, Cond.static yX10_isTwo, Cond.code yX10_isTwo cX10_isTwo 1 (some .boolean), Cond.methodLink RL 94 yX9_when, Cond.instanceMethod yX9_when, Cond.selects RX9 yX9_when yX9_when, Cond.code yX9_when cX9_when 3 (some .int), Cond.methodLink RX9 233 yX5_firstDay, Cond.instanceMethod yX5_firstDay, Cond.selects RX5 yX5_firstDay yX5_firstDay, Cond.code yX5_firstDay cX5_firstDay 6 (some .int), Cond.constant RX5 71 (-1000000), Cond.methodLink RX5 72 yX5_isCome, Cond.instanceMethod yX5_isCome, Cond.selects RX5 yX5_isCome yX5_isCome, Cond.code yX5_isCome cX5_isCome 4 (some .boolean), Cond.methodLink RX5 76 yX2_placeAfter, Cond.methodLink RL 97 yX10_when, Cond.instanceMethod yX10_when, Cond.selects RX10 yX10_when yX10_when, Cond.code yX10_when cX10_when 4 (some .int), Cond.constant RX10 216 (-1000000), Cond.methodLink RX10 212 yX10_isSo]
def wsL_law_r31 : List Cond := [Cond.instanceMethod yX10_isSo, Cond.selects RX10 yX10_isSo yX10_isSo, Cond.code yX10_isSo cX10_isSo 4 (some .boolean), Cond.methodLink RL 98 yX9_front, Cond.instanceMethod yX9_front, Cond.selects RX9 yX9_front yX9_front, Cond.code yX9_front cX9_front 2 (some .int), Cond.methodLink RX9 236 yX5_frontBehind, Cond.instanceMethod yX5_frontBehind, Cond.selects RX5 yX5_frontBehind yX5_frontBehind, Cond.code yX5_frontBehind cX5_frontBehind 4 (some .int), Cond.fieldLink RX5 68 "LavaLodger$Village" "rooms" "I", Cond.methodLink RL 101 yX10_front, Cond.instanceMethod yX10_front, Cond.selects RX10 yX10_front yX10_front, Cond.code yX10_front cX10_front 4 (some .int), Cond.methodLink RL 102 yX9_carries, Cond.instanceMethod yX9_carries, Cond.selects RX9 yX9_carries yX9_carries, Cond.code yX9_carries cX9_carries 4 (some .int), Cond.fieldLink RX9 243 "LavaLodger$Carrier" "fewest" "I", Cond.methodLink RX9 239 yX1_search, Cond.instanceMethod yX1_search, Cond.selects RX1 yX1_search yX1_search]
def wsL_law_r32 : List Cond := [Cond.code yX1_search cX1_search 4 none, Cond.fieldLink RX1 44 "LavaLodger$Village" "things" "I", Cond.methodLink RX1 47 Lib.Math.min.name, Cond.methodLink RX1 53 yX2_tell, Cond.methodLink RX1 57 yX1_followAll, Cond.instanceMethod yX1_followAll, Cond.selects RX1 yX1_followAll yX1_followAll, Cond.code yX1_followAll cX1_followAll 5 none, Cond.methodLink RX1 64 yX1_placeBehind, Cond.instanceMethod yX1_placeBehind, Cond.selects RX1 yX1_placeBehind yX1_placeBehind, Cond.code yX1_placeBehind cX1_placeBehind 7 (some .int), Cond.fieldLink RX1 68 "LavaLodger$Village" "where" "[I", Cond.methodLink RX1 71 yX8_carried, Cond.methodLink RX1 75 yX2_placeAfter, Cond.methodLink RX1 60 yX1_tryFrom, Cond.instanceMethod yX1_tryFrom, Cond.selects RX1 yX1_tryFrom yX1_tryFrom, Cond.code yX1_tryFrom cX1_tryFrom 3 none, Cond.methodLink RX1 78 yX1_weigh, Cond.instanceMethod yX1_weigh, Cond.selects RX1 yX1_weigh yX1_weigh, Cond.code yX1_weigh cX1_weigh 3 none, Cond.methodLink RX1 81 arraycopyName]
def wsL_law_r33 : List Cond := [Cond.methodLink RX9 246 yX1_choiceAt, Cond.instanceMethod yX1_choiceAt, Cond.selects RX1 yX1_choiceAt yX1_choiceAt, Cond.code yX1_choiceAt cX1_choiceAt 2 (some .int), Cond.constant RX1 63 (-1000000), Cond.methodLink RL 105 yX10_carries, Cond.instanceMethod yX10_carries, Cond.selects RX10 yX10_carries yX10_carries, Cond.code yX10_carries cX10_carries 9 (some .int), Cond.constantLong RX10 224 (4), Cond.methodLink RX10 217 yX10_power, Cond.static yX10_power, Cond.code yX10_power cX10_power 4 (some .int), Cond.methodLink RX10 226 yX10_keeps, Cond.instanceMethod yX10_keeps, Cond.selects RX10 yX10_keeps yX10_keeps, Cond.code yX10_keeps cX10_keeps 7 (some .int), Cond.methodLink RX10 220 yX10_stones, Cond.static yX10_stones, Cond.code yX10_stones cX10_stones 1 (some .int), Cond.methodLink RX10 171 yX10_bits, Cond.static yX10_bits, Cond.code yX10_bits cX10_bits 3 (some .int), Cond.methodLink RL 106 yX9_dam]
def wsL_law_r34 : List Cond := [Cond.instanceMethod yX9_dam, Cond.selects RX9 yX9_dam yX9_dam, Cond.code yX9_dam cX9_dam 5 (some .int), Cond.methodLink RX9 249 yX5_bestDam, Cond.instanceMethod yX5_bestDam, Cond.selects RX5 yX5_bestDam yX5_bestDam, Cond.code yX5_bestDam cX5_bestDam 8 (some .int), Cond.methodLink RX5 87 yX5_stonesWithDam, Cond.instanceMethod yX5_stonesWithDam, Cond.selects RX5 yX5_stonesWithDam yX5_stonesWithDam, Cond.code yX5_stonesWithDam cX5_stonesWithDam 5 (some .int), Cond.fieldLink RX5 79 "LavaLodger$Village" "wall" "[I", Cond.methodLink RX5 82 yJ6_bitCount_0f7a4, Cond.static yJ6_bitCount_0f7a4, Cond.initialized RJ6, Cond.code yJ6_bitCount_0f7a4 cJ6_bitCount_0f7a4 1 (some .int), Cond.constant RJ6 265 (1431655765), Cond.constant RJ6 266 (858993459), Cond.constant RJ6 267 (252645135), Cond.methodLink RX9 252 yX5_stonesWithDam, Cond.methodLink RL 109 yX10_dam, Cond.instanceMethod yX10_dam, Cond.selects RX10 yX10_dam yX10_dam, Cond.code yX10_dam cX10_dam 8 (some .int)]
def wsL_law_r35 : List Cond := [Cond.constantLong RX10 230 (40), Cond.methodLink RL 110 yX9_hold, Cond.instanceMethod yX9_hold, Cond.selects RX9 yX9_hold yX9_hold, Cond.code yX9_hold cX9_hold 4 (some .int), Cond.methodLink RX9 256 yX5_leastWall, Cond.instanceMethod yX5_leastWall, Cond.selects RX5 yX5_leastWall yX5_leastWall, Cond.code yX5_leastWall cX5_leastWall 6 (some .int), Cond.methodLink RL 113 yX10_hold, Cond.instanceMethod yX10_hold, Cond.selects RX10 yX10_hold yX10_hold, Cond.code yX10_hold cX10_hold 5 (some .int), Cond.methodLink RL 114 yX9_spare, Cond.instanceMethod yX9_spare, Cond.selects RX9 yX9_spare yX9_spare, Cond.code yX9_spare cX9_spare 2 (some .int), Cond.methodLink RX9 259 yX5_mostFeed, Cond.instanceMethod yX5_mostFeed, Cond.selects RX5 yX5_mostFeed yX5_mostFeed, Cond.code yX5_mostFeed cX5_mostFeed 4 (some .int), Cond.fieldLink RX5 90 "LavaLodger$Village" "feed" "I", Cond.methodLink RL 117 yX10_spare, Cond.instanceMethod yX10_spare]
def wsL_law_r36 : List Cond := [Cond.selects RX10 yX10_spare yX10_spare, Cond.code yX10_spare cX10_spare 3 (some .int), Cond.methodLink RL 118 yX9_sets, Cond.instanceMethod yX9_sets, Cond.selects RX9 yX9_sets yX9_sets, Cond.code yX9_sets cX9_sets 3 (some .int), Cond.methodLink RX9 262 yX5_setsSoHigh, Cond.instanceMethod yX5_setsSoHigh, Cond.selects RX5 yX5_setsSoHigh yX5_setsSoHigh, Cond.code yX5_setsSoHigh cX5_setsSoHigh 9 (some .int), Cond.fieldLink RX5 96 "LavaLodger$Village" "things" "I", Cond.methodLink RX5 93 yX8_standing, Cond.methodLink RX5 99 yX5_highOfAll, Cond.static yX5_highOfAll, Cond.code yX5_highOfAll cX5_highOfAll 4 (some .int), Cond.fieldLink RX5 103 "LavaLodger$Village" "high" "[I", Cond.methodLink RL 121 yX10_sets, Cond.instanceMethod yX10_sets, Cond.selects RX10 yX10_sets yX10_sets, Cond.code yX10_sets cX10_sets 8 (some .int), Cond.constantLong RX10 235 (54), Cond.methodLink RX10 237 yX10_highOf, Cond.instanceMethod yX10_highOf, Cond.selects RX10 yX10_highOf yX10_highOf]
def wsL_law_r37 : List Cond := [Cond.code yX10_highOf cX10_highOf 4 (some .int), Cond.methodLink RX10 232 yX10_has, Cond.static yX10_has, Cond.code yX10_has cX10_has 2 (some .boolean), Cond.methodLink RL 122 yX9_share, Cond.instanceMethod yX9_share, Cond.selects RX9 yX9_share yX9_share, Cond.code yX9_share cX9_share 3 (some .int), Cond.methodLink RX9 265 yX5_partOf, Cond.instanceMethod yX5_partOf, Cond.selects RX5 yX5_partOf yX5_partOf, Cond.code yX5_partOf cX5_partOf 9 (some .int), Cond.methodLink RL 125 yX10_share, Cond.instanceMethod yX10_share, Cond.selects RX10 yX10_share yX10_share, Cond.code yX10_share cX10_share 8 (some .int), Cond.constantLong RX10 240 (999), Cond.methodLink RL 126 yX9_byTurns, Cond.instanceMethod yX9_byTurns, Cond.selects RX9 yX9_byTurns yX9_byTurns, Cond.code yX9_byTurns cX9_byTurns 3 (some .int), Cond.methodLink RX9 268 yX7_play, Cond.instanceMethod yX7_play, Cond.selects RX7 yX7_play yX7_play]
def wsL_law_r38 : List Cond := [Cond.code yX7_play cX7_play 5 (some .int), Cond.fieldLink RX7 42 "LavaLodger$Village" "things" "I", Cond.fieldLink RX7 47 "LavaLodger$Village" "feed" "I", Cond.methodLink RX7 50 Lib.Math.min.name, Cond.methodLink RX7 43 yX8_become, Cond.methodLink RX7 56 yX2_tell, Cond.methodLink RX7 60 yX7_followAll, Cond.instanceMethod yX7_followAll, Cond.selects RX7 yX7_followAll yX7_followAll, Cond.code yX7_followAll cX7_followAll 6 none, Cond.fieldLink RX7 67 "LavaLodger$Village" "where" "[I", Cond.methodLink RX7 70 yX7_cell, Cond.static yX7_cell, Cond.code yX7_cell cX7_cell 3 (some .int), Cond.methodLink RX7 74 yX2_placeBehind, Cond.methodLink RX7 78 yX8_carried, Cond.methodLink RX7 64 yX7_outcome, Cond.instanceMethod yX7_outcome, Cond.selects RX7 yX7_outcome yX7_outcome, Cond.code yX7_outcome cX7_outcome 3 (some .int), Cond.methodLink RX7 82 yX7_stonesNow, Cond.instanceMethod yX7_stonesNow, Cond.selects RX7 yX7_stonesNow yX7_stonesNow, Cond.code yX7_stonesNow cX7_stonesNow 3 (some .int)]
def wsL_law_r39 : List Cond := [Cond.methodLink RX7 86 yX7_auntTurn, Cond.instanceMethod yX7_auntTurn, Cond.selects RX7 yX7_auntTurn yX7_auntTurn, Cond.methodLink RX7 89 yX7_dresserTurn, Cond.instanceMethod yX7_dresserTurn, Cond.selects RX7 yX7_dresserTurn yX7_dresserTurn, Cond.code yX7_auntTurn cX7_auntTurn 5 (some .int), Cond.code yX7_dresserTurn cX7_dresserTurn 5 (some .int), Cond.methodLink RX7 92 Lib.Math.max.name, Cond.methodLink RL 129 yX10_byTurns, Cond.instanceMethod yX10_byTurns, Cond.selects RX10 yX10_byTurns yX10_byTurns, Cond.code yX10_byTurns cX10_byTurns 6 (some .int), Cond.methodLink RX10 242 yX10_endsIn, Cond.instanceMethod yX10_endsIn, Cond.selects RX10 yX10_endsIn yX10_endsIn, Cond.code yX10_endsIn cX10_endsIn 3 (some .int), Cond.methodLink RX10 245 yX10_chooses, Cond.instanceMethod yX10_chooses, Cond.selects RX10 yX10_chooses yX10_chooses, Cond.code yX10_chooses cX10_chooses 5 (some .boolean), Cond.methodLink RL 130 yX9_who, Cond.instanceMethod yX9_who, Cond.selects RX9 yX9_who yX9_who]
def wsL_law_r40 : List Cond := [Cond.code yX9_who cX9_who 7 (some .int), Cond.methodLink RX9 271 yX5_hear, Cond.instanceMethod yX5_hear, Cond.selects RX5 yX5_hear yX5_hear, Cond.code yX5_hear cX5_hear 6 none, Cond.methodLink RX5 106 Lib.Math.min.name, Cond.methodLink RX5 111 yX4_item, Cond.instanceMethod yX4_item, Cond.selects RX4 yX4_item yX4_item, Cond.code yX4_item cX4_item 3 (some .int), Cond.methodLink RX9 275 yX5_kindsThatFit, Cond.instanceMethod yX5_kindsThatFit, Cond.selects RX5 yX5_kindsThatFit yX5_kindsThatFit, Cond.code yX5_kindsThatFit cX5_kindsThatFit 5 (some .int), Cond.fieldLink RX5 116 "LavaLodger$Village" "sort" "[I", Cond.methodLink RX5 119 yX5_goesAsHeard, Cond.instanceMethod yX5_goesAsHeard, Cond.selects RX5 yX5_goesAsHeard yX5_goesAsHeard, Cond.code yX5_goesAsHeard cX5_goesAsHeard 5 (some .boolean), Cond.methodLink RX9 278 yX5_highsThatFit, Cond.instanceMethod yX5_highsThatFit, Cond.selects RX5 yX5_highsThatFit yX5_highsThatFit, Cond.code yX5_highsThatFit cX5_highsThatFit 5 (some .int), Cond.methodLink RX9 281 yX5_roomsThatFit]
def wsL_law_r41 : List Cond := [Cond.instanceMethod yX5_roomsThatFit, Cond.selects RX5 yX5_roomsThatFit yX5_roomsThatFit, Cond.code yX5_roomsThatFit cX5_roomsThatFit 5 (some .int), Cond.methodLink RL 133 yX10_who, Cond.instanceMethod yX10_who, Cond.selects RX10 yX10_who yX10_who, Cond.code yX10_who cX10_who 11 (some .int), Cond.constantLong RX10 248 (12), Cond.methodLink RX10 250 yX10_lacks, Cond.instanceMethod yX10_lacks, Cond.selects RX10 yX10_lacks yX10_lacks, Cond.code yX10_lacks cX10_lacks 4 (some .int), Cond.methodLink RX10 253 yX10_fits, Cond.instanceMethod yX10_fits, Cond.selects RX10 yX10_fits yX10_fits, Cond.code yX10_fits cX10_fits 8 (some .boolean), Cond.methodLink RL 134 yX9_feeds, Cond.instanceMethod yX9_feeds, Cond.selects RX9 yX9_feeds yX9_feeds, Cond.code yX9_feeds cX9_feeds 8 (some .int), Cond.constant RX9 295 (-1000000), Cond.methodLink RX9 284 yX5_floorsThatFit, Cond.instanceMethod yX5_floorsThatFit, Cond.selects RX5 yX5_floorsThatFit yX5_floorsThatFit]
def wsL_law_r42 : List Cond := [Cond.code yX5_floorsThatFit cX5_floorsThatFit 5 (some .int), Cond.fieldLink RX5 123 "LavaLodger$Village" "floor" "[I", Cond.methodLink RX5 126 yX5_liesAsHeard, Cond.instanceMethod yX5_liesAsHeard, Cond.selects RX5 yX5_liesAsHeard yX5_liesAsHeard, Cond.code yX5_liesAsHeard cX5_liesAsHeard 3 (some .boolean), Cond.methodLink RX9 287 yX5_feedsThatFit, Cond.instanceMethod yX5_feedsThatFit, Cond.selects RX5 yX5_feedsThatFit yX5_feedsThatFit, Cond.code yX5_feedsThatFit cX5_feedsThatFit 5 (some .int), Cond.methodLink RX9 290 yJ6_bitCount_0f7a4, Cond.methodLink RX9 296 yJ6_numberOfTrailingZeros_0f7a4, Cond.static yJ6_numberOfTrailingZeros_0f7a4, Cond.code yJ6_numberOfTrailingZeros_0f7a4 cJ6_numberOfTrailingZeros_0f7a4 2 (some .int), Cond.constant RJ6 264 (65536), Cond.methodLink RL 137 yX10_feeds, Cond.instanceMethod yX10_feeds, Cond.selects RX10 yX10_feeds yX10_feeds, Cond.code yX10_feeds cX10_feeds 9 (some .int), Cond.methodLink RL 138 yX9_gives, Cond.instanceMethod yX9_gives, Cond.selects RX9 yX9_gives yX9_gives, Cond.code yX9_gives cX9_gives 5 (some .long), Cond.constantLong RX9 299 (-1000001)]
def wsL_law_r43 : List Cond := [Cond.methodLink RX9 301 yX5_likelySpared, Cond.instanceMethod yX5_likelySpared, Cond.selects RX5 yX5_likelySpared yX5_likelySpared, Cond.code yX5_likelySpared cX5_likelySpared 14 (some .long), Cond.constantLong RX5 134 (10), Cond.methodLink RX5 130 yX5_wallsThatStand, Cond.static yX5_wallsThatStand, Cond.code yX5_wallsThatStand cX5_wallsThatStand 3 (some .int), Cond.methodLink RX5 136 yX5_casesOf, Cond.static yX5_casesOf, Cond.code yX5_casesOf cX5_casesOf 6 (some .long), Cond.methodLink RX5 140 yX5_isSpared, Cond.instanceMethod yX5_isSpared, Cond.selects RX5 yX5_isSpared yX5_isSpared, Cond.code yX5_isSpared cX5_isSpared 7 (some .boolean), Cond.fieldLink RX5 148 "LavaLodger$Village" "lava" "[I", Cond.fieldLink RX5 151 "LavaLodger$Village" "day" "I", Cond.methodLink RX5 154 yX8_flow, Cond.methodLink RX5 158 yX8_placeAfter, Cond.methodLink RX5 144 yX5_greatestDivisor, Cond.static yX5_greatestDivisor, Cond.code yX5_greatestDivisor cX5_greatestDivisor 11 (some .long), Cond.methodLink RL 142 yX10_gives, Cond.instanceMethod yX10_gives]
def wsL_law_r44 : List Cond := [Cond.selects RX10 yX10_gives yX10_gives, Cond.code yX10_gives cX10_gives 14 (some .long), Cond.constantLong RX10 257 (10), Cond.constantLong RX10 259 (-1000001), Cond.methodLink RX10 261 yX10_divisor, Cond.static yX10_divisor, Cond.code yX10_divisor cX10_divisor 10 (some .long), Cond.methodLink RL 143 yX9_drawn, Cond.instanceMethod yX9_drawn, Cond.selects RX9 yX9_drawn yX9_drawn, Cond.code yX9_drawn cX9_drawn 4 (some .int), Cond.constant RX9 305 (999999), Cond.methodLink RX9 306 yX5_becameInYears, Cond.instanceMethod yX5_becameInYears, Cond.selects RX5 yX5_becameInYears yX5_becameInYears, Cond.code yX5_becameInYears cX5_becameInYears 10 (some .int), Cond.constantLong RX5 161 (16807), Cond.constantLong RX5 163 (2147483647), Cond.methodLink RX5 165 yX5_draw, Cond.instanceMethod yX5_draw, Cond.selects RX5 yX5_draw yX5_draw, Cond.code yX5_draw cX5_draw 4 none, Cond.constantLong RX5 169 (3), Cond.methodLink RX5 171 yX8_stands]
def wsL_law_r45 : List Cond := [Cond.methodLink RX5 174 yX8_place, Cond.methodLink RL 146 yX10_drawn, Cond.instanceMethod yX10_drawn, Cond.selects RX10 yX10_drawn yX10_drawn, Cond.code yX10_drawn cX10_drawn 11 (some .int), Cond.constantLong RX10 265 (999999), Cond.constantLong RX10 267 (16807), Cond.constantLong RX10 269 (2147483647), Cond.constantLong RX10 271 (3), Cond.methodLink RL 147 yX9_image, Cond.instanceMethod yX9_image, Cond.selects RX9 yX9_image yX9_image, Cond.code yX9_image cX9_image 2 (some .int), Cond.methodLink RL 150 yX10_image, Cond.instanceMethod yX10_image, Cond.selects RX10 yX10_image yX10_image, Cond.code yX10_image cX10_image 2 (some .int), Cond.methodLink RL 151 yX9_restore, Cond.instanceMethod yX9_restore, Cond.selects RX9 yX9_restore yX9_restore, Cond.code yX9_restore cX9_restore 2 (some .int), Cond.methodLink RL 154 yX10_restore, Cond.instanceMethod yX10_restore, Cond.selects RX10 yX10_restore yX10_restore]
def wsL_law_r46 : List Cond := [Cond.code yX10_restore cX10_restore 2 (some .int), Cond.methodLink RL 155 yX9_kind, Cond.instanceMethod yX9_kind, Cond.selects RX9 yX9_kind yX9_kind, Cond.code yX9_kind cX9_kind 2 (some .int), Cond.fieldLink RX9 309 "LavaLodger$Village" "sort" "[I", Cond.methodLink RL 158 yX10_kind, Cond.instanceMethod yX10_kind, Cond.selects RX10 yX10_kind yX10_kind, Cond.code yX10_kind cX10_kind 2 (some .int), Cond.methodLink RL 159 yX9_as, Cond.instanceMethod yX9_as, Cond.selects RX9 yX9_as yX9_as, Cond.code yX9_as cX9_as 3 (some .int), Cond.methodLink RX9 312 yX9_isOfKind, Cond.static yX9_isOfKind, Cond.code yX9_isOfKind cX9_isOfKind 4 (some .boolean), Cond.fieldLink RX9 332 "LavaLodger" "KIND_ABOVE" "[I", Cond.methodLink RL 162 yX10_as, Cond.instanceMethod yX10_as, Cond.selects RX10 yX10_as yX10_as, Cond.code yX10_as cX10_as 3 (some .int), Cond.constantLong RX10 273 (5), Cond.methodLink RX10 275 yX10_isOf]
def wsL_law_r47 : List Cond := [Cond.static yX10_isOf, Cond.code yX10_isOf cX10_isOf 2 (some .boolean), Cond.methodLink RL 163 yX9_ask, Cond.instanceMethod yX9_ask, Cond.selects RX9 yX9_ask yX9_ask, Cond.code yX9_ask cX9_ask 3 (some .int), Cond.methodLink RX9 316 yX0_answer, Cond.instanceMethod yX0_answer, Cond.selects RX0 yX0_answer yX0_answer, Cond.code yX0_answer cX0_answer 4 (some .int), Cond.fieldLink RX0 19 "LavaLodger$Village" "sort" "[I", Cond.methodLink RX0 24 yX0_bodyFor, Cond.static yX0_bodyFor, Cond.code yX0_bodyFor cX0_bodyFor 5 (some .int), Cond.fieldLink RX0 32 "LavaLodger$Asker" "SIZE_BODIES" "[I", Cond.fieldLink RX0 35 "LavaLodger$Asker" "MARK_BODIES" "[I", Cond.methodLink RX0 28 yX0_give, Cond.instanceMethod yX0_give, Cond.selects RX0 yX0_give yX0_give, Cond.code yX0_give cX0_give 5 (some .int), Cond.fieldLink RX0 45 "LavaLodger$Village" "high" "[I", Cond.fieldLink RX0 51 "LavaLodger$Village" "last" "[I", Cond.methodLink RX0 41 yX0_begin, Cond.instanceMethod yX0_begin]
def wsL_law_r48 : List Cond := [Cond.selects RX0 yX0_begin yX0_begin, Cond.code yX0_begin cX0_begin 2 none, Cond.methodLink RX0 48 yX0_anew, Cond.instanceMethod yX0_anew, Cond.selects RX0 yX0_anew yX0_anew, Cond.code yX0_anew cX0_anew 5 (some .int), Cond.methodLink RL 166 yX10_ask, Cond.instanceMethod yX10_ask, Cond.selects RX10 yX10_ask yX10_ask, Cond.code yX10_ask cX10_ask 5 (some .int), Cond.fieldLink RX10 280 "LavaLodgerModel" "traced" "I", Cond.constantLong RX10 300 (121110), Cond.constantLong RX10 302 (1110), Cond.constantLong RX10 307 (2320), Cond.methodLink RX10 297 yX10_mark, Cond.instanceMethod yX10_mark, Cond.selects RX10 yX10_mark yX10_mark, Cond.code yX10_mark cX10_mark 4 (some .int), Cond.constantLong RX10 283 (242120), Cond.constantLong RX10 285 (222120), Cond.constantLong RX10 287 (2120), Cond.methodLink RX10 289 yX10_leave, Cond.instanceMethod yX10_leave, Cond.selects RX10 yX10_leave yX10_leave]
def wsL_law_r49 : List Cond := [Cond.code yX10_leave cX10_leave 7 none, Cond.constantLong RX10 278 (100), Cond.methodLink RX10 304 yX10_sizeOf, Cond.instanceMethod yX10_sizeOf, Cond.selects RX10 yX10_sizeOf yX10_sizeOf, Cond.code yX10_sizeOf cX10_sizeOf 4 (some .int), Cond.constantLong RX10 293 (141310), Cond.constantLong RX10 295 (1310), Cond.methodLink RL 167 yX9_trace, Cond.instanceMethod yX9_trace, Cond.selects RX9 yX9_trace yX9_trace, Cond.code yX9_trace cX9_trace 2 (some .int), Cond.fieldLink RX9 319 "LavaLodger$Asker" "traced" "I", Cond.fieldLink RX9 322 "LavaLodger$Asker" "begun" "[I", Cond.methodLink RL 170 yX10_trace, Cond.instanceMethod yX10_trace, Cond.selects RX10 yX10_trace yX10_trace, Cond.code yX10_trace cX10_trace 2 (some .int), Cond.methodLink RL 171 yX9_count, Cond.instanceMethod yX9_count, Cond.selects RX9 yX9_count yX9_count, Cond.code yX9_count cX9_count 2 (some .int), Cond.methodLink RX9 325 yX4_present, Cond.instanceMethod yX4_present]
def wsL_law_r50 : List Cond := [Cond.selects RX4 yX4_present yX4_present, Cond.code yX4_present cX4_present 3 (some .int), Cond.methodLink RX9 328 yX8_allLava, Cond.instanceMethod yX8_allLava, Cond.selects RX8 yX8_allLava yX8_allLava, Cond.code yX8_allLava cX8_allLava 3 (some .int), Cond.methodLink RL 174 yX10_count, Cond.instanceMethod yX10_count, Cond.selects RX10 yX10_count yX10_count, Cond.code yX10_count cX10_count 5 (some .int), Cond.methodLink RL 175 yX9_status, Cond.instanceMethod yX9_status, Cond.selects RX9 yX9_status yX9_status, Cond.code yX9_status cX9_status 1 (some .int), Cond.methodLink RL 178 yX10_status, Cond.instanceMethod yX10_status, Cond.selects RX10 yX10_status yX10_status, Cond.code yX10_status cX10_status 1 (some .int)]
def wsL_law : List Cond := (wsL_law_r1 ++ (wsL_law_r2 ++ (wsL_law_r3 ++ (wsL_law_r4 ++ (wsL_law_r5 ++ (wsL_law_r6 ++ (wsL_law_r7 ++ (wsL_law_r8 ++ (wsL_law_r9 ++ (wsL_law_r10 ++ (wsL_law_r11 ++ (wsL_law_r12 ++ (wsL_law_r13 ++ (wsL_law_r14 ++ (wsL_law_r15 ++ (wsL_law_r16 ++ (wsL_law_r17 ++ (wsL_law_r18 ++ (wsL_law_r19 ++ (wsL_law_r20 ++ (wsL_law_r21 ++ (wsL_law_r22 ++ (wsL_law_r23 ++ (wsL_law_r24 ++ (wsL_law_r25 ++ (wsL_law_r26 ++ (wsL_law_r27 ++ (wsL_law_r28 ++ (wsL_law_r29 ++ (wsL_law_r30 ++ (wsL_law_r31 ++ (wsL_law_r32 ++ (wsL_law_r33 ++ (wsL_law_r34 ++ (wsL_law_r35 ++ (wsL_law_r36 ++ (wsL_law_r37 ++ (wsL_law_r38 ++ (wsL_law_r39 ++ (wsL_law_r40 ++ (wsL_law_r41 ++ (wsL_law_r42 ++ (wsL_law_r43 ++ (wsL_law_r44 ++ (wsL_law_r45 ++ (wsL_law_r46 ++ (wsL_law_r47 ++ (wsL_law_r48 ++ (wsL_law_r49 ++ wsL_law_r50))))))))))))))))))))))))))))))))))))))))))))))))) ++ wsX90 ++ wsX100 ++ wsX40 ++ wsX60 ++ wsX80 ++ wsX30 ++ wsX50 ++ wsX10 ++ wsX70 ++ wsX00 ++ wsX20 ++ ([] : List Cond)
theorem inlX0 : ∀ w ∈ wsX00, w ∈ wsL_law := fun _ h => List.mem_append_left _ (List.mem_append_left _ (List.mem_append_right _ h))
theorem inlX1 : ∀ w ∈ wsX10, w ∈ wsL_law := fun _ h => List.mem_append_left _ (List.mem_append_left _ (List.mem_append_left _ (List.mem_append_left _ (List.mem_append_right _ h))))
theorem inlX2 : ∀ w ∈ wsX20, w ∈ wsL_law := fun _ h => List.mem_append_left _ (List.mem_append_right _ h)
theorem inlX3 : ∀ w ∈ wsX30, w ∈ wsL_law := fun _ h => List.mem_append_left _ (List.mem_append_left _ (List.mem_append_left _ (List.mem_append_left _ (List.mem_append_left _ (List.mem_append_left _ (List.mem_append_right _ h))))))
theorem inlX4 : ∀ w ∈ wsX40, w ∈ wsL_law := fun _ h => List.mem_append_left _ (List.mem_append_left _ (List.mem_append_left _ (List.mem_append_left _ (List.mem_append_left _ (List.mem_append_left _ (List.mem_append_left _ (List.mem_append_left _ (List.mem_append_left _ (List.mem_append_right _ h)))))))))
theorem inlX5 : ∀ w ∈ wsX50, w ∈ wsL_law := fun _ h => List.mem_append_left _ (List.mem_append_left _ (List.mem_append_left _ (List.mem_append_left _ (List.mem_append_left _ (List.mem_append_right _ h)))))
theorem inlX6 : ∀ w ∈ wsX60, w ∈ wsL_law := fun _ h => List.mem_append_left _ (List.mem_append_left _ (List.mem_append_left _ (List.mem_append_left _ (List.mem_append_left _ (List.mem_append_left _ (List.mem_append_left _ (List.mem_append_left _ (List.mem_append_right _ h))))))))
theorem inlX7 : ∀ w ∈ wsX70, w ∈ wsL_law := fun _ h => List.mem_append_left _ (List.mem_append_left _ (List.mem_append_left _ (List.mem_append_right _ h)))
theorem inlX8 : ∀ w ∈ wsX80, w ∈ wsL_law := fun _ h => List.mem_append_left _ (List.mem_append_left _ (List.mem_append_left _ (List.mem_append_left _ (List.mem_append_left _ (List.mem_append_left _ (List.mem_append_left _ (List.mem_append_right _ h)))))))
theorem inlX9 : ∀ w ∈ wsX90, w ∈ wsL_law := fun _ h => List.mem_append_left _ (List.mem_append_left _ (List.mem_append_left _ (List.mem_append_left _ (List.mem_append_left _ (List.mem_append_left _ (List.mem_append_left _ (List.mem_append_left _ (List.mem_append_left _ (List.mem_append_left _ (List.mem_append_left _ (List.mem_append_right _ h)))))))))))
theorem inlX10 : ∀ w ∈ wsX100, w ∈ wsL_law := fun _ h => List.mem_append_left _ (List.mem_append_left _ (List.mem_append_left _ (List.mem_append_left _ (List.mem_append_left _ (List.mem_append_left _ (List.mem_append_left _ (List.mem_append_left _ (List.mem_append_left _ (List.mem_append_left _ (List.mem_append_right _ h))))))))))
abbrev vwCl : List vw_C := [(RX0, TX0, 2), (RX1, TX1, 8), (RX2, TX2, 2), (RX3, TX3, 3), (RX4, TX4, 3), (RX5, TX5, 4), (RX6, TX6, 6), (RX7, TX7, 6), (RX8, TX8, 12), (RX9, TX9, 10), (RX10, TX10, 24)]
theorem tr_1 : ∀ w ∈ wsL_law_r1, w ∈ wsL_law := fun _ h => List.mem_append_left _ (List.mem_append_left _ (List.mem_append_left _ (List.mem_append_left _ (List.mem_append_left _ (List.mem_append_left _ (List.mem_append_left _ (List.mem_append_left _ (List.mem_append_left _ (List.mem_append_left _ (List.mem_append_left _ (List.mem_append_left _ (List.mem_append_left _ h))))))))))))
theorem tr_2 : ∀ w ∈ wsL_law_r2, w ∈ wsL_law := fun _ h => List.mem_append_left _ (List.mem_append_left _ (List.mem_append_left _ (List.mem_append_left _ (List.mem_append_left _ (List.mem_append_left _ (List.mem_append_left _ (List.mem_append_left _ (List.mem_append_left _ (List.mem_append_left _ (List.mem_append_left _ (List.mem_append_left _ (List.mem_append_right _ (List.mem_append_left _ h)))))))))))))
theorem tr_3 : ∀ w ∈ wsL_law_r3, w ∈ wsL_law := fun _ h => List.mem_append_left _ (List.mem_append_left _ (List.mem_append_left _ (List.mem_append_left _ (List.mem_append_left _ (List.mem_append_left _ (List.mem_append_left _ (List.mem_append_left _ (List.mem_append_left _ (List.mem_append_left _ (List.mem_append_left _ (List.mem_append_left _ (List.mem_append_right _ (List.mem_append_right _ (List.mem_append_left _ h))))))))))))))
theorem tr_4 : ∀ w ∈ wsL_law_r4, w ∈ wsL_law := fun _ h => List.mem_append_left _ (List.mem_append_left _ (List.mem_append_left _ (List.mem_append_left _ (List.mem_append_left _ (List.mem_append_left _ (List.mem_append_left _ (List.mem_append_left _ (List.mem_append_left _ (List.mem_append_left _ (List.mem_append_left _ (List.mem_append_left _ (List.mem_append_right _ (List.mem_append_right _ (List.mem_append_right _ (List.mem_append_left _ h)))))))))))))))
theorem tr_5 : ∀ w ∈ wsL_law_r5, w ∈ wsL_law := fun _ h => List.mem_append_left _ (List.mem_append_left _ (List.mem_append_left _ (List.mem_append_left _ (List.mem_append_left _ (List.mem_append_left _ (List.mem_append_left _ (List.mem_append_left _ (List.mem_append_left _ (List.mem_append_left _ (List.mem_append_left _ (List.mem_append_left _ (List.mem_append_right _ (List.mem_append_right _ (List.mem_append_right _ (List.mem_append_right _ (List.mem_append_left _ h))))))))))))))))
theorem tr_6 : ∀ w ∈ wsL_law_r6, w ∈ wsL_law := fun _ h => List.mem_append_left _ (List.mem_append_left _ (List.mem_append_left _ (List.mem_append_left _ (List.mem_append_left _ (List.mem_append_left _ (List.mem_append_left _ (List.mem_append_left _ (List.mem_append_left _ (List.mem_append_left _ (List.mem_append_left _ (List.mem_append_left _ (List.mem_append_right _ (List.mem_append_right _ (List.mem_append_right _ (List.mem_append_right _ (List.mem_append_right _ (List.mem_append_left _ h)))))))))))))))))
theorem tr_7 : ∀ w ∈ wsL_law_r7, w ∈ wsL_law := fun _ h => List.mem_append_left _ (List.mem_append_left _ (List.mem_append_left _ (List.mem_append_left _ (List.mem_append_left _ (List.mem_append_left _ (List.mem_append_left _ (List.mem_append_left _ (List.mem_append_left _ (List.mem_append_left _ (List.mem_append_left _ (List.mem_append_left _ (List.mem_append_right _ (List.mem_append_right _ (List.mem_append_right _ (List.mem_append_right _ (List.mem_append_right _ (List.mem_append_right _ (List.mem_append_left _ h))))))))))))))))))
theorem tr_8 : ∀ w ∈ wsL_law_r8, w ∈ wsL_law := fun _ h => List.mem_append_left _ (List.mem_append_left _ (List.mem_append_left _ (List.mem_append_left _ (List.mem_append_left _ (List.mem_append_left _ (List.mem_append_left _ (List.mem_append_left _ (List.mem_append_left _ (List.mem_append_left _ (List.mem_append_left _ (List.mem_append_left _ (List.mem_append_right _ (List.mem_append_right _ (List.mem_append_right _ (List.mem_append_right _ (List.mem_append_right _ (List.mem_append_right _ (List.mem_append_right _ (List.mem_append_left _ h)))))))))))))))))))
theorem tr_9 : ∀ w ∈ wsL_law_r9, w ∈ wsL_law := fun _ h => List.mem_append_left _ (List.mem_append_left _ (List.mem_append_left _ (List.mem_append_left _ (List.mem_append_left _ (List.mem_append_left _ (List.mem_append_left _ (List.mem_append_left _ (List.mem_append_left _ (List.mem_append_left _ (List.mem_append_left _ (List.mem_append_left _ (List.mem_append_right _ (List.mem_append_right _ (List.mem_append_right _ (List.mem_append_right _ (List.mem_append_right _ (List.mem_append_right _ (List.mem_append_right _ (List.mem_append_right _ (List.mem_append_left _ h))))))))))))))))))))
theorem tr_10 : ∀ w ∈ wsL_law_r10, w ∈ wsL_law := fun _ h => List.mem_append_left _ (List.mem_append_left _ (List.mem_append_left _ (List.mem_append_left _ (List.mem_append_left _ (List.mem_append_left _ (List.mem_append_left _ (List.mem_append_left _ (List.mem_append_left _ (List.mem_append_left _ (List.mem_append_left _ (List.mem_append_left _ (List.mem_append_right _ (List.mem_append_right _ (List.mem_append_right _ (List.mem_append_right _ (List.mem_append_right _ (List.mem_append_right _ (List.mem_append_right _ (List.mem_append_right _ (List.mem_append_right _ (List.mem_append_left _ h)))))))))))))))))))))
theorem tr_11 : ∀ w ∈ wsL_law_r11, w ∈ wsL_law := fun _ h => List.mem_append_left _ (List.mem_append_left _ (List.mem_append_left _ (List.mem_append_left _ (List.mem_append_left _ (List.mem_append_left _ (List.mem_append_left _ (List.mem_append_left _ (List.mem_append_left _ (List.mem_append_left _ (List.mem_append_left _ (List.mem_append_left _ (List.mem_append_right _ (List.mem_append_right _ (List.mem_append_right _ (List.mem_append_right _ (List.mem_append_right _ (List.mem_append_right _ (List.mem_append_right _ (List.mem_append_right _ (List.mem_append_right _ (List.mem_append_right _ (List.mem_append_left _ h))))))))))))))))))))))
theorem tr_12 : ∀ w ∈ wsL_law_r12, w ∈ wsL_law := fun _ h => List.mem_append_left _ (List.mem_append_left _ (List.mem_append_left _ (List.mem_append_left _ (List.mem_append_left _ (List.mem_append_left _ (List.mem_append_left _ (List.mem_append_left _ (List.mem_append_left _ (List.mem_append_left _ (List.mem_append_left _ (List.mem_append_left _ (List.mem_append_right _ (List.mem_append_right _ (List.mem_append_right _ (List.mem_append_right _ (List.mem_append_right _ (List.mem_append_right _ (List.mem_append_right _ (List.mem_append_right _ (List.mem_append_right _ (List.mem_append_right _ (List.mem_append_right _ (List.mem_append_left _ h)))))))))))))))))))))))
theorem tr_13 : ∀ w ∈ wsL_law_r13, w ∈ wsL_law := fun _ h => List.mem_append_left _ (List.mem_append_left _ (List.mem_append_left _ (List.mem_append_left _ (List.mem_append_left _ (List.mem_append_left _ (List.mem_append_left _ (List.mem_append_left _ (List.mem_append_left _ (List.mem_append_left _ (List.mem_append_left _ (List.mem_append_left _ (List.mem_append_right _ (List.mem_append_right _ (List.mem_append_right _ (List.mem_append_right _ (List.mem_append_right _ (List.mem_append_right _ (List.mem_append_right _ (List.mem_append_right _ (List.mem_append_right _ (List.mem_append_right _ (List.mem_append_right _ (List.mem_append_right _ (List.mem_append_left _ h))))))))))))))))))))))))
theorem tr_14 : ∀ w ∈ wsL_law_r14, w ∈ wsL_law := fun _ h => List.mem_append_left _ (List.mem_append_left _ (List.mem_append_left _ (List.mem_append_left _ (List.mem_append_left _ (List.mem_append_left _ (List.mem_append_left _ (List.mem_append_left _ (List.mem_append_left _ (List.mem_append_left _ (List.mem_append_left _ (List.mem_append_left _ (List.mem_append_right _ (List.mem_append_right _ (List.mem_append_right _ (List.mem_append_right _ (List.mem_append_right _ (List.mem_append_right _ (List.mem_append_right _ (List.mem_append_right _ (List.mem_append_right _ (List.mem_append_right _ (List.mem_append_right _ (List.mem_append_right _ (List.mem_append_right _ (List.mem_append_left _ h)))))))))))))))))))))))))
theorem tr_15 : ∀ w ∈ wsL_law_r15, w ∈ wsL_law := fun _ h => List.mem_append_left _ (List.mem_append_left _ (List.mem_append_left _ (List.mem_append_left _ (List.mem_append_left _ (List.mem_append_left _ (List.mem_append_left _ (List.mem_append_left _ (List.mem_append_left _ (List.mem_append_left _ (List.mem_append_left _ (List.mem_append_left _ (List.mem_append_right _ (List.mem_append_right _ (List.mem_append_right _ (List.mem_append_right _ (List.mem_append_right _ (List.mem_append_right _ (List.mem_append_right _ (List.mem_append_right _ (List.mem_append_right _ (List.mem_append_right _ (List.mem_append_right _ (List.mem_append_right _ (List.mem_append_right _ (List.mem_append_right _ (List.mem_append_left _ h))))))))))))))))))))))))))
theorem tr_16 : ∀ w ∈ wsL_law_r16, w ∈ wsL_law := fun _ h => List.mem_append_left _ (List.mem_append_left _ (List.mem_append_left _ (List.mem_append_left _ (List.mem_append_left _ (List.mem_append_left _ (List.mem_append_left _ (List.mem_append_left _ (List.mem_append_left _ (List.mem_append_left _ (List.mem_append_left _ (List.mem_append_left _ (List.mem_append_right _ (List.mem_append_right _ (List.mem_append_right _ (List.mem_append_right _ (List.mem_append_right _ (List.mem_append_right _ (List.mem_append_right _ (List.mem_append_right _ (List.mem_append_right _ (List.mem_append_right _ (List.mem_append_right _ (List.mem_append_right _ (List.mem_append_right _ (List.mem_append_right _ (List.mem_append_right _ (List.mem_append_left _ h)))))))))))))))))))))))))))
theorem tr_17 : ∀ w ∈ wsL_law_r17, w ∈ wsL_law := fun _ h => List.mem_append_left _ (List.mem_append_left _ (List.mem_append_left _ (List.mem_append_left _ (List.mem_append_left _ (List.mem_append_left _ (List.mem_append_left _ (List.mem_append_left _ (List.mem_append_left _ (List.mem_append_left _ (List.mem_append_left _ (List.mem_append_left _ (List.mem_append_right _ (List.mem_append_right _ (List.mem_append_right _ (List.mem_append_right _ (List.mem_append_right _ (List.mem_append_right _ (List.mem_append_right _ (List.mem_append_right _ (List.mem_append_right _ (List.mem_append_right _ (List.mem_append_right _ (List.mem_append_right _ (List.mem_append_right _ (List.mem_append_right _ (List.mem_append_right _ (List.mem_append_right _ (List.mem_append_left _ h))))))))))))))))))))))))))))
theorem tr_18 : ∀ w ∈ wsL_law_r18, w ∈ wsL_law := fun _ h => List.mem_append_left _ (List.mem_append_left _ (List.mem_append_left _ (List.mem_append_left _ (List.mem_append_left _ (List.mem_append_left _ (List.mem_append_left _ (List.mem_append_left _ (List.mem_append_left _ (List.mem_append_left _ (List.mem_append_left _ (List.mem_append_left _ (List.mem_append_right _ (List.mem_append_right _ (List.mem_append_right _ (List.mem_append_right _ (List.mem_append_right _ (List.mem_append_right _ (List.mem_append_right _ (List.mem_append_right _ (List.mem_append_right _ (List.mem_append_right _ (List.mem_append_right _ (List.mem_append_right _ (List.mem_append_right _ (List.mem_append_right _ (List.mem_append_right _ (List.mem_append_right _ (List.mem_append_right _ (List.mem_append_left _ h)))))))))))))))))))))))))))))
theorem tr_19 : ∀ w ∈ wsL_law_r19, w ∈ wsL_law := fun _ h => List.mem_append_left _ (List.mem_append_left _ (List.mem_append_left _ (List.mem_append_left _ (List.mem_append_left _ (List.mem_append_left _ (List.mem_append_left _ (List.mem_append_left _ (List.mem_append_left _ (List.mem_append_left _ (List.mem_append_left _ (List.mem_append_left _ (List.mem_append_right _ (List.mem_append_right _ (List.mem_append_right _ (List.mem_append_right _ (List.mem_append_right _ (List.mem_append_right _ (List.mem_append_right _ (List.mem_append_right _ (List.mem_append_right _ (List.mem_append_right _ (List.mem_append_right _ (List.mem_append_right _ (List.mem_append_right _ (List.mem_append_right _ (List.mem_append_right _ (List.mem_append_right _ (List.mem_append_right _ (List.mem_append_right _ (List.mem_append_left _ h))))))))))))))))))))))))))))))
theorem tr_20 : ∀ w ∈ wsL_law_r20, w ∈ wsL_law := fun _ h => List.mem_append_left _ (List.mem_append_left _ (List.mem_append_left _ (List.mem_append_left _ (List.mem_append_left _ (List.mem_append_left _ (List.mem_append_left _ (List.mem_append_left _ (List.mem_append_left _ (List.mem_append_left _ (List.mem_append_left _ (List.mem_append_left _ (List.mem_append_right _ (List.mem_append_right _ (List.mem_append_right _ (List.mem_append_right _ (List.mem_append_right _ (List.mem_append_right _ (List.mem_append_right _ (List.mem_append_right _ (List.mem_append_right _ (List.mem_append_right _ (List.mem_append_right _ (List.mem_append_right _ (List.mem_append_right _ (List.mem_append_right _ (List.mem_append_right _ (List.mem_append_right _ (List.mem_append_right _ (List.mem_append_right _ (List.mem_append_right _ (List.mem_append_left _ h)))))))))))))))))))))))))))))))
theorem tr_21 : ∀ w ∈ wsL_law_r21, w ∈ wsL_law := fun _ h => List.mem_append_left _ (List.mem_append_left _ (List.mem_append_left _ (List.mem_append_left _ (List.mem_append_left _ (List.mem_append_left _ (List.mem_append_left _ (List.mem_append_left _ (List.mem_append_left _ (List.mem_append_left _ (List.mem_append_left _ (List.mem_append_left _ (List.mem_append_right _ (List.mem_append_right _ (List.mem_append_right _ (List.mem_append_right _ (List.mem_append_right _ (List.mem_append_right _ (List.mem_append_right _ (List.mem_append_right _ (List.mem_append_right _ (List.mem_append_right _ (List.mem_append_right _ (List.mem_append_right _ (List.mem_append_right _ (List.mem_append_right _ (List.mem_append_right _ (List.mem_append_right _ (List.mem_append_right _ (List.mem_append_right _ (List.mem_append_right _ (List.mem_append_right _ (List.mem_append_left _ h))))))))))))))))))))))))))))))))
theorem tr_22 : ∀ w ∈ wsL_law_r22, w ∈ wsL_law := fun _ h => List.mem_append_left _ (List.mem_append_left _ (List.mem_append_left _ (List.mem_append_left _ (List.mem_append_left _ (List.mem_append_left _ (List.mem_append_left _ (List.mem_append_left _ (List.mem_append_left _ (List.mem_append_left _ (List.mem_append_left _ (List.mem_append_left _ (List.mem_append_right _ (List.mem_append_right _ (List.mem_append_right _ (List.mem_append_right _ (List.mem_append_right _ (List.mem_append_right _ (List.mem_append_right _ (List.mem_append_right _ (List.mem_append_right _ (List.mem_append_right _ (List.mem_append_right _ (List.mem_append_right _ (List.mem_append_right _ (List.mem_append_right _ (List.mem_append_right _ (List.mem_append_right _ (List.mem_append_right _ (List.mem_append_right _ (List.mem_append_right _ (List.mem_append_right _ (List.mem_append_right _ (List.mem_append_left _ h)))))))))))))))))))))))))))))))))
theorem tr_23 : ∀ w ∈ wsL_law_r23, w ∈ wsL_law := fun _ h => List.mem_append_left _ (List.mem_append_left _ (List.mem_append_left _ (List.mem_append_left _ (List.mem_append_left _ (List.mem_append_left _ (List.mem_append_left _ (List.mem_append_left _ (List.mem_append_left _ (List.mem_append_left _ (List.mem_append_left _ (List.mem_append_left _ (List.mem_append_right _ (List.mem_append_right _ (List.mem_append_right _ (List.mem_append_right _ (List.mem_append_right _ (List.mem_append_right _ (List.mem_append_right _ (List.mem_append_right _ (List.mem_append_right _ (List.mem_append_right _ (List.mem_append_right _ (List.mem_append_right _ (List.mem_append_right _ (List.mem_append_right _ (List.mem_append_right _ (List.mem_append_right _ (List.mem_append_right _ (List.mem_append_right _ (List.mem_append_right _ (List.mem_append_right _ (List.mem_append_right _ (List.mem_append_right _ (List.mem_append_left _ h))))))))))))))))))))))))))))))))))
theorem tr_24 : ∀ w ∈ wsL_law_r24, w ∈ wsL_law := fun _ h => List.mem_append_left _ (List.mem_append_left _ (List.mem_append_left _ (List.mem_append_left _ (List.mem_append_left _ (List.mem_append_left _ (List.mem_append_left _ (List.mem_append_left _ (List.mem_append_left _ (List.mem_append_left _ (List.mem_append_left _ (List.mem_append_left _ (List.mem_append_right _ (List.mem_append_right _ (List.mem_append_right _ (List.mem_append_right _ (List.mem_append_right _ (List.mem_append_right _ (List.mem_append_right _ (List.mem_append_right _ (List.mem_append_right _ (List.mem_append_right _ (List.mem_append_right _ (List.mem_append_right _ (List.mem_append_right _ (List.mem_append_right _ (List.mem_append_right _ (List.mem_append_right _ (List.mem_append_right _ (List.mem_append_right _ (List.mem_append_right _ (List.mem_append_right _ (List.mem_append_right _ (List.mem_append_right _ (List.mem_append_right _ (List.mem_append_left _ h)))))))))))))))))))))))))))))))))))
theorem tr_25 : ∀ w ∈ wsL_law_r25, w ∈ wsL_law := fun _ h => List.mem_append_left _ (List.mem_append_left _ (List.mem_append_left _ (List.mem_append_left _ (List.mem_append_left _ (List.mem_append_left _ (List.mem_append_left _ (List.mem_append_left _ (List.mem_append_left _ (List.mem_append_left _ (List.mem_append_left _ (List.mem_append_left _ (List.mem_append_right _ (List.mem_append_right _ (List.mem_append_right _ (List.mem_append_right _ (List.mem_append_right _ (List.mem_append_right _ (List.mem_append_right _ (List.mem_append_right _ (List.mem_append_right _ (List.mem_append_right _ (List.mem_append_right _ (List.mem_append_right _ (List.mem_append_right _ (List.mem_append_right _ (List.mem_append_right _ (List.mem_append_right _ (List.mem_append_right _ (List.mem_append_right _ (List.mem_append_right _ (List.mem_append_right _ (List.mem_append_right _ (List.mem_append_right _ (List.mem_append_right _ (List.mem_append_right _ (List.mem_append_left _ h))))))))))))))))))))))))))))))))))))
theorem tr_26 : ∀ w ∈ wsL_law_r26, w ∈ wsL_law := fun _ h => List.mem_append_left _ (List.mem_append_left _ (List.mem_append_left _ (List.mem_append_left _ (List.mem_append_left _ (List.mem_append_left _ (List.mem_append_left _ (List.mem_append_left _ (List.mem_append_left _ (List.mem_append_left _ (List.mem_append_left _ (List.mem_append_left _ (List.mem_append_right _ (List.mem_append_right _ (List.mem_append_right _ (List.mem_append_right _ (List.mem_append_right _ (List.mem_append_right _ (List.mem_append_right _ (List.mem_append_right _ (List.mem_append_right _ (List.mem_append_right _ (List.mem_append_right _ (List.mem_append_right _ (List.mem_append_right _ (List.mem_append_right _ (List.mem_append_right _ (List.mem_append_right _ (List.mem_append_right _ (List.mem_append_right _ (List.mem_append_right _ (List.mem_append_right _ (List.mem_append_right _ (List.mem_append_right _ (List.mem_append_right _ (List.mem_append_right _ (List.mem_append_right _ (List.mem_append_left _ h)))))))))))))))))))))))))))))))))))))
theorem tr_27 : ∀ w ∈ wsL_law_r27, w ∈ wsL_law := fun _ h => List.mem_append_left _ (List.mem_append_left _ (List.mem_append_left _ (List.mem_append_left _ (List.mem_append_left _ (List.mem_append_left _ (List.mem_append_left _ (List.mem_append_left _ (List.mem_append_left _ (List.mem_append_left _ (List.mem_append_left _ (List.mem_append_left _ (List.mem_append_right _ (List.mem_append_right _ (List.mem_append_right _ (List.mem_append_right _ (List.mem_append_right _ (List.mem_append_right _ (List.mem_append_right _ (List.mem_append_right _ (List.mem_append_right _ (List.mem_append_right _ (List.mem_append_right _ (List.mem_append_right _ (List.mem_append_right _ (List.mem_append_right _ (List.mem_append_right _ (List.mem_append_right _ (List.mem_append_right _ (List.mem_append_right _ (List.mem_append_right _ (List.mem_append_right _ (List.mem_append_right _ (List.mem_append_right _ (List.mem_append_right _ (List.mem_append_right _ (List.mem_append_right _ (List.mem_append_right _ (List.mem_append_left _ h))))))))))))))))))))))))))))))))))))))
theorem tr_28 : ∀ w ∈ wsL_law_r28, w ∈ wsL_law := fun _ h => List.mem_append_left _ (List.mem_append_left _ (List.mem_append_left _ (List.mem_append_left _ (List.mem_append_left _ (List.mem_append_left _ (List.mem_append_left _ (List.mem_append_left _ (List.mem_append_left _ (List.mem_append_left _ (List.mem_append_left _ (List.mem_append_left _ (List.mem_append_right _ (List.mem_append_right _ (List.mem_append_right _ (List.mem_append_right _ (List.mem_append_right _ (List.mem_append_right _ (List.mem_append_right _ (List.mem_append_right _ (List.mem_append_right _ (List.mem_append_right _ (List.mem_append_right _ (List.mem_append_right _ (List.mem_append_right _ (List.mem_append_right _ (List.mem_append_right _ (List.mem_append_right _ (List.mem_append_right _ (List.mem_append_right _ (List.mem_append_right _ (List.mem_append_right _ (List.mem_append_right _ (List.mem_append_right _ (List.mem_append_right _ (List.mem_append_right _ (List.mem_append_right _ (List.mem_append_right _ (List.mem_append_right _ (List.mem_append_left _ h)))))))))))))))))))))))))))))))))))))))
theorem tr_29 : ∀ w ∈ wsL_law_r29, w ∈ wsL_law := fun _ h => List.mem_append_left _ (List.mem_append_left _ (List.mem_append_left _ (List.mem_append_left _ (List.mem_append_left _ (List.mem_append_left _ (List.mem_append_left _ (List.mem_append_left _ (List.mem_append_left _ (List.mem_append_left _ (List.mem_append_left _ (List.mem_append_left _ (List.mem_append_right _ (List.mem_append_right _ (List.mem_append_right _ (List.mem_append_right _ (List.mem_append_right _ (List.mem_append_right _ (List.mem_append_right _ (List.mem_append_right _ (List.mem_append_right _ (List.mem_append_right _ (List.mem_append_right _ (List.mem_append_right _ (List.mem_append_right _ (List.mem_append_right _ (List.mem_append_right _ (List.mem_append_right _ (List.mem_append_right _ (List.mem_append_right _ (List.mem_append_right _ (List.mem_append_right _ (List.mem_append_right _ (List.mem_append_right _ (List.mem_append_right _ (List.mem_append_right _ (List.mem_append_right _ (List.mem_append_right _ (List.mem_append_right _ (List.mem_append_right _ (List.mem_append_left _ h))))))))))))))))))))))))))))))))))))))))
theorem tr_30 : ∀ w ∈ wsL_law_r30, w ∈ wsL_law := fun _ h => List.mem_append_left _ (List.mem_append_left _ (List.mem_append_left _ (List.mem_append_left _ (List.mem_append_left _ (List.mem_append_left _ (List.mem_append_left _ (List.mem_append_left _ (List.mem_append_left _ (List.mem_append_left _ (List.mem_append_left _ (List.mem_append_left _ (List.mem_append_right _ (List.mem_append_right _ (List.mem_append_right _ (List.mem_append_right _ (List.mem_append_right _ (List.mem_append_right _ (List.mem_append_right _ (List.mem_append_right _ (List.mem_append_right _ (List.mem_append_right _ (List.mem_append_right _ (List.mem_append_right _ (List.mem_append_right _ (List.mem_append_right _ (List.mem_append_right _ (List.mem_append_right _ (List.mem_append_right _ (List.mem_append_right _ (List.mem_append_right _ (List.mem_append_right _ (List.mem_append_right _ (List.mem_append_right _ (List.mem_append_right _ (List.mem_append_right _ (List.mem_append_right _ (List.mem_append_right _ (List.mem_append_right _ (List.mem_append_right _ (List.mem_append_right _ (List.mem_append_left _ h)))))))))))))))))))))))))))))))))))))))))
theorem tr_31 : ∀ w ∈ wsL_law_r31, w ∈ wsL_law := fun _ h => List.mem_append_left _ (List.mem_append_left _ (List.mem_append_left _ (List.mem_append_left _ (List.mem_append_left _ (List.mem_append_left _ (List.mem_append_left _ (List.mem_append_left _ (List.mem_append_left _ (List.mem_append_left _ (List.mem_append_left _ (List.mem_append_left _ (List.mem_append_right _ (List.mem_append_right _ (List.mem_append_right _ (List.mem_append_right _ (List.mem_append_right _ (List.mem_append_right _ (List.mem_append_right _ (List.mem_append_right _ (List.mem_append_right _ (List.mem_append_right _ (List.mem_append_right _ (List.mem_append_right _ (List.mem_append_right _ (List.mem_append_right _ (List.mem_append_right _ (List.mem_append_right _ (List.mem_append_right _ (List.mem_append_right _ (List.mem_append_right _ (List.mem_append_right _ (List.mem_append_right _ (List.mem_append_right _ (List.mem_append_right _ (List.mem_append_right _ (List.mem_append_right _ (List.mem_append_right _ (List.mem_append_right _ (List.mem_append_right _ (List.mem_append_right _ (List.mem_append_right _ (List.mem_append_left _ h))))))))))))))))))))))))))))))))))))))))))
theorem tr_32 : ∀ w ∈ wsL_law_r32, w ∈ wsL_law := fun _ h => List.mem_append_left _ (List.mem_append_left _ (List.mem_append_left _ (List.mem_append_left _ (List.mem_append_left _ (List.mem_append_left _ (List.mem_append_left _ (List.mem_append_left _ (List.mem_append_left _ (List.mem_append_left _ (List.mem_append_left _ (List.mem_append_left _ (List.mem_append_right _ (List.mem_append_right _ (List.mem_append_right _ (List.mem_append_right _ (List.mem_append_right _ (List.mem_append_right _ (List.mem_append_right _ (List.mem_append_right _ (List.mem_append_right _ (List.mem_append_right _ (List.mem_append_right _ (List.mem_append_right _ (List.mem_append_right _ (List.mem_append_right _ (List.mem_append_right _ (List.mem_append_right _ (List.mem_append_right _ (List.mem_append_right _ (List.mem_append_right _ (List.mem_append_right _ (List.mem_append_right _ (List.mem_append_right _ (List.mem_append_right _ (List.mem_append_right _ (List.mem_append_right _ (List.mem_append_right _ (List.mem_append_right _ (List.mem_append_right _ (List.mem_append_right _ (List.mem_append_right _ (List.mem_append_right _ (List.mem_append_left _ h)))))))))))))))))))))))))))))))))))))))))))
theorem tr_33 : ∀ w ∈ wsL_law_r33, w ∈ wsL_law := fun _ h => List.mem_append_left _ (List.mem_append_left _ (List.mem_append_left _ (List.mem_append_left _ (List.mem_append_left _ (List.mem_append_left _ (List.mem_append_left _ (List.mem_append_left _ (List.mem_append_left _ (List.mem_append_left _ (List.mem_append_left _ (List.mem_append_left _ (List.mem_append_right _ (List.mem_append_right _ (List.mem_append_right _ (List.mem_append_right _ (List.mem_append_right _ (List.mem_append_right _ (List.mem_append_right _ (List.mem_append_right _ (List.mem_append_right _ (List.mem_append_right _ (List.mem_append_right _ (List.mem_append_right _ (List.mem_append_right _ (List.mem_append_right _ (List.mem_append_right _ (List.mem_append_right _ (List.mem_append_right _ (List.mem_append_right _ (List.mem_append_right _ (List.mem_append_right _ (List.mem_append_right _ (List.mem_append_right _ (List.mem_append_right _ (List.mem_append_right _ (List.mem_append_right _ (List.mem_append_right _ (List.mem_append_right _ (List.mem_append_right _ (List.mem_append_right _ (List.mem_append_right _ (List.mem_append_right _ (List.mem_append_right _ (List.mem_append_left _ h))))))))))))))))))))))))))))))))))))))))))))
theorem tr_34 : ∀ w ∈ wsL_law_r34, w ∈ wsL_law := fun _ h => List.mem_append_left _ (List.mem_append_left _ (List.mem_append_left _ (List.mem_append_left _ (List.mem_append_left _ (List.mem_append_left _ (List.mem_append_left _ (List.mem_append_left _ (List.mem_append_left _ (List.mem_append_left _ (List.mem_append_left _ (List.mem_append_left _ (List.mem_append_right _ (List.mem_append_right _ (List.mem_append_right _ (List.mem_append_right _ (List.mem_append_right _ (List.mem_append_right _ (List.mem_append_right _ (List.mem_append_right _ (List.mem_append_right _ (List.mem_append_right _ (List.mem_append_right _ (List.mem_append_right _ (List.mem_append_right _ (List.mem_append_right _ (List.mem_append_right _ (List.mem_append_right _ (List.mem_append_right _ (List.mem_append_right _ (List.mem_append_right _ (List.mem_append_right _ (List.mem_append_right _ (List.mem_append_right _ (List.mem_append_right _ (List.mem_append_right _ (List.mem_append_right _ (List.mem_append_right _ (List.mem_append_right _ (List.mem_append_right _ (List.mem_append_right _ (List.mem_append_right _ (List.mem_append_right _ (List.mem_append_right _ (List.mem_append_right _ (List.mem_append_left _ h)))))))))))))))))))))))))))))))))))))))))))))
theorem tr_35 : ∀ w ∈ wsL_law_r35, w ∈ wsL_law := fun _ h => List.mem_append_left _ (List.mem_append_left _ (List.mem_append_left _ (List.mem_append_left _ (List.mem_append_left _ (List.mem_append_left _ (List.mem_append_left _ (List.mem_append_left _ (List.mem_append_left _ (List.mem_append_left _ (List.mem_append_left _ (List.mem_append_left _ (List.mem_append_right _ (List.mem_append_right _ (List.mem_append_right _ (List.mem_append_right _ (List.mem_append_right _ (List.mem_append_right _ (List.mem_append_right _ (List.mem_append_right _ (List.mem_append_right _ (List.mem_append_right _ (List.mem_append_right _ (List.mem_append_right _ (List.mem_append_right _ (List.mem_append_right _ (List.mem_append_right _ (List.mem_append_right _ (List.mem_append_right _ (List.mem_append_right _ (List.mem_append_right _ (List.mem_append_right _ (List.mem_append_right _ (List.mem_append_right _ (List.mem_append_right _ (List.mem_append_right _ (List.mem_append_right _ (List.mem_append_right _ (List.mem_append_right _ (List.mem_append_right _ (List.mem_append_right _ (List.mem_append_right _ (List.mem_append_right _ (List.mem_append_right _ (List.mem_append_right _ (List.mem_append_right _ (List.mem_append_left _ h))))))))))))))))))))))))))))))))))))))))))))))
theorem tr_36 : ∀ w ∈ wsL_law_r36, w ∈ wsL_law := fun _ h => List.mem_append_left _ (List.mem_append_left _ (List.mem_append_left _ (List.mem_append_left _ (List.mem_append_left _ (List.mem_append_left _ (List.mem_append_left _ (List.mem_append_left _ (List.mem_append_left _ (List.mem_append_left _ (List.mem_append_left _ (List.mem_append_left _ (List.mem_append_right _ (List.mem_append_right _ (List.mem_append_right _ (List.mem_append_right _ (List.mem_append_right _ (List.mem_append_right _ (List.mem_append_right _ (List.mem_append_right _ (List.mem_append_right _ (List.mem_append_right _ (List.mem_append_right _ (List.mem_append_right _ (List.mem_append_right _ (List.mem_append_right _ (List.mem_append_right _ (List.mem_append_right _ (List.mem_append_right _ (List.mem_append_right _ (List.mem_append_right _ (List.mem_append_right _ (List.mem_append_right _ (List.mem_append_right _ (List.mem_append_right _ (List.mem_append_right _ (List.mem_append_right _ (List.mem_append_right _ (List.mem_append_right _ (List.mem_append_right _ (List.mem_append_right _ (List.mem_append_right _ (List.mem_append_right _ (List.mem_append_right _ (List.mem_append_right _ (List.mem_append_right _ (List.mem_append_right _ (List.mem_append_left _ h)))))))))))))))))))))))))))))))))))))))))))))))
theorem tr_37 : ∀ w ∈ wsL_law_r37, w ∈ wsL_law := fun _ h => List.mem_append_left _ (List.mem_append_left _ (List.mem_append_left _ (List.mem_append_left _ (List.mem_append_left _ (List.mem_append_left _ (List.mem_append_left _ (List.mem_append_left _ (List.mem_append_left _ (List.mem_append_left _ (List.mem_append_left _ (List.mem_append_left _ (List.mem_append_right _ (List.mem_append_right _ (List.mem_append_right _ (List.mem_append_right _ (List.mem_append_right _ (List.mem_append_right _ (List.mem_append_right _ (List.mem_append_right _ (List.mem_append_right _ (List.mem_append_right _ (List.mem_append_right _ (List.mem_append_right _ (List.mem_append_right _ (List.mem_append_right _ (List.mem_append_right _ (List.mem_append_right _ (List.mem_append_right _ (List.mem_append_right _ (List.mem_append_right _ (List.mem_append_right _ (List.mem_append_right _ (List.mem_append_right _ (List.mem_append_right _ (List.mem_append_right _ (List.mem_append_right _ (List.mem_append_right _ (List.mem_append_right _ (List.mem_append_right _ (List.mem_append_right _ (List.mem_append_right _ (List.mem_append_right _ (List.mem_append_right _ (List.mem_append_right _ (List.mem_append_right _ (List.mem_append_right _ (List.mem_append_right _ (List.mem_append_left _ h))))))))))))))))))))))))))))))))))))))))))))))))
theorem tr_38 : ∀ w ∈ wsL_law_r38, w ∈ wsL_law := fun _ h => List.mem_append_left _ (List.mem_append_left _ (List.mem_append_left _ (List.mem_append_left _ (List.mem_append_left _ (List.mem_append_left _ (List.mem_append_left _ (List.mem_append_left _ (List.mem_append_left _ (List.mem_append_left _ (List.mem_append_left _ (List.mem_append_left _ (List.mem_append_right _ (List.mem_append_right _ (List.mem_append_right _ (List.mem_append_right _ (List.mem_append_right _ (List.mem_append_right _ (List.mem_append_right _ (List.mem_append_right _ (List.mem_append_right _ (List.mem_append_right _ (List.mem_append_right _ (List.mem_append_right _ (List.mem_append_right _ (List.mem_append_right _ (List.mem_append_right _ (List.mem_append_right _ (List.mem_append_right _ (List.mem_append_right _ (List.mem_append_right _ (List.mem_append_right _ (List.mem_append_right _ (List.mem_append_right _ (List.mem_append_right _ (List.mem_append_right _ (List.mem_append_right _ (List.mem_append_right _ (List.mem_append_right _ (List.mem_append_right _ (List.mem_append_right _ (List.mem_append_right _ (List.mem_append_right _ (List.mem_append_right _ (List.mem_append_right _ (List.mem_append_right _ (List.mem_append_right _ (List.mem_append_right _ (List.mem_append_right _ (List.mem_append_left _ h)))))))))))))))))))))))))))))))))))))))))))))))))
theorem tr_39 : ∀ w ∈ wsL_law_r39, w ∈ wsL_law := fun _ h => List.mem_append_left _ (List.mem_append_left _ (List.mem_append_left _ (List.mem_append_left _ (List.mem_append_left _ (List.mem_append_left _ (List.mem_append_left _ (List.mem_append_left _ (List.mem_append_left _ (List.mem_append_left _ (List.mem_append_left _ (List.mem_append_left _ (List.mem_append_right _ (List.mem_append_right _ (List.mem_append_right _ (List.mem_append_right _ (List.mem_append_right _ (List.mem_append_right _ (List.mem_append_right _ (List.mem_append_right _ (List.mem_append_right _ (List.mem_append_right _ (List.mem_append_right _ (List.mem_append_right _ (List.mem_append_right _ (List.mem_append_right _ (List.mem_append_right _ (List.mem_append_right _ (List.mem_append_right _ (List.mem_append_right _ (List.mem_append_right _ (List.mem_append_right _ (List.mem_append_right _ (List.mem_append_right _ (List.mem_append_right _ (List.mem_append_right _ (List.mem_append_right _ (List.mem_append_right _ (List.mem_append_right _ (List.mem_append_right _ (List.mem_append_right _ (List.mem_append_right _ (List.mem_append_right _ (List.mem_append_right _ (List.mem_append_right _ (List.mem_append_right _ (List.mem_append_right _ (List.mem_append_right _ (List.mem_append_right _ (List.mem_append_right _ (List.mem_append_left _ h))))))))))))))))))))))))))))))))))))))))))))))))))
theorem tr_40 : ∀ w ∈ wsL_law_r40, w ∈ wsL_law := fun _ h => List.mem_append_left _ (List.mem_append_left _ (List.mem_append_left _ (List.mem_append_left _ (List.mem_append_left _ (List.mem_append_left _ (List.mem_append_left _ (List.mem_append_left _ (List.mem_append_left _ (List.mem_append_left _ (List.mem_append_left _ (List.mem_append_left _ (List.mem_append_right _ (List.mem_append_right _ (List.mem_append_right _ (List.mem_append_right _ (List.mem_append_right _ (List.mem_append_right _ (List.mem_append_right _ (List.mem_append_right _ (List.mem_append_right _ (List.mem_append_right _ (List.mem_append_right _ (List.mem_append_right _ (List.mem_append_right _ (List.mem_append_right _ (List.mem_append_right _ (List.mem_append_right _ (List.mem_append_right _ (List.mem_append_right _ (List.mem_append_right _ (List.mem_append_right _ (List.mem_append_right _ (List.mem_append_right _ (List.mem_append_right _ (List.mem_append_right _ (List.mem_append_right _ (List.mem_append_right _ (List.mem_append_right _ (List.mem_append_right _ (List.mem_append_right _ (List.mem_append_right _ (List.mem_append_right _ (List.mem_append_right _ (List.mem_append_right _ (List.mem_append_right _ (List.mem_append_right _ (List.mem_append_right _ (List.mem_append_right _ (List.mem_append_right _ (List.mem_append_right _ (List.mem_append_left _ h)))))))))))))))))))))))))))))))))))))))))))))))))))
theorem tr_41 : ∀ w ∈ wsL_law_r41, w ∈ wsL_law := fun _ h => List.mem_append_left _ (List.mem_append_left _ (List.mem_append_left _ (List.mem_append_left _ (List.mem_append_left _ (List.mem_append_left _ (List.mem_append_left _ (List.mem_append_left _ (List.mem_append_left _ (List.mem_append_left _ (List.mem_append_left _ (List.mem_append_left _ (List.mem_append_right _ (List.mem_append_right _ (List.mem_append_right _ (List.mem_append_right _ (List.mem_append_right _ (List.mem_append_right _ (List.mem_append_right _ (List.mem_append_right _ (List.mem_append_right _ (List.mem_append_right _ (List.mem_append_right _ (List.mem_append_right _ (List.mem_append_right _ (List.mem_append_right _ (List.mem_append_right _ (List.mem_append_right _ (List.mem_append_right _ (List.mem_append_right _ (List.mem_append_right _ (List.mem_append_right _ (List.mem_append_right _ (List.mem_append_right _ (List.mem_append_right _ (List.mem_append_right _ (List.mem_append_right _ (List.mem_append_right _ (List.mem_append_right _ (List.mem_append_right _ (List.mem_append_right _ (List.mem_append_right _ (List.mem_append_right _ (List.mem_append_right _ (List.mem_append_right _ (List.mem_append_right _ (List.mem_append_right _ (List.mem_append_right _ (List.mem_append_right _ (List.mem_append_right _ (List.mem_append_right _ (List.mem_append_right _ (List.mem_append_left _ h))))))))))))))))))))))))))))))))))))))))))))))))))))
theorem tr_42 : ∀ w ∈ wsL_law_r42, w ∈ wsL_law := fun _ h => List.mem_append_left _ (List.mem_append_left _ (List.mem_append_left _ (List.mem_append_left _ (List.mem_append_left _ (List.mem_append_left _ (List.mem_append_left _ (List.mem_append_left _ (List.mem_append_left _ (List.mem_append_left _ (List.mem_append_left _ (List.mem_append_left _ (List.mem_append_right _ (List.mem_append_right _ (List.mem_append_right _ (List.mem_append_right _ (List.mem_append_right _ (List.mem_append_right _ (List.mem_append_right _ (List.mem_append_right _ (List.mem_append_right _ (List.mem_append_right _ (List.mem_append_right _ (List.mem_append_right _ (List.mem_append_right _ (List.mem_append_right _ (List.mem_append_right _ (List.mem_append_right _ (List.mem_append_right _ (List.mem_append_right _ (List.mem_append_right _ (List.mem_append_right _ (List.mem_append_right _ (List.mem_append_right _ (List.mem_append_right _ (List.mem_append_right _ (List.mem_append_right _ (List.mem_append_right _ (List.mem_append_right _ (List.mem_append_right _ (List.mem_append_right _ (List.mem_append_right _ (List.mem_append_right _ (List.mem_append_right _ (List.mem_append_right _ (List.mem_append_right _ (List.mem_append_right _ (List.mem_append_right _ (List.mem_append_right _ (List.mem_append_right _ (List.mem_append_right _ (List.mem_append_right _ (List.mem_append_right _ (List.mem_append_left _ h)))))))))))))))))))))))))))))))))))))))))))))))))))))
theorem tr_43 : ∀ w ∈ wsL_law_r43, w ∈ wsL_law := fun _ h => List.mem_append_left _ (List.mem_append_left _ (List.mem_append_left _ (List.mem_append_left _ (List.mem_append_left _ (List.mem_append_left _ (List.mem_append_left _ (List.mem_append_left _ (List.mem_append_left _ (List.mem_append_left _ (List.mem_append_left _ (List.mem_append_left _ (List.mem_append_right _ (List.mem_append_right _ (List.mem_append_right _ (List.mem_append_right _ (List.mem_append_right _ (List.mem_append_right _ (List.mem_append_right _ (List.mem_append_right _ (List.mem_append_right _ (List.mem_append_right _ (List.mem_append_right _ (List.mem_append_right _ (List.mem_append_right _ (List.mem_append_right _ (List.mem_append_right _ (List.mem_append_right _ (List.mem_append_right _ (List.mem_append_right _ (List.mem_append_right _ (List.mem_append_right _ (List.mem_append_right _ (List.mem_append_right _ (List.mem_append_right _ (List.mem_append_right _ (List.mem_append_right _ (List.mem_append_right _ (List.mem_append_right _ (List.mem_append_right _ (List.mem_append_right _ (List.mem_append_right _ (List.mem_append_right _ (List.mem_append_right _ (List.mem_append_right _ (List.mem_append_right _ (List.mem_append_right _ (List.mem_append_right _ (List.mem_append_right _ (List.mem_append_right _ (List.mem_append_right _ (List.mem_append_right _ (List.mem_append_right _ (List.mem_append_right _ (List.mem_append_left _ h))))))))))))))))))))))))))))))))))))))))))))))))))))))
theorem tr_44 : ∀ w ∈ wsL_law_r44, w ∈ wsL_law := fun _ h => List.mem_append_left _ (List.mem_append_left _ (List.mem_append_left _ (List.mem_append_left _ (List.mem_append_left _ (List.mem_append_left _ (List.mem_append_left _ (List.mem_append_left _ (List.mem_append_left _ (List.mem_append_left _ (List.mem_append_left _ (List.mem_append_left _ (List.mem_append_right _ (List.mem_append_right _ (List.mem_append_right _ (List.mem_append_right _ (List.mem_append_right _ (List.mem_append_right _ (List.mem_append_right _ (List.mem_append_right _ (List.mem_append_right _ (List.mem_append_right _ (List.mem_append_right _ (List.mem_append_right _ (List.mem_append_right _ (List.mem_append_right _ (List.mem_append_right _ (List.mem_append_right _ (List.mem_append_right _ (List.mem_append_right _ (List.mem_append_right _ (List.mem_append_right _ (List.mem_append_right _ (List.mem_append_right _ (List.mem_append_right _ (List.mem_append_right _ (List.mem_append_right _ (List.mem_append_right _ (List.mem_append_right _ (List.mem_append_right _ (List.mem_append_right _ (List.mem_append_right _ (List.mem_append_right _ (List.mem_append_right _ (List.mem_append_right _ (List.mem_append_right _ (List.mem_append_right _ (List.mem_append_right _ (List.mem_append_right _ (List.mem_append_right _ (List.mem_append_right _ (List.mem_append_right _ (List.mem_append_right _ (List.mem_append_right _ (List.mem_append_right _ (List.mem_append_left _ h)))))))))))))))))))))))))))))))))))))))))))))))))))))))
theorem tr_45 : ∀ w ∈ wsL_law_r45, w ∈ wsL_law := fun _ h => List.mem_append_left _ (List.mem_append_left _ (List.mem_append_left _ (List.mem_append_left _ (List.mem_append_left _ (List.mem_append_left _ (List.mem_append_left _ (List.mem_append_left _ (List.mem_append_left _ (List.mem_append_left _ (List.mem_append_left _ (List.mem_append_left _ (List.mem_append_right _ (List.mem_append_right _ (List.mem_append_right _ (List.mem_append_right _ (List.mem_append_right _ (List.mem_append_right _ (List.mem_append_right _ (List.mem_append_right _ (List.mem_append_right _ (List.mem_append_right _ (List.mem_append_right _ (List.mem_append_right _ (List.mem_append_right _ (List.mem_append_right _ (List.mem_append_right _ (List.mem_append_right _ (List.mem_append_right _ (List.mem_append_right _ (List.mem_append_right _ (List.mem_append_right _ (List.mem_append_right _ (List.mem_append_right _ (List.mem_append_right _ (List.mem_append_right _ (List.mem_append_right _ (List.mem_append_right _ (List.mem_append_right _ (List.mem_append_right _ (List.mem_append_right _ (List.mem_append_right _ (List.mem_append_right _ (List.mem_append_right _ (List.mem_append_right _ (List.mem_append_right _ (List.mem_append_right _ (List.mem_append_right _ (List.mem_append_right _ (List.mem_append_right _ (List.mem_append_right _ (List.mem_append_right _ (List.mem_append_right _ (List.mem_append_right _ (List.mem_append_right _ (List.mem_append_right _ (List.mem_append_left _ h))))))))))))))))))))))))))))))))))))))))))))))))))))))))
theorem tr_46 : ∀ w ∈ wsL_law_r46, w ∈ wsL_law := fun _ h => List.mem_append_left _ (List.mem_append_left _ (List.mem_append_left _ (List.mem_append_left _ (List.mem_append_left _ (List.mem_append_left _ (List.mem_append_left _ (List.mem_append_left _ (List.mem_append_left _ (List.mem_append_left _ (List.mem_append_left _ (List.mem_append_left _ (List.mem_append_right _ (List.mem_append_right _ (List.mem_append_right _ (List.mem_append_right _ (List.mem_append_right _ (List.mem_append_right _ (List.mem_append_right _ (List.mem_append_right _ (List.mem_append_right _ (List.mem_append_right _ (List.mem_append_right _ (List.mem_append_right _ (List.mem_append_right _ (List.mem_append_right _ (List.mem_append_right _ (List.mem_append_right _ (List.mem_append_right _ (List.mem_append_right _ (List.mem_append_right _ (List.mem_append_right _ (List.mem_append_right _ (List.mem_append_right _ (List.mem_append_right _ (List.mem_append_right _ (List.mem_append_right _ (List.mem_append_right _ (List.mem_append_right _ (List.mem_append_right _ (List.mem_append_right _ (List.mem_append_right _ (List.mem_append_right _ (List.mem_append_right _ (List.mem_append_right _ (List.mem_append_right _ (List.mem_append_right _ (List.mem_append_right _ (List.mem_append_right _ (List.mem_append_right _ (List.mem_append_right _ (List.mem_append_right _ (List.mem_append_right _ (List.mem_append_right _ (List.mem_append_right _ (List.mem_append_right _ (List.mem_append_right _ (List.mem_append_left _ h)))))))))))))))))))))))))))))))))))))))))))))))))))))))))
theorem tr_47 : ∀ w ∈ wsL_law_r47, w ∈ wsL_law := fun _ h => List.mem_append_left _ (List.mem_append_left _ (List.mem_append_left _ (List.mem_append_left _ (List.mem_append_left _ (List.mem_append_left _ (List.mem_append_left _ (List.mem_append_left _ (List.mem_append_left _ (List.mem_append_left _ (List.mem_append_left _ (List.mem_append_left _ (List.mem_append_right _ (List.mem_append_right _ (List.mem_append_right _ (List.mem_append_right _ (List.mem_append_right _ (List.mem_append_right _ (List.mem_append_right _ (List.mem_append_right _ (List.mem_append_right _ (List.mem_append_right _ (List.mem_append_right _ (List.mem_append_right _ (List.mem_append_right _ (List.mem_append_right _ (List.mem_append_right _ (List.mem_append_right _ (List.mem_append_right _ (List.mem_append_right _ (List.mem_append_right _ (List.mem_append_right _ (List.mem_append_right _ (List.mem_append_right _ (List.mem_append_right _ (List.mem_append_right _ (List.mem_append_right _ (List.mem_append_right _ (List.mem_append_right _ (List.mem_append_right _ (List.mem_append_right _ (List.mem_append_right _ (List.mem_append_right _ (List.mem_append_right _ (List.mem_append_right _ (List.mem_append_right _ (List.mem_append_right _ (List.mem_append_right _ (List.mem_append_right _ (List.mem_append_right _ (List.mem_append_right _ (List.mem_append_right _ (List.mem_append_right _ (List.mem_append_right _ (List.mem_append_right _ (List.mem_append_right _ (List.mem_append_right _ (List.mem_append_right _ (List.mem_append_left _ h))))))))))))))))))))))))))))))))))))))))))))))))))))))))))
theorem tr_48 : ∀ w ∈ wsL_law_r48, w ∈ wsL_law := fun _ h => List.mem_append_left _ (List.mem_append_left _ (List.mem_append_left _ (List.mem_append_left _ (List.mem_append_left _ (List.mem_append_left _ (List.mem_append_left _ (List.mem_append_left _ (List.mem_append_left _ (List.mem_append_left _ (List.mem_append_left _ (List.mem_append_left _ (List.mem_append_right _ (List.mem_append_right _ (List.mem_append_right _ (List.mem_append_right _ (List.mem_append_right _ (List.mem_append_right _ (List.mem_append_right _ (List.mem_append_right _ (List.mem_append_right _ (List.mem_append_right _ (List.mem_append_right _ (List.mem_append_right _ (List.mem_append_right _ (List.mem_append_right _ (List.mem_append_right _ (List.mem_append_right _ (List.mem_append_right _ (List.mem_append_right _ (List.mem_append_right _ (List.mem_append_right _ (List.mem_append_right _ (List.mem_append_right _ (List.mem_append_right _ (List.mem_append_right _ (List.mem_append_right _ (List.mem_append_right _ (List.mem_append_right _ (List.mem_append_right _ (List.mem_append_right _ (List.mem_append_right _ (List.mem_append_right _ (List.mem_append_right _ (List.mem_append_right _ (List.mem_append_right _ (List.mem_append_right _ (List.mem_append_right _ (List.mem_append_right _ (List.mem_append_right _ (List.mem_append_right _ (List.mem_append_right _ (List.mem_append_right _ (List.mem_append_right _ (List.mem_append_right _ (List.mem_append_right _ (List.mem_append_right _ (List.mem_append_right _ (List.mem_append_right _ (List.mem_append_left _ h)))))))))))))))))))))))))))))))))))))))))))))))))))))))))))
theorem tr_49 : ∀ w ∈ wsL_law_r49, w ∈ wsL_law := fun _ h => List.mem_append_left _ (List.mem_append_left _ (List.mem_append_left _ (List.mem_append_left _ (List.mem_append_left _ (List.mem_append_left _ (List.mem_append_left _ (List.mem_append_left _ (List.mem_append_left _ (List.mem_append_left _ (List.mem_append_left _ (List.mem_append_left _ (List.mem_append_right _ (List.mem_append_right _ (List.mem_append_right _ (List.mem_append_right _ (List.mem_append_right _ (List.mem_append_right _ (List.mem_append_right _ (List.mem_append_right _ (List.mem_append_right _ (List.mem_append_right _ (List.mem_append_right _ (List.mem_append_right _ (List.mem_append_right _ (List.mem_append_right _ (List.mem_append_right _ (List.mem_append_right _ (List.mem_append_right _ (List.mem_append_right _ (List.mem_append_right _ (List.mem_append_right _ (List.mem_append_right _ (List.mem_append_right _ (List.mem_append_right _ (List.mem_append_right _ (List.mem_append_right _ (List.mem_append_right _ (List.mem_append_right _ (List.mem_append_right _ (List.mem_append_right _ (List.mem_append_right _ (List.mem_append_right _ (List.mem_append_right _ (List.mem_append_right _ (List.mem_append_right _ (List.mem_append_right _ (List.mem_append_right _ (List.mem_append_right _ (List.mem_append_right _ (List.mem_append_right _ (List.mem_append_right _ (List.mem_append_right _ (List.mem_append_right _ (List.mem_append_right _ (List.mem_append_right _ (List.mem_append_right _ (List.mem_append_right _ (List.mem_append_right _ (List.mem_append_right _ (List.mem_append_left _ h))))))))))))))))))))))))))))))))))))))))))))))))))))))))))))
theorem tr_50 : ∀ w ∈ wsL_law_r50, w ∈ wsL_law := fun _ h => List.mem_append_left _ (List.mem_append_left _ (List.mem_append_left _ (List.mem_append_left _ (List.mem_append_left _ (List.mem_append_left _ (List.mem_append_left _ (List.mem_append_left _ (List.mem_append_left _ (List.mem_append_left _ (List.mem_append_left _ (List.mem_append_left _ (List.mem_append_right _ (List.mem_append_right _ (List.mem_append_right _ (List.mem_append_right _ (List.mem_append_right _ (List.mem_append_right _ (List.mem_append_right _ (List.mem_append_right _ (List.mem_append_right _ (List.mem_append_right _ (List.mem_append_right _ (List.mem_append_right _ (List.mem_append_right _ (List.mem_append_right _ (List.mem_append_right _ (List.mem_append_right _ (List.mem_append_right _ (List.mem_append_right _ (List.mem_append_right _ (List.mem_append_right _ (List.mem_append_right _ (List.mem_append_right _ (List.mem_append_right _ (List.mem_append_right _ (List.mem_append_right _ (List.mem_append_right _ (List.mem_append_right _ (List.mem_append_right _ (List.mem_append_right _ (List.mem_append_right _ (List.mem_append_right _ (List.mem_append_right _ (List.mem_append_right _ (List.mem_append_right _ (List.mem_append_right _ (List.mem_append_right _ (List.mem_append_right _ (List.mem_append_right _ (List.mem_append_right _ (List.mem_append_right _ (List.mem_append_right _ (List.mem_append_right _ (List.mem_append_right _ (List.mem_append_right _ (List.mem_append_right _ (List.mem_append_right _ (List.mem_append_right _ (List.mem_append_right _ (List.mem_append_right _ (h)))))))))))))))))))))))))))))))))))))))))))))))))))))))))))))
theorem tw_0 : (Cond.classLink RL 7 RX9 : Cond) ∈ wsL_law := tr_1 _ (List.mem_of_getElem? (i := 0) rfl)
theorem tw_1 : (Cond.instantiable RX9 10 : Cond) ∈ wsL_law := tr_1 _ (List.mem_of_getElem? (i := 1) rfl)
theorem tw_2 : (Cond.initialized RX9 : Cond) ∈ wsL_law := tr_1 _ (List.mem_of_getElem? (i := 2) rfl)
theorem tw_3 : (Cond.classLink RL 10 RX10 : Cond) ∈ wsL_law := tr_1 _ (List.mem_of_getElem? (i := 3) rfl)
theorem tw_4 : (Cond.instantiable RX10 24 : Cond) ∈ wsL_law := tr_1 _ (List.mem_of_getElem? (i := 4) rfl)
theorem tw_5 : (Cond.initialized RX10 : Cond) ∈ wsL_law := tr_1 _ (List.mem_of_getElem? (i := 5) rfl)
theorem tw_6 : (Cond.methodLink RL 9 yX9_init : Cond) ∈ wsL_law := tr_1 _ (List.mem_of_getElem? (i := 6) rfl)
theorem tw_7 : (Cond.instanceMethod yX9_init : Cond) ∈ wsL_law := tr_1 _ (List.mem_of_getElem? (i := 7) rfl)
theorem tw_8 : (Cond.code yX9_init cX9_init 2 none : Cond) ∈ wsL_law := tr_1 _ (List.mem_of_getElem? (i := 8) rfl)
theorem tw_9 : (Cond.methodLink RX9 1 objectInit : Cond) ∈ wsL_law := tr_1 _ (List.mem_of_getElem? (i := 9) rfl)
theorem tw_10 : (Cond.instanceMethod objectInit : Cond) ∈ wsL_law := tr_1 _ (List.mem_of_getElem? (i := 10) rfl)
theorem tw_11 : (Cond.code objectInit ⟨#[0xb1]⟩ 1 none : Cond) ∈ wsL_law := tr_1 _ (List.mem_of_getElem? (i := 11) rfl)
theorem tw_12 : (Cond.classLink RX9 7 RX4 : Cond) ∈ wsL_law := tr_1 _ (List.mem_of_getElem? (i := 12) rfl)
theorem tw_13 : (Cond.instantiable RX4 3 : Cond) ∈ wsL_law := tr_1 _ (List.mem_of_getElem? (i := 13) rfl)
theorem tw_14 : (Cond.initialized RX4 : Cond) ∈ wsL_law := tr_1 _ (List.mem_of_getElem? (i := 14) rfl)
theorem tw_15 : (Cond.fieldLink RX9 10 "LavaLodger" "rows" "LLavaLodger$Rows;" : Cond) ∈ wsL_law := tr_1 _ (List.mem_of_getElem? (i := 15) rfl)
theorem tw_16 : (Cond.classLink RX9 16 RX6 : Cond) ∈ wsL_law := tr_1 _ (List.mem_of_getElem? (i := 16) rfl)
theorem tw_17 : (Cond.instantiable RX6 6 : Cond) ∈ wsL_law := tr_1 _ (List.mem_of_getElem? (i := 17) rfl)
theorem tw_18 : (Cond.initialized RX6 : Cond) ∈ wsL_law := tr_1 _ (List.mem_of_getElem? (i := 18) rfl)
theorem tw_19 : (Cond.fieldLink RX9 19 "LavaLodger" "tape" "LLavaLodger$Tape;" : Cond) ∈ wsL_law := tr_1 _ (List.mem_of_getElem? (i := 19) rfl)
theorem tw_20 : (Cond.classLink RX9 23 RX8 : Cond) ∈ wsL_law := tr_1 _ (List.mem_of_getElem? (i := 20) rfl)
theorem tw_21 : (Cond.instantiable RX8 12 : Cond) ∈ wsL_law := tr_1 _ (List.mem_of_getElem? (i := 21) rfl)
theorem tw_22 : (Cond.initialized RX8 : Cond) ∈ wsL_law := tr_1 _ (List.mem_of_getElem? (i := 22) rfl)
theorem tw_23 : (Cond.fieldLink RX9 26 "LavaLodger" "now" "LLavaLodger$Village;" : Cond) ∈ wsL_law := tr_1 _ (List.mem_of_getElem? (i := 23) rfl)
theorem tw_24 : (Cond.classLink RX9 30 RX3 : Cond) ∈ wsL_law := tr_2 _ (List.mem_of_getElem? (i := 0) rfl)
theorem tw_25 : (Cond.instantiable RX3 3 : Cond) ∈ wsL_law := tr_2 _ (List.mem_of_getElem? (i := 1) rfl)
theorem tw_26 : (Cond.initialized RX3 : Cond) ∈ wsL_law := tr_2 _ (List.mem_of_getElem? (i := 2) rfl)
theorem tw_27 : (Cond.fieldLink RX9 33 "LavaLodger" "past" "LLavaLodger$Past;" : Cond) ∈ wsL_law := tr_2 _ (List.mem_of_getElem? (i := 3) rfl)
theorem tw_28 : (Cond.fieldLink RX9 37 "LavaLodger" "images" "[LLavaLodger$Village;" : Cond) ∈ wsL_law := tr_2 _ (List.mem_of_getElem? (i := 4) rfl)
theorem tw_29 : (Cond.classLink RX9 41 RX5 : Cond) ∈ wsL_law := tr_2 _ (List.mem_of_getElem? (i := 5) rfl)
theorem tw_30 : (Cond.instantiable RX5 4 : Cond) ∈ wsL_law := tr_2 _ (List.mem_of_getElem? (i := 6) rfl)
theorem tw_31 : (Cond.initialized RX5 : Cond) ∈ wsL_law := tr_2 _ (List.mem_of_getElem? (i := 7) rfl)
theorem tw_32 : (Cond.fieldLink RX9 44 "LavaLodger" "seer" "LLavaLodger$Seer;" : Cond) ∈ wsL_law := tr_2 _ (List.mem_of_getElem? (i := 8) rfl)
theorem tw_33 : (Cond.classLink RX9 48 RX1 : Cond) ∈ wsL_law := tr_2 _ (List.mem_of_getElem? (i := 9) rfl)
theorem tw_34 : (Cond.instantiable RX1 8 : Cond) ∈ wsL_law := tr_2 _ (List.mem_of_getElem? (i := 10) rfl)
theorem tw_35 : (Cond.initialized RX1 : Cond) ∈ wsL_law := tr_2 _ (List.mem_of_getElem? (i := 11) rfl)
theorem tw_36 : (Cond.fieldLink RX9 51 "LavaLodger" "carrier" "LLavaLodger$Carrier;" : Cond) ∈ wsL_law := tr_2 _ (List.mem_of_getElem? (i := 12) rfl)
theorem tw_37 : (Cond.classLink RX9 55 RX7 : Cond) ∈ wsL_law := tr_2 _ (List.mem_of_getElem? (i := 13) rfl)
theorem tw_38 : (Cond.instantiable RX7 6 : Cond) ∈ wsL_law := tr_2 _ (List.mem_of_getElem? (i := 14) rfl)
theorem tw_39 : (Cond.initialized RX7 : Cond) ∈ wsL_law := tr_2 _ (List.mem_of_getElem? (i := 15) rfl)
theorem tw_40 : (Cond.fieldLink RX9 58 "LavaLodger" "turns" "LLavaLodger$Turns;" : Cond) ∈ wsL_law := tr_2 _ (List.mem_of_getElem? (i := 16) rfl)
theorem tw_41 : (Cond.classLink RX9 62 RX0 : Cond) ∈ wsL_law := tr_2 _ (List.mem_of_getElem? (i := 17) rfl)
theorem tw_42 : (Cond.instantiable RX0 2 : Cond) ∈ wsL_law := tr_2 _ (List.mem_of_getElem? (i := 18) rfl)
theorem tw_43 : (Cond.initialized RX0 : Cond) ∈ wsL_law := tr_2 _ (List.mem_of_getElem? (i := 19) rfl)
theorem tw_44 : (Cond.fieldLink RX9 65 "LavaLodger" "asker" "LLavaLodger$Asker;" : Cond) ∈ wsL_law := tr_2 _ (List.mem_of_getElem? (i := 20) rfl)
theorem tw_45 : (Cond.fieldLink RX9 69 "LavaLodger" "latestFinding" "I" : Cond) ∈ wsL_law := tr_2 _ (List.mem_of_getElem? (i := 21) rfl)
theorem tw_46 : (Cond.methodLink RX9 9 yX4_init : Cond) ∈ wsL_law := tr_2 _ (List.mem_of_getElem? (i := 22) rfl)
theorem tw_47 : (Cond.instanceMethod yX4_init : Cond) ∈ wsL_law := tr_2 _ (List.mem_of_getElem? (i := 23) rfl)
theorem tw_48 : (Cond.code yX4_init cX4_init 2 none : Cond) ∈ wsL_law := tr_3 _ (List.mem_of_getElem? (i := 0) rfl)
theorem tw_49 : (Cond.methodLink RX4 3 objectInit : Cond) ∈ wsL_law := tr_3 _ (List.mem_of_getElem? (i := 1) rfl)
theorem tw_50 : (Cond.classLink RX4 11 "[[I" : Cond) ∈ wsL_law := tr_3 _ (List.mem_of_getElem? (i := 2) rfl)
theorem tw_51 : (Cond.arrayClass .int : Cond) ∈ wsL_law := tr_3 _ (List.mem_of_getElem? (i := 3) rfl)
theorem tw_52 : (Cond.fieldLink RX4 13 "LavaLodger$Rows" "items" "[[I" : Cond) ∈ wsL_law := tr_3 _ (List.mem_of_getElem? (i := 4) rfl)
theorem tw_53 : (Cond.fieldLink RX4 16 "LavaLodger$Rows" "lanes" "[I" : Cond) ∈ wsL_law := tr_3 _ (List.mem_of_getElem? (i := 5) rfl)
theorem tw_54 : (Cond.fieldLink RX4 20 "LavaLodger$Rows" "sizes" "[I" : Cond) ∈ wsL_law := tr_3 _ (List.mem_of_getElem? (i := 6) rfl)
theorem tw_55 : (Cond.instanceMethod yX6_init : Cond) ∈ wsL_law := tr_3 _ (List.mem_of_getElem? (i := 7) rfl)
theorem tw_56 : (Cond.code yX6_init cX6_init 1 none : Cond) ∈ wsL_law := tr_3 _ (List.mem_of_getElem? (i := 8) rfl)
theorem tw_57 : (Cond.methodLink RX6 3 objectInit : Cond) ∈ wsL_law := tr_3 _ (List.mem_of_getElem? (i := 9) rfl)
theorem tw_58 : (Cond.classLink RX6 9 RX8 : Cond) ∈ wsL_law := tr_3 _ (List.mem_of_getElem? (i := 10) rfl)
theorem tw_59 : (Cond.fieldLink RX6 12 "LavaLodger$Tape" "draft" "LLavaLodger$Village;" : Cond) ∈ wsL_law := tr_3 _ (List.mem_of_getElem? (i := 11) rfl)
theorem tw_60 : (Cond.fieldLink RX6 18 "LavaLodger$Tape" "bytes" "I" : Cond) ∈ wsL_law := tr_3 _ (List.mem_of_getElem? (i := 12) rfl)
theorem tw_61 : (Cond.fieldLink RX6 22 "LavaLodger$Tape" "faultNumber" "I" : Cond) ∈ wsL_law := tr_3 _ (List.mem_of_getElem? (i := 13) rfl)
theorem tw_62 : (Cond.fieldLink RX6 25 "LavaLodger$Tape" "faultPlace" "I" : Cond) ∈ wsL_law := tr_3 _ (List.mem_of_getElem? (i := 14) rfl)
theorem tw_63 : (Cond.fieldLink RX6 28 "LavaLodger$Tape" "letters" "[I" : Cond) ∈ wsL_law := tr_3 _ (List.mem_of_getElem? (i := 15) rfl)
theorem tw_64 : (Cond.fieldLink RX6 32 "LavaLodger$Tape" "at" "I" : Cond) ∈ wsL_law := tr_3 _ (List.mem_of_getElem? (i := 16) rfl)
theorem tw_65 : (Cond.instanceMethod yX8_init : Cond) ∈ wsL_law := tr_3 _ (List.mem_of_getElem? (i := 17) rfl)
theorem tw_66 : (Cond.code yX8_init cX8_init 1 none : Cond) ∈ wsL_law := tr_3 _ (List.mem_of_getElem? (i := 18) rfl)
theorem tw_67 : (Cond.methodLink RX8 3 objectInit : Cond) ∈ wsL_law := tr_3 _ (List.mem_of_getElem? (i := 19) rfl)
theorem tw_68 : (Cond.fieldLink RX8 9 "LavaLodger$Village" "rooms" "I" : Cond) ∈ wsL_law := tr_3 _ (List.mem_of_getElem? (i := 20) rfl)
theorem tw_69 : (Cond.fieldLink RX8 15 "LavaLodger$Village" "things" "I" : Cond) ∈ wsL_law := tr_3 _ (List.mem_of_getElem? (i := 21) rfl)
theorem tw_70 : (Cond.fieldLink RX8 18 "LavaLodger$Village" "feed" "I" : Cond) ∈ wsL_law := tr_3 _ (List.mem_of_getElem? (i := 22) rfl)
theorem tw_71 : (Cond.fieldLink RX8 21 "LavaLodger$Village" "stop" "I" : Cond) ∈ wsL_law := tr_3 _ (List.mem_of_getElem? (i := 23) rfl)
theorem tw_72 : (Cond.fieldLink RX8 24 "LavaLodger$Village" "day" "I" : Cond) ∈ wsL_law := tr_4 _ (List.mem_of_getElem? (i := 0) rfl)
theorem tw_73 : (Cond.fieldLink RX8 27 "LavaLodger$Village" "floor" "[I" : Cond) ∈ wsL_law := tr_4 _ (List.mem_of_getElem? (i := 1) rfl)
theorem tw_74 : (Cond.fieldLink RX8 31 "LavaLodger$Village" "lava" "[I" : Cond) ∈ wsL_law := tr_4 _ (List.mem_of_getElem? (i := 2) rfl)
theorem tw_75 : (Cond.fieldLink RX8 34 "LavaLodger$Village" "wall" "[I" : Cond) ∈ wsL_law := tr_4 _ (List.mem_of_getElem? (i := 3) rfl)
theorem tw_76 : (Cond.fieldLink RX8 37 "LavaLodger$Village" "sort" "[I" : Cond) ∈ wsL_law := tr_4 _ (List.mem_of_getElem? (i := 4) rfl)
theorem tw_77 : (Cond.fieldLink RX8 40 "LavaLodger$Village" "high" "[I" : Cond) ∈ wsL_law := tr_4 _ (List.mem_of_getElem? (i := 5) rfl)
theorem tw_78 : (Cond.fieldLink RX8 43 "LavaLodger$Village" "where" "[I" : Cond) ∈ wsL_law := tr_4 _ (List.mem_of_getElem? (i := 6) rfl)
theorem tw_79 : (Cond.fieldLink RX8 46 "LavaLodger$Village" "last" "[I" : Cond) ∈ wsL_law := tr_4 _ (List.mem_of_getElem? (i := 7) rfl)
theorem tw_80 : (Cond.methodLink RX9 32 yX3_init : Cond) ∈ wsL_law := tr_4 _ (List.mem_of_getElem? (i := 8) rfl)
theorem tw_81 : (Cond.instanceMethod yX3_init : Cond) ∈ wsL_law := tr_4 _ (List.mem_of_getElem? (i := 9) rfl)
theorem tw_82 : (Cond.code yX3_init cX3_init 2 none : Cond) ∈ wsL_law := tr_4 _ (List.mem_of_getElem? (i := 10) rfl)
theorem tw_83 : (Cond.methodLink RX3 3 objectInit : Cond) ∈ wsL_law := tr_4 _ (List.mem_of_getElem? (i := 11) rfl)
theorem tw_84 : (Cond.fieldLink RX3 9 "LavaLodger$Past" "acts" "I" : Cond) ∈ wsL_law := tr_4 _ (List.mem_of_getElem? (i := 12) rfl)
theorem tw_85 : (Cond.fieldLink RX3 15 "LavaLodger$Past" "oldest" "I" : Cond) ∈ wsL_law := tr_4 _ (List.mem_of_getElem? (i := 13) rfl)
theorem tw_86 : (Cond.classLink RX3 18 RX8 : Cond) ∈ wsL_law := tr_4 _ (List.mem_of_getElem? (i := 14) rfl)
theorem tw_87 : (Cond.fieldLink RX3 20 "LavaLodger$Past" "ring" "[LLavaLodger$Village;" : Cond) ∈ wsL_law := tr_4 _ (List.mem_of_getElem? (i := 15) rfl)
theorem tw_88 : (Cond.instanceMethod yX5_init : Cond) ∈ wsL_law := tr_4 _ (List.mem_of_getElem? (i := 16) rfl)
theorem tw_89 : (Cond.code yX5_init cX5_init 1 none : Cond) ∈ wsL_law := tr_4 _ (List.mem_of_getElem? (i := 17) rfl)
theorem tw_90 : (Cond.methodLink RX5 3 objectInit : Cond) ∈ wsL_law := tr_4 _ (List.mem_of_getElem? (i := 18) rfl)
theorem tw_91 : (Cond.classLink RX5 9 RX8 : Cond) ∈ wsL_law := tr_4 _ (List.mem_of_getElem? (i := 19) rfl)
theorem tw_92 : (Cond.fieldLink RX5 12 "LavaLodger$Seer" "trial" "LLavaLodger$Village;" : Cond) ∈ wsL_law := tr_4 _ (List.mem_of_getElem? (i := 20) rfl)
theorem tw_93 : (Cond.classLink RX5 18 RX2 : Cond) ∈ wsL_law := tr_4 _ (List.mem_of_getElem? (i := 21) rfl)
theorem tw_94 : (Cond.instantiable RX2 2 : Cond) ∈ wsL_law := tr_4 _ (List.mem_of_getElem? (i := 22) rfl)
theorem tw_95 : (Cond.initialized RX2 : Cond) ∈ wsL_law := tr_4 _ (List.mem_of_getElem? (i := 23) rfl)
theorem tw_96 : (Cond.fieldLink RX5 23 "LavaLodger$Seer" "forecast" "LLavaLodger$Forecast;" : Cond) ∈ wsL_law := tr_5 _ (List.mem_of_getElem? (i := 0) rfl)
theorem tw_97 : (Cond.fieldLink RX5 27 "LavaLodger$Seer" "heard" "[I" : Cond) ∈ wsL_law := tr_5 _ (List.mem_of_getElem? (i := 1) rfl)
theorem tw_98 : (Cond.fieldLink RX5 31 "LavaLodger$Seer" "heardDays" "I" : Cond) ∈ wsL_law := tr_5 _ (List.mem_of_getElem? (i := 2) rfl)
theorem tw_99 : (Cond.methodLink RX5 20 yX2_init : Cond) ∈ wsL_law := tr_5 _ (List.mem_of_getElem? (i := 3) rfl)
theorem tw_100 : (Cond.instanceMethod yX2_init : Cond) ∈ wsL_law := tr_5 _ (List.mem_of_getElem? (i := 4) rfl)
theorem tw_101 : (Cond.code yX2_init cX2_init 2 none : Cond) ∈ wsL_law := tr_5 _ (List.mem_of_getElem? (i := 5) rfl)
theorem tw_102 : (Cond.methodLink RX2 3 objectInit : Cond) ∈ wsL_law := tr_5 _ (List.mem_of_getElem? (i := 6) rfl)
theorem tw_103 : (Cond.methodLink RX2 9 Lib.Math.max.name : Cond) ∈ wsL_law := tr_5 _ (List.mem_of_getElem? (i := 7) rfl)
theorem tw_104 : (Cond.static Lib.Math.max.name : Cond) ∈ wsL_law := tr_5 _ (List.mem_of_getElem? (i := 8) rfl)
theorem tw_105 : (Cond.initialized "java/lang/Math" : Cond) ∈ wsL_law := tr_5 _ (List.mem_of_getElem? (i := 9) rfl)
theorem tw_106 : (Cond.code Lib.Math.max.name Lib.Math.max.code 2 (some .int) : Cond) ∈ wsL_law := tr_5 _ (List.mem_of_getElem? (i := 10) rfl)
theorem tw_107 : (Cond.fieldLink RX2 15 "LavaLodger$Forecast" "mostDays" "I" : Cond) ∈ wsL_law := tr_5 _ (List.mem_of_getElem? (i := 11) rfl)
theorem tw_108 : (Cond.fieldLink RX2 21 "LavaLodger$Forecast" "lies" "[I" : Cond) ∈ wsL_law := tr_5 _ (List.mem_of_getElem? (i := 12) rfl)
theorem tw_109 : (Cond.instanceMethod yX1_init : Cond) ∈ wsL_law := tr_5 _ (List.mem_of_getElem? (i := 13) rfl)
theorem tw_110 : (Cond.code yX1_init cX1_init 1 none : Cond) ∈ wsL_law := tr_5 _ (List.mem_of_getElem? (i := 14) rfl)
theorem tw_111 : (Cond.methodLink RX1 5 objectInit : Cond) ∈ wsL_law := tr_5 _ (List.mem_of_getElem? (i := 15) rfl)
theorem tw_112 : (Cond.fieldLink RX1 11 "LavaLodger$Carrier" "fewest" "I" : Cond) ∈ wsL_law := tr_5 _ (List.mem_of_getElem? (i := 16) rfl)
theorem tw_113 : (Cond.classLink RX1 15 RX2 : Cond) ∈ wsL_law := tr_5 _ (List.mem_of_getElem? (i := 17) rfl)
theorem tw_114 : (Cond.fieldLink RX1 20 "LavaLodger$Carrier" "forecast" "LLavaLodger$Forecast;" : Cond) ∈ wsL_law := tr_5 _ (List.mem_of_getElem? (i := 18) rfl)
theorem tw_115 : (Cond.arrayClass .boolean : Cond) ∈ wsL_law := tr_5 _ (List.mem_of_getElem? (i := 19) rfl)
theorem tw_116 : (Cond.fieldLink RX1 24 "LavaLodger$Carrier" "stone" "[Z" : Cond) ∈ wsL_law := tr_5 _ (List.mem_of_getElem? (i := 20) rfl)
theorem tw_117 : (Cond.fieldLink RX1 28 "LavaLodger$Carrier" "choice" "[I" : Cond) ∈ wsL_law := tr_5 _ (List.mem_of_getElem? (i := 21) rfl)
theorem tw_118 : (Cond.fieldLink RX1 32 "LavaLodger$Carrier" "best" "[I" : Cond) ∈ wsL_law := tr_5 _ (List.mem_of_getElem? (i := 22) rfl)
theorem tw_119 : (Cond.fieldLink RX1 35 "LavaLodger$Carrier" "daysOf" "[I" : Cond) ∈ wsL_law := tr_5 _ (List.mem_of_getElem? (i := 23) rfl)
theorem tw_120 : (Cond.fieldLink RX1 38 "LavaLodger$Carrier" "things" "I" : Cond) ∈ wsL_law := tr_6 _ (List.mem_of_getElem? (i := 0) rfl)
theorem tw_121 : (Cond.fieldLink RX1 41 "LavaLodger$Carrier" "carries" "I" : Cond) ∈ wsL_law := tr_6 _ (List.mem_of_getElem? (i := 1) rfl)
theorem tw_122 : (Cond.methodLink RX1 17 yX2_init : Cond) ∈ wsL_law := tr_6 _ (List.mem_of_getElem? (i := 2) rfl)
theorem tw_123 : (Cond.instanceMethod yX7_init : Cond) ∈ wsL_law := tr_6 _ (List.mem_of_getElem? (i := 3) rfl)
theorem tw_124 : (Cond.code yX7_init cX7_init 1 none : Cond) ∈ wsL_law := tr_6 _ (List.mem_of_getElem? (i := 4) rfl)
theorem tw_125 : (Cond.methodLink RX7 5 objectInit : Cond) ∈ wsL_law := tr_6 _ (List.mem_of_getElem? (i := 5) rfl)
theorem tw_126 : (Cond.classLink RX7 11 RX8 : Cond) ∈ wsL_law := tr_6 _ (List.mem_of_getElem? (i := 6) rfl)
theorem tw_127 : (Cond.fieldLink RX7 14 "LavaLodger$Turns" "trial" "LLavaLodger$Village;" : Cond) ∈ wsL_law := tr_6 _ (List.mem_of_getElem? (i := 7) rfl)
theorem tw_128 : (Cond.classLink RX7 18 RX2 : Cond) ∈ wsL_law := tr_6 _ (List.mem_of_getElem? (i := 8) rfl)
theorem tw_129 : (Cond.fieldLink RX7 23 "LavaLodger$Turns" "forecast" "LLavaLodger$Forecast;" : Cond) ∈ wsL_law := tr_6 _ (List.mem_of_getElem? (i := 9) rfl)
theorem tw_130 : (Cond.fieldLink RX7 27 "LavaLodger$Turns" "stone" "[Z" : Cond) ∈ wsL_law := tr_6 _ (List.mem_of_getElem? (i := 10) rfl)
theorem tw_131 : (Cond.fieldLink RX7 31 "LavaLodger$Turns" "carriedOf" "[I" : Cond) ∈ wsL_law := tr_6 _ (List.mem_of_getElem? (i := 11) rfl)
theorem tw_132 : (Cond.fieldLink RX7 35 "LavaLodger$Turns" "raised" "I" : Cond) ∈ wsL_law := tr_6 _ (List.mem_of_getElem? (i := 12) rfl)
theorem tw_133 : (Cond.fieldLink RX7 39 "LavaLodger$Turns" "things" "I" : Cond) ∈ wsL_law := tr_6 _ (List.mem_of_getElem? (i := 13) rfl)
theorem tw_134 : (Cond.methodLink RX7 20 yX2_init : Cond) ∈ wsL_law := tr_6 _ (List.mem_of_getElem? (i := 14) rfl)
theorem tw_135 : (Cond.instanceMethod yX0_init : Cond) ∈ wsL_law := tr_6 _ (List.mem_of_getElem? (i := 15) rfl)
theorem tw_136 : (Cond.code yX0_init cX0_init 1 none : Cond) ∈ wsL_law := tr_6 _ (List.mem_of_getElem? (i := 16) rfl)
theorem tw_137 : (Cond.methodLink RX0 3 objectInit : Cond) ∈ wsL_law := tr_6 _ (List.mem_of_getElem? (i := 17) rfl)
theorem tw_138 : (Cond.fieldLink RX0 9 "LavaLodger$Asker" "traced" "I" : Cond) ∈ wsL_law := tr_6 _ (List.mem_of_getElem? (i := 18) rfl)
theorem tw_139 : (Cond.fieldLink RX0 15 "LavaLodger$Asker" "begun" "[I" : Cond) ∈ wsL_law := tr_6 _ (List.mem_of_getElem? (i := 19) rfl)
theorem tw_140 : (Cond.methodLink RL 12 yX10_init : Cond) ∈ wsL_law := tr_6 _ (List.mem_of_getElem? (i := 20) rfl)
theorem tw_141 : (Cond.instanceMethod yX10_init : Cond) ∈ wsL_law := tr_6 _ (List.mem_of_getElem? (i := 21) rfl)
theorem tw_142 : (Cond.code yX10_init cX10_init 2 none : Cond) ∈ wsL_law := tr_6 _ (List.mem_of_getElem? (i := 22) rfl)
theorem tw_143 : (Cond.methodLink RX10 1 objectInit : Cond) ∈ wsL_law := tr_6 _ (List.mem_of_getElem? (i := 23) rfl)
theorem tw_144 : (Cond.fieldLink RX10 7 "LavaLodgerModel" "lanes" "[I" : Cond) ∈ wsL_law := tr_7 _ (List.mem_of_getElem? (i := 0) rfl)
theorem tw_145 : (Cond.fieldLink RX10 13 "LavaLodgerModel" "sizes" "[I" : Cond) ∈ wsL_law := tr_7 _ (List.mem_of_getElem? (i := 1) rfl)
theorem tw_146 : (Cond.fieldLink RX10 16 "LavaLodgerModel" "items" "[I" : Cond) ∈ wsL_law := tr_7 _ (List.mem_of_getElem? (i := 2) rfl)
theorem tw_147 : (Cond.fieldLink RX10 19 "LavaLodgerModel" "now" "[I" : Cond) ∈ wsL_law := tr_7 _ (List.mem_of_getElem? (i := 3) rfl)
theorem tw_148 : (Cond.fieldLink RX10 22 "LavaLodgerModel" "read" "[I" : Cond) ∈ wsL_law := tr_7 _ (List.mem_of_getElem? (i := 4) rfl)
theorem tw_149 : (Cond.fieldLink RX10 25 "LavaLodgerModel" "aside" "[I" : Cond) ∈ wsL_law := tr_7 _ (List.mem_of_getElem? (i := 5) rfl)
theorem tw_150 : (Cond.fieldLink RX10 28 "LavaLodgerModel" "past" "[I" : Cond) ∈ wsL_law := tr_7 _ (List.mem_of_getElem? (i := 6) rfl)
theorem tw_151 : (Cond.fieldLink RX10 31 "LavaLodgerModel" "images" "[I" : Cond) ∈ wsL_law := tr_7 _ (List.mem_of_getElem? (i := 7) rfl)
theorem tw_152 : (Cond.fieldLink RX10 34 "LavaLodgerModel" "isKept" "[Z" : Cond) ∈ wsL_law := tr_7 _ (List.mem_of_getElem? (i := 8) rfl)
theorem tw_153 : (Cond.fieldLink RX10 38 "LavaLodgerModel" "tape" "[I" : Cond) ∈ wsL_law := tr_7 _ (List.mem_of_getElem? (i := 9) rfl)
theorem tw_154 : (Cond.fieldLink RX10 41 "LavaLodgerModel" "trace" "[I" : Cond) ∈ wsL_law := tr_7 _ (List.mem_of_getElem? (i := 10) rfl)
theorem tw_155 : (Cond.fieldLink RX10 44 "LavaLodgerModel" "turns" "[I" : Cond) ∈ wsL_law := tr_7 _ (List.mem_of_getElem? (i := 11) rfl)
theorem tw_156 : (Cond.fieldLink RX10 47 "LavaLodgerModel" "choice" "[I" : Cond) ∈ wsL_law := tr_7 _ (List.mem_of_getElem? (i := 12) rfl)
theorem tw_157 : (Cond.fieldLink RX10 50 "LavaLodgerModel" "worth" "[I" : Cond) ∈ wsL_law := tr_7 _ (List.mem_of_getElem? (i := 13) rfl)
theorem tw_158 : (Cond.methodLink RL 13 yX9_row : Cond) ∈ wsL_law := tr_7 _ (List.mem_of_getElem? (i := 14) rfl)
theorem tw_159 : (Cond.instanceMethod yX9_row : Cond) ∈ wsL_law := tr_7 _ (List.mem_of_getElem? (i := 15) rfl)
theorem tw_160 : (Cond.selects RX9 yX9_row yX9_row : Cond) ∈ wsL_law := tr_7 _ (List.mem_of_getElem? (i := 16) rfl)
theorem tw_161 : (Cond.code yX9_row cX9_row 4 (some .int) : Cond) ∈ wsL_law := tr_7 _ (List.mem_of_getElem? (i := 17) rfl)
theorem tw_162 : (Cond.constant RX9 81 (-1000001) : Cond) ∈ wsL_law := tr_7 _ (List.mem_of_getElem? (i := 18) rfl)
theorem tw_163 : (Cond.methodLink RX9 73 yX4_isNumber : Cond) ∈ wsL_law := tr_7 _ (List.mem_of_getElem? (i := 19) rfl)
theorem tw_164 : (Cond.instanceMethod yX4_isNumber : Cond) ∈ wsL_law := tr_7 _ (List.mem_of_getElem? (i := 20) rfl)
theorem tw_165 : (Cond.selects RX4 yX4_isNumber yX4_isNumber : Cond) ∈ wsL_law := tr_7 _ (List.mem_of_getElem? (i := 21) rfl)
theorem tw_166 : (Cond.code yX4_isNumber cX4_isNumber 2 (some .boolean) : Cond) ∈ wsL_law := tr_7 _ (List.mem_of_getElem? (i := 22) rfl)
theorem tw_167 : (Cond.methodLink RX9 77 yX9_within : Cond) ∈ wsL_law := tr_7 _ (List.mem_of_getElem? (i := 23) rfl)
theorem tw_168 : (Cond.static yX9_within : Cond) ∈ wsL_law := tr_8 _ (List.mem_of_getElem? (i := 0) rfl)
theorem tw_169 : (Cond.code yX9_within cX9_within 3 (some .boolean) : Cond) ∈ wsL_law := tr_8 _ (List.mem_of_getElem? (i := 1) rfl)
theorem tw_170 : (Cond.methodLink RX9 82 yX9_found : Cond) ∈ wsL_law := tr_8 _ (List.mem_of_getElem? (i := 2) rfl)
theorem tw_171 : (Cond.instanceMethod yX9_found : Cond) ∈ wsL_law := tr_8 _ (List.mem_of_getElem? (i := 3) rfl)
theorem tw_172 : (Cond.selects RX9 yX9_found yX9_found : Cond) ∈ wsL_law := tr_8 _ (List.mem_of_getElem? (i := 4) rfl)
theorem tw_173 : (Cond.code yX9_found cX9_found 2 (some .int) : Cond) ∈ wsL_law := tr_8 _ (List.mem_of_getElem? (i := 5) rfl)
theorem tw_174 : (Cond.constant RX9 331 (-1000010) : Cond) ∈ wsL_law := tr_8 _ (List.mem_of_getElem? (i := 6) rfl)
theorem tw_175 : (Cond.methodLink RX9 86 yX4_make : Cond) ∈ wsL_law := tr_8 _ (List.mem_of_getElem? (i := 7) rfl)
theorem tw_176 : (Cond.instanceMethod yX4_make : Cond) ∈ wsL_law := tr_8 _ (List.mem_of_getElem? (i := 8) rfl)
theorem tw_177 : (Cond.selects RX4 yX4_make yX4_make : Cond) ∈ wsL_law := tr_8 _ (List.mem_of_getElem? (i := 9) rfl)
theorem tw_178 : (Cond.code yX4_make cX4_make 5 none : Cond) ∈ wsL_law := tr_8 _ (List.mem_of_getElem? (i := 10) rfl)
theorem tw_179 : (Cond.methodLink RX9 90 yX9_unfound : Cond) ∈ wsL_law := tr_8 _ (List.mem_of_getElem? (i := 11) rfl)
theorem tw_180 : (Cond.instanceMethod yX9_unfound : Cond) ∈ wsL_law := tr_8 _ (List.mem_of_getElem? (i := 12) rfl)
theorem tw_181 : (Cond.selects RX9 yX9_unfound yX9_unfound : Cond) ∈ wsL_law := tr_8 _ (List.mem_of_getElem? (i := 13) rfl)
theorem tw_182 : (Cond.code yX9_unfound cX9_unfound 2 (some .int) : Cond) ∈ wsL_law := tr_8 _ (List.mem_of_getElem? (i := 14) rfl)
theorem tw_183 : (Cond.methodLink RL 17 yX10_row : Cond) ∈ wsL_law := tr_8 _ (List.mem_of_getElem? (i := 15) rfl)
theorem tw_184 : (Cond.instanceMethod yX10_row : Cond) ∈ wsL_law := tr_8 _ (List.mem_of_getElem? (i := 16) rfl)
theorem tw_185 : (Cond.selects RX10 yX10_row yX10_row : Cond) ∈ wsL_law := tr_8 _ (List.mem_of_getElem? (i := 17) rfl)
theorem tw_186 : (Cond.code yX10_row cX10_row 5 (some .int) : Cond) ∈ wsL_law := tr_8 _ (List.mem_of_getElem? (i := 18) rfl)
theorem tw_187 : (Cond.constantLong RX10 68 (2) : Cond) ∈ wsL_law := tr_8 _ (List.mem_of_getElem? (i := 19) rfl)
theorem tw_188 : (Cond.constant RX10 70 (-1000001) : Cond) ∈ wsL_law := tr_8 _ (List.mem_of_getElem? (i := 20) rfl)
theorem tw_189 : (Cond.methodLink RX10 64 yX10_isRow : Cond) ∈ wsL_law := tr_8 _ (List.mem_of_getElem? (i := 21) rfl)
theorem tw_190 : (Cond.static yX10_isRow : Cond) ∈ wsL_law := tr_8 _ (List.mem_of_getElem? (i := 22) rfl)
theorem tw_191 : (Cond.code yX10_isRow cX10_isRow 1 (some .boolean) : Cond) ∈ wsL_law := tr_8 _ (List.mem_of_getElem? (i := 23) rfl)
theorem tw_192 : (Cond.constantLong RX10 62 (7) : Cond) ∈ wsL_law := tr_9 _ (List.mem_of_getElem? (i := 0) rfl)
theorem tw_193 : (Cond.methodLink RX10 53 yX10_in : Cond) ∈ wsL_law := tr_9 _ (List.mem_of_getElem? (i := 1) rfl)
theorem tw_194 : (Cond.static yX10_in : Cond) ∈ wsL_law := tr_9 _ (List.mem_of_getElem? (i := 2) rfl)
theorem tw_195 : (Cond.code yX10_in cX10_in 6 (some .boolean) : Cond) ∈ wsL_law := tr_9 _ (List.mem_of_getElem? (i := 3) rfl)
theorem tw_196 : (Cond.methodLink RX10 71 yX10_found : Cond) ∈ wsL_law := tr_9 _ (List.mem_of_getElem? (i := 4) rfl)
theorem tw_197 : (Cond.instanceMethod yX10_found : Cond) ∈ wsL_law := tr_9 _ (List.mem_of_getElem? (i := 5) rfl)
theorem tw_198 : (Cond.selects RX10 yX10_found yX10_found : Cond) ∈ wsL_law := tr_9 _ (List.mem_of_getElem? (i := 6) rfl)
theorem tw_199 : (Cond.code yX10_found cX10_found 2 (some .int) : Cond) ∈ wsL_law := tr_9 _ (List.mem_of_getElem? (i := 7) rfl)
theorem tw_200 : (Cond.fieldLink RX10 57 "LavaLodgerModel" "status" "I" : Cond) ∈ wsL_law := tr_9 _ (List.mem_of_getElem? (i := 8) rfl)
theorem tw_201 : (Cond.constant RX10 61 (-1000010) : Cond) ∈ wsL_law := tr_9 _ (List.mem_of_getElem? (i := 9) rfl)
theorem tw_202 : (Cond.methodLink RX10 75 yX10_well : Cond) ∈ wsL_law := tr_9 _ (List.mem_of_getElem? (i := 10) rfl)
theorem tw_203 : (Cond.instanceMethod yX10_well : Cond) ∈ wsL_law := tr_9 _ (List.mem_of_getElem? (i := 11) rfl)
theorem tw_204 : (Cond.selects RX10 yX10_well yX10_well : Cond) ∈ wsL_law := tr_9 _ (List.mem_of_getElem? (i := 12) rfl)
theorem tw_205 : (Cond.code yX10_well cX10_well 2 (some .int) : Cond) ∈ wsL_law := tr_9 _ (List.mem_of_getElem? (i := 13) rfl)
theorem tw_206 : (Cond.methodLink RL 18 yX9_set : Cond) ∈ wsL_law := tr_9 _ (List.mem_of_getElem? (i := 14) rfl)
theorem tw_207 : (Cond.instanceMethod yX9_set : Cond) ∈ wsL_law := tr_9 _ (List.mem_of_getElem? (i := 15) rfl)
theorem tw_208 : (Cond.selects RX9 yX9_set yX9_set : Cond) ∈ wsL_law := tr_9 _ (List.mem_of_getElem? (i := 16) rfl)
theorem tw_209 : (Cond.code yX9_set cX9_set 5 (some .int) : Cond) ∈ wsL_law := tr_9 _ (List.mem_of_getElem? (i := 17) rfl)
theorem tw_210 : (Cond.methodLink RX9 93 yX4_findingAt : Cond) ∈ wsL_law := tr_9 _ (List.mem_of_getElem? (i := 18) rfl)
theorem tw_211 : (Cond.instanceMethod yX4_findingAt : Cond) ∈ wsL_law := tr_9 _ (List.mem_of_getElem? (i := 19) rfl)
theorem tw_212 : (Cond.selects RX4 yX4_findingAt yX4_findingAt : Cond) ∈ wsL_law := tr_9 _ (List.mem_of_getElem? (i := 20) rfl)
theorem tw_213 : (Cond.code yX4_findingAt cX4_findingAt 4 (some .int) : Cond) ∈ wsL_law := tr_9 _ (List.mem_of_getElem? (i := 21) rfl)
theorem tw_214 : (Cond.methodLink RX4 23 yX4_isMissing : Cond) ∈ wsL_law := tr_9 _ (List.mem_of_getElem? (i := 22) rfl)
theorem tw_215 : (Cond.instanceMethod yX4_isMissing : Cond) ∈ wsL_law := tr_9 _ (List.mem_of_getElem? (i := 23) rfl)
theorem tw_216 : (Cond.selects RX4 yX4_isMissing yX4_isMissing : Cond) ∈ wsL_law := tr_10 _ (List.mem_of_getElem? (i := 0) rfl)
theorem tw_217 : (Cond.code yX4_isMissing cX4_isMissing 2 (some .boolean) : Cond) ∈ wsL_law := tr_10 _ (List.mem_of_getElem? (i := 1) rfl)
theorem tw_218 : (Cond.methodLink RX4 37 yX4_hasPlaces : Cond) ∈ wsL_law := tr_10 _ (List.mem_of_getElem? (i := 2) rfl)
theorem tw_219 : (Cond.instanceMethod yX4_hasPlaces : Cond) ∈ wsL_law := tr_10 _ (List.mem_of_getElem? (i := 3) rfl)
theorem tw_220 : (Cond.selects RX4 yX4_hasPlaces yX4_hasPlaces : Cond) ∈ wsL_law := tr_10 _ (List.mem_of_getElem? (i := 4) rfl)
theorem tw_221 : (Cond.code yX4_hasPlaces cX4_hasPlaces 4 (some .boolean) : Cond) ∈ wsL_law := tr_10 _ (List.mem_of_getElem? (i := 5) rfl)
theorem tw_222 : (Cond.methodLink RX9 97 yX4_put : Cond) ∈ wsL_law := tr_10 _ (List.mem_of_getElem? (i := 6) rfl)
theorem tw_223 : (Cond.instanceMethod yX4_put : Cond) ∈ wsL_law := tr_10 _ (List.mem_of_getElem? (i := 7) rfl)
theorem tw_224 : (Cond.selects RX4 yX4_put yX4_put : Cond) ∈ wsL_law := tr_10 _ (List.mem_of_getElem? (i := 8) rfl)
theorem tw_225 : (Cond.code yX4_put cX4_put 4 (some .int) : Cond) ∈ wsL_law := tr_10 _ (List.mem_of_getElem? (i := 9) rfl)
theorem tw_226 : (Cond.methodLink RX4 27 yX4_cut : Cond) ∈ wsL_law := tr_10 _ (List.mem_of_getElem? (i := 10) rfl)
theorem tw_227 : (Cond.static yX4_cut : Cond) ∈ wsL_law := tr_10 _ (List.mem_of_getElem? (i := 11) rfl)
theorem tw_228 : (Cond.code yX4_cut cX4_cut 2 (some .int) : Cond) ∈ wsL_law := tr_10 _ (List.mem_of_getElem? (i := 12) rfl)
theorem tw_229 : (Cond.methodLink RL 21 yX10_set : Cond) ∈ wsL_law := tr_10 _ (List.mem_of_getElem? (i := 13) rfl)
theorem tw_230 : (Cond.instanceMethod yX10_set : Cond) ∈ wsL_law := tr_10 _ (List.mem_of_getElem? (i := 14) rfl)
theorem tw_231 : (Cond.selects RX10 yX10_set yX10_set : Cond) ∈ wsL_law := tr_10 _ (List.mem_of_getElem? (i := 15) rfl)
theorem tw_232 : (Cond.code yX10_set cX10_set 4 (some .int) : Cond) ∈ wsL_law := tr_10 _ (List.mem_of_getElem? (i := 16) rfl)
theorem tw_233 : (Cond.methodLink RL 22 yX9_copy : Cond) ∈ wsL_law := tr_10 _ (List.mem_of_getElem? (i := 17) rfl)
theorem tw_234 : (Cond.instanceMethod yX9_copy : Cond) ∈ wsL_law := tr_10 _ (List.mem_of_getElem? (i := 18) rfl)
theorem tw_235 : (Cond.selects RX9 yX9_copy yX9_copy : Cond) ∈ wsL_law := tr_10 _ (List.mem_of_getElem? (i := 19) rfl)
theorem tw_236 : (Cond.code yX9_copy cX9_copy 7 (some .int) : Cond) ∈ wsL_law := tr_10 _ (List.mem_of_getElem? (i := 20) rfl)
theorem tw_237 : (Cond.methodLink RX9 100 yX4_findingBetween : Cond) ∈ wsL_law := tr_10 _ (List.mem_of_getElem? (i := 21) rfl)
theorem tw_238 : (Cond.instanceMethod yX4_findingBetween : Cond) ∈ wsL_law := tr_10 _ (List.mem_of_getElem? (i := 22) rfl)
theorem tw_239 : (Cond.selects RX4 yX4_findingBetween yX4_findingBetween : Cond) ∈ wsL_law := tr_10 _ (List.mem_of_getElem? (i := 23) rfl)
theorem tw_240 : (Cond.code yX4_findingBetween cX4_findingBetween 6 (some .int) : Cond) ∈ wsL_law := tr_11 _ (List.mem_of_getElem? (i := 0) rfl)
theorem tw_241 : (Cond.methodLink RX9 104 yX4_move : Cond) ∈ wsL_law := tr_11 _ (List.mem_of_getElem? (i := 1) rfl)
theorem tw_242 : (Cond.instanceMethod yX4_move : Cond) ∈ wsL_law := tr_11 _ (List.mem_of_getElem? (i := 2) rfl)
theorem tw_243 : (Cond.selects RX4 yX4_move yX4_move : Cond) ∈ wsL_law := tr_11 _ (List.mem_of_getElem? (i := 3) rfl)
theorem tw_244 : (Cond.code yX4_move cX4_move 6 none : Cond) ∈ wsL_law := tr_11 _ (List.mem_of_getElem? (i := 4) rfl)
theorem tw_245 : (Cond.methodLink RX4 31 arraycopyName : Cond) ∈ wsL_law := tr_11 _ (List.mem_of_getElem? (i := 5) rfl)
theorem tw_246 : (Cond.native arraycopyName : Cond) ∈ wsL_law := tr_11 _ (List.mem_of_getElem? (i := 6) rfl)
theorem tw_247 : (Cond.static arraycopyName : Cond) ∈ wsL_law := tr_11 _ (List.mem_of_getElem? (i := 7) rfl)
theorem tw_248 : (Cond.initialized "java/lang/System" : Cond) ∈ wsL_law := tr_11 _ (List.mem_of_getElem? (i := 8) rfl)
theorem tw_249 : (Cond.methodLink RL 26 yX10_copy : Cond) ∈ wsL_law := tr_11 _ (List.mem_of_getElem? (i := 9) rfl)
theorem tw_250 : (Cond.instanceMethod yX10_copy : Cond) ∈ wsL_law := tr_11 _ (List.mem_of_getElem? (i := 10) rfl)
theorem tw_251 : (Cond.selects RX10 yX10_copy yX10_copy : Cond) ∈ wsL_law := tr_11 _ (List.mem_of_getElem? (i := 11) rfl)
theorem tw_252 : (Cond.code yX10_copy cX10_copy 8 (some .int) : Cond) ∈ wsL_law := tr_11 _ (List.mem_of_getElem? (i := 12) rfl)
theorem tw_253 : (Cond.methodLink RL 27 yX9_drop : Cond) ∈ wsL_law := tr_11 _ (List.mem_of_getElem? (i := 13) rfl)
theorem tw_254 : (Cond.instanceMethod yX9_drop : Cond) ∈ wsL_law := tr_11 _ (List.mem_of_getElem? (i := 14) rfl)
theorem tw_255 : (Cond.selects RX9 yX9_drop yX9_drop : Cond) ∈ wsL_law := tr_11 _ (List.mem_of_getElem? (i := 15) rfl)
theorem tw_256 : (Cond.code yX9_drop cX9_drop 2 (some .int) : Cond) ∈ wsL_law := tr_11 _ (List.mem_of_getElem? (i := 16) rfl)
theorem tw_257 : (Cond.methodLink RX9 108 yX4_isMissing : Cond) ∈ wsL_law := tr_11 _ (List.mem_of_getElem? (i := 17) rfl)
theorem tw_258 : (Cond.methodLink RX9 111 yX4_lose : Cond) ∈ wsL_law := tr_11 _ (List.mem_of_getElem? (i := 18) rfl)
theorem tw_259 : (Cond.instanceMethod yX4_lose : Cond) ∈ wsL_law := tr_11 _ (List.mem_of_getElem? (i := 19) rfl)
theorem tw_260 : (Cond.selects RX4 yX4_lose yX4_lose : Cond) ∈ wsL_law := tr_11 _ (List.mem_of_getElem? (i := 20) rfl)
theorem tw_261 : (Cond.code yX4_lose cX4_lose 2 (some .int) : Cond) ∈ wsL_law := tr_11 _ (List.mem_of_getElem? (i := 21) rfl)
theorem tw_262 : (Cond.methodLink RL 31 yX10_drop : Cond) ∈ wsL_law := tr_11 _ (List.mem_of_getElem? (i := 22) rfl)
theorem tw_263 : (Cond.instanceMethod yX10_drop : Cond) ∈ wsL_law := tr_11 _ (List.mem_of_getElem? (i := 23) rfl)
theorem tw_264 : (Cond.selects RX10 yX10_drop yX10_drop : Cond) ∈ wsL_law := tr_12 _ (List.mem_of_getElem? (i := 0) rfl)
theorem tw_265 : (Cond.code yX10_drop cX10_drop 3 (some .int) : Cond) ∈ wsL_law := tr_12 _ (List.mem_of_getElem? (i := 1) rfl)
theorem tw_266 : (Cond.methodLink RL 32 yX9_feed : Cond) ∈ wsL_law := tr_12 _ (List.mem_of_getElem? (i := 2) rfl)
theorem tw_267 : (Cond.instanceMethod yX9_feed : Cond) ∈ wsL_law := tr_12 _ (List.mem_of_getElem? (i := 3) rfl)
theorem tw_268 : (Cond.selects RX9 yX9_feed yX9_feed : Cond) ∈ wsL_law := tr_12 _ (List.mem_of_getElem? (i := 4) rfl)
theorem tw_269 : (Cond.code yX9_feed cX9_feed 2 (some .int) : Cond) ∈ wsL_law := tr_12 _ (List.mem_of_getElem? (i := 5) rfl)
theorem tw_270 : (Cond.fieldLink RX9 117 "LavaLodger$Tape" "bytes" "I" : Cond) ∈ wsL_law := tr_12 _ (List.mem_of_getElem? (i := 6) rfl)
theorem tw_271 : (Cond.constant RX9 120 (-1000003) : Cond) ∈ wsL_law := tr_12 _ (List.mem_of_getElem? (i := 7) rfl)
theorem tw_272 : (Cond.methodLink RX9 114 yX6_takeByte : Cond) ∈ wsL_law := tr_12 _ (List.mem_of_getElem? (i := 8) rfl)
theorem tw_273 : (Cond.instanceMethod yX6_takeByte : Cond) ∈ wsL_law := tr_12 _ (List.mem_of_getElem? (i := 9) rfl)
theorem tw_274 : (Cond.selects RX6 yX6_takeByte yX6_takeByte : Cond) ∈ wsL_law := tr_12 _ (List.mem_of_getElem? (i := 10) rfl)
theorem tw_275 : (Cond.code yX6_takeByte cX6_takeByte 2 (some .boolean) : Cond) ∈ wsL_law := tr_12 _ (List.mem_of_getElem? (i := 11) rfl)
theorem tw_276 : (Cond.methodLink RL 35 yX10_feed : Cond) ∈ wsL_law := tr_12 _ (List.mem_of_getElem? (i := 12) rfl)
theorem tw_277 : (Cond.instanceMethod yX10_feed : Cond) ∈ wsL_law := tr_12 _ (List.mem_of_getElem? (i := 13) rfl)
theorem tw_278 : (Cond.selects RX10 yX10_feed yX10_feed : Cond) ∈ wsL_law := tr_12 _ (List.mem_of_getElem? (i := 14) rfl)
theorem tw_279 : (Cond.code yX10_feed cX10_feed 2 (some .int) : Cond) ∈ wsL_law := tr_12 _ (List.mem_of_getElem? (i := 15) rfl)
theorem tw_280 : (Cond.constantLong RX10 78 (255) : Cond) ∈ wsL_law := tr_12 _ (List.mem_of_getElem? (i := 16) rfl)
theorem tw_281 : (Cond.fieldLink RX10 80 "LavaLodgerModel" "size" "I" : Cond) ∈ wsL_law := tr_12 _ (List.mem_of_getElem? (i := 17) rfl)
theorem tw_282 : (Cond.constant RX10 83 (-1000003) : Cond) ∈ wsL_law := tr_12 _ (List.mem_of_getElem? (i := 18) rfl)
theorem tw_283 : (Cond.methodLink RL 36 yX9_street : Cond) ∈ wsL_law := tr_12 _ (List.mem_of_getElem? (i := 19) rfl)
theorem tw_284 : (Cond.instanceMethod yX9_street : Cond) ∈ wsL_law := tr_12 _ (List.mem_of_getElem? (i := 20) rfl)
theorem tw_285 : (Cond.selects RX9 yX9_street yX9_street : Cond) ∈ wsL_law := tr_12 _ (List.mem_of_getElem? (i := 21) rfl)
theorem tw_286 : (Cond.code yX9_street cX9_street 1 (some .int) : Cond) ∈ wsL_law := tr_12 _ (List.mem_of_getElem? (i := 22) rfl)
theorem tw_287 : (Cond.constant RX9 125 (-1000100) : Cond) ∈ wsL_law := tr_12 _ (List.mem_of_getElem? (i := 23) rfl)
theorem tw_288 : (Cond.fieldLink RX9 126 "LavaLodger$Tape" "faultPlace" "I" : Cond) ∈ wsL_law := tr_13 _ (List.mem_of_getElem? (i := 0) rfl)
theorem tw_289 : (Cond.fieldLink RX9 129 "LavaLodger$Tape" "draft" "LLavaLodger$Village;" : Cond) ∈ wsL_law := tr_13 _ (List.mem_of_getElem? (i := 1) rfl)
theorem tw_290 : (Cond.fieldLink RX9 139 "LavaLodger$Village" "things" "I" : Cond) ∈ wsL_law := tr_13 _ (List.mem_of_getElem? (i := 2) rfl)
theorem tw_291 : (Cond.methodLink RX9 121 yX6_read : Cond) ∈ wsL_law := tr_13 _ (List.mem_of_getElem? (i := 3) rfl)
theorem tw_292 : (Cond.instanceMethod yX6_read : Cond) ∈ wsL_law := tr_13 _ (List.mem_of_getElem? (i := 4) rfl)
theorem tw_293 : (Cond.selects RX6 yX6_read yX6_read : Cond) ∈ wsL_law := tr_13 _ (List.mem_of_getElem? (i := 5) rfl)
theorem tw_294 : (Cond.code yX6_read cX6_read 2 (some .boolean) : Cond) ∈ wsL_law := tr_13 _ (List.mem_of_getElem? (i := 6) rfl)
theorem tw_295 : (Cond.methodLink RX6 35 yX8_clear : Cond) ∈ wsL_law := tr_13 _ (List.mem_of_getElem? (i := 7) rfl)
theorem tw_296 : (Cond.instanceMethod yX8_clear : Cond) ∈ wsL_law := tr_13 _ (List.mem_of_getElem? (i := 8) rfl)
theorem tw_297 : (Cond.selects RX8 yX8_clear yX8_clear : Cond) ∈ wsL_law := tr_13 _ (List.mem_of_getElem? (i := 9) rfl)
theorem tw_298 : (Cond.code yX8_clear cX8_clear 1 none : Cond) ∈ wsL_law := tr_13 _ (List.mem_of_getElem? (i := 10) rfl)
theorem tw_299 : (Cond.methodLink RX6 38 yX6_readLaw : Cond) ∈ wsL_law := tr_13 _ (List.mem_of_getElem? (i := 11) rfl)
theorem tw_300 : (Cond.instanceMethod yX6_readLaw : Cond) ∈ wsL_law := tr_13 _ (List.mem_of_getElem? (i := 12) rfl)
theorem tw_301 : (Cond.selects RX6 yX6_readLaw yX6_readLaw : Cond) ∈ wsL_law := tr_13 _ (List.mem_of_getElem? (i := 13) rfl)
theorem tw_302 : (Cond.code yX6_readLaw cX6_readLaw 1 (some .boolean) : Cond) ∈ wsL_law := tr_13 _ (List.mem_of_getElem? (i := 14) rfl)
theorem tw_303 : (Cond.fieldLink RX6 56 "LavaLodger$Village" "feed" "I" : Cond) ∈ wsL_law := tr_13 _ (List.mem_of_getElem? (i := 15) rfl)
theorem tw_304 : (Cond.fieldLink RX6 59 "LavaLodger$Village" "stop" "I" : Cond) ∈ wsL_law := tr_13 _ (List.mem_of_getElem? (i := 16) rfl)
theorem tw_305 : (Cond.methodLink RX6 48 yX6_readSign : Cond) ∈ wsL_law := tr_13 _ (List.mem_of_getElem? (i := 17) rfl)
theorem tw_306 : (Cond.instanceMethod yX6_readSign : Cond) ∈ wsL_law := tr_13 _ (List.mem_of_getElem? (i := 18) rfl)
theorem tw_307 : (Cond.selects RX6 yX6_readSign yX6_readSign : Cond) ∈ wsL_law := tr_13 _ (List.mem_of_getElem? (i := 19) rfl)
theorem tw_308 : (Cond.code yX6_readSign cX6_readSign 2 (some .boolean) : Cond) ∈ wsL_law := tr_13 _ (List.mem_of_getElem? (i := 20) rfl)
theorem tw_309 : (Cond.methodLink RX6 62 yX6_next : Cond) ∈ wsL_law := tr_13 _ (List.mem_of_getElem? (i := 21) rfl)
theorem tw_310 : (Cond.instanceMethod yX6_next : Cond) ∈ wsL_law := tr_13 _ (List.mem_of_getElem? (i := 22) rfl)
theorem tw_311 : (Cond.selects RX6 yX6_next yX6_next : Cond) ∈ wsL_law := tr_13 _ (List.mem_of_getElem? (i := 23) rfl)
theorem tw_312 : (Cond.code yX6_next cX6_next 1 (some .int) : Cond) ∈ wsL_law := tr_14 _ (List.mem_of_getElem? (i := 0) rfl)
theorem tw_313 : (Cond.methodLink RX6 72 yX6_fails : Cond) ∈ wsL_law := tr_14 _ (List.mem_of_getElem? (i := 1) rfl)
theorem tw_314 : (Cond.instanceMethod yX6_fails : Cond) ∈ wsL_law := tr_14 _ (List.mem_of_getElem? (i := 2) rfl)
theorem tw_315 : (Cond.selects RX6 yX6_fails yX6_fails : Cond) ∈ wsL_law := tr_14 _ (List.mem_of_getElem? (i := 3) rfl)
theorem tw_316 : (Cond.code yX6_fails cX6_fails 2 (some .boolean) : Cond) ∈ wsL_law := tr_14 _ (List.mem_of_getElem? (i := 4) rfl)
theorem tw_317 : (Cond.methodLink RX6 52 yX6_readNumber : Cond) ∈ wsL_law := tr_14 _ (List.mem_of_getElem? (i := 5) rfl)
theorem tw_318 : (Cond.instanceMethod yX6_readNumber : Cond) ∈ wsL_law := tr_14 _ (List.mem_of_getElem? (i := 6) rfl)
theorem tw_319 : (Cond.selects RX6 yX6_readNumber yX6_readNumber : Cond) ∈ wsL_law := tr_14 _ (List.mem_of_getElem? (i := 7) rfl)
theorem tw_320 : (Cond.code yX6_readNumber cX6_readNumber 6 (some .int) : Cond) ∈ wsL_law := tr_14 _ (List.mem_of_getElem? (i := 8) rfl)
theorem tw_321 : (Cond.methodLink RX6 42 yX6_readRooms : Cond) ∈ wsL_law := tr_14 _ (List.mem_of_getElem? (i := 9) rfl)
theorem tw_322 : (Cond.instanceMethod yX6_readRooms : Cond) ∈ wsL_law := tr_14 _ (List.mem_of_getElem? (i := 10) rfl)
theorem tw_323 : (Cond.selects RX6 yX6_readRooms yX6_readRooms : Cond) ∈ wsL_law := tr_14 _ (List.mem_of_getElem? (i := 11) rfl)
theorem tw_324 : (Cond.code yX6_readRooms cX6_readRooms 2 (some .boolean) : Cond) ∈ wsL_law := tr_14 _ (List.mem_of_getElem? (i := 12) rfl)
theorem tw_325 : (Cond.fieldLink RX6 69 "LavaLodger$Village" "rooms" "I" : Cond) ∈ wsL_law := tr_14 _ (List.mem_of_getElem? (i := 13) rfl)
theorem tw_326 : (Cond.methodLink RX6 66 yX6_readRoom : Cond) ∈ wsL_law := tr_14 _ (List.mem_of_getElem? (i := 14) rfl)
theorem tw_327 : (Cond.instanceMethod yX6_readRoom : Cond) ∈ wsL_law := tr_14 _ (List.mem_of_getElem? (i := 15) rfl)
theorem tw_328 : (Cond.selects RX6 yX6_readRoom yX6_readRoom : Cond) ∈ wsL_law := tr_14 _ (List.mem_of_getElem? (i := 16) rfl)
theorem tw_329 : (Cond.code yX6_readRoom cX6_readRoom 2 (some .boolean) : Cond) ∈ wsL_law := tr_14 _ (List.mem_of_getElem? (i := 17) rfl)
theorem tw_330 : (Cond.methodLink RX6 75 yX8_addRoom : Cond) ∈ wsL_law := tr_14 _ (List.mem_of_getElem? (i := 18) rfl)
theorem tw_331 : (Cond.instanceMethod yX8_addRoom : Cond) ∈ wsL_law := tr_14 _ (List.mem_of_getElem? (i := 19) rfl)
theorem tw_332 : (Cond.selects RX8 yX8_addRoom yX8_addRoom : Cond) ∈ wsL_law := tr_14 _ (List.mem_of_getElem? (i := 20) rfl)
theorem tw_333 : (Cond.code yX8_addRoom cX8_addRoom 2 none : Cond) ∈ wsL_law := tr_14 _ (List.mem_of_getElem? (i := 21) rfl)
theorem tw_334 : (Cond.methodLink RX6 45 yX6_readThings : Cond) ∈ wsL_law := tr_14 _ (List.mem_of_getElem? (i := 22) rfl)
theorem tw_335 : (Cond.instanceMethod yX6_readThings : Cond) ∈ wsL_law := tr_14 _ (List.mem_of_getElem? (i := 23) rfl)
theorem tw_336 : (Cond.selects RX6 yX6_readThings yX6_readThings : Cond) ∈ wsL_law := tr_15 _ (List.mem_of_getElem? (i := 0) rfl)
theorem tw_337 : (Cond.code yX6_readThings cX6_readThings 2 (some .boolean) : Cond) ∈ wsL_law := tr_15 _ (List.mem_of_getElem? (i := 1) rfl)
theorem tw_338 : (Cond.methodLink RX6 79 yX6_readThing : Cond) ∈ wsL_law := tr_15 _ (List.mem_of_getElem? (i := 2) rfl)
theorem tw_339 : (Cond.instanceMethod yX6_readThing : Cond) ∈ wsL_law := tr_15 _ (List.mem_of_getElem? (i := 3) rfl)
theorem tw_340 : (Cond.selects RX6 yX6_readThing yX6_readThing : Cond) ∈ wsL_law := tr_15 _ (List.mem_of_getElem? (i := 4) rfl)
theorem tw_341 : (Cond.code yX6_readThing cX6_readThing 4 (some .boolean) : Cond) ∈ wsL_law := tr_15 _ (List.mem_of_getElem? (i := 5) rfl)
theorem tw_342 : (Cond.methodLink RX6 82 yX6_sortOf : Cond) ∈ wsL_law := tr_15 _ (List.mem_of_getElem? (i := 6) rfl)
theorem tw_343 : (Cond.static yX6_sortOf : Cond) ∈ wsL_law := tr_15 _ (List.mem_of_getElem? (i := 7) rfl)
theorem tw_344 : (Cond.code yX6_sortOf cX6_sortOf 1 (some .int) : Cond) ∈ wsL_law := tr_15 _ (List.mem_of_getElem? (i := 8) rfl)
theorem tw_345 : (Cond.methodLink RX6 86 yX8_addThing : Cond) ∈ wsL_law := tr_15 _ (List.mem_of_getElem? (i := 9) rfl)
theorem tw_346 : (Cond.instanceMethod yX8_addThing : Cond) ∈ wsL_law := tr_15 _ (List.mem_of_getElem? (i := 10) rfl)
theorem tw_347 : (Cond.selects RX8 yX8_addThing yX8_addThing : Cond) ∈ wsL_law := tr_15 _ (List.mem_of_getElem? (i := 11) rfl)
theorem tw_348 : (Cond.code yX8_addThing cX8_addThing 4 none : Cond) ∈ wsL_law := tr_15 _ (List.mem_of_getElem? (i := 12) rfl)
theorem tw_349 : (Cond.methodLink RX8 55 yX8_place : Cond) ∈ wsL_law := tr_15 _ (List.mem_of_getElem? (i := 13) rfl)
theorem tw_350 : (Cond.instanceMethod yX8_place : Cond) ∈ wsL_law := tr_15 _ (List.mem_of_getElem? (i := 14) rfl)
theorem tw_351 : (Cond.selects RX8 yX8_place yX8_place : Cond) ∈ wsL_law := tr_15 _ (List.mem_of_getElem? (i := 15) rfl)
theorem tw_352 : (Cond.code yX8_place cX8_place 3 none : Cond) ∈ wsL_law := tr_15 _ (List.mem_of_getElem? (i := 16) rfl)
theorem tw_353 : (Cond.methodLink RX9 132 yX8_become : Cond) ∈ wsL_law := tr_15 _ (List.mem_of_getElem? (i := 17) rfl)
theorem tw_354 : (Cond.instanceMethod yX8_become : Cond) ∈ wsL_law := tr_15 _ (List.mem_of_getElem? (i := 18) rfl)
theorem tw_355 : (Cond.selects RX8 yX8_become yX8_become : Cond) ∈ wsL_law := tr_15 _ (List.mem_of_getElem? (i := 19) rfl)
theorem tw_356 : (Cond.code yX8_become cX8_become 2 none : Cond) ∈ wsL_law := tr_15 _ (List.mem_of_getElem? (i := 20) rfl)
theorem tw_357 : (Cond.methodLink RX8 49 arraycopyName : Cond) ∈ wsL_law := tr_15 _ (List.mem_of_getElem? (i := 21) rfl)
theorem tw_358 : (Cond.methodLink RX9 136 yX3_forget : Cond) ∈ wsL_law := tr_15 _ (List.mem_of_getElem? (i := 22) rfl)
theorem tw_359 : (Cond.instanceMethod yX3_forget : Cond) ∈ wsL_law := tr_15 _ (List.mem_of_getElem? (i := 23) rfl)
theorem tw_360 : (Cond.selects RX3 yX3_forget yX3_forget : Cond) ∈ wsL_law := tr_16 _ (List.mem_of_getElem? (i := 0) rfl)
theorem tw_361 : (Cond.code yX3_forget cX3_forget 1 none : Cond) ∈ wsL_law := tr_16 _ (List.mem_of_getElem? (i := 1) rfl)
theorem tw_362 : (Cond.methodLink RL 40 yX10_street : Cond) ∈ wsL_law := tr_16 _ (List.mem_of_getElem? (i := 2) rfl)
theorem tw_363 : (Cond.instanceMethod yX10_street : Cond) ∈ wsL_law := tr_16 _ (List.mem_of_getElem? (i := 3) rfl)
theorem tw_364 : (Cond.selects RX10 yX10_street yX10_street : Cond) ∈ wsL_law := tr_16 _ (List.mem_of_getElem? (i := 4) rfl)
theorem tw_365 : (Cond.code yX10_street cX10_street 2 (some .int) : Cond) ∈ wsL_law := tr_16 _ (List.mem_of_getElem? (i := 5) rfl)
theorem tw_366 : (Cond.fieldLink RX10 108 "LavaLodgerModel" "wrong" "I" : Cond) ∈ wsL_law := tr_16 _ (List.mem_of_getElem? (i := 6) rfl)
theorem tw_367 : (Cond.fieldLink RX10 134 "LavaLodgerModel" "fault" "I" : Cond) ∈ wsL_law := tr_16 _ (List.mem_of_getElem? (i := 7) rfl)
theorem tw_368 : (Cond.constant RX10 137 (-1000100) : Cond) ∈ wsL_law := tr_16 _ (List.mem_of_getElem? (i := 8) rfl)
theorem tw_369 : (Cond.fieldLink RX10 87 "LavaLodgerModel" "begin" "I" : Cond) ∈ wsL_law := tr_16 _ (List.mem_of_getElem? (i := 9) rfl)
theorem tw_370 : (Cond.fieldLink RX10 142 "LavaLodgerModel" "acts" "I" : Cond) ∈ wsL_law := tr_16 _ (List.mem_of_getElem? (i := 10) rfl)
theorem tw_371 : (Cond.methodLink RX10 131 yX10_reads : Cond) ∈ wsL_law := tr_16 _ (List.mem_of_getElem? (i := 11) rfl)
theorem tw_372 : (Cond.instanceMethod yX10_reads : Cond) ∈ wsL_law := tr_16 _ (List.mem_of_getElem? (i := 12) rfl)
theorem tw_373 : (Cond.selects RX10 yX10_reads yX10_reads : Cond) ∈ wsL_law := tr_16 _ (List.mem_of_getElem? (i := 13) rfl)
theorem tw_374 : (Cond.code yX10_reads cX10_reads 2 (some .boolean) : Cond) ∈ wsL_law := tr_16 _ (List.mem_of_getElem? (i := 14) rfl)
theorem tw_375 : (Cond.fieldLink RX10 84 "LavaLodgerModel" "at" "I" : Cond) ∈ wsL_law := tr_16 _ (List.mem_of_getElem? (i := 15) rfl)
theorem tw_376 : (Cond.fieldLink RX10 105 "LavaLodgerModel" "token" "I" : Cond) ∈ wsL_law := tr_16 _ (List.mem_of_getElem? (i := 16) rfl)
theorem tw_377 : (Cond.fieldLink RX10 94 "LavaLodgerModel" "value" "I" : Cond) ∈ wsL_law := tr_16 _ (List.mem_of_getElem? (i := 17) rfl)
theorem tw_378 : (Cond.methodLink RX10 111 yX10_step : Cond) ∈ wsL_law := tr_16 _ (List.mem_of_getElem? (i := 18) rfl)
theorem tw_379 : (Cond.instanceMethod yX10_step : Cond) ∈ wsL_law := tr_16 _ (List.mem_of_getElem? (i := 19) rfl)
theorem tw_380 : (Cond.selects RX10 yX10_step yX10_step : Cond) ∈ wsL_law := tr_16 _ (List.mem_of_getElem? (i := 20) rfl)
theorem tw_381 : (Cond.code yX10_step cX10_step 1 none : Cond) ∈ wsL_law := tr_16 _ (List.mem_of_getElem? (i := 21) rfl)
theorem tw_382 : (Cond.constantLong RX10 97 (97) : Cond) ∈ wsL_law := tr_16 _ (List.mem_of_getElem? (i := 22) rfl)
theorem tw_383 : (Cond.constantLong RX10 99 (122) : Cond) ∈ wsL_law := tr_16 _ (List.mem_of_getElem? (i := 23) rfl)
theorem tw_384 : (Cond.constantLong RX10 101 (48) : Cond) ∈ wsL_law := tr_17 _ (List.mem_of_getElem? (i := 0) rfl)
theorem tw_385 : (Cond.constantLong RX10 103 (57) : Cond) ∈ wsL_law := tr_17 _ (List.mem_of_getElem? (i := 1) rfl)
theorem tw_386 : (Cond.methodLink RX10 90 yX10_here : Cond) ∈ wsL_law := tr_17 _ (List.mem_of_getElem? (i := 2) rfl)
theorem tw_387 : (Cond.instanceMethod yX10_here : Cond) ∈ wsL_law := tr_17 _ (List.mem_of_getElem? (i := 3) rfl)
theorem tw_388 : (Cond.selects RX10 yX10_here yX10_here : Cond) ∈ wsL_law := tr_17 _ (List.mem_of_getElem? (i := 4) rfl)
theorem tw_389 : (Cond.code yX10_here cX10_here 1 (some .int) : Cond) ∈ wsL_law := tr_17 _ (List.mem_of_getElem? (i := 5) rfl)
theorem tw_390 : (Cond.methodLink RX10 114 yX10_fails : Cond) ∈ wsL_law := tr_17 _ (List.mem_of_getElem? (i := 6) rfl)
theorem tw_391 : (Cond.instanceMethod yX10_fails : Cond) ∈ wsL_law := tr_17 _ (List.mem_of_getElem? (i := 7) rfl)
theorem tw_392 : (Cond.selects RX10 yX10_fails yX10_fails : Cond) ∈ wsL_law := tr_17 _ (List.mem_of_getElem? (i := 8) rfl)
theorem tw_393 : (Cond.code yX10_fails cX10_fails 2 (some .boolean) : Cond) ∈ wsL_law := tr_17 _ (List.mem_of_getElem? (i := 9) rfl)
theorem tw_394 : (Cond.methodLink RX10 117 yX10_number : Cond) ∈ wsL_law := tr_17 _ (List.mem_of_getElem? (i := 10) rfl)
theorem tw_395 : (Cond.instanceMethod yX10_number : Cond) ∈ wsL_law := tr_17 _ (List.mem_of_getElem? (i := 11) rfl)
theorem tw_396 : (Cond.selects RX10 yX10_number yX10_number : Cond) ∈ wsL_law := tr_17 _ (List.mem_of_getElem? (i := 12) rfl)
theorem tw_397 : (Cond.code yX10_number cX10_number 5 (some .boolean) : Cond) ∈ wsL_law := tr_17 _ (List.mem_of_getElem? (i := 13) rfl)
theorem tw_398 : (Cond.methodLink RX10 124 yX10_readsRoom : Cond) ∈ wsL_law := tr_17 _ (List.mem_of_getElem? (i := 14) rfl)
theorem tw_399 : (Cond.instanceMethod yX10_readsRoom : Cond) ∈ wsL_law := tr_17 _ (List.mem_of_getElem? (i := 15) rfl)
theorem tw_400 : (Cond.selects RX10 yX10_readsRoom yX10_readsRoom : Cond) ∈ wsL_law := tr_17 _ (List.mem_of_getElem? (i := 16) rfl)
theorem tw_401 : (Cond.code yX10_readsRoom cX10_readsRoom 2 (some .boolean) : Cond) ∈ wsL_law := tr_17 _ (List.mem_of_getElem? (i := 17) rfl)
theorem tw_402 : (Cond.methodLink RX10 128 yX10_readsThing : Cond) ∈ wsL_law := tr_17 _ (List.mem_of_getElem? (i := 18) rfl)
theorem tw_403 : (Cond.instanceMethod yX10_readsThing : Cond) ∈ wsL_law := tr_17 _ (List.mem_of_getElem? (i := 19) rfl)
theorem tw_404 : (Cond.selects RX10 yX10_readsThing yX10_readsThing : Cond) ∈ wsL_law := tr_17 _ (List.mem_of_getElem? (i := 20) rfl)
theorem tw_405 : (Cond.code yX10_readsThing cX10_readsThing 3 (some .boolean) : Cond) ∈ wsL_law := tr_17 _ (List.mem_of_getElem? (i := 21) rfl)
theorem tw_406 : (Cond.methodLink RX10 121 yX10_sortOf : Cond) ∈ wsL_law := tr_17 _ (List.mem_of_getElem? (i := 22) rfl)
theorem tw_407 : (Cond.static yX10_sortOf : Cond) ∈ wsL_law := tr_17 _ (List.mem_of_getElem? (i := 23) rfl)
theorem tw_408 : (Cond.code yX10_sortOf cX10_sortOf 1 (some .int) : Cond) ∈ wsL_law := tr_18 _ (List.mem_of_getElem? (i := 0) rfl)
theorem tw_409 : (Cond.methodLink RX10 138 yX10_copies : Cond) ∈ wsL_law := tr_18 _ (List.mem_of_getElem? (i := 1) rfl)
theorem tw_410 : (Cond.static yX10_copies : Cond) ∈ wsL_law := tr_18 _ (List.mem_of_getElem? (i := 2) rfl)
theorem tw_411 : (Cond.code yX10_copies cX10_copies 5 none : Cond) ∈ wsL_law := tr_18 _ (List.mem_of_getElem? (i := 3) rfl)
theorem tw_412 : (Cond.methodLink RL 41 yX9_fault : Cond) ∈ wsL_law := tr_18 _ (List.mem_of_getElem? (i := 4) rfl)
theorem tw_413 : (Cond.instanceMethod yX9_fault : Cond) ∈ wsL_law := tr_18 _ (List.mem_of_getElem? (i := 5) rfl)
theorem tw_414 : (Cond.selects RX9 yX9_fault yX9_fault : Cond) ∈ wsL_law := tr_18 _ (List.mem_of_getElem? (i := 6) rfl)
theorem tw_415 : (Cond.code yX9_fault cX9_fault 1 (some .int) : Cond) ∈ wsL_law := tr_18 _ (List.mem_of_getElem? (i := 7) rfl)
theorem tw_416 : (Cond.fieldLink RX9 142 "LavaLodger$Tape" "faultNumber" "I" : Cond) ∈ wsL_law := tr_18 _ (List.mem_of_getElem? (i := 8) rfl)
theorem tw_417 : (Cond.methodLink RL 44 yX10_fault : Cond) ∈ wsL_law := tr_18 _ (List.mem_of_getElem? (i := 9) rfl)
theorem tw_418 : (Cond.instanceMethod yX10_fault : Cond) ∈ wsL_law := tr_18 _ (List.mem_of_getElem? (i := 10) rfl)
theorem tw_419 : (Cond.selects RX10 yX10_fault yX10_fault : Cond) ∈ wsL_law := tr_18 _ (List.mem_of_getElem? (i := 11) rfl)
theorem tw_420 : (Cond.code yX10_fault cX10_fault 1 (some .int) : Cond) ∈ wsL_law := tr_18 _ (List.mem_of_getElem? (i := 12) rfl)
theorem tw_421 : (Cond.methodLink RL 45 yX9_undo : Cond) ∈ wsL_law := tr_18 _ (List.mem_of_getElem? (i := 13) rfl)
theorem tw_422 : (Cond.instanceMethod yX9_undo : Cond) ∈ wsL_law := tr_18 _ (List.mem_of_getElem? (i := 14) rfl)
theorem tw_423 : (Cond.selects RX9 yX9_undo yX9_undo : Cond) ∈ wsL_law := tr_18 _ (List.mem_of_getElem? (i := 15) rfl)
theorem tw_424 : (Cond.code yX9_undo cX9_undo 1 (some .int) : Cond) ∈ wsL_law := tr_18 _ (List.mem_of_getElem? (i := 16) rfl)
theorem tw_425 : (Cond.fieldLink RX9 149 "LavaLodger$Past" "acts" "I" : Cond) ∈ wsL_law := tr_18 _ (List.mem_of_getElem? (i := 17) rfl)
theorem tw_426 : (Cond.constant RX9 152 (-1000002) : Cond) ∈ wsL_law := tr_18 _ (List.mem_of_getElem? (i := 18) rfl)
theorem tw_427 : (Cond.methodLink RX9 145 yX3_goBack : Cond) ∈ wsL_law := tr_18 _ (List.mem_of_getElem? (i := 19) rfl)
theorem tw_428 : (Cond.instanceMethod yX3_goBack : Cond) ∈ wsL_law := tr_18 _ (List.mem_of_getElem? (i := 20) rfl)
theorem tw_429 : (Cond.selects RX3 yX3_goBack yX3_goBack : Cond) ∈ wsL_law := tr_18 _ (List.mem_of_getElem? (i := 21) rfl)
theorem tw_430 : (Cond.code yX3_goBack cX3_goBack 2 (some .boolean) : Cond) ∈ wsL_law := tr_18 _ (List.mem_of_getElem? (i := 22) rfl)
theorem tw_431 : (Cond.methodLink RX3 25 yX8_become : Cond) ∈ wsL_law := tr_18 _ (List.mem_of_getElem? (i := 23) rfl)
theorem tw_432 : (Cond.methodLink RL 48 yX10_undo : Cond) ∈ wsL_law := tr_19 _ (List.mem_of_getElem? (i := 0) rfl)
theorem tw_433 : (Cond.instanceMethod yX10_undo : Cond) ∈ wsL_law := tr_19 _ (List.mem_of_getElem? (i := 1) rfl)
theorem tw_434 : (Cond.selects RX10 yX10_undo yX10_undo : Cond) ∈ wsL_law := tr_19 _ (List.mem_of_getElem? (i := 2) rfl)
theorem tw_435 : (Cond.code yX10_undo cX10_undo 1 (some .int) : Cond) ∈ wsL_law := tr_19 _ (List.mem_of_getElem? (i := 3) rfl)
theorem tw_436 : (Cond.constant RX10 174 (-1000002) : Cond) ∈ wsL_law := tr_19 _ (List.mem_of_getElem? (i := 4) rfl)
theorem tw_437 : (Cond.methodLink RL 49 yX9_days : Cond) ∈ wsL_law := tr_19 _ (List.mem_of_getElem? (i := 5) rfl)
theorem tw_438 : (Cond.instanceMethod yX9_days : Cond) ∈ wsL_law := tr_19 _ (List.mem_of_getElem? (i := 6) rfl)
theorem tw_439 : (Cond.selects RX9 yX9_days yX9_days : Cond) ∈ wsL_law := tr_19 _ (List.mem_of_getElem? (i := 7) rfl)
theorem tw_440 : (Cond.code yX9_days cX9_days 3 (some .int) : Cond) ∈ wsL_law := tr_19 _ (List.mem_of_getElem? (i := 8) rfl)
theorem tw_441 : (Cond.fieldLink RX9 156 "LavaLodger$Village" "day" "I" : Cond) ∈ wsL_law := tr_19 _ (List.mem_of_getElem? (i := 9) rfl)
theorem tw_442 : (Cond.methodLink RX9 153 yX9_isStreet : Cond) ∈ wsL_law := tr_19 _ (List.mem_of_getElem? (i := 10) rfl)
theorem tw_443 : (Cond.instanceMethod yX9_isStreet : Cond) ∈ wsL_law := tr_19 _ (List.mem_of_getElem? (i := 11) rfl)
theorem tw_444 : (Cond.selects RX9 yX9_isStreet yX9_isStreet : Cond) ∈ wsL_law := tr_19 _ (List.mem_of_getElem? (i := 12) rfl)
theorem tw_445 : (Cond.code yX9_isStreet cX9_isStreet 1 (some .boolean) : Cond) ∈ wsL_law := tr_19 _ (List.mem_of_getElem? (i := 13) rfl)
theorem tw_446 : (Cond.fieldLink RX9 210 "LavaLodger$Village" "rooms" "I" : Cond) ∈ wsL_law := tr_19 _ (List.mem_of_getElem? (i := 14) rfl)
theorem tw_447 : (Cond.methodLink RX9 159 yX3_keep : Cond) ∈ wsL_law := tr_19 _ (List.mem_of_getElem? (i := 15) rfl)
theorem tw_448 : (Cond.instanceMethod yX3_keep : Cond) ∈ wsL_law := tr_19 _ (List.mem_of_getElem? (i := 16) rfl)
theorem tw_449 : (Cond.selects RX3 yX3_keep yX3_keep : Cond) ∈ wsL_law := tr_19 _ (List.mem_of_getElem? (i := 17) rfl)
theorem tw_450 : (Cond.code yX3_keep cX3_keep 2 none : Cond) ∈ wsL_law := tr_19 _ (List.mem_of_getElem? (i := 18) rfl)
theorem tw_451 : (Cond.methodLink RX9 162 yX8_pass : Cond) ∈ wsL_law := tr_19 _ (List.mem_of_getElem? (i := 19) rfl)
theorem tw_452 : (Cond.instanceMethod yX8_pass : Cond) ∈ wsL_law := tr_19 _ (List.mem_of_getElem? (i := 20) rfl)
theorem tw_453 : (Cond.selects RX8 yX8_pass yX8_pass : Cond) ∈ wsL_law := tr_19 _ (List.mem_of_getElem? (i := 21) rfl)
theorem tw_454 : (Cond.code yX8_pass cX8_pass 2 none : Cond) ∈ wsL_law := tr_19 _ (List.mem_of_getElem? (i := 22) rfl)
theorem tw_455 : (Cond.methodLink RX8 63 yX8_flow : Cond) ∈ wsL_law := tr_19 _ (List.mem_of_getElem? (i := 23) rfl)
theorem tw_456 : (Cond.instanceMethod yX8_flow : Cond) ∈ wsL_law := tr_20 _ (List.mem_of_getElem? (i := 0) rfl)
theorem tw_457 : (Cond.selects RX8 yX8_flow yX8_flow : Cond) ∈ wsL_law := tr_20 _ (List.mem_of_getElem? (i := 1) rfl)
theorem tw_458 : (Cond.code yX8_flow cX8_flow 9 none : Cond) ∈ wsL_law := tr_20 _ (List.mem_of_getElem? (i := 2) rfl)
theorem tw_459 : (Cond.methodLink RX8 71 Lib.Math.min.name : Cond) ∈ wsL_law := tr_20 _ (List.mem_of_getElem? (i := 3) rfl)
theorem tw_460 : (Cond.static Lib.Math.min.name : Cond) ∈ wsL_law := tr_20 _ (List.mem_of_getElem? (i := 4) rfl)
theorem tw_461 : (Cond.code Lib.Math.min.name Lib.Math.min.code 2 (some .int) : Cond) ∈ wsL_law := tr_20 _ (List.mem_of_getElem? (i := 5) rfl)
theorem tw_462 : (Cond.methodLink RX8 67 yX8_placeAfter : Cond) ∈ wsL_law := tr_20 _ (List.mem_of_getElem? (i := 6) rfl)
theorem tw_463 : (Cond.instanceMethod yX8_placeAfter : Cond) ∈ wsL_law := tr_20 _ (List.mem_of_getElem? (i := 7) rfl)
theorem tw_464 : (Cond.selects RX8 yX8_placeAfter yX8_placeAfter : Cond) ∈ wsL_law := tr_20 _ (List.mem_of_getElem? (i := 8) rfl)
theorem tw_465 : (Cond.code yX8_placeAfter cX8_placeAfter 8 (some .int) : Cond) ∈ wsL_law := tr_20 _ (List.mem_of_getElem? (i := 9) rfl)
theorem tw_466 : (Cond.methodLink RX8 76 yX8_pace : Cond) ∈ wsL_law := tr_20 _ (List.mem_of_getElem? (i := 10) rfl)
theorem tw_467 : (Cond.static yX8_pace : Cond) ∈ wsL_law := tr_20 _ (List.mem_of_getElem? (i := 11) rfl)
theorem tw_468 : (Cond.code yX8_pace cX8_pace 9 (some .int) : Cond) ∈ wsL_law := tr_20 _ (List.mem_of_getElem? (i := 12) rfl)
theorem tw_469 : (Cond.methodLink RX8 59 yX8_goneOn : Cond) ∈ wsL_law := tr_20 _ (List.mem_of_getElem? (i := 13) rfl)
theorem tw_470 : (Cond.instanceMethod yX8_goneOn : Cond) ∈ wsL_law := tr_20 _ (List.mem_of_getElem? (i := 14) rfl)
theorem tw_471 : (Cond.selects RX8 yX8_goneOn yX8_goneOn : Cond) ∈ wsL_law := tr_20 _ (List.mem_of_getElem? (i := 15) rfl)
theorem tw_472 : (Cond.code yX8_goneOn cX8_goneOn 3 (some .int) : Cond) ∈ wsL_law := tr_20 _ (List.mem_of_getElem? (i := 16) rfl)
theorem tw_473 : (Cond.methodLink RX9 165 yX8_stones : Cond) ∈ wsL_law := tr_20 _ (List.mem_of_getElem? (i := 17) rfl)
theorem tw_474 : (Cond.instanceMethod yX8_stones : Cond) ∈ wsL_law := tr_20 _ (List.mem_of_getElem? (i := 18) rfl)
theorem tw_475 : (Cond.selects RX8 yX8_stones yX8_stones : Cond) ∈ wsL_law := tr_20 _ (List.mem_of_getElem? (i := 19) rfl)
theorem tw_476 : (Cond.code yX8_stones cX8_stones 3 (some .int) : Cond) ∈ wsL_law := tr_20 _ (List.mem_of_getElem? (i := 20) rfl)
theorem tw_477 : (Cond.methodLink RL 52 yX10_days : Cond) ∈ wsL_law := tr_20 _ (List.mem_of_getElem? (i := 21) rfl)
theorem tw_478 : (Cond.instanceMethod yX10_days : Cond) ∈ wsL_law := tr_20 _ (List.mem_of_getElem? (i := 22) rfl)
theorem tw_479 : (Cond.selects RX10 yX10_days yX10_days : Cond) ∈ wsL_law := tr_20 _ (List.mem_of_getElem? (i := 23) rfl)
theorem tw_480 : (Cond.code yX10_days cX10_days 3 (some .int) : Cond) ∈ wsL_law := tr_21 _ (List.mem_of_getElem? (i := 0) rfl)
theorem tw_481 : (Cond.constantLong RX10 178 (24) : Cond) ∈ wsL_law := tr_21 _ (List.mem_of_getElem? (i := 1) rfl)
theorem tw_482 : (Cond.methodLink RX10 175 yX10_isThere : Cond) ∈ wsL_law := tr_21 _ (List.mem_of_getElem? (i := 2) rfl)
theorem tw_483 : (Cond.instanceMethod yX10_isThere : Cond) ∈ wsL_law := tr_21 _ (List.mem_of_getElem? (i := 3) rfl)
theorem tw_484 : (Cond.selects RX10 yX10_isThere yX10_isThere : Cond) ∈ wsL_law := tr_21 _ (List.mem_of_getElem? (i := 4) rfl)
theorem tw_485 : (Cond.code yX10_isThere cX10_isThere 1 (some .boolean) : Cond) ∈ wsL_law := tr_21 _ (List.mem_of_getElem? (i := 5) rfl)
theorem tw_486 : (Cond.methodLink RX10 180 yX10_notes : Cond) ∈ wsL_law := tr_21 _ (List.mem_of_getElem? (i := 6) rfl)
theorem tw_487 : (Cond.instanceMethod yX10_notes : Cond) ∈ wsL_law := tr_21 _ (List.mem_of_getElem? (i := 7) rfl)
theorem tw_488 : (Cond.selects RX10 yX10_notes yX10_notes : Cond) ∈ wsL_law := tr_21 _ (List.mem_of_getElem? (i := 8) rfl)
theorem tw_489 : (Cond.code yX10_notes cX10_notes 2 none : Cond) ∈ wsL_law := tr_21 _ (List.mem_of_getElem? (i := 9) rfl)
theorem tw_490 : (Cond.methodLink RX10 165 yX10_passes : Cond) ∈ wsL_law := tr_21 _ (List.mem_of_getElem? (i := 10) rfl)
theorem tw_491 : (Cond.static yX10_passes : Cond) ∈ wsL_law := tr_21 _ (List.mem_of_getElem? (i := 11) rfl)
theorem tw_492 : (Cond.code yX10_passes cX10_passes 2 none : Cond) ∈ wsL_law := tr_21 _ (List.mem_of_getElem? (i := 12) rfl)
theorem tw_493 : (Cond.methodLink RX10 153 yX10_flows : Cond) ∈ wsL_law := tr_21 _ (List.mem_of_getElem? (i := 13) rfl)
theorem tw_494 : (Cond.static yX10_flows : Cond) ∈ wsL_law := tr_21 _ (List.mem_of_getElem? (i := 14) rfl)
theorem tw_495 : (Cond.code yX10_flows cX10_flows 6 none : Cond) ∈ wsL_law := tr_21 _ (List.mem_of_getElem? (i := 15) rfl)
theorem tw_496 : (Cond.methodLink RX10 145 yX10_less : Cond) ∈ wsL_law := tr_21 _ (List.mem_of_getElem? (i := 16) rfl)
theorem tw_497 : (Cond.static yX10_less : Cond) ∈ wsL_law := tr_21 _ (List.mem_of_getElem? (i := 17) rfl)
theorem tw_498 : (Cond.code yX10_less cX10_less 2 (some .int) : Cond) ∈ wsL_law := tr_21 _ (List.mem_of_getElem? (i := 18) rfl)
theorem tw_499 : (Cond.methodLink RX10 157 yX10_stepsOf : Cond) ∈ wsL_law := tr_21 _ (List.mem_of_getElem? (i := 19) rfl)
theorem tw_500 : (Cond.static yX10_stepsOf : Cond) ∈ wsL_law := tr_21 _ (List.mem_of_getElem? (i := 20) rfl)
theorem tw_501 : (Cond.code yX10_stepsOf cX10_stepsOf 6 (some .int) : Cond) ∈ wsL_law := tr_21 _ (List.mem_of_getElem? (i := 21) rfl)
theorem tw_502 : (Cond.methodLink RX10 149 yX10_lies : Cond) ∈ wsL_law := tr_21 _ (List.mem_of_getElem? (i := 22) rfl)
theorem tw_503 : (Cond.static yX10_lies : Cond) ∈ wsL_law := tr_21 _ (List.mem_of_getElem? (i := 23) rfl)
theorem tw_504 : (Cond.code yX10_lies cX10_lies 2 (some .boolean) : Cond) ∈ wsL_law := tr_22 _ (List.mem_of_getElem? (i := 0) rfl)
theorem tw_505 : (Cond.methodLink RX10 161 yX10_goes : Cond) ∈ wsL_law := tr_22 _ (List.mem_of_getElem? (i := 1) rfl)
theorem tw_506 : (Cond.static yX10_goes : Cond) ∈ wsL_law := tr_22 _ (List.mem_of_getElem? (i := 2) rfl)
theorem tw_507 : (Cond.code yX10_goes cX10_goes 3 none : Cond) ∈ wsL_law := tr_22 _ (List.mem_of_getElem? (i := 3) rfl)
theorem tw_508 : (Cond.methodLink RX10 168 yX10_those : Cond) ∈ wsL_law := tr_22 _ (List.mem_of_getElem? (i := 4) rfl)
theorem tw_509 : (Cond.static yX10_those : Cond) ∈ wsL_law := tr_22 _ (List.mem_of_getElem? (i := 5) rfl)
theorem tw_510 : (Cond.code yX10_those cX10_those 4 (some .int) : Cond) ∈ wsL_law := tr_22 _ (List.mem_of_getElem? (i := 6) rfl)
theorem tw_511 : (Cond.methodLink RL 53 yX9_wall : Cond) ∈ wsL_law := tr_22 _ (List.mem_of_getElem? (i := 7) rfl)
theorem tw_512 : (Cond.instanceMethod yX9_wall : Cond) ∈ wsL_law := tr_22 _ (List.mem_of_getElem? (i := 8) rfl)
theorem tw_513 : (Cond.selects RX9 yX9_wall yX9_wall : Cond) ∈ wsL_law := tr_22 _ (List.mem_of_getElem? (i := 9) rfl)
theorem tw_514 : (Cond.code yX9_wall cX9_wall 4 (some .int) : Cond) ∈ wsL_law := tr_22 _ (List.mem_of_getElem? (i := 10) rfl)
theorem tw_515 : (Cond.fieldLink RX9 172 "LavaLodger$Village" "wall" "[I" : Cond) ∈ wsL_law := tr_22 _ (List.mem_of_getElem? (i := 11) rfl)
theorem tw_516 : (Cond.methodLink RX9 169 yX9_isRoom : Cond) ∈ wsL_law := tr_22 _ (List.mem_of_getElem? (i := 12) rfl)
theorem tw_517 : (Cond.instanceMethod yX9_isRoom : Cond) ∈ wsL_law := tr_22 _ (List.mem_of_getElem? (i := 13) rfl)
theorem tw_518 : (Cond.selects RX9 yX9_isRoom yX9_isRoom : Cond) ∈ wsL_law := tr_22 _ (List.mem_of_getElem? (i := 14) rfl)
theorem tw_519 : (Cond.code yX9_isRoom cX9_isRoom 2 (some .boolean) : Cond) ∈ wsL_law := tr_22 _ (List.mem_of_getElem? (i := 15) rfl)
theorem tw_520 : (Cond.methodLink RL 57 yX10_wall : Cond) ∈ wsL_law := tr_22 _ (List.mem_of_getElem? (i := 16) rfl)
theorem tw_521 : (Cond.instanceMethod yX10_wall : Cond) ∈ wsL_law := tr_22 _ (List.mem_of_getElem? (i := 17) rfl)
theorem tw_522 : (Cond.selects RX10 yX10_wall yX10_wall : Cond) ∈ wsL_law := tr_22 _ (List.mem_of_getElem? (i := 18) rfl)
theorem tw_523 : (Cond.code yX10_wall cX10_wall 4 (some .int) : Cond) ∈ wsL_law := tr_22 _ (List.mem_of_getElem? (i := 19) rfl)
theorem tw_524 : (Cond.constantLong RX10 186 (9) : Cond) ∈ wsL_law := tr_22 _ (List.mem_of_getElem? (i := 20) rfl)
theorem tw_525 : (Cond.methodLink RX10 183 yX10_isRoom : Cond) ∈ wsL_law := tr_22 _ (List.mem_of_getElem? (i := 21) rfl)
theorem tw_526 : (Cond.instanceMethod yX10_isRoom : Cond) ∈ wsL_law := tr_22 _ (List.mem_of_getElem? (i := 22) rfl)
theorem tw_527 : (Cond.selects RX10 yX10_isRoom yX10_isRoom : Cond) ∈ wsL_law := tr_22 _ (List.mem_of_getElem? (i := 23) rfl)
theorem tw_528 : (Cond.code yX10_isRoom cX10_isRoom 2 (some .boolean) : Cond) ∈ wsL_law := tr_23 _ (List.mem_of_getElem? (i := 0) rfl)
theorem tw_529 : (Cond.methodLink RL 58 yX9_carry : Cond) ∈ wsL_law := tr_23 _ (List.mem_of_getElem? (i := 1) rfl)
theorem tw_530 : (Cond.instanceMethod yX9_carry : Cond) ∈ wsL_law := tr_23 _ (List.mem_of_getElem? (i := 2) rfl)
theorem tw_531 : (Cond.selects RX9 yX9_carry yX9_carry : Cond) ∈ wsL_law := tr_23 _ (List.mem_of_getElem? (i := 3) rfl)
theorem tw_532 : (Cond.code yX9_carry cX9_carry 2 (some .int) : Cond) ∈ wsL_law := tr_23 _ (List.mem_of_getElem? (i := 4) rfl)
theorem tw_533 : (Cond.fieldLink RX9 182 "LavaLodger$Village" "where" "[I" : Cond) ∈ wsL_law := tr_23 _ (List.mem_of_getElem? (i := 5) rfl)
theorem tw_534 : (Cond.methodLink RX9 176 yX9_isThing : Cond) ∈ wsL_law := tr_23 _ (List.mem_of_getElem? (i := 6) rfl)
theorem tw_535 : (Cond.instanceMethod yX9_isThing : Cond) ∈ wsL_law := tr_23 _ (List.mem_of_getElem? (i := 7) rfl)
theorem tw_536 : (Cond.selects RX9 yX9_isThing yX9_isThing : Cond) ∈ wsL_law := tr_23 _ (List.mem_of_getElem? (i := 8) rfl)
theorem tw_537 : (Cond.code yX9_isThing cX9_isThing 2 (some .boolean) : Cond) ∈ wsL_law := tr_23 _ (List.mem_of_getElem? (i := 9) rfl)
theorem tw_538 : (Cond.methodLink RX9 179 yX8_stands : Cond) ∈ wsL_law := tr_23 _ (List.mem_of_getElem? (i := 10) rfl)
theorem tw_539 : (Cond.instanceMethod yX8_stands : Cond) ∈ wsL_law := tr_23 _ (List.mem_of_getElem? (i := 11) rfl)
theorem tw_540 : (Cond.selects RX8 yX8_stands yX8_stands : Cond) ∈ wsL_law := tr_23 _ (List.mem_of_getElem? (i := 12) rfl)
theorem tw_541 : (Cond.code yX8_stands cX8_stands 2 (some .boolean) : Cond) ∈ wsL_law := tr_23 _ (List.mem_of_getElem? (i := 13) rfl)
theorem tw_542 : (Cond.methodLink RX9 185 yX8_carried : Cond) ∈ wsL_law := tr_23 _ (List.mem_of_getElem? (i := 14) rfl)
theorem tw_543 : (Cond.instanceMethod yX8_carried : Cond) ∈ wsL_law := tr_23 _ (List.mem_of_getElem? (i := 15) rfl)
theorem tw_544 : (Cond.selects RX8 yX8_carried yX8_carried : Cond) ∈ wsL_law := tr_23 _ (List.mem_of_getElem? (i := 16) rfl)
theorem tw_545 : (Cond.code yX8_carried cX8_carried 2 (some .int) : Cond) ∈ wsL_law := tr_23 _ (List.mem_of_getElem? (i := 17) rfl)
theorem tw_546 : (Cond.methodLink RX9 188 yX8_place : Cond) ∈ wsL_law := tr_23 _ (List.mem_of_getElem? (i := 18) rfl)
theorem tw_547 : (Cond.methodLink RL 61 yX10_carry : Cond) ∈ wsL_law := tr_23 _ (List.mem_of_getElem? (i := 19) rfl)
theorem tw_548 : (Cond.instanceMethod yX10_carry : Cond) ∈ wsL_law := tr_23 _ (List.mem_of_getElem? (i := 20) rfl)
theorem tw_549 : (Cond.selects RX10 yX10_carry yX10_carry : Cond) ∈ wsL_law := tr_23 _ (List.mem_of_getElem? (i := 21) rfl)
theorem tw_550 : (Cond.code yX10_carry cX10_carry 2 (some .int) : Cond) ∈ wsL_law := tr_23 _ (List.mem_of_getElem? (i := 22) rfl)
theorem tw_551 : (Cond.methodLink RX10 188 yX10_isThing : Cond) ∈ wsL_law := tr_23 _ (List.mem_of_getElem? (i := 23) rfl)
theorem tw_552 : (Cond.instanceMethod yX10_isThing : Cond) ∈ wsL_law := tr_24 _ (List.mem_of_getElem? (i := 0) rfl)
theorem tw_553 : (Cond.selects RX10 yX10_isThing yX10_isThing : Cond) ∈ wsL_law := tr_24 _ (List.mem_of_getElem? (i := 1) rfl)
theorem tw_554 : (Cond.code yX10_isThing cX10_isThing 2 (some .boolean) : Cond) ∈ wsL_law := tr_24 _ (List.mem_of_getElem? (i := 2) rfl)
theorem tw_555 : (Cond.methodLink RX10 191 yX10_whereOf : Cond) ∈ wsL_law := tr_24 _ (List.mem_of_getElem? (i := 3) rfl)
theorem tw_556 : (Cond.static yX10_whereOf : Cond) ∈ wsL_law := tr_24 _ (List.mem_of_getElem? (i := 4) rfl)
theorem tw_557 : (Cond.code yX10_whereOf cX10_whereOf 2 (some .int) : Cond) ∈ wsL_law := tr_24 _ (List.mem_of_getElem? (i := 5) rfl)
theorem tw_558 : (Cond.methodLink RL 62 yX9_feeding : Cond) ∈ wsL_law := tr_24 _ (List.mem_of_getElem? (i := 6) rfl)
theorem tw_559 : (Cond.instanceMethod yX9_feeding : Cond) ∈ wsL_law := tr_24 _ (List.mem_of_getElem? (i := 7) rfl)
theorem tw_560 : (Cond.selects RX9 yX9_feeding yX9_feeding : Cond) ∈ wsL_law := tr_24 _ (List.mem_of_getElem? (i := 8) rfl)
theorem tw_561 : (Cond.code yX9_feeding cX9_feeding 3 (some .int) : Cond) ∈ wsL_law := tr_24 _ (List.mem_of_getElem? (i := 9) rfl)
theorem tw_562 : (Cond.fieldLink RX9 192 "LavaLodger$Village" "feed" "I" : Cond) ∈ wsL_law := tr_24 _ (List.mem_of_getElem? (i := 10) rfl)
theorem tw_563 : (Cond.methodLink RL 65 yX10_feeding : Cond) ∈ wsL_law := tr_24 _ (List.mem_of_getElem? (i := 11) rfl)
theorem tw_564 : (Cond.instanceMethod yX10_feeding : Cond) ∈ wsL_law := tr_24 _ (List.mem_of_getElem? (i := 12) rfl)
theorem tw_565 : (Cond.selects RX10 yX10_feeding yX10_feeding : Cond) ∈ wsL_law := tr_24 _ (List.mem_of_getElem? (i := 13) rfl)
theorem tw_566 : (Cond.code yX10_feeding cX10_feeding 3 (some .int) : Cond) ∈ wsL_law := tr_24 _ (List.mem_of_getElem? (i := 14) rfl)
theorem tw_567 : (Cond.constantLong RX10 194 (20) : Cond) ∈ wsL_law := tr_24 _ (List.mem_of_getElem? (i := 15) rfl)
theorem tw_568 : (Cond.methodLink RL 66 yX9_dig : Cond) ∈ wsL_law := tr_24 _ (List.mem_of_getElem? (i := 16) rfl)
theorem tw_569 : (Cond.instanceMethod yX9_dig : Cond) ∈ wsL_law := tr_24 _ (List.mem_of_getElem? (i := 17) rfl)
theorem tw_570 : (Cond.selects RX9 yX9_dig yX9_dig : Cond) ∈ wsL_law := tr_24 _ (List.mem_of_getElem? (i := 18) rfl)
theorem tw_571 : (Cond.code yX9_dig cX9_dig 2 (some .int) : Cond) ∈ wsL_law := tr_24 _ (List.mem_of_getElem? (i := 19) rfl)
theorem tw_572 : (Cond.methodLink RL 69 yX10_dig : Cond) ∈ wsL_law := tr_24 _ (List.mem_of_getElem? (i := 20) rfl)
theorem tw_573 : (Cond.instanceMethod yX10_dig : Cond) ∈ wsL_law := tr_24 _ (List.mem_of_getElem? (i := 21) rfl)
theorem tw_574 : (Cond.selects RX10 yX10_dig yX10_dig : Cond) ∈ wsL_law := tr_24 _ (List.mem_of_getElem? (i := 22) rfl)
theorem tw_575 : (Cond.code yX10_dig cX10_dig 2 (some .int) : Cond) ∈ wsL_law := tr_24 _ (List.mem_of_getElem? (i := 23) rfl)
theorem tw_576 : (Cond.methodLink RL 70 yX9_thing : Cond) ∈ wsL_law := tr_25 _ (List.mem_of_getElem? (i := 0) rfl)
theorem tw_577 : (Cond.instanceMethod yX9_thing : Cond) ∈ wsL_law := tr_25 _ (List.mem_of_getElem? (i := 1) rfl)
theorem tw_578 : (Cond.selects RX9 yX9_thing yX9_thing : Cond) ∈ wsL_law := tr_25 _ (List.mem_of_getElem? (i := 2) rfl)
theorem tw_579 : (Cond.code yX9_thing cX9_thing 3 (some .int) : Cond) ∈ wsL_law := tr_25 _ (List.mem_of_getElem? (i := 3) rfl)
theorem tw_580 : (Cond.fieldLink RX9 195 "LavaLodger$Village" "high" "[I" : Cond) ∈ wsL_law := tr_25 _ (List.mem_of_getElem? (i := 4) rfl)
theorem tw_581 : (Cond.fieldLink RX9 198 "LavaLodger$Village" "lava" "[I" : Cond) ∈ wsL_law := tr_25 _ (List.mem_of_getElem? (i := 5) rfl)
theorem tw_582 : (Cond.fieldLink RX9 201 "LavaLodger$Village" "last" "[I" : Cond) ∈ wsL_law := tr_25 _ (List.mem_of_getElem? (i := 6) rfl)
theorem tw_583 : (Cond.methodLink RL 73 yX10_thing : Cond) ∈ wsL_law := tr_25 _ (List.mem_of_getElem? (i := 7) rfl)
theorem tw_584 : (Cond.instanceMethod yX10_thing : Cond) ∈ wsL_law := tr_25 _ (List.mem_of_getElem? (i := 8) rfl)
theorem tw_585 : (Cond.selects RX10 yX10_thing yX10_thing : Cond) ∈ wsL_law := tr_25 _ (List.mem_of_getElem? (i := 9) rfl)
theorem tw_586 : (Cond.code yX10_thing cX10_thing 3 (some .int) : Cond) ∈ wsL_law := tr_25 _ (List.mem_of_getElem? (i := 10) rfl)
theorem tw_587 : (Cond.methodLink RL 74 yX9_roomOf : Cond) ∈ wsL_law := tr_25 _ (List.mem_of_getElem? (i := 11) rfl)
theorem tw_588 : (Cond.instanceMethod yX9_roomOf : Cond) ∈ wsL_law := tr_25 _ (List.mem_of_getElem? (i := 12) rfl)
theorem tw_589 : (Cond.selects RX9 yX9_roomOf yX9_roomOf : Cond) ∈ wsL_law := tr_25 _ (List.mem_of_getElem? (i := 13) rfl)
theorem tw_590 : (Cond.code yX9_roomOf cX9_roomOf 3 (some .int) : Cond) ∈ wsL_law := tr_25 _ (List.mem_of_getElem? (i := 14) rfl)
theorem tw_591 : (Cond.fieldLink RX9 204 "LavaLodger$Village" "floor" "[I" : Cond) ∈ wsL_law := tr_25 _ (List.mem_of_getElem? (i := 15) rfl)
theorem tw_592 : (Cond.methodLink RX9 207 yX8_allAt : Cond) ∈ wsL_law := tr_25 _ (List.mem_of_getElem? (i := 16) rfl)
theorem tw_593 : (Cond.instanceMethod yX8_allAt : Cond) ∈ wsL_law := tr_25 _ (List.mem_of_getElem? (i := 17) rfl)
theorem tw_594 : (Cond.selects RX8 yX8_allAt yX8_allAt : Cond) ∈ wsL_law := tr_25 _ (List.mem_of_getElem? (i := 18) rfl)
theorem tw_595 : (Cond.code yX8_allAt cX8_allAt 4 (some .int) : Cond) ∈ wsL_law := tr_25 _ (List.mem_of_getElem? (i := 19) rfl)
theorem tw_596 : (Cond.methodLink RL 77 yX10_roomOf : Cond) ∈ wsL_law := tr_25 _ (List.mem_of_getElem? (i := 20) rfl)
theorem tw_597 : (Cond.instanceMethod yX10_roomOf : Cond) ∈ wsL_law := tr_25 _ (List.mem_of_getElem? (i := 21) rfl)
theorem tw_598 : (Cond.selects RX10 yX10_roomOf yX10_roomOf : Cond) ∈ wsL_law := tr_25 _ (List.mem_of_getElem? (i := 22) rfl)
theorem tw_599 : (Cond.code yX10_roomOf cX10_roomOf 3 (some .int) : Cond) ∈ wsL_law := tr_25 _ (List.mem_of_getElem? (i := 23) rfl)
theorem tw_600 : (Cond.methodLink RX10 196 yX10_thoseIn : Cond) ∈ wsL_law := tr_26 _ (List.mem_of_getElem? (i := 0) rfl)
theorem tw_601 : (Cond.instanceMethod yX10_thoseIn : Cond) ∈ wsL_law := tr_26 _ (List.mem_of_getElem? (i := 1) rfl)
theorem tw_602 : (Cond.selects RX10 yX10_thoseIn yX10_thoseIn : Cond) ∈ wsL_law := tr_26 _ (List.mem_of_getElem? (i := 2) rfl)
theorem tw_603 : (Cond.code yX10_thoseIn cX10_thoseIn 5 (some .int) : Cond) ∈ wsL_law := tr_26 _ (List.mem_of_getElem? (i := 3) rfl)
theorem tw_604 : (Cond.methodLink RL 78 yX9_stand : Cond) ∈ wsL_law := tr_26 _ (List.mem_of_getElem? (i := 4) rfl)
theorem tw_605 : (Cond.instanceMethod yX9_stand : Cond) ∈ wsL_law := tr_26 _ (List.mem_of_getElem? (i := 5) rfl)
theorem tw_606 : (Cond.selects RX9 yX9_stand yX9_stand : Cond) ∈ wsL_law := tr_26 _ (List.mem_of_getElem? (i := 6) rfl)
theorem tw_607 : (Cond.code yX9_stand cX9_stand 2 (some .int) : Cond) ∈ wsL_law := tr_26 _ (List.mem_of_getElem? (i := 7) rfl)
theorem tw_608 : (Cond.fieldLink RX9 213 "LavaLodger$Village" "stop" "I" : Cond) ∈ wsL_law := tr_26 _ (List.mem_of_getElem? (i := 8) rfl)
theorem tw_609 : (Cond.methodLink RX9 216 yX8_standing : Cond) ∈ wsL_law := tr_26 _ (List.mem_of_getElem? (i := 9) rfl)
theorem tw_610 : (Cond.instanceMethod yX8_standing : Cond) ∈ wsL_law := tr_26 _ (List.mem_of_getElem? (i := 10) rfl)
theorem tw_611 : (Cond.selects RX8 yX8_standing yX8_standing : Cond) ∈ wsL_law := tr_26 _ (List.mem_of_getElem? (i := 11) rfl)
theorem tw_612 : (Cond.code yX8_standing cX8_standing 3 (some .int) : Cond) ∈ wsL_law := tr_26 _ (List.mem_of_getElem? (i := 12) rfl)
theorem tw_613 : (Cond.methodLink RL 81 yX10_stand : Cond) ∈ wsL_law := tr_26 _ (List.mem_of_getElem? (i := 13) rfl)
theorem tw_614 : (Cond.instanceMethod yX10_stand : Cond) ∈ wsL_law := tr_26 _ (List.mem_of_getElem? (i := 14) rfl)
theorem tw_615 : (Cond.selects RX10 yX10_stand yX10_stand : Cond) ∈ wsL_law := tr_26 _ (List.mem_of_getElem? (i := 15) rfl)
theorem tw_616 : (Cond.code yX10_stand cX10_stand 2 (some .int) : Cond) ∈ wsL_law := tr_26 _ (List.mem_of_getElem? (i := 16) rfl)
theorem tw_617 : (Cond.methodLink RL 82 yX9_ahead : Cond) ∈ wsL_law := tr_26 _ (List.mem_of_getElem? (i := 17) rfl)
theorem tw_618 : (Cond.instanceMethod yX9_ahead : Cond) ∈ wsL_law := tr_26 _ (List.mem_of_getElem? (i := 18) rfl)
theorem tw_619 : (Cond.selects RX9 yX9_ahead yX9_ahead : Cond) ∈ wsL_law := tr_26 _ (List.mem_of_getElem? (i := 19) rfl)
theorem tw_620 : (Cond.code yX9_ahead cX9_ahead 3 (some .int) : Cond) ∈ wsL_law := tr_26 _ (List.mem_of_getElem? (i := 20) rfl)
theorem tw_621 : (Cond.methodLink RX9 219 yX5_placeBehind : Cond) ∈ wsL_law := tr_26 _ (List.mem_of_getElem? (i := 21) rfl)
theorem tw_622 : (Cond.instanceMethod yX5_placeBehind : Cond) ∈ wsL_law := tr_26 _ (List.mem_of_getElem? (i := 22) rfl)
theorem tw_623 : (Cond.selects RX5 yX5_placeBehind yX5_placeBehind : Cond) ∈ wsL_law := tr_26 _ (List.mem_of_getElem? (i := 23) rfl)
theorem tw_624 : (Cond.code yX5_placeBehind cX5_placeBehind 4 (some .int) : Cond) ∈ wsL_law := tr_27 _ (List.mem_of_getElem? (i := 0) rfl)
theorem tw_625 : (Cond.fieldLink RX5 39 "LavaLodger$Village" "where" "[I" : Cond) ∈ wsL_law := tr_27 _ (List.mem_of_getElem? (i := 1) rfl)
theorem tw_626 : (Cond.methodLink RX5 35 yX2_tell : Cond) ∈ wsL_law := tr_27 _ (List.mem_of_getElem? (i := 2) rfl)
theorem tw_627 : (Cond.instanceMethod yX2_tell : Cond) ∈ wsL_law := tr_27 _ (List.mem_of_getElem? (i := 3) rfl)
theorem tw_628 : (Cond.selects RX2 yX2_tell yX2_tell : Cond) ∈ wsL_law := tr_27 _ (List.mem_of_getElem? (i := 4) rfl)
theorem tw_629 : (Cond.code yX2_tell cX2_tell 5 none : Cond) ∈ wsL_law := tr_27 _ (List.mem_of_getElem? (i := 5) rfl)
theorem tw_630 : (Cond.fieldLink RX2 25 "LavaLodger$Village" "lava" "[I" : Cond) ∈ wsL_law := tr_27 _ (List.mem_of_getElem? (i := 6) rfl)
theorem tw_631 : (Cond.methodLink RX2 30 arraycopyName : Cond) ∈ wsL_law := tr_27 _ (List.mem_of_getElem? (i := 7) rfl)
theorem tw_632 : (Cond.fieldLink RX2 36 "LavaLodger$Village" "day" "I" : Cond) ∈ wsL_law := tr_27 _ (List.mem_of_getElem? (i := 8) rfl)
theorem tw_633 : (Cond.methodLink RX2 39 yX8_flow : Cond) ∈ wsL_law := tr_27 _ (List.mem_of_getElem? (i := 9) rfl)
theorem tw_634 : (Cond.methodLink RX5 42 yX2_placeBehind : Cond) ∈ wsL_law := tr_27 _ (List.mem_of_getElem? (i := 10) rfl)
theorem tw_635 : (Cond.instanceMethod yX2_placeBehind : Cond) ∈ wsL_law := tr_27 _ (List.mem_of_getElem? (i := 11) rfl)
theorem tw_636 : (Cond.selects RX2 yX2_placeBehind yX2_placeBehind : Cond) ∈ wsL_law := tr_27 _ (List.mem_of_getElem? (i := 12) rfl)
theorem tw_637 : (Cond.code yX2_placeBehind cX2_placeBehind 7 (some .int) : Cond) ∈ wsL_law := tr_27 _ (List.mem_of_getElem? (i := 13) rfl)
theorem tw_638 : (Cond.methodLink RX2 53 yX2_placeAfter : Cond) ∈ wsL_law := tr_27 _ (List.mem_of_getElem? (i := 14) rfl)
theorem tw_639 : (Cond.instanceMethod yX2_placeAfter : Cond) ∈ wsL_law := tr_27 _ (List.mem_of_getElem? (i := 15) rfl)
theorem tw_640 : (Cond.selects RX2 yX2_placeAfter yX2_placeAfter : Cond) ∈ wsL_law := tr_27 _ (List.mem_of_getElem? (i := 16) rfl)
theorem tw_641 : (Cond.code yX2_placeAfter cX2_placeAfter 5 (some .int) : Cond) ∈ wsL_law := tr_27 _ (List.mem_of_getElem? (i := 17) rfl)
theorem tw_642 : (Cond.fieldLink RX2 43 "LavaLodger$Village" "sort" "[I" : Cond) ∈ wsL_law := tr_27 _ (List.mem_of_getElem? (i := 18) rfl)
theorem tw_643 : (Cond.fieldLink RX2 46 "LavaLodger$Village" "high" "[I" : Cond) ∈ wsL_law := tr_27 _ (List.mem_of_getElem? (i := 19) rfl)
theorem tw_644 : (Cond.methodLink RX2 49 yX8_placeAfter : Cond) ∈ wsL_law := tr_27 _ (List.mem_of_getElem? (i := 20) rfl)
theorem tw_645 : (Cond.methodLink RL 85 yX10_ahead : Cond) ∈ wsL_law := tr_27 _ (List.mem_of_getElem? (i := 21) rfl)
theorem tw_646 : (Cond.instanceMethod yX10_ahead : Cond) ∈ wsL_law := tr_27 _ (List.mem_of_getElem? (i := 22) rfl)
theorem tw_647 : (Cond.selects RX10 yX10_ahead yX10_ahead : Cond) ∈ wsL_law := tr_27 _ (List.mem_of_getElem? (i := 23) rfl)
theorem tw_648 : (Cond.code yX10_ahead cX10_ahead 3 (some .int) : Cond) ∈ wsL_law := tr_28 _ (List.mem_of_getElem? (i := 0) rfl)
theorem tw_649 : (Cond.constantLong RX10 203 (60) : Cond) ∈ wsL_law := tr_28 _ (List.mem_of_getElem? (i := 1) rfl)
theorem tw_650 : (Cond.methodLink RX10 205 yX10_laysAside : Cond) ∈ wsL_law := tr_28 _ (List.mem_of_getElem? (i := 2) rfl)
theorem tw_651 : (Cond.instanceMethod yX10_laysAside : Cond) ∈ wsL_law := tr_28 _ (List.mem_of_getElem? (i := 3) rfl)
theorem tw_652 : (Cond.selects RX10 yX10_laysAside yX10_laysAside : Cond) ∈ wsL_law := tr_28 _ (List.mem_of_getElem? (i := 4) rfl)
theorem tw_653 : (Cond.code yX10_laysAside cX10_laysAside 2 none : Cond) ∈ wsL_law := tr_28 _ (List.mem_of_getElem? (i := 5) rfl)
theorem tw_654 : (Cond.methodLink RX10 199 yX10_goesBy : Cond) ∈ wsL_law := tr_28 _ (List.mem_of_getElem? (i := 6) rfl)
theorem tw_655 : (Cond.static yX10_goesBy : Cond) ∈ wsL_law := tr_28 _ (List.mem_of_getElem? (i := 7) rfl)
theorem tw_656 : (Cond.code yX10_goesBy cX10_goesBy 3 none : Cond) ∈ wsL_law := tr_28 _ (List.mem_of_getElem? (i := 8) rfl)
theorem tw_657 : (Cond.methodLink RL 86 yX9_lava : Cond) ∈ wsL_law := tr_28 _ (List.mem_of_getElem? (i := 9) rfl)
theorem tw_658 : (Cond.instanceMethod yX9_lava : Cond) ∈ wsL_law := tr_28 _ (List.mem_of_getElem? (i := 10) rfl)
theorem tw_659 : (Cond.selects RX9 yX9_lava yX9_lava : Cond) ∈ wsL_law := tr_28 _ (List.mem_of_getElem? (i := 11) rfl)
theorem tw_660 : (Cond.code yX9_lava cX9_lava 3 (some .int) : Cond) ∈ wsL_law := tr_28 _ (List.mem_of_getElem? (i := 12) rfl)
theorem tw_661 : (Cond.methodLink RX9 223 yX5_lavaBehind : Cond) ∈ wsL_law := tr_28 _ (List.mem_of_getElem? (i := 13) rfl)
theorem tw_662 : (Cond.instanceMethod yX5_lavaBehind : Cond) ∈ wsL_law := tr_28 _ (List.mem_of_getElem? (i := 14) rfl)
theorem tw_663 : (Cond.selects RX5 yX5_lavaBehind yX5_lavaBehind : Cond) ∈ wsL_law := tr_28 _ (List.mem_of_getElem? (i := 15) rfl)
theorem tw_664 : (Cond.code yX5_lavaBehind cX5_lavaBehind 4 (some .int) : Cond) ∈ wsL_law := tr_28 _ (List.mem_of_getElem? (i := 16) rfl)
theorem tw_665 : (Cond.methodLink RX5 46 yX2_lavaIn : Cond) ∈ wsL_law := tr_28 _ (List.mem_of_getElem? (i := 17) rfl)
theorem tw_666 : (Cond.instanceMethod yX2_lavaIn : Cond) ∈ wsL_law := tr_28 _ (List.mem_of_getElem? (i := 18) rfl)
theorem tw_667 : (Cond.selects RX2 yX2_lavaIn yX2_lavaIn : Cond) ∈ wsL_law := tr_28 _ (List.mem_of_getElem? (i := 19) rfl)
theorem tw_668 : (Cond.code yX2_lavaIn cX2_lavaIn 3 (some .int) : Cond) ∈ wsL_law := tr_28 _ (List.mem_of_getElem? (i := 20) rfl)
theorem tw_669 : (Cond.methodLink RL 89 yX10_lava : Cond) ∈ wsL_law := tr_28 _ (List.mem_of_getElem? (i := 21) rfl)
theorem tw_670 : (Cond.instanceMethod yX10_lava : Cond) ∈ wsL_law := tr_28 _ (List.mem_of_getElem? (i := 22) rfl)
theorem tw_671 : (Cond.selects RX10 yX10_lava yX10_lava : Cond) ∈ wsL_law := tr_28 _ (List.mem_of_getElem? (i := 23) rfl)
theorem tw_672 : (Cond.code yX10_lava cX10_lava 3 (some .int) : Cond) ∈ wsL_law := tr_29 _ (List.mem_of_getElem? (i := 0) rfl)
theorem tw_673 : (Cond.methodLink RL 90 yX9_kept : Cond) ∈ wsL_law := tr_29 _ (List.mem_of_getElem? (i := 1) rfl)
theorem tw_674 : (Cond.instanceMethod yX9_kept : Cond) ∈ wsL_law := tr_29 _ (List.mem_of_getElem? (i := 2) rfl)
theorem tw_675 : (Cond.selects RX9 yX9_kept yX9_kept : Cond) ∈ wsL_law := tr_29 _ (List.mem_of_getElem? (i := 3) rfl)
theorem tw_676 : (Cond.code yX9_kept cX9_kept 3 (some .int) : Cond) ∈ wsL_law := tr_29 _ (List.mem_of_getElem? (i := 4) rfl)
theorem tw_677 : (Cond.methodLink RX9 226 yX5_stonesBehind : Cond) ∈ wsL_law := tr_29 _ (List.mem_of_getElem? (i := 5) rfl)
theorem tw_678 : (Cond.instanceMethod yX5_stonesBehind : Cond) ∈ wsL_law := tr_29 _ (List.mem_of_getElem? (i := 6) rfl)
theorem tw_679 : (Cond.selects RX5 yX5_stonesBehind yX5_stonesBehind : Cond) ∈ wsL_law := tr_29 _ (List.mem_of_getElem? (i := 7) rfl)
theorem tw_680 : (Cond.code yX5_stonesBehind cX5_stonesBehind 3 (some .int) : Cond) ∈ wsL_law := tr_29 _ (List.mem_of_getElem? (i := 8) rfl)
theorem tw_681 : (Cond.methodLink RX5 50 yX8_become : Cond) ∈ wsL_law := tr_29 _ (List.mem_of_getElem? (i := 9) rfl)
theorem tw_682 : (Cond.methodLink RX5 54 yX5_passTrial : Cond) ∈ wsL_law := tr_29 _ (List.mem_of_getElem? (i := 10) rfl)
theorem tw_683 : (Cond.instanceMethod yX5_passTrial : Cond) ∈ wsL_law := tr_29 _ (List.mem_of_getElem? (i := 11) rfl)
theorem tw_684 : (Cond.selects RX5 yX5_passTrial yX5_passTrial : Cond) ∈ wsL_law := tr_29 _ (List.mem_of_getElem? (i := 12) rfl)
theorem tw_685 : (Cond.code yX5_passTrial cX5_passTrial 3 none : Cond) ∈ wsL_law := tr_29 _ (List.mem_of_getElem? (i := 13) rfl)
theorem tw_686 : (Cond.methodLink RX5 65 yX8_pass : Cond) ∈ wsL_law := tr_29 _ (List.mem_of_getElem? (i := 14) rfl)
theorem tw_687 : (Cond.methodLink RX5 57 yX8_stones : Cond) ∈ wsL_law := tr_29 _ (List.mem_of_getElem? (i := 15) rfl)
theorem tw_688 : (Cond.methodLink RX9 230 yX5_outsBehind : Cond) ∈ wsL_law := tr_29 _ (List.mem_of_getElem? (i := 16) rfl)
theorem tw_689 : (Cond.instanceMethod yX5_outsBehind : Cond) ∈ wsL_law := tr_29 _ (List.mem_of_getElem? (i := 17) rfl)
theorem tw_690 : (Cond.selects RX5 yX5_outsBehind yX5_outsBehind : Cond) ∈ wsL_law := tr_29 _ (List.mem_of_getElem? (i := 18) rfl)
theorem tw_691 : (Cond.code yX5_outsBehind cX5_outsBehind 3 (some .int) : Cond) ∈ wsL_law := tr_29 _ (List.mem_of_getElem? (i := 19) rfl)
theorem tw_692 : (Cond.methodLink RX5 61 yX8_allAt : Cond) ∈ wsL_law := tr_29 _ (List.mem_of_getElem? (i := 20) rfl)
theorem tw_693 : (Cond.methodLink RL 93 yX10_kept : Cond) ∈ wsL_law := tr_29 _ (List.mem_of_getElem? (i := 21) rfl)
theorem tw_694 : (Cond.instanceMethod yX10_kept : Cond) ∈ wsL_law := tr_29 _ (List.mem_of_getElem? (i := 22) rfl)
theorem tw_695 : (Cond.selects RX10 yX10_kept yX10_kept : Cond) ∈ wsL_law := tr_29 _ (List.mem_of_getElem? (i := 23) rfl)
theorem tw_696 : (Cond.code yX10_kept cX10_kept 3 (some .int) : Cond) ∈ wsL_law := tr_30 _ (List.mem_of_getElem? (i := 0) rfl)
theorem tw_697 : (Cond.methodLink RX10 209 yX10_isTwo : Cond) ∈ wsL_law := tr_30 _ (List.mem_of_getElem? (i := 1) rfl)
theorem tw_698 : (Cond.static yX10_isTwo : Cond) ∈ wsL_law := tr_30 _ (List.mem_of_getElem? (i := 2) rfl)
theorem tw_699 : (Cond.code yX10_isTwo cX10_isTwo 1 (some .boolean) : Cond) ∈ wsL_law := tr_30 _ (List.mem_of_getElem? (i := 3) rfl)
theorem tw_700 : (Cond.methodLink RL 94 yX9_when : Cond) ∈ wsL_law := tr_30 _ (List.mem_of_getElem? (i := 4) rfl)
theorem tw_701 : (Cond.instanceMethod yX9_when : Cond) ∈ wsL_law := tr_30 _ (List.mem_of_getElem? (i := 5) rfl)
theorem tw_702 : (Cond.selects RX9 yX9_when yX9_when : Cond) ∈ wsL_law := tr_30 _ (List.mem_of_getElem? (i := 6) rfl)
theorem tw_703 : (Cond.code yX9_when cX9_when 3 (some .int) : Cond) ∈ wsL_law := tr_30 _ (List.mem_of_getElem? (i := 7) rfl)
theorem tw_704 : (Cond.methodLink RX9 233 yX5_firstDay : Cond) ∈ wsL_law := tr_30 _ (List.mem_of_getElem? (i := 8) rfl)
theorem tw_705 : (Cond.instanceMethod yX5_firstDay : Cond) ∈ wsL_law := tr_30 _ (List.mem_of_getElem? (i := 9) rfl)
theorem tw_706 : (Cond.selects RX5 yX5_firstDay yX5_firstDay : Cond) ∈ wsL_law := tr_30 _ (List.mem_of_getElem? (i := 10) rfl)
theorem tw_707 : (Cond.code yX5_firstDay cX5_firstDay 6 (some .int) : Cond) ∈ wsL_law := tr_30 _ (List.mem_of_getElem? (i := 11) rfl)
theorem tw_708 : (Cond.constant RX5 71 (-1000000) : Cond) ∈ wsL_law := tr_30 _ (List.mem_of_getElem? (i := 12) rfl)
theorem tw_709 : (Cond.methodLink RX5 72 yX5_isCome : Cond) ∈ wsL_law := tr_30 _ (List.mem_of_getElem? (i := 13) rfl)
theorem tw_710 : (Cond.instanceMethod yX5_isCome : Cond) ∈ wsL_law := tr_30 _ (List.mem_of_getElem? (i := 14) rfl)
theorem tw_711 : (Cond.selects RX5 yX5_isCome yX5_isCome : Cond) ∈ wsL_law := tr_30 _ (List.mem_of_getElem? (i := 15) rfl)
theorem tw_712 : (Cond.code yX5_isCome cX5_isCome 4 (some .boolean) : Cond) ∈ wsL_law := tr_30 _ (List.mem_of_getElem? (i := 16) rfl)
theorem tw_713 : (Cond.methodLink RX5 76 yX2_placeAfter : Cond) ∈ wsL_law := tr_30 _ (List.mem_of_getElem? (i := 17) rfl)
theorem tw_714 : (Cond.methodLink RL 97 yX10_when : Cond) ∈ wsL_law := tr_30 _ (List.mem_of_getElem? (i := 18) rfl)
theorem tw_715 : (Cond.instanceMethod yX10_when : Cond) ∈ wsL_law := tr_30 _ (List.mem_of_getElem? (i := 19) rfl)
theorem tw_716 : (Cond.selects RX10 yX10_when yX10_when : Cond) ∈ wsL_law := tr_30 _ (List.mem_of_getElem? (i := 20) rfl)
theorem tw_717 : (Cond.code yX10_when cX10_when 4 (some .int) : Cond) ∈ wsL_law := tr_30 _ (List.mem_of_getElem? (i := 21) rfl)
theorem tw_718 : (Cond.constant RX10 216 (-1000000) : Cond) ∈ wsL_law := tr_30 _ (List.mem_of_getElem? (i := 22) rfl)
theorem tw_719 : (Cond.methodLink RX10 212 yX10_isSo : Cond) ∈ wsL_law := tr_30 _ (List.mem_of_getElem? (i := 23) rfl)
theorem tw_720 : (Cond.instanceMethod yX10_isSo : Cond) ∈ wsL_law := tr_31 _ (List.mem_of_getElem? (i := 0) rfl)
theorem tw_721 : (Cond.selects RX10 yX10_isSo yX10_isSo : Cond) ∈ wsL_law := tr_31 _ (List.mem_of_getElem? (i := 1) rfl)
theorem tw_722 : (Cond.code yX10_isSo cX10_isSo 4 (some .boolean) : Cond) ∈ wsL_law := tr_31 _ (List.mem_of_getElem? (i := 2) rfl)
theorem tw_723 : (Cond.methodLink RL 98 yX9_front : Cond) ∈ wsL_law := tr_31 _ (List.mem_of_getElem? (i := 3) rfl)
theorem tw_724 : (Cond.instanceMethod yX9_front : Cond) ∈ wsL_law := tr_31 _ (List.mem_of_getElem? (i := 4) rfl)
theorem tw_725 : (Cond.selects RX9 yX9_front yX9_front : Cond) ∈ wsL_law := tr_31 _ (List.mem_of_getElem? (i := 5) rfl)
theorem tw_726 : (Cond.code yX9_front cX9_front 2 (some .int) : Cond) ∈ wsL_law := tr_31 _ (List.mem_of_getElem? (i := 6) rfl)
theorem tw_727 : (Cond.methodLink RX9 236 yX5_frontBehind : Cond) ∈ wsL_law := tr_31 _ (List.mem_of_getElem? (i := 7) rfl)
theorem tw_728 : (Cond.instanceMethod yX5_frontBehind : Cond) ∈ wsL_law := tr_31 _ (List.mem_of_getElem? (i := 8) rfl)
theorem tw_729 : (Cond.selects RX5 yX5_frontBehind yX5_frontBehind : Cond) ∈ wsL_law := tr_31 _ (List.mem_of_getElem? (i := 9) rfl)
theorem tw_730 : (Cond.code yX5_frontBehind cX5_frontBehind 4 (some .int) : Cond) ∈ wsL_law := tr_31 _ (List.mem_of_getElem? (i := 10) rfl)
theorem tw_731 : (Cond.fieldLink RX5 68 "LavaLodger$Village" "rooms" "I" : Cond) ∈ wsL_law := tr_31 _ (List.mem_of_getElem? (i := 11) rfl)
theorem tw_732 : (Cond.methodLink RL 101 yX10_front : Cond) ∈ wsL_law := tr_31 _ (List.mem_of_getElem? (i := 12) rfl)
theorem tw_733 : (Cond.instanceMethod yX10_front : Cond) ∈ wsL_law := tr_31 _ (List.mem_of_getElem? (i := 13) rfl)
theorem tw_734 : (Cond.selects RX10 yX10_front yX10_front : Cond) ∈ wsL_law := tr_31 _ (List.mem_of_getElem? (i := 14) rfl)
theorem tw_735 : (Cond.code yX10_front cX10_front 4 (some .int) : Cond) ∈ wsL_law := tr_31 _ (List.mem_of_getElem? (i := 15) rfl)
theorem tw_736 : (Cond.methodLink RL 102 yX9_carries : Cond) ∈ wsL_law := tr_31 _ (List.mem_of_getElem? (i := 16) rfl)
theorem tw_737 : (Cond.instanceMethod yX9_carries : Cond) ∈ wsL_law := tr_31 _ (List.mem_of_getElem? (i := 17) rfl)
theorem tw_738 : (Cond.selects RX9 yX9_carries yX9_carries : Cond) ∈ wsL_law := tr_31 _ (List.mem_of_getElem? (i := 18) rfl)
theorem tw_739 : (Cond.code yX9_carries cX9_carries 4 (some .int) : Cond) ∈ wsL_law := tr_31 _ (List.mem_of_getElem? (i := 19) rfl)
theorem tw_740 : (Cond.fieldLink RX9 243 "LavaLodger$Carrier" "fewest" "I" : Cond) ∈ wsL_law := tr_31 _ (List.mem_of_getElem? (i := 20) rfl)
theorem tw_741 : (Cond.methodLink RX9 239 yX1_search : Cond) ∈ wsL_law := tr_31 _ (List.mem_of_getElem? (i := 21) rfl)
theorem tw_742 : (Cond.instanceMethod yX1_search : Cond) ∈ wsL_law := tr_31 _ (List.mem_of_getElem? (i := 22) rfl)
theorem tw_743 : (Cond.selects RX1 yX1_search yX1_search : Cond) ∈ wsL_law := tr_31 _ (List.mem_of_getElem? (i := 23) rfl)
theorem tw_744 : (Cond.code yX1_search cX1_search 4 none : Cond) ∈ wsL_law := tr_32 _ (List.mem_of_getElem? (i := 0) rfl)
theorem tw_745 : (Cond.fieldLink RX1 44 "LavaLodger$Village" "things" "I" : Cond) ∈ wsL_law := tr_32 _ (List.mem_of_getElem? (i := 1) rfl)
theorem tw_746 : (Cond.methodLink RX1 47 Lib.Math.min.name : Cond) ∈ wsL_law := tr_32 _ (List.mem_of_getElem? (i := 2) rfl)
theorem tw_747 : (Cond.methodLink RX1 53 yX2_tell : Cond) ∈ wsL_law := tr_32 _ (List.mem_of_getElem? (i := 3) rfl)
theorem tw_748 : (Cond.methodLink RX1 57 yX1_followAll : Cond) ∈ wsL_law := tr_32 _ (List.mem_of_getElem? (i := 4) rfl)
theorem tw_749 : (Cond.instanceMethod yX1_followAll : Cond) ∈ wsL_law := tr_32 _ (List.mem_of_getElem? (i := 5) rfl)
theorem tw_750 : (Cond.selects RX1 yX1_followAll yX1_followAll : Cond) ∈ wsL_law := tr_32 _ (List.mem_of_getElem? (i := 6) rfl)
theorem tw_751 : (Cond.code yX1_followAll cX1_followAll 5 none : Cond) ∈ wsL_law := tr_32 _ (List.mem_of_getElem? (i := 7) rfl)
theorem tw_752 : (Cond.methodLink RX1 64 yX1_placeBehind : Cond) ∈ wsL_law := tr_32 _ (List.mem_of_getElem? (i := 8) rfl)
theorem tw_753 : (Cond.instanceMethod yX1_placeBehind : Cond) ∈ wsL_law := tr_32 _ (List.mem_of_getElem? (i := 9) rfl)
theorem tw_754 : (Cond.selects RX1 yX1_placeBehind yX1_placeBehind : Cond) ∈ wsL_law := tr_32 _ (List.mem_of_getElem? (i := 10) rfl)
theorem tw_755 : (Cond.code yX1_placeBehind cX1_placeBehind 7 (some .int) : Cond) ∈ wsL_law := tr_32 _ (List.mem_of_getElem? (i := 11) rfl)
theorem tw_756 : (Cond.fieldLink RX1 68 "LavaLodger$Village" "where" "[I" : Cond) ∈ wsL_law := tr_32 _ (List.mem_of_getElem? (i := 12) rfl)
theorem tw_757 : (Cond.methodLink RX1 71 yX8_carried : Cond) ∈ wsL_law := tr_32 _ (List.mem_of_getElem? (i := 13) rfl)
theorem tw_758 : (Cond.methodLink RX1 75 yX2_placeAfter : Cond) ∈ wsL_law := tr_32 _ (List.mem_of_getElem? (i := 14) rfl)
theorem tw_759 : (Cond.methodLink RX1 60 yX1_tryFrom : Cond) ∈ wsL_law := tr_32 _ (List.mem_of_getElem? (i := 15) rfl)
theorem tw_760 : (Cond.instanceMethod yX1_tryFrom : Cond) ∈ wsL_law := tr_32 _ (List.mem_of_getElem? (i := 16) rfl)
theorem tw_761 : (Cond.selects RX1 yX1_tryFrom yX1_tryFrom : Cond) ∈ wsL_law := tr_32 _ (List.mem_of_getElem? (i := 17) rfl)
theorem tw_762 : (Cond.code yX1_tryFrom cX1_tryFrom 3 none : Cond) ∈ wsL_law := tr_32 _ (List.mem_of_getElem? (i := 18) rfl)
theorem tw_763 : (Cond.methodLink RX1 78 yX1_weigh : Cond) ∈ wsL_law := tr_32 _ (List.mem_of_getElem? (i := 19) rfl)
theorem tw_764 : (Cond.instanceMethod yX1_weigh : Cond) ∈ wsL_law := tr_32 _ (List.mem_of_getElem? (i := 20) rfl)
theorem tw_765 : (Cond.selects RX1 yX1_weigh yX1_weigh : Cond) ∈ wsL_law := tr_32 _ (List.mem_of_getElem? (i := 21) rfl)
theorem tw_766 : (Cond.code yX1_weigh cX1_weigh 3 none : Cond) ∈ wsL_law := tr_32 _ (List.mem_of_getElem? (i := 22) rfl)
theorem tw_767 : (Cond.methodLink RX1 81 arraycopyName : Cond) ∈ wsL_law := tr_32 _ (List.mem_of_getElem? (i := 23) rfl)
theorem tw_768 : (Cond.methodLink RX9 246 yX1_choiceAt : Cond) ∈ wsL_law := tr_33 _ (List.mem_of_getElem? (i := 0) rfl)
theorem tw_769 : (Cond.instanceMethod yX1_choiceAt : Cond) ∈ wsL_law := tr_33 _ (List.mem_of_getElem? (i := 1) rfl)
theorem tw_770 : (Cond.selects RX1 yX1_choiceAt yX1_choiceAt : Cond) ∈ wsL_law := tr_33 _ (List.mem_of_getElem? (i := 2) rfl)
theorem tw_771 : (Cond.code yX1_choiceAt cX1_choiceAt 2 (some .int) : Cond) ∈ wsL_law := tr_33 _ (List.mem_of_getElem? (i := 3) rfl)
theorem tw_772 : (Cond.constant RX1 63 (-1000000) : Cond) ∈ wsL_law := tr_33 _ (List.mem_of_getElem? (i := 4) rfl)
theorem tw_773 : (Cond.methodLink RL 105 yX10_carries : Cond) ∈ wsL_law := tr_33 _ (List.mem_of_getElem? (i := 5) rfl)
theorem tw_774 : (Cond.instanceMethod yX10_carries : Cond) ∈ wsL_law := tr_33 _ (List.mem_of_getElem? (i := 6) rfl)
theorem tw_775 : (Cond.selects RX10 yX10_carries yX10_carries : Cond) ∈ wsL_law := tr_33 _ (List.mem_of_getElem? (i := 7) rfl)
theorem tw_776 : (Cond.code yX10_carries cX10_carries 9 (some .int) : Cond) ∈ wsL_law := tr_33 _ (List.mem_of_getElem? (i := 8) rfl)
theorem tw_777 : (Cond.constantLong RX10 224 (4) : Cond) ∈ wsL_law := tr_33 _ (List.mem_of_getElem? (i := 9) rfl)
theorem tw_778 : (Cond.methodLink RX10 217 yX10_power : Cond) ∈ wsL_law := tr_33 _ (List.mem_of_getElem? (i := 10) rfl)
theorem tw_779 : (Cond.static yX10_power : Cond) ∈ wsL_law := tr_33 _ (List.mem_of_getElem? (i := 11) rfl)
theorem tw_780 : (Cond.code yX10_power cX10_power 4 (some .int) : Cond) ∈ wsL_law := tr_33 _ (List.mem_of_getElem? (i := 12) rfl)
theorem tw_781 : (Cond.methodLink RX10 226 yX10_keeps : Cond) ∈ wsL_law := tr_33 _ (List.mem_of_getElem? (i := 13) rfl)
theorem tw_782 : (Cond.instanceMethod yX10_keeps : Cond) ∈ wsL_law := tr_33 _ (List.mem_of_getElem? (i := 14) rfl)
theorem tw_783 : (Cond.selects RX10 yX10_keeps yX10_keeps : Cond) ∈ wsL_law := tr_33 _ (List.mem_of_getElem? (i := 15) rfl)
theorem tw_784 : (Cond.code yX10_keeps cX10_keeps 7 (some .int) : Cond) ∈ wsL_law := tr_33 _ (List.mem_of_getElem? (i := 16) rfl)
theorem tw_785 : (Cond.methodLink RX10 220 yX10_stones : Cond) ∈ wsL_law := tr_33 _ (List.mem_of_getElem? (i := 17) rfl)
theorem tw_786 : (Cond.static yX10_stones : Cond) ∈ wsL_law := tr_33 _ (List.mem_of_getElem? (i := 18) rfl)
theorem tw_787 : (Cond.code yX10_stones cX10_stones 1 (some .int) : Cond) ∈ wsL_law := tr_33 _ (List.mem_of_getElem? (i := 19) rfl)
theorem tw_788 : (Cond.methodLink RX10 171 yX10_bits : Cond) ∈ wsL_law := tr_33 _ (List.mem_of_getElem? (i := 20) rfl)
theorem tw_789 : (Cond.static yX10_bits : Cond) ∈ wsL_law := tr_33 _ (List.mem_of_getElem? (i := 21) rfl)
theorem tw_790 : (Cond.code yX10_bits cX10_bits 3 (some .int) : Cond) ∈ wsL_law := tr_33 _ (List.mem_of_getElem? (i := 22) rfl)
theorem tw_791 : (Cond.methodLink RL 106 yX9_dam : Cond) ∈ wsL_law := tr_33 _ (List.mem_of_getElem? (i := 23) rfl)
theorem tw_792 : (Cond.instanceMethod yX9_dam : Cond) ∈ wsL_law := tr_34 _ (List.mem_of_getElem? (i := 0) rfl)
theorem tw_793 : (Cond.selects RX9 yX9_dam yX9_dam : Cond) ∈ wsL_law := tr_34 _ (List.mem_of_getElem? (i := 1) rfl)
theorem tw_794 : (Cond.code yX9_dam cX9_dam 5 (some .int) : Cond) ∈ wsL_law := tr_34 _ (List.mem_of_getElem? (i := 2) rfl)
theorem tw_795 : (Cond.methodLink RX9 249 yX5_bestDam : Cond) ∈ wsL_law := tr_34 _ (List.mem_of_getElem? (i := 3) rfl)
theorem tw_796 : (Cond.instanceMethod yX5_bestDam : Cond) ∈ wsL_law := tr_34 _ (List.mem_of_getElem? (i := 4) rfl)
theorem tw_797 : (Cond.selects RX5 yX5_bestDam yX5_bestDam : Cond) ∈ wsL_law := tr_34 _ (List.mem_of_getElem? (i := 5) rfl)
theorem tw_798 : (Cond.code yX5_bestDam cX5_bestDam 8 (some .int) : Cond) ∈ wsL_law := tr_34 _ (List.mem_of_getElem? (i := 6) rfl)
theorem tw_799 : (Cond.methodLink RX5 87 yX5_stonesWithDam : Cond) ∈ wsL_law := tr_34 _ (List.mem_of_getElem? (i := 7) rfl)
theorem tw_800 : (Cond.instanceMethod yX5_stonesWithDam : Cond) ∈ wsL_law := tr_34 _ (List.mem_of_getElem? (i := 8) rfl)
theorem tw_801 : (Cond.selects RX5 yX5_stonesWithDam yX5_stonesWithDam : Cond) ∈ wsL_law := tr_34 _ (List.mem_of_getElem? (i := 9) rfl)
theorem tw_802 : (Cond.code yX5_stonesWithDam cX5_stonesWithDam 5 (some .int) : Cond) ∈ wsL_law := tr_34 _ (List.mem_of_getElem? (i := 10) rfl)
theorem tw_803 : (Cond.fieldLink RX5 79 "LavaLodger$Village" "wall" "[I" : Cond) ∈ wsL_law := tr_34 _ (List.mem_of_getElem? (i := 11) rfl)
theorem tw_804 : (Cond.methodLink RX5 82 yJ6_bitCount_0f7a4 : Cond) ∈ wsL_law := tr_34 _ (List.mem_of_getElem? (i := 12) rfl)
theorem tw_805 : (Cond.static yJ6_bitCount_0f7a4 : Cond) ∈ wsL_law := tr_34 _ (List.mem_of_getElem? (i := 13) rfl)
theorem tw_806 : (Cond.initialized RJ6 : Cond) ∈ wsL_law := tr_34 _ (List.mem_of_getElem? (i := 14) rfl)
theorem tw_807 : (Cond.code yJ6_bitCount_0f7a4 cJ6_bitCount_0f7a4 1 (some .int) : Cond) ∈ wsL_law := tr_34 _ (List.mem_of_getElem? (i := 15) rfl)
theorem tw_808 : (Cond.constant RJ6 265 (1431655765) : Cond) ∈ wsL_law := tr_34 _ (List.mem_of_getElem? (i := 16) rfl)
theorem tw_809 : (Cond.constant RJ6 266 (858993459) : Cond) ∈ wsL_law := tr_34 _ (List.mem_of_getElem? (i := 17) rfl)
theorem tw_810 : (Cond.constant RJ6 267 (252645135) : Cond) ∈ wsL_law := tr_34 _ (List.mem_of_getElem? (i := 18) rfl)
theorem tw_811 : (Cond.methodLink RX9 252 yX5_stonesWithDam : Cond) ∈ wsL_law := tr_34 _ (List.mem_of_getElem? (i := 19) rfl)
theorem tw_812 : (Cond.methodLink RL 109 yX10_dam : Cond) ∈ wsL_law := tr_34 _ (List.mem_of_getElem? (i := 20) rfl)
theorem tw_813 : (Cond.instanceMethod yX10_dam : Cond) ∈ wsL_law := tr_34 _ (List.mem_of_getElem? (i := 21) rfl)
theorem tw_814 : (Cond.selects RX10 yX10_dam yX10_dam : Cond) ∈ wsL_law := tr_34 _ (List.mem_of_getElem? (i := 22) rfl)
theorem tw_815 : (Cond.code yX10_dam cX10_dam 8 (some .int) : Cond) ∈ wsL_law := tr_34 _ (List.mem_of_getElem? (i := 23) rfl)
theorem tw_816 : (Cond.constantLong RX10 230 (40) : Cond) ∈ wsL_law := tr_35 _ (List.mem_of_getElem? (i := 0) rfl)
theorem tw_817 : (Cond.methodLink RL 110 yX9_hold : Cond) ∈ wsL_law := tr_35 _ (List.mem_of_getElem? (i := 1) rfl)
theorem tw_818 : (Cond.instanceMethod yX9_hold : Cond) ∈ wsL_law := tr_35 _ (List.mem_of_getElem? (i := 2) rfl)
theorem tw_819 : (Cond.selects RX9 yX9_hold yX9_hold : Cond) ∈ wsL_law := tr_35 _ (List.mem_of_getElem? (i := 3) rfl)
theorem tw_820 : (Cond.code yX9_hold cX9_hold 4 (some .int) : Cond) ∈ wsL_law := tr_35 _ (List.mem_of_getElem? (i := 4) rfl)
theorem tw_821 : (Cond.methodLink RX9 256 yX5_leastWall : Cond) ∈ wsL_law := tr_35 _ (List.mem_of_getElem? (i := 5) rfl)
theorem tw_822 : (Cond.instanceMethod yX5_leastWall : Cond) ∈ wsL_law := tr_35 _ (List.mem_of_getElem? (i := 6) rfl)
theorem tw_823 : (Cond.selects RX5 yX5_leastWall yX5_leastWall : Cond) ∈ wsL_law := tr_35 _ (List.mem_of_getElem? (i := 7) rfl)
theorem tw_824 : (Cond.code yX5_leastWall cX5_leastWall 6 (some .int) : Cond) ∈ wsL_law := tr_35 _ (List.mem_of_getElem? (i := 8) rfl)
theorem tw_825 : (Cond.methodLink RL 113 yX10_hold : Cond) ∈ wsL_law := tr_35 _ (List.mem_of_getElem? (i := 9) rfl)
theorem tw_826 : (Cond.instanceMethod yX10_hold : Cond) ∈ wsL_law := tr_35 _ (List.mem_of_getElem? (i := 10) rfl)
theorem tw_827 : (Cond.selects RX10 yX10_hold yX10_hold : Cond) ∈ wsL_law := tr_35 _ (List.mem_of_getElem? (i := 11) rfl)
theorem tw_828 : (Cond.code yX10_hold cX10_hold 5 (some .int) : Cond) ∈ wsL_law := tr_35 _ (List.mem_of_getElem? (i := 12) rfl)
theorem tw_829 : (Cond.methodLink RL 114 yX9_spare : Cond) ∈ wsL_law := tr_35 _ (List.mem_of_getElem? (i := 13) rfl)
theorem tw_830 : (Cond.instanceMethod yX9_spare : Cond) ∈ wsL_law := tr_35 _ (List.mem_of_getElem? (i := 14) rfl)
theorem tw_831 : (Cond.selects RX9 yX9_spare yX9_spare : Cond) ∈ wsL_law := tr_35 _ (List.mem_of_getElem? (i := 15) rfl)
theorem tw_832 : (Cond.code yX9_spare cX9_spare 2 (some .int) : Cond) ∈ wsL_law := tr_35 _ (List.mem_of_getElem? (i := 16) rfl)
theorem tw_833 : (Cond.methodLink RX9 259 yX5_mostFeed : Cond) ∈ wsL_law := tr_35 _ (List.mem_of_getElem? (i := 17) rfl)
theorem tw_834 : (Cond.instanceMethod yX5_mostFeed : Cond) ∈ wsL_law := tr_35 _ (List.mem_of_getElem? (i := 18) rfl)
theorem tw_835 : (Cond.selects RX5 yX5_mostFeed yX5_mostFeed : Cond) ∈ wsL_law := tr_35 _ (List.mem_of_getElem? (i := 19) rfl)
theorem tw_836 : (Cond.code yX5_mostFeed cX5_mostFeed 4 (some .int) : Cond) ∈ wsL_law := tr_35 _ (List.mem_of_getElem? (i := 20) rfl)
theorem tw_837 : (Cond.fieldLink RX5 90 "LavaLodger$Village" "feed" "I" : Cond) ∈ wsL_law := tr_35 _ (List.mem_of_getElem? (i := 21) rfl)
theorem tw_838 : (Cond.methodLink RL 117 yX10_spare : Cond) ∈ wsL_law := tr_35 _ (List.mem_of_getElem? (i := 22) rfl)
theorem tw_839 : (Cond.instanceMethod yX10_spare : Cond) ∈ wsL_law := tr_35 _ (List.mem_of_getElem? (i := 23) rfl)
theorem tw_840 : (Cond.selects RX10 yX10_spare yX10_spare : Cond) ∈ wsL_law := tr_36 _ (List.mem_of_getElem? (i := 0) rfl)
theorem tw_841 : (Cond.code yX10_spare cX10_spare 3 (some .int) : Cond) ∈ wsL_law := tr_36 _ (List.mem_of_getElem? (i := 1) rfl)
theorem tw_842 : (Cond.methodLink RL 118 yX9_sets : Cond) ∈ wsL_law := tr_36 _ (List.mem_of_getElem? (i := 2) rfl)
theorem tw_843 : (Cond.instanceMethod yX9_sets : Cond) ∈ wsL_law := tr_36 _ (List.mem_of_getElem? (i := 3) rfl)
theorem tw_844 : (Cond.selects RX9 yX9_sets yX9_sets : Cond) ∈ wsL_law := tr_36 _ (List.mem_of_getElem? (i := 4) rfl)
theorem tw_845 : (Cond.code yX9_sets cX9_sets 3 (some .int) : Cond) ∈ wsL_law := tr_36 _ (List.mem_of_getElem? (i := 5) rfl)
theorem tw_846 : (Cond.methodLink RX9 262 yX5_setsSoHigh : Cond) ∈ wsL_law := tr_36 _ (List.mem_of_getElem? (i := 6) rfl)
theorem tw_847 : (Cond.instanceMethod yX5_setsSoHigh : Cond) ∈ wsL_law := tr_36 _ (List.mem_of_getElem? (i := 7) rfl)
theorem tw_848 : (Cond.selects RX5 yX5_setsSoHigh yX5_setsSoHigh : Cond) ∈ wsL_law := tr_36 _ (List.mem_of_getElem? (i := 8) rfl)
theorem tw_849 : (Cond.code yX5_setsSoHigh cX5_setsSoHigh 9 (some .int) : Cond) ∈ wsL_law := tr_36 _ (List.mem_of_getElem? (i := 9) rfl)
theorem tw_850 : (Cond.fieldLink RX5 96 "LavaLodger$Village" "things" "I" : Cond) ∈ wsL_law := tr_36 _ (List.mem_of_getElem? (i := 10) rfl)
theorem tw_851 : (Cond.methodLink RX5 93 yX8_standing : Cond) ∈ wsL_law := tr_36 _ (List.mem_of_getElem? (i := 11) rfl)
theorem tw_852 : (Cond.methodLink RX5 99 yX5_highOfAll : Cond) ∈ wsL_law := tr_36 _ (List.mem_of_getElem? (i := 12) rfl)
theorem tw_853 : (Cond.static yX5_highOfAll : Cond) ∈ wsL_law := tr_36 _ (List.mem_of_getElem? (i := 13) rfl)
theorem tw_854 : (Cond.code yX5_highOfAll cX5_highOfAll 4 (some .int) : Cond) ∈ wsL_law := tr_36 _ (List.mem_of_getElem? (i := 14) rfl)
theorem tw_855 : (Cond.fieldLink RX5 103 "LavaLodger$Village" "high" "[I" : Cond) ∈ wsL_law := tr_36 _ (List.mem_of_getElem? (i := 15) rfl)
theorem tw_856 : (Cond.methodLink RL 121 yX10_sets : Cond) ∈ wsL_law := tr_36 _ (List.mem_of_getElem? (i := 16) rfl)
theorem tw_857 : (Cond.instanceMethod yX10_sets : Cond) ∈ wsL_law := tr_36 _ (List.mem_of_getElem? (i := 17) rfl)
theorem tw_858 : (Cond.selects RX10 yX10_sets yX10_sets : Cond) ∈ wsL_law := tr_36 _ (List.mem_of_getElem? (i := 18) rfl)
theorem tw_859 : (Cond.code yX10_sets cX10_sets 8 (some .int) : Cond) ∈ wsL_law := tr_36 _ (List.mem_of_getElem? (i := 19) rfl)
theorem tw_860 : (Cond.constantLong RX10 235 (54) : Cond) ∈ wsL_law := tr_36 _ (List.mem_of_getElem? (i := 20) rfl)
theorem tw_861 : (Cond.methodLink RX10 237 yX10_highOf : Cond) ∈ wsL_law := tr_36 _ (List.mem_of_getElem? (i := 21) rfl)
theorem tw_862 : (Cond.instanceMethod yX10_highOf : Cond) ∈ wsL_law := tr_36 _ (List.mem_of_getElem? (i := 22) rfl)
theorem tw_863 : (Cond.selects RX10 yX10_highOf yX10_highOf : Cond) ∈ wsL_law := tr_36 _ (List.mem_of_getElem? (i := 23) rfl)
theorem tw_864 : (Cond.code yX10_highOf cX10_highOf 4 (some .int) : Cond) ∈ wsL_law := tr_37 _ (List.mem_of_getElem? (i := 0) rfl)
theorem tw_865 : (Cond.methodLink RX10 232 yX10_has : Cond) ∈ wsL_law := tr_37 _ (List.mem_of_getElem? (i := 1) rfl)
theorem tw_866 : (Cond.static yX10_has : Cond) ∈ wsL_law := tr_37 _ (List.mem_of_getElem? (i := 2) rfl)
theorem tw_867 : (Cond.code yX10_has cX10_has 2 (some .boolean) : Cond) ∈ wsL_law := tr_37 _ (List.mem_of_getElem? (i := 3) rfl)
theorem tw_868 : (Cond.methodLink RL 122 yX9_share : Cond) ∈ wsL_law := tr_37 _ (List.mem_of_getElem? (i := 4) rfl)
theorem tw_869 : (Cond.instanceMethod yX9_share : Cond) ∈ wsL_law := tr_37 _ (List.mem_of_getElem? (i := 5) rfl)
theorem tw_870 : (Cond.selects RX9 yX9_share yX9_share : Cond) ∈ wsL_law := tr_37 _ (List.mem_of_getElem? (i := 6) rfl)
theorem tw_871 : (Cond.code yX9_share cX9_share 3 (some .int) : Cond) ∈ wsL_law := tr_37 _ (List.mem_of_getElem? (i := 7) rfl)
theorem tw_872 : (Cond.methodLink RX9 265 yX5_partOf : Cond) ∈ wsL_law := tr_37 _ (List.mem_of_getElem? (i := 8) rfl)
theorem tw_873 : (Cond.instanceMethod yX5_partOf : Cond) ∈ wsL_law := tr_37 _ (List.mem_of_getElem? (i := 9) rfl)
theorem tw_874 : (Cond.selects RX5 yX5_partOf yX5_partOf : Cond) ∈ wsL_law := tr_37 _ (List.mem_of_getElem? (i := 10) rfl)
theorem tw_875 : (Cond.code yX5_partOf cX5_partOf 9 (some .int) : Cond) ∈ wsL_law := tr_37 _ (List.mem_of_getElem? (i := 11) rfl)
theorem tw_876 : (Cond.methodLink RL 125 yX10_share : Cond) ∈ wsL_law := tr_37 _ (List.mem_of_getElem? (i := 12) rfl)
theorem tw_877 : (Cond.instanceMethod yX10_share : Cond) ∈ wsL_law := tr_37 _ (List.mem_of_getElem? (i := 13) rfl)
theorem tw_878 : (Cond.selects RX10 yX10_share yX10_share : Cond) ∈ wsL_law := tr_37 _ (List.mem_of_getElem? (i := 14) rfl)
theorem tw_879 : (Cond.code yX10_share cX10_share 8 (some .int) : Cond) ∈ wsL_law := tr_37 _ (List.mem_of_getElem? (i := 15) rfl)
theorem tw_880 : (Cond.constantLong RX10 240 (999) : Cond) ∈ wsL_law := tr_37 _ (List.mem_of_getElem? (i := 16) rfl)
theorem tw_881 : (Cond.methodLink RL 126 yX9_byTurns : Cond) ∈ wsL_law := tr_37 _ (List.mem_of_getElem? (i := 17) rfl)
theorem tw_882 : (Cond.instanceMethod yX9_byTurns : Cond) ∈ wsL_law := tr_37 _ (List.mem_of_getElem? (i := 18) rfl)
theorem tw_883 : (Cond.selects RX9 yX9_byTurns yX9_byTurns : Cond) ∈ wsL_law := tr_37 _ (List.mem_of_getElem? (i := 19) rfl)
theorem tw_884 : (Cond.code yX9_byTurns cX9_byTurns 3 (some .int) : Cond) ∈ wsL_law := tr_37 _ (List.mem_of_getElem? (i := 20) rfl)
theorem tw_885 : (Cond.methodLink RX9 268 yX7_play : Cond) ∈ wsL_law := tr_37 _ (List.mem_of_getElem? (i := 21) rfl)
theorem tw_886 : (Cond.instanceMethod yX7_play : Cond) ∈ wsL_law := tr_37 _ (List.mem_of_getElem? (i := 22) rfl)
theorem tw_887 : (Cond.selects RX7 yX7_play yX7_play : Cond) ∈ wsL_law := tr_37 _ (List.mem_of_getElem? (i := 23) rfl)
theorem tw_888 : (Cond.code yX7_play cX7_play 5 (some .int) : Cond) ∈ wsL_law := tr_38 _ (List.mem_of_getElem? (i := 0) rfl)
theorem tw_889 : (Cond.fieldLink RX7 42 "LavaLodger$Village" "things" "I" : Cond) ∈ wsL_law := tr_38 _ (List.mem_of_getElem? (i := 1) rfl)
theorem tw_890 : (Cond.fieldLink RX7 47 "LavaLodger$Village" "feed" "I" : Cond) ∈ wsL_law := tr_38 _ (List.mem_of_getElem? (i := 2) rfl)
theorem tw_891 : (Cond.methodLink RX7 50 Lib.Math.min.name : Cond) ∈ wsL_law := tr_38 _ (List.mem_of_getElem? (i := 3) rfl)
theorem tw_892 : (Cond.methodLink RX7 43 yX8_become : Cond) ∈ wsL_law := tr_38 _ (List.mem_of_getElem? (i := 4) rfl)
theorem tw_893 : (Cond.methodLink RX7 56 yX2_tell : Cond) ∈ wsL_law := tr_38 _ (List.mem_of_getElem? (i := 5) rfl)
theorem tw_894 : (Cond.methodLink RX7 60 yX7_followAll : Cond) ∈ wsL_law := tr_38 _ (List.mem_of_getElem? (i := 6) rfl)
theorem tw_895 : (Cond.instanceMethod yX7_followAll : Cond) ∈ wsL_law := tr_38 _ (List.mem_of_getElem? (i := 7) rfl)
theorem tw_896 : (Cond.selects RX7 yX7_followAll yX7_followAll : Cond) ∈ wsL_law := tr_38 _ (List.mem_of_getElem? (i := 8) rfl)
theorem tw_897 : (Cond.code yX7_followAll cX7_followAll 6 none : Cond) ∈ wsL_law := tr_38 _ (List.mem_of_getElem? (i := 9) rfl)
theorem tw_898 : (Cond.fieldLink RX7 67 "LavaLodger$Village" "where" "[I" : Cond) ∈ wsL_law := tr_38 _ (List.mem_of_getElem? (i := 10) rfl)
theorem tw_899 : (Cond.methodLink RX7 70 yX7_cell : Cond) ∈ wsL_law := tr_38 _ (List.mem_of_getElem? (i := 11) rfl)
theorem tw_900 : (Cond.static yX7_cell : Cond) ∈ wsL_law := tr_38 _ (List.mem_of_getElem? (i := 12) rfl)
theorem tw_901 : (Cond.code yX7_cell cX7_cell 3 (some .int) : Cond) ∈ wsL_law := tr_38 _ (List.mem_of_getElem? (i := 13) rfl)
theorem tw_902 : (Cond.methodLink RX7 74 yX2_placeBehind : Cond) ∈ wsL_law := tr_38 _ (List.mem_of_getElem? (i := 14) rfl)
theorem tw_903 : (Cond.methodLink RX7 78 yX8_carried : Cond) ∈ wsL_law := tr_38 _ (List.mem_of_getElem? (i := 15) rfl)
theorem tw_904 : (Cond.methodLink RX7 64 yX7_outcome : Cond) ∈ wsL_law := tr_38 _ (List.mem_of_getElem? (i := 16) rfl)
theorem tw_905 : (Cond.instanceMethod yX7_outcome : Cond) ∈ wsL_law := tr_38 _ (List.mem_of_getElem? (i := 17) rfl)
theorem tw_906 : (Cond.selects RX7 yX7_outcome yX7_outcome : Cond) ∈ wsL_law := tr_38 _ (List.mem_of_getElem? (i := 18) rfl)
theorem tw_907 : (Cond.code yX7_outcome cX7_outcome 3 (some .int) : Cond) ∈ wsL_law := tr_38 _ (List.mem_of_getElem? (i := 19) rfl)
theorem tw_908 : (Cond.methodLink RX7 82 yX7_stonesNow : Cond) ∈ wsL_law := tr_38 _ (List.mem_of_getElem? (i := 20) rfl)
theorem tw_909 : (Cond.instanceMethod yX7_stonesNow : Cond) ∈ wsL_law := tr_38 _ (List.mem_of_getElem? (i := 21) rfl)
theorem tw_910 : (Cond.selects RX7 yX7_stonesNow yX7_stonesNow : Cond) ∈ wsL_law := tr_38 _ (List.mem_of_getElem? (i := 22) rfl)
theorem tw_911 : (Cond.code yX7_stonesNow cX7_stonesNow 3 (some .int) : Cond) ∈ wsL_law := tr_38 _ (List.mem_of_getElem? (i := 23) rfl)
theorem tw_912 : (Cond.methodLink RX7 86 yX7_auntTurn : Cond) ∈ wsL_law := tr_39 _ (List.mem_of_getElem? (i := 0) rfl)
theorem tw_913 : (Cond.instanceMethod yX7_auntTurn : Cond) ∈ wsL_law := tr_39 _ (List.mem_of_getElem? (i := 1) rfl)
theorem tw_914 : (Cond.selects RX7 yX7_auntTurn yX7_auntTurn : Cond) ∈ wsL_law := tr_39 _ (List.mem_of_getElem? (i := 2) rfl)
theorem tw_915 : (Cond.methodLink RX7 89 yX7_dresserTurn : Cond) ∈ wsL_law := tr_39 _ (List.mem_of_getElem? (i := 3) rfl)
theorem tw_916 : (Cond.instanceMethod yX7_dresserTurn : Cond) ∈ wsL_law := tr_39 _ (List.mem_of_getElem? (i := 4) rfl)
theorem tw_917 : (Cond.selects RX7 yX7_dresserTurn yX7_dresserTurn : Cond) ∈ wsL_law := tr_39 _ (List.mem_of_getElem? (i := 5) rfl)
theorem tw_918 : (Cond.code yX7_auntTurn cX7_auntTurn 5 (some .int) : Cond) ∈ wsL_law := tr_39 _ (List.mem_of_getElem? (i := 6) rfl)
theorem tw_919 : (Cond.code yX7_dresserTurn cX7_dresserTurn 5 (some .int) : Cond) ∈ wsL_law := tr_39 _ (List.mem_of_getElem? (i := 7) rfl)
theorem tw_920 : (Cond.methodLink RX7 92 Lib.Math.max.name : Cond) ∈ wsL_law := tr_39 _ (List.mem_of_getElem? (i := 8) rfl)
theorem tw_921 : (Cond.methodLink RL 129 yX10_byTurns : Cond) ∈ wsL_law := tr_39 _ (List.mem_of_getElem? (i := 9) rfl)
theorem tw_922 : (Cond.instanceMethod yX10_byTurns : Cond) ∈ wsL_law := tr_39 _ (List.mem_of_getElem? (i := 10) rfl)
theorem tw_923 : (Cond.selects RX10 yX10_byTurns yX10_byTurns : Cond) ∈ wsL_law := tr_39 _ (List.mem_of_getElem? (i := 11) rfl)
theorem tw_924 : (Cond.code yX10_byTurns cX10_byTurns 6 (some .int) : Cond) ∈ wsL_law := tr_39 _ (List.mem_of_getElem? (i := 12) rfl)
theorem tw_925 : (Cond.methodLink RX10 242 yX10_endsIn : Cond) ∈ wsL_law := tr_39 _ (List.mem_of_getElem? (i := 13) rfl)
theorem tw_926 : (Cond.instanceMethod yX10_endsIn : Cond) ∈ wsL_law := tr_39 _ (List.mem_of_getElem? (i := 14) rfl)
theorem tw_927 : (Cond.selects RX10 yX10_endsIn yX10_endsIn : Cond) ∈ wsL_law := tr_39 _ (List.mem_of_getElem? (i := 15) rfl)
theorem tw_928 : (Cond.code yX10_endsIn cX10_endsIn 3 (some .int) : Cond) ∈ wsL_law := tr_39 _ (List.mem_of_getElem? (i := 16) rfl)
theorem tw_929 : (Cond.methodLink RX10 245 yX10_chooses : Cond) ∈ wsL_law := tr_39 _ (List.mem_of_getElem? (i := 17) rfl)
theorem tw_930 : (Cond.instanceMethod yX10_chooses : Cond) ∈ wsL_law := tr_39 _ (List.mem_of_getElem? (i := 18) rfl)
theorem tw_931 : (Cond.selects RX10 yX10_chooses yX10_chooses : Cond) ∈ wsL_law := tr_39 _ (List.mem_of_getElem? (i := 19) rfl)
theorem tw_932 : (Cond.code yX10_chooses cX10_chooses 5 (some .boolean) : Cond) ∈ wsL_law := tr_39 _ (List.mem_of_getElem? (i := 20) rfl)
theorem tw_933 : (Cond.methodLink RL 130 yX9_who : Cond) ∈ wsL_law := tr_39 _ (List.mem_of_getElem? (i := 21) rfl)
theorem tw_934 : (Cond.instanceMethod yX9_who : Cond) ∈ wsL_law := tr_39 _ (List.mem_of_getElem? (i := 22) rfl)
theorem tw_935 : (Cond.selects RX9 yX9_who yX9_who : Cond) ∈ wsL_law := tr_39 _ (List.mem_of_getElem? (i := 23) rfl)
theorem tw_936 : (Cond.code yX9_who cX9_who 7 (some .int) : Cond) ∈ wsL_law := tr_40 _ (List.mem_of_getElem? (i := 0) rfl)
theorem tw_937 : (Cond.methodLink RX9 271 yX5_hear : Cond) ∈ wsL_law := tr_40 _ (List.mem_of_getElem? (i := 1) rfl)
theorem tw_938 : (Cond.instanceMethod yX5_hear : Cond) ∈ wsL_law := tr_40 _ (List.mem_of_getElem? (i := 2) rfl)
theorem tw_939 : (Cond.selects RX5 yX5_hear yX5_hear : Cond) ∈ wsL_law := tr_40 _ (List.mem_of_getElem? (i := 3) rfl)
theorem tw_940 : (Cond.code yX5_hear cX5_hear 6 none : Cond) ∈ wsL_law := tr_40 _ (List.mem_of_getElem? (i := 4) rfl)
theorem tw_941 : (Cond.methodLink RX5 106 Lib.Math.min.name : Cond) ∈ wsL_law := tr_40 _ (List.mem_of_getElem? (i := 5) rfl)
theorem tw_942 : (Cond.methodLink RX5 111 yX4_item : Cond) ∈ wsL_law := tr_40 _ (List.mem_of_getElem? (i := 6) rfl)
theorem tw_943 : (Cond.instanceMethod yX4_item : Cond) ∈ wsL_law := tr_40 _ (List.mem_of_getElem? (i := 7) rfl)
theorem tw_944 : (Cond.selects RX4 yX4_item yX4_item : Cond) ∈ wsL_law := tr_40 _ (List.mem_of_getElem? (i := 8) rfl)
theorem tw_945 : (Cond.code yX4_item cX4_item 3 (some .int) : Cond) ∈ wsL_law := tr_40 _ (List.mem_of_getElem? (i := 9) rfl)
theorem tw_946 : (Cond.methodLink RX9 275 yX5_kindsThatFit : Cond) ∈ wsL_law := tr_40 _ (List.mem_of_getElem? (i := 10) rfl)
theorem tw_947 : (Cond.instanceMethod yX5_kindsThatFit : Cond) ∈ wsL_law := tr_40 _ (List.mem_of_getElem? (i := 11) rfl)
theorem tw_948 : (Cond.selects RX5 yX5_kindsThatFit yX5_kindsThatFit : Cond) ∈ wsL_law := tr_40 _ (List.mem_of_getElem? (i := 12) rfl)
theorem tw_949 : (Cond.code yX5_kindsThatFit cX5_kindsThatFit 5 (some .int) : Cond) ∈ wsL_law := tr_40 _ (List.mem_of_getElem? (i := 13) rfl)
theorem tw_950 : (Cond.fieldLink RX5 116 "LavaLodger$Village" "sort" "[I" : Cond) ∈ wsL_law := tr_40 _ (List.mem_of_getElem? (i := 14) rfl)
theorem tw_951 : (Cond.methodLink RX5 119 yX5_goesAsHeard : Cond) ∈ wsL_law := tr_40 _ (List.mem_of_getElem? (i := 15) rfl)
theorem tw_952 : (Cond.instanceMethod yX5_goesAsHeard : Cond) ∈ wsL_law := tr_40 _ (List.mem_of_getElem? (i := 16) rfl)
theorem tw_953 : (Cond.selects RX5 yX5_goesAsHeard yX5_goesAsHeard : Cond) ∈ wsL_law := tr_40 _ (List.mem_of_getElem? (i := 17) rfl)
theorem tw_954 : (Cond.code yX5_goesAsHeard cX5_goesAsHeard 5 (some .boolean) : Cond) ∈ wsL_law := tr_40 _ (List.mem_of_getElem? (i := 18) rfl)
theorem tw_955 : (Cond.methodLink RX9 278 yX5_highsThatFit : Cond) ∈ wsL_law := tr_40 _ (List.mem_of_getElem? (i := 19) rfl)
theorem tw_956 : (Cond.instanceMethod yX5_highsThatFit : Cond) ∈ wsL_law := tr_40 _ (List.mem_of_getElem? (i := 20) rfl)
theorem tw_957 : (Cond.selects RX5 yX5_highsThatFit yX5_highsThatFit : Cond) ∈ wsL_law := tr_40 _ (List.mem_of_getElem? (i := 21) rfl)
theorem tw_958 : (Cond.code yX5_highsThatFit cX5_highsThatFit 5 (some .int) : Cond) ∈ wsL_law := tr_40 _ (List.mem_of_getElem? (i := 22) rfl)
theorem tw_959 : (Cond.methodLink RX9 281 yX5_roomsThatFit : Cond) ∈ wsL_law := tr_40 _ (List.mem_of_getElem? (i := 23) rfl)
theorem tw_960 : (Cond.instanceMethod yX5_roomsThatFit : Cond) ∈ wsL_law := tr_41 _ (List.mem_of_getElem? (i := 0) rfl)
theorem tw_961 : (Cond.selects RX5 yX5_roomsThatFit yX5_roomsThatFit : Cond) ∈ wsL_law := tr_41 _ (List.mem_of_getElem? (i := 1) rfl)
theorem tw_962 : (Cond.code yX5_roomsThatFit cX5_roomsThatFit 5 (some .int) : Cond) ∈ wsL_law := tr_41 _ (List.mem_of_getElem? (i := 2) rfl)
theorem tw_963 : (Cond.methodLink RL 133 yX10_who : Cond) ∈ wsL_law := tr_41 _ (List.mem_of_getElem? (i := 3) rfl)
theorem tw_964 : (Cond.instanceMethod yX10_who : Cond) ∈ wsL_law := tr_41 _ (List.mem_of_getElem? (i := 4) rfl)
theorem tw_965 : (Cond.selects RX10 yX10_who yX10_who : Cond) ∈ wsL_law := tr_41 _ (List.mem_of_getElem? (i := 5) rfl)
theorem tw_966 : (Cond.code yX10_who cX10_who 11 (some .int) : Cond) ∈ wsL_law := tr_41 _ (List.mem_of_getElem? (i := 6) rfl)
theorem tw_967 : (Cond.constantLong RX10 248 (12) : Cond) ∈ wsL_law := tr_41 _ (List.mem_of_getElem? (i := 7) rfl)
theorem tw_968 : (Cond.methodLink RX10 250 yX10_lacks : Cond) ∈ wsL_law := tr_41 _ (List.mem_of_getElem? (i := 8) rfl)
theorem tw_969 : (Cond.instanceMethod yX10_lacks : Cond) ∈ wsL_law := tr_41 _ (List.mem_of_getElem? (i := 9) rfl)
theorem tw_970 : (Cond.selects RX10 yX10_lacks yX10_lacks : Cond) ∈ wsL_law := tr_41 _ (List.mem_of_getElem? (i := 10) rfl)
theorem tw_971 : (Cond.code yX10_lacks cX10_lacks 4 (some .int) : Cond) ∈ wsL_law := tr_41 _ (List.mem_of_getElem? (i := 11) rfl)
theorem tw_972 : (Cond.methodLink RX10 253 yX10_fits : Cond) ∈ wsL_law := tr_41 _ (List.mem_of_getElem? (i := 12) rfl)
theorem tw_973 : (Cond.instanceMethod yX10_fits : Cond) ∈ wsL_law := tr_41 _ (List.mem_of_getElem? (i := 13) rfl)
theorem tw_974 : (Cond.selects RX10 yX10_fits yX10_fits : Cond) ∈ wsL_law := tr_41 _ (List.mem_of_getElem? (i := 14) rfl)
theorem tw_975 : (Cond.code yX10_fits cX10_fits 8 (some .boolean) : Cond) ∈ wsL_law := tr_41 _ (List.mem_of_getElem? (i := 15) rfl)
theorem tw_976 : (Cond.methodLink RL 134 yX9_feeds : Cond) ∈ wsL_law := tr_41 _ (List.mem_of_getElem? (i := 16) rfl)
theorem tw_977 : (Cond.instanceMethod yX9_feeds : Cond) ∈ wsL_law := tr_41 _ (List.mem_of_getElem? (i := 17) rfl)
theorem tw_978 : (Cond.selects RX9 yX9_feeds yX9_feeds : Cond) ∈ wsL_law := tr_41 _ (List.mem_of_getElem? (i := 18) rfl)
theorem tw_979 : (Cond.code yX9_feeds cX9_feeds 8 (some .int) : Cond) ∈ wsL_law := tr_41 _ (List.mem_of_getElem? (i := 19) rfl)
theorem tw_980 : (Cond.constant RX9 295 (-1000000) : Cond) ∈ wsL_law := tr_41 _ (List.mem_of_getElem? (i := 20) rfl)
theorem tw_981 : (Cond.methodLink RX9 284 yX5_floorsThatFit : Cond) ∈ wsL_law := tr_41 _ (List.mem_of_getElem? (i := 21) rfl)
theorem tw_982 : (Cond.instanceMethod yX5_floorsThatFit : Cond) ∈ wsL_law := tr_41 _ (List.mem_of_getElem? (i := 22) rfl)
theorem tw_983 : (Cond.selects RX5 yX5_floorsThatFit yX5_floorsThatFit : Cond) ∈ wsL_law := tr_41 _ (List.mem_of_getElem? (i := 23) rfl)
theorem tw_984 : (Cond.code yX5_floorsThatFit cX5_floorsThatFit 5 (some .int) : Cond) ∈ wsL_law := tr_42 _ (List.mem_of_getElem? (i := 0) rfl)
theorem tw_985 : (Cond.fieldLink RX5 123 "LavaLodger$Village" "floor" "[I" : Cond) ∈ wsL_law := tr_42 _ (List.mem_of_getElem? (i := 1) rfl)
theorem tw_986 : (Cond.methodLink RX5 126 yX5_liesAsHeard : Cond) ∈ wsL_law := tr_42 _ (List.mem_of_getElem? (i := 2) rfl)
theorem tw_987 : (Cond.instanceMethod yX5_liesAsHeard : Cond) ∈ wsL_law := tr_42 _ (List.mem_of_getElem? (i := 3) rfl)
theorem tw_988 : (Cond.selects RX5 yX5_liesAsHeard yX5_liesAsHeard : Cond) ∈ wsL_law := tr_42 _ (List.mem_of_getElem? (i := 4) rfl)
theorem tw_989 : (Cond.code yX5_liesAsHeard cX5_liesAsHeard 3 (some .boolean) : Cond) ∈ wsL_law := tr_42 _ (List.mem_of_getElem? (i := 5) rfl)
theorem tw_990 : (Cond.methodLink RX9 287 yX5_feedsThatFit : Cond) ∈ wsL_law := tr_42 _ (List.mem_of_getElem? (i := 6) rfl)
theorem tw_991 : (Cond.instanceMethod yX5_feedsThatFit : Cond) ∈ wsL_law := tr_42 _ (List.mem_of_getElem? (i := 7) rfl)
theorem tw_992 : (Cond.selects RX5 yX5_feedsThatFit yX5_feedsThatFit : Cond) ∈ wsL_law := tr_42 _ (List.mem_of_getElem? (i := 8) rfl)
theorem tw_993 : (Cond.code yX5_feedsThatFit cX5_feedsThatFit 5 (some .int) : Cond) ∈ wsL_law := tr_42 _ (List.mem_of_getElem? (i := 9) rfl)
theorem tw_994 : (Cond.methodLink RX9 290 yJ6_bitCount_0f7a4 : Cond) ∈ wsL_law := tr_42 _ (List.mem_of_getElem? (i := 10) rfl)
theorem tw_995 : (Cond.methodLink RX9 296 yJ6_numberOfTrailingZeros_0f7a4 : Cond) ∈ wsL_law := tr_42 _ (List.mem_of_getElem? (i := 11) rfl)
theorem tw_996 : (Cond.static yJ6_numberOfTrailingZeros_0f7a4 : Cond) ∈ wsL_law := tr_42 _ (List.mem_of_getElem? (i := 12) rfl)
theorem tw_997 : (Cond.code yJ6_numberOfTrailingZeros_0f7a4 cJ6_numberOfTrailingZeros_0f7a4 2 (some .int) : Cond) ∈ wsL_law := tr_42 _ (List.mem_of_getElem? (i := 13) rfl)
theorem tw_998 : (Cond.constant RJ6 264 (65536) : Cond) ∈ wsL_law := tr_42 _ (List.mem_of_getElem? (i := 14) rfl)
theorem tw_999 : (Cond.methodLink RL 137 yX10_feeds : Cond) ∈ wsL_law := tr_42 _ (List.mem_of_getElem? (i := 15) rfl)
theorem tw_1000 : (Cond.instanceMethod yX10_feeds : Cond) ∈ wsL_law := tr_42 _ (List.mem_of_getElem? (i := 16) rfl)
theorem tw_1001 : (Cond.selects RX10 yX10_feeds yX10_feeds : Cond) ∈ wsL_law := tr_42 _ (List.mem_of_getElem? (i := 17) rfl)
theorem tw_1002 : (Cond.code yX10_feeds cX10_feeds 9 (some .int) : Cond) ∈ wsL_law := tr_42 _ (List.mem_of_getElem? (i := 18) rfl)
theorem tw_1003 : (Cond.methodLink RL 138 yX9_gives : Cond) ∈ wsL_law := tr_42 _ (List.mem_of_getElem? (i := 19) rfl)
theorem tw_1004 : (Cond.instanceMethod yX9_gives : Cond) ∈ wsL_law := tr_42 _ (List.mem_of_getElem? (i := 20) rfl)
theorem tw_1005 : (Cond.selects RX9 yX9_gives yX9_gives : Cond) ∈ wsL_law := tr_42 _ (List.mem_of_getElem? (i := 21) rfl)
theorem tw_1006 : (Cond.code yX9_gives cX9_gives 5 (some .long) : Cond) ∈ wsL_law := tr_42 _ (List.mem_of_getElem? (i := 22) rfl)
theorem tw_1007 : (Cond.constantLong RX9 299 (-1000001) : Cond) ∈ wsL_law := tr_42 _ (List.mem_of_getElem? (i := 23) rfl)
theorem tw_1008 : (Cond.methodLink RX9 301 yX5_likelySpared : Cond) ∈ wsL_law := tr_43 _ (List.mem_of_getElem? (i := 0) rfl)
theorem tw_1009 : (Cond.instanceMethod yX5_likelySpared : Cond) ∈ wsL_law := tr_43 _ (List.mem_of_getElem? (i := 1) rfl)
theorem tw_1010 : (Cond.selects RX5 yX5_likelySpared yX5_likelySpared : Cond) ∈ wsL_law := tr_43 _ (List.mem_of_getElem? (i := 2) rfl)
theorem tw_1011 : (Cond.code yX5_likelySpared cX5_likelySpared 14 (some .long) : Cond) ∈ wsL_law := tr_43 _ (List.mem_of_getElem? (i := 3) rfl)
theorem tw_1012 : (Cond.constantLong RX5 134 (10) : Cond) ∈ wsL_law := tr_43 _ (List.mem_of_getElem? (i := 4) rfl)
theorem tw_1013 : (Cond.methodLink RX5 130 yX5_wallsThatStand : Cond) ∈ wsL_law := tr_43 _ (List.mem_of_getElem? (i := 5) rfl)
theorem tw_1014 : (Cond.static yX5_wallsThatStand : Cond) ∈ wsL_law := tr_43 _ (List.mem_of_getElem? (i := 6) rfl)
theorem tw_1015 : (Cond.code yX5_wallsThatStand cX5_wallsThatStand 3 (some .int) : Cond) ∈ wsL_law := tr_43 _ (List.mem_of_getElem? (i := 7) rfl)
theorem tw_1016 : (Cond.methodLink RX5 136 yX5_casesOf : Cond) ∈ wsL_law := tr_43 _ (List.mem_of_getElem? (i := 8) rfl)
theorem tw_1017 : (Cond.static yX5_casesOf : Cond) ∈ wsL_law := tr_43 _ (List.mem_of_getElem? (i := 9) rfl)
theorem tw_1018 : (Cond.code yX5_casesOf cX5_casesOf 6 (some .long) : Cond) ∈ wsL_law := tr_43 _ (List.mem_of_getElem? (i := 10) rfl)
theorem tw_1019 : (Cond.methodLink RX5 140 yX5_isSpared : Cond) ∈ wsL_law := tr_43 _ (List.mem_of_getElem? (i := 11) rfl)
theorem tw_1020 : (Cond.instanceMethod yX5_isSpared : Cond) ∈ wsL_law := tr_43 _ (List.mem_of_getElem? (i := 12) rfl)
theorem tw_1021 : (Cond.selects RX5 yX5_isSpared yX5_isSpared : Cond) ∈ wsL_law := tr_43 _ (List.mem_of_getElem? (i := 13) rfl)
theorem tw_1022 : (Cond.code yX5_isSpared cX5_isSpared 7 (some .boolean) : Cond) ∈ wsL_law := tr_43 _ (List.mem_of_getElem? (i := 14) rfl)
theorem tw_1023 : (Cond.fieldLink RX5 148 "LavaLodger$Village" "lava" "[I" : Cond) ∈ wsL_law := tr_43 _ (List.mem_of_getElem? (i := 15) rfl)
theorem tw_1024 : (Cond.fieldLink RX5 151 "LavaLodger$Village" "day" "I" : Cond) ∈ wsL_law := tr_43 _ (List.mem_of_getElem? (i := 16) rfl)
theorem tw_1025 : (Cond.methodLink RX5 154 yX8_flow : Cond) ∈ wsL_law := tr_43 _ (List.mem_of_getElem? (i := 17) rfl)
theorem tw_1026 : (Cond.methodLink RX5 158 yX8_placeAfter : Cond) ∈ wsL_law := tr_43 _ (List.mem_of_getElem? (i := 18) rfl)
theorem tw_1027 : (Cond.methodLink RX5 144 yX5_greatestDivisor : Cond) ∈ wsL_law := tr_43 _ (List.mem_of_getElem? (i := 19) rfl)
theorem tw_1028 : (Cond.static yX5_greatestDivisor : Cond) ∈ wsL_law := tr_43 _ (List.mem_of_getElem? (i := 20) rfl)
theorem tw_1029 : (Cond.code yX5_greatestDivisor cX5_greatestDivisor 11 (some .long) : Cond) ∈ wsL_law := tr_43 _ (List.mem_of_getElem? (i := 21) rfl)
theorem tw_1030 : (Cond.methodLink RL 142 yX10_gives : Cond) ∈ wsL_law := tr_43 _ (List.mem_of_getElem? (i := 22) rfl)
theorem tw_1031 : (Cond.instanceMethod yX10_gives : Cond) ∈ wsL_law := tr_43 _ (List.mem_of_getElem? (i := 23) rfl)
theorem tw_1032 : (Cond.selects RX10 yX10_gives yX10_gives : Cond) ∈ wsL_law := tr_44 _ (List.mem_of_getElem? (i := 0) rfl)
theorem tw_1033 : (Cond.code yX10_gives cX10_gives 14 (some .long) : Cond) ∈ wsL_law := tr_44 _ (List.mem_of_getElem? (i := 1) rfl)
theorem tw_1034 : (Cond.constantLong RX10 257 (10) : Cond) ∈ wsL_law := tr_44 _ (List.mem_of_getElem? (i := 2) rfl)
theorem tw_1035 : (Cond.constantLong RX10 259 (-1000001) : Cond) ∈ wsL_law := tr_44 _ (List.mem_of_getElem? (i := 3) rfl)
theorem tw_1036 : (Cond.methodLink RX10 261 yX10_divisor : Cond) ∈ wsL_law := tr_44 _ (List.mem_of_getElem? (i := 4) rfl)
theorem tw_1037 : (Cond.static yX10_divisor : Cond) ∈ wsL_law := tr_44 _ (List.mem_of_getElem? (i := 5) rfl)
theorem tw_1038 : (Cond.code yX10_divisor cX10_divisor 10 (some .long) : Cond) ∈ wsL_law := tr_44 _ (List.mem_of_getElem? (i := 6) rfl)
theorem tw_1039 : (Cond.methodLink RL 143 yX9_drawn : Cond) ∈ wsL_law := tr_44 _ (List.mem_of_getElem? (i := 7) rfl)
theorem tw_1040 : (Cond.instanceMethod yX9_drawn : Cond) ∈ wsL_law := tr_44 _ (List.mem_of_getElem? (i := 8) rfl)
theorem tw_1041 : (Cond.selects RX9 yX9_drawn yX9_drawn : Cond) ∈ wsL_law := tr_44 _ (List.mem_of_getElem? (i := 9) rfl)
theorem tw_1042 : (Cond.code yX9_drawn cX9_drawn 4 (some .int) : Cond) ∈ wsL_law := tr_44 _ (List.mem_of_getElem? (i := 10) rfl)
theorem tw_1043 : (Cond.constant RX9 305 (999999) : Cond) ∈ wsL_law := tr_44 _ (List.mem_of_getElem? (i := 11) rfl)
theorem tw_1044 : (Cond.methodLink RX9 306 yX5_becameInYears : Cond) ∈ wsL_law := tr_44 _ (List.mem_of_getElem? (i := 12) rfl)
theorem tw_1045 : (Cond.instanceMethod yX5_becameInYears : Cond) ∈ wsL_law := tr_44 _ (List.mem_of_getElem? (i := 13) rfl)
theorem tw_1046 : (Cond.selects RX5 yX5_becameInYears yX5_becameInYears : Cond) ∈ wsL_law := tr_44 _ (List.mem_of_getElem? (i := 14) rfl)
theorem tw_1047 : (Cond.code yX5_becameInYears cX5_becameInYears 10 (some .int) : Cond) ∈ wsL_law := tr_44 _ (List.mem_of_getElem? (i := 15) rfl)
theorem tw_1048 : (Cond.constantLong RX5 161 (16807) : Cond) ∈ wsL_law := tr_44 _ (List.mem_of_getElem? (i := 16) rfl)
theorem tw_1049 : (Cond.constantLong RX5 163 (2147483647) : Cond) ∈ wsL_law := tr_44 _ (List.mem_of_getElem? (i := 17) rfl)
theorem tw_1050 : (Cond.methodLink RX5 165 yX5_draw : Cond) ∈ wsL_law := tr_44 _ (List.mem_of_getElem? (i := 18) rfl)
theorem tw_1051 : (Cond.instanceMethod yX5_draw : Cond) ∈ wsL_law := tr_44 _ (List.mem_of_getElem? (i := 19) rfl)
theorem tw_1052 : (Cond.selects RX5 yX5_draw yX5_draw : Cond) ∈ wsL_law := tr_44 _ (List.mem_of_getElem? (i := 20) rfl)
theorem tw_1053 : (Cond.code yX5_draw cX5_draw 4 none : Cond) ∈ wsL_law := tr_44 _ (List.mem_of_getElem? (i := 21) rfl)
theorem tw_1054 : (Cond.constantLong RX5 169 (3) : Cond) ∈ wsL_law := tr_44 _ (List.mem_of_getElem? (i := 22) rfl)
theorem tw_1055 : (Cond.methodLink RX5 171 yX8_stands : Cond) ∈ wsL_law := tr_44 _ (List.mem_of_getElem? (i := 23) rfl)
theorem tw_1056 : (Cond.methodLink RX5 174 yX8_place : Cond) ∈ wsL_law := tr_45 _ (List.mem_of_getElem? (i := 0) rfl)
theorem tw_1057 : (Cond.methodLink RL 146 yX10_drawn : Cond) ∈ wsL_law := tr_45 _ (List.mem_of_getElem? (i := 1) rfl)
theorem tw_1058 : (Cond.instanceMethod yX10_drawn : Cond) ∈ wsL_law := tr_45 _ (List.mem_of_getElem? (i := 2) rfl)
theorem tw_1059 : (Cond.selects RX10 yX10_drawn yX10_drawn : Cond) ∈ wsL_law := tr_45 _ (List.mem_of_getElem? (i := 3) rfl)
theorem tw_1060 : (Cond.code yX10_drawn cX10_drawn 11 (some .int) : Cond) ∈ wsL_law := tr_45 _ (List.mem_of_getElem? (i := 4) rfl)
theorem tw_1061 : (Cond.constantLong RX10 265 (999999) : Cond) ∈ wsL_law := tr_45 _ (List.mem_of_getElem? (i := 5) rfl)
theorem tw_1062 : (Cond.constantLong RX10 267 (16807) : Cond) ∈ wsL_law := tr_45 _ (List.mem_of_getElem? (i := 6) rfl)
theorem tw_1063 : (Cond.constantLong RX10 269 (2147483647) : Cond) ∈ wsL_law := tr_45 _ (List.mem_of_getElem? (i := 7) rfl)
theorem tw_1064 : (Cond.constantLong RX10 271 (3) : Cond) ∈ wsL_law := tr_45 _ (List.mem_of_getElem? (i := 8) rfl)
theorem tw_1065 : (Cond.methodLink RL 147 yX9_image : Cond) ∈ wsL_law := tr_45 _ (List.mem_of_getElem? (i := 9) rfl)
theorem tw_1066 : (Cond.instanceMethod yX9_image : Cond) ∈ wsL_law := tr_45 _ (List.mem_of_getElem? (i := 10) rfl)
theorem tw_1067 : (Cond.selects RX9 yX9_image yX9_image : Cond) ∈ wsL_law := tr_45 _ (List.mem_of_getElem? (i := 11) rfl)
theorem tw_1068 : (Cond.code yX9_image cX9_image 2 (some .int) : Cond) ∈ wsL_law := tr_45 _ (List.mem_of_getElem? (i := 12) rfl)
theorem tw_1069 : (Cond.methodLink RL 150 yX10_image : Cond) ∈ wsL_law := tr_45 _ (List.mem_of_getElem? (i := 13) rfl)
theorem tw_1070 : (Cond.instanceMethod yX10_image : Cond) ∈ wsL_law := tr_45 _ (List.mem_of_getElem? (i := 14) rfl)
theorem tw_1071 : (Cond.selects RX10 yX10_image yX10_image : Cond) ∈ wsL_law := tr_45 _ (List.mem_of_getElem? (i := 15) rfl)
theorem tw_1072 : (Cond.code yX10_image cX10_image 2 (some .int) : Cond) ∈ wsL_law := tr_45 _ (List.mem_of_getElem? (i := 16) rfl)
theorem tw_1073 : (Cond.methodLink RL 151 yX9_restore : Cond) ∈ wsL_law := tr_45 _ (List.mem_of_getElem? (i := 17) rfl)
theorem tw_1074 : (Cond.instanceMethod yX9_restore : Cond) ∈ wsL_law := tr_45 _ (List.mem_of_getElem? (i := 18) rfl)
theorem tw_1075 : (Cond.selects RX9 yX9_restore yX9_restore : Cond) ∈ wsL_law := tr_45 _ (List.mem_of_getElem? (i := 19) rfl)
theorem tw_1076 : (Cond.code yX9_restore cX9_restore 2 (some .int) : Cond) ∈ wsL_law := tr_45 _ (List.mem_of_getElem? (i := 20) rfl)
theorem tw_1077 : (Cond.methodLink RL 154 yX10_restore : Cond) ∈ wsL_law := tr_45 _ (List.mem_of_getElem? (i := 21) rfl)
theorem tw_1078 : (Cond.instanceMethod yX10_restore : Cond) ∈ wsL_law := tr_45 _ (List.mem_of_getElem? (i := 22) rfl)
theorem tw_1079 : (Cond.selects RX10 yX10_restore yX10_restore : Cond) ∈ wsL_law := tr_45 _ (List.mem_of_getElem? (i := 23) rfl)
theorem tw_1080 : (Cond.code yX10_restore cX10_restore 2 (some .int) : Cond) ∈ wsL_law := tr_46 _ (List.mem_of_getElem? (i := 0) rfl)
theorem tw_1081 : (Cond.methodLink RL 155 yX9_kind : Cond) ∈ wsL_law := tr_46 _ (List.mem_of_getElem? (i := 1) rfl)
theorem tw_1082 : (Cond.instanceMethod yX9_kind : Cond) ∈ wsL_law := tr_46 _ (List.mem_of_getElem? (i := 2) rfl)
theorem tw_1083 : (Cond.selects RX9 yX9_kind yX9_kind : Cond) ∈ wsL_law := tr_46 _ (List.mem_of_getElem? (i := 3) rfl)
theorem tw_1084 : (Cond.code yX9_kind cX9_kind 2 (some .int) : Cond) ∈ wsL_law := tr_46 _ (List.mem_of_getElem? (i := 4) rfl)
theorem tw_1085 : (Cond.fieldLink RX9 309 "LavaLodger$Village" "sort" "[I" : Cond) ∈ wsL_law := tr_46 _ (List.mem_of_getElem? (i := 5) rfl)
theorem tw_1086 : (Cond.methodLink RL 158 yX10_kind : Cond) ∈ wsL_law := tr_46 _ (List.mem_of_getElem? (i := 6) rfl)
theorem tw_1087 : (Cond.instanceMethod yX10_kind : Cond) ∈ wsL_law := tr_46 _ (List.mem_of_getElem? (i := 7) rfl)
theorem tw_1088 : (Cond.selects RX10 yX10_kind yX10_kind : Cond) ∈ wsL_law := tr_46 _ (List.mem_of_getElem? (i := 8) rfl)
theorem tw_1089 : (Cond.code yX10_kind cX10_kind 2 (some .int) : Cond) ∈ wsL_law := tr_46 _ (List.mem_of_getElem? (i := 9) rfl)
theorem tw_1090 : (Cond.methodLink RL 159 yX9_as : Cond) ∈ wsL_law := tr_46 _ (List.mem_of_getElem? (i := 10) rfl)
theorem tw_1091 : (Cond.instanceMethod yX9_as : Cond) ∈ wsL_law := tr_46 _ (List.mem_of_getElem? (i := 11) rfl)
theorem tw_1092 : (Cond.selects RX9 yX9_as yX9_as : Cond) ∈ wsL_law := tr_46 _ (List.mem_of_getElem? (i := 12) rfl)
theorem tw_1093 : (Cond.code yX9_as cX9_as 3 (some .int) : Cond) ∈ wsL_law := tr_46 _ (List.mem_of_getElem? (i := 13) rfl)
theorem tw_1094 : (Cond.methodLink RX9 312 yX9_isOfKind : Cond) ∈ wsL_law := tr_46 _ (List.mem_of_getElem? (i := 14) rfl)
theorem tw_1095 : (Cond.static yX9_isOfKind : Cond) ∈ wsL_law := tr_46 _ (List.mem_of_getElem? (i := 15) rfl)
theorem tw_1096 : (Cond.code yX9_isOfKind cX9_isOfKind 4 (some .boolean) : Cond) ∈ wsL_law := tr_46 _ (List.mem_of_getElem? (i := 16) rfl)
theorem tw_1097 : (Cond.fieldLink RX9 332 "LavaLodger" "KIND_ABOVE" "[I" : Cond) ∈ wsL_law := tr_46 _ (List.mem_of_getElem? (i := 17) rfl)
theorem tw_1098 : (Cond.methodLink RL 162 yX10_as : Cond) ∈ wsL_law := tr_46 _ (List.mem_of_getElem? (i := 18) rfl)
theorem tw_1099 : (Cond.instanceMethod yX10_as : Cond) ∈ wsL_law := tr_46 _ (List.mem_of_getElem? (i := 19) rfl)
theorem tw_1100 : (Cond.selects RX10 yX10_as yX10_as : Cond) ∈ wsL_law := tr_46 _ (List.mem_of_getElem? (i := 20) rfl)
theorem tw_1101 : (Cond.code yX10_as cX10_as 3 (some .int) : Cond) ∈ wsL_law := tr_46 _ (List.mem_of_getElem? (i := 21) rfl)
theorem tw_1102 : (Cond.constantLong RX10 273 (5) : Cond) ∈ wsL_law := tr_46 _ (List.mem_of_getElem? (i := 22) rfl)
theorem tw_1103 : (Cond.methodLink RX10 275 yX10_isOf : Cond) ∈ wsL_law := tr_46 _ (List.mem_of_getElem? (i := 23) rfl)
theorem tw_1104 : (Cond.static yX10_isOf : Cond) ∈ wsL_law := tr_47 _ (List.mem_of_getElem? (i := 0) rfl)
theorem tw_1105 : (Cond.code yX10_isOf cX10_isOf 2 (some .boolean) : Cond) ∈ wsL_law := tr_47 _ (List.mem_of_getElem? (i := 1) rfl)
theorem tw_1106 : (Cond.methodLink RL 163 yX9_ask : Cond) ∈ wsL_law := tr_47 _ (List.mem_of_getElem? (i := 2) rfl)
theorem tw_1107 : (Cond.instanceMethod yX9_ask : Cond) ∈ wsL_law := tr_47 _ (List.mem_of_getElem? (i := 3) rfl)
theorem tw_1108 : (Cond.selects RX9 yX9_ask yX9_ask : Cond) ∈ wsL_law := tr_47 _ (List.mem_of_getElem? (i := 4) rfl)
theorem tw_1109 : (Cond.code yX9_ask cX9_ask 3 (some .int) : Cond) ∈ wsL_law := tr_47 _ (List.mem_of_getElem? (i := 5) rfl)
theorem tw_1110 : (Cond.methodLink RX9 316 yX0_answer : Cond) ∈ wsL_law := tr_47 _ (List.mem_of_getElem? (i := 6) rfl)
theorem tw_1111 : (Cond.instanceMethod yX0_answer : Cond) ∈ wsL_law := tr_47 _ (List.mem_of_getElem? (i := 7) rfl)
theorem tw_1112 : (Cond.selects RX0 yX0_answer yX0_answer : Cond) ∈ wsL_law := tr_47 _ (List.mem_of_getElem? (i := 8) rfl)
theorem tw_1113 : (Cond.code yX0_answer cX0_answer 4 (some .int) : Cond) ∈ wsL_law := tr_47 _ (List.mem_of_getElem? (i := 9) rfl)
theorem tw_1114 : (Cond.fieldLink RX0 19 "LavaLodger$Village" "sort" "[I" : Cond) ∈ wsL_law := tr_47 _ (List.mem_of_getElem? (i := 10) rfl)
theorem tw_1115 : (Cond.methodLink RX0 24 yX0_bodyFor : Cond) ∈ wsL_law := tr_47 _ (List.mem_of_getElem? (i := 11) rfl)
theorem tw_1116 : (Cond.static yX0_bodyFor : Cond) ∈ wsL_law := tr_47 _ (List.mem_of_getElem? (i := 12) rfl)
theorem tw_1117 : (Cond.code yX0_bodyFor cX0_bodyFor 5 (some .int) : Cond) ∈ wsL_law := tr_47 _ (List.mem_of_getElem? (i := 13) rfl)
theorem tw_1118 : (Cond.fieldLink RX0 32 "LavaLodger$Asker" "SIZE_BODIES" "[I" : Cond) ∈ wsL_law := tr_47 _ (List.mem_of_getElem? (i := 14) rfl)
theorem tw_1119 : (Cond.fieldLink RX0 35 "LavaLodger$Asker" "MARK_BODIES" "[I" : Cond) ∈ wsL_law := tr_47 _ (List.mem_of_getElem? (i := 15) rfl)
theorem tw_1120 : (Cond.methodLink RX0 28 yX0_give : Cond) ∈ wsL_law := tr_47 _ (List.mem_of_getElem? (i := 16) rfl)
theorem tw_1121 : (Cond.instanceMethod yX0_give : Cond) ∈ wsL_law := tr_47 _ (List.mem_of_getElem? (i := 17) rfl)
theorem tw_1122 : (Cond.selects RX0 yX0_give yX0_give : Cond) ∈ wsL_law := tr_47 _ (List.mem_of_getElem? (i := 18) rfl)
theorem tw_1123 : (Cond.code yX0_give cX0_give 5 (some .int) : Cond) ∈ wsL_law := tr_47 _ (List.mem_of_getElem? (i := 19) rfl)
theorem tw_1124 : (Cond.fieldLink RX0 45 "LavaLodger$Village" "high" "[I" : Cond) ∈ wsL_law := tr_47 _ (List.mem_of_getElem? (i := 20) rfl)
theorem tw_1125 : (Cond.fieldLink RX0 51 "LavaLodger$Village" "last" "[I" : Cond) ∈ wsL_law := tr_47 _ (List.mem_of_getElem? (i := 21) rfl)
theorem tw_1126 : (Cond.methodLink RX0 41 yX0_begin : Cond) ∈ wsL_law := tr_47 _ (List.mem_of_getElem? (i := 22) rfl)
theorem tw_1127 : (Cond.instanceMethod yX0_begin : Cond) ∈ wsL_law := tr_47 _ (List.mem_of_getElem? (i := 23) rfl)
theorem tw_1128 : (Cond.selects RX0 yX0_begin yX0_begin : Cond) ∈ wsL_law := tr_48 _ (List.mem_of_getElem? (i := 0) rfl)
theorem tw_1129 : (Cond.code yX0_begin cX0_begin 2 none : Cond) ∈ wsL_law := tr_48 _ (List.mem_of_getElem? (i := 1) rfl)
theorem tw_1130 : (Cond.methodLink RX0 48 yX0_anew : Cond) ∈ wsL_law := tr_48 _ (List.mem_of_getElem? (i := 2) rfl)
theorem tw_1131 : (Cond.instanceMethod yX0_anew : Cond) ∈ wsL_law := tr_48 _ (List.mem_of_getElem? (i := 3) rfl)
theorem tw_1132 : (Cond.selects RX0 yX0_anew yX0_anew : Cond) ∈ wsL_law := tr_48 _ (List.mem_of_getElem? (i := 4) rfl)
theorem tw_1133 : (Cond.code yX0_anew cX0_anew 5 (some .int) : Cond) ∈ wsL_law := tr_48 _ (List.mem_of_getElem? (i := 5) rfl)
theorem tw_1134 : (Cond.methodLink RL 166 yX10_ask : Cond) ∈ wsL_law := tr_48 _ (List.mem_of_getElem? (i := 6) rfl)
theorem tw_1135 : (Cond.instanceMethod yX10_ask : Cond) ∈ wsL_law := tr_48 _ (List.mem_of_getElem? (i := 7) rfl)
theorem tw_1136 : (Cond.selects RX10 yX10_ask yX10_ask : Cond) ∈ wsL_law := tr_48 _ (List.mem_of_getElem? (i := 8) rfl)
theorem tw_1137 : (Cond.code yX10_ask cX10_ask 5 (some .int) : Cond) ∈ wsL_law := tr_48 _ (List.mem_of_getElem? (i := 9) rfl)
theorem tw_1138 : (Cond.fieldLink RX10 280 "LavaLodgerModel" "traced" "I" : Cond) ∈ wsL_law := tr_48 _ (List.mem_of_getElem? (i := 10) rfl)
theorem tw_1139 : (Cond.constantLong RX10 300 (121110) : Cond) ∈ wsL_law := tr_48 _ (List.mem_of_getElem? (i := 11) rfl)
theorem tw_1140 : (Cond.constantLong RX10 302 (1110) : Cond) ∈ wsL_law := tr_48 _ (List.mem_of_getElem? (i := 12) rfl)
theorem tw_1141 : (Cond.constantLong RX10 307 (2320) : Cond) ∈ wsL_law := tr_48 _ (List.mem_of_getElem? (i := 13) rfl)
theorem tw_1142 : (Cond.methodLink RX10 297 yX10_mark : Cond) ∈ wsL_law := tr_48 _ (List.mem_of_getElem? (i := 14) rfl)
theorem tw_1143 : (Cond.instanceMethod yX10_mark : Cond) ∈ wsL_law := tr_48 _ (List.mem_of_getElem? (i := 15) rfl)
theorem tw_1144 : (Cond.selects RX10 yX10_mark yX10_mark : Cond) ∈ wsL_law := tr_48 _ (List.mem_of_getElem? (i := 16) rfl)
theorem tw_1145 : (Cond.code yX10_mark cX10_mark 4 (some .int) : Cond) ∈ wsL_law := tr_48 _ (List.mem_of_getElem? (i := 17) rfl)
theorem tw_1146 : (Cond.constantLong RX10 283 (242120) : Cond) ∈ wsL_law := tr_48 _ (List.mem_of_getElem? (i := 18) rfl)
theorem tw_1147 : (Cond.constantLong RX10 285 (222120) : Cond) ∈ wsL_law := tr_48 _ (List.mem_of_getElem? (i := 19) rfl)
theorem tw_1148 : (Cond.constantLong RX10 287 (2120) : Cond) ∈ wsL_law := tr_48 _ (List.mem_of_getElem? (i := 20) rfl)
theorem tw_1149 : (Cond.methodLink RX10 289 yX10_leave : Cond) ∈ wsL_law := tr_48 _ (List.mem_of_getElem? (i := 21) rfl)
theorem tw_1150 : (Cond.instanceMethod yX10_leave : Cond) ∈ wsL_law := tr_48 _ (List.mem_of_getElem? (i := 22) rfl)
theorem tw_1151 : (Cond.selects RX10 yX10_leave yX10_leave : Cond) ∈ wsL_law := tr_48 _ (List.mem_of_getElem? (i := 23) rfl)
theorem tw_1152 : (Cond.code yX10_leave cX10_leave 7 none : Cond) ∈ wsL_law := tr_49 _ (List.mem_of_getElem? (i := 0) rfl)
theorem tw_1153 : (Cond.constantLong RX10 278 (100) : Cond) ∈ wsL_law := tr_49 _ (List.mem_of_getElem? (i := 1) rfl)
theorem tw_1154 : (Cond.methodLink RX10 304 yX10_sizeOf : Cond) ∈ wsL_law := tr_49 _ (List.mem_of_getElem? (i := 2) rfl)
theorem tw_1155 : (Cond.instanceMethod yX10_sizeOf : Cond) ∈ wsL_law := tr_49 _ (List.mem_of_getElem? (i := 3) rfl)
theorem tw_1156 : (Cond.selects RX10 yX10_sizeOf yX10_sizeOf : Cond) ∈ wsL_law := tr_49 _ (List.mem_of_getElem? (i := 4) rfl)
theorem tw_1157 : (Cond.code yX10_sizeOf cX10_sizeOf 4 (some .int) : Cond) ∈ wsL_law := tr_49 _ (List.mem_of_getElem? (i := 5) rfl)
theorem tw_1158 : (Cond.constantLong RX10 293 (141310) : Cond) ∈ wsL_law := tr_49 _ (List.mem_of_getElem? (i := 6) rfl)
theorem tw_1159 : (Cond.constantLong RX10 295 (1310) : Cond) ∈ wsL_law := tr_49 _ (List.mem_of_getElem? (i := 7) rfl)
theorem tw_1160 : (Cond.methodLink RL 167 yX9_trace : Cond) ∈ wsL_law := tr_49 _ (List.mem_of_getElem? (i := 8) rfl)
theorem tw_1161 : (Cond.instanceMethod yX9_trace : Cond) ∈ wsL_law := tr_49 _ (List.mem_of_getElem? (i := 9) rfl)
theorem tw_1162 : (Cond.selects RX9 yX9_trace yX9_trace : Cond) ∈ wsL_law := tr_49 _ (List.mem_of_getElem? (i := 10) rfl)
theorem tw_1163 : (Cond.code yX9_trace cX9_trace 2 (some .int) : Cond) ∈ wsL_law := tr_49 _ (List.mem_of_getElem? (i := 11) rfl)
theorem tw_1164 : (Cond.fieldLink RX9 319 "LavaLodger$Asker" "traced" "I" : Cond) ∈ wsL_law := tr_49 _ (List.mem_of_getElem? (i := 12) rfl)
theorem tw_1165 : (Cond.fieldLink RX9 322 "LavaLodger$Asker" "begun" "[I" : Cond) ∈ wsL_law := tr_49 _ (List.mem_of_getElem? (i := 13) rfl)
theorem tw_1166 : (Cond.methodLink RL 170 yX10_trace : Cond) ∈ wsL_law := tr_49 _ (List.mem_of_getElem? (i := 14) rfl)
theorem tw_1167 : (Cond.instanceMethod yX10_trace : Cond) ∈ wsL_law := tr_49 _ (List.mem_of_getElem? (i := 15) rfl)
theorem tw_1168 : (Cond.selects RX10 yX10_trace yX10_trace : Cond) ∈ wsL_law := tr_49 _ (List.mem_of_getElem? (i := 16) rfl)
theorem tw_1169 : (Cond.code yX10_trace cX10_trace 2 (some .int) : Cond) ∈ wsL_law := tr_49 _ (List.mem_of_getElem? (i := 17) rfl)
theorem tw_1170 : (Cond.methodLink RL 171 yX9_count : Cond) ∈ wsL_law := tr_49 _ (List.mem_of_getElem? (i := 18) rfl)
theorem tw_1171 : (Cond.instanceMethod yX9_count : Cond) ∈ wsL_law := tr_49 _ (List.mem_of_getElem? (i := 19) rfl)
theorem tw_1172 : (Cond.selects RX9 yX9_count yX9_count : Cond) ∈ wsL_law := tr_49 _ (List.mem_of_getElem? (i := 20) rfl)
theorem tw_1173 : (Cond.code yX9_count cX9_count 2 (some .int) : Cond) ∈ wsL_law := tr_49 _ (List.mem_of_getElem? (i := 21) rfl)
theorem tw_1174 : (Cond.methodLink RX9 325 yX4_present : Cond) ∈ wsL_law := tr_49 _ (List.mem_of_getElem? (i := 22) rfl)
theorem tw_1175 : (Cond.instanceMethod yX4_present : Cond) ∈ wsL_law := tr_49 _ (List.mem_of_getElem? (i := 23) rfl)
theorem tw_1176 : (Cond.selects RX4 yX4_present yX4_present : Cond) ∈ wsL_law := tr_50 _ (List.mem_of_getElem? (i := 0) rfl)
theorem tw_1177 : (Cond.code yX4_present cX4_present 3 (some .int) : Cond) ∈ wsL_law := tr_50 _ (List.mem_of_getElem? (i := 1) rfl)
theorem tw_1178 : (Cond.methodLink RX9 328 yX8_allLava : Cond) ∈ wsL_law := tr_50 _ (List.mem_of_getElem? (i := 2) rfl)
theorem tw_1179 : (Cond.instanceMethod yX8_allLava : Cond) ∈ wsL_law := tr_50 _ (List.mem_of_getElem? (i := 3) rfl)
theorem tw_1180 : (Cond.selects RX8 yX8_allLava yX8_allLava : Cond) ∈ wsL_law := tr_50 _ (List.mem_of_getElem? (i := 4) rfl)
theorem tw_1181 : (Cond.code yX8_allLava cX8_allLava 3 (some .int) : Cond) ∈ wsL_law := tr_50 _ (List.mem_of_getElem? (i := 5) rfl)
theorem tw_1182 : (Cond.methodLink RL 174 yX10_count : Cond) ∈ wsL_law := tr_50 _ (List.mem_of_getElem? (i := 6) rfl)
theorem tw_1183 : (Cond.instanceMethod yX10_count : Cond) ∈ wsL_law := tr_50 _ (List.mem_of_getElem? (i := 7) rfl)
theorem tw_1184 : (Cond.selects RX10 yX10_count yX10_count : Cond) ∈ wsL_law := tr_50 _ (List.mem_of_getElem? (i := 8) rfl)
theorem tw_1185 : (Cond.code yX10_count cX10_count 5 (some .int) : Cond) ∈ wsL_law := tr_50 _ (List.mem_of_getElem? (i := 9) rfl)
theorem tw_1186 : (Cond.methodLink RL 175 yX9_status : Cond) ∈ wsL_law := tr_50 _ (List.mem_of_getElem? (i := 10) rfl)
theorem tw_1187 : (Cond.instanceMethod yX9_status : Cond) ∈ wsL_law := tr_50 _ (List.mem_of_getElem? (i := 11) rfl)
theorem tw_1188 : (Cond.selects RX9 yX9_status yX9_status : Cond) ∈ wsL_law := tr_50 _ (List.mem_of_getElem? (i := 12) rfl)
theorem tw_1189 : (Cond.code yX9_status cX9_status 1 (some .int) : Cond) ∈ wsL_law := tr_50 _ (List.mem_of_getElem? (i := 13) rfl)
theorem tw_1190 : (Cond.methodLink RL 178 yX10_status : Cond) ∈ wsL_law := tr_50 _ (List.mem_of_getElem? (i := 14) rfl)
theorem tw_1191 : (Cond.instanceMethod yX10_status : Cond) ∈ wsL_law := tr_50 _ (List.mem_of_getElem? (i := 15) rfl)
theorem tw_1192 : (Cond.selects RX10 yX10_status yX10_status : Cond) ∈ wsL_law := tr_50 _ (List.mem_of_getElem? (i := 16) rfl)
theorem tw_1193 : (Cond.code yX10_status cX10_status 1 (some .int) : Cond) ∈ wsL_law := tr_50 _ (List.mem_of_getElem? (i := 17) rfl)
