/-! ===== BEGIN printed: names, fields, word lists, decode rows ===== -/
def RX0 : String := "NameTurner$Fit"
def TX0 : u_T := fun k => match k with
  | 0 => ("NameTurner$Fit", "can", "[Z", true)
  | 1 => ("NameTurner$Fit", "took", "[I", true)
  | _ => ("NameTurner$Fit", "start", "[I", true)
def tyX0 : Nat → FieldType := fun k => match k with
  | 0 => .array .boolean
  | 1 => .array .int
  | _ => .array .int
abbrev wsX00 : List Cond := u_ws RX0 TX0 3
theorem nmX0 : ∀ a, a < 3 → ∀ b, b < 3 → a ≠ b → (TX0 a).2.1 ≠ (TX0 b).2.1 := by decide +kernel
theorem tyX0_ok : ∀ k, k < 3 → parseFieldDescriptor (TX0 k).2.2.1 = some (tyX0 k) := by decide +kernel
abbrev cX0_init : ByteArray := prog_2_method_1_code
def yX0_init : MethodName := ⟨RX0, "<init>", "()V"⟩
abbrev cX0_tookBy : ByteArray := prog_2_method_2_code
def yX0_tookBy : MethodName := ⟨RX0, "tookBy", "(I)I"⟩
abbrev cX0_startOf : ByteArray := prog_2_method_3_code
def yX0_startOf : MethodName := ⟨RX0, "startOf", "(I)I"⟩
abbrev cX0_match : ByteArray := prog_2_method_4_code
def yX0_match : MethodName := ⟨RX0, "match", "(LNameTurner$Rule;LNameTurner$Place;)Z"⟩
abbrev cX0_isWay : ByteArray := prog_2_method_5_code
def yX0_isWay : MethodName := ⟨RX0, "isWay", "(II)Z"⟩
abbrev cX0_findWays : ByteArray := prog_2_method_6_code
def yX0_findWays : MethodName := ⟨RX0, "findWays", "(LNameTurner$Rule;LNameTurner$Place;)V"⟩
abbrev cX0_hasWay : ByteArray := prog_2_method_7_code
def yX0_hasWay : MethodName := ⟨RX0, "hasWay", "(IILNameTurner$Place;I)Z"⟩
abbrev cX0_takes : ByteArray := prog_2_method_8_code
def yX0_takes : MethodName := ⟨RX0, "takes", "(II)Z"⟩
abbrev cX0_firstChoice : ByteArray := prog_2_method_9_code
def yX0_firstChoice : MethodName := ⟨RX0, "firstChoice", "(LNameTurner$Rule;LNameTurner$Place;II)I"⟩
abbrev cX0_fewest : ByteArray := prog_2_method_10_code
def yX0_fewest : MethodName := ⟨RX0, "fewest", "(LNameTurner$Place;II)I"⟩
abbrev cX0_mostFigures : ByteArray := prog_2_method_11_code
def yX0_mostFigures : MethodName := ⟨RX0, "mostFigures", "(LNameTurner$Place;II)I"⟩
def RX1 : String := "NameTurner$Links"
def TX1 : u_T := fun k => match k with
  | 0 => ("NameTurner$Links", "targets", "[LNameTurner$Place;", true)
  | _ => ("NameTurner$Links", "size", "I", false)
def tyX1 : Nat → FieldType := fun k => match k with
  | 0 => .array (.object "NameTurner$Place")
  | _ => .int
abbrev wsX10 : List Cond := u_ws RX1 TX1 2
theorem nmX1 : ∀ a, a < 2 → ∀ b, b < 2 → a ≠ b → (TX1 a).2.1 ≠ (TX1 b).2.1 := by decide +kernel
theorem tyX1_ok : ∀ k, k < 2 → parseFieldDescriptor (TX1 k).2.2.1 = some (tyX1 k) := by decide +kernel
abbrev cX1_init : ByteArray := prog_3_method_1_code
def yX1_init : MethodName := ⟨RX1, "<init>", "()V"⟩
abbrev cX1_size : ByteArray := prog_3_method_2_code
def yX1_size : MethodName := ⟨RX1, "size", "()I"⟩
abbrev cX1_isFull : ByteArray := prog_3_method_3_code
def yX1_isFull : MethodName := ⟨RX1, "isFull", "()Z"⟩
abbrev cX1_has : ByteArray := prog_3_method_4_code
def yX1_has : MethodName := ⟨RX1, "has", "(I)Z"⟩
abbrev cX1_get : ByteArray := prog_3_method_5_code
def yX1_get : MethodName := ⟨RX1, "get", "(I)LNameTurner$Place;"⟩
abbrev cX1_add : ByteArray := prog_3_method_6_code
def yX1_add : MethodName := ⟨RX1, "add", "(LNameTurner$Place;)I"⟩
abbrev cX1_follow : ByteArray := prog_3_method_7_code
def yX1_follow : MethodName := ⟨RX1, "follow", "(LNameTurner$Place;LNameTurner$Place;)V"⟩
def RX2 : String := "NameTurner$Place"
def TX2 : u_T := fun k => match k with
  | 0 => ("NameTurner$Place", "name", "[I", true)
  | 1 => ("NameTurner$Place", "folder", "I", false)
  | _ => ("NameTurner$Place", "length", "I", false)
def tyX2 : Nat → FieldType := fun k => match k with
  | 0 => .array .int
  | 1 => .int
  | _ => .int
abbrev wsX20 : List Cond := u_ws RX2 TX2 3
theorem nmX2 : ∀ a, a < 3 → ∀ b, b < 3 → a ≠ b → (TX2 a).2.1 ≠ (TX2 b).2.1 := by decide +kernel
theorem tyX2_ok : ∀ k, k < 3 → parseFieldDescriptor (TX2 k).2.2.1 = some (tyX2 k) := by decide +kernel
abbrev cX2_init : ByteArray := prog_4_method_1_code
def yX2_init : MethodName := ⟨RX2, "<init>", "()V"⟩
abbrev cX2_byteAt : ByteArray := prog_4_method_2_code
def yX2_byteAt : MethodName := ⟨RX2, "byteAt", "(I)I"⟩
abbrev cX2_begin : ByteArray := prog_4_method_3_code
def yX2_begin : MethodName := ⟨RX2, "begin", "(I)V"⟩
abbrev cX2_add : ByteArray := prog_4_method_4_code
def yX2_add : MethodName := ⟨RX2, "add", "(I)V"⟩
abbrev cX2_become : ByteArray := prog_4_method_5_code
def yX2_become : MethodName := ⟨RX2, "become", "(LNameTurner$Place;)V"⟩
abbrev cX2_becomeSpare : ByteArray := prog_4_method_6_code
def yX2_becomeSpare : MethodName := ⟨RX2, "becomeSpare", "(II)V"⟩
abbrev cX2_isSpare : ByteArray := prog_4_method_7_code
def yX2_isSpare : MethodName := ⟨RX2, "isSpare", "()Z"⟩
abbrev cX2_isJust : ByteArray := prog_4_method_8_code
def yX2_isJust : MethodName := ⟨RX2, "isJust", "(LNameTurner$Place;)Z"⟩
abbrev cX2_isAlike : ByteArray := prog_4_method_9_code
def yX2_isAlike : MethodName := ⟨RX2, "isAlike", "(LNameTurner$Place;Z)Z"⟩
abbrev cX2_isNamedBefore : ByteArray := prog_4_method_10_code
def yX2_isNamedBefore : MethodName := ⟨RX2, "isNamedBefore", "(LNameTurner$Place;)Z"⟩
def RX3 : String := "NameTurner$Plan"
def TX3 : u_T := fun k => match k with
  | 0 => ("NameTurner$Plan", "all", "[LNameTurner$Planned;", true)
  | 1 => ("NameTurner$Plan", "stepOf", "[I", true)
  | 2 => ("NameTurner$Plan", "toSpare", "[Z", true)
  | 3 => ("NameTurner$Plan", "fromSpare", "[Z", true)
  | 4 => ("NameTurner$Plan", "made", "Z", false)
  | 5 => ("NameTurner$Plan", "size", "I", false)
  | 6 => ("NameTurner$Plan", "troubles", "I", false)
  | 7 => ("NameTurner$Plan", "stepCount", "I", false)
  | _ => ("NameTurner$Plan", "done", "I", false)
def tyX3 : Nat → FieldType := fun k => match k with
  | 0 => .array (.object "NameTurner$Planned")
  | 1 => .array .int
  | 2 => .array .boolean
  | 3 => .array .boolean
  | 4 => .boolean
  | 5 => .int
  | 6 => .int
  | 7 => .int
  | _ => .int
abbrev wsX30 : List Cond := u_ws RX3 TX3 9
theorem nmX3 : ∀ a, a < 9 → ∀ b, b < 9 → a ≠ b → (TX3 a).2.1 ≠ (TX3 b).2.1 := by decide +kernel
theorem tyX3_ok : ∀ k, k < 9 → parseFieldDescriptor (TX3 k).2.2.1 = some (tyX3 k) := by decide +kernel
abbrev cX3_init : ByteArray := prog_5_method_1_code
def yX3_init : MethodName := ⟨RX3, "<init>", "()V"⟩
abbrev cX3_isMade : ByteArray := prog_5_method_2_code
def yX3_isMade : MethodName := ⟨RX3, "isMade", "()Z"⟩
abbrev cX3_isUnderWay : ByteArray := prog_5_method_3_code
def yX3_isUnderWay : MethodName := ⟨RX3, "isUnderWay", "()Z"⟩
abbrev cX3_canRun : ByteArray := prog_5_method_4_code
def yX3_canRun : MethodName := ⟨RX3, "canRun", "()Z"⟩
abbrev cX3_size : ByteArray := prog_5_method_5_code
def yX3_size : MethodName := ⟨RX3, "size", "()I"⟩
abbrev cX3_troubles : ByteArray := prog_5_method_6_code
def yX3_troubles : MethodName := ⟨RX3, "troubles", "()I"⟩
abbrev cX3_stepCount : ByteArray := prog_5_method_7_code
def yX3_stepCount : MethodName := ⟨RX3, "stepCount", "()I"⟩
abbrev cX3_done : ByteArray := prog_5_method_8_code
def yX3_done : MethodName := ⟨RX3, "done", "()I"⟩
abbrev cX3_setDone : ByteArray := prog_5_method_9_code
def yX3_setDone : MethodName := ⟨RX3, "setDone", "(I)V"⟩
abbrev cX3_hasPlanned : ByteArray := prog_5_method_10_code
def yX3_hasPlanned : MethodName := ⟨RX3, "hasPlanned", "(I)Z"⟩
abbrev cX3_get : ByteArray := prog_5_method_11_code
def yX3_get : MethodName := ⟨RX3, "get", "(I)LNameTurner$Planned;"⟩
abbrev cX3_begin : ByteArray := prog_5_method_12_code
def yX3_begin : MethodName := ⟨RX3, "begin", "()V"⟩
abbrev cX3_isFull : ByteArray := prog_5_method_13_code
def yX3_isFull : MethodName := ⟨RX3, "isFull", "()Z"⟩
abbrev cX3_add : ByteArray := prog_5_method_14_code
def yX3_add : MethodName := ⟨RX3, "add", "(ILNameTurner$Place;I)LNameTurner$Planned;"⟩
abbrev cX3_findTroubles : ByteArray := prog_5_method_15_code
def yX3_findTroubles : MethodName := ⟨RX3, "findTroubles", "(LNameTurner$Store;)V"⟩
abbrev cX3_findTroubleWithOthers : ByteArray := prog_5_method_16_code
def yX3_findTroubleWithOthers : MethodName := ⟨RX3, "findTroubleWithOthers", "(ILNameTurner$Store;)V"⟩
abbrev cX3_find : ByteArray := prog_5_method_17_code
def yX3_find : MethodName := ⟨RX3, "find", "(I)I"⟩
abbrev cX3_findSteps : ByteArray := prog_5_method_18_code
def yX3_findSteps : MethodName := ⟨RX3, "findSteps", "()V"⟩
abbrev cX3_addStep : ByteArray := prog_5_method_19_code
def yX3_addStep : MethodName := ⟨RX3, "addStep", "(IZ)V"⟩
abbrev cX3_canGo : ByteArray := prog_5_method_20_code
def yX3_canGo : MethodName := ⟨RX3, "canGo", "(I)Z"⟩
abbrev cX3_leastThatCanGo : ByteArray := prog_5_method_21_code
def yX3_leastThatCanGo : MethodName := ⟨RX3, "leastThatCanGo", "()I"⟩
abbrev cX3_leastToSpare : ByteArray := prog_5_method_22_code
def yX3_leastToSpare : MethodName := ⟨RX3, "leastToSpare", "()I"⟩
abbrev cX3_hasStep : ByteArray := prog_5_method_23_code
def yX3_hasStep : MethodName := ⟨RX3, "hasStep", "(I)Z"⟩
abbrev cX3_fileOfStep : ByteArray := prog_5_method_24_code
def yX3_fileOfStep : MethodName := ⟨RX3, "fileOfStep", "(I)I"⟩
abbrev cX3_goesToSpare : ByteArray := prog_5_method_25_code
def yX3_goesToSpare : MethodName := ⟨RX3, "goesToSpare", "(I)Z"⟩
abbrev cX3_comesFromSpare : ByteArray := prog_5_method_26_code
def yX3_comesFromSpare : MethodName := ⟨RX3, "comesFromSpare", "(I)Z"⟩
abbrev cX3_startOfStep : ByteArray := prog_5_method_27_code
def yX3_startOfStep : MethodName := ⟨RX3, "startOfStep", "(I)LNameTurner$Place;"⟩
abbrev cX3_goalOfStep : ByteArray := prog_5_method_28_code
def yX3_goalOfStep : MethodName := ⟨RX3, "goalOfStep", "(I)LNameTurner$Place;"⟩
def RX4 : String := "NameTurner$Planned"
def TX4 : u_T := fun k => match k with
  | 0 => ("NameTurner$Planned", "old", "LNameTurner$Place;", true)
  | 1 => ("NameTurner$Planned", "fresh", "LNameTurner$Place;", true)
  | 2 => ("NameTurner$Planned", "spare", "LNameTurner$Place;", true)
  | 3 => ("NameTurner$Planned", "file", "I", false)
  | 4 => ("NameTurner$Planned", "counter", "I", false)
  | 5 => ("NameTurner$Planned", "length", "I", false)
  | 6 => ("NameTurner$Planned", "stays", "Z", false)
  | 7 => ("NameTurner$Planned", "trouble", "I", false)
  | 8 => ("NameTurner$Planned", "troubleWith", "I", false)
  | 9 => ("NameTurner$Planned", "waitsFor", "I", false)
  | 10 => ("NameTurner$Planned", "isSpared", "Z", false)
  | _ => ("NameTurner$Planned", "isThere", "Z", false)
def tyX4 : Nat → FieldType := fun k => match k with
  | 0 => .object "NameTurner$Place"
  | 1 => .object "NameTurner$Place"
  | 2 => .object "NameTurner$Place"
  | 3 => .int
  | 4 => .int
  | 5 => .int
  | 6 => .boolean
  | 7 => .int
  | 8 => .int
  | 9 => .int
  | 10 => .boolean
  | _ => .boolean
abbrev wsX40 : List Cond := u_ws RX4 TX4 12
theorem nmX4 : ∀ a, a < 12 → ∀ b, b < 12 → a ≠ b → (TX4 a).2.1 ≠ (TX4 b).2.1 := by decide +kernel
theorem tyX4_ok : ∀ k, k < 12 → parseFieldDescriptor (TX4 k).2.2.1 = some (tyX4 k) := by decide +kernel
abbrev cX4_init : ByteArray := prog_6_method_1_code
def yX4_init : MethodName := ⟨RX4, "<init>", "()V"⟩
abbrev cX4_begin : ByteArray := prog_6_method_2_code
def yX4_begin : MethodName := ⟨RX4, "begin", "(ILNameTurner$Place;I)V"⟩
abbrev cX4_nameBy : ByteArray := prog_6_method_3_code
def yX4_nameBy : MethodName := ⟨RX4, "nameBy", "(LNameTurner$Rule;LNameTurner$Fit;I)V"⟩
abbrev cX4_addByte : ByteArray := prog_6_method_4_code
def yX4_addByte : MethodName := ⟨RX4, "addByte", "(I)V"⟩
abbrev cX4_addTaken : ByteArray := prog_6_method_5_code
def yX4_addTaken : MethodName := ⟨RX4, "addTaken", "(III)V"⟩
abbrev cX4_addCounter : ByteArray := prog_6_method_6_code
def yX4_addCounter : MethodName := ⟨RX4, "addCounter", "(I)V"⟩
abbrev cX4_findOwnTrouble : ByteArray := prog_6_method_7_code
def yX4_findOwnTrouble : MethodName := ⟨RX4, "findOwnTrouble", "()V"⟩
abbrev cX4_hasName : ByteArray := prog_6_method_8_code
def yX4_hasName : MethodName := ⟨RX4, "hasName", "()Z"⟩
abbrev cX4_setTrouble : ByteArray := prog_6_method_9_code
def yX4_setTrouble : MethodName := ⟨RX4, "setTrouble", "(II)V"⟩
abbrev cX4_isLeft : ByteArray := prog_6_method_10_code
def yX4_isLeft : MethodName := ⟨RX4, "isLeft", "()Z"⟩
abbrev cX4_hasLeftOldPlace : ByteArray := prog_6_method_11_code
def yX4_hasLeftOldPlace : MethodName := ⟨RX4, "hasLeftOldPlace", "()Z"⟩
def RX5 : String := "NameTurner$Rule"
def TX5 : u_T := fun k => match k with
  | 0 => ("NameTurner$Rule", "items", "[I", true)
  | 1 => ("NameTurner$Rule", "wildItems", "[I", true)
  | 2 => ("NameTurner$Rule", "partSigns", "[I", true)
  | 3 => ("NameTurner$Rule", "partFigures", "[I", true)
  | 4 => ("NameTurner$Rule", "itemCount", "I", false)
  | 5 => ("NameTurner$Rule", "wildCount", "I", false)
  | 6 => ("NameTurner$Rule", "partCount", "I", false)
  | _ => ("NameTurner$Rule", "faultAt", "I", false)
def tyX5 : Nat → FieldType := fun k => match k with
  | 0 => .array .int
  | 1 => .array .int
  | 2 => .array .int
  | 3 => .array .int
  | 4 => .int
  | 5 => .int
  | 6 => .int
  | _ => .int
abbrev wsX50 : List Cond := u_ws RX5 TX5 8
theorem nmX5 : ∀ a, a < 8 → ∀ b, b < 8 → a ≠ b → (TX5 a).2.1 ≠ (TX5 b).2.1 := by decide +kernel
theorem tyX5_ok : ∀ k, k < 8 → parseFieldDescriptor (TX5 k).2.2.1 = some (tyX5 k) := by decide +kernel
abbrev cX5_init : ByteArray := prog_7_method_1_code
def yX5_init : MethodName := ⟨RX5, "<init>", "()V"⟩
abbrev cX5_itemCount : ByteArray := prog_7_method_2_code
def yX5_itemCount : MethodName := ⟨RX5, "itemCount", "()I"⟩
abbrev cX5_partCount : ByteArray := prog_7_method_3_code
def yX5_partCount : MethodName := ⟨RX5, "partCount", "()I"⟩
abbrev cX5_placeOfFault : ByteArray := prog_7_method_4_code
def yX5_placeOfFault : MethodName := ⟨RX5, "placeOfFault", "()I"⟩
abbrev cX5_item : ByteArray := prog_7_method_5_code
def yX5_item : MethodName := ⟨RX5, "item", "(I)I"⟩
abbrev cX5_partSign : ByteArray := prog_7_method_6_code
def yX5_partSign : MethodName := ⟨RX5, "partSign", "(I)I"⟩
abbrev cX5_partFigure : ByteArray := prog_7_method_7_code
def yX5_partFigure : MethodName := ⟨RX5, "partFigure", "(I)I"⟩
abbrev cX5_wildItem : ByteArray := prog_7_method_8_code
def yX5_wildItem : MethodName := ⟨RX5, "wildItem", "(I)I"⟩
abbrev cX5_read : ByteArray := prog_7_method_9_code
def yX5_read : MethodName := ⟨RX5, "read", "(LNameTurner$Tape;)I"⟩
abbrev cX5_fault : ByteArray := prog_7_method_10_code
def yX5_fault : MethodName := ⟨RX5, "fault", "(II)I"⟩
abbrev cX5_readItems : ByteArray := prog_7_method_11_code
def yX5_readItems : MethodName := ⟨RX5, "readItems", "(LNameTurner$Tape;)I"⟩
abbrev cX5_addItem : ByteArray := prog_7_method_12_code
def yX5_addItem : MethodName := ⟨RX5, "addItem", "(I)V"⟩
abbrev cX5_readParts : ByteArray := prog_7_method_13_code
def yX5_readParts : MethodName := ⟨RX5, "readParts", "(LNameTurner$Tape;I)I"⟩
abbrev cX5_faultOfFigure : ByteArray := prog_7_method_14_code
def yX5_faultOfFigure : MethodName := ⟨RX5, "faultOfFigure", "(II)I"⟩
abbrev cX5_addPart : ByteArray := prog_7_method_15_code
def yX5_addPart : MethodName := ⟨RX5, "addPart", "(II)V"⟩
def RX6 : String := "NameTurner$Signs"
def TX6 : u_T := fun k => match k with
  | _ => ("", "", "", false)
def tyX6 : Nat → FieldType := fun k => match k with
  | _ => .int
abbrev wsX60 : List Cond := u_ws RX6 TX6 0
theorem nmX6 : ∀ a, a < 0 → ∀ b, b < 0 → a ≠ b → (TX6 a).2.1 ≠ (TX6 b).2.1 := by decide +kernel
theorem tyX6_ok : ∀ k, k < 0 → parseFieldDescriptor (TX6 k).2.2.1 = some (tyX6 k) := by decide +kernel
abbrev cX6_isFigure : ByteArray := prog_8_method_2_code
def yX6_isFigure : MethodName := ⟨RX6, "isFigure", "(I)Z"⟩
abbrev cX6_isSmall : ByteArray := prog_8_method_3_code
def yX6_isSmall : MethodName := ⟨RX6, "isSmall", "(I)Z"⟩
abbrev cX6_isCapital : ByteArray := prog_8_method_4_code
def yX6_isCapital : MethodName := ⟨RX6, "isCapital", "(I)Z"⟩
abbrev cX6_isOfNames : ByteArray := prog_8_method_5_code
def yX6_isOfNames : MethodName := ⟨RX6, "isOfNames", "(I)Z"⟩
abbrev cX6_isWild : ByteArray := prog_8_method_6_code
def yX6_isWild : MethodName := ⟨RX6, "isWild", "(I)Z"⟩
abbrev cX6_isTaken : ByteArray := prog_8_method_7_code
def yX6_isTaken : MethodName := ⟨RX6, "isTaken", "(I)Z"⟩
abbrev cX6_capital : ByteArray := prog_8_method_8_code
def yX6_capital : MethodName := ⟨RX6, "capital", "(I)I"⟩
abbrev cX6_small : ByteArray := prog_8_method_9_code
def yX6_small : MethodName := ⟨RX6, "small", "(I)I"⟩
def RX7 : String := "NameTurner$Store"
def TX7 : u_T := fun k => match k with
  | 0 => ("NameTurner$Store", "places", "[LNameTurner$Place;", true)
  | 1 => ("NameTurner$Store", "is", "[Z", true)
  | 2 => ("NameTurner$Store", "listing", "[I", true)
  | 3 => ("NameTurner$Store", "came", "I", false)
  | 4 => ("NameTurner$Store", "are", "I", false)
  | _ => ("NameTurner$Store", "folding", "Z", false)
def tyX7 : Nat → FieldType := fun k => match k with
  | 0 => .array (.object "NameTurner$Place")
  | 1 => .array .boolean
  | 2 => .array .int
  | 3 => .int
  | 4 => .int
  | _ => .boolean
abbrev wsX70 : List Cond := u_ws RX7 TX7 6
theorem nmX7 : ∀ a, a < 6 → ∀ b, b < 6 → a ≠ b → (TX7 a).2.1 ≠ (TX7 b).2.1 := by decide +kernel
theorem tyX7_ok : ∀ k, k < 6 → parseFieldDescriptor (TX7 k).2.2.1 = some (tyX7 k) := by decide +kernel
abbrev cX7_init : ByteArray := prog_9_method_1_code
def yX7_init : MethodName := ⟨RX7, "<init>", "()V"⟩
abbrev cX7_howManyCame : ByteArray := prog_9_method_2_code
def yX7_howManyCame : MethodName := ⟨RX7, "howManyCame", "()I"⟩
abbrev cX7_howManyAre : ByteArray := prog_9_method_3_code
def yX7_howManyAre : MethodName := ⟨RX7, "howManyAre", "()I"⟩
abbrev cX7_isFull : ByteArray := prog_9_method_4_code
def yX7_isFull : MethodName := ⟨RX7, "isFull", "()Z"⟩
abbrev cX7_isFolding : ByteArray := prog_9_method_5_code
def yX7_isFolding : MethodName := ⟨RX7, "isFolding", "()Z"⟩
abbrev cX7_setFolding : ByteArray := prog_9_method_6_code
def yX7_setFolding : MethodName := ⟨RX7, "setFolding", "(Z)V"⟩
abbrev cX7_has : ByteArray := prog_9_method_7_code
def yX7_has : MethodName := ⟨RX7, "has", "(I)Z"⟩
abbrev cX7_placeOf : ByteArray := prog_9_method_8_code
def yX7_placeOf : MethodName := ⟨RX7, "placeOf", "(I)LNameTurner$Place;"⟩
abbrev cX7_add : ByteArray := prog_9_method_9_code
def yX7_add : MethodName := ⟨RX7, "add", "(LNameTurner$Place;)I"⟩
abbrev cX7_drop : ByteArray := prog_9_method_10_code
def yX7_drop : MethodName := ⟨RX7, "drop", "(I)V"⟩
abbrev cX7_findAlike : ByteArray := prog_9_method_11_code
def yX7_findAlike : MethodName := ⟨RX7, "findAlike", "(LNameTurner$Place;I)I"⟩
abbrev cX7_findJust : ByteArray := prog_9_method_12_code
def yX7_findJust : MethodName := ⟨RX7, "findJust", "(LNameTurner$Place;)I"⟩
abbrev cX7_howManySpare : ByteArray := prog_9_method_13_code
def yX7_howManySpare : MethodName := ⟨RX7, "howManySpare", "()I"⟩
abbrev cX7_list : ByteArray := prog_9_method_14_code
def yX7_list : MethodName := ⟨RX7, "list", "(IZ)I"⟩
abbrev cX7_isNamedBefore : ByteArray := prog_9_method_15_code
def yX7_isNamedBefore : MethodName := ⟨RX7, "isNamedBefore", "(II)Z"⟩
abbrev cX7_listed : ByteArray := prog_9_method_16_code
def yX7_listed : MethodName := ⟨RX7, "listed", "(I)I"⟩
def RX8 : String := "NameTurner$Tape"
def TX8 : u_T := fun k => match k with
  | 0 => ("NameTurner$Tape", "bytes", "[I", true)
  | _ => ("NameTurner$Tape", "length", "I", false)
def tyX8 : Nat → FieldType := fun k => match k with
  | 0 => .array .int
  | _ => .int
abbrev wsX80 : List Cond := u_ws RX8 TX8 2
theorem nmX8 : ∀ a, a < 2 → ∀ b, b < 2 → a ≠ b → (TX8 a).2.1 ≠ (TX8 b).2.1 := by decide +kernel
theorem tyX8_ok : ∀ k, k < 2 → parseFieldDescriptor (TX8 k).2.2.1 = some (tyX8 k) := by decide +kernel
abbrev cX8_init : ByteArray := prog_10_method_1_code
def yX8_init : MethodName := ⟨RX8, "<init>", "()V"⟩
abbrev cX8_length : ByteArray := prog_10_method_2_code
def yX8_length : MethodName := ⟨RX8, "length", "()I"⟩
abbrev cX8_byteAt : ByteArray := prog_10_method_3_code
def yX8_byteAt : MethodName := ⟨RX8, "byteAt", "(I)I"⟩
abbrev cX8_hasRoom : ByteArray := prog_10_method_4_code
def yX8_hasRoom : MethodName := ⟨RX8, "hasRoom", "(I)Z"⟩
abbrev cX8_addNumber : ByteArray := prog_10_method_5_code
def yX8_addNumber : MethodName := ⟨RX8, "addNumber", "(I)V"⟩
abbrev cX8_cut : ByteArray := prog_10_method_6_code
def yX8_cut : MethodName := ⟨RX8, "cut", "(I)Z"⟩
abbrev cX8_clear : ByteArray := prog_10_method_7_code
def yX8_clear : MethodName := ⟨RX8, "clear", "()V"⟩
abbrev cX8_isName : ByteArray := prog_10_method_8_code
def yX8_isName : MethodName := ⟨RX8, "isName", "()Z"⟩
def RX9 : String := "NameTurner"
def TX9 : u_T := fun k => match k with
  | 0 => ("NameTurner", "tape", "LNameTurner$Tape;", true)
  | 1 => ("NameTurner", "told", "LNameTurner$Place;", true)
  | 2 => ("NameTurner", "store", "LNameTurner$Store;", true)
  | 3 => ("NameTurner", "links", "LNameTurner$Links;", true)
  | 4 => ("NameTurner", "fit", "LNameTurner$Fit;", true)
  | 5 => ("NameTurner", "plan", "LNameTurner$Plan;", true)
  | 6 => ("NameTurner", "rule", "LNameTurner$Rule;", false)
  | 7 => ("NameTurner", "draft", "LNameTurner$Rule;", false)
  | 8 => ("NameTurner", "hasRule", "Z", false)
  | 9 => ("NameTurner", "faultPlace", "I", false)
  | _ => ("NameTurner", "stuckBy", "I", false)
def tyX9 : Nat → FieldType := fun k => match k with
  | 0 => .object "NameTurner$Tape"
  | 1 => .object "NameTurner$Place"
  | 2 => .object "NameTurner$Store"
  | 3 => .object "NameTurner$Links"
  | 4 => .object "NameTurner$Fit"
  | 5 => .object "NameTurner$Plan"
  | 6 => .object "NameTurner$Rule"
  | 7 => .object "NameTurner$Rule"
  | 8 => .boolean
  | 9 => .int
  | _ => .int
abbrev wsX90 : List Cond := u_ws RX9 TX9 11
theorem nmX9 : ∀ a, a < 11 → ∀ b, b < 11 → a ≠ b → (TX9 a).2.1 ≠ (TX9 b).2.1 := by decide +kernel
theorem tyX9_ok : ∀ k, k < 11 → parseFieldDescriptor (TX9 k).2.2.1 = some (tyX9 k) := by decide +kernel
abbrev cX9_init : ByteArray := prog_1_method_1_code
def yX9_init : MethodName := ⟨RX9, "<init>", "()V"⟩
abbrev cX9_folds : ByteArray := prog_1_method_2_code
def yX9_folds : MethodName := ⟨RX9, "folds", "(Z)Z"⟩
abbrev cX9_feed : ByteArray := prog_1_method_3_code
def yX9_feed : MethodName := ⟨RX9, "feed", "(IIIII)I"⟩
abbrev cX9_end : ByteArray := prog_1_method_4_code
def yX9_end : MethodName := ⟨RX9, "end", "(I)I"⟩
abbrev cX9_file : ByteArray := prog_1_method_5_code
def yX9_file : MethodName := ⟨RX9, "file", "(I)I"⟩
abbrev cX9_remove : ByteArray := prog_1_method_6_code
def yX9_remove : MethodName := ⟨RX9, "remove", "(I)Z"⟩
abbrev cX9_hand : ByteArray := prog_1_method_7_code
def yX9_hand : MethodName := ⟨RX9, "hand", "(II)I"⟩
abbrev cX9_at : ByteArray := prog_1_method_8_code
def yX9_at : MethodName := ⟨RX9, "at", "(I)I"⟩
abbrev cX9_rule : ByteArray := prog_1_method_9_code
def yX9_rule : MethodName := ⟨RX9, "rule", "()I"⟩
abbrev cX9_place : ByteArray := prog_1_method_10_code
def yX9_place : MethodName := ⟨RX9, "place", "()I"⟩
abbrev cX9_fits : ByteArray := prog_1_method_11_code
def yX9_fits : MethodName := ⟨RX9, "fits", "(II)I"⟩
abbrev cX9_plan : ByteArray := prog_1_method_12_code
def yX9_plan : MethodName := ⟨RX9, "plan", "(IIIIZ)I"⟩
abbrev cX9_planned : ByteArray := prog_1_method_13_code
def yX9_planned : MethodName := ⟨RX9, "planned", "(II)I"⟩
abbrev cX9_newName : ByteArray := prog_1_method_14_code
def yX9_newName : MethodName := ⟨RX9, "newName", "(II)I"⟩
abbrev cX9_steps : ByteArray := prog_1_method_15_code
def yX9_steps : MethodName := ⟨RX9, "steps", "()I"⟩
abbrev cX9_step : ByteArray := prog_1_method_16_code
def yX9_step : MethodName := ⟨RX9, "step", "(II)I"⟩
abbrev cX9_go : ByteArray := prog_1_method_17_code
def yX9_go : MethodName := ⟨RX9, "go", "(I)I"⟩
abbrev cX9_back : ByteArray := prog_1_method_18_code
def yX9_back : MethodName := ⟨RX9, "back", "(I)I"⟩
abbrev cX9_stuck : ByteArray := prog_1_method_19_code
def yX9_stuck : MethodName := ⟨RX9, "stuck", "()I"⟩
abbrev cX9_link : ByteArray := prog_1_method_20_code
def yX9_link : MethodName := ⟨RX9, "link", "(I)I"⟩
abbrev cX9_linkOf : ByteArray := prog_1_method_21_code
def yX9_linkOf : MethodName := ⟨RX9, "linkOf", "(II)I"⟩
abbrev cX9_of : ByteArray := prog_1_method_22_code
def yX9_of : MethodName := ⟨RX9, "of", "(II)I"⟩
abbrev cX9_count : ByteArray := prog_1_method_23_code
def yX9_count : MethodName := ⟨RX9, "count", "(I)I"⟩
abbrev cX9_isFolder : ByteArray := prog_1_method_24_code
def yX9_isFolder : MethodName := ⟨RX9, "isFolder", "(I)Z"⟩
abbrev cX9_takePlace : ByteArray := prog_1_method_25_code
def yX9_takePlace : MethodName := ⟨RX9, "takePlace", "(I)Z"⟩
abbrev cX9_tryMove : ByteArray := prog_1_method_26_code
def yX9_tryMove : MethodName := ⟨RX9, "tryMove", "(ILNameTurner$Place;LNameTurner$Place;)I"⟩
abbrev cX9_move : ByteArray := prog_1_method_27_code
def yX9_move : MethodName := ⟨RX9, "move", "(ILNameTurner$Place;)V"⟩
def RX10 : String := "NameTurnerModel"
def TX10 : u_T := fun k => match k with
  | 0 => ("NameTurnerModel", "thrown", "I", false)
  | 1 => ("NameTurnerModel", "name", "[B", true)
  | 2 => ("NameTurnerModel", "size", "[I", true)
  | 3 => ("NameTurnerModel", "folder", "[I", true)
  | 4 => ("NameTurnerModel", "isFolding", "Z", false)
  | 5 => ("NameTurnerModel", "came", "I", false)
  | 6 => ("NameTurnerModel", "isThere", "[Z", true)
  | 7 => ("NameTurnerModel", "links", "I", false)
  | 8 => ("NameTurnerModel", "tape", "[B", true)
  | 9 => ("NameTurnerModel", "taped", "I", false)
  | 10 => ("NameTurnerModel", "items", "I", false)
  | 11 => ("NameTurnerModel", "parts", "I", false)
  | 12 => ("NameTurnerModel", "item", "[I", true)
  | 13 => ("NameTurnerModel", "part", "[I", true)
  | 14 => ("NameTurnerModel", "figure", "[I", true)
  | 15 => ("NameTurnerModel", "newItems", "I", false)
  | 16 => ("NameTurnerModel", "newParts", "I", false)
  | 17 => ("NameTurnerModel", "newItem", "[I", true)
  | 18 => ("NameTurnerModel", "newPart", "[I", true)
  | 19 => ("NameTurnerModel", "newFigure", "[I", true)
  | 20 => ("NameTurnerModel", "lastPlace", "I", false)
  | 21 => ("NameTurnerModel", "fault", "I", false)
  | 22 => ("NameTurnerModel", "faultPlace", "I", false)
  | 23 => ("NameTurnerModel", "took", "[I", true)
  | 24 => ("NameTurnerModel", "fails", "[Z", true)
  | 25 => ("NameTurnerModel", "hasPlan", "Z", false)
  | 26 => ("NameTurnerModel", "plannedMany", "I", false)
  | 27 => ("NameTurnerModel", "plannedFile", "[I", true)
  | 28 => ("NameTurnerModel", "counter", "[I", true)
  | 29 => ("NameTurnerModel", "newSize", "[I", true)
  | 30 => ("NameTurnerModel", "trouble", "[I", true)
  | 31 => ("NameTurnerModel", "with", "[I", true)
  | 32 => ("NameTurnerModel", "stays", "[Z", true)
  | 33 => ("NameTurnerModel", "steps", "I", false)
  | 34 => ("NameTurnerModel", "done", "I", false)
  | 35 => ("NameTurnerModel", "stuck", "I", false)
  | 36 => ("NameTurnerModel", "stepFile", "[I", true)
  | 37 => ("NameTurnerModel", "isTo", "[Z", true)
  | 38 => ("NameTurnerModel", "isFrom", "[Z", true)
  | 39 => ("NameTurnerModel", "stepName", "[B", true)
  | 40 => ("NameTurnerModel", "stepSize", "[I", true)
  | 41 => ("NameTurnerModel", "stepFolder", "[I", true)
  | 42 => ("NameTurnerModel", "isSpared", "[Z", true)
  | _ => ("NameTurnerModel", "isDone", "[Z", true)
def tyX10 : Nat → FieldType := fun k => match k with
  | 0 => .int
  | 1 => .array .byte
  | 2 => .array .int
  | 3 => .array .int
  | 4 => .boolean
  | 5 => .int
  | 6 => .array .boolean
  | 7 => .int
  | 8 => .array .byte
  | 9 => .int
  | 10 => .int
  | 11 => .int
  | 12 => .array .int
  | 13 => .array .int
  | 14 => .array .int
  | 15 => .int
  | 16 => .int
  | 17 => .array .int
  | 18 => .array .int
  | 19 => .array .int
  | 20 => .int
  | 21 => .int
  | 22 => .int
  | 23 => .array .int
  | 24 => .array .boolean
  | 25 => .boolean
  | 26 => .int
  | 27 => .array .int
  | 28 => .array .int
  | 29 => .array .int
  | 30 => .array .int
  | 31 => .array .int
  | 32 => .array .boolean
  | 33 => .int
  | 34 => .int
  | 35 => .int
  | 36 => .array .int
  | 37 => .array .boolean
  | 38 => .array .boolean
  | 39 => .array .byte
  | 40 => .array .int
  | 41 => .array .int
  | 42 => .array .boolean
  | _ => .array .boolean
abbrev wsX100 : List Cond := u_ws RX10 TX10 44
theorem nmX10 : ∀ a, a < 44 → ∀ b, b < 44 → a ≠ b → (TX10 a).2.1 ≠ (TX10 b).2.1 := by decide +kernel
theorem tyX10_ok : ∀ k, k < 44 → parseFieldDescriptor (TX10 k).2.2.1 = some (tyX10 k) := by decide +kernel
abbrev cX10_thrown : ByteArray := prog_12_method_1_code
def yX10_thrown : MethodName := ⟨RX10, "thrown", "()I"⟩
abbrev cX10_within : ByteArray := prog_12_method_2_code
def yX10_within : MethodName := ⟨RX10, "within", "(III)Z"⟩
abbrev cX10_init : ByteArray := prog_12_method_3_code
def yX10_init : MethodName := ⟨RX10, "<init>", "()V"⟩
abbrev cX10_low : ByteArray := prog_12_method_4_code
def yX10_low : MethodName := ⟨RX10, "low", "(I)I"⟩
abbrev cX10_high : ByteArray := prog_12_method_5_code
def yX10_high : MethodName := ⟨RX10, "high", "(I)I"⟩
abbrev cX10_isJust : ByteArray := prog_12_method_6_code
def yX10_isJust : MethodName := ⟨RX10, "isJust", "(II)Z"⟩
abbrev cX10_isAlike : ByteArray := prog_12_method_7_code
def yX10_isAlike : MethodName := ⟨RX10, "isAlike", "(II)Z"⟩
abbrev cX10_copies : ByteArray := prog_12_method_8_code
def yX10_copies : MethodName := ⟨RX10, "copies", "(II)V"⟩
abbrev cX10_alikeTo : ByteArray := prog_12_method_9_code
def yX10_alikeTo : MethodName := ⟨RX10, "alikeTo", "(II)I"⟩
abbrev cX10_goesTo : ByteArray := prog_12_method_10_code
def yX10_goesTo : MethodName := ⟨RX10, "goesTo", "(II)V"⟩
abbrev cX10_folds : ByteArray := prog_12_method_11_code
def yX10_folds : MethodName := ⟨RX10, "folds", "(Z)Z"⟩
abbrev cX10_there : ByteArray := prog_12_method_12_code
def yX10_there : MethodName := ⟨RX10, "there", "()I"⟩
abbrev cX10_feed : ByteArray := prog_12_method_13_code
def yX10_feed : MethodName := ⟨RX10, "feed", "(IIIII)I"⟩
abbrev cX10_end : ByteArray := prog_12_method_14_code
def yX10_end : MethodName := ⟨RX10, "end", "(I)I"⟩
abbrev cX10_isFigure : ByteArray := prog_12_method_15_code
def yX10_isFigure : MethodName := ⟨RX10, "isFigure", "(I)Z"⟩
abbrev cX10_isNameByte : ByteArray := prog_12_method_16_code
def yX10_isNameByte : MethodName := ⟨RX10, "isNameByte", "(I)Z"⟩
abbrev cX10_takes : ByteArray := prog_12_method_17_code
def yX10_takes : MethodName := ⟨RX10, "takes", "(I)Z"⟩
abbrev cX10_file : ByteArray := prog_12_method_18_code
def yX10_file : MethodName := ⟨RX10, "file", "(I)I"⟩
abbrev cX10_isFile : ByteArray := prog_12_method_19_code
def yX10_isFile : MethodName := ⟨RX10, "isFile", "(I)Z"⟩
abbrev cX10_remove : ByteArray := prog_12_method_20_code
def yX10_remove : MethodName := ⟨RX10, "remove", "(I)Z"⟩
abbrev cX10_hand : ByteArray := prog_12_method_21_code
def yX10_hand : MethodName := ⟨RX10, "hand", "(II)I"⟩
abbrev cX10_at : ByteArray := prog_12_method_22_code
def yX10_at : MethodName := ⟨RX10, "at", "(I)I"⟩
abbrev cX10_fails : ByteArray := prog_12_method_23_code
def yX10_fails : MethodName := ⟨RX10, "fails", "(II)V"⟩
abbrev cX10_readItems : ByteArray := prog_12_method_24_code
def yX10_readItems : MethodName := ⟨RX10, "readItems", "()I"⟩
abbrev cX10_wilds : ByteArray := prog_12_method_25_code
def yX10_wilds : MethodName := ⟨RX10, "wilds", "([II)I"⟩
abbrev cX10_readPart : ByteArray := prog_12_method_26_code
def yX10_readPart : MethodName := ⟨RX10, "readPart", "(I)I"⟩
abbrev cX10_rule : ByteArray := prog_12_method_27_code
def yX10_rule : MethodName := ⟨RX10, "rule", "()I"⟩
abbrev cX10_place : ByteArray := prog_12_method_28_code
def yX10_place : MethodName := ⟨RX10, "place", "()I"⟩
abbrev cX10_goes : ByteArray := prog_12_method_29_code
def yX10_goes : MethodName := ⟨RX10, "goes", "(III)Z"⟩
abbrev cX10_takes_ : ByteArray := prog_12_method_30_code
def yX10_takes_ : MethodName := ⟨RX10, "takes", "(IIII)Z"⟩
abbrev cX10_isFit : ByteArray := prog_12_method_31_code
def yX10_isFit : MethodName := ⟨RX10, "isFit", "(I)Z"⟩
abbrev cX10_firstOf : ByteArray := prog_12_method_32_code
def yX10_firstOf : MethodName := ⟨RX10, "firstOf", "(I)I"⟩
abbrev cX10_fits : ByteArray := prog_12_method_33_code
def yX10_fits : MethodName := ⟨RX10, "fits", "(II)I"⟩
abbrev cX10_isEarlier : ByteArray := prog_12_method_34_code
def yX10_isEarlier : MethodName := ⟨RX10, "isEarlier", "(II)Z"⟩
abbrev cX10_adds : ByteArray := prog_12_method_35_code
def yX10_adds : MethodName := ⟨RX10, "adds", "(II)V"⟩
abbrev cX10_wild : ByteArray := prog_12_method_36_code
def yX10_wild : MethodName := ⟨RX10, "wild", "(I)I"⟩
abbrev cX10_addsCounter : ByteArray := prog_12_method_37_code
def yX10_addsCounter : MethodName := ⟨RX10, "addsCounter", "(II)V"⟩
abbrev cX10_makes : ByteArray := prog_12_method_38_code
def yX10_makes : MethodName := ⟨RX10, "makes", "(I)V"⟩
abbrev cX10_isBad : ByteArray := prog_12_method_39_code
def yX10_isBad : MethodName := ⟨RX10, "isBad", "(I)Z"⟩
abbrev cX10_placeOf : ByteArray := prog_12_method_40_code
def yX10_placeOf : MethodName := ⟨RX10, "placeOf", "(I)I"⟩
abbrev cX10_findTrouble : ByteArray := prog_12_method_41_code
def yX10_findTrouble : MethodName := ⟨RX10, "findTrouble", "(I)V"⟩
abbrev cX10_plan : ByteArray := prog_12_method_42_code
def yX10_plan : MethodName := ⟨RX10, "plan", "(IIIIZ)I"⟩
abbrev cX10_planned : ByteArray := prog_12_method_43_code
def yX10_planned : MethodName := ⟨RX10, "planned", "(II)I"⟩
abbrev cX10_newName : ByteArray := prog_12_method_44_code
def yX10_newName : MethodName := ⟨RX10, "newName", "(II)I"⟩
abbrev cX10_troubles : ByteArray := prog_12_method_45_code
def yX10_troubles : MethodName := ⟨RX10, "troubles", "()I"⟩
abbrev cX10_isUnderWay : ByteArray := prog_12_method_46_code
def yX10_isUnderWay : MethodName := ⟨RX10, "isUnderWay", "()Z"⟩
abbrev cX10_keeps : ByteArray := prog_12_method_47_code
def yX10_keeps : MethodName := ⟨RX10, "keeps", "(III)V"⟩
abbrev cX10_lays : ByteArray := prog_12_method_48_code
def yX10_lays : MethodName := ⟨RX10, "lays", "(II)V"⟩
abbrev cX10_isClear : ByteArray := prog_12_method_49_code
def yX10_isClear : MethodName := ⟨RX10, "isClear", "(II)Z"⟩
abbrev cX10_next : ByteArray := prog_12_method_50_code
def yX10_next : MethodName := ⟨RX10, "next", "(Z)I"⟩
abbrev cX10_spare : ByteArray := prog_12_method_51_code
def yX10_spare : MethodName := ⟨RX10, "spare", "(I)V"⟩
abbrev cX10_findSteps : ByteArray := prog_12_method_52_code
def yX10_findSteps : MethodName := ⟨RX10, "findSteps", "()V"⟩
abbrev cX10_writes : ByteArray := prog_12_method_53_code
def yX10_writes : MethodName := ⟨RX10, "writes", "(IZ)V"⟩
abbrev cX10_steps : ByteArray := prog_12_method_54_code
def yX10_steps : MethodName := ⟨RX10, "steps", "()I"⟩
abbrev cX10_step : ByteArray := prog_12_method_55_code
def yX10_step : MethodName := ⟨RX10, "step", "(II)I"⟩
abbrev cX10_does : ByteArray := prog_12_method_56_code
def yX10_does : MethodName := ⟨RX10, "does", "(II)I"⟩
abbrev cX10_can : ByteArray := prog_12_method_57_code
def yX10_can : MethodName := ⟨RX10, "can", "(I)Z"⟩
abbrev cX10_go : ByteArray := prog_12_method_58_code
def yX10_go : MethodName := ⟨RX10, "go", "(I)I"⟩
abbrev cX10_back : ByteArray := prog_12_method_59_code
def yX10_back : MethodName := ⟨RX10, "back", "(I)I"⟩
abbrev cX10_stuck : ByteArray := prog_12_method_60_code
def yX10_stuck : MethodName := ⟨RX10, "stuck", "()I"⟩
abbrev cX10_link : ByteArray := prog_12_method_61_code
def yX10_link : MethodName := ⟨RX10, "link", "(I)I"⟩
abbrev cX10_lookAt : ByteArray := prog_12_method_62_code
def yX10_lookAt : MethodName := ⟨RX10, "lookAt", "(II)I"⟩
abbrev cX10_linkOf : ByteArray := prog_12_method_63_code
def yX10_linkOf : MethodName := ⟨RX10, "linkOf", "(II)I"⟩
abbrev cX10_of : ByteArray := prog_12_method_64_code
def yX10_of : MethodName := ⟨RX10, "of", "(II)I"⟩
abbrev cX10_spared : ByteArray := prog_12_method_65_code
def yX10_spared : MethodName := ⟨RX10, "spared", "()I"⟩
abbrev cX10_count : ByteArray := prog_12_method_66_code
def yX10_count : MethodName := ⟨RX10, "count", "(I)I"⟩
def RJ9 : String := "java/lang/Math"
def TJ9 : u_T := fun k => match k with
  | _ => ("", "", "", false)
def tyJ9 : Nat → FieldType := fun k => match k with
  | _ => .int
abbrev wsJ90 : List Cond := u_ws RJ9 TJ9 0
theorem nmJ9 : ∀ a, a < 0 → ∀ b, b < 0 → a ≠ b → (TJ9 a).2.1 ≠ (TJ9 b).2.1 := by decide +kernel
theorem tyJ9_ok : ∀ k, k < 0 → parseFieldDescriptor (TJ9 k).2.2.1 = some (tyJ9 k) := by decide +kernel
abbrev cJ9_min_7cf53 : ByteArray := prog_14_method_69_code
def yJ9_min_7cf53 : MethodName := ⟨RJ9, "min", "(II)I"⟩
def RJ0 : String := "java/lang/String"
def TJ0 : u_T := fun k => match k with
  | _ => ("", "", "", false)
def tyJ0 : Nat → FieldType := fun k => match k with
  | _ => .int
abbrev wsJ00 : List Cond := u_ws RJ0 TJ0 0
theorem nmJ0 : ∀ a, a < 0 → ∀ b, b < 0 → a ≠ b → (TJ0 a).2.1 ≠ (TJ0 b).2.1 := by decide +kernel
theorem tyJ0_ok : ∀ k, k < 0 → parseFieldDescriptor (TJ0 k).2.2.1 = some (tyJ0 k) := by decide +kernel
def RL : String := "NameTurnerLaw"
abbrev cL_of : ByteArray := method_3_code
def yL_of : MethodName := ⟨RL, "of", "(LNameTurner;II[J)I"⟩
abbrev cL_law : ByteArray := code
def yL_law : MethodName := ⟨RL, "law", "([I)Z"⟩
def wsX0_init : List Cond := .code yX0_init cX0_init 1 none :: ([.methodLink RX0 3 objectInit, .instanceMethod objectInit, .code objectInit ⟨#[0xb1]⟩ 1 none, .arrayClass .boolean, .fieldLink RX0 11 "NameTurner$Fit" "can" "[Z", .arrayClass .int, .fieldLink RX0 15 "NameTurner$Fit" "took" "[I", .fieldLink RX0 19 "NameTurner$Fit" "start" "[I"] ++ wsX00)
def wsX0_tookBy : List Cond := .code yX0_tookBy cX0_tookBy 2 (some .int) :: ([.fieldLink RX0 15 "NameTurner$Fit" "took" "[I"] ++ wsX00)
def wsX0_startOf : List Cond := .code yX0_startOf cX0_startOf 2 (some .int) :: ([.fieldLink RX0 19 "NameTurner$Fit" "start" "[I"] ++ wsX00)
def wsX5_itemCount : List Cond := .code yX5_itemCount cX5_itemCount 1 (some .int) :: ([.fieldLink RX5 24 "NameTurner$Rule" "itemCount" "I"] ++ wsX50)
def wsX5_item : List Cond := .code yX5_item cX5_item 2 (some .int) :: ([.fieldLink RX5 24 "NameTurner$Rule" "itemCount" "I", .fieldLink RX5 9 "NameTurner$Rule" "items" "[I"] ++ wsX50)
def wsX0_isWay : List Cond := .code yX0_isWay cX0_isWay 3 (some .boolean) :: ([.fieldLink RX0 11 "NameTurner$Fit" "can" "[Z"] ++ wsX00)
def wsX2_byteAt : List Cond := .code yX2_byteAt cX2_byteAt 2 (some .int) :: ([.fieldLink RX2 19 "NameTurner$Place" "length" "I", .fieldLink RX2 9 "NameTurner$Place" "name" "[I"] ++ wsX20)
def wsX6_isFigure : List Cond := .code yX6_isFigure cX6_isFigure 1 (some .boolean) :: ([])
def wsX0_takes : List Cond := .code yX0_takes cX0_takes 2 (some .boolean) :: ([.methodLink RX0 60 yX6_isFigure, .static yX6_isFigure, .initialized RX6, .code yX6_isFigure cX6_isFigure 1 (some .boolean)])
def wsX0_hasWay : List Cond := .code yX0_hasWay cX0_hasWay 5 (some .boolean) :: ([.methodLink RX0 26 yX0_isWay, .instanceMethod yX0_isWay, .selects RX0 yX0_isWay yX0_isWay, .initialized RX0, .code yX0_isWay cX0_isWay 3 (some .boolean), .fieldLink RX0 11 "NameTurner$Fit" "can" "[Z", .methodLink RX0 54 yX2_byteAt, .instanceMethod yX2_byteAt, .selects RX2 yX2_byteAt yX2_byteAt, .initialized RX2, .code yX2_byteAt cX2_byteAt 2 (some .int), .fieldLink RX2 19 "NameTurner$Place" "length" "I", .fieldLink RX2 9 "NameTurner$Place" "name" "[I", .methodLink RX0 57 yX0_takes, .static yX0_takes, .code yX0_takes cX0_takes 2 (some .boolean), .methodLink RX0 60 yX6_isFigure, .static yX6_isFigure, .initialized RX6, .code yX6_isFigure cX6_isFigure 1 (some .boolean)] ++ wsX20 ++ wsX00)
def wsX0_findWays_r1 : List Cond := [Cond.fieldLink RX0 11 "NameTurner$Fit" "can" "[Z", Cond.methodLink RX0 30 yX5_itemCount, Cond.instanceMethod yX5_itemCount, Cond.selects RX5 yX5_itemCount yX5_itemCount, Cond.initialized RX5, Cond.code yX5_itemCount cX5_itemCount 1 (some .int), Cond.fieldLink RX5 24 "NameTurner$Rule" "itemCount" "I", Cond.methodLink RX0 46 yX5_item, Cond.instanceMethod yX5_item, Cond.selects RX5 yX5_item yX5_item, Cond.code yX5_item cX5_item 2 (some .int), Cond.fieldLink RX5 9 "NameTurner$Rule" "items" "[I", Cond.methodLink RX0 50 yX0_hasWay, Cond.instanceMethod yX0_hasWay, Cond.selects RX0 yX0_hasWay yX0_hasWay, Cond.initialized RX0, Cond.code yX0_hasWay cX0_hasWay 5 (some .boolean), Cond.methodLink RX0 26 yX0_isWay, Cond.instanceMethod yX0_isWay, Cond.selects RX0 yX0_isWay yX0_isWay, Cond.code yX0_isWay cX0_isWay 3 (some .boolean), Cond.methodLink RX0 54 yX2_byteAt, Cond.instanceMethod yX2_byteAt, Cond.selects RX2 yX2_byteAt yX2_byteAt]
def wsX0_findWays_r2 : List Cond := [Cond.initialized RX2, Cond.code yX2_byteAt cX2_byteAt 2 (some .int), Cond.fieldLink RX2 19 "NameTurner$Place" "length" "I", Cond.fieldLink RX2 9 "NameTurner$Place" "name" "[I", Cond.methodLink RX0 57 yX0_takes, Cond.static yX0_takes, Cond.code yX0_takes cX0_takes 2 (some .boolean), Cond.methodLink RX0 60 yX6_isFigure, Cond.static yX6_isFigure, Cond.initialized RX6, Cond.code yX6_isFigure cX6_isFigure 1 (some .boolean)]
def wsX0_findWays : List Cond := .code yX0_findWays cX0_findWays 6 none :: ((wsX0_findWays_r1 ++ wsX0_findWays_r2) ++ wsX20 ++ wsX00 ++ wsX50)
def wsX0_fewest : List Cond := .code yX0_fewest cX0_fewest 5 (some .int) :: ([.methodLink RX0 26 yX0_isWay, .instanceMethod yX0_isWay, .selects RX0 yX0_isWay yX0_isWay, .initialized RX0, .code yX0_isWay cX0_isWay 3 (some .boolean), .fieldLink RX0 11 "NameTurner$Fit" "can" "[Z"] ++ wsX20 ++ wsX00)
def wsX0_mostFigures : List Cond := .code yX0_mostFigures cX0_mostFigures 6 (some .int) :: ([.methodLink RX0 54 yX2_byteAt, .instanceMethod yX2_byteAt, .selects RX2 yX2_byteAt yX2_byteAt, .initialized RX2, .code yX2_byteAt cX2_byteAt 2 (some .int), .fieldLink RX2 19 "NameTurner$Place" "length" "I", .fieldLink RX2 9 "NameTurner$Place" "name" "[I", .methodLink RX0 60 yX6_isFigure, .static yX6_isFigure, .initialized RX6, .code yX6_isFigure cX6_isFigure 1 (some .boolean), .methodLink RX0 26 yX0_isWay, .instanceMethod yX0_isWay, .selects RX0 yX0_isWay yX0_isWay, .initialized RX0, .code yX0_isWay cX0_isWay 3 (some .boolean), .fieldLink RX0 11 "NameTurner$Fit" "can" "[Z"] ++ wsX20 ++ wsX00)
def wsX0_firstChoice_r1 : List Cond := [Cond.methodLink RX0 46 yX5_item, Cond.instanceMethod yX5_item, Cond.selects RX5 yX5_item yX5_item, Cond.initialized RX5, Cond.code yX5_item cX5_item 2 (some .int), Cond.fieldLink RX5 24 "NameTurner$Rule" "itemCount" "I", Cond.fieldLink RX5 9 "NameTurner$Rule" "items" "[I", Cond.methodLink RX0 66 yX0_fewest, Cond.instanceMethod yX0_fewest, Cond.selects RX0 yX0_fewest yX0_fewest, Cond.initialized RX0, Cond.code yX0_fewest cX0_fewest 5 (some .int), Cond.methodLink RX0 26 yX0_isWay, Cond.instanceMethod yX0_isWay, Cond.selects RX0 yX0_isWay yX0_isWay, Cond.code yX0_isWay cX0_isWay 3 (some .boolean), Cond.fieldLink RX0 11 "NameTurner$Fit" "can" "[Z", Cond.methodLink RX0 70 yX0_mostFigures, Cond.instanceMethod yX0_mostFigures, Cond.selects RX0 yX0_mostFigures yX0_mostFigures, Cond.code yX0_mostFigures cX0_mostFigures 6 (some .int), Cond.methodLink RX0 54 yX2_byteAt, Cond.instanceMethod yX2_byteAt, Cond.selects RX2 yX2_byteAt yX2_byteAt]
def wsX0_firstChoice_r2 : List Cond := [Cond.initialized RX2, Cond.code yX2_byteAt cX2_byteAt 2 (some .int), Cond.fieldLink RX2 19 "NameTurner$Place" "length" "I", Cond.fieldLink RX2 9 "NameTurner$Place" "name" "[I", Cond.methodLink RX0 60 yX6_isFigure, Cond.static yX6_isFigure, Cond.initialized RX6, Cond.code yX6_isFigure cX6_isFigure 1 (some .boolean)]
def wsX0_firstChoice : List Cond := .code yX0_firstChoice cX0_firstChoice 5 (some .int) :: ((wsX0_firstChoice_r1 ++ wsX0_firstChoice_r2) ++ wsX50 ++ wsX20 ++ wsX00)
def wsX0_match_r1 : List Cond := [Cond.fieldLink RX0 19 "NameTurner$Fit" "start" "[I", Cond.fieldLink RX0 15 "NameTurner$Fit" "took" "[I", Cond.methodLink RX0 22 yX0_findWays, Cond.instanceMethod yX0_findWays, Cond.selects RX0 yX0_findWays yX0_findWays, Cond.initialized RX0, Cond.code yX0_findWays cX0_findWays 6 none, Cond.fieldLink RX0 11 "NameTurner$Fit" "can" "[Z", Cond.methodLink RX0 30 yX5_itemCount, Cond.instanceMethod yX5_itemCount, Cond.selects RX5 yX5_itemCount yX5_itemCount, Cond.initialized RX5, Cond.code yX5_itemCount cX5_itemCount 1 (some .int), Cond.fieldLink RX5 24 "NameTurner$Rule" "itemCount" "I", Cond.methodLink RX0 46 yX5_item, Cond.instanceMethod yX5_item, Cond.selects RX5 yX5_item yX5_item, Cond.code yX5_item cX5_item 2 (some .int), Cond.fieldLink RX5 9 "NameTurner$Rule" "items" "[I", Cond.methodLink RX0 50 yX0_hasWay, Cond.instanceMethod yX0_hasWay, Cond.selects RX0 yX0_hasWay yX0_hasWay, Cond.code yX0_hasWay cX0_hasWay 5 (some .boolean), Cond.methodLink RX0 26 yX0_isWay]
def wsX0_match_r2 : List Cond := [Cond.instanceMethod yX0_isWay, Cond.selects RX0 yX0_isWay yX0_isWay, Cond.code yX0_isWay cX0_isWay 3 (some .boolean), Cond.methodLink RX0 54 yX2_byteAt, Cond.instanceMethod yX2_byteAt, Cond.selects RX2 yX2_byteAt yX2_byteAt, Cond.initialized RX2, Cond.code yX2_byteAt cX2_byteAt 2 (some .int), Cond.fieldLink RX2 19 "NameTurner$Place" "length" "I", Cond.fieldLink RX2 9 "NameTurner$Place" "name" "[I", Cond.methodLink RX0 57 yX0_takes, Cond.static yX0_takes, Cond.code yX0_takes cX0_takes 2 (some .boolean), Cond.methodLink RX0 60 yX6_isFigure, Cond.static yX6_isFigure, Cond.initialized RX6, Cond.code yX6_isFigure cX6_isFigure 1 (some .boolean), Cond.methodLink RX0 36 yX0_firstChoice, Cond.instanceMethod yX0_firstChoice, Cond.selects RX0 yX0_firstChoice yX0_firstChoice, Cond.code yX0_firstChoice cX0_firstChoice 5 (some .int), Cond.methodLink RX0 66 yX0_fewest, Cond.instanceMethod yX0_fewest, Cond.selects RX0 yX0_fewest yX0_fewest]
def wsX0_match_r3 : List Cond := [Cond.code yX0_fewest cX0_fewest 5 (some .int), Cond.methodLink RX0 70 yX0_mostFigures, Cond.instanceMethod yX0_mostFigures, Cond.selects RX0 yX0_mostFigures yX0_mostFigures, Cond.code yX0_mostFigures cX0_mostFigures 6 (some .int)]
def wsX0_match : List Cond := .code yX0_match cX0_match 5 (some .boolean) :: ((wsX0_match_r1 ++ (wsX0_match_r2 ++ wsX0_match_r3)) ++ wsX00 ++ wsX20 ++ wsX50)
def wsX2_init : List Cond := .code yX2_init cX2_init 1 none :: ([.methodLink RX2 3 objectInit, .instanceMethod objectInit, .code objectInit ⟨#[0xb1]⟩ 1 none, .arrayClass .int, .fieldLink RX2 9 "NameTurner$Place" "name" "[I", .fieldLink RX2 15 "NameTurner$Place" "folder" "I", .fieldLink RX2 19 "NameTurner$Place" "length" "I"] ++ wsX20)
def wsX1_init : List Cond := .code yX1_init cX1_init 2 none :: ([.methodLink RX1 3 objectInit, .instanceMethod objectInit, .code objectInit ⟨#[0xb1]⟩ 1 none, .classLink RX1 9 RX2, .fieldLink RX1 11 "NameTurner$Links" "targets" "[LNameTurner$Place;", .fieldLink RX1 17 "NameTurner$Links" "size" "I", .instantiable RX2 3, .initialized RX2, .instanceMethod yX2_init, .code yX2_init cX2_init 1 none, .methodLink RX2 3 objectInit, .arrayClass .int, .fieldLink RX2 9 "NameTurner$Place" "name" "[I", .fieldLink RX2 15 "NameTurner$Place" "folder" "I", .fieldLink RX2 19 "NameTurner$Place" "length" "I"] ++ wsX10 ++ wsX20)
def wsX1_size : List Cond := .code yX1_size cX1_size 1 (some .int) :: ([.fieldLink RX1 17 "NameTurner$Links" "size" "I"] ++ wsX10)
def wsX1_isFull : List Cond := .code yX1_isFull cX1_isFull 1 (some .boolean) :: ([.fieldLink RX1 17 "NameTurner$Links" "size" "I"] ++ wsX10)
def wsX1_has : List Cond := .code yX1_has cX1_has 2 (some .boolean) :: ([.fieldLink RX1 17 "NameTurner$Links" "size" "I"] ++ wsX10)
def wsX1_get : List Cond := .code yX1_get cX1_get 2 (some (.object "NameTurner$Place")) :: ([.fieldLink RX1 11 "NameTurner$Links" "targets" "[LNameTurner$Place;"] ++ wsX10)
def wsX2_begin : List Cond := .code yX2_begin cX2_begin 2 none :: ([.fieldLink RX2 15 "NameTurner$Place" "folder" "I", .fieldLink RX2 19 "NameTurner$Place" "length" "I"] ++ wsX20)
def wsX2_add : List Cond := .code yX2_add cX2_add 2 none :: ([.fieldLink RX2 19 "NameTurner$Place" "length" "I", .fieldLink RX2 9 "NameTurner$Place" "name" "[I"] ++ wsX20)
def wsX2_become : List Cond := .code yX2_become cX2_become 3 none :: ([.fieldLink RX2 15 "NameTurner$Place" "folder" "I", .fieldLink RX2 19 "NameTurner$Place" "length" "I", .methodLink RX2 22 yX2_begin, .instanceMethod yX2_begin, .selects RX2 yX2_begin yX2_begin, .initialized RX2, .code yX2_begin cX2_begin 2 none, .methodLink RX2 26 yX2_byteAt, .instanceMethod yX2_byteAt, .selects RX2 yX2_byteAt yX2_byteAt, .code yX2_byteAt cX2_byteAt 2 (some .int), .fieldLink RX2 9 "NameTurner$Place" "name" "[I", .methodLink RX2 30 yX2_add, .instanceMethod yX2_add, .selects RX2 yX2_add yX2_add, .code yX2_add cX2_add 2 none] ++ wsX20)
def wsX1_add : List Cond := .code yX1_add cX1_add 3 (some .int) :: ([.fieldLink RX1 17 "NameTurner$Links" "size" "I", .fieldLink RX1 11 "NameTurner$Links" "targets" "[LNameTurner$Place;", .methodLink RX1 22 yX2_become, .instanceMethod yX2_become, .selects RX2 yX2_become yX2_become, .initialized RX2, .code yX2_become cX2_become 3 none, .fieldLink RX2 15 "NameTurner$Place" "folder" "I", .fieldLink RX2 19 "NameTurner$Place" "length" "I", .methodLink RX2 22 yX2_begin, .instanceMethod yX2_begin, .selects RX2 yX2_begin yX2_begin, .code yX2_begin cX2_begin 2 none, .methodLink RX2 26 yX2_byteAt, .instanceMethod yX2_byteAt, .selects RX2 yX2_byteAt yX2_byteAt, .code yX2_byteAt cX2_byteAt 2 (some .int), .fieldLink RX2 9 "NameTurner$Place" "name" "[I", .methodLink RX2 30 yX2_add, .instanceMethod yX2_add, .selects RX2 yX2_add yX2_add, .code yX2_add cX2_add 2 none] ++ wsX10 ++ wsX20)
def wsX6_small : List Cond := .code yX6_small cX6_small 1 (some .int) :: ([])
def wsX2_isAlike : List Cond := .code yX2_isAlike cX2_isAlike 6 (some .boolean) :: ([.fieldLink RX2 15 "NameTurner$Place" "folder" "I", .fieldLink RX2 19 "NameTurner$Place" "length" "I", .methodLink RX2 26 yX2_byteAt, .instanceMethod yX2_byteAt, .selects RX2 yX2_byteAt yX2_byteAt, .initialized RX2, .code yX2_byteAt cX2_byteAt 2 (some .int), .fieldLink RX2 9 "NameTurner$Place" "name" "[I", .methodLink RX2 37 yX6_small, .static yX6_small, .initialized RX6, .code yX6_small cX6_small 1 (some .int)] ++ wsX20)
def wsX2_isJust : List Cond := .code yX2_isJust cX2_isJust 2 (some .boolean) :: ([.methodLink RX2 33 yX2_isAlike, .instanceMethod yX2_isAlike, .selects RX2 yX2_isAlike yX2_isAlike, .initialized RX2, .code yX2_isAlike cX2_isAlike 6 (some .boolean), .fieldLink RX2 15 "NameTurner$Place" "folder" "I", .fieldLink RX2 19 "NameTurner$Place" "length" "I", .methodLink RX2 26 yX2_byteAt, .instanceMethod yX2_byteAt, .selects RX2 yX2_byteAt yX2_byteAt, .code yX2_byteAt cX2_byteAt 2 (some .int), .fieldLink RX2 9 "NameTurner$Place" "name" "[I", .methodLink RX2 37 yX6_small, .static yX6_small, .initialized RX6, .code yX6_small cX6_small 1 (some .int)] ++ wsX20)
def wsX1_follow_r1 : List Cond := [Cond.fieldLink RX1 17 "NameTurner$Links" "size" "I", Cond.fieldLink RX1 11 "NameTurner$Links" "targets" "[LNameTurner$Place;", Cond.methodLink RX1 26 yX2_isJust, Cond.instanceMethod yX2_isJust, Cond.selects RX2 yX2_isJust yX2_isJust, Cond.initialized RX2, Cond.code yX2_isJust cX2_isJust 2 (some .boolean), Cond.methodLink RX2 33 yX2_isAlike, Cond.instanceMethod yX2_isAlike, Cond.selects RX2 yX2_isAlike yX2_isAlike, Cond.code yX2_isAlike cX2_isAlike 6 (some .boolean), Cond.fieldLink RX2 15 "NameTurner$Place" "folder" "I", Cond.fieldLink RX2 19 "NameTurner$Place" "length" "I", Cond.methodLink RX2 26 yX2_byteAt, Cond.instanceMethod yX2_byteAt, Cond.selects RX2 yX2_byteAt yX2_byteAt, Cond.code yX2_byteAt cX2_byteAt 2 (some .int), Cond.fieldLink RX2 9 "NameTurner$Place" "name" "[I", Cond.methodLink RX2 37 yX6_small, Cond.static yX6_small, Cond.initialized RX6, Cond.code yX6_small cX6_small 1 (some .int), Cond.methodLink RX1 22 yX2_become, Cond.instanceMethod yX2_become]
def wsX1_follow_r2 : List Cond := [Cond.selects RX2 yX2_become yX2_become, Cond.code yX2_become cX2_become 3 none, Cond.methodLink RX2 22 yX2_begin, Cond.instanceMethod yX2_begin, Cond.selects RX2 yX2_begin yX2_begin, Cond.code yX2_begin cX2_begin 2 none, Cond.methodLink RX2 30 yX2_add, Cond.instanceMethod yX2_add, Cond.selects RX2 yX2_add yX2_add, Cond.code yX2_add cX2_add 2 none]
def wsX1_follow : List Cond := .code yX1_follow cX1_follow 4 none :: ((wsX1_follow_r1 ++ wsX1_follow_r2) ++ wsX10 ++ wsX20)
def wsX2_becomeSpare : List Cond := .code yX2_becomeSpare cX2_becomeSpare 3 none :: ([.methodLink RX2 22 yX2_begin, .instanceMethod yX2_begin, .selects RX2 yX2_begin yX2_begin, .initialized RX2, .code yX2_begin cX2_begin 2 none, .fieldLink RX2 15 "NameTurner$Place" "folder" "I", .fieldLink RX2 19 "NameTurner$Place" "length" "I", .methodLink RX2 30 yX2_add, .instanceMethod yX2_add, .selects RX2 yX2_add yX2_add, .code yX2_add cX2_add 2 none, .fieldLink RX2 9 "NameTurner$Place" "name" "[I"] ++ wsX20)
def wsX2_isSpare : List Cond := .code yX2_isSpare cX2_isSpare 1 (some .boolean) :: ([.methodLink RX2 26 yX2_byteAt, .instanceMethod yX2_byteAt, .selects RX2 yX2_byteAt yX2_byteAt, .initialized RX2, .code yX2_byteAt cX2_byteAt 2 (some .int), .fieldLink RX2 19 "NameTurner$Place" "length" "I", .fieldLink RX2 9 "NameTurner$Place" "name" "[I"] ++ wsX20)
def wsX2_isNamedBefore : List Cond := .code yX2_isNamedBefore cX2_isNamedBefore 4 (some .boolean) :: ([.fieldLink RX2 19 "NameTurner$Place" "length" "I", .methodLink RX2 42 Lib.Math.min.name, .static Lib.Math.min.name, .initialized "java/lang/Math", .code Lib.Math.min.name Lib.Math.min.code 2 (some .int), .methodLink RX2 26 yX2_byteAt, .instanceMethod yX2_byteAt, .selects RX2 yX2_byteAt yX2_byteAt, .initialized RX2, .code yX2_byteAt cX2_byteAt 2 (some .int), .fieldLink RX2 9 "NameTurner$Place" "name" "[I"] ++ wsX20)
def wsX4_init_r1 : List Cond := [Cond.methodLink RX4 3 objectInit, Cond.instanceMethod objectInit, Cond.code objectInit ⟨#[0xb1]⟩ 1 none, Cond.classLink RX4 9 RX2, Cond.instantiable RX2 3, Cond.initialized RX2, Cond.fieldLink RX4 12 "NameTurner$Planned" "old" "LNameTurner$Place;", Cond.fieldLink RX4 18 "NameTurner$Planned" "fresh" "LNameTurner$Place;", Cond.fieldLink RX4 21 "NameTurner$Planned" "spare" "LNameTurner$Place;", Cond.fieldLink RX4 24 "NameTurner$Planned" "file" "I", Cond.fieldLink RX4 28 "NameTurner$Planned" "counter" "I", Cond.fieldLink RX4 31 "NameTurner$Planned" "length" "I", Cond.fieldLink RX4 34 "NameTurner$Planned" "stays" "Z", Cond.fieldLink RX4 38 "NameTurner$Planned" "trouble" "I", Cond.fieldLink RX4 41 "NameTurner$Planned" "troubleWith" "I", Cond.fieldLink RX4 44 "NameTurner$Planned" "waitsFor" "I", Cond.fieldLink RX4 47 "NameTurner$Planned" "isSpared" "Z", Cond.fieldLink RX4 50 "NameTurner$Planned" "isThere" "Z", Cond.instanceMethod yX2_init, Cond.code yX2_init cX2_init 1 none, Cond.methodLink RX2 3 objectInit, Cond.arrayClass .int, Cond.fieldLink RX2 9 "NameTurner$Place" "name" "[I", Cond.fieldLink RX2 15 "NameTurner$Place" "folder" "I"]
def wsX4_init_r2 : List Cond := [Cond.fieldLink RX2 19 "NameTurner$Place" "length" "I"]
def wsX4_init : List Cond := .code yX4_init cX4_init 1 none :: ((wsX4_init_r1 ++ wsX4_init_r2) ++ wsX20 ++ wsX40)
def wsX3_init_r1 : List Cond := [Cond.methodLink RX3 3 objectInit, Cond.instanceMethod objectInit, Cond.code objectInit ⟨#[0xb1]⟩ 1 none, Cond.classLink RX3 9 RX4, Cond.fieldLink RX3 11 "NameTurner$Plan" "all" "[LNameTurner$Planned;", Cond.arrayClass .int, Cond.fieldLink RX3 17 "NameTurner$Plan" "stepOf" "[I", Cond.arrayClass .boolean, Cond.fieldLink RX3 21 "NameTurner$Plan" "toSpare" "[Z", Cond.fieldLink RX3 25 "NameTurner$Plan" "fromSpare" "[Z", Cond.fieldLink RX3 28 "NameTurner$Plan" "made" "Z", Cond.fieldLink RX3 32 "NameTurner$Plan" "size" "I", Cond.fieldLink RX3 36 "NameTurner$Plan" "troubles" "I", Cond.fieldLink RX3 39 "NameTurner$Plan" "stepCount" "I", Cond.fieldLink RX3 42 "NameTurner$Plan" "done" "I", Cond.instantiable RX4 12, Cond.initialized RX4, Cond.instanceMethod yX4_init, Cond.code yX4_init cX4_init 1 none, Cond.methodLink RX4 3 objectInit, Cond.classLink RX4 9 RX2, Cond.instantiable RX2 3, Cond.initialized RX2, Cond.fieldLink RX4 12 "NameTurner$Planned" "old" "LNameTurner$Place;"]
def wsX3_init_r2 : List Cond := [Cond.fieldLink RX4 18 "NameTurner$Planned" "fresh" "LNameTurner$Place;", Cond.fieldLink RX4 21 "NameTurner$Planned" "spare" "LNameTurner$Place;", Cond.fieldLink RX4 24 "NameTurner$Planned" "file" "I", Cond.fieldLink RX4 28 "NameTurner$Planned" "counter" "I", Cond.fieldLink RX4 31 "NameTurner$Planned" "length" "I", Cond.fieldLink RX4 34 "NameTurner$Planned" "stays" "Z", Cond.fieldLink RX4 38 "NameTurner$Planned" "trouble" "I", Cond.fieldLink RX4 41 "NameTurner$Planned" "troubleWith" "I", Cond.fieldLink RX4 44 "NameTurner$Planned" "waitsFor" "I", Cond.fieldLink RX4 47 "NameTurner$Planned" "isSpared" "Z", Cond.fieldLink RX4 50 "NameTurner$Planned" "isThere" "Z", Cond.instanceMethod yX2_init, Cond.code yX2_init cX2_init 1 none, Cond.methodLink RX2 3 objectInit, Cond.fieldLink RX2 9 "NameTurner$Place" "name" "[I", Cond.fieldLink RX2 15 "NameTurner$Place" "folder" "I", Cond.fieldLink RX2 19 "NameTurner$Place" "length" "I"]
def wsX3_init : List Cond := .code yX3_init cX3_init 2 none :: ((wsX3_init_r1 ++ wsX3_init_r2) ++ wsX30 ++ wsX40 ++ wsX20)
def wsX3_isMade : List Cond := .code yX3_isMade cX3_isMade 1 (some .boolean) :: ([.fieldLink RX3 28 "NameTurner$Plan" "made" "Z"] ++ wsX30)
def wsX3_isUnderWay : List Cond := .code yX3_isUnderWay cX3_isUnderWay 1 (some .boolean) :: ([.fieldLink RX3 42 "NameTurner$Plan" "done" "I", .fieldLink RX3 39 "NameTurner$Plan" "stepCount" "I"] ++ wsX30)
def wsX3_canRun : List Cond := .code yX3_canRun cX3_canRun 1 (some .boolean) :: ([.fieldLink RX3 28 "NameTurner$Plan" "made" "Z", .fieldLink RX3 36 "NameTurner$Plan" "troubles" "I"] ++ wsX30)
def wsX3_size : List Cond := .code yX3_size cX3_size 1 (some .int) :: ([.fieldLink RX3 32 "NameTurner$Plan" "size" "I"] ++ wsX30)
def wsX3_troubles : List Cond := .code yX3_troubles cX3_troubles 1 (some .int) :: ([.fieldLink RX3 36 "NameTurner$Plan" "troubles" "I"] ++ wsX30)
def wsX3_stepCount : List Cond := .code yX3_stepCount cX3_stepCount 1 (some .int) :: ([.fieldLink RX3 39 "NameTurner$Plan" "stepCount" "I"] ++ wsX30)
def wsX3_done : List Cond := .code yX3_done cX3_done 1 (some .int) :: ([.fieldLink RX3 42 "NameTurner$Plan" "done" "I"] ++ wsX30)
def wsX3_setDone : List Cond := .code yX3_setDone cX3_setDone 2 none :: ([.fieldLink RX3 42 "NameTurner$Plan" "done" "I"] ++ wsX30)
def wsX3_hasPlanned : List Cond := .code yX3_hasPlanned cX3_hasPlanned 2 (some .boolean) :: ([.fieldLink RX3 32 "NameTurner$Plan" "size" "I"] ++ wsX30)
def wsX3_get : List Cond := .code yX3_get cX3_get 2 (some (.object "NameTurner$Planned")) :: ([.fieldLink RX3 11 "NameTurner$Plan" "all" "[LNameTurner$Planned;"] ++ wsX30)
def wsX3_begin : List Cond := .code yX3_begin cX3_begin 1 none :: ([.fieldLink RX3 28 "NameTurner$Plan" "made" "Z", .fieldLink RX3 32 "NameTurner$Plan" "size" "I", .fieldLink RX3 36 "NameTurner$Plan" "troubles" "I", .fieldLink RX3 39 "NameTurner$Plan" "stepCount" "I", .fieldLink RX3 42 "NameTurner$Plan" "done" "I"] ++ wsX30)
def wsX3_isFull : List Cond := .code yX3_isFull cX3_isFull 1 (some .boolean) :: ([.fieldLink RX3 32 "NameTurner$Plan" "size" "I", .fieldLink RX3 11 "NameTurner$Plan" "all" "[LNameTurner$Planned;"] ++ wsX30)
def wsX4_begin_r1 : List Cond := [Cond.fieldLink RX4 24 "NameTurner$Planned" "file" "I", Cond.fieldLink RX4 28 "NameTurner$Planned" "counter" "I", Cond.fieldLink RX4 12 "NameTurner$Planned" "old" "LNameTurner$Place;", Cond.fieldLink RX4 21 "NameTurner$Planned" "spare" "LNameTurner$Place;", Cond.fieldLink RX4 38 "NameTurner$Planned" "trouble" "I", Cond.fieldLink RX4 41 "NameTurner$Planned" "troubleWith" "I", Cond.fieldLink RX4 44 "NameTurner$Planned" "waitsFor" "I", Cond.fieldLink RX4 47 "NameTurner$Planned" "isSpared" "Z", Cond.fieldLink RX4 50 "NameTurner$Planned" "isThere" "Z", Cond.methodLink RX4 53 yX2_become, Cond.instanceMethod yX2_become, Cond.selects RX2 yX2_become yX2_become, Cond.initialized RX2, Cond.code yX2_become cX2_become 3 none, Cond.fieldLink RX2 15 "NameTurner$Place" "folder" "I", Cond.fieldLink RX2 19 "NameTurner$Place" "length" "I", Cond.methodLink RX2 22 yX2_begin, Cond.instanceMethod yX2_begin, Cond.selects RX2 yX2_begin yX2_begin, Cond.code yX2_begin cX2_begin 2 none, Cond.methodLink RX2 26 yX2_byteAt, Cond.instanceMethod yX2_byteAt, Cond.selects RX2 yX2_byteAt yX2_byteAt, Cond.code yX2_byteAt cX2_byteAt 2 (some .int)]
def wsX4_begin_r2 : List Cond := [Cond.fieldLink RX2 9 "NameTurner$Place" "name" "[I", Cond.methodLink RX2 30 yX2_add, Cond.instanceMethod yX2_add, Cond.selects RX2 yX2_add yX2_add, Cond.code yX2_add cX2_add 2 none, Cond.methodLink RX4 60 yX2_becomeSpare, Cond.instanceMethod yX2_becomeSpare, Cond.selects RX2 yX2_becomeSpare yX2_becomeSpare, Cond.code yX2_becomeSpare cX2_becomeSpare 3 none]
def wsX4_begin : List Cond := .code yX4_begin cX4_begin 4 none :: ((wsX4_begin_r1 ++ wsX4_begin_r2) ++ wsX40 ++ wsX20)
def wsX3_add_r1 : List Cond := [Cond.fieldLink RX3 11 "NameTurner$Plan" "all" "[LNameTurner$Planned;", Cond.fieldLink RX3 32 "NameTurner$Plan" "size" "I", Cond.methodLink RX3 46 yX4_begin, Cond.instanceMethod yX4_begin, Cond.selects RX4 yX4_begin yX4_begin, Cond.initialized RX4, Cond.code yX4_begin cX4_begin 4 none, Cond.fieldLink RX4 24 "NameTurner$Planned" "file" "I", Cond.fieldLink RX4 28 "NameTurner$Planned" "counter" "I", Cond.fieldLink RX4 12 "NameTurner$Planned" "old" "LNameTurner$Place;", Cond.fieldLink RX4 21 "NameTurner$Planned" "spare" "LNameTurner$Place;", Cond.fieldLink RX4 38 "NameTurner$Planned" "trouble" "I", Cond.fieldLink RX4 41 "NameTurner$Planned" "troubleWith" "I", Cond.fieldLink RX4 44 "NameTurner$Planned" "waitsFor" "I", Cond.fieldLink RX4 47 "NameTurner$Planned" "isSpared" "Z", Cond.fieldLink RX4 50 "NameTurner$Planned" "isThere" "Z", Cond.methodLink RX4 53 yX2_become, Cond.instanceMethod yX2_become, Cond.selects RX2 yX2_become yX2_become, Cond.initialized RX2, Cond.code yX2_become cX2_become 3 none, Cond.fieldLink RX2 15 "NameTurner$Place" "folder" "I", Cond.fieldLink RX2 19 "NameTurner$Place" "length" "I", Cond.methodLink RX2 22 yX2_begin]
def wsX3_add_r2 : List Cond := [Cond.instanceMethod yX2_begin, Cond.selects RX2 yX2_begin yX2_begin, Cond.code yX2_begin cX2_begin 2 none, Cond.methodLink RX2 26 yX2_byteAt, Cond.instanceMethod yX2_byteAt, Cond.selects RX2 yX2_byteAt yX2_byteAt, Cond.code yX2_byteAt cX2_byteAt 2 (some .int), Cond.fieldLink RX2 9 "NameTurner$Place" "name" "[I", Cond.methodLink RX2 30 yX2_add, Cond.instanceMethod yX2_add, Cond.selects RX2 yX2_add yX2_add, Cond.code yX2_add cX2_add 2 none, Cond.methodLink RX4 60 yX2_becomeSpare, Cond.instanceMethod yX2_becomeSpare, Cond.selects RX2 yX2_becomeSpare yX2_becomeSpare, Cond.code yX2_becomeSpare cX2_becomeSpare 3 none]
def wsX3_add : List Cond := .code yX3_add cX3_add 5 (some (.object "NameTurner$Planned")) :: ((wsX3_add_r1 ++ wsX3_add_r2) ++ wsX30 ++ wsX40 ++ wsX20)
def wsX4_findOwnTrouble : List Cond := .code yX4_findOwnTrouble cX4_findOwnTrouble 1 none :: ([.fieldLink RX4 31 "NameTurner$Planned" "length" "I", .fieldLink RX4 38 "NameTurner$Planned" "trouble" "I"] ++ wsX40)
def wsX4_hasName : List Cond := .code yX4_hasName cX4_hasName 1 (some .boolean) :: ([.fieldLink RX4 38 "NameTurner$Planned" "trouble" "I"] ++ wsX40)
def wsX7_isFolding : List Cond := .code yX7_isFolding cX7_isFolding 1 (some .boolean) :: ([.fieldLink RX7 32 "NameTurner$Store" "folding" "Z"] ++ wsX70)
def wsX4_setTrouble : List Cond := .code yX4_setTrouble cX4_setTrouble 3 none :: ([.fieldLink RX4 38 "NameTurner$Planned" "trouble" "I", .fieldLink RX4 41 "NameTurner$Planned" "troubleWith" "I"] ++ wsX40)
def wsX7_findAlike : List Cond := .code yX7_findAlike cX7_findAlike 4 (some .int) :: ([.fieldLink RX7 25 "NameTurner$Store" "came" "I", .fieldLink RX7 17 "NameTurner$Store" "is" "[Z", .fieldLink RX7 11 "NameTurner$Store" "places" "[LNameTurner$Place;", .fieldLink RX7 32 "NameTurner$Store" "folding" "Z", .methodLink RX7 41 yX2_isAlike, .instanceMethod yX2_isAlike, .selects RX2 yX2_isAlike yX2_isAlike, .initialized RX2, .code yX2_isAlike cX2_isAlike 6 (some .boolean), .fieldLink RX2 15 "NameTurner$Place" "folder" "I", .fieldLink RX2 19 "NameTurner$Place" "length" "I", .methodLink RX2 26 yX2_byteAt, .instanceMethod yX2_byteAt, .selects RX2 yX2_byteAt yX2_byteAt, .code yX2_byteAt cX2_byteAt 2 (some .int), .fieldLink RX2 9 "NameTurner$Place" "name" "[I", .methodLink RX2 37 yX6_small, .static yX6_small, .initialized RX6, .code yX6_small cX6_small 1 (some .int)] ++ wsX70 ++ wsX20)
def wsX3_find : List Cond := .code yX3_find cX3_find 3 (some .int) :: ([.fieldLink RX3 32 "NameTurner$Plan" "size" "I", .fieldLink RX3 11 "NameTurner$Plan" "all" "[LNameTurner$Planned;"] ++ wsX30 ++ wsX40)
def wsX3_findTroubleWithOthers_r1 : List Cond := [Cond.fieldLink RX3 11 "NameTurner$Plan" "all" "[LNameTurner$Planned;", Cond.fieldLink RX3 32 "NameTurner$Plan" "size" "I", Cond.methodLink RX3 53 yX4_hasName, Cond.instanceMethod yX4_hasName, Cond.selects RX4 yX4_hasName yX4_hasName, Cond.initialized RX4, Cond.code yX4_hasName cX4_hasName 1 (some .boolean), Cond.fieldLink RX4 38 "NameTurner$Planned" "trouble" "I", Cond.methodLink RX3 68 yX7_isFolding, Cond.instanceMethod yX7_isFolding, Cond.selects RX7 yX7_isFolding yX7_isFolding, Cond.initialized RX7, Cond.code yX7_isFolding cX7_isFolding 1 (some .boolean), Cond.fieldLink RX7 32 "NameTurner$Store" "folding" "Z", Cond.methodLink RX3 73 yX2_isAlike, Cond.instanceMethod yX2_isAlike, Cond.selects RX2 yX2_isAlike yX2_isAlike, Cond.initialized RX2, Cond.code yX2_isAlike cX2_isAlike 6 (some .boolean), Cond.fieldLink RX2 15 "NameTurner$Place" "folder" "I", Cond.fieldLink RX2 19 "NameTurner$Place" "length" "I", Cond.methodLink RX2 26 yX2_byteAt, Cond.instanceMethod yX2_byteAt, Cond.selects RX2 yX2_byteAt yX2_byteAt]
def wsX3_findTroubleWithOthers_r2 : List Cond := [Cond.code yX2_byteAt cX2_byteAt 2 (some .int), Cond.fieldLink RX2 9 "NameTurner$Place" "name" "[I", Cond.methodLink RX2 37 yX6_small, Cond.static yX6_small, Cond.initialized RX6, Cond.code yX6_small cX6_small 1 (some .int), Cond.methodLink RX3 82 yX4_setTrouble, Cond.instanceMethod yX4_setTrouble, Cond.selects RX4 yX4_setTrouble yX4_setTrouble, Cond.code yX4_setTrouble cX4_setTrouble 3 none, Cond.fieldLink RX4 41 "NameTurner$Planned" "troubleWith" "I", Cond.methodLink RX3 86 yX7_findAlike, Cond.instanceMethod yX7_findAlike, Cond.selects RX7 yX7_findAlike yX7_findAlike, Cond.code yX7_findAlike cX7_findAlike 4 (some .int), Cond.fieldLink RX7 25 "NameTurner$Store" "came" "I", Cond.fieldLink RX7 17 "NameTurner$Store" "is" "[Z", Cond.fieldLink RX7 11 "NameTurner$Store" "places" "[LNameTurner$Place;", Cond.methodLink RX7 41 yX2_isAlike, Cond.methodLink RX3 90 yX3_find, Cond.instanceMethod yX3_find, Cond.selects RX3 yX3_find yX3_find, Cond.initialized RX3, Cond.code yX3_find cX3_find 3 (some .int)]
def wsX3_findTroubleWithOthers : List Cond := .code yX3_findTroubleWithOthers cX3_findTroubleWithOthers 6 none :: ((wsX3_findTroubleWithOthers_r1 ++ wsX3_findTroubleWithOthers_r2) ++ wsX30 ++ wsX40 ++ wsX70 ++ wsX20)
def wsX3_findTroubles_r1 : List Cond := [Cond.fieldLink RX3 32 "NameTurner$Plan" "size" "I", Cond.fieldLink RX3 11 "NameTurner$Plan" "all" "[LNameTurner$Planned;", Cond.fieldLink RX3 36 "NameTurner$Plan" "troubles" "I", Cond.methodLink RX3 50 yX4_findOwnTrouble, Cond.instanceMethod yX4_findOwnTrouble, Cond.selects RX4 yX4_findOwnTrouble yX4_findOwnTrouble, Cond.initialized RX4, Cond.code yX4_findOwnTrouble cX4_findOwnTrouble 1 none, Cond.fieldLink RX4 31 "NameTurner$Planned" "length" "I", Cond.fieldLink RX4 38 "NameTurner$Planned" "trouble" "I", Cond.methodLink RX3 53 yX4_hasName, Cond.instanceMethod yX4_hasName, Cond.selects RX4 yX4_hasName yX4_hasName, Cond.code yX4_hasName cX4_hasName 1 (some .boolean), Cond.methodLink RX3 57 yX3_findTroubleWithOthers, Cond.instanceMethod yX3_findTroubleWithOthers, Cond.selects RX3 yX3_findTroubleWithOthers yX3_findTroubleWithOthers, Cond.initialized RX3, Cond.code yX3_findTroubleWithOthers cX3_findTroubleWithOthers 6 none, Cond.methodLink RX3 68 yX7_isFolding, Cond.instanceMethod yX7_isFolding, Cond.selects RX7 yX7_isFolding yX7_isFolding, Cond.initialized RX7, Cond.code yX7_isFolding cX7_isFolding 1 (some .boolean)]
def wsX3_findTroubles_r2 : List Cond := [Cond.fieldLink RX7 32 "NameTurner$Store" "folding" "Z", Cond.methodLink RX3 73 yX2_isAlike, Cond.instanceMethod yX2_isAlike, Cond.selects RX2 yX2_isAlike yX2_isAlike, Cond.initialized RX2, Cond.code yX2_isAlike cX2_isAlike 6 (some .boolean), Cond.fieldLink RX2 15 "NameTurner$Place" "folder" "I", Cond.fieldLink RX2 19 "NameTurner$Place" "length" "I", Cond.methodLink RX2 26 yX2_byteAt, Cond.instanceMethod yX2_byteAt, Cond.selects RX2 yX2_byteAt yX2_byteAt, Cond.code yX2_byteAt cX2_byteAt 2 (some .int), Cond.fieldLink RX2 9 "NameTurner$Place" "name" "[I", Cond.methodLink RX2 37 yX6_small, Cond.static yX6_small, Cond.initialized RX6, Cond.code yX6_small cX6_small 1 (some .int), Cond.methodLink RX3 82 yX4_setTrouble, Cond.instanceMethod yX4_setTrouble, Cond.selects RX4 yX4_setTrouble yX4_setTrouble, Cond.code yX4_setTrouble cX4_setTrouble 3 none, Cond.fieldLink RX4 41 "NameTurner$Planned" "troubleWith" "I", Cond.methodLink RX3 86 yX7_findAlike, Cond.instanceMethod yX7_findAlike]
def wsX3_findTroubles_r3 : List Cond := [Cond.selects RX7 yX7_findAlike yX7_findAlike, Cond.code yX7_findAlike cX7_findAlike 4 (some .int), Cond.fieldLink RX7 25 "NameTurner$Store" "came" "I", Cond.fieldLink RX7 17 "NameTurner$Store" "is" "[Z", Cond.fieldLink RX7 11 "NameTurner$Store" "places" "[LNameTurner$Place;", Cond.methodLink RX7 41 yX2_isAlike, Cond.methodLink RX3 90 yX3_find, Cond.instanceMethod yX3_find, Cond.selects RX3 yX3_find yX3_find, Cond.code yX3_find cX3_find 3 (some .int)]
def wsX3_findTroubles : List Cond := .code yX3_findTroubles cX3_findTroubles 3 none :: ((wsX3_findTroubles_r1 ++ (wsX3_findTroubles_r2 ++ wsX3_findTroubles_r3)) ++ wsX30 ++ wsX40 ++ wsX70 ++ wsX20)
def wsX4_isLeft : List Cond := .code yX4_isLeft cX4_isLeft 1 (some .boolean) :: ([.fieldLink RX4 34 "NameTurner$Planned" "stays" "Z", .fieldLink RX4 50 "NameTurner$Planned" "isThere" "Z"] ++ wsX40)
def wsX4_hasLeftOldPlace : List Cond := .code yX4_hasLeftOldPlace cX4_hasLeftOldPlace 1 (some .boolean) :: ([.fieldLink RX4 47 "NameTurner$Planned" "isSpared" "Z", .fieldLink RX4 50 "NameTurner$Planned" "isThere" "Z"] ++ wsX40)
def wsX3_canGo : List Cond := .code yX3_canGo cX3_canGo 3 (some .boolean) :: ([.fieldLink RX3 11 "NameTurner$Plan" "all" "[LNameTurner$Planned;", .methodLink RX3 117 yX4_isLeft, .instanceMethod yX4_isLeft, .selects RX4 yX4_isLeft yX4_isLeft, .initialized RX4, .code yX4_isLeft cX4_isLeft 1 (some .boolean), .fieldLink RX4 34 "NameTurner$Planned" "stays" "Z", .fieldLink RX4 50 "NameTurner$Planned" "isThere" "Z", .methodLink RX3 120 yX3_hasPlanned, .instanceMethod yX3_hasPlanned, .selects RX3 yX3_hasPlanned yX3_hasPlanned, .initialized RX3, .code yX3_hasPlanned cX3_hasPlanned 2 (some .boolean), .fieldLink RX3 32 "NameTurner$Plan" "size" "I", .methodLink RX3 124 yX4_hasLeftOldPlace, .instanceMethod yX4_hasLeftOldPlace, .selects RX4 yX4_hasLeftOldPlace yX4_hasLeftOldPlace, .code yX4_hasLeftOldPlace cX4_hasLeftOldPlace 1 (some .boolean), .fieldLink RX4 47 "NameTurner$Planned" "isSpared" "Z"] ++ wsX30 ++ wsX40)
def wsX3_leastThatCanGo : List Cond := .code yX3_leastThatCanGo cX3_leastThatCanGo 3 (some .int) :: ([.fieldLink RX3 32 "NameTurner$Plan" "size" "I", .fieldLink RX3 11 "NameTurner$Plan" "all" "[LNameTurner$Planned;", .methodLink RX3 127 yX3_canGo, .instanceMethod yX3_canGo, .selects RX3 yX3_canGo yX3_canGo, .initialized RX3, .code yX3_canGo cX3_canGo 3 (some .boolean), .methodLink RX3 117 yX4_isLeft, .instanceMethod yX4_isLeft, .selects RX4 yX4_isLeft yX4_isLeft, .initialized RX4, .code yX4_isLeft cX4_isLeft 1 (some .boolean), .fieldLink RX4 34 "NameTurner$Planned" "stays" "Z", .fieldLink RX4 50 "NameTurner$Planned" "isThere" "Z", .methodLink RX3 120 yX3_hasPlanned, .instanceMethod yX3_hasPlanned, .selects RX3 yX3_hasPlanned yX3_hasPlanned, .code yX3_hasPlanned cX3_hasPlanned 2 (some .boolean), .methodLink RX3 124 yX4_hasLeftOldPlace, .instanceMethod yX4_hasLeftOldPlace, .selects RX4 yX4_hasLeftOldPlace yX4_hasLeftOldPlace, .code yX4_hasLeftOldPlace cX4_hasLeftOldPlace 1 (some .boolean), .fieldLink RX4 47 "NameTurner$Planned" "isSpared" "Z"] ++ wsX30 ++ wsX40)
def wsX3_addStep : List Cond := .code yX3_addStep cX3_addStep 3 none :: ([.fieldLink RX3 17 "NameTurner$Plan" "stepOf" "[I", .fieldLink RX3 39 "NameTurner$Plan" "stepCount" "I", .fieldLink RX3 21 "NameTurner$Plan" "toSpare" "[Z", .fieldLink RX3 25 "NameTurner$Plan" "fromSpare" "[Z", .fieldLink RX3 11 "NameTurner$Plan" "all" "[LNameTurner$Planned;"] ++ wsX30 ++ wsX40)
def wsX3_leastToSpare : List Cond := .code yX3_leastToSpare cX3_leastToSpare 4 (some .int) :: ([.fieldLink RX3 32 "NameTurner$Plan" "size" "I", .fieldLink RX3 11 "NameTurner$Plan" "all" "[LNameTurner$Planned;", .methodLink RX3 117 yX4_isLeft, .instanceMethod yX4_isLeft, .selects RX4 yX4_isLeft yX4_isLeft, .initialized RX4, .code yX4_isLeft cX4_isLeft 1 (some .boolean), .fieldLink RX4 34 "NameTurner$Planned" "stays" "Z", .fieldLink RX4 50 "NameTurner$Planned" "isThere" "Z"] ++ wsX30 ++ wsX40)
def wsX3_findSteps_r1 : List Cond := [Cond.fieldLink RX3 36 "NameTurner$Plan" "troubles" "I", Cond.fieldLink RX3 11 "NameTurner$Plan" "all" "[LNameTurner$Planned;", Cond.methodLink RX3 100 yX3_leastThatCanGo, Cond.instanceMethod yX3_leastThatCanGo, Cond.selects RX3 yX3_leastThatCanGo yX3_leastThatCanGo, Cond.initialized RX3, Cond.code yX3_leastThatCanGo cX3_leastThatCanGo 3 (some .int), Cond.fieldLink RX3 32 "NameTurner$Plan" "size" "I", Cond.methodLink RX3 127 yX3_canGo, Cond.instanceMethod yX3_canGo, Cond.selects RX3 yX3_canGo yX3_canGo, Cond.code yX3_canGo cX3_canGo 3 (some .boolean), Cond.methodLink RX3 117 yX4_isLeft, Cond.instanceMethod yX4_isLeft, Cond.selects RX4 yX4_isLeft yX4_isLeft, Cond.initialized RX4, Cond.code yX4_isLeft cX4_isLeft 1 (some .boolean), Cond.fieldLink RX4 34 "NameTurner$Planned" "stays" "Z", Cond.fieldLink RX4 50 "NameTurner$Planned" "isThere" "Z", Cond.methodLink RX3 120 yX3_hasPlanned, Cond.instanceMethod yX3_hasPlanned, Cond.selects RX3 yX3_hasPlanned yX3_hasPlanned, Cond.code yX3_hasPlanned cX3_hasPlanned 2 (some .boolean), Cond.methodLink RX3 124 yX4_hasLeftOldPlace]
def wsX3_findSteps_r2 : List Cond := [Cond.instanceMethod yX4_hasLeftOldPlace, Cond.selects RX4 yX4_hasLeftOldPlace yX4_hasLeftOldPlace, Cond.code yX4_hasLeftOldPlace cX4_hasLeftOldPlace 1 (some .boolean), Cond.fieldLink RX4 47 "NameTurner$Planned" "isSpared" "Z", Cond.methodLink RX3 104 yX3_addStep, Cond.instanceMethod yX3_addStep, Cond.selects RX3 yX3_addStep yX3_addStep, Cond.code yX3_addStep cX3_addStep 3 none, Cond.fieldLink RX3 17 "NameTurner$Plan" "stepOf" "[I", Cond.fieldLink RX3 39 "NameTurner$Plan" "stepCount" "I", Cond.fieldLink RX3 21 "NameTurner$Plan" "toSpare" "[Z", Cond.fieldLink RX3 25 "NameTurner$Plan" "fromSpare" "[Z", Cond.methodLink RX3 111 yX3_leastToSpare, Cond.instanceMethod yX3_leastToSpare, Cond.selects RX3 yX3_leastToSpare yX3_leastToSpare, Cond.code yX3_leastToSpare cX3_leastToSpare 4 (some .int)]
def wsX3_findSteps : List Cond := .code yX3_findSteps cX3_findSteps 3 none :: ((wsX3_findSteps_r1 ++ wsX3_findSteps_r2) ++ wsX30 ++ wsX40)
def wsX3_hasStep : List Cond := .code yX3_hasStep cX3_hasStep 2 (some .boolean) :: ([.fieldLink RX3 39 "NameTurner$Plan" "stepCount" "I"] ++ wsX30)
def wsX3_fileOfStep : List Cond := .code yX3_fileOfStep cX3_fileOfStep 2 (some .int) :: ([.fieldLink RX3 11 "NameTurner$Plan" "all" "[LNameTurner$Planned;", .fieldLink RX3 17 "NameTurner$Plan" "stepOf" "[I"] ++ wsX30 ++ wsX40)
def wsX3_goesToSpare : List Cond := .code yX3_goesToSpare cX3_goesToSpare 2 (some .boolean) :: ([.fieldLink RX3 21 "NameTurner$Plan" "toSpare" "[Z"] ++ wsX30)
def wsX3_comesFromSpare : List Cond := .code yX3_comesFromSpare cX3_comesFromSpare 2 (some .boolean) :: ([.fieldLink RX3 25 "NameTurner$Plan" "fromSpare" "[Z"] ++ wsX30)
def wsX3_startOfStep : List Cond := .code yX3_startOfStep cX3_startOfStep 3 (some (.object "NameTurner$Place")) :: ([.fieldLink RX3 11 "NameTurner$Plan" "all" "[LNameTurner$Planned;", .fieldLink RX3 17 "NameTurner$Plan" "stepOf" "[I", .fieldLink RX3 25 "NameTurner$Plan" "fromSpare" "[Z"] ++ wsX30 ++ wsX40)
def wsX3_goalOfStep : List Cond := .code yX3_goalOfStep cX3_goalOfStep 3 (some (.object "NameTurner$Place")) :: ([.fieldLink RX3 11 "NameTurner$Plan" "all" "[LNameTurner$Planned;", .fieldLink RX3 17 "NameTurner$Plan" "stepOf" "[I", .fieldLink RX3 21 "NameTurner$Plan" "toSpare" "[Z"] ++ wsX30 ++ wsX40)
def wsX5_partCount : List Cond := .code yX5_partCount cX5_partCount 1 (some .int) :: ([.fieldLink RX5 31 "NameTurner$Rule" "partCount" "I"] ++ wsX50)
def wsX5_partSign : List Cond := .code yX5_partSign cX5_partSign 2 (some .int) :: ([.fieldLink RX5 31 "NameTurner$Rule" "partCount" "I", .fieldLink RX5 18 "NameTurner$Rule" "partSigns" "[I"] ++ wsX50)
def wsX5_partFigure : List Cond := .code yX5_partFigure cX5_partFigure 2 (some .int) :: ([.fieldLink RX5 31 "NameTurner$Rule" "partCount" "I", .fieldLink RX5 21 "NameTurner$Rule" "partFigures" "[I"] ++ wsX50)
def wsX4_addByte : List Cond := .code yX4_addByte cX4_addByte 2 none :: ([.fieldLink RX4 18 "NameTurner$Planned" "fresh" "LNameTurner$Place;", .fieldLink RX4 31 "NameTurner$Planned" "length" "I", .methodLink RX4 113 yX2_add, .instanceMethod yX2_add, .selects RX2 yX2_add yX2_add, .initialized RX2, .code yX2_add cX2_add 2 none, .fieldLink RX2 19 "NameTurner$Place" "length" "I", .fieldLink RX2 9 "NameTurner$Place" "name" "[I"] ++ wsX40 ++ wsX20)
def wsX4_addCounter : List Cond := .code yX4_addCounter cX4_addCounter 4 none :: ([.fieldLink RX4 28 "NameTurner$Planned" "counter" "I", .methodLink RX4 105 yX4_addByte, .instanceMethod yX4_addByte, .selects RX4 yX4_addByte yX4_addByte, .initialized RX4, .code yX4_addByte cX4_addByte 2 none, .fieldLink RX4 18 "NameTurner$Planned" "fresh" "LNameTurner$Place;", .fieldLink RX4 31 "NameTurner$Planned" "length" "I", .methodLink RX4 113 yX2_add, .instanceMethod yX2_add, .selects RX2 yX2_add yX2_add, .initialized RX2, .code yX2_add cX2_add 2 none, .fieldLink RX2 19 "NameTurner$Place" "length" "I", .fieldLink RX2 9 "NameTurner$Place" "name" "[I"] ++ wsX40 ++ wsX20)
def wsX6_isTaken : List Cond := .code yX6_isTaken cX6_isTaken 1 (some .boolean) :: ([])
def wsX5_wildItem : List Cond := .code yX5_wildItem cX5_wildItem 2 (some .int) :: ([.fieldLink RX5 28 "NameTurner$Rule" "wildCount" "I", .fieldLink RX5 15 "NameTurner$Rule" "wildItems" "[I"] ++ wsX50)
def wsX6_capital : List Cond := .code yX6_capital cX6_capital 1 (some .int) :: ([])
def wsX4_addTaken_r1 : List Cond := [Cond.fieldLink RX4 12 "NameTurner$Planned" "old" "LNameTurner$Place;", Cond.methodLink RX4 116 yX2_byteAt, Cond.instanceMethod yX2_byteAt, Cond.selects RX2 yX2_byteAt yX2_byteAt, Cond.initialized RX2, Cond.code yX2_byteAt cX2_byteAt 2 (some .int), Cond.fieldLink RX2 19 "NameTurner$Place" "length" "I", Cond.fieldLink RX2 9 "NameTurner$Place" "name" "[I", Cond.methodLink RX4 119 yX6_capital, Cond.static yX6_capital, Cond.initialized RX6, Cond.code yX6_capital cX6_capital 1 (some .int), Cond.methodLink RX4 122 yX6_small, Cond.static yX6_small, Cond.code yX6_small cX6_small 1 (some .int), Cond.methodLink RX4 105 yX4_addByte, Cond.instanceMethod yX4_addByte, Cond.selects RX4 yX4_addByte yX4_addByte, Cond.initialized RX4, Cond.code yX4_addByte cX4_addByte 2 none, Cond.fieldLink RX4 18 "NameTurner$Planned" "fresh" "LNameTurner$Place;", Cond.fieldLink RX4 31 "NameTurner$Planned" "length" "I", Cond.methodLink RX4 113 yX2_add, Cond.instanceMethod yX2_add]
def wsX4_addTaken_r2 : List Cond := [Cond.selects RX2 yX2_add yX2_add, Cond.code yX2_add cX2_add 2 none]
def wsX4_addTaken : List Cond := .code yX4_addTaken cX4_addTaken 6 none :: ((wsX4_addTaken_r1 ++ wsX4_addTaken_r2) ++ wsX40 ++ wsX20)
def wsX4_nameBy_r1 : List Cond := [Cond.fieldLink RX4 18 "NameTurner$Planned" "fresh" "LNameTurner$Place;", Cond.fieldLink RX4 31 "NameTurner$Planned" "length" "I", Cond.fieldLink RX4 12 "NameTurner$Planned" "old" "LNameTurner$Place;", Cond.fieldLink RX4 34 "NameTurner$Planned" "stays" "Z", Cond.methodLink RX4 64 yX2_begin, Cond.instanceMethod yX2_begin, Cond.selects RX2 yX2_begin yX2_begin, Cond.initialized RX2, Cond.code yX2_begin cX2_begin 2 none, Cond.fieldLink RX2 15 "NameTurner$Place" "folder" "I", Cond.fieldLink RX2 19 "NameTurner$Place" "length" "I", Cond.methodLink RX4 68 yX5_partCount, Cond.instanceMethod yX5_partCount, Cond.selects RX5 yX5_partCount yX5_partCount, Cond.initialized RX5, Cond.code yX5_partCount cX5_partCount 1 (some .int), Cond.fieldLink RX5 31 "NameTurner$Rule" "partCount" "I", Cond.methodLink RX4 74 yX5_partSign, Cond.instanceMethod yX5_partSign, Cond.selects RX5 yX5_partSign yX5_partSign, Cond.code yX5_partSign cX5_partSign 2 (some .int), Cond.fieldLink RX5 18 "NameTurner$Rule" "partSigns" "[I", Cond.methodLink RX4 78 yX5_partFigure, Cond.instanceMethod yX5_partFigure]
def wsX4_nameBy_r2 : List Cond := [Cond.selects RX5 yX5_partFigure yX5_partFigure, Cond.code yX5_partFigure cX5_partFigure 2 (some .int), Cond.fieldLink RX5 21 "NameTurner$Rule" "partFigures" "[I", Cond.methodLink RX4 81 yX4_addCounter, Cond.instanceMethod yX4_addCounter, Cond.selects RX4 yX4_addCounter yX4_addCounter, Cond.initialized RX4, Cond.code yX4_addCounter cX4_addCounter 4 none, Cond.fieldLink RX4 28 "NameTurner$Planned" "counter" "I", Cond.methodLink RX4 105 yX4_addByte, Cond.instanceMethod yX4_addByte, Cond.selects RX4 yX4_addByte yX4_addByte, Cond.code yX4_addByte cX4_addByte 2 none, Cond.methodLink RX4 113 yX2_add, Cond.instanceMethod yX2_add, Cond.selects RX2 yX2_add yX2_add, Cond.code yX2_add cX2_add 2 none, Cond.fieldLink RX2 9 "NameTurner$Place" "name" "[I", Cond.methodLink RX4 84 yX6_isTaken, Cond.static yX6_isTaken, Cond.initialized RX6, Cond.code yX6_isTaken cX6_isTaken 1 (some .boolean), Cond.methodLink RX4 90 yX5_wildItem, Cond.instanceMethod yX5_wildItem]
def wsX4_nameBy_r3 : List Cond := [Cond.selects RX5 yX5_wildItem yX5_wildItem, Cond.code yX5_wildItem cX5_wildItem 2 (some .int), Cond.fieldLink RX5 28 "NameTurner$Rule" "wildCount" "I", Cond.fieldLink RX5 15 "NameTurner$Rule" "wildItems" "[I", Cond.methodLink RX4 93 yX0_startOf, Cond.instanceMethod yX0_startOf, Cond.selects RX0 yX0_startOf yX0_startOf, Cond.initialized RX0, Cond.code yX0_startOf cX0_startOf 2 (some .int), Cond.fieldLink RX0 19 "NameTurner$Fit" "start" "[I", Cond.methodLink RX4 98 yX0_tookBy, Cond.instanceMethod yX0_tookBy, Cond.selects RX0 yX0_tookBy yX0_tookBy, Cond.code yX0_tookBy cX0_tookBy 2 (some .int), Cond.fieldLink RX0 15 "NameTurner$Fit" "took" "[I", Cond.methodLink RX4 101 yX4_addTaken, Cond.instanceMethod yX4_addTaken, Cond.selects RX4 yX4_addTaken yX4_addTaken, Cond.code yX4_addTaken cX4_addTaken 6 none, Cond.methodLink RX4 116 yX2_byteAt, Cond.instanceMethod yX2_byteAt, Cond.selects RX2 yX2_byteAt yX2_byteAt, Cond.code yX2_byteAt cX2_byteAt 2 (some .int), Cond.methodLink RX4 119 yX6_capital]
def wsX4_nameBy_r4 : List Cond := [Cond.static yX6_capital, Cond.code yX6_capital cX6_capital 1 (some .int), Cond.methodLink RX4 122 yX6_small, Cond.static yX6_small, Cond.code yX6_small cX6_small 1 (some .int), Cond.methodLink RX4 109 yX2_isJust, Cond.instanceMethod yX2_isJust, Cond.selects RX2 yX2_isJust yX2_isJust, Cond.code yX2_isJust cX2_isJust 2 (some .boolean), Cond.methodLink RX2 33 yX2_isAlike, Cond.instanceMethod yX2_isAlike, Cond.selects RX2 yX2_isAlike yX2_isAlike, Cond.code yX2_isAlike cX2_isAlike 6 (some .boolean), Cond.methodLink RX2 26 yX2_byteAt, Cond.methodLink RX2 37 yX6_small]
def wsX4_nameBy : List Cond := .code yX4_nameBy cX4_nameBy 8 none :: ((wsX4_nameBy_r1 ++ (wsX4_nameBy_r2 ++ (wsX4_nameBy_r3 ++ wsX4_nameBy_r4))) ++ wsX40 ++ wsX20 ++ wsX50 ++ wsX00)
def wsX5_init : List Cond := .code yX5_init cX5_init 1 none :: ([.methodLink RX5 3 objectInit, .instanceMethod objectInit, .code objectInit ⟨#[0xb1]⟩ 1 none, .arrayClass .int, .fieldLink RX5 9 "NameTurner$Rule" "items" "[I", .fieldLink RX5 15 "NameTurner$Rule" "wildItems" "[I", .fieldLink RX5 18 "NameTurner$Rule" "partSigns" "[I", .fieldLink RX5 21 "NameTurner$Rule" "partFigures" "[I", .fieldLink RX5 24 "NameTurner$Rule" "itemCount" "I", .fieldLink RX5 28 "NameTurner$Rule" "wildCount" "I", .fieldLink RX5 31 "NameTurner$Rule" "partCount" "I", .fieldLink RX5 34 "NameTurner$Rule" "faultAt" "I"] ++ wsX50)
def wsX5_placeOfFault : List Cond := .code yX5_placeOfFault cX5_placeOfFault 1 (some .int) :: ([.fieldLink RX5 34 "NameTurner$Rule" "faultAt" "I"] ++ wsX50)
def wsX8_length : List Cond := .code yX8_length cX8_length 1 (some .int) :: ([.fieldLink RX8 15 "NameTurner$Tape" "length" "I"] ++ wsX80)
def wsX8_byteAt : List Cond := .code yX8_byteAt cX8_byteAt 2 (some .int) :: ([.fieldLink RX8 15 "NameTurner$Tape" "length" "I", .fieldLink RX8 9 "NameTurner$Tape" "bytes" "[I"] ++ wsX80)
def wsX6_isSmall : List Cond := .code yX6_isSmall cX6_isSmall 1 (some .boolean) :: ([])
def wsX6_isCapital : List Cond := .code yX6_isCapital cX6_isCapital 1 (some .boolean) :: ([])
def wsX6_isOfNames : List Cond := .code yX6_isOfNames cX6_isOfNames 1 (some .boolean) :: ([.methodLink RX6 7 yX6_isSmall, .static yX6_isSmall, .initialized RX6, .code yX6_isSmall cX6_isSmall 1 (some .boolean), .methodLink RX6 13 yX6_isCapital, .static yX6_isCapital, .code yX6_isCapital cX6_isCapital 1 (some .boolean), .methodLink RX6 16 yX6_isFigure, .static yX6_isFigure, .code yX6_isFigure cX6_isFigure 1 (some .boolean)])
def wsX6_isWild : List Cond := .code yX6_isWild cX6_isWild 1 (some .boolean) :: ([])
def wsX5_fault : List Cond := .code yX5_fault cX5_fault 3 (some .int) :: ([.fieldLink RX5 34 "NameTurner$Rule" "faultAt" "I"] ++ wsX50)
def wsX5_addItem : List Cond := .code yX5_addItem cX5_addItem 2 none :: ([.fieldLink RX5 15 "NameTurner$Rule" "wildItems" "[I", .fieldLink RX5 28 "NameTurner$Rule" "wildCount" "I", .fieldLink RX5 24 "NameTurner$Rule" "itemCount" "I", .fieldLink RX5 9 "NameTurner$Rule" "items" "[I", .methodLink RX5 61 yX6_isWild, .static yX6_isWild, .initialized RX6, .code yX6_isWild cX6_isWild 1 (some .boolean)] ++ wsX50)
def wsX5_readItems_r1 : List Cond := [Cond.fieldLink RX5 24 "NameTurner$Rule" "itemCount" "I", Cond.methodLink RX5 45 yX8_length, Cond.instanceMethod yX8_length, Cond.selects RX8 yX8_length yX8_length, Cond.initialized RX8, Cond.code yX8_length cX8_length 1 (some .int), Cond.fieldLink RX8 15 "NameTurner$Tape" "length" "I", Cond.methodLink RX5 51 yX8_byteAt, Cond.instanceMethod yX8_byteAt, Cond.selects RX8 yX8_byteAt yX8_byteAt, Cond.code yX8_byteAt cX8_byteAt 2 (some .int), Cond.fieldLink RX8 9 "NameTurner$Tape" "bytes" "[I", Cond.methodLink RX5 55 yX6_isOfNames, Cond.static yX6_isOfNames, Cond.initialized RX6, Cond.code yX6_isOfNames cX6_isOfNames 1 (some .boolean), Cond.methodLink RX6 7 yX6_isSmall, Cond.static yX6_isSmall, Cond.code yX6_isSmall cX6_isSmall 1 (some .boolean), Cond.methodLink RX6 13 yX6_isCapital, Cond.static yX6_isCapital, Cond.code yX6_isCapital cX6_isCapital 1 (some .boolean), Cond.methodLink RX6 16 yX6_isFigure, Cond.static yX6_isFigure]
def wsX5_readItems_r2 : List Cond := [Cond.code yX6_isFigure cX6_isFigure 1 (some .boolean), Cond.methodLink RX5 61 yX6_isWild, Cond.static yX6_isWild, Cond.code yX6_isWild cX6_isWild 1 (some .boolean), Cond.methodLink RX5 64 yX5_fault, Cond.instanceMethod yX5_fault, Cond.selects RX5 yX5_fault yX5_fault, Cond.initialized RX5, Cond.code yX5_fault cX5_fault 3 (some .int), Cond.fieldLink RX5 34 "NameTurner$Rule" "faultAt" "I", Cond.methodLink RX5 68 yX5_addItem, Cond.instanceMethod yX5_addItem, Cond.selects RX5 yX5_addItem yX5_addItem, Cond.code yX5_addItem cX5_addItem 2 none, Cond.fieldLink RX5 15 "NameTurner$Rule" "wildItems" "[I", Cond.fieldLink RX5 28 "NameTurner$Rule" "wildCount" "I", Cond.fieldLink RX5 9 "NameTurner$Rule" "items" "[I"]
def wsX5_readItems : List Cond := .code yX5_readItems cX5_readItems 4 (some .int) :: ((wsX5_readItems_r1 ++ wsX5_readItems_r2) ++ wsX50 ++ wsX80)
def wsX5_faultOfFigure : List Cond := .code yX5_faultOfFigure cX5_faultOfFigure 4 (some .int) :: ([.fieldLink RX5 28 "NameTurner$Rule" "wildCount" "I", .methodLink RX5 82 yX6_isFigure, .static yX6_isFigure, .initialized RX6, .code yX6_isFigure cX6_isFigure 1 (some .boolean)] ++ wsX50)
def wsX5_addPart : List Cond := .code yX5_addPart cX5_addPart 3 none :: ([.fieldLink RX5 18 "NameTurner$Rule" "partSigns" "[I", .fieldLink RX5 31 "NameTurner$Rule" "partCount" "I", .fieldLink RX5 21 "NameTurner$Rule" "partFigures" "[I"] ++ wsX50)
def wsX5_readParts_r1 : List Cond := [Cond.fieldLink RX5 31 "NameTurner$Rule" "partCount" "I", Cond.methodLink RX5 45 yX8_length, Cond.instanceMethod yX8_length, Cond.selects RX8 yX8_length yX8_length, Cond.initialized RX8, Cond.code yX8_length cX8_length 1 (some .int), Cond.fieldLink RX8 15 "NameTurner$Tape" "length" "I", Cond.methodLink RX5 51 yX8_byteAt, Cond.instanceMethod yX8_byteAt, Cond.selects RX8 yX8_byteAt yX8_byteAt, Cond.code yX8_byteAt cX8_byteAt 2 (some .int), Cond.fieldLink RX8 9 "NameTurner$Tape" "bytes" "[I", Cond.methodLink RX5 72 yX6_isTaken, Cond.static yX6_isTaken, Cond.initialized RX6, Cond.code yX6_isTaken cX6_isTaken 1 (some .boolean), Cond.methodLink RX5 55 yX6_isOfNames, Cond.static yX6_isOfNames, Cond.code yX6_isOfNames cX6_isOfNames 1 (some .boolean), Cond.methodLink RX6 7 yX6_isSmall, Cond.static yX6_isSmall, Cond.code yX6_isSmall cX6_isSmall 1 (some .boolean), Cond.methodLink RX6 13 yX6_isCapital, Cond.static yX6_isCapital]
def wsX5_readParts_r2 : List Cond := [Cond.code yX6_isCapital cX6_isCapital 1 (some .boolean), Cond.methodLink RX6 16 yX6_isFigure, Cond.static yX6_isFigure, Cond.code yX6_isFigure cX6_isFigure 1 (some .boolean), Cond.methodLink RX5 64 yX5_fault, Cond.instanceMethod yX5_fault, Cond.selects RX5 yX5_fault yX5_fault, Cond.initialized RX5, Cond.code yX5_fault cX5_fault 3 (some .int), Cond.fieldLink RX5 34 "NameTurner$Rule" "faultAt" "I", Cond.methodLink RX5 75 yX5_faultOfFigure, Cond.instanceMethod yX5_faultOfFigure, Cond.selects RX5 yX5_faultOfFigure yX5_faultOfFigure, Cond.code yX5_faultOfFigure cX5_faultOfFigure 4 (some .int), Cond.fieldLink RX5 28 "NameTurner$Rule" "wildCount" "I", Cond.methodLink RX5 82 yX6_isFigure, Cond.methodLink RX5 78 yX5_addPart, Cond.instanceMethod yX5_addPart, Cond.selects RX5 yX5_addPart yX5_addPart, Cond.code yX5_addPart cX5_addPart 3 none, Cond.fieldLink RX5 18 "NameTurner$Rule" "partSigns" "[I", Cond.fieldLink RX5 21 "NameTurner$Rule" "partFigures" "[I"]
def wsX5_readParts : List Cond := .code yX5_readParts cX5_readParts 7 (some .int) :: ((wsX5_readParts_r1 ++ wsX5_readParts_r2) ++ wsX50 ++ wsX80)
def wsX5_read_r1 : List Cond := [Cond.fieldLink RX5 24 "NameTurner$Rule" "itemCount" "I", Cond.fieldLink RX5 28 "NameTurner$Rule" "wildCount" "I", Cond.fieldLink RX5 31 "NameTurner$Rule" "partCount" "I", Cond.fieldLink RX5 34 "NameTurner$Rule" "faultAt" "I", Cond.methodLink RX5 37 yX5_readItems, Cond.instanceMethod yX5_readItems, Cond.selects RX5 yX5_readItems yX5_readItems, Cond.initialized RX5, Cond.code yX5_readItems cX5_readItems 4 (some .int), Cond.methodLink RX5 45 yX8_length, Cond.instanceMethod yX8_length, Cond.selects RX8 yX8_length yX8_length, Cond.initialized RX8, Cond.code yX8_length cX8_length 1 (some .int), Cond.fieldLink RX8 15 "NameTurner$Tape" "length" "I", Cond.methodLink RX5 51 yX8_byteAt, Cond.instanceMethod yX8_byteAt, Cond.selects RX8 yX8_byteAt yX8_byteAt, Cond.code yX8_byteAt cX8_byteAt 2 (some .int), Cond.fieldLink RX8 9 "NameTurner$Tape" "bytes" "[I", Cond.methodLink RX5 55 yX6_isOfNames, Cond.static yX6_isOfNames, Cond.initialized RX6, Cond.code yX6_isOfNames cX6_isOfNames 1 (some .boolean)]
def wsX5_read_r2 : List Cond := [Cond.methodLink RX6 7 yX6_isSmall, Cond.static yX6_isSmall, Cond.code yX6_isSmall cX6_isSmall 1 (some .boolean), Cond.methodLink RX6 13 yX6_isCapital, Cond.static yX6_isCapital, Cond.code yX6_isCapital cX6_isCapital 1 (some .boolean), Cond.methodLink RX6 16 yX6_isFigure, Cond.static yX6_isFigure, Cond.code yX6_isFigure cX6_isFigure 1 (some .boolean), Cond.methodLink RX5 61 yX6_isWild, Cond.static yX6_isWild, Cond.code yX6_isWild cX6_isWild 1 (some .boolean), Cond.methodLink RX5 64 yX5_fault, Cond.instanceMethod yX5_fault, Cond.selects RX5 yX5_fault yX5_fault, Cond.code yX5_fault cX5_fault 3 (some .int), Cond.methodLink RX5 68 yX5_addItem, Cond.instanceMethod yX5_addItem, Cond.selects RX5 yX5_addItem yX5_addItem, Cond.code yX5_addItem cX5_addItem 2 none, Cond.fieldLink RX5 15 "NameTurner$Rule" "wildItems" "[I", Cond.fieldLink RX5 9 "NameTurner$Rule" "items" "[I", Cond.methodLink RX5 41 yX5_readParts, Cond.instanceMethod yX5_readParts]
def wsX5_read_r3 : List Cond := [Cond.selects RX5 yX5_readParts yX5_readParts, Cond.code yX5_readParts cX5_readParts 7 (some .int), Cond.methodLink RX5 72 yX6_isTaken, Cond.static yX6_isTaken, Cond.code yX6_isTaken cX6_isTaken 1 (some .boolean), Cond.methodLink RX5 75 yX5_faultOfFigure, Cond.instanceMethod yX5_faultOfFigure, Cond.selects RX5 yX5_faultOfFigure yX5_faultOfFigure, Cond.code yX5_faultOfFigure cX5_faultOfFigure 4 (some .int), Cond.methodLink RX5 82 yX6_isFigure, Cond.methodLink RX5 78 yX5_addPart, Cond.instanceMethod yX5_addPart, Cond.selects RX5 yX5_addPart yX5_addPart, Cond.code yX5_addPart cX5_addPart 3 none, Cond.fieldLink RX5 18 "NameTurner$Rule" "partSigns" "[I", Cond.fieldLink RX5 21 "NameTurner$Rule" "partFigures" "[I"]
def wsX5_read : List Cond := .code yX5_read cX5_read 3 (some .int) :: ((wsX5_read_r1 ++ (wsX5_read_r2 ++ wsX5_read_r3)) ++ wsX50 ++ wsX80)
def wsX7_init : List Cond := .code yX7_init cX7_init 2 none :: ([.methodLink RX7 3 objectInit, .instanceMethod objectInit, .code objectInit ⟨#[0xb1]⟩ 1 none, .classLink RX7 9 RX2, .fieldLink RX7 11 "NameTurner$Store" "places" "[LNameTurner$Place;", .arrayClass .boolean, .fieldLink RX7 17 "NameTurner$Store" "is" "[Z", .arrayClass .int, .fieldLink RX7 21 "NameTurner$Store" "listing" "[I", .fieldLink RX7 25 "NameTurner$Store" "came" "I", .fieldLink RX7 29 "NameTurner$Store" "are" "I", .fieldLink RX7 32 "NameTurner$Store" "folding" "Z", .instantiable RX2 3, .initialized RX2, .instanceMethod yX2_init, .code yX2_init cX2_init 1 none, .methodLink RX2 3 objectInit, .fieldLink RX2 9 "NameTurner$Place" "name" "[I", .fieldLink RX2 15 "NameTurner$Place" "folder" "I", .fieldLink RX2 19 "NameTurner$Place" "length" "I"] ++ wsX70 ++ wsX20)
def wsX7_howManyCame : List Cond := .code yX7_howManyCame cX7_howManyCame 1 (some .int) :: ([.fieldLink RX7 25 "NameTurner$Store" "came" "I"] ++ wsX70)
def wsX7_howManyAre : List Cond := .code yX7_howManyAre cX7_howManyAre 1 (some .int) :: ([.fieldLink RX7 29 "NameTurner$Store" "are" "I"] ++ wsX70)
def wsX7_isFull : List Cond := .code yX7_isFull cX7_isFull 1 (some .boolean) :: ([.fieldLink RX7 25 "NameTurner$Store" "came" "I"] ++ wsX70)
def wsX7_setFolding : List Cond := .code yX7_setFolding cX7_setFolding 2 none :: ([.fieldLink RX7 32 "NameTurner$Store" "folding" "Z"] ++ wsX70)
def wsX7_has : List Cond := .code yX7_has cX7_has 2 (some .boolean) :: ([.fieldLink RX7 25 "NameTurner$Store" "came" "I", .fieldLink RX7 17 "NameTurner$Store" "is" "[Z"] ++ wsX70)
def wsX7_placeOf : List Cond := .code yX7_placeOf cX7_placeOf 2 (some (.object "NameTurner$Place")) :: ([.fieldLink RX7 11 "NameTurner$Store" "places" "[LNameTurner$Place;"] ++ wsX70)
def wsX7_add : List Cond := .code yX7_add cX7_add 3 (some .int) :: ([.fieldLink RX7 25 "NameTurner$Store" "came" "I", .fieldLink RX7 11 "NameTurner$Store" "places" "[LNameTurner$Place;", .fieldLink RX7 17 "NameTurner$Store" "is" "[Z", .fieldLink RX7 29 "NameTurner$Store" "are" "I", .methodLink RX7 37 yX2_become, .instanceMethod yX2_become, .selects RX2 yX2_become yX2_become, .initialized RX2, .code yX2_become cX2_become 3 none, .fieldLink RX2 15 "NameTurner$Place" "folder" "I", .fieldLink RX2 19 "NameTurner$Place" "length" "I", .methodLink RX2 22 yX2_begin, .instanceMethod yX2_begin, .selects RX2 yX2_begin yX2_begin, .code yX2_begin cX2_begin 2 none, .methodLink RX2 26 yX2_byteAt, .instanceMethod yX2_byteAt, .selects RX2 yX2_byteAt yX2_byteAt, .code yX2_byteAt cX2_byteAt 2 (some .int), .fieldLink RX2 9 "NameTurner$Place" "name" "[I", .methodLink RX2 30 yX2_add, .instanceMethod yX2_add, .selects RX2 yX2_add yX2_add, .code yX2_add cX2_add 2 none] ++ wsX70 ++ wsX20)
def wsX7_drop : List Cond := .code yX7_drop cX7_drop 2 none :: ([.fieldLink RX7 17 "NameTurner$Store" "is" "[Z", .fieldLink RX7 29 "NameTurner$Store" "are" "I"] ++ wsX70)
def wsX7_findJust : List Cond := .code yX7_findJust cX7_findJust 3 (some .int) :: ([.fieldLink RX7 25 "NameTurner$Store" "came" "I", .fieldLink RX7 17 "NameTurner$Store" "is" "[Z", .fieldLink RX7 11 "NameTurner$Store" "places" "[LNameTurner$Place;", .methodLink RX7 45 yX2_isJust, .instanceMethod yX2_isJust, .selects RX2 yX2_isJust yX2_isJust, .initialized RX2, .code yX2_isJust cX2_isJust 2 (some .boolean), .methodLink RX2 33 yX2_isAlike, .instanceMethod yX2_isAlike, .selects RX2 yX2_isAlike yX2_isAlike, .code yX2_isAlike cX2_isAlike 6 (some .boolean), .fieldLink RX2 15 "NameTurner$Place" "folder" "I", .fieldLink RX2 19 "NameTurner$Place" "length" "I", .methodLink RX2 26 yX2_byteAt, .instanceMethod yX2_byteAt, .selects RX2 yX2_byteAt yX2_byteAt, .code yX2_byteAt cX2_byteAt 2 (some .int), .fieldLink RX2 9 "NameTurner$Place" "name" "[I", .methodLink RX2 37 yX6_small, .static yX6_small, .initialized RX6, .code yX6_small cX6_small 1 (some .int)] ++ wsX70 ++ wsX20)
def wsX7_howManySpare : List Cond := .code yX7_howManySpare cX7_howManySpare 3 (some .int) :: ([.fieldLink RX7 25 "NameTurner$Store" "came" "I", .fieldLink RX7 17 "NameTurner$Store" "is" "[Z", .fieldLink RX7 11 "NameTurner$Store" "places" "[LNameTurner$Place;", .methodLink RX7 49 yX2_isSpare, .instanceMethod yX2_isSpare, .selects RX2 yX2_isSpare yX2_isSpare, .initialized RX2, .code yX2_isSpare cX2_isSpare 1 (some .boolean), .methodLink RX2 26 yX2_byteAt, .instanceMethod yX2_byteAt, .selects RX2 yX2_byteAt yX2_byteAt, .code yX2_byteAt cX2_byteAt 2 (some .int), .fieldLink RX2 19 "NameTurner$Place" "length" "I", .fieldLink RX2 9 "NameTurner$Place" "name" "[I"] ++ wsX70 ++ wsX20)
def wsX7_isNamedBefore : List Cond := .code yX7_isNamedBefore cX7_isNamedBefore 3 (some .boolean) :: ([.fieldLink RX7 11 "NameTurner$Store" "places" "[LNameTurner$Place;", .methodLink RX7 60 yX2_isNamedBefore, .instanceMethod yX2_isNamedBefore, .selects RX2 yX2_isNamedBefore yX2_isNamedBefore, .initialized RX2, .code yX2_isNamedBefore cX2_isNamedBefore 4 (some .boolean), .fieldLink RX2 19 "NameTurner$Place" "length" "I", .methodLink RX2 42 Lib.Math.min.name, .static Lib.Math.min.name, .initialized "java/lang/Math", .code Lib.Math.min.name Lib.Math.min.code 2 (some .int), .methodLink RX2 26 yX2_byteAt, .instanceMethod yX2_byteAt, .selects RX2 yX2_byteAt yX2_byteAt, .code yX2_byteAt cX2_byteAt 2 (some .int), .fieldLink RX2 9 "NameTurner$Place" "name" "[I"] ++ wsX70 ++ wsX20)
def wsX7_list : List Cond := .code yX7_list cX7_list 7 (some .int) :: ([.fieldLink RX7 25 "NameTurner$Store" "came" "I", .fieldLink RX7 17 "NameTurner$Store" "is" "[Z", .fieldLink RX7 11 "NameTurner$Store" "places" "[LNameTurner$Place;", .fieldLink RX7 21 "NameTurner$Store" "listing" "[I", .methodLink RX7 56 yX7_isNamedBefore, .instanceMethod yX7_isNamedBefore, .selects RX7 yX7_isNamedBefore yX7_isNamedBefore, .initialized RX7, .code yX7_isNamedBefore cX7_isNamedBefore 3 (some .boolean), .methodLink RX7 60 yX2_isNamedBefore, .instanceMethod yX2_isNamedBefore, .selects RX2 yX2_isNamedBefore yX2_isNamedBefore, .initialized RX2, .code yX2_isNamedBefore cX2_isNamedBefore 4 (some .boolean), .fieldLink RX2 19 "NameTurner$Place" "length" "I", .methodLink RX2 42 Lib.Math.min.name, .static Lib.Math.min.name, .initialized "java/lang/Math", .code Lib.Math.min.name Lib.Math.min.code 2 (some .int), .methodLink RX2 26 yX2_byteAt, .instanceMethod yX2_byteAt, .selects RX2 yX2_byteAt yX2_byteAt, .code yX2_byteAt cX2_byteAt 2 (some .int), .fieldLink RX2 9 "NameTurner$Place" "name" "[I"] ++ wsX70 ++ wsX20)
def wsX7_listed : List Cond := .code yX7_listed cX7_listed 2 (some .int) :: ([.fieldLink RX7 21 "NameTurner$Store" "listing" "[I"] ++ wsX70)
def wsX8_init : List Cond := .code yX8_init cX8_init 1 none :: ([.methodLink RX8 3 objectInit, .instanceMethod objectInit, .code objectInit ⟨#[0xb1]⟩ 1 none, .arrayClass .int, .fieldLink RX8 9 "NameTurner$Tape" "bytes" "[I", .fieldLink RX8 15 "NameTurner$Tape" "length" "I"] ++ wsX80)
def wsX8_hasRoom : List Cond := .code yX8_hasRoom cX8_hasRoom 2 (some .boolean) :: ([.fieldLink RX8 15 "NameTurner$Tape" "length" "I", .fieldLink RX8 9 "NameTurner$Tape" "bytes" "[I"] ++ wsX80)
def wsX8_addNumber : List Cond := .code yX8_addNumber cX8_addNumber 3 none :: ([.fieldLink RX8 15 "NameTurner$Tape" "length" "I", .fieldLink RX8 9 "NameTurner$Tape" "bytes" "[I"] ++ wsX80)
def wsX8_cut : List Cond := .code yX8_cut cX8_cut 2 (some .boolean) :: ([.fieldLink RX8 15 "NameTurner$Tape" "length" "I"] ++ wsX80)
def wsX8_clear : List Cond := .code yX8_clear cX8_clear 1 none :: ([.fieldLink RX8 15 "NameTurner$Tape" "length" "I"] ++ wsX80)
def wsX8_isName : List Cond := .code yX8_isName cX8_isName 2 (some .boolean) :: ([.fieldLink RX8 15 "NameTurner$Tape" "length" "I", .methodLink RX8 19 yX8_byteAt, .instanceMethod yX8_byteAt, .selects RX8 yX8_byteAt yX8_byteAt, .initialized RX8, .code yX8_byteAt cX8_byteAt 2 (some .int), .fieldLink RX8 9 "NameTurner$Tape" "bytes" "[I", .methodLink RX8 23 yX6_isOfNames, .static yX6_isOfNames, .initialized RX6, .code yX6_isOfNames cX6_isOfNames 1 (some .boolean), .methodLink RX6 7 yX6_isSmall, .static yX6_isSmall, .code yX6_isSmall cX6_isSmall 1 (some .boolean), .methodLink RX6 13 yX6_isCapital, .static yX6_isCapital, .code yX6_isCapital cX6_isCapital 1 (some .boolean), .methodLink RX6 16 yX6_isFigure, .static yX6_isFigure, .code yX6_isFigure cX6_isFigure 1 (some .boolean)] ++ wsX80)
def wsX9_init_r1 : List Cond := [Cond.methodLink RX9 3 objectInit, Cond.instanceMethod objectInit, Cond.code objectInit ⟨#[0xb1]⟩ 1 none, Cond.classLink RX9 9 RX8, Cond.instantiable RX8 2, Cond.initialized RX8, Cond.fieldLink RX9 12 "NameTurner" "tape" "LNameTurner$Tape;", Cond.classLink RX9 16 RX2, Cond.instantiable RX2 3, Cond.initialized RX2, Cond.fieldLink RX9 19 "NameTurner" "told" "LNameTurner$Place;", Cond.classLink RX9 23 RX7, Cond.instantiable RX7 6, Cond.initialized RX7, Cond.fieldLink RX9 26 "NameTurner" "store" "LNameTurner$Store;", Cond.classLink RX9 30 RX1, Cond.instantiable RX1 2, Cond.initialized RX1, Cond.fieldLink RX9 33 "NameTurner" "links" "LNameTurner$Links;", Cond.classLink RX9 37 RX0, Cond.instantiable RX0 3, Cond.initialized RX0, Cond.fieldLink RX9 40 "NameTurner" "fit" "LNameTurner$Fit;", Cond.classLink RX9 44 RX3]
def wsX9_init_r2 : List Cond := [Cond.instantiable RX3 9, Cond.initialized RX3, Cond.fieldLink RX9 47 "NameTurner" "plan" "LNameTurner$Plan;", Cond.classLink RX9 51 RX5, Cond.instantiable RX5 8, Cond.initialized RX5, Cond.fieldLink RX9 54 "NameTurner" "rule" "LNameTurner$Rule;", Cond.fieldLink RX9 58 "NameTurner" "draft" "LNameTurner$Rule;", Cond.fieldLink RX9 61 "NameTurner" "hasRule" "Z", Cond.fieldLink RX9 65 "NameTurner" "faultPlace" "I", Cond.fieldLink RX9 69 "NameTurner" "stuckBy" "I", Cond.instanceMethod yX8_init, Cond.code yX8_init cX8_init 1 none, Cond.methodLink RX8 3 objectInit, Cond.arrayClass .int, Cond.fieldLink RX8 9 "NameTurner$Tape" "bytes" "[I", Cond.fieldLink RX8 15 "NameTurner$Tape" "length" "I", Cond.instanceMethod yX2_init, Cond.code yX2_init cX2_init 1 none, Cond.methodLink RX2 3 objectInit, Cond.fieldLink RX2 9 "NameTurner$Place" "name" "[I", Cond.fieldLink RX2 15 "NameTurner$Place" "folder" "I", Cond.fieldLink RX2 19 "NameTurner$Place" "length" "I", Cond.methodLink RX9 25 yX7_init]
def wsX9_init_r3 : List Cond := [Cond.instanceMethod yX7_init, Cond.code yX7_init cX7_init 2 none, Cond.methodLink RX7 3 objectInit, Cond.classLink RX7 9 RX2, Cond.fieldLink RX7 11 "NameTurner$Store" "places" "[LNameTurner$Place;", Cond.arrayClass .boolean, Cond.fieldLink RX7 17 "NameTurner$Store" "is" "[Z", Cond.fieldLink RX7 21 "NameTurner$Store" "listing" "[I", Cond.fieldLink RX7 25 "NameTurner$Store" "came" "I", Cond.fieldLink RX7 29 "NameTurner$Store" "are" "I", Cond.fieldLink RX7 32 "NameTurner$Store" "folding" "Z", Cond.methodLink RX9 32 yX1_init, Cond.instanceMethod yX1_init, Cond.code yX1_init cX1_init 2 none, Cond.methodLink RX1 3 objectInit, Cond.classLink RX1 9 RX2, Cond.fieldLink RX1 11 "NameTurner$Links" "targets" "[LNameTurner$Place;", Cond.fieldLink RX1 17 "NameTurner$Links" "size" "I", Cond.instanceMethod yX0_init, Cond.code yX0_init cX0_init 1 none, Cond.methodLink RX0 3 objectInit, Cond.fieldLink RX0 11 "NameTurner$Fit" "can" "[Z", Cond.fieldLink RX0 15 "NameTurner$Fit" "took" "[I", Cond.fieldLink RX0 19 "NameTurner$Fit" "start" "[I"]
def wsX9_init_r4 : List Cond := [Cond.methodLink RX9 46 yX3_init, Cond.instanceMethod yX3_init, Cond.code yX3_init cX3_init 2 none, Cond.methodLink RX3 3 objectInit, Cond.classLink RX3 9 RX4, Cond.fieldLink RX3 11 "NameTurner$Plan" "all" "[LNameTurner$Planned;", Cond.fieldLink RX3 17 "NameTurner$Plan" "stepOf" "[I", Cond.fieldLink RX3 21 "NameTurner$Plan" "toSpare" "[Z", Cond.fieldLink RX3 25 "NameTurner$Plan" "fromSpare" "[Z", Cond.fieldLink RX3 28 "NameTurner$Plan" "made" "Z", Cond.fieldLink RX3 32 "NameTurner$Plan" "size" "I", Cond.fieldLink RX3 36 "NameTurner$Plan" "troubles" "I", Cond.fieldLink RX3 39 "NameTurner$Plan" "stepCount" "I", Cond.fieldLink RX3 42 "NameTurner$Plan" "done" "I", Cond.instantiable RX4 12, Cond.initialized RX4, Cond.instanceMethod yX4_init, Cond.code yX4_init cX4_init 1 none, Cond.methodLink RX4 3 objectInit, Cond.classLink RX4 9 RX2, Cond.fieldLink RX4 12 "NameTurner$Planned" "old" "LNameTurner$Place;", Cond.fieldLink RX4 18 "NameTurner$Planned" "fresh" "LNameTurner$Place;", Cond.fieldLink RX4 21 "NameTurner$Planned" "spare" "LNameTurner$Place;", Cond.fieldLink RX4 24 "NameTurner$Planned" "file" "I"]
def wsX9_init_r5 : List Cond := [Cond.fieldLink RX4 28 "NameTurner$Planned" "counter" "I", Cond.fieldLink RX4 31 "NameTurner$Planned" "length" "I", Cond.fieldLink RX4 34 "NameTurner$Planned" "stays" "Z", Cond.fieldLink RX4 38 "NameTurner$Planned" "trouble" "I", Cond.fieldLink RX4 41 "NameTurner$Planned" "troubleWith" "I", Cond.fieldLink RX4 44 "NameTurner$Planned" "waitsFor" "I", Cond.fieldLink RX4 47 "NameTurner$Planned" "isSpared" "Z", Cond.fieldLink RX4 50 "NameTurner$Planned" "isThere" "Z", Cond.instanceMethod yX5_init, Cond.code yX5_init cX5_init 1 none, Cond.methodLink RX5 3 objectInit, Cond.fieldLink RX5 9 "NameTurner$Rule" "items" "[I", Cond.fieldLink RX5 15 "NameTurner$Rule" "wildItems" "[I", Cond.fieldLink RX5 18 "NameTurner$Rule" "partSigns" "[I", Cond.fieldLink RX5 21 "NameTurner$Rule" "partFigures" "[I", Cond.fieldLink RX5 24 "NameTurner$Rule" "itemCount" "I", Cond.fieldLink RX5 28 "NameTurner$Rule" "wildCount" "I", Cond.fieldLink RX5 31 "NameTurner$Rule" "partCount" "I", Cond.fieldLink RX5 34 "NameTurner$Rule" "faultAt" "I"]
def wsX9_init : List Cond := .code yX9_init cX9_init 1 none :: ((wsX9_init_r1 ++ (wsX9_init_r2 ++ (wsX9_init_r3 ++ (wsX9_init_r4 ++ wsX9_init_r5)))) ++ wsX80 ++ wsX90 ++ wsX20 ++ wsX70 ++ wsX10 ++ wsX00 ++ wsX30 ++ wsX50 ++ wsX40)
def wsX9_folds : List Cond := .code yX9_folds cX9_folds 2 (some .boolean) :: ([.fieldLink RX9 26 "NameTurner" "store" "LNameTurner$Store;", .methodLink RX9 72 yX7_howManyAre, .instanceMethod yX7_howManyAre, .selects RX7 yX7_howManyAre yX7_howManyAre, .initialized RX7, .code yX7_howManyAre cX7_howManyAre 1 (some .int), .fieldLink RX7 29 "NameTurner$Store" "are" "I", .methodLink RX9 76 yX7_setFolding, .instanceMethod yX7_setFolding, .selects RX7 yX7_setFolding yX7_setFolding, .code yX7_setFolding cX7_setFolding 2 none, .fieldLink RX7 32 "NameTurner$Store" "folding" "Z"] ++ wsX90 ++ wsX70)
def wsX9_feed : List Cond := .code yX9_feed cX9_feed 6 (some .int) :: ([.fieldLink RX9 12 "NameTurner" "tape" "LNameTurner$Tape;", .methodLink RX9 80 yX8_hasRoom, .instanceMethod yX8_hasRoom, .selects RX8 yX8_hasRoom yX8_hasRoom, .initialized RX8, .code yX8_hasRoom cX8_hasRoom 2 (some .boolean), .fieldLink RX8 15 "NameTurner$Tape" "length" "I", .fieldLink RX8 9 "NameTurner$Tape" "bytes" "[I", .methodLink RX9 84 yX8_addNumber, .instanceMethod yX8_addNumber, .selects RX8 yX8_addNumber yX8_addNumber, .code yX8_addNumber cX8_addNumber 3 none, .methodLink RX9 88 yX8_length, .instanceMethod yX8_length, .selects RX8 yX8_length yX8_length, .code yX8_length cX8_length 1 (some .int)] ++ wsX90 ++ wsX80)
def wsX9_end : List Cond := .code yX9_end cX9_end 2 (some .int) :: ([.fieldLink RX9 12 "NameTurner" "tape" "LNameTurner$Tape;", .methodLink RX9 91 yX8_cut, .instanceMethod yX8_cut, .selects RX8 yX8_cut yX8_cut, .initialized RX8, .code yX8_cut cX8_cut 2 (some .boolean), .fieldLink RX8 15 "NameTurner$Tape" "length" "I"] ++ wsX90 ++ wsX80)
def wsX9_isFolder : List Cond := .code yX9_isFolder cX9_isFolder 1 (some .boolean) :: ([])
def wsX9_takePlace_r1 : List Cond := [Cond.fieldLink RX9 12 "NameTurner" "tape" "LNameTurner$Tape;", Cond.fieldLink RX9 19 "NameTurner" "told" "LNameTurner$Place;", Cond.methodLink RX9 147 yX9_isFolder, Cond.static yX9_isFolder, Cond.initialized RX9, Cond.code yX9_isFolder cX9_isFolder 1 (some .boolean), Cond.methodLink RX9 293 yX8_isName, Cond.instanceMethod yX8_isName, Cond.selects RX8 yX8_isName yX8_isName, Cond.initialized RX8, Cond.code yX8_isName cX8_isName 2 (some .boolean), Cond.fieldLink RX8 15 "NameTurner$Tape" "length" "I", Cond.methodLink RX8 19 yX8_byteAt, Cond.instanceMethod yX8_byteAt, Cond.selects RX8 yX8_byteAt yX8_byteAt, Cond.code yX8_byteAt cX8_byteAt 2 (some .int), Cond.fieldLink RX8 9 "NameTurner$Tape" "bytes" "[I", Cond.methodLink RX8 23 yX6_isOfNames, Cond.static yX6_isOfNames, Cond.initialized RX6, Cond.code yX6_isOfNames cX6_isOfNames 1 (some .boolean), Cond.methodLink RX6 7 yX6_isSmall, Cond.static yX6_isSmall, Cond.code yX6_isSmall cX6_isSmall 1 (some .boolean)]
def wsX9_takePlace_r2 : List Cond := [Cond.methodLink RX6 13 yX6_isCapital, Cond.static yX6_isCapital, Cond.code yX6_isCapital cX6_isCapital 1 (some .boolean), Cond.methodLink RX6 16 yX6_isFigure, Cond.static yX6_isFigure, Cond.code yX6_isFigure cX6_isFigure 1 (some .boolean), Cond.methodLink RX9 296 yX2_begin, Cond.instanceMethod yX2_begin, Cond.selects RX2 yX2_begin yX2_begin, Cond.initialized RX2, Cond.code yX2_begin cX2_begin 2 none, Cond.fieldLink RX2 15 "NameTurner$Place" "folder" "I", Cond.fieldLink RX2 19 "NameTurner$Place" "length" "I", Cond.methodLink RX9 88 yX8_length, Cond.instanceMethod yX8_length, Cond.selects RX8 yX8_length yX8_length, Cond.code yX8_length cX8_length 1 (some .int), Cond.methodLink RX9 298 yX8_byteAt, Cond.methodLink RX9 299 yX2_add, Cond.instanceMethod yX2_add, Cond.selects RX2 yX2_add yX2_add, Cond.code yX2_add cX2_add 2 none, Cond.fieldLink RX2 9 "NameTurner$Place" "name" "[I", Cond.methodLink RX9 123 yX8_clear]
def wsX9_takePlace_r3 : List Cond := [Cond.instanceMethod yX8_clear, Cond.selects RX8 yX8_clear yX8_clear, Cond.code yX8_clear cX8_clear 1 none]
def wsX9_takePlace : List Cond := .code yX9_takePlace cX9_takePlace 4 (some .boolean) :: ((wsX9_takePlace_r1 ++ (wsX9_takePlace_r2 ++ wsX9_takePlace_r3)) ++ wsX90 ++ wsX80 ++ wsX20)
def wsX9_file_r1 : List Cond := [Cond.fieldLink RX9 26 "NameTurner" "store" "LNameTurner$Store;", Cond.fieldLink RX9 19 "NameTurner" "told" "LNameTurner$Place;", Cond.methodLink RX9 94 yX9_takePlace, Cond.instanceMethod yX9_takePlace, Cond.selects RX9 yX9_takePlace yX9_takePlace, Cond.initialized RX9, Cond.code yX9_takePlace cX9_takePlace 4 (some .boolean), Cond.fieldLink RX9 12 "NameTurner" "tape" "LNameTurner$Tape;", Cond.methodLink RX9 147 yX9_isFolder, Cond.static yX9_isFolder, Cond.code yX9_isFolder cX9_isFolder 1 (some .boolean), Cond.methodLink RX9 293 yX8_isName, Cond.instanceMethod yX8_isName, Cond.selects RX8 yX8_isName yX8_isName, Cond.initialized RX8, Cond.code yX8_isName cX8_isName 2 (some .boolean), Cond.fieldLink RX8 15 "NameTurner$Tape" "length" "I", Cond.methodLink RX8 19 yX8_byteAt, Cond.instanceMethod yX8_byteAt, Cond.selects RX8 yX8_byteAt yX8_byteAt, Cond.code yX8_byteAt cX8_byteAt 2 (some .int), Cond.fieldLink RX8 9 "NameTurner$Tape" "bytes" "[I", Cond.methodLink RX8 23 yX6_isOfNames, Cond.static yX6_isOfNames]
def wsX9_file_r2 : List Cond := [Cond.initialized RX6, Cond.code yX6_isOfNames cX6_isOfNames 1 (some .boolean), Cond.methodLink RX6 7 yX6_isSmall, Cond.static yX6_isSmall, Cond.code yX6_isSmall cX6_isSmall 1 (some .boolean), Cond.methodLink RX6 13 yX6_isCapital, Cond.static yX6_isCapital, Cond.code yX6_isCapital cX6_isCapital 1 (some .boolean), Cond.methodLink RX6 16 yX6_isFigure, Cond.static yX6_isFigure, Cond.code yX6_isFigure cX6_isFigure 1 (some .boolean), Cond.methodLink RX9 296 yX2_begin, Cond.instanceMethod yX2_begin, Cond.selects RX2 yX2_begin yX2_begin, Cond.initialized RX2, Cond.code yX2_begin cX2_begin 2 none, Cond.fieldLink RX2 15 "NameTurner$Place" "folder" "I", Cond.fieldLink RX2 19 "NameTurner$Place" "length" "I", Cond.methodLink RX9 88 yX8_length, Cond.instanceMethod yX8_length, Cond.selects RX8 yX8_length yX8_length, Cond.code yX8_length cX8_length 1 (some .int), Cond.methodLink RX9 298 yX8_byteAt, Cond.methodLink RX9 299 yX2_add]
def wsX9_file_r3 : List Cond := [Cond.instanceMethod yX2_add, Cond.selects RX2 yX2_add yX2_add, Cond.code yX2_add cX2_add 2 none, Cond.fieldLink RX2 9 "NameTurner$Place" "name" "[I", Cond.methodLink RX9 123 yX8_clear, Cond.instanceMethod yX8_clear, Cond.selects RX8 yX8_clear yX8_clear, Cond.code yX8_clear cX8_clear 1 none, Cond.methodLink RX9 97 yX7_isFull, Cond.instanceMethod yX7_isFull, Cond.selects RX7 yX7_isFull yX7_isFull, Cond.initialized RX7, Cond.code yX7_isFull cX7_isFull 1 (some .boolean), Cond.fieldLink RX7 25 "NameTurner$Store" "came" "I", Cond.methodLink RX9 101 yX7_findAlike, Cond.instanceMethod yX7_findAlike, Cond.selects RX7 yX7_findAlike yX7_findAlike, Cond.code yX7_findAlike cX7_findAlike 4 (some .int), Cond.fieldLink RX7 17 "NameTurner$Store" "is" "[Z", Cond.fieldLink RX7 11 "NameTurner$Store" "places" "[LNameTurner$Place;", Cond.fieldLink RX7 32 "NameTurner$Store" "folding" "Z", Cond.methodLink RX7 41 yX2_isAlike, Cond.instanceMethod yX2_isAlike, Cond.selects RX2 yX2_isAlike yX2_isAlike]
def wsX9_file_r4 : List Cond := [Cond.code yX2_isAlike cX2_isAlike 6 (some .boolean), Cond.methodLink RX2 26 yX2_byteAt, Cond.instanceMethod yX2_byteAt, Cond.selects RX2 yX2_byteAt yX2_byteAt, Cond.code yX2_byteAt cX2_byteAt 2 (some .int), Cond.methodLink RX2 37 yX6_small, Cond.static yX6_small, Cond.code yX6_small cX6_small 1 (some .int), Cond.methodLink RX9 105 yX7_add, Cond.instanceMethod yX7_add, Cond.selects RX7 yX7_add yX7_add, Cond.code yX7_add cX7_add 3 (some .int), Cond.fieldLink RX7 29 "NameTurner$Store" "are" "I", Cond.methodLink RX7 37 yX2_become, Cond.instanceMethod yX2_become, Cond.selects RX2 yX2_become yX2_become, Cond.code yX2_become cX2_become 3 none, Cond.methodLink RX2 22 yX2_begin, Cond.methodLink RX2 30 yX2_add]
def wsX9_file : List Cond := .code yX9_file cX9_file 3 (some .int) :: ((wsX9_file_r1 ++ (wsX9_file_r2 ++ (wsX9_file_r3 ++ wsX9_file_r4))) ++ wsX90 ++ wsX80 ++ wsX20 ++ wsX70)
def wsX9_remove : List Cond := .code yX9_remove cX9_remove 2 (some .boolean) :: ([.fieldLink RX9 26 "NameTurner" "store" "LNameTurner$Store;", .methodLink RX9 109 yX7_has, .instanceMethod yX7_has, .selects RX7 yX7_has yX7_has, .initialized RX7, .code yX7_has cX7_has 2 (some .boolean), .fieldLink RX7 25 "NameTurner$Store" "came" "I", .fieldLink RX7 17 "NameTurner$Store" "is" "[Z", .methodLink RX9 112 yX7_drop, .instanceMethod yX7_drop, .selects RX7 yX7_drop yX7_drop, .code yX7_drop cX7_drop 2 none, .fieldLink RX7 29 "NameTurner$Store" "are" "I"] ++ wsX90 ++ wsX70)
def wsX9_move_r1 : List Cond := [Cond.fieldLink RX9 26 "NameTurner" "store" "LNameTurner$Store;", Cond.fieldLink RX9 33 "NameTurner" "links" "LNameTurner$Links;", Cond.methodLink RX9 132 yX7_placeOf, Cond.instanceMethod yX7_placeOf, Cond.selects RX7 yX7_placeOf yX7_placeOf, Cond.initialized RX7, Cond.code yX7_placeOf cX7_placeOf 2 (some (.object "NameTurner$Place")), Cond.fieldLink RX7 11 "NameTurner$Store" "places" "[LNameTurner$Place;", Cond.methodLink RX9 305 yX1_follow, Cond.instanceMethod yX1_follow, Cond.selects RX1 yX1_follow yX1_follow, Cond.initialized RX1, Cond.code yX1_follow cX1_follow 4 none, Cond.fieldLink RX1 17 "NameTurner$Links" "size" "I", Cond.fieldLink RX1 11 "NameTurner$Links" "targets" "[LNameTurner$Place;", Cond.methodLink RX1 26 yX2_isJust, Cond.instanceMethod yX2_isJust, Cond.selects RX2 yX2_isJust yX2_isJust, Cond.initialized RX2, Cond.code yX2_isJust cX2_isJust 2 (some .boolean), Cond.methodLink RX2 33 yX2_isAlike, Cond.instanceMethod yX2_isAlike, Cond.selects RX2 yX2_isAlike yX2_isAlike, Cond.code yX2_isAlike cX2_isAlike 6 (some .boolean)]
def wsX9_move_r2 : List Cond := [Cond.fieldLink RX2 15 "NameTurner$Place" "folder" "I", Cond.fieldLink RX2 19 "NameTurner$Place" "length" "I", Cond.methodLink RX2 26 yX2_byteAt, Cond.instanceMethod yX2_byteAt, Cond.selects RX2 yX2_byteAt yX2_byteAt, Cond.code yX2_byteAt cX2_byteAt 2 (some .int), Cond.fieldLink RX2 9 "NameTurner$Place" "name" "[I", Cond.methodLink RX2 37 yX6_small, Cond.static yX6_small, Cond.initialized RX6, Cond.code yX6_small cX6_small 1 (some .int), Cond.methodLink RX1 22 yX2_become, Cond.instanceMethod yX2_become, Cond.selects RX2 yX2_become yX2_become, Cond.code yX2_become cX2_become 3 none, Cond.methodLink RX2 22 yX2_begin, Cond.instanceMethod yX2_begin, Cond.selects RX2 yX2_begin yX2_begin, Cond.code yX2_begin cX2_begin 2 none, Cond.methodLink RX2 30 yX2_add, Cond.instanceMethod yX2_add, Cond.selects RX2 yX2_add yX2_add, Cond.code yX2_add cX2_add 2 none, Cond.methodLink RX9 309 yX2_become]
def wsX9_move : List Cond := .code yX9_move cX9_move 4 none :: ((wsX9_move_r1 ++ wsX9_move_r2) ++ wsX90 ++ wsX70 ++ wsX10 ++ wsX20)
def wsX9_hand_r1 : List Cond := [Cond.fieldLink RX9 26 "NameTurner" "store" "LNameTurner$Store;", Cond.fieldLink RX9 19 "NameTurner" "told" "LNameTurner$Place;", Cond.methodLink RX9 94 yX9_takePlace, Cond.instanceMethod yX9_takePlace, Cond.selects RX9 yX9_takePlace yX9_takePlace, Cond.initialized RX9, Cond.code yX9_takePlace cX9_takePlace 4 (some .boolean), Cond.fieldLink RX9 12 "NameTurner" "tape" "LNameTurner$Tape;", Cond.methodLink RX9 147 yX9_isFolder, Cond.static yX9_isFolder, Cond.code yX9_isFolder cX9_isFolder 1 (some .boolean), Cond.methodLink RX9 293 yX8_isName, Cond.instanceMethod yX8_isName, Cond.selects RX8 yX8_isName yX8_isName, Cond.initialized RX8, Cond.code yX8_isName cX8_isName 2 (some .boolean), Cond.fieldLink RX8 15 "NameTurner$Tape" "length" "I", Cond.methodLink RX8 19 yX8_byteAt, Cond.instanceMethod yX8_byteAt, Cond.selects RX8 yX8_byteAt yX8_byteAt, Cond.code yX8_byteAt cX8_byteAt 2 (some .int), Cond.fieldLink RX8 9 "NameTurner$Tape" "bytes" "[I", Cond.methodLink RX8 23 yX6_isOfNames, Cond.static yX6_isOfNames]
def wsX9_hand_r2 : List Cond := [Cond.initialized RX6, Cond.code yX6_isOfNames cX6_isOfNames 1 (some .boolean), Cond.methodLink RX6 7 yX6_isSmall, Cond.static yX6_isSmall, Cond.code yX6_isSmall cX6_isSmall 1 (some .boolean), Cond.methodLink RX6 13 yX6_isCapital, Cond.static yX6_isCapital, Cond.code yX6_isCapital cX6_isCapital 1 (some .boolean), Cond.methodLink RX6 16 yX6_isFigure, Cond.static yX6_isFigure, Cond.code yX6_isFigure cX6_isFigure 1 (some .boolean), Cond.methodLink RX9 296 yX2_begin, Cond.instanceMethod yX2_begin, Cond.selects RX2 yX2_begin yX2_begin, Cond.initialized RX2, Cond.code yX2_begin cX2_begin 2 none, Cond.fieldLink RX2 15 "NameTurner$Place" "folder" "I", Cond.fieldLink RX2 19 "NameTurner$Place" "length" "I", Cond.methodLink RX9 88 yX8_length, Cond.instanceMethod yX8_length, Cond.selects RX8 yX8_length yX8_length, Cond.code yX8_length cX8_length 1 (some .int), Cond.methodLink RX9 298 yX8_byteAt, Cond.methodLink RX9 299 yX2_add]
def wsX9_hand_r3 : List Cond := [Cond.instanceMethod yX2_add, Cond.selects RX2 yX2_add yX2_add, Cond.code yX2_add cX2_add 2 none, Cond.fieldLink RX2 9 "NameTurner$Place" "name" "[I", Cond.methodLink RX9 123 yX8_clear, Cond.instanceMethod yX8_clear, Cond.selects RX8 yX8_clear yX8_clear, Cond.code yX8_clear cX8_clear 1 none, Cond.methodLink RX9 109 yX7_has, Cond.instanceMethod yX7_has, Cond.selects RX7 yX7_has yX7_has, Cond.initialized RX7, Cond.code yX7_has cX7_has 2 (some .boolean), Cond.fieldLink RX7 25 "NameTurner$Store" "came" "I", Cond.fieldLink RX7 17 "NameTurner$Store" "is" "[Z", Cond.methodLink RX9 101 yX7_findAlike, Cond.instanceMethod yX7_findAlike, Cond.selects RX7 yX7_findAlike yX7_findAlike, Cond.code yX7_findAlike cX7_findAlike 4 (some .int), Cond.fieldLink RX7 11 "NameTurner$Store" "places" "[LNameTurner$Place;", Cond.fieldLink RX7 32 "NameTurner$Store" "folding" "Z", Cond.methodLink RX7 41 yX2_isAlike, Cond.instanceMethod yX2_isAlike, Cond.selects RX2 yX2_isAlike yX2_isAlike]
def wsX9_hand_r4 : List Cond := [Cond.code yX2_isAlike cX2_isAlike 6 (some .boolean), Cond.methodLink RX2 26 yX2_byteAt, Cond.instanceMethod yX2_byteAt, Cond.selects RX2 yX2_byteAt yX2_byteAt, Cond.code yX2_byteAt cX2_byteAt 2 (some .int), Cond.methodLink RX2 37 yX6_small, Cond.static yX6_small, Cond.code yX6_small cX6_small 1 (some .int), Cond.methodLink RX9 115 yX9_move, Cond.instanceMethod yX9_move, Cond.selects RX9 yX9_move yX9_move, Cond.code yX9_move cX9_move 4 none, Cond.fieldLink RX9 33 "NameTurner" "links" "LNameTurner$Links;", Cond.methodLink RX9 132 yX7_placeOf, Cond.instanceMethod yX7_placeOf, Cond.selects RX7 yX7_placeOf yX7_placeOf, Cond.code yX7_placeOf cX7_placeOf 2 (some (.object "NameTurner$Place")), Cond.methodLink RX9 305 yX1_follow, Cond.instanceMethod yX1_follow, Cond.selects RX1 yX1_follow yX1_follow, Cond.initialized RX1, Cond.code yX1_follow cX1_follow 4 none, Cond.fieldLink RX1 17 "NameTurner$Links" "size" "I", Cond.fieldLink RX1 11 "NameTurner$Links" "targets" "[LNameTurner$Place;"]
def wsX9_hand_r5 : List Cond := [Cond.methodLink RX1 26 yX2_isJust, Cond.instanceMethod yX2_isJust, Cond.selects RX2 yX2_isJust yX2_isJust, Cond.code yX2_isJust cX2_isJust 2 (some .boolean), Cond.methodLink RX2 33 yX2_isAlike, Cond.methodLink RX1 22 yX2_become, Cond.instanceMethod yX2_become, Cond.selects RX2 yX2_become yX2_become, Cond.code yX2_become cX2_become 3 none, Cond.methodLink RX2 22 yX2_begin, Cond.methodLink RX2 30 yX2_add, Cond.methodLink RX9 309 yX2_become]
def wsX9_hand : List Cond := .code yX9_hand cX9_hand 4 (some .int) :: ((wsX9_hand_r1 ++ (wsX9_hand_r2 ++ (wsX9_hand_r3 ++ (wsX9_hand_r4 ++ wsX9_hand_r5)))) ++ wsX90 ++ wsX80 ++ wsX20 ++ wsX70 ++ wsX10)
def wsX9_at_r1 : List Cond := [Cond.fieldLink RX9 26 "NameTurner" "store" "LNameTurner$Store;", Cond.fieldLink RX9 19 "NameTurner" "told" "LNameTurner$Place;", Cond.methodLink RX9 94 yX9_takePlace, Cond.instanceMethod yX9_takePlace, Cond.selects RX9 yX9_takePlace yX9_takePlace, Cond.initialized RX9, Cond.code yX9_takePlace cX9_takePlace 4 (some .boolean), Cond.fieldLink RX9 12 "NameTurner" "tape" "LNameTurner$Tape;", Cond.methodLink RX9 147 yX9_isFolder, Cond.static yX9_isFolder, Cond.code yX9_isFolder cX9_isFolder 1 (some .boolean), Cond.methodLink RX9 293 yX8_isName, Cond.instanceMethod yX8_isName, Cond.selects RX8 yX8_isName yX8_isName, Cond.initialized RX8, Cond.code yX8_isName cX8_isName 2 (some .boolean), Cond.fieldLink RX8 15 "NameTurner$Tape" "length" "I", Cond.methodLink RX8 19 yX8_byteAt, Cond.instanceMethod yX8_byteAt, Cond.selects RX8 yX8_byteAt yX8_byteAt, Cond.code yX8_byteAt cX8_byteAt 2 (some .int), Cond.fieldLink RX8 9 "NameTurner$Tape" "bytes" "[I", Cond.methodLink RX8 23 yX6_isOfNames, Cond.static yX6_isOfNames]
def wsX9_at_r2 : List Cond := [Cond.initialized RX6, Cond.code yX6_isOfNames cX6_isOfNames 1 (some .boolean), Cond.methodLink RX6 7 yX6_isSmall, Cond.static yX6_isSmall, Cond.code yX6_isSmall cX6_isSmall 1 (some .boolean), Cond.methodLink RX6 13 yX6_isCapital, Cond.static yX6_isCapital, Cond.code yX6_isCapital cX6_isCapital 1 (some .boolean), Cond.methodLink RX6 16 yX6_isFigure, Cond.static yX6_isFigure, Cond.code yX6_isFigure cX6_isFigure 1 (some .boolean), Cond.methodLink RX9 296 yX2_begin, Cond.instanceMethod yX2_begin, Cond.selects RX2 yX2_begin yX2_begin, Cond.initialized RX2, Cond.code yX2_begin cX2_begin 2 none, Cond.fieldLink RX2 15 "NameTurner$Place" "folder" "I", Cond.fieldLink RX2 19 "NameTurner$Place" "length" "I", Cond.methodLink RX9 88 yX8_length, Cond.instanceMethod yX8_length, Cond.selects RX8 yX8_length yX8_length, Cond.code yX8_length cX8_length 1 (some .int), Cond.methodLink RX9 298 yX8_byteAt, Cond.methodLink RX9 299 yX2_add]
def wsX9_at_r3 : List Cond := [Cond.instanceMethod yX2_add, Cond.selects RX2 yX2_add yX2_add, Cond.code yX2_add cX2_add 2 none, Cond.fieldLink RX2 9 "NameTurner$Place" "name" "[I", Cond.methodLink RX9 123 yX8_clear, Cond.instanceMethod yX8_clear, Cond.selects RX8 yX8_clear yX8_clear, Cond.code yX8_clear cX8_clear 1 none, Cond.methodLink RX9 101 yX7_findAlike, Cond.instanceMethod yX7_findAlike, Cond.selects RX7 yX7_findAlike yX7_findAlike, Cond.initialized RX7, Cond.code yX7_findAlike cX7_findAlike 4 (some .int), Cond.fieldLink RX7 25 "NameTurner$Store" "came" "I", Cond.fieldLink RX7 17 "NameTurner$Store" "is" "[Z", Cond.fieldLink RX7 11 "NameTurner$Store" "places" "[LNameTurner$Place;", Cond.fieldLink RX7 32 "NameTurner$Store" "folding" "Z", Cond.methodLink RX7 41 yX2_isAlike, Cond.instanceMethod yX2_isAlike, Cond.selects RX2 yX2_isAlike yX2_isAlike, Cond.code yX2_isAlike cX2_isAlike 6 (some .boolean), Cond.methodLink RX2 26 yX2_byteAt, Cond.instanceMethod yX2_byteAt, Cond.selects RX2 yX2_byteAt yX2_byteAt]
def wsX9_at_r4 : List Cond := [Cond.code yX2_byteAt cX2_byteAt 2 (some .int), Cond.methodLink RX2 37 yX6_small, Cond.static yX6_small, Cond.code yX6_small cX6_small 1 (some .int)]
def wsX9_at : List Cond := .code yX9_at cX9_at 2 (some .int) :: ((wsX9_at_r1 ++ (wsX9_at_r2 ++ (wsX9_at_r3 ++ wsX9_at_r4))) ++ wsX90 ++ wsX80 ++ wsX20 ++ wsX70)
def wsX9_rule_r1 : List Cond := [Cond.fieldLink RX9 58 "NameTurner" "draft" "LNameTurner$Rule;", Cond.fieldLink RX9 12 "NameTurner" "tape" "LNameTurner$Tape;", Cond.fieldLink RX9 65 "NameTurner" "faultPlace" "I", Cond.fieldLink RX9 54 "NameTurner" "rule" "LNameTurner$Rule;", Cond.fieldLink RX9 61 "NameTurner" "hasRule" "Z", Cond.methodLink RX9 119 yX5_read, Cond.instanceMethod yX5_read, Cond.selects RX5 yX5_read yX5_read, Cond.initialized RX5, Cond.code yX5_read cX5_read 3 (some .int), Cond.fieldLink RX5 24 "NameTurner$Rule" "itemCount" "I", Cond.fieldLink RX5 28 "NameTurner$Rule" "wildCount" "I", Cond.fieldLink RX5 31 "NameTurner$Rule" "partCount" "I", Cond.fieldLink RX5 34 "NameTurner$Rule" "faultAt" "I", Cond.methodLink RX5 37 yX5_readItems, Cond.instanceMethod yX5_readItems, Cond.selects RX5 yX5_readItems yX5_readItems, Cond.code yX5_readItems cX5_readItems 4 (some .int), Cond.methodLink RX5 45 yX8_length, Cond.instanceMethod yX8_length, Cond.selects RX8 yX8_length yX8_length, Cond.initialized RX8, Cond.code yX8_length cX8_length 1 (some .int), Cond.fieldLink RX8 15 "NameTurner$Tape" "length" "I"]
def wsX9_rule_r2 : List Cond := [Cond.methodLink RX5 51 yX8_byteAt, Cond.instanceMethod yX8_byteAt, Cond.selects RX8 yX8_byteAt yX8_byteAt, Cond.code yX8_byteAt cX8_byteAt 2 (some .int), Cond.fieldLink RX8 9 "NameTurner$Tape" "bytes" "[I", Cond.methodLink RX5 55 yX6_isOfNames, Cond.static yX6_isOfNames, Cond.initialized RX6, Cond.code yX6_isOfNames cX6_isOfNames 1 (some .boolean), Cond.methodLink RX6 7 yX6_isSmall, Cond.static yX6_isSmall, Cond.code yX6_isSmall cX6_isSmall 1 (some .boolean), Cond.methodLink RX6 13 yX6_isCapital, Cond.static yX6_isCapital, Cond.code yX6_isCapital cX6_isCapital 1 (some .boolean), Cond.methodLink RX6 16 yX6_isFigure, Cond.static yX6_isFigure, Cond.code yX6_isFigure cX6_isFigure 1 (some .boolean), Cond.methodLink RX5 61 yX6_isWild, Cond.static yX6_isWild, Cond.code yX6_isWild cX6_isWild 1 (some .boolean), Cond.methodLink RX5 64 yX5_fault, Cond.instanceMethod yX5_fault, Cond.selects RX5 yX5_fault yX5_fault]
def wsX9_rule_r3 : List Cond := [Cond.code yX5_fault cX5_fault 3 (some .int), Cond.methodLink RX5 68 yX5_addItem, Cond.instanceMethod yX5_addItem, Cond.selects RX5 yX5_addItem yX5_addItem, Cond.code yX5_addItem cX5_addItem 2 none, Cond.fieldLink RX5 15 "NameTurner$Rule" "wildItems" "[I", Cond.fieldLink RX5 9 "NameTurner$Rule" "items" "[I", Cond.methodLink RX5 41 yX5_readParts, Cond.instanceMethod yX5_readParts, Cond.selects RX5 yX5_readParts yX5_readParts, Cond.code yX5_readParts cX5_readParts 7 (some .int), Cond.methodLink RX5 72 yX6_isTaken, Cond.static yX6_isTaken, Cond.code yX6_isTaken cX6_isTaken 1 (some .boolean), Cond.methodLink RX5 75 yX5_faultOfFigure, Cond.instanceMethod yX5_faultOfFigure, Cond.selects RX5 yX5_faultOfFigure yX5_faultOfFigure, Cond.code yX5_faultOfFigure cX5_faultOfFigure 4 (some .int), Cond.methodLink RX5 82 yX6_isFigure, Cond.methodLink RX5 78 yX5_addPart, Cond.instanceMethod yX5_addPart, Cond.selects RX5 yX5_addPart yX5_addPart, Cond.code yX5_addPart cX5_addPart 3 none, Cond.fieldLink RX5 18 "NameTurner$Rule" "partSigns" "[I"]
def wsX9_rule_r4 : List Cond := [Cond.fieldLink RX5 21 "NameTurner$Rule" "partFigures" "[I", Cond.methodLink RX9 123 yX8_clear, Cond.instanceMethod yX8_clear, Cond.selects RX8 yX8_clear yX8_clear, Cond.code yX8_clear cX8_clear 1 none, Cond.methodLink RX9 126 yX5_placeOfFault, Cond.instanceMethod yX5_placeOfFault, Cond.selects RX5 yX5_placeOfFault yX5_placeOfFault, Cond.code yX5_placeOfFault cX5_placeOfFault 1 (some .int), Cond.methodLink RX9 129 yX5_itemCount, Cond.instanceMethod yX5_itemCount, Cond.selects RX5 yX5_itemCount yX5_itemCount, Cond.code yX5_itemCount cX5_itemCount 1 (some .int)]
def wsX9_rule : List Cond := .code yX9_rule cX9_rule 3 (some .int) :: ((wsX9_rule_r1 ++ (wsX9_rule_r2 ++ (wsX9_rule_r3 ++ wsX9_rule_r4))) ++ wsX90 ++ wsX50 ++ wsX80)
def wsX9_place : List Cond := .code yX9_place cX9_place 1 (some .int) :: ([.fieldLink RX9 65 "NameTurner" "faultPlace" "I"] ++ wsX90)
def wsX9_fits_r1 : List Cond := [Cond.fieldLink RX9 61 "NameTurner" "hasRule" "Z", Cond.fieldLink RX9 26 "NameTurner" "store" "LNameTurner$Store;", Cond.fieldLink RX9 40 "NameTurner" "fit" "LNameTurner$Fit;", Cond.fieldLink RX9 54 "NameTurner" "rule" "LNameTurner$Rule;", Cond.methodLink RX9 109 yX7_has, Cond.instanceMethod yX7_has, Cond.selects RX7 yX7_has yX7_has, Cond.initialized RX7, Cond.code yX7_has cX7_has 2 (some .boolean), Cond.fieldLink RX7 25 "NameTurner$Store" "came" "I", Cond.fieldLink RX7 17 "NameTurner$Store" "is" "[Z", Cond.methodLink RX9 132 yX7_placeOf, Cond.instanceMethod yX7_placeOf, Cond.selects RX7 yX7_placeOf yX7_placeOf, Cond.code yX7_placeOf cX7_placeOf 2 (some (.object "NameTurner$Place")), Cond.fieldLink RX7 11 "NameTurner$Store" "places" "[LNameTurner$Place;", Cond.methodLink RX9 136 yX0_match, Cond.instanceMethod yX0_match, Cond.selects RX0 yX0_match yX0_match, Cond.initialized RX0, Cond.code yX0_match cX0_match 5 (some .boolean), Cond.fieldLink RX0 19 "NameTurner$Fit" "start" "[I", Cond.fieldLink RX0 15 "NameTurner$Fit" "took" "[I", Cond.methodLink RX0 22 yX0_findWays]
def wsX9_fits_r2 : List Cond := [Cond.instanceMethod yX0_findWays, Cond.selects RX0 yX0_findWays yX0_findWays, Cond.code yX0_findWays cX0_findWays 6 none, Cond.fieldLink RX0 11 "NameTurner$Fit" "can" "[Z", Cond.methodLink RX0 30 yX5_itemCount, Cond.instanceMethod yX5_itemCount, Cond.selects RX5 yX5_itemCount yX5_itemCount, Cond.initialized RX5, Cond.code yX5_itemCount cX5_itemCount 1 (some .int), Cond.fieldLink RX5 24 "NameTurner$Rule" "itemCount" "I", Cond.methodLink RX0 46 yX5_item, Cond.instanceMethod yX5_item, Cond.selects RX5 yX5_item yX5_item, Cond.code yX5_item cX5_item 2 (some .int), Cond.fieldLink RX5 9 "NameTurner$Rule" "items" "[I", Cond.methodLink RX0 50 yX0_hasWay, Cond.instanceMethod yX0_hasWay, Cond.selects RX0 yX0_hasWay yX0_hasWay, Cond.code yX0_hasWay cX0_hasWay 5 (some .boolean), Cond.methodLink RX0 26 yX0_isWay, Cond.instanceMethod yX0_isWay, Cond.selects RX0 yX0_isWay yX0_isWay, Cond.code yX0_isWay cX0_isWay 3 (some .boolean), Cond.methodLink RX0 54 yX2_byteAt]
def wsX9_fits_r3 : List Cond := [Cond.instanceMethod yX2_byteAt, Cond.selects RX2 yX2_byteAt yX2_byteAt, Cond.initialized RX2, Cond.code yX2_byteAt cX2_byteAt 2 (some .int), Cond.fieldLink RX2 19 "NameTurner$Place" "length" "I", Cond.fieldLink RX2 9 "NameTurner$Place" "name" "[I", Cond.methodLink RX0 57 yX0_takes, Cond.static yX0_takes, Cond.code yX0_takes cX0_takes 2 (some .boolean), Cond.methodLink RX0 60 yX6_isFigure, Cond.static yX6_isFigure, Cond.initialized RX6, Cond.code yX6_isFigure cX6_isFigure 1 (some .boolean), Cond.methodLink RX0 36 yX0_firstChoice, Cond.instanceMethod yX0_firstChoice, Cond.selects RX0 yX0_firstChoice yX0_firstChoice, Cond.code yX0_firstChoice cX0_firstChoice 5 (some .int), Cond.methodLink RX0 66 yX0_fewest, Cond.instanceMethod yX0_fewest, Cond.selects RX0 yX0_fewest yX0_fewest, Cond.code yX0_fewest cX0_fewest 5 (some .int), Cond.methodLink RX0 70 yX0_mostFigures, Cond.instanceMethod yX0_mostFigures, Cond.selects RX0 yX0_mostFigures yX0_mostFigures]
def wsX9_fits_r4 : List Cond := [Cond.code yX0_mostFigures cX0_mostFigures 6 (some .int), Cond.methodLink RX9 129 yX5_itemCount, Cond.methodLink RX9 140 yX0_tookBy, Cond.instanceMethod yX0_tookBy, Cond.selects RX0 yX0_tookBy yX0_tookBy, Cond.code yX0_tookBy cX0_tookBy 2 (some .int), Cond.methodLink RX9 144 yX0_startOf, Cond.instanceMethod yX0_startOf, Cond.selects RX0 yX0_startOf yX0_startOf, Cond.code yX0_startOf cX0_startOf 2 (some .int)]
def wsX9_fits : List Cond := .code yX9_fits cX9_fits 4 (some .int) :: ((wsX9_fits_r1 ++ (wsX9_fits_r2 ++ (wsX9_fits_r3 ++ wsX9_fits_r4))) ++ wsX90 ++ wsX70 ++ wsX00 ++ wsX20 ++ wsX50)
def wsX9_plan_r1 : List Cond := [Cond.fieldLink RX9 61 "NameTurner" "hasRule" "Z", Cond.fieldLink RX9 47 "NameTurner" "plan" "LNameTurner$Plan;", Cond.fieldLink RX9 26 "NameTurner" "store" "LNameTurner$Store;", Cond.fieldLink RX9 40 "NameTurner" "fit" "LNameTurner$Fit;", Cond.fieldLink RX9 54 "NameTurner" "rule" "LNameTurner$Rule;", Cond.methodLink RX9 147 yX9_isFolder, Cond.static yX9_isFolder, Cond.initialized RX9, Cond.code yX9_isFolder cX9_isFolder 1 (some .boolean), Cond.methodLink RX9 150 yX3_isUnderWay, Cond.instanceMethod yX3_isUnderWay, Cond.selects RX3 yX3_isUnderWay yX3_isUnderWay, Cond.initialized RX3, Cond.code yX3_isUnderWay cX3_isUnderWay 1 (some .boolean), Cond.fieldLink RX3 42 "NameTurner$Plan" "done" "I", Cond.fieldLink RX3 39 "NameTurner$Plan" "stepCount" "I", Cond.methodLink RX9 153 yX3_begin, Cond.instanceMethod yX3_begin, Cond.selects RX3 yX3_begin yX3_begin, Cond.code yX3_begin cX3_begin 1 none, Cond.fieldLink RX3 28 "NameTurner$Plan" "made" "Z", Cond.fieldLink RX3 32 "NameTurner$Plan" "size" "I", Cond.fieldLink RX3 36 "NameTurner$Plan" "troubles" "I", Cond.methodLink RX9 156 yX7_list]
def wsX9_plan_r2 : List Cond := [Cond.instanceMethod yX7_list, Cond.selects RX7 yX7_list yX7_list, Cond.initialized RX7, Cond.code yX7_list cX7_list 7 (some .int), Cond.fieldLink RX7 25 "NameTurner$Store" "came" "I", Cond.fieldLink RX7 17 "NameTurner$Store" "is" "[Z", Cond.fieldLink RX7 11 "NameTurner$Store" "places" "[LNameTurner$Place;", Cond.fieldLink RX7 21 "NameTurner$Store" "listing" "[I", Cond.methodLink RX7 56 yX7_isNamedBefore, Cond.instanceMethod yX7_isNamedBefore, Cond.selects RX7 yX7_isNamedBefore yX7_isNamedBefore, Cond.code yX7_isNamedBefore cX7_isNamedBefore 3 (some .boolean), Cond.methodLink RX7 60 yX2_isNamedBefore, Cond.instanceMethod yX2_isNamedBefore, Cond.selects RX2 yX2_isNamedBefore yX2_isNamedBefore, Cond.initialized RX2, Cond.code yX2_isNamedBefore cX2_isNamedBefore 4 (some .boolean), Cond.fieldLink RX2 19 "NameTurner$Place" "length" "I", Cond.methodLink RX2 42 Lib.Math.min.name, Cond.static Lib.Math.min.name, Cond.initialized "java/lang/Math", Cond.code Lib.Math.min.name Lib.Math.min.code 2 (some .int), Cond.methodLink RX2 26 yX2_byteAt, Cond.instanceMethod yX2_byteAt]
def wsX9_plan_r3 : List Cond := [Cond.selects RX2 yX2_byteAt yX2_byteAt, Cond.code yX2_byteAt cX2_byteAt 2 (some .int), Cond.fieldLink RX2 9 "NameTurner$Place" "name" "[I", Cond.methodLink RX9 160 yX3_isFull, Cond.instanceMethod yX3_isFull, Cond.selects RX3 yX3_isFull yX3_isFull, Cond.code yX3_isFull cX3_isFull 1 (some .boolean), Cond.fieldLink RX3 11 "NameTurner$Plan" "all" "[LNameTurner$Planned;", Cond.methodLink RX9 161 yX7_listed, Cond.instanceMethod yX7_listed, Cond.selects RX7 yX7_listed yX7_listed, Cond.code yX7_listed cX7_listed 2 (some .int), Cond.methodLink RX9 109 yX7_has, Cond.instanceMethod yX7_has, Cond.selects RX7 yX7_has yX7_has, Cond.code yX7_has cX7_has 2 (some .boolean), Cond.methodLink RX9 132 yX7_placeOf, Cond.instanceMethod yX7_placeOf, Cond.selects RX7 yX7_placeOf yX7_placeOf, Cond.code yX7_placeOf cX7_placeOf 2 (some (.object "NameTurner$Place")), Cond.methodLink RX9 136 yX0_match, Cond.instanceMethod yX0_match, Cond.selects RX0 yX0_match yX0_match, Cond.initialized RX0]
def wsX9_plan_r4 : List Cond := [Cond.code yX0_match cX0_match 5 (some .boolean), Cond.fieldLink RX0 19 "NameTurner$Fit" "start" "[I", Cond.fieldLink RX0 15 "NameTurner$Fit" "took" "[I", Cond.methodLink RX0 22 yX0_findWays, Cond.instanceMethod yX0_findWays, Cond.selects RX0 yX0_findWays yX0_findWays, Cond.code yX0_findWays cX0_findWays 6 none, Cond.fieldLink RX0 11 "NameTurner$Fit" "can" "[Z", Cond.methodLink RX0 30 yX5_itemCount, Cond.instanceMethod yX5_itemCount, Cond.selects RX5 yX5_itemCount yX5_itemCount, Cond.initialized RX5, Cond.code yX5_itemCount cX5_itemCount 1 (some .int), Cond.fieldLink RX5 24 "NameTurner$Rule" "itemCount" "I", Cond.methodLink RX0 46 yX5_item, Cond.instanceMethod yX5_item, Cond.selects RX5 yX5_item yX5_item, Cond.code yX5_item cX5_item 2 (some .int), Cond.fieldLink RX5 9 "NameTurner$Rule" "items" "[I", Cond.methodLink RX0 50 yX0_hasWay, Cond.instanceMethod yX0_hasWay, Cond.selects RX0 yX0_hasWay yX0_hasWay, Cond.code yX0_hasWay cX0_hasWay 5 (some .boolean), Cond.methodLink RX0 26 yX0_isWay]
def wsX9_plan_r5 : List Cond := [Cond.instanceMethod yX0_isWay, Cond.selects RX0 yX0_isWay yX0_isWay, Cond.code yX0_isWay cX0_isWay 3 (some .boolean), Cond.methodLink RX0 54 yX2_byteAt, Cond.methodLink RX0 57 yX0_takes, Cond.static yX0_takes, Cond.code yX0_takes cX0_takes 2 (some .boolean), Cond.methodLink RX0 60 yX6_isFigure, Cond.static yX6_isFigure, Cond.initialized RX6, Cond.code yX6_isFigure cX6_isFigure 1 (some .boolean), Cond.methodLink RX0 36 yX0_firstChoice, Cond.instanceMethod yX0_firstChoice, Cond.selects RX0 yX0_firstChoice yX0_firstChoice, Cond.code yX0_firstChoice cX0_firstChoice 5 (some .int), Cond.methodLink RX0 66 yX0_fewest, Cond.instanceMethod yX0_fewest, Cond.selects RX0 yX0_fewest yX0_fewest, Cond.code yX0_fewest cX0_fewest 5 (some .int), Cond.methodLink RX0 70 yX0_mostFigures, Cond.instanceMethod yX0_mostFigures, Cond.selects RX0 yX0_mostFigures yX0_mostFigures, Cond.code yX0_mostFigures cX0_mostFigures 6 (some .int), Cond.methodLink RX9 164 yX3_size]
def wsX9_plan_r6 : List Cond := [Cond.instanceMethod yX3_size, Cond.selects RX3 yX3_size yX3_size, Cond.code yX3_size cX3_size 1 (some .int), Cond.methodLink RX9 167 yX3_add, Cond.instanceMethod yX3_add, Cond.selects RX3 yX3_add yX3_add, Cond.code yX3_add cX3_add 5 (some (.object "NameTurner$Planned")), Cond.methodLink RX3 46 yX4_begin, Cond.instanceMethod yX4_begin, Cond.selects RX4 yX4_begin yX4_begin, Cond.initialized RX4, Cond.code yX4_begin cX4_begin 4 none, Cond.fieldLink RX4 24 "NameTurner$Planned" "file" "I", Cond.fieldLink RX4 28 "NameTurner$Planned" "counter" "I", Cond.fieldLink RX4 12 "NameTurner$Planned" "old" "LNameTurner$Place;", Cond.fieldLink RX4 21 "NameTurner$Planned" "spare" "LNameTurner$Place;", Cond.fieldLink RX4 38 "NameTurner$Planned" "trouble" "I", Cond.fieldLink RX4 41 "NameTurner$Planned" "troubleWith" "I", Cond.fieldLink RX4 44 "NameTurner$Planned" "waitsFor" "I", Cond.fieldLink RX4 47 "NameTurner$Planned" "isSpared" "Z", Cond.fieldLink RX4 50 "NameTurner$Planned" "isThere" "Z", Cond.methodLink RX4 53 yX2_become, Cond.instanceMethod yX2_become, Cond.selects RX2 yX2_become yX2_become]
def wsX9_plan_r7 : List Cond := [Cond.code yX2_become cX2_become 3 none, Cond.fieldLink RX2 15 "NameTurner$Place" "folder" "I", Cond.methodLink RX2 22 yX2_begin, Cond.instanceMethod yX2_begin, Cond.selects RX2 yX2_begin yX2_begin, Cond.code yX2_begin cX2_begin 2 none, Cond.methodLink RX2 30 yX2_add, Cond.instanceMethod yX2_add, Cond.selects RX2 yX2_add yX2_add, Cond.code yX2_add cX2_add 2 none, Cond.methodLink RX4 60 yX2_becomeSpare, Cond.instanceMethod yX2_becomeSpare, Cond.selects RX2 yX2_becomeSpare yX2_becomeSpare, Cond.code yX2_becomeSpare cX2_becomeSpare 3 none, Cond.methodLink RX9 170 yX4_nameBy, Cond.instanceMethod yX4_nameBy, Cond.selects RX4 yX4_nameBy yX4_nameBy, Cond.code yX4_nameBy cX4_nameBy 8 none, Cond.fieldLink RX4 18 "NameTurner$Planned" "fresh" "LNameTurner$Place;", Cond.fieldLink RX4 31 "NameTurner$Planned" "length" "I", Cond.fieldLink RX4 34 "NameTurner$Planned" "stays" "Z", Cond.methodLink RX4 64 yX2_begin, Cond.methodLink RX4 68 yX5_partCount, Cond.instanceMethod yX5_partCount]
def wsX9_plan_r8 : List Cond := [Cond.selects RX5 yX5_partCount yX5_partCount, Cond.code yX5_partCount cX5_partCount 1 (some .int), Cond.fieldLink RX5 31 "NameTurner$Rule" "partCount" "I", Cond.methodLink RX4 74 yX5_partSign, Cond.instanceMethod yX5_partSign, Cond.selects RX5 yX5_partSign yX5_partSign, Cond.code yX5_partSign cX5_partSign 2 (some .int), Cond.fieldLink RX5 18 "NameTurner$Rule" "partSigns" "[I", Cond.methodLink RX4 78 yX5_partFigure, Cond.instanceMethod yX5_partFigure, Cond.selects RX5 yX5_partFigure yX5_partFigure, Cond.code yX5_partFigure cX5_partFigure 2 (some .int), Cond.fieldLink RX5 21 "NameTurner$Rule" "partFigures" "[I", Cond.methodLink RX4 81 yX4_addCounter, Cond.instanceMethod yX4_addCounter, Cond.selects RX4 yX4_addCounter yX4_addCounter, Cond.code yX4_addCounter cX4_addCounter 4 none, Cond.methodLink RX4 105 yX4_addByte, Cond.instanceMethod yX4_addByte, Cond.selects RX4 yX4_addByte yX4_addByte, Cond.code yX4_addByte cX4_addByte 2 none, Cond.methodLink RX4 113 yX2_add, Cond.methodLink RX4 84 yX6_isTaken, Cond.static yX6_isTaken]
def wsX9_plan_r9 : List Cond := [Cond.code yX6_isTaken cX6_isTaken 1 (some .boolean), Cond.methodLink RX4 90 yX5_wildItem, Cond.instanceMethod yX5_wildItem, Cond.selects RX5 yX5_wildItem yX5_wildItem, Cond.code yX5_wildItem cX5_wildItem 2 (some .int), Cond.fieldLink RX5 28 "NameTurner$Rule" "wildCount" "I", Cond.fieldLink RX5 15 "NameTurner$Rule" "wildItems" "[I", Cond.methodLink RX4 93 yX0_startOf, Cond.instanceMethod yX0_startOf, Cond.selects RX0 yX0_startOf yX0_startOf, Cond.code yX0_startOf cX0_startOf 2 (some .int), Cond.methodLink RX4 98 yX0_tookBy, Cond.instanceMethod yX0_tookBy, Cond.selects RX0 yX0_tookBy yX0_tookBy, Cond.code yX0_tookBy cX0_tookBy 2 (some .int), Cond.methodLink RX4 101 yX4_addTaken, Cond.instanceMethod yX4_addTaken, Cond.selects RX4 yX4_addTaken yX4_addTaken, Cond.code yX4_addTaken cX4_addTaken 6 none, Cond.methodLink RX4 116 yX2_byteAt, Cond.methodLink RX4 119 yX6_capital, Cond.static yX6_capital, Cond.code yX6_capital cX6_capital 1 (some .int), Cond.methodLink RX4 122 yX6_small]
def wsX9_plan_r10 : List Cond := [Cond.static yX6_small, Cond.code yX6_small cX6_small 1 (some .int), Cond.methodLink RX4 109 yX2_isJust, Cond.instanceMethod yX2_isJust, Cond.selects RX2 yX2_isJust yX2_isJust, Cond.code yX2_isJust cX2_isJust 2 (some .boolean), Cond.methodLink RX2 33 yX2_isAlike, Cond.instanceMethod yX2_isAlike, Cond.selects RX2 yX2_isAlike yX2_isAlike, Cond.code yX2_isAlike cX2_isAlike 6 (some .boolean), Cond.methodLink RX2 37 yX6_small, Cond.methodLink RX9 176 yX3_findTroubles, Cond.instanceMethod yX3_findTroubles, Cond.selects RX3 yX3_findTroubles yX3_findTroubles, Cond.code yX3_findTroubles cX3_findTroubles 3 none, Cond.methodLink RX3 50 yX4_findOwnTrouble, Cond.instanceMethod yX4_findOwnTrouble, Cond.selects RX4 yX4_findOwnTrouble yX4_findOwnTrouble, Cond.code yX4_findOwnTrouble cX4_findOwnTrouble 1 none, Cond.methodLink RX3 53 yX4_hasName, Cond.instanceMethod yX4_hasName, Cond.selects RX4 yX4_hasName yX4_hasName, Cond.code yX4_hasName cX4_hasName 1 (some .boolean), Cond.methodLink RX3 57 yX3_findTroubleWithOthers]
def wsX9_plan_r11 : List Cond := [Cond.instanceMethod yX3_findTroubleWithOthers, Cond.selects RX3 yX3_findTroubleWithOthers yX3_findTroubleWithOthers, Cond.code yX3_findTroubleWithOthers cX3_findTroubleWithOthers 6 none, Cond.methodLink RX3 68 yX7_isFolding, Cond.instanceMethod yX7_isFolding, Cond.selects RX7 yX7_isFolding yX7_isFolding, Cond.code yX7_isFolding cX7_isFolding 1 (some .boolean), Cond.fieldLink RX7 32 "NameTurner$Store" "folding" "Z", Cond.methodLink RX3 73 yX2_isAlike, Cond.methodLink RX3 82 yX4_setTrouble, Cond.instanceMethod yX4_setTrouble, Cond.selects RX4 yX4_setTrouble yX4_setTrouble, Cond.code yX4_setTrouble cX4_setTrouble 3 none, Cond.methodLink RX3 86 yX7_findAlike, Cond.instanceMethod yX7_findAlike, Cond.selects RX7 yX7_findAlike yX7_findAlike, Cond.code yX7_findAlike cX7_findAlike 4 (some .int), Cond.methodLink RX7 41 yX2_isAlike, Cond.methodLink RX3 90 yX3_find, Cond.instanceMethod yX3_find, Cond.selects RX3 yX3_find yX3_find, Cond.code yX3_find cX3_find 3 (some .int), Cond.methodLink RX9 180 yX3_findSteps, Cond.instanceMethod yX3_findSteps]
def wsX9_plan_r12 : List Cond := [Cond.selects RX3 yX3_findSteps yX3_findSteps, Cond.code yX3_findSteps cX3_findSteps 3 none, Cond.methodLink RX3 100 yX3_leastThatCanGo, Cond.instanceMethod yX3_leastThatCanGo, Cond.selects RX3 yX3_leastThatCanGo yX3_leastThatCanGo, Cond.code yX3_leastThatCanGo cX3_leastThatCanGo 3 (some .int), Cond.methodLink RX3 127 yX3_canGo, Cond.instanceMethod yX3_canGo, Cond.selects RX3 yX3_canGo yX3_canGo, Cond.code yX3_canGo cX3_canGo 3 (some .boolean), Cond.methodLink RX3 117 yX4_isLeft, Cond.instanceMethod yX4_isLeft, Cond.selects RX4 yX4_isLeft yX4_isLeft, Cond.code yX4_isLeft cX4_isLeft 1 (some .boolean), Cond.methodLink RX3 120 yX3_hasPlanned, Cond.instanceMethod yX3_hasPlanned, Cond.selects RX3 yX3_hasPlanned yX3_hasPlanned, Cond.code yX3_hasPlanned cX3_hasPlanned 2 (some .boolean), Cond.methodLink RX3 124 yX4_hasLeftOldPlace, Cond.instanceMethod yX4_hasLeftOldPlace, Cond.selects RX4 yX4_hasLeftOldPlace yX4_hasLeftOldPlace, Cond.code yX4_hasLeftOldPlace cX4_hasLeftOldPlace 1 (some .boolean), Cond.methodLink RX3 104 yX3_addStep, Cond.instanceMethod yX3_addStep]
def wsX9_plan_r13 : List Cond := [Cond.selects RX3 yX3_addStep yX3_addStep, Cond.code yX3_addStep cX3_addStep 3 none, Cond.fieldLink RX3 17 "NameTurner$Plan" "stepOf" "[I", Cond.fieldLink RX3 21 "NameTurner$Plan" "toSpare" "[Z", Cond.fieldLink RX3 25 "NameTurner$Plan" "fromSpare" "[Z", Cond.methodLink RX3 111 yX3_leastToSpare, Cond.instanceMethod yX3_leastToSpare, Cond.selects RX3 yX3_leastToSpare yX3_leastToSpare, Cond.code yX3_leastToSpare cX3_leastToSpare 4 (some .int)]
def wsX9_plan : List Cond := .code yX9_plan cX9_plan 10 (some .int) :: ((wsX9_plan_r1 ++ (wsX9_plan_r2 ++ (wsX9_plan_r3 ++ (wsX9_plan_r4 ++ (wsX9_plan_r5 ++ (wsX9_plan_r6 ++ (wsX9_plan_r7 ++ (wsX9_plan_r8 ++ (wsX9_plan_r9 ++ (wsX9_plan_r10 ++ (wsX9_plan_r11 ++ (wsX9_plan_r12 ++ wsX9_plan_r13)))))))))))) ++ wsX90 ++ wsX30 ++ wsX70 ++ wsX20 ++ wsX00 ++ wsX50 ++ wsX40)
def wsX9_planned : List Cond := .code yX9_planned cX9_planned 4 (some .int) :: ([.fieldLink RX9 47 "NameTurner" "plan" "LNameTurner$Plan;", .methodLink RX9 183 yX3_hasPlanned, .instanceMethod yX3_hasPlanned, .selects RX3 yX3_hasPlanned yX3_hasPlanned, .initialized RX3, .code yX3_hasPlanned cX3_hasPlanned 2 (some .boolean), .fieldLink RX3 32 "NameTurner$Plan" "size" "I", .methodLink RX9 186 yX3_get, .instanceMethod yX3_get, .selects RX3 yX3_get yX3_get, .code yX3_get cX3_get 2 (some (.object "NameTurner$Planned")), .fieldLink RX3 11 "NameTurner$Plan" "all" "[LNameTurner$Planned;"] ++ wsX90 ++ wsX40 ++ wsX20 ++ wsX30)
def wsX9_newName : List Cond := .code yX9_newName cX9_newName 3 (some .int) :: ([.fieldLink RX9 47 "NameTurner" "plan" "LNameTurner$Plan;", .methodLink RX9 183 yX3_hasPlanned, .instanceMethod yX3_hasPlanned, .selects RX3 yX3_hasPlanned yX3_hasPlanned, .initialized RX3, .code yX3_hasPlanned cX3_hasPlanned 2 (some .boolean), .fieldLink RX3 32 "NameTurner$Plan" "size" "I", .methodLink RX9 186 yX3_get, .instanceMethod yX3_get, .selects RX3 yX3_get yX3_get, .code yX3_get cX3_get 2 (some (.object "NameTurner$Planned")), .fieldLink RX3 11 "NameTurner$Plan" "all" "[LNameTurner$Planned;", .methodLink RX9 213 yX2_byteAt, .instanceMethod yX2_byteAt, .selects RX2 yX2_byteAt yX2_byteAt, .initialized RX2, .code yX2_byteAt cX2_byteAt 2 (some .int), .fieldLink RX2 19 "NameTurner$Place" "length" "I", .fieldLink RX2 9 "NameTurner$Place" "name" "[I"] ++ wsX90 ++ wsX40 ++ wsX30 ++ wsX20)
def wsX9_steps : List Cond := .code yX9_steps cX9_steps 1 (some .int) :: ([.fieldLink RX9 47 "NameTurner" "plan" "LNameTurner$Plan;", .methodLink RX9 216 yX3_isMade, .instanceMethod yX3_isMade, .selects RX3 yX3_isMade yX3_isMade, .initialized RX3, .code yX3_isMade cX3_isMade 1 (some .boolean), .fieldLink RX3 28 "NameTurner$Plan" "made" "Z", .methodLink RX9 219 yX3_troubles, .instanceMethod yX3_troubles, .selects RX3 yX3_troubles yX3_troubles, .code yX3_troubles cX3_troubles 1 (some .int), .fieldLink RX3 36 "NameTurner$Plan" "troubles" "I", .methodLink RX9 222 yX3_stepCount, .instanceMethod yX3_stepCount, .selects RX3 yX3_stepCount yX3_stepCount, .code yX3_stepCount cX3_stepCount 1 (some .int), .fieldLink RX3 39 "NameTurner$Plan" "stepCount" "I"] ++ wsX90 ++ wsX30)
def wsX9_step : List Cond := .code yX9_step cX9_step 3 (some .int) :: ([.fieldLink RX9 47 "NameTurner" "plan" "LNameTurner$Plan;", .methodLink RX9 225 yX3_hasStep, .instanceMethod yX3_hasStep, .selects RX3 yX3_hasStep yX3_hasStep, .initialized RX3, .code yX3_hasStep cX3_hasStep 2 (some .boolean), .fieldLink RX3 39 "NameTurner$Plan" "stepCount" "I", .methodLink RX9 228 yX3_fileOfStep, .instanceMethod yX3_fileOfStep, .selects RX3 yX3_fileOfStep yX3_fileOfStep, .code yX3_fileOfStep cX3_fileOfStep 2 (some .int), .fieldLink RX3 11 "NameTurner$Plan" "all" "[LNameTurner$Planned;", .fieldLink RX3 17 "NameTurner$Plan" "stepOf" "[I", .methodLink RX9 231 yX3_goesToSpare, .instanceMethod yX3_goesToSpare, .selects RX3 yX3_goesToSpare yX3_goesToSpare, .code yX3_goesToSpare cX3_goesToSpare 2 (some .boolean), .fieldLink RX3 21 "NameTurner$Plan" "toSpare" "[Z", .methodLink RX9 234 yX3_comesFromSpare, .instanceMethod yX3_comesFromSpare, .selects RX3 yX3_comesFromSpare yX3_comesFromSpare, .code yX3_comesFromSpare cX3_comesFromSpare 2 (some .boolean), .fieldLink RX3 25 "NameTurner$Plan" "fromSpare" "[Z"] ++ wsX90 ++ wsX30 ++ wsX40)
def wsX9_tryMove_r1 : List Cond := [Cond.fieldLink RX9 26 "NameTurner" "store" "LNameTurner$Store;", Cond.methodLink RX9 109 yX7_has, Cond.instanceMethod yX7_has, Cond.selects RX7 yX7_has yX7_has, Cond.initialized RX7, Cond.code yX7_has cX7_has 2 (some .boolean), Cond.fieldLink RX7 25 "NameTurner$Store" "came" "I", Cond.fieldLink RX7 17 "NameTurner$Store" "is" "[Z", Cond.methodLink RX9 132 yX7_placeOf, Cond.instanceMethod yX7_placeOf, Cond.selects RX7 yX7_placeOf yX7_placeOf, Cond.code yX7_placeOf cX7_placeOf 2 (some (.object "NameTurner$Place")), Cond.fieldLink RX7 11 "NameTurner$Store" "places" "[LNameTurner$Place;", Cond.methodLink RX9 301 yX2_isJust, Cond.instanceMethod yX2_isJust, Cond.selects RX2 yX2_isJust yX2_isJust, Cond.initialized RX2, Cond.code yX2_isJust cX2_isJust 2 (some .boolean), Cond.methodLink RX2 33 yX2_isAlike, Cond.instanceMethod yX2_isAlike, Cond.selects RX2 yX2_isAlike yX2_isAlike, Cond.code yX2_isAlike cX2_isAlike 6 (some .boolean), Cond.fieldLink RX2 15 "NameTurner$Place" "folder" "I", Cond.fieldLink RX2 19 "NameTurner$Place" "length" "I"]
def wsX9_tryMove_r2 : List Cond := [Cond.methodLink RX2 26 yX2_byteAt, Cond.instanceMethod yX2_byteAt, Cond.selects RX2 yX2_byteAt yX2_byteAt, Cond.code yX2_byteAt cX2_byteAt 2 (some .int), Cond.fieldLink RX2 9 "NameTurner$Place" "name" "[I", Cond.methodLink RX2 37 yX6_small, Cond.static yX6_small, Cond.initialized RX6, Cond.code yX6_small cX6_small 1 (some .int), Cond.methodLink RX9 101 yX7_findAlike, Cond.instanceMethod yX7_findAlike, Cond.selects RX7 yX7_findAlike yX7_findAlike, Cond.code yX7_findAlike cX7_findAlike 4 (some .int), Cond.fieldLink RX7 32 "NameTurner$Store" "folding" "Z", Cond.methodLink RX7 41 yX2_isAlike, Cond.methodLink RX9 115 yX9_move, Cond.instanceMethod yX9_move, Cond.selects RX9 yX9_move yX9_move, Cond.initialized RX9, Cond.code yX9_move cX9_move 4 none, Cond.fieldLink RX9 33 "NameTurner" "links" "LNameTurner$Links;", Cond.methodLink RX9 305 yX1_follow, Cond.instanceMethod yX1_follow, Cond.selects RX1 yX1_follow yX1_follow]
def wsX9_tryMove_r3 : List Cond := [Cond.initialized RX1, Cond.code yX1_follow cX1_follow 4 none, Cond.fieldLink RX1 17 "NameTurner$Links" "size" "I", Cond.fieldLink RX1 11 "NameTurner$Links" "targets" "[LNameTurner$Place;", Cond.methodLink RX1 26 yX2_isJust, Cond.methodLink RX1 22 yX2_become, Cond.instanceMethod yX2_become, Cond.selects RX2 yX2_become yX2_become, Cond.code yX2_become cX2_become 3 none, Cond.methodLink RX2 22 yX2_begin, Cond.instanceMethod yX2_begin, Cond.selects RX2 yX2_begin yX2_begin, Cond.code yX2_begin cX2_begin 2 none, Cond.methodLink RX2 30 yX2_add, Cond.instanceMethod yX2_add, Cond.selects RX2 yX2_add yX2_add, Cond.code yX2_add cX2_add 2 none, Cond.methodLink RX9 309 yX2_become]
def wsX9_tryMove : List Cond := .code yX9_tryMove cX9_tryMove 4 (some .int) :: ((wsX9_tryMove_r1 ++ (wsX9_tryMove_r2 ++ wsX9_tryMove_r3)) ++ wsX90 ++ wsX70 ++ wsX20 ++ wsX10)
def wsX9_go_r1 : List Cond := [Cond.fieldLink RX9 47 "NameTurner" "plan" "LNameTurner$Plan;", Cond.fieldLink RX9 69 "NameTurner" "stuckBy" "I", Cond.methodLink RX9 243 Lib.Math.min.name, Cond.static Lib.Math.min.name, Cond.initialized "java/lang/Math", Cond.code Lib.Math.min.name Lib.Math.min.code 2 (some .int), Cond.methodLink RX9 237 yX3_canRun, Cond.instanceMethod yX3_canRun, Cond.selects RX3 yX3_canRun yX3_canRun, Cond.initialized RX3, Cond.code yX3_canRun cX3_canRun 1 (some .boolean), Cond.fieldLink RX3 28 "NameTurner$Plan" "made" "Z", Cond.fieldLink RX3 36 "NameTurner$Plan" "troubles" "I", Cond.methodLink RX9 222 yX3_stepCount, Cond.instanceMethod yX3_stepCount, Cond.selects RX3 yX3_stepCount yX3_stepCount, Cond.code yX3_stepCount cX3_stepCount 1 (some .int), Cond.fieldLink RX3 39 "NameTurner$Plan" "stepCount" "I", Cond.methodLink RX9 240 yX3_done, Cond.instanceMethod yX3_done, Cond.selects RX3 yX3_done yX3_done, Cond.code yX3_done cX3_done 1 (some .int), Cond.fieldLink RX3 42 "NameTurner$Plan" "done" "I", Cond.methodLink RX9 228 yX3_fileOfStep]
def wsX9_go_r2 : List Cond := [Cond.instanceMethod yX3_fileOfStep, Cond.selects RX3 yX3_fileOfStep yX3_fileOfStep, Cond.code yX3_fileOfStep cX3_fileOfStep 2 (some .int), Cond.fieldLink RX3 11 "NameTurner$Plan" "all" "[LNameTurner$Planned;", Cond.fieldLink RX3 17 "NameTurner$Plan" "stepOf" "[I", Cond.methodLink RX9 249 yX3_startOfStep, Cond.instanceMethod yX3_startOfStep, Cond.selects RX3 yX3_startOfStep yX3_startOfStep, Cond.code yX3_startOfStep cX3_startOfStep 3 (some (.object "NameTurner$Place")), Cond.fieldLink RX3 25 "NameTurner$Plan" "fromSpare" "[Z", Cond.methodLink RX9 252 yX3_goalOfStep, Cond.instanceMethod yX3_goalOfStep, Cond.selects RX3 yX3_goalOfStep yX3_goalOfStep, Cond.code yX3_goalOfStep cX3_goalOfStep 3 (some (.object "NameTurner$Place")), Cond.fieldLink RX3 21 "NameTurner$Plan" "toSpare" "[Z", Cond.methodLink RX9 255 yX9_tryMove, Cond.instanceMethod yX9_tryMove, Cond.selects RX9 yX9_tryMove yX9_tryMove, Cond.initialized RX9, Cond.code yX9_tryMove cX9_tryMove 4 (some .int), Cond.fieldLink RX9 26 "NameTurner" "store" "LNameTurner$Store;", Cond.methodLink RX9 109 yX7_has, Cond.instanceMethod yX7_has, Cond.selects RX7 yX7_has yX7_has]
def wsX9_go_r3 : List Cond := [Cond.initialized RX7, Cond.code yX7_has cX7_has 2 (some .boolean), Cond.fieldLink RX7 25 "NameTurner$Store" "came" "I", Cond.fieldLink RX7 17 "NameTurner$Store" "is" "[Z", Cond.methodLink RX9 132 yX7_placeOf, Cond.instanceMethod yX7_placeOf, Cond.selects RX7 yX7_placeOf yX7_placeOf, Cond.code yX7_placeOf cX7_placeOf 2 (some (.object "NameTurner$Place")), Cond.fieldLink RX7 11 "NameTurner$Store" "places" "[LNameTurner$Place;", Cond.methodLink RX9 301 yX2_isJust, Cond.instanceMethod yX2_isJust, Cond.selects RX2 yX2_isJust yX2_isJust, Cond.initialized RX2, Cond.code yX2_isJust cX2_isJust 2 (some .boolean), Cond.methodLink RX2 33 yX2_isAlike, Cond.instanceMethod yX2_isAlike, Cond.selects RX2 yX2_isAlike yX2_isAlike, Cond.code yX2_isAlike cX2_isAlike 6 (some .boolean), Cond.fieldLink RX2 15 "NameTurner$Place" "folder" "I", Cond.fieldLink RX2 19 "NameTurner$Place" "length" "I", Cond.methodLink RX2 26 yX2_byteAt, Cond.instanceMethod yX2_byteAt, Cond.selects RX2 yX2_byteAt yX2_byteAt, Cond.code yX2_byteAt cX2_byteAt 2 (some .int)]
def wsX9_go_r4 : List Cond := [Cond.fieldLink RX2 9 "NameTurner$Place" "name" "[I", Cond.methodLink RX2 37 yX6_small, Cond.static yX6_small, Cond.initialized RX6, Cond.code yX6_small cX6_small 1 (some .int), Cond.methodLink RX9 101 yX7_findAlike, Cond.instanceMethod yX7_findAlike, Cond.selects RX7 yX7_findAlike yX7_findAlike, Cond.code yX7_findAlike cX7_findAlike 4 (some .int), Cond.fieldLink RX7 32 "NameTurner$Store" "folding" "Z", Cond.methodLink RX7 41 yX2_isAlike, Cond.methodLink RX9 115 yX9_move, Cond.instanceMethod yX9_move, Cond.selects RX9 yX9_move yX9_move, Cond.code yX9_move cX9_move 4 none, Cond.fieldLink RX9 33 "NameTurner" "links" "LNameTurner$Links;", Cond.methodLink RX9 305 yX1_follow, Cond.instanceMethod yX1_follow, Cond.selects RX1 yX1_follow yX1_follow, Cond.initialized RX1, Cond.code yX1_follow cX1_follow 4 none, Cond.fieldLink RX1 17 "NameTurner$Links" "size" "I", Cond.fieldLink RX1 11 "NameTurner$Links" "targets" "[LNameTurner$Place;", Cond.methodLink RX1 26 yX2_isJust]
def wsX9_go_r5 : List Cond := [Cond.methodLink RX1 22 yX2_become, Cond.instanceMethod yX2_become, Cond.selects RX2 yX2_become yX2_become, Cond.code yX2_become cX2_become 3 none, Cond.methodLink RX2 22 yX2_begin, Cond.instanceMethod yX2_begin, Cond.selects RX2 yX2_begin yX2_begin, Cond.code yX2_begin cX2_begin 2 none, Cond.methodLink RX2 30 yX2_add, Cond.instanceMethod yX2_add, Cond.selects RX2 yX2_add yX2_add, Cond.code yX2_add cX2_add 2 none, Cond.methodLink RX9 309 yX2_become, Cond.methodLink RX9 259 yX3_setDone, Cond.instanceMethod yX3_setDone, Cond.selects RX3 yX3_setDone yX3_setDone, Cond.code yX3_setDone cX3_setDone 2 none]
def wsX9_go : List Cond := .code yX9_go cX9_go 5 (some .int) :: ((wsX9_go_r1 ++ (wsX9_go_r2 ++ (wsX9_go_r3 ++ (wsX9_go_r4 ++ wsX9_go_r5)))) ++ wsX90 ++ wsX30 ++ wsX40 ++ wsX70 ++ wsX20 ++ wsX10)
def wsX9_back_r1 : List Cond := [Cond.fieldLink RX9 47 "NameTurner" "plan" "LNameTurner$Plan;", Cond.fieldLink RX9 69 "NameTurner" "stuckBy" "I", Cond.methodLink RX9 243 Lib.Math.min.name, Cond.static Lib.Math.min.name, Cond.initialized "java/lang/Math", Cond.code Lib.Math.min.name Lib.Math.min.code 2 (some .int), Cond.methodLink RX9 237 yX3_canRun, Cond.instanceMethod yX3_canRun, Cond.selects RX3 yX3_canRun yX3_canRun, Cond.initialized RX3, Cond.code yX3_canRun cX3_canRun 1 (some .boolean), Cond.fieldLink RX3 28 "NameTurner$Plan" "made" "Z", Cond.fieldLink RX3 36 "NameTurner$Plan" "troubles" "I", Cond.methodLink RX9 240 yX3_done, Cond.instanceMethod yX3_done, Cond.selects RX3 yX3_done yX3_done, Cond.code yX3_done cX3_done 1 (some .int), Cond.fieldLink RX3 42 "NameTurner$Plan" "done" "I", Cond.methodLink RX9 228 yX3_fileOfStep, Cond.instanceMethod yX3_fileOfStep, Cond.selects RX3 yX3_fileOfStep yX3_fileOfStep, Cond.code yX3_fileOfStep cX3_fileOfStep 2 (some .int), Cond.fieldLink RX3 11 "NameTurner$Plan" "all" "[LNameTurner$Planned;", Cond.fieldLink RX3 17 "NameTurner$Plan" "stepOf" "[I"]
def wsX9_back_r2 : List Cond := [Cond.methodLink RX9 252 yX3_goalOfStep, Cond.instanceMethod yX3_goalOfStep, Cond.selects RX3 yX3_goalOfStep yX3_goalOfStep, Cond.code yX3_goalOfStep cX3_goalOfStep 3 (some (.object "NameTurner$Place")), Cond.fieldLink RX3 21 "NameTurner$Plan" "toSpare" "[Z", Cond.methodLink RX9 249 yX3_startOfStep, Cond.instanceMethod yX3_startOfStep, Cond.selects RX3 yX3_startOfStep yX3_startOfStep, Cond.code yX3_startOfStep cX3_startOfStep 3 (some (.object "NameTurner$Place")), Cond.fieldLink RX3 25 "NameTurner$Plan" "fromSpare" "[Z", Cond.methodLink RX9 255 yX9_tryMove, Cond.instanceMethod yX9_tryMove, Cond.selects RX9 yX9_tryMove yX9_tryMove, Cond.initialized RX9, Cond.code yX9_tryMove cX9_tryMove 4 (some .int), Cond.fieldLink RX9 26 "NameTurner" "store" "LNameTurner$Store;", Cond.methodLink RX9 109 yX7_has, Cond.instanceMethod yX7_has, Cond.selects RX7 yX7_has yX7_has, Cond.initialized RX7, Cond.code yX7_has cX7_has 2 (some .boolean), Cond.fieldLink RX7 25 "NameTurner$Store" "came" "I", Cond.fieldLink RX7 17 "NameTurner$Store" "is" "[Z", Cond.methodLink RX9 132 yX7_placeOf]
def wsX9_back_r3 : List Cond := [Cond.instanceMethod yX7_placeOf, Cond.selects RX7 yX7_placeOf yX7_placeOf, Cond.code yX7_placeOf cX7_placeOf 2 (some (.object "NameTurner$Place")), Cond.fieldLink RX7 11 "NameTurner$Store" "places" "[LNameTurner$Place;", Cond.methodLink RX9 301 yX2_isJust, Cond.instanceMethod yX2_isJust, Cond.selects RX2 yX2_isJust yX2_isJust, Cond.initialized RX2, Cond.code yX2_isJust cX2_isJust 2 (some .boolean), Cond.methodLink RX2 33 yX2_isAlike, Cond.instanceMethod yX2_isAlike, Cond.selects RX2 yX2_isAlike yX2_isAlike, Cond.code yX2_isAlike cX2_isAlike 6 (some .boolean), Cond.fieldLink RX2 15 "NameTurner$Place" "folder" "I", Cond.fieldLink RX2 19 "NameTurner$Place" "length" "I", Cond.methodLink RX2 26 yX2_byteAt, Cond.instanceMethod yX2_byteAt, Cond.selects RX2 yX2_byteAt yX2_byteAt, Cond.code yX2_byteAt cX2_byteAt 2 (some .int), Cond.fieldLink RX2 9 "NameTurner$Place" "name" "[I", Cond.methodLink RX2 37 yX6_small, Cond.static yX6_small, Cond.initialized RX6, Cond.code yX6_small cX6_small 1 (some .int)]
def wsX9_back_r4 : List Cond := [Cond.methodLink RX9 101 yX7_findAlike, Cond.instanceMethod yX7_findAlike, Cond.selects RX7 yX7_findAlike yX7_findAlike, Cond.code yX7_findAlike cX7_findAlike 4 (some .int), Cond.fieldLink RX7 32 "NameTurner$Store" "folding" "Z", Cond.methodLink RX7 41 yX2_isAlike, Cond.methodLink RX9 115 yX9_move, Cond.instanceMethod yX9_move, Cond.selects RX9 yX9_move yX9_move, Cond.code yX9_move cX9_move 4 none, Cond.fieldLink RX9 33 "NameTurner" "links" "LNameTurner$Links;", Cond.methodLink RX9 305 yX1_follow, Cond.instanceMethod yX1_follow, Cond.selects RX1 yX1_follow yX1_follow, Cond.initialized RX1, Cond.code yX1_follow cX1_follow 4 none, Cond.fieldLink RX1 17 "NameTurner$Links" "size" "I", Cond.fieldLink RX1 11 "NameTurner$Links" "targets" "[LNameTurner$Place;", Cond.methodLink RX1 26 yX2_isJust, Cond.methodLink RX1 22 yX2_become, Cond.instanceMethod yX2_become, Cond.selects RX2 yX2_become yX2_become, Cond.code yX2_become cX2_become 3 none, Cond.methodLink RX2 22 yX2_begin]
def wsX9_back_r5 : List Cond := [Cond.instanceMethod yX2_begin, Cond.selects RX2 yX2_begin yX2_begin, Cond.code yX2_begin cX2_begin 2 none, Cond.methodLink RX2 30 yX2_add, Cond.instanceMethod yX2_add, Cond.selects RX2 yX2_add yX2_add, Cond.code yX2_add cX2_add 2 none, Cond.methodLink RX9 309 yX2_become, Cond.methodLink RX9 259 yX3_setDone, Cond.instanceMethod yX3_setDone, Cond.selects RX3 yX3_setDone yX3_setDone, Cond.code yX3_setDone cX3_setDone 2 none]
def wsX9_back : List Cond := .code yX9_back cX9_back 5 (some .int) :: ((wsX9_back_r1 ++ (wsX9_back_r2 ++ (wsX9_back_r3 ++ (wsX9_back_r4 ++ wsX9_back_r5)))) ++ wsX90 ++ wsX30 ++ wsX40 ++ wsX70 ++ wsX20 ++ wsX10)
def wsX9_stuck : List Cond := .code yX9_stuck cX9_stuck 1 (some .int) :: ([.fieldLink RX9 69 "NameTurner" "stuckBy" "I"] ++ wsX90)
def wsX9_link_r1 : List Cond := [Cond.fieldLink RX9 33 "NameTurner" "links" "LNameTurner$Links;", Cond.fieldLink RX9 19 "NameTurner" "told" "LNameTurner$Place;", Cond.methodLink RX9 94 yX9_takePlace, Cond.instanceMethod yX9_takePlace, Cond.selects RX9 yX9_takePlace yX9_takePlace, Cond.initialized RX9, Cond.code yX9_takePlace cX9_takePlace 4 (some .boolean), Cond.fieldLink RX9 12 "NameTurner" "tape" "LNameTurner$Tape;", Cond.methodLink RX9 147 yX9_isFolder, Cond.static yX9_isFolder, Cond.code yX9_isFolder cX9_isFolder 1 (some .boolean), Cond.methodLink RX9 293 yX8_isName, Cond.instanceMethod yX8_isName, Cond.selects RX8 yX8_isName yX8_isName, Cond.initialized RX8, Cond.code yX8_isName cX8_isName 2 (some .boolean), Cond.fieldLink RX8 15 "NameTurner$Tape" "length" "I", Cond.methodLink RX8 19 yX8_byteAt, Cond.instanceMethod yX8_byteAt, Cond.selects RX8 yX8_byteAt yX8_byteAt, Cond.code yX8_byteAt cX8_byteAt 2 (some .int), Cond.fieldLink RX8 9 "NameTurner$Tape" "bytes" "[I", Cond.methodLink RX8 23 yX6_isOfNames, Cond.static yX6_isOfNames]
def wsX9_link_r2 : List Cond := [Cond.initialized RX6, Cond.code yX6_isOfNames cX6_isOfNames 1 (some .boolean), Cond.methodLink RX6 7 yX6_isSmall, Cond.static yX6_isSmall, Cond.code yX6_isSmall cX6_isSmall 1 (some .boolean), Cond.methodLink RX6 13 yX6_isCapital, Cond.static yX6_isCapital, Cond.code yX6_isCapital cX6_isCapital 1 (some .boolean), Cond.methodLink RX6 16 yX6_isFigure, Cond.static yX6_isFigure, Cond.code yX6_isFigure cX6_isFigure 1 (some .boolean), Cond.methodLink RX9 296 yX2_begin, Cond.instanceMethod yX2_begin, Cond.selects RX2 yX2_begin yX2_begin, Cond.initialized RX2, Cond.code yX2_begin cX2_begin 2 none, Cond.fieldLink RX2 15 "NameTurner$Place" "folder" "I", Cond.fieldLink RX2 19 "NameTurner$Place" "length" "I", Cond.methodLink RX9 88 yX8_length, Cond.instanceMethod yX8_length, Cond.selects RX8 yX8_length yX8_length, Cond.code yX8_length cX8_length 1 (some .int), Cond.methodLink RX9 298 yX8_byteAt, Cond.methodLink RX9 299 yX2_add]
def wsX9_link_r3 : List Cond := [Cond.instanceMethod yX2_add, Cond.selects RX2 yX2_add yX2_add, Cond.code yX2_add cX2_add 2 none, Cond.fieldLink RX2 9 "NameTurner$Place" "name" "[I", Cond.methodLink RX9 123 yX8_clear, Cond.instanceMethod yX8_clear, Cond.selects RX8 yX8_clear yX8_clear, Cond.code yX8_clear cX8_clear 1 none, Cond.methodLink RX9 262 yX1_isFull, Cond.instanceMethod yX1_isFull, Cond.selects RX1 yX1_isFull yX1_isFull, Cond.initialized RX1, Cond.code yX1_isFull cX1_isFull 1 (some .boolean), Cond.fieldLink RX1 17 "NameTurner$Links" "size" "I", Cond.methodLink RX9 263 yX1_add, Cond.instanceMethod yX1_add, Cond.selects RX1 yX1_add yX1_add, Cond.code yX1_add cX1_add 3 (some .int), Cond.fieldLink RX1 11 "NameTurner$Links" "targets" "[LNameTurner$Place;", Cond.methodLink RX1 22 yX2_become, Cond.instanceMethod yX2_become, Cond.selects RX2 yX2_become yX2_become, Cond.code yX2_become cX2_become 3 none, Cond.methodLink RX2 22 yX2_begin]
def wsX9_link_r4 : List Cond := [Cond.methodLink RX2 26 yX2_byteAt, Cond.instanceMethod yX2_byteAt, Cond.selects RX2 yX2_byteAt yX2_byteAt, Cond.code yX2_byteAt cX2_byteAt 2 (some .int), Cond.methodLink RX2 30 yX2_add]
def wsX9_link : List Cond := .code yX9_link cX9_link 2 (some .int) :: ((wsX9_link_r1 ++ (wsX9_link_r2 ++ (wsX9_link_r3 ++ wsX9_link_r4))) ++ wsX90 ++ wsX80 ++ wsX20 ++ wsX10)
def wsX9_linkOf_r1 : List Cond := [Cond.fieldLink RX9 33 "NameTurner" "links" "LNameTurner$Links;", Cond.fieldLink RX9 26 "NameTurner" "store" "LNameTurner$Store;", Cond.methodLink RX9 264 yX1_has, Cond.instanceMethod yX1_has, Cond.selects RX1 yX1_has yX1_has, Cond.initialized RX1, Cond.code yX1_has cX1_has 2 (some .boolean), Cond.fieldLink RX1 17 "NameTurner$Links" "size" "I", Cond.methodLink RX9 265 yX1_get, Cond.instanceMethod yX1_get, Cond.selects RX1 yX1_get yX1_get, Cond.code yX1_get cX1_get 2 (some (.object "NameTurner$Place")), Cond.fieldLink RX1 11 "NameTurner$Links" "targets" "[LNameTurner$Place;", Cond.methodLink RX9 267 yX7_findJust, Cond.instanceMethod yX7_findJust, Cond.selects RX7 yX7_findJust yX7_findJust, Cond.initialized RX7, Cond.code yX7_findJust cX7_findJust 3 (some .int), Cond.fieldLink RX7 25 "NameTurner$Store" "came" "I", Cond.fieldLink RX7 17 "NameTurner$Store" "is" "[Z", Cond.fieldLink RX7 11 "NameTurner$Store" "places" "[LNameTurner$Place;", Cond.methodLink RX7 45 yX2_isJust, Cond.instanceMethod yX2_isJust, Cond.selects RX2 yX2_isJust yX2_isJust]
def wsX9_linkOf_r2 : List Cond := [Cond.initialized RX2, Cond.code yX2_isJust cX2_isJust 2 (some .boolean), Cond.methodLink RX2 33 yX2_isAlike, Cond.instanceMethod yX2_isAlike, Cond.selects RX2 yX2_isAlike yX2_isAlike, Cond.code yX2_isAlike cX2_isAlike 6 (some .boolean), Cond.fieldLink RX2 15 "NameTurner$Place" "folder" "I", Cond.fieldLink RX2 19 "NameTurner$Place" "length" "I", Cond.methodLink RX2 26 yX2_byteAt, Cond.instanceMethod yX2_byteAt, Cond.selects RX2 yX2_byteAt yX2_byteAt, Cond.code yX2_byteAt cX2_byteAt 2 (some .int), Cond.fieldLink RX2 9 "NameTurner$Place" "name" "[I", Cond.methodLink RX2 37 yX6_small, Cond.static yX6_small, Cond.initialized RX6, Cond.code yX6_small cX6_small 1 (some .int), Cond.methodLink RX9 213 yX2_byteAt]
def wsX9_linkOf : List Cond := .code yX9_linkOf cX9_linkOf 4 (some .int) :: ((wsX9_linkOf_r1 ++ wsX9_linkOf_r2) ++ wsX90 ++ wsX20 ++ wsX10 ++ wsX70)
def wsX9_of_r1 : List Cond := [Cond.classLink RX9 271 "java/util/NoSuchElementException", Cond.initialized "java/util/NoSuchElementException", Cond.fieldLink RX9 26 "NameTurner" "store" "LNameTurner$Store;", Cond.methodLink RX9 109 yX7_has, Cond.instanceMethod yX7_has, Cond.selects RX7 yX7_has yX7_has, Cond.initialized RX7, Cond.code yX7_has cX7_has 2 (some .boolean), Cond.fieldLink RX7 25 "NameTurner$Store" "came" "I", Cond.fieldLink RX7 17 "NameTurner$Store" "is" "[Z", Cond.methodLink RX9 132 yX7_placeOf, Cond.instanceMethod yX7_placeOf, Cond.selects RX7 yX7_placeOf yX7_placeOf, Cond.code yX7_placeOf cX7_placeOf 2 (some (.object "NameTurner$Place")), Cond.fieldLink RX7 11 "NameTurner$Store" "places" "[LNameTurner$Place;", Cond.methodLink RX9 278 yX2_isSpare, Cond.instanceMethod yX2_isSpare, Cond.selects RX2 yX2_isSpare yX2_isSpare, Cond.initialized RX2, Cond.code yX2_isSpare cX2_isSpare 1 (some .boolean), Cond.methodLink RX2 26 yX2_byteAt, Cond.instanceMethod yX2_byteAt, Cond.selects RX2 yX2_byteAt yX2_byteAt, Cond.code yX2_byteAt cX2_byteAt 2 (some .int)]
def wsX9_of_r2 : List Cond := [Cond.fieldLink RX2 19 "NameTurner$Place" "length" "I", Cond.fieldLink RX2 9 "NameTurner$Place" "name" "[I", Cond.methodLink RX9 213 yX2_byteAt]
def wsX9_of : List Cond := .code yX9_of cX9_of 4 (some .int) :: ((wsX9_of_r1 ++ wsX9_of_r2) ++ wsX90 ++ wsX20 ++ wsX70 ++ (vx_atS RX9 275 "java/util/NoSuchElementException" ["java/lang/RuntimeException", "java/lang/Exception"]).filter goodWord)
def wsX9_count_r1 : List Cond := [Cond.fieldLink RX9 26 "NameTurner" "store" "LNameTurner$Store;", Cond.fieldLink RX9 12 "NameTurner" "tape" "LNameTurner$Tape;", Cond.fieldLink RX9 47 "NameTurner" "plan" "LNameTurner$Plan;", Cond.fieldLink RX9 33 "NameTurner" "links" "LNameTurner$Links;", Cond.methodLink RX9 283 yX7_howManyCame, Cond.instanceMethod yX7_howManyCame, Cond.selects RX7 yX7_howManyCame yX7_howManyCame, Cond.initialized RX7, Cond.code yX7_howManyCame cX7_howManyCame 1 (some .int), Cond.fieldLink RX7 25 "NameTurner$Store" "came" "I", Cond.methodLink RX9 72 yX7_howManyAre, Cond.instanceMethod yX7_howManyAre, Cond.selects RX7 yX7_howManyAre yX7_howManyAre, Cond.code yX7_howManyAre cX7_howManyAre 1 (some .int), Cond.fieldLink RX7 29 "NameTurner$Store" "are" "I", Cond.methodLink RX9 286 yX7_isFolding, Cond.instanceMethod yX7_isFolding, Cond.selects RX7 yX7_isFolding yX7_isFolding, Cond.code yX7_isFolding cX7_isFolding 1 (some .boolean), Cond.fieldLink RX7 32 "NameTurner$Store" "folding" "Z", Cond.methodLink RX9 88 yX8_length, Cond.instanceMethod yX8_length, Cond.selects RX8 yX8_length yX8_length, Cond.initialized RX8]
def wsX9_count_r2 : List Cond := [Cond.code yX8_length cX8_length 1 (some .int), Cond.fieldLink RX8 15 "NameTurner$Tape" "length" "I", Cond.methodLink RX9 164 yX3_size, Cond.instanceMethod yX3_size, Cond.selects RX3 yX3_size yX3_size, Cond.initialized RX3, Cond.code yX3_size cX3_size 1 (some .int), Cond.fieldLink RX3 32 "NameTurner$Plan" "size" "I", Cond.methodLink RX9 219 yX3_troubles, Cond.instanceMethod yX3_troubles, Cond.selects RX3 yX3_troubles yX3_troubles, Cond.code yX3_troubles cX3_troubles 1 (some .int), Cond.fieldLink RX3 36 "NameTurner$Plan" "troubles" "I", Cond.methodLink RX9 240 yX3_done, Cond.instanceMethod yX3_done, Cond.selects RX3 yX3_done yX3_done, Cond.code yX3_done cX3_done 1 (some .int), Cond.fieldLink RX3 42 "NameTurner$Plan" "done" "I", Cond.methodLink RX9 289 yX1_size, Cond.instanceMethod yX1_size, Cond.selects RX1 yX1_size yX1_size, Cond.initialized RX1, Cond.code yX1_size cX1_size 1 (some .int), Cond.fieldLink RX1 17 "NameTurner$Links" "size" "I"]
def wsX9_count_r3 : List Cond := [Cond.methodLink RX9 150 yX3_isUnderWay, Cond.instanceMethod yX3_isUnderWay, Cond.selects RX3 yX3_isUnderWay yX3_isUnderWay, Cond.code yX3_isUnderWay cX3_isUnderWay 1 (some .boolean), Cond.fieldLink RX3 39 "NameTurner$Plan" "stepCount" "I", Cond.methodLink RX9 290 yX7_howManySpare, Cond.instanceMethod yX7_howManySpare, Cond.selects RX7 yX7_howManySpare yX7_howManySpare, Cond.code yX7_howManySpare cX7_howManySpare 3 (some .int), Cond.fieldLink RX7 17 "NameTurner$Store" "is" "[Z", Cond.fieldLink RX7 11 "NameTurner$Store" "places" "[LNameTurner$Place;", Cond.methodLink RX7 49 yX2_isSpare, Cond.instanceMethod yX2_isSpare, Cond.selects RX2 yX2_isSpare yX2_isSpare, Cond.initialized RX2, Cond.code yX2_isSpare cX2_isSpare 1 (some .boolean), Cond.methodLink RX2 26 yX2_byteAt, Cond.instanceMethod yX2_byteAt, Cond.selects RX2 yX2_byteAt yX2_byteAt, Cond.code yX2_byteAt cX2_byteAt 2 (some .int), Cond.fieldLink RX2 19 "NameTurner$Place" "length" "I", Cond.fieldLink RX2 9 "NameTurner$Place" "name" "[I"]
def wsX9_count : List Cond := .code yX9_count cX9_count 2 (some .int) :: ((wsX9_count_r1 ++ (wsX9_count_r2 ++ wsX9_count_r3)) ++ wsX90 ++ wsX70 ++ wsX80 ++ wsX30 ++ wsX10 ++ wsX20)
def wsX10_thrown : List Cond := .code yX10_thrown cX10_thrown 1 (some .int) :: ([.fieldLink RX10 1 "NameTurnerModel" "thrown" "I"] ++ wsX100)
def wsX10_within : List Cond := .code yX10_within cX10_within 3 (some .boolean) :: ([])
def wsX10_init_r1 : List Cond := [Cond.methodLink RX10 7 objectInit, Cond.instanceMethod objectInit, Cond.code objectInit ⟨#[0xb1]⟩ 1 none, Cond.arrayClass .byte, Cond.fieldLink RX10 13 "NameTurnerModel" "name" "[B", Cond.arrayClass .int, Cond.fieldLink RX10 17 "NameTurnerModel" "size" "[I", Cond.fieldLink RX10 21 "NameTurnerModel" "folder" "[I", Cond.arrayClass .boolean, Cond.fieldLink RX10 24 "NameTurnerModel" "isThere" "[Z", Cond.fieldLink RX10 28 "NameTurnerModel" "tape" "[B", Cond.fieldLink RX10 31 "NameTurnerModel" "item" "[I", Cond.fieldLink RX10 34 "NameTurnerModel" "part" "[I", Cond.fieldLink RX10 37 "NameTurnerModel" "figure" "[I", Cond.fieldLink RX10 40 "NameTurnerModel" "newItem" "[I", Cond.fieldLink RX10 43 "NameTurnerModel" "newPart" "[I", Cond.fieldLink RX10 46 "NameTurnerModel" "newFigure" "[I", Cond.fieldLink RX10 49 "NameTurnerModel" "lastPlace" "I", Cond.fieldLink RX10 52 "NameTurnerModel" "took" "[I", Cond.fieldLink RX10 55 "NameTurnerModel" "fails" "[Z", Cond.fieldLink RX10 58 "NameTurnerModel" "plannedFile" "[I", Cond.fieldLink RX10 61 "NameTurnerModel" "counter" "[I", Cond.fieldLink RX10 64 "NameTurnerModel" "newSize" "[I", Cond.fieldLink RX10 67 "NameTurnerModel" "trouble" "[I"]
def wsX10_init_r2 : List Cond := [Cond.fieldLink RX10 70 "NameTurnerModel" "with" "[I", Cond.fieldLink RX10 73 "NameTurnerModel" "stays" "[Z", Cond.fieldLink RX10 76 "NameTurnerModel" "stepFile" "[I", Cond.fieldLink RX10 79 "NameTurnerModel" "isTo" "[Z", Cond.fieldLink RX10 82 "NameTurnerModel" "isFrom" "[Z", Cond.fieldLink RX10 85 "NameTurnerModel" "stepName" "[B", Cond.fieldLink RX10 88 "NameTurnerModel" "stepSize" "[I", Cond.fieldLink RX10 91 "NameTurnerModel" "stepFolder" "[I", Cond.fieldLink RX10 94 "NameTurnerModel" "isSpared" "[Z", Cond.fieldLink RX10 97 "NameTurnerModel" "isDone" "[Z"]
def wsX10_init : List Cond := .code yX10_init cX10_init 1 none :: ((wsX10_init_r1 ++ wsX10_init_r2) ++ wsX100)
def wsX10_low : List Cond := .code yX10_low cX10_low 1 (some .int) :: ([])
def wsX10_high : List Cond := .code yX10_high cX10_high 1 (some .int) :: ([])
def wsX10_isJust : List Cond := .code yX10_isJust cX10_isJust 4 (some .boolean) :: ([.fieldLink RX10 21 "NameTurnerModel" "folder" "[I", .fieldLink RX10 17 "NameTurnerModel" "size" "[I", .fieldLink RX10 13 "NameTurnerModel" "name" "[B"] ++ wsX100)
def wsX10_isAlike : List Cond := .code yX10_isAlike cX10_isAlike 4 (some .boolean) :: ([.fieldLink RX10 100 "NameTurnerModel" "isFolding" "Z", .fieldLink RX10 21 "NameTurnerModel" "folder" "[I", .fieldLink RX10 17 "NameTurnerModel" "size" "[I", .fieldLink RX10 13 "NameTurnerModel" "name" "[B", .methodLink RX10 104 yX10_isJust, .instanceMethod yX10_isJust, .selects RX10 yX10_isJust yX10_isJust, .initialized RX10, .code yX10_isJust cX10_isJust 4 (some .boolean), .methodLink RX10 108 yX10_low, .static yX10_low, .code yX10_low cX10_low 1 (some .int)] ++ wsX100)
def wsX10_copies : List Cond := .code yX10_copies cX10_copies 4 none :: ([.fieldLink RX10 21 "NameTurnerModel" "folder" "[I", .fieldLink RX10 17 "NameTurnerModel" "size" "[I", .fieldLink RX10 13 "NameTurnerModel" "name" "[B"] ++ wsX100)
def wsX10_alikeTo : List Cond := .code yX10_alikeTo cX10_alikeTo 4 (some .int) :: ([.fieldLink RX10 112 "NameTurnerModel" "came" "I", .fieldLink RX10 24 "NameTurnerModel" "isThere" "[Z", .methodLink RX10 115 yX10_isAlike, .instanceMethod yX10_isAlike, .selects RX10 yX10_isAlike yX10_isAlike, .initialized RX10, .code yX10_isAlike cX10_isAlike 4 (some .boolean), .fieldLink RX10 100 "NameTurnerModel" "isFolding" "Z", .fieldLink RX10 21 "NameTurnerModel" "folder" "[I", .fieldLink RX10 17 "NameTurnerModel" "size" "[I", .fieldLink RX10 13 "NameTurnerModel" "name" "[B", .methodLink RX10 104 yX10_isJust, .instanceMethod yX10_isJust, .selects RX10 yX10_isJust yX10_isJust, .code yX10_isJust cX10_isJust 4 (some .boolean), .methodLink RX10 108 yX10_low, .static yX10_low, .code yX10_low cX10_low 1 (some .int)] ++ wsX100)
def wsX10_goesTo : List Cond := .code yX10_goesTo cX10_goesTo 4 none :: ([.fieldLink RX10 118 "NameTurnerModel" "links" "I", .methodLink RX10 104 yX10_isJust, .instanceMethod yX10_isJust, .selects RX10 yX10_isJust yX10_isJust, .initialized RX10, .code yX10_isJust cX10_isJust 4 (some .boolean), .fieldLink RX10 21 "NameTurnerModel" "folder" "[I", .fieldLink RX10 17 "NameTurnerModel" "size" "[I", .fieldLink RX10 13 "NameTurnerModel" "name" "[B", .methodLink RX10 121 yX10_copies, .instanceMethod yX10_copies, .selects RX10 yX10_copies yX10_copies, .code yX10_copies cX10_copies 4 none] ++ wsX100)
def wsX10_there : List Cond := .code yX10_there cX10_there 3 (some .int) :: ([.fieldLink RX10 112 "NameTurnerModel" "came" "I", .fieldLink RX10 24 "NameTurnerModel" "isThere" "[Z"] ++ wsX100)
def wsX10_folds : List Cond := .code yX10_folds cX10_folds 2 (some .boolean) :: ([.fieldLink RX10 1 "NameTurnerModel" "thrown" "I", .fieldLink RX10 100 "NameTurnerModel" "isFolding" "Z", .methodLink RX10 125 yX10_there, .instanceMethod yX10_there, .selects RX10 yX10_there yX10_there, .initialized RX10, .code yX10_there cX10_there 3 (some .int), .fieldLink RX10 112 "NameTurnerModel" "came" "I", .fieldLink RX10 24 "NameTurnerModel" "isThere" "[Z"] ++ wsX100)
def wsX10_feed : List Cond := .code yX10_feed cX10_feed 8 (some .int) :: ([.fieldLink RX10 1 "NameTurnerModel" "thrown" "I", .fieldLink RX10 129 "NameTurnerModel" "taped" "I", .fieldLink RX10 28 "NameTurnerModel" "tape" "[B"] ++ wsX100)
def wsX10_end : List Cond := .code yX10_end cX10_end 2 (some .int) :: ([.fieldLink RX10 1 "NameTurnerModel" "thrown" "I", .fieldLink RX10 129 "NameTurnerModel" "taped" "I"] ++ wsX100)
def wsX10_isFigure : List Cond := .code yX10_isFigure cX10_isFigure 1 (some .boolean) :: ([])
def wsX10_isNameByte : List Cond := .code yX10_isNameByte cX10_isNameByte 1 (some .boolean) :: ([.methodLink RX10 132 yX10_isFigure, .static yX10_isFigure, .initialized RX10, .code yX10_isFigure cX10_isFigure 1 (some .boolean)])
def wsX10_takes : List Cond := .code yX10_takes cX10_takes 4 (some .boolean) :: ([.fieldLink RX10 129 "NameTurnerModel" "taped" "I", .fieldLink RX10 28 "NameTurnerModel" "tape" "[B", .fieldLink RX10 21 "NameTurnerModel" "folder" "[I", .fieldLink RX10 17 "NameTurnerModel" "size" "[I", .fieldLink RX10 13 "NameTurnerModel" "name" "[B", .methodLink RX10 136 yX10_within, .static yX10_within, .initialized RX10, .code yX10_within cX10_within 3 (some .boolean), .methodLink RX10 140 yX10_isNameByte, .static yX10_isNameByte, .code yX10_isNameByte cX10_isNameByte 1 (some .boolean), .methodLink RX10 132 yX10_isFigure, .static yX10_isFigure, .code yX10_isFigure cX10_isFigure 1 (some .boolean)] ++ wsX100)
def wsX10_file_r1 : List Cond := [Cond.fieldLink RX10 1 "NameTurnerModel" "thrown" "I", Cond.fieldLink RX10 112 "NameTurnerModel" "came" "I", Cond.fieldLink RX10 24 "NameTurnerModel" "isThere" "[Z", Cond.methodLink RX10 143 yX10_takes, Cond.instanceMethod yX10_takes, Cond.selects RX10 yX10_takes yX10_takes, Cond.initialized RX10, Cond.code yX10_takes cX10_takes 4 (some .boolean), Cond.fieldLink RX10 129 "NameTurnerModel" "taped" "I", Cond.fieldLink RX10 28 "NameTurnerModel" "tape" "[B", Cond.fieldLink RX10 21 "NameTurnerModel" "folder" "[I", Cond.fieldLink RX10 17 "NameTurnerModel" "size" "[I", Cond.fieldLink RX10 13 "NameTurnerModel" "name" "[B", Cond.methodLink RX10 136 yX10_within, Cond.static yX10_within, Cond.code yX10_within cX10_within 3 (some .boolean), Cond.methodLink RX10 140 yX10_isNameByte, Cond.static yX10_isNameByte, Cond.code yX10_isNameByte cX10_isNameByte 1 (some .boolean), Cond.methodLink RX10 132 yX10_isFigure, Cond.static yX10_isFigure, Cond.code yX10_isFigure cX10_isFigure 1 (some .boolean), Cond.methodLink RX10 146 yX10_alikeTo, Cond.instanceMethod yX10_alikeTo]
def wsX10_file_r2 : List Cond := [Cond.selects RX10 yX10_alikeTo yX10_alikeTo, Cond.code yX10_alikeTo cX10_alikeTo 4 (some .int), Cond.methodLink RX10 115 yX10_isAlike, Cond.instanceMethod yX10_isAlike, Cond.selects RX10 yX10_isAlike yX10_isAlike, Cond.code yX10_isAlike cX10_isAlike 4 (some .boolean), Cond.fieldLink RX10 100 "NameTurnerModel" "isFolding" "Z", Cond.methodLink RX10 104 yX10_isJust, Cond.instanceMethod yX10_isJust, Cond.selects RX10 yX10_isJust yX10_isJust, Cond.code yX10_isJust cX10_isJust 4 (some .boolean), Cond.methodLink RX10 108 yX10_low, Cond.static yX10_low, Cond.code yX10_low cX10_low 1 (some .int), Cond.methodLink RX10 121 yX10_copies, Cond.instanceMethod yX10_copies, Cond.selects RX10 yX10_copies yX10_copies, Cond.code yX10_copies cX10_copies 4 none]
def wsX10_file : List Cond := .code yX10_file cX10_file 3 (some .int) :: ((wsX10_file_r1 ++ wsX10_file_r2) ++ wsX100)
def wsX10_isFile : List Cond := .code yX10_isFile cX10_isFile 2 (some .boolean) :: ([.fieldLink RX10 112 "NameTurnerModel" "came" "I", .fieldLink RX10 24 "NameTurnerModel" "isThere" "[Z"] ++ wsX100)
def wsX10_remove : List Cond := .code yX10_remove cX10_remove 2 (some .boolean) :: ([.fieldLink RX10 1 "NameTurnerModel" "thrown" "I", .fieldLink RX10 24 "NameTurnerModel" "isThere" "[Z", .methodLink RX10 150 yX10_isFile, .instanceMethod yX10_isFile, .selects RX10 yX10_isFile yX10_isFile, .initialized RX10, .code yX10_isFile cX10_isFile 2 (some .boolean), .fieldLink RX10 112 "NameTurnerModel" "came" "I"] ++ wsX100)
def wsX10_hand_r1 : List Cond := [Cond.fieldLink RX10 1 "NameTurnerModel" "thrown" "I", Cond.methodLink RX10 143 yX10_takes, Cond.instanceMethod yX10_takes, Cond.selects RX10 yX10_takes yX10_takes, Cond.initialized RX10, Cond.code yX10_takes cX10_takes 4 (some .boolean), Cond.fieldLink RX10 129 "NameTurnerModel" "taped" "I", Cond.fieldLink RX10 28 "NameTurnerModel" "tape" "[B", Cond.fieldLink RX10 21 "NameTurnerModel" "folder" "[I", Cond.fieldLink RX10 17 "NameTurnerModel" "size" "[I", Cond.fieldLink RX10 13 "NameTurnerModel" "name" "[B", Cond.methodLink RX10 136 yX10_within, Cond.static yX10_within, Cond.code yX10_within cX10_within 3 (some .boolean), Cond.methodLink RX10 140 yX10_isNameByte, Cond.static yX10_isNameByte, Cond.code yX10_isNameByte cX10_isNameByte 1 (some .boolean), Cond.methodLink RX10 132 yX10_isFigure, Cond.static yX10_isFigure, Cond.code yX10_isFigure cX10_isFigure 1 (some .boolean), Cond.methodLink RX10 150 yX10_isFile, Cond.instanceMethod yX10_isFile, Cond.selects RX10 yX10_isFile yX10_isFile, Cond.code yX10_isFile cX10_isFile 2 (some .boolean)]
def wsX10_hand_r2 : List Cond := [Cond.fieldLink RX10 112 "NameTurnerModel" "came" "I", Cond.fieldLink RX10 24 "NameTurnerModel" "isThere" "[Z", Cond.methodLink RX10 146 yX10_alikeTo, Cond.instanceMethod yX10_alikeTo, Cond.selects RX10 yX10_alikeTo yX10_alikeTo, Cond.code yX10_alikeTo cX10_alikeTo 4 (some .int), Cond.methodLink RX10 115 yX10_isAlike, Cond.instanceMethod yX10_isAlike, Cond.selects RX10 yX10_isAlike yX10_isAlike, Cond.code yX10_isAlike cX10_isAlike 4 (some .boolean), Cond.fieldLink RX10 100 "NameTurnerModel" "isFolding" "Z", Cond.methodLink RX10 104 yX10_isJust, Cond.instanceMethod yX10_isJust, Cond.selects RX10 yX10_isJust yX10_isJust, Cond.code yX10_isJust cX10_isJust 4 (some .boolean), Cond.methodLink RX10 108 yX10_low, Cond.static yX10_low, Cond.code yX10_low cX10_low 1 (some .int), Cond.methodLink RX10 153 yX10_goesTo, Cond.instanceMethod yX10_goesTo, Cond.selects RX10 yX10_goesTo yX10_goesTo, Cond.code yX10_goesTo cX10_goesTo 4 none, Cond.fieldLink RX10 118 "NameTurnerModel" "links" "I", Cond.methodLink RX10 121 yX10_copies]
def wsX10_hand_r3 : List Cond := [Cond.instanceMethod yX10_copies, Cond.selects RX10 yX10_copies yX10_copies, Cond.code yX10_copies cX10_copies 4 none]
def wsX10_hand : List Cond := .code yX10_hand cX10_hand 4 (some .int) :: ((wsX10_hand_r1 ++ (wsX10_hand_r2 ++ wsX10_hand_r3)) ++ wsX100)
def wsX10_at_r1 : List Cond := [Cond.fieldLink RX10 1 "NameTurnerModel" "thrown" "I", Cond.methodLink RX10 143 yX10_takes, Cond.instanceMethod yX10_takes, Cond.selects RX10 yX10_takes yX10_takes, Cond.initialized RX10, Cond.code yX10_takes cX10_takes 4 (some .boolean), Cond.fieldLink RX10 129 "NameTurnerModel" "taped" "I", Cond.fieldLink RX10 28 "NameTurnerModel" "tape" "[B", Cond.fieldLink RX10 21 "NameTurnerModel" "folder" "[I", Cond.fieldLink RX10 17 "NameTurnerModel" "size" "[I", Cond.fieldLink RX10 13 "NameTurnerModel" "name" "[B", Cond.methodLink RX10 136 yX10_within, Cond.static yX10_within, Cond.code yX10_within cX10_within 3 (some .boolean), Cond.methodLink RX10 140 yX10_isNameByte, Cond.static yX10_isNameByte, Cond.code yX10_isNameByte cX10_isNameByte 1 (some .boolean), Cond.methodLink RX10 132 yX10_isFigure, Cond.static yX10_isFigure, Cond.code yX10_isFigure cX10_isFigure 1 (some .boolean), Cond.methodLink RX10 146 yX10_alikeTo, Cond.instanceMethod yX10_alikeTo, Cond.selects RX10 yX10_alikeTo yX10_alikeTo, Cond.code yX10_alikeTo cX10_alikeTo 4 (some .int)]
def wsX10_at_r2 : List Cond := [Cond.fieldLink RX10 112 "NameTurnerModel" "came" "I", Cond.fieldLink RX10 24 "NameTurnerModel" "isThere" "[Z", Cond.methodLink RX10 115 yX10_isAlike, Cond.instanceMethod yX10_isAlike, Cond.selects RX10 yX10_isAlike yX10_isAlike, Cond.code yX10_isAlike cX10_isAlike 4 (some .boolean), Cond.fieldLink RX10 100 "NameTurnerModel" "isFolding" "Z", Cond.methodLink RX10 104 yX10_isJust, Cond.instanceMethod yX10_isJust, Cond.selects RX10 yX10_isJust yX10_isJust, Cond.code yX10_isJust cX10_isJust 4 (some .boolean), Cond.methodLink RX10 108 yX10_low, Cond.static yX10_low, Cond.code yX10_low cX10_low 1 (some .int)]
def wsX10_at : List Cond := .code yX10_at cX10_at 2 (some .int) :: ((wsX10_at_r1 ++ wsX10_at_r2) ++ wsX100)
def wsX10_fails : List Cond := .code yX10_fails cX10_fails 3 none :: ([.fieldLink RX10 156 "NameTurnerModel" "fault" "I", .fieldLink RX10 159 "NameTurnerModel" "faultPlace" "I"] ++ wsX100)
def wsX10_readItems : List Cond := .code yX10_readItems cX10_readItems 3 (some .int) :: ([.fieldLink RX10 162 "NameTurnerModel" "newItems" "I", .fieldLink RX10 156 "NameTurnerModel" "fault" "I", .fieldLink RX10 129 "NameTurnerModel" "taped" "I", .fieldLink RX10 28 "NameTurnerModel" "tape" "[B", .fieldLink RX10 40 "NameTurnerModel" "newItem" "[I", .methodLink RX10 140 yX10_isNameByte, .static yX10_isNameByte, .initialized RX10, .code yX10_isNameByte cX10_isNameByte 1 (some .boolean), .methodLink RX10 132 yX10_isFigure, .static yX10_isFigure, .code yX10_isFigure cX10_isFigure 1 (some .boolean), .methodLink RX10 165 yX10_fails, .instanceMethod yX10_fails, .selects RX10 yX10_fails yX10_fails, .code yX10_fails cX10_fails 3 none, .fieldLink RX10 159 "NameTurnerModel" "faultPlace" "I"] ++ wsX100)
def wsX10_wilds : List Cond := .code yX10_wilds cX10_wilds 5 (some .int) :: ([])
def wsX10_readPart_r1 : List Cond := [Cond.fieldLink RX10 129 "NameTurnerModel" "taped" "I", Cond.fieldLink RX10 28 "NameTurnerModel" "tape" "[B", Cond.fieldLink RX10 167 "NameTurnerModel" "newParts" "I", Cond.fieldLink RX10 43 "NameTurnerModel" "newPart" "[I", Cond.fieldLink RX10 46 "NameTurnerModel" "newFigure" "[I", Cond.fieldLink RX10 40 "NameTurnerModel" "newItem" "[I", Cond.fieldLink RX10 162 "NameTurnerModel" "newItems" "I", Cond.methodLink RX10 140 yX10_isNameByte, Cond.static yX10_isNameByte, Cond.initialized RX10, Cond.code yX10_isNameByte cX10_isNameByte 1 (some .boolean), Cond.methodLink RX10 132 yX10_isFigure, Cond.static yX10_isFigure, Cond.code yX10_isFigure cX10_isFigure 1 (some .boolean), Cond.methodLink RX10 165 yX10_fails, Cond.instanceMethod yX10_fails, Cond.selects RX10 yX10_fails yX10_fails, Cond.code yX10_fails cX10_fails 3 none, Cond.fieldLink RX10 156 "NameTurnerModel" "fault" "I", Cond.fieldLink RX10 159 "NameTurnerModel" "faultPlace" "I", Cond.methodLink RX10 136 yX10_within, Cond.static yX10_within, Cond.code yX10_within cX10_within 3 (some .boolean), Cond.methodLink RX10 170 yX10_wilds]
def wsX10_readPart_r2 : List Cond := [Cond.instanceMethod yX10_wilds, Cond.selects RX10 yX10_wilds yX10_wilds, Cond.code yX10_wilds cX10_wilds 5 (some .int)]
def wsX10_readPart : List Cond := .code yX10_readPart cX10_readPart 5 (some .int) :: ((wsX10_readPart_r1 ++ wsX10_readPart_r2) ++ wsX100)
def wsX10_rule_r1 : List Cond := [Cond.fieldLink RX10 1 "NameTurnerModel" "thrown" "I", Cond.fieldLink RX10 156 "NameTurnerModel" "fault" "I", Cond.fieldLink RX10 167 "NameTurnerModel" "newParts" "I", Cond.fieldLink RX10 129 "NameTurnerModel" "taped" "I", Cond.fieldLink RX10 159 "NameTurnerModel" "faultPlace" "I", Cond.fieldLink RX10 49 "NameTurnerModel" "lastPlace" "I", Cond.fieldLink RX10 162 "NameTurnerModel" "newItems" "I", Cond.fieldLink RX10 180 "NameTurnerModel" "items" "I", Cond.fieldLink RX10 183 "NameTurnerModel" "parts" "I", Cond.fieldLink RX10 31 "NameTurnerModel" "item" "[I", Cond.fieldLink RX10 40 "NameTurnerModel" "newItem" "[I", Cond.fieldLink RX10 34 "NameTurnerModel" "part" "[I", Cond.fieldLink RX10 43 "NameTurnerModel" "newPart" "[I", Cond.fieldLink RX10 37 "NameTurnerModel" "figure" "[I", Cond.fieldLink RX10 46 "NameTurnerModel" "newFigure" "[I", Cond.methodLink RX10 174 yX10_readItems, Cond.instanceMethod yX10_readItems, Cond.selects RX10 yX10_readItems yX10_readItems, Cond.initialized RX10, Cond.code yX10_readItems cX10_readItems 3 (some .int), Cond.fieldLink RX10 28 "NameTurnerModel" "tape" "[B", Cond.methodLink RX10 140 yX10_isNameByte, Cond.static yX10_isNameByte, Cond.code yX10_isNameByte cX10_isNameByte 1 (some .boolean)]
def wsX10_rule_r2 : List Cond := [Cond.methodLink RX10 132 yX10_isFigure, Cond.static yX10_isFigure, Cond.code yX10_isFigure cX10_isFigure 1 (some .boolean), Cond.methodLink RX10 165 yX10_fails, Cond.instanceMethod yX10_fails, Cond.selects RX10 yX10_fails yX10_fails, Cond.code yX10_fails cX10_fails 3 none, Cond.methodLink RX10 177 yX10_readPart, Cond.instanceMethod yX10_readPart, Cond.selects RX10 yX10_readPart yX10_readPart, Cond.code yX10_readPart cX10_readPart 5 (some .int), Cond.methodLink RX10 136 yX10_within, Cond.static yX10_within, Cond.code yX10_within cX10_within 3 (some .boolean), Cond.methodLink RX10 170 yX10_wilds, Cond.instanceMethod yX10_wilds, Cond.selects RX10 yX10_wilds yX10_wilds, Cond.code yX10_wilds cX10_wilds 5 (some .int)]
def wsX10_rule : List Cond := .code yX10_rule cX10_rule 3 (some .int) :: ((wsX10_rule_r1 ++ wsX10_rule_r2) ++ wsX100)
def wsX10_place : List Cond := .code yX10_place cX10_place 1 (some .int) :: ([.fieldLink RX10 1 "NameTurnerModel" "thrown" "I", .fieldLink RX10 49 "NameTurnerModel" "lastPlace" "I"] ++ wsX100)
def wsX10_goes : List Cond := .code yX10_goes cX10_goes 8 (some .boolean) :: ([.fieldLink RX10 180 "NameTurnerModel" "items" "I", .fieldLink RX10 17 "NameTurnerModel" "size" "[I", .fieldLink RX10 55 "NameTurnerModel" "fails" "[Z", .fieldLink RX10 31 "NameTurnerModel" "item" "[I", .fieldLink RX10 13 "NameTurnerModel" "name" "[B", .methodLink RX10 186 yX10_takes_, .instanceMethod yX10_takes_, .selects RX10 yX10_takes_ yX10_takes_, .initialized RX10, .methodLink RX10 132 yX10_isFigure, .static yX10_isFigure, .code yX10_isFigure cX10_isFigure 1 (some .boolean), .code yX10_takes_ cX10_takes_ 5 (some .boolean), .fieldLink RX10 52 "NameTurnerModel" "took" "[I", .methodLink RX10 189 yX10_goes, .instanceMethod yX10_goes, .selects RX10 yX10_goes yX10_goes] ++ wsX100)
def wsX10_takes_ : List Cond := .code yX10_takes_ cX10_takes_ 5 (some .boolean) :: ([.fieldLink RX10 52 "NameTurnerModel" "took" "[I", .methodLink RX10 189 yX10_goes, .instanceMethod yX10_goes, .selects RX10 yX10_goes yX10_goes, .initialized RX10, .code yX10_goes cX10_goes 8 (some .boolean), .fieldLink RX10 180 "NameTurnerModel" "items" "I", .fieldLink RX10 17 "NameTurnerModel" "size" "[I", .fieldLink RX10 55 "NameTurnerModel" "fails" "[Z", .fieldLink RX10 31 "NameTurnerModel" "item" "[I", .fieldLink RX10 13 "NameTurnerModel" "name" "[B", .methodLink RX10 186 yX10_takes_, .instanceMethod yX10_takes_, .selects RX10 yX10_takes_ yX10_takes_, .methodLink RX10 132 yX10_isFigure, .static yX10_isFigure, .code yX10_isFigure cX10_isFigure 1 (some .boolean)] ++ wsX100)
def wsX10_isFit : List Cond := .code yX10_isFit cX10_isFit 3 (some .boolean) :: ([.fieldLink RX10 55 "NameTurnerModel" "fails" "[Z", .methodLink RX10 189 yX10_goes, .instanceMethod yX10_goes, .selects RX10 yX10_goes yX10_goes, .initialized RX10, .code yX10_goes cX10_goes 8 (some .boolean), .fieldLink RX10 180 "NameTurnerModel" "items" "I", .fieldLink RX10 17 "NameTurnerModel" "size" "[I", .fieldLink RX10 31 "NameTurnerModel" "item" "[I", .fieldLink RX10 13 "NameTurnerModel" "name" "[B", .methodLink RX10 186 yX10_takes_, .instanceMethod yX10_takes_, .selects RX10 yX10_takes_ yX10_takes_, .methodLink RX10 132 yX10_isFigure, .static yX10_isFigure, .code yX10_isFigure cX10_isFigure 1 (some .boolean), .code yX10_takes_ cX10_takes_ 5 (some .boolean), .fieldLink RX10 52 "NameTurnerModel" "took" "[I"] ++ wsX100)
def wsX10_firstOf : List Cond := .code yX10_firstOf cX10_firstOf 4 (some .int) :: ([.fieldLink RX10 52 "NameTurnerModel" "took" "[I"] ++ wsX100)
def wsX10_fits_r1 : List Cond := [Cond.fieldLink RX10 1 "NameTurnerModel" "thrown" "I", Cond.fieldLink RX10 180 "NameTurnerModel" "items" "I", Cond.fieldLink RX10 52 "NameTurnerModel" "took" "[I", Cond.methodLink RX10 150 yX10_isFile, Cond.instanceMethod yX10_isFile, Cond.selects RX10 yX10_isFile yX10_isFile, Cond.initialized RX10, Cond.code yX10_isFile cX10_isFile 2 (some .boolean), Cond.fieldLink RX10 112 "NameTurnerModel" "came" "I", Cond.fieldLink RX10 24 "NameTurnerModel" "isThere" "[Z", Cond.methodLink RX10 192 yX10_isFit, Cond.instanceMethod yX10_isFit, Cond.selects RX10 yX10_isFit yX10_isFit, Cond.code yX10_isFit cX10_isFit 3 (some .boolean), Cond.fieldLink RX10 55 "NameTurnerModel" "fails" "[Z", Cond.methodLink RX10 189 yX10_goes, Cond.instanceMethod yX10_goes, Cond.selects RX10 yX10_goes yX10_goes, Cond.code yX10_goes cX10_goes 8 (some .boolean), Cond.fieldLink RX10 17 "NameTurnerModel" "size" "[I", Cond.fieldLink RX10 31 "NameTurnerModel" "item" "[I", Cond.fieldLink RX10 13 "NameTurnerModel" "name" "[B", Cond.methodLink RX10 186 yX10_takes_, Cond.instanceMethod yX10_takes_]
def wsX10_fits_r2 : List Cond := [Cond.selects RX10 yX10_takes_ yX10_takes_, Cond.methodLink RX10 132 yX10_isFigure, Cond.static yX10_isFigure, Cond.code yX10_isFigure cX10_isFigure 1 (some .boolean), Cond.code yX10_takes_ cX10_takes_ 5 (some .boolean), Cond.methodLink RX10 195 yX10_firstOf, Cond.instanceMethod yX10_firstOf, Cond.selects RX10 yX10_firstOf yX10_firstOf, Cond.code yX10_firstOf cX10_firstOf 4 (some .int)]
def wsX10_fits : List Cond := .code yX10_fits cX10_fits 4 (some .int) :: ((wsX10_fits_r1 ++ wsX10_fits_r2) ++ wsX100)
def wsX10_isEarlier : List Cond := .code yX10_isEarlier cX10_isEarlier 6 (some .boolean) :: ([.fieldLink RX10 17 "NameTurnerModel" "size" "[I", .fieldLink RX10 13 "NameTurnerModel" "name" "[B"] ++ wsX100)
def wsX10_adds : List Cond := .code yX10_adds cX10_adds 3 none :: ([.fieldLink RX10 64 "NameTurnerModel" "newSize" "[I", .fieldLink RX10 13 "NameTurnerModel" "name" "[B"] ++ wsX100)
def wsX10_wild : List Cond := .code yX10_wild cX10_wild 4 (some .int) :: ([.fieldLink RX10 180 "NameTurnerModel" "items" "I", .fieldLink RX10 31 "NameTurnerModel" "item" "[I"] ++ wsX100)
def wsX10_addsCounter : List Cond := .code yX10_addsCounter cX10_addsCounter 6 none :: ([.fieldLink RX10 61 "NameTurnerModel" "counter" "[I", .methodLink RX10 198 yX10_adds, .instanceMethod yX10_adds, .selects RX10 yX10_adds yX10_adds, .initialized RX10, .code yX10_adds cX10_adds 3 none, .fieldLink RX10 64 "NameTurnerModel" "newSize" "[I", .fieldLink RX10 13 "NameTurnerModel" "name" "[B"] ++ wsX100)
def wsX10_makes_r1 : List Cond := [Cond.fieldLink RX10 58 "NameTurnerModel" "plannedFile" "[I", Cond.fieldLink RX10 64 "NameTurnerModel" "newSize" "[I", Cond.fieldLink RX10 183 "NameTurnerModel" "parts" "I", Cond.fieldLink RX10 34 "NameTurnerModel" "part" "[I", Cond.fieldLink RX10 37 "NameTurnerModel" "figure" "[I", Cond.fieldLink RX10 52 "NameTurnerModel" "took" "[I", Cond.fieldLink RX10 13 "NameTurnerModel" "name" "[B", Cond.fieldLink RX10 17 "NameTurnerModel" "size" "[I", Cond.methodLink RX10 210 Lib.Math.min.name, Cond.static Lib.Math.min.name, Cond.initialized "java/lang/Math", Cond.code Lib.Math.min.name Lib.Math.min.code 2 (some .int), Cond.methodLink RX10 192 yX10_isFit, Cond.instanceMethod yX10_isFit, Cond.selects RX10 yX10_isFit yX10_isFit, Cond.initialized RX10, Cond.code yX10_isFit cX10_isFit 3 (some .boolean), Cond.fieldLink RX10 55 "NameTurnerModel" "fails" "[Z", Cond.methodLink RX10 189 yX10_goes, Cond.instanceMethod yX10_goes, Cond.selects RX10 yX10_goes yX10_goes, Cond.code yX10_goes cX10_goes 8 (some .boolean), Cond.fieldLink RX10 180 "NameTurnerModel" "items" "I", Cond.fieldLink RX10 31 "NameTurnerModel" "item" "[I"]
def wsX10_makes_r2 : List Cond := [Cond.methodLink RX10 186 yX10_takes_, Cond.instanceMethod yX10_takes_, Cond.selects RX10 yX10_takes_ yX10_takes_, Cond.methodLink RX10 132 yX10_isFigure, Cond.static yX10_isFigure, Cond.code yX10_isFigure cX10_isFigure 1 (some .boolean), Cond.code yX10_takes_ cX10_takes_ 5 (some .boolean), Cond.methodLink RX10 201 yX10_addsCounter, Cond.instanceMethod yX10_addsCounter, Cond.selects RX10 yX10_addsCounter yX10_addsCounter, Cond.code yX10_addsCounter cX10_addsCounter 6 none, Cond.fieldLink RX10 61 "NameTurnerModel" "counter" "[I", Cond.methodLink RX10 198 yX10_adds, Cond.instanceMethod yX10_adds, Cond.selects RX10 yX10_adds yX10_adds, Cond.code yX10_adds cX10_adds 3 none, Cond.methodLink RX10 204 yX10_wild, Cond.instanceMethod yX10_wild, Cond.selects RX10 yX10_wild yX10_wild, Cond.code yX10_wild cX10_wild 4 (some .int), Cond.methodLink RX10 195 yX10_firstOf, Cond.instanceMethod yX10_firstOf, Cond.selects RX10 yX10_firstOf yX10_firstOf, Cond.code yX10_firstOf cX10_firstOf 4 (some .int)]
def wsX10_makes_r3 : List Cond := [Cond.methodLink RX10 207 yX10_high, Cond.static yX10_high, Cond.code yX10_high cX10_high 1 (some .int), Cond.methodLink RX10 108 yX10_low, Cond.static yX10_low, Cond.code yX10_low cX10_low 1 (some .int)]
def wsX10_makes : List Cond := .code yX10_makes cX10_makes 9 none :: ((wsX10_makes_r1 ++ (wsX10_makes_r2 ++ wsX10_makes_r3)) ++ wsX100)
def wsX10_isBad : List Cond := .code yX10_isBad cX10_isBad 2 (some .boolean) :: ([.fieldLink RX10 64 "NameTurnerModel" "newSize" "[I"] ++ wsX100)
def wsX10_placeOf : List Cond := .code yX10_placeOf cX10_placeOf 3 (some .int) :: ([.fieldLink RX10 215 "NameTurnerModel" "plannedMany" "I", .fieldLink RX10 58 "NameTurnerModel" "plannedFile" "[I"] ++ wsX100)
def wsX10_findTrouble_r1 : List Cond := [Cond.fieldLink RX10 67 "NameTurnerModel" "trouble" "[I", Cond.fieldLink RX10 70 "NameTurnerModel" "with" "[I", Cond.fieldLink RX10 215 "NameTurnerModel" "plannedMany" "I", Cond.fieldLink RX10 58 "NameTurnerModel" "plannedFile" "[I", Cond.fieldLink RX10 73 "NameTurnerModel" "stays" "[Z", Cond.methodLink RX10 218 yX10_isBad, Cond.instanceMethod yX10_isBad, Cond.selects RX10 yX10_isBad yX10_isBad, Cond.initialized RX10, Cond.code yX10_isBad cX10_isBad 2 (some .boolean), Cond.fieldLink RX10 64 "NameTurnerModel" "newSize" "[I", Cond.methodLink RX10 115 yX10_isAlike, Cond.instanceMethod yX10_isAlike, Cond.selects RX10 yX10_isAlike yX10_isAlike, Cond.code yX10_isAlike cX10_isAlike 4 (some .boolean), Cond.fieldLink RX10 100 "NameTurnerModel" "isFolding" "Z", Cond.fieldLink RX10 21 "NameTurnerModel" "folder" "[I", Cond.fieldLink RX10 17 "NameTurnerModel" "size" "[I", Cond.fieldLink RX10 13 "NameTurnerModel" "name" "[B", Cond.methodLink RX10 104 yX10_isJust, Cond.instanceMethod yX10_isJust, Cond.selects RX10 yX10_isJust yX10_isJust, Cond.code yX10_isJust cX10_isJust 4 (some .boolean), Cond.methodLink RX10 108 yX10_low]
def wsX10_findTrouble_r2 : List Cond := [Cond.static yX10_low, Cond.code yX10_low cX10_low 1 (some .int), Cond.methodLink RX10 146 yX10_alikeTo, Cond.instanceMethod yX10_alikeTo, Cond.selects RX10 yX10_alikeTo yX10_alikeTo, Cond.code yX10_alikeTo cX10_alikeTo 4 (some .int), Cond.fieldLink RX10 112 "NameTurnerModel" "came" "I", Cond.fieldLink RX10 24 "NameTurnerModel" "isThere" "[Z", Cond.methodLink RX10 221 yX10_placeOf, Cond.instanceMethod yX10_placeOf, Cond.selects RX10 yX10_placeOf yX10_placeOf, Cond.code yX10_placeOf cX10_placeOf 3 (some .int)]
def wsX10_findTrouble : List Cond := .code yX10_findTrouble cX10_findTrouble 4 none :: ((wsX10_findTrouble_r1 ++ wsX10_findTrouble_r2) ++ wsX100)
def wsX10_isUnderWay : List Cond := .code yX10_isUnderWay cX10_isUnderWay 1 (some .boolean) :: ([.fieldLink RX10 228 "NameTurnerModel" "hasPlan" "Z", .fieldLink RX10 231 "NameTurnerModel" "done" "I", .fieldLink RX10 247 "NameTurnerModel" "steps" "I"] ++ wsX100)
def wsX10_troubles : List Cond := .code yX10_troubles cX10_troubles 3 (some .int) :: ([.fieldLink RX10 215 "NameTurnerModel" "plannedMany" "I", .fieldLink RX10 228 "NameTurnerModel" "hasPlan" "Z", .fieldLink RX10 67 "NameTurnerModel" "trouble" "[I"] ++ wsX100)
def wsX10_isClear : List Cond := .code yX10_isClear cX10_isClear 4 (some .boolean) :: ([.fieldLink RX10 112 "NameTurnerModel" "came" "I", .fieldLink RX10 24 "NameTurnerModel" "isThere" "[Z", .methodLink RX10 115 yX10_isAlike, .instanceMethod yX10_isAlike, .selects RX10 yX10_isAlike yX10_isAlike, .initialized RX10, .code yX10_isAlike cX10_isAlike 4 (some .boolean), .fieldLink RX10 100 "NameTurnerModel" "isFolding" "Z", .fieldLink RX10 21 "NameTurnerModel" "folder" "[I", .fieldLink RX10 17 "NameTurnerModel" "size" "[I", .fieldLink RX10 13 "NameTurnerModel" "name" "[B", .methodLink RX10 104 yX10_isJust, .instanceMethod yX10_isJust, .selects RX10 yX10_isJust yX10_isJust, .code yX10_isJust cX10_isJust 4 (some .boolean), .methodLink RX10 108 yX10_low, .static yX10_low, .code yX10_low cX10_low 1 (some .int)] ++ wsX100)
def wsX10_next_r1 : List Cond := [Cond.fieldLink RX10 215 "NameTurnerModel" "plannedMany" "I", Cond.fieldLink RX10 73 "NameTurnerModel" "stays" "[Z", Cond.fieldLink RX10 97 "NameTurnerModel" "isDone" "[Z", Cond.fieldLink RX10 94 "NameTurnerModel" "isSpared" "[Z", Cond.fieldLink RX10 58 "NameTurnerModel" "plannedFile" "[I", Cond.methodLink RX10 250 yX10_isClear, Cond.instanceMethod yX10_isClear, Cond.selects RX10 yX10_isClear yX10_isClear, Cond.initialized RX10, Cond.code yX10_isClear cX10_isClear 4 (some .boolean), Cond.fieldLink RX10 112 "NameTurnerModel" "came" "I", Cond.fieldLink RX10 24 "NameTurnerModel" "isThere" "[Z", Cond.methodLink RX10 115 yX10_isAlike, Cond.instanceMethod yX10_isAlike, Cond.selects RX10 yX10_isAlike yX10_isAlike, Cond.code yX10_isAlike cX10_isAlike 4 (some .boolean), Cond.fieldLink RX10 100 "NameTurnerModel" "isFolding" "Z", Cond.fieldLink RX10 21 "NameTurnerModel" "folder" "[I", Cond.fieldLink RX10 17 "NameTurnerModel" "size" "[I", Cond.fieldLink RX10 13 "NameTurnerModel" "name" "[B", Cond.methodLink RX10 104 yX10_isJust, Cond.instanceMethod yX10_isJust, Cond.selects RX10 yX10_isJust yX10_isJust, Cond.code yX10_isJust cX10_isJust 4 (some .boolean)]
def wsX10_next_r2 : List Cond := [Cond.methodLink RX10 108 yX10_low, Cond.static yX10_low, Cond.code yX10_low cX10_low 1 (some .int)]
def wsX10_next : List Cond := .code yX10_next cX10_next 5 (some .int) :: ((wsX10_next_r1 ++ wsX10_next_r2) ++ wsX100)
def wsX10_keeps : List Cond := .code yX10_keeps cX10_keeps 6 none :: ([.fieldLink RX10 91 "NameTurnerModel" "stepFolder" "[I", .fieldLink RX10 21 "NameTurnerModel" "folder" "[I", .fieldLink RX10 88 "NameTurnerModel" "stepSize" "[I", .fieldLink RX10 17 "NameTurnerModel" "size" "[I", .fieldLink RX10 85 "NameTurnerModel" "stepName" "[B", .fieldLink RX10 13 "NameTurnerModel" "name" "[B"] ++ wsX100)
def wsX10_spare : List Cond := .code yX10_spare cX10_spare 3 none :: ([.fieldLink RX10 21 "NameTurnerModel" "folder" "[I", .fieldLink RX10 13 "NameTurnerModel" "name" "[B", .fieldLink RX10 17 "NameTurnerModel" "size" "[I"] ++ wsX100)
def wsX10_writes_r1 : List Cond := [Cond.fieldLink RX10 58 "NameTurnerModel" "plannedFile" "[I", Cond.fieldLink RX10 76 "NameTurnerModel" "stepFile" "[I", Cond.fieldLink RX10 247 "NameTurnerModel" "steps" "I", Cond.fieldLink RX10 79 "NameTurnerModel" "isTo" "[Z", Cond.fieldLink RX10 82 "NameTurnerModel" "isFrom" "[Z", Cond.fieldLink RX10 94 "NameTurnerModel" "isSpared" "[Z", Cond.fieldLink RX10 97 "NameTurnerModel" "isDone" "[Z", Cond.methodLink RX10 264 yX10_keeps, Cond.instanceMethod yX10_keeps, Cond.selects RX10 yX10_keeps yX10_keeps, Cond.initialized RX10, Cond.code yX10_keeps cX10_keeps 6 none, Cond.fieldLink RX10 91 "NameTurnerModel" "stepFolder" "[I", Cond.fieldLink RX10 21 "NameTurnerModel" "folder" "[I", Cond.fieldLink RX10 88 "NameTurnerModel" "stepSize" "[I", Cond.fieldLink RX10 17 "NameTurnerModel" "size" "[I", Cond.fieldLink RX10 85 "NameTurnerModel" "stepName" "[B", Cond.fieldLink RX10 13 "NameTurnerModel" "name" "[B", Cond.methodLink RX10 268 yX10_spare, Cond.instanceMethod yX10_spare, Cond.selects RX10 yX10_spare yX10_spare, Cond.code yX10_spare cX10_spare 3 none, Cond.methodLink RX10 121 yX10_copies, Cond.instanceMethod yX10_copies]
def wsX10_writes_r2 : List Cond := [Cond.selects RX10 yX10_copies yX10_copies, Cond.code yX10_copies cX10_copies 4 none]
def wsX10_writes : List Cond := .code yX10_writes cX10_writes 5 none :: ((wsX10_writes_r1 ++ wsX10_writes_r2) ++ wsX100)
def wsX10_findSteps_r1 : List Cond := [Cond.fieldLink RX10 247 "NameTurnerModel" "steps" "I", Cond.fieldLink RX10 94 "NameTurnerModel" "isSpared" "[Z", Cond.fieldLink RX10 97 "NameTurnerModel" "isDone" "[Z", Cond.fieldLink RX10 112 "NameTurnerModel" "came" "I", Cond.methodLink RX10 253 yX10_troubles, Cond.instanceMethod yX10_troubles, Cond.selects RX10 yX10_troubles yX10_troubles, Cond.initialized RX10, Cond.code yX10_troubles cX10_troubles 3 (some .int), Cond.fieldLink RX10 215 "NameTurnerModel" "plannedMany" "I", Cond.fieldLink RX10 228 "NameTurnerModel" "hasPlan" "Z", Cond.fieldLink RX10 67 "NameTurnerModel" "trouble" "[I", Cond.methodLink RX10 121 yX10_copies, Cond.instanceMethod yX10_copies, Cond.selects RX10 yX10_copies yX10_copies, Cond.code yX10_copies cX10_copies 4 none, Cond.fieldLink RX10 21 "NameTurnerModel" "folder" "[I", Cond.fieldLink RX10 17 "NameTurnerModel" "size" "[I", Cond.fieldLink RX10 13 "NameTurnerModel" "name" "[B", Cond.methodLink RX10 256 yX10_next, Cond.instanceMethod yX10_next, Cond.selects RX10 yX10_next yX10_next, Cond.code yX10_next cX10_next 5 (some .int), Cond.fieldLink RX10 73 "NameTurnerModel" "stays" "[Z"]
def wsX10_findSteps_r2 : List Cond := [Cond.fieldLink RX10 58 "NameTurnerModel" "plannedFile" "[I", Cond.methodLink RX10 250 yX10_isClear, Cond.instanceMethod yX10_isClear, Cond.selects RX10 yX10_isClear yX10_isClear, Cond.code yX10_isClear cX10_isClear 4 (some .boolean), Cond.fieldLink RX10 24 "NameTurnerModel" "isThere" "[Z", Cond.methodLink RX10 115 yX10_isAlike, Cond.instanceMethod yX10_isAlike, Cond.selects RX10 yX10_isAlike yX10_isAlike, Cond.code yX10_isAlike cX10_isAlike 4 (some .boolean), Cond.fieldLink RX10 100 "NameTurnerModel" "isFolding" "Z", Cond.methodLink RX10 104 yX10_isJust, Cond.instanceMethod yX10_isJust, Cond.selects RX10 yX10_isJust yX10_isJust, Cond.code yX10_isJust cX10_isJust 4 (some .boolean), Cond.methodLink RX10 108 yX10_low, Cond.static yX10_low, Cond.code yX10_low cX10_low 1 (some .int), Cond.methodLink RX10 260 yX10_writes, Cond.instanceMethod yX10_writes, Cond.selects RX10 yX10_writes yX10_writes, Cond.code yX10_writes cX10_writes 5 none, Cond.fieldLink RX10 76 "NameTurnerModel" "stepFile" "[I", Cond.fieldLink RX10 79 "NameTurnerModel" "isTo" "[Z"]
def wsX10_findSteps_r3 : List Cond := [Cond.fieldLink RX10 82 "NameTurnerModel" "isFrom" "[Z", Cond.methodLink RX10 264 yX10_keeps, Cond.instanceMethod yX10_keeps, Cond.selects RX10 yX10_keeps yX10_keeps, Cond.code yX10_keeps cX10_keeps 6 none, Cond.fieldLink RX10 91 "NameTurnerModel" "stepFolder" "[I", Cond.fieldLink RX10 88 "NameTurnerModel" "stepSize" "[I", Cond.fieldLink RX10 85 "NameTurnerModel" "stepName" "[B", Cond.methodLink RX10 268 yX10_spare, Cond.instanceMethod yX10_spare, Cond.selects RX10 yX10_spare yX10_spare, Cond.code yX10_spare cX10_spare 3 none]
def wsX10_findSteps : List Cond := .code yX10_findSteps cX10_findSteps 4 none :: ((wsX10_findSteps_r1 ++ (wsX10_findSteps_r2 ++ wsX10_findSteps_r3)) ++ wsX100)
def wsX10_plan_r1 : List Cond := [Cond.fieldLink RX10 1 "NameTurnerModel" "thrown" "I", Cond.fieldLink RX10 180 "NameTurnerModel" "items" "I", Cond.fieldLink RX10 228 "NameTurnerModel" "hasPlan" "Z", Cond.fieldLink RX10 215 "NameTurnerModel" "plannedMany" "I", Cond.fieldLink RX10 231 "NameTurnerModel" "done" "I", Cond.fieldLink RX10 112 "NameTurnerModel" "came" "I", Cond.fieldLink RX10 24 "NameTurnerModel" "isThere" "[Z", Cond.fieldLink RX10 21 "NameTurnerModel" "folder" "[I", Cond.fieldLink RX10 58 "NameTurnerModel" "plannedFile" "[I", Cond.fieldLink RX10 61 "NameTurnerModel" "counter" "[I", Cond.fieldLink RX10 73 "NameTurnerModel" "stays" "[Z", Cond.methodLink RX10 136 yX10_within, Cond.static yX10_within, Cond.initialized RX10, Cond.code yX10_within cX10_within 3 (some .boolean), Cond.methodLink RX10 224 yX10_isUnderWay, Cond.instanceMethod yX10_isUnderWay, Cond.selects RX10 yX10_isUnderWay yX10_isUnderWay, Cond.code yX10_isUnderWay cX10_isUnderWay 1 (some .boolean), Cond.fieldLink RX10 247 "NameTurnerModel" "steps" "I", Cond.methodLink RX10 192 yX10_isFit, Cond.instanceMethod yX10_isFit, Cond.selects RX10 yX10_isFit yX10_isFit, Cond.code yX10_isFit cX10_isFit 3 (some .boolean)]
def wsX10_plan_r2 : List Cond := [Cond.fieldLink RX10 55 "NameTurnerModel" "fails" "[Z", Cond.methodLink RX10 189 yX10_goes, Cond.instanceMethod yX10_goes, Cond.selects RX10 yX10_goes yX10_goes, Cond.code yX10_goes cX10_goes 8 (some .boolean), Cond.fieldLink RX10 17 "NameTurnerModel" "size" "[I", Cond.fieldLink RX10 31 "NameTurnerModel" "item" "[I", Cond.fieldLink RX10 13 "NameTurnerModel" "name" "[B", Cond.methodLink RX10 186 yX10_takes_, Cond.instanceMethod yX10_takes_, Cond.selects RX10 yX10_takes_ yX10_takes_, Cond.methodLink RX10 132 yX10_isFigure, Cond.static yX10_isFigure, Cond.code yX10_isFigure cX10_isFigure 1 (some .boolean), Cond.code yX10_takes_ cX10_takes_ 5 (some .boolean), Cond.fieldLink RX10 52 "NameTurnerModel" "took" "[I", Cond.methodLink RX10 234 yX10_isEarlier, Cond.instanceMethod yX10_isEarlier, Cond.selects RX10 yX10_isEarlier yX10_isEarlier, Cond.code yX10_isEarlier cX10_isEarlier 6 (some .boolean), Cond.methodLink RX10 237 yX10_makes, Cond.instanceMethod yX10_makes, Cond.selects RX10 yX10_makes yX10_makes, Cond.code yX10_makes cX10_makes 9 none]
def wsX10_plan_r3 : List Cond := [Cond.fieldLink RX10 64 "NameTurnerModel" "newSize" "[I", Cond.fieldLink RX10 183 "NameTurnerModel" "parts" "I", Cond.fieldLink RX10 34 "NameTurnerModel" "part" "[I", Cond.fieldLink RX10 37 "NameTurnerModel" "figure" "[I", Cond.methodLink RX10 210 Lib.Math.min.name, Cond.static Lib.Math.min.name, Cond.initialized "java/lang/Math", Cond.code Lib.Math.min.name Lib.Math.min.code 2 (some .int), Cond.methodLink RX10 201 yX10_addsCounter, Cond.instanceMethod yX10_addsCounter, Cond.selects RX10 yX10_addsCounter yX10_addsCounter, Cond.code yX10_addsCounter cX10_addsCounter 6 none, Cond.methodLink RX10 198 yX10_adds, Cond.instanceMethod yX10_adds, Cond.selects RX10 yX10_adds yX10_adds, Cond.code yX10_adds cX10_adds 3 none, Cond.methodLink RX10 204 yX10_wild, Cond.instanceMethod yX10_wild, Cond.selects RX10 yX10_wild yX10_wild, Cond.code yX10_wild cX10_wild 4 (some .int), Cond.methodLink RX10 195 yX10_firstOf, Cond.instanceMethod yX10_firstOf, Cond.selects RX10 yX10_firstOf yX10_firstOf, Cond.code yX10_firstOf cX10_firstOf 4 (some .int)]
def wsX10_plan_r4 : List Cond := [Cond.methodLink RX10 207 yX10_high, Cond.static yX10_high, Cond.code yX10_high cX10_high 1 (some .int), Cond.methodLink RX10 108 yX10_low, Cond.static yX10_low, Cond.code yX10_low cX10_low 1 (some .int), Cond.methodLink RX10 218 yX10_isBad, Cond.instanceMethod yX10_isBad, Cond.selects RX10 yX10_isBad yX10_isBad, Cond.code yX10_isBad cX10_isBad 2 (some .boolean), Cond.methodLink RX10 104 yX10_isJust, Cond.instanceMethod yX10_isJust, Cond.selects RX10 yX10_isJust yX10_isJust, Cond.code yX10_isJust cX10_isJust 4 (some .boolean), Cond.methodLink RX10 241 yX10_findTrouble, Cond.instanceMethod yX10_findTrouble, Cond.selects RX10 yX10_findTrouble yX10_findTrouble, Cond.code yX10_findTrouble cX10_findTrouble 4 none, Cond.fieldLink RX10 67 "NameTurnerModel" "trouble" "[I", Cond.fieldLink RX10 70 "NameTurnerModel" "with" "[I", Cond.methodLink RX10 115 yX10_isAlike, Cond.instanceMethod yX10_isAlike, Cond.selects RX10 yX10_isAlike yX10_isAlike, Cond.code yX10_isAlike cX10_isAlike 4 (some .boolean)]
def wsX10_plan_r5 : List Cond := [Cond.fieldLink RX10 100 "NameTurnerModel" "isFolding" "Z", Cond.methodLink RX10 146 yX10_alikeTo, Cond.instanceMethod yX10_alikeTo, Cond.selects RX10 yX10_alikeTo yX10_alikeTo, Cond.code yX10_alikeTo cX10_alikeTo 4 (some .int), Cond.methodLink RX10 221 yX10_placeOf, Cond.instanceMethod yX10_placeOf, Cond.selects RX10 yX10_placeOf yX10_placeOf, Cond.code yX10_placeOf cX10_placeOf 3 (some .int), Cond.methodLink RX10 244 yX10_findSteps, Cond.instanceMethod yX10_findSteps, Cond.selects RX10 yX10_findSteps yX10_findSteps, Cond.code yX10_findSteps cX10_findSteps 4 none, Cond.fieldLink RX10 94 "NameTurnerModel" "isSpared" "[Z", Cond.fieldLink RX10 97 "NameTurnerModel" "isDone" "[Z", Cond.methodLink RX10 253 yX10_troubles, Cond.instanceMethod yX10_troubles, Cond.selects RX10 yX10_troubles yX10_troubles, Cond.code yX10_troubles cX10_troubles 3 (some .int), Cond.methodLink RX10 121 yX10_copies, Cond.instanceMethod yX10_copies, Cond.selects RX10 yX10_copies yX10_copies, Cond.code yX10_copies cX10_copies 4 none, Cond.methodLink RX10 256 yX10_next]
def wsX10_plan_r6 : List Cond := [Cond.instanceMethod yX10_next, Cond.selects RX10 yX10_next yX10_next, Cond.code yX10_next cX10_next 5 (some .int), Cond.methodLink RX10 250 yX10_isClear, Cond.instanceMethod yX10_isClear, Cond.selects RX10 yX10_isClear yX10_isClear, Cond.code yX10_isClear cX10_isClear 4 (some .boolean), Cond.methodLink RX10 260 yX10_writes, Cond.instanceMethod yX10_writes, Cond.selects RX10 yX10_writes yX10_writes, Cond.code yX10_writes cX10_writes 5 none, Cond.fieldLink RX10 76 "NameTurnerModel" "stepFile" "[I", Cond.fieldLink RX10 79 "NameTurnerModel" "isTo" "[Z", Cond.fieldLink RX10 82 "NameTurnerModel" "isFrom" "[Z", Cond.methodLink RX10 264 yX10_keeps, Cond.instanceMethod yX10_keeps, Cond.selects RX10 yX10_keeps yX10_keeps, Cond.code yX10_keeps cX10_keeps 6 none, Cond.fieldLink RX10 91 "NameTurnerModel" "stepFolder" "[I", Cond.fieldLink RX10 88 "NameTurnerModel" "stepSize" "[I", Cond.fieldLink RX10 85 "NameTurnerModel" "stepName" "[B", Cond.methodLink RX10 268 yX10_spare, Cond.instanceMethod yX10_spare, Cond.selects RX10 yX10_spare yX10_spare]
def wsX10_plan_r7 : List Cond := [Cond.code yX10_spare cX10_spare 3 none]
def wsX10_plan : List Cond := .code yX10_plan cX10_plan 8 (some .int) :: ((wsX10_plan_r1 ++ (wsX10_plan_r2 ++ (wsX10_plan_r3 ++ (wsX10_plan_r4 ++ (wsX10_plan_r5 ++ (wsX10_plan_r6 ++ wsX10_plan_r7)))))) ++ wsX100)
def wsX10_planned : List Cond := .code yX10_planned cX10_planned 3 (some .int) :: ([.fieldLink RX10 1 "NameTurnerModel" "thrown" "I", .fieldLink RX10 228 "NameTurnerModel" "hasPlan" "Z", .fieldLink RX10 215 "NameTurnerModel" "plannedMany" "I", .fieldLink RX10 58 "NameTurnerModel" "plannedFile" "[I", .fieldLink RX10 67 "NameTurnerModel" "trouble" "[I", .fieldLink RX10 70 "NameTurnerModel" "with" "[I", .fieldLink RX10 21 "NameTurnerModel" "folder" "[I", .fieldLink RX10 64 "NameTurnerModel" "newSize" "[I", .fieldLink RX10 73 "NameTurnerModel" "stays" "[Z", .fieldLink RX10 61 "NameTurnerModel" "counter" "[I"] ++ wsX100)
def wsX10_newName : List Cond := .code yX10_newName cX10_newName 3 (some .int) :: ([.fieldLink RX10 1 "NameTurnerModel" "thrown" "I", .fieldLink RX10 228 "NameTurnerModel" "hasPlan" "Z", .fieldLink RX10 215 "NameTurnerModel" "plannedMany" "I", .fieldLink RX10 17 "NameTurnerModel" "size" "[I", .fieldLink RX10 13 "NameTurnerModel" "name" "[B"] ++ wsX100)
def wsX10_lays : List Cond := .code yX10_lays cX10_lays 5 none :: ([.fieldLink RX10 21 "NameTurnerModel" "folder" "[I", .fieldLink RX10 91 "NameTurnerModel" "stepFolder" "[I", .fieldLink RX10 17 "NameTurnerModel" "size" "[I", .fieldLink RX10 88 "NameTurnerModel" "stepSize" "[I", .fieldLink RX10 13 "NameTurnerModel" "name" "[B", .fieldLink RX10 85 "NameTurnerModel" "stepName" "[B"] ++ wsX100)
def wsX10_steps : List Cond := .code yX10_steps cX10_steps 1 (some .int) :: ([.fieldLink RX10 1 "NameTurnerModel" "thrown" "I", .fieldLink RX10 228 "NameTurnerModel" "hasPlan" "Z", .fieldLink RX10 247 "NameTurnerModel" "steps" "I", .methodLink RX10 253 yX10_troubles, .instanceMethod yX10_troubles, .selects RX10 yX10_troubles yX10_troubles, .initialized RX10, .code yX10_troubles cX10_troubles 3 (some .int), .fieldLink RX10 215 "NameTurnerModel" "plannedMany" "I", .fieldLink RX10 67 "NameTurnerModel" "trouble" "[I"] ++ wsX100)
def wsX10_step : List Cond := .code yX10_step cX10_step 3 (some .int) :: ([.fieldLink RX10 1 "NameTurnerModel" "thrown" "I", .fieldLink RX10 228 "NameTurnerModel" "hasPlan" "Z", .fieldLink RX10 247 "NameTurnerModel" "steps" "I", .fieldLink RX10 76 "NameTurnerModel" "stepFile" "[I", .fieldLink RX10 79 "NameTurnerModel" "isTo" "[Z", .fieldLink RX10 82 "NameTurnerModel" "isFrom" "[Z"] ++ wsX100)
def wsX10_does_r1 : List Cond := [Cond.fieldLink RX10 76 "NameTurnerModel" "stepFile" "[I", Cond.fieldLink RX10 24 "NameTurnerModel" "isThere" "[Z", Cond.methodLink RX10 271 yX10_lays, Cond.instanceMethod yX10_lays, Cond.selects RX10 yX10_lays yX10_lays, Cond.initialized RX10, Cond.code yX10_lays cX10_lays 5 none, Cond.fieldLink RX10 21 "NameTurnerModel" "folder" "[I", Cond.fieldLink RX10 91 "NameTurnerModel" "stepFolder" "[I", Cond.fieldLink RX10 17 "NameTurnerModel" "size" "[I", Cond.fieldLink RX10 88 "NameTurnerModel" "stepSize" "[I", Cond.fieldLink RX10 13 "NameTurnerModel" "name" "[B", Cond.fieldLink RX10 85 "NameTurnerModel" "stepName" "[B", Cond.methodLink RX10 104 yX10_isJust, Cond.instanceMethod yX10_isJust, Cond.selects RX10 yX10_isJust yX10_isJust, Cond.code yX10_isJust cX10_isJust 4 (some .boolean), Cond.methodLink RX10 146 yX10_alikeTo, Cond.instanceMethod yX10_alikeTo, Cond.selects RX10 yX10_alikeTo yX10_alikeTo, Cond.code yX10_alikeTo cX10_alikeTo 4 (some .int), Cond.fieldLink RX10 112 "NameTurnerModel" "came" "I", Cond.methodLink RX10 115 yX10_isAlike, Cond.instanceMethod yX10_isAlike]
def wsX10_does_r2 : List Cond := [Cond.selects RX10 yX10_isAlike yX10_isAlike, Cond.code yX10_isAlike cX10_isAlike 4 (some .boolean), Cond.fieldLink RX10 100 "NameTurnerModel" "isFolding" "Z", Cond.methodLink RX10 108 yX10_low, Cond.static yX10_low, Cond.code yX10_low cX10_low 1 (some .int), Cond.methodLink RX10 153 yX10_goesTo, Cond.instanceMethod yX10_goesTo, Cond.selects RX10 yX10_goesTo yX10_goesTo, Cond.code yX10_goesTo cX10_goesTo 4 none, Cond.fieldLink RX10 118 "NameTurnerModel" "links" "I", Cond.methodLink RX10 121 yX10_copies, Cond.instanceMethod yX10_copies, Cond.selects RX10 yX10_copies yX10_copies, Cond.code yX10_copies cX10_copies 4 none]
def wsX10_does : List Cond := .code yX10_does cX10_does 4 (some .int) :: ((wsX10_does_r1 ++ wsX10_does_r2) ++ wsX100)
def wsX10_can : List Cond := .code yX10_can cX10_can 2 (some .boolean) :: ([.fieldLink RX10 228 "NameTurnerModel" "hasPlan" "Z", .methodLink RX10 253 yX10_troubles, .instanceMethod yX10_troubles, .selects RX10 yX10_troubles yX10_troubles, .initialized RX10, .code yX10_troubles cX10_troubles 3 (some .int), .fieldLink RX10 215 "NameTurnerModel" "plannedMany" "I", .fieldLink RX10 67 "NameTurnerModel" "trouble" "[I"] ++ wsX100)
def wsX10_go_r1 : List Cond := [Cond.fieldLink RX10 1 "NameTurnerModel" "thrown" "I", Cond.fieldLink RX10 277 "NameTurnerModel" "stuck" "I", Cond.fieldLink RX10 231 "NameTurnerModel" "done" "I", Cond.fieldLink RX10 247 "NameTurnerModel" "steps" "I", Cond.methodLink RX10 274 yX10_can, Cond.instanceMethod yX10_can, Cond.selects RX10 yX10_can yX10_can, Cond.initialized RX10, Cond.code yX10_can cX10_can 2 (some .boolean), Cond.fieldLink RX10 228 "NameTurnerModel" "hasPlan" "Z", Cond.methodLink RX10 253 yX10_troubles, Cond.instanceMethod yX10_troubles, Cond.selects RX10 yX10_troubles yX10_troubles, Cond.code yX10_troubles cX10_troubles 3 (some .int), Cond.fieldLink RX10 215 "NameTurnerModel" "plannedMany" "I", Cond.fieldLink RX10 67 "NameTurnerModel" "trouble" "[I", Cond.methodLink RX10 280 yX10_does, Cond.instanceMethod yX10_does, Cond.selects RX10 yX10_does yX10_does, Cond.code yX10_does cX10_does 4 (some .int), Cond.fieldLink RX10 76 "NameTurnerModel" "stepFile" "[I", Cond.fieldLink RX10 24 "NameTurnerModel" "isThere" "[Z", Cond.methodLink RX10 271 yX10_lays, Cond.instanceMethod yX10_lays]
def wsX10_go_r2 : List Cond := [Cond.selects RX10 yX10_lays yX10_lays, Cond.code yX10_lays cX10_lays 5 none, Cond.fieldLink RX10 21 "NameTurnerModel" "folder" "[I", Cond.fieldLink RX10 91 "NameTurnerModel" "stepFolder" "[I", Cond.fieldLink RX10 17 "NameTurnerModel" "size" "[I", Cond.fieldLink RX10 88 "NameTurnerModel" "stepSize" "[I", Cond.fieldLink RX10 13 "NameTurnerModel" "name" "[B", Cond.fieldLink RX10 85 "NameTurnerModel" "stepName" "[B", Cond.methodLink RX10 104 yX10_isJust, Cond.instanceMethod yX10_isJust, Cond.selects RX10 yX10_isJust yX10_isJust, Cond.code yX10_isJust cX10_isJust 4 (some .boolean), Cond.methodLink RX10 146 yX10_alikeTo, Cond.instanceMethod yX10_alikeTo, Cond.selects RX10 yX10_alikeTo yX10_alikeTo, Cond.code yX10_alikeTo cX10_alikeTo 4 (some .int), Cond.fieldLink RX10 112 "NameTurnerModel" "came" "I", Cond.methodLink RX10 115 yX10_isAlike, Cond.instanceMethod yX10_isAlike, Cond.selects RX10 yX10_isAlike yX10_isAlike, Cond.code yX10_isAlike cX10_isAlike 4 (some .boolean), Cond.fieldLink RX10 100 "NameTurnerModel" "isFolding" "Z", Cond.methodLink RX10 108 yX10_low, Cond.static yX10_low]
def wsX10_go_r3 : List Cond := [Cond.code yX10_low cX10_low 1 (some .int), Cond.methodLink RX10 153 yX10_goesTo, Cond.instanceMethod yX10_goesTo, Cond.selects RX10 yX10_goesTo yX10_goesTo, Cond.code yX10_goesTo cX10_goesTo 4 none, Cond.fieldLink RX10 118 "NameTurnerModel" "links" "I", Cond.methodLink RX10 121 yX10_copies, Cond.instanceMethod yX10_copies, Cond.selects RX10 yX10_copies yX10_copies, Cond.code yX10_copies cX10_copies 4 none]
def wsX10_go : List Cond := .code yX10_go cX10_go 3 (some .int) :: ((wsX10_go_r1 ++ (wsX10_go_r2 ++ wsX10_go_r3)) ++ wsX100)
def wsX10_back_r1 : List Cond := [Cond.fieldLink RX10 1 "NameTurnerModel" "thrown" "I", Cond.fieldLink RX10 277 "NameTurnerModel" "stuck" "I", Cond.fieldLink RX10 231 "NameTurnerModel" "done" "I", Cond.methodLink RX10 274 yX10_can, Cond.instanceMethod yX10_can, Cond.selects RX10 yX10_can yX10_can, Cond.initialized RX10, Cond.code yX10_can cX10_can 2 (some .boolean), Cond.fieldLink RX10 228 "NameTurnerModel" "hasPlan" "Z", Cond.methodLink RX10 253 yX10_troubles, Cond.instanceMethod yX10_troubles, Cond.selects RX10 yX10_troubles yX10_troubles, Cond.code yX10_troubles cX10_troubles 3 (some .int), Cond.fieldLink RX10 215 "NameTurnerModel" "plannedMany" "I", Cond.fieldLink RX10 67 "NameTurnerModel" "trouble" "[I", Cond.methodLink RX10 280 yX10_does, Cond.instanceMethod yX10_does, Cond.selects RX10 yX10_does yX10_does, Cond.code yX10_does cX10_does 4 (some .int), Cond.fieldLink RX10 76 "NameTurnerModel" "stepFile" "[I", Cond.fieldLink RX10 24 "NameTurnerModel" "isThere" "[Z", Cond.methodLink RX10 271 yX10_lays, Cond.instanceMethod yX10_lays, Cond.selects RX10 yX10_lays yX10_lays]
def wsX10_back_r2 : List Cond := [Cond.code yX10_lays cX10_lays 5 none, Cond.fieldLink RX10 21 "NameTurnerModel" "folder" "[I", Cond.fieldLink RX10 91 "NameTurnerModel" "stepFolder" "[I", Cond.fieldLink RX10 17 "NameTurnerModel" "size" "[I", Cond.fieldLink RX10 88 "NameTurnerModel" "stepSize" "[I", Cond.fieldLink RX10 13 "NameTurnerModel" "name" "[B", Cond.fieldLink RX10 85 "NameTurnerModel" "stepName" "[B", Cond.methodLink RX10 104 yX10_isJust, Cond.instanceMethod yX10_isJust, Cond.selects RX10 yX10_isJust yX10_isJust, Cond.code yX10_isJust cX10_isJust 4 (some .boolean), Cond.methodLink RX10 146 yX10_alikeTo, Cond.instanceMethod yX10_alikeTo, Cond.selects RX10 yX10_alikeTo yX10_alikeTo, Cond.code yX10_alikeTo cX10_alikeTo 4 (some .int), Cond.fieldLink RX10 112 "NameTurnerModel" "came" "I", Cond.methodLink RX10 115 yX10_isAlike, Cond.instanceMethod yX10_isAlike, Cond.selects RX10 yX10_isAlike yX10_isAlike, Cond.code yX10_isAlike cX10_isAlike 4 (some .boolean), Cond.fieldLink RX10 100 "NameTurnerModel" "isFolding" "Z", Cond.methodLink RX10 108 yX10_low, Cond.static yX10_low, Cond.code yX10_low cX10_low 1 (some .int)]
def wsX10_back_r3 : List Cond := [Cond.methodLink RX10 153 yX10_goesTo, Cond.instanceMethod yX10_goesTo, Cond.selects RX10 yX10_goesTo yX10_goesTo, Cond.code yX10_goesTo cX10_goesTo 4 none, Cond.fieldLink RX10 118 "NameTurnerModel" "links" "I", Cond.methodLink RX10 121 yX10_copies, Cond.instanceMethod yX10_copies, Cond.selects RX10 yX10_copies yX10_copies, Cond.code yX10_copies cX10_copies 4 none]
def wsX10_back : List Cond := .code yX10_back cX10_back 3 (some .int) :: ((wsX10_back_r1 ++ (wsX10_back_r2 ++ wsX10_back_r3)) ++ wsX100)
def wsX10_stuck : List Cond := .code yX10_stuck cX10_stuck 1 (some .int) :: ([.fieldLink RX10 1 "NameTurnerModel" "thrown" "I", .fieldLink RX10 277 "NameTurnerModel" "stuck" "I"] ++ wsX100)
def wsX10_link_r1 : List Cond := [Cond.fieldLink RX10 1 "NameTurnerModel" "thrown" "I", Cond.fieldLink RX10 118 "NameTurnerModel" "links" "I", Cond.methodLink RX10 143 yX10_takes, Cond.instanceMethod yX10_takes, Cond.selects RX10 yX10_takes yX10_takes, Cond.initialized RX10, Cond.code yX10_takes cX10_takes 4 (some .boolean), Cond.fieldLink RX10 129 "NameTurnerModel" "taped" "I", Cond.fieldLink RX10 28 "NameTurnerModel" "tape" "[B", Cond.fieldLink RX10 21 "NameTurnerModel" "folder" "[I", Cond.fieldLink RX10 17 "NameTurnerModel" "size" "[I", Cond.fieldLink RX10 13 "NameTurnerModel" "name" "[B", Cond.methodLink RX10 136 yX10_within, Cond.static yX10_within, Cond.code yX10_within cX10_within 3 (some .boolean), Cond.methodLink RX10 140 yX10_isNameByte, Cond.static yX10_isNameByte, Cond.code yX10_isNameByte cX10_isNameByte 1 (some .boolean), Cond.methodLink RX10 132 yX10_isFigure, Cond.static yX10_isFigure, Cond.code yX10_isFigure cX10_isFigure 1 (some .boolean), Cond.methodLink RX10 121 yX10_copies, Cond.instanceMethod yX10_copies, Cond.selects RX10 yX10_copies yX10_copies]
def wsX10_link_r2 : List Cond := [Cond.code yX10_copies cX10_copies 4 none]
def wsX10_link : List Cond := .code yX10_link cX10_link 2 (some .int) :: ((wsX10_link_r1 ++ wsX10_link_r2) ++ wsX100)
def wsX10_lookAt : List Cond := .code yX10_lookAt cX10_lookAt 3 (some .int) :: ([.fieldLink RX10 17 "NameTurnerModel" "size" "[I", .fieldLink RX10 13 "NameTurnerModel" "name" "[B"] ++ wsX100)
def wsX10_linkOf : List Cond := .code yX10_linkOf cX10_linkOf 5 (some .int) :: ([.fieldLink RX10 1 "NameTurnerModel" "thrown" "I", .fieldLink RX10 118 "NameTurnerModel" "links" "I", .fieldLink RX10 21 "NameTurnerModel" "folder" "[I", .fieldLink RX10 17 "NameTurnerModel" "size" "[I", .fieldLink RX10 112 "NameTurnerModel" "came" "I", .fieldLink RX10 24 "NameTurnerModel" "isThere" "[Z", .methodLink RX10 283 yX10_lookAt, .instanceMethod yX10_lookAt, .selects RX10 yX10_lookAt yX10_lookAt, .initialized RX10, .code yX10_lookAt cX10_lookAt 3 (some .int), .fieldLink RX10 13 "NameTurnerModel" "name" "[B", .methodLink RX10 104 yX10_isJust, .instanceMethod yX10_isJust, .selects RX10 yX10_isJust yX10_isJust, .code yX10_isJust cX10_isJust 4 (some .boolean)] ++ wsX100)
def wsX10_of : List Cond := .code yX10_of cX10_of 4 (some .int) :: ([.fieldLink RX10 1 "NameTurnerModel" "thrown" "I", .fieldLink RX10 17 "NameTurnerModel" "size" "[I", .fieldLink RX10 21 "NameTurnerModel" "folder" "[I", .fieldLink RX10 13 "NameTurnerModel" "name" "[B", .methodLink RX10 150 yX10_isFile, .instanceMethod yX10_isFile, .selects RX10 yX10_isFile yX10_isFile, .initialized RX10, .code yX10_isFile cX10_isFile 2 (some .boolean), .fieldLink RX10 112 "NameTurnerModel" "came" "I", .fieldLink RX10 24 "NameTurnerModel" "isThere" "[Z", .methodLink RX10 136 yX10_within, .static yX10_within, .code yX10_within cX10_within 3 (some .boolean), .methodLink RX10 283 yX10_lookAt, .instanceMethod yX10_lookAt, .selects RX10 yX10_lookAt yX10_lookAt, .code yX10_lookAt cX10_lookAt 3 (some .int)] ++ wsX100)
def wsX10_spared : List Cond := .code yX10_spared cX10_spared 3 (some .int) :: ([.fieldLink RX10 112 "NameTurnerModel" "came" "I", .fieldLink RX10 24 "NameTurnerModel" "isThere" "[Z", .fieldLink RX10 13 "NameTurnerModel" "name" "[B"] ++ wsX100)
def wsX10_count_r1 : List Cond := [Cond.fieldLink RX10 1 "NameTurnerModel" "thrown" "I", Cond.fieldLink RX10 112 "NameTurnerModel" "came" "I", Cond.fieldLink RX10 100 "NameTurnerModel" "isFolding" "Z", Cond.fieldLink RX10 129 "NameTurnerModel" "taped" "I", Cond.fieldLink RX10 228 "NameTurnerModel" "hasPlan" "Z", Cond.fieldLink RX10 215 "NameTurnerModel" "plannedMany" "I", Cond.fieldLink RX10 231 "NameTurnerModel" "done" "I", Cond.fieldLink RX10 118 "NameTurnerModel" "links" "I", Cond.methodLink RX10 125 yX10_there, Cond.instanceMethod yX10_there, Cond.selects RX10 yX10_there yX10_there, Cond.initialized RX10, Cond.code yX10_there cX10_there 3 (some .int), Cond.fieldLink RX10 24 "NameTurnerModel" "isThere" "[Z", Cond.methodLink RX10 253 yX10_troubles, Cond.instanceMethod yX10_troubles, Cond.selects RX10 yX10_troubles yX10_troubles, Cond.code yX10_troubles cX10_troubles 3 (some .int), Cond.fieldLink RX10 67 "NameTurnerModel" "trouble" "[I", Cond.methodLink RX10 224 yX10_isUnderWay, Cond.instanceMethod yX10_isUnderWay, Cond.selects RX10 yX10_isUnderWay yX10_isUnderWay, Cond.code yX10_isUnderWay cX10_isUnderWay 1 (some .boolean), Cond.fieldLink RX10 247 "NameTurnerModel" "steps" "I"]
def wsX10_count_r2 : List Cond := [Cond.methodLink RX10 286 yX10_spared, Cond.instanceMethod yX10_spared, Cond.selects RX10 yX10_spared yX10_spared, Cond.code yX10_spared cX10_spared 3 (some .int), Cond.fieldLink RX10 13 "NameTurnerModel" "name" "[B"]
def wsX10_count : List Cond := .code yX10_count cX10_count 2 (some .int) :: ((wsX10_count_r1 ++ wsX10_count_r2) ++ wsX100)
def wsJ9_min_7cf53 : List Cond := .code yJ9_min_7cf53 cJ9_min_7cf53 2 (some .int) :: ([])
def wsL_of_r1 : List Cond := [Cond.classLink RL 13 "java/util/NoSuchElementException", Cond.methodLink RL 7 yX9_of, Cond.instanceMethod yX9_of, Cond.selects RX9 yX9_of yX9_of, Cond.initialized RX9, Cond.code yX9_of cX9_of 4 (some .int), Cond.classLink RX9 271 "java/util/NoSuchElementException", Cond.initialized "java/util/NoSuchElementException", Cond.fieldLink RX9 26 "NameTurner" "store" "LNameTurner$Store;", Cond.methodLink RX9 109 yX7_has, Cond.instanceMethod yX7_has, Cond.selects RX7 yX7_has yX7_has, Cond.initialized RX7, Cond.code yX7_has cX7_has 2 (some .boolean), Cond.fieldLink RX7 25 "NameTurner$Store" "came" "I", Cond.fieldLink RX7 17 "NameTurner$Store" "is" "[Z", Cond.methodLink RX9 132 yX7_placeOf, Cond.instanceMethod yX7_placeOf, Cond.selects RX7 yX7_placeOf yX7_placeOf, Cond.code yX7_placeOf cX7_placeOf 2 (some (.object "NameTurner$Place")), Cond.fieldLink RX7 11 "NameTurner$Store" "places" "[LNameTurner$Place;", Cond.methodLink RX9 278 yX2_isSpare, Cond.instanceMethod yX2_isSpare, Cond.selects RX2 yX2_isSpare yX2_isSpare]
def wsL_of_r2 : List Cond := [Cond.initialized RX2, Cond.code yX2_isSpare cX2_isSpare 1 (some .boolean), Cond.methodLink RX2 26 yX2_byteAt, Cond.instanceMethod yX2_byteAt, Cond.selects RX2 yX2_byteAt yX2_byteAt, Cond.code yX2_byteAt cX2_byteAt 2 (some .int), Cond.fieldLink RX2 19 "NameTurner$Place" "length" "I", Cond.fieldLink RX2 9 "NameTurner$Place" "name" "[I", Cond.methodLink RX9 213 yX2_byteAt]
def wsL_of : List Cond := .codeWith yL_of cL_of 5 (some .int) [(0, 10, 13, 13)] :: ((wsL_of_r1 ++ wsL_of_r2) ++ wsX90 ++ wsX20 ++ wsX70 ++ (vx_atS RX9 275 "java/util/NoSuchElementException" ["java/lang/RuntimeException", "java/lang/Exception"]).filter goodWord)
theorem dX0_init_0 : decode cX0_init 0 = .ok (.aload_n 0, 1) := by decide +kernel
theorem dX0_init_1 : decode cX0_init 1 = .ok (.invokespecial 3, 3) := by decide +kernel
theorem dX0_init_4 : decode cX0_init 4 = .ok (.aload_n 0, 1) := by decide +kernel
theorem dX0_init_5 : decode cX0_init 5 = .ok (.sipush 169, 3) := by decide +kernel
theorem dX0_init_8 : decode cX0_init 8 = .ok (.newarray .boolean, 2) := by decide +kernel
theorem dX0_init_10 : decode cX0_init 10 = .ok (.putfield 11, 3) := by decide +kernel
theorem dX0_init_13 : decode cX0_init 13 = .ok (.aload_n 0, 1) := by decide +kernel
theorem dX0_init_14 : decode cX0_init 14 = .ok (.bipush 12, 2) := by decide +kernel
theorem dX0_init_16 : decode cX0_init 16 = .ok (.newarray .int, 2) := by decide +kernel
theorem dX0_init_18 : decode cX0_init 18 = .ok (.putfield 15, 3) := by decide +kernel
theorem dX0_init_21 : decode cX0_init 21 = .ok (.aload_n 0, 1) := by decide +kernel
theorem dX0_init_22 : decode cX0_init 22 = .ok (.bipush 12, 2) := by decide +kernel
theorem dX0_init_24 : decode cX0_init 24 = .ok (.newarray .int, 2) := by decide +kernel
theorem dX0_init_26 : decode cX0_init 26 = .ok (.putfield 19, 3) := by decide +kernel
theorem dX0_init_29 : decode cX0_init 29 = .ok (.return_, 1) := by decide +kernel
theorem dX0_tookBy_0 : decode cX0_tookBy 0 = .ok (.iload_n 1, 1) := by decide +kernel
theorem dX0_tookBy_1 : decode cX0_tookBy 1 = .ok (.ifCond .lt 21, 3) := by decide +kernel
theorem dX0_tookBy_4 : decode cX0_tookBy 4 = .ok (.iload_n 1, 1) := by decide +kernel
theorem dX0_tookBy_5 : decode cX0_tookBy 5 = .ok (.aload_n 0, 1) := by decide +kernel
theorem dX0_tookBy_6 : decode cX0_tookBy 6 = .ok (.getfield 15, 3) := by decide +kernel
theorem dX0_tookBy_9 : decode cX0_tookBy 9 = .ok (.arraylength, 1) := by decide +kernel
theorem dX0_tookBy_10 : decode cX0_tookBy 10 = .ok (.if_icmp .ge 12, 3) := by decide +kernel
theorem dX0_tookBy_13 : decode cX0_tookBy 13 = .ok (.aload_n 0, 1) := by decide +kernel
theorem dX0_tookBy_14 : decode cX0_tookBy 14 = .ok (.getfield 15, 3) := by decide +kernel
theorem dX0_tookBy_17 : decode cX0_tookBy 17 = .ok (.iload_n 1, 1) := by decide +kernel
theorem dX0_tookBy_18 : decode cX0_tookBy 18 = .ok (.iaload, 1) := by decide +kernel
theorem dX0_tookBy_19 : decode cX0_tookBy 19 = .ok (.goto 4, 3) := by decide +kernel
theorem dX0_tookBy_22 : decode cX0_tookBy 22 = .ok (.iconst (-1), 1) := by decide +kernel
theorem dX0_tookBy_23 : decode cX0_tookBy 23 = .ok (.ireturn, 1) := by decide +kernel
theorem dX0_startOf_0 : decode cX0_startOf 0 = .ok (.iload_n 1, 1) := by decide +kernel
theorem dX0_startOf_1 : decode cX0_startOf 1 = .ok (.ifCond .lt 21, 3) := by decide +kernel
theorem dX0_startOf_4 : decode cX0_startOf 4 = .ok (.iload_n 1, 1) := by decide +kernel
theorem dX0_startOf_5 : decode cX0_startOf 5 = .ok (.aload_n 0, 1) := by decide +kernel
theorem dX0_startOf_6 : decode cX0_startOf 6 = .ok (.getfield 19, 3) := by decide +kernel
theorem dX0_startOf_9 : decode cX0_startOf 9 = .ok (.arraylength, 1) := by decide +kernel
theorem dX0_startOf_10 : decode cX0_startOf 10 = .ok (.if_icmp .ge 12, 3) := by decide +kernel
theorem dX0_startOf_13 : decode cX0_startOf 13 = .ok (.aload_n 0, 1) := by decide +kernel
theorem dX0_startOf_14 : decode cX0_startOf 14 = .ok (.getfield 19, 3) := by decide +kernel
theorem dX0_startOf_17 : decode cX0_startOf 17 = .ok (.iload_n 1, 1) := by decide +kernel
theorem dX0_startOf_18 : decode cX0_startOf 18 = .ok (.iaload, 1) := by decide +kernel
theorem dX0_startOf_19 : decode cX0_startOf 19 = .ok (.goto 4, 3) := by decide +kernel
theorem dX0_startOf_22 : decode cX0_startOf 22 = .ok (.iconst (-1), 1) := by decide +kernel
theorem dX0_startOf_23 : decode cX0_startOf 23 = .ok (.ireturn, 1) := by decide +kernel
set_option maxRecDepth 20000 in
theorem ggX0_match_X0_findWays : GoodIn wsX0_match wsX0_findWays := goodIn_r _ [7, 8, 9, 10, 11, 12, 13, 14, 15, 16, 17, 18, 19, 20, 21, 22, 6, 23, 24, 25, 26, 27, 28, 29, 30, 31, 32, 33, 34, 35, 36, 37, 38, 39, 40, 41, 57, 58, 59, 54, 55, 56, 60, 61, 62, 63, 64, 65, 66, 67] (by decide +kernel) (by decide +kernel)
set_option maxRecDepth 20000 in
theorem gX0_match_X0_findWays : GoodIn wsX0_match (wsV RX0 22 RX0 yX0_findWays wsX0_findWays) := goodIn_app (goodIn_of _ (by decide +kernel)) ggX0_match_X0_findWays
set_option maxRecDepth 20000 in
theorem ggX0_match_X0_isWay : GoodIn wsX0_match wsX0_isWay := goodIn_r _ [27, 8, 54, 55, 56] (by decide +kernel) (by decide +kernel)
set_option maxRecDepth 20000 in
theorem gX0_match_X0_isWay : GoodIn wsX0_match (wsV RX0 26 RX0 yX0_isWay wsX0_isWay) := goodIn_app (goodIn_of _ (by decide +kernel)) ggX0_match_X0_isWay
set_option maxRecDepth 20000 in
theorem ggX0_match_X5_itemCount : GoodIn wsX0_match wsX5_itemCount := goodIn_r _ [13, 14, 60, 61, 62, 63, 64, 65, 66, 67] (by decide +kernel) (by decide +kernel)
set_option maxRecDepth 20000 in
theorem gX0_match_X5_itemCount : GoodIn wsX0_match (wsV RX0 30 RX5 yX5_itemCount wsX5_itemCount) := goodIn_app (goodIn_of _ (by decide +kernel)) ggX0_match_X5_itemCount
set_option maxRecDepth 20000 in
theorem ggX0_match_X0_firstChoice : GoodIn wsX0_match wsX0_firstChoice := goodIn_r _ [45, 15, 16, 17, 12, 18, 14, 19, 46, 47, 48, 6, 49, 24, 25, 26, 27, 8, 50, 51, 52, 53, 28, 29, 30, 31, 32, 33, 34, 38, 39, 40, 41, 60, 61, 62, 63, 64, 65, 66, 67, 57, 58, 59, 54, 55, 56] (by decide +kernel) (by decide +kernel)
set_option maxRecDepth 20000 in
theorem gX0_match_X0_firstChoice : GoodIn wsX0_match (wsV RX0 36 RX0 yX0_firstChoice wsX0_firstChoice) := goodIn_app (goodIn_of _ (by decide +kernel)) ggX0_match_X0_firstChoice
theorem dX0_match_0 : decode cX0_match 0 = .ok (.aload_n 0, 1) := by decide +kernel
theorem dX0_match_1 : decode cX0_match 1 = .ok (.aload_n 1, 1) := by decide +kernel
theorem dX0_match_2 : decode cX0_match 2 = .ok (.aload_n 2, 1) := by decide +kernel
theorem dX0_match_3 : decode cX0_match 3 = .ok (.invokevirtual 22, 3) := by decide +kernel
theorem dX0_match_6 : decode cX0_match 6 = .ok (.aload_n 0, 1) := by decide +kernel
theorem dX0_match_7 : decode cX0_match 7 = .ok (.iconst 0, 1) := by decide +kernel
theorem dX0_match_8 : decode cX0_match 8 = .ok (.iconst 0, 1) := by decide +kernel
theorem dX0_match_9 : decode cX0_match 9 = .ok (.invokevirtual 26, 3) := by decide +kernel
theorem dX0_match_12 : decode cX0_match 12 = .ok (.ifCond .ne 5, 3) := by decide +kernel
theorem dX0_match_15 : decode cX0_match 15 = .ok (.iconst 0, 1) := by decide +kernel
theorem dX0_match_16 : decode cX0_match 16 = .ok (.ireturn, 1) := by decide +kernel
theorem dX0_match_17 : decode cX0_match 17 = .ok (.iconst 0, 1) := by decide +kernel
theorem dX0_match_18 : decode cX0_match 18 = .ok (.istore_n 3, 1) := by decide +kernel
theorem dX0_match_19 : decode cX0_match 19 = .ok (.iconst 0, 1) := by decide +kernel
theorem dX0_match_20 : decode cX0_match 20 = .ok (.istore 4, 2) := by decide +kernel
theorem dX0_match_22 : decode cX0_match 22 = .ok (.iload 4, 2) := by decide +kernel
theorem dX0_match_24 : decode cX0_match 24 = .ok (.aload_n 1, 1) := by decide +kernel
theorem dX0_match_25 : decode cX0_match 25 = .ok (.invokevirtual 30, 3) := by decide +kernel
theorem dX0_match_28 : decode cX0_match 28 = .ok (.if_icmp .ge 43, 3) := by decide +kernel
theorem dX0_match_31 : decode cX0_match 31 = .ok (.aload_n 0, 1) := by decide +kernel
theorem dX0_match_32 : decode cX0_match 32 = .ok (.getfield 19, 3) := by decide +kernel
theorem dX0_match_35 : decode cX0_match 35 = .ok (.iload 4, 2) := by decide +kernel
theorem dX0_match_37 : decode cX0_match 37 = .ok (.iload_n 3, 1) := by decide +kernel
theorem dX0_match_38 : decode cX0_match 38 = .ok (.iastore, 1) := by decide +kernel
theorem dX0_match_39 : decode cX0_match 39 = .ok (.aload_n 0, 1) := by decide +kernel
theorem dX0_match_40 : decode cX0_match 40 = .ok (.getfield 15, 3) := by decide +kernel
theorem dX0_match_43 : decode cX0_match 43 = .ok (.iload 4, 2) := by decide +kernel
theorem dX0_match_45 : decode cX0_match 45 = .ok (.aload_n 0, 1) := by decide +kernel
theorem dX0_match_46 : decode cX0_match 46 = .ok (.aload_n 1, 1) := by decide +kernel
theorem dX0_match_47 : decode cX0_match 47 = .ok (.aload_n 2, 1) := by decide +kernel
theorem dX0_match_48 : decode cX0_match 48 = .ok (.iload 4, 2) := by decide +kernel
theorem dX0_match_50 : decode cX0_match 50 = .ok (.iload_n 3, 1) := by decide +kernel
theorem dX0_match_51 : decode cX0_match 51 = .ok (.invokevirtual 36, 3) := by decide +kernel
theorem dX0_match_54 : decode cX0_match 54 = .ok (.iastore, 1) := by decide +kernel
theorem dX0_match_55 : decode cX0_match 55 = .ok (.iload_n 3, 1) := by decide +kernel
theorem dX0_match_56 : decode cX0_match 56 = .ok (.aload_n 0, 1) := by decide +kernel
theorem dX0_match_57 : decode cX0_match 57 = .ok (.getfield 15, 3) := by decide +kernel
theorem dX0_match_60 : decode cX0_match 60 = .ok (.iload 4, 2) := by decide +kernel
theorem dX0_match_62 : decode cX0_match 62 = .ok (.iaload, 1) := by decide +kernel
theorem dX0_match_63 : decode cX0_match 63 = .ok (.iadd, 1) := by decide +kernel
theorem dX0_match_64 : decode cX0_match 64 = .ok (.istore_n 3, 1) := by decide +kernel
theorem dX0_match_65 : decode cX0_match 65 = .ok (.iinc 4 1, 3) := by decide +kernel
theorem dX0_match_68 : decode cX0_match 68 = .ok (.goto (-46), 3) := by decide +kernel
theorem dX0_match_71 : decode cX0_match 71 = .ok (.iconst 1, 1) := by decide +kernel
theorem dX0_match_72 : decode cX0_match 72 = .ok (.ireturn, 1) := by decide +kernel
theorem dX0_isWay_0 : decode cX0_isWay 0 = .ok (.iload_n 1, 1) := by decide +kernel
theorem dX0_isWay_1 : decode cX0_isWay 1 = .ok (.ifCond .lt 37, 3) := by decide +kernel
theorem dX0_isWay_4 : decode cX0_isWay 4 = .ok (.iload_n 1, 1) := by decide +kernel
theorem dX0_isWay_5 : decode cX0_isWay 5 = .ok (.bipush 12, 2) := by decide +kernel
theorem dX0_isWay_7 : decode cX0_isWay 7 = .ok (.if_icmp .gt 31, 3) := by decide +kernel
theorem dX0_isWay_10 : decode cX0_isWay 10 = .ok (.iload_n 2, 1) := by decide +kernel
theorem dX0_isWay_11 : decode cX0_isWay 11 = .ok (.ifCond .lt 27, 3) := by decide +kernel
theorem dX0_isWay_14 : decode cX0_isWay 14 = .ok (.iload_n 2, 1) := by decide +kernel
theorem dX0_isWay_15 : decode cX0_isWay 15 = .ok (.bipush 13, 2) := by decide +kernel
theorem dX0_isWay_17 : decode cX0_isWay 17 = .ok (.if_icmp .ge 21, 3) := by decide +kernel
theorem dX0_isWay_20 : decode cX0_isWay 20 = .ok (.aload_n 0, 1) := by decide +kernel
theorem dX0_isWay_21 : decode cX0_isWay 21 = .ok (.getfield 11, 3) := by decide +kernel
theorem dX0_isWay_24 : decode cX0_isWay 24 = .ok (.iload_n 1, 1) := by decide +kernel
theorem dX0_isWay_25 : decode cX0_isWay 25 = .ok (.bipush 13, 2) := by decide +kernel
theorem dX0_isWay_27 : decode cX0_isWay 27 = .ok (.imul, 1) := by decide +kernel
theorem dX0_isWay_28 : decode cX0_isWay 28 = .ok (.iload_n 2, 1) := by decide +kernel
theorem dX0_isWay_29 : decode cX0_isWay 29 = .ok (.iadd, 1) := by decide +kernel
theorem dX0_isWay_30 : decode cX0_isWay 30 = .ok (.baload, 1) := by decide +kernel
theorem dX0_isWay_31 : decode cX0_isWay 31 = .ok (.ifCond .eq 7, 3) := by decide +kernel
theorem dX0_isWay_34 : decode cX0_isWay 34 = .ok (.iconst 1, 1) := by decide +kernel
theorem dX0_isWay_35 : decode cX0_isWay 35 = .ok (.goto 4, 3) := by decide +kernel
theorem dX0_isWay_38 : decode cX0_isWay 38 = .ok (.iconst 0, 1) := by decide +kernel
theorem dX0_isWay_39 : decode cX0_isWay 39 = .ok (.ireturn, 1) := by decide +kernel
set_option maxRecDepth 20000 in
theorem ggX0_findWays_X5_itemCount : GoodIn wsX0_findWays wsX5_itemCount := goodIn_r _ [6, 7, 42, 43, 44, 45, 46, 47, 48, 49] (by decide +kernel) (by decide +kernel)
set_option maxRecDepth 20000 in
theorem gX0_findWays_X5_itemCount : GoodIn wsX0_findWays (wsV RX0 30 RX5 yX5_itemCount wsX5_itemCount) := goodIn_app (goodIn_of _ (by decide +kernel)) ggX0_findWays_X5_itemCount
set_option maxRecDepth 20000 in
theorem ggX0_findWays_X5_item : GoodIn wsX0_findWays wsX5_item := goodIn_r _ [11, 7, 12, 42, 43, 44, 45, 46, 47, 48, 49] (by decide +kernel) (by decide +kernel)
set_option maxRecDepth 20000 in
theorem gX0_findWays_X5_item : GoodIn wsX0_findWays (wsV RX0 46 RX5 yX5_item wsX5_item) := goodIn_app (goodIn_of _ (by decide +kernel)) ggX0_findWays_X5_item
set_option maxRecDepth 20000 in
theorem ggX0_findWays_X0_hasWay : GoodIn wsX0_findWays wsX0_hasWay := goodIn_r _ [17, 18, 19, 20, 16, 21, 1, 22, 23, 24, 25, 26, 27, 28, 29, 30, 31, 32, 33, 34, 35, 36, 37, 38, 39, 40, 41] (by decide +kernel) (by decide +kernel)
set_option maxRecDepth 20000 in
theorem gX0_findWays_X0_hasWay : GoodIn wsX0_findWays (wsV RX0 50 RX0 yX0_hasWay wsX0_hasWay) := goodIn_app (goodIn_of _ (by decide +kernel)) ggX0_findWays_X0_hasWay
theorem dX0_findWays_0 : decode cX0_findWays 0 = .ok (.aload_n 1, 1) := by decide +kernel
theorem dX0_findWays_1 : decode cX0_findWays 1 = .ok (.invokevirtual 30, 3) := by decide +kernel
theorem dX0_findWays_4 : decode cX0_findWays 4 = .ok (.istore_n 3, 1) := by decide +kernel
theorem dX0_findWays_5 : decode cX0_findWays 5 = .ok (.iconst 0, 1) := by decide +kernel
theorem dX0_findWays_6 : decode cX0_findWays 6 = .ok (.istore 4, 2) := by decide +kernel
theorem dX0_findWays_8 : decode cX0_findWays 8 = .ok (.iload 4, 2) := by decide +kernel
theorem dX0_findWays_10 : decode cX0_findWays 10 = .ok (.aload_n 2, 1) := by decide +kernel
theorem dX0_findWays_11 : decode cX0_findWays 11 = .ok (.getfield 40, 3) := by decide +kernel
theorem dX0_findWays_14 : decode cX0_findWays 14 = .ok (.if_icmp .gt 35, 3) := by decide +kernel
theorem dX0_findWays_17 : decode cX0_findWays 17 = .ok (.aload_n 0, 1) := by decide +kernel
theorem dX0_findWays_18 : decode cX0_findWays 18 = .ok (.getfield 11, 3) := by decide +kernel
theorem dX0_findWays_21 : decode cX0_findWays 21 = .ok (.iload_n 3, 1) := by decide +kernel
theorem dX0_findWays_22 : decode cX0_findWays 22 = .ok (.bipush 13, 2) := by decide +kernel
theorem dX0_findWays_24 : decode cX0_findWays 24 = .ok (.imul, 1) := by decide +kernel
theorem dX0_findWays_25 : decode cX0_findWays 25 = .ok (.iload 4, 2) := by decide +kernel
theorem dX0_findWays_27 : decode cX0_findWays 27 = .ok (.iadd, 1) := by decide +kernel
theorem dX0_findWays_28 : decode cX0_findWays 28 = .ok (.iload 4, 2) := by decide +kernel
theorem dX0_findWays_30 : decode cX0_findWays 30 = .ok (.aload_n 2, 1) := by decide +kernel
theorem dX0_findWays_31 : decode cX0_findWays 31 = .ok (.getfield 40, 3) := by decide +kernel
theorem dX0_findWays_34 : decode cX0_findWays 34 = .ok (.if_icmp .ne 7, 3) := by decide +kernel
theorem dX0_findWays_37 : decode cX0_findWays 37 = .ok (.iconst 1, 1) := by decide +kernel
theorem dX0_findWays_38 : decode cX0_findWays 38 = .ok (.goto 4, 3) := by decide +kernel
theorem dX0_findWays_41 : decode cX0_findWays 41 = .ok (.iconst 0, 1) := by decide +kernel
theorem dX0_findWays_42 : decode cX0_findWays 42 = .ok (.bastore, 1) := by decide +kernel
theorem dX0_findWays_43 : decode cX0_findWays 43 = .ok (.iinc 4 1, 3) := by decide +kernel
theorem dX0_findWays_46 : decode cX0_findWays 46 = .ok (.goto (-38), 3) := by decide +kernel
theorem dX0_findWays_49 : decode cX0_findWays 49 = .ok (.iload_n 3, 1) := by decide +kernel
theorem dX0_findWays_50 : decode cX0_findWays 50 = .ok (.iconst 1, 1) := by decide +kernel
theorem dX0_findWays_51 : decode cX0_findWays 51 = .ok (.isub, 1) := by decide +kernel
theorem dX0_findWays_52 : decode cX0_findWays 52 = .ok (.istore 4, 2) := by decide +kernel
theorem dX0_findWays_54 : decode cX0_findWays 54 = .ok (.iload 4, 2) := by decide +kernel
theorem dX0_findWays_56 : decode cX0_findWays 56 = .ok (.ifCond .lt 54, 3) := by decide +kernel
theorem dX0_findWays_59 : decode cX0_findWays 59 = .ok (.aload_n 2, 1) := by decide +kernel
theorem dX0_findWays_60 : decode cX0_findWays 60 = .ok (.getfield 40, 3) := by decide +kernel
theorem dX0_findWays_63 : decode cX0_findWays 63 = .ok (.istore 5, 2) := by decide +kernel
theorem dX0_findWays_65 : decode cX0_findWays 65 = .ok (.iload 5, 2) := by decide +kernel
theorem dX0_findWays_67 : decode cX0_findWays 67 = .ok (.ifCond .lt 37, 3) := by decide +kernel
theorem dX0_findWays_70 : decode cX0_findWays 70 = .ok (.aload_n 0, 1) := by decide +kernel
theorem dX0_findWays_71 : decode cX0_findWays 71 = .ok (.getfield 11, 3) := by decide +kernel
theorem dX0_findWays_74 : decode cX0_findWays 74 = .ok (.iload 4, 2) := by decide +kernel
theorem dX0_findWays_76 : decode cX0_findWays 76 = .ok (.bipush 13, 2) := by decide +kernel
theorem dX0_findWays_78 : decode cX0_findWays 78 = .ok (.imul, 1) := by decide +kernel
theorem dX0_findWays_79 : decode cX0_findWays 79 = .ok (.iload 5, 2) := by decide +kernel
theorem dX0_findWays_81 : decode cX0_findWays 81 = .ok (.iadd, 1) := by decide +kernel
theorem dX0_findWays_82 : decode cX0_findWays 82 = .ok (.aload_n 0, 1) := by decide +kernel
theorem dX0_findWays_83 : decode cX0_findWays 83 = .ok (.aload_n 1, 1) := by decide +kernel
theorem dX0_findWays_84 : decode cX0_findWays 84 = .ok (.iload 4, 2) := by decide +kernel
theorem dX0_findWays_86 : decode cX0_findWays 86 = .ok (.invokevirtual 46, 3) := by decide +kernel
theorem dX0_findWays_89 : decode cX0_findWays 89 = .ok (.iload 4, 2) := by decide +kernel
theorem dX0_findWays_91 : decode cX0_findWays 91 = .ok (.aload_n 2, 1) := by decide +kernel
theorem dX0_findWays_92 : decode cX0_findWays 92 = .ok (.iload 5, 2) := by decide +kernel
theorem dX0_findWays_94 : decode cX0_findWays 94 = .ok (.invokevirtual 50, 3) := by decide +kernel
theorem dX0_findWays_97 : decode cX0_findWays 97 = .ok (.bastore, 1) := by decide +kernel
theorem dX0_findWays_98 : decode cX0_findWays 98 = .ok (.iinc 5 (-1), 3) := by decide +kernel
theorem dX0_findWays_101 : decode cX0_findWays 101 = .ok (.goto (-36), 3) := by decide +kernel
theorem dX0_findWays_104 : decode cX0_findWays 104 = .ok (.iinc 4 (-1), 3) := by decide +kernel
theorem dX0_findWays_107 : decode cX0_findWays 107 = .ok (.goto (-53), 3) := by decide +kernel
theorem dX0_findWays_110 : decode cX0_findWays 110 = .ok (.return_, 1) := by decide +kernel
set_option maxRecDepth 20000 in
theorem ggX0_hasWay_X0_isWay : GoodIn wsX0_hasWay wsX0_isWay := goodIn_r _ [5, 6, 24, 25, 26] (by decide +kernel) (by decide +kernel)
set_option maxRecDepth 20000 in
theorem gX0_hasWay_X0_isWay : GoodIn wsX0_hasWay (wsV RX0 26 RX0 yX0_isWay wsX0_isWay) := goodIn_app (goodIn_of _ (by decide +kernel)) ggX0_hasWay_X0_isWay
set_option maxRecDepth 20000 in
theorem ggX0_hasWay_X2_byteAt : GoodIn wsX0_hasWay wsX2_byteAt := goodIn_r _ [11, 12, 13, 21, 22, 23] (by decide +kernel) (by decide +kernel)
set_option maxRecDepth 20000 in
theorem gX0_hasWay_X2_byteAt : GoodIn wsX0_hasWay (wsV RX0 54 RX2 yX2_byteAt wsX2_byteAt) := goodIn_app (goodIn_of _ (by decide +kernel)) ggX0_hasWay_X2_byteAt
set_option maxRecDepth 20000 in
theorem ggX0_hasWay_X0_takes : GoodIn wsX0_hasWay wsX0_takes := goodIn_r _ [16, 17, 18, 19, 20] (by decide +kernel) (by decide +kernel)
set_option maxRecDepth 20000 in
theorem gX0_hasWay_X0_takes : GoodIn wsX0_hasWay (va_wsS RX0 57 yX0_takes wsX0_takes) := goodIn_app (goodIn_of _ (by decide +kernel)) ggX0_hasWay_X0_takes
theorem dX0_hasWay_0 : decode cX0_hasWay 0 = .ok (.iload_n 1, 1) := by decide +kernel
theorem dX0_hasWay_1 : decode cX0_hasWay 1 = .ok (.bipush 42, 2) := by decide +kernel
theorem dX0_hasWay_3 : decode cX0_hasWay 3 = .ok (.if_icmp .ne 42, 3) := by decide +kernel
theorem dX0_hasWay_6 : decode cX0_hasWay 6 = .ok (.aload_n 0, 1) := by decide +kernel
theorem dX0_hasWay_7 : decode cX0_hasWay 7 = .ok (.iload_n 2, 1) := by decide +kernel
theorem dX0_hasWay_8 : decode cX0_hasWay 8 = .ok (.iconst 1, 1) := by decide +kernel
theorem dX0_hasWay_9 : decode cX0_hasWay 9 = .ok (.iadd, 1) := by decide +kernel
theorem dX0_hasWay_10 : decode cX0_hasWay 10 = .ok (.iload 4, 2) := by decide +kernel
theorem dX0_hasWay_12 : decode cX0_hasWay 12 = .ok (.invokevirtual 26, 3) := by decide +kernel
theorem dX0_hasWay_15 : decode cX0_hasWay 15 = .ok (.ifCond .ne 24, 3) := by decide +kernel
theorem dX0_hasWay_18 : decode cX0_hasWay 18 = .ok (.iload 4, 2) := by decide +kernel
theorem dX0_hasWay_20 : decode cX0_hasWay 20 = .ok (.aload_n 3, 1) := by decide +kernel
theorem dX0_hasWay_21 : decode cX0_hasWay 21 = .ok (.getfield 40, 3) := by decide +kernel
theorem dX0_hasWay_24 : decode cX0_hasWay 24 = .ok (.if_icmp .ge 19, 3) := by decide +kernel
theorem dX0_hasWay_27 : decode cX0_hasWay 27 = .ok (.aload_n 0, 1) := by decide +kernel
theorem dX0_hasWay_28 : decode cX0_hasWay 28 = .ok (.iload_n 2, 1) := by decide +kernel
theorem dX0_hasWay_29 : decode cX0_hasWay 29 = .ok (.iload 4, 2) := by decide +kernel
theorem dX0_hasWay_31 : decode cX0_hasWay 31 = .ok (.iconst 1, 1) := by decide +kernel
theorem dX0_hasWay_32 : decode cX0_hasWay 32 = .ok (.iadd, 1) := by decide +kernel
theorem dX0_hasWay_33 : decode cX0_hasWay 33 = .ok (.invokevirtual 26, 3) := by decide +kernel
theorem dX0_hasWay_36 : decode cX0_hasWay 36 = .ok (.ifCond .eq 7, 3) := by decide +kernel
theorem dX0_hasWay_39 : decode cX0_hasWay 39 = .ok (.iconst 1, 1) := by decide +kernel
theorem dX0_hasWay_40 : decode cX0_hasWay 40 = .ok (.goto 4, 3) := by decide +kernel
theorem dX0_hasWay_43 : decode cX0_hasWay 43 = .ok (.iconst 0, 1) := by decide +kernel
theorem dX0_hasWay_44 : decode cX0_hasWay 44 = .ok (.ireturn, 1) := by decide +kernel
theorem dX0_hasWay_45 : decode cX0_hasWay 45 = .ok (.iload_n 1, 1) := by decide +kernel
theorem dX0_hasWay_46 : decode cX0_hasWay 46 = .ok (.aload_n 3, 1) := by decide +kernel
theorem dX0_hasWay_47 : decode cX0_hasWay 47 = .ok (.iload 4, 2) := by decide +kernel
theorem dX0_hasWay_49 : decode cX0_hasWay 49 = .ok (.invokevirtual 54, 3) := by decide +kernel
theorem dX0_hasWay_52 : decode cX0_hasWay 52 = .ok (.invokestatic 57, 3) := by decide +kernel
theorem dX0_hasWay_55 : decode cX0_hasWay 55 = .ok (.ifCond .ne 5, 3) := by decide +kernel
theorem dX0_hasWay_58 : decode cX0_hasWay 58 = .ok (.iconst 0, 1) := by decide +kernel
theorem dX0_hasWay_59 : decode cX0_hasWay 59 = .ok (.ireturn, 1) := by decide +kernel
theorem dX0_hasWay_60 : decode cX0_hasWay 60 = .ok (.aload_n 0, 1) := by decide +kernel
theorem dX0_hasWay_61 : decode cX0_hasWay 61 = .ok (.iload_n 2, 1) := by decide +kernel
theorem dX0_hasWay_62 : decode cX0_hasWay 62 = .ok (.iconst 1, 1) := by decide +kernel
theorem dX0_hasWay_63 : decode cX0_hasWay 63 = .ok (.iadd, 1) := by decide +kernel
theorem dX0_hasWay_64 : decode cX0_hasWay 64 = .ok (.iload 4, 2) := by decide +kernel
theorem dX0_hasWay_66 : decode cX0_hasWay 66 = .ok (.iconst 1, 1) := by decide +kernel
theorem dX0_hasWay_67 : decode cX0_hasWay 67 = .ok (.iadd, 1) := by decide +kernel
theorem dX0_hasWay_68 : decode cX0_hasWay 68 = .ok (.invokevirtual 26, 3) := by decide +kernel
theorem dX0_hasWay_71 : decode cX0_hasWay 71 = .ok (.ifCond .ne 21, 3) := by decide +kernel
theorem dX0_hasWay_74 : decode cX0_hasWay 74 = .ok (.iload_n 1, 1) := by decide +kernel
theorem dX0_hasWay_75 : decode cX0_hasWay 75 = .ok (.bipush 35, 2) := by decide +kernel
theorem dX0_hasWay_77 : decode cX0_hasWay 77 = .ok (.if_icmp .ne 19, 3) := by decide +kernel
theorem dX0_hasWay_80 : decode cX0_hasWay 80 = .ok (.aload_n 0, 1) := by decide +kernel
theorem dX0_hasWay_81 : decode cX0_hasWay 81 = .ok (.iload_n 2, 1) := by decide +kernel
theorem dX0_hasWay_82 : decode cX0_hasWay 82 = .ok (.iload 4, 2) := by decide +kernel
theorem dX0_hasWay_84 : decode cX0_hasWay 84 = .ok (.iconst 1, 1) := by decide +kernel
theorem dX0_hasWay_85 : decode cX0_hasWay 85 = .ok (.iadd, 1) := by decide +kernel
theorem dX0_hasWay_86 : decode cX0_hasWay 86 = .ok (.invokevirtual 26, 3) := by decide +kernel
theorem dX0_hasWay_89 : decode cX0_hasWay 89 = .ok (.ifCond .eq 7, 3) := by decide +kernel
theorem dX0_hasWay_92 : decode cX0_hasWay 92 = .ok (.iconst 1, 1) := by decide +kernel
theorem dX0_hasWay_93 : decode cX0_hasWay 93 = .ok (.goto 4, 3) := by decide +kernel
theorem dX0_hasWay_96 : decode cX0_hasWay 96 = .ok (.iconst 0, 1) := by decide +kernel
theorem dX0_hasWay_97 : decode cX0_hasWay 97 = .ok (.ireturn, 1) := by decide +kernel
set_option maxRecDepth 20000 in
theorem ggX0_takes_X6_isFigure : GoodIn wsX0_takes wsX6_isFigure := goodIn_r _ [4] (by decide +kernel) (by decide +kernel)
set_option maxRecDepth 20000 in
theorem gX0_takes_X6_isFigure : GoodIn wsX0_takes (va_wsS RX0 60 yX6_isFigure wsX6_isFigure) := goodIn_app (goodIn_of _ (by decide +kernel)) ggX0_takes_X6_isFigure
theorem dX0_takes_0 : decode cX0_takes 0 = .ok (.iload_n 0, 1) := by decide +kernel
theorem dX0_takes_1 : decode cX0_takes 1 = .ok (.lookupswitch 43 #[(35, 38), (63, 27)], 27) := by decide +kernel
theorem dX0_takes_28 : decode cX0_takes 28 = .ok (.iload_n 1, 1) := by decide +kernel
theorem dX0_takes_29 : decode cX0_takes 29 = .ok (.iconst (-1), 1) := by decide +kernel
theorem dX0_takes_30 : decode cX0_takes 30 = .ok (.if_icmp .eq 7, 3) := by decide +kernel
theorem dX0_takes_33 : decode cX0_takes 33 = .ok (.iconst 1, 1) := by decide +kernel
theorem dX0_takes_34 : decode cX0_takes 34 = .ok (.goto 4, 3) := by decide +kernel
theorem dX0_takes_37 : decode cX0_takes 37 = .ok (.iconst 0, 1) := by decide +kernel
theorem dX0_takes_38 : decode cX0_takes 38 = .ok (.ireturn, 1) := by decide +kernel
theorem dX0_takes_39 : decode cX0_takes 39 = .ok (.iload_n 1, 1) := by decide +kernel
theorem dX0_takes_40 : decode cX0_takes 40 = .ok (.invokestatic 60, 3) := by decide +kernel
theorem dX0_takes_43 : decode cX0_takes 43 = .ok (.ireturn, 1) := by decide +kernel
theorem dX0_takes_44 : decode cX0_takes 44 = .ok (.iload_n 0, 1) := by decide +kernel
theorem dX0_takes_45 : decode cX0_takes 45 = .ok (.iload_n 1, 1) := by decide +kernel
theorem dX0_takes_46 : decode cX0_takes 46 = .ok (.if_icmp .ne 7, 3) := by decide +kernel
theorem dX0_takes_49 : decode cX0_takes 49 = .ok (.iconst 1, 1) := by decide +kernel
theorem dX0_takes_50 : decode cX0_takes 50 = .ok (.goto 4, 3) := by decide +kernel
theorem dX0_takes_53 : decode cX0_takes 53 = .ok (.iconst 0, 1) := by decide +kernel
theorem dX0_takes_54 : decode cX0_takes 54 = .ok (.ireturn, 1) := by decide +kernel
set_option maxRecDepth 20000 in
theorem ggX0_firstChoice_X5_item : GoodIn wsX0_firstChoice wsX5_item := goodIn_r _ [5, 6, 7, 33, 34, 35, 36, 37, 38, 39, 40] (by decide +kernel) (by decide +kernel)
set_option maxRecDepth 20000 in
theorem gX0_firstChoice_X5_item : GoodIn wsX0_firstChoice (wsV RX0 46 RX5 yX5_item wsX5_item) := goodIn_app (goodIn_of _ (by decide +kernel)) ggX0_firstChoice_X5_item
set_option maxRecDepth 20000 in
theorem ggX0_firstChoice_X0_fewest : GoodIn wsX0_firstChoice wsX0_fewest := goodIn_r _ [12, 13, 14, 15, 11, 16, 17, 41, 42, 43, 44, 45, 46] (by decide +kernel) (by decide +kernel)
set_option maxRecDepth 20000 in
theorem gX0_firstChoice_X0_fewest : GoodIn wsX0_firstChoice (wsV RX0 66 RX0 yX0_fewest wsX0_fewest) := goodIn_app (goodIn_of _ (by decide +kernel)) ggX0_firstChoice_X0_fewest
set_option maxRecDepth 20000 in
theorem ggX0_firstChoice_X0_mostFigures : GoodIn wsX0_firstChoice wsX0_mostFigures := goodIn_r _ [21, 22, 23, 24, 25, 26, 27, 28, 29, 30, 31, 32, 13, 14, 15, 11, 16, 17, 41, 42, 43, 44, 45, 46] (by decide +kernel) (by decide +kernel)
set_option maxRecDepth 20000 in
theorem gX0_firstChoice_X0_mostFigures : GoodIn wsX0_firstChoice (wsV RX0 70 RX0 yX0_mostFigures wsX0_mostFigures) := goodIn_app (goodIn_of _ (by decide +kernel)) ggX0_firstChoice_X0_mostFigures
theorem dX0_firstChoice_0 : decode cX0_firstChoice 0 = .ok (.aload_n 1, 1) := by decide +kernel
theorem dX0_firstChoice_1 : decode cX0_firstChoice 1 = .ok (.iload_n 3, 1) := by decide +kernel
theorem dX0_firstChoice_2 : decode cX0_firstChoice 2 = .ok (.invokevirtual 46, 3) := by decide +kernel
theorem dX0_firstChoice_5 : decode cX0_firstChoice 5 = .ok (.lookupswitch 45 #[(35, 36), (42, 27)], 27) := by decide +kernel
theorem dX0_firstChoice_32 : decode cX0_firstChoice 32 = .ok (.aload_n 0, 1) := by decide +kernel
theorem dX0_firstChoice_33 : decode cX0_firstChoice 33 = .ok (.aload_n 2, 1) := by decide +kernel
theorem dX0_firstChoice_34 : decode cX0_firstChoice 34 = .ok (.iload_n 3, 1) := by decide +kernel
theorem dX0_firstChoice_35 : decode cX0_firstChoice 35 = .ok (.iload 4, 2) := by decide +kernel
theorem dX0_firstChoice_37 : decode cX0_firstChoice 37 = .ok (.invokevirtual 66, 3) := by decide +kernel
theorem dX0_firstChoice_40 : decode cX0_firstChoice 40 = .ok (.ireturn, 1) := by decide +kernel
theorem dX0_firstChoice_41 : decode cX0_firstChoice 41 = .ok (.aload_n 0, 1) := by decide +kernel
theorem dX0_firstChoice_42 : decode cX0_firstChoice 42 = .ok (.aload_n 2, 1) := by decide +kernel
theorem dX0_firstChoice_43 : decode cX0_firstChoice 43 = .ok (.iload_n 3, 1) := by decide +kernel
theorem dX0_firstChoice_44 : decode cX0_firstChoice 44 = .ok (.iload 4, 2) := by decide +kernel
theorem dX0_firstChoice_46 : decode cX0_firstChoice 46 = .ok (.invokevirtual 70, 3) := by decide +kernel
theorem dX0_firstChoice_49 : decode cX0_firstChoice 49 = .ok (.ireturn, 1) := by decide +kernel
theorem dX0_firstChoice_50 : decode cX0_firstChoice 50 = .ok (.iconst 1, 1) := by decide +kernel
theorem dX0_firstChoice_51 : decode cX0_firstChoice 51 = .ok (.ireturn, 1) := by decide +kernel
set_option maxRecDepth 20000 in
theorem ggX0_fewest_X0_isWay : GoodIn wsX0_fewest wsX0_isWay := goodIn_r _ [5, 6, 10, 11, 12] (by decide +kernel) (by decide +kernel)
set_option maxRecDepth 20000 in
theorem gX0_fewest_X0_isWay : GoodIn wsX0_fewest (wsV RX0 26 RX0 yX0_isWay wsX0_isWay) := goodIn_app (goodIn_of _ (by decide +kernel)) ggX0_fewest_X0_isWay
theorem dX0_fewest_0 : decode cX0_fewest 0 = .ok (.iconst 0, 1) := by decide +kernel
theorem dX0_fewest_1 : decode cX0_fewest 1 = .ok (.istore 4, 2) := by decide +kernel
theorem dX0_fewest_3 : decode cX0_fewest 3 = .ok (.iload_n 3, 1) := by decide +kernel
theorem dX0_fewest_4 : decode cX0_fewest 4 = .ok (.iload 4, 2) := by decide +kernel
theorem dX0_fewest_6 : decode cX0_fewest 6 = .ok (.iadd, 1) := by decide +kernel
theorem dX0_fewest_7 : decode cX0_fewest 7 = .ok (.aload_n 1, 1) := by decide +kernel
theorem dX0_fewest_8 : decode cX0_fewest 8 = .ok (.getfield 40, 3) := by decide +kernel
theorem dX0_fewest_11 : decode cX0_fewest 11 = .ok (.if_icmp .gt 26, 3) := by decide +kernel
theorem dX0_fewest_14 : decode cX0_fewest 14 = .ok (.aload_n 0, 1) := by decide +kernel
theorem dX0_fewest_15 : decode cX0_fewest 15 = .ok (.iload_n 2, 1) := by decide +kernel
theorem dX0_fewest_16 : decode cX0_fewest 16 = .ok (.iconst 1, 1) := by decide +kernel
theorem dX0_fewest_17 : decode cX0_fewest 17 = .ok (.iadd, 1) := by decide +kernel
theorem dX0_fewest_18 : decode cX0_fewest 18 = .ok (.iload_n 3, 1) := by decide +kernel
theorem dX0_fewest_19 : decode cX0_fewest 19 = .ok (.iload 4, 2) := by decide +kernel
theorem dX0_fewest_21 : decode cX0_fewest 21 = .ok (.iadd, 1) := by decide +kernel
theorem dX0_fewest_22 : decode cX0_fewest 22 = .ok (.invokevirtual 26, 3) := by decide +kernel
theorem dX0_fewest_25 : decode cX0_fewest 25 = .ok (.ifCond .eq 6, 3) := by decide +kernel
theorem dX0_fewest_28 : decode cX0_fewest 28 = .ok (.iload 4, 2) := by decide +kernel
theorem dX0_fewest_30 : decode cX0_fewest 30 = .ok (.ireturn, 1) := by decide +kernel
theorem dX0_fewest_31 : decode cX0_fewest 31 = .ok (.iinc 4 1, 3) := by decide +kernel
theorem dX0_fewest_34 : decode cX0_fewest 34 = .ok (.goto (-31), 3) := by decide +kernel
theorem dX0_fewest_37 : decode cX0_fewest 37 = .ok (.iconst 0, 1) := by decide +kernel
theorem dX0_fewest_38 : decode cX0_fewest 38 = .ok (.ireturn, 1) := by decide +kernel
set_option maxRecDepth 20000 in
theorem ggX0_mostFigures_X2_byteAt : GoodIn wsX0_mostFigures wsX2_byteAt := goodIn_r _ [5, 6, 7, 18, 19, 20] (by decide +kernel) (by decide +kernel)
set_option maxRecDepth 20000 in
theorem gX0_mostFigures_X2_byteAt : GoodIn wsX0_mostFigures (wsV RX0 54 RX2 yX2_byteAt wsX2_byteAt) := goodIn_app (goodIn_of _ (by decide +kernel)) ggX0_mostFigures_X2_byteAt
set_option maxRecDepth 20000 in
theorem ggX0_mostFigures_X6_isFigure : GoodIn wsX0_mostFigures wsX6_isFigure := goodIn_r _ [11] (by decide +kernel) (by decide +kernel)
set_option maxRecDepth 20000 in
theorem gX0_mostFigures_X6_isFigure : GoodIn wsX0_mostFigures (va_wsS RX0 60 yX6_isFigure wsX6_isFigure) := goodIn_app (goodIn_of _ (by decide +kernel)) ggX0_mostFigures_X6_isFigure
set_option maxRecDepth 20000 in
theorem ggX0_mostFigures_X0_isWay : GoodIn wsX0_mostFigures wsX0_isWay := goodIn_r _ [16, 17, 21, 22, 23] (by decide +kernel) (by decide +kernel)
set_option maxRecDepth 20000 in
theorem gX0_mostFigures_X0_isWay : GoodIn wsX0_mostFigures (wsV RX0 26 RX0 yX0_isWay wsX0_isWay) := goodIn_app (goodIn_of _ (by decide +kernel)) ggX0_mostFigures_X0_isWay
theorem dX0_mostFigures_0 : decode cX0_mostFigures 0 = .ok (.iconst 0, 1) := by decide +kernel
theorem dX0_mostFigures_1 : decode cX0_mostFigures 1 = .ok (.istore 4, 2) := by decide +kernel
theorem dX0_mostFigures_3 : decode cX0_mostFigures 3 = .ok (.iconst 1, 1) := by decide +kernel
theorem dX0_mostFigures_4 : decode cX0_mostFigures 4 = .ok (.istore 5, 2) := by decide +kernel
theorem dX0_mostFigures_6 : decode cX0_mostFigures 6 = .ok (.aload_n 1, 1) := by decide +kernel
theorem dX0_mostFigures_7 : decode cX0_mostFigures 7 = .ok (.iload_n 3, 1) := by decide +kernel
theorem dX0_mostFigures_8 : decode cX0_mostFigures 8 = .ok (.iload 5, 2) := by decide +kernel
theorem dX0_mostFigures_10 : decode cX0_mostFigures 10 = .ok (.iadd, 1) := by decide +kernel
theorem dX0_mostFigures_11 : decode cX0_mostFigures 11 = .ok (.iconst 1, 1) := by decide +kernel
theorem dX0_mostFigures_12 : decode cX0_mostFigures 12 = .ok (.isub, 1) := by decide +kernel
theorem dX0_mostFigures_13 : decode cX0_mostFigures 13 = .ok (.invokevirtual 54, 3) := by decide +kernel
theorem dX0_mostFigures_16 : decode cX0_mostFigures 16 = .ok (.invokestatic 60, 3) := by decide +kernel
theorem dX0_mostFigures_19 : decode cX0_mostFigures 19 = .ok (.ifCond .eq 36, 3) := by decide +kernel
theorem dX0_mostFigures_22 : decode cX0_mostFigures 22 = .ok (.iload 5, 2) := by decide +kernel
theorem dX0_mostFigures_24 : decode cX0_mostFigures 24 = .ok (.aload_n 1, 1) := by decide +kernel
theorem dX0_mostFigures_25 : decode cX0_mostFigures 25 = .ok (.getfield 40, 3) := by decide +kernel
theorem dX0_mostFigures_28 : decode cX0_mostFigures 28 = .ok (.if_icmp .gt 27, 3) := by decide +kernel
theorem dX0_mostFigures_31 : decode cX0_mostFigures 31 = .ok (.aload_n 0, 1) := by decide +kernel
theorem dX0_mostFigures_32 : decode cX0_mostFigures 32 = .ok (.iload_n 2, 1) := by decide +kernel
theorem dX0_mostFigures_33 : decode cX0_mostFigures 33 = .ok (.iconst 1, 1) := by decide +kernel
theorem dX0_mostFigures_34 : decode cX0_mostFigures 34 = .ok (.iadd, 1) := by decide +kernel
theorem dX0_mostFigures_35 : decode cX0_mostFigures 35 = .ok (.iload_n 3, 1) := by decide +kernel
theorem dX0_mostFigures_36 : decode cX0_mostFigures 36 = .ok (.iload 5, 2) := by decide +kernel
theorem dX0_mostFigures_38 : decode cX0_mostFigures 38 = .ok (.iadd, 1) := by decide +kernel
theorem dX0_mostFigures_39 : decode cX0_mostFigures 39 = .ok (.invokevirtual 26, 3) := by decide +kernel
theorem dX0_mostFigures_42 : decode cX0_mostFigures 42 = .ok (.ifCond .eq 7, 3) := by decide +kernel
theorem dX0_mostFigures_45 : decode cX0_mostFigures 45 = .ok (.iload 5, 2) := by decide +kernel
theorem dX0_mostFigures_47 : decode cX0_mostFigures 47 = .ok (.istore 4, 2) := by decide +kernel
theorem dX0_mostFigures_49 : decode cX0_mostFigures 49 = .ok (.iinc 5 1, 3) := by decide +kernel
theorem dX0_mostFigures_52 : decode cX0_mostFigures 52 = .ok (.goto (-46), 3) := by decide +kernel
theorem dX0_mostFigures_55 : decode cX0_mostFigures 55 = .ok (.iload 4, 2) := by decide +kernel
theorem dX0_mostFigures_57 : decode cX0_mostFigures 57 = .ok (.ireturn, 1) := by decide +kernel
set_option maxRecDepth 20000 in
theorem ggX1_init_X2_init : GoodIn wsX1_init wsX2_init := goodIn_r _ [10, 11, 2, 3, 12, 13, 14, 15, 18, 19, 20] (by decide +kernel) (by decide +kernel)
set_option maxRecDepth 20000 in
theorem gX1_init_X2_init_n21 : GoodIn wsX1_init (wsX2_init) := ggX1_init_X2_init
theorem dX1_init_0 : decode cX1_init 0 = .ok (.aload_n 0, 1) := by decide +kernel
theorem dX1_init_1 : decode cX1_init 1 = .ok (.invokespecial 3, 3) := by decide +kernel
theorem dX1_init_4 : decode cX1_init 4 = .ok (.aload_n 0, 1) := by decide +kernel
theorem dX1_init_5 : decode cX1_init 5 = .ok (.bipush 30, 2) := by decide +kernel
theorem dX1_init_7 : decode cX1_init 7 = .ok (.anewarray 9, 3) := by decide +kernel
theorem dX1_init_10 : decode cX1_init 10 = .ok (.putfield 11, 3) := by decide +kernel
theorem dX1_init_13 : decode cX1_init 13 = .ok (.aload_n 0, 1) := by decide +kernel
theorem dX1_init_14 : decode cX1_init 14 = .ok (.iconst 0, 1) := by decide +kernel
theorem dX1_init_15 : decode cX1_init 15 = .ok (.putfield 17, 3) := by decide +kernel
theorem dX1_init_18 : decode cX1_init 18 = .ok (.iconst 0, 1) := by decide +kernel
theorem dX1_init_19 : decode cX1_init 19 = .ok (.istore_n 1, 1) := by decide +kernel
theorem dX1_init_20 : decode cX1_init 20 = .ok (.iload_n 1, 1) := by decide +kernel
theorem dX1_init_21 : decode cX1_init 21 = .ok (.bipush 30, 2) := by decide +kernel
theorem dX1_init_23 : decode cX1_init 23 = .ok (.if_icmp .ge 22, 3) := by decide +kernel
theorem dX1_init_26 : decode cX1_init 26 = .ok (.aload_n 0, 1) := by decide +kernel
theorem dX1_init_27 : decode cX1_init 27 = .ok (.getfield 11, 3) := by decide +kernel
theorem dX1_init_30 : decode cX1_init 30 = .ok (.iload_n 1, 1) := by decide +kernel
theorem dX1_init_31 : decode cX1_init 31 = .ok (.new 9, 3) := by decide +kernel
theorem dX1_init_34 : decode cX1_init 34 = .ok (.dup, 1) := by decide +kernel
theorem dX1_init_35 : decode cX1_init 35 = .ok (.invokespecial 21, 3) := by decide +kernel
theorem dX1_init_38 : decode cX1_init 38 = .ok (.aastore, 1) := by decide +kernel
theorem dX1_init_39 : decode cX1_init 39 = .ok (.iinc 1 1, 3) := by decide +kernel
theorem dX1_init_42 : decode cX1_init 42 = .ok (.goto (-22), 3) := by decide +kernel
theorem dX1_init_45 : decode cX1_init 45 = .ok (.return_, 1) := by decide +kernel
theorem dX1_size_0 : decode cX1_size 0 = .ok (.aload_n 0, 1) := by decide +kernel
theorem dX1_size_1 : decode cX1_size 1 = .ok (.getfield 17, 3) := by decide +kernel
theorem dX1_size_4 : decode cX1_size 4 = .ok (.ireturn, 1) := by decide +kernel
theorem dX1_isFull_0 : decode cX1_isFull 0 = .ok (.aload_n 0, 1) := by decide +kernel
theorem dX1_isFull_1 : decode cX1_isFull 1 = .ok (.getfield 17, 3) := by decide +kernel
theorem dX1_isFull_4 : decode cX1_isFull 4 = .ok (.bipush 30, 2) := by decide +kernel
theorem dX1_isFull_6 : decode cX1_isFull 6 = .ok (.if_icmp .lt 7, 3) := by decide +kernel
theorem dX1_isFull_9 : decode cX1_isFull 9 = .ok (.iconst 1, 1) := by decide +kernel
theorem dX1_isFull_10 : decode cX1_isFull 10 = .ok (.goto 4, 3) := by decide +kernel
theorem dX1_isFull_13 : decode cX1_isFull 13 = .ok (.iconst 0, 1) := by decide +kernel
theorem dX1_isFull_14 : decode cX1_isFull 14 = .ok (.ireturn, 1) := by decide +kernel
theorem dX1_has_0 : decode cX1_has 0 = .ok (.iload_n 1, 1) := by decide +kernel
theorem dX1_has_1 : decode cX1_has 1 = .ok (.ifCond .lt 15, 3) := by decide +kernel
theorem dX1_has_4 : decode cX1_has 4 = .ok (.iload_n 1, 1) := by decide +kernel
theorem dX1_has_5 : decode cX1_has 5 = .ok (.aload_n 0, 1) := by decide +kernel
