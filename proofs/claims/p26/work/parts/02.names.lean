def RX0 : String := "SoftStairs$History"
def TX0 : u_T := fun k => match k with
  | 0 => ("SoftStairs$History", "states", "[LSoftStairs$Stairs;", true)
  | 1 => ("SoftStairs$History", "latest", "I", false)
  | _ => ("SoftStairs$History", "length", "I", false)
def tyX0 : Nat → FieldType := fun k => match k with
  | 0 => .array (.object "SoftStairs$Stairs")
  | 1 => .int
  | _ => .int
theorem nmX0 : ∀ a, a < 3 → ∀ b, b < 3 → a ≠ b → (TX0 a).2.1 ≠ (TX0 b).2.1 := by decide +kernel
theorem tyX0_ok : ∀ k, k < 3 → parseFieldDescriptor (TX0 k).2.2.1 = some (tyX0 k) := by decide +kernel
abbrev cX0_init : ByteArray := prog_2_method_1_code
def yX0_init : MethodName := ⟨RX0, "<init>", "(LSoftStairs$Rule;)V"⟩
abbrev cX0_record : ByteArray := prog_2_method_2_code
def yX0_record : MethodName := ⟨RX0, "record", "(LSoftStairs$Stairs;)V"⟩
abbrev cX0_takeBack : ByteArray := prog_2_method_3_code
def yX0_takeBack : MethodName := ⟨RX0, "takeBack", "(LSoftStairs$Stairs;)V"⟩
def RX1 : String := "SoftStairs$Pad"
def TX1 : u_T := fun k => match k with
  | 0 => ("SoftStairs$Pad", "text", "[C", true)
  | _ => ("SoftStairs$Pad", "length", "I", false)
def tyX1 : Nat → FieldType := fun k => match k with
  | 0 => .array .char
  | _ => .int
theorem nmX1 : ∀ a, a < 2 → ∀ b, b < 2 → a ≠ b → (TX1 a).2.1 ≠ (TX1 b).2.1 := by decide +kernel
theorem tyX1_ok : ∀ k, k < 2 → parseFieldDescriptor (TX1 k).2.2.1 = some (tyX1 k) := by decide +kernel
abbrev cX1_init : ByteArray := prog_3_method_1_code
def yX1_init : MethodName := ⟨RX1, "<init>", "()V"⟩
abbrev cX1_charactersIn : ByteArray := prog_3_method_2_code
def yX1_charactersIn : MethodName := ⟨RX1, "charactersIn", "(J)I"⟩
abbrev cX1_append : ByteArray := prog_3_method_3_code
def yX1_append : MethodName := ⟨RX1, "append", "(JI)V"⟩
abbrev cX1_findFault : ByteArray := prog_3_method_4_code
def yX1_findFault : MethodName := ⟨RX1, "findFault", "()I"⟩
abbrev cX1_beginsPart : ByteArray := prog_3_method_5_code
def yX1_beginsPart : MethodName := ⟨RX1, "beginsPart", "(C)Z"⟩
abbrev cX1_followsPart : ByteArray := prog_3_method_6_code
def yX1_followsPart : MethodName := ⟨RX1, "followsPart", "(CI)Z"⟩
abbrev cX1_isLetter : ByteArray := prog_3_method_7_code
def yX1_isLetter : MethodName := ⟨RX1, "isLetter", "(C)Z"⟩
def RX2 : String := "SoftStairs$Reader"
def TX2 : u_T := fun k => match k with
  | 0 => ("SoftStairs$Reader", "waiting", "[C", true)
  | 1 => ("SoftStairs$Reader", "free", "[I", true)
  | 2 => ("SoftStairs$Reader", "waitingSigns", "I", false)
  | _ => ("SoftStairs$Reader", "freeParts", "I", false)
def tyX2 : Nat → FieldType := fun k => match k with
  | 0 => .array .char
  | 1 => .array .int
  | 2 => .int
  | _ => .int
theorem nmX2 : ∀ a, a < 4 → ∀ b, b < 4 → a ≠ b → (TX2 a).2.1 ≠ (TX2 b).2.1 := by decide +kernel
theorem tyX2_ok : ∀ k, k < 4 → parseFieldDescriptor (TX2 k).2.2.1 = some (tyX2 k) := by decide +kernel
abbrev cX2_init : ByteArray := prog_4_method_1_code
def yX2_init : MethodName := ⟨RX2, "<init>", "()V"⟩
abbrev cX2_read : ByteArray := prog_4_method_2_code
def yX2_read : MethodName := ⟨RX2, "read", "([CI)LSoftStairs$Rule;"⟩
abbrev cX2_take : ByteArray := prog_4_method_3_code
def yX2_take : MethodName := ⟨RX2, "take", "(CLSoftStairs$Rule;)V"⟩
abbrev cX2_strength : ByteArray := prog_4_method_4_code
def yX2_strength : MethodName := ⟨RX2, "strength", "(C)I"⟩
abbrev cX2_joinWaiting : ByteArray := prog_4_method_5_code
def yX2_joinWaiting : MethodName := ⟨RX2, "joinWaiting", "(ILSoftStairs$Rule;)V"⟩
abbrev cX2_joinFree : ByteArray := prog_4_method_6_code
def yX2_joinFree : MethodName := ⟨RX2, "joinFree", "(CLSoftStairs$Rule;)V"⟩
abbrev cX2_keepWaiting : ByteArray := prog_4_method_7_code
def yX2_keepWaiting : MethodName := ⟨RX2, "keepWaiting", "(C)V"⟩
abbrev cX2_keepFree : ByteArray := prog_4_method_8_code
def yX2_keepFree : MethodName := ⟨RX2, "keepFree", "(I)V"⟩
abbrev cX2_takeFree : ByteArray := prog_4_method_9_code
def yX2_takeFree : MethodName := ⟨RX2, "takeFree", "()I"⟩
def RX3 : String := "SoftStairs$Rule"
def TX3 : u_T := fun k => match k with
  | 0 => ("SoftStairs$Rule", "signs", "[C", true)
  | 1 => ("SoftStairs$Rule", "firsts", "[I", true)
  | 2 => ("SoftStairs$Rule", "seconds", "[I", true)
  | 3 => ("SoftStairs$Rule", "depths", "[I", true)
  | 4 => ("SoftStairs$Rule", "parts", "I", false)
  | _ => ("SoftStairs$Rule", "letters", "I", false)
def tyX3 : Nat → FieldType := fun k => match k with
  | 0 => .array .char
  | 1 => .array .int
  | 2 => .array .int
  | 3 => .array .int
  | 4 => .int
  | _ => .int
theorem nmX3 : ∀ a, a < 6 → ∀ b, b < 6 → a ≠ b → (TX3 a).2.1 ≠ (TX3 b).2.1 := by decide +kernel
theorem tyX3_ok : ∀ k, k < 6 → parseFieldDescriptor (TX3 k).2.2.1 = some (tyX3 k) := by decide +kernel
abbrev cX3_init : ByteArray := prog_5_method_1_code
def yX3_init : MethodName := ⟨RX3, "<init>", "()V"⟩
abbrev cX3_addLetter : ByteArray := prog_5_method_2_code
def yX3_addLetter : MethodName := ⟨RX3, "addLetter", "(C)I"⟩
abbrev cX3_addJoint : ByteArray := prog_5_method_3_code
def yX3_addJoint : MethodName := ⟨RX3, "addJoint", "(CII)I"⟩
abbrev cX3_add : ByteArray := prog_5_method_4_code
def yX3_add : MethodName := ⟨RX3, "add", "(CIII)I"⟩
abbrev cX3_depthOf : ByteArray := prog_5_method_5_code
def yX3_depthOf : MethodName := ⟨RX3, "depthOf", "(I)I"⟩
abbrev cX3_depth : ByteArray := prog_5_method_6_code
def yX3_depth : MethodName := ⟨RX3, "depth", "()I"⟩
abbrev cX3_holds : ByteArray := prog_5_method_7_code
def yX3_holds : MethodName := ⟨RX3, "holds", "(I)Z"⟩
abbrev cX3_lookedAt : ByteArray := prog_5_method_8_code
def yX3_lookedAt : MethodName := ⟨RX3, "lookedAt", "(I)I"⟩
abbrev cX3_lookedAtFrom : ByteArray := prog_5_method_9_code
def yX3_lookedAtFrom : MethodName := ⟨RX3, "lookedAtFrom", "(IJ)J"⟩
abbrev cX3_holding : ByteArray := prog_5_method_10_code
def yX3_holding : MethodName := ⟨RX3, "holding", "(I)J"⟩
abbrev cX3_partHolds : ByteArray := prog_5_method_11_code
def yX3_partHolds : MethodName := ⟨RX3, "partHolds", "(IIJ)Z"⟩
abbrev cX3_letterHolds : ByteArray := prog_5_method_12_code
def yX3_letterHolds : MethodName := ⟨RX3, "letterHolds", "(II)Z"⟩
abbrev cX3_letterNumber : ByteArray := prog_5_method_13_code
def yX3_letterNumber : MethodName := ⟨RX3, "letterNumber", "(C)I"⟩
abbrev cX3_isIn : ByteArray := prog_5_method_14_code
def yX3_isIn : MethodName := ⟨RX3, "isIn", "(JI)Z"⟩
def RX4 : String := "SoftStairs$Stairs"
def TX4 : u_T := fun k => match k with
  | 0 => ("SoftStairs$Stairs", "settings", "[I", true)
  | 1 => ("SoftStairs$Stairs", "places", "[I", true)
  | 2 => ("SoftStairs$Stairs", "weights", "[I", true)
  | 3 => ("SoftStairs$Stairs", "cameAt", "[I", true)
  | 4 => ("SoftStairs$Stairs", "disagreed", "[I", true)
  | 5 => ("SoftStairs$Stairs", "kept", "[I", true)
  | 6 => ("SoftStairs$Stairs", "rule", "LSoftStairs$Rule;", false)
  | 7 => ("SoftStairs$Stairs", "people", "I", false)
  | 8 => ("SoftStairs$Stairs", "sensors", "I", false)
  | 9 => ("SoftStairs$Stairs", "mode", "I", false)
  | 10 => ("SoftStairs$Stairs", "tick", "I", false)
  | 11 => ("SoftStairs$Stairs", "speed", "I", false)
  | 12 => ("SoftStairs$Stairs", "offPeople", "I", false)
  | 13 => ("SoftStairs$Stairs", "offWeight", "I", false)
  | 14 => ("SoftStairs$Stairs", "stops", "I", false)
  | 15 => ("SoftStairs$Stairs", "emptyTicks", "I", false)
  | 16 => ("SoftStairs$Stairs", "units", "I", false)
  | _ => ("SoftStairs$Stairs", "greatestChange", "I", false)
def tyX4 : Nat → FieldType := fun k => match k with
  | 0 => .array .int
  | 1 => .array .int
  | 2 => .array .int
  | 3 => .array .int
  | 4 => .array .int
  | 5 => .array .int
  | 6 => .object "SoftStairs$Rule"
  | 7 => .int
  | 8 => .int
  | 9 => .int
  | 10 => .int
  | 11 => .int
  | 12 => .int
  | 13 => .int
  | 14 => .int
  | 15 => .int
  | 16 => .int
  | _ => .int
theorem nmX4 : ∀ a, a < 18 → ∀ b, b < 18 → a ≠ b → (TX4 a).2.1 ≠ (TX4 b).2.1 := by decide +kernel
theorem tyX4_ok : ∀ k, k < 18 → parseFieldDescriptor (TX4 k).2.2.1 = some (tyX4 k) := by decide +kernel
abbrev cX4_init : ByteArray := prog_6_method_1_code
def yX4_init : MethodName := ⟨RX4, "<init>", "(LSoftStairs$Rule;)V"⟩
abbrev cX4_copy : ByteArray := prog_6_method_2_code
def yX4_copy : MethodName := ⟨RX4, "copy", "(LSoftStairs$Stairs;)V"⟩
abbrev cX4_number : ByteArray := prog_6_method_3_code
def yX4_number : MethodName := ⟨RX4, "number", "(I)I"⟩
abbrev cX4_settingCounted : ByteArray := prog_6_method_4_code
def yX4_settingCounted : MethodName := ⟨RX4, "settingCounted", "(I)I"⟩
abbrev cX4_totalWeight : ByteArray := prog_6_method_5_code
def yX4_totalWeight : MethodName := ⟨RX4, "totalWeight", "()I"⟩
abbrev cX4_stepOn : ByteArray := prog_6_method_6_code
def yX4_stepOn : MethodName := ⟨RX4, "stepOn", "(I)V"⟩
abbrev cX4_complains : ByteArray := prog_6_method_7_code
def yX4_complains : MethodName := ⟨RX4, "complains", "(II)I"⟩
abbrev cX4_setComplaint : ByteArray := prog_6_method_8_code
def yX4_setComplaint : MethodName := ⟨RX4, "setComplaint", "(III)V"⟩
abbrev cX4_ruleHolds : ByteArray := prog_6_method_9_code
def yX4_ruleHolds : MethodName := ⟨RX4, "ruleHolds", "()Z"⟩
abbrev cX4_beginStop : ByteArray := prog_6_method_10_code
def yX4_beginStop : MethodName := ⟨RX4, "beginStop", "(I)V"⟩
abbrev cX4_passTick : ByteArray := prog_6_method_11_code
def yX4_passTick : MethodName := ⟨RX4, "passTick", "(Z)V"⟩
abbrev cX4_countDisagreements : ByteArray := prog_6_method_12_code
def yX4_countDisagreements : MethodName := ⟨RX4, "countDisagreements", "()V"⟩
abbrev cX4_wantedSpeed : ByteArray := prog_6_method_13_code
def yX4_wantedSpeed : MethodName := ⟨RX4, "wantedSpeed", "(I)I"⟩
abbrev cX4_isInDoubt : ByteArray := prog_6_method_14_code
def yX4_isInDoubt : MethodName := ⟨RX4, "isInDoubt", "()Z"⟩
abbrev cX4_changeSpeed : ByteArray := prog_6_method_15_code
def yX4_changeSpeed : MethodName := ⟨RX4, "changeSpeed", "(II)V"⟩
abbrev cX4_carryPeople : ByteArray := prog_6_method_16_code
def yX4_carryPeople : MethodName := ⟨RX4, "carryPeople", "()V"⟩
abbrev cX4_unitsUntilStopped : ByteArray := prog_6_method_17_code
def yX4_unitsUntilStopped : MethodName := ⟨RX4, "unitsUntilStopped", "()I"⟩
abbrev cX4_ticksUntilEmpty : ByteArray := prog_6_method_18_code
def yX4_ticksUntilEmpty : MethodName := ⟨RX4, "ticksUntilEmpty", "()I"⟩
def RX5 : String := "SoftStairs"
def TX5 : u_T := fun k => match k with
  | 0 => ("SoftStairs", "pad", "LSoftStairs$Pad;", true)
  | 1 => ("SoftStairs", "reader", "LSoftStairs$Reader;", true)
  | 2 => ("SoftStairs", "now", "LSoftStairs$Stairs;", true)
  | 3 => ("SoftStairs", "trial", "LSoftStairs$Stairs;", true)
  | 4 => ("SoftStairs", "history", "LSoftStairs$History;", true)
  | 5 => ("SoftStairs", "slots", "[LSoftStairs$Stairs;", true)
  | _ => ("SoftStairs", "saved", "[Z", true)
def tyX5 : Nat → FieldType := fun k => match k with
  | 0 => .object "SoftStairs$Pad"
  | 1 => .object "SoftStairs$Reader"
  | 2 => .object "SoftStairs$Stairs"
  | 3 => .object "SoftStairs$Stairs"
  | 4 => .object "SoftStairs$History"
  | 5 => .array (.object "SoftStairs$Stairs")
  | _ => .array .boolean
theorem nmX5 : ∀ a, a < 7 → ∀ b, b < 7 → a ≠ b → (TX5 a).2.1 ≠ (TX5 b).2.1 := by decide +kernel
theorem tyX5_ok : ∀ k, k < 7 → parseFieldDescriptor (TX5 k).2.2.1 = some (tyX5 k) := by decide +kernel
abbrev cX5_init : ByteArray := prog_1_method_1_code
def yX5_init : MethodName := ⟨RX5, "<init>", "()V"⟩
abbrev cX5_set : ByteArray := prog_1_method_2_code
def yX5_set : MethodName := ⟨RX5, "set", "(II)I"⟩
abbrev cX5_come : ByteArray := prog_1_method_3_code
def yX5_come : MethodName := ⟨RX5, "come", "(I)I"⟩
abbrev cX5_sense : ByteArray := prog_1_method_4_code
def yX5_sense : MethodName := ⟨RX5, "sense", "(III)I"⟩
abbrev cX5_stop : ByteArray := prog_1_method_5_code
def yX5_stop : MethodName := ⟨RX5, "stop", "()I"⟩
abbrev cX5_restart : ByteArray := prog_1_method_6_code
def yX5_restart : MethodName := ⟨RX5, "restart", "()I"⟩
abbrev cX5_pass : ByteArray := prog_1_method_7_code
def yX5_pass : MethodName := ⟨RX5, "pass", "(I)I"⟩
abbrev cX5_of : ByteArray := prog_1_method_8_code
def yX5_of : MethodName := ⟨RX5, "of", "(II)I"⟩
abbrev cX5_ofSpot : ByteArray := prog_1_method_9_code
def yX5_ofSpot : MethodName := ⟨RX5, "ofSpot", "(II)I"⟩
abbrev cX5_ofStop : ByteArray := prog_1_method_10_code
def yX5_ofStop : MethodName := ⟨RX5, "ofStop", "(II)I"⟩
abbrev cX5_rule : ByteArray := prog_1_method_11_code
def yX5_rule : MethodName := ⟨RX5, "rule", "(I)I"⟩
abbrev cX5_count : ByteArray := prog_1_method_12_code
def yX5_count : MethodName := ⟨RX5, "count", "(I)I"⟩
abbrev cX5_way : ByteArray := prog_1_method_13_code
def yX5_way : MethodName := ⟨RX5, "way", "()I"⟩
abbrev cX5_emptyIn : ByteArray := prog_1_method_14_code
def yX5_emptyIn : MethodName := ⟨RX5, "emptyIn", "()I"⟩
abbrev cX5_leastRamp : ByteArray := prog_1_method_15_code
def yX5_leastRamp : MethodName := ⟨RX5, "leastRamp", "(I)I"⟩
abbrev cX5_wouldHold : ByteArray := prog_1_method_16_code
def yX5_wouldHold : MethodName := ⟨RX5, "wouldHold", "(I)I"⟩
abbrev cX5_fewest : ByteArray := prog_1_method_17_code
def yX5_fewest : MethodName := ⟨RX5, "fewest", "()I"⟩
abbrev cX5_wayWith : ByteArray := prog_1_method_18_code
def yX5_wayWith : MethodName := ⟨RX5, "wayWith", "(I)I"⟩
abbrev cX5_put : ByteArray := prog_1_method_19_code
def yX5_put : MethodName := ⟨RX5, "put", "(J)I"⟩
abbrev cX5_fault : ByteArray := prog_1_method_21_code
def yX5_fault : MethodName := ⟨RX5, "fault", "()I"⟩
abbrev cX5_load : ByteArray := prog_1_method_22_code
def yX5_load : MethodName := ⟨RX5, "load", "()I"⟩
abbrev cX5_undo : ByteArray := prog_1_method_23_code
def yX5_undo : MethodName := ⟨RX5, "undo", "()I"⟩
def RX6 : String := "SoftStairsModel"
def TX6 : u_T := fun k => match k with
  | _ => ("", "", "", false)
def tyX6 : Nat → FieldType := fun k => match k with
  | _ => .int
theorem nmX6 : ∀ a, a < 0 → ∀ b, b < 0 → a ≠ b → (TX6 a).2.1 ≠ (TX6 b).2.1 := by decide +kernel
theorem tyX6_ok : ∀ k, k < 0 → parseFieldDescriptor (TX6 k).2.2.1 = some (tyX6 k) := by decide +kernel
def RJ6 : String := "java/lang/Integer"
def TJ6 : u_T := fun k => match k with
  | _ => ("", "", "", false)
def tyJ6 : Nat → FieldType := fun k => match k with
  | _ => .int
theorem nmJ6 : ∀ a, a < 0 → ∀ b, b < 0 → a ≠ b → (TJ6 a).2.1 ≠ (TJ6 b).2.1 := by decide +kernel
theorem tyJ6_ok : ∀ k, k < 0 → parseFieldDescriptor (TJ6 k).2.2.1 = some (tyJ6 k) := by decide +kernel
abbrev cJ6_bitCount_0f7a4 : ByteArray := prog_9_method_49_code
def yJ6_bitCount_0f7a4 : MethodName := ⟨RJ6, "bitCount", "(I)I"⟩
def RJ13 : String := "java/lang/Long"
def TJ13 : u_T := fun k => match k with
  | _ => ("", "", "", false)
def tyJ13 : Nat → FieldType := fun k => match k with
  | _ => .int
theorem nmJ13 : ∀ a, a < 0 → ∀ b, b < 0 → a ≠ b → (TJ13 a).2.1 ≠ (TJ13 b).2.1 := by decide +kernel
theorem tyJ13_ok : ∀ k, k < 0 → parseFieldDescriptor (TJ13 k).2.2.1 = some (tyJ13 k) := by decide +kernel
abbrev cJ13_bitCount_95d88 : ByteArray := prog_10_method_50_code
def yJ13_bitCount_95d88 : MethodName := ⟨RJ13, "bitCount", "(J)I"⟩
def RJ9 : String := "java/lang/Math"
def TJ9 : u_T := fun k => match k with
  | _ => ("", "", "", false)
def tyJ9 : Nat → FieldType := fun k => match k with
  | _ => .int
theorem nmJ9 : ∀ a, a < 0 → ∀ b, b < 0 → a ≠ b → (TJ9 a).2.1 ≠ (TJ9 b).2.1 := by decide +kernel
theorem tyJ9_ok : ∀ k, k < 0 → parseFieldDescriptor (TJ9 k).2.2.1 = some (tyJ9 k) := by decide +kernel
abbrev cJ9_abs_0f7a4 : ByteArray := prog_11_method_59_code
def yJ9_abs_0f7a4 : MethodName := ⟨RJ9, "abs", "(I)I"⟩
abbrev cJ9_max_7cf53 : ByteArray := prog_11_method_65_code
def yJ9_max_7cf53 : MethodName := ⟨RJ9, "max", "(II)I"⟩
abbrev cJ9_min_7cf53 : ByteArray := prog_11_method_69_code
def yJ9_min_7cf53 : MethodName := ⟨RJ9, "min", "(II)I"⟩
def RJ0 : String := "java/lang/String"
def TJ0 : u_T := fun k => match k with
  | _ => ("", "", "", false)
def tyJ0 : Nat → FieldType := fun k => match k with
  | _ => .int
theorem nmJ0 : ∀ a, a < 0 → ∀ b, b < 0 → a ≠ b → (TJ0 a).2.1 ≠ (TJ0 b).2.1 := by decide +kernel
theorem tyJ0_ok : ∀ k, k < 0 → parseFieldDescriptor (TJ0 k).2.2.1 = some (tyJ0 k) := by decide +kernel
abbrev cJ0_length_8abf5 : ByteArray := prog_12_method_54_code
def yJ0_length_8abf5 : MethodName := ⟨RJ0, "length", "()I"⟩
abbrev cJ0_toCharArray_70df3 : ByteArray := prog_12_method_129_code
def yJ0_toCharArray_70df3 : MethodName := ⟨RJ0, "toCharArray", "()[C"⟩
abbrev cJ0_coder_7d493 : ByteArray := prog_12_method_152_code
def yJ0_coder_7d493 : MethodName := ⟨RJ0, "coder", "()B"⟩
abbrev cJ0_isLatin1_aae02 : ByteArray := prog_12_method_154_code
def yJ0_isLatin1_aae02 : MethodName := ⟨RJ0, "isLatin1", "()Z"⟩
abbrev cJ0_checkBoundsOffCount_cabcc : ByteArray := prog_12_method_157_code
def yJ0_checkBoundsOffCount_cabcc : MethodName := ⟨RJ0, "checkBoundsOffCount", "(III)I"⟩
def RJ1 : String := "java/lang/StringLatin1"
def TJ1 : u_T := fun k => match k with
  | _ => ("", "", "", false)
def tyJ1 : Nat → FieldType := fun k => match k with
  | _ => .int
theorem nmJ1 : ∀ a, a < 0 → ∀ b, b < 0 → a ≠ b → (TJ1 a).2.1 ≠ (TJ1 b).2.1 := by decide +kernel
theorem tyJ1_ok : ∀ k, k < 0 → parseFieldDescriptor (TJ1 k).2.2.1 = some (tyJ1 k) := by decide +kernel
abbrev cJ1_toChars_9d188 : ByteArray := prog_13_method_9_code
def yJ1_toChars_9d188 : MethodName := ⟨RJ1, "toChars", "([B)[C"⟩
abbrev cJ1_inflate_03870 : ByteArray := prog_13_method_49_code
def yJ1_inflate_03870 : MethodName := ⟨RJ1, "inflate", "([BI[CII)V"⟩
def RJ2 : String := "java/lang/StringUTF16"
def TJ2 : u_T := fun k => match k with
  | _ => ("", "", "", false)
def tyJ2 : Nat → FieldType := fun k => match k with
  | _ => .int
theorem nmJ2 : ∀ a, a < 0 → ∀ b, b < 0 → a ≠ b → (TJ2 a).2.1 ≠ (TJ2 b).2.1 := by decide +kernel
theorem tyJ2_ok : ∀ k, k < 0 → parseFieldDescriptor (TJ2 k).2.2.1 = some (tyJ2 k) := by decide +kernel
abbrev cJ2_getChar_3b067 : ByteArray := prog_14_method_5_code
def yJ2_getChar_3b067 : MethodName := ⟨RJ2, "getChar", "([BI)C"⟩
abbrev cJ2_length_9d52b : ByteArray := prog_14_method_6_code
def yJ2_length_9d52b : MethodName := ⟨RJ2, "length", "([B)I"⟩
abbrev cJ2_toChars_9d188 : ByteArray := prog_14_method_13_code
def yJ2_toChars_9d188 : MethodName := ⟨RJ2, "toChars", "([B)[C"⟩
abbrev cJ2_getChars_a1a8b : ByteArray := prog_14_method_26_code
def yJ2_getChars_a1a8b : MethodName := ⟨RJ2, "getChars", "([BII[CI)V"⟩
abbrev cJ2_checkBoundsOffCount_d044e : ByteArray := prog_14_method_94_code
def yJ2_checkBoundsOffCount_d044e : MethodName := ⟨RJ2, "checkBoundsOffCount", "(II[B)V"⟩
def RJ10 : String := "java/lang/System"
def TJ10 : u_T := fun k => match k with
  | _ => ("", "", "", false)
def tyJ10 : Nat → FieldType := fun k => match k with
  | _ => .int
theorem nmJ10 : ∀ a, a < 0 → ∀ b, b < 0 → a ≠ b → (TJ10 a).2.1 ≠ (TJ10 b).2.1 := by decide +kernel
theorem tyJ10_ok : ∀ k, k < 0 → parseFieldDescriptor (TJ10 k).2.2.1 = some (tyJ10 k) := by decide +kernel
def RJ3 : String := "jdk/internal/util/Preconditions"
def TJ3 : u_T := fun k => match k with
  | _ => ("", "", "", false)
def tyJ3 : Nat → FieldType := fun k => match k with
  | _ => .int
theorem nmJ3 : ∀ a, a < 0 → ∀ b, b < 0 → a ≠ b → (TJ3 a).2.1 ≠ (TJ3 b).2.1 := by decide +kernel
theorem tyJ3_ok : ∀ k, k < 0 → parseFieldDescriptor (TJ3 k).2.2.1 = some (tyJ3 k) := by decide +kernel
abbrev cJ3_checkFromIndexSize_8c36e : ByteArray := prog_16_method_13_code
def yJ3_checkFromIndexSize_8c36e : MethodName := ⟨RJ3, "checkFromIndexSize", "(IIILjava/util/function/BiFunction;)I"⟩
def RL : String := "SoftStairsLaw"
abbrev cL_cell : ByteArray := method_2_code
def yL_cell : MethodName := ⟨RL, "cell", "([II)I"⟩
abbrev cL_low : ByteArray := method_3_code
def yL_low : MethodName := ⟨RL, "low", "(II)I"⟩
abbrev cL_type : ByteArray := method_4_code
def yL_type : MethodName := ⟨RL, "type", "(LSoftStairs;I)Z"⟩
abbrev cL_rows : ByteArray := method_5_code
def yL_rows : MethodName := ⟨RL, "rows", "(I)I"⟩
abbrev cL_partsOf : ByteArray := method_6_code
def yL_partsOf : MethodName := ⟨RL, "partsOf", "(II)I"⟩
abbrev cL_part : ByteArray := method_7_code
def yL_part : MethodName := ⟨RL, "part", "(III)I"⟩
abbrev cL_letter : ByteArray := method_8_code
def yL_letter : MethodName := ⟨RL, "letter", "(I)I"⟩
abbrev cL_isNot : ByteArray := method_9_code
def yL_isNot : MethodName := ⟨RL, "isNot", "(I)Z"⟩
abbrev cL_isTwo : ByteArray := method_10_code
def yL_isTwo : MethodName := ⟨RL, "isTwo", "(I)Z"⟩
abbrev cL_write : ByteArray := method_11_code
def yL_write : MethodName := ⟨RL, "write", "(LSoftStairs;I)Z"⟩
abbrev cL_isSo : ByteArray := method_12_code
def yL_isSo : MethodName := ⟨RL, "isSo", "(II)Z"⟩
abbrev cL_isPart : ByteArray := method_13_code
def yL_isPart : MethodName := ⟨RL, "isPart", "(II)Z"⟩
abbrev cL_holds : ByteArray := method_14_code
def yL_holds : MethodName := ⟨RL, "holds", "(II)Z"⟩
abbrev cL_bits : ByteArray := method_15_code
def yL_bits : MethodName := ⟨RL, "bits", "(I)I"⟩
abbrev cL_looked : ByteArray := method_16_code
def yL_looked : MethodName := ⟨RL, "looked", "(IIZ)I"⟩
abbrev cL_deep : ByteArray := method_17_code
def yL_deep : MethodName := ⟨RL, "deep", "(I)I"⟩
abbrev cL_letters : ByteArray := method_18_code
def yL_letters : MethodName := ⟨RL, "letters", "(I)I"⟩
abbrev cL_isRule : ByteArray := method_19_code
def yL_isRule : MethodName := ⟨RL, "isRule", "(LSoftStairs;I)Z"⟩
abbrev cL_people : ByteArray := method_20_code
def yL_people : MethodName := ⟨RL, "people", "(LSoftStairs;)Z"⟩
abbrev cL_stops : ByteArray := method_21_code
def yL_stops : MethodName := ⟨RL, "stops", "(LSoftStairs;I)Z"⟩
abbrev cL_empties : ByteArray := method_22_code
def yL_empties : MethodName := ⟨RL, "empties", "(LSoftStairs;)Z"⟩
abbrev cL_law : ByteArray := code
def yL_law : MethodName := ⟨RL, "law", "([I)Z"⟩
abbrev vwCl : List vw_C := [(RX0, TX0, 3), (RX1, TX1, 2), (RX2, TX2, 4), (RX3, TX3, 6), (RX4, TX4, 18), (RX5, TX5, 7)]
