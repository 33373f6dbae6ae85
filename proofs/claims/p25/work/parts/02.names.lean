def RX0 : String := "EnamelKiln$Bench"
def TX0 : u_T := fun k => match k with
  | 0 => ("EnamelKiln$Bench", "palette", "LEnamelKiln$Palette;", true)
  | 1 => ("EnamelKiln$Bench", "plate", "LEnamelKiln$Plate;", true)
  | 2 => ("EnamelKiln$Bench", "wishes", "LEnamelKiln$Wishes;", true)
  | 3 => ("EnamelKiln$Bench", "settings", "[I", true)
  | _ => ("EnamelKiln$Bench", "accounts", "[I", true)
def tyX0 : Nat → FieldType := fun k => match k with
  | 0 => .object "EnamelKiln$Palette"
  | 1 => .object "EnamelKiln$Plate"
  | 2 => .object "EnamelKiln$Wishes"
  | 3 => .array .int
  | _ => .array .int
abbrev wsX00 : List Cond := u_ws RX0 TX0 5
theorem nmX0 : ∀ a, a < 5 → ∀ b, b < 5 → a ≠ b → (TX0 a).2.1 ≠ (TX0 b).2.1 := by decide +kernel
theorem tyX0_ok : ∀ k, k < 5 → parseFieldDescriptor (TX0 k).2.2.1 = some (tyX0 k) := by decide +kernel
abbrev cX0_init : ByteArray := prog_2_method_1_code
def yX0_init : MethodName := ⟨RX0, "<init>", "()V"⟩
abbrev cX0_copyFrom : ByteArray := prog_2_method_2_code
def yX0_copyFrom : MethodName := ⟨RX0, "copyFrom", "(LEnamelKiln$Bench;)V"⟩
def RX1 : String := "EnamelKiln$Firing"
def TX1 : u_T := fun k => match k with
  | 0 => ("EnamelKiln$Firing", "gaveWay", "[Z", true)
  | 1 => ("EnamelKiln$Firing", "smooth", "I", false)
  | 2 => ("EnamelKiln$Firing", "burnt", "I", false)
  | 3 => ("EnamelKiln$Firing", "dull", "I", false)
  | 4 => ("EnamelKiln$Firing", "cracks", "I", false)
  | _ => ("EnamelKiln$Firing", "mended", "I", false)
def tyX1 : Nat → FieldType := fun k => match k with
  | 0 => .array .boolean
  | 1 => .int
  | 2 => .int
  | 3 => .int
  | 4 => .int
  | _ => .int
abbrev wsX10 : List Cond := u_ws RX1 TX1 6
theorem nmX1 : ∀ a, a < 6 → ∀ b, b < 6 → a ≠ b → (TX1 a).2.1 ≠ (TX1 b).2.1 := by decide +kernel
theorem tyX1_ok : ∀ k, k < 6 → parseFieldDescriptor (TX1 k).2.2.1 = some (tyX1 k) := by decide +kernel
abbrev cX1_init : ByteArray := prog_3_method_1_code
def yX1_init : MethodName := ⟨RX1, "<init>", "()V"⟩
abbrev cX1_happen : ByteArray := prog_3_method_2_code
def yX1_happen : MethodName := ⟨RX1, "happen", "(LEnamelKiln$Bench;LEnamelKiln$Plate;II)V"⟩
abbrev cX1_heatLayer : ByteArray := prog_3_method_3_code
def yX1_heatLayer : MethodName := ⟨RX1, "heatLayer", "(LEnamelKiln$Bench;LEnamelKiln$Plate;IIZ)V"⟩
abbrev cX1_soften : ByteArray := prog_3_method_4_code
def yX1_soften : MethodName := ⟨RX1, "soften", "(LEnamelKiln$Plate;II)V"⟩
abbrev cX1_mendField : ByteArray := prog_3_method_5_code
def yX1_mendField : MethodName := ⟨RX1, "mendField", "(LEnamelKiln$Plate;I)V"⟩
abbrev cX1_coolField : ByteArray := prog_3_method_6_code
def yX1_coolField : MethodName := ⟨RX1, "coolField", "(LEnamelKiln$Bench;LEnamelKiln$Plate;I)V"⟩
def RX2 : String := "EnamelKiln$History"
def TX2 : u_T := fun k => match k with
  | 0 => ("EnamelKiln$History", "ring", "[LEnamelKiln$Bench;", true)
  | 1 => ("EnamelKiln$History", "next", "I", false)
  | _ => ("EnamelKiln$History", "size", "I", false)
def tyX2 : Nat → FieldType := fun k => match k with
  | 0 => .array (.object "EnamelKiln$Bench")
  | 1 => .int
  | _ => .int
abbrev wsX20 : List Cond := u_ws RX2 TX2 3
theorem nmX2 : ∀ a, a < 3 → ∀ b, b < 3 → a ≠ b → (TX2 a).2.1 ≠ (TX2 b).2.1 := by decide +kernel
theorem tyX2_ok : ∀ k, k < 3 → parseFieldDescriptor (TX2 k).2.2.1 = some (tyX2 k) := by decide +kernel
abbrev cX2_init : ByteArray := prog_4_method_1_code
def yX2_init : MethodName := ⟨RX2, "<init>", "()V"⟩
abbrev cX2_keep : ByteArray := prog_4_method_2_code
def yX2_keep : MethodName := ⟨RX2, "keep", "(LEnamelKiln$Bench;)V"⟩
abbrev cX2_restore : ByteArray := prog_4_method_3_code
def yX2_restore : MethodName := ⟨RX2, "restore", "(LEnamelKiln$Bench;)V"⟩
def RX3 : String := "EnamelKiln$Palette"
def TX3 : u_T := fun k => match k with
  | 0 => ("EnamelKiln$Palette", "melting", "[I", true)
  | 1 => ("EnamelKiln$Palette", "burning", "[I", true)
  | 2 => ("EnamelKiln$Palette", "expansion", "[I", true)
  | _ => ("EnamelKiln$Palette", "size", "I", false)
def tyX3 : Nat → FieldType := fun k => match k with
  | 0 => .array .int
  | 1 => .array .int
  | 2 => .array .int
  | _ => .int
abbrev wsX30 : List Cond := u_ws RX3 TX3 4
theorem nmX3 : ∀ a, a < 4 → ∀ b, b < 4 → a ≠ b → (TX3 a).2.1 ≠ (TX3 b).2.1 := by decide +kernel
theorem tyX3_ok : ∀ k, k < 4 → parseFieldDescriptor (TX3 k).2.2.1 = some (tyX3 k) := by decide +kernel
abbrev cX3_init : ByteArray := prog_5_method_1_code
def yX3_init : MethodName := ⟨RX3, "<init>", "()V"⟩
abbrev cX3_append : ByteArray := prog_5_method_2_code
def yX3_append : MethodName := ⟨RX3, "append", "(III)I"⟩
abbrev cX3_pullOf : ByteArray := prog_5_method_3_code
def yX3_pullOf : MethodName := ⟨RX3, "pullOf", "(I)I"⟩
abbrev cX3_copyFrom : ByteArray := prog_5_method_4_code
def yX3_copyFrom : MethodName := ⟨RX3, "copyFrom", "(LEnamelKiln$Palette;)V"⟩
def RX4 : String := "EnamelKiln$Planner"
def TX4 : u_T := fun k => match k with
  | 0 => ("EnamelKiln$Planner", "firingsFrom", "[I", true)
  | 1 => ("EnamelKiln$Planner", "stepOf", "[I", true)
  | 2 => ("EnamelKiln$Planner", "meltingOf", "[I", true)
  | 3 => ("EnamelKiln$Planner", "burningOf", "[I", true)
  | 4 => ("EnamelKiln$Planner", "sets", "[I", true)
  | 5 => ("EnamelKiln$Planner", "heats", "[I", true)
  | 6 => ("EnamelKiln$Planner", "length", "I", false)
  | _ => ("EnamelKiln$Planner", "isFound", "Z", false)
def tyX4 : Nat → FieldType := fun k => match k with
  | 0 => .array .int
  | 1 => .array .int
  | 2 => .array .int
  | 3 => .array .int
  | 4 => .array .int
  | 5 => .array .int
  | 6 => .int
  | _ => .boolean
abbrev wsX40 : List Cond := u_ws RX4 TX4 8
theorem nmX4 : ∀ a, a < 8 → ∀ b, b < 8 → a ≠ b → (TX4 a).2.1 ≠ (TX4 b).2.1 := by decide +kernel
theorem tyX4_ok : ∀ k, k < 8 → parseFieldDescriptor (TX4 k).2.2.1 = some (tyX4 k) := by decide +kernel
abbrev cX4_init : ByteArray := prog_6_method_1_code
def yX4_init : MethodName := ⟨RX4, "<init>", "()V"⟩
abbrev cX4_search : ByteArray := prog_6_method_2_code
def yX4_search : MethodName := ⟨RX4, "search", "(LEnamelKiln$Wishes;LEnamelKiln$Palette;)V"⟩
abbrev cX4_layersAt : ByteArray := prog_6_method_3_code
def yX4_layersAt : MethodName := ⟨RX4, "layersAt", "(II)I"⟩
abbrev cX4_lastStage : ByteArray := prog_6_method_4_code
def yX4_lastStage : MethodName := ⟨RX4, "lastStage", "(LEnamelKiln$Wishes;)I"⟩
abbrev cX4_isStage : ByteArray := prog_6_method_5_code
def yX4_isStage : MethodName := ⟨RX4, "isStage", "(ILEnamelKiln$Wishes;)Z"⟩
abbrev cX4_bestSet : ByteArray := prog_6_method_6_code
def yX4_bestSet : MethodName := ⟨RX4, "bestSet", "(ILEnamelKiln$Wishes;LEnamelKiln$Palette;)I"⟩
abbrev cX4_lookAtNext : ByteArray := prog_6_method_7_code
def yX4_lookAtNext : MethodName := ⟨RX4, "lookAtNext", "(ILEnamelKiln$Wishes;LEnamelKiln$Palette;)I"⟩
abbrev cX4_burningOfPut : ByteArray := prog_6_method_8_code
def yX4_burningOfPut : MethodName := ⟨RX4, "burningOfPut", "(ILEnamelKiln$Wishes;LEnamelKiln$Palette;)I"⟩
def RX5 : String := "EnamelKiln$Plate"
def TX5 : u_T := fun k => match k with
  | 0 => ("EnamelKiln$Plate", "sizes", "[I", true)
  | 1 => ("EnamelKiln$Plate", "colors", "[I", true)
  | 2 => ("EnamelKiln$Plate", "states", "[I", true)
  | 3 => ("EnamelKiln$Plate", "softenings", "[I", true)
  | _ => ("EnamelKiln$Plate", "cracks", "[I", true)
def tyX5 : Nat → FieldType := fun k => match k with
  | 0 => .array .int
  | 1 => .array .int
  | 2 => .array .int
  | 3 => .array .int
  | _ => .array .int
abbrev wsX50 : List Cond := u_ws RX5 TX5 5
theorem nmX5 : ∀ a, a < 5 → ∀ b, b < 5 → a ≠ b → (TX5 a).2.1 ≠ (TX5 b).2.1 := by decide +kernel
theorem tyX5_ok : ∀ k, k < 5 → parseFieldDescriptor (TX5 k).2.2.1 = some (tyX5 k) := by decide +kernel
abbrev cX5_init : ByteArray := prog_7_method_1_code
def yX5_init : MethodName := ⟨RX5, "<init>", "()V"⟩
abbrev cX5_append : ByteArray := prog_7_method_2_code
def yX5_append : MethodName := ⟨RX5, "append", "(II)I"⟩
abbrev cX5_removeOutermost : ByteArray := prog_7_method_3_code
def yX5_removeOutermost : MethodName := ⟨RX5, "removeOutermost", "(I)I"⟩
abbrev cX5_outermostIsRaw : ByteArray := prog_7_method_4_code
def yX5_outermostIsRaw : MethodName := ⟨RX5, "outermostIsRaw", "(I)Z"⟩
abbrev cX5_makeBare : ByteArray := prog_7_method_5_code
def yX5_makeBare : MethodName := ⟨RX5, "makeBare", "()V"⟩
abbrev cX5_layers : ByteArray := prog_7_method_6_code
def yX5_layers : MethodName := ⟨RX5, "layers", "()I"⟩
abbrev cX5_layersOfColor : ByteArray := prog_7_method_7_code
def yX5_layersOfColor : MethodName := ⟨RX5, "layersOfColor", "(I)I"⟩
abbrev cX5_layersOfState : ByteArray := prog_7_method_8_code
def yX5_layersOfState : MethodName := ⟨RX5, "layersOfState", "(I)I"⟩
abbrev cX5_layersWith : ByteArray := prog_7_method_9_code
def yX5_layersWith : MethodName := ⟨RX5, "layersWith", "([II)I"⟩
abbrev cX5_crackedFields : ByteArray := prog_7_method_10_code
def yX5_crackedFields : MethodName := ⟨RX5, "crackedFields", "()I"⟩
abbrev cX5_holdsOn : ByteArray := prog_7_method_11_code
def yX5_holdsOn : MethodName := ⟨RX5, "holdsOn", "(I)Z"⟩
abbrev cX5_hasHold : ByteArray := prog_7_method_12_code
def yX5_hasHold : MethodName := ⟨RX5, "hasHold", "(I)Z"⟩
abbrev cX5_pullOf : ByteArray := prog_7_method_13_code
def yX5_pullOf : MethodName := ⟨RX5, "pullOf", "(ILEnamelKiln$Palette;)I"⟩
abbrev cX5_strainOf : ByteArray := prog_7_method_14_code
def yX5_strainOf : MethodName := ⟨RX5, "strainOf", "(ILEnamelKiln$Palette;)I"⟩
abbrev cX5_greatestStrainWith : ByteArray := prog_7_method_15_code
def yX5_greatestStrainWith : MethodName := ⟨RX5, "greatestStrainWith", "(ILEnamelKiln$Palette;)I"⟩
abbrev cX5_heatThatMelts : ByteArray := prog_7_method_16_code
def yX5_heatThatMelts : MethodName := ⟨RX5, "heatThatMelts", "(ILEnamelKiln$Palette;)I"⟩
abbrev cX5_heatThatSpares : ByteArray := prog_7_method_17_code
def yX5_heatThatSpares : MethodName := ⟨RX5, "heatThatSpares", "(ILEnamelKiln$Palette;)I"⟩
abbrev cX5_copyFrom : ByteArray := prog_7_method_18_code
def yX5_copyFrom : MethodName := ⟨RX5, "copyFrom", "(LEnamelKiln$Plate;)V"⟩
def RX6 : String := "EnamelKiln$WishText"
def TX6 : u_T := fun k => match k with
  | 0 => ("EnamelKiln$WishText", "characters", "[C", true)
  | 1 => ("EnamelKiln$WishText", "length", "I", false)
  | 2 => ("EnamelKiln$WishText", "faultPosition", "I", false)
  | _ => ("EnamelKiln$WishText", "faultReason", "I", false)
def tyX6 : Nat → FieldType := fun k => match k with
  | 0 => .array .char
  | 1 => .int
  | 2 => .int
  | _ => .int
abbrev wsX60 : List Cond := u_ws RX6 TX6 4
theorem nmX6 : ∀ a, a < 4 → ∀ b, b < 4 → a ≠ b → (TX6 a).2.1 ≠ (TX6 b).2.1 := by decide +kernel
theorem tyX6_ok : ∀ k, k < 4 → parseFieldDescriptor (TX6 k).2.2.1 = some (tyX6 k) := by decide +kernel
abbrev cX6_init : ByteArray := prog_8_method_1_code
def yX6_init : MethodName := ⟨RX6, "<init>", "()V"⟩
abbrev cX6_append : ByteArray := prog_8_method_2_code
def yX6_append : MethodName := ⟨RX6, "append", "(C)I"⟩
abbrev cX6_hasFault : ByteArray := prog_8_method_3_code
def yX6_hasFault : MethodName := ⟨RX6, "hasFault", "()Z"⟩
abbrev cX6_lookForFault : ByteArray := prog_8_method_4_code
def yX6_lookForFault : MethodName := ⟨RX6, "lookForFault", "(I)V"⟩
abbrev cX6_reasonOf : ByteArray := prog_8_method_5_code
def yX6_reasonOf : MethodName := ⟨RX6, "reasonOf", "(CII)I"⟩
abbrev cX6_isFieldDigit : ByteArray := prog_8_method_6_code
def yX6_isFieldDigit : MethodName := ⟨RX6, "isFieldDigit", "(C)Z"⟩
abbrev cX6_isLetter : ByteArray := prog_8_method_7_code
def yX6_isLetter : MethodName := ⟨RX6, "isLetter", "(C)Z"⟩
def RX7 : String := "EnamelKiln$Wishes"
def TX7 : u_T := fun k => match k with
  | 0 => ("EnamelKiln$Wishes", "sizes", "[I", true)
  | _ => ("EnamelKiln$Wishes", "colors", "[I", true)
def tyX7 : Nat → FieldType := fun k => match k with
  | 0 => .array .int
  | _ => .array .int
abbrev wsX70 : List Cond := u_ws RX7 TX7 2
theorem nmX7 : ∀ a, a < 2 → ∀ b, b < 2 → a ≠ b → (TX7 a).2.1 ≠ (TX7 b).2.1 := by decide +kernel
theorem tyX7_ok : ∀ k, k < 2 → parseFieldDescriptor (TX7 k).2.2.1 = some (tyX7 k) := by decide +kernel
abbrev cX7_init : ByteArray := prog_9_method_1_code
def yX7_init : MethodName := ⟨RX7, "<init>", "()V"⟩
abbrev cX7_append : ByteArray := prog_9_method_2_code
def yX7_append : MethodName := ⟨RX7, "append", "(II)V"⟩
abbrev cX7_colorsTogether : ByteArray := prog_9_method_3_code
def yX7_colorsTogether : MethodName := ⟨RX7, "colorsTogether", "()I"⟩
abbrev cX7_timesOfColor : ByteArray := prog_9_method_4_code
def yX7_timesOfColor : MethodName := ⟨RX7, "timesOfColor", "(I)I"⟩
abbrev cX7_copyFrom : ByteArray := prog_9_method_5_code
def yX7_copyFrom : MethodName := ⟨RX7, "copyFrom", "(LEnamelKiln$Wishes;)V"⟩
def RX8 : String := "EnamelKiln"
def TX8 : u_T := fun k => match k with
  | 0 => ("EnamelKiln", "bench", "LEnamelKiln$Bench;", true)
  | 1 => ("EnamelKiln", "history", "LEnamelKiln$History;", true)
  | 2 => ("EnamelKiln", "firing", "LEnamelKiln$Firing;", true)
  | 3 => ("EnamelKiln", "trialPlate", "LEnamelKiln$Plate;", true)
  | 4 => ("EnamelKiln", "planner", "LEnamelKiln$Planner;", true)
  | 5 => ("EnamelKiln", "text", "LEnamelKiln$WishText;", true)
  | _ => ("EnamelKiln", "planIsOld", "Z", false)
def tyX8 : Nat → FieldType := fun k => match k with
  | 0 => .object "EnamelKiln$Bench"
  | 1 => .object "EnamelKiln$History"
  | 2 => .object "EnamelKiln$Firing"
  | 3 => .object "EnamelKiln$Plate"
  | 4 => .object "EnamelKiln$Planner"
  | 5 => .object "EnamelKiln$WishText"
  | _ => .boolean
abbrev wsX80 : List Cond := u_ws RX8 TX8 7
theorem nmX8 : ∀ a, a < 7 → ∀ b, b < 7 → a ≠ b → (TX8 a).2.1 ≠ (TX8 b).2.1 := by decide +kernel
theorem tyX8_ok : ∀ k, k < 7 → parseFieldDescriptor (TX8 k).2.2.1 = some (tyX8 k) := by decide +kernel
abbrev cX8_init : ByteArray := prog_1_method_1_code
def yX8_init : MethodName := ⟨RX8, "<init>", "()V"⟩
abbrev cX8_color : ByteArray := prog_1_method_2_code
def yX8_color : MethodName := ⟨RX8, "color", "(III)I"⟩
abbrev cX8_colorInfo : ByteArray := prog_1_method_3_code
def yX8_colorInfo : MethodName := ⟨RX8, "colorInfo", "(II)I"⟩
abbrev cX8_put : ByteArray := prog_1_method_4_code
def yX8_put : MethodName := ⟨RX8, "put", "(II)I"⟩
abbrev cX8_takeOff : ByteArray := prog_1_method_5_code
def yX8_takeOff : MethodName := ⟨RX8, "takeOff", "(I)I"⟩
abbrev cX8_clean : ByteArray := prog_1_method_6_code
def yX8_clean : MethodName := ⟨RX8, "clean", "()I"⟩
abbrev cX8_layer : ByteArray := prog_1_method_7_code
def yX8_layer : MethodName := ⟨RX8, "layer", "(III)I"⟩
abbrev cX8_field : ByteArray := prog_1_method_8_code
def yX8_field : MethodName := ⟨RX8, "field", "(II)I"⟩
abbrev cX8_set : ByteArray := prog_1_method_9_code
def yX8_set : MethodName := ⟨RX8, "set", "(II)I"⟩
abbrev cX8_count : ByteArray := prog_1_method_10_code
def yX8_count : MethodName := ⟨RX8, "count", "(I)I"⟩
abbrev cX8_fire : ByteArray := prog_1_method_11_code
def yX8_fire : MethodName := ⟨RX8, "fire", "(II)I"⟩
abbrev cX8_ifFired : ByteArray := prog_1_method_12_code
def yX8_ifFired : MethodName := ⟨RX8, "ifFired", "(II)I"⟩
abbrev cX8_bestHeat : ByteArray := prog_1_method_13_code
def yX8_bestHeat : MethodName := ⟨RX8, "bestHeat", "()I"⟩
abbrev cX8_wish : ByteArray := prog_1_method_14_code
def yX8_wish : MethodName := ⟨RX8, "wish", "(II)I"⟩
abbrev cX8_wished : ByteArray := prog_1_method_15_code
def yX8_wished : MethodName := ⟨RX8, "wished", "(II)I"⟩
abbrev cX8_leastFirings : ByteArray := prog_1_method_16_code
def yX8_leastFirings : MethodName := ⟨RX8, "leastFirings", "()I"⟩
abbrev cX8_planned : ByteArray := prog_1_method_17_code
def yX8_planned : MethodName := ⟨RX8, "planned", "(II)I"⟩
abbrev cX8_counter : ByteArray := prog_1_method_18_code
def yX8_counter : MethodName := ⟨RX8, "counter", "()I"⟩
abbrev cX8_undo : ByteArray := prog_1_method_19_code
def yX8_undo : MethodName := ⟨RX8, "undo", "()I"⟩
abbrev cX8_type : ByteArray := prog_1_method_20_code
def yX8_type : MethodName := ⟨RX8, "type", "(I)I"⟩
abbrev cX8_fault : ByteArray := prog_1_method_22_code
def yX8_fault : MethodName := ⟨RX8, "fault", "(I)I"⟩
abbrev cX8_within : ByteArray := prog_1_method_24_code
def yX8_within : MethodName := ⟨RX8, "within", "(III)Z"⟩
abbrev cX8_placeOf : ByteArray := prog_1_method_25_code
def yX8_placeOf : MethodName := ⟨RX8, "placeOf", "(II)I"⟩
abbrev cX8_isField : ByteArray := prog_1_method_26_code
def yX8_isField : MethodName := ⟨RX8, "isField", "(I)Z"⟩
abbrev cX8_isFrontField : ByteArray := prog_1_method_27_code
def yX8_isFrontField : MethodName := ⟨RX8, "isFrontField", "(I)Z"⟩
abbrev cX8_isColor : ByteArray := prog_1_method_28_code
def yX8_isColor : MethodName := ⟨RX8, "isColor", "(I)Z"⟩
abbrev cX8_tryHeat : ByteArray := prog_1_method_29_code
def yX8_tryHeat : MethodName := ⟨RX8, "tryHeat", "(I)V"⟩
abbrev cX8_bringPlanUpToDate : ByteArray := prog_1_method_30_code
def yX8_bringPlanUpToDate : MethodName := ⟨RX8, "bringPlanUpToDate", "()V"⟩
abbrev cX8_copyRow : ByteArray := prog_1_method_31_code
def yX8_copyRow : MethodName := ⟨RX8, "copyRow", "([I[I)V"⟩
def RX9 : String := "EnamelKilnModel"
def TX9 : u_T := fun k => match k with
  | _ => ("", "", "", false)
def tyX9 : Nat → FieldType := fun k => match k with
  | _ => .int
abbrev wsX90 : List Cond := u_ws RX9 TX9 0
theorem nmX9 : ∀ a, a < 0 → ∀ b, b < 0 → a ≠ b → (TX9 a).2.1 ≠ (TX9 b).2.1 := by decide +kernel
theorem tyX9_ok : ∀ k, k < 0 → parseFieldDescriptor (TX9 k).2.2.1 = some (tyX9 k) := by decide +kernel
def RJ9 : String := "java/lang/Math"
def TJ9 : u_T := fun k => match k with
  | _ => ("", "", "", false)
def tyJ9 : Nat → FieldType := fun k => match k with
  | _ => .int
abbrev wsJ90 : List Cond := u_ws RJ9 TJ9 0
theorem nmJ9 : ∀ a, a < 0 → ∀ b, b < 0 → a ≠ b → (TJ9 a).2.1 ≠ (TJ9 b).2.1 := by decide +kernel
theorem tyJ9_ok : ∀ k, k < 0 → parseFieldDescriptor (TJ9 k).2.2.1 = some (tyJ9 k) := by decide +kernel
abbrev cJ9_abs_0f7a4 : ByteArray := prog_12_method_59_code
def yJ9_abs_0f7a4 : MethodName := ⟨RJ9, "abs", "(I)I"⟩
abbrev cJ9_max_7cf53 : ByteArray := prog_12_method_65_code
def yJ9_max_7cf53 : MethodName := ⟨RJ9, "max", "(II)I"⟩
abbrev cJ9_min_7cf53 : ByteArray := prog_12_method_69_code
def yJ9_min_7cf53 : MethodName := ⟨RJ9, "min", "(II)I"⟩
def RJ10 : String := "java/lang/System"
def TJ10 : u_T := fun k => match k with
  | _ => ("", "", "", false)
def tyJ10 : Nat → FieldType := fun k => match k with
  | _ => .int
abbrev wsJ100 : List Cond := u_ws RJ10 TJ10 0
theorem nmJ10 : ∀ a, a < 0 → ∀ b, b < 0 → a ≠ b → (TJ10 a).2.1 ≠ (TJ10 b).2.1 := by decide +kernel
theorem tyJ10_ok : ∀ k, k < 0 → parseFieldDescriptor (TJ10 k).2.2.1 = some (tyJ10 k) := by decide +kernel
def RL : String := "EnamelKilnLaw"
abbrev cL_cell : ByteArray := method_2_code
def yL_cell : MethodName := ⟨RL, "cell", "([II)I"⟩
abbrev cL_low : ByteArray := method_3_code
def yL_low : MethodName := ⟨RL, "low", "(II)I"⟩
abbrev cL_print : ByteArray := method_4_code
def yL_print : MethodName := ⟨RL, "print", "(LEnamelKiln;)J"⟩
abbrev cL_refused : ByteArray := method_5_code
def yL_refused : MethodName := ⟨RL, "refused", "(LEnamelKiln;)Z"⟩
abbrev cL_size : ByteArray := method_6_code
def yL_size : MethodName := ⟨RL, "size", "(I)I"⟩
abbrev cL_areLayers : ByteArray := method_7_code
def yL_areLayers : MethodName := ⟨RL, "areLayers", "(LEnamelKiln;)Z"⟩
abbrev cL_isFired : ByteArray := method_8_code
def yL_isFired : MethodName := ⟨RL, "isFired", "(LEnamelKiln;I)Z"⟩
abbrev cL_isBest : ByteArray := method_9_code
def yL_isBest : MethodName := ⟨RL, "isBest", "(LEnamelKiln;)Z"⟩
abbrev cL_isPlan : ByteArray := method_10_code
def yL_isPlan : MethodName := ⟨RL, "isPlan", "(LEnamelKiln;)Z"⟩
abbrev cL_isCounter : ByteArray := method_11_code
def yL_isCounter : MethodName := ⟨RL, "isCounter", "(LEnamelKiln;)Z"⟩
abbrev cL_acts : ByteArray := method_12_code
def yL_acts : MethodName := ⟨RL, "acts", "(LEnamelKiln;II)I"⟩
abbrev cL_law : ByteArray := code
def yL_law : MethodName := ⟨RL, "law", "([I)Z"⟩
abbrev vwCl : List vw_C := [(RX0, TX0, 5), (RX1, TX1, 6), (RX2, TX2, 3), (RX3, TX3, 4), (RX4, TX4, 8), (RX5, TX5, 5), (RX6, TX6, 4), (RX7, TX7, 2), (RX8, TX8, 7)]
