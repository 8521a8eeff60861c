def RX0 : String := "KitePainter$Bleeding"
def TX0 : u_T := fun k => match k with
  | 0 => ("KitePainter$Bleeding", "nextColours", "[I", true)
  | _ => ("KitePainter$Bleeding", "nextWetness", "[I", true)
def tyX0 : Nat → FieldType := fun k => match k with
  | 0 => .array .int
  | _ => .array .int
abbrev wsX00 : List Cond := u_ws RX0 TX0 2
theorem nmX0 : ∀ a, a < 2 → ∀ b, b < 2 → a ≠ b → (TX0 a).2.1 ≠ (TX0 b).2.1 := by decide +kernel
theorem tyX0_ok : ∀ k, k < 2 → parseFieldDescriptor (TX0 k).2.2.1 = some (tyX0 k) := by decide +kernel
abbrev cX0_init : ByteArray := prog_2_method_1_code
def yX0_init : MethodName := ⟨RX0, "<init>", "()V"⟩
abbrev cX0_letPass : ByteArray := prog_2_method_2_code
def yX0_letPass : MethodName := ⟨RX0, "letPass", "(LKitePainter$Sail;I)I"⟩
abbrev cX0_bleedOnce : ByteArray := prog_2_method_3_code
def yX0_bleedOnce : MethodName := ⟨RX0, "bleedOnce", "(LKitePainter$Sail;)I"⟩
abbrev cX0_bleedInto : ByteArray := prog_2_method_4_code
def yX0_bleedInto : MethodName := ⟨RX0, "bleedInto", "(LKitePainter$Sail;II)V"⟩
abbrev cX0_dryOnce : ByteArray := prog_2_method_5_code
def yX0_dryOnce : MethodName := ⟨RX0, "dryOnce", "(LKitePainter$Sail;)V"⟩
def RX1 : String := "KitePainter$History"
def TX1 : u_T := fun k => match k with
  | 0 => ("KitePainter$History", "sails", "[LKitePainter$Sail;", true)
  | 1 => ("KitePainter$History", "newest", "I", false)
  | _ => ("KitePainter$History", "kept", "I", false)
def tyX1 : Nat → FieldType := fun k => match k with
  | 0 => .array (.object "KitePainter$Sail")
  | 1 => .int
  | _ => .int
abbrev wsX10 : List Cond := u_ws RX1 TX1 3
theorem nmX1 : ∀ a, a < 3 → ∀ b, b < 3 → a ≠ b → (TX1 a).2.1 ≠ (TX1 b).2.1 := by decide +kernel
theorem tyX1_ok : ∀ k, k < 3 → parseFieldDescriptor (TX1 k).2.2.1 = some (tyX1 k) := by decide +kernel
abbrev cX1_init : ByteArray := prog_3_method_1_code
def yX1_init : MethodName := ⟨RX1, "<init>", "()V"⟩
abbrev cX1_keep : ByteArray := prog_3_method_2_code
def yX1_keep : MethodName := ⟨RX1, "keep", "(LKitePainter$Sail;)V"⟩
abbrev cX1_takeBack : ByteArray := prog_3_method_3_code
def yX1_takeBack : MethodName := ⟨RX1, "takeBack", "(LKitePainter$Sail;)V"⟩
def RX2 : String := "KitePainter$RegionFinder"
def TX2 : u_T := fun k => match k with
  | 0 => ("KitePainter$RegionFinder", "seen", "[I", true)
  | 1 => ("KitePainter$RegionFinder", "foundX", "[I", true)
  | 2 => ("KitePainter$RegionFinder", "foundY", "[I", true)
  | _ => ("KitePainter$RegionFinder", "found", "I", false)
def tyX2 : Nat → FieldType := fun k => match k with
  | 0 => .array .int
  | 1 => .array .int
  | 2 => .array .int
  | _ => .int
abbrev wsX20 : List Cond := u_ws RX2 TX2 4
theorem nmX2 : ∀ a, a < 4 → ∀ b, b < 4 → a ≠ b → (TX2 a).2.1 ≠ (TX2 b).2.1 := by decide +kernel
theorem tyX2_ok : ∀ k, k < 4 → parseFieldDescriptor (TX2 k).2.2.1 = some (tyX2 k) := by decide +kernel
abbrev cX2_init : ByteArray := prog_4_method_1_code
def yX2_init : MethodName := ⟨RX2, "<init>", "()V"⟩
abbrev cX2_ofColour : ByteArray := prog_4_method_2_code
def yX2_ofColour : MethodName := ⟨RX2, "ofColour", "(LKitePainter$Sail;I)I"⟩
abbrev cX2_fillFrom : ByteArray := prog_4_method_3_code
def yX2_fillFrom : MethodName := ⟨RX2, "fillFrom", "(LKitePainter$Sail;II)I"⟩
abbrev cX2_makeFoundBare : ByteArray := prog_4_method_4_code
def yX2_makeFoundBare : MethodName := ⟨RX2, "makeFoundBare", "(LKitePainter$Sail;)V"⟩
abbrev cX2_spread : ByteArray := prog_4_method_5_code
def yX2_spread : MethodName := ⟨RX2, "spread", "(LKitePainter$Sail;II)V"⟩
abbrev cX2_visit : ByteArray := prog_4_method_6_code
def yX2_visit : MethodName := ⟨RX2, "visit", "(LKitePainter$Sail;III)V"⟩
def RX3 : String := "KitePainter$Sail"
def TX3 : u_T := fun k => match k with
  | 0 => ("KitePainter$Sail", "width", "I", false)
  | 1 => ("KitePainter$Sail", "height", "I", false)
  | 2 => ("KitePainter$Sail", "time", "I", false)
  | 3 => ("KitePainter$Sail", "cloth", "I", false)
  | 4 => ("KitePainter$Sail", "wood", "I", false)
  | 5 => ("KitePainter$Sail", "patterns", "I", false)
  | 6 => ("KitePainter$Sail", "reaches", "[I", true)
  | 7 => ("KitePainter$Sail", "colourWeights", "[I", true)
  | 8 => ("KitePainter$Sail", "mixes", "[I", true)
  | 9 => ("KitePainter$Sail", "patternLines", "[I", true)
  | 10 => ("KitePainter$Sail", "patternDigits", "[I", true)
  | 11 => ("KitePainter$Sail", "patternColours", "[I", true)
  | 12 => ("KitePainter$Sail", "colours", "[I", true)
  | 13 => ("KitePainter$Sail", "wetness", "[I", true)
  | _ => ("KitePainter$Sail", "spars", "[I", true)
def tyX3 : Nat → FieldType := fun k => match k with
  | 0 => .int
  | 1 => .int
  | 2 => .int
  | 3 => .int
  | 4 => .int
  | 5 => .int
  | 6 => .array .int
  | 7 => .array .int
  | 8 => .array .int
  | 9 => .array .int
  | 10 => .array .int
  | 11 => .array .int
  | 12 => .array .int
  | 13 => .array .int
  | _ => .array .int
abbrev wsX30 : List Cond := u_ws RX3 TX3 15
theorem nmX3 : ∀ a, a < 15 → ∀ b, b < 15 → a ≠ b → (TX3 a).2.1 ≠ (TX3 b).2.1 := by decide +kernel
theorem tyX3_ok : ∀ k, k < 15 → parseFieldDescriptor (TX3 k).2.2.1 = some (tyX3 k) := by decide +kernel
abbrev cX3_init : ByteArray := prog_5_method_1_code
def yX3_init : MethodName := ⟨RX3, "<init>", "()V"⟩
abbrev cX3_beginAnew : ByteArray := prog_5_method_2_code
def yX3_beginAnew : MethodName := ⟨RX3, "beginAnew", "(II)V"⟩
abbrev cX3_copyFrom : ByteArray := prog_5_method_3_code
def yX3_copyFrom : MethodName := ⟨RX3, "copyFrom", "(LKitePainter$Sail;)V"⟩
abbrev cX3_middle : ByteArray := prog_5_method_4_code
def yX3_middle : MethodName := ⟨RX3, "middle", "()I"⟩
abbrev cX3_firstX : ByteArray := prog_5_method_5_code
def yX3_firstX : MethodName := ⟨RX3, "firstX", "(I)I"⟩
abbrev cX3_lastX : ByteArray := prog_5_method_6_code
def yX3_lastX : MethodName := ⟨RX3, "lastX", "(I)I"⟩
abbrev cX3_holds : ByteArray := prog_5_method_7_code
def yX3_holds : MethodName := ⟨RX3, "holds", "(II)Z"⟩
abbrev cX3_numberOf : ByteArray := prog_5_method_8_code
def yX3_numberOf : MethodName := ⟨RX3, "numberOf", "(II)I"⟩
abbrev cX3_mirrorX : ByteArray := prog_5_method_9_code
def yX3_mirrorX : MethodName := ⟨RX3, "mirrorX", "(I)I"⟩
abbrev cX3_sideOf : ByteArray := prog_5_method_10_code
def yX3_sideOf : MethodName := ⟨RX3, "sideOf", "(I)I"⟩
abbrev cX3_mixOf : ByteArray := prog_5_method_11_code
def yX3_mixOf : MethodName := ⟨RX3, "mixOf", "(II)I"⟩
abbrev cX3_toldMix : ByteArray := prog_5_method_12_code
def yX3_toldMix : MethodName := ⟨RX3, "toldMix", "(II)I"⟩
abbrev cX3_tellMix : ByteArray := prog_5_method_13_code
def yX3_tellMix : MethodName := ⟨RX3, "tellMix", "(III)V"⟩
abbrev cX3_allCells : ByteArray := prog_5_method_14_code
def yX3_allCells : MethodName := ⟨RX3, "allCells", "()I"⟩
abbrev cX3_cellsWithSpars : ByteArray := prog_5_method_15_code
def yX3_cellsWithSpars : MethodName := ⟨RX3, "cellsWithSpars", "()I"⟩
abbrev cX3_cellsOfColour : ByteArray := prog_5_method_16_code
def yX3_cellsOfColour : MethodName := ⟨RX3, "cellsOfColour", "(I)I"⟩
abbrev cX3_cellsOfOtherColour : ByteArray := prog_5_method_17_code
def yX3_cellsOfOtherColour : MethodName := ⟨RX3, "cellsOfOtherColour", "(LKitePainter$Sail;)I"⟩
abbrev cX3_wetCells : ByteArray := prog_5_method_18_code
def yX3_wetCells : MethodName := ⟨RX3, "wetCells", "()I"⟩
abbrev cX3_greatestWetness : ByteArray := prog_5_method_19_code
def yX3_greatestWetness : MethodName := ⟨RX3, "greatestWetness", "()I"⟩
abbrev cX3_unlikePairs : ByteArray := prog_5_method_20_code
def yX3_unlikePairs : MethodName := ⟨RX3, "unlikePairs", "()I"⟩
abbrev cX3_weightAt : ByteArray := prog_5_method_21_code
def yX3_weightAt : MethodName := ⟨RX3, "weightAt", "(I)I"⟩
abbrev cX3_weightOfSide : ByteArray := prog_5_method_22_code
def yX3_weightOfSide : MethodName := ⟨RX3, "weightOfSide", "(I)I"⟩
abbrev cX3_leftWeight : ByteArray := prog_5_method_23_code
def yX3_leftWeight : MethodName := ⟨RX3, "leftWeight", "()I"⟩
abbrev cX3_rightWeight : ByteArray := prog_5_method_24_code
def yX3_rightWeight : MethodName := ⟨RX3, "rightWeight", "()I"⟩
abbrev cX3_wholeWeight : ByteArray := prog_5_method_25_code
def yX3_wholeWeight : MethodName := ⟨RX3, "wholeWeight", "()I"⟩
abbrev cX3_balance : ByteArray := prog_5_method_26_code
def yX3_balance : MethodName := ⟨RX3, "balance", "()I"⟩
abbrev cX3_patternColour : ByteArray := prog_5_method_27_code
def yX3_patternColour : MethodName := ⟨RX3, "patternColour", "(III)I"⟩
abbrev cX3_setPatternColour : ByteArray := prog_5_method_28_code
def yX3_setPatternColour : MethodName := ⟨RX3, "setPatternColour", "(IIII)V"⟩
abbrev cX3_paintingDigits : ByteArray := prog_5_method_29_code
def yX3_paintingDigits : MethodName := ⟨RX3, "paintingDigits", "(I)I"⟩
abbrev cX3_putColour : ByteArray := prog_5_method_30_code
def yX3_putColour : MethodName := ⟨RX3, "putColour", "(IIIIZ)V"⟩
abbrev cX3_setCell : ByteArray := prog_5_method_31_code
def yX3_setCell : MethodName := ⟨RX3, "setCell", "(III)V"⟩
abbrev cX3_sourceOf : ByteArray := prog_5_method_32_code
def yX3_sourceOf : MethodName := ⟨RX3, "sourceOf", "(II)I"⟩
abbrev cX3_isAhead : ByteArray := prog_5_method_33_code
def yX3_isAhead : MethodName := ⟨RX3, "isAhead", "(II)Z"⟩
def RX4 : String := "KitePainter$SetupReader"
def TX4 : u_T := fun k => match k with
  | 0 => ("KitePainter$SetupReader", "text", "[B", true)
  | 1 => ("KitePainter$SetupReader", "filled", "I", false)
  | 2 => ("KitePainter$SetupReader", "length", "I", false)
  | 3 => ("KitePainter$SetupReader", "kind", "I", false)
  | 4 => ("KitePainter$SetupReader", "start", "I", false)
  | 5 => ("KitePainter$SetupReader", "end", "I", false)
  | 6 => ("KitePainter$SetupReader", "error", "I", false)
  | 7 => ("KitePainter$SetupReader", "errorAt", "I", false)
  | 8 => ("KitePainter$SetupReader", "numberAt", "I", false)
  | 9 => ("KitePainter$SetupReader", "hasReach", "Z", false)
  | 10 => ("KitePainter$SetupReader", "hasCloth", "Z", false)
  | 11 => ("KitePainter$SetupReader", "hasWood", "Z", false)
  | _ => ("KitePainter$SetupReader", "hasSpar", "Z", false)
def tyX4 : Nat → FieldType := fun k => match k with
  | 0 => .array .byte
  | 1 => .int
  | 2 => .int
  | 3 => .int
  | 4 => .int
  | 5 => .int
  | 6 => .int
  | 7 => .int
  | 8 => .int
  | 9 => .boolean
  | 10 => .boolean
  | 11 => .boolean
  | _ => .boolean
abbrev wsX40 : List Cond := u_ws RX4 TX4 13
theorem nmX4 : ∀ a, a < 13 → ∀ b, b < 13 → a ≠ b → (TX4 a).2.1 ≠ (TX4 b).2.1 := by decide +kernel
theorem tyX4_ok : ∀ k, k < 13 → parseFieldDescriptor (TX4 k).2.2.1 = some (tyX4 k) := by decide +kernel
abbrev cX4_init : ByteArray := prog_6_method_1_code
def yX4_init : MethodName := ⟨RX4, "<init>", "()V"⟩
abbrev cX4_putFourBytes : ByteArray := prog_6_method_2_code
def yX4_putFourBytes : MethodName := ⟨RX4, "putFourBytes", "(I)V"⟩
abbrev cX4_readSetup : ByteArray := prog_6_method_3_code
def yX4_readSetup : MethodName := ⟨RX4, "readSetup", "(ILKitePainter$Sail;)I"⟩
abbrev cX4_goOn : ByteArray := prog_6_method_4_code
def yX4_goOn : MethodName := ⟨RX4, "goOn", "()V"⟩
abbrev cX4_isDigit : ByteArray := prog_6_method_5_code
def yX4_isDigit : MethodName := ⟨RX4, "isDigit", "(I)Z"⟩
abbrev cX4_isLetter : ByteArray := prog_6_method_6_code
def yX4_isLetter : MethodName := ⟨RX4, "isLetter", "(I)Z"⟩
abbrev cX4_digitAt : ByteArray := prog_6_method_7_code
def yX4_digitAt : MethodName := ⟨RX4, "digitAt", "(I)I"⟩
abbrev cX4_isWord : ByteArray := prog_6_method_8_code
def yX4_isWord : MethodName := ⟨RX4, "isWord", "(Ljava/lang/String;)Z"⟩
abbrev cX4_fail : ByteArray := prog_6_method_9_code
def yX4_fail : MethodName := ⟨RX4, "fail", "(II)V"⟩
abbrev cX4_readWord : ByteArray := prog_6_method_10_code
def yX4_readWord : MethodName := ⟨RX4, "readWord", "(Ljava/lang/String;)V"⟩
abbrev cX4_readSemicolon : ByteArray := prog_6_method_11_code
def yX4_readSemicolon : MethodName := ⟨RX4, "readSemicolon", "()V"⟩
abbrev cX4_readNumber : ByteArray := prog_6_method_12_code
def yX4_readNumber : MethodName := ⟨RX4, "readNumber", "(II)I"⟩
abbrev cX4_valueUpTo : ByteArray := prog_6_method_13_code
def yX4_valueUpTo : MethodName := ⟨RX4, "valueUpTo", "(I)I"⟩
abbrev cX4_readKite : ByteArray := prog_6_method_14_code
def yX4_readKite : MethodName := ⟨RX4, "readKite", "(LKitePainter$Sail;)V"⟩
abbrev cX4_readStatement : ByteArray := prog_6_method_15_code
def yX4_readStatement : MethodName := ⟨RX4, "readStatement", "(LKitePainter$Sail;)V"⟩
abbrev cX4_refuseIf : ByteArray := prog_6_method_16_code
def yX4_refuseIf : MethodName := ⟨RX4, "refuseIf", "(Z)V"⟩
abbrev cX4_readReach : ByteArray := prog_6_method_17_code
def yX4_readReach : MethodName := ⟨RX4, "readReach", "(LKitePainter$Sail;)V"⟩
abbrev cX4_readMix : ByteArray := prog_6_method_18_code
def yX4_readMix : MethodName := ⟨RX4, "readMix", "(LKitePainter$Sail;)V"⟩
abbrev cX4_readSpar : ByteArray := prog_6_method_19_code
def yX4_readSpar : MethodName := ⟨RX4, "readSpar", "(LKitePainter$Sail;)V"⟩
abbrev cX4_readPattern : ByteArray := prog_6_method_20_code
def yX4_readPattern : MethodName := ⟨RX4, "readPattern", "(LKitePainter$Sail;)V"⟩
abbrev cX4_checkLine : ByteArray := prog_6_method_21_code
def yX4_checkLine : MethodName := ⟨RX4, "checkLine", "(LKitePainter$Sail;II)V"⟩
abbrev cX4_takeLine : ByteArray := prog_6_method_22_code
def yX4_takeLine : MethodName := ⟨RX4, "takeLine", "(LKitePainter$Sail;II)V"⟩
def RX5 : String := "KitePainter"
def TX5 : u_T := fun k => match k with
  | 0 => ("KitePainter", "sail", "LKitePainter$Sail;", true)
  | 1 => ("KitePainter", "spare", "LKitePainter$Sail;", true)
  | 2 => ("KitePainter", "history", "LKitePainter$History;", true)
  | 3 => ("KitePainter", "bleeding", "LKitePainter$Bleeding;", true)
  | 4 => ("KitePainter", "finder", "LKitePainter$RegionFinder;", true)
  | 5 => ("KitePainter", "reader", "LKitePainter$SetupReader;", true)
  | _ => ("KitePainter", "latestErrorAt", "I", false)
def tyX5 : Nat → FieldType := fun k => match k with
  | 0 => .object "KitePainter$Sail"
  | 1 => .object "KitePainter$Sail"
  | 2 => .object "KitePainter$History"
  | 3 => .object "KitePainter$Bleeding"
  | 4 => .object "KitePainter$RegionFinder"
  | 5 => .object "KitePainter$SetupReader"
  | _ => .int
abbrev wsX50 : List Cond := u_ws RX5 TX5 7
theorem nmX5 : ∀ a, a < 7 → ∀ b, b < 7 → a ≠ b → (TX5 a).2.1 ≠ (TX5 b).2.1 := by decide +kernel
theorem tyX5_ok : ∀ k, k < 7 → parseFieldDescriptor (TX5 k).2.2.1 = some (tyX5 k) := by decide +kernel
abbrev cX5_init : ByteArray := prog_1_method_1_code
def yX5_init : MethodName := ⟨RX5, "<init>", "()V"⟩
abbrev cX5_append : ByteArray := prog_1_method_2_code
def yX5_append : MethodName := ⟨RX5, "append", "(IIIII)I"⟩
abbrev cX5_load : ByteArray := prog_1_method_3_code
def yX5_load : MethodName := ⟨RX5, "load", "(I)I"⟩
abbrev cX5_errorOffset : ByteArray := prog_1_method_4_code
def yX5_errorOffset : MethodName := ⟨RX5, "errorOffset", "()I"⟩
abbrev cX5_state : ByteArray := prog_1_method_5_code
def yX5_state : MethodName := ⟨RX5, "state", "(I)I"⟩
abbrev cX5_cell : ByteArray := prog_1_method_6_code
def yX5_cell : MethodName := ⟨RX5, "cell", "(III)I"⟩
abbrev cX5_mix : ByteArray := prog_1_method_7_code
def yX5_mix : MethodName := ⟨RX5, "mix", "(II)I"⟩
abbrev cX5_count : ByteArray := prog_1_method_8_code
def yX5_count : MethodName := ⟨RX5, "count", "(I)I"⟩
abbrev cX5_unlike : ByteArray := prog_1_method_9_code
def yX5_unlike : MethodName := ⟨RX5, "unlike", "()I"⟩
abbrev cX5_region : ByteArray := prog_1_method_10_code
def yX5_region : MethodName := ⟨RX5, "region", "(II)I"⟩
abbrev cX5_regions : ByteArray := prog_1_method_11_code
def yX5_regions : MethodName := ⟨RX5, "regions", "(I)I"⟩
abbrev cX5_bleeds : ByteArray := prog_1_method_12_code
def yX5_bleeds : MethodName := ⟨RX5, "bleeds", "(II)I"⟩
abbrev cX5_foretold : ByteArray := prog_1_method_14_code
def yX5_foretold : MethodName := ⟨RX5, "foretold", "(II)I"⟩
abbrev cX5_evens : ByteArray := prog_1_method_15_code
def yX5_evens : MethodName := ⟨RX5, "evens", "(I)I"⟩
abbrev cX5_pattern : ByteArray := prog_1_method_16_code
def yX5_pattern : MethodName := ⟨RX5, "pattern", "(II)I"⟩
abbrev cX5_pass : ByteArray := prog_1_method_18_code
def yX5_pass : MethodName := ⟨RX5, "pass", "(I)I"⟩
abbrev cX5_paint : ByteArray := prog_1_method_19_code
def yX5_paint : MethodName := ⟨RX5, "paint", "(IIIIZ)I"⟩
abbrev cX5_stroke : ByteArray := prog_1_method_20_code
def yX5_stroke : MethodName := ⟨RX5, "stroke", "(IIIII)I"⟩
abbrev cX5_stamp : ByteArray := prog_1_method_21_code
def yX5_stamp : MethodName := ⟨RX5, "stamp", "(IIIZ)I"⟩
abbrev cX5_spar : ByteArray := prog_1_method_22_code
def yX5_spar : MethodName := ⟨RX5, "spar", "(IIZI)I"⟩
abbrev cX5_strip : ByteArray := prog_1_method_23_code
def yX5_strip : MethodName := ⟨RX5, "strip", "(II)I"⟩
abbrev cX5_wash : ByteArray := prog_1_method_24_code
def yX5_wash : MethodName := ⟨RX5, "wash", "(II)I"⟩
abbrev cX5_undo : ByteArray := prog_1_method_25_code
def yX5_undo : MethodName := ⟨RX5, "undo", "()I"⟩
abbrev cX5_checksum : ByteArray := prog_1_method_26_code
def yX5_checksum : MethodName := ⟨RX5, "checksum", "()J"⟩
abbrev cX5_requireCell : ByteArray := prog_1_method_27_code
def yX5_requireCell : MethodName := ⟨RX5, "requireCell", "(II)V"⟩
abbrev cX5_requirePattern : ByteArray := prog_1_method_28_code
def yX5_requirePattern : MethodName := ⟨RX5, "requirePattern", "(I)V"⟩
abbrev cX5_requireRange : ByteArray := prog_1_method_29_code
def yX5_requireRange : MethodName := ⟨RX5, "requireRange", "(III)V"⟩
def RX6 : String := "KitePainterLaw$Cell"
def TX6 : u_T := fun k => match k with
  | 0 => ("KitePainterLaw$Cell", "x", "I", true)
  | 1 => ("KitePainterLaw$Cell", "y", "I", true)
  | 2 => ("KitePainterLaw$Cell", "colour", "I", false)
  | 3 => ("KitePainterLaw$Cell", "wet", "I", false)
  | _ => ("KitePainterLaw$Cell", "hasSpar", "Z", false)
def tyX6 : Nat → FieldType := fun k => match k with
  | 0 => .int
  | 1 => .int
  | 2 => .int
  | 3 => .int
  | _ => .boolean
abbrev wsX60 : List Cond := u_ws RX6 TX6 5
theorem nmX6 : ∀ a, a < 5 → ∀ b, b < 5 → a ≠ b → (TX6 a).2.1 ≠ (TX6 b).2.1 := by decide +kernel
theorem tyX6_ok : ∀ k, k < 5 → parseFieldDescriptor (TX6 k).2.2.1 = some (tyX6 k) := by decide +kernel
abbrev cX6_init : ByteArray := prog_8_method_1_code
def yX6_init : MethodName := ⟨RX6, "<init>", "(II)V"⟩
abbrev cX6_copy : ByteArray := prog_8_method_2_code
def yX6_copy : MethodName := ⟨RX6, "copy", "()LKitePainterLaw$Cell;"⟩
def RX7 : String := "KitePainterLaw$Kite"
def TX7 : u_T := fun k => match k with
  | 0 => ("KitePainterLaw$Kite", "width", "I", false)
  | 1 => ("KitePainterLaw$Kite", "height", "I", false)
  | 2 => ("KitePainterLaw$Kite", "time", "I", false)
  | 3 => ("KitePainterLaw$Kite", "cloth", "I", false)
  | 4 => ("KitePainterLaw$Kite", "wood", "I", false)
  | 5 => ("KitePainterLaw$Kite", "weights", "[I", false)
  | 6 => ("KitePainterLaw$Kite", "mixes", "[[I", false)
  | 7 => ("KitePainterLaw$Kite", "patterns", "[[Ljava/lang/String;", false)
  | _ => ("KitePainterLaw$Kite", "cells", "[LKitePainterLaw$Cell;", false)
def tyX7 : Nat → FieldType := fun k => match k with
  | 0 => .int
  | 1 => .int
  | 2 => .int
  | 3 => .int
  | 4 => .int
  | 5 => .array .int
  | 6 => .array (.array .int)
  | 7 => .array (.array (.object "java/lang/String"))
  | _ => .array (.object "KitePainterLaw$Cell")
abbrev wsX70 : List Cond := u_ws RX7 TX7 9
theorem nmX7 : ∀ a, a < 9 → ∀ b, b < 9 → a ≠ b → (TX7 a).2.1 ≠ (TX7 b).2.1 := by decide +kernel
theorem tyX7_ok : ∀ k, k < 9 → parseFieldDescriptor (TX7 k).2.2.1 = some (tyX7 k) := by decide +kernel
abbrev cX7_init : ByteArray := prog_9_method_1_code
def yX7_init : MethodName := ⟨RX7, "<init>", "()V"⟩
abbrev cX7_lay : ByteArray := prog_9_method_2_code
def yX7_lay : MethodName := ⟨RX7, "lay", "([I)LKitePainterLaw$Kite;"⟩
abbrev cX7_copy : ByteArray := prog_9_method_3_code
def yX7_copy : MethodName := ⟨RX7, "copy", "()LKitePainterLaw$Kite;"⟩
abbrev cX7_at : ByteArray := prog_9_method_4_code
def yX7_at : MethodName := ⟨RX7, "at", "(II)LKitePainterLaw$Cell;"⟩
abbrev cX7_numberOf : ByteArray := prog_9_method_5_code
def yX7_numberOf : MethodName := ⟨RX7, "numberOf", "(LKitePainterLaw$Cell;)I"⟩
abbrev cX7_mirror : ByteArray := prog_9_method_6_code
def yX7_mirror : MethodName := ⟨RX7, "mirror", "(LKitePainterLaw$Cell;)LKitePainterLaw$Cell;"⟩
abbrev cX7_beside : ByteArray := prog_9_method_7_code
def yX7_beside : MethodName := ⟨RX7, "beside", "(LKitePainterLaw$Cell;I)LKitePainterLaw$Cell;"⟩
abbrev cX7_mix : ByteArray := prog_9_method_8_code
def yX7_mix : MethodName := ⟨RX7, "mix", "(II)I"⟩
abbrev cX7_weight : ByteArray := prog_9_method_9_code
def yX7_weight : MethodName := ⟨RX7, "weight", "(LKitePainterLaw$Cell;)I"⟩
abbrev cX7_half : ByteArray := prog_9_method_10_code
def yX7_half : MethodName := ⟨RX7, "half", "(I)I"⟩
abbrev cX7_balance : ByteArray := prog_9_method_11_code
def yX7_balance : MethodName := ⟨RX7, "balance", "()I"⟩
abbrev cX7_bleeds : ByteArray := prog_9_method_12_code
def yX7_bleeds : MethodName := ⟨RX7, "bleeds", "(LKitePainterLaw$Cell;)I"⟩
abbrev cX7_ticks : ByteArray := prog_9_method_13_code
def yX7_ticks : MethodName := ⟨RX7, "ticks", "()I"⟩
abbrev cX7_told : ByteArray := prog_9_method_14_code
def yX7_told : MethodName := ⟨RX7, "told", "(I)I"⟩
abbrev cX7_count : ByteArray := prog_9_method_15_code
def yX7_count : MethodName := ⟨RX7, "count", "(I)I"⟩
abbrev cX7_unlike : ByteArray := prog_9_method_16_code
def yX7_unlike : MethodName := ⟨RX7, "unlike", "()I"⟩
abbrev cX7_marks : ByteArray := prog_9_method_17_code
def yX7_marks : MethodName := ⟨RX7, "marks", "(LKitePainterLaw$Cell;[Z)I"⟩
abbrev cX7_washes : ByteArray := prog_9_method_20_code
def yX7_washes : MethodName := ⟨RX7, "washes", "(LKitePainterLaw$Cell;)I"⟩
abbrev cX7_paints : ByteArray := prog_9_method_21_code
def yX7_paints : MethodName := ⟨RX7, "paints", "(LKitePainterLaw$Cell;IIZ)V"⟩
abbrev cX7_strokes : ByteArray := prog_9_method_22_code
def yX7_strokes : MethodName := ⟨RX7, "strokes", "(LKitePainterLaw$Cell;III)I"⟩
abbrev cX7_stamps : ByteArray := prog_9_method_23_code
def yX7_stamps : MethodName := ⟨RX7, "stamps", "([Ljava/lang/String;IIZ)I"⟩
abbrev cX7_spars : ByteArray := prog_9_method_24_code
def yX7_spars : MethodName := ⟨RX7, "spars", "(LKitePainterLaw$Cell;ZI)I"⟩
abbrev cX7_of : ByteArray := prog_9_method_26_code
def yX7_of : MethodName := ⟨RX7, "of", "(LKitePainterLaw$Cell;I)I"⟩
abbrev cX7_checksum : ByteArray := prog_9_method_27_code
def yX7_checksum : MethodName := ⟨RX7, "checksum", "()J"⟩
def RX8 : String := "KitePainterLaw$Random"
def TX8 : u_T := fun k => match k with
  | _ => ("KitePainterLaw$Random", "seed", "I", false)
def tyX8 : Nat → FieldType := fun k => match k with
  | _ => .int
abbrev wsX80 : List Cond := u_ws RX8 TX8 1
theorem nmX8 : ∀ a, a < 1 → ∀ b, b < 1 → a ≠ b → (TX8 a).2.1 ≠ (TX8 b).2.1 := by decide +kernel
theorem tyX8_ok : ∀ k, k < 1 → parseFieldDescriptor (TX8 k).2.2.1 = some (tyX8 k) := by decide +kernel
abbrev cX8_init : ByteArray := prog_10_method_1_code
def yX8_init : MethodName := ⟨RX8, "<init>", "(I)V"⟩
abbrev cX8_below : ByteArray := prog_10_method_2_code
def yX8_below : MethodName := ⟨RX8, "below", "(I)I"⟩
def RX9 : String := "KitePainterModel"
def TX9 : u_T := fun k => match k with
  | _ => ("", "", "", false)
def tyX9 : Nat → FieldType := fun k => match k with
  | _ => .int
abbrev wsX90 : List Cond := u_ws RX9 TX9 0
theorem nmX9 : ∀ a, a < 0 → ∀ b, b < 0 → a ≠ b → (TX9 a).2.1 ≠ (TX9 b).2.1 := by decide +kernel
theorem tyX9_ok : ∀ k, k < 0 → parseFieldDescriptor (TX9 k).2.2.1 = some (tyX9 k) := by decide +kernel
def RJx145de : String := "java/io/Serializable"
def TJx145de : u_T := fun k => match k with
  | _ => ("", "", "", false)
def tyJx145de : Nat → FieldType := fun k => match k with
  | _ => .int
abbrev wsJx145de0 : List Cond := u_ws RJx145de TJx145de 0
theorem nmJx145de : ∀ a, a < 0 → ∀ b, b < 0 → a ≠ b → (TJx145de a).2.1 ≠ (TJx145de b).2.1 := by decide +kernel
theorem tyJx145de_ok : ∀ k, k < 0 → parseFieldDescriptor (TJx145de k).2.2.1 = some (tyJx145de k) := by decide +kernel
def RJ5 : String := "java/lang/AbstractStringBuilder"
def TJ5 : u_T := fun k => match k with
  | _ => ("", "", "", false)
def tyJ5 : Nat → FieldType := fun k => match k with
  | _ => .int
abbrev wsJ50 : List Cond := u_ws RJ5 TJ5 0
theorem nmJ5 : ∀ a, a < 0 → ∀ b, b < 0 → a ≠ b → (TJ5 a).2.1 ≠ (TJ5 b).2.1 := by decide +kernel
theorem tyJ5_ok : ∀ k, k < 0 → parseFieldDescriptor (TJ5 k).2.2.1 = some (tyJ5 k) := by decide +kernel
abbrev cJ5_init_d00df : ByteArray := prog_12_method_2_code
def yJ5_init_d00df : MethodName := ⟨RJ5, "<init>", "(I)V"⟩
abbrev cJ5_length_8abf5 : ByteArray := prog_12_method_6_code
def yJ5_length_8abf5 : MethodName := ⟨RJ5, "length", "()I"⟩
abbrev cJ5_ensureCapacityInternal_d00df : ByteArray := prog_12_method_9_code
def yJ5_ensureCapacityInternal_d00df : MethodName := ⟨RJ5, "ensureCapacityInternal", "(I)V"⟩
abbrev cJ5_newCapacity_0f7a4 : ByteArray := prog_12_method_10_code
def yJ5_newCapacity_0f7a4 : MethodName := ⟨RJ5, "newCapacity", "(I)I"⟩
abbrev cJ5_inflate_da8c8 : ByteArray := prog_12_method_11_code
def yJ5_inflate_da8c8 : MethodName := ⟨RJ5, "inflate", "()V"⟩
abbrev cJ5_append_cf1ce : ByteArray := prog_12_method_22_code
def yJ5_append_cf1ce : MethodName := ⟨RJ5, "append", "(Ljava/lang/String;)Ljava/lang/AbstractStringBuilder;"⟩
abbrev cJ5_appendNull_278bc : ByteArray := prog_12_method_26_code
def yJ5_appendNull_278bc : MethodName := ⟨RJ5, "appendNull", "()Ljava/lang/AbstractStringBuilder;"⟩
abbrev cJ5_append_3fe6f : ByteArray := prog_12_method_31_code
def yJ5_append_3fe6f : MethodName := ⟨RJ5, "append", "(C)Ljava/lang/AbstractStringBuilder;"⟩
abbrev cJ5_append_c97b9 : ByteArray := prog_12_method_32_code
def yJ5_append_c97b9 : MethodName := ⟨RJ5, "append", "(I)Ljava/lang/AbstractStringBuilder;"⟩
abbrev cJ5_getValue_6d5f1 : ByteArray := prog_12_method_64_code
def yJ5_getValue_6d5f1 : MethodName := ⟨RJ5, "getValue", "()[B"⟩
abbrev cJ5_isLatin1_aae02 : ByteArray := prog_12_method_68_code
def yJ5_isLatin1_aae02 : MethodName := ⟨RJ5, "isLatin1", "()Z"⟩
abbrev cJ5_inflateIfNeededFor_a7421 : ByteArray := prog_12_method_71_code
def yJ5_inflateIfNeededFor_a7421 : MethodName := ⟨RJ5, "inflateIfNeededFor", "(Ljava/lang/String;)V"⟩
abbrev cJ5_putStringAt_47b60 : ByteArray := prog_12_method_73_code
def yJ5_putStringAt_47b60 : MethodName := ⟨RJ5, "putStringAt", "(ILjava/lang/String;)V"⟩
def RJx2cfe8 : String := "java/lang/Appendable"
def TJx2cfe8 : u_T := fun k => match k with
  | _ => ("", "", "", false)
def tyJx2cfe8 : Nat → FieldType := fun k => match k with
  | _ => .int
abbrev wsJx2cfe80 : List Cond := u_ws RJx2cfe8 TJx2cfe8 0
theorem nmJx2cfe8 : ∀ a, a < 0 → ∀ b, b < 0 → a ≠ b → (TJx2cfe8 a).2.1 ≠ (TJx2cfe8 b).2.1 := by decide +kernel
theorem tyJx2cfe8_ok : ∀ k, k < 0 → parseFieldDescriptor (TJx2cfe8 k).2.2.1 = some (tyJx2cfe8 k) := by decide +kernel
def RJx9f9b0 : String := "java/lang/CharSequence"
def TJx9f9b0 : u_T := fun k => match k with
  | _ => ("", "", "", false)
def tyJx9f9b0 : Nat → FieldType := fun k => match k with
  | _ => .int
abbrev wsJx9f9b00 : List Cond := u_ws RJx9f9b0 TJx9f9b0 0
theorem nmJx9f9b0 : ∀ a, a < 0 → ∀ b, b < 0 → a ≠ b → (TJx9f9b0 a).2.1 ≠ (TJx9f9b0 b).2.1 := by decide +kernel
theorem tyJx9f9b0_ok : ∀ k, k < 0 → parseFieldDescriptor (TJx9f9b0 k).2.2.1 = some (tyJx9f9b0 k) := by decide +kernel
def RJx8e188 : String := "java/lang/Cloneable"
def TJx8e188 : u_T := fun k => match k with
  | _ => ("", "", "", false)
def tyJx8e188 : Nat → FieldType := fun k => match k with
  | _ => .int
abbrev wsJx8e1880 : List Cond := u_ws RJx8e188 TJx8e188 0
theorem nmJx8e188 : ∀ a, a < 0 → ∀ b, b < 0 → a ≠ b → (TJx8e188 a).2.1 ≠ (TJx8e188 b).2.1 := by decide +kernel
theorem tyJx8e188_ok : ∀ k, k < 0 → parseFieldDescriptor (TJx8e188 k).2.2.1 = some (tyJx8e188 k) := by decide +kernel
def RJxb160c : String := "java/lang/Comparable"
def TJxb160c : u_T := fun k => match k with
  | _ => ("", "", "", false)
def tyJxb160c : Nat → FieldType := fun k => match k with
  | _ => .int
abbrev wsJxb160c0 : List Cond := u_ws RJxb160c TJxb160c 0
theorem nmJxb160c : ∀ a, a < 0 → ∀ b, b < 0 → a ≠ b → (TJxb160c a).2.1 ≠ (TJxb160c b).2.1 := by decide +kernel
theorem tyJxb160c_ok : ∀ k, k < 0 → parseFieldDescriptor (TJxb160c k).2.2.1 = some (tyJxb160c k) := by decide +kernel
def RJ6 : String := "java/lang/Integer"
def TJ6 : u_T := fun k => match k with
  | _ => ("", "", "", false)
def tyJ6 : Nat → FieldType := fun k => match k with
  | _ => .int
abbrev wsJ60 : List Cond := u_ws RJ6 TJ6 0
theorem nmJ6 : ∀ a, a < 0 → ∀ b, b < 0 → a ≠ b → (TJ6 a).2.1 ≠ (TJ6 b).2.1 := by decide +kernel
theorem tyJ6_ok : ∀ k, k < 0 → parseFieldDescriptor (TJ6 k).2.2.1 = some (tyJ6 k) := by decide +kernel
abbrev cJ6_getChars_ba4f3 : ByteArray := prog_18_method_12_code
def yJ6_getChars_ba4f3 : MethodName := ⟨RJ6, "getChars", "(II[B)I"⟩
abbrev cJ6_stringSize_0f7a4 : ByteArray := prog_18_method_13_code
def yJ6_stringSize_0f7a4 : MethodName := ⟨RJ6, "stringSize", "(I)I"⟩
abbrev cJ6_compare_7cf53 : ByteArray := prog_18_method_40_code
def yJ6_compare_7cf53 : MethodName := ⟨RJ6, "compare", "(II)I"⟩
def RJ9 : String := "java/lang/Math"
def TJ9 : u_T := fun k => match k with
  | _ => ("", "", "", false)
def tyJ9 : Nat → FieldType := fun k => match k with
  | _ => .int
abbrev wsJ90 : List Cond := u_ws RJ9 TJ9 0
theorem nmJ9 : ∀ a, a < 0 → ∀ b, b < 0 → a ≠ b → (TJ9 a).2.1 ≠ (TJ9 b).2.1 := by decide +kernel
theorem tyJ9_ok : ∀ k, k < 0 → parseFieldDescriptor (TJ9 k).2.2.1 = some (tyJ9 k) := by decide +kernel
abbrev cJ9_abs_0f7a4 : ByteArray := prog_19_method_59_code
def yJ9_abs_0f7a4 : MethodName := ⟨RJ9, "abs", "(I)I"⟩
abbrev cJ9_max_7cf53 : ByteArray := prog_19_method_65_code
def yJ9_max_7cf53 : MethodName := ⟨RJ9, "max", "(II)I"⟩
abbrev cJ9_min_7cf53 : ByteArray := prog_19_method_69_code
def yJ9_min_7cf53 : MethodName := ⟨RJ9, "min", "(II)I"⟩
def RJxd2413 : String := "java/lang/Number"
def TJxd2413 : u_T := fun k => match k with
  | _ => ("", "", "", false)
def tyJxd2413 : Nat → FieldType := fun k => match k with
  | _ => .int
abbrev wsJxd24130 : List Cond := u_ws RJxd2413 TJxd2413 0
theorem nmJxd2413 : ∀ a, a < 0 → ∀ b, b < 0 → a ≠ b → (TJxd2413 a).2.1 ≠ (TJxd2413 b).2.1 := by decide +kernel
theorem tyJxd2413_ok : ∀ k, k < 0 → parseFieldDescriptor (TJxd2413 k).2.2.1 = some (tyJxd2413 k) := by decide +kernel
def RJ0 : String := "java/lang/String"
def TJ0 : u_T := fun k => match k with
  | 0 => ("java/lang/String", "value", "[B", true)
  | 1 => ("java/lang/String", "coder", "B", true)
  | 2 => ("java/lang/String", "hash", "I", false)
  | _ => ("java/lang/String", "hashIsZero", "Z", false)
def tyJ0 : Nat → FieldType := fun k => match k with
  | 0 => .array .byte
  | 1 => .byte
  | 2 => .int
  | _ => .boolean
abbrev wsJ00 : List Cond := u_ws RJ0 TJ0 4
theorem nmJ0 : ∀ a, a < 4 → ∀ b, b < 4 → a ≠ b → (TJ0 a).2.1 ≠ (TJ0 b).2.1 := by decide +kernel
theorem tyJ0_ok : ∀ k, k < 4 → parseFieldDescriptor (TJ0 k).2.2.1 = some (tyJ0 k) := by decide +kernel
abbrev cJ0_init_81219 : ByteArray := prog_22_method_53_code
def yJ0_init_81219 : MethodName := ⟨RJ0, "<init>", "(Ljava/lang/StringBuilder;)V"⟩
abbrev cJ0_length_8abf5 : ByteArray := prog_22_method_54_code
def yJ0_length_8abf5 : MethodName := ⟨RJ0, "length", "()I"⟩
abbrev cJ0_charAt_5068e : ByteArray := prog_22_method_56_code
def yJ0_charAt_5068e : MethodName := ⟨RJ0, "charAt", "(I)C"⟩
abbrev cJ0_getBytes_840e7 : ByteArray := prog_22_method_147_code
def yJ0_getBytes_840e7 : MethodName := ⟨RJ0, "getBytes", "([BIB)V"⟩
abbrev cJ0_init_db425 : ByteArray := prog_22_method_150_code
def yJ0_init_db425 : MethodName := ⟨RJ0, "<init>", "(Ljava/lang/AbstractStringBuilder;Ljava/lang/Void;)V"⟩
abbrev cJ0_coder_7d493 : ByteArray := prog_22_method_152_code
def yJ0_coder_7d493 : MethodName := ⟨RJ0, "coder", "()B"⟩
abbrev cJ0_isLatin1_aae02 : ByteArray := prog_22_method_154_code
def yJ0_isLatin1_aae02 : MethodName := ⟨RJ0, "isLatin1", "()Z"⟩
abbrev cJ0_checkIndex_df160 : ByteArray := prog_22_method_155_code
def yJ0_checkIndex_df160 : MethodName := ⟨RJ0, "checkIndex", "(II)V"⟩
abbrev cJ0_checkBoundsOffCount_cabcc : ByteArray := prog_22_method_157_code
def yJ0_checkBoundsOffCount_cabcc : MethodName := ⟨RJ0, "checkBoundsOffCount", "(III)I"⟩
abbrev cJ0_checkBoundsBeginEnd_23922 : ByteArray := prog_22_method_158_code
def yJ0_checkBoundsBeginEnd_23922 : MethodName := ⟨RJ0, "checkBoundsBeginEnd", "(III)V"⟩
def RJ4 : String := "java/lang/StringBuilder"
def TJ4 : u_T := fun k => match k with
  | 0 => ("java/lang/AbstractStringBuilder", "value", "[B", false)
  | 1 => ("java/lang/AbstractStringBuilder", "coder", "B", false)
  | 2 => ("java/lang/AbstractStringBuilder", "maybeLatin1", "Z", false)
  | _ => ("java/lang/AbstractStringBuilder", "count", "I", false)
def tyJ4 : Nat → FieldType := fun k => match k with
  | 0 => .array .byte
  | 1 => .byte
  | 2 => .boolean
  | _ => .int
abbrev wsJ40 : List Cond := u_ws RJ4 TJ4 4
theorem nmJ4 : ∀ a, a < 4 → ∀ b, b < 4 → a ≠ b → (TJ4 a).2.1 ≠ (TJ4 b).2.1 := by decide +kernel
theorem tyJ4_ok : ∀ k, k < 4 → parseFieldDescriptor (TJ4 k).2.2.1 = some (tyJ4 k) := by decide +kernel
abbrev cJ4_init_da8c8 : ByteArray := prog_23_method_1_code
def yJ4_init_da8c8 : MethodName := ⟨RJ4, "<init>", "()V"⟩
abbrev cJ4_append_15ec4 : ByteArray := prog_23_method_7_code
def yJ4_append_15ec4 : MethodName := ⟨RJ4, "append", "(Ljava/lang/String;)Ljava/lang/StringBuilder;"⟩
abbrev cJ4_append_cf468 : ByteArray := prog_23_method_14_code
def yJ4_append_cf468 : MethodName := ⟨RJ4, "append", "(C)Ljava/lang/StringBuilder;"⟩
abbrev cJ4_append_bf812 : ByteArray := prog_23_method_15_code
def yJ4_append_bf812 : MethodName := ⟨RJ4, "append", "(I)Ljava/lang/StringBuilder;"⟩
abbrev cJ4_toString_0e30d : ByteArray := prog_23_method_42_code
def yJ4_toString_0e30d : MethodName := ⟨RJ4, "toString", "()Ljava/lang/String;"⟩
abbrev cJ4_length_8abf5 : ByteArray := prog_23_method_93_code
def yJ4_length_8abf5 : MethodName := ⟨RJ4, "length", "()I"⟩
def RJ1 : String := "java/lang/StringLatin1"
def TJ1 : u_T := fun k => match k with
  | _ => ("", "", "", false)
def tyJ1 : Nat → FieldType := fun k => match k with
  | _ => .int
abbrev wsJ10 : List Cond := u_ws RJ1 TJ1 0
theorem nmJ1 : ∀ a, a < 0 → ∀ b, b < 0 → a ≠ b → (TJ1 a).2.1 ≠ (TJ1 b).2.1 := by decide +kernel
theorem tyJ1_ok : ∀ k, k < 0 → parseFieldDescriptor (TJ1 k).2.2.1 = some (tyJ1 k) := by decide +kernel
abbrev cJ1_charAt_3b067 : ByteArray := prog_24_method_2_code
def yJ1_charAt_3b067 : MethodName := ⟨RJ1, "charAt", "([BI)C"⟩
abbrev cJ1_canEncode_fc78d : ByteArray := prog_24_method_3_code
def yJ1_canEncode_fc78d : MethodName := ⟨RJ1, "canEncode", "(C)Z"⟩
abbrev cJ1_inflate_0e8fd : ByteArray := prog_24_method_50_code
def yJ1_inflate_0e8fd : MethodName := ⟨RJ1, "inflate", "([BI[BII)V"⟩
def RJ2 : String := "java/lang/StringUTF16"
def TJ2 : u_T := fun k => match k with
  | _ => ("", "", "", false)
def tyJ2 : Nat → FieldType := fun k => match k with
  | _ => .int
abbrev wsJ20 : List Cond := u_ws RJ2 TJ2 0
theorem nmJ2 : ∀ a, a < 0 → ∀ b, b < 0 → a ≠ b → (TJ2 a).2.1 ≠ (TJ2 b).2.1 := by decide +kernel
theorem tyJ2_ok : ∀ k, k < 0 → parseFieldDescriptor (TJ2 k).2.2.1 = some (tyJ2 k) := by decide +kernel
abbrev cJ2_newBytesFor_77867 : ByteArray := prog_25_method_2_code
def yJ2_newBytesFor_77867 : MethodName := ⟨RJ2, "newBytesFor", "(I)[B"⟩
abbrev cJ2_newBytesLength_0f7a4 : ByteArray := prog_25_method_3_code
def yJ2_newBytesLength_0f7a4 : MethodName := ⟨RJ2, "newBytesLength", "(I)I"⟩
abbrev cJ2_putChar_b72d1 : ByteArray := prog_25_method_4_code
def yJ2_putChar_b72d1 : MethodName := ⟨RJ2, "putChar", "([BII)V"⟩
abbrev cJ2_getChar_3b067 : ByteArray := prog_25_method_5_code
def yJ2_getChar_3b067 : MethodName := ⟨RJ2, "getChar", "([BI)C"⟩
abbrev cJ2_length_9d52b : ByteArray := prog_25_method_6_code
def yJ2_length_9d52b : MethodName := ⟨RJ2, "length", "([B)I"⟩
abbrev cJ2_coderFromArrayLen_85cad : ByteArray := prog_25_method_15_code
def yJ2_coderFromArrayLen_85cad : MethodName := ⟨RJ2, "coderFromArrayLen", "([BI)B"⟩
abbrev cJ2_compress_39247 : ByteArray := prog_25_method_17_code
def yJ2_compress_39247 : MethodName := ⟨RJ2, "compress", "([BII)[B"⟩
abbrev cJ2_compress_5af95 : ByteArray := prog_25_method_22_code
def yJ2_compress_5af95 : MethodName := ⟨RJ2, "compress", "([BI[BII)I"⟩
abbrev cJ2_putCharSB_b72d1 : ByteArray := prog_25_method_71_code
def yJ2_putCharSB_b72d1 : MethodName := ⟨RJ2, "putCharSB", "([BII)V"⟩
abbrev cJ2_getChars_46870 : ByteArray := prog_25_method_77_code
def yJ2_getChars_46870 : MethodName := ⟨RJ2, "getChars", "(III[B)I"⟩
abbrev cJ2_putCharsAt_cd4e5 : ByteArray := prog_25_method_81_code
def yJ2_putCharsAt_cd4e5 : MethodName := ⟨RJ2, "putCharsAt", "([BICCCC)I"⟩
abbrev cJ2_charAt_3b067 : ByteArray := prog_25_method_83_code
def yJ2_charAt_3b067 : MethodName := ⟨RJ2, "charAt", "([BI)C"⟩
abbrev cJ2_inflate_0e8fd : ByteArray := prog_25_method_86_code
def yJ2_inflate_0e8fd : MethodName := ⟨RJ2, "inflate", "([BI[BII)V"⟩
abbrev cJ2_getChars_ba4f3 : ByteArray := prog_25_method_89_code
def yJ2_getChars_ba4f3 : MethodName := ⟨RJ2, "getChars", "(II[B)I"⟩
abbrev cJ2_checkIndex_2214a : ByteArray := prog_25_method_91_code
def yJ2_checkIndex_2214a : MethodName := ⟨RJ2, "checkIndex", "(I[B)V"⟩
abbrev cJ2_checkBoundsBeginEnd_d044e : ByteArray := prog_25_method_93_code
def yJ2_checkBoundsBeginEnd_d044e : MethodName := ⟨RJ2, "checkBoundsBeginEnd", "(II[B)V"⟩
abbrev cJ2_checkBoundsOffCount_d044e : ByteArray := prog_25_method_94_code
def yJ2_checkBoundsOffCount_d044e : MethodName := ⟨RJ2, "checkBoundsOffCount", "(II[B)V"⟩
def RJ10 : String := "java/lang/System"
def TJ10 : u_T := fun k => match k with
  | _ => ("", "", "", false)
def tyJ10 : Nat → FieldType := fun k => match k with
  | _ => .int
abbrev wsJ100 : List Cond := u_ws RJ10 TJ10 0
theorem nmJ10 : ∀ a, a < 0 → ∀ b, b < 0 → a ≠ b → (TJ10 a).2.1 ≠ (TJ10 b).2.1 := by decide +kernel
theorem tyJ10_ok : ∀ k, k < 0 → parseFieldDescriptor (TJ10 k).2.2.1 = some (tyJ10 k) := by decide +kernel
def RJxfd54e : String := "java/lang/constant/Constable"
def TJxfd54e : u_T := fun k => match k with
  | _ => ("", "", "", false)
def tyJxfd54e : Nat → FieldType := fun k => match k with
  | _ => .int
abbrev wsJxfd54e0 : List Cond := u_ws RJxfd54e TJxfd54e 0
theorem nmJxfd54e : ∀ a, a < 0 → ∀ b, b < 0 → a ≠ b → (TJxfd54e a).2.1 ≠ (TJxfd54e b).2.1 := by decide +kernel
theorem tyJxfd54e_ok : ∀ k, k < 0 → parseFieldDescriptor (TJxfd54e k).2.2.1 = some (tyJxfd54e k) := by decide +kernel
def RJx3cf43 : String := "java/lang/constant/ConstantDesc"
def TJx3cf43 : u_T := fun k => match k with
  | _ => ("", "", "", false)
def tyJx3cf43 : Nat → FieldType := fun k => match k with
  | _ => .int
abbrev wsJx3cf430 : List Cond := u_ws RJx3cf43 TJx3cf43 0
theorem nmJx3cf43 : ∀ a, a < 0 → ∀ b, b < 0 → a ≠ b → (TJx3cf43 a).2.1 ≠ (TJx3cf43 b).2.1 := by decide +kernel
theorem tyJx3cf43_ok : ∀ k, k < 0 → parseFieldDescriptor (TJx3cf43 k).2.2.1 = some (tyJx3cf43 k) := by decide +kernel
def RJ7 : String := "java/util/Arrays"
def TJ7 : u_T := fun k => match k with
  | _ => ("", "", "", false)
def tyJ7 : Nat → FieldType := fun k => match k with
  | _ => .int
abbrev wsJ70 : List Cond := u_ws RJ7 TJ7 0
theorem nmJ7 : ∀ a, a < 0 → ∀ b, b < 0 → a ≠ b → (TJ7 a).2.1 ≠ (TJ7 b).2.1 := by decide +kernel
theorem tyJ7_ok : ∀ k, k < 0 → parseFieldDescriptor (TJ7 k).2.2.1 = some (tyJ7 k) := by decide +kernel
abbrev cJ7_fill_53178 : ByteArray := prog_28_method_103_code
def yJ7_fill_53178 : MethodName := ⟨RJ7, "fill", "([II)V"⟩
abbrev cJ7_copyOf_9075b : ByteArray := prog_28_method_121_code
def yJ7_copyOf_9075b : MethodName := ⟨RJ7, "copyOf", "([BI)[B"⟩
abbrev cJ7_checkLength_df160 : ByteArray := prog_28_method_131_code
def yJ7_checkLength_df160 : MethodName := ⟨RJ7, "checkLength", "(II)V"⟩
abbrev cJ7_copyOfRange_39247 : ByteArray := prog_28_method_132_code
def yJ7_copyOfRange_39247 : MethodName := ⟨RJ7, "copyOfRange", "([BII)[B"⟩
abbrev cJ7_copyOfRangeByte_39247 : ByteArray := prog_28_method_133_code
def yJ7_copyOfRangeByte_39247 : MethodName := ⟨RJ7, "copyOfRangeByte", "([BII)[B"⟩
def RJ8 : String := "jdk/internal/util/ArraysSupport"
def TJ8 : u_T := fun k => match k with
  | _ => ("", "", "", false)
def tyJ8 : Nat → FieldType := fun k => match k with
  | _ => .int
abbrev wsJ80 : List Cond := u_ws RJ8 TJ8 0
theorem nmJ8 : ∀ a, a < 0 → ∀ b, b < 0 → a ≠ b → (TJ8 a).2.1 ≠ (TJ8 b).2.1 := by decide +kernel
theorem tyJ8_ok : ∀ k, k < 0 → parseFieldDescriptor (TJ8 k).2.2.1 = some (tyJ8 k) := by decide +kernel
abbrev cJ8_newLength_cabcc : ByteArray := prog_29_method_27_code
def yJ8_newLength_cabcc : MethodName := ⟨RJ8, "newLength", "(III)I"⟩
abbrev cJ8_hugeLength_7cf53 : ByteArray := prog_29_method_28_code
def yJ8_hugeLength_7cf53 : MethodName := ⟨RJ8, "hugeLength", "(II)I"⟩
def RJ3 : String := "jdk/internal/util/Preconditions"
def TJ3 : u_T := fun k => match k with
  | _ => ("", "", "", false)
def tyJ3 : Nat → FieldType := fun k => match k with
  | _ => .int
abbrev wsJ30 : List Cond := u_ws RJ3 TJ3 0
theorem nmJ3 : ∀ a, a < 0 → ∀ b, b < 0 → a ≠ b → (TJ3 a).2.1 ≠ (TJ3 b).2.1 := by decide +kernel
theorem tyJ3_ok : ∀ k, k < 0 → parseFieldDescriptor (TJ3 k).2.2.1 = some (tyJ3 k) := by decide +kernel
abbrev cJ3_checkIndex_8e157 : ByteArray := prog_30_method_11_code
def yJ3_checkIndex_8e157 : MethodName := ⟨RJ3, "checkIndex", "(IILjava/util/function/BiFunction;)I"⟩
abbrev cJ3_checkFromToIndex_8c36e : ByteArray := prog_30_method_12_code
def yJ3_checkFromToIndex_8c36e : MethodName := ⟨RJ3, "checkFromToIndex", "(IIILjava/util/function/BiFunction;)I"⟩
abbrev cJ3_checkFromIndexSize_8c36e : ByteArray := prog_30_method_13_code
def yJ3_checkFromIndexSize_8c36e : MethodName := ⟨RJ3, "checkFromIndexSize", "(IIILjava/util/function/BiFunction;)I"⟩
def RL : String := "KitePainterLaw"
abbrev cL_put : ByteArray := method_2_code
def yL_put : MethodName := ⟨RL, "put", "(LKitePainter;[II)V"⟩
abbrev cL_flush : ByteArray := method_3_code
def yL_flush : MethodName := ⟨RL, "flush", "(LKitePainter;[I)V"⟩
abbrev cL_loadText : ByteArray := method_4_code
def yL_loadText : MethodName := ⟨RL, "loadText", "(LKitePainter;[I)I"⟩
abbrev cL_write : ByteArray := method_5_code
def yL_write : MethodName := ⟨RL, "write", "(LKitePainter;[ILjava/lang/String;)V"⟩
abbrev cL_writeNumber : ByteArray := method_6_code
def yL_writeNumber : MethodName := ⟨RL, "writeNumber", "(LKitePainter;[II)V"⟩
abbrev cL_load : ByteArray := method_7_code
def yL_load : MethodName := ⟨RL, "load", "(LKitePainter;I)I"⟩
abbrev cL_state : ByteArray := method_8_code
def yL_state : MethodName := ⟨RL, "state", "(LKitePainter;I)I"⟩
abbrev cL_cell : ByteArray := method_9_code
def yL_cell : MethodName := ⟨RL, "cell", "(LKitePainter;III)I"⟩
abbrev cL_mix : ByteArray := method_10_code
def yL_mix : MethodName := ⟨RL, "mix", "(LKitePainter;II)I"⟩
abbrev cL_count : ByteArray := method_11_code
def yL_count : MethodName := ⟨RL, "count", "(LKitePainter;I)I"⟩
abbrev cL_region : ByteArray := method_12_code
def yL_region : MethodName := ⟨RL, "region", "(LKitePainter;II)I"⟩
abbrev cL_regions : ByteArray := method_13_code
def yL_regions : MethodName := ⟨RL, "regions", "(LKitePainter;I)I"⟩
abbrev cL_bleeds : ByteArray := method_14_code
def yL_bleeds : MethodName := ⟨RL, "bleeds", "(LKitePainter;II)I"⟩
abbrev cL_foretold : ByteArray := method_15_code
def yL_foretold : MethodName := ⟨RL, "foretold", "(LKitePainter;II)I"⟩
abbrev cL_evens : ByteArray := method_16_code
def yL_evens : MethodName := ⟨RL, "evens", "(LKitePainter;I)I"⟩
abbrev cL_pattern : ByteArray := method_17_code
def yL_pattern : MethodName := ⟨RL, "pattern", "(LKitePainter;II)I"⟩
abbrev cL_pass : ByteArray := method_18_code
def yL_pass : MethodName := ⟨RL, "pass", "(LKitePainter;I)I"⟩
abbrev cL_paint : ByteArray := method_19_code
def yL_paint : MethodName := ⟨RL, "paint", "(LKitePainter;IIIIZ)I"⟩
abbrev cL_stroke : ByteArray := method_20_code
def yL_stroke : MethodName := ⟨RL, "stroke", "(LKitePainter;IIIII)I"⟩
abbrev cL_stamp : ByteArray := method_21_code
def yL_stamp : MethodName := ⟨RL, "stamp", "(LKitePainter;IIIZ)I"⟩
abbrev cL_spar : ByteArray := method_22_code
def yL_spar : MethodName := ⟨RL, "spar", "(LKitePainter;IIZI)I"⟩
abbrev cL_strip : ByteArray := method_23_code
def yL_strip : MethodName := ⟨RL, "strip", "(LKitePainter;II)I"⟩
abbrev cL_wash : ByteArray := method_24_code
def yL_wash : MethodName := ⟨RL, "wash", "(LKitePainter;II)I"⟩
abbrev cL_writeAll : ByteArray := method_25_code
def yL_writeAll : MethodName := ⟨RL, "writeAll", "(LKitePainter;[ILjava/lang/String;[I)V"⟩
abbrev cL_randomKite : ByteArray := method_26_code
def yL_randomKite : MethodName := ⟨RL, "randomKite", "(LKitePainter;[ILKitePainterLaw$Random;)LKitePainterLaw$Kite;"⟩
abbrev cL_agrees : ByteArray := method_27_code
def yL_agrees : MethodName := ⟨RL, "agrees", "(LKitePainter;LKitePainterLaw$Kite;)Z"⟩
abbrev cL_law : ByteArray := code
def yL_law : MethodName := ⟨RL, "law", "([I)Z"⟩
abbrev vwCl : List vw_C := [(RX0, TX0, 2), (RX1, TX1, 3), (RX2, TX2, 4), (RX3, TX3, 15), (RX4, TX4, 13), (RX5, TX5, 7), (RX6, TX6, 5), (RX7, TX7, 9), (RX8, TX8, 1), (RJ0, TJ0, 4), (RJ4, TJ4, 4)]
