/-! names of the classes, their fields (printed by the kit's program), the methods and the links of the constant pools, as data (wip/whole/gendata.py) -/
def RX0 : String := "ScaleNets$History"
def TX0 : u_T := fun k => match k with
  | 0 => ("ScaleNets$History", "kept", "[LScaleNets$Points;", true)
  | 1 => ("ScaleNets$History", "next", "I", false)
  | _ => ("ScaleNets$History", "held", "I", false)
def tyX0 : Nat → FieldType := fun k => match k with
  | 0 => .array (.object "ScaleNets$Points")
  | 1 => .int
  | _ => .int
abbrev wsX00 : List Cond := u_ws RX0 TX0 3
theorem nmX0 : ∀ a, a < 3 → ∀ b, b < 3 → a ≠ b → (TX0 a).2.1 ≠ (TX0 b).2.1 := by decide +kernel
theorem tyX0_ok : ∀ k, k < 3 → parseFieldDescriptor (TX0 k).2.2.1 = some (tyX0 k) := by decide +kernel
def RX1 : String := "ScaleNets$Image"
def TX1 : u_T := fun k => match k with
  | 0 => ("ScaleNets$Image", "bytes", "[I", true)
  | _ => ("ScaleNets$Image", "length", "I", false)
def tyX1 : Nat → FieldType := fun k => match k with
  | 0 => .array .int
  | _ => .int
abbrev wsX10 : List Cond := u_ws RX1 TX1 2
theorem nmX1 : ∀ a, a < 2 → ∀ b, b < 2 → a ≠ b → (TX1 a).2.1 ≠ (TX1 b).2.1 := by decide +kernel
theorem tyX1_ok : ∀ k, k < 2 → parseFieldDescriptor (TX1 k).2.2.1 = some (tyX1 k) := by decide +kernel
def RX3 : String := "ScaleNets$Points"
def TX3 : u_T := fun k => match k with
  | 0 => ("ScaleNets$Points", "place", "[I", true)
  | 1 => ("ScaleNets$Points", "level", "[I", true)
  | 2 => ("ScaleNets$Points", "parent", "[I", true)
  | 3 => ("ScaleNets$Points", "name", "[I", true)
  | 4 => ("ScaleNets$Points", "measure", "I", false)
  | 5 => ("ScaleNets$Points", "root", "I", false)
  | _ => ("ScaleNets$Points", "count", "I", false)
def tyX3 : Nat → FieldType := fun k => match k with
  | 0 => .array .int
  | 1 => .array .int
  | 2 => .array .int
  | 3 => .array .int
  | 4 => .int
  | 5 => .int
  | _ => .int
abbrev wsX30 : List Cond := u_ws RX3 TX3 7
theorem nmX3 : ∀ a, a < 7 → ∀ b, b < 7 → a ≠ b → (TX3 a).2.1 ≠ (TX3 b).2.1 := by decide +kernel
theorem tyX3_ok : ∀ k, k < 7 → parseFieldDescriptor (TX3 k).2.2.1 = some (tyX3 k) := by decide +kernel
def RX4 : String := "ScaleNets$Search"
def TX4 : u_T := fun k => match k with
  | 0 => ("ScaleNets$Search", "points", "LScaleNets$Points;", true)
  | 1 => ("ScaleNets$Search", "sign", "I", true)
  | 2 => ("ScaleNets$Search", "far", "[I", true)
  | 3 => ("ScaleNets$Search", "goingOn", "[Z", true)
  | 4 => ("ScaleNets$Search", "prunedPoint", "[I", true)
  | 5 => ("ScaleNets$Search", "prunedAt", "[I", true)
  | 6 => ("ScaleNets$Search", "prunedFar", "[I", true)
  | 7 => ("ScaleNets$Search", "prunedSpares", "[I", true)
  | 8 => ("ScaleNets$Search", "prunedRows", "I", false)
  | 9 => ("ScaleNets$Search", "lookedAt", "I", false)
  | 10 => ("ScaleNets$Search", "best", "I", false)
  | _ => ("ScaleNets$Search", "bestFar", "I", false)
def tyX4 : Nat → FieldType := fun k => match k with
  | 0 => .object "ScaleNets$Points"
  | 1 => .int
  | 2 => .array .int
  | 3 => .array .boolean
  | 4 => .array .int
  | 5 => .array .int
  | 6 => .array .int
  | 7 => .array .int
  | 8 => .int
  | 9 => .int
  | 10 => .int
  | _ => .int
abbrev wsX40 : List Cond := u_ws RX4 TX4 12
theorem nmX4 : ∀ a, a < 12 → ∀ b, b < 12 → a ≠ b → (TX4 a).2.1 ≠ (TX4 b).2.1 := by decide +kernel
theorem tyX4_ok : ∀ k, k < 12 → parseFieldDescriptor (TX4 k).2.2.1 = some (tyX4 k) := by decide +kernel
def RX5 : String := "ScaleNets$Seen"
def TX5 : u_T := fun k => match k with
  | 0 => ("ScaleNets$Seen", "points", "LScaleNets$Points;", true)
  | 1 => ("ScaleNets$Seen", "one", "[I", true)
  | 2 => ("ScaleNets$Seen", "other", "[I", true)
  | 3 => ("ScaleNets$Seen", "far", "[I", true)
  | 4 => ("ScaleNets$Seen", "fit", "[Z", true)
  | _ => ("ScaleNets$Seen", "rows", "I", false)
def tyX5 : Nat → FieldType := fun k => match k with
  | 0 => .object "ScaleNets$Points"
  | 1 => .array .int
  | 2 => .array .int
  | 3 => .array .int
  | 4 => .array .boolean
  | _ => .int
abbrev wsX50 : List Cond := u_ws RX5 TX5 6
theorem nmX5 : ∀ a, a < 6 → ∀ b, b < 6 → a ≠ b → (TX5 a).2.1 ≠ (TX5 b).2.1 := by decide +kernel
theorem tyX5_ok : ∀ k, k < 6 → parseFieldDescriptor (TX5 k).2.2.1 = some (tyX5 k) := by decide +kernel
def RX6 : String := "ScaleNets$SetText"
def TX6 : u_T := fun k => match k with
  | 0 => ("ScaleNets$SetText", "tape", "LScaleNets$Tape;", true)
  | 1 => ("ScaleNets$SetText", "place", "[I", true)
  | 2 => ("ScaleNets$SetText", "name", "[I", true)
  | 3 => ("ScaleNets$SetText", "measure", "I", false)
  | 4 => ("ScaleNets$SetText", "count", "I", false)
  | 5 => ("ScaleNets$SetText", "fault", "I", false)
  | 6 => ("ScaleNets$SetText", "faultPlace", "I", false)
  | 7 => ("ScaleNets$SetText", "next", "I", false)
  | _ => ("ScaleNets$SetText", "numberStart", "I", false)
def tyX6 : Nat → FieldType := fun k => match k with
  | 0 => .object "ScaleNets$Tape"
  | 1 => .array .int
  | 2 => .array .int
  | 3 => .int
  | 4 => .int
  | 5 => .int
  | 6 => .int
  | 7 => .int
  | _ => .int
abbrev wsX60 : List Cond := u_ws RX6 TX6 9
theorem nmX6 : ∀ a, a < 9 → ∀ b, b < 9 → a ≠ b → (TX6 a).2.1 ≠ (TX6 b).2.1 := by decide +kernel
theorem tyX6_ok : ∀ k, k < 9 → parseFieldDescriptor (TX6 k).2.2.1 = some (tyX6 k) := by decide +kernel
def RX7 : String := "ScaleNets$Tape"
def TX7 : u_T := fun k => match k with
  | 0 => ("ScaleNets$Tape", "bytes", "[I", true)
  | _ => ("ScaleNets$Tape", "length", "I", false)
def tyX7 : Nat → FieldType := fun k => match k with
  | 0 => .array .int
  | _ => .int
abbrev wsX70 : List Cond := u_ws RX7 TX7 2
theorem nmX7 : ∀ a, a < 2 → ∀ b, b < 2 → a ≠ b → (TX7 a).2.1 ≠ (TX7 b).2.1 := by decide +kernel
theorem tyX7_ok : ∀ k, k < 2 → parseFieldDescriptor (TX7 k).2.2.1 = some (tyX7 k) := by decide +kernel
def RX8 : String := "ScaleNets$Whole"
def TX8 : u_T := fun k => match k with
  | 0 => ("ScaleNets$Whole", "points", "LScaleNets$Points;", true)
  | 1 => ("ScaleNets$Whole", "thinned", "[I", true)
  | 2 => ("ScaleNets$Whole", "links", "[I", true)
  | 3 => ("ScaleNets$Whole", "leastOfGroup", "[I", true)
  | 4 => ("ScaleNets$Whole", "leastFar", "[I", true)
  | 5 => ("ScaleNets$Whole", "nearestPair", "[I", true)
  | 6 => ("ScaleNets$Whole", "ofCenter", "[I", true)
  | 7 => ("ScaleNets$Whole", "taken", "[Z", true)
  | _ => ("ScaleNets$Whole", "linked", "I", false)
def tyX8 : Nat → FieldType := fun k => match k with
  | 0 => .object "ScaleNets$Points"
  | 1 => .array .int
  | 2 => .array .int
  | 3 => .array .int
  | 4 => .array .int
  | 5 => .array .int
  | 6 => .array .int
  | 7 => .array .boolean
  | _ => .int
abbrev wsX80 : List Cond := u_ws RX8 TX8 9
theorem nmX8 : ∀ a, a < 9 → ∀ b, b < 9 → a ≠ b → (TX8 a).2.1 ≠ (TX8 b).2.1 := by decide +kernel
theorem tyX8_ok : ∀ k, k < 9 → parseFieldDescriptor (TX8 k).2.2.1 = some (tyX8 k) := by decide +kernel
def RX9 : String := "ScaleNets"
def TX9 : u_T := fun k => match k with
  | 0 => ("ScaleNets", "tape", "LScaleNets$Tape;", true)
  | 1 => ("ScaleNets", "text", "LScaleNets$SetText;", true)
  | 2 => ("ScaleNets", "points", "LScaleNets$Points;", true)
  | 3 => ("ScaleNets", "trial", "LScaleNets$Points;", true)
  | 4 => ("ScaleNets", "history", "LScaleNets$History;", true)
  | 5 => ("ScaleNets", "nearestSearch", "LScaleNets$Search;", true)
  | 6 => ("ScaleNets", "farthestSearch", "LScaleNets$Search;", true)
  | 7 => ("ScaleNets", "whole", "LScaleNets$Whole;", true)
  | 8 => ("ScaleNets", "seen", "LScaleNets$Seen;", true)
  | 9 => ("ScaleNets", "written", "LScaleNets$Image;", true)
  | 10 => ("ScaleNets", "refused", "[I", true)
  | _ => ("ScaleNets", "seedNow", "J", false)
def tyX9 : Nat → FieldType := fun k => match k with
  | 0 => .object "ScaleNets$Tape"
  | 1 => .object "ScaleNets$SetText"
  | 2 => .object "ScaleNets$Points"
  | 3 => .object "ScaleNets$Points"
  | 4 => .object "ScaleNets$History"
  | 5 => .object "ScaleNets$Search"
  | 6 => .object "ScaleNets$Search"
  | 7 => .object "ScaleNets$Whole"
  | 8 => .object "ScaleNets$Seen"
  | 9 => .object "ScaleNets$Image"
  | 10 => .array .int
  | _ => .long
abbrev wsX90 : List Cond := u_ws RX9 TX9 12
theorem nmX9 : ∀ a, a < 12 → ∀ b, b < 12 → a ≠ b → (TX9 a).2.1 ≠ (TX9 b).2.1 := by decide +kernel
theorem tyX9_ok : ∀ k, k < 12 → parseFieldDescriptor (TX9 k).2.2.1 = some (tyX9 k) := by decide +kernel
def RX10 : String := "ScaleNetsModel"
def TX10 : u_T := fun k => match k with
  | 0 => ("ScaleNetsModel", "now", "[I", true)
  | 1 => ("ScaleNetsModel", "kept", "[I", true)
  | 2 => ("ScaleNetsModel", "stash", "[I", true)
  | 3 => ("ScaleNetsModel", "other", "[I", true)
  | 4 => ("ScaleNetsModel", "undone", "I", false)
  | 5 => ("ScaleNetsModel", "seed", "I", false)
  | 6 => ("ScaleNetsModel", "hasSet", "Z", false)
  | 7 => ("ScaleNetsModel", "tape", "[I", true)
  | 8 => ("ScaleNetsModel", "taped", "I", false)
  | 9 => ("ScaleNetsModel", "refused", "[I", true)
  | 10 => ("ScaleNetsModel", "faultKind", "I", false)
  | 11 => ("ScaleNetsModel", "faultPlace", "I", false)
  | 12 => ("ScaleNetsModel", "size", "I", false)
  | 13 => ("ScaleNetsModel", "at", "I", false)
  | 14 => ("ScaleNetsModel", "from", "I", false)
  | 15 => ("ScaleNetsModel", "wrong", "I", false)
  | 16 => ("ScaleNetsModel", "wrongAt", "I", false)
  | 17 => ("ScaleNetsModel", "ownLetters", "[I", true)
  | 18 => ("ScaleNetsModel", "readMany", "I", false)
  | 19 => ("ScaleNetsModel", "readMeasure", "I", false)
  | 20 => ("ScaleNetsModel", "readPlace", "[I", true)
  | 21 => ("ScaleNetsModel", "readName", "[I", true)
  | 22 => ("ScaleNetsModel", "left", "[I", true)
  | 23 => ("ScaleNetsModel", "stand", "[I", true)
  | 24 => ("ScaleNetsModel", "best", "I", false)
  | 25 => ("ScaleNetsModel", "looked", "I", false)
  | 26 => ("ScaleNetsModel", "hasFound", "Z", false)
  | 27 => ("ScaleNetsModel", "foundFar", "I", false)
  | 28 => ("ScaleNetsModel", "foundLooked", "I", false)
  | 29 => ("ScaleNetsModel", "foundSpared", "I", false)
  | 30 => ("ScaleNetsModel", "prunedMany", "I", false)
  | 31 => ("ScaleNetsModel", "prunedRow", "[I", true)
  | 32 => ("ScaleNetsModel", "thinned", "[I", true)
  | 33 => ("ScaleNetsModel", "isThinned", "[I", true)
  | 34 => ("ScaleNetsModel", "groupOf", "[I", true)
  | 35 => ("ScaleNetsModel", "linkRow", "[I", true)
  | 36 => ("ScaleNetsModel", "rows", "I", false)
  | 37 => ("ScaleNetsModel", "seenOne", "[I", true)
  | 38 => ("ScaleNetsModel", "seenTwo", "[I", true)
  | 39 => ("ScaleNetsModel", "seenFar", "[I", true)
  | 40 => ("ScaleNetsModel", "image", "[I", true)
  | _ => ("ScaleNetsModel", "outs", "I", false)
def tyX10 : Nat → FieldType := fun k => match k with
  | 0 => .array .int
  | 1 => .array .int
  | 2 => .array .int
  | 3 => .array .int
  | 4 => .int
  | 5 => .int
  | 6 => .boolean
  | 7 => .array .int
  | 8 => .int
  | 9 => .array .int
  | 10 => .int
  | 11 => .int
  | 12 => .int
  | 13 => .int
  | 14 => .int
  | 15 => .int
  | 16 => .int
  | 17 => .array .int
  | 18 => .int
  | 19 => .int
  | 20 => .array .int
  | 21 => .array .int
  | 22 => .array .int
  | 23 => .array .int
  | 24 => .int
  | 25 => .int
  | 26 => .boolean
  | 27 => .int
  | 28 => .int
  | 29 => .int
  | 30 => .int
  | 31 => .array .int
  | 32 => .array .int
  | 33 => .array .int
  | 34 => .array .int
  | 35 => .array .int
  | 36 => .int
  | 37 => .array .int
  | 38 => .array .int
  | 39 => .array .int
  | 40 => .array .int
  | _ => .int
abbrev wsX100 : List Cond := u_ws RX10 TX10 42
theorem nmX10 : ∀ a, a < 42 → ∀ b, b < 42 → a ≠ b → (TX10 a).2.1 ≠ (TX10 b).2.1 := by decide +kernel
theorem tyX10_ok : ∀ k, k < 42 → parseFieldDescriptor (TX10 k).2.2.1 = some (tyX10 k) := by decide +kernel
def sx_cls : List vw_C := [(RX0, TX0, 3), (RX1, TX1, 2), (RX3, TX3, 7), (RX4, TX4, 12), (RX5, TX5, 6), (RX6, TX6, 9), (RX7, TX7, 2), (RX8, TX8, 9), (RX9, TX9, 12), (RX10, TX10, 42)]
def sx_tyl : List (Nat → FieldType) := [tyX0, tyX1, tyX3, tyX4, tyX5, tyX6, tyX7, tyX8, tyX9, tyX10]
def sx_own : List String := ["ScaleNetsLaw", "ScaleNets", "ScaleNets$Tape", "ScaleNets$SetText", "ScaleNets$Points", "java/util/Arrays", "ScaleNets$History", "ScaleNets$Search", "ScaleNets$Whole", "ScaleNets$Seen", "ScaleNets$Image", "java/lang/Integer", "ScaleNets$Pair", "ScaleNetsModel"]
def sx_mt1 : List (MethodName × ByteArray × Nat × Option FieldType × Nat × Nat × Nat × Nat × Nat × Nat) := [(x, code, 4, (some .boolean), 0, 11, 248, 99, 0, 102)]
def sx_mt2 : List (MethodName × ByteArray × Nat × Option FieldType × Nat × Nat × Nat × Nat × Nat × Nat) := [(⟨"ScaleNets", "<init>", "()V"⟩, prog_1_method_1_code, 1, none, 1, 3, 64, 8, 126, 103),
  (⟨"ScaleNets$Tape", "<init>", "()V"⟩, prog_9_method_1_code, 1, none, 2, 1, 20, 6, 134, 104),
  (⟨"ScaleNets$SetText", "<init>", "(LScaleNets$Tape;)V"⟩, prog_8_method_1_code, 2, none, 3, 1, 20, 5, 152, 105),
  (⟨"ScaleNets$Points", "<init>", "()V"⟩, prog_5_method_1_code, 1, none, 4, 1, 23, 2, 192, 106),
  (⟨"java/util/Arrays", "fill", "([II)V"⟩, prog_19_method_103_code, 4, none, 5, 0, 0, 99, 196, 107),
  (⟨"ScaleNets$History", "<init>", "()V"⟩, prog_2_method_1_code, 2, none, 6, 2, 43, 0, 243, 108),
  (⟨"ScaleNets$Search", "<init>", "(LScaleNets$Points;Z)V"⟩, prog_6_method_1_code, 3, none, 7, 1, 20, 3, 263, 109),
  (⟨"ScaleNets$Whole", "<init>", "(LScaleNets$Points;)V"⟩, prog_10_method_1_code, 2, none, 8, 1, 20, 7, 315, 110),
  (⟨"ScaleNets$Seen", "<init>", "(LScaleNets$Points;)V"⟩, prog_7_method_1_code, 2, none, 9, 1, 20, 4, 352, 111),
  (⟨"ScaleNets$Image", "<init>", "()V"⟩, prog_3_method_1_code, 1, none, 10, 1, 20, 1, 378, 112),
  (⟨"ScaleNets", "feed", "(IIIII)I"⟩, prog_1_method_2_code, 6, (some .int), 1, 1, 22, 8, 429, 103),
  (⟨"ScaleNets", "refuse", "(I)I"⟩, prog_1_method_54_code, 2, (some .int), 1, 0, 0, 8, 433, 103),
  (⟨"ScaleNets$Tape", "putNumber", "(I)V"⟩, prog_9_method_2_code, 3, none, 2, 0, 0, 6, 437, 104),
  (⟨"ScaleNets", "end", "(I)Z"⟩, prog_1_method_3_code, 2, (some .boolean), 1, 1, 21, 8, 441, 103),
  (⟨"ScaleNets", "set", "()I"⟩, prog_1_method_4_code, 3, (some .int), 1, 10, 226, 8, 445, 103),
  (⟨"ScaleNets$SetText", "read", "()Z"⟩, prog_8_method_2_code, 2, (some .boolean), 3, 9, 205, 5, 449, 105),
  (⟨"ScaleNets$SetText", "readMeasure", "()Z"⟩, prog_8_method_3_code, 1, (some .boolean), 3, 7, 163, 5, 453, 105),
  (⟨"ScaleNets$SetText", "takeWord", "(Ljava/lang/String;)Z"⟩, prog_8_method_9_code, 2, (some .boolean), 3, 6, 142, 5, 458, 105),
  (⟨"ScaleNets$SetText", "skipBlanks", "()V"⟩, prog_8_method_12_code, 1, none, 3, 1, 21, 5, 462, 105),
  (⟨"ScaleNets$Tape", "byteAt", "(I)I"⟩, prog_9_method_3_code, 2, (some .int), 2, 0, 0, 6, 466, 104),
  (⟨"ScaleNets$SetText", "spells", "(Ljava/lang/String;)Z"⟩, prog_8_method_14_code, 3, (some .boolean), 3, 5, 120, 5, 470, 105),
  (⟨"ScaleNets", "isLetter", "(I)Z"⟩, prog_1_method_60_code, 1, (some .boolean), 1, 0, 0, 8, 521, 103),
  (⟨"ScaleNets$SetText", "wrong", "(II)Z"⟩, prog_8_method_15_code, 3, (some .boolean), 3, 0, 0, 5, 525, 105),
  (⟨"ScaleNets$SetText", "takeSemicolon", "()Z"⟩, prog_8_method_10_code, 1, (some .boolean), 3, 2, 41, 5, 531, 105),
  (⟨"ScaleNets$SetText", "isMoreAhead", "()Z"⟩, prog_8_method_11_code, 1, (some .boolean), 3, 2, 41, 5, 537, 105),
  (⟨"ScaleNets$SetText", "readPoint", "()Z"⟩, prog_8_method_4_code, 1, (some .boolean), 3, 8, 185, 5, 541, 105),
  (⟨"ScaleNets$SetText", "takeName", "()Z"⟩, prog_8_method_5_code, 4, (some .boolean), 3, 7, 162, 5, 546, 105),
  (⟨"ScaleNets$SetText", "isOwnWord", "()Z"⟩, prog_8_method_13_code, 1, (some .boolean), 3, 6, 142, 5, 550, 105),
  (⟨"ScaleNets$SetText", "isAmong", "([II)Z"⟩, prog_8_method_8_code, 4, (some .boolean), 3, 0, 0, 5, 555, 105),
  (⟨"ScaleNets$SetText", "takePlace", "()Z"⟩, prog_8_method_6_code, 6, (some .boolean), 3, 3, 64, 5, 559, 105)]
def sx_mt3 : List (MethodName × ByteArray × Nat × Option FieldType × Nat × Nat × Nat × Nat × Nat × Nat) := [(⟨"ScaleNets$SetText", "takeNumber", "()I"⟩, prog_8_method_7_code, 4, (some .int), 3, 2, 41, 5, 563, 105),
  (⟨"ScaleNets", "isDigit", "(I)Z"⟩, prog_1_method_61_code, 1, (some .boolean), 1, 0, 0, 8, 566, 103),
  (⟨"ScaleNets", "placeOf", "(III)I"⟩, prog_1_method_62_code, 3, (some .int), 1, 1, 20, 8, 569, 103),
  (⟨"ScaleNets", "isCoordinate", "(I)Z"⟩, prog_1_method_59_code, 1, (some .boolean), 1, 0, 0, 8, 572, 103),
  (⟨"ScaleNets$Points", "clear", "()V"⟩, prog_5_method_2_code, 1, none, 4, 1, 23, 2, 576, 106),
  (⟨"ScaleNets$Points", "comeAt", "(II)V"⟩, prog_5_method_13_code, 3, none, 4, 5, 129, 2, 580, 106),
  (⟨"ScaleNets$Points", "settle", "(III)V"⟩, prog_5_method_14_code, 5, none, 4, 4, 105, 2, 584, 106),
  (⟨"ScaleNets$Points", "levelFrom", "(II)I"⟩, prog_5_method_12_code, 5, (some .int), 4, 3, 81, 2, 588, 106),
  (⟨"ScaleNets$Points", "nearestOfNet", "(II)I"⟩, prog_5_method_11_code, 7, (some .int), 4, 2, 55, 2, 592, 106),
  (⟨"ScaleNets$Points", "farBy", "(III)I"⟩, prog_5_method_5_code, 6, (some .int), 4, 1, 30, 2, 595, 106),
  (⟨"java/lang/Integer", "bitCount", "(I)I"⟩, prog_13_method_49_code, 1, (some .int), 11, 0, 0, 99, 598, 118),
  (⟨"ScaleNets$Points", "farToPlace", "(II)I"⟩, prog_5_method_7_code, 3, (some .int), 4, 2, 55, 2, 611, 106),
  (⟨"ScaleNets$History", "forget", "()V"⟩, prog_2_method_4_code, 1, none, 6, 0, 0, 0, 615, 108),
  (⟨"ScaleNets$Search", "forget", "()V"⟩, prog_6_method_2_code, 1, none, 7, 0, 0, 3, 619, 109),
  (⟨"ScaleNets", "fault", "(I)I"⟩, prog_1_method_5_code, 2, (some .int), 1, 0, 0, 8, 624, 103),
  (⟨"ScaleNets", "has", "(I)I"⟩, prog_1_method_6_code, 2, (some .int), 1, 1, 22, 8, 628, 103),
  (⟨"ScaleNets$Points", "greatestLevelBelowRoot", "()I"⟩, prog_5_method_19_code, 3, (some .int), 4, 0, 0, 2, 632, 106),
  (⟨"ScaleNets", "letter", "(II)I"⟩, prog_1_method_7_code, 3, (some .int), 1, 1, 21, 8, 636, 103),
  (⟨"ScaleNets$Points", "isThere", "(I)Z"⟩, prog_5_method_4_code, 2, (some .boolean), 4, 0, 0, 2, 640, 106),
  (⟨"ScaleNets", "named", "()I"⟩, prog_1_method_8_code, 2, (some .int), 1, 2, 44, 8, 644, 103),
  (⟨"ScaleNets$Tape", "asName", "()I"⟩, prog_9_method_4_code, 4, (some .int), 2, 1, 21, 6, 648, 104),
  (⟨"ScaleNets$Points", "pointNamed", "(I)I"⟩, prog_5_method_9_code, 3, (some .int), 4, 0, 0, 2, 654, 106),
  (⟨"ScaleNets", "point", "(II)I"⟩, prog_1_method_9_code, 3, (some .int), 1, 3, 68, 8, 658, 103),
  (⟨"ScaleNets$Points", "childrenOf", "(I)I"⟩, prog_5_method_22_code, 4, (some .int), 4, 0, 0, 2, 662, 106),
  (⟨"ScaleNets$Points", "belowOf", "(I)I"⟩, prog_5_method_25_code, 4, (some .int), 4, 2, 45, 2, 666, 106),
  (⟨"ScaleNets$Points", "branchTo", "(II)I"⟩, prog_5_method_26_code, 5, (some .int), 4, 1, 21, 2, 670, 106),
  (⟨"ScaleNets", "at", "(III)I"⟩, prog_1_method_10_code, 5, (some .int), 1, 2, 42, 8, 675, 103),
  (⟨"ScaleNets$Points", "pointAt", "(I)I"⟩, prog_5_method_8_code, 3, (some .int), 4, 0, 0, 2, 680, 106),
  (⟨"ScaleNets", "child", "(II)I"⟩, prog_1_method_11_code, 3, (some .int), 1, 1, 25, 8, 684, 103),
  (⟨"ScaleNets$Points", "kthChild", "(II)I"⟩, prog_5_method_23_code, 6, (some .int), 4, 0, 0, 2, 688, 106)]
def sx_mt4 : List (MethodName × ByteArray × Nat × Option FieldType × Nat × Nat × Nat × Nat × Nat × Nat) := [(⟨"ScaleNets", "far", "(II)I"⟩, prog_1_method_12_code, 3, (some .int), 1, 3, 77, 8, 692, 103),
  (⟨"ScaleNets$Points", "farOfTwo", "(II)I"⟩, prog_5_method_6_code, 3, (some .int), 4, 2, 55, 2, 696, 106),
  (⟨"ScaleNets", "net", "(II)I"⟩, prog_1_method_13_code, 3, (some .int), 1, 1, 24, 8, 700, 103),
  (⟨"ScaleNets", "isLevel", "(I)Z"⟩, prog_1_method_56_code, 1, (some .boolean), 1, 0, 0, 8, 703, 103),
  (⟨"ScaleNets$Points", "netSize", "(I)I"⟩, prog_5_method_20_code, 4, (some .int), 4, 0, 0, 2, 707, 106),
  (⟨"ScaleNets$Points", "kthOfNet", "(II)I"⟩, prog_5_method_21_code, 5, (some .int), 4, 0, 0, 2, 711, 106),
  (⟨"ScaleNets", "above", "(II)I"⟩, prog_1_method_14_code, 3, (some .int), 1, 2, 45, 8, 715, 103),
  (⟨"ScaleNets$Points", "aboveAt", "(II)I"⟩, prog_5_method_29_code, 5, (some .int), 4, 1, 21, 2, 719, 106),
  (⟨"ScaleNets", "loose", "(II)I"⟩, prog_1_method_15_code, 3, (some .int), 1, 5, 125, 8, 723, 103),
  (⟨"ScaleNets$Whole", "leastFarInNet", "(I)I"⟩, prog_10_method_2_code, 6, (some .int), 8, 3, 77, 7, 727, 110),
  (⟨"ScaleNets$Whole", "mostFarFromAbove", "(I)I"⟩, prog_10_method_3_code, 5, (some .int), 8, 3, 77, 7, 735, 110),
  (⟨"ScaleNets$Whole", "mostCrowded", "(I)I"⟩, prog_10_method_4_code, 4, (some .int), 8, 4, 102, 7, 742, 110),
  (⟨"ScaleNets$Whole", "crowdOf", "(III)I"⟩, prog_10_method_5_code, 6, (some .int), 8, 3, 77, 7, 746, 110),
  (⟨"ScaleNets", "most", "(I)I"⟩, prog_1_method_16_code, 3, (some .int), 1, 2, 46, 8, 750, 103),
  (⟨"ScaleNets$Points", "withMostChildren", "()I"⟩, prog_5_method_24_code, 4, (some .int), 4, 1, 23, 2, 754, 106),
  (⟨"ScaleNets", "seek", "(III)I"⟩, prog_1_method_17_code, 5, (some .int), 1, 7, 160, 8, 759, 103),
  (⟨"ScaleNets$Search", "goDown", "(I)V"⟩, prog_6_method_3_code, 3, none, 7, 6, 138, 3, 763, 109),
  (⟨"ScaleNets$Search", "lookAt", "(II)V"⟩, prog_6_method_4_code, 4, none, 7, 3, 77, 3, 768, 109),
  (⟨"ScaleNets$Search", "lookAtChildren", "(II)V"⟩, prog_6_method_5_code, 5, none, 7, 4, 100, 3, 774, 109),
  (⟨"ScaleNets$Search", "leaveOff", "(I)V"⟩, prog_6_method_6_code, 3, none, 7, 5, 116, 3, 778, 109),
  (⟨"ScaleNets$Search", "tellPruned", "(II)V"⟩, prog_6_method_7_code, 4, none, 7, 4, 93, 3, 782, 109),
  (⟨"ScaleNets$Points", "countSpared", "(II)I"⟩, prog_5_method_28_code, 5, (some .int), 4, 3, 69, 2, 786, 106),
  (⟨"ScaleNets$Points", "isSpared", "(III)Z"⟩, prog_5_method_27_code, 5, (some .boolean), 4, 2, 45, 2, 790, 106),
  (⟨"ScaleNets", "found", "(I)I"⟩, prog_1_method_18_code, 2, (some .int), 1, 1, 22, 8, 794, 103),
  (⟨"ScaleNets$Search", "sparedByAll", "()I"⟩, prog_6_method_8_code, 3, (some .int), 7, 0, 0, 3, 798, 109),
  (⟨"ScaleNets", "pruned", "(II)I"⟩, prog_1_method_19_code, 3, (some .int), 1, 0, 0, 8, 802, 103),
  (⟨"ScaleNets", "proves", "(IIII)I"⟩, prog_1_method_20_code, 7, (some .int), 1, 5, 128, 8, 806, 103),
  (⟨"ScaleNets", "isLength", "(I)Z"⟩, prog_1_method_57_code, 1, (some .boolean), 1, 0, 0, 8, 809, 103),
  (⟨"ScaleNets", "sparedByProof", "(II)I"⟩, prog_1_method_21_code, 6, (some .int), 1, 4, 103, 8, 813, 103),
  (⟨"ScaleNets", "proofRowsHold", "(III)Z"⟩, prog_1_method_22_code, 7, (some .boolean), 1, 3, 77, 8, 817, 103)]
def sx_mt5 : List (MethodName × ByteArray × Nat × Option FieldType × Nat × Nat × Nat × Nat × Nat × Nat) := [(⟨"ScaleNets", "isSparedByRow", "(II)Z"⟩, prog_1_method_23_code, 4, (some .boolean), 1, 3, 69, 8, 823, 103),
  (⟨"ScaleNets", "nth", "(IIII)I"⟩, prog_1_method_24_code, 6, (some .int), 1, 5, 126, 8, 828, 103),
  (⟨"ScaleNets$Points", "kthNearest", "(II)I"⟩, prog_5_method_30_code, 4, (some .int), 4, 4, 103, 2, 832, 106),
  (⟨"ScaleNets$Points", "countAheadOf", "(II)I"⟩, prog_5_method_31_code, 7, (some .int), 4, 3, 77, 2, 836, 106),
  (⟨"ScaleNets", "within", "(IIII)I"⟩, prog_1_method_25_code, 6, (some .int), 1, 4, 101, 8, 840, 103),
  (⟨"ScaleNets$Points", "countWithin", "(II)I"⟩, prog_5_method_32_code, 5, (some .int), 4, 3, 77, 2, 844, 106),
  (⟨"ScaleNets", "remote", "(IIII)I"⟩, prog_1_method_26_code, 6, (some .int), 1, 7, 160, 8, 848, 103),
  (⟨"ScaleNets", "centers", "(II)I"⟩, prog_1_method_27_code, 3, (some .int), 1, 6, 151, 8, 852, 103),
  (⟨"ScaleNets$Whole", "thinOut", "()V"⟩, prog_10_method_6_code, 4, none, 8, 3, 77, 7, 856, 110),
  (⟨"ScaleNets$Whole", "farthestNotTaken", "()I"⟩, prog_10_method_7_code, 3, (some .int), 8, 1, 21, 7, 861, 110),
  (⟨"ScaleNets$Whole", "farthestFromCenter", "(I)I"⟩, prog_10_method_10_code, 6, (some .int), 8, 5, 126, 7, 865, 110),
  (⟨"ScaleNets$Whole", "farFromCenter", "(II)I"⟩, prog_10_method_9_code, 4, (some .int), 8, 4, 103, 7, 869, 110),
  (⟨"ScaleNets$Whole", "centerOf", "(II)I"⟩, prog_10_method_8_code, 7, (some .int), 8, 3, 77, 7, 873, 110),
  (⟨"ScaleNets$Whole", "mostOfOneCenter", "(I)I"⟩, prog_10_method_11_code, 5, (some .int), 8, 4, 103, 7, 878, 110),
  (⟨"ScaleNets", "center", "(II)I"⟩, prog_1_method_28_code, 3, (some .int), 1, 4, 103, 8, 883, 103),
  (⟨"ScaleNets", "pair", "(I)I"⟩, prog_1_method_29_code, 3, (some .int), 1, 4, 101, 8, 888, 103),
  (⟨"ScaleNets$Whole", "closestPair", "()I"⟩, prog_10_method_12_code, 5, (some .int), 8, 3, 77, 7, 892, 110),
  (⟨"ScaleNets$Pair", "packed", "(III)I"⟩, prog_4_method_2_code, 3, (some .int), 12, 1, 30, 99, 895, 120),
  (⟨"ScaleNets$Whole", "widestPair", "()I"⟩, prog_10_method_13_code, 5, (some .int), 8, 3, 77, 7, 901, 110),
  (⟨"ScaleNets$Pair", "part", "(II)I"⟩, prog_4_method_3_code, 2, (some .int), 12, 0, 0, 99, 904, 120),
  (⟨"ScaleNets", "thin", "(I)I"⟩, prog_1_method_30_code, 2, (some .int), 1, 4, 100, 8, 908, 103),
  (⟨"ScaleNets", "link", "(II)I"⟩, prog_1_method_31_code, 3, (some .int), 1, 5, 123, 8, 912, 103),
  (⟨"ScaleNets$Whole", "joinAll", "()V"⟩, prog_10_method_14_code, 3, none, 8, 4, 101, 7, 916, 110),
  (⟨"ScaleNets$Whole", "putLink", "(I)V"⟩, prog_10_method_16_code, 3, none, 8, 0, 0, 7, 920, 110),
  (⟨"ScaleNets$Whole", "growFrom", "(I)I"⟩, prog_10_method_15_code, 5, (some .int), 8, 3, 77, 7, 924, 110),
  (⟨"ScaleNets$Whole", "allLinksFar", "()I"⟩, prog_10_method_17_code, 3, (some .int), 8, 1, 21, 7, 928, 110),
  (⟨"ScaleNets", "group", "(II)I"⟩, prog_1_method_32_code, 3, (some .int), 1, 6, 145, 8, 933, 103),
  (⟨"ScaleNets$Whole", "groupBy", "(I)V"⟩, prog_10_method_18_code, 3, none, 8, 5, 123, 7, 937, 110),
  (⟨"ScaleNets$Whole", "joinGroups", "(II)V"⟩, prog_10_method_19_code, 6, none, 8, 1, 30, 7, 942, 110),
  (⟨"ScaleNets", "groups", "(I)I"⟩, prog_1_method_33_code, 2, (some .int), 1, 6, 145, 8, 946, 103)]
def sx_mt6 : List (MethodName × ByteArray × Nat × Option FieldType × Nat × Nat × Nat × Nat × Nat × Nat) := [(⟨"ScaleNets$Whole", "countGroups", "()I"⟩, prog_10_method_20_code, 3, (some .int), 8, 1, 21, 7, 950, 110),
  (⟨"ScaleNets", "comes", "(IIII)I"⟩, prog_1_method_34_code, 7, (some .int), 1, 4, 105, 8, 954, 103),
  (⟨"ScaleNets", "canCome", "(I)Z"⟩, prog_1_method_55_code, 2, (some .boolean), 1, 1, 22, 8, 958, 103),
  (⟨"ScaleNets", "goes", "(II)I"⟩, prog_1_method_35_code, 3, (some .int), 1, 6, 152, 8, 964, 103),
  (⟨"ScaleNets$Points", "copyFrom", "(LScaleNets$Points;)V"⟩, prog_5_method_3_code, 2, none, 4, 1, 60, 2, 968, 106),
  (⟨"ScaleNets$Points", "leave", "(I)V"⟩, prog_5_method_15_code, 4, none, 4, 5, 129, 2, 975, 106),
  (⟨"ScaleNets$Points", "otherParentsIn", "(LScaleNets$Points;)I"⟩, prog_5_method_18_code, 4, (some .int), 4, 0, 0, 2, 979, 106),
  (⟨"ScaleNets$Points", "otherLevelsIn", "(LScaleNets$Points;)I"⟩, prog_5_method_17_code, 4, (some .int), 4, 0, 0, 2, 983, 106),
  (⟨"ScaleNets", "anew", "(I)I"⟩, prog_1_method_36_code, 2, (some .int), 1, 7, 172, 8, 987, 103),
  (⟨"ScaleNets$Points", "layAll", "()V"⟩, prog_5_method_16_code, 2, none, 4, 6, 151, 2, 991, 106),
  (⟨"ScaleNets", "see", "()I"⟩, prog_1_method_37_code, 2, (some .int), 1, 2, 46, 8, 996, 103),
  (⟨"ScaleNets$Seen", "takeFrom", "(LScaleNets$Tape;)Z"⟩, prog_7_method_2_code, 6, (some .boolean), 9, 1, 21, 4, 1000, 111),
  (⟨"ScaleNets", "fits", "(I)I"⟩, prog_1_method_38_code, 2, (some .int), 1, 5, 123, 8, 1006, 103),
  (⟨"ScaleNets$Seen", "countFits", "()I"⟩, prog_7_method_5_code, 3, (some .int), 9, 4, 100, 4, 1010, 111),
  (⟨"ScaleNets$Seen", "judge", "()V"⟩, prog_7_method_3_code, 2, none, 9, 3, 79, 4, 1014, 111),
  (⟨"ScaleNets$Seen", "isFit", "(I)Z"⟩, prog_7_method_4_code, 5, (some .boolean), 9, 2, 55, 4, 1018, 111),
  (⟨"ScaleNets$Seen", "kthFit", "(I)I"⟩, prog_7_method_6_code, 4, (some .int), 9, 4, 100, 4, 1023, 111),
  (⟨"ScaleNets", "tells", "(I)I"⟩, prog_1_method_39_code, 2, (some .int), 1, 5, 124, 8, 1027, 103),
  (⟨"ScaleNets$Seen", "tellingPair", "()I"⟩, prog_7_method_7_code, 5, (some .int), 9, 4, 100, 4, 1031, 111),
  (⟨"ScaleNets$Seen", "mostLeftBy", "(II)I"⟩, prog_7_method_8_code, 8, (some .int), 9, 2, 55, 4, 1035, 111),
  (⟨"ScaleNets", "add", "(III)I"⟩, prog_1_method_40_code, 6, (some .int), 1, 6, 151, 8, 1042, 103),
  (⟨"ScaleNets$History", "keep", "(LScaleNets$Points;)V"⟩, prog_2_method_2_code, 2, none, 6, 2, 81, 0, 1046, 108),
  (⟨"ScaleNets$Points", "leastFree", "()I"⟩, prog_5_method_10_code, 2, (some .int), 4, 0, 0, 2, 1052, 106),
  (⟨"ScaleNets", "drop", "(I)Z"⟩, prog_1_method_41_code, 2, (some .boolean), 1, 6, 152, 8, 1056, 103),
  (⟨"ScaleNets", "move", "(IIII)Z"⟩, prog_1_method_42_code, 7, (some .boolean), 1, 6, 152, 8, 1060, 103),
  (⟨"ScaleNets", "by", "(I)Z"⟩, prog_1_method_43_code, 2, (some .boolean), 1, 7, 172, 8, 1064, 103),
  (⟨"ScaleNets", "isMeasure", "(I)Z"⟩, prog_1_method_58_code, 1, (some .boolean), 1, 0, 0, 8, 1067, 103),
  (⟨"ScaleNets", "lay", "()I"⟩, prog_1_method_44_code, 1, (some .int), 1, 7, 172, 8, 1071, 103),
  (⟨"ScaleNets", "chance", "(I)I"⟩, prog_1_method_45_code, 3, (some .int), 1, 7, 176, 8, 1075, 103),
  (⟨"ScaleNets", "chanceOnce", "()V"⟩, prog_1_method_46_code, 5, none, 1, 6, 152, 8, 1079, 103)]
def sx_mt7 : List (MethodName × ByteArray × Nat × Option FieldType × Nat × Nat × Nat × Nat × Nat × Nat) := [(⟨"ScaleNets", "draw", "(I)I"⟩, prog_1_method_47_code, 2, (some .int), 1, 0, 0, 8, 1083, 103),
  (⟨"ScaleNets", "undo", "()Z"⟩, prog_1_method_48_code, 1, (some .boolean), 1, 3, 102, 8, 1091, 103),
  (⟨"ScaleNets$History", "giveBack", "(LScaleNets$Points;)V"⟩, prog_2_method_3_code, 2, none, 6, 2, 81, 0, 1095, 108),
  (⟨"ScaleNets", "seed", "(I)Z"⟩, prog_1_method_49_code, 2, (some .boolean), 1, 1, 21, 8, 1099, 103),
  (⟨"ScaleNets", "image", "()I"⟩, prog_1_method_50_code, 1, (some .int), 1, 2, 44, 8, 1103, 103),
  (⟨"ScaleNets$Image", "write", "(LScaleNets$Points;)V"⟩, prog_3_method_2_code, 4, none, 10, 1, 21, 1, 1107, 112),
  (⟨"ScaleNets$Image", "put", "(I)V"⟩, prog_3_method_3_code, 2, none, 10, 0, 0, 1, 1111, 112),
  (⟨"ScaleNets$Image", "checkedBy", "(II)I"⟩, prog_3_method_4_code, 2, (some .int), 10, 0, 0, 1, 1115, 112),
  (⟨"ScaleNets", "octet", "(I)I"⟩, prog_1_method_51_code, 2, (some .int), 1, 0, 0, 8, 1119, 103),
  (⟨"ScaleNets", "on", "()Z"⟩, prog_1_method_52_code, 2, (some .boolean), 1, 5, 126, 8, 1123, 103),
  (⟨"ScaleNets$Image", "readInto", "(LScaleNets$Points;LScaleNets$Tape;)Z"⟩, prog_3_method_5_code, 7, (some .boolean), 10, 4, 100, 1, 1126, 112),
  (⟨"ScaleNets$Image", "isChecked", "(LScaleNets$Tape;)Z"⟩, prog_3_method_6_code, 3, (some .boolean), 10, 1, 21, 1, 1132, 112),
  (⟨"ScaleNets$Image", "readPointAt", "(LScaleNets$Points;LScaleNets$Tape;I)Z"⟩, prog_3_method_7_code, 6, (some .boolean), 10, 2, 42, 1, 1135, 112),
  (⟨"ScaleNets$Image", "isCovering", "(LScaleNets$Points;)Z"⟩, prog_3_method_8_code, 4, (some .boolean), 10, 3, 77, 1, 1140, 112),
  (⟨"ScaleNets$Image", "isSeparate", "(LScaleNets$Points;)Z"⟩, prog_3_method_9_code, 3, (some .boolean), 10, 3, 77, 1, 1144, 112),
  (⟨"ScaleNets", "status", "(I)I"⟩, prog_1_method_53_code, 2, (some .int), 1, 0, 0, 8, 1149, 103),
  (⟨"ScaleNetsModel", "<init>", "()V"⟩, prog_12_method_1_code, 1, none, 13, 1, 20, 9, 1154, 113),
  (⟨"ScaleNetsModel", "feed", "(IIIII)I"⟩, prog_12_method_8_code, 6, (some .int), 13, 1, 22, 9, 1286, 113),
  (⟨"ScaleNetsModel", "refuses", "(I)I"⟩, prog_12_method_5_code, 2, (some .int), 13, 0, 0, 9, 1290, 113),
  (⟨"ScaleNetsModel", "lays", "(I)V"⟩, prog_12_method_7_code, 3, none, 13, 0, 0, 9, 1294, 113),
  (⟨"ScaleNetsModel", "end", "(I)Z"⟩, prog_12_method_9_code, 2, (some .boolean), 13, 1, 21, 9, 1298, 113),
  (⟨"ScaleNetsModel", "isRefused", "(I)Z"⟩, prog_12_method_6_code, 2, (some .boolean), 13, 0, 0, 9, 1302, 113),
  (⟨"ScaleNetsModel", "set", "()I"⟩, prog_12_method_26_code, 4, (some .int), 13, 6, 152, 9, 1306, 113),
  (⟨"ScaleNetsModel", "taken", "()I"⟩, prog_12_method_10_code, 2, (some .int), 13, 0, 0, 9, 1310, 113),
  (⟨"ScaleNetsModel", "readsAll", "()I"⟩, prog_12_method_25_code, 2, (some .int), 13, 5, 109, 9, 1314, 113),
  (⟨"ScaleNetsModel", "must", "(I)V"⟩, prog_12_method_19_code, 2, none, 13, 3, 62, 9, 1318, 113),
  (⟨"ScaleNetsModel", "word", "()V"⟩, prog_12_method_17_code, 1, none, 13, 2, 42, 9, 1322, 113),
  (⟨"ScaleNetsModel", "goesWell", "()Z"⟩, prog_12_method_16_code, 1, (some .boolean), 13, 0, 0, 9, 1326, 113),
  (⟨"ScaleNetsModel", "here", "()I"⟩, prog_12_method_14_code, 1, (some .int), 13, 1, 21, 9, 1330, 113),
  (⟨"ScaleNetsModel", "byteAt", "(I)I"⟩, prog_12_method_11_code, 2, (some .int), 13, 0, 0, 9, 1334, 113)]
def sx_mt8 : List (MethodName × ByteArray × Nat × Option FieldType × Nat × Nat × Nat × Nat × Nat × Nat) := [(⟨"ScaleNetsModel", "isSmall", "(I)Z"⟩, prog_12_method_12_code, 2, (some .boolean), 13, 1, 21, 9, 1338, 113),
  (⟨"ScaleNetsModel", "isDigit", "(I)Z"⟩, prog_12_method_13_code, 2, (some .boolean), 13, 1, 21, 9, 1342, 113),
  (⟨"ScaleNetsModel", "faults", "(II)V"⟩, prog_12_method_15_code, 3, none, 13, 0, 0, 9, 1346, 113),
  (⟨"ScaleNetsModel", "own", "()I"⟩, prog_12_method_18_code, 4, (some .int), 13, 0, 0, 9, 1350, 113),
  (⟨"ScaleNetsModel", "isIn", "(III)Z"⟩, prog_12_method_2_code, 3, (some .boolean), 13, 0, 0, 9, 1353, 113),
  (⟨"ScaleNetsModel", "endsWell", "()V"⟩, prog_12_method_20_code, 1, none, 13, 2, 41, 9, 1357, 113),
  (⟨"ScaleNetsModel", "readsPoint", "()V"⟩, prog_12_method_24_code, 5, none, 13, 4, 85, 9, 1361, 113),
  (⟨"ScaleNetsModel", "readsName", "()V"⟩, prog_12_method_23_code, 4, none, 13, 3, 62, 9, 1365, 113),
  (⟨"ScaleNetsModel", "signAt", "(I)I"⟩, prog_12_method_22_code, 2, (some .int), 13, 0, 0, 9, 1369, 113),
  (⟨"ScaleNetsModel", "number", "()I"⟩, prog_12_method_21_code, 2, (some .int), 13, 2, 42, 9, 1373, 113),
  (⟨"ScaleNetsModel", "comesIn", "(IIII)V"⟩, prog_12_method_39_code, 7, none, 13, 5, 126, 9, 1377, 113),
  (⟨"ScaleNetsModel", "levelAt", "(III)I"⟩, prog_12_method_38_code, 6, (some .int), 13, 4, 101, 9, 1381, 113),
  (⟨"ScaleNetsModel", "nearestOf", "(IIII)I"⟩, prog_12_method_37_code, 7, (some .int), 13, 3, 75, 9, 1385, 113),
  (⟨"ScaleNetsModel", "isOfNet", "(II)Z"⟩, prog_12_method_34_code, 3, (some .boolean), 13, 0, 0, 9, 1389, 113),
  (⟨"ScaleNetsModel", "farTo", "(IIII)I"⟩, prog_12_method_31_code, 5, (some .int), 13, 2, 51, 9, 1393, 113),
  (⟨"ScaleNetsModel", "farBy", "(IIIIIII)I"⟩, prog_12_method_30_code, 10, (some .int), 13, 1, 22, 9, 1396, 113),
  (⟨"ScaleNetsModel", "bits", "(I)I"⟩, prog_12_method_29_code, 3, (some .int), 13, 0, 0, 9, 1399, 113),
  (⟨"ScaleNetsModel", "plain", "(I)I"⟩, prog_12_method_4_code, 1, (some .int), 13, 0, 0, 9, 1402, 113),
  (⟨"ScaleNetsModel", "greater", "(II)I"⟩, prog_12_method_3_code, 2, (some .int), 13, 0, 0, 9, 1405, 113),
  (⟨"ScaleNetsModel", "fault", "(I)I"⟩, prog_12_method_27_code, 2, (some .int), 13, 0, 0, 9, 1409, 113),
  (⟨"ScaleNetsModel", "has", "(I)I"⟩, prog_12_method_44_code, 4, (some .int), 13, 2, 43, 9, 1413, 113),
  (⟨"ScaleNetsModel", "pointMany", "()I"⟩, prog_12_method_35_code, 3, (some .int), 13, 0, 0, 9, 1417, 113),
  (⟨"ScaleNetsModel", "rootNow", "()I"⟩, prog_12_method_36_code, 2, (some .int), 13, 1, 22, 9, 1421, 113),
  (⟨"ScaleNetsModel", "letter", "(II)I"⟩, prog_12_method_45_code, 3, (some .int), 13, 2, 43, 9, 1425, 113),
  (⟨"ScaleNetsModel", "isThere", "(I)Z"⟩, prog_12_method_33_code, 2, (some .boolean), 13, 1, 22, 9, 1429, 113),
  (⟨"ScaleNetsModel", "named", "()I"⟩, prog_12_method_46_code, 5, (some .int), 13, 1, 22, 9, 1433, 113),
  (⟨"ScaleNetsModel", "point", "(II)I"⟩, prog_12_method_51_code, 3, (some .int), 13, 2, 46, 9, 1437, 113),
  (⟨"ScaleNetsModel", "childMany", "(I)I"⟩, prog_12_method_49_code, 4, (some .int), 13, 1, 22, 9, 1441, 113),
  (⟨"ScaleNetsModel", "isChild", "(II)Z"⟩, prog_12_method_47_code, 3, (some .boolean), 13, 0, 0, 9, 1445, 113),
  (⟨"ScaleNetsModel", "belowMany", "(I)I"⟩, prog_12_method_50_code, 4, (some .int), 13, 1, 23, 9, 1449, 113)]
def sx_mt9 : List (MethodName × ByteArray × Nat × Option FieldType × Nat × Nat × Nat × Nat × Nat × Nat) := [(⟨"ScaleNetsModel", "isBelow", "(II)Z"⟩, prog_12_method_48_code, 4, (some .boolean), 13, 0, 0, 9, 1453, 113),
  (⟨"ScaleNetsModel", "at", "(III)I"⟩, prog_12_method_53_code, 4, (some .int), 13, 1, 24, 9, 1457, 113),
  (⟨"ScaleNetsModel", "pointAt", "(III)I"⟩, prog_12_method_52_code, 5, (some .int), 13, 0, 0, 9, 1461, 113),
  (⟨"ScaleNetsModel", "child", "(II)I"⟩, prog_12_method_54_code, 6, (some .int), 13, 2, 43, 9, 1465, 113),
  (⟨"ScaleNetsModel", "far", "(II)I"⟩, prog_12_method_55_code, 3, (some .int), 13, 4, 97, 9, 1469, 113),
  (⟨"ScaleNetsModel", "farOf", "(II)I"⟩, prog_12_method_32_code, 3, (some .int), 13, 3, 75, 9, 1473, 113),
  (⟨"ScaleNetsModel", "net", "(II)I"⟩, prog_12_method_56_code, 5, (some .int), 13, 1, 22, 9, 1477, 113),
  (⟨"ScaleNetsModel", "above", "(II)I"⟩, prog_12_method_58_code, 3, (some .int), 13, 2, 43, 9, 1481, 113),
  (⟨"ScaleNetsModel", "aboveOf", "(II)I"⟩, prog_12_method_57_code, 4, (some .int), 13, 0, 0, 9, 1485, 113),
  (⟨"ScaleNetsModel", "loose", "(II)I"⟩, prog_12_method_62_code, 3, (some .int), 13, 5, 122, 9, 1489, 113),
  (⟨"ScaleNetsModel", "leastOfNet", "(I)I"⟩, prog_12_method_59_code, 5, (some .int), 13, 4, 97, 9, 1493, 113),
  (⟨"ScaleNetsModel", "mostFromNet", "(I)I"⟩, prog_12_method_60_code, 4, (some .int), 13, 4, 97, 9, 1497, 113),
  (⟨"ScaleNetsModel", "crowdOf", "(I)I"⟩, prog_12_method_61_code, 6, (some .int), 13, 4, 97, 9, 1501, 113),
  (⟨"ScaleNetsModel", "most", "(I)I"⟩, prog_12_method_63_code, 4, (some .int), 13, 2, 45, 9, 1505, 113),
  (⟨"ScaleNetsModel", "seek", "(III)I"⟩, prog_12_method_69_code, 7, (some .int), 13, 4, 102, 9, 1509, 113),
  (⟨"ScaleNetsModel", "isPlace", "(III)Z"⟩, prog_12_method_28_code, 3, (some .boolean), 13, 1, 22, 9, 1512, 113),
  (⟨"ScaleNetsModel", "beginsSearch", "()V"⟩, prog_12_method_64_code, 2, none, 13, 2, 43, 9, 1516, 113),
  (⟨"ScaleNetsModel", "looksOn", "(IIIIZ)V"⟩, prog_12_method_65_code, 8, none, 13, 3, 75, 9, 1520, 113),
  (⟨"ScaleNetsModel", "prunes", "(III)V"⟩, prog_12_method_68_code, 5, none, 13, 2, 48, 9, 1524, 113),
  (⟨"ScaleNetsModel", "sparedMany", "(II)I"⟩, prog_12_method_67_code, 5, (some .int), 13, 1, 24, 9, 1528, 113),
  (⟨"ScaleNetsModel", "isSpared", "(III)Z"⟩, prog_12_method_66_code, 5, (some .boolean), 13, 0, 0, 9, 1532, 113),
  (⟨"ScaleNetsModel", "found", "(I)I"⟩, prog_12_method_70_code, 2, (some .int), 13, 0, 0, 9, 1536, 113),
  (⟨"ScaleNetsModel", "pruned", "(II)I"⟩, prog_12_method_71_code, 3, (some .int), 13, 1, 22, 9, 1540, 113),
  (⟨"ScaleNetsModel", "proves", "(IIII)I"⟩, prog_12_method_72_code, 10, (some .int), 13, 3, 75, 9, 1544, 113),
  (⟨"ScaleNetsModel", "nth", "(IIII)I"⟩, prog_12_method_73_code, 9, (some .int), 13, 3, 75, 9, 1548, 113),
  (⟨"ScaleNetsModel", "within", "(IIII)I"⟩, prog_12_method_74_code, 7, (some .int), 13, 3, 75, 9, 1552, 113),
  (⟨"ScaleNetsModel", "remote", "(IIII)I"⟩, prog_12_method_75_code, 8, (some .int), 13, 4, 102, 9, 1556, 113),
  (⟨"ScaleNetsModel", "thin", "(I)I"⟩, prog_12_method_79_code, 3, (some .int), 13, 6, 144, 9, 1560, 113),
  (⟨"ScaleNetsModel", "laysThinned", "()I"⟩, prog_12_method_77_code, 4, (some .int), 13, 5, 121, 9, 1564, 113),
  (⟨"ScaleNetsModel", "fromThinned", "(II)I"⟩, prog_12_method_76_code, 5, (some .int), 13, 4, 97, 9, 1568, 113)]
def sx_mt10 : List (MethodName × ByteArray × Nat × Option FieldType × Nat × Nat × Nat × Nat × Nat × Nat) := [(⟨"ScaleNetsModel", "center", "(II)I"⟩, prog_12_method_80_code, 4, (some .int), 13, 6, 144, 9, 1573, 113),
  (⟨"ScaleNetsModel", "centerOf", "(II)I"⟩, prog_12_method_78_code, 6, (some .int), 13, 4, 97, 9, 1577, 113),
  (⟨"ScaleNetsModel", "centers", "(II)I"⟩, prog_12_method_81_code, 11, (some .int), 13, 6, 144, 9, 1581, 113),
  (⟨"ScaleNetsModel", "pair", "(I)I"⟩, prog_12_method_82_code, 7, (some .int), 13, 4, 97, 9, 1585, 113),
  (⟨"ScaleNetsModel", "link", "(II)I"⟩, prog_12_method_84_code, 6, (some .int), 13, 5, 125, 9, 1589, 113),
  (⟨"ScaleNetsModel", "laysLinks", "(I)I"⟩, prog_12_method_83_code, 9, (some .int), 13, 4, 97, 9, 1593, 113),
  (⟨"ScaleNetsModel", "group", "(II)I"⟩, prog_12_method_85_code, 3, (some .int), 13, 5, 125, 9, 1597, 113),
  (⟨"ScaleNetsModel", "groups", "(I)I"⟩, prog_12_method_86_code, 2, (some .int), 13, 5, 125, 9, 1601, 113),
  (⟨"ScaleNetsModel", "comes", "(IIII)I"⟩, prog_12_method_89_code, 6, (some .int), 13, 5, 126, 9, 1605, 113),
  (⟨"ScaleNetsModel", "canCome", "(III)Z"⟩, prog_12_method_88_code, 4, (some .boolean), 13, 2, 44, 9, 1609, 113),
  (⟨"ScaleNetsModel", "free", "()I"⟩, prog_12_method_87_code, 2, (some .int), 13, 0, 0, 9, 1613, 113),
  (⟨"ScaleNetsModel", "goes", "(II)I"⟩, prog_12_method_93_code, 4, (some .int), 13, 6, 147, 9, 1617, 113),
  (⟨"ScaleNetsModel", "stashes", "()V"⟩, prog_12_method_90_code, 2, none, 13, 0, 0, 9, 1621, 113),
  (⟨"ScaleNetsModel", "goesOut", "(I)V"⟩, prog_12_method_42_code, 5, none, 13, 5, 123, 9, 1625, 113),
  (⟨"ScaleNetsModel", "nextLeft", "(I)I"⟩, prog_12_method_41_code, 5, (some .int), 13, 0, 0, 9, 1629, 113),
  (⟨"ScaleNetsModel", "rises", "(I)V"⟩, prog_12_method_40_code, 3, none, 13, 4, 101, 9, 1633, 113),
  (⟨"ScaleNetsModel", "unlike", "(I)I"⟩, prog_12_method_92_code, 4, (some .int), 13, 0, 0, 9, 1637, 113),
  (⟨"ScaleNetsModel", "unstashes", "()V"⟩, prog_12_method_91_code, 2, none, 13, 0, 0, 9, 1641, 113),
  (⟨"ScaleNetsModel", "anew", "(I)I"⟩, prog_12_method_94_code, 3, (some .int), 13, 7, 173, 9, 1645, 113),
  (⟨"ScaleNetsModel", "allAnew", "()V"⟩, prog_12_method_43_code, 2, none, 13, 6, 152, 9, 1649, 113),
  (⟨"ScaleNetsModel", "see", "()I"⟩, prog_12_method_95_code, 4, (some .int), 13, 2, 43, 9, 1653, 113),
  (⟨"ScaleNetsModel", "fits", "(I)I"⟩, prog_12_method_98_code, 4, (some .int), 13, 4, 96, 9, 1657, 113),
  (⟨"ScaleNetsModel", "isFit", "(I)Z"⟩, prog_12_method_97_code, 3, (some .boolean), 13, 3, 74, 9, 1661, 113),
  (⟨"ScaleNetsModel", "farAs", "(III)I"⟩, prog_12_method_96_code, 4, (some .int), 13, 2, 51, 9, 1665, 113),
  (⟨"ScaleNetsModel", "tells", "(I)I"⟩, prog_12_method_100_code, 8, (some .int), 13, 5, 122, 9, 1669, 113),
  (⟨"ScaleNetsModel", "leftBy", "(II)I"⟩, prog_12_method_99_code, 7, (some .int), 13, 4, 96, 9, 1673, 113),
  (⟨"ScaleNetsModel", "add", "(III)I"⟩, prog_12_method_104_code, 4, (some .int), 13, 7, 176, 9, 1677, 113),
  (⟨"ScaleNetsModel", "remembers", "()V"⟩, prog_12_method_101_code, 2, none, 13, 0, 0, 9, 1681, 113),
  (⟨"ScaleNetsModel", "comesThere", "(III)I"⟩, prog_12_method_103_code, 5, (some .int), 13, 6, 152, 9, 1685, 113),
  (⟨"ScaleNetsModel", "unnames", "(I)V"⟩, prog_12_method_102_code, 3, none, 13, 0, 0, 9, 1689, 113)]
def sx_mt11 : List (MethodName × ByteArray × Nat × Option FieldType × Nat × Nat × Nat × Nat × Nat × Nat) := [(⟨"ScaleNetsModel", "drop", "(I)Z"⟩, prog_12_method_105_code, 2, (some .boolean), 13, 6, 147, 9, 1693, 113),
  (⟨"ScaleNetsModel", "move", "(IIII)Z"⟩, prog_12_method_106_code, 5, (some .boolean), 13, 6, 152, 9, 1697, 113),
  (⟨"ScaleNetsModel", "by", "(I)Z"⟩, prog_12_method_107_code, 2, (some .boolean), 13, 7, 173, 9, 1701, 113),
  (⟨"ScaleNetsModel", "lay", "()I"⟩, prog_12_method_108_code, 1, (some .int), 13, 7, 173, 9, 1705, 113),
  (⟨"ScaleNetsModel", "chance", "(I)I"⟩, prog_12_method_111_code, 3, (some .int), 13, 8, 200, 9, 1709, 113),
  (⟨"ScaleNetsModel", "happens", "()V"⟩, prog_12_method_110_code, 5, none, 13, 7, 176, 9, 1713, 113),
  (⟨"ScaleNetsModel", "draw", "(I)I"⟩, prog_12_method_109_code, 2, (some .int), 13, 0, 0, 9, 1717, 113),
  (⟨"ScaleNetsModel", "undo", "()Z"⟩, prog_12_method_112_code, 2, (some .boolean), 13, 1, 21, 9, 1725, 113),
  (⟨"ScaleNetsModel", "seed", "(I)Z"⟩, prog_12_method_113_code, 2, (some .boolean), 13, 1, 21, 9, 1729, 113),
  (⟨"ScaleNetsModel", "image", "()I"⟩, prog_12_method_115_code, 3, (some .int), 13, 1, 22, 9, 1733, 113),
  (⟨"ScaleNetsModel", "puts", "(I)V"⟩, prog_12_method_114_code, 2, none, 13, 0, 0, 9, 1737, 113),
  (⟨"ScaleNetsModel", "octet", "(I)I"⟩, prog_12_method_116_code, 2, (some .int), 13, 1, 22, 9, 1741, 113),
  (⟨"ScaleNetsModel", "on", "()Z"⟩, prog_12_method_119_code, 4, (some .boolean), 13, 5, 121, 9, 1745, 113),
  (⟨"ScaleNetsModel", "takesIn", "(I)Z"⟩, prog_12_method_117_code, 6, (some .boolean), 13, 1, 24, 9, 1749, 113),
  (⟨"ScaleNetsModel", "areNets", "()Z"⟩, prog_12_method_118_code, 5, (some .boolean), 13, 4, 97, 9, 1753, 113),
  (⟨"ScaleNetsModel", "status", "(I)I"⟩, prog_12_method_120_code, 2, (some .int), 13, 1, 22, 9, 1757, 113)]
def sx_mtr : List (MethodName × ByteArray × Nat × Option FieldType × Nat × Nat × Nat × Nat × Nat × Nat) := sx_mt2 ++ (sx_mt3 ++ (sx_mt4 ++ (sx_mt5 ++ (sx_mt6 ++ (sx_mt7 ++ (sx_mt8 ++ (sx_mt9 ++ (sx_mt10 ++ (sx_mt11)))))))))
def sx_mt : List (MethodName × ByteArray × Nat × Option FieldType × Nat × Nat × Nat × Nat × Nat × Nat) := sx_mt1 ++ sx_mtr
def sx_lk0 : List (Nat × Nat × Nat × Nat × List Nat) := [(7, 1, 8, 0, [122, 123, 103]), (9, 4, 1, 0, [124, 125, 103]), (10, 1, 9, 0, [1150, 1151, 113]), (12, 4, 167, 0, [1152, 1153, 113]), (13, 2, 11, 5, [426, 427, 428, 103]), (17, 2, 168, 5, [1283, 1284, 1285, 113]), (18, 2, 14, 1, [438, 439, 440, 103]), (22, 2, 171, 1, [1295, 1296, 1297, 113]), (23, 2, 15, 0, [442, 443, 444, 103]), (27, 2, 173, 0, [1303, 1304, 1305, 113]), (28, 2, 45, 1, [621, 622, 623, 103]), (32, 2, 200, 1, [1406, 1407, 1408, 113]), (33, 2, 46, 1, [625, 626, 627, 103]), (36, 2, 201, 1, [1410, 1411, 1412, 113]), (37, 2, 48, 2, [633, 634, 635, 103]), (41, 2, 204, 2, [1422, 1423, 1424, 113]), (42, 2, 50, 0, [641, 642, 643, 103]), (45, 2, 206, 0, [1430, 1431, 1432, 113]), (46, 2, 53, 2, [655, 656, 657, 103]), (49, 2, 207, 2, [1434, 1435, 1436, 113]), (50, 2, 57, 3, [672, 673, 674, 103]), (54, 2, 212, 3, [1454, 1455, 1456, 113]), (55, 2, 59, 2, [681, 682, 683, 103]), (58, 2, 214, 2, [1462, 1463, 1464, 113]), (59, 2, 61, 2, [689, 690, 691, 103]), (62, 2, 215, 2, [1466, 1467, 1468, 113]), (63, 2, 63, 2, [697, 698, 699, 103]), (66, 2, 217, 2, [1474, 1475, 1476, 113]), (67, 2, 67, 2, [712, 713, 714, 103]), (70, 2, 218, 2, [1478, 1479, 1480, 113]), (71, 2, 69, 2, [720, 721, 722, 103]), (74, 2, 220, 2, [1486, 1487, 1488, 113]), (75, 2, 74, 1, [747, 748, 749, 103]), (78, 2, 224, 1, [1502, 1503, 1504, 113]), (79, 2, 76, 3, [756, 757, 758, 103]), (82, 2, 225, 3, [1506, 1507, 1508, 113]), (83, 2, 84, 1, [791, 792, 793, 103]), (86, 2, 232, 1, [1533, 1534, 1535, 113]), (87, 2, 86, 2, [799, 800, 801, 103]), (90, 2, 233, 2, [1537, 1538, 1539, 113]), (91, 2, 87, 4, [803, 804, 805, 103]), (95, 2, 234, 4, [1541, 1542, 1543, 113]), (96, 2, 92, 4, [825, 826, 827, 103]), (99, 2, 235, 4, [1545, 1546, 1547, 113]), (100, 2, 95, 4, [837, 838, 839, 103]), (103, 2, 236, 4, [1549, 1550, 1551, 113]), (104, 2, 97, 4, [845, 846, 847, 103]), (107, 2, 237, 4, [1553, 1554, 1555, 113]), (108, 2, 98, 2, [849, 850, 851, 103]), (111, 2, 243, 2, [1578, 1579, 1580, 113]), (112, 2, 105, 2, [880, 881, 882, 103]), (115, 2, 241, 2, [1570, 1571, 1572, 113]), (116, 2, 106, 1, [885, 886, 887, 103]), (119, 2, 244, 1, [1582, 1583, 1584, 113]), (120, 2, 111, 1, [905, 906, 907, 103]), (123, 2, 238, 1, [1557, 1558, 1559, 113]), (124, 2, 112, 2, [909, 910, 911, 103]), (127, 2, 245, 2, [1586, 1587, 1588, 113]), (128, 2, 117, 2, [930, 931, 932, 103]), (131, 2, 247, 2, [1594, 1595, 1596, 113]), (132, 2, 120, 1, [943, 944, 945, 103]), (135, 2, 248, 1, [1598, 1599, 1600, 113]), (136, 2, 122, 4, [951, 952, 953, 103]), (139, 2, 249, 4, [1602, 1603, 1604, 113]), (140, 2, 124, 2, [961, 962, 963, 103]), (143, 2, 252, 2, [1614, 1615, 1616, 113]), (144, 2, 129, 1, [984, 985, 986, 103]), (147, 2, 259, 1, [1642, 1643, 1644, 113]), (148, 2, 131, 0, [993, 994, 995, 103]), (151, 2, 261, 0, [1650, 1651, 1652, 113]), (152, 2, 133, 1, [1003, 1004, 1005, 103]), (155, 2, 262, 1, [1654, 1655, 1656, 113]), (156, 2, 138, 1, [1024, 1025, 1026, 103]), (159, 2, 265, 1, [1666, 1667, 1668, 113]), (160, 2, 141, 3, [1039, 1040, 1041, 103]), (163, 2, 267, 3, [1674, 1675, 1676, 113]), (164, 2, 144, 1, [1053, 1054, 1055, 103]), (167, 2, 271, 1, [1690, 1691, 1692, 113]), (168, 2, 145, 4, [1057, 1058, 1059, 103]), (172, 2, 272, 4, [1694, 1695, 1696, 113]), (173, 2, 146, 1, [1061, 1062, 1063, 103]), (176, 2, 273, 1, [1698, 1699, 1700, 113]), (177, 2, 148, 0, [1068, 1069, 1070, 103]), (180, 2, 274, 0, [1702, 1703, 1704, 113]), (181, 2, 149, 1, [1072, 1073, 1074, 103]), (184, 2, 275, 1, [1706, 1707, 1708, 113]), (185, 2, 152, 0, [1088, 1089, 1090, 103]), (189, 2, 278, 0, [1722, 1723, 1724, 113]), (190, 2, 154, 1, [1096, 1097, 1098, 103]), (193, 2, 279, 1, [1726, 1727, 1728, 113]), (194, 2, 155, 0, [1100, 1101, 1102, 103]), (197, 2, 280, 0, [1730, 1731, 1732, 113]), (198, 2, 159, 1, [1116, 1117, 1118, 103]), (201, 2, 282, 1, [1738, 1739, 1740, 113]), (202, 2, 160, 0, [1120, 1121, 1122, 103]), (205, 2, 283, 0, [1742, 1743, 1744, 113]), (206, 2, 166, 1, [1146, 1147, 1148, 103]), (209, 2, 286, 1, [1754, 1755, 1756, 113])]
def sx_lk1 : List (Nat × Nat × Nat × Nat × List Nat) := [(1, 7, 0, 0, [127, 128, 129]), (7, 1, 6, 0, [130, 131, 104]), (9, 6, 2, 0, [132, 133, 104]), (10, 0, 8, 0, [389]), (16, 1, 5, 0, [148, 149, 105]), (18, 4, 3, 1, [150, 151, 105]), (21, 0, 8, 1, [390]), (25, 1, 2, 0, [188, 189, 106]), (27, 4, 4, 0, [190, 191, 106]), (28, 0, 8, 2, [391]), (32, 0, 8, 3, [392]), (35, 1, 0, 0, [239, 240, 108]), (37, 4, 6, 0, [241, 242, 108]), (38, 0, 8, 4, [393]), (42, 1, 3, 0, [259, 260, 109]), (44, 4, 7, 2, [261, 262, 109]), (47, 0, 8, 5, [394]), (51, 0, 8, 6, [395]), (54, 1, 7, 0, [311, 312, 110]), (56, 4, 8, 1, [313, 314, 110]), (59, 0, 8, 7, [396]), (63, 1, 4, 0, [348, 349, 111]), (65, 4, 9, 1, [350, 351, 111]), (66, 0, 8, 8, [397]), (70, 1, 1, 0, [374, 375, 112]), (72, 6, 10, 0, [376, 377, 112]), (73, 0, 8, 9, [398]), (77, 0, 8, 10, [399]), (81, 0, 8, 11, [400]), (85, 0, 6, 1, [138]), (89, 2, 12, 1, [430, 432, 0, 103]), (93, 2, 13, 1, [434, 435, 436, 104]), (97, 2, 16, 0, [446, 447, 448, 105]), (101, 2, 35, 0, [573, 574, 575, 106]), (104, 0, 5, 3, [160]), (107, 0, 2, 4, [214]), (108, 0, 5, 4, [162]), (111, 0, 5, 1, [156]), (114, 2, 36, 2, [577, 578, 579, 106]), (118, 0, 2, 3, [211]), (121, 0, 5, 2, [158]), (122, 2, 43, 0, [612, 613, 614, 108]), (125, 2, 44, 0, [616, 617, 618, 109]), (126, 0, 4, 5, [360]), (129, 0, 5, 5, [164]), (132, 0, 5, 6, [166]), (135, 0, 2, 6, [223]), (136, 0, 2, 5, [218]), (139, 2, 47, 0, [629, 630, 631, 106]), (143, 0, 0, 2, [251]), (146, 2, 49, 1, [637, 638, 639, 106]), (150, 2, 51, 0, [645, 646, 647, 104]), (153, 2, 52, 1, [651, 652, 653, 106]), (156, 0, 2, 0, [200]), (157, 0, 2, 1, [205]), (160, 0, 2, 2, [209]), (163, 2, 54, 1, [659, 660, 661, 106]), (166, 2, 55, 1, [663, 664, 665, 106]), (169, 3, 33, 3, [676, 568, 103]), (173, 2, 58, 1, [677, 678, 679, 106]), (176, 2, 60, 2, [685, 686, 687, 106]), (180, 2, 62, 2, [693, 694, 695, 106]), (183, 3, 64, 1, [701, 702, 103]), (186, 2, 65, 1, [704, 705, 706, 106]), (189, 2, 66, 2, [708, 709, 710, 106]), (192, 2, 68, 2, [716, 717, 718, 106]), (195, 2, 70, 1, [724, 725, 726, 110]), (198, 2, 71, 1, [732, 733, 734, 110]), (201, 2, 72, 1, [739, 740, 741, 110]), (204, 2, 75, 0, [751, 752, 753, 106]), (207, 2, 77, 1, [760, 761, 762, 109]), (210, 0, 3, 10, [282]), (213, 0, 3, 11, [284]), (216, 0, 3, 9, [280]), (219, 0, 3, 8, [278]), (222, 2, 85, 0, [795, 796, 797, 109]), (225, 0, 3, 4, [270]), (228, 0, 3, 5, [272]), (231, 0, 3, 6, [274]), (234, 0, 3, 7, [276]), (237, 3, 88, 1, [807, 808, 103]), (240, 2, 89, 2, [810, 812, 21, 103]), (243, 2, 90, 3, [814, 816, 22, 103]), (247, 2, 91, 2, [820, 822, 23, 103]), (251, 2, 42, 2, [819, 609, 610, 106]), (254, 2, 20, 1, [818, 464, 465, 104]), (257, 2, 83, 3, [824, 788, 789, 106]), (260, 2, 93, 2, [829, 830, 831, 106]), (263, 2, 96, 2, [841, 842, 843, 106]), (266, 2, 99, 0, [853, 854, 855, 110]), (269, 2, 101, 1, [862, 863, 864, 110]), (272, 2, 102, 2, [874, 867, 868, 110]), (275, 2, 104, 1, [875, 876, 877, 110]), (278, 2, 103, 2, [884, 871, 872, 110]), (281, 2, 107, 0, [889, 890, 891, 110]), (284, 2, 109, 0, [898, 899, 900, 110]), (287, 3, 110, 2, [902, 903, 120]), (292, 0, 7, 1, [319]), (295, 2, 113, 0, [913, 914, 915, 110]), (298, 2, 116, 0, [925, 926, 927, 110]), (301, 0, 7, 2, [321]), (304, 2, 118, 1, [934, 935, 936, 110]), (307, 0, 7, 3, [323]), (310, 2, 121, 0, [947, 948, 949, 110]), (313, 2, 123, 1, [955, 957, 29, 103]), (316, 2, 38, 2, [959, 586, 587, 106]), (319, 2, 39, 2, [960, 590, 591, 106]), (322, 2, 125, 1, [965, 966, 967, 106]), (325, 2, 126, 1, [972, 973, 974, 106]), (328, 2, 127, 1, [976, 977, 978, 106]), (332, 2, 128, 1, [980, 981, 982, 106]), (335, 2, 130, 0, [988, 989, 990, 106]), (338, 2, 132, 1, [997, 998, 999, 111]), (342, 2, 134, 0, [1007, 1008, 1009, 111]), (345, 2, 137, 1, [1020, 1021, 1022, 111]), (348, 2, 139, 0, [1028, 1029, 1030, 111]), (351, 2, 142, 1, [1043, 1044, 1045, 108]), (354, 2, 143, 0, [1049, 1050, 1051, 106]), (357, 3, 147, 1, [1065, 1066, 103]), (360, 2, 150, 0, [1076, 1078, 33, 103]), (363, 2, 151, 1, [1080, 1082, 34, 103]), (366, 15, 0, 0, [1087, 606, 119, 607]), (371, 9, 0, 1103515245, [1084]), (373, 9, 0, 12345, [1085]), (375, 9, 0, 2147483647, [1086]), (377, 2, 153, 1, [1092, 1093, 1094, 108]), (380, 2, 156, 1, [1104, 1105, 1106, 112]), (383, 0, 1, 1, [383]), (384, 0, 1, 0, [381]), (387, 3, 161, 2, [1124, 1125, 112]), (391, 3, 34, 1, [570, 571, 103])]
def sx_lk2 : List (Nat × Nat × Nat × Nat × List Nat) := [(3, 7, 0, 0, [135, 128, 129]), (9, 0, 6, 0, [136]), (15, 0, 6, 1, [139]), (19, 2, 20, 1, [649, 464, 465, 104]), (23, 5, 22, 1, [650, 520, 103])]
def sx_lk3 : List (Nat × Nat × Nat × Nat × List Nat) := [(3, 7, 0, 0, [153, 128, 129]), (9, 0, 5, 1, [155]), (15, 0, 5, 2, [157]), (18, 0, 5, 6, [165]), (22, 0, 5, 0, [154]), (26, 0, 5, 7, [167]), (29, 0, 5, 4, [161]), (32, 0, 5, 5, [163]), (35, 2, 17, 0, [450, 452, 1, 105]), (39, 2, 25, 0, [534, 536, 7, 105]), (42, 2, 26, 0, [538, 540, 8, 105]), (45, 10, 0, 0, [454]), (47, 2, 18, 1, [455, 457, 2, 105]), (51, 10, 1, 0, [526]), (53, 2, 19, 0, [459, 461, 3, 105]), (56, 10, 2, 0, [527]), (58, 2, 21, 1, [467, 469, 4, 105]), (61, 0, 5, 3, [159]), (64, 2, 24, 0, [528, 530, 6, 105]), (67, 10, 3, 0, [532]), (69, 10, 4, 0, [533]), (71, 10, 5, 0, [542]), (73, 2, 23, 2, [522, 524, 5, 105]), (77, 2, 27, 0, [543, 545, 9, 105]), (80, 10, 6, 0, [551]), (82, 2, 30, 0, [556, 558, 12, 105]), (85, 2, 20, 1, [463, 464, 465, 104]), (91, 5, 22, 1, [519, 520, 103]), (95, 2, 28, 0, [547, 549, 10, 105]), (98, 2, 29, 2, [552, 554, 11, 105]), (102, 2, 31, 0, [560, 562, 13, 105]), (106, 0, 5, 8, [168]), (109, 5, 33, 3, [567, 568, 103]), (113, 5, 32, 1, [564, 565, 103]), (116, 12, 0, 0, [471]), (121, 0, 6, 1, [141]), (123, 13, 0, 0, [481])]
def sx_lk4 : List (Nat × Nat × Nat × Nat × List Nat) := [(3, 7, 0, 0, [193, 128, 129]), (9, 0, 2, 0, [197]), (15, 0, 2, 1, [201]), (18, 0, 2, 2, [206]), (21, 0, 2, 3, [210]), (24, 0, 2, 4, [212]), (28, 0, 2, 5, [215]), (31, 3, 5, 2, [194, 195, 107]), (37, 0, 2, 6, [221]), (40, 11, 0, 0, [969, 971, 970, 121]), (46, 3, 41, 1, [596, 597, 118]), (52, 17, 0, 0, [602, 603, 119, 604]), (57, 15, 0, 0, [605, 606, 119, 607]), (61, 3, 40, 3, [593, 594, 106]), (65, 2, 39, 2, [589, 590, 591, 106]), (68, 2, 42, 2, [608, 609, 610, 106]), (71, 2, 37, 3, [581, 583, 14, 106]), (75, 2, 38, 2, [585, 586, 587, 106]), (78, 2, 49, 1, [671, 638, 639, 106]), (82, 2, 36, 2, [992, 578, 579, 106]), (86, 2, 54, 1, [755, 660, 661, 106]), (89, 2, 56, 2, [667, 669, 15, 106]), (92, 2, 83, 3, [787, 788, 789, 106]), (96, 2, 94, 2, [833, 835, 24, 106])]
def sx_lk5 : List (Nat × Nat × Nat × Nat × List Nat) := []
def sx_lk6 : List (Nat × Nat × Nat × Nat × List Nat) := [(1, 7, 0, 0, [244, 128, 129]), (9, 1, 2, 1, [245, 189, 106, 246]), (11, 0, 0, 0, [248]), (15, 4, 4, 0, [247, 191, 106]), (16, 0, 0, 1, [249]), (20, 2, 125, 1, [1047, 966, 967, 106]), (24, 0, 0, 2, [250]), (27, 16, 0, 0, [1048, 730, 119, 731])]
def sx_lk7 : List (Nat × Nat × Nat × Nat × List Nat) := [(3, 7, 0, 0, [264, 128, 129]), (9, 0, 3, 2, [267]), (15, 0, 3, 3, [268]), (19, 0, 3, 4, [269]), (22, 0, 3, 5, [271]), (25, 0, 3, 6, [273]), (28, 0, 3, 7, [275]), (31, 0, 3, 10, [281]), (35, 0, 3, 0, [265]), (39, 0, 3, 1, [266]), (42, 0, 3, 9, [279]), (45, 0, 3, 8, [277]), (48, 2, 44, 0, [764, 617, 618, 109]), (51, 0, 2, 5, [216]), (56, 2, 78, 2, [765, 767, 17, 109]), (60, 2, 79, 2, [771, 773, 18, 109]), (63, 2, 80, 1, [775, 777, 19, 109]), (67, 2, 49, 1, [769, 638, 639, 106]), (71, 2, 42, 2, [770, 609, 610, 106]), (75, 0, 3, 11, [283]), (78, 0, 2, 1, [204]), (81, 0, 2, 2, [208]), (84, 2, 81, 2, [779, 781, 20, 109]), (87, 2, 82, 2, [783, 784, 785, 106])]
def sx_lk8 : List (Nat × Nat × Nat × Nat × List Nat) := [(3, 7, 0, 0, [316, 128, 129]), (9, 0, 7, 1, [318]), (15, 0, 7, 2, [320]), (18, 0, 7, 3, [322]), (21, 0, 7, 4, [324]), (24, 0, 7, 5, [325]), (27, 0, 7, 6, [326]), (30, 0, 7, 7, [327]), (34, 0, 7, 0, [317]), (38, 0, 2, 1, [202]), (43, 2, 62, 2, [728, 694, 695, 106]), (47, 16, 0, 0, [729, 730, 119, 731]), (52, 2, 49, 1, [736, 638, 639, 106]), (56, 2, 68, 2, [737, 717, 718, 106]), (59, 15, 0, 0, [738, 606, 119, 607]), (62, 2, 73, 3, [743, 745, 16, 110]), (66, 0, 2, 5, [217]), (70, 8, 0, 2147483647, [857]), (71, 0, 2, 6, [222]), (74, 2, 100, 0, [858, 860, 25, 110]), (78, 2, 103, 2, [870, 871, 872, 110]), (81, 2, 102, 2, [866, 867, 868, 110]), (84, 3, 5, 2, [879, 195, 107]), (90, 3, 108, 3, [893, 894, 120]), (95, 0, 7, 8, [328]), (98, 2, 114, 1, [917, 919, 26, 110]), (102, 2, 115, 1, [921, 923, 27, 110]), (106, 3, 110, 2, [929, 903, 120]), (109, 2, 113, 0, [938, 914, 915, 110]), (112, 2, 119, 2, [939, 941, 28, 110])]
def sx_lk9 : List (Nat × Nat × Nat × Nat × List Nat) := [(3, 7, 0, 0, [353, 128, 129]), (11, 0, 4, 1, [355]), (15, 0, 4, 2, [356]), (18, 0, 4, 3, [357]), (21, 0, 4, 4, [358]), (25, 0, 4, 0, [354]), (29, 0, 6, 1, [137]), (35, 2, 20, 1, [1001, 464, 465, 104]), (39, 2, 49, 1, [1002, 638, 639, 106]), (45, 0, 4, 5, [359]), (48, 2, 136, 1, [1015, 1017, 31, 111]), (51, 0, 2, 0, [199]), (54, 3, 40, 3, [1019, 594, 106]), (58, 2, 135, 0, [1011, 1013, 30, 111]), (61, 2, 140, 2, [1032, 1034, 32, 111]), (65, 3, 108, 3, [1037, 894, 120]), (70, 16, 0, 0, [1038, 730, 119, 731]), (75, 15, 0, 0, [1036, 606, 119, 607])]
def sx_lk10 : List (Nat × Nat × Nat × Nat × List Nat) := [(3, 7, 0, 0, [379, 128, 129]), (11, 0, 1, 0, [380]), (15, 0, 1, 1, [382]), (19, 0, 2, 4, [213]), (24, 2, 157, 1, [1108, 1110, 35, 112]), (28, 0, 2, 6, [220]), (31, 2, 49, 1, [1112, 638, 639, 106]), (35, 0, 2, 0, [198]), (38, 0, 2, 1, [203]), (41, 0, 2, 2, [207]), (44, 3, 158, 2, [1113, 1114, 112]), (48, 2, 35, 0, [1127, 574, 575, 106]), (51, 2, 20, 1, [1128, 464, 465, 104]), (57, 5, 147, 1, [1129, 1066, 103]), (60, 0, 6, 1, [140]), (61, 3, 162, 1, [1130, 1131, 112]), (65, 3, 163, 3, [1133, 1134, 112]), (69, 3, 164, 1, [1138, 1139, 112]), (73, 3, 165, 1, [1142, 1143, 112]), (76, 5, 64, 1, [1136, 702, 103]), (79, 5, 33, 3, [1137, 568, 103]), (83, 0, 2, 5, [219]), (86, 2, 62, 2, [1141, 694, 695, 106]), (89, 16, 0, 0, [1145, 730, 119, 731])]
def sx_lk11 : List (Nat × Nat × Nat × Nat × List Nat) := [(265, 8, 0, 1431655765, [599]), (266, 8, 0, 858993459, [600]), (267, 8, 0, 252645135, [601])]
def sx_lk12 : List (Nat × Nat × Nat × Nat × List Nat) := [(7, 16, 0, 0, [896, 730, 119, 731]), (13, 15, 0, 0, [897, 606, 119, 607])]
def sx_lk13 : List (Nat × Nat × Nat × Nat × List Nat) := [(1, 7, 0, 0, [1155, 128, 129]), (7, 0, 9, 0, [1156]), (13, 0, 9, 1, [1157]), (16, 0, 9, 2, [1158]), (19, 0, 9, 3, [1159]), (22, 0, 9, 4, [1160]), (26, 0, 9, 5, [1161]), (29, 0, 9, 6, [1162]), (33, 0, 9, 7, [1163]), (36, 0, 9, 8, [1164]), (39, 0, 9, 9, [1165]), (42, 0, 9, 10, [1166]), (45, 0, 9, 11, [1167]), (48, 0, 9, 12, [1168]), (51, 0, 9, 13, [1169]), (54, 0, 9, 14, [1170]), (57, 0, 9, 15, [1171]), (60, 0, 9, 16, [1172]), (63, 0, 9, 17, [1173]), (66, 0, 9, 18, [1174]), (69, 0, 9, 19, [1175]), (72, 0, 9, 20, [1176]), (75, 0, 9, 21, [1177]), (78, 0, 9, 22, [1178]), (81, 0, 9, 23, [1179]), (84, 0, 9, 24, [1180]), (87, 0, 9, 25, [1181]), (90, 0, 9, 26, [1182]), (93, 0, 9, 27, [1183]), (96, 0, 9, 28, [1184]), (99, 0, 9, 29, [1185]), (102, 0, 9, 30, [1186]), (105, 0, 9, 31, [1187]), (108, 0, 9, 32, [1188]), (111, 0, 9, 33, [1189]), (114, 0, 9, 34, [1190]), (117, 0, 9, 35, [1191]), (120, 0, 9, 36, [1192]), (123, 0, 9, 37, [1193]), (126, 0, 9, 38, [1194]), (129, 0, 9, 39, [1195]), (132, 0, 9, 40, [1196]), (135, 0, 9, 41, [1197]), (138, 2, 169, 1, [1287, 1289, 36, 113]), (142, 2, 170, 1, [1291, 1293, 37, 113]), (146, 2, 172, 1, [1299, 1301, 38, 113]), (150, 2, 180, 1, [1331, 1333, 45, 113]), (153, 2, 178, 0, [1323, 1325, 43, 113]), (157, 2, 179, 0, [1327, 1329, 44, 113]), (161, 2, 181, 1, [1335, 1337, 46, 113]), (164, 2, 182, 1, [1339, 1341, 47, 113]), (167, 2, 183, 2, [1343, 1345, 48, 113]), (171, 2, 177, 0, [1319, 1321, 42, 113]), (174, 2, 184, 0, [1347, 1349, 49, 113]), (177, 2, 189, 1, [1366, 1368, 53, 113]), (180, 2, 188, 0, [1362, 1364, 52, 113]), (183, 2, 176, 1, [1315, 1317, 41, 113]), (186, 2, 190, 0, [1370, 1372, 54, 113]), (189, 3, 185, 3, [1351, 1352, 113]), (193, 2, 186, 0, [1354, 1356, 50, 113]), (196, 2, 187, 0, [1358, 1360, 51, 113]), (199, 2, 174, 0, [1307, 1309, 39, 113]), (202, 2, 175, 0, [1311, 1313, 40, 113]), (205, 2, 191, 4, [1374, 1376, 55, 113]), (209, 3, 197, 1, [1397, 1398, 113]), (212, 3, 198, 1, [1400, 1401, 113]), (215, 3, 199, 2, [1403, 1404, 113]), (219, 3, 196, 7, [1394, 1395, 113]), (223, 2, 195, 4, [1390, 1392, 59, 113]), (227, 2, 194, 2, [1386, 1388, 58, 113]), (231, 2, 193, 4, [1382, 1384, 57, 113]), (234, 2, 192, 3, [1378, 1380, 56, 113]), (238, 2, 216, 2, [1470, 1472, 68, 113]), (241, 2, 255, 1, [1626, 1628, 86, 113]), (244, 8, 0, 1000000, [1569]), (245, 2, 256, 1, [1630, 1632, 87, 113]), (248, 2, 202, 0, [1414, 1416, 60, 113]), (251, 2, 203, 0, [1418, 1420, 61, 113]), (254, 2, 205, 1, [1426, 1428, 62, 113]), (257, 2, 209, 2, [1442, 1444, 64, 113]), (260, 2, 211, 2, [1450, 1452, 66, 113]), (263, 2, 208, 1, [1438, 1440, 63, 113]), (266, 2, 210, 1, [1446, 1448, 65, 113]), (269, 2, 213, 3, [1458, 1460, 67, 113]), (272, 2, 219, 2, [1482, 1484, 69, 113]), (275, 2, 221, 1, [1490, 1492, 70, 113]), (278, 2, 222, 1, [1494, 1496, 71, 113]), (281, 2, 223, 1, [1498, 1500, 72, 113]), (284, 2, 231, 3, [1529, 1531, 77, 113]), (287, 2, 230, 2, [1525, 1527, 76, 113]), (290, 3, 226, 3, [1510, 1511, 113]), (293, 2, 227, 0, [1513, 1515, 73, 113]), (296, 2, 228, 5, [1517, 1519, 74, 113]), (300, 2, 229, 3, [1521, 1523, 75, 113]), (304, 2, 240, 2, [1565, 1567, 79, 113]), (307, 2, 239, 0, [1561, 1563, 78, 113]), (310, 2, 242, 2, [1574, 1576, 80, 113]), (313, 2, 246, 1, [1590, 1592, 81, 113]), (316, 2, 251, 0, [1610, 1612, 83, 113]), (319, 2, 250, 3, [1606, 1608, 82, 113]), (322, 2, 253, 0, [1618, 1620, 84, 113]), (325, 2, 254, 1, [1622, 1624, 85, 113]), (328, 2, 257, 1, [1634, 1636, 88, 113]), (331, 2, 258, 0, [1638, 1640, 89, 113]), (334, 2, 260, 0, [1646, 1648, 90, 113]), (337, 2, 264, 3, [1662, 1664, 92, 113]), (340, 2, 263, 1, [1658, 1660, 91, 113]), (343, 2, 266, 2, [1670, 1672, 93, 113]), (346, 2, 270, 1, [1686, 1688, 96, 113]), (349, 2, 268, 0, [1678, 1680, 94, 113]), (352, 2, 269, 3, [1682, 1684, 95, 113]), (355, 9, 0, 1103515245, [1718]), (357, 9, 0, 12345, [1719]), (359, 9, 0, 2147483648, [1720]), (361, 2, 277, 1, [1714, 1716, 98, 113]), (364, 2, 217, 2, [1721, 1475, 1476, 113]), (367, 2, 276, 0, [1710, 1712, 97, 113]), (370, 2, 281, 1, [1734, 1736, 99, 113]), (373, 2, 284, 1, [1746, 1748, 100, 113]), (376, 2, 285, 0, [1750, 1752, 101, 113])]
def sx_lkt : List (List (Nat × Nat × Nat × Nat × List Nat)) := [sx_lk0, sx_lk1, sx_lk2, sx_lk3, sx_lk4, sx_lk5, sx_lk6, sx_lk7, sx_lk8, sx_lk9, sx_lk10, sx_lk11, sx_lk12, sx_lk13]
