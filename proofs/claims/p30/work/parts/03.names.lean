def RX0 : String := "SteppedSpines$Block"
def TX0 : u_T := fun k => match k with
  | 0 => ("SteppedSpines$Block", "numbers", "[I", true)
  | 1 => ("SteppedSpines$Block", "turned", "[I", true)
  | 2 => ("SteppedSpines$Block", "size", "I", false)
  | 3 => ("SteppedSpines$Block", "longestEnding", "[I", true)
  | 4 => ("SteppedSpines$Block", "longestBeginning", "[I", true)
  | _ => ("SteppedSpines$Block", "tops", "[I", true)
def tyX0 : Nat → FieldType := fun k => match k with
  | 0 => .array .int
  | 1 => .array .int
  | 2 => .int
  | 3 => .array .int
  | 4 => .array .int
  | _ => .array .int
abbrev wsX00 : List Cond := u_ws RX0 TX0 6
theorem nmX0 : ∀ a, a < 6 → ∀ b, b < 6 → a ≠ b → (TX0 a).2.1 ≠ (TX0 b).2.1 := by decide +kernel
theorem tyX0_ok : ∀ k, k < 6 → parseFieldDescriptor (TX0 k).2.2.1 = some (tyX0 k) := by decide +kernel
abbrev cX0_init : ByteArray := prog_2_method_1_code
def yX0_init : MethodName := ⟨RX0, "<init>", "()V"⟩
abbrev cX0_hasPlace : ByteArray := prog_2_method_2_code
def yX0_hasPlace : MethodName := ⟨RX0, "hasPlace", "(I)Z"⟩
abbrev cX0_copyFrom : ByteArray := prog_2_method_3_code
def yX0_copyFrom : MethodName := ⟨RX0, "copyFrom", "(LSteppedSpines$Block;)V"⟩
abbrev cX0_putIn : ByteArray := prog_2_method_4_code
def yX0_putIn : MethodName := ⟨RX0, "putIn", "(III)V"⟩
abbrev cX0_takeOut : ByteArray := prog_2_method_5_code
def yX0_takeOut : MethodName := ⟨RX0, "takeOut", "(I)V"⟩
abbrev cX0_turnOver : ByteArray := prog_2_method_6_code
def yX0_turnOver : MethodName := ⟨RX0, "turnOver", "(I)V"⟩
abbrev cX0_shift : ByteArray := prog_2_method_7_code
def yX0_shift : MethodName := ⟨RX0, "shift", "(II)V"⟩
abbrev cX0_copiesOf : ByteArray := prog_2_method_8_code
def yX0_copiesOf : MethodName := ⟨RX0, "copiesOf", "(I)I"⟩
abbrev cX0_firstTurned : ByteArray := prog_2_method_9_code
def yX0_firstTurned : MethodName := ⟨RX0, "firstTurned", "()I"⟩
abbrev cX0_firstNotBelow : ByteArray := prog_2_method_10_code
def yX0_firstNotBelow : MethodName := ⟨RX0, "firstNotBelow", "(I)I"⟩
abbrev cX0_firstDouble : ByteArray := prog_2_method_11_code
def yX0_firstDouble : MethodName := ⟨RX0, "firstDouble", "()I"⟩
abbrev cX0_firstFall : ByteArray := prog_2_method_12_code
def yX0_firstFall : MethodName := ⟨RX0, "firstFall", "()I"⟩
abbrev cX0_greaterAheadOf : ByteArray := prog_2_method_13_code
def yX0_greaterAheadOf : MethodName := ⟨RX0, "greaterAheadOf", "(I)I"⟩
abbrev cX0_fallingPairs : ByteArray := prog_2_method_14_code
def yX0_fallingPairs : MethodName := ⟨RX0, "fallingPairs", "()I"⟩
abbrev cX0_fewestMovesBySheets : ByteArray := prog_2_method_15_code
def yX0_fewestMovesBySheets : MethodName := ⟨RX0, "fewestMovesBySheets", "()I"⟩
abbrev cX0_fewestMovesByPiles : ByteArray := prog_2_method_16_code
def yX0_fewestMovesByPiles : MethodName := ⟨RX0, "fewestMovesByPiles", "()I"⟩
abbrev cX0_longestRowBySheets : ByteArray := prog_2_method_17_code
def yX0_longestRowBySheets : MethodName := ⟨RX0, "longestRowBySheets", "()I"⟩
abbrev cX0_findLongestEnding : ByteArray := prog_2_method_18_code
def yX0_findLongestEnding : MethodName := ⟨RX0, "findLongestEnding", "()V"⟩
abbrev cX0_findLongestBeginning : ByteArray := prog_2_method_19_code
def yX0_findLongestBeginning : MethodName := ⟨RX0, "findLongestBeginning", "()V"⟩
abbrev cX0_longestAhead : ByteArray := prog_2_method_20_code
def yX0_longestAhead : MethodName := ⟨RX0, "longestAhead", "(II)I"⟩
abbrev cX0_longestFrom : ByteArray := prog_2_method_21_code
def yX0_longestFrom : MethodName := ⟨RX0, "longestFrom", "(II)I"⟩
abbrev cX0_pilesOfSheets : ByteArray := prog_2_method_22_code
def yX0_pilesOfSheets : MethodName := ⟨RX0, "pilesOfSheets", "()I"⟩
abbrev cX0_placeThatMakesRowOf : ByteArray := prog_2_method_23_code
def yX0_placeThatMakesRowOf : MethodName := ⟨RX0, "placeThatMakesRowOf", "(II)I"⟩
def RX1 : String := "SteppedSpines$History"
def TX1 : u_T := fun k => match k with
  | 0 => ("SteppedSpines$History", "states", "[LSteppedSpines$State;", true)
  | _ => ("SteppedSpines$History", "size", "I", false)
def tyX1 : Nat → FieldType := fun k => match k with
  | 0 => .array (.object "SteppedSpines$State")
  | _ => .int
abbrev wsX10 : List Cond := u_ws RX1 TX1 2
theorem nmX1 : ∀ a, a < 2 → ∀ b, b < 2 → a ≠ b → (TX1 a).2.1 ≠ (TX1 b).2.1 := by decide +kernel
theorem tyX1_ok : ∀ k, k < 2 → parseFieldDescriptor (TX1 k).2.2.1 = some (tyX1 k) := by decide +kernel
abbrev cX1_init : ByteArray := prog_3_method_1_code
def yX1_init : MethodName := ⟨RX1, "<init>", "()V"⟩
abbrev cX1_save : ByteArray := prog_3_method_2_code
def yX1_save : MethodName := ⟨RX1, "save", "(LSteppedSpines$State;)V"⟩
abbrev cX1_dropOldest : ByteArray := prog_3_method_3_code
def yX1_dropOldest : MethodName := ⟨RX1, "dropOldest", "()V"⟩
abbrev cX1_restore : ByteArray := prog_3_method_4_code
def yX1_restore : MethodName := ⟨RX1, "restore", "(LSteppedSpines$State;)V"⟩
def RX2 : String := "SteppedSpines$Reader"
def TX2 : u_T := fun k => match k with
  | 0 => ("SteppedSpines$Reader", "letter", "C", false)
  | 1 => ("SteppedSpines$Reader", "firstNumber", "I", false)
  | 2 => ("SteppedSpines$Reader", "number", "I", false)
  | 3 => ("SteppedSpines$Reader", "where", "I", false)
  | _ => ("SteppedSpines$Reader", "firstIsRead", "Z", false)
def tyX2 : Nat → FieldType := fun k => match k with
  | 0 => .char
  | 1 => .int
  | 2 => .int
  | 3 => .int
  | _ => .boolean
abbrev wsX20 : List Cond := u_ws RX2 TX2 5
theorem nmX2 : ∀ a, a < 5 → ∀ b, b < 5 → a ≠ b → (TX2 a).2.1 ≠ (TX2 b).2.1 := by decide +kernel
theorem tyX2_ok : ∀ k, k < 5 → parseFieldDescriptor (TX2 k).2.2.1 = some (tyX2 k) := by decide +kernel
abbrev cX2_init : ByteArray := prog_4_method_1_code
def yX2_init : MethodName := ⟨RX2, "<init>", "()V"⟩
def RX3 : String := "SteppedSpines$State"
def TX3 : u_T := fun k => match k with
  | 0 => ("SteppedSpines$State", "block", "LSteppedSpines$Block;", true)
  | 1 => ("SteppedSpines$State", "copies", "[I", true)
  | 2 => ("SteppedSpines$State", "inBooks", "[I", true)
  | 3 => ("SteppedSpines$State", "printed", "[I", true)
  | 4 => ("SteppedSpines$State", "holes", "[I", true)
  | 5 => ("SteppedSpines$State", "settings", "[I", true)
  | 6 => ("SteppedSpines$State", "booksBound", "I", false)
  | _ => ("SteppedSpines$State", "latestStop", "I", false)
def tyX3 : Nat → FieldType := fun k => match k with
  | 0 => .object "SteppedSpines$Block"
  | 1 => .array .int
  | 2 => .array .int
  | 3 => .array .int
  | 4 => .array .int
  | 5 => .array .int
  | 6 => .int
  | _ => .int
abbrev wsX30 : List Cond := u_ws RX3 TX3 8
theorem nmX3 : ∀ a, a < 8 → ∀ b, b < 8 → a ≠ b → (TX3 a).2.1 ≠ (TX3 b).2.1 := by decide +kernel
theorem tyX3_ok : ∀ k, k < 8 → parseFieldDescriptor (TX3 k).2.2.1 = some (tyX3 k) := by decide +kernel
abbrev cX3_init : ByteArray := prog_5_method_1_code
def yX3_init : MethodName := ⟨RX3, "<init>", "()V"⟩
abbrev cX3_copyFrom : ByteArray := prog_5_method_2_code
def yX3_copyFrom : MethodName := ⟨RX3, "copyFrom", "(LSteppedSpines$State;)V"⟩
abbrev cX3_bookSheets : ByteArray := prog_5_method_3_code
def yX3_bookSheets : MethodName := ⟨RX3, "bookSheets", "()I"⟩
abbrev cX3_hasCopyAndRoom : ByteArray := prog_5_method_4_code
def yX3_hasCopyAndRoom : MethodName := ⟨RX3, "hasCopyAndRoom", "(I)Z"⟩
abbrev cX3_putFromBin : ByteArray := prog_5_method_5_code
def yX3_putFromBin : MethodName := ⟨RX3, "putFromBin", "(II)V"⟩
abbrev cX3_putBack : ByteArray := prog_5_method_6_code
def yX3_putBack : MethodName := ⟨RX3, "putBack", "(I)I"⟩
abbrev cX3_bindBlock : ByteArray := prog_5_method_7_code
def yX3_bindBlock : MethodName := ⟨RX3, "bindBlock", "()V"⟩
abbrev cX3_copiesInBinAndBlock : ByteArray := prog_5_method_8_code
def yX3_copiesInBinAndBlock : MethodName := ⟨RX3, "copiesInBinAndBlock", "(I)I"⟩
abbrev cX3_sheetsInBooks : ByteArray := prog_5_method_9_code
def yX3_sheetsInBooks : MethodName := ⟨RX3, "sheetsInBooks", "()I"⟩
abbrev cX3_stepOfNumber : ByteArray := prog_5_method_10_code
def yX3_stepOfNumber : MethodName := ⟨RX3, "stepOfNumber", "(I)I"⟩
abbrev cX3_stepOfMark : ByteArray := prog_5_method_11_code
def yX3_stepOfMark : MethodName := ⟨RX3, "stepOfMark", "(I)I"⟩
abbrev cX3_stepDueAt : ByteArray := prog_5_method_12_code
def yX3_stepDueAt : MethodName := ⟨RX3, "stepDueAt", "(I)I"⟩
abbrev cX3_breaksAheadOf : ByteArray := prog_5_method_13_code
def yX3_breaksAheadOf : MethodName := ⟨RX3, "breaksAheadOf", "(I)Z"⟩
abbrev cX3_breaks : ByteArray := prog_5_method_14_code
def yX3_breaks : MethodName := ⟨RX3, "breaks", "()I"⟩
abbrev cX3_fault : ByteArray := prog_5_method_15_code
def yX3_fault : MethodName := ⟨RX3, "fault", "()I"⟩
abbrev cX3_placeOfFault : ByteArray := prog_5_method_16_code
def yX3_placeOfFault : MethodName := ⟨RX3, "placeOfFault", "()I"⟩
abbrev cX3_lowestMissing : ByteArray := prog_5_method_17_code
def yX3_lowestMissing : MethodName := ⟨RX3, "lowestMissing", "()I"⟩
abbrev cX3_holesAt : ByteArray := prog_5_method_18_code
def yX3_holesAt : MethodName := ⟨RX3, "holesAt", "(I)I"⟩
abbrev cX3_stitchesAheadOf : ByteArray := prog_5_method_19_code
def yX3_stitchesAheadOf : MethodName := ⟨RX3, "stitchesAheadOf", "(I)I"⟩
abbrev cX3_stitches : ByteArray := prog_5_method_20_code
def yX3_stitches : MethodName := ⟨RX3, "stitches", "()I"⟩
abbrev cX3_loosePlaces : ByteArray := prog_5_method_21_code
def yX3_loosePlaces : MethodName := ⟨RX3, "loosePlaces", "()I"⟩
abbrev cX3_threadLength : ByteArray := prog_5_method_22_code
def yX3_threadLength : MethodName := ⟨RX3, "threadLength", "()I"⟩
abbrev cX3_spanOfHoles : ByteArray := prog_5_method_23_code
def yX3_spanOfHoles : MethodName := ⟨RX3, "spanOfHoles", "(I)I"⟩
def RX4 : String := "SteppedSpines"
def TX4 : u_T := fun k => match k with
  | 0 => ("SteppedSpines", "now", "LSteppedSpines$State;", true)
  | 1 => ("SteppedSpines", "snapshot", "LSteppedSpines$State;", true)
  | 2 => ("SteppedSpines", "trial", "LSteppedSpines$State;", true)
  | 3 => ("SteppedSpines", "history", "LSteppedSpines$History;", true)
  | 4 => ("SteppedSpines", "reader", "LSteppedSpines$Reader;", true)
  | 5 => ("SteppedSpines", "buffer", "[I", true)
  | 6 => ("SteppedSpines", "bufferLength", "I", false)
  | _ => ("SteppedSpines", "hasSnapshot", "Z", false)
def tyX4 : Nat → FieldType := fun k => match k with
  | 0 => .object "SteppedSpines$State"
  | 1 => .object "SteppedSpines$State"
  | 2 => .object "SteppedSpines$State"
  | 3 => .object "SteppedSpines$History"
  | 4 => .object "SteppedSpines$Reader"
  | 5 => .array .int
  | 6 => .int
  | _ => .boolean
abbrev wsX40 : List Cond := u_ws RX4 TX4 8
theorem nmX4 : ∀ a, a < 8 → ∀ b, b < 8 → a ≠ b → (TX4 a).2.1 ≠ (TX4 b).2.1 := by decide +kernel
theorem tyX4_ok : ∀ k, k < 8 → parseFieldDescriptor (TX4 k).2.2.1 = some (tyX4 k) := by decide +kernel
abbrev cX4_init : ByteArray := prog_1_method_1_code
def yX4_init : MethodName := ⟨RX4, "<init>", "()V"⟩
abbrev cX4_gather : ByteArray := prog_1_method_2_code
def yX4_gather : MethodName := ⟨RX4, "gather", "(I)I"⟩
abbrev cX4_insert : ByteArray := prog_1_method_3_code
def yX4_insert : MethodName := ⟨RX4, "insert", "(II)I"⟩
abbrev cX4_pull : ByteArray := prog_1_method_4_code
def yX4_pull : MethodName := ⟨RX4, "pull", "(I)I"⟩
abbrev cX4_flip : ByteArray := prog_1_method_5_code
def yX4_flip : MethodName := ⟨RX4, "flip", "(I)I"⟩
abbrev cX4_move : ByteArray := prog_1_method_6_code
def yX4_move : MethodName := ⟨RX4, "move", "(II)I"⟩
abbrev cX4_bind : ByteArray := prog_1_method_7_code
def yX4_bind : MethodName := ⟨RX4, "bind", "()I"⟩
abbrev cX4_print : ByteArray := prog_1_method_8_code
def yX4_print : MethodName := ⟨RX4, "print", "(II)I"⟩
abbrev cX4_punch : ByteArray := prog_1_method_9_code
def yX4_punch : MethodName := ⟨RX4, "punch", "(II)I"⟩
abbrev cX4_set : ByteArray := prog_1_method_10_code
def yX4_set : MethodName := ⟨RX4, "set", "(II)I"⟩
abbrev cX4_keep : ByteArray := prog_1_method_15_code
def yX4_keep : MethodName := ⟨RX4, "keep", "()I"⟩
abbrev cX4_goBack : ByteArray := prog_1_method_16_code
def yX4_goBack : MethodName := ⟨RX4, "goBack", "()I"⟩
abbrev cX4_undo : ByteArray := prog_1_method_17_code
def yX4_undo : MethodName := ⟨RX4, "undo", "()I"⟩
abbrev cX4_sheet : ByteArray := prog_1_method_18_code
def yX4_sheet : MethodName := ⟨RX4, "sheet", "(II)I"⟩
abbrev cX4_bin : ByteArray := prog_1_method_19_code
def yX4_bin : MethodName := ⟨RX4, "bin", "(II)I"⟩
abbrev cX4_count : ByteArray := prog_1_method_20_code
def yX4_count : MethodName := ⟨RX4, "count", "(I)I"⟩
abbrev cX4_setting : ByteArray := prog_1_method_21_code
def yX4_setting : MethodName := ⟨RX4, "setting", "(I)I"⟩
abbrev cX4_nextMove : ByteArray := prog_1_method_22_code
def yX4_nextMove : MethodName := ⟨RX4, "nextMove", "()I"⟩
abbrev cX4_ifPulled : ByteArray := prog_1_method_23_code
def yX4_ifPulled : MethodName := ⟨RX4, "ifPulled", "(II)I"⟩
abbrev cX4_fits : ByteArray := prog_1_method_24_code
def yX4_fits : MethodName := ⟨RX4, "fits", "()I"⟩
abbrev cX4_books : ByteArray := prog_1_method_25_code
def yX4_books : MethodName := ⟨RX4, "books", "()I"⟩
abbrev cX4_stairShare : ByteArray := prog_1_method_26_code
def yX4_stairShare : MethodName := ⟨RX4, "stairShare", "()D"⟩
abbrev cX4_isBin : ByteArray := prog_1_method_37_code
def yX4_isBin : MethodName := ⟨RX4, "isBin", "(I)Z"⟩
abbrev cX4_isSetting : ByteArray := prog_1_method_38_code
def yX4_isSetting : MethodName := ⟨RX4, "isSetting", "(I)Z"⟩
abbrev cX4_at : ByteArray := prog_1_method_39_code
def yX4_at : MethodName := ⟨RX4, "at", "([II)I"⟩
abbrev cX4_put : ByteArray := prog_1_method_40_code
def yX4_put : MethodName := ⟨RX4, "put", "([III)V"⟩
abbrev cX4_addTo : ByteArray := prog_1_method_41_code
def yX4_addTo : MethodName := ⟨RX4, "addTo", "([III)V"⟩
abbrev cX4_copyRow : ByteArray := prog_1_method_42_code
def yX4_copyRow : MethodName := ⟨RX4, "copyRow", "([I[I)V"⟩
def RX5 : String := "SteppedSpinesModel"
def TX5 : u_T := fun k => match k with
  | _ => ("", "", "", false)
def tyX5 : Nat → FieldType := fun k => match k with
  | _ => .int
abbrev wsX50 : List Cond := u_ws RX5 TX5 0
theorem nmX5 : ∀ a, a < 0 → ∀ b, b < 0 → a ≠ b → (TX5 a).2.1 ≠ (TX5 b).2.1 := by decide +kernel
theorem tyX5_ok : ∀ k, k < 0 → parseFieldDescriptor (TX5 k).2.2.1 = some (tyX5 k) := by decide +kernel
def RJx145de : String := "java/io/Serializable"
def TJx145de : u_T := fun k => match k with
  | _ => ("", "", "", false)
def tyJx145de : Nat → FieldType := fun k => match k with
  | _ => .int
abbrev wsJx145de0 : List Cond := u_ws RJx145de TJx145de 0
theorem nmJx145de : ∀ a, a < 0 → ∀ b, b < 0 → a ≠ b → (TJx145de a).2.1 ≠ (TJx145de b).2.1 := by decide +kernel
theorem tyJx145de_ok : ∀ k, k < 0 → parseFieldDescriptor (TJx145de k).2.2.1 = some (tyJx145de k) := by decide +kernel
def RJ6 : String := "java/lang/Integer"
def TJ6 : u_T := fun k => match k with
  | _ => ("", "", "", false)
def tyJ6 : Nat → FieldType := fun k => match k with
  | _ => .int
abbrev wsJ60 : List Cond := u_ws RJ6 TJ6 0
theorem nmJ6 : ∀ a, a < 0 → ∀ b, b < 0 → a ≠ b → (TJ6 a).2.1 ≠ (TJ6 b).2.1 := by decide +kernel
theorem tyJ6_ok : ∀ k, k < 0 → parseFieldDescriptor (TJ6 k).2.2.1 = some (tyJ6 k) := by decide +kernel
abbrev cJ6_bitCount_0f7a4 : ByteArray := prog_12_method_49_code
def yJ6_bitCount_0f7a4 : MethodName := ⟨RJ6, "bitCount", "(I)I"⟩
def RJ9 : String := "java/lang/Math"
def TJ9 : u_T := fun k => match k with
  | _ => ("", "", "", false)
def tyJ9 : Nat → FieldType := fun k => match k with
  | _ => .int
abbrev wsJ90 : List Cond := u_ws RJ9 TJ9 0
theorem nmJ9 : ∀ a, a < 0 → ∀ b, b < 0 → a ≠ b → (TJ9 a).2.1 ≠ (TJ9 b).2.1 := by decide +kernel
theorem tyJ9_ok : ∀ k, k < 0 → parseFieldDescriptor (TJ9 k).2.2.1 = some (tyJ9 k) := by decide +kernel
abbrev cJ9_max_7cf53 : ByteArray := prog_13_method_65_code
def yJ9_max_7cf53 : MethodName := ⟨RJ9, "max", "(II)I"⟩
abbrev cJ9_min_7cf53 : ByteArray := prog_13_method_69_code
def yJ9_min_7cf53 : MethodName := ⟨RJ9, "min", "(II)I"⟩
def RJ0 : String := "java/lang/String"
def TJ0 : u_T := fun k => match k with
  | _ => ("", "", "", false)
def tyJ0 : Nat → FieldType := fun k => match k with
  | _ => .int
abbrev wsJ00 : List Cond := u_ws RJ0 TJ0 0
theorem nmJ0 : ∀ a, a < 0 → ∀ b, b < 0 → a ≠ b → (TJ0 a).2.1 ≠ (TJ0 b).2.1 := by decide +kernel
theorem tyJ0_ok : ∀ k, k < 0 → parseFieldDescriptor (TJ0 k).2.2.1 = some (tyJ0 k) := by decide +kernel
def RJ10 : String := "java/lang/System"
def TJ10 : u_T := fun k => match k with
  | _ => ("", "", "", false)
def tyJ10 : Nat → FieldType := fun k => match k with
  | _ => .int
abbrev wsJ100 : List Cond := u_ws RJ10 TJ10 0
theorem nmJ10 : ∀ a, a < 0 → ∀ b, b < 0 → a ≠ b → (TJ10 a).2.1 ≠ (TJ10 b).2.1 := by decide +kernel
theorem tyJ10_ok : ∀ k, k < 0 → parseFieldDescriptor (TJ10 k).2.2.1 = some (tyJ10 k) := by decide +kernel
def RJ7 : String := "java/util/Arrays"
def TJ7 : u_T := fun k => match k with
  | _ => ("", "", "", false)
def tyJ7 : Nat → FieldType := fun k => match k with
  | _ => .int
abbrev wsJ70 : List Cond := u_ws RJ7 TJ7 0
theorem nmJ7 : ∀ a, a < 0 → ∀ b, b < 0 → a ≠ b → (TJ7 a).2.1 ≠ (TJ7 b).2.1 := by decide +kernel
theorem tyJ7_ok : ∀ k, k < 0 → parseFieldDescriptor (TJ7 k).2.2.1 = some (tyJ7 k) := by decide +kernel
abbrev cJ7_fill_53178 : ByteArray := prog_18_method_103_code
def yJ7_fill_53178 : MethodName := ⟨RJ7, "fill", "([II)V"⟩
def RL : String := "SteppedSpinesLaw"
abbrev cL_cell : ByteArray := method_2_code
def yL_cell : MethodName := ⟨RL, "cell", "([II)I"⟩
abbrev cL_up : ByteArray := method_3_code
def yL_up : MethodName := ⟨RL, "up", "(II)I"⟩
abbrev cL_looks : ByteArray := method_4_code
def yL_looks : MethodName := ⟨RL, "looks", "(LSteppedSpines;)J"⟩
abbrev cL_act : ByteArray := method_5_code
def yL_act : MethodName := ⟨RL, "act", "(LSteppedSpines;II)I"⟩
abbrev cL_holds : ByteArray := method_6_code
def yL_holds : MethodName := ⟨RL, "holds", "(LSteppedSpines;)Z"⟩
abbrev cL_isAhead : ByteArray := method_7_code
def yL_isAhead : MethodName := ⟨RL, "isAhead", "(LSteppedSpines;II)Z"⟩
abbrev cL_law : ByteArray := code
def yL_law : MethodName := ⟨RL, "law", "([I)Z"⟩
abbrev vwCl : List vw_C := [(RX0, TX0, 6), (RX1, TX1, 2), (RX2, TX2, 5), (RX3, TX3, 8), (RX4, TX4, 8)]
