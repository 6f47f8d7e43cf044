/-! NAMES and words: classes, methods, and which words the tables have (by their places) -/
def RX0 : String := "FaxRows$Bits"
def TX0 : u_T := fun k => match k with
  | 0 => ("FaxRows$Bits", "bytes", "[B", false)
  | 1 => ("FaxRows$Bits", "count", "I", false)
  | 2 => ("FaxRows$Bits", "place", "I", false)
  | _ => ("FaxRows$Bits", "turn", "I", false)
def tyX0 : Nat → FieldType := fun k => match k with
  | 0 => .array .byte
  | 1 => .int
  | 2 => .int
  | _ => .int
theorem nmX0 : ∀ a, a < 4 → ∀ b, b < 4 → a ≠ b → (TX0 a).2.1 ≠ (TX0 b).2.1 := by decide +kernel
theorem tyX0_ok : ∀ k, k < 4 → parseFieldDescriptor (TX0 k).2.2.1 = some (tyX0 k) := by decide +kernel
def RX1 : String := "FaxRows$CodeTree"
def TX1 : u_T := fun k => match k with
  | 0 => ("FaxRows$CodeTree", "branches", "[I", false)
  | _ => ("FaxRows$CodeTree", "nodes", "I", false)
def tyX1 : Nat → FieldType := fun k => match k with
  | 0 => .array .int
  | _ => .int
theorem nmX1 : ∀ a, a < 2 → ∀ b, b < 2 → a ≠ b → (TX1 a).2.1 ≠ (TX1 b).2.1 := by decide +kernel
theorem tyX1_ok : ∀ k, k < 2 → parseFieldDescriptor (TX1 k).2.2.1 = some (tyX1 k) := by decide +kernel
def RX2 : String := "FaxRows$Lists"
def TX2 : u_T := fun k => match k with
  | 0 => ("FaxRows$Lists", "starts", "[I", true)
  | 1 => ("FaxRows$Lists", "items", "[I", false)
  | _ => ("FaxRows$Lists", "closed", "I", false)
def tyX2 : Nat → FieldType := fun k => match k with
  | 0 => .array .int
  | 1 => .array .int
  | _ => .int
theorem nmX2 : ∀ a, a < 3 → ∀ b, b < 3 → a ≠ b → (TX2 a).2.1 ≠ (TX2 b).2.1 := by decide +kernel
theorem tyX2_ok : ∀ k, k < 3 → parseFieldDescriptor (TX2 k).2.2.1 = some (tyX2 k) := by decide +kernel
def RX3 : String := "FaxRows$Reader"
def TX3 : u_T := fun k => match k with
  | 0 => ("FaxRows$Reader", "width", "I", true)
  | 1 => ("FaxRows$Reader", "rows", "LFaxRows$Lists;", true)
  | 2 => ("FaxRows$Reader", "modes", "LFaxRows$Lists;", true)
  | 3 => ("FaxRows$Reader", "damages", "[Z", true)
  | 4 => ("FaxRows$Reader", "whiteRuns", "LFaxRows$CodeTree;", true)
  | 5 => ("FaxRows$Reader", "blackRuns", "LFaxRows$CodeTree;", true)
  | 6 => ("FaxRows$Reader", "modeCodes", "LFaxRows$CodeTree;", true)
  | 7 => ("FaxRows$Reader", "told", "LFaxRows$Told;", true)
  | _ => ("FaxRows$Reader", "in", "LFaxRows$Bits;", false)
def tyX3 : Nat → FieldType := fun k => match k with
  | 0 => .int
  | 1 => .object "FaxRows$Lists"
  | 2 => .object "FaxRows$Lists"
  | 3 => .array .boolean
  | 4 => .object "FaxRows$CodeTree"
  | 5 => .object "FaxRows$CodeTree"
  | 6 => .object "FaxRows$CodeTree"
  | 7 => .object "FaxRows$Told"
  | _ => .object "FaxRows$Bits"
theorem nmX3 : ∀ a, a < 9 → ∀ b, b < 9 → a ≠ b → (TX3 a).2.1 ≠ (TX3 b).2.1 := by decide +kernel
theorem tyX3_ok : ∀ k, k < 9 → parseFieldDescriptor (TX3 k).2.2.1 = some (tyX3 k) := by decide +kernel
def RX4 : String := "FaxRows$Samples"
def TX4 : u_T := fun k => match k with
  | 0 => ("FaxRows$Samples", "width", "I", true)
  | _ => ("FaxRows$Samples", "words", "[I", true)
def tyX4 : Nat → FieldType := fun k => match k with
  | 0 => .int
  | _ => .array .int
theorem nmX4 : ∀ a, a < 2 → ∀ b, b < 2 → a ≠ b → (TX4 a).2.1 ≠ (TX4 b).2.1 := by decide +kernel
theorem tyX4_ok : ∀ k, k < 2 → parseFieldDescriptor (TX4 k).2.2.1 = some (tyX4 k) := by decide +kernel
def RX5 : String := "FaxRows$Told"
def TX5 : u_T := fun k => match k with
  | 0 => ("FaxRows$Told", "rows", "LFaxRows$Lists;", true)
  | 1 => ("FaxRows$Told", "width", "I", true)
  | 2 => ("FaxRows$Told", "above", "I", false)
  | 3 => ("FaxRows$Told", "next", "I", false)
  | 4 => ("FaxRows$Told", "a0", "I", false)
  | _ => ("FaxRows$Told", "black", "Z", false)
def tyX5 : Nat → FieldType := fun k => match k with
  | 0 => .object "FaxRows$Lists"
  | 1 => .int
  | 2 => .int
  | 3 => .int
  | 4 => .int
  | _ => .boolean
theorem nmX5 : ∀ a, a < 6 → ∀ b, b < 6 → a ≠ b → (TX5 a).2.1 ≠ (TX5 b).2.1 := by decide +kernel
theorem tyX5_ok : ∀ k, k < 6 → parseFieldDescriptor (TX5 k).2.2.1 = some (tyX5 k) := by decide +kernel
def RX6 : String := "FaxRows$Writer"
def TX6 : u_T := fun k => match k with
  | 0 => ("FaxRows$Writer", "rows", "LFaxRows$Lists;", true)
  | 1 => ("FaxRows$Writer", "width", "I", true)
  | 2 => ("FaxRows$Writer", "out", "LFaxRows$Bits;", true)
  | _ => ("FaxRows$Writer", "told", "LFaxRows$Told;", true)
def tyX6 : Nat → FieldType := fun k => match k with
  | 0 => .object "FaxRows$Lists"
  | 1 => .int
  | 2 => .object "FaxRows$Bits"
  | _ => .object "FaxRows$Told"
theorem nmX6 : ∀ a, a < 4 → ∀ b, b < 4 → a ≠ b → (TX6 a).2.1 ≠ (TX6 b).2.1 := by decide +kernel
theorem tyX6_ok : ∀ k, k < 4 → parseFieldDescriptor (TX6 k).2.2.1 = some (tyX6 k) := by decide +kernel
def RX7 : String := "FaxRows"
def TX7 : u_T := fun k => match k with
  | 0 => ("FaxRows", "kind", "I", true)
  | 1 => ("FaxRows", "width", "I", true)
  | 2 => ("FaxRows", "made", "LFaxRows$Samples;", true)
  | 3 => ("FaxRows", "rows", "LFaxRows$Lists;", true)
  | 4 => ("FaxRows", "written", "LFaxRows$Bits;", true)
  | 5 => ("FaxRows", "fed", "LFaxRows$Bits;", true)
  | 6 => ("FaxRows", "writer", "LFaxRows$Writer;", true)
  | 7 => ("FaxRows", "reader", "LFaxRows$Reader;", true)
  | 8 => ("FaxRows", "fillBits", "I", false)
  | 9 => ("FaxRows", "repeatAbove", "Z", false)
  | _ => ("FaxRows", "lowestFirst", "Z", false)
def tyX7 : Nat → FieldType := fun k => match k with
  | 0 => .int
  | 1 => .int
  | 2 => .object "FaxRows$Samples"
  | 3 => .object "FaxRows$Lists"
  | 4 => .object "FaxRows$Bits"
  | 5 => .object "FaxRows$Bits"
  | 6 => .object "FaxRows$Writer"
  | 7 => .object "FaxRows$Reader"
  | 8 => .int
  | 9 => .boolean
  | _ => .boolean
theorem nmX7 : ∀ a, a < 11 → ∀ b, b < 11 → a ≠ b → (TX7 a).2.1 ≠ (TX7 b).2.1 := by decide +kernel
theorem tyX7_ok : ∀ k, k < 11 → parseFieldDescriptor (TX7 k).2.2.1 = some (tyX7 k) := by decide +kernel
def RX8 : String := "FaxRowsModel"
def TX8 : u_T := fun k => match k with
  | 0 => ("FaxRowsModel", "whites", "[I", true)
  | 1 => ("FaxRowsModel", "blacks", "[I", true)
  | 2 => ("FaxRowsModel", "whiteMore", "[I", true)
  | 3 => ("FaxRowsModel", "blackMore", "[I", true)
  | 4 => ("FaxRowsModel", "bothMore", "[I", true)
  | 5 => ("FaxRowsModel", "whiteRuns", "[I", true)
  | 6 => ("FaxRowsModel", "blackRuns", "[I", true)
  | 7 => ("FaxRowsModel", "code", "I", false)
  | 8 => ("FaxRowsModel", "kind", "I", true)
  | 9 => ("FaxRowsModel", "width", "I", true)
  | 10 => ("FaxRowsModel", "made", "[Z", true)
  | 11 => ("FaxRowsModel", "given", "[Z", true)
  | 12 => ("FaxRowsModel", "givenRows", "I", false)
  | 13 => ("FaxRowsModel", "written", "[I", true)
  | 14 => ("FaxRowsModel", "writtenBits", "I", false)
  | 15 => ("FaxRowsModel", "isWritten", "Z", false)
  | 16 => ("FaxRowsModel", "fed", "[I", true)
  | 17 => ("FaxRowsModel", "fedBytes", "I", false)
  | 18 => ("FaxRowsModel", "fill", "I", false)
  | 19 => ("FaxRowsModel", "rule", "I", false)
  | 20 => ("FaxRowsModel", "low", "Z", false)
  | 21 => ("FaxRowsModel", "rows", "[Z", true)
  | 22 => ("FaxRowsModel", "hurt", "[Z", true)
  | 23 => ("FaxRowsModel", "modes", "[I", true)
  | 24 => ("FaxRowsModel", "modeCount", "[I", true)
  | 25 => ("FaxRowsModel", "readRows", "I", false)
  | 26 => ("FaxRowsModel", "at", "I", false)
  | 27 => ("FaxRowsModel", "bits", "I", false)
  | 28 => ("FaxRowsModel", "fromFed", "Z", false)
  | 29 => ("FaxRowsModel", "bad", "Z", false)
  | _ => ("FaxRowsModel", "extension", "Z", false)
def tyX8 : Nat → FieldType := fun k => match k with
  | 0 => .array .int
  | 1 => .array .int
  | 2 => .array .int
  | 3 => .array .int
  | 4 => .array .int
  | 5 => .array .int
  | 6 => .array .int
  | 7 => .int
  | 8 => .int
  | 9 => .int
  | 10 => .array .boolean
  | 11 => .array .boolean
  | 12 => .int
  | 13 => .array .int
  | 14 => .int
  | 15 => .boolean
  | 16 => .array .int
  | 17 => .int
  | 18 => .int
  | 19 => .int
  | 20 => .boolean
  | 21 => .array .boolean
  | 22 => .array .boolean
  | 23 => .array .int
  | 24 => .array .int
  | 25 => .int
  | 26 => .int
  | 27 => .int
  | 28 => .boolean
  | 29 => .boolean
  | _ => .boolean
theorem nmX8 : ∀ a, a < 31 → ∀ b, b < 31 → a ≠ b → (TX8 a).2.1 ≠ (TX8 b).2.1 := by decide +kernel
theorem tyX8_ok : ∀ k, k < 31 → parseFieldDescriptor (TX8 k).2.2.1 = some (tyX8 k) := by decide +kernel
def RJ7 : String := "java/util/Arrays"
def RL : String := "FaxRowsLaw"
abbrev cX0_init : ByteArray := prog_2_method_1_code
def yX0_init : MethodName := ⟨RX0, "<init>", "()V"⟩
abbrev cX0_setLowestFirst : ByteArray := prog_2_method_2_code
def yX0_setLowestFirst : MethodName := ⟨RX0, "setLowestFirst", "(Z)V"⟩
abbrev cX0_removeAll : ByteArray := prog_2_method_3_code
def yX0_removeAll : MethodName := ⟨RX0, "removeAll", "()V"⟩
abbrev cX0_count : ByteArray := prog_2_method_4_code
def yX0_count : MethodName := ⟨RX0, "count", "()I"⟩
abbrev cX0_byteCount : ByteArray := prog_2_method_5_code
def yX0_byteCount : MethodName := ⟨RX0, "byteCount", "()I"⟩
abbrev cX0_byteOf : ByteArray := prog_2_method_6_code
def yX0_byteOf : MethodName := ⟨RX0, "byteOf", "(I)I"⟩
abbrev cX0_addByte : ByteArray := prog_2_method_7_code
def yX0_addByte : MethodName := ⟨RX0, "addByte", "(I)V"⟩
abbrev cX0_addZeros : ByteArray := prog_2_method_8_code
def yX0_addZeros : MethodName := ⟨RX0, "addZeros", "(I)V"⟩
abbrev cX0_addCode : ByteArray := prog_2_method_9_code
def yX0_addCode : MethodName := ⟨RX0, "addCode", "(I)V"⟩
abbrev cX0_fillLastByte : ByteArray := prog_2_method_10_code
def yX0_fillLastByte : MethodName := ⟨RX0, "fillLastByte", "()V"⟩
abbrev cX0_beginReading : ByteArray := prog_2_method_11_code
def yX0_beginReading : MethodName := ⟨RX0, "beginReading", "()V"⟩
abbrev cX0_left : ByteArray := prog_2_method_12_code
def yX0_left : MethodName := ⟨RX0, "left", "()I"⟩
abbrev cX0_isOne : ByteArray := prog_2_method_13_code
def yX0_isOne : MethodName := ⟨RX0, "isOne", "(I)Z"⟩
abbrev cX0_skip : ByteArray := prog_2_method_14_code
def yX0_skip : MethodName := ⟨RX0, "skip", "(I)V"⟩
abbrev cX0_isAtMark : ByteArray := prog_2_method_15_code
def yX0_isAtMark : MethodName := ⟨RX0, "isAtMark", "()Z"⟩
abbrev cX0_skipToMark : ByteArray := prog_2_method_16_code
def yX0_skipToMark : MethodName := ⟨RX0, "skipToMark", "()Z"⟩
abbrev cX0_zerosAhead : ByteArray := prog_2_method_17_code
def yX0_zerosAhead : MethodName := ⟨RX0, "zerosAhead", "(I)I"⟩
abbrev cX0_makeRoomFor : ByteArray := prog_2_method_18_code
def yX0_makeRoomFor : MethodName := ⟨RX0, "makeRoomFor", "(I)V"⟩
abbrev cX1_init : ByteArray := prog_3_method_1_code
def yX1_init : MethodName := ⟨RX1, "<init>", "()V"⟩
abbrev cX1_addAll : ByteArray := prog_3_method_2_code
def yX1_addAll : MethodName := ⟨RX1, "addAll", "([II)V"⟩
abbrev cX1_add : ByteArray := prog_3_method_3_code
def yX1_add : MethodName := ⟨RX1, "add", "(II)V"⟩
abbrev cX1_nodeBelow : ByteArray := prog_3_method_4_code
def yX1_nodeBelow : MethodName := ⟨RX1, "nodeBelow", "(IZ)I"⟩
abbrev cX1_branch : ByteArray := prog_3_method_5_code
def yX1_branch : MethodName := ⟨RX1, "branch", "(IZ)I"⟩
abbrev cX1_setBranch : ByteArray := prog_3_method_6_code
def yX1_setBranch : MethodName := ⟨RX1, "setBranch", "(IZI)V"⟩
abbrev cX1_read : ByteArray := prog_3_method_7_code
def yX1_read : MethodName := ⟨RX1, "read", "(LFaxRows$Bits;)I"⟩
abbrev cX2_init : ByteArray := prog_4_method_1_code
def yX2_init : MethodName := ⟨RX2, "<init>", "()V"⟩
abbrev cX2_removeAll : ByteArray := prog_4_method_2_code
def yX2_removeAll : MethodName := ⟨RX2, "removeAll", "()V"⟩
abbrev cX2_count : ByteArray := prog_4_method_3_code
def yX2_count : MethodName := ⟨RX2, "count", "()I"⟩
abbrev cX2_has : ByteArray := prog_4_method_4_code
def yX2_has : MethodName := ⟨RX2, "has", "(I)Z"⟩
abbrev cX2_length : ByteArray := prog_4_method_5_code
def yX2_length : MethodName := ⟨RX2, "length", "(I)I"⟩
abbrev cX2_item : ByteArray := prog_4_method_6_code
def yX2_item : MethodName := ⟨RX2, "item", "(III)I"⟩
abbrev cX2_append : ByteArray := prog_4_method_7_code
def yX2_append : MethodName := ⟨RX2, "append", "(I)V"⟩
abbrev cX2_last : ByteArray := prog_4_method_8_code
def yX2_last : MethodName := ⟨RX2, "last", "()I"⟩
abbrev cX2_dropLast : ByteArray := prog_4_method_9_code
def yX2_dropLast : MethodName := ⟨RX2, "dropLast", "()V"⟩
abbrev cX2_close : ByteArray := prog_4_method_10_code
def yX2_close : MethodName := ⟨RX2, "close", "()V"⟩
abbrev cX2_emptyOpen : ByteArray := prog_4_method_11_code
def yX2_emptyOpen : MethodName := ⟨RX2, "emptyOpen", "()V"⟩
abbrev cX2_appendAll : ByteArray := prog_4_method_12_code
def yX2_appendAll : MethodName := ⟨RX2, "appendAll", "(I)V"⟩
abbrev cX3_init : ByteArray := prog_5_method_1_code
def yX3_init : MethodName := ⟨RX3, "<init>", "(ILFaxRows$Bits;)V"⟩
abbrev cX3_begin : ByteArray := prog_5_method_2_code
def yX3_begin : MethodName := ⟨RX3, "begin", "(LFaxRows$Bits;)V"⟩
abbrev cX3_forget : ByteArray := prog_5_method_3_code
def yX3_forget : MethodName := ⟨RX3, "forget", "()V"⟩
abbrev cX3_hasRow : ByteArray := prog_5_method_4_code
def yX3_hasRow : MethodName := ⟨RX3, "hasRow", "(I)Z"⟩
abbrev cX3_isBlack : ByteArray := prog_5_method_5_code
def yX3_isBlack : MethodName := ⟨RX3, "isBlack", "(II)Z"⟩
abbrev cX3_wasDamaged : ByteArray := prog_5_method_6_code
def yX3_wasDamaged : MethodName := ⟨RX3, "wasDamaged", "(I)Z"⟩
abbrev cX3_changeOf : ByteArray := prog_5_method_7_code
def yX3_changeOf : MethodName := ⟨RX3, "changeOf", "(II)I"⟩
abbrev cX3_modeOf : ByteArray := prog_5_method_8_code
def yX3_modeOf : MethodName := ⟨RX3, "modeOf", "(II)I"⟩
abbrev cX3_readMarked : ByteArray := prog_5_method_9_code
def yX3_readMarked : MethodName := ⟨RX3, "readMarked", "(ZZ)I"⟩
abbrev cX3_readUnmarked : ByteArray := prog_5_method_10_code
def yX3_readUnmarked : MethodName := ⟨RX3, "readUnmarked", "()I"⟩
abbrev cX3_closeRow : ByteArray := prog_5_method_11_code
def yX3_closeRow : MethodName := ⟨RX3, "closeRow", "(ZZ)V"⟩
abbrev cX3_readRuns : ByteArray := prog_5_method_12_code
def yX3_readRuns : MethodName := ⟨RX3, "readRuns", "()I"⟩
abbrev cX3_readModes : ByteArray := prog_5_method_13_code
def yX3_readModes : MethodName := ⟨RX3, "readModes", "()I"⟩
abbrev cX3_turnBesideB1 : ByteArray := prog_5_method_14_code
def yX3_turnBesideB1 : MethodName := ⟨RX3, "turnBesideB1", "(I)Z"⟩
abbrev cX3_readHorizontal : ByteArray := prog_5_method_15_code
def yX3_readHorizontal : MethodName := ⟨RX3, "readHorizontal", "()Z"⟩
abbrev cX3_turnAt : ByteArray := prog_5_method_16_code
def yX3_turnAt : MethodName := ⟨RX3, "turnAt", "(I)V"⟩
abbrev cX3_readRun : ByteArray := prog_5_method_17_code
def yX3_readRun : MethodName := ⟨RX3, "readRun", "(Z)I"⟩
abbrev cX4_init : ByteArray := prog_6_method_1_code
def yX4_init : MethodName := ⟨RX4, "<init>", "(I)V"⟩
abbrev cX4_set : ByteArray := prog_6_method_2_code
def yX4_set : MethodName := ⟨RX4, "set", "(IZ)V"⟩
abbrev cX4_whiten : ByteArray := prog_6_method_3_code
def yX4_whiten : MethodName := ⟨RX4, "whiten", "()V"⟩
abbrev cX4_addChangesTo : ByteArray := prog_6_method_4_code
def yX4_addChangesTo : MethodName := ⟨RX4, "addChangesTo", "(LFaxRows$Lists;)V"⟩
abbrev cX4_addPlaces : ByteArray := prog_6_method_5_code
def yX4_addPlaces : MethodName := ⟨RX4, "addPlaces", "(IILFaxRows$Lists;)V"⟩
abbrev cX5_init : ByteArray := prog_7_method_1_code
def yX5_init : MethodName := ⟨RX5, "<init>", "(LFaxRows$Lists;I)V"⟩
abbrev cX5_begin : ByteArray := prog_7_method_2_code
def yX5_begin : MethodName := ⟨RX5, "begin", "(I)V"⟩
abbrev cX5_isWhole : ByteArray := prog_7_method_3_code
def yX5_isWhole : MethodName := ⟨RX5, "isWhole", "()Z"⟩
abbrev cX5_a0 : ByteArray := prog_7_method_4_code
def yX5_a0 : MethodName := ⟨RX5, "a0", "()I"⟩
abbrev cX5_isBlack : ByteArray := prog_7_method_5_code
def yX5_isBlack : MethodName := ⟨RX5, "isBlack", "()Z"⟩
abbrev cX5_runStart : ByteArray := prog_7_method_6_code
def yX5_runStart : MethodName := ⟨RX5, "runStart", "()I"⟩
abbrev cX5_b1 : ByteArray := prog_7_method_7_code
def yX5_b1 : MethodName := ⟨RX5, "b1", "()I"⟩
abbrev cX5_b2 : ByteArray := prog_7_method_8_code
def yX5_b2 : MethodName := ⟨RX5, "b2", "()I"⟩
abbrev cX5_moveTo : ByteArray := prog_7_method_9_code
def yX5_moveTo : MethodName := ⟨RX5, "moveTo", "(I)V"⟩
abbrev cX5_turnAt : ByteArray := prog_7_method_10_code
def yX5_turnAt : MethodName := ⟨RX5, "turnAt", "(I)V"⟩
abbrev cX5_numberOfB1 : ByteArray := prog_7_method_11_code
def yX5_numberOfB1 : MethodName := ⟨RX5, "numberOfB1", "()I"⟩
abbrev cX6_init : ByteArray := prog_8_method_1_code
def yX6_init : MethodName := ⟨RX6, "<init>", "(LFaxRows$Lists;ILFaxRows$Bits;)V"⟩
abbrev cX6_writeUnmarked : ByteArray := prog_8_method_2_code
def yX6_writeUnmarked : MethodName := ⟨RX6, "writeUnmarked", "()V"⟩
abbrev cX6_writeMarked : ByteArray := prog_8_method_3_code
def yX6_writeMarked : MethodName := ⟨RX6, "writeMarked", "(ZI)V"⟩
abbrev cX6_writeMark : ByteArray := prog_8_method_4_code
def yX6_writeMark : MethodName := ⟨RX6, "writeMark", "(ZZ)V"⟩
abbrev cX6_writeRuns : ByteArray := prog_8_method_5_code
def yX6_writeRuns : MethodName := ⟨RX6, "writeRuns", "(I)V"⟩
abbrev cX6_writeModes : ByteArray := prog_8_method_6_code
def yX6_writeModes : MethodName := ⟨RX6, "writeModes", "(I)V"⟩
abbrev cX6_writeRun : ByteArray := prog_8_method_7_code
def yX6_writeRun : MethodName := ⟨RX6, "writeRun", "(IZ)V"⟩
abbrev cX6_runCode : ByteArray := prog_8_method_8_code
def yX6_runCode : MethodName := ⟨RX6, "runCode", "(IZ)I"⟩
abbrev cX7_init : ByteArray := prog_1_method_1_code
def yX7_init : MethodName := ⟨RX7, "<init>", "(II)V"⟩
abbrev cX7_put : ByteArray := prog_1_method_2_code
def yX7_put : MethodName := ⟨RX7, "put", "(IZ)Z"⟩
abbrev cX7_endRow : ByteArray := prog_1_method_3_code
def yX7_endRow : MethodName := ⟨RX7, "endRow", "()Z"⟩
abbrev cX7_encode : ByteArray := prog_1_method_4_code
def yX7_encode : MethodName := ⟨RX7, "encode", "()I"⟩
abbrev cX7_byteAt : ByteArray := prog_1_method_5_code
def yX7_byteAt : MethodName := ⟨RX7, "byteAt", "(I)I"⟩
abbrev cX7_feed : ByteArray := prog_1_method_6_code
def yX7_feed : MethodName := ⟨RX7, "feed", "(I)Z"⟩
abbrev cX7_decode : ByteArray := prog_1_method_7_code
def yX7_decode : MethodName := ⟨RX7, "decode", "()I"⟩
abbrev cX7_at : ByteArray := prog_1_method_8_code
def yX7_at : MethodName := ⟨RX7, "at", "(II)Z"⟩
abbrev cX7_damaged : ByteArray := prog_1_method_9_code
def yX7_damaged : MethodName := ⟨RX7, "damaged", "(I)Z"⟩
abbrev cX7_changes : ByteArray := prog_1_method_10_code
def yX7_changes : MethodName := ⟨RX7, "changes", "(II)I"⟩
abbrev cX7_mode : ByteArray := prog_1_method_11_code
def yX7_mode : MethodName := ⟨RX7, "mode", "(II)I"⟩
abbrev cX7_fill : ByteArray := prog_1_method_12_code
def yX7_fill : MethodName := ⟨RX7, "fill", "(I)Z"⟩
abbrev cX7_repair : ByteArray := prog_1_method_13_code
def yX7_repair : MethodName := ⟨RX7, "repair", "(I)Z"⟩
abbrev cX7_order : ByteArray := prog_1_method_14_code
def yX7_order : MethodName := ⟨RX7, "order", "(Z)I"⟩
abbrev cX7_clear : ByteArray := prog_1_method_15_code
def yX7_clear : MethodName := ⟨RX7, "clear", "()V"⟩
abbrev cX7_topBit : ByteArray := prog_1_method_16_code
def yX7_topBit : MethodName := ⟨RX7, "topBit", "(I)I"⟩
abbrev cX8_init : ByteArray := prog_10_method_1_code
def yX8_init : MethodName := ⟨RX8, "<init>", "(II)V"⟩
abbrev cX8_put : ByteArray := prog_10_method_3_code
def yX8_put : MethodName := ⟨RX8, "put", "(IZ)Z"⟩
abbrev cX8_endRow : ByteArray := prog_10_method_4_code
def yX8_endRow : MethodName := ⟨RX8, "endRow", "()Z"⟩
abbrev cX8_bit : ByteArray := prog_10_method_5_code
def yX8_bit : MethodName := ⟨RX8, "bit", "(I)V"⟩
abbrev cX8_number : ByteArray := prog_10_method_6_code
def yX8_number : MethodName := ⟨RX8, "number", "(II)V"⟩
abbrev cX8_write : ByteArray := prog_10_method_7_code
def yX8_write : MethodName := ⟨RX8, "write", "(I)V"⟩
abbrev cX8_mark : ByteArray := prog_10_method_8_code
def yX8_mark : MethodName := ⟨RX8, "mark", "()V"⟩
abbrev cX8_run : ByteArray := prog_10_method_9_code
def yX8_run : MethodName := ⟨RX8, "run", "(IZ)V"⟩
abbrev cX8_change : ByteArray := prog_10_method_10_code
def yX8_change : MethodName := ⟨RX8, "change", "([ZII)I"⟩
abbrev cX8_oneDimension : ByteArray := prog_10_method_11_code
def yX8_oneDimension : MethodName := ⟨RX8, "oneDimension", "(I)V"⟩
abbrev cX8_b1 : ByteArray := prog_10_method_12_code
def yX8_b1 : MethodName := ⟨RX8, "b1", "([ZIIZ)I"⟩
abbrev cX8_b2 : ByteArray := prog_10_method_13_code
def yX8_b2 : MethodName := ⟨RX8, "b2", "([ZII)I"⟩
abbrev cX8_twoDimensions : ByteArray := prog_10_method_14_code
def yX8_twoDimensions : MethodName := ⟨RX8, "twoDimensions", "(II)V"⟩
abbrev cX8_vertical : ByteArray := prog_10_method_15_code
def yX8_vertical : MethodName := ⟨RX8, "vertical", "(I)V"⟩
abbrev cX8_encode : ByteArray := prog_10_method_16_code
def yX8_encode : MethodName := ⟨RX8, "encode", "()I"⟩
abbrev cX8_byteAt : ByteArray := prog_10_method_17_code
def yX8_byteAt : MethodName := ⟨RX8, "byteAt", "(I)I"⟩
abbrev cX8_feed : ByteArray := prog_10_method_18_code
def yX8_feed : MethodName := ⟨RX8, "feed", "(I)Z"⟩
abbrev cX8_bitAt : ByteArray := prog_10_method_19_code
def yX8_bitAt : MethodName := ⟨RX8, "bitAt", "(I)I"⟩
abbrev cX8_behindMark : ByteArray := prog_10_method_20_code
def yX8_behindMark : MethodName := ⟨RX8, "behindMark", "(I)I"⟩
abbrev cX8_findMark : ByteArray := prog_10_method_21_code
def yX8_findMark : MethodName := ⟨RX8, "findMark", "(I)I"⟩
abbrev cX8_runCode : ByteArray := prog_10_method_22_code
def yX8_runCode : MethodName := ⟨RX8, "runCode", "(Z)I"⟩
abbrev cX8_readRun : ByteArray := prog_10_method_23_code
def yX8_readRun : MethodName := ⟨RX8, "readRun", "(ZI)I"⟩
abbrev cX8_paint : ByteArray := prog_10_method_24_code
def yX8_paint : MethodName := ⟨RX8, "paint", "(IIIZ)V"⟩
abbrev cX8_readOne : ByteArray := prog_10_method_25_code
def yX8_readOne : MethodName := ⟨RX8, "readOne", "(I)V"⟩
abbrev cX8_readMode : ByteArray := prog_10_method_26_code
def yX8_readMode : MethodName := ⟨RX8, "readMode", "()I"⟩
abbrev cX8_readTwo : ByteArray := prog_10_method_27_code
def yX8_readTwo : MethodName := ⟨RX8, "readTwo", "(III)V"⟩
abbrev cX8_readRow : ByteArray := prog_10_method_28_code
def yX8_readRow : MethodName := ⟨RX8, "readRow", "(IZ)V"⟩
abbrev cX8_readMarked : ByteArray := prog_10_method_29_code
def yX8_readMarked : MethodName := ⟨RX8, "readMarked", "()I"⟩
abbrev cX8_isEnd : ByteArray := prog_10_method_30_code
def yX8_isEnd : MethodName := ⟨RX8, "isEnd", "()Z"⟩
abbrev cX8_readUnmarked : ByteArray := prog_10_method_31_code
def yX8_readUnmarked : MethodName := ⟨RX8, "readUnmarked", "()I"⟩
abbrev cX8_decode : ByteArray := prog_10_method_32_code
def yX8_decode : MethodName := ⟨RX8, "decode", "()I"⟩
abbrev cX8_at : ByteArray := prog_10_method_33_code
def yX8_at : MethodName := ⟨RX8, "at", "(II)Z"⟩
abbrev cX8_damaged : ByteArray := prog_10_method_34_code
def yX8_damaged : MethodName := ⟨RX8, "damaged", "(I)Z"⟩
abbrev cX8_changes : ByteArray := prog_10_method_35_code
def yX8_changes : MethodName := ⟨RX8, "changes", "(II)I"⟩
abbrev cX8_mode : ByteArray := prog_10_method_36_code
def yX8_mode : MethodName := ⟨RX8, "mode", "(II)I"⟩
abbrev cX8_fill : ByteArray := prog_10_method_37_code
def yX8_fill : MethodName := ⟨RX8, "fill", "(I)Z"⟩
abbrev cX8_repair : ByteArray := prog_10_method_38_code
def yX8_repair : MethodName := ⟨RX8, "repair", "(I)Z"⟩
abbrev cX8_order : ByteArray := prog_10_method_39_code
def yX8_order : MethodName := ⟨RX8, "order", "(Z)I"⟩
abbrev cX8_clear : ByteArray := prog_10_method_40_code
def yX8_clear : MethodName := ⟨RX8, "clear", "()V"⟩
abbrev cJ7_rangeCheck_23922 : ByteArray := prog_25_method_30_code
def yJ7_rangeCheck_23922 : MethodName := ⟨RJ7, "rangeCheck", "(III)V"⟩
abbrev cJ7_fill_53178 : ByteArray := prog_25_method_103_code
def yJ7_fill_53178 : MethodName := ⟨RJ7, "fill", "([II)V"⟩
abbrev cJ7_fill_eb02e : ByteArray := prog_25_method_110_code
def yJ7_fill_eb02e : MethodName := ⟨RJ7, "fill", "([BIIB)V"⟩
abbrev cJ7_copyOf_9075b : ByteArray := prog_25_method_121_code
def yJ7_copyOf_9075b : MethodName := ⟨RJ7, "copyOf", "([BI)[B"⟩
abbrev cJ7_copyOf_59c91 : ByteArray := prog_25_method_123_code
def yJ7_copyOf_59c91 : MethodName := ⟨RJ7, "copyOf", "([II)[I"⟩
abbrev cL_cell : ByteArray := method_2_code
def yL_cell : MethodName := ⟨RL, "cell", "([II)I"⟩
abbrev cL_at : ByteArray := method_3_code
def yL_at : MethodName := ⟨RL, "at", "(LFaxRows;II[J)I"⟩
/-- the good words of the tables: those that stay -/
def wT : List Cond := lw_tbl.filter goodWord
theorem wT_in {w : Cond} (h : w ∈ wT) : w ∈ lw_tbl := (List.mem_filter.mp h).1
theorem wT_mem (i : Nat) {w : Cond} (h : lw_tbl[i]? = some w) (hg : goodWord w = true) : w ∈ wT := List.mem_filter.mpr ⟨List.mem_of_getElem? h, hg⟩
theorem wT_sub {ws : List Cond} (ps : List Nat) (hp : ws = ps.filterMap (fun i => lw_tbl[i]?)) (hg : ws.all goodWord = true) : ∀ w ∈ ws, w ∈ wT := by
  intro w hw
  have h1 := List.all_eq_true.mp hg w hw
  rw [hp] at hw
  obtain ⟨i, -, hi⟩ := List.mem_filterMap.mp hw
  exact wT_mem i hi h1
/-- a method's words: its code, and all that stay -/
def wM (y : MethodName) (b : ByteArray) (n : Nat) (r : Option FieldType) : List Cond := Cond.code y b n r :: wT
theorem wM_good {y : MethodName} {b : ByteArray} {n : Nat} {r : Option FieldType} (h : Cond.code y b n r ∈ wT) : GoodIn wT (wM y b n r) := by
  intro w hw
  rcases List.mem_cons.mp hw with rfl | hw
  · exact ⟨h, Or.inl rfl⟩
  · exact ⟨hw, good_of_word (List.mem_filter.mp hw).2⟩
def isNest : Cond → Bool
  | .fieldLinkNest .. => true
  | .methodLinkNest .. => true
  | .declares .. => true
  | .castable .. => true
  | _ => false
/-- links to private members of nest mates -/
def wN : List Cond := lw_tbl.filter isNest
theorem wN_mem (i : Nat) {w : Cond} (h : lw_tbl[i]? = some w) (hg : isNest w = true) : w ∈ wN := List.mem_filter.mpr ⟨List.mem_of_getElem? h, hg⟩
theorem nest_tab {w : Cond} (h : isNest w = true) : w.onTables = true := by cases w <;> first | rfl | (simp [isNest] at h; done)
theorem nest_warm {w : Cond} (h : isNest w = true) {s U : State} (hW : s.WarmedH U.vm) (hZ : va_Nw w s) : va_Nw w U := by
  cases w <;> first | exact va_Nw.warmF hW hZ | exact va_Nw.warmM hW hZ | exact va_Nw.warmD hW hZ | exact va_Nw.warmC hW hZ | (simp [isNest] at h; done)
theorem wN_nest {w : Cond} (h : w ∈ wN) : isNest w = true := (List.mem_filter.mp h).2
abbrev vwCl : List vw_C := [(RX0, TX0, 4), (RX1, TX1, 2), (RX2, TX2, 3), (RX3, TX3, 9), (RX4, TX4, 2), (RX5, TX5, 6), (RX6, TX6, 4), (RX7, TX7, 11), (RX8, TX8, 31)]
set_option maxRecDepth 20000 in
theorem inX0 : ∀ w ∈ u_ws RX0 TX0 4, w ∈ wT := wT_sub [125, 127, 129, 131] (by decide +kernel) (by decide +kernel)
set_option maxRecDepth 20000 in
theorem inX1 : ∀ w ∈ u_ws RX1 TX1 2, w ∈ wT := wT_sub [195, 197] (by decide +kernel) (by decide +kernel)
set_option maxRecDepth 20000 in
theorem inX2 : ∀ w ∈ u_ws RX2 TX2 3, w ∈ wT := wT_sub [108, 110, 112] (by decide +kernel) (by decide +kernel)
set_option maxRecDepth 20000 in
theorem inX3 : ∀ w ∈ u_ws RX3 TX3 9, w ∈ wT := wT_sub [257, 259, 261, 263, 265, 267, 269, 271, 273] (by decide +kernel) (by decide +kernel)
set_option maxRecDepth 20000 in
theorem inX4 : ∀ w ∈ u_ws RX4 TX4 2, w ∈ wT := wT_sub [93, 95] (by decide +kernel) (by decide +kernel)
set_option maxRecDepth 20000 in
theorem inX5 : ∀ w ∈ u_ws RX5 TX5 6, w ∈ wT := wT_sub [153, 155, 157, 159, 161, 163] (by decide +kernel) (by decide +kernel)
set_option maxRecDepth 20000 in
theorem inX6 : ∀ w ∈ u_ws RX6 TX6 4, w ∈ wT := wT_sub [170, 172, 174, 176] (by decide +kernel) (by decide +kernel)
set_option maxRecDepth 20000 in
theorem inX7 : ∀ w ∈ u_ws RX7 TX7 11, w ∈ wT := wT_sub [287, 289, 291, 293, 295, 297, 299, 301, 303, 305, 307] (by decide +kernel) (by decide +kernel)
set_option maxRecDepth 20000 in
theorem inX8 : ∀ w ∈ u_ws RX8 TX8 31, w ∈ wT := wT_sub [1027, 1029, 1031, 1033, 1035, 1037, 1039, 1041, 1043, 1045, 1047, 1049, 1051, 1053, 1055, 1057, 1059, 1061, 1063, 1065, 1067, 1069, 1071, 1073, 1075, 1077, 1079, 1081, 1083, 1085, 1087] (by decide +kernel) (by decide +kernel)
