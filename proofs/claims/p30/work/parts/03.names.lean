def RX0 : String := "LakeLevels$Ground"
def TX0 : u_T := fun k => match k with
  | 0 => ("LakeLevels$Ground", "columns", "I", false)
  | 1 => ("LakeLevels$Ground", "rows", "I", false)
  | 2 => ("LakeLevels$Ground", "cells", "I", false)
  | 3 => ("LakeLevels$Ground", "drains", "J", false)
  | 4 => ("LakeLevels$Ground", "heights", "LLakeLevels$NumberRow;", true)
  | 5 => ("LakeLevels$Ground", "beyond", "LLakeLevels$NumberRow;", true)
  | 6 => ("LakeLevels$Ground", "gates", "LLakeLevels$NumberRow;", true)
  | 7 => ("LakeLevels$Ground", "thresholds", "LLakeLevels$NumberRow;", true)
  | _ => ("LakeLevels$Ground", "order", "LLakeLevels$NumberRow;", true)
def tyX0 : Nat → FieldType := fun k => match k with
  | 0 => .int
  | 1 => .int
  | 2 => .int
  | 3 => .long
  | 4 => .object "LakeLevels$NumberRow"
  | 5 => .object "LakeLevels$NumberRow"
  | 6 => .object "LakeLevels$NumberRow"
  | 7 => .object "LakeLevels$NumberRow"
  | _ => .object "LakeLevels$NumberRow"
abbrev wsX00 : List Cond := u_ws RX0 TX0 9
theorem nmX0 : ∀ a, a < 9 → ∀ b, b < 9 → a ≠ b → (TX0 a).2.1 ≠ (TX0 b).2.1 := by decide +kernel
theorem tyX0_ok : ∀ k, k < 9 → parseFieldDescriptor (TX0 k).2.2.1 = some (tyX0 k) := by decide +kernel
abbrev cX0_init : ByteArray := prog_2_method_1_code
def yX0_init : MethodName := ⟨RX0, "<init>", "()V"⟩
abbrev cX0_copyFrom : ByteArray := prog_2_method_2_code
def yX0_copyFrom : MethodName := ⟨RX0, "copyFrom", "(LLakeLevels$Ground;)V"⟩
abbrev cX0_lay : ByteArray := prog_2_method_3_code
def yX0_lay : MethodName := ⟨RX0, "lay", "(II)V"⟩
abbrev cX0_laySides : ByteArray := prog_2_method_4_code
def yX0_laySides : MethodName := ⟨RX0, "laySides", "(II)V"⟩
abbrev cX0_exists : ByteArray := prog_2_method_5_code
def yX0_exists : MethodName := ⟨RX0, "exists", "(I)Z"⟩
abbrev cX0_sideTo : ByteArray := prog_2_method_6_code
def yX0_sideTo : MethodName := ⟨RX0, "sideTo", "(II)I"⟩
abbrev cX0_putDrain : ByteArray := prog_2_method_7_code
def yX0_putDrain : MethodName := ⟨RX0, "putDrain", "(IZ)V"⟩
abbrev cX0_putGate : ByteArray := prog_2_method_8_code
def yX0_putGate : MethodName := ⟨RX0, "putGate", "(III)V"⟩
abbrev cX0_scatter : ByteArray := prog_2_method_9_code
def yX0_scatter : MethodName := ⟨RX0, "scatter", "(II)V"⟩
abbrev cX0_measure : ByteArray := prog_2_method_10_code
def yX0_measure : MethodName := ⟨RX0, "measure", "()V"⟩
abbrev cX0_heightSum : ByteArray := prog_2_method_11_code
def yX0_heightSum : MethodName := ⟨RX0, "heightSum", "(J)I"⟩
def RX1 : String := "LakeLevels$Lakes"
def TX1 : u_T := fun k => match k with
  | 0 => ("LakeLevels$Lakes", "cells", "LLakeLevels$SetRow;", true)
  | 1 => ("LakeLevels$Lakes", "volumes", "LLakeLevels$NumberRow;", true)
  | 2 => ("LakeLevels$Lakes", "capacities", "LLakeLevels$NumberRow;", true)
  | 3 => ("LakeLevels$Lakes", "passes", "LLakeLevels$NumberRow;", true)
  | 4 => ("LakeLevels$Lakes", "lowestVolumes", "LLakeLevels$NumberRow;", true)
  | 5 => ("LakeLevels$Lakes", "basinCounts", "LLakeLevels$NumberRow;", true)
  | 6 => ("LakeLevels$Lakes", "firsts", "LLakeLevels$NumberRow;", true)
  | 7 => ("LakeLevels$Lakes", "seconds", "LLakeLevels$NumberRow;", true)
  | 8 => ("LakeLevels$Lakes", "lakeOf", "LLakeLevels$NumberRow;", true)
  | 9 => ("LakeLevels$Lakes", "pendingLakes", "LLakeLevels$NumberRow;", true)
  | _ => ("LakeLevels$Lakes", "pendingAmounts", "LLakeLevels$NumberRow;", true)
def tyX1 : Nat → FieldType := fun k => match k with
  | 0 => .object "LakeLevels$SetRow"
  | 1 => .object "LakeLevels$NumberRow"
  | 2 => .object "LakeLevels$NumberRow"
  | 3 => .object "LakeLevels$NumberRow"
  | 4 => .object "LakeLevels$NumberRow"
  | 5 => .object "LakeLevels$NumberRow"
  | 6 => .object "LakeLevels$NumberRow"
  | 7 => .object "LakeLevels$NumberRow"
  | 8 => .object "LakeLevels$NumberRow"
  | 9 => .object "LakeLevels$NumberRow"
  | _ => .object "LakeLevels$NumberRow"
abbrev wsX10 : List Cond := u_ws RX1 TX1 11
theorem nmX1 : ∀ a, a < 11 → ∀ b, b < 11 → a ≠ b → (TX1 a).2.1 ≠ (TX1 b).2.1 := by decide +kernel
theorem tyX1_ok : ∀ k, k < 11 → parseFieldDescriptor (TX1 k).2.2.1 = some (tyX1 k) := by decide +kernel
abbrev cX1_init : ByteArray := prog_3_method_1_code
def yX1_init : MethodName := ⟨RX1, "<init>", "()V"⟩
abbrev cX1_copyFrom : ByteArray := prog_3_method_2_code
def yX1_copyFrom : MethodName := ⟨RX1, "copyFrom", "(LLakeLevels$Lakes;)V"⟩
abbrev cX1_restart : ByteArray := prog_3_method_3_code
def yX1_restart : MethodName := ⟨RX1, "restart", "(LLakeLevels$Ground;LLakeLevels$Ways;)V"⟩
abbrev cX1_findPass : ByteArray := prog_3_method_4_code
def yX1_findPass : MethodName := ⟨RX1, "findPass", "(LLakeLevels$Ground;I)V"⟩
abbrev cX1_findCapacity : ByteArray := prog_3_method_5_code
def yX1_findCapacity : MethodName := ⟨RX1, "findCapacity", "(LLakeLevels$Ground;I)V"⟩
abbrev cX1_isLowestOfLake : ByteArray := prog_3_method_6_code
def yX1_isLowestOfLake : MethodName := ⟨RX1, "isLowestOfLake", "(I)Z"⟩
abbrev cX1_placeOf : ByteArray := prog_3_method_7_code
def yX1_placeOf : MethodName := ⟨RX1, "placeOf", "(I)I"⟩
abbrev cX1_numberAt : ByteArray := prog_3_method_8_code
def yX1_numberAt : MethodName := ⟨RX1, "numberAt", "(I)I"⟩
abbrev cX1_total : ByteArray := prog_3_method_9_code
def yX1_total : MethodName := ⟨RX1, "total", "()I"⟩
abbrev cX1_fullTotal : ByteArray := prog_3_method_10_code
def yX1_fullTotal : MethodName := ⟨RX1, "fullTotal", "()I"⟩
abbrev cX1_water : ByteArray := prog_3_method_11_code
def yX1_water : MethodName := ⟨RX1, "water", "()I"⟩
abbrev cX1_isFull : ByteArray := prog_3_method_12_code
def yX1_isFull : MethodName := ⟨RX1, "isFull", "(I)Z"⟩
abbrev cX1_lowestPlace : ByteArray := prog_3_method_13_code
def yX1_lowestPlace : MethodName := ⟨RX1, "lowestPlace", "(LLakeLevels$Ground;I)I"⟩
abbrev cX1_wetCells : ByteArray := prog_3_method_14_code
def yX1_wetCells : MethodName := ⟨RX1, "wetCells", "(LLakeLevels$Ground;I)J"⟩
abbrev cX1_pourInto : ByteArray := prog_3_method_15_code
def yX1_pourInto : MethodName := ⟨RX1, "pourInto", "(LLakeLevels$Ground;II)I"⟩
abbrev cX1_fill : ByteArray := prog_3_method_16_code
def yX1_fill : MethodName := ⟨RX1, "fill", "(II)I"⟩
abbrev cX1_join : ByteArray := prog_3_method_17_code
def yX1_join : MethodName := ⟨RX1, "join", "(LLakeLevels$Ground;II)I"⟩
abbrev cX1_freePlace : ByteArray := prog_3_method_18_code
def yX1_freePlace : MethodName := ⟨RX1, "freePlace", "()I"⟩
abbrev cX1_claimCells : ByteArray := prog_3_method_19_code
def yX1_claimCells : MethodName := ⟨RX1, "claimCells", "(I)V"⟩
abbrev cX1_draw : ByteArray := prog_3_method_20_code
def yX1_draw : MethodName := ⟨RX1, "draw", "(II)V"⟩
abbrev cX1_partLake : ByteArray := prog_3_method_21_code
def yX1_partLake : MethodName := ⟨RX1, "partLake", "(I)V"⟩
def RX2 : String := "LakeLevels$LandscapeText"
def TX2 : u_T := fun k => match k with
  | 0 => ("LakeLevels$LandscapeText", "bytes", "LLakeLevels$NumberRow;", true)
  | 1 => ("LakeLevels$LandscapeText", "length", "I", false)
  | 2 => ("LakeLevels$LandscapeText", "place", "I", false)
  | _ => ("LakeLevels$LandscapeText", "fault", "I", false)
def tyX2 : Nat → FieldType := fun k => match k with
  | 0 => .object "LakeLevels$NumberRow"
  | 1 => .int
  | 2 => .int
  | _ => .int
abbrev wsX20 : List Cond := u_ws RX2 TX2 4
theorem nmX2 : ∀ a, a < 4 → ∀ b, b < 4 → a ≠ b → (TX2 a).2.1 ≠ (TX2 b).2.1 := by decide +kernel
theorem tyX2_ok : ∀ k, k < 4 → parseFieldDescriptor (TX2 k).2.2.1 = some (tyX2 k) := by decide +kernel
abbrev cX2_init : ByteArray := prog_4_method_1_code
def yX2_init : MethodName := ⟨RX2, "<init>", "()V"⟩
abbrev cX2_add : ByteArray := prog_4_method_2_code
def yX2_add : MethodName := ⟨RX2, "add", "(I)V"⟩
abbrev cX2_readInto : ByteArray := prog_4_method_3_code
def yX2_readInto : MethodName := ⟨RX2, "readInto", "(LLakeLevels$Ground;)I"⟩
abbrev cX2_next : ByteArray := prog_4_method_4_code
def yX2_next : MethodName := ⟨RX2, "next", "()I"⟩
abbrev cX2_isAtDigit : ByteArray := prog_4_method_5_code
def yX2_isAtDigit : MethodName := ⟨RX2, "isAtDigit", "()Z"⟩
abbrev cX2_readSign : ByteArray := prog_4_method_6_code
def yX2_readSign : MethodName := ⟨RX2, "readSign", "(I)V"⟩
abbrev cX2_fail : ByteArray := prog_4_method_7_code
def yX2_fail : MethodName := ⟨RX2, "fail", "(I)V"⟩
abbrev cX2_readSize : ByteArray := prog_4_method_8_code
def yX2_readSize : MethodName := ⟨RX2, "readSize", "(I)I"⟩
abbrev cX2_readNumber : ByteArray := prog_4_method_9_code
def yX2_readNumber : MethodName := ⟨RX2, "readNumber", "()I"⟩
abbrev cX2_readHeights : ByteArray := prog_4_method_10_code
def yX2_readHeights : MethodName := ⟨RX2, "readHeights", "(LLakeLevels$Ground;)V"⟩
abbrev cX2_readDrain : ByteArray := prog_4_method_11_code
def yX2_readDrain : MethodName := ⟨RX2, "readDrain", "(LLakeLevels$Ground;)V"⟩
abbrev cX2_readGate : ByteArray := prog_4_method_12_code
def yX2_readGate : MethodName := ⟨RX2, "readGate", "(LLakeLevels$Ground;)V"⟩
def RX3 : String := "LakeLevels$NumberRow"
def TX3 : u_T := fun k => match k with
  | _ => ("LakeLevels$NumberRow", "values", "[I", true)
def tyX3 : Nat → FieldType := fun k => match k with
  | _ => .array .int
abbrev wsX30 : List Cond := u_ws RX3 TX3 1
theorem nmX3 : ∀ a, a < 1 → ∀ b, b < 1 → a ≠ b → (TX3 a).2.1 ≠ (TX3 b).2.1 := by decide +kernel
theorem tyX3_ok : ∀ k, k < 1 → parseFieldDescriptor (TX3 k).2.2.1 = some (tyX3 k) := by decide +kernel
abbrev cX3_init : ByteArray := prog_5_method_1_code
def yX3_init : MethodName := ⟨RX3, "<init>", "(I)V"⟩
abbrev cX3_at : ByteArray := prog_5_method_2_code
def yX3_at : MethodName := ⟨RX3, "at", "(I)I"⟩
abbrev cX3_put : ByteArray := prog_5_method_3_code
def yX3_put : MethodName := ⟨RX3, "put", "(II)V"⟩
abbrev cX3_fill : ByteArray := prog_5_method_4_code
def yX3_fill : MethodName := ⟨RX3, "fill", "(I)V"⟩
abbrev cX3_copyFrom : ByteArray := prog_5_method_5_code
def yX3_copyFrom : MethodName := ⟨RX3, "copyFrom", "(LLakeLevels$NumberRow;)V"⟩
def RX4 : String := "LakeLevels$SetRow"
def TX4 : u_T := fun k => match k with
  | _ => ("LakeLevels$SetRow", "values", "[J", true)
def tyX4 : Nat → FieldType := fun k => match k with
  | _ => .array .long
abbrev wsX40 : List Cond := u_ws RX4 TX4 1
theorem nmX4 : ∀ a, a < 1 → ∀ b, b < 1 → a ≠ b → (TX4 a).2.1 ≠ (TX4 b).2.1 := by decide +kernel
theorem tyX4_ok : ∀ k, k < 1 → parseFieldDescriptor (TX4 k).2.2.1 = some (tyX4 k) := by decide +kernel
abbrev cX4_init : ByteArray := prog_6_method_1_code
def yX4_init : MethodName := ⟨RX4, "<init>", "(I)V"⟩
abbrev cX4_at : ByteArray := prog_6_method_2_code
def yX4_at : MethodName := ⟨RX4, "at", "(I)J"⟩
abbrev cX4_put : ByteArray := prog_6_method_3_code
def yX4_put : MethodName := ⟨RX4, "put", "(IJ)V"⟩
abbrev cX4_fill : ByteArray := prog_6_method_4_code
def yX4_fill : MethodName := ⟨RX4, "fill", "(J)V"⟩
abbrev cX4_copyFrom : ByteArray := prog_6_method_5_code
def yX4_copyFrom : MethodName := ⟨RX4, "copyFrom", "(LLakeLevels$SetRow;)V"⟩
def RX5 : String := "LakeLevels$Ways"
def TX5 : u_T := fun k => match k with
  | 0 => ("LakeLevels$Ways", "basinCount", "I", false)
  | 1 => ("LakeLevels$Ways", "plains", "LLakeLevels$SetRow;", true)
  | 2 => ("LakeLevels$Ways", "targets", "LLakeLevels$NumberRow;", true)
  | _ => ("LakeLevels$Ways", "basins", "LLakeLevels$NumberRow;", true)
def tyX5 : Nat → FieldType := fun k => match k with
  | 0 => .int
  | 1 => .object "LakeLevels$SetRow"
  | 2 => .object "LakeLevels$NumberRow"
  | _ => .object "LakeLevels$NumberRow"
abbrev wsX50 : List Cond := u_ws RX5 TX5 4
theorem nmX5 : ∀ a, a < 4 → ∀ b, b < 4 → a ≠ b → (TX5 a).2.1 ≠ (TX5 b).2.1 := by decide +kernel
theorem tyX5_ok : ∀ k, k < 4 → parseFieldDescriptor (TX5 k).2.2.1 = some (tyX5 k) := by decide +kernel
abbrev cX5_init : ByteArray := prog_7_method_1_code
def yX5_init : MethodName := ⟨RX5, "<init>", "()V"⟩
abbrev cX5_copyFrom : ByteArray := prog_7_method_2_code
def yX5_copyFrom : MethodName := ⟨RX5, "copyFrom", "(LLakeLevels$Ways;)V"⟩
abbrev cX5_find : ByteArray := prog_7_method_3_code
def yX5_find : MethodName := ⟨RX5, "find", "(LLakeLevels$Ground;)V"⟩
abbrev cX5_plainAround : ByteArray := prog_7_method_4_code
def yX5_plainAround : MethodName := ⟨RX5, "plainAround", "(LLakeLevels$Ground;I)J"⟩
abbrev cX5_markPlain : ByteArray := prog_7_method_5_code
def yX5_markPlain : MethodName := ⟨RX5, "markPlain", "(JI)V"⟩
abbrev cX5_targetOf : ByteArray := prog_7_method_6_code
def yX5_targetOf : MethodName := ⟨RX5, "targetOf", "(LLakeLevels$Ground;J)I"⟩
abbrev cX5_lowerNeighbor : ByteArray := prog_7_method_7_code
def yX5_lowerNeighbor : MethodName := ⟨RX5, "lowerNeighbor", "(LLakeLevels$Ground;I)I"⟩
abbrev cX5_numberPits : ByteArray := prog_7_method_8_code
def yX5_numberPits : MethodName := ⟨RX5, "numberPits", "(LLakeLevels$Ground;)V"⟩
abbrev cX5_endOf : ByteArray := prog_7_method_9_code
def yX5_endOf : MethodName := ⟨RX5, "endOf", "(I)I"⟩
abbrev cX5_isInPit : ByteArray := prog_7_method_10_code
def yX5_isInPit : MethodName := ⟨RX5, "isInPit", "(I)Z"⟩
abbrev cX5_courseFrom : ByteArray := prog_7_method_11_code
def yX5_courseFrom : MethodName := ⟨RX5, "courseFrom", "(I)J"⟩
def RX6 : String := "LakeLevels$World"
def TX6 : u_T := fun k => match k with
  | 0 => ("LakeLevels$World", "ground", "LLakeLevels$Ground;", true)
  | 1 => ("LakeLevels$World", "ways", "LLakeLevels$Ways;", true)
  | 2 => ("LakeLevels$World", "lakes", "LLakeLevels$Lakes;", true)
  | 3 => ("LakeLevels$World", "poured", "J", false)
  | 4 => ("LakeLevels$World", "lost", "J", false)
  | 5 => ("LakeLevels$World", "evaporated", "J", false)
  | 6 => ("LakeLevels$World", "notedPlaces", "LLakeLevels$NumberRow;", true)
  | 7 => ("LakeLevels$World", "notedAmounts", "LLakeLevels$NumberRow;", true)
  | _ => ("LakeLevels$World", "noted", "I", false)
def tyX6 : Nat → FieldType := fun k => match k with
  | 0 => .object "LakeLevels$Ground"
  | 1 => .object "LakeLevels$Ways"
  | 2 => .object "LakeLevels$Lakes"
  | 3 => .long
  | 4 => .long
  | 5 => .long
  | 6 => .object "LakeLevels$NumberRow"
  | 7 => .object "LakeLevels$NumberRow"
  | _ => .int
abbrev wsX60 : List Cond := u_ws RX6 TX6 9
theorem nmX6 : ∀ a, a < 9 → ∀ b, b < 9 → a ≠ b → (TX6 a).2.1 ≠ (TX6 b).2.1 := by decide +kernel
theorem tyX6_ok : ∀ k, k < 9 → parseFieldDescriptor (TX6 k).2.2.1 = some (tyX6 k) := by decide +kernel
abbrev cX6_init : ByteArray := prog_8_method_1_code
def yX6_init : MethodName := ⟨RX6, "<init>", "()V"⟩
abbrev cX6_copyFrom : ByteArray := prog_8_method_2_code
def yX6_copyFrom : MethodName := ⟨RX6, "copyFrom", "(LLakeLevels$World;)V"⟩
abbrev cX6_restart : ByteArray := prog_8_method_3_code
def yX6_restart : MethodName := ⟨RX6, "restart", "()V"⟩
abbrev cX6_findAnew : ByteArray := prog_8_method_4_code
def yX6_findAnew : MethodName := ⟨RX6, "findAnew", "()V"⟩
abbrev cX6_noteLakes : ByteArray := prog_8_method_5_code
def yX6_noteLakes : MethodName := ⟨RX6, "noteLakes", "()V"⟩
abbrev cX6_renew : ByteArray := prog_8_method_6_code
def yX6_renew : MethodName := ⟨RX6, "renew", "()V"⟩
abbrev cX6_pourAt : ByteArray := prog_8_method_7_code
def yX6_pourAt : MethodName := ⟨RX6, "pourAt", "(II)I"⟩
abbrev cX6_dry : ByteArray := prog_8_method_9_code
def yX6_dry : MethodName := ⟨RX6, "dry", "(I)I"⟩
abbrev cX6_dryOnce : ByteArray := prog_8_method_10_code
def yX6_dryOnce : MethodName := ⟨RX6, "dryOnce", "()I"⟩
abbrev cX6_isWet : ByteArray := prog_8_method_11_code
def yX6_isWet : MethodName := ⟨RX6, "isWet", "(I)Z"⟩
abbrev cX6_wetTotal : ByteArray := prog_8_method_12_code
def yX6_wetTotal : MethodName := ⟨RX6, "wetTotal", "()I"⟩
abbrev cX6_seaTotal : ByteArray := prog_8_method_13_code
def yX6_seaTotal : MethodName := ⟨RX6, "seaTotal", "()I"⟩
def RX7 : String := "LakeLevels"
def TX7 : u_T := fun k => match k with
  | 0 => ("LakeLevels", "world", "LLakeLevels$World;", true)
  | 1 => ("LakeLevels", "spare", "LLakeLevels$World;", true)
  | 2 => ("LakeLevels", "saved", "[LLakeLevels$World;", true)
  | 3 => ("LakeLevels", "text", "LLakeLevels$LandscapeText;", true)
  | 4 => ("LakeLevels", "savedCount", "I", false)
  | _ => ("LakeLevels", "nextSaved", "I", false)
def tyX7 : Nat → FieldType := fun k => match k with
  | 0 => .object "LakeLevels$World"
  | 1 => .object "LakeLevels$World"
  | 2 => .array (.object "LakeLevels$World")
  | 3 => .object "LakeLevels$LandscapeText"
  | 4 => .int
  | _ => .int
abbrev wsX70 : List Cond := u_ws RX7 TX7 6
theorem nmX7 : ∀ a, a < 6 → ∀ b, b < 6 → a ≠ b → (TX7 a).2.1 ≠ (TX7 b).2.1 := by decide +kernel
theorem tyX7_ok : ∀ k, k < 6 → parseFieldDescriptor (TX7 k).2.2.1 = some (tyX7 k) := by decide +kernel
abbrev cX7_init : ByteArray := prog_1_method_1_code
def yX7_init : MethodName := ⟨RX7, "<init>", "()V"⟩
abbrev cX7_begin : ByteArray := prog_1_method_2_code
def yX7_begin : MethodName := ⟨RX7, "begin", "(II)I"⟩
abbrev cX7_setHeight : ByteArray := prog_1_method_3_code
def yX7_setHeight : MethodName := ⟨RX7, "setHeight", "(II)I"⟩
abbrev cX7_setDrain : ByteArray := prog_1_method_4_code
def yX7_setDrain : MethodName := ⟨RX7, "setDrain", "(IZ)Z"⟩
abbrev cX7_random : ByteArray := prog_1_method_6_code
def yX7_random : MethodName := ⟨RX7, "random", "(II)I"⟩
abbrev cX7_cell : ByteArray := prog_1_method_7_code
def yX7_cell : MethodName := ⟨RX7, "cell", "(II)I"⟩
abbrev cX7_count : ByteArray := prog_1_method_9_code
def yX7_count : MethodName := ⟨RX7, "count", "(I)I"⟩
abbrev cX7_pour : ByteArray := prog_1_method_10_code
def yX7_pour : MethodName := ⟨RX7, "pour", "(II)I"⟩
abbrev cX7_evaporate : ByteArray := prog_1_method_12_code
def yX7_evaporate : MethodName := ⟨RX7, "evaporate", "(I)I"⟩
abbrev cX7_balance : ByteArray := prog_1_method_14_code
def yX7_balance : MethodName := ⟨RX7, "balance", "(I)J"⟩
abbrev cX7_depth : ByteArray := prog_1_method_18_code
def yX7_depth : MethodName := ⟨RX7, "depth", "(I)D"⟩
abbrev cX7_deepest : ByteArray := prog_1_method_19_code
def yX7_deepest : MethodName := ⟨RX7, "deepest", "()I"⟩
abbrev cX7_course : ByteArray := prog_1_method_20_code
def yX7_course : MethodName := ⟨RX7, "course", "(I)J"⟩
abbrev cX7_amountFor : ByteArray := prog_1_method_21_code
def yX7_amountFor : MethodName := ⟨RX7, "amountFor", "(II)I"⟩
abbrev cX7_append : ByteArray := prog_1_method_24_code
def yX7_append : MethodName := ⟨RX7, "append", "(I)I"⟩
abbrev cX7_clearText : ByteArray := prog_1_method_25_code
def yX7_clearText : MethodName := ⟨RX7, "clearText", "()I"⟩
abbrev cX7_parse : ByteArray := prog_1_method_26_code
def yX7_parse : MethodName := ⟨RX7, "parse", "()I"⟩
abbrev cX7_undo : ByteArray := prog_1_method_27_code
def yX7_undo : MethodName := ⟨RX7, "undo", "()I"⟩
abbrev cX7_digest : ByteArray := prog_1_method_28_code
def yX7_digest : MethodName := ⟨RX7, "digest", "()J"⟩
abbrev cX7_needCell : ByteArray := prog_1_method_29_code
def yX7_needCell : MethodName := ⟨RX7, "needCell", "(I)V"⟩
abbrev cX7_needRoom : ByteArray := prog_1_method_32_code
def yX7_needRoom : MethodName := ⟨RX7, "needRoom", "(I)V"⟩
abbrev cX7_needWithin : ByteArray := prog_1_method_33_code
def yX7_needWithin : MethodName := ⟨RX7, "needWithin", "(III)V"⟩
abbrev cX7_save : ByteArray := prog_1_method_34_code
def yX7_save : MethodName := ⟨RX7, "save", "()V"⟩
abbrev cX7_savedAt : ByteArray := prog_1_method_35_code
def yX7_savedAt : MethodName := ⟨RX7, "savedAt", "(I)LLakeLevels$World;"⟩
abbrev cX7_cellValue : ByteArray := prog_1_method_36_code
def yX7_cellValue : MethodName := ⟨RX7, "cellValue", "(II)I"⟩
abbrev cX7_countValue : ByteArray := prog_1_method_37_code
def yX7_countValue : MethodName := ⟨RX7, "countValue", "(I)I"⟩
abbrev cX7_balanceValue : ByteArray := prog_1_method_38_code
def yX7_balanceValue : MethodName := ⟨RX7, "balanceValue", "(I)J"⟩
abbrev cX7_lakeValue : ByteArray := prog_1_method_39_code
def yX7_lakeValue : MethodName := ⟨RX7, "lakeValue", "(II)I"⟩
abbrev cX7_levelPart : ByteArray := prog_1_method_40_code
def yX7_levelPart : MethodName := ⟨RX7, "levelPart", "(II)I"⟩
abbrev cX7_depthValue : ByteArray := prog_1_method_41_code
def yX7_depthValue : MethodName := ⟨RX7, "depthValue", "(I)D"⟩
abbrev cX7_wouldBeWet : ByteArray := prog_1_method_42_code
def yX7_wouldBeWet : MethodName := ⟨RX7, "wouldBeWet", "(III)Z"⟩
abbrev cX7_mixLake : ByteArray := prog_1_method_43_code
def yX7_mixLake : MethodName := ⟨RX7, "mixLake", "(JI)J"⟩
abbrev cX7_mix : ByteArray := prog_1_method_44_code
def yX7_mix : MethodName := ⟨RX7, "mix", "(JJ)J"⟩
abbrev cX7_commonDivisor : ByteArray := prog_1_method_45_code
def yX7_commonDivisor : MethodName := ⟨RX7, "commonDivisor", "(II)I"⟩
abbrev cX7_reduced : ByteArray := prog_1_method_46_code
def yX7_reduced : MethodName := ⟨RX7, "reduced", "(II)I"⟩
abbrev cX7_bit : ByteArray := prog_1_method_47_code
def yX7_bit : MethodName := ⟨RX7, "bit", "(I)J"⟩
abbrev cX7_has : ByteArray := prog_1_method_48_code
def yX7_has : MethodName := ⟨RX7, "has", "(JI)Z"⟩
abbrev cX7_lowestIn : ByteArray := prog_1_method_49_code
def yX7_lowestIn : MethodName := ⟨RX7, "lowestIn", "(J)I"⟩
def RX8 : String := "LakeLevelsModel"
def TX8 : u_T := fun k => match k with
  | _ => ("", "", "", false)
def tyX8 : Nat → FieldType := fun k => match k with
  | _ => .int
abbrev wsX80 : List Cond := u_ws RX8 TX8 0
theorem nmX8 : ∀ a, a < 0 → ∀ b, b < 0 → a ≠ b → (TX8 a).2.1 ≠ (TX8 b).2.1 := by decide +kernel
theorem tyX8_ok : ∀ k, k < 0 → parseFieldDescriptor (TX8 k).2.2.1 = some (tyX8 k) := by decide +kernel
def RJx145de : String := "java/io/Serializable"
def TJx145de : u_T := fun k => match k with
  | _ => ("", "", "", false)
def tyJx145de : Nat → FieldType := fun k => match k with
  | _ => .int
abbrev wsJx145de0 : List Cond := u_ws RJx145de TJx145de 0
theorem nmJx145de : ∀ a, a < 0 → ∀ b, b < 0 → a ≠ b → (TJx145de a).2.1 ≠ (TJx145de b).2.1 := by decide +kernel
theorem tyJx145de_ok : ∀ k, k < 0 → parseFieldDescriptor (TJx145de k).2.2.1 = some (tyJx145de k) := by decide +kernel
def RJ13 : String := "java/lang/Long"
def TJ13 : u_T := fun k => match k with
  | _ => ("", "", "", false)
def tyJ13 : Nat → FieldType := fun k => match k with
  | _ => .int
abbrev wsJ130 : List Cond := u_ws RJ13 TJ13 0
theorem nmJ13 : ∀ a, a < 0 → ∀ b, b < 0 → a ≠ b → (TJ13 a).2.1 ≠ (TJ13 b).2.1 := by decide +kernel
theorem tyJ13_ok : ∀ k, k < 0 → parseFieldDescriptor (TJ13 k).2.2.1 = some (tyJ13 k) := by decide +kernel
abbrev cJ13_bitCount_95d88 : ByteArray := prog_15_method_50_code
def yJ13_bitCount_95d88 : MethodName := ⟨RJ13, "bitCount", "(J)I"⟩
def RJ9 : String := "java/lang/Math"
def TJ9 : u_T := fun k => match k with
  | _ => ("", "", "", false)
def tyJ9 : Nat → FieldType := fun k => match k with
  | _ => .int
abbrev wsJ90 : List Cond := u_ws RJ9 TJ9 0
theorem nmJ9 : ∀ a, a < 0 → ∀ b, b < 0 → a ≠ b → (TJ9 a).2.1 ≠ (TJ9 b).2.1 := by decide +kernel
theorem tyJ9_ok : ∀ k, k < 0 → parseFieldDescriptor (TJ9 k).2.2.1 = some (tyJ9 k) := by decide +kernel
abbrev cJ9_max_7cf53 : ByteArray := prog_16_method_65_code
def yJ9_max_7cf53 : MethodName := ⟨RJ9, "max", "(II)I"⟩
abbrev cJ9_min_7cf53 : ByteArray := prog_16_method_69_code
def yJ9_min_7cf53 : MethodName := ⟨RJ9, "min", "(II)I"⟩
def RJ0 : String := "java/lang/String"
def TJ0 : u_T := fun k => match k with
  | _ => ("", "", "", false)
def tyJ0 : Nat → FieldType := fun k => match k with
  | _ => .int
abbrev wsJ00 : List Cond := u_ws RJ0 TJ0 0
theorem nmJ0 : ∀ a, a < 0 → ∀ b, b < 0 → a ≠ b → (TJ0 a).2.1 ≠ (TJ0 b).2.1 := by decide +kernel
theorem tyJ0_ok : ∀ k, k < 0 → parseFieldDescriptor (TJ0 k).2.2.1 = some (tyJ0 k) := by decide +kernel
def RJ10 : String := "java/lang/System"
def TJ10 : u_T := fun k => match k with
  | _ => ("", "", "", false)
def tyJ10 : Nat → FieldType := fun k => match k with
  | _ => .int
abbrev wsJ100 : List Cond := u_ws RJ10 TJ10 0
theorem nmJ10 : ∀ a, a < 0 → ∀ b, b < 0 → a ≠ b → (TJ10 a).2.1 ≠ (TJ10 b).2.1 := by decide +kernel
theorem tyJ10_ok : ∀ k, k < 0 → parseFieldDescriptor (TJ10 k).2.2.1 = some (tyJ10 k) := by decide +kernel
def RJ7 : String := "java/util/Arrays"
def TJ7 : u_T := fun k => match k with
  | _ => ("", "", "", false)
def tyJ7 : Nat → FieldType := fun k => match k with
  | _ => .int
abbrev wsJ70 : List Cond := u_ws RJ7 TJ7 0
theorem nmJ7 : ∀ a, a < 0 → ∀ b, b < 0 → a ≠ b → (TJ7 a).2.1 ≠ (TJ7 b).2.1 := by decide +kernel
theorem tyJ7_ok : ∀ k, k < 0 → parseFieldDescriptor (TJ7 k).2.2.1 = some (tyJ7 k) := by decide +kernel
abbrev cJ7_fill_d0a16 : ByteArray := prog_21_method_101_code
def yJ7_fill_d0a16 : MethodName := ⟨RJ7, "fill", "([JJ)V"⟩
abbrev cJ7_fill_53178 : ByteArray := prog_21_method_103_code
def yJ7_fill_53178 : MethodName := ⟨RJ7, "fill", "([II)V"⟩
def RL : String := "LakeLevelsLaw"
abbrev cL_cell : ByteArray := method_2_code
def yL_cell : MethodName := ⟨RL, "cell", "([II)I"⟩
abbrev cL_up : ByteArray := method_3_code
def yL_up : MethodName := ⟨RL, "up", "(II)I"⟩
abbrev cL_number : ByteArray := method_4_code
def yL_number : MethodName := ⟨RL, "number", "(LLakeLevels;I)Z"⟩
abbrev cL_tells : ByteArray := method_5_code
def yL_tells : MethodName := ⟨RL, "tells", "(LLakeLevels;LLakeLevels;)Z"⟩
abbrev cL_areBasins : ByteArray := method_6_code
def yL_areBasins : MethodName := ⟨RL, "areBasins", "(LLakeLevels;LLakeLevels;)Z"⟩
abbrev cL_isSound : ByteArray := method_7_code
def yL_isSound : MethodName := ⟨RL, "isSound", "(LLakeLevels;)Z"⟩
abbrev cL_lays : ByteArray := method_8_code
def yL_lays : MethodName := ⟨RL, "lays", "(LLakeLevels;[I)Z"⟩
abbrev cL_isRaised : ByteArray := method_9_code
def yL_isRaised : MethodName := ⟨RL, "isRaised", "(LLakeLevels;II)Z"⟩
abbrev cL_law : ByteArray := code
def yL_law : MethodName := ⟨RL, "law", "([I)Z"⟩
abbrev vwCl : List vw_C := [(RX0, TX0, 9), (RX1, TX1, 11), (RX2, TX2, 4), (RX3, TX3, 1), (RX4, TX4, 1), (RX5, TX5, 4), (RX6, TX6, 9), (RX7, TX7, 6)]
