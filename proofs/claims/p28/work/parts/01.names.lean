def RX0 : String := "GeodesicCutter$Faces"
def TX0 : u_T := fun k => match k with
  | 0 => ("GeodesicCutter$Faces", "corner", "[I", true)
  | 1 => ("GeodesicCutter$Faces", "side", "[I", true)
  | _ => ("GeodesicCutter$Faces", "count", "I", false)
def tyX0 : Nat → FieldType := fun k => match k with
  | 0 => .array .int
  | 1 => .array .int
  | _ => .int
abbrev wsX00 : List Cond := u_ws RX0 TX0 3
theorem nmX0 : ∀ a, a < 3 → ∀ b, b < 3 → a ≠ b → (TX0 a).2.1 ≠ (TX0 b).2.1 := by decide +kernel
theorem tyX0_ok : ∀ k, k < 3 → parseFieldDescriptor (TX0 k).2.2.1 = some (tyX0 k) := by decide +kernel
def RX1 : String := "GeodesicCutter$History"
def TX1 : u_T := fun k => match k with
  | 0 => ("GeodesicCutter$History", "states", "[LGeodesicCutter$State;", true)
  | _ => ("GeodesicCutter$History", "count", "I", false)
def tyX1 : Nat → FieldType := fun k => match k with
  | 0 => .array (.object "GeodesicCutter$State")
  | _ => .int
abbrev wsX10 : List Cond := u_ws RX1 TX1 2
theorem nmX1 : ∀ a, a < 2 → ∀ b, b < 2 → a ≠ b → (TX1 a).2.1 ≠ (TX1 b).2.1 := by decide +kernel
theorem tyX1_ok : ∀ k, k < 2 → parseFieldDescriptor (TX1 k).2.2.1 = some (tyX1 k) := by decide +kernel
def RX2 : String := "GeodesicCutter$Hubs"
def TX2 : u_T := fun k => match k with
  | 0 => ("GeodesicCutter$Hubs", "x", "[I", true)
  | 1 => ("GeodesicCutter$Hubs", "y", "[I", true)
  | 2 => ("GeodesicCutter$Hubs", "z", "[I", true)
  | 3 => ("GeodesicCutter$Hubs", "steps", "I", false)
  | _ => ("GeodesicCutter$Hubs", "count", "I", false)
def tyX2 : Nat → FieldType := fun k => match k with
  | 0 => .array .int
  | 1 => .array .int
  | 2 => .array .int
  | 3 => .int
  | _ => .int
abbrev wsX20 : List Cond := u_ws RX2 TX2 5
theorem nmX2 : ∀ a, a < 5 → ∀ b, b < 5 → a ≠ b → (TX2 a).2.1 ≠ (TX2 b).2.1 := by decide +kernel
theorem tyX2_ok : ∀ k, k < 5 → parseFieldDescriptor (TX2 k).2.2.1 = some (tyX2 k) := by decide +kernel
def RX3 : String := "GeodesicCutter$Kinds"
def TX3 : u_T := fun k => match k with
  | 0 => ("GeodesicCutter$Kinds", "n", "[I", true)
  | 1 => ("GeodesicCutter$Kinds", "d", "[I", true)
  | 2 => ("GeodesicCutter$Kinds", "of", "[I", true)
  | 3 => ("GeodesicCutter$Kinds", "sawOrder", "[I", true)
  | 4 => ("GeodesicCutter$Kinds", "kindN", "[I", true)
  | 5 => ("GeodesicCutter$Kinds", "kindD", "[I", true)
  | 6 => ("GeodesicCutter$Kinds", "strutCount", "I", false)
  | _ => ("GeodesicCutter$Kinds", "count", "I", false)
def tyX3 : Nat → FieldType := fun k => match k with
  | 0 => .array .int
  | 1 => .array .int
  | 2 => .array .int
  | 3 => .array .int
  | 4 => .array .int
  | 5 => .array .int
  | 6 => .int
  | _ => .int
abbrev wsX30 : List Cond := u_ws RX3 TX3 8
theorem nmX3 : ∀ a, a < 8 → ∀ b, b < 8 → a ≠ b → (TX3 a).2.1 ≠ (TX3 b).2.1 := by decide +kernel
theorem tyX3_ok : ∀ k, k < 8 → parseFieldDescriptor (TX3 k).2.2.1 = some (tyX3 k) := by decide +kernel
def RX4 : String := "GeodesicCutter$Listing"
def TX4 : u_T := fun k => match k with
  | 0 => ("GeodesicCutter$Listing", "struts", "[I", true)
  | 1 => ("GeodesicCutter$Listing", "count", "I", false)
  | 2 => ("GeodesicCutter$Listing", "reason", "I", false)
  | _ => ("GeodesicCutter$Listing", "place", "I", false)
def tyX4 : Nat → FieldType := fun k => match k with
  | 0 => .array .int
  | 1 => .int
  | 2 => .int
  | _ => .int
abbrev wsX40 : List Cond := u_ws RX4 TX4 4
theorem nmX4 : ∀ a, a < 4 → ∀ b, b < 4 → a ≠ b → (TX4 a).2.1 ≠ (TX4 b).2.1 := by decide +kernel
theorem tyX4_ok : ∀ k, k < 4 → parseFieldDescriptor (TX4 k).2.2.1 = some (tyX4 k) := by decide +kernel
def RX5 : String := "GeodesicCutter$Sawmill"
def TX5 : u_T := fun k => match k with
  | 0 => ("GeodesicCutter$Sawmill", "strut", "[I", true)
  | 1 => ("GeodesicCutter$Sawmill", "kindOf", "[I", true)
  | 2 => ("GeodesicCutter$Sawmill", "waiting", "I", false)
  | 3 => ("GeodesicCutter$Sawmill", "length", "[I", true)
  | 4 => ("GeodesicCutter$Sawmill", "left", "[I", true)
  | 5 => ("GeodesicCutter$Sawmill", "pieces", "[I", true)
  | 6 => ("GeodesicCutter$Sawmill", "barOf", "[I", true)
  | _ => ("GeodesicCutter$Sawmill", "bars", "I", false)
def tyX5 : Nat → FieldType := fun k => match k with
  | 0 => .array .int
  | 1 => .array .int
  | 2 => .int
  | 3 => .array .int
  | 4 => .array .int
  | 5 => .array .int
  | 6 => .array .int
  | _ => .int
abbrev wsX50 : List Cond := u_ws RX5 TX5 8
theorem nmX5 : ∀ a, a < 8 → ∀ b, b < 8 → a ≠ b → (TX5 a).2.1 ≠ (TX5 b).2.1 := by decide +kernel
theorem tyX5_ok : ∀ k, k < 8 → parseFieldDescriptor (TX5 k).2.2.1 = some (tyX5 k) := by decide +kernel
def RX6 : String := "GeodesicCutter$State"
def TX6 : u_T := fun k => match k with
  | 0 => ("GeodesicCutter$State", "steps", "I", false)
  | 1 => ("GeodesicCutter$State", "radius", "I", false)
  | 2 => ("GeodesicCutter$State", "line", "I", false)
  | 3 => ("GeodesicCutter$State", "bar", "I", false)
  | 4 => ("GeodesicCutter$State", "saw", "I", false)
  | 5 => ("GeodesicCutter$State", "missingCount", "I", false)
  | _ => ("GeodesicCutter$State", "missing", "[Z", true)
def tyX6 : Nat → FieldType := fun k => match k with
  | 0 => .int
  | 1 => .int
  | 2 => .int
  | 3 => .int
  | 4 => .int
  | 5 => .int
  | _ => .array .boolean
abbrev wsX60 : List Cond := u_ws RX6 TX6 7
theorem nmX6 : ∀ a, a < 7 → ∀ b, b < 7 → a ≠ b → (TX6 a).2.1 ≠ (TX6 b).2.1 := by decide +kernel
theorem tyX6_ok : ∀ k, k < 7 → parseFieldDescriptor (TX6 k).2.2.1 = some (tyX6 k) := by decide +kernel
def RX7 : String := "GeodesicCutter$Struts"
def TX7 : u_T := fun k => match k with
  | 0 => ("GeodesicCutter$Struts", "low", "[I", true)
  | 1 => ("GeodesicCutter$Struts", "high", "[I", true)
  | 2 => ("GeodesicCutter$Struts", "links", "[I", true)
  | 3 => ("GeodesicCutter$Struts", "linkedHub", "[I", true)
  | 4 => ("GeodesicCutter$Struts", "linkedStrut", "[I", true)
  | _ => ("GeodesicCutter$Struts", "count", "I", false)
def tyX7 : Nat → FieldType := fun k => match k with
  | 0 => .array .int
  | 1 => .array .int
  | 2 => .array .int
  | 3 => .array .int
  | 4 => .array .int
  | _ => .int
abbrev wsX70 : List Cond := u_ws RX7 TX7 6
theorem nmX7 : ∀ a, a < 6 → ∀ b, b < 6 → a ≠ b → (TX7 a).2.1 ≠ (TX7 b).2.1 := by decide +kernel
theorem tyX7_ok : ∀ k, k < 6 → parseFieldDescriptor (TX7 k).2.2.1 = some (tyX7 k) := by decide +kernel
def RX8 : String := "GeodesicCutter$Text"
def TX8 : u_T := fun k => match k with
  | 0 => ("GeodesicCutter$Text", "characters", "[C", true)
  | 1 => ("GeodesicCutter$Text", "length", "I", false)
  | 2 => ("GeodesicCutter$Text", "cursor", "I", false)
  | 3 => ("GeodesicCutter$Text", "first", "I", false)
  | _ => ("GeodesicCutter$Text", "second", "I", false)
def tyX8 : Nat → FieldType := fun k => match k with
  | 0 => .array .char
  | 1 => .int
  | 2 => .int
  | 3 => .int
  | _ => .int
abbrev wsX80 : List Cond := u_ws RX8 TX8 5
theorem nmX8 : ∀ a, a < 5 → ∀ b, b < 5 → a ≠ b → (TX8 a).2.1 ≠ (TX8 b).2.1 := by decide +kernel
theorem tyX8_ok : ∀ k, k < 5 → parseFieldDescriptor (TX8 k).2.2.1 = some (tyX8 k) := by decide +kernel
def RX9 : String := "GeodesicCutter$Walk"
def TX9 : u_T := fun k => match k with
  | 0 => ("GeodesicCutter$Walk", "distance", "[I", true)
  | 1 => ("GeodesicCutter$Walk", "queue", "[I", true)
  | _ => ("GeodesicCutter$Walk", "reached", "I", false)
def tyX9 : Nat → FieldType := fun k => match k with
  | 0 => .array .int
  | 1 => .array .int
  | _ => .int
abbrev wsX90 : List Cond := u_ws RX9 TX9 3
theorem nmX9 : ∀ a, a < 3 → ∀ b, b < 3 → a ≠ b → (TX9 a).2.1 ≠ (TX9 b).2.1 := by decide +kernel
theorem tyX9_ok : ∀ k, k < 3 → parseFieldDescriptor (TX9 k).2.2.1 = some (tyX9 k) := by decide +kernel
def RX10 : String := "GeodesicCutter"
def TX10 : u_T := fun k => match k with
  | 0 => ("GeodesicCutter", "hubs", "LGeodesicCutter$Hubs;", true)
  | 1 => ("GeodesicCutter", "struts", "LGeodesicCutter$Struts;", true)
  | 2 => ("GeodesicCutter", "kinds", "LGeodesicCutter$Kinds;", true)
  | 3 => ("GeodesicCutter", "faces", "LGeodesicCutter$Faces;", true)
  | 4 => ("GeodesicCutter", "now", "LGeodesicCutter$State;", true)
  | 5 => ("GeodesicCutter", "history", "LGeodesicCutter$History;", true)
  | 6 => ("GeodesicCutter", "walk", "LGeodesicCutter$Walk;", true)
  | 7 => ("GeodesicCutter", "mill", "LGeodesicCutter$Sawmill;", true)
  | 8 => ("GeodesicCutter", "text", "LGeodesicCutter$Text;", true)
  | 9 => ("GeodesicCutter", "listing", "LGeodesicCutter$Listing;", true)
  | _ => ("GeodesicCutter", "closedAt", "[I", true)
def tyX10 : Nat → FieldType := fun k => match k with
  | 0 => .object "GeodesicCutter$Hubs"
  | 1 => .object "GeodesicCutter$Struts"
  | 2 => .object "GeodesicCutter$Kinds"
  | 3 => .object "GeodesicCutter$Faces"
  | 4 => .object "GeodesicCutter$State"
  | 5 => .object "GeodesicCutter$History"
  | 6 => .object "GeodesicCutter$Walk"
  | 7 => .object "GeodesicCutter$Sawmill"
  | 8 => .object "GeodesicCutter$Text"
  | 9 => .object "GeodesicCutter$Listing"
  | _ => .array .int
abbrev wsX100 : List Cond := u_ws RX10 TX10 11
theorem nmX10 : ∀ a, a < 11 → ∀ b, b < 11 → a ≠ b → (TX10 a).2.1 ≠ (TX10 b).2.1 := by decide +kernel
theorem tyX10_ok : ∀ k, k < 11 → parseFieldDescriptor (TX10 k).2.2.1 = some (tyX10 k) := by decide +kernel
abbrev vwCl : List vw_C := [(RX0, TX0, 3), (RX1, TX1, 2), (RX2, TX2, 5), (RX3, TX3, 8), (RX4, TX4, 4), (RX5, TX5, 8), (RX6, TX6, 7), (RX7, TX7, 6), (RX8, TX8, 5), (RX9, TX9, 3), (RX10, TX10, 11)]
/-- the owners of the constant pools, by number -/
def pm_on : List String := ["GeodesicCutter$Faces", "GeodesicCutter$History", "GeodesicCutter$Hubs", "GeodesicCutter$Kinds", "GeodesicCutter$Listing", "GeodesicCutter$Sawmill", "GeodesicCutter$State", "GeodesicCutter$Struts", "GeodesicCutter$Text", "GeodesicCutter$Walk", "GeodesicCutter", "GeodesicCutterModel", "java/lang/Integer", "java/util/Arrays", "java/lang/Math", "GeodesicCutterLaw"]
/-- the methods: name, code, locals, answer, owner, frames, words of locals, parameters (the receiver included) -/
def pm_mt0 : List (MethodName × ByteArray × Nat × Option FieldType × Nat × Nat × Nat × Nat) := [(⟨"GeodesicCutter$Faces", "<init>", "()V"⟩, prog_2_method_1_code, 1, none, 0, 1, 20, 1),
  (⟨"GeodesicCutter$Faces", "build", "(LGeodesicCutter$Hubs;LGeodesicCutter$Struts;)V"⟩, prog_2_method_2_code, 6, none, 0, 2, 50, 3),
  (⟨"GeodesicCutter$Faces", "addBetween", "(LGeodesicCutter$Struts;III)V"⟩, prog_2_method_3_code, 8, none, 0, 1, 23, 5),
  (⟨"GeodesicCutter$History", "<init>", "()V"⟩, prog_3_method_1_code, 2, none, 1, 2, 40, 1),
  (⟨"GeodesicCutter$History", "store", "(LGeodesicCutter$State;)V"⟩, prog_3_method_2_code, 2, none, 1, 2, 61, 2),
  (⟨"GeodesicCutter$History", "dropOldest", "()V"⟩, prog_3_method_3_code, 3, none, 1, 0, 0, 1),
  (⟨"GeodesicCutter$History", "restore", "(LGeodesicCutter$State;)Z"⟩, prog_3_method_4_code, 2, some .boolean, 1, 2, 61, 2),
  (⟨"GeodesicCutter$Hubs", "<init>", "()V"⟩, prog_4_method_1_code, 1, none, 2, 1, 20, 1),
  (⟨"GeodesicCutter$Hubs", "build", "(I)V"⟩, prog_4_method_2_code, 6, none, 2, 1, 23, 2),
  (⟨"GeodesicCutter$Hubs", "add", "(III)V"⟩, prog_4_method_3_code, 4, none, 2, 0, 0, 4),
  (⟨"", "", ""⟩, code, 0, none, 0, 0, 0, 0),
  (⟨"GeodesicCutter$Hubs", "product", "(II)I"⟩, prog_4_method_5_code, 3, some .int, 2, 0, 0, 3),
  (⟨"GeodesicCutter$Hubs", "areNeighbours", "(II)Z"⟩, prog_4_method_6_code, 6, some .boolean, 2, 2, 41, 3),
  (⟨"GeodesicCutter$Hubs", "gap", "(II)I"⟩, prog_4_method_7_code, 2, some .int, 2, 1, 20, 2),
  (⟨"", "", ""⟩, code, 0, none, 0, 0, 0, 0),
  (⟨"", "", ""⟩, code, 0, none, 0, 0, 0, 0),
  (⟨"", "", ""⟩, code, 0, none, 0, 0, 0, 0),
  (⟨"GeodesicCutter$Kinds", "<init>", "()V"⟩, prog_5_method_1_code, 1, none, 3, 1, 20, 1),
  (⟨"GeodesicCutter$Kinds", "build", "(LGeodesicCutter$Hubs;LGeodesicCutter$Struts;)V"⟩, prog_5_method_2_code, 6, none, 3, 4, 92, 3),
  (⟨"GeodesicCutter$Kinds", "placeOf", "(II)I"⟩, prog_5_method_3_code, 4, some .int, 3, 2, 44, 3),
  (⟨"GeodesicCutter$Kinds", "compareWithKind", "(III)I"⟩, prog_5_method_4_code, 4, some .int, 3, 1, 21, 4),
  (⟨"GeodesicCutter$Kinds", "include", "(II)V"⟩, prog_5_method_5_code, 6, none, 3, 3, 67, 3),
  (⟨"GeodesicCutter$Kinds", "sortForSawing", "()V"⟩, prog_5_method_6_code, 4, none, 3, 0, 0, 1),
  (⟨"", "", ""⟩, code, 0, none, 0, 0, 0, 0),
  (⟨"GeodesicCutter$Kinds", "lengthOf", "(II)I"⟩, prog_5_method_8_code, 5, some .int, 3, 1, 27, 3),
  (⟨"GeodesicCutter$Kinds", "reaches", "(III)Z"⟩, prog_5_method_9_code, 8, some .boolean, 3, 0, 0, 4),
  (⟨"GeodesicCutter$Listing", "<init>", "()V"⟩, prog_6_method_1_code, 1, none, 4, 1, 20, 1),
  (⟨"", "", ""⟩, code, 0, none, 0, 0, 0, 0),
  (⟨"", "", ""⟩, code, 0, none, 0, 0, 0, 0),
  (⟨"GeodesicCutter$Sawmill", "<init>", "()V"⟩, prog_7_method_1_code, 1, none, 5, 1, 20, 1),
  (⟨"GeodesicCutter$Sawmill", "empty", "()V"⟩, prog_7_method_2_code, 1, none, 5, 0, 0, 1),
  (⟨"GeodesicCutter$Sawmill", "add", "(II)V"⟩, prog_7_method_3_code, 3, none, 5, 0, 0, 3),
  (⟨"GeodesicCutter$Sawmill", "measure", "(LGeodesicCutter$Kinds;I)V"⟩, prog_7_method_4_code, 4, none, 5, 2, 51, 3),
  (⟨"GeodesicCutter$Sawmill", "areEnough", "(III)Z"⟩, prog_7_method_5_code, 4, some .boolean, 5, 2, 48, 4),
  (⟨"GeodesicCutter$Sawmill", "sawInto", "(III)Z"⟩, prog_7_method_6_code, 7, some .boolean, 5, 1, 22, 4),
  (⟨"GeodesicCutter$Sawmill", "beginBar", "(II)Z"⟩, prog_7_method_7_code, 3, some .boolean, 5, 0, 0, 3),
  (⟨"GeodesicCutter$Sawmill", "sumLengths", "()I"⟩, prog_7_method_8_code, 3, some .int, 5, 0, 0, 1),
  (⟨"GeodesicCutter$Sawmill", "sumLeft", "()I"⟩, prog_7_method_9_code, 3, some .int, 5, 0, 0, 1),
  (⟨"GeodesicCutter$Sawmill", "mostPieces", "()I"⟩, prog_7_method_10_code, 3, some .int, 5, 1, 21, 1),
  (⟨"GeodesicCutter$State", "<init>", "()V"⟩, prog_8_method_1_code, 1, none, 6, 1, 20, 1)]
def pm_mt1 : List (MethodName × ByteArray × Nat × Option FieldType × Nat × Nat × Nat × Nat) := [(⟨"GeodesicCutter$State", "copyFrom", "(LGeodesicCutter$State;)V"⟩, prog_8_method_2_code, 2, none, 6, 1, 40, 2),
  (⟨"GeodesicCutter$State", "miss", "(I)V"⟩, prog_8_method_3_code, 2, none, 6, 0, 0, 2),
  (⟨"GeodesicCutter$State", "putBack", "(I)V"⟩, prog_8_method_4_code, 2, none, 6, 0, 0, 2),
  (⟨"GeodesicCutter$State", "putAllBack", "()V"⟩, prog_8_method_5_code, 2, none, 6, 0, 0, 1),
  (⟨"GeodesicCutter$Struts", "<init>", "()V"⟩, prog_9_method_1_code, 1, none, 7, 1, 20, 1),
  (⟨"GeodesicCutter$Struts", "build", "(LGeodesicCutter$Hubs;)V"⟩, prog_9_method_2_code, 4, none, 7, 3, 66, 2),
  (⟨"GeodesicCutter$Struts", "add", "(II)V"⟩, prog_9_method_3_code, 3, none, 7, 1, 23, 3),
  (⟨"GeodesicCutter$Struts", "link", "(II)V"⟩, prog_9_method_4_code, 4, none, 7, 0, 0, 3),
  (⟨"GeodesicCutter$Struts", "between", "(II)I"⟩, prog_9_method_5_code, 4, some .int, 7, 0, 0, 3),
  (⟨"GeodesicCutter$Text", "<init>", "()V"⟩, prog_10_method_1_code, 1, none, 8, 1, 20, 1),
  (⟨"", "", ""⟩, code, 0, none, 0, 0, 0, 0),
  (⟨"", "", ""⟩, code, 0, none, 0, 0, 0, 0),
  (⟨"", "", ""⟩, code, 0, none, 0, 0, 0, 0),
  (⟨"", "", ""⟩, code, 0, none, 0, 0, 0, 0),
  (⟨"", "", ""⟩, code, 0, none, 0, 0, 0, 0),
  (⟨"GeodesicCutter$Walk", "<init>", "()V"⟩, prog_11_method_1_code, 1, none, 9, 1, 20, 1),
  (⟨"", "", ""⟩, code, 0, none, 0, 0, 0, 0),
  (⟨"", "", ""⟩, code, 0, none, 0, 0, 0, 0),
  (⟨"GeodesicCutter", "<init>", "()V"⟩, prog_1_method_1_code, 1, none, 10, 6, 137, 1),
  (⟨"GeodesicCutter", "split", "(I)I"⟩, prog_1_method_2_code, 2, some .int, 10, 6, 137, 2),
  (⟨"GeodesicCutter", "setRadius", "(I)I"⟩, prog_1_method_3_code, 3, some .int, 10, 3, 82, 2),
  (⟨"GeodesicCutter", "cutAt", "(I)I"⟩, prog_1_method_4_code, 2, some .int, 10, 3, 82, 2),
  (⟨"GeodesicCutter", "setStock", "(II)I"⟩, prog_1_method_5_code, 3, some .int, 10, 4, 96, 3),
  (⟨"GeodesicCutter", "count", "(I)I"⟩, prog_1_method_6_code, 2, some .int, 10, 4, 85, 2),
  (⟨"GeodesicCutter", "undo", "()I"⟩, prog_1_method_7_code, 1, some .int, 10, 6, 137, 1),
  (⟨"", "", ""⟩, code, 0, none, 0, 0, 0, 0),
  (⟨"", "", ""⟩, code, 0, none, 0, 0, 0, 0),
  (⟨"", "", ""⟩, code, 0, none, 0, 0, 0, 0),
  (⟨"", "", ""⟩, code, 0, none, 0, 0, 0, 0),
  (⟨"", "", ""⟩, code, 0, none, 0, 0, 0, 0),
  (⟨"", "", ""⟩, code, 0, none, 0, 0, 0, 0),
  (⟨"GeodesicCutter", "strutOf", "(II)I"⟩, prog_1_method_14_code, 3, some .int, 10, 5, 117, 3),
  (⟨"", "", ""⟩, code, 0, none, 0, 0, 0, 0),
  (⟨"", "", ""⟩, code, 0, none, 0, 0, 0, 0),
  (⟨"GeodesicCutter", "lose", "(I)I"⟩, prog_1_method_17_code, 3, some .int, 10, 5, 105, 2),
  (⟨"GeodesicCutter", "put", "(I)I"⟩, prog_1_method_18_code, 2, some .int, 10, 5, 105, 2),
  (⟨"GeodesicCutter", "mend", "()I"⟩, prog_1_method_19_code, 2, some .int, 10, 3, 82, 1),
  (⟨"GeodesicCutter", "worst", "()I"⟩, prog_1_method_20_code, 3, some .int, 10, 4, 84, 1),
  (⟨"GeodesicCutter", "stock", "(I)I"⟩, prog_1_method_21_code, 2, some .int, 10, 4, 96, 2),
  (⟨"GeodesicCutter", "radiusFor", "(I)I"⟩, prog_1_method_22_code, 3, some .int, 10, 3, 74, 2)]
def pm_mt2 : List (MethodName × ByteArray × Nat × Option FieldType × Nat × Nat × Nat × Nat) := [(⟨"", "", ""⟩, code, 0, none, 0, 0, 0, 0),
  (⟨"", "", ""⟩, code, 0, none, 0, 0, 0, 0),
  (⟨"", "", ""⟩, code, 0, none, 0, 0, 0, 0),
  (⟨"", "", ""⟩, code, 0, none, 0, 0, 0, 0),
  (⟨"GeodesicCutter", "isWithin", "(III)Z"⟩, prog_1_method_27_code, 3, some .boolean, 10, 0, 0, 3),
  (⟨"", "", ""⟩, code, 0, none, 0, 0, 0, 0),
  (⟨"", "", ""⟩, code, 0, none, 0, 0, 0, 0),
  (⟨"GeodesicCutter", "isStrut", "(I)Z"⟩, prog_1_method_30_code, 2, some .boolean, 10, 1, 22, 2),
  (⟨"GeodesicCutter", "buildBall", "()V"⟩, prog_1_method_31_code, 1, none, 10, 5, 117, 1),
  (⟨"GeodesicCutter", "isKeptHub", "(I)Z"⟩, prog_1_method_32_code, 2, some .boolean, 10, 0, 0, 2),
  (⟨"GeodesicCutter", "isKeptStrut", "(I)Z"⟩, prog_1_method_33_code, 2, some .boolean, 10, 1, 21, 2),
  (⟨"GeodesicCutter", "isKeptFace", "(I)Z"⟩, prog_1_method_34_code, 2, some .boolean, 10, 1, 21, 2),
  (⟨"GeodesicCutter", "isClosedFace", "(I)Z"⟩, prog_1_method_35_code, 2, some .boolean, 10, 2, 42, 2),
  (⟨"GeodesicCutter", "isBorderHub", "(I)Z"⟩, prog_1_method_36_code, 3, some .boolean, 10, 1, 21, 2),
  (⟨"", "", ""⟩, code, 0, none, 0, 0, 0, 0),
  (⟨"GeodesicCutter", "countKeptHubs", "()I"⟩, prog_1_method_38_code, 3, some .int, 10, 1, 21, 1),
  (⟨"GeodesicCutter", "countBorderHubs", "()I"⟩, prog_1_method_39_code, 3, some .int, 10, 2, 43, 1),
  (⟨"GeodesicCutter", "countKeptStruts", "()I"⟩, prog_1_method_40_code, 3, some .int, 10, 2, 42, 1),
  (⟨"GeodesicCutter", "countKeptMissing", "()I"⟩, prog_1_method_41_code, 3, some .int, 10, 2, 42, 1),
  (⟨"GeodesicCutter", "countKeptFaces", "()I"⟩, prog_1_method_42_code, 3, some .int, 10, 2, 42, 1),
  (⟨"GeodesicCutter", "countHoles", "()I"⟩, prog_1_method_43_code, 3, some .int, 10, 3, 63, 1),
  (⟨"", "", ""⟩, code, 0, none, 0, 0, 0, 0),
  (⟨"", "", ""⟩, code, 0, none, 0, 0, 0, 0),
  (⟨"", "", ""⟩, code, 0, none, 0, 0, 0, 0),
  (⟨"GeodesicCutter", "tallyClosedFaces", "()V"⟩, prog_1_method_47_code, 2, none, 10, 3, 63, 1),
  (⟨"GeodesicCutter", "countClosedFacesAt", "(I)I"⟩, prog_1_method_48_code, 2, some .int, 10, 4, 84, 2),
  (⟨"", "", ""⟩, code, 0, none, 0, 0, 0, 0),
  (⟨"GeodesicCutter", "loadMill", "()V"⟩, prog_1_method_50_code, 3, none, 10, 2, 42, 1),
  (⟨"GeodesicCutter", "sawKeptStruts", "(II)Z"⟩, prog_1_method_51_code, 3, some .boolean, 10, 3, 74, 3),
  (⟨"GeodesicCutter", "barOf", "(I)I"⟩, prog_1_method_52_code, 2, some .int, 10, 4, 96, 2),
  (⟨"", "", ""⟩, code, 0, none, 0, 0, 0, 0),
  (⟨"", "", ""⟩, code, 0, none, 0, 0, 0, 0),
  (⟨"", "", ""⟩, code, 0, none, 0, 0, 0, 0),
  (⟨"", "", ""⟩, code, 0, none, 0, 0, 0, 0),
  (⟨"", "", ""⟩, code, 0, none, 0, 0, 0, 0),
  (⟨"", "", ""⟩, code, 0, none, 0, 0, 0, 0),
  (⟨"", "", ""⟩, code, 0, none, 0, 0, 0, 0),
  (⟨"", "", ""⟩, code, 0, none, 0, 0, 0, 0),
  (⟨"", "", ""⟩, code, 0, none, 0, 0, 0, 0),
  (⟨"", "", ""⟩, code, 0, none, 0, 0, 0, 0)]
def pm_mt3 : List (MethodName × ByteArray × Nat × Option FieldType × Nat × Nat × Nat × Nat) := [(⟨"", "", ""⟩, code, 0, none, 0, 0, 0, 0),
  (⟨"", "", ""⟩, code, 0, none, 0, 0, 0, 0),
  (⟨"", "", ""⟩, code, 0, none, 0, 0, 0, 0),
  (⟨"", "", ""⟩, code, 0, none, 0, 0, 0, 0),
  (⟨"", "", ""⟩, code, 0, none, 0, 0, 0, 0),
  (⟨"", "", ""⟩, code, 0, none, 0, 0, 0, 0),
  (⟨"", "", ""⟩, code, 0, none, 0, 0, 0, 0),
  (⟨"", "", ""⟩, code, 0, none, 0, 0, 0, 0),
  (⟨"", "", ""⟩, code, 0, none, 0, 0, 0, 0),
  (⟨"", "", ""⟩, code, 0, none, 0, 0, 0, 0),
  (⟨"", "", ""⟩, code, 0, none, 0, 0, 0, 0),
  (⟨"", "", ""⟩, code, 0, none, 0, 0, 0, 0),
  (⟨"", "", ""⟩, code, 0, none, 0, 0, 0, 0),
  (⟨"", "", ""⟩, code, 0, none, 0, 0, 0, 0),
  (⟨"", "", ""⟩, code, 0, none, 0, 0, 0, 0),
  (⟨"", "", ""⟩, code, 0, none, 0, 0, 0, 0),
  (⟨"", "", ""⟩, code, 0, none, 0, 0, 0, 0),
  (⟨"", "", ""⟩, code, 0, none, 0, 0, 0, 0),
  (⟨"", "", ""⟩, code, 0, none, 0, 0, 0, 0),
  (⟨"", "", ""⟩, code, 0, none, 0, 0, 0, 0),
  (⟨"", "", ""⟩, code, 0, none, 0, 0, 0, 0),
  (⟨"", "", ""⟩, code, 0, none, 0, 0, 0, 0),
  (⟨"", "", ""⟩, code, 0, none, 0, 0, 0, 0),
  (⟨"", "", ""⟩, code, 0, none, 0, 0, 0, 0),
  (⟨"", "", ""⟩, code, 0, none, 0, 0, 0, 0),
  (⟨"", "", ""⟩, code, 0, none, 0, 0, 0, 0),
  (⟨"", "", ""⟩, code, 0, none, 0, 0, 0, 0),
  (⟨"", "", ""⟩, code, 0, none, 0, 0, 0, 0),
  (⟨"", "", ""⟩, code, 0, none, 0, 0, 0, 0),
  (⟨"", "", ""⟩, code, 0, none, 0, 0, 0, 0),
  (⟨"", "", ""⟩, code, 0, none, 0, 0, 0, 0),
  (⟨"", "", ""⟩, code, 0, none, 0, 0, 0, 0),
  (⟨"", "", ""⟩, code, 0, none, 0, 0, 0, 0),
  (⟨"", "", ""⟩, code, 0, none, 0, 0, 0, 0),
  (⟨"", "", ""⟩, code, 0, none, 0, 0, 0, 0),
  (⟨"", "", ""⟩, code, 0, none, 0, 0, 0, 0),
  (⟨"", "", ""⟩, code, 0, none, 0, 0, 0, 0),
  (⟨"", "", ""⟩, code, 0, none, 0, 0, 0, 0),
  (⟨"", "", ""⟩, code, 0, none, 0, 0, 0, 0),
  (⟨"", "", ""⟩, code, 0, none, 0, 0, 0, 0)]
def pm_mt4 : List (MethodName × ByteArray × Nat × Option FieldType × Nat × Nat × Nat × Nat) := [(⟨"", "", ""⟩, code, 0, none, 0, 0, 0, 0),
  (⟨"", "", ""⟩, code, 0, none, 0, 0, 0, 0),
  (⟨"", "", ""⟩, code, 0, none, 0, 0, 0, 0),
  (⟨"", "", ""⟩, code, 0, none, 0, 0, 0, 0),
  (⟨"", "", ""⟩, code, 0, none, 0, 0, 0, 0),
  (⟨"", "", ""⟩, code, 0, none, 0, 0, 0, 0),
  (⟨"", "", ""⟩, code, 0, none, 0, 0, 0, 0),
  (⟨"", "", ""⟩, code, 0, none, 0, 0, 0, 0),
  (⟨"", "", ""⟩, code, 0, none, 0, 0, 0, 0),
  (⟨"", "", ""⟩, code, 0, none, 0, 0, 0, 0),
  (⟨"", "", ""⟩, code, 0, none, 0, 0, 0, 0),
  (⟨"", "", ""⟩, code, 0, none, 0, 0, 0, 0),
  (⟨"", "", ""⟩, code, 0, none, 0, 0, 0, 0),
  (⟨"", "", ""⟩, code, 0, none, 0, 0, 0, 0),
  (⟨"", "", ""⟩, code, 0, none, 0, 0, 0, 0),
  (⟨"", "", ""⟩, code, 0, none, 0, 0, 0, 0),
  (⟨"", "", ""⟩, code, 0, none, 0, 0, 0, 0),
  (⟨"", "", ""⟩, code, 0, none, 0, 0, 0, 0),
  (⟨"", "", ""⟩, code, 0, none, 0, 0, 0, 0),
  (⟨"", "", ""⟩, code, 0, none, 0, 0, 0, 0),
  (⟨"", "", ""⟩, code, 0, none, 0, 0, 0, 0),
  (⟨"", "", ""⟩, code, 0, none, 0, 0, 0, 0),
  (⟨"", "", ""⟩, code, 0, none, 0, 0, 0, 0),
  (⟨"java/lang/Integer", "compare", "(II)I"⟩, prog_14_method_40_code, 2, some .int, 12, 0, 0, 2),
  (⟨"java/util/Arrays", "fill", "([II)V"⟩, prog_17_method_103_code, 4, none, 13, 0, 0, 2),
  (⟨"java/lang/Math", "abs", "(I)I"⟩, prog_15_method_59_code, 1, some .int, 14, 0, 0, 1),
  (⟨"java/lang/Math", "max", "(II)I"⟩, prog_15_method_65_code, 2, some .int, 14, 0, 0, 2),
  (⟨"", "", ""⟩, code, 0, none, 0, 0, 0, 0),
  (⟨"GeodesicCutterLaw", "cell", "([II)I"⟩, method_2_code, 2, some .int, 15, 0, 0, 2),
  (⟨"GeodesicCutterLaw", "low", "(II)I"⟩, method_3_code, 2, some .int, 15, 0, 0, 2),
  (⟨"GeodesicCutterLaw", "tale", "(LGeodesicCutter;)J"⟩, method_4_code, 4, some .long, 15, 6, 139, 1),
  (⟨"GeodesicCutterLaw", "does", "(LGeodesicCutter;I)I"⟩, method_5_code, 2, some .int, 15, 7, 158, 2)]
def pm_mt : List (MethodName × ByteArray × Nat × Option FieldType × Nat × Nat × Nat × Nat) := pm_mt0 ++ (pm_mt1 ++ (pm_mt2 ++ (pm_mt3 ++ (pm_mt4))))
/-- the cells of the two worlds: an object (its class, its fields: an int, or the cell that it always names) or an array (its type, its length) -/
def pm_sh0 : List ((Nat × List (Option Nat)) ⊕ (Nat × Nat)) := [.inl (10, [some 1, some 5, some 11, some 18, some 21, some 23, some 37, some 40, some 47, some 49, some 51]),
  .inl (2, [some 2, some 3, some 4, none, none]),
  .inr (0, 146),
  .inr (0, 146),
  .inr (0, 146),
  .inl (7, [some 6, some 7, some 8, some 9, some 10, none]),
  .inr (0, 432),
  .inr (0, 432),
  .inr (0, 146),
  .inr (0, 876),
  .inr (0, 876),
  .inl (3, [some 12, some 13, some 14, some 15, some 16, some 17, none, none]),
  .inr (0, 432),
  .inr (0, 432),
  .inr (0, 432),
  .inr (0, 432),
  .inr (0, 16),
  .inr (0, 16),
  .inl (0, [some 19, some 20, none]),
  .inr (0, 864),
  .inr (0, 864),
  .inl (6, [none, none, none, none, none, none, some 22]),
  .inr (2, 432),
  .inl (1, [some 24, none]),
  .inr (4, 6),
  .inl (6, [none, none, none, none, none, none, some 26]),
  .inr (2, 432),
  .inl (6, [none, none, none, none, none, none, some 28]),
  .inr (2, 432),
  .inl (6, [none, none, none, none, none, none, some 30]),
  .inr (2, 432),
  .inl (6, [none, none, none, none, none, none, some 32]),
  .inr (2, 432),
  .inl (6, [none, none, none, none, none, none, some 34]),
  .inr (2, 432),
  .inl (6, [none, none, none, none, none, none, some 36]),
  .inr (2, 432),
  .inl (9, [some 38, some 39, none]),
  .inr (0, 146),
  .inr (0, 146),
  .inl (5, [some 41, some 42, none, some 43, some 44, some 45, some 46, none]),
  .inr (0, 432),
  .inr (0, 432),
  .inr (0, 16),
  .inr (0, 432),
  .inr (0, 432),
  .inr (0, 432),
  .inl (8, [some 48, none, none, none, none]),
  .inr (3, 80),
  .inl (4, [some 50, none, none, none]),
  .inr (0, 20),
  .inr (0, 432)]
def pm_sh1 : List ((Nat × List (Option Nat)) ⊕ (Nat × Nat)) := []
