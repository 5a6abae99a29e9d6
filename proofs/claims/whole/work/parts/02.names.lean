def RX0 : String := "SetlistPlanner$Concert"
def TX0 : u_T := fun k => match k with
  | 0 => ("SetlistPlanner$Concert", "songs", "I", false)
  | 1 => ("SetlistPlanner$Concert", "players", "I", false)
  | 2 => ("SetlistPlanner$Concert", "kinds", "I", false)
  | 3 => ("SetlistPlanner$Concert", "encores", "I", false)
  | 4 => ("SetlistPlanner$Concert", "playingTimes", "[I", true)
  | 5 => ("SetlistPlanner$Concert", "playerSides", "[I", true)
  | 6 => ("SetlistPlanner$Concert", "units", "[I", true)
  | 7 => ("SetlistPlanner$Concert", "kindSides", "[I", true)
  | 8 => ("SetlistPlanner$Concert", "partKinds", "[I", true)
  | 9 => ("SetlistPlanner$Concert", "partTunings", "[I", true)
  | 10 => ("SetlistPlanner$Concert", "pinnedAt", "[I", true)
  | _ => ("SetlistPlanner$Concert", "order", "[I", true)
def tyX0 : Nat → FieldType := fun k => match k with
  | 0 => .int
  | 1 => .int
  | 2 => .int
  | 3 => .int
  | 4 => .array .int
  | 5 => .array .int
  | 6 => .array .int
  | 7 => .array .int
  | 8 => .array .int
  | 9 => .array .int
  | 10 => .array .int
  | _ => .array .int
theorem nmX0 : ∀ a, a < 12 → ∀ b, b < 12 → a ≠ b → (TX0 a).2.1 ≠ (TX0 b).2.1 := by decide +kernel
theorem tyX0_ok : ∀ k, k < 12 → parseFieldDescriptor (TX0 k).2.2.1 = some (tyX0 k) := by decide +kernel
def RX1 : String := "SetlistPlanner$ConcertText"
def TX1 : u_T := fun k => match k with
  | 0 => ("SetlistPlanner$ConcertText", "characters", "[C", true)
  | 1 => ("SetlistPlanner$ConcertText", "length", "I", false)
  | 2 => ("SetlistPlanner$ConcertText", "numbers", "[I", true)
  | _ => ("SetlistPlanner$ConcertText", "numberCount", "I", false)
def tyX1 : Nat → FieldType := fun k => match k with
  | 0 => .array .char
  | 1 => .int
  | 2 => .array .int
  | _ => .int
theorem nmX1 : ∀ a, a < 4 → ∀ b, b < 4 → a ≠ b → (TX1 a).2.1 ≠ (TX1 b).2.1 := by decide +kernel
theorem tyX1_ok : ∀ k, k < 4 → parseFieldDescriptor (TX1 k).2.2.1 = some (tyX1 k) := by decide +kernel
def RX2 : String := "SetlistPlanner$History"
def TX2 : u_T := fun k => match k with
  | 0 => ("SetlistPlanner$History", "concerts", "[LSetlistPlanner$Concert;", true)
  | 1 => ("SetlistPlanner$History", "next", "I", false)
  | _ => ("SetlistPlanner$History", "count", "I", false)
def tyX2 : Nat → FieldType := fun k => match k with
  | 0 => .array (.object "SetlistPlanner$Concert")
  | 1 => .int
  | _ => .int
theorem nmX2 : ∀ a, a < 3 → ∀ b, b < 3 → a ≠ b → (TX2 a).2.1 ≠ (TX2 b).2.1 := by decide +kernel
theorem tyX2_ok : ∀ k, k < 3 → parseFieldDescriptor (TX2 k).2.2.1 = some (tyX2 k) := by decide +kernel
def RX3 : String := "SetlistPlanner$OrderTable"
def TX3 : u_T := fun k => match k with
  | 0 => ("SetlistPlanner$OrderTable", "songs", "I", false)
  | 1 => ("SetlistPlanner$OrderTable", "costs", "[I", true)
  | 2 => ("SetlistPlanner$OrderTable", "mayStand", "[Z", true)
  | 3 => ("SetlistPlanner$OrderTable", "restCosts", "[I", true)
  | _ => ("SetlistPlanner$OrderTable", "restOrders", "[I", true)
def tyX3 : Nat → FieldType := fun k => match k with
  | 0 => .int
  | 1 => .array .int
  | 2 => .array .boolean
  | 3 => .array .int
  | _ => .array .int
theorem nmX3 : ∀ a, a < 5 → ∀ b, b < 5 → a ≠ b → (TX3 a).2.1 ≠ (TX3 b).2.1 := by decide +kernel
theorem tyX3_ok : ∀ k, k < 5 → parseFieldDescriptor (TX3 k).2.2.1 = some (tyX3 k) := by decide +kernel
def RX4 : String := "SetlistPlanner"
def TX4 : u_T := fun k => match k with
  | 0 => ("SetlistPlanner", "text", "LSetlistPlanner$ConcertText;", true)
  | 1 => ("SetlistPlanner", "concert", "LSetlistPlanner$Concert;", true)
  | 2 => ("SetlistPlanner", "draft", "LSetlistPlanner$Concert;", true)
  | 3 => ("SetlistPlanner", "history", "LSetlistPlanner$History;", true)
  | 4 => ("SetlistPlanner", "table", "LSetlistPlanner$OrderTable;", true)
  | _ => ("SetlistPlanner", "tableIsPresent", "Z", false)
def tyX4 : Nat → FieldType := fun k => match k with
  | 0 => .object "SetlistPlanner$ConcertText"
  | 1 => .object "SetlistPlanner$Concert"
  | 2 => .object "SetlistPlanner$Concert"
  | 3 => .object "SetlistPlanner$History"
  | 4 => .object "SetlistPlanner$OrderTable"
  | _ => .boolean
theorem nmX4 : ∀ a, a < 6 → ∀ b, b < 6 → a ≠ b → (TX4 a).2.1 ≠ (TX4 b).2.1 := by decide +kernel
theorem tyX4_ok : ∀ k, k < 6 → parseFieldDescriptor (TX4 k).2.2.1 = some (tyX4 k) := by decide +kernel
def RX5 : String := "SetlistPlannerModel"
def TX5 : u_T := fun k => match k with
  | 0 => ("SetlistPlannerModel", "s", "[I", true)
  | 1 => ("SetlistPlannerModel", "read", "[I", true)
  | 2 => ("SetlistPlannerModel", "kept", "[I", true)
  | 3 => ("SetlistPlannerModel", "keptMany", "I", false)
  | 4 => ("SetlistPlannerModel", "text", "[I", true)
  | 5 => ("SetlistPlannerModel", "length", "I", false)
  | 6 => ("SetlistPlannerModel", "spot", "I", false)
  | 7 => ("SetlistPlannerModel", "number", "I", false)
  | 8 => ("SetlistPlannerModel", "rest", "[I", true)
  | 9 => ("SetlistPlannerModel", "ways", "[I", true)
  | 10 => ("SetlistPlannerModel", "costs", "[I", true)
  | _ => ("SetlistPlannerModel", "found", "[I", true)
def tyX5 : Nat → FieldType := fun k => match k with
  | 0 => .array .int
  | 1 => .array .int
  | 2 => .array .int
  | 3 => .int
  | 4 => .array .int
  | 5 => .int
  | 6 => .int
  | 7 => .int
  | 8 => .array .int
  | 9 => .array .int
  | 10 => .array .int
  | _ => .array .int
theorem nmX5 : ∀ a, a < 12 → ∀ b, b < 12 → a ≠ b → (TX5 a).2.1 ≠ (TX5 b).2.1 := by decide +kernel
theorem tyX5_ok : ∀ k, k < 12 → parseFieldDescriptor (TX5 k).2.2.1 = some (tyX5 k) := by decide +kernel
def RJ6 : String := "java/lang/Integer"
def RJ9 : String := "java/lang/Math"
def cnm : Nat → String
  | 0 => RX0
  | 1 => RX1
  | 2 => RX2
  | 3 => RX3
  | 4 => RX4
  | 5 => RX5
  | 6 => RJ6
  | _ => RJ9
abbrev MR : Type := MethodName × ByteArray × Nat × Option FieldType × Nat × Nat × Bool × List (Nat × Instr × Nat)
