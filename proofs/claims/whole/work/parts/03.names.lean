/-! names, and the tables' words that each instruction needs, by their places (written by a program: wip/gen) -/
def RX0 : String := "EclipseWheel$Items"
def TX0 : u_T := fun k => match k with
  | 0 => ("EclipseWheel$Items", "values", "[J", true)
  | _ => ("EclipseWheel$Items", "size", "I", false)
def tyX0 : Nat → FieldType := fun k => match k with
  | 0 => .array .long
  | _ => .int
theorem nmX0 : ∀ a, a < 2 → ∀ b, b < 2 → a ≠ b → (TX0 a).2.1 ≠ (TX0 b).2.1 := by decide +kernel
theorem tyX0_ok : ∀ k, k < 2 → parseFieldDescriptor (TX0 k).2.2.1 = some (tyX0 k) := by decide +kernel
def RX1 : String := "EclipseWheel$Items"
def TX1 : u_T := fun k => match k with
  | _ => ("", "", "", false)
def tyX1 : Nat → FieldType := fun k => match k with
  | _ => .int
theorem nmX1 : ∀ a, a < 0 → ∀ b, b < 0 → a ≠ b → (TX1 a).2.1 ≠ (TX1 b).2.1 := by decide +kernel
theorem tyX1_ok : ∀ k, k < 0 → parseFieldDescriptor (TX1 k).2.2.1 = some (tyX1 k) := by decide +kernel
def RX2 : String := "EclipseWheel$Setup"
def TX2 : u_T := fun k => match k with
  | 0 => ("EclipseWheel$Setup", "wheels", "[LEclipseWheel$Wheel;", true)
  | 1 => ("EclipseWheel$Setup", "rules", "[I", true)
  | 2 => ("EclipseWheel$Setup", "wheelCount", "I", false)
  | 3 => ("EclipseWheel$Setup", "node", "I", false)
  | _ => ("EclipseWheel$Setup", "apse", "I", false)
def tyX2 : Nat → FieldType := fun k => match k with
  | 0 => .array (.object "EclipseWheel$Wheel")
  | 1 => .array .int
  | 2 => .int
  | 3 => .int
  | _ => .int
theorem nmX2 : ∀ a, a < 5 → ∀ b, b < 5 → a ≠ b → (TX2 a).2.1 ≠ (TX2 b).2.1 := by decide +kernel
theorem tyX2_ok : ∀ k, k < 5 → parseFieldDescriptor (TX2 k).2.2.1 = some (tyX2 k) := by decide +kernel
def RX3 : String := "EclipseWheel$Sheet"
def TX3 : u_T := fun k => match k with
  | 0 => ("EclipseWheel$Sheet", "bytes", "[I", true)
  | _ => ("EclipseWheel$Sheet", "size", "I", false)
def tyX3 : Nat → FieldType := fun k => match k with
  | 0 => .array .int
  | _ => .int
theorem nmX3 : ∀ a, a < 2 → ∀ b, b < 2 → a ≠ b → (TX3 a).2.1 ≠ (TX3 b).2.1 := by decide +kernel
theorem tyX3_ok : ∀ k, k < 2 → parseFieldDescriptor (TX3 k).2.2.1 = some (tyX3 k) := by decide +kernel
def RX4 : String := "EclipseWheel$Tape"
def TX4 : u_T := fun k => match k with
  | 0 => ("EclipseWheel$Tape", "bytes", "[I", true)
  | 1 => ("EclipseWheel$Tape", "size", "I", false)
  | 2 => ("EclipseWheel$Tape", "letterPlaces", "[I", true)
  | 3 => ("EclipseWheel$Tape", "letters", "[I", true)
  | 4 => ("EclipseWheel$Tape", "numbers", "[I", true)
  | 5 => ("EclipseWheel$Tape", "statements", "I", false)
  | 6 => ("EclipseWheel$Tape", "place", "I", false)
  | _ => ("EclipseWheel$Tape", "faulty", "Z", false)
def tyX4 : Nat → FieldType := fun k => match k with
  | 0 => .array .int
  | 1 => .int
  | 2 => .array .int
  | 3 => .array .int
  | 4 => .array .int
  | 5 => .int
  | 6 => .int
  | _ => .boolean
theorem nmX4 : ∀ a, a < 8 → ∀ b, b < 8 → a ≠ b → (TX4 a).2.1 ≠ (TX4 b).2.1 := by decide +kernel
theorem tyX4_ok : ∀ k, k < 8 → parseFieldDescriptor (TX4 k).2.2.1 = some (tyX4 k) := by decide +kernel
def RX5 : String := "EclipseWheel$Tray"
def TX5 : u_T := fun k => match k with
  | 0 => ("EclipseWheel$Tray", "places", "[LEclipseWheel$Wheel;", true)
  | 1 => ("EclipseWheel$Tray", "kind", "I", false)
  | _ => ("EclipseWheel$Tray", "size", "I", false)
def tyX5 : Nat → FieldType := fun k => match k with
  | 0 => .array (.object "EclipseWheel$Wheel")
  | 1 => .int
  | _ => .int
theorem nmX5 : ∀ a, a < 3 → ∀ b, b < 3 → a ≠ b → (TX5 a).2.1 ≠ (TX5 b).2.1 := by decide +kernel
theorem tyX5_ok : ∀ k, k < 3 → parseFieldDescriptor (TX5 k).2.2.1 = some (tyX5 k) := by decide +kernel
def RX6 : String := "EclipseWheel$Wheel"
def TX6 : u_T := fun k => match k with
  | 0 => ("EclipseWheel$Wheel", "kind", "I", true)
  | 1 => ("EclipseWheel$Wheel", "parts", "I", true)
  | 2 => ("EclipseWheel$Wheel", "made", "I", true)
  | 3 => ("EclipseWheel$Wheel", "step", "I", false)
  | _ => ("EclipseWheel$Wheel", "start", "I", false)
def tyX6 : Nat → FieldType := fun k => match k with
  | 0 => .int
  | 1 => .int
  | 2 => .int
  | 3 => .int
  | _ => .int
theorem nmX6 : ∀ a, a < 5 → ∀ b, b < 5 → a ≠ b → (TX6 a).2.1 ≠ (TX6 b).2.1 := by decide +kernel
theorem tyX6_ok : ∀ k, k < 5 → parseFieldDescriptor (TX6 k).2.2.1 = some (tyX6 k) := by decide +kernel
def RX7 : String := "EclipseWheel"
def TX7 : u_T := fun k => match k with
  | 0 => ("EclipseWheel", "now", "LEclipseWheel$Setup;", true)
  | 1 => ("EclipseWheel", "kept", "LEclipseWheel$Setup;", true)
  | 2 => ("EclipseWheel", "imageTaken", "Z", false)
  | 3 => ("EclipseWheel", "trays", "[LEclipseWheel$Tray;", true)
  | 4 => ("EclipseWheel", "lists", "[LEclipseWheel$Items;", true)
  | 5 => ("EclipseWheel", "tape", "LEclipseWheel$Tape;", true)
  | 6 => ("EclipseWheel", "textsDone", "I", false)
  | 7 => ("EclipseWheel", "found", "[I", true)
  | 8 => ("EclipseWheel", "recordRow", "[I", true)
  | 9 => ("EclipseWheel", "sheet", "LEclipseWheel$Sheet;", true)
  | 10 => ("EclipseWheel", "rolledSizes", "[I", true)
  | _ => ("EclipseWheel", "rolledSides", "[I", true)
def tyX7 : Nat → FieldType := fun k => match k with
  | 0 => .object "EclipseWheel$Setup"
  | 1 => .object "EclipseWheel$Setup"
  | 2 => .boolean
  | 3 => .array (.object "EclipseWheel$Tray")
  | 4 => .array (.object "EclipseWheel$Items")
  | 5 => .object "EclipseWheel$Tape"
  | 6 => .int
  | 7 => .array .int
  | 8 => .array .int
  | 9 => .object "EclipseWheel$Sheet"
  | 10 => .array .int
  | _ => .array .int
theorem nmX7 : ∀ a, a < 12 → ∀ b, b < 12 → a ≠ b → (TX7 a).2.1 ≠ (TX7 b).2.1 := by decide +kernel
theorem tyX7_ok : ∀ k, k < 12 → parseFieldDescriptor (TX7 k).2.2.1 = some (tyX7 k) := by decide +kernel
def RX8 : String := "EclipseWheelModel"
def TX8 : u_T := fun k => match k with
  | 0 => ("EclipseWheelModel", "kind", "[I", true)
  | 1 => ("EclipseWheelModel", "parts", "[I", true)
  | 2 => ("EclipseWheelModel", "step", "[I", true)
  | 3 => ("EclipseWheelModel", "start", "[I", true)
  | 4 => ("EclipseWheelModel", "made", "[I", true)
  | 5 => ("EclipseWheelModel", "wheels", "I", false)
  | 6 => ("EclipseWheelModel", "list", "[I", true)
  | 7 => ("EclipseWheelModel", "node", "I", false)
  | 8 => ("EclipseWheelModel", "apse", "I", false)
  | 9 => ("EclipseWheelModel", "rule", "[I", true)
  | 10 => ("EclipseWheelModel", "imaged", "[I", true)
  | 11 => ("EclipseWheelModel", "hasImage", "Z", false)
  | 12 => ("EclipseWheelModel", "rolled", "[I", true)
  | 13 => ("EclipseWheelModel", "rolledSide", "[I", true)
  | 14 => ("EclipseWheelModel", "recordAt", "I", false)
  | 15 => ("EclipseWheelModel", "term", "[I", true)
  | 16 => ("EclipseWheelModel", "four", "[I", true)
  | 17 => ("EclipseWheelModel", "paper", "[I", true)
  | 18 => ("EclipseWheelModel", "papers", "I", false)
  | 19 => ("EclipseWheelModel", "gap", "[I", true)
  | 20 => ("EclipseWheelModel", "tape", "[I", true)
  | 21 => ("EclipseWheelModel", "taped", "I", false)
  | 22 => ("EclipseWheelModel", "textsDone", "I", false)
  | 23 => ("EclipseWheelModel", "reads", "I", false)
  | 24 => ("EclipseWheelModel", "letter", "I", false)
  | 25 => ("EclipseWheelModel", "first", "I", false)
  | 26 => ("EclipseWheelModel", "second", "I", false)
  | 27 => ("EclipseWheelModel", "third", "I", false)
  | 28 => ("EclipseWheelModel", "trayKind", "[I", true)
  | 29 => ("EclipseWheelModel", "traySize", "[I", true)
  | 30 => ("EclipseWheelModel", "laid", "[I", true)
  | 31 => ("EclipseWheelModel", "size", "[I", true)
  | _ => ("EclipseWheelModel", "item", "[J", true)
def tyX8 : Nat → FieldType := fun k => match k with
  | 0 => .array .int
  | 1 => .array .int
  | 2 => .array .int
  | 3 => .array .int
  | 4 => .array .int
  | 5 => .int
  | 6 => .array .int
  | 7 => .int
  | 8 => .int
  | 9 => .array .int
  | 10 => .array .int
  | 11 => .boolean
  | 12 => .array .int
  | 13 => .array .int
  | 14 => .int
  | 15 => .array .int
  | 16 => .array .int
  | 17 => .array .int
  | 18 => .int
  | 19 => .array .int
  | 20 => .array .int
  | 21 => .int
  | 22 => .int
  | 23 => .int
  | 24 => .int
  | 25 => .int
  | 26 => .int
  | 27 => .int
  | 28 => .array .int
  | 29 => .array .int
  | 30 => .array .int
  | 31 => .array .int
  | _ => .array .long
theorem nmX8 : ∀ a, a < 33 → ∀ b, b < 33 → a ≠ b → (TX8 a).2.1 ≠ (TX8 b).2.1 := by decide +kernel
theorem tyX8_ok : ∀ k, k < 33 → parseFieldDescriptor (TX8 k).2.2.1 = some (tyX8 k) := by decide +kernel
abbrev ew_cl : List vw_C := [(RX0, TX0, 2), (RX1, TX1, 0), (RX2, TX2, 5), (RX3, TX3, 2), (RX4, TX4, 8), (RX5, TX5, 3), (RX6, TX6, 5), (RX7, TX7, 12), (RX8, TX8, 33)]
def ew_ty (t : Nat) : Nat → FieldType := match t with
  | 0 => tyX0
  | 1 => tyX1
  | 2 => tyX2
  | 3 => tyX3
  | 4 => tyX4
  | 5 => tyX5
  | 6 => tyX6
  | 7 => tyX7
  | 8 => tyX8
  | _ => tyX0
def ew_kd (t : FieldType) : Nat := match t with
  | .int => 0
  | .boolean => 0
  | .long => 1
  | _ => 2
def ew_fk (t i : Nat) : Nat := ew_kd (ew_ty t i)
def ew_R (t : Nat) : String := (ew_cl.getD t ("", TX0, 0)).1
def ew_T (t : Nat) : u_T := (ew_cl.getD t ("", TX0, 0)).2.1
noncomputable def ew_ys : List MethodName := [⟨"java/lang/Math", "floorDiv", "(JJ)J"⟩,
  ⟨"java/lang/Math", "floorMod", "(JJ)J"⟩,
  ⟨"java/lang/Math", "min", "(JJ)J"⟩,
  ⟨"java/lang/Math", "min", "(II)I"⟩,
  ⟨"java/lang/Math", "max", "(II)I"⟩,
  ⟨"java/lang/Math", "abs", "(I)I"⟩,
  ⟨"java/lang/Double", "doubleToLongBits", "(D)J"⟩,
  ⟨"java/lang/Double", "isNaN", "(D)Z"⟩,
  ⟨"java/lang/Float", "floatToIntBits", "(F)I"⟩,
  ⟨"java/lang/Float", "isNaN", "(F)Z"⟩,
  ⟨"EclipseWheel$Items", "<init>", "()V"⟩,
  ⟨"EclipseWheel$Items", "clear", "(I)V"⟩,
  ⟨"EclipseWheel$Items", "isMissing", "()Z"⟩,
  ⟨"EclipseWheel$Items", "hasItem", "(I)Z"⟩,
  ⟨"EclipseWheel$Items", "setItem", "(IJ)V"⟩,
  ⟨"EclipseWheel$Items", "itemAt", "(I)J"⟩,
  ⟨"EclipseWheel$Numbers", "cutDown", "(JJ)J"⟩,
  ⟨"EclipseWheel$Numbers", "leftOver", "(JJ)J"⟩,
  ⟨"EclipseWheel$Numbers", "bitsOfDouble", "(D)J"⟩,
  ⟨"EclipseWheel$Numbers", "bitsOfFloat", "(F)I"⟩,
  ⟨"EclipseWheel$Numbers", "commonDivisor", "(JJ)J"⟩,
  ⟨"EclipseWheel$Numbers", "leastCommon", "(JJ)J"⟩,
  ⟨"EclipseWheel$Sheet", "<init>", "()V"⟩,
  ⟨"EclipseWheel$Sheet", "add", "(I)V"⟩,
  ⟨"EclipseWheel$Sheet", "addNumber", "(I)V"⟩,
  ⟨"EclipseWheel$Sheet", "byteAt", "(I)I"⟩,
  ⟨"EclipseWheel$Tray", "<init>", "()V"⟩,
  ⟨"EclipseWheel$Tray", "empty", "(II)V"⟩,
  ⟨"EclipseWheel$Tray", "isMissing", "()Z"⟩,
  ⟨"EclipseWheel$Tray", "hasPlace", "(I)Z"⟩,
  ⟨"EclipseWheel$Tray", "setThing", "(ILEclipseWheel$Wheel;)V"⟩,
  ⟨"EclipseWheel$Tray", "thingAt", "(I)LEclipseWheel$Wheel;"⟩,
  ⟨"EclipseWheel$Tray", "become", "(LEclipseWheel$Tray;)V"⟩,
  ⟨"EclipseWheel$Wheel", "canBe", "(IIII)Z"⟩,
  ⟨"EclipseWheel$Wheel", "isKind", "(I)Z"⟩,
  ⟨"EclipseWheel$Wheel", "madeDigits", "(III)I"⟩,
  ⟨"EclipseWheel$Wheel", "isUnder", "(II)Z"⟩,
  ⟨"EclipseWheel$Wheel", "kindAbove", "(I)I"⟩,
  ⟨"EclipseWheel$Wheel", "<init>", "(IIIII)V"⟩,
  ⟨"EclipseWheel$Wheel", "told", "(I)I"⟩,
  ⟨"EclipseWheel$Wheel", "wayBy", "(J)J"⟩,
  ⟨"EclipseWheel$Wheel", "near", "(II)I"⟩,
  ⟨"EclipseWheel$Wheel", "termNumbered", "(I)I"⟩,
  ⟨"EclipseWheel$Wheel", "convergentNumbered", "(II)J"⟩,
  ⟨"EclipseWheel$Wheel", "nearestBelowLine", "(I)I"⟩,
  ⟨"EclipseWheel$Wheel", "ownPeriod", "()J"⟩,
  ⟨"EclipseWheel$Wheel", "hasPlace", "(I)Z"⟩,
  ⟨"EclipseWheel$Wheel", "copied", "()LEclipseWheel$Wheel;"⟩,
  ⟨"EclipseWheel$Tape", "<init>", "()V"⟩,
  ⟨"EclipseWheel$Tape", "add", "(I)Z"⟩,
  ⟨"EclipseWheel$Tape", "formFault", "()I"⟩,
  ⟨"EclipseWheel$Tape", "parseStatement", "(I)V"⟩,
  ⟨"EclipseWheel$Tape", "byteHere", "()I"⟩,
  ⟨"EclipseWheel$Tape", "kindOf", "(I)I"⟩,
  ⟨"EclipseWheel$Tape", "parseNumber", "()I"⟩,
  ⟨"EclipseWheel$Tape", "isDigit", "(I)Z"⟩,
  ⟨"EclipseWheel$Tape", "setNumber", "(III)V"⟩,
  ⟨"EclipseWheel$Tape", "parseWheel", "(I)V"⟩,
  ⟨"EclipseWheel$Tape", "accept", "(I)Z"⟩,
  ⟨"EclipseWheel$Tape", "doingFault", "(I)I"⟩,
  ⟨"EclipseWheel$Tape", "canBeDone", "(II)Z"⟩,
  ⟨"EclipseWheel$Tape", "numberOf", "(II)I"⟩,
  ⟨"EclipseWheel$Tape", "letterOf", "(I)I"⟩,
  ⟨"EclipseWheel$Setup", "<init>", "()V"⟩,
  ⟨"EclipseWheel$Setup", "addWheel", "(IIII)I"⟩,
  ⟨"EclipseWheel$Setup", "numbered", "(I)LEclipseWheel$Wheel;"⟩,
  ⟨"EclipseWheel$Setup", "placeAt", "(II)I"⟩,
  ⟨"EclipseWheel$Setup", "wayAt", "(II)J"⟩,
  ⟨"EclipseWheel$Setup", "dropLast", "()I"⟩,
  ⟨"EclipseWheel$Setup", "has", "(I)Z"⟩,
  ⟨"EclipseWheel$Setup", "roundsAt", "(II)J"⟩,
  ⟨"EclipseWheel$Setup", "isRule", "(I)Z"⟩,
  ⟨"EclipseWheel$Setup", "isWithinRule", "(II)Z"⟩,
  ⟨"EclipseWheel$Setup", "ruled", "(I)I"⟩,
  ⟨"EclipseWheel$Setup", "setRule", "(II)V"⟩,
  ⟨"EclipseWheel$Setup", "eclipseAt", "(I)I"⟩,
  ⟨"EclipseWheel$Setup", "farAt", "(I)I"⟩,
  ⟨"EclipseWheel$Setup", "sideAt", "(I)I"⟩,
  ⟨"EclipseWheel$Setup", "relatives", "(II)I"⟩,
  ⟨"EclipseWheel$Setup", "driftOf", "(II)I"⟩,
  ⟨"EclipseWheel$Setup", "dayOf", "(I)J"⟩,
  ⟨"EclipseWheel$Setup", "restOf", "(I)J"⟩,
  ⟨"EclipseWheel$Setup", "yearOf", "(J)J"⟩,
  ⟨"EclipseWheel$Setup", "firstDayOf", "(J)J"⟩,
  ⟨"EclipseWheel$Setup", "monthFrom", "(I)J"⟩,
  ⟨"EclipseWheel$Setup", "sizeAt", "(I)F"⟩,
  ⟨"EclipseWheel$Setup", "firstMeeting", "(IIII)I"⟩,
  ⟨"EclipseWheel$Setup", "become", "(LEclipseWheel$Setup;)V"⟩,
  ⟨"EclipseWheel", "<init>", "()V"⟩,
  ⟨"EclipseWheel", "wheel", "(IIII)I"⟩,
  ⟨"EclipseWheel", "of", "(II)I"⟩,
  ⟨"EclipseWheel", "turn", "(III)I"⟩,
  ⟨"EclipseWheel", "drop", "()I"⟩,
  ⟨"EclipseWheel", "at", "(II)I"⟩,
  ⟨"EclipseWheel", "isMonth", "(I)Z"⟩,
  ⟨"EclipseWheel", "rounds", "(II)J"⟩,
  ⟨"EclipseWheel", "bind", "(II)I"⟩,
  ⟨"EclipseWheel", "rule", "(II)I"⟩,
  ⟨"EclipseWheel", "eclipse", "(II)I"⟩,
  ⟨"EclipseWheel", "eclipses", "(III)I"⟩,
  ⟨"EclipseWheel", "isStretch", "(III)Z"⟩,
  ⟨"EclipseWheel", "next", "(II)I"⟩,
  ⟨"EclipseWheel", "family", "(III)I"⟩,
  ⟨"EclipseWheel", "isCycle", "(I)Z"⟩,
  ⟨"EclipseWheel", "roll", "(IIII)I"⟩,
  ⟨"EclipseWheel", "rollOnto", "(III)I"⟩,
  ⟨"EclipseWheel", "rolledSize", "(I)I"⟩,
  ⟨"EclipseWheel", "drift", "(II)I"⟩,
  ⟨"EclipseWheel", "records", "(II)I"⟩,
  ⟨"EclipseWheel", "findRecords", "(II)I"⟩,
  ⟨"EclipseWheel", "record", "(II)I"⟩,
  ⟨"EclipseWheel", "terms", "(I)I"⟩,
  ⟨"EclipseWheel", "term", "(II)I"⟩,
  ⟨"EclipseWheel", "convergent", "(III)J"⟩,
  ⟨"EclipseWheel", "nearest", "(II)I"⟩,
  ⟨"EclipseWheel", "date", "(II)J"⟩,
  ⟨"EclipseWheel", "month", "(I)I"⟩,
  ⟨"EclipseWheel", "angle", "(II)J"⟩,
  ⟨"EclipseWheel", "size", "(II)I"⟩,
  ⟨"EclipseWheel", "most", "(IIIII)I"⟩,
  ⟨"EclipseWheel", "period", "(I)J"⟩,
  ⟨"EclipseWheel", "allRound", "(I)J"⟩,
  ⟨"EclipseWheel", "meeting", "(IIII)I"⟩,
  ⟨"EclipseWheel", "spell", "(I)I"⟩,
  ⟨"EclipseWheel", "find", "(II)I"⟩,
  ⟨"EclipseWheel", "writePaper", "(I)V"⟩,
  ⟨"EclipseWheel", "letterOf", "(I)I"⟩,
  ⟨"EclipseWheel", "paper", "(II)I"⟩,
  ⟨"EclipseWheel", "gap", "(III)I"⟩,
  ⟨"EclipseWheel", "gapNumbered", "(I)I"⟩,
  ⟨"EclipseWheel", "countGaps", "(II)I"⟩,
  ⟨"EclipseWheel", "feed", "(I)I"⟩,
  ⟨"EclipseWheel", "read", "()I"⟩,
  ⟨"EclipseWheel", "doStatement", "(I)V"⟩,
  ⟨"EclipseWheel", "tray", "(III)I"⟩,
  ⟨"EclipseWheel", "trayNumbered", "(I)LEclipseWheel$Tray;"⟩,
  ⟨"EclipseWheel", "lay", "(III)I"⟩,
  ⟨"EclipseWheel", "laid", "(III)I"⟩,
  ⟨"EclipseWheel", "like", "(II)I"⟩,
  ⟨"EclipseWheel", "list", "(II)I"⟩,
  ⟨"EclipseWheel", "listNumbered", "(I)LEclipseWheel$Items;"⟩,
  ⟨"EclipseWheel", "put", "(IIJ)I"⟩,
  ⟨"EclipseWheel", "get", "(II)J"⟩,
  ⟨"EclipseWheel", "fill", "(II)I"⟩,
  ⟨"EclipseWheel", "judge", "(II)I"⟩,
  ⟨"EclipseWheel", "count", "(I)I"⟩,
  ⟨"EclipseWheel", "image", "()I"⟩,
  ⟨"EclipseWheel", "undo", "()I"⟩,
  ⟨"EclipseWheelModel", "<init>", "()V"⟩,
  ⟨"EclipseWheelModel", "wheel", "(IIII)I"⟩,
  ⟨"EclipseWheelModel", "in", "(JJJ)Z"⟩,
  ⟨"EclipseWheelModel", "areBounds", "(III)Z"⟩,
  ⟨"EclipseWheelModel", "madeOf", "(IIZ)I"⟩,
  ⟨"EclipseWheelModel", "comes", "(IIIII)V"⟩,
  ⟨"EclipseWheelModel", "free", "()I"⟩,
  ⟨"EclipseWheelModel", "of", "(II)I"⟩,
  ⟨"EclipseWheelModel", "isWheel", "(I)Z"⟩,
  ⟨"EclipseWheelModel", "turn", "(III)I"⟩,
  ⟨"EclipseWheelModel", "place", "(II)I"⟩,
  ⟨"EclipseWheelModel", "way", "(II)J"⟩,
  ⟨"EclipseWheelModel", "plainWay", "(IJ)J"⟩,
  ⟨"EclipseWheelModel", "floor", "(JJ)J"⟩,
  ⟨"EclipseWheelModel", "drop", "()I"⟩,
  ⟨"EclipseWheelModel", "at", "(II)I"⟩,
  ⟨"EclipseWheelModel", "isMonth", "(I)Z"⟩,
  ⟨"EclipseWheelModel", "rounds", "(II)J"⟩,
  ⟨"EclipseWheelModel", "roundsOf", "(II)J"⟩,
  ⟨"EclipseWheelModel", "bind", "(II)I"⟩,
  ⟨"EclipseWheelModel", "rule", "(II)I"⟩,
  ⟨"EclipseWheelModel", "isRule", "(II)Z"⟩,
  ⟨"EclipseWheelModel", "eclipse", "(II)I"⟩,
  ⟨"EclipseWheelModel", "eclipseAt", "(I)I"⟩,
  ⟨"EclipseWheelModel", "far", "(I)I"⟩,
  ⟨"EclipseWheelModel", "farFrom", "(II)I"⟩,
  ⟨"EclipseWheelModel", "nodeParts", "()I"⟩,
  ⟨"EclipseWheelModel", "near", "(III)I"⟩,
  ⟨"EclipseWheelModel", "sideOf", "(I)I"⟩,
  ⟨"EclipseWheelModel", "eclipses", "(III)I"⟩,
  ⟨"EclipseWheelModel", "isSpan", "(III)Z"⟩,
  ⟨"EclipseWheelModel", "next", "(II)I"⟩,
  ⟨"EclipseWheelModel", "family", "(III)I"⟩,
  ⟨"EclipseWheelModel", "isCycle", "(I)Z"⟩,
  ⟨"EclipseWheelModel", "lastOf", "(II)I"⟩,
  ⟨"EclipseWheelModel", "roll", "(IIII)I"⟩,
  ⟨"EclipseWheelModel", "drift", "(II)I"⟩,
  ⟨"EclipseWheelModel", "driftOf", "(II)I"⟩,
  ⟨"EclipseWheelModel", "records", "(II)I"⟩,
  ⟨"EclipseWheelModel", "recordsTo", "(III)I"⟩,
  ⟨"EclipseWheelModel", "record", "(II)I"⟩,
  ⟨"EclipseWheelModel", "terms", "(I)I"⟩,
  ⟨"EclipseWheelModel", "termsOf", "(I)I"⟩,
  ⟨"EclipseWheelModel", "term", "(II)I"⟩,
  ⟨"EclipseWheelModel", "convergent", "(III)J"⟩,
  ⟨"EclipseWheelModel", "nearest", "(II)I"⟩,
  ⟨"EclipseWheelModel", "date", "(II)J"⟩,
  ⟨"EclipseWheelModel", "dayOf", "(I)J"⟩,
  ⟨"EclipseWheelModel", "month", "(I)I"⟩,
  ⟨"EclipseWheelModel", "angle", "(II)J"⟩,
  ⟨"EclipseWheelModel", "size", "(II)I"⟩,
  ⟨"EclipseWheelModel", "sizeOf", "(I)F"⟩,
  ⟨"EclipseWheelModel", "most", "(IIIII)I"⟩,
  ⟨"EclipseWheelModel", "period", "(I)J"⟩,
  ⟨"EclipseWheelModel", "isGeared", "(I)Z"⟩,
  ⟨"EclipseWheelModel", "periodOf", "(I)J"⟩,
  ⟨"EclipseWheelModel", "divisor", "(JJ)J"⟩,
  ⟨"EclipseWheelModel", "allRound", "(I)J"⟩,
  ⟨"EclipseWheelModel", "meeting", "(IIII)I"⟩,
  ⟨"EclipseWheelModel", "spell", "(I)I"⟩,
  ⟨"EclipseWheelModel", "prints", "(I)V"⟩,
  ⟨"EclipseWheelModel", "print", "(I)V"⟩,
  ⟨"EclipseWheelModel", "printNumber", "(I)V"⟩,
  ⟨"EclipseWheelModel", "paper", "(II)I"⟩,
  ⟨"EclipseWheelModel", "gap", "(III)I"⟩,
  ⟨"EclipseWheelModel", "gapsFrom", "(II)I"⟩,
  ⟨"EclipseWheelModel", "timesOf", "(II)I"⟩,
  ⟨"EclipseWheelModel", "feed", "(I)I"⟩,
  ⟨"EclipseWheelModel", "read", "()I"⟩,
  ⟨"EclipseWheelModel", "readsAll", "()I"⟩,
  ⟨"EclipseWheelModel", "statement", "()Z"⟩,
  ⟨"EclipseWheelModel", "here", "()I"⟩,
  ⟨"EclipseWheelModel", "kindOf", "(I)I"⟩,
  ⟨"EclipseWheelModel", "number", "()I"⟩,
  ⟨"EclipseWheelModel", "takes", "(I)Z"⟩,
  ⟨"EclipseWheelModel", "isDone", "()Z"⟩,
  ⟨"EclipseWheelModel", "tray", "(III)I"⟩,
  ⟨"EclipseWheelModel", "isTray", "(I)Z"⟩,
  ⟨"EclipseWheelModel", "lay", "(III)I"⟩,
  ⟨"EclipseWheelModel", "isUnder", "(II)Z"⟩,
  ⟨"EclipseWheelModel", "laid", "(III)I"⟩,
  ⟨"EclipseWheelModel", "like", "(II)I"⟩,
  ⟨"EclipseWheelModel", "list", "(II)I"⟩,
  ⟨"EclipseWheelModel", "isList", "(I)Z"⟩,
  ⟨"EclipseWheelModel", "put", "(IIJ)I"⟩,
  ⟨"EclipseWheelModel", "get", "(II)J"⟩,
  ⟨"EclipseWheelModel", "fill", "(II)I"⟩,
  ⟨"EclipseWheelModel", "judge", "(II)I"⟩,
  ⟨"EclipseWheelModel", "count", "(I)I"⟩,
  ⟨"EclipseWheelModel", "image", "()I"⟩,
  ⟨"EclipseWheelModel", "undo", "()I"⟩,
  ⟨"EclipseWheelLaw", "law", "([I)Z"⟩]
noncomputable def ew_y (k : Nat) : MethodName := ew_ys.getD k ⟨"", "", ""⟩
noncomputable def ew_bys : List ByteArray := [prog_13_method_49_code, prog_13_method_52_code, prog_13_method_70_code, prog_13_method_69_code, prog_13_method_65_code, prog_13_method_59_code, prog_11_method_23_code, prog_11_method_6_code, prog_12_method_24_code, prog_12_method_6_code, prog_2_method_1_code, prog_2_method_6_code, prog_2_method_2_code, prog_2_method_3_code, prog_2_method_5_code, prog_2_method_4_code, prog_3_method_2_code, prog_3_method_3_code, prog_3_method_6_code, prog_3_method_7_code, prog_3_method_4_code, prog_3_method_5_code, prog_5_method_1_code, prog_5_method_2_code, prog_5_method_3_code, prog_5_method_4_code, prog_7_method_1_code, prog_7_method_6_code, prog_7_method_2_code, prog_7_method_3_code, prog_7_method_5_code, prog_7_method_4_code, prog_7_method_7_code, prog_8_method_3_code, prog_8_method_2_code, prog_8_method_6_code, prog_8_method_5_code, prog_8_method_4_code, prog_8_method_1_code, prog_8_method_8_code, prog_8_method_10_code, prog_8_method_11_code, prog_8_method_12_code, prog_8_method_13_code, prog_8_method_14_code, prog_8_method_15_code, prog_8_method_9_code, prog_8_method_7_code, prog_6_method_1_code, prog_6_method_3_code, prog_6_method_7_code, prog_6_method_8_code, prog_6_method_12_code, prog_6_method_2_code, prog_6_method_10_code, prog_6_method_11_code, prog_6_method_6_code, prog_6_method_9_code, prog_6_method_13_code, prog_6_method_14_code, prog_6_method_15_code, prog_6_method_5_code, prog_6_method_4_code, prog_4_method_1_code, prog_4_method_9_code, prog_4_method_7_code, prog_4_method_13_code, prog_4_method_11_code, prog_4_method_10_code, prog_4_method_8_code, prog_4_method_12_code, prog_4_method_2_code, prog_4_method_3_code, prog_4_method_4_code, prog_4_method_5_code, prog_4_method_16_code, prog_4_method_14_code, prog_4_method_15_code, prog_4_method_17_code, prog_4_method_19_code, prog_4_method_20_code, prog_4_method_21_code, prog_4_method_23_code, prog_4_method_24_code, prog_4_method_22_code, prog_4_method_25_code, prog_4_method_18_code, prog_4_method_6_code, prog_1_method_1_code, prog_1_method_2_code, prog_1_method_3_code, prog_1_method_4_code, prog_1_method_5_code, prog_1_method_6_code, prog_1_method_47_code, prog_1_method_7_code, prog_1_method_8_code, prog_1_method_9_code, prog_1_method_10_code, prog_1_method_11_code, prog_1_method_49_code, prog_1_method_12_code, prog_1_method_13_code, prog_1_method_48_code, prog_1_method_14_code, prog_1_method_52_code, prog_1_method_53_code, prog_1_method_15_code, prog_1_method_16_code, prog_1_method_55_code, prog_1_method_17_code, prog_1_method_18_code, prog_1_method_19_code, prog_1_method_20_code, prog_1_method_21_code, prog_1_method_22_code, prog_1_method_23_code, prog_1_method_24_code, prog_1_method_25_code, prog_1_method_26_code, prog_1_method_27_code, prog_1_method_28_code, prog_1_method_29_code, prog_1_method_30_code, prog_1_method_54_code, prog_1_method_58_code, prog_1_method_59_code, prog_1_method_31_code, prog_1_method_32_code, prog_1_method_56_code, prog_1_method_57_code, prog_1_method_33_code, prog_1_method_34_code, prog_1_method_60_code, prog_1_method_35_code, prog_1_method_50_code, prog_1_method_36_code, prog_1_method_37_code, prog_1_method_38_code, prog_1_method_39_code, prog_1_method_51_code, prog_1_method_40_code, prog_1_method_41_code, prog_1_method_42_code, prog_1_method_43_code, prog_1_method_44_code, prog_1_method_45_code, prog_1_method_46_code, prog_10_method_1_code, prog_10_method_11_code, prog_10_method_2_code, prog_10_method_7_code, prog_10_method_9_code, prog_10_method_10_code, prog_10_method_8_code, prog_10_method_12_code, prog_10_method_3_code, prog_10_method_17_code, prog_10_method_16_code, prog_10_method_14_code, prog_10_method_13_code, prog_10_method_5_code, prog_10_method_18_code, prog_10_method_19_code, prog_10_method_4_code, prog_10_method_20_code, prog_10_method_15_code, prog_10_method_21_code, prog_10_method_23_code, prog_10_method_22_code, prog_10_method_30_code, prog_10_method_29_code, prog_10_method_28_code, prog_10_method_26_code, prog_10_method_25_code, prog_10_method_24_code, prog_10_method_27_code, prog_10_method_32_code, prog_10_method_31_code, prog_10_method_33_code, prog_10_method_36_code, prog_10_method_35_code, prog_10_method_34_code, prog_10_method_37_code, prog_10_method_39_code, prog_10_method_38_code, prog_10_method_41_code, prog_10_method_40_code, prog_10_method_42_code, prog_10_method_44_code, prog_10_method_43_code, prog_10_method_45_code, prog_10_method_46_code, prog_10_method_47_code, prog_10_method_49_code, prog_10_method_48_code, prog_10_method_50_code, prog_10_method_51_code, prog_10_method_53_code, prog_10_method_52_code, prog_10_method_54_code, prog_10_method_57_code, prog_10_method_56_code, prog_10_method_55_code, prog_10_method_6_code, prog_10_method_58_code, prog_10_method_59_code, prog_10_method_63_code, prog_10_method_62_code, prog_10_method_60_code, prog_10_method_61_code, prog_10_method_64_code, prog_10_method_67_code, prog_10_method_65_code, prog_10_method_66_code, prog_10_method_68_code, prog_10_method_76_code, prog_10_method_75_code, prog_10_method_73_code, prog_10_method_69_code, prog_10_method_72_code, prog_10_method_71_code, prog_10_method_70_code, prog_10_method_74_code, prog_10_method_79_code, prog_10_method_77_code, prog_10_method_80_code, prog_10_method_78_code, prog_10_method_81_code, prog_10_method_82_code, prog_10_method_84_code, prog_10_method_83_code, prog_10_method_85_code, prog_10_method_86_code, prog_10_method_87_code, prog_10_method_88_code, prog_10_method_89_code, prog_10_method_90_code, prog_10_method_91_code, code]
noncomputable def ew_by (k : Nat) : ByteArray := ew_bys.getD k ⟨#[]⟩
noncomputable def ew_rts : List (Option FieldType) := [(Option.some Jvm.ClassFile.FieldType.long), (Option.some Jvm.ClassFile.FieldType.long), (Option.some Jvm.ClassFile.FieldType.long), (Option.some Jvm.ClassFile.FieldType.int), (Option.some Jvm.ClassFile.FieldType.int), (Option.some Jvm.ClassFile.FieldType.int), (Option.some Jvm.ClassFile.FieldType.long), (Option.some Jvm.ClassFile.FieldType.boolean), (Option.some Jvm.ClassFile.FieldType.int), (Option.some Jvm.ClassFile.FieldType.boolean), (Option.none : Option Jvm.ClassFile.FieldType), (Option.none : Option Jvm.ClassFile.FieldType), (Option.some Jvm.ClassFile.FieldType.boolean), (Option.some Jvm.ClassFile.FieldType.boolean), (Option.none : Option Jvm.ClassFile.FieldType), (Option.some Jvm.ClassFile.FieldType.long), (Option.some Jvm.ClassFile.FieldType.long), (Option.some Jvm.ClassFile.FieldType.long), (Option.some Jvm.ClassFile.FieldType.long), (Option.some Jvm.ClassFile.FieldType.int), (Option.some Jvm.ClassFile.FieldType.long), (Option.some Jvm.ClassFile.FieldType.long), (Option.none : Option Jvm.ClassFile.FieldType), (Option.none : Option Jvm.ClassFile.FieldType), (Option.none : Option Jvm.ClassFile.FieldType), (Option.some Jvm.ClassFile.FieldType.int), (Option.none : Option Jvm.ClassFile.FieldType), (Option.none : Option Jvm.ClassFile.FieldType), (Option.some Jvm.ClassFile.FieldType.boolean), (Option.some Jvm.ClassFile.FieldType.boolean), (Option.none : Option Jvm.ClassFile.FieldType), (Option.some (Jvm.ClassFile.FieldType.object "EclipseWheel$Wheel")), (Option.none : Option Jvm.ClassFile.FieldType), (Option.some Jvm.ClassFile.FieldType.boolean), (Option.some Jvm.ClassFile.FieldType.boolean), (Option.some Jvm.ClassFile.FieldType.int), (Option.some Jvm.ClassFile.FieldType.boolean), (Option.some Jvm.ClassFile.FieldType.int), (Option.none : Option Jvm.ClassFile.FieldType), (Option.some Jvm.ClassFile.FieldType.int), (Option.some Jvm.ClassFile.FieldType.long), (Option.some Jvm.ClassFile.FieldType.int), (Option.some Jvm.ClassFile.FieldType.int), (Option.some Jvm.ClassFile.FieldType.long), (Option.some Jvm.ClassFile.FieldType.int), (Option.some Jvm.ClassFile.FieldType.long), (Option.some Jvm.ClassFile.FieldType.boolean), (Option.some (Jvm.ClassFile.FieldType.object "EclipseWheel$Wheel")), (Option.none : Option Jvm.ClassFile.FieldType), (Option.some Jvm.ClassFile.FieldType.boolean), (Option.some Jvm.ClassFile.FieldType.int), (Option.none : Option Jvm.ClassFile.FieldType), (Option.some Jvm.ClassFile.FieldType.int), (Option.some Jvm.ClassFile.FieldType.int), (Option.some Jvm.ClassFile.FieldType.int), (Option.some Jvm.ClassFile.FieldType.boolean), (Option.none : Option Jvm.ClassFile.FieldType), (Option.none : Option Jvm.ClassFile.FieldType), (Option.some Jvm.ClassFile.FieldType.boolean), (Option.some Jvm.ClassFile.FieldType.int), (Option.some Jvm.ClassFile.FieldType.boolean), (Option.some Jvm.ClassFile.FieldType.int), (Option.some Jvm.ClassFile.FieldType.int), (Option.none : Option Jvm.ClassFile.FieldType), (Option.some Jvm.ClassFile.FieldType.int), (Option.some (Jvm.ClassFile.FieldType.object "EclipseWheel$Wheel")), (Option.some Jvm.ClassFile.FieldType.int), (Option.some Jvm.ClassFile.FieldType.long), (Option.some Jvm.ClassFile.FieldType.int), (Option.some Jvm.ClassFile.FieldType.boolean), (Option.some Jvm.ClassFile.FieldType.long), (Option.some Jvm.ClassFile.FieldType.boolean), (Option.some Jvm.ClassFile.FieldType.boolean), (Option.some Jvm.ClassFile.FieldType.int), (Option.none : Option Jvm.ClassFile.FieldType), (Option.some Jvm.ClassFile.FieldType.int), (Option.some Jvm.ClassFile.FieldType.int), (Option.some Jvm.ClassFile.FieldType.int), (Option.some Jvm.ClassFile.FieldType.int), (Option.some Jvm.ClassFile.FieldType.int), (Option.some Jvm.ClassFile.FieldType.long), (Option.some Jvm.ClassFile.FieldType.long), (Option.some Jvm.ClassFile.FieldType.long), (Option.some Jvm.ClassFile.FieldType.long), (Option.some Jvm.ClassFile.FieldType.long), (Option.some Jvm.ClassFile.FieldType.float), (Option.some Jvm.ClassFile.FieldType.int), (Option.none : Option Jvm.ClassFile.FieldType), (Option.none : Option Jvm.ClassFile.FieldType), (Option.some Jvm.ClassFile.FieldType.int), (Option.some Jvm.ClassFile.FieldType.int), (Option.some Jvm.ClassFile.FieldType.int), (Option.some Jvm.ClassFile.FieldType.int), (Option.some Jvm.ClassFile.FieldType.int), (Option.some Jvm.ClassFile.FieldType.boolean), (Option.some Jvm.ClassFile.FieldType.long), (Option.some Jvm.ClassFile.FieldType.int), (Option.some Jvm.ClassFile.FieldType.int), (Option.some Jvm.ClassFile.FieldType.int), (Option.some Jvm.ClassFile.FieldType.int), (Option.some Jvm.ClassFile.FieldType.boolean), (Option.some Jvm.ClassFile.FieldType.int), (Option.some Jvm.ClassFile.FieldType.int), (Option.some Jvm.ClassFile.FieldType.boolean), (Option.some Jvm.ClassFile.FieldType.int), (Option.some Jvm.ClassFile.FieldType.int), (Option.some Jvm.ClassFile.FieldType.int), (Option.some Jvm.ClassFile.FieldType.int), (Option.some Jvm.ClassFile.FieldType.int), (Option.some Jvm.ClassFile.FieldType.int), (Option.some Jvm.ClassFile.FieldType.int), (Option.some Jvm.ClassFile.FieldType.int), (Option.some Jvm.ClassFile.FieldType.int), (Option.some Jvm.ClassFile.FieldType.long), (Option.some Jvm.ClassFile.FieldType.int), (Option.some Jvm.ClassFile.FieldType.long), (Option.some Jvm.ClassFile.FieldType.int), (Option.some Jvm.ClassFile.FieldType.long), (Option.some Jvm.ClassFile.FieldType.int), (Option.some Jvm.ClassFile.FieldType.int), (Option.some Jvm.ClassFile.FieldType.long), (Option.some Jvm.ClassFile.FieldType.long), (Option.some Jvm.ClassFile.FieldType.int), (Option.some Jvm.ClassFile.FieldType.int), (Option.some Jvm.ClassFile.FieldType.int), (Option.none : Option Jvm.ClassFile.FieldType), (Option.some Jvm.ClassFile.FieldType.int), (Option.some Jvm.ClassFile.FieldType.int), (Option.some Jvm.ClassFile.FieldType.int), (Option.some Jvm.ClassFile.FieldType.int), (Option.some Jvm.ClassFile.FieldType.int), (Option.some Jvm.ClassFile.FieldType.int), (Option.some Jvm.ClassFile.FieldType.int), (Option.none : Option Jvm.ClassFile.FieldType), (Option.some Jvm.ClassFile.FieldType.int), (Option.some (Jvm.ClassFile.FieldType.object "EclipseWheel$Tray")), (Option.some Jvm.ClassFile.FieldType.int), (Option.some Jvm.ClassFile.FieldType.int), (Option.some Jvm.ClassFile.FieldType.int), (Option.some Jvm.ClassFile.FieldType.int), (Option.some (Jvm.ClassFile.FieldType.object "EclipseWheel$Items")), (Option.some Jvm.ClassFile.FieldType.int), (Option.some Jvm.ClassFile.FieldType.long), (Option.some Jvm.ClassFile.FieldType.int), (Option.some Jvm.ClassFile.FieldType.int), (Option.some Jvm.ClassFile.FieldType.int), (Option.some Jvm.ClassFile.FieldType.int), (Option.some Jvm.ClassFile.FieldType.int), (Option.none : Option Jvm.ClassFile.FieldType), (Option.some Jvm.ClassFile.FieldType.int), (Option.some Jvm.ClassFile.FieldType.boolean), (Option.some Jvm.ClassFile.FieldType.boolean), (Option.some Jvm.ClassFile.FieldType.int), (Option.none : Option Jvm.ClassFile.FieldType), (Option.some Jvm.ClassFile.FieldType.int), (Option.some Jvm.ClassFile.FieldType.int), (Option.some Jvm.ClassFile.FieldType.boolean), (Option.some Jvm.ClassFile.FieldType.int), (Option.some Jvm.ClassFile.FieldType.int), (Option.some Jvm.ClassFile.FieldType.long), (Option.some Jvm.ClassFile.FieldType.long), (Option.some Jvm.ClassFile.FieldType.long), (Option.some Jvm.ClassFile.FieldType.int), (Option.some Jvm.ClassFile.FieldType.int), (Option.some Jvm.ClassFile.FieldType.boolean), (Option.some Jvm.ClassFile.FieldType.long), (Option.some Jvm.ClassFile.FieldType.long), (Option.some Jvm.ClassFile.FieldType.int), (Option.some Jvm.ClassFile.FieldType.int), (Option.some Jvm.ClassFile.FieldType.boolean), (Option.some Jvm.ClassFile.FieldType.int), (Option.some Jvm.ClassFile.FieldType.int), (Option.some Jvm.ClassFile.FieldType.int), (Option.some Jvm.ClassFile.FieldType.int), (Option.some Jvm.ClassFile.FieldType.int), (Option.some Jvm.ClassFile.FieldType.int), (Option.some Jvm.ClassFile.FieldType.int), (Option.some Jvm.ClassFile.FieldType.int), (Option.some Jvm.ClassFile.FieldType.boolean), (Option.some Jvm.ClassFile.FieldType.int), (Option.some Jvm.ClassFile.FieldType.int), (Option.some Jvm.ClassFile.FieldType.boolean), (Option.some Jvm.ClassFile.FieldType.int), (Option.some Jvm.ClassFile.FieldType.int), (Option.some Jvm.ClassFile.FieldType.int), (Option.some Jvm.ClassFile.FieldType.int), (Option.some Jvm.ClassFile.FieldType.int), (Option.some Jvm.ClassFile.FieldType.int), (Option.some Jvm.ClassFile.FieldType.int), (Option.some Jvm.ClassFile.FieldType.int), (Option.some Jvm.ClassFile.FieldType.int), (Option.some Jvm.ClassFile.FieldType.int), (Option.some Jvm.ClassFile.FieldType.long), (Option.some Jvm.ClassFile.FieldType.int), (Option.some Jvm.ClassFile.FieldType.long), (Option.some Jvm.ClassFile.FieldType.long), (Option.some Jvm.ClassFile.FieldType.int), (Option.some Jvm.ClassFile.FieldType.long), (Option.some Jvm.ClassFile.FieldType.int), (Option.some Jvm.ClassFile.FieldType.float), (Option.some Jvm.ClassFile.FieldType.int), (Option.some Jvm.ClassFile.FieldType.long), (Option.some Jvm.ClassFile.FieldType.boolean), (Option.some Jvm.ClassFile.FieldType.long), (Option.some Jvm.ClassFile.FieldType.long), (Option.some Jvm.ClassFile.FieldType.long), (Option.some Jvm.ClassFile.FieldType.int), (Option.some Jvm.ClassFile.FieldType.int), (Option.none : Option Jvm.ClassFile.FieldType), (Option.none : Option Jvm.ClassFile.FieldType), (Option.none : Option Jvm.ClassFile.FieldType), (Option.some Jvm.ClassFile.FieldType.int), (Option.some Jvm.ClassFile.FieldType.int), (Option.some Jvm.ClassFile.FieldType.int), (Option.some Jvm.ClassFile.FieldType.int), (Option.some Jvm.ClassFile.FieldType.int), (Option.some Jvm.ClassFile.FieldType.int), (Option.some Jvm.ClassFile.FieldType.int), (Option.some Jvm.ClassFile.FieldType.boolean), (Option.some Jvm.ClassFile.FieldType.int), (Option.some Jvm.ClassFile.FieldType.int), (Option.some Jvm.ClassFile.FieldType.int), (Option.some Jvm.ClassFile.FieldType.boolean), (Option.some Jvm.ClassFile.FieldType.boolean), (Option.some Jvm.ClassFile.FieldType.int), (Option.some Jvm.ClassFile.FieldType.boolean), (Option.some Jvm.ClassFile.FieldType.int), (Option.some Jvm.ClassFile.FieldType.boolean), (Option.some Jvm.ClassFile.FieldType.int), (Option.some Jvm.ClassFile.FieldType.int), (Option.some Jvm.ClassFile.FieldType.int), (Option.some Jvm.ClassFile.FieldType.boolean), (Option.some Jvm.ClassFile.FieldType.int), (Option.some Jvm.ClassFile.FieldType.long), (Option.some Jvm.ClassFile.FieldType.int), (Option.some Jvm.ClassFile.FieldType.int), (Option.some Jvm.ClassFile.FieldType.int), (Option.some Jvm.ClassFile.FieldType.int), (Option.some Jvm.ClassFile.FieldType.int), some .boolean]
noncomputable def ew_rt (k : Nat) : Option FieldType := ew_rts.getD k none
noncomputable def ew_cw (k : Nat) : Cond := Cond.code (ew_y k) (ew_by k) (ew_maxL k) (ew_rt k)
/-- the words that hold wherever the tables have grown -/
noncomputable def ew_W : List Cond := lw_tbl.filter goodWord
theorem ew_W_of {w : Cond} {i : Nat} (h : lw_tbl[i]? = some w) (hg : goodWord w = true) : w ∈ ew_W := List.mem_filter.mpr ⟨List.mem_of_getElem? h, hg⟩
noncomputable def ew_wd (ps : List Nat) (j : Nat) (w : Cond) : Bool := decide (lw_tbl[ps.getD j 99999]? = some w) && goodWord w
theorem ew_wd_of {ps : List Nat} {j : Nat} {w : Cond} (h : ew_wd ps j w = true) : w ∈ ew_W := by
  simp only [ew_wd, Bool.and_eq_true, decide_eq_true_eq] at h
  exact ew_W_of h.1 h.2
set_option maxRecDepth 100000 in
theorem ew_cwp_0 : lw_tbl[297]? = some (ew_cw 0) := rfl
set_option maxRecDepth 100000 in
theorem ew_cwp_1 : lw_tbl[304]? = some (ew_cw 1) := rfl
set_option maxRecDepth 100000 in
theorem ew_cwp_2 : lw_tbl[382]? = some (ew_cw 2) := rfl
set_option maxRecDepth 100000 in
theorem ew_cwp_3 : lw_tbl[385]? = some (ew_cw 3) := rfl
set_option maxRecDepth 100000 in
theorem ew_cwp_4 : lw_tbl[430]? = some (ew_cw 4) := rfl
set_option maxRecDepth 100000 in
theorem ew_cwp_5 : lw_tbl[605]? = some (ew_cw 5) := rfl
set_option maxRecDepth 100000 in
theorem ew_cwp_6 : lw_tbl[1133]? = some (ew_cw 6) := rfl
set_option maxRecDepth 100000 in
theorem ew_cwp_7 : lw_tbl[1136]? = some (ew_cw 7) := rfl
set_option maxRecDepth 100000 in
theorem ew_cwp_8 : lw_tbl[1151]? = some (ew_cw 8) := rfl
set_option maxRecDepth 100000 in
theorem ew_cwp_9 : lw_tbl[1154]? = some (ew_cw 9) := rfl
set_option maxRecDepth 100000 in
theorem ew_cwp_10 : lw_tbl[115]? = some (ew_cw 10) := rfl
set_option maxRecDepth 100000 in
theorem ew_cwp_11 : lw_tbl[759]? = some (ew_cw 11) := rfl
set_option maxRecDepth 100000 in
theorem ew_cwp_12 : lw_tbl[767]? = some (ew_cw 12) := rfl
set_option maxRecDepth 100000 in
theorem ew_cwp_13 : lw_tbl[771]? = some (ew_cw 13) := rfl
set_option maxRecDepth 100000 in
theorem ew_cwp_14 : lw_tbl[775]? = some (ew_cw 14) := rfl
set_option maxRecDepth 100000 in
theorem ew_cwp_15 : lw_tbl[784]? = some (ew_cw 15) := rfl
set_option maxRecDepth 100000 in
theorem ew_cwp_16 : lw_tbl[294]? = some (ew_cw 16) := rfl
set_option maxRecDepth 100000 in
theorem ew_cwp_17 : lw_tbl[301]? = some (ew_cw 17) := rfl
set_option maxRecDepth 100000 in
theorem ew_cwp_18 : lw_tbl[521]? = some (ew_cw 18) := rfl
set_option maxRecDepth 100000 in
theorem ew_cwp_19 : lw_tbl[535]? = some (ew_cw 19) := rfl
set_option maxRecDepth 100000 in
theorem ew_cwp_20 : lw_tbl[553]? = some (ew_cw 20) := rfl
set_option maxRecDepth 100000 in
theorem ew_cwp_21 : lw_tbl[561]? = some (ew_cw 21) := rfl
set_option maxRecDepth 100000 in
theorem ew_cwp_22 : lw_tbl[163]? = some (ew_cw 22) := rfl
set_option maxRecDepth 100000 in
theorem ew_cwp_23 : lw_tbl[597]? = some (ew_cw 23) := rfl
set_option maxRecDepth 100000 in
theorem ew_cwp_24 : lw_tbl[601]? = some (ew_cw 24) := rfl
set_option maxRecDepth 100000 in
theorem ew_cwp_25 : lw_tbl[616]? = some (ew_cw 25) := rfl
set_option maxRecDepth 100000 in
theorem ew_cwp_26 : lw_tbl[95]? = some (ew_cw 26) := rfl
set_option maxRecDepth 100000 in
theorem ew_cwp_27 : lw_tbl[712]? = some (ew_cw 27) := rfl
set_option maxRecDepth 100000 in
theorem ew_cwp_28 : lw_tbl[721]? = some (ew_cw 28) := rfl
set_option maxRecDepth 100000 in
theorem ew_cwp_29 : lw_tbl[725]? = some (ew_cw 29) := rfl
set_option maxRecDepth 100000 in
theorem ew_cwp_30 : lw_tbl[730]? = some (ew_cw 30) := rfl
set_option maxRecDepth 100000 in
theorem ew_cwp_31 : lw_tbl[739]? = some (ew_cw 31) := rfl
set_option maxRecDepth 100000 in
theorem ew_cwp_32 : lw_tbl[747]? = some (ew_cw 32) := rfl
set_option maxRecDepth 100000 in
theorem ew_cwp_33 : lw_tbl[216]? = some (ew_cw 33) := rfl
set_option maxRecDepth 100000 in
theorem ew_cwp_34 : lw_tbl[219]? = some (ew_cw 34) := rfl
set_option maxRecDepth 100000 in
theorem ew_cwp_35 : lw_tbl[229]? = some (ew_cw 35) := rfl
set_option maxRecDepth 100000 in
theorem ew_cwp_36 : lw_tbl[232]? = some (ew_cw 36) := rfl
set_option maxRecDepth 100000 in
theorem ew_cwp_37 : lw_tbl[235]? = some (ew_cw 37) := rfl
set_option maxRecDepth 100000 in
theorem ew_cwp_38 : lw_tbl[238]? = some (ew_cw 38) := rfl
set_option maxRecDepth 100000 in
theorem ew_cwp_39 : lw_tbl[273]? = some (ew_cw 39) := rfl
set_option maxRecDepth 100000 in
theorem ew_cwp_40 : lw_tbl[290]? = some (ew_cw 40) := rfl
set_option maxRecDepth 100000 in
theorem ew_cwp_41 : lw_tbl[378]? = some (ew_cw 41) := rfl
set_option maxRecDepth 100000 in
theorem ew_cwp_42 : lw_tbl[458]? = some (ew_cw 42) := rfl
set_option maxRecDepth 100000 in
theorem ew_cwp_43 : lw_tbl[470]? = some (ew_cw 43) := rfl
set_option maxRecDepth 100000 in
theorem ew_cwp_44 : lw_tbl[479]? = some (ew_cw 44) := rfl
set_option maxRecDepth 100000 in
theorem ew_cwp_45 : lw_tbl[549]? = some (ew_cw 45) := rfl
set_option maxRecDepth 100000 in
theorem ew_cwp_46 : lw_tbl[573]? = some (ew_cw 46) := rfl
set_option maxRecDepth 100000 in
theorem ew_cwp_47 : lw_tbl[809]? = some (ew_cw 47) := rfl
set_option maxRecDepth 100000 in
theorem ew_cwp_48 : lw_tbl[130]? = some (ew_cw 48) := rfl
set_option maxRecDepth 100000 in
theorem ew_cwp_49 : lw_tbl[636]? = some (ew_cw 49) := rfl
set_option maxRecDepth 100000 in
theorem ew_cwp_50 : lw_tbl[644]? = some (ew_cw 50) := rfl
set_option maxRecDepth 100000 in
theorem ew_cwp_51 : lw_tbl[648]? = some (ew_cw 51) := rfl
set_option maxRecDepth 100000 in
theorem ew_cwp_52 : lw_tbl[652]? = some (ew_cw 52) := rfl
set_option maxRecDepth 100000 in
theorem ew_cwp_53 : lw_tbl[655]? = some (ew_cw 53) := rfl
set_option maxRecDepth 100000 in
theorem ew_cwp_54 : lw_tbl[659]? = some (ew_cw 54) := rfl
set_option maxRecDepth 100000 in
theorem ew_cwp_55 : lw_tbl[663]? = some (ew_cw 55) := rfl
set_option maxRecDepth 100000 in
theorem ew_cwp_56 : lw_tbl[667]? = some (ew_cw 56) := rfl
set_option maxRecDepth 100000 in
theorem ew_cwp_57 : lw_tbl[671]? = some (ew_cw 57) := rfl
set_option maxRecDepth 100000 in
theorem ew_cwp_58 : lw_tbl[675]? = some (ew_cw 58) := rfl
set_option maxRecDepth 100000 in
theorem ew_cwp_59 : lw_tbl[679]? = some (ew_cw 59) := rfl
set_option maxRecDepth 100000 in
theorem ew_cwp_60 : lw_tbl[683]? = some (ew_cw 60) := rfl
set_option maxRecDepth 100000 in
theorem ew_cwp_61 : lw_tbl[687]? = some (ew_cw 61) := rfl
set_option maxRecDepth 100000 in
theorem ew_cwp_62 : lw_tbl[691]? = some (ew_cw 62) := rfl
set_option maxRecDepth 100000 in
theorem ew_cwp_63 : lw_tbl[66]? = some (ew_cw 63) := rfl
set_option maxRecDepth 100000 in
theorem ew_cwp_64 : lw_tbl[225]? = some (ew_cw 64) := rfl
set_option maxRecDepth 100000 in
theorem ew_cwp_65 : lw_tbl[269]? = some (ew_cw 65) := rfl
set_option maxRecDepth 100000 in
theorem ew_cwp_66 : lw_tbl[281]? = some (ew_cw 66) := rfl
set_option maxRecDepth 100000 in
theorem ew_cwp_67 : lw_tbl[286]? = some (ew_cw 67) := rfl
set_option maxRecDepth 100000 in
theorem ew_cwp_68 : lw_tbl[312]? = some (ew_cw 68) := rfl
set_option maxRecDepth 100000 in
theorem ew_cwp_69 : lw_tbl[320]? = some (ew_cw 69) := rfl
set_option maxRecDepth 100000 in
theorem ew_cwp_70 : lw_tbl[333]? = some (ew_cw 70) := rfl
set_option maxRecDepth 100000 in
theorem ew_cwp_71 : lw_tbl[345]? = some (ew_cw 71) := rfl
set_option maxRecDepth 100000 in
theorem ew_cwp_72 : lw_tbl[348]? = some (ew_cw 72) := rfl
set_option maxRecDepth 100000 in
theorem ew_cwp_73 : lw_tbl[357]? = some (ew_cw 73) := rfl
set_option maxRecDepth 100000 in
theorem ew_cwp_74 : lw_tbl[361]? = some (ew_cw 74) := rfl
set_option maxRecDepth 100000 in
theorem ew_cwp_75 : lw_tbl[369]? = some (ew_cw 75) := rfl
set_option maxRecDepth 100000 in
theorem ew_cwp_76 : lw_tbl[373]? = some (ew_cw 76) := rfl
set_option maxRecDepth 100000 in
theorem ew_cwp_77 : lw_tbl[390]? = some (ew_cw 77) := rfl
set_option maxRecDepth 100000 in
theorem ew_cwp_78 : lw_tbl[412]? = some (ew_cw 78) := rfl
set_option maxRecDepth 100000 in
theorem ew_cwp_79 : lw_tbl[438]? = some (ew_cw 79) := rfl
set_option maxRecDepth 100000 in
theorem ew_cwp_80 : lw_tbl[488]? = some (ew_cw 80) := rfl
set_option maxRecDepth 100000 in
theorem ew_cwp_81 : lw_tbl[492]? = some (ew_cw 81) := rfl
set_option maxRecDepth 100000 in
theorem ew_cwp_82 : lw_tbl[497]? = some (ew_cw 82) := rfl
set_option maxRecDepth 100000 in
theorem ew_cwp_83 : lw_tbl[503]? = some (ew_cw 83) := rfl
set_option maxRecDepth 100000 in
theorem ew_cwp_84 : lw_tbl[512]? = some (ew_cw 84) := rfl
set_option maxRecDepth 100000 in
theorem ew_cwp_85 : lw_tbl[532]? = some (ew_cw 85) := rfl
set_option maxRecDepth 100000 in
theorem ew_cwp_86 : lw_tbl[577]? = some (ew_cw 86) := rfl
set_option maxRecDepth 100000 in
theorem ew_cwp_87 : lw_tbl[805]? = some (ew_cw 87) := rfl
set_option maxRecDepth 100000 in
theorem ew_cwp_88 : lw_tbl[58]? = some (ew_cw 88) := rfl
set_option maxRecDepth 100000 in
theorem ew_cwp_89 : lw_tbl[213]? = some (ew_cw 89) := rfl
set_option maxRecDepth 100000 in
theorem ew_cwp_90 : lw_tbl[265]? = some (ew_cw 90) := rfl
set_option maxRecDepth 100000 in
theorem ew_cwp_91 : lw_tbl[277]? = some (ew_cw 91) := rfl
set_option maxRecDepth 100000 in
theorem ew_cwp_92 : lw_tbl[308]? = some (ew_cw 92) := rfl
set_option maxRecDepth 100000 in
theorem ew_cwp_93 : lw_tbl[316]? = some (ew_cw 93) := rfl
set_option maxRecDepth 100000 in
theorem ew_cwp_94 : lw_tbl[323]? = some (ew_cw 94) := rfl
set_option maxRecDepth 100000 in
theorem ew_cwp_95 : lw_tbl[329]? = some (ew_cw 95) := rfl
set_option maxRecDepth 100000 in
theorem ew_cwp_96 : lw_tbl[338]? = some (ew_cw 96) := rfl
set_option maxRecDepth 100000 in
theorem ew_cwp_97 : lw_tbl[342]? = some (ew_cw 97) := rfl
set_option maxRecDepth 100000 in
theorem ew_cwp_98 : lw_tbl[365]? = some (ew_cw 98) := rfl
set_option maxRecDepth 100000 in
theorem ew_cwp_99 : lw_tbl[394]? = some (ew_cw 99) := rfl
set_option maxRecDepth 100000 in
theorem ew_cwp_100 : lw_tbl[397]? = some (ew_cw 100) := rfl
set_option maxRecDepth 100000 in
theorem ew_cwp_101 : lw_tbl[401]? = some (ew_cw 101) := rfl
set_option maxRecDepth 100000 in
theorem ew_cwp_102 : lw_tbl[405]? = some (ew_cw 102) := rfl
set_option maxRecDepth 100000 in
theorem ew_cwp_103 : lw_tbl[408]? = some (ew_cw 103) := rfl
set_option maxRecDepth 100000 in
theorem ew_cwp_104 : lw_tbl[419]? = some (ew_cw 104) := rfl
set_option maxRecDepth 100000 in
theorem ew_cwp_105 : lw_tbl[423]? = some (ew_cw 105) := rfl
set_option maxRecDepth 100000 in
theorem ew_cwp_106 : lw_tbl[427]? = some (ew_cw 106) := rfl
set_option maxRecDepth 100000 in
theorem ew_cwp_107 : lw_tbl[434]? = some (ew_cw 107) := rfl
set_option maxRecDepth 100000 in
theorem ew_cwp_108 : lw_tbl[442]? = some (ew_cw 108) := rfl
set_option maxRecDepth 100000 in
theorem ew_cwp_109 : lw_tbl[446]? = some (ew_cw 109) := rfl
set_option maxRecDepth 100000 in
theorem ew_cwp_110 : lw_tbl[450]? = some (ew_cw 110) := rfl
set_option maxRecDepth 100000 in
theorem ew_cwp_111 : lw_tbl[454]? = some (ew_cw 111) := rfl
set_option maxRecDepth 100000 in
theorem ew_cwp_112 : lw_tbl[462]? = some (ew_cw 112) := rfl
set_option maxRecDepth 100000 in
theorem ew_cwp_113 : lw_tbl[466]? = some (ew_cw 113) := rfl
set_option maxRecDepth 100000 in
theorem ew_cwp_114 : lw_tbl[475]? = some (ew_cw 114) := rfl
set_option maxRecDepth 100000 in
theorem ew_cwp_115 : lw_tbl[484]? = some (ew_cw 115) := rfl
set_option maxRecDepth 100000 in
theorem ew_cwp_116 : lw_tbl[507]? = some (ew_cw 116) := rfl
set_option maxRecDepth 100000 in
theorem ew_cwp_117 : lw_tbl[517]? = some (ew_cw 117) := rfl
set_option maxRecDepth 100000 in
theorem ew_cwp_118 : lw_tbl[528]? = some (ew_cw 118) := rfl
set_option maxRecDepth 100000 in
theorem ew_cwp_119 : lw_tbl[541]? = some (ew_cw 119) := rfl
set_option maxRecDepth 100000 in
theorem ew_cwp_120 : lw_tbl[545]? = some (ew_cw 120) := rfl
set_option maxRecDepth 100000 in
theorem ew_cwp_121 : lw_tbl[558]? = some (ew_cw 121) := rfl
set_option maxRecDepth 100000 in
theorem ew_cwp_122 : lw_tbl[569]? = some (ew_cw 122) := rfl
set_option maxRecDepth 100000 in
theorem ew_cwp_123 : lw_tbl[584]? = some (ew_cw 123) := rfl
set_option maxRecDepth 100000 in
theorem ew_cwp_124 : lw_tbl[588]? = some (ew_cw 124) := rfl
set_option maxRecDepth 100000 in
theorem ew_cwp_125 : lw_tbl[593]? = some (ew_cw 125) := rfl
set_option maxRecDepth 100000 in
theorem ew_cwp_126 : lw_tbl[608]? = some (ew_cw 126) := rfl
set_option maxRecDepth 100000 in
theorem ew_cwp_127 : lw_tbl[612]? = some (ew_cw 127) := rfl
set_option maxRecDepth 100000 in
theorem ew_cwp_128 : lw_tbl[620]? = some (ew_cw 128) := rfl
set_option maxRecDepth 100000 in
theorem ew_cwp_129 : lw_tbl[624]? = some (ew_cw 129) := rfl
set_option maxRecDepth 100000 in
theorem ew_cwp_130 : lw_tbl[628]? = some (ew_cw 130) := rfl
set_option maxRecDepth 100000 in
theorem ew_cwp_131 : lw_tbl[632]? = some (ew_cw 131) := rfl
set_option maxRecDepth 100000 in
theorem ew_cwp_132 : lw_tbl[640]? = some (ew_cw 132) := rfl
set_option maxRecDepth 100000 in
theorem ew_cwp_133 : lw_tbl[697]? = some (ew_cw 133) := rfl
set_option maxRecDepth 100000 in
theorem ew_cwp_134 : lw_tbl[704]? = some (ew_cw 134) := rfl
set_option maxRecDepth 100000 in
theorem ew_cwp_135 : lw_tbl[708]? = some (ew_cw 135) := rfl
set_option maxRecDepth 100000 in
theorem ew_cwp_136 : lw_tbl[717]? = some (ew_cw 136) := rfl
set_option maxRecDepth 100000 in
theorem ew_cwp_137 : lw_tbl[735]? = some (ew_cw 137) := rfl
set_option maxRecDepth 100000 in
theorem ew_cwp_138 : lw_tbl[743]? = some (ew_cw 138) := rfl
set_option maxRecDepth 100000 in
theorem ew_cwp_139 : lw_tbl[751]? = some (ew_cw 139) := rfl
set_option maxRecDepth 100000 in
theorem ew_cwp_140 : lw_tbl[755]? = some (ew_cw 140) := rfl
set_option maxRecDepth 100000 in
theorem ew_cwp_141 : lw_tbl[763]? = some (ew_cw 141) := rfl
set_option maxRecDepth 100000 in
theorem ew_cwp_142 : lw_tbl[780]? = some (ew_cw 142) := rfl
set_option maxRecDepth 100000 in
theorem ew_cwp_143 : lw_tbl[789]? = some (ew_cw 143) := rfl
set_option maxRecDepth 100000 in
theorem ew_cwp_144 : lw_tbl[793]? = some (ew_cw 144) := rfl
set_option maxRecDepth 100000 in
theorem ew_cwp_145 : lw_tbl[797]? = some (ew_cw 145) := rfl
set_option maxRecDepth 100000 in
theorem ew_cwp_146 : lw_tbl[801]? = some (ew_cw 146) := rfl
set_option maxRecDepth 100000 in
theorem ew_cwp_147 : lw_tbl[815]? = some (ew_cw 147) := rfl
set_option maxRecDepth 100000 in
theorem ew_cwp_148 : lw_tbl[820]? = some (ew_cw 148) := rfl
set_option maxRecDepth 100000 in
theorem ew_cwp_149 : lw_tbl[925]? = some (ew_cw 149) := rfl
set_option maxRecDepth 100000 in
theorem ew_cwp_150 : lw_tbl[929]? = some (ew_cw 150) := rfl
set_option maxRecDepth 100000 in
theorem ew_cwp_151 : lw_tbl[932]? = some (ew_cw 151) := rfl
set_option maxRecDepth 100000 in
theorem ew_cwp_152 : lw_tbl[938]? = some (ew_cw 152) := rfl
set_option maxRecDepth 100000 in
theorem ew_cwp_153 : lw_tbl[942]? = some (ew_cw 153) := rfl
set_option maxRecDepth 100000 in
theorem ew_cwp_154 : lw_tbl[946]? = some (ew_cw 154) := rfl
set_option maxRecDepth 100000 in
theorem ew_cwp_155 : lw_tbl[950]? = some (ew_cw 155) := rfl
set_option maxRecDepth 100000 in
theorem ew_cwp_156 : lw_tbl[954]? = some (ew_cw 156) := rfl
set_option maxRecDepth 100000 in
theorem ew_cwp_157 : lw_tbl[958]? = some (ew_cw 157) := rfl
set_option maxRecDepth 100000 in
theorem ew_cwp_158 : lw_tbl[962]? = some (ew_cw 158) := rfl
set_option maxRecDepth 100000 in
theorem ew_cwp_159 : lw_tbl[966]? = some (ew_cw 159) := rfl
set_option maxRecDepth 100000 in
theorem ew_cwp_160 : lw_tbl[970]? = some (ew_cw 160) := rfl
set_option maxRecDepth 100000 in
theorem ew_cwp_161 : lw_tbl[973]? = some (ew_cw 161) := rfl
set_option maxRecDepth 100000 in
theorem ew_cwp_162 : lw_tbl[977]? = some (ew_cw 162) := rfl
set_option maxRecDepth 100000 in
theorem ew_cwp_163 : lw_tbl[981]? = some (ew_cw 163) := rfl
set_option maxRecDepth 100000 in
theorem ew_cwp_164 : lw_tbl[984]? = some (ew_cw 164) := rfl
set_option maxRecDepth 100000 in
theorem ew_cwp_165 : lw_tbl[989]? = some (ew_cw 165) := rfl
set_option maxRecDepth 100000 in
theorem ew_cwp_166 : lw_tbl[993]? = some (ew_cw 166) := rfl
set_option maxRecDepth 100000 in
theorem ew_cwp_167 : lw_tbl[998]? = some (ew_cw 167) := rfl
set_option maxRecDepth 100000 in
theorem ew_cwp_168 : lw_tbl[1002]? = some (ew_cw 168) := rfl
set_option maxRecDepth 100000 in
theorem ew_cwp_169 : lw_tbl[1006]? = some (ew_cw 169) := rfl
set_option maxRecDepth 100000 in
theorem ew_cwp_170 : lw_tbl[1012]? = some (ew_cw 170) := rfl
set_option maxRecDepth 100000 in
theorem ew_cwp_171 : lw_tbl[1016]? = some (ew_cw 171) := rfl
set_option maxRecDepth 100000 in
theorem ew_cwp_172 : lw_tbl[1020]? = some (ew_cw 172) := rfl
set_option maxRecDepth 100000 in
theorem ew_cwp_173 : lw_tbl[1024]? = some (ew_cw 173) := rfl
set_option maxRecDepth 100000 in
theorem ew_cwp_174 : lw_tbl[1028]? = some (ew_cw 174) := rfl
set_option maxRecDepth 100000 in
theorem ew_cwp_175 : lw_tbl[1031]? = some (ew_cw 175) := rfl
set_option maxRecDepth 100000 in
theorem ew_cwp_176 : lw_tbl[1037]? = some (ew_cw 176) := rfl
set_option maxRecDepth 100000 in
theorem ew_cwp_177 : lw_tbl[1041]? = some (ew_cw 177) := rfl
set_option maxRecDepth 100000 in
theorem ew_cwp_178 : lw_tbl[1044]? = some (ew_cw 178) := rfl
set_option maxRecDepth 100000 in
theorem ew_cwp_179 : lw_tbl[1049]? = some (ew_cw 179) := rfl
set_option maxRecDepth 100000 in
theorem ew_cwp_180 : lw_tbl[1054]? = some (ew_cw 180) := rfl
set_option maxRecDepth 100000 in
theorem ew_cwp_181 : lw_tbl[1057]? = some (ew_cw 181) := rfl
set_option maxRecDepth 100000 in
theorem ew_cwp_182 : lw_tbl[1062]? = some (ew_cw 182) := rfl
set_option maxRecDepth 100000 in
theorem ew_cwp_183 : lw_tbl[1066]? = some (ew_cw 183) := rfl
set_option maxRecDepth 100000 in
theorem ew_cwp_184 : lw_tbl[1071]? = some (ew_cw 184) := rfl
set_option maxRecDepth 100000 in
theorem ew_cwp_185 : lw_tbl[1075]? = some (ew_cw 185) := rfl
set_option maxRecDepth 100000 in
theorem ew_cwp_186 : lw_tbl[1079]? = some (ew_cw 186) := rfl
set_option maxRecDepth 100000 in
theorem ew_cwp_187 : lw_tbl[1083]? = some (ew_cw 187) := rfl
set_option maxRecDepth 100000 in
theorem ew_cwp_188 : lw_tbl[1088]? = some (ew_cw 188) := rfl
set_option maxRecDepth 100000 in
theorem ew_cwp_189 : lw_tbl[1092]? = some (ew_cw 189) := rfl
set_option maxRecDepth 100000 in
theorem ew_cwp_190 : lw_tbl[1096]? = some (ew_cw 190) := rfl
set_option maxRecDepth 100000 in
theorem ew_cwp_191 : lw_tbl[1100]? = some (ew_cw 191) := rfl
set_option maxRecDepth 100000 in
theorem ew_cwp_192 : lw_tbl[1104]? = some (ew_cw 192) := rfl
set_option maxRecDepth 100000 in
theorem ew_cwp_193 : lw_tbl[1108]? = some (ew_cw 193) := rfl
set_option maxRecDepth 100000 in
theorem ew_cwp_194 : lw_tbl[1114]? = some (ew_cw 194) := rfl
set_option maxRecDepth 100000 in
theorem ew_cwp_195 : lw_tbl[1118]? = some (ew_cw 195) := rfl
set_option maxRecDepth 100000 in
theorem ew_cwp_196 : lw_tbl[1124]? = some (ew_cw 196) := rfl
set_option maxRecDepth 100000 in
theorem ew_cwp_197 : lw_tbl[1129]? = some (ew_cw 197) := rfl
set_option maxRecDepth 100000 in
theorem ew_cwp_198 : lw_tbl[1144]? = some (ew_cw 198) := rfl
set_option maxRecDepth 100000 in
theorem ew_cwp_199 : lw_tbl[1148]? = some (ew_cw 199) := rfl
set_option maxRecDepth 100000 in
theorem ew_cwp_200 : lw_tbl[1163]? = some (ew_cw 200) := rfl
set_option maxRecDepth 100000 in
theorem ew_cwp_201 : lw_tbl[1167]? = some (ew_cw 201) := rfl
set_option maxRecDepth 100000 in
theorem ew_cwp_202 : lw_tbl[1171]? = some (ew_cw 202) := rfl
set_option maxRecDepth 100000 in
theorem ew_cwp_203 : lw_tbl[1175]? = some (ew_cw 203) := rfl
set_option maxRecDepth 100000 in
theorem ew_cwp_204 : lw_tbl[1178]? = some (ew_cw 204) := rfl
set_option maxRecDepth 100000 in
theorem ew_cwp_205 : lw_tbl[1182]? = some (ew_cw 205) := rfl
set_option maxRecDepth 100000 in
theorem ew_cwp_206 : lw_tbl[1187]? = some (ew_cw 206) := rfl
set_option maxRecDepth 100000 in
theorem ew_cwp_207 : lw_tbl[1191]? = some (ew_cw 207) := rfl
set_option maxRecDepth 100000 in
theorem ew_cwp_208 : lw_tbl[1195]? = some (ew_cw 208) := rfl
set_option maxRecDepth 100000 in
theorem ew_cwp_209 : lw_tbl[1199]? = some (ew_cw 209) := rfl
set_option maxRecDepth 100000 in
theorem ew_cwp_210 : lw_tbl[1203]? = some (ew_cw 210) := rfl
set_option maxRecDepth 100000 in
theorem ew_cwp_211 : lw_tbl[1207]? = some (ew_cw 211) := rfl
set_option maxRecDepth 100000 in
theorem ew_cwp_212 : lw_tbl[1211]? = some (ew_cw 212) := rfl
set_option maxRecDepth 100000 in
theorem ew_cwp_213 : lw_tbl[1216]? = some (ew_cw 213) := rfl
set_option maxRecDepth 100000 in
theorem ew_cwp_214 : lw_tbl[1220]? = some (ew_cw 214) := rfl
set_option maxRecDepth 100000 in
theorem ew_cwp_215 : lw_tbl[1224]? = some (ew_cw 215) := rfl
set_option maxRecDepth 100000 in
theorem ew_cwp_216 : lw_tbl[1229]? = some (ew_cw 216) := rfl
set_option maxRecDepth 100000 in
theorem ew_cwp_217 : lw_tbl[1233]? = some (ew_cw 217) := rfl
set_option maxRecDepth 100000 in
theorem ew_cwp_218 : lw_tbl[1237]? = some (ew_cw 218) := rfl
set_option maxRecDepth 100000 in
theorem ew_cwp_219 : lw_tbl[1241]? = some (ew_cw 219) := rfl
set_option maxRecDepth 100000 in
theorem ew_cwp_220 : lw_tbl[1244]? = some (ew_cw 220) := rfl
set_option maxRecDepth 100000 in
theorem ew_cwp_221 : lw_tbl[1248]? = some (ew_cw 221) := rfl
set_option maxRecDepth 100000 in
theorem ew_cwp_222 : lw_tbl[1254]? = some (ew_cw 222) := rfl
set_option maxRecDepth 100000 in
theorem ew_cwp_223 : lw_tbl[1258]? = some (ew_cw 223) := rfl
set_option maxRecDepth 100000 in
theorem ew_cwp_224 : lw_tbl[1265]? = some (ew_cw 224) := rfl
set_option maxRecDepth 100000 in
theorem ew_cwp_225 : lw_tbl[1268]? = some (ew_cw 225) := rfl
set_option maxRecDepth 100000 in
theorem ew_cwp_226 : lw_tbl[1272]? = some (ew_cw 226) := rfl
set_option maxRecDepth 100000 in
theorem ew_cwp_227 : lw_tbl[1275]? = some (ew_cw 227) := rfl
set_option maxRecDepth 100000 in
theorem ew_cwp_228 : lw_tbl[1279]? = some (ew_cw 228) := rfl
set_option maxRecDepth 100000 in
theorem ew_cwp_229 : lw_tbl[1283]? = some (ew_cw 229) := rfl
set_option maxRecDepth 100000 in
theorem ew_cwp_230 : lw_tbl[1287]? = some (ew_cw 230) := rfl
set_option maxRecDepth 100000 in
theorem ew_cwp_231 : lw_tbl[1290]? = some (ew_cw 231) := rfl
set_option maxRecDepth 100000 in
theorem ew_cwp_232 : lw_tbl[1294]? = some (ew_cw 232) := rfl
set_option maxRecDepth 100000 in
theorem ew_cwp_233 : lw_tbl[1298]? = some (ew_cw 233) := rfl
set_option maxRecDepth 100000 in
theorem ew_cwp_234 : lw_tbl[1302]? = some (ew_cw 234) := rfl
set_option maxRecDepth 100000 in
theorem ew_cwp_235 : lw_tbl[1306]? = some (ew_cw 235) := rfl
set_option maxRecDepth 100000 in
theorem ew_cwp_236 : lw_tbl[1310]? = some (ew_cw 236) := rfl
set_option maxRecDepth 100000 in
theorem ew_cwp_237 : lw_tbl[1315]? = some (ew_cw 237) := rfl
set_option maxRecDepth 100000 in
theorem ew_cwp_238 : lw_tbl[1319]? = some (ew_cw 238) := rfl
set_option maxRecDepth 100000 in
theorem ew_lay_0 : (List.zip (u_ws RX0 TX0 2) ([120, 122] : List Nat)).all (fun (q : Cond × Nat) => decide (lw_tbl[q.2]? = some q.1) && goodWord q.1) = true ∧ (u_ws RX0 TX0 2).length = 2 := by decide +kernel
set_option maxRecDepth 100000 in
theorem ew_lay_1 : (List.zip (u_ws RX1 TX1 0) ([] : List Nat)).all (fun (q : Cond × Nat) => decide (lw_tbl[q.2]? = some q.1) && goodWord q.1) = true ∧ (u_ws RX1 TX1 0).length = 0 := by decide +kernel
set_option maxRecDepth 100000 in
theorem ew_lay_2 : (List.zip (u_ws RX2 TX2 5) ([78, 80, 82, 84, 86] : List Nat)).all (fun (q : Cond × Nat) => decide (lw_tbl[q.2]? = some q.1) && goodWord q.1) = true ∧ (u_ws RX2 TX2 5).length = 5 := by decide +kernel
set_option maxRecDepth 100000 in
theorem ew_lay_3 : (List.zip (u_ws RX3 TX3 2) ([168, 170] : List Nat)).all (fun (q : Cond × Nat) => decide (lw_tbl[q.2]? = some q.1) && goodWord q.1) = true ∧ (u_ws RX3 TX3 2).length = 2 := by decide +kernel
set_option maxRecDepth 100000 in
theorem ew_lay_4 : (List.zip (u_ws RX4 TX4 8) ([142, 144, 146, 148, 150, 152, 154, 156] : List Nat)).all (fun (q : Cond × Nat) => decide (lw_tbl[q.2]? = some q.1) && goodWord q.1) = true ∧ (u_ws RX4 TX4 8).length = 8 := by decide +kernel
set_option maxRecDepth 100000 in
theorem ew_lay_5 : (List.zip (u_ws RX5 TX5 3) ([103, 105, 107] : List Nat)).all (fun (q : Cond × Nat) => decide (lw_tbl[q.2]? = some q.1) && goodWord q.1) = true ∧ (u_ws RX5 TX5 3).length = 3 := by decide +kernel
set_option maxRecDepth 100000 in
theorem ew_lay_6 : (List.zip (u_ws RX6 TX6 5) ([251, 253, 255, 257, 259] : List Nat)).all (fun (q : Cond × Nat) => decide (lw_tbl[q.2]? = some q.1) && goodWord q.1) = true ∧ (u_ws RX6 TX6 5).length = 5 := by decide +kernel
set_option maxRecDepth 100000 in
theorem ew_lay_7 : (List.zip (u_ws RX7 TX7 12) ([185, 187, 189, 191, 193, 195, 197, 199, 201, 203, 205, 207] : List Nat)).all (fun (q : Cond × Nat) => decide (lw_tbl[q.2]? = some q.1) && goodWord q.1) = true ∧ (u_ws RX7 TX7 12).length = 12 := by decide +kernel
set_option maxRecDepth 100000 in
theorem ew_lay_8 : (List.zip (u_ws RX8 TX8 33) ([855, 857, 859, 861, 863, 865, 867, 869, 871, 873, 875, 877, 879, 881, 883, 885, 887, 889, 891, 893, 895, 897, 899, 901, 903, 905, 907, 909, 911, 913, 915, 917, 919] : List Nat)).all (fun (q : Cond × Nat) => decide (lw_tbl[q.2]? = some q.1) && goodWord q.1) = true ∧ (u_ws RX8 TX8 33).length = 33 := by decide +kernel
