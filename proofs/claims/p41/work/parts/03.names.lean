def RX0 : String := "AcreOffice$Field"
def TX0 : u_T := fun k => match k with
  | 0 => ("AcreOffice$Field", "easts", "[I", true)
  | 1 => ("AcreOffice$Field", "norths", "[I", true)
  | _ => ("AcreOffice$Field", "cornerCount", "I", false)
def tyX0 : Nat → FieldType := fun k => match k with
  | 0 => .array .int
  | 1 => .array .int
  | _ => .int
theorem nmX0 : ∀ a, a < 3 → ∀ b, b < 3 → a ≠ b → (TX0 a).2.1 ≠ (TX0 b).2.1 := by decide +kernel
theorem tyX0_ok : ∀ k, k < 3 → parseFieldDescriptor (TX0 k).2.2.1 = some (tyX0 k) := by decide +kernel
def RX1 : String := "AcreOffice$History"
def TX1 : u_T := fun k => match k with
  | 0 => ("AcreOffice$History", "states", "[LAcreOffice$State;", true)
  | 1 => ("AcreOffice$History", "next", "I", false)
  | _ => ("AcreOffice$History", "count", "I", false)
def tyX1 : Nat → FieldType := fun k => match k with
  | 0 => .array (.object "AcreOffice$State")
  | 1 => .int
  | _ => .int
theorem nmX1 : ∀ a, a < 3 → ∀ b, b < 3 → a ≠ b → (TX1 a).2.1 ≠ (TX1 b).2.1 := by decide +kernel
theorem tyX1_ok : ∀ k, k < 3 → parseFieldDescriptor (TX1 k).2.2.1 = some (tyX1 k) := by decide +kernel
def RX2 : String := "AcreOffice$Orders"
def TX2 : u_T := fun k => match k with
  | 0 => ("AcreOffice$Orders", "signs", "[C", true)
  | 1 => ("AcreOffice$Orders", "signCount", "I", false)
  | 2 => ("AcreOffice$Orders", "kinds", "[I", true)
  | 3 => ("AcreOffice$Orders", "easts", "[I", true)
  | 4 => ("AcreOffice$Orders", "norths", "[I", true)
  | 5 => ("AcreOffice$Orders", "lengths", "[I", true)
  | 6 => ("AcreOffice$Orders", "fieldNumbers", "[I", true)
  | 7 => ("AcreOffice$Orders", "orderCount", "I", false)
  | 8 => ("AcreOffice$Orders", "expected", "I", false)
  | 9 => ("AcreOffice$Orders", "direction", "I", false)
  | _ => ("AcreOffice$Orders", "number", "I", false)
def tyX2 : Nat → FieldType := fun k => match k with
  | 0 => .array .char
  | 1 => .int
  | 2 => .array .int
  | 3 => .array .int
  | 4 => .array .int
  | 5 => .array .int
  | 6 => .array .int
  | 7 => .int
  | 8 => .int
  | 9 => .int
  | _ => .int
theorem nmX2 : ∀ a, a < 11 → ∀ b, b < 11 → a ≠ b → (TX2 a).2.1 ≠ (TX2 b).2.1 := by decide +kernel
theorem tyX2_ok : ∀ k, k < 11 → parseFieldDescriptor (TX2 k).2.2.1 = some (tyX2 k) := by decide +kernel
def RX3 : String := "AcreOffice$State"
def TX3 : u_T := fun k => match k with
  | 0 => ("AcreOffice$State", "traverse", "LAcreOffice$Traverse;", true)
  | 1 => ("AcreOffice$State", "kept", "[LAcreOffice$Field;", true)
  | _ => ("AcreOffice$State", "fieldCount", "I", false)
def tyX3 : Nat → FieldType := fun k => match k with
  | 0 => .object "AcreOffice$Traverse"
  | 1 => .array (.object "AcreOffice$Field")
  | _ => .int
theorem nmX3 : ∀ a, a < 3 → ∀ b, b < 3 → a ≠ b → (TX3 a).2.1 ≠ (TX3 b).2.1 := by decide +kernel
theorem tyX3_ok : ∀ k, k < 3 → parseFieldDescriptor (TX3 k).2.2.1 = some (tyX3 k) := by decide +kernel
def RX4 : String := "AcreOffice$Traverse"
def TX4 : u_T := fun k => match k with
  | 0 => ("AcreOffice$Traverse", "eastBefore", "[I", true)
  | 1 => ("AcreOffice$Traverse", "northBefore", "[I", true)
  | 2 => ("AcreOffice$Traverse", "lengthBefore", "[I", true)
  | 3 => ("AcreOffice$Traverse", "originEast", "I", false)
  | 4 => ("AcreOffice$Traverse", "originNorth", "I", false)
  | _ => ("AcreOffice$Traverse", "legCount", "I", false)
def tyX4 : Nat → FieldType := fun k => match k with
  | 0 => .array .int
  | 1 => .array .int
  | 2 => .array .int
  | 3 => .int
  | 4 => .int
  | _ => .int
theorem nmX4 : ∀ a, a < 6 → ∀ b, b < 6 → a ≠ b → (TX4 a).2.1 ≠ (TX4 b).2.1 := by decide +kernel
theorem tyX4_ok : ∀ k, k < 6 → parseFieldDescriptor (TX4 k).2.2.1 = some (tyX4 k) := by decide +kernel
def RX5 : String := "AcreOffice"
def TX5 : u_T := fun k => match k with
  | 0 => ("AcreOffice", "now", "LAcreOffice$State;", true)
  | 1 => ("AcreOffice", "trial", "LAcreOffice$State;", true)
  | 2 => ("AcreOffice", "snapshot", "LAcreOffice$State;", true)
  | 3 => ("AcreOffice", "history", "LAcreOffice$History;", true)
  | 4 => ("AcreOffice", "orders", "LAcreOffice$Orders;", true)
  | _ => ("AcreOffice", "snapshotTaken", "Z", false)
def tyX5 : Nat → FieldType := fun k => match k with
  | 0 => .object "AcreOffice$State"
  | 1 => .object "AcreOffice$State"
  | 2 => .object "AcreOffice$State"
  | 3 => .object "AcreOffice$History"
  | 4 => .object "AcreOffice$Orders"
  | _ => .boolean
theorem nmX5 : ∀ a, a < 6 → ∀ b, b < 6 → a ≠ b → (TX5 a).2.1 ≠ (TX5 b).2.1 := by decide +kernel
theorem tyX5_ok : ∀ k, k < 6 → parseFieldDescriptor (TX5 k).2.2.1 = some (tyX5 k) := by decide +kernel
def RL : String := "AcreOfficeLaw"
abbrev RX6 : String := RX0
abbrev TX6 : u_T := TX0
abbrev tyX6 : Nat → FieldType := tyX0
theorem nmX6 : ∀ a, a < 3 → ∀ b, b < 3 → a ≠ b → (TX6 a).2.1 ≠ (TX6 b).2.1 := nmX0
theorem tyX6_ok : ∀ k, k < 3 → parseFieldDescriptor (TX6 k).2.2.1 = some (tyX6 k) := tyX0_ok
def mTE : u_T := fun _ => ("", "", "", false)
def tIAE : String := "java/lang/IllegalArgumentException"
def tISE : String := "java/lang/IllegalStateException"
def tIOB : String := "java/lang/IndexOutOfBoundsException"
abbrev mCl : List vw_C := [(RX0, TX0, 3), (RX1, TX1, 3), (RX2, TX2, 11), (RX3, TX3, 3), (RX4, TX4, 6), (RX5, TX5, 6), (RX6, TX6, 3), (tIAE, mTE, 0), (tISE, mTE, 0), (tIOB, mTE, 0)]
abbrev mMT : Type := MethodName × ByteArray × Nat × Option FieldType × List (Nat × Nat × Nat × Nat)
def mTab_0 : List mMT := [
  (⟨"AcreOffice$Field", "<init>", "()V"⟩, prog_2_method_1_code, 1, (Option.none : Option Jvm.ClassFile.FieldType), []),
  (⟨"AcreOffice$Field", "copyFrom", "(LAcreOffice$Field;)V"⟩, prog_2_method_2_code, 2, (Option.none : Option Jvm.ClassFile.FieldType), []),
  (⟨"AcreOffice$Field", "dropCorners", "()V"⟩, prog_2_method_3_code, 1, (Option.none : Option Jvm.ClassFile.FieldType), []),
  (⟨"AcreOffice$Field", "appendCorner", "(II)V"⟩, prog_2_method_4_code, 3, (Option.none : Option Jvm.ClassFile.FieldType), []),
  (⟨"AcreOffice$Field", "hasCorner", "(I)Z"⟩, prog_2_method_5_code, 2, (Option.some Jvm.ClassFile.FieldType.boolean), []),
  (⟨"AcreOffice$Field", "eastAt", "(I)I"⟩, prog_2_method_6_code, 2, (Option.some Jvm.ClassFile.FieldType.int), []),
  (⟨"AcreOffice$Field", "northAt", "(I)I"⟩, prog_2_method_7_code, 2, (Option.some Jvm.ClassFile.FieldType.int), []),
  (⟨"AcreOffice$Field", "cornerAfter", "(I)I"⟩, prog_2_method_8_code, 2, (Option.some Jvm.ClassFile.FieldType.int), []),
  (⟨"AcreOffice$Field", "cornerBefore", "(I)I"⟩, prog_2_method_9_code, 2, (Option.some Jvm.ClassFile.FieldType.int), []),
  (⟨"AcreOffice$Field", "sideEast", "(I)J"⟩, prog_2_method_10_code, 2, (Option.some Jvm.ClassFile.FieldType.long), []),
  (⟨"AcreOffice$Field", "sideNorth", "(I)J"⟩, prog_2_method_11_code, 2, (Option.some Jvm.ClassFile.FieldType.long), []),
  (⟨"AcreOffice$Field", "turnAt", "(I)J"⟩, prog_2_method_12_code, 3, (Option.some Jvm.ClassFile.FieldType.long), []),
  (⟨"AcreOffice$Field", "turnsToTheLeft", "()I"⟩, prog_2_method_13_code, 3, (Option.some Jvm.ClassFile.FieldType.int), []),
  (⟨"AcreOffice$Field", "turnsToTheRight", "()I"⟩, prog_2_method_14_code, 3, (Option.some Jvm.ClassFile.FieldType.int), []),
  (⟨"AcreOffice$Field", "sidesMetFrom", "(II)I"⟩, prog_2_method_15_code, 5, (Option.some Jvm.ClassFile.FieldType.int), []),
  (⟨"AcreOffice$Field", "isMetFrom", "(IIII)Z"⟩, prog_2_method_16_code, 15, (Option.some Jvm.ClassFile.FieldType.boolean), []),
  (⟨"AcreOffice$Field", "sidesAlsoOf", "(LAcreOffice$Field;)I"⟩, prog_2_method_17_code, 4, (Option.some Jvm.ClassFile.FieldType.int), []),
  (⟨"AcreOffice$Field", "hasSide", "(LAcreOffice$Field;II)Z"⟩, prog_2_method_18_code, 6, (Option.some Jvm.ClassFile.FieldType.boolean), []),
  (⟨"AcreOffice$Field", "isSamePoint", "(ILAcreOffice$Field;I)Z"⟩, prog_2_method_19_code, 4, (Option.some Jvm.ClassFile.FieldType.boolean), []),
  (⟨"AcreOffice$Field", "twiceByCorners", "()J"⟩, prog_2_method_20_code, 5, (Option.some Jvm.ClassFile.FieldType.long), []),
  (⟨"AcreOffice$Field", "twiceByStrips", "()J"⟩, prog_2_method_21_code, 6, (Option.some Jvm.ClassFile.FieldType.long), []),
  (⟨"AcreOffice$Field", "area", "()J"⟩, prog_2_method_22_code, 1, (Option.some Jvm.ClassFile.FieldType.long), []),
  (⟨"AcreOffice$Field", "extentEast", "()I"⟩, prog_2_method_23_code, 1, (Option.some Jvm.ClassFile.FieldType.int), []),
  (⟨"AcreOffice$Field", "extentNorth", "()I"⟩, prog_2_method_24_code, 1, (Option.some Jvm.ClassFile.FieldType.int), []),
  (⟨"AcreOffice$Field", "extentOf", "([I)I"⟩, prog_2_method_25_code, 5, (Option.some Jvm.ClassFile.FieldType.int), []),
  (⟨"AcreOffice$History", "<init>", "()V"⟩, prog_3_method_1_code, 2, (Option.none : Option Jvm.ClassFile.FieldType), []),
  (⟨"AcreOffice$History", "remember", "(LAcreOffice$State;)V"⟩, prog_3_method_2_code, 2, (Option.none : Option Jvm.ClassFile.FieldType), []),
  (⟨"AcreOffice$History", "giveBack", "(LAcreOffice$State;)Z"⟩, prog_3_method_3_code, 2, (Option.some Jvm.ClassFile.FieldType.boolean), []),
  (⟨"AcreOffice$Orders", "<init>", "()V"⟩, prog_4_method_1_code, 1, (Option.none : Option Jvm.ClassFile.FieldType), []),
  (⟨"AcreOffice$State", "<init>", "()V"⟩, prog_5_method_1_code, 2, (Option.none : Option Jvm.ClassFile.FieldType), []),
  (⟨"AcreOffice$State", "copyFrom", "(LAcreOffice$State;)V"⟩, prog_5_method_2_code, 3, (Option.none : Option Jvm.ClassFile.FieldType), []),
  (⟨"AcreOffice$State", "hasField", "(I)Z"⟩, prog_5_method_3_code, 2, (Option.some Jvm.ClassFile.FieldType.boolean), []),
  (⟨"AcreOffice$State", "keepTraverse", "()Z"⟩, prog_5_method_4_code, 3, (Option.some Jvm.ClassFile.FieldType.boolean), []),
  (⟨"AcreOffice$State", "dropField", "(I)Z"⟩, prog_5_method_5_code, 3, (Option.some Jvm.ClassFile.FieldType.boolean), []),
  (⟨"AcreOffice$State", "fieldOfGreatestArea", "()I"⟩, prog_5_method_6_code, 7, (Option.some Jvm.ClassFile.FieldType.int), []),
  (⟨"AcreOffice$State", "sumOfTwiceAreas", "()J"⟩, prog_5_method_7_code, 4, (Option.some Jvm.ClassFile.FieldType.long), []),
  (⟨"AcreOffice$Traverse", "<init>", "()V"⟩, prog_6_method_1_code, 1, (Option.none : Option Jvm.ClassFile.FieldType), []),
  (⟨"AcreOffice$Traverse", "copyFrom", "(LAcreOffice$Traverse;)V"⟩, prog_6_method_2_code, 2, (Option.none : Option Jvm.ClassFile.FieldType), []),
  (⟨"AcreOffice$Traverse", "append", "(III)Z"⟩, prog_6_method_3_code, 4, (Option.some Jvm.ClassFile.FieldType.boolean), []),
  (⟨"AcreOffice$Traverse", "dropLast", "()Z"⟩, prog_6_method_4_code, 1, (Option.some Jvm.ClassFile.FieldType.boolean), [])]
def mTab_1 : List mMT := [
  (⟨"AcreOffice$Traverse", "dropAllLegs", "()V"⟩, prog_6_method_5_code, 1, (Option.none : Option Jvm.ClassFile.FieldType), []),
  (⟨"AcreOffice$Traverse", "moveOrigin", "(II)V"⟩, prog_6_method_6_code, 3, (Option.none : Option Jvm.ClassFile.FieldType), []),
  (⟨"AcreOffice$Traverse", "hasCorner", "(I)Z"⟩, prog_6_method_7_code, 2, (Option.some Jvm.ClassFile.FieldType.boolean), []),
  (⟨"AcreOffice$Traverse", "measuredLength", "()I"⟩, prog_6_method_8_code, 1, (Option.some Jvm.ClassFile.FieldType.int), []),
  (⟨"AcreOffice$Traverse", "closingEast", "()I"⟩, prog_6_method_9_code, 1, (Option.some Jvm.ClassFile.FieldType.int), []),
  (⟨"AcreOffice$Traverse", "closingNorth", "()I"⟩, prog_6_method_10_code, 1, (Option.some Jvm.ClassFile.FieldType.int), []),
  (⟨"AcreOffice$Traverse", "closesWell", "()Z"⟩, prog_6_method_11_code, 2, (Option.some Jvm.ClassFile.FieldType.boolean), []),
  (⟨"AcreOffice$Traverse", "adjustedEastAt", "(I)I"⟩, prog_6_method_12_code, 2, (Option.some Jvm.ClassFile.FieldType.int), []),
  (⟨"AcreOffice$Traverse", "adjustedNorthAt", "(I)I"⟩, prog_6_method_13_code, 2, (Option.some Jvm.ClassFile.FieldType.int), []),
  (⟨"AcreOffice$Traverse", "shareOf", "(II)I"⟩, prog_6_method_14_code, 7, (Option.some Jvm.ClassFile.FieldType.int), []),
  (⟨"AcreOffice", "<init>", "()V"⟩, prog_1_method_1_code, 1, (Option.none : Option Jvm.ClassFile.FieldType), []),
  (⟨"AcreOffice", "addLeg", "(III)I"⟩, prog_1_method_2_code, 4, (Option.some Jvm.ClassFile.FieldType.int), []),
  (⟨"AcreOffice", "takeBack", "()I"⟩, prog_1_method_3_code, 1, (Option.some Jvm.ClassFile.FieldType.int), []),
  (⟨"AcreOffice", "setOrigin", "(II)I"⟩, prog_1_method_4_code, 3, (Option.some Jvm.ClassFile.FieldType.int), []),
  (⟨"AcreOffice", "keep", "()I"⟩, prog_1_method_5_code, 1, (Option.some Jvm.ClassFile.FieldType.int), []),
  (⟨"AcreOffice", "giveUp", "(I)I"⟩, prog_1_method_6_code, 2, (Option.some Jvm.ClassFile.FieldType.int), []),
  (⟨"AcreOffice", "undo", "()I"⟩, prog_1_method_12_code, 1, (Option.some Jvm.ClassFile.FieldType.int), []),
  (⟨"AcreOffice", "takeSnapshot", "()I"⟩, prog_1_method_13_code, 1, (Option.some Jvm.ClassFile.FieldType.int), []),
  (⟨"AcreOffice", "restoreSnapshot", "()I"⟩, prog_1_method_14_code, 1, (Option.some Jvm.ClassFile.FieldType.int), []),
  (⟨"AcreOffice", "legs", "()I"⟩, prog_1_method_15_code, 1, (Option.some Jvm.ClassFile.FieldType.int), []),
  (⟨"AcreOffice", "traverseLength", "()I"⟩, prog_1_method_16_code, 1, (Option.some Jvm.ClassFile.FieldType.int), []),
  (⟨"AcreOffice", "errorEast", "()I"⟩, prog_1_method_17_code, 1, (Option.some Jvm.ClassFile.FieldType.int), []),
  (⟨"AcreOffice", "errorNorth", "()I"⟩, prog_1_method_18_code, 1, (Option.some Jvm.ClassFile.FieldType.int), []),
  (⟨"AcreOffice", "isClose", "()Z"⟩, prog_1_method_19_code, 1, (Option.some Jvm.ClassFile.FieldType.boolean), []),
  (⟨"AcreOffice", "adjustedEast", "(I)I"⟩, prog_1_method_20_code, 2, (Option.some Jvm.ClassFile.FieldType.int), []),
  (⟨"AcreOffice", "adjustedNorth", "(I)I"⟩, prog_1_method_21_code, 2, (Option.some Jvm.ClassFile.FieldType.int), []),
  (⟨"AcreOffice", "fields", "()I"⟩, prog_1_method_22_code, 1, (Option.some Jvm.ClassFile.FieldType.int), []),
  (⟨"AcreOffice", "cornersOf", "(I)I"⟩, prog_1_method_23_code, 2, (Option.some Jvm.ClassFile.FieldType.int), []),
  (⟨"AcreOffice", "cornerEast", "(II)I"⟩, prog_1_method_24_code, 3, (Option.some Jvm.ClassFile.FieldType.int), []),
  (⟨"AcreOffice", "cornerNorth", "(II)I"⟩, prog_1_method_25_code, 3, (Option.some Jvm.ClassFile.FieldType.int), []),
  (⟨"AcreOffice", "leftTurns", "(I)I"⟩, prog_1_method_26_code, 2, (Option.some Jvm.ClassFile.FieldType.int), []),
  (⟨"AcreOffice", "turnsOneWay", "(I)Z"⟩, prog_1_method_27_code, 3, (Option.some Jvm.ClassFile.FieldType.boolean), []),
  (⟨"AcreOffice", "sidesEastOf", "(III)I"⟩, prog_1_method_28_code, 5, (Option.some Jvm.ClassFile.FieldType.int), []),
  (⟨"AcreOffice", "sharedSides", "(II)I"⟩, prog_1_method_29_code, 5, (Option.some Jvm.ClassFile.FieldType.int), []),
  (⟨"AcreOffice", "twiceAreaByCorners", "(I)J"⟩, prog_1_method_30_code, 2, (Option.some Jvm.ClassFile.FieldType.long), []),
  (⟨"AcreOffice", "twiceAreaByStrips", "(I)J"⟩, prog_1_method_31_code, 2, (Option.some Jvm.ClassFile.FieldType.long), []),
  (⟨"AcreOffice", "acresOf", "(I)I"⟩, prog_1_method_32_code, 2, (Option.some Jvm.ClassFile.FieldType.int), []),
  (⟨"AcreOffice", "roodsOf", "(I)I"⟩, prog_1_method_33_code, 2, (Option.some Jvm.ClassFile.FieldType.int), []),
  (⟨"AcreOffice", "perchesOf", "(I)I"⟩, prog_1_method_34_code, 2, (Option.some Jvm.ClassFile.FieldType.int), []),
  (⟨"AcreOffice", "largestField", "()I"⟩, prog_1_method_35_code, 1, (Option.some Jvm.ClassFile.FieldType.int), [])]
def mTab_2 : List mMT := [
  (⟨"AcreOffice", "twiceAreaOfAll", "()J"⟩, prog_1_method_36_code, 1, (Option.some Jvm.ClassFile.FieldType.long), []),
  (⟨"AcreOffice", "sheetsFor", "(II)I"⟩, prog_1_method_37_code, 5, (Option.some Jvm.ClassFile.FieldType.int), []),
  (⟨"AcreOffice", "scaleFor", "(I)I"⟩, prog_1_method_38_code, 5, (Option.some Jvm.ClassFile.FieldType.int), []),
  (⟨"AcreOffice", "recordedStates", "()I"⟩, prog_1_method_39_code, 1, (Option.some Jvm.ClassFile.FieldType.int), []),
  (⟨"AcreOffice", "beginTrial", "()V"⟩, prog_1_method_40_code, 1, (Option.none : Option Jvm.ClassFile.FieldType), []),
  (⟨"AcreOffice", "settleTrial", "()V"⟩, prog_1_method_41_code, 1, (Option.none : Option Jvm.ClassFile.FieldType), []),
  (⟨"AcreOffice", "knownField", "(I)LAcreOffice$Field;"⟩, prog_1_method_42_code, 2, (Option.some (Jvm.ClassFile.FieldType.object "AcreOffice$Field")), []),
  (⟨"AcreOffice", "fieldWithCorner", "(II)LAcreOffice$Field;"⟩, prog_1_method_43_code, 4, (Option.some (Jvm.ClassFile.FieldType.object "AcreOffice$Field")), []),
  (⟨"AcreOffice", "isWithin", "(II)Z"⟩, prog_1_method_44_code, 2, (Option.some Jvm.ClassFile.FieldType.boolean), []),
  (⟨"AcreOffice", "cellOf", "([II)I"⟩, prog_1_method_45_code, 2, (Option.some Jvm.ClassFile.FieldType.int), []),
  (⟨"AcreOffice", "piecesNeeded", "(II)I"⟩, prog_1_method_46_code, 2, (Option.some Jvm.ClassFile.FieldType.int), []),
  (⟨"java/lang/Math", "floorDiv", "(JJ)J"⟩, prog_13_method_49_code, 6, (Option.some Jvm.ClassFile.FieldType.long), []),
  (⟨"java/lang/Math", "abs", "(I)I"⟩, prog_13_method_59_code, 1, (Option.some Jvm.ClassFile.FieldType.int), []),
  (⟨"java/lang/Math", "abs", "(J)J"⟩, prog_13_method_61_code, 2, (Option.some Jvm.ClassFile.FieldType.long), []),
  (⟨"java/lang/Math", "max", "(II)I"⟩, prog_13_method_65_code, 2, (Option.some Jvm.ClassFile.FieldType.int), []),
  (⟨"java/lang/Math", "min", "(II)I"⟩, prog_13_method_69_code, 2, (Option.some Jvm.ClassFile.FieldType.int), []),
  (⟨"AcreOfficeLaw", "cell", "([II)I"⟩, method_2_code, 2, (Option.some Jvm.ClassFile.FieldType.int), []),
  (⟨"AcreOfficeLaw", "low", "(II)I"⟩, method_3_code, 2, (Option.some Jvm.ClassFile.FieldType.int), []),
  (⟨"AcreOfficeLaw", "span", "(II)I"⟩, method_4_code, 2, (Option.some Jvm.ClassFile.FieldType.int), []),
  (⟨"AcreOfficeLaw", "change", "(LAcreOffice;III)Z"⟩, method_5_code, 19, (Option.some Jvm.ClassFile.FieldType.boolean), []),
  (⟨"AcreOfficeLaw", "rounds", "(LAcreOffice;II)Z"⟩, method_6_code, 15, (Option.some Jvm.ClassFile.FieldType.boolean), []),
  (⟨"AcreOfficeLaw", "least", "(II)I"⟩, method_7_code, 2, (Option.some Jvm.ClassFile.FieldType.int), []),
  (⟨"AcreOfficeLaw", "most", "(II)I"⟩, method_8_code, 2, (Option.some Jvm.ClassFile.FieldType.int), []),
  (⟨"AcreOfficeLaw", "fits", "(LAcreOffice;II)Z"⟩, method_9_code, 14, (Option.some Jvm.ClassFile.FieldType.boolean), []),
  (⟨"AcreOfficeLaw", "holds", "(LAcreOffice;I)Z"⟩, method_10_code, 19, (Option.some Jvm.ClassFile.FieldType.boolean), []),
  (⟨"AcreOfficeLaw", "law", "([I)Z"⟩, code, maxLocals, ret, [])]
def mTab : List mMT := mTab_0 ++ (mTab_1 ++ (mTab_2))
def mAt (i : Nat) : mMT := (mTab[i]?).getD (⟨"", "", ""⟩, ⟨#[]⟩, 0, none, [])
def mY (i : Nat) : MethodName := (mAt i).1
def mB (i : Nat) : ByteArray := (mAt i).2.1
def mL (i : Nat) : Nat := (mAt i).2.2.1
def mR (i : Nat) : Option FieldType := (mAt i).2.2.2.1
def mHH (i : Nat) : List (Nat × Nat × Nat × Nat) := (mAt i).2.2.2.2
def mC (i : Nat) : String := (mY i).cls
abbrev iF_init : Nat := 0
abbrev iF_copyFrom : Nat := 1
abbrev iF_dropCorners : Nat := 2
abbrev iF_appendCorner : Nat := 3
abbrev iF_hasCorner : Nat := 4
abbrev iF_eastAt : Nat := 5
abbrev iF_northAt : Nat := 6
abbrev iF_cornerAfter : Nat := 7
abbrev iF_cornerBefore : Nat := 8
abbrev iF_sideEast : Nat := 9
abbrev iF_sideNorth : Nat := 10
abbrev iF_turnAt : Nat := 11
abbrev iF_turnsToTheLeft : Nat := 12
abbrev iF_turnsToTheRight : Nat := 13
abbrev iF_sidesMetFrom : Nat := 14
abbrev iF_isMetFrom : Nat := 15
abbrev iF_sidesAlsoOf : Nat := 16
abbrev iF_hasSide : Nat := 17
abbrev iF_isSamePoint : Nat := 18
abbrev iF_twiceByCorners : Nat := 19
abbrev iF_twiceByStrips : Nat := 20
abbrev iF_area : Nat := 21
abbrev iF_extentEast : Nat := 22
abbrev iF_extentNorth : Nat := 23
abbrev iF_extentOf : Nat := 24
abbrev iH_init : Nat := 25
abbrev iH_remember : Nat := 26
abbrev iH_giveBack : Nat := 27
abbrev iO_init : Nat := 28
abbrev iS_init : Nat := 29
abbrev iS_copyFrom : Nat := 30
abbrev iS_hasField : Nat := 31
abbrev iS_keepTraverse : Nat := 32
abbrev iS_dropField : Nat := 33
abbrev iS_fieldOfGreatestArea : Nat := 34
abbrev iS_sumOfTwiceAreas : Nat := 35
abbrev iT_init : Nat := 36
abbrev iT_copyFrom : Nat := 37
abbrev iT_append : Nat := 38
abbrev iT_dropLast : Nat := 39
abbrev iT_dropAllLegs : Nat := 40
abbrev iT_moveOrigin : Nat := 41
abbrev iT_hasCorner : Nat := 42
abbrev iT_measuredLength : Nat := 43
abbrev iT_closingEast : Nat := 44
abbrev iT_closingNorth : Nat := 45
abbrev iT_closesWell : Nat := 46
abbrev iT_adjustedEastAt : Nat := 47
abbrev iT_adjustedNorthAt : Nat := 48
abbrev iT_shareOf : Nat := 49
abbrev iA_init : Nat := 50
abbrev iA_addLeg : Nat := 51
abbrev iA_takeBack : Nat := 52
abbrev iA_setOrigin : Nat := 53
abbrev iA_keep : Nat := 54
abbrev iA_giveUp : Nat := 55
abbrev iA_undo : Nat := 56
abbrev iA_takeSnapshot : Nat := 57
abbrev iA_restoreSnapshot : Nat := 58
abbrev iA_legs : Nat := 59
abbrev iA_traverseLength : Nat := 60
abbrev iA_errorEast : Nat := 61
abbrev iA_errorNorth : Nat := 62
abbrev iA_isClose : Nat := 63
abbrev iA_adjustedEast : Nat := 64
abbrev iA_adjustedNorth : Nat := 65
abbrev iA_fields : Nat := 66
abbrev iA_cornersOf : Nat := 67
abbrev iA_cornerEast : Nat := 68
abbrev iA_cornerNorth : Nat := 69
abbrev iA_leftTurns : Nat := 70
abbrev iA_turnsOneWay : Nat := 71
abbrev iA_sidesEastOf : Nat := 72
abbrev iA_sharedSides : Nat := 73
abbrev iA_twiceAreaByCorners : Nat := 74
abbrev iA_twiceAreaByStrips : Nat := 75
abbrev iA_acresOf : Nat := 76
abbrev iA_roodsOf : Nat := 77
abbrev iA_perchesOf : Nat := 78
abbrev iA_largestField : Nat := 79
abbrev iA_twiceAreaOfAll : Nat := 80
abbrev iA_sheetsFor : Nat := 81
abbrev iA_scaleFor : Nat := 82
abbrev iA_recordedStates : Nat := 83
abbrev iA_beginTrial : Nat := 84
abbrev iA_settleTrial : Nat := 85
abbrev iA_knownField : Nat := 86
abbrev iA_fieldWithCorner : Nat := 87
abbrev iA_isWithin : Nat := 88
abbrev iA_cellOf : Nat := 89
abbrev iA_piecesNeeded : Nat := 90
abbrev iJ_floorDiv : Nat := 91
abbrev iJ_absI : Nat := 92
abbrev iJ_absL : Nat := 93
abbrev iJ_max : Nat := 94
abbrev iJ_min : Nat := 95
abbrev iL_cell : Nat := 96
abbrev iL_low : Nat := 97
abbrev iL_span : Nat := 98
abbrev iL_change : Nat := 99
abbrev iL_rounds : Nat := 100
abbrev iL_least : Nat := 101
abbrev iL_most : Nat := 102
abbrev iL_fits : Nat := 103
abbrev iL_holds : Nat := 104
abbrev iL_law : Nat := 105
/-- an instruction of the method i -/
def mD (i pc len nx : Nat) (ins : Instr) : Prop := decode (mB i) pc = .ok (ins, len) ∧ pc + len = nx
