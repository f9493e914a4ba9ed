def RX0 : String := "AcreOffice$Field"
def TX0 : u_T := fun k => match k with
  | 0 => ("AcreOffice$Field", "easts", "[I", true)
  | 1 => ("AcreOffice$Field", "norths", "[I", true)
  | _ => ("AcreOffice$Field", "cornerCount", "I", false)
def tyX0 : Nat → FieldType := fun k => match k with
  | 0 => .array .int
  | 1 => .array .int
  | _ => .int
theorem nmX0 : ∀ a, a < 3 → ∀ b, b < 3 → a ≠ b → (TX0 a).2.1 ≠ (TX0 b).2.1 := by decide +kernel
theorem tyX0_ok : ∀ k, k < 3 → parseFieldDescriptor (TX0 k).2.2.1 = some (tyX0 k) := by decide +kernel
def RX1 : String := "AcreOffice$History"
def TX1 : u_T := fun k => match k with
  | 0 => ("AcreOffice$History", "states", "[LAcreOffice$State;", true)
  | 1 => ("AcreOffice$History", "next", "I", false)
  | _ => ("AcreOffice$History", "count", "I", false)
def tyX1 : Nat → FieldType := fun k => match k with
  | 0 => .array (.object "AcreOffice$State")
  | 1 => .int
  | _ => .int
theorem nmX1 : ∀ a, a < 3 → ∀ b, b < 3 → a ≠ b → (TX1 a).2.1 ≠ (TX1 b).2.1 := by decide +kernel
theorem tyX1_ok : ∀ k, k < 3 → parseFieldDescriptor (TX1 k).2.2.1 = some (tyX1 k) := by decide +kernel
def RX2 : String := "AcreOffice$Orders"
def TX2 : u_T := fun k => match k with
  | 0 => ("AcreOffice$Orders", "signs", "[C", true)
  | 1 => ("AcreOffice$Orders", "signCount", "I", false)
  | 2 => ("AcreOffice$Orders", "kinds", "[I", true)
  | 3 => ("AcreOffice$Orders", "easts", "[I", true)
  | 4 => ("AcreOffice$Orders", "norths", "[I", true)
  | 5 => ("AcreOffice$Orders", "lengths", "[I", true)
  | 6 => ("AcreOffice$Orders", "fieldNumbers", "[I", true)
  | 7 => ("AcreOffice$Orders", "orderCount", "I", false)
  | 8 => ("AcreOffice$Orders", "expected", "I", false)
  | 9 => ("AcreOffice$Orders", "direction", "I", false)
  | _ => ("AcreOffice$Orders", "number", "I", false)
def tyX2 : Nat → FieldType := fun k => match k with
  | 0 => .array .char
  | 1 => .int
  | 2 => .array .int
  | 3 => .array .int
  | 4 => .array .int
  | 5 => .array .int
  | 6 => .array .int
  | 7 => .int
  | 8 => .int
  | 9 => .int
  | _ => .int
theorem nmX2 : ∀ a, a < 11 → ∀ b, b < 11 → a ≠ b → (TX2 a).2.1 ≠ (TX2 b).2.1 := by decide +kernel
theorem tyX2_ok : ∀ k, k < 11 → parseFieldDescriptor (TX2 k).2.2.1 = some (tyX2 k) := by decide +kernel
def RX3 : String := "AcreOffice$State"
def TX3 : u_T := fun k => match k with
  | 0 => ("AcreOffice$State", "traverse", "LAcreOffice$Traverse;", true)
  | 1 => ("AcreOffice$State", "kept", "[LAcreOffice$Field;", true)
  | _ => ("AcreOffice$State", "fieldCount", "I", false)
def tyX3 : Nat → FieldType := fun k => match k with
  | 0 => .object "AcreOffice$Traverse"
  | 1 => .array (.object "AcreOffice$Field")
  | _ => .int
theorem nmX3 : ∀ a, a < 3 → ∀ b, b < 3 → a ≠ b → (TX3 a).2.1 ≠ (TX3 b).2.1 := by decide +kernel
theorem tyX3_ok : ∀ k, k < 3 → parseFieldDescriptor (TX3 k).2.2.1 = some (tyX3 k) := by decide +kernel
def RX4 : String := "AcreOffice$Traverse"
def TX4 : u_T := fun k => match k with
  | 0 => ("AcreOffice$Traverse", "eastBefore", "[I", true)
  | 1 => ("AcreOffice$Traverse", "northBefore", "[I", true)
  | 2 => ("AcreOffice$Traverse", "lengthBefore", "[I", true)
  | 3 => ("AcreOffice$Traverse", "originEast", "I", false)
  | 4 => ("AcreOffice$Traverse", "originNorth", "I", false)
  | _ => ("AcreOffice$Traverse", "legCount", "I", false)
def tyX4 : Nat → FieldType := fun k => match k with
  | 0 => .array .int
  | 1 => .array .int
  | 2 => .array .int
  | 3 => .int
  | 4 => .int
  | _ => .int
theorem nmX4 : ∀ a, a < 6 → ∀ b, b < 6 → a ≠ b → (TX4 a).2.1 ≠ (TX4 b).2.1 := by decide +kernel
theorem tyX4_ok : ∀ k, k < 6 → parseFieldDescriptor (TX4 k).2.2.1 = some (tyX4 k) := by decide +kernel
def RX5 : String := "AcreOffice"
def TX5 : u_T := fun k => match k with
  | 0 => ("AcreOffice", "now", "LAcreOffice$State;", true)
  | 1 => ("AcreOffice", "trial", "LAcreOffice$State;", true)
  | 2 => ("AcreOffice", "snapshot", "LAcreOffice$State;", true)
  | 3 => ("AcreOffice", "history", "LAcreOffice$History;", true)
  | 4 => ("AcreOffice", "orders", "LAcreOffice$Orders;", true)
  | _ => ("AcreOffice", "snapshotTaken", "Z", false)
def tyX5 : Nat → FieldType := fun k => match k with
  | 0 => .object "AcreOffice$State"
  | 1 => .object "AcreOffice$State"
  | 2 => .object "AcreOffice$State"
  | 3 => .object "AcreOffice$History"
  | 4 => .object "AcreOffice$Orders"
  | _ => .boolean
theorem nmX5 : ∀ a, a < 6 → ∀ b, b < 6 → a ≠ b → (TX5 a).2.1 ≠ (TX5 b).2.1 := by decide +kernel
theorem tyX5_ok : ∀ k, k < 6 → parseFieldDescriptor (TX5 k).2.2.1 = some (tyX5 k) := by decide +kernel
def RX6 : String := "AcreOfficeModel"
def TX6 : u_T := fun k => match k with
  | 0 => ("AcreOfficeModel", "thrown", "I", false)
  | 1 => ("AcreOfficeModel", "s", "[I", true)
  | 2 => ("AcreOfficeModel", "aside", "[I", true)
  | 3 => ("AcreOfficeModel", "snapshot", "[I", true)
  | 4 => ("AcreOfficeModel", "isKept", "Z", false)
  | 5 => ("AcreOfficeModel", "recorded", "[I", true)
  | 6 => ("AcreOfficeModel", "recordedMany", "I", false)
  | 7 => ("AcreOfficeModel", "text", "[I", true)
  | _ => ("AcreOfficeModel", "length", "I", false)
def tyX6 : Nat → FieldType := fun k => match k with
  | 0 => .int
  | 1 => .array .int
  | 2 => .array .int
  | 3 => .array .int
  | 4 => .boolean
  | 5 => .array .int
  | 6 => .int
  | 7 => .array .int
  | _ => .int
theorem nmX6 : ∀ a, a < 9 → ∀ b, b < 9 → a ≠ b → (TX6 a).2.1 ≠ (TX6 b).2.1 := by decide +kernel
theorem tyX6_ok : ∀ k, k < 9 → parseFieldDescriptor (TX6 k).2.2.1 = some (tyX6 k) := by decide +kernel
def RL : String := "AcreOfficeLaw"
def mTE : u_T := fun _ => ("", "", "", false)
def tIAE : String := "java/lang/IllegalArgumentException"
def tISE : String := "java/lang/IllegalStateException"
def tIOB : String := "java/lang/IndexOutOfBoundsException"
abbrev mCl : List vw_C := [(RX0, TX0, 3), (RX1, TX1, 3), (RX2, TX2, 11), (RX3, TX3, 3), (RX4, TX4, 6), (RX5, TX5, 6), (RX6, TX6, 9), (tIAE, mTE, 0), (tISE, mTE, 0), (tIOB, mTE, 0)]
abbrev mMT : Type := MethodName × ByteArray × Nat × Option FieldType × List (Nat × Nat × Nat × Nat)
def mTab_0 : List mMT := [
  (⟨"AcreOffice$Field", "<init>", "()V"⟩, prog_2_method_1_code, 1, (Option.none : Option Jvm.ClassFile.FieldType), []),
  (⟨"AcreOffice$Field", "copyFrom", "(LAcreOffice$Field;)V"⟩, prog_2_method_2_code, 2, (Option.none : Option Jvm.ClassFile.FieldType), []),
  (⟨"AcreOffice$Field", "dropCorners", "()V"⟩, prog_2_method_3_code, 1, (Option.none : Option Jvm.ClassFile.FieldType), []),
  (⟨"AcreOffice$Field", "appendCorner", "(II)V"⟩, prog_2_method_4_code, 3, (Option.none : Option Jvm.ClassFile.FieldType), []),
  (⟨"AcreOffice$Field", "hasCorner", "(I)Z"⟩, prog_2_method_5_code, 2, (Option.some Jvm.ClassFile.FieldType.boolean), []),
  (⟨"AcreOffice$Field", "eastAt", "(I)I"⟩, prog_2_method_6_code, 2, (Option.some Jvm.ClassFile.FieldType.int), []),
  (⟨"AcreOffice$Field", "northAt", "(I)I"⟩, prog_2_method_7_code, 2, (Option.some Jvm.ClassFile.FieldType.int), []),
  (⟨"AcreOffice$Field", "cornerAfter", "(I)I"⟩, prog_2_method_8_code, 2, (Option.some Jvm.ClassFile.FieldType.int), []),
  (⟨"AcreOffice$Field", "cornerBefore", "(I)I"⟩, prog_2_method_9_code, 2, (Option.some Jvm.ClassFile.FieldType.int), []),
  (⟨"AcreOffice$Field", "sideEast", "(I)J"⟩, prog_2_method_10_code, 2, (Option.some Jvm.ClassFile.FieldType.long), []),
  (⟨"AcreOffice$Field", "sideNorth", "(I)J"⟩, prog_2_method_11_code, 2, (Option.some Jvm.ClassFile.FieldType.long), []),
  (⟨"AcreOffice$Field", "turnAt", "(I)J"⟩, prog_2_method_12_code, 3, (Option.some Jvm.ClassFile.FieldType.long), []),
  (⟨"AcreOffice$Field", "turnsToTheLeft", "()I"⟩, prog_2_method_13_code, 3, (Option.some Jvm.ClassFile.FieldType.int), []),
  (⟨"AcreOffice$Field", "turnsToTheRight", "()I"⟩, prog_2_method_14_code, 3, (Option.some Jvm.ClassFile.FieldType.int), []),
  (⟨"AcreOffice$Field", "sidesMetFrom", "(II)I"⟩, prog_2_method_15_code, 5, (Option.some Jvm.ClassFile.FieldType.int), []),
  (⟨"AcreOffice$Field", "isMetFrom", "(IIII)Z"⟩, prog_2_method_16_code, 15, (Option.some Jvm.ClassFile.FieldType.boolean), []),
  (⟨"AcreOffice$Field", "sidesAlsoOf", "(LAcreOffice$Field;)I"⟩, prog_2_method_17_code, 4, (Option.some Jvm.ClassFile.FieldType.int), []),
  (⟨"AcreOffice$Field", "hasSide", "(LAcreOffice$Field;II)Z"⟩, prog_2_method_18_code, 6, (Option.some Jvm.ClassFile.FieldType.boolean), []),
  (⟨"AcreOffice$Field", "isSamePoint", "(ILAcreOffice$Field;I)Z"⟩, prog_2_method_19_code, 4, (Option.some Jvm.ClassFile.FieldType.boolean), []),
  (⟨"AcreOffice$Field", "twiceByCorners", "()J"⟩, prog_2_method_20_code, 5, (Option.some Jvm.ClassFile.FieldType.long), []),
  (⟨"AcreOffice$Field", "twiceByStrips", "()J"⟩, prog_2_method_21_code, 6, (Option.some Jvm.ClassFile.FieldType.long), []),
  (⟨"AcreOffice$Field", "area", "()J"⟩, prog_2_method_22_code, 1, (Option.some Jvm.ClassFile.FieldType.long), []),
  (⟨"AcreOffice$Field", "extentEast", "()I"⟩, prog_2_method_23_code, 1, (Option.some Jvm.ClassFile.FieldType.int), []),
  (⟨"AcreOffice$Field", "extentNorth", "()I"⟩, prog_2_method_24_code, 1, (Option.some Jvm.ClassFile.FieldType.int), []),
  (⟨"AcreOffice$Field", "extentOf", "([I)I"⟩, prog_2_method_25_code, 5, (Option.some Jvm.ClassFile.FieldType.int), []),
  (⟨"AcreOffice$History", "<init>", "()V"⟩, prog_3_method_1_code, 2, (Option.none : Option Jvm.ClassFile.FieldType), []),
  (⟨"AcreOffice$History", "remember", "(LAcreOffice$State;)V"⟩, prog_3_method_2_code, 2, (Option.none : Option Jvm.ClassFile.FieldType), []),
  (⟨"AcreOffice$History", "giveBack", "(LAcreOffice$State;)Z"⟩, prog_3_method_3_code, 2, (Option.some Jvm.ClassFile.FieldType.boolean), []),
  (⟨"AcreOffice$Orders", "<init>", "()V"⟩, prog_4_method_1_code, 1, (Option.none : Option Jvm.ClassFile.FieldType), []),
  (⟨"AcreOffice$Orders", "append", "(C)Z"⟩, prog_4_method_2_code, 2, (Option.some Jvm.ClassFile.FieldType.boolean), []),
  (⟨"AcreOffice$Orders", "dropText", "()I"⟩, prog_4_method_3_code, 2, (Option.some Jvm.ClassFile.FieldType.int), []),
  (⟨"AcreOffice$Orders", "firstError", "()I"⟩, prog_4_method_4_code, 2, (Option.some Jvm.ClassFile.FieldType.int), []),
  (⟨"AcreOffice$Orders", "accepts", "(C)Z"⟩, prog_4_method_5_code, 2, (Option.some Jvm.ClassFile.FieldType.boolean), []),
  (⟨"AcreOffice$Orders", "beginOrder", "(C)Z"⟩, prog_4_method_6_code, 2, (Option.some Jvm.ClassFile.FieldType.boolean), []),
  (⟨"AcreOffice$Orders", "noteKind", "(II)Z"⟩, prog_4_method_7_code, 3, (Option.some Jvm.ClassFile.FieldType.boolean), []),
  (⟨"AcreOffice$Orders", "endOrder", "(C)Z"⟩, prog_4_method_8_code, 2, (Option.some Jvm.ClassFile.FieldType.boolean), []),
  (⟨"AcreOffice$Orders", "readField", "(C)Z"⟩, prog_4_method_9_code, 2, (Option.some Jvm.ClassFile.FieldType.boolean), []),
  (⟨"AcreOffice$Orders", "beginNumber", "(CCI)Z"⟩, prog_4_method_10_code, 4, (Option.some Jvm.ClassFile.FieldType.boolean), []),
  (⟨"AcreOffice$Orders", "growNumber", "(CI)Z"⟩, prog_4_method_11_code, 4, (Option.some Jvm.ClassFile.FieldType.boolean), []),
  (⟨"AcreOffice$Orders", "endEast", "(C)Z"⟩, prog_4_method_12_code, 2, (Option.some Jvm.ClassFile.FieldType.boolean), [])]
def mTab_1 : List mMT := [
  (⟨"AcreOffice$Orders", "endNorth", "(C)Z"⟩, prog_4_method_13_code, 2, (Option.some Jvm.ClassFile.FieldType.boolean), []),
  (⟨"AcreOffice$Orders", "noteLength", "()Z"⟩, prog_4_method_14_code, 1, (Option.some Jvm.ClassFile.FieldType.boolean), []),
  (⟨"AcreOffice$Orders", "note", "([II)V"⟩, prog_4_method_15_code, 4, (Option.none : Option Jvm.ClassFile.FieldType), []),
  (⟨"AcreOffice$Orders", "firstFailureOn", "(LAcreOffice$State;)I"⟩, prog_4_method_16_code, 3, (Option.some Jvm.ClassFile.FieldType.int), []),
  (⟨"AcreOffice$Orders", "isCarriedOut", "(ILAcreOffice$State;)Z"⟩, prog_4_method_17_code, 3, (Option.some Jvm.ClassFile.FieldType.boolean), []),
  (⟨"AcreOffice$State", "<init>", "()V"⟩, prog_5_method_1_code, 2, (Option.none : Option Jvm.ClassFile.FieldType), []),
  (⟨"AcreOffice$State", "copyFrom", "(LAcreOffice$State;)V"⟩, prog_5_method_2_code, 3, (Option.none : Option Jvm.ClassFile.FieldType), []),
  (⟨"AcreOffice$State", "hasField", "(I)Z"⟩, prog_5_method_3_code, 2, (Option.some Jvm.ClassFile.FieldType.boolean), []),
  (⟨"AcreOffice$State", "keepTraverse", "()Z"⟩, prog_5_method_4_code, 3, (Option.some Jvm.ClassFile.FieldType.boolean), []),
  (⟨"AcreOffice$State", "dropField", "(I)Z"⟩, prog_5_method_5_code, 3, (Option.some Jvm.ClassFile.FieldType.boolean), []),
  (⟨"AcreOffice$State", "fieldOfGreatestArea", "()I"⟩, prog_5_method_6_code, 7, (Option.some Jvm.ClassFile.FieldType.int), []),
  (⟨"AcreOffice$State", "sumOfTwiceAreas", "()J"⟩, prog_5_method_7_code, 4, (Option.some Jvm.ClassFile.FieldType.long), []),
  (⟨"AcreOffice$Traverse", "<init>", "()V"⟩, prog_6_method_1_code, 1, (Option.none : Option Jvm.ClassFile.FieldType), []),
  (⟨"AcreOffice$Traverse", "copyFrom", "(LAcreOffice$Traverse;)V"⟩, prog_6_method_2_code, 2, (Option.none : Option Jvm.ClassFile.FieldType), []),
  (⟨"AcreOffice$Traverse", "append", "(III)Z"⟩, prog_6_method_3_code, 4, (Option.some Jvm.ClassFile.FieldType.boolean), []),
  (⟨"AcreOffice$Traverse", "dropLast", "()Z"⟩, prog_6_method_4_code, 1, (Option.some Jvm.ClassFile.FieldType.boolean), []),
  (⟨"AcreOffice$Traverse", "dropAllLegs", "()V"⟩, prog_6_method_5_code, 1, (Option.none : Option Jvm.ClassFile.FieldType), []),
  (⟨"AcreOffice$Traverse", "moveOrigin", "(II)V"⟩, prog_6_method_6_code, 3, (Option.none : Option Jvm.ClassFile.FieldType), []),
  (⟨"AcreOffice$Traverse", "hasCorner", "(I)Z"⟩, prog_6_method_7_code, 2, (Option.some Jvm.ClassFile.FieldType.boolean), []),
  (⟨"AcreOffice$Traverse", "measuredLength", "()I"⟩, prog_6_method_8_code, 1, (Option.some Jvm.ClassFile.FieldType.int), []),
  (⟨"AcreOffice$Traverse", "closingEast", "()I"⟩, prog_6_method_9_code, 1, (Option.some Jvm.ClassFile.FieldType.int), []),
  (⟨"AcreOffice$Traverse", "closingNorth", "()I"⟩, prog_6_method_10_code, 1, (Option.some Jvm.ClassFile.FieldType.int), []),
  (⟨"AcreOffice$Traverse", "closesWell", "()Z"⟩, prog_6_method_11_code, 2, (Option.some Jvm.ClassFile.FieldType.boolean), []),
  (⟨"AcreOffice$Traverse", "adjustedEastAt", "(I)I"⟩, prog_6_method_12_code, 2, (Option.some Jvm.ClassFile.FieldType.int), []),
  (⟨"AcreOffice$Traverse", "adjustedNorthAt", "(I)I"⟩, prog_6_method_13_code, 2, (Option.some Jvm.ClassFile.FieldType.int), []),
  (⟨"AcreOffice$Traverse", "shareOf", "(II)I"⟩, prog_6_method_14_code, 7, (Option.some Jvm.ClassFile.FieldType.int), []),
  (⟨"AcreOffice", "<init>", "()V"⟩, prog_1_method_1_code, 1, (Option.none : Option Jvm.ClassFile.FieldType), []),
  (⟨"AcreOffice", "addLeg", "(III)I"⟩, prog_1_method_2_code, 4, (Option.some Jvm.ClassFile.FieldType.int), []),
  (⟨"AcreOffice", "takeBack", "()I"⟩, prog_1_method_3_code, 1, (Option.some Jvm.ClassFile.FieldType.int), []),
  (⟨"AcreOffice", "setOrigin", "(II)I"⟩, prog_1_method_4_code, 3, (Option.some Jvm.ClassFile.FieldType.int), []),
  (⟨"AcreOffice", "keep", "()I"⟩, prog_1_method_5_code, 1, (Option.some Jvm.ClassFile.FieldType.int), []),
  (⟨"AcreOffice", "giveUp", "(I)I"⟩, prog_1_method_6_code, 2, (Option.some Jvm.ClassFile.FieldType.int), []),
  (⟨"AcreOffice", "type", "(C)I"⟩, prog_1_method_7_code, 2, (Option.some Jvm.ClassFile.FieldType.int), []),
  (⟨"AcreOffice", "clearText", "()I"⟩, prog_1_method_8_code, 1, (Option.some Jvm.ClassFile.FieldType.int), []),
  (⟨"AcreOffice", "textError", "()I"⟩, prog_1_method_9_code, 1, (Option.some Jvm.ClassFile.FieldType.int), []),
  (⟨"AcreOffice", "impossibleOrder", "()I"⟩, prog_1_method_10_code, 1, (Option.some Jvm.ClassFile.FieldType.int), []),
  (⟨"AcreOffice", "carryOut", "()I"⟩, prog_1_method_11_code, 1, (Option.some Jvm.ClassFile.FieldType.int), []),
  (⟨"AcreOffice", "undo", "()I"⟩, prog_1_method_12_code, 1, (Option.some Jvm.ClassFile.FieldType.int), []),
  (⟨"AcreOffice", "takeSnapshot", "()I"⟩, prog_1_method_13_code, 1, (Option.some Jvm.ClassFile.FieldType.int), []),
  (⟨"AcreOffice", "restoreSnapshot", "()I"⟩, prog_1_method_14_code, 1, (Option.some Jvm.ClassFile.FieldType.int), [])]
def mTab_2 : List mMT := [
  (⟨"AcreOffice", "legs", "()I"⟩, prog_1_method_15_code, 1, (Option.some Jvm.ClassFile.FieldType.int), []),
  (⟨"AcreOffice", "traverseLength", "()I"⟩, prog_1_method_16_code, 1, (Option.some Jvm.ClassFile.FieldType.int), []),
  (⟨"AcreOffice", "errorEast", "()I"⟩, prog_1_method_17_code, 1, (Option.some Jvm.ClassFile.FieldType.int), []),
  (⟨"AcreOffice", "errorNorth", "()I"⟩, prog_1_method_18_code, 1, (Option.some Jvm.ClassFile.FieldType.int), []),
  (⟨"AcreOffice", "isClose", "()Z"⟩, prog_1_method_19_code, 1, (Option.some Jvm.ClassFile.FieldType.boolean), []),
  (⟨"AcreOffice", "adjustedEast", "(I)I"⟩, prog_1_method_20_code, 2, (Option.some Jvm.ClassFile.FieldType.int), []),
  (⟨"AcreOffice", "adjustedNorth", "(I)I"⟩, prog_1_method_21_code, 2, (Option.some Jvm.ClassFile.FieldType.int), []),
  (⟨"AcreOffice", "fields", "()I"⟩, prog_1_method_22_code, 1, (Option.some Jvm.ClassFile.FieldType.int), []),
  (⟨"AcreOffice", "cornersOf", "(I)I"⟩, prog_1_method_23_code, 2, (Option.some Jvm.ClassFile.FieldType.int), []),
  (⟨"AcreOffice", "cornerEast", "(II)I"⟩, prog_1_method_24_code, 3, (Option.some Jvm.ClassFile.FieldType.int), []),
  (⟨"AcreOffice", "cornerNorth", "(II)I"⟩, prog_1_method_25_code, 3, (Option.some Jvm.ClassFile.FieldType.int), []),
  (⟨"AcreOffice", "leftTurns", "(I)I"⟩, prog_1_method_26_code, 2, (Option.some Jvm.ClassFile.FieldType.int), []),
  (⟨"AcreOffice", "turnsOneWay", "(I)Z"⟩, prog_1_method_27_code, 3, (Option.some Jvm.ClassFile.FieldType.boolean), []),
  (⟨"AcreOffice", "sidesEastOf", "(III)I"⟩, prog_1_method_28_code, 5, (Option.some Jvm.ClassFile.FieldType.int), []),
  (⟨"AcreOffice", "sharedSides", "(II)I"⟩, prog_1_method_29_code, 5, (Option.some Jvm.ClassFile.FieldType.int), []),
  (⟨"AcreOffice", "twiceAreaByCorners", "(I)J"⟩, prog_1_method_30_code, 2, (Option.some Jvm.ClassFile.FieldType.long), []),
  (⟨"AcreOffice", "twiceAreaByStrips", "(I)J"⟩, prog_1_method_31_code, 2, (Option.some Jvm.ClassFile.FieldType.long), []),
  (⟨"AcreOffice", "acresOf", "(I)I"⟩, prog_1_method_32_code, 2, (Option.some Jvm.ClassFile.FieldType.int), []),
  (⟨"AcreOffice", "roodsOf", "(I)I"⟩, prog_1_method_33_code, 2, (Option.some Jvm.ClassFile.FieldType.int), []),
  (⟨"AcreOffice", "perchesOf", "(I)I"⟩, prog_1_method_34_code, 2, (Option.some Jvm.ClassFile.FieldType.int), []),
  (⟨"AcreOffice", "largestField", "()I"⟩, prog_1_method_35_code, 1, (Option.some Jvm.ClassFile.FieldType.int), []),
  (⟨"AcreOffice", "twiceAreaOfAll", "()J"⟩, prog_1_method_36_code, 1, (Option.some Jvm.ClassFile.FieldType.long), []),
  (⟨"AcreOffice", "sheetsFor", "(II)I"⟩, prog_1_method_37_code, 5, (Option.some Jvm.ClassFile.FieldType.int), []),
  (⟨"AcreOffice", "scaleFor", "(I)I"⟩, prog_1_method_38_code, 5, (Option.some Jvm.ClassFile.FieldType.int), []),
  (⟨"AcreOffice", "recordedStates", "()I"⟩, prog_1_method_39_code, 1, (Option.some Jvm.ClassFile.FieldType.int), []),
  (⟨"AcreOffice", "beginTrial", "()V"⟩, prog_1_method_40_code, 1, (Option.none : Option Jvm.ClassFile.FieldType), []),
  (⟨"AcreOffice", "settleTrial", "()V"⟩, prog_1_method_41_code, 1, (Option.none : Option Jvm.ClassFile.FieldType), []),
  (⟨"AcreOffice", "knownField", "(I)LAcreOffice$Field;"⟩, prog_1_method_42_code, 2, (Option.some (Jvm.ClassFile.FieldType.object "AcreOffice$Field")), []),
  (⟨"AcreOffice", "fieldWithCorner", "(II)LAcreOffice$Field;"⟩, prog_1_method_43_code, 4, (Option.some (Jvm.ClassFile.FieldType.object "AcreOffice$Field")), []),
  (⟨"AcreOffice", "isWithin", "(II)Z"⟩, prog_1_method_44_code, 2, (Option.some Jvm.ClassFile.FieldType.boolean), []),
  (⟨"AcreOffice", "cellOf", "([II)I"⟩, prog_1_method_45_code, 2, (Option.some Jvm.ClassFile.FieldType.int), []),
  (⟨"AcreOffice", "piecesNeeded", "(II)I"⟩, prog_1_method_46_code, 2, (Option.some Jvm.ClassFile.FieldType.int), []),
  (⟨"AcreOfficeModel", "<init>", "()V"⟩, prog_8_method_1_code, 1, (Option.none : Option Jvm.ClassFile.FieldType), []),
  (⟨"AcreOfficeModel", "thrown", "()I"⟩, prog_8_method_2_code, 1, (Option.some Jvm.ClassFile.FieldType.int), []),
  (⟨"AcreOfficeModel", "in", "(III)Z"⟩, prog_8_method_3_code, 3, (Option.some Jvm.ClassFile.FieldType.boolean), []),
  (⟨"AcreOfficeModel", "holds", "(I)Z"⟩, prog_8_method_4_code, 2, (Option.some Jvm.ClassFile.FieldType.boolean), []),
  (⟨"AcreOfficeModel", "isField", "(I)Z"⟩, prog_8_method_5_code, 2, (Option.some Jvm.ClassFile.FieldType.boolean), []),
  (⟨"AcreOfficeModel", "corners", "(I)I"⟩, prog_8_method_6_code, 2, (Option.some Jvm.ClassFile.FieldType.int), []),
  (⟨"AcreOfficeModel", "isCorner", "(II)Z"⟩, prog_8_method_7_code, 3, (Option.some Jvm.ClassFile.FieldType.boolean), []),
  (⟨"AcreOfficeModel", "part", "(III)I"⟩, prog_8_method_8_code, 5, (Option.some Jvm.ClassFile.FieldType.int), [])]
def mTab_3 : List mMT := [
  (⟨"AcreOfficeModel", "records", "()V"⟩, prog_8_method_9_code, 2, (Option.none : Option Jvm.ClassFile.FieldType), []),
  (⟨"AcreOfficeModel", "putAside", "()V"⟩, prog_8_method_10_code, 2, (Option.none : Option Jvm.ClassFile.FieldType), []),
  (⟨"AcreOfficeModel", "putBack", "()V"⟩, prog_8_method_11_code, 2, (Option.none : Option Jvm.ClassFile.FieldType), []),
  (⟨"AcreOfficeModel", "sizeOf", "(J)J"⟩, prog_8_method_12_code, 2, (Option.some Jvm.ClassFile.FieldType.long), []),
  (⟨"AcreOfficeModel", "before", "(II)I"⟩, prog_8_method_13_code, 5, (Option.some Jvm.ClassFile.FieldType.int), []),
  (⟨"AcreOfficeModel", "error", "(I)I"⟩, prog_8_method_14_code, 2, (Option.some Jvm.ClassFile.FieldType.int), []),
  (⟨"AcreOfficeModel", "close", "()Z"⟩, prog_8_method_15_code, 1, (Option.some Jvm.ClassFile.FieldType.boolean), []),
  (⟨"AcreOfficeModel", "floor", "(JJ)J"⟩, prog_8_method_16_code, 6, (Option.some Jvm.ClassFile.FieldType.long), []),
  (⟨"AcreOfficeModel", "adjusted", "(II)I"⟩, prog_8_method_17_code, 4, (Option.some Jvm.ClassFile.FieldType.int), []),
  (⟨"AcreOfficeModel", "change", "(III)J"⟩, prog_8_method_18_code, 4, (Option.some Jvm.ClassFile.FieldType.long), []),
  (⟨"AcreOfficeModel", "twice", "(I)J"⟩, prog_8_method_19_code, 9, (Option.some Jvm.ClassFile.FieldType.long), []),
  (⟨"AcreOfficeModel", "turn", "(II)J"⟩, prog_8_method_20_code, 4, (Option.some Jvm.ClassFile.FieldType.long), []),
  (⟨"AcreOfficeModel", "turns", "(IZ)I"⟩, prog_8_method_21_code, 7, (Option.some Jvm.ClassFile.FieldType.int), []),
  (⟨"AcreOfficeModel", "isEast", "(IIII)Z"⟩, prog_8_method_22_code, 11, (Option.some Jvm.ClassFile.FieldType.boolean), []),
  (⟨"AcreOfficeModel", "isSame", "(IIII)Z"⟩, prog_8_method_23_code, 5, (Option.some Jvm.ClassFile.FieldType.boolean), []),
  (⟨"AcreOfficeModel", "isShared", "(III)Z"⟩, prog_8_method_24_code, 6, (Option.some Jvm.ClassFile.FieldType.boolean), []),
  (⟨"AcreOfficeModel", "extent", "(II)I"⟩, prog_8_method_25_code, 7, (Option.some Jvm.ClassFile.FieldType.int), []),
  (⟨"AcreOfficeModel", "wrongLeg", "(III)I"⟩, prog_8_method_26_code, 5, (Option.some Jvm.ClassFile.FieldType.int), []),
  (⟨"AcreOfficeModel", "adds", "(III)I"⟩, prog_8_method_27_code, 5, (Option.some Jvm.ClassFile.FieldType.int), []),
  (⟨"AcreOfficeModel", "takes", "()I"⟩, prog_8_method_28_code, 2, (Option.some Jvm.ClassFile.FieldType.int), []),
  (⟨"AcreOfficeModel", "lays", "()V"⟩, prog_8_method_29_code, 3, (Option.none : Option Jvm.ClassFile.FieldType), []),
  (⟨"AcreOfficeModel", "empties", "(I)V"⟩, prog_8_method_30_code, 3, (Option.none : Option Jvm.ClassFile.FieldType), []),
  (⟨"AcreOfficeModel", "canKeep", "()Z"⟩, prog_8_method_31_code, 2, (Option.some Jvm.ClassFile.FieldType.boolean), []),
  (⟨"AcreOfficeModel", "keeps", "()I"⟩, prog_8_method_32_code, 2, (Option.some Jvm.ClassFile.FieldType.int), []),
  (⟨"AcreOfficeModel", "gives", "(I)I"⟩, prog_8_method_33_code, 3, (Option.some Jvm.ClassFile.FieldType.int), []),
  (⟨"AcreOfficeModel", "addLeg", "(III)I"⟩, prog_8_method_34_code, 4, (Option.some Jvm.ClassFile.FieldType.int), []),
  (⟨"AcreOfficeModel", "takeBack", "()I"⟩, prog_8_method_35_code, 1, (Option.some Jvm.ClassFile.FieldType.int), []),
  (⟨"AcreOfficeModel", "setOrigin", "(II)I"⟩, prog_8_method_36_code, 3, (Option.some Jvm.ClassFile.FieldType.int), []),
  (⟨"AcreOfficeModel", "keep", "()I"⟩, prog_8_method_37_code, 1, (Option.some Jvm.ClassFile.FieldType.int), []),
  (⟨"AcreOfficeModel", "giveUp", "(I)I"⟩, prog_8_method_38_code, 2, (Option.some Jvm.ClassFile.FieldType.int), []),
  (⟨"AcreOfficeModel", "type", "(C)I"⟩, prog_8_method_39_code, 2, (Option.some Jvm.ClassFile.FieldType.int), []),
  (⟨"AcreOfficeModel", "clearText", "()I"⟩, prog_8_method_40_code, 2, (Option.some Jvm.ClassFile.FieldType.int), []),
  (⟨"AcreOfficeModel", "charAt", "(I)I"⟩, prog_8_method_41_code, 2, (Option.some Jvm.ClassFile.FieldType.int), []),
  (⟨"AcreOfficeModel", "behindNumber", "(III)I"⟩, prog_8_method_42_code, 6, (Option.some Jvm.ClassFile.FieldType.int), []),
  (⟨"AcreOfficeModel", "numberIn", "(II)I"⟩, prog_8_method_43_code, 5, (Option.some Jvm.ClassFile.FieldType.int), []),
  (⟨"AcreOfficeModel", "behindLeg", "(I)I"⟩, prog_8_method_44_code, 5, (Option.some Jvm.ClassFile.FieldType.int), []),
  (⟨"AcreOfficeModel", "behindOrder", "(I)I"⟩, prog_8_method_45_code, 3, (Option.some Jvm.ClassFile.FieldType.int), []),
  (⟨"AcreOfficeModel", "wrong", "()I"⟩, prog_8_method_46_code, 3, (Option.some Jvm.ClassFile.FieldType.int), []),
  (⟨"AcreOfficeModel", "textError", "()I"⟩, prog_8_method_47_code, 1, (Option.some Jvm.ClassFile.FieldType.int), []),
  (⟨"AcreOfficeModel", "doesLeg", "(I)Z"⟩, prog_8_method_48_code, 9, (Option.some Jvm.ClassFile.FieldType.boolean), [])]
def mTab_4 : List mMT := [
  (⟨"AcreOfficeModel", "does", "(I)Z"⟩, prog_8_method_49_code, 6, (Option.some Jvm.ClassFile.FieldType.boolean), []),
  (⟨"AcreOfficeModel", "doesAll", "()I"⟩, prog_8_method_50_code, 3, (Option.some Jvm.ClassFile.FieldType.int), []),
  (⟨"AcreOfficeModel", "stops", "()I"⟩, prog_8_method_51_code, 2, (Option.some Jvm.ClassFile.FieldType.int), []),
  (⟨"AcreOfficeModel", "impossibleOrder", "()I"⟩, prog_8_method_52_code, 1, (Option.some Jvm.ClassFile.FieldType.int), []),
  (⟨"AcreOfficeModel", "carryOut", "()I"⟩, prog_8_method_53_code, 4, (Option.some Jvm.ClassFile.FieldType.int), []),
  (⟨"AcreOfficeModel", "undo", "()I"⟩, prog_8_method_54_code, 2, (Option.some Jvm.ClassFile.FieldType.int), []),
  (⟨"AcreOfficeModel", "takeSnapshot", "()I"⟩, prog_8_method_55_code, 2, (Option.some Jvm.ClassFile.FieldType.int), []),
  (⟨"AcreOfficeModel", "restoreSnapshot", "()I"⟩, prog_8_method_56_code, 2, (Option.some Jvm.ClassFile.FieldType.int), []),
  (⟨"AcreOfficeModel", "legs", "()I"⟩, prog_8_method_57_code, 1, (Option.some Jvm.ClassFile.FieldType.int), []),
  (⟨"AcreOfficeModel", "traverseLength", "()I"⟩, prog_8_method_58_code, 1, (Option.some Jvm.ClassFile.FieldType.int), []),
  (⟨"AcreOfficeModel", "errorEast", "()I"⟩, prog_8_method_59_code, 1, (Option.some Jvm.ClassFile.FieldType.int), []),
  (⟨"AcreOfficeModel", "errorNorth", "()I"⟩, prog_8_method_60_code, 1, (Option.some Jvm.ClassFile.FieldType.int), []),
  (⟨"AcreOfficeModel", "isClose", "()Z"⟩, prog_8_method_61_code, 1, (Option.some Jvm.ClassFile.FieldType.boolean), []),
  (⟨"AcreOfficeModel", "adjustedEast", "(I)I"⟩, prog_8_method_62_code, 2, (Option.some Jvm.ClassFile.FieldType.int), []),
  (⟨"AcreOfficeModel", "adjustedNorth", "(I)I"⟩, prog_8_method_63_code, 2, (Option.some Jvm.ClassFile.FieldType.int), []),
  (⟨"AcreOfficeModel", "fields", "()I"⟩, prog_8_method_64_code, 1, (Option.some Jvm.ClassFile.FieldType.int), []),
  (⟨"AcreOfficeModel", "cornersOf", "(I)I"⟩, prog_8_method_65_code, 2, (Option.some Jvm.ClassFile.FieldType.int), []),
  (⟨"AcreOfficeModel", "cornerEast", "(II)I"⟩, prog_8_method_66_code, 3, (Option.some Jvm.ClassFile.FieldType.int), []),
  (⟨"AcreOfficeModel", "cornerNorth", "(II)I"⟩, prog_8_method_67_code, 3, (Option.some Jvm.ClassFile.FieldType.int), []),
  (⟨"AcreOfficeModel", "leftTurns", "(I)I"⟩, prog_8_method_68_code, 2, (Option.some Jvm.ClassFile.FieldType.int), []),
  (⟨"AcreOfficeModel", "turnsOneWay", "(I)Z"⟩, prog_8_method_69_code, 2, (Option.some Jvm.ClassFile.FieldType.boolean), []),
  (⟨"AcreOfficeModel", "sidesEastOf", "(III)I"⟩, prog_8_method_70_code, 6, (Option.some Jvm.ClassFile.FieldType.int), []),
  (⟨"AcreOfficeModel", "sharedSides", "(II)I"⟩, prog_8_method_71_code, 5, (Option.some Jvm.ClassFile.FieldType.int), []),
  (⟨"AcreOfficeModel", "twiceAreaByCorners", "(I)J"⟩, prog_8_method_72_code, 2, (Option.some Jvm.ClassFile.FieldType.long), []),
  (⟨"AcreOfficeModel", "twiceAreaByStrips", "(I)J"⟩, prog_8_method_73_code, 2, (Option.some Jvm.ClassFile.FieldType.long), []),
  (⟨"AcreOfficeModel", "area", "(I)J"⟩, prog_8_method_74_code, 2, (Option.some Jvm.ClassFile.FieldType.long), []),
  (⟨"AcreOfficeModel", "acresOf", "(I)I"⟩, prog_8_method_75_code, 2, (Option.some Jvm.ClassFile.FieldType.int), []),
  (⟨"AcreOfficeModel", "roodsOf", "(I)I"⟩, prog_8_method_76_code, 2, (Option.some Jvm.ClassFile.FieldType.int), []),
  (⟨"AcreOfficeModel", "perchesOf", "(I)I"⟩, prog_8_method_77_code, 2, (Option.some Jvm.ClassFile.FieldType.int), []),
  (⟨"AcreOfficeModel", "largestField", "()I"⟩, prog_8_method_78_code, 3, (Option.some Jvm.ClassFile.FieldType.int), []),
  (⟨"AcreOfficeModel", "twiceAreaOfAll", "()J"⟩, prog_8_method_79_code, 4, (Option.some Jvm.ClassFile.FieldType.long), []),
  (⟨"AcreOfficeModel", "up", "(II)I"⟩, prog_8_method_80_code, 3, (Option.some Jvm.ClassFile.FieldType.int), []),
  (⟨"AcreOfficeModel", "sheetsFor", "(II)I"⟩, prog_8_method_81_code, 3, (Option.some Jvm.ClassFile.FieldType.int), []),
  (⟨"AcreOfficeModel", "scaleFor", "(I)I"⟩, prog_8_method_82_code, 5, (Option.some Jvm.ClassFile.FieldType.int), []),
  (⟨"AcreOfficeModel", "recordedStates", "()I"⟩, prog_8_method_83_code, 1, (Option.some Jvm.ClassFile.FieldType.int), []),
  (⟨"java/lang/Math", "floorDiv", "(JJ)J"⟩, prog_13_method_49_code, 6, (Option.some Jvm.ClassFile.FieldType.long), []),
  (⟨"java/lang/Math", "abs", "(I)I"⟩, prog_13_method_59_code, 1, (Option.some Jvm.ClassFile.FieldType.int), []),
  (⟨"java/lang/Math", "abs", "(J)J"⟩, prog_13_method_61_code, 2, (Option.some Jvm.ClassFile.FieldType.long), []),
  (⟨"java/lang/Math", "max", "(II)I"⟩, prog_13_method_65_code, 2, (Option.some Jvm.ClassFile.FieldType.int), []),
  (⟨"java/lang/Math", "min", "(II)I"⟩, prog_13_method_69_code, 2, (Option.some Jvm.ClassFile.FieldType.int), [])]
def mTab_5 : List mMT := [
  (⟨"AcreOfficeLaw", "addLeg", "(LAcreOffice;III[J)I"⟩, method_3_code, 6, (Option.some Jvm.ClassFile.FieldType.int), [(0, 12, 15, 13), (0, 12, 19, 15)]),
  (⟨"AcreOfficeLaw", "takeBack", "(LAcreOffice;[J)I"⟩, method_4_code, 3, (Option.some Jvm.ClassFile.FieldType.int), [(0, 8, 11, 15)]),
  (⟨"AcreOfficeLaw", "setOrigin", "(LAcreOffice;II[J)I"⟩, method_5_code, 5, (Option.some Jvm.ClassFile.FieldType.int), [(0, 10, 13, 13)]),
  (⟨"AcreOfficeLaw", "keep", "(LAcreOffice;[J)I"⟩, method_6_code, 3, (Option.some Jvm.ClassFile.FieldType.int), [(0, 8, 11, 15)]),
  (⟨"AcreOfficeLaw", "giveUp", "(LAcreOffice;I[J)I"⟩, method_7_code, 4, (Option.some Jvm.ClassFile.FieldType.int), [(0, 9, 12, 32)]),
  (⟨"AcreOfficeLaw", "type", "(LAcreOffice;C[J)I"⟩, method_8_code, 4, (Option.some Jvm.ClassFile.FieldType.int), [(0, 9, 12, 15)]),
  (⟨"AcreOfficeLaw", "impossibleOrder", "(LAcreOffice;[J)I"⟩, method_9_code, 3, (Option.some Jvm.ClassFile.FieldType.int), [(0, 8, 11, 15)]),
  (⟨"AcreOfficeLaw", "carryOut", "(LAcreOffice;[J)I"⟩, method_10_code, 3, (Option.some Jvm.ClassFile.FieldType.int), [(0, 8, 11, 15)]),
  (⟨"AcreOfficeLaw", "undo", "(LAcreOffice;[J)I"⟩, method_11_code, 3, (Option.some Jvm.ClassFile.FieldType.int), [(0, 8, 11, 15)]),
  (⟨"AcreOfficeLaw", "restoreSnapshot", "(LAcreOffice;[J)I"⟩, method_12_code, 3, (Option.some Jvm.ClassFile.FieldType.int), [(0, 8, 11, 15)]),
  (⟨"AcreOfficeLaw", "adjustedEast", "(LAcreOffice;I[J)I"⟩, method_13_code, 4, (Option.some Jvm.ClassFile.FieldType.int), [(0, 9, 12, 32)]),
  (⟨"AcreOfficeLaw", "adjustedNorth", "(LAcreOffice;I[J)I"⟩, method_14_code, 4, (Option.some Jvm.ClassFile.FieldType.int), [(0, 9, 12, 32)]),
  (⟨"AcreOfficeLaw", "cornersOf", "(LAcreOffice;I[J)I"⟩, method_15_code, 4, (Option.some Jvm.ClassFile.FieldType.int), [(0, 9, 12, 32)]),
  (⟨"AcreOfficeLaw", "cornerEast", "(LAcreOffice;II[J)I"⟩, method_16_code, 5, (Option.some Jvm.ClassFile.FieldType.int), [(0, 10, 13, 32)]),
  (⟨"AcreOfficeLaw", "cornerNorth", "(LAcreOffice;II[J)I"⟩, method_17_code, 5, (Option.some Jvm.ClassFile.FieldType.int), [(0, 10, 13, 32)]),
  (⟨"AcreOfficeLaw", "leftTurns", "(LAcreOffice;I[J)I"⟩, method_18_code, 4, (Option.some Jvm.ClassFile.FieldType.int), [(0, 9, 12, 32)]),
  (⟨"AcreOfficeLaw", "turnsOneWay", "(LAcreOffice;I[J)I"⟩, method_19_code, 4, (Option.some Jvm.ClassFile.FieldType.int), [(0, 16, 19, 32)]),
  (⟨"AcreOfficeLaw", "sidesEastOf", "(LAcreOffice;III[J)I"⟩, method_20_code, 6, (Option.some Jvm.ClassFile.FieldType.int), [(0, 12, 15, 32), (0, 12, 19, 13)]),
  (⟨"AcreOfficeLaw", "sharedSides", "(LAcreOffice;II[J)I"⟩, method_21_code, 5, (Option.some Jvm.ClassFile.FieldType.int), [(0, 10, 13, 32)]),
  (⟨"AcreOfficeLaw", "twiceAreaByCorners", "(LAcreOffice;I[J)I"⟩, method_22_code, 4, (Option.some Jvm.ClassFile.FieldType.int), [(0, 8, 11, 32)]),
  (⟨"AcreOfficeLaw", "twiceAreaByStrips", "(LAcreOffice;I[J)I"⟩, method_23_code, 4, (Option.some Jvm.ClassFile.FieldType.int), [(0, 8, 11, 32)]),
  (⟨"AcreOfficeLaw", "acresOf", "(LAcreOffice;I[J)I"⟩, method_24_code, 4, (Option.some Jvm.ClassFile.FieldType.int), [(0, 9, 12, 32)]),
  (⟨"AcreOfficeLaw", "roodsOf", "(LAcreOffice;I[J)I"⟩, method_25_code, 4, (Option.some Jvm.ClassFile.FieldType.int), [(0, 9, 12, 32)]),
  (⟨"AcreOfficeLaw", "perchesOf", "(LAcreOffice;I[J)I"⟩, method_26_code, 4, (Option.some Jvm.ClassFile.FieldType.int), [(0, 9, 12, 32)]),
  (⟨"AcreOfficeLaw", "sheetsFor", "(LAcreOffice;II[J)I"⟩, method_27_code, 5, (Option.some Jvm.ClassFile.FieldType.int), [(0, 10, 13, 32), (0, 10, 17, 13)]),
  (⟨"AcreOfficeLaw", "scaleFor", "(LAcreOffice;I[J)I"⟩, method_28_code, 4, (Option.some Jvm.ClassFile.FieldType.int), [(0, 9, 12, 32)]),
  (⟨"AcreOfficeLaw", "law", "([I)Z"⟩, code, maxLocals, ret, [])]
def mTab : List mMT := mTab_0 ++ (mTab_1 ++ (mTab_2 ++ (mTab_3 ++ (mTab_4 ++ (mTab_5)))))
def mAt (i : Nat) : mMT := (mTab[i]?).getD (⟨"", "", ""⟩, ⟨#[]⟩, 0, none, [])
def mY (i : Nat) : MethodName := (mAt i).1
def mB (i : Nat) : ByteArray := (mAt i).2.1
def mL (i : Nat) : Nat := (mAt i).2.2.1
def mR (i : Nat) : Option FieldType := (mAt i).2.2.2.1
def mHH (i : Nat) : List (Nat × Nat × Nat × Nat) := (mAt i).2.2.2.2
def mC (i : Nat) : String := (mY i).cls
abbrev iF_init : Nat := 0
abbrev iF_copyFrom : Nat := 1
abbrev iF_dropCorners : Nat := 2
abbrev iF_appendCorner : Nat := 3
abbrev iF_hasCorner : Nat := 4
abbrev iF_eastAt : Nat := 5
abbrev iF_northAt : Nat := 6
abbrev iF_cornerAfter : Nat := 7
abbrev iF_cornerBefore : Nat := 8
abbrev iF_sideEast : Nat := 9
abbrev iF_sideNorth : Nat := 10
abbrev iF_turnAt : Nat := 11
abbrev iF_turnsToTheLeft : Nat := 12
abbrev iF_turnsToTheRight : Nat := 13
abbrev iF_sidesMetFrom : Nat := 14
abbrev iF_isMetFrom : Nat := 15
abbrev iF_sidesAlsoOf : Nat := 16
abbrev iF_hasSide : Nat := 17
abbrev iF_isSamePoint : Nat := 18
abbrev iF_twiceByCorners : Nat := 19
abbrev iF_twiceByStrips : Nat := 20
abbrev iF_area : Nat := 21
abbrev iF_extentEast : Nat := 22
abbrev iF_extentNorth : Nat := 23
abbrev iF_extentOf : Nat := 24
abbrev iH_init : Nat := 25
abbrev iH_remember : Nat := 26
abbrev iH_giveBack : Nat := 27
abbrev iO_init : Nat := 28
abbrev iO_append : Nat := 29
abbrev iO_dropText : Nat := 30
abbrev iO_firstError : Nat := 31
abbrev iO_accepts : Nat := 32
abbrev iO_beginOrder : Nat := 33
abbrev iO_noteKind : Nat := 34
abbrev iO_endOrder : Nat := 35
abbrev iO_readField : Nat := 36
abbrev iO_beginNumber : Nat := 37
abbrev iO_growNumber : Nat := 38
abbrev iO_endEast : Nat := 39
abbrev iO_endNorth : Nat := 40
abbrev iO_noteLength : Nat := 41
abbrev iO_note : Nat := 42
abbrev iO_firstFailureOn : Nat := 43
abbrev iO_isCarriedOut : Nat := 44
abbrev iS_init : Nat := 45
abbrev iS_copyFrom : Nat := 46
abbrev iS_hasField : Nat := 47
abbrev iS_keepTraverse : Nat := 48
abbrev iS_dropField : Nat := 49
abbrev iS_fieldOfGreatestArea : Nat := 50
abbrev iS_sumOfTwiceAreas : Nat := 51
abbrev iT_init : Nat := 52
abbrev iT_copyFrom : Nat := 53
abbrev iT_append : Nat := 54
abbrev iT_dropLast : Nat := 55
abbrev iT_dropAllLegs : Nat := 56
abbrev iT_moveOrigin : Nat := 57
abbrev iT_hasCorner : Nat := 58
abbrev iT_measuredLength : Nat := 59
abbrev iT_closingEast : Nat := 60
abbrev iT_closingNorth : Nat := 61
abbrev iT_closesWell : Nat := 62
abbrev iT_adjustedEastAt : Nat := 63
abbrev iT_adjustedNorthAt : Nat := 64
abbrev iT_shareOf : Nat := 65
abbrev iA_init : Nat := 66
abbrev iA_addLeg : Nat := 67
abbrev iA_takeBack : Nat := 68
abbrev iA_setOrigin : Nat := 69
abbrev iA_keep : Nat := 70
abbrev iA_giveUp : Nat := 71
abbrev iA_type : Nat := 72
abbrev iA_clearText : Nat := 73
abbrev iA_textError : Nat := 74
abbrev iA_impossibleOrder : Nat := 75
abbrev iA_carryOut : Nat := 76
abbrev iA_undo : Nat := 77
abbrev iA_takeSnapshot : Nat := 78
abbrev iA_restoreSnapshot : Nat := 79
abbrev iA_legs : Nat := 80
abbrev iA_traverseLength : Nat := 81
abbrev iA_errorEast : Nat := 82
abbrev iA_errorNorth : Nat := 83
abbrev iA_isClose : Nat := 84
abbrev iA_adjustedEast : Nat := 85
abbrev iA_adjustedNorth : Nat := 86
abbrev iA_fields : Nat := 87
abbrev iA_cornersOf : Nat := 88
abbrev iA_cornerEast : Nat := 89
abbrev iA_cornerNorth : Nat := 90
abbrev iA_leftTurns : Nat := 91
abbrev iA_turnsOneWay : Nat := 92
abbrev iA_sidesEastOf : Nat := 93
abbrev iA_sharedSides : Nat := 94
abbrev iA_twiceAreaByCorners : Nat := 95
abbrev iA_twiceAreaByStrips : Nat := 96
abbrev iA_acresOf : Nat := 97
abbrev iA_roodsOf : Nat := 98
abbrev iA_perchesOf : Nat := 99
abbrev iA_largestField : Nat := 100
abbrev iA_twiceAreaOfAll : Nat := 101
abbrev iA_sheetsFor : Nat := 102
abbrev iA_scaleFor : Nat := 103
abbrev iA_recordedStates : Nat := 104
abbrev iA_beginTrial : Nat := 105
abbrev iA_settleTrial : Nat := 106
abbrev iA_knownField : Nat := 107
abbrev iA_fieldWithCorner : Nat := 108
abbrev iA_isWithin : Nat := 109
abbrev iA_cellOf : Nat := 110
abbrev iA_piecesNeeded : Nat := 111
abbrev iM_init : Nat := 112
abbrev iM_thrown : Nat := 113
abbrev iM_in : Nat := 114
abbrev iM_holds : Nat := 115
abbrev iM_isField : Nat := 116
abbrev iM_corners : Nat := 117
abbrev iM_isCorner : Nat := 118
abbrev iM_part : Nat := 119
abbrev iM_records : Nat := 120
abbrev iM_putAside : Nat := 121
abbrev iM_putBack : Nat := 122
abbrev iM_sizeOf : Nat := 123
abbrev iM_before : Nat := 124
abbrev iM_error : Nat := 125
abbrev iM_close : Nat := 126
abbrev iM_floor : Nat := 127
abbrev iM_adjusted : Nat := 128
abbrev iM_change : Nat := 129
abbrev iM_twice : Nat := 130
abbrev iM_turn : Nat := 131
abbrev iM_turns : Nat := 132
abbrev iM_isEast : Nat := 133
abbrev iM_isSame : Nat := 134
abbrev iM_isShared : Nat := 135
abbrev iM_extent : Nat := 136
abbrev iM_wrongLeg : Nat := 137
abbrev iM_adds : Nat := 138
abbrev iM_takes : Nat := 139
abbrev iM_lays : Nat := 140
abbrev iM_empties : Nat := 141
abbrev iM_canKeep : Nat := 142
abbrev iM_keeps : Nat := 143
abbrev iM_gives : Nat := 144
abbrev iM_addLeg : Nat := 145
abbrev iM_takeBack : Nat := 146
abbrev iM_setOrigin : Nat := 147
abbrev iM_keep : Nat := 148
abbrev iM_giveUp : Nat := 149
abbrev iM_type : Nat := 150
abbrev iM_clearText : Nat := 151
abbrev iM_charAt : Nat := 152
abbrev iM_behindNumber : Nat := 153
abbrev iM_numberIn : Nat := 154
abbrev iM_behindLeg : Nat := 155
abbrev iM_behindOrder : Nat := 156
abbrev iM_wrong : Nat := 157
abbrev iM_textError : Nat := 158
abbrev iM_doesLeg : Nat := 159
abbrev iM_does : Nat := 160
abbrev iM_doesAll : Nat := 161
abbrev iM_stops : Nat := 162
abbrev iM_impossibleOrder : Nat := 163
abbrev iM_carryOut : Nat := 164
abbrev iM_undo : Nat := 165
abbrev iM_takeSnapshot : Nat := 166
abbrev iM_restoreSnapshot : Nat := 167
abbrev iM_legs : Nat := 168
abbrev iM_traverseLength : Nat := 169
abbrev iM_errorEast : Nat := 170
abbrev iM_errorNorth : Nat := 171
abbrev iM_isClose : Nat := 172
abbrev iM_adjustedEast : Nat := 173
abbrev iM_adjustedNorth : Nat := 174
abbrev iM_fields : Nat := 175
abbrev iM_cornersOf : Nat := 176
abbrev iM_cornerEast : Nat := 177
abbrev iM_cornerNorth : Nat := 178
abbrev iM_leftTurns : Nat := 179
abbrev iM_turnsOneWay : Nat := 180
abbrev iM_sidesEastOf : Nat := 181
abbrev iM_sharedSides : Nat := 182
abbrev iM_twiceAreaByCorners : Nat := 183
abbrev iM_twiceAreaByStrips : Nat := 184
abbrev iM_area : Nat := 185
abbrev iM_acresOf : Nat := 186
abbrev iM_roodsOf : Nat := 187
abbrev iM_perchesOf : Nat := 188
abbrev iM_largestField : Nat := 189
abbrev iM_twiceAreaOfAll : Nat := 190
abbrev iM_up : Nat := 191
abbrev iM_sheetsFor : Nat := 192
abbrev iM_scaleFor : Nat := 193
abbrev iM_recordedStates : Nat := 194
abbrev iJ_floorDiv : Nat := 195
abbrev iJ_absI : Nat := 196
abbrev iJ_absL : Nat := 197
abbrev iJ_max : Nat := 198
abbrev iJ_min : Nat := 199
abbrev iL_addLeg : Nat := 200
abbrev iL_takeBack : Nat := 201
abbrev iL_setOrigin : Nat := 202
abbrev iL_keep : Nat := 203
abbrev iL_giveUp : Nat := 204
abbrev iL_type : Nat := 205
abbrev iL_impossibleOrder : Nat := 206
abbrev iL_carryOut : Nat := 207
abbrev iL_undo : Nat := 208
abbrev iL_restoreSnapshot : Nat := 209
abbrev iL_adjustedEast : Nat := 210
abbrev iL_adjustedNorth : Nat := 211
abbrev iL_cornersOf : Nat := 212
abbrev iL_cornerEast : Nat := 213
abbrev iL_cornerNorth : Nat := 214
abbrev iL_leftTurns : Nat := 215
abbrev iL_turnsOneWay : Nat := 216
abbrev iL_sidesEastOf : Nat := 217
abbrev iL_sharedSides : Nat := 218
abbrev iL_twiceAreaByCorners : Nat := 219
abbrev iL_twiceAreaByStrips : Nat := 220
abbrev iL_acresOf : Nat := 221
abbrev iL_roodsOf : Nat := 222
abbrev iL_perchesOf : Nat := 223
abbrev iL_sheetsFor : Nat := 224
abbrev iL_scaleFor : Nat := 225
abbrev iL_law : Nat := 226
/-- an instruction of the method i -/
def mD (i pc len nx : Nat) (ins : Instr) : Prop := decode (mB i) pc = .ok (ins, len) ∧ pc + len = nx
