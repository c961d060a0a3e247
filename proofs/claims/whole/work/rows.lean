section
def RX0 : String := "PrintRegister$Controller"
def TX0 : u_T := fun k => match k with
  | 0 => ("PrintRegister$Controller", "feed", "I", false)
  | 1 => ("PrintRegister$Controller", "sum", "I", false)
  | 2 => ("PrintRegister$Controller", "wait", "I", false)
  | 3 => ("PrintRegister$Controller", "misses", "I", false)
  | 4 => ("PrintRegister$Controller", "readyTime", "I", false)
  | 5 => ("PrintRegister$Controller", "expectedError", "I", false)
  | 6 => ("PrintRegister$Controller", "expectedSkew", "I", false)
  | 7 => ("PrintRegister$Controller", "addedPhase", "I", false)
  | _ => ("PrintRegister$Controller", "addedSkew", "I", false)
def tyX0 : Nat → FieldType := fun k => match k with
  | 0 => .int
  | 1 => .int
  | 2 => .int
  | 3 => .int
  | 4 => .int
  | 5 => .int
  | 6 => .int
  | 7 => .int
  | _ => .int
abbrev wsX00 : List Cond := u_ws RX0 TX0 9
theorem nmX0 : ∀ a, a < 9 → ∀ b, b < 9 → a ≠ b → (TX0 a).2.1 ≠ (TX0 b).2.1 := by decide +kernel
theorem tyX0_ok : ∀ k, k < 9 → parseFieldDescriptor (TX0 k).2.2.1 = some (tyX0 k) := by decide +kernel
abbrev cX0_init : ByteArray := prog_2_method_1_code
def yX0_init : MethodName := ⟨RX0, "<init>", "()V"⟩
abbrev cX0_clear : ByteArray := prog_2_method_2_code
def yX0_clear : MethodName := ⟨RX0, "clear", "()V"⟩
abbrev cX0_copyFrom : ByteArray := prog_2_method_3_code
def yX0_copyFrom : MethodName := ⟨RX0, "copyFrom", "(LPrintRegister$Controller;)V"⟩
abbrev cX0_endRepeat : ByteArray := prog_2_method_4_code
def yX0_endRepeat : MethodName := ⟨RX0, "endRepeat", "()V"⟩
def RX1 : String := "PrintRegister$ErrorLog"
def TX1 : u_T := fun k => match k with
  | 0 => ("PrintRegister$ErrorLog", "places", "[I", true)
  | _ => ("PrintRegister$ErrorLog", "added", "I", false)
def tyX1 : Nat → FieldType := fun k => match k with
  | 0 => .array .int
  | _ => .int
abbrev wsX10 : List Cond := u_ws RX1 TX1 2
theorem nmX1 : ∀ a, a < 2 → ∀ b, b < 2 → a ≠ b → (TX1 a).2.1 ≠ (TX1 b).2.1 := by decide +kernel
theorem tyX1_ok : ∀ k, k < 2 → parseFieldDescriptor (TX1 k).2.2.1 = some (tyX1 k) := by decide +kernel
abbrev cX1_init : ByteArray := prog_3_method_1_code
def yX1_init : MethodName := ⟨RX1, "<init>", "()V"⟩
abbrev cX1_begin : ByteArray := prog_3_method_2_code
def yX1_begin : MethodName := ⟨RX1, "begin", "()V"⟩
abbrev cX1_copyFrom : ByteArray := prog_3_method_3_code
def yX1_copyFrom : MethodName := ⟨RX1, "copyFrom", "(LPrintRegister$ErrorLog;)V"⟩
abbrev cX1_add : ByteArray := prog_3_method_4_code
def yX1_add : MethodName := ⟨RX1, "add", "(I)V"⟩
abbrev cX1_kept : ByteArray := prog_3_method_5_code
def yX1_kept : MethodName := ⟨RX1, "kept", "(I)I"⟩
abbrev cX1_sizeOf : ByteArray := prog_3_method_6_code
def yX1_sizeOf : MethodName := ⟨RX1, "sizeOf", "(I)I"⟩
abbrev cX1_greatest : ByteArray := prog_3_method_7_code
def yX1_greatest : MethodName := ⟨RX1, "greatest", "(I)I"⟩
abbrev cX1_sumOf : ByteArray := prog_3_method_8_code
def yX1_sumOf : MethodName := ⟨RX1, "sumOf", "(I)I"⟩
abbrev cX1_greaterThan : ByteArray := prog_3_method_9_code
def yX1_greaterThan : MethodName := ⟨RX1, "greaterThan", "(II)I"⟩
def RX2 : String := "PrintRegister$Pad"
def TX2 : u_T := fun k => match k with
  | 0 => ("PrintRegister$Pad", "codes", "[I", true)
  | 1 => ("PrintRegister$Pad", "length", "I", false)
  | 2 => ("PrintRegister$Pad", "at", "I", false)
  | 3 => ("PrintRegister$Pad", "failed", "Z", false)
  | 4 => ("PrintRegister$Pad", "kind", "I", false)
  | 5 => ("PrintRegister$Pad", "unit", "I", false)
  | 6 => ("PrintRegister$Pad", "number", "I", false)
  | 7 => ("PrintRegister$Pad", "duration", "I", false)
  | 8 => ("PrintRegister$Pad", "repeats", "I", false)
  | _ => ("PrintRegister$Pad", "greatestUnit", "I", false)
def tyX2 : Nat → FieldType := fun k => match k with
  | 0 => .array .int
  | 1 => .int
  | 2 => .int
  | 3 => .boolean
  | 4 => .int
  | 5 => .int
  | 6 => .int
  | 7 => .int
  | 8 => .int
  | _ => .int
abbrev wsX20 : List Cond := u_ws RX2 TX2 10
theorem nmX2 : ∀ a, a < 10 → ∀ b, b < 10 → a ≠ b → (TX2 a).2.1 ≠ (TX2 b).2.1 := by decide +kernel
theorem tyX2_ok : ∀ k, k < 10 → parseFieldDescriptor (TX2 k).2.2.1 = some (tyX2 k) := by decide +kernel
abbrev cX2_init : ByteArray := prog_4_method_1_code
def yX2_init : MethodName := ⟨RX2, "<init>", "()V"⟩
abbrev cX2_append : ByteArray := prog_4_method_2_code
def yX2_append : MethodName := ⟨RX2, "append", "(I)V"⟩
abbrev cX2_codeAt : ByteArray := prog_4_method_3_code
def yX2_codeAt : MethodName := ⟨RX2, "codeAt", "(I)I"⟩
abbrev cX2_beginReading : ByteArray := prog_4_method_4_code
def yX2_beginReading : MethodName := ⟨RX2, "beginReading", "()V"⟩
abbrev cX2_hasMore : ByteArray := prog_4_method_5_code
def yX2_hasMore : MethodName := ⟨RX2, "hasMore", "()Z"⟩
abbrev cX2_readAll : ByteArray := prog_4_method_6_code
def yX2_readAll : MethodName := ⟨RX2, "readAll", "()V"⟩
abbrev cX2_readStep : ByteArray := prog_4_method_7_code
def yX2_readStep : MethodName := ⟨RX2, "readStep", "()V"⟩
abbrev cX2_readSign : ByteArray := prog_4_method_8_code
def yX2_readSign : MethodName := ⟨RX2, "readSign", "(C)V"⟩
abbrev cX2_readUnit : ByteArray := prog_4_method_9_code
def yX2_readUnit : MethodName := ⟨RX2, "readUnit", "()I"⟩
abbrev cX2_readDisturbance : ByteArray := prog_4_method_10_code
def yX2_readDisturbance : MethodName := ⟨RX2, "readDisturbance", "()V"⟩
abbrev cX2_readNumber : ByteArray := prog_4_method_11_code
def yX2_readNumber : MethodName := ⟨RX2, "readNumber", "(II)I"⟩
abbrev cX2_digitAt : ByteArray := prog_4_method_12_code
def yX2_digitAt : MethodName := ⟨RX2, "digitAt", "(I)I"⟩
def RX3 : String := "PrintRegister$Press"
def TX3 : u_T := fun k => match k with
  | 0 => ("PrintRegister$Press", "units", "[LPrintRegister$Unit;", true)
  | 1 => ("PrintRegister$Press", "changes", "[I", true)
  | 2 => ("PrintRegister$Press", "totals", "[I", true)
  | 3 => ("PrintRegister$Press", "unitCount", "I", false)
  | 4 => ("PrintRegister$Press", "time", "I", false)
  | 5 => ("PrintRegister$Press", "speedNow", "I", false)
  | 6 => ("PrintRegister$Press", "speedBefore", "I", false)
  | 7 => ("PrintRegister$Press", "spliceStart", "I", false)
  | 8 => ("PrintRegister$Press", "spliceAmount", "I", false)
  | _ => ("PrintRegister$Press", "spliceDuration", "I", false)
def tyX3 : Nat → FieldType := fun k => match k with
  | 0 => .array (.object "PrintRegister$Unit")
  | 1 => .array .int
  | 2 => .array .int
  | 3 => .int
  | 4 => .int
  | 5 => .int
  | 6 => .int
  | 7 => .int
  | 8 => .int
  | _ => .int
abbrev wsX30 : List Cond := u_ws RX3 TX3 10
theorem nmX3 : ∀ a, a < 10 → ∀ b, b < 10 → a ≠ b → (TX3 a).2.1 ≠ (TX3 b).2.1 := by decide +kernel
theorem tyX3_ok : ∀ k, k < 10 → parseFieldDescriptor (TX3 k).2.2.1 = some (tyX3 k) := by decide +kernel
abbrev cX3_init : ByteArray := prog_5_method_1_code
def yX3_init : MethodName := ⟨RX3, "<init>", "()V"⟩
abbrev cX3_begin : ByteArray := prog_5_method_2_code
def yX3_begin : MethodName := ⟨RX3, "begin", "(I)V"⟩
abbrev cX3_copyFrom : ByteArray := prog_5_method_3_code
def yX3_copyFrom : MethodName := ⟨RX3, "copyFrom", "(LPrintRegister$Press;)V"⟩
abbrev cX3_unitAt : ByteArray := prog_5_method_4_code
def yX3_unitAt : MethodName := ⟨RX3, "unitAt", "(I)LPrintRegister$Unit;"⟩
abbrev cX3_controlledUnitAt : ByteArray := prog_5_method_5_code
def yX3_controlledUnitAt : MethodName := ⟨RX3, "controlledUnitAt", "(I)LPrintRegister$Unit;"⟩
abbrev cX3_wayOf : ByteArray := prog_5_method_6_code
def yX3_wayOf : MethodName := ⟨RX3, "wayOf", "(I)I"⟩
abbrev cX3_startSplice : ByteArray := prog_5_method_7_code
def yX3_startSplice : MethodName := ⟨RX3, "startSplice", "(II)V"⟩
abbrev cX3_repeatsToLastUnit : ByteArray := prog_5_method_8_code
def yX3_repeatsToLastUnit : MethodName := ⟨RX3, "repeatsToLastUnit", "()I"⟩
abbrev cX3_isWithin : ByteArray := prog_5_method_9_code
def yX3_isWithin : MethodName := ⟨RX3, "isWithin", "(II)Z"⟩
abbrev cX3_sumErrorsIn : ByteArray := prog_5_method_10_code
def yX3_sumErrorsIn : MethodName := ⟨RX3, "sumErrorsIn", "(LPrintRegister$Press;IIII)I"⟩
abbrev cX3_makeRepeat : ByteArray := prog_5_method_11_code
def yX3_makeRepeat : MethodName := ⟨RX3, "makeRepeat", "()V"⟩
abbrev cX3_bringSplice : ByteArray := prog_5_method_12_code
def yX3_bringSplice : MethodName := ⟨RX3, "bringSplice", "()V"⟩
abbrev cX3_watchUnit : ByteArray := prog_5_method_13_code
def yX3_watchUnit : MethodName := ⟨RX3, "watchUnit", "(LPrintRegister$Unit;I)V"⟩
abbrev cX3_control : ByteArray := prog_5_method_14_code
def yX3_control : MethodName := ⟨RX3, "control", "(LPrintRegister$Unit;I)V"⟩
def RX4 : String := "PrintRegister$Printer"
def TX4 : u_T := fun k => match k with
  | 0 => ("PrintRegister$Printer", "offsets", "[I", true)
  | 1 => ("PrintRegister$Printer", "skews", "[I", true)
  | 2 => ("PrintRegister$Printer", "phase", "I", false)
  | 3 => ("PrintRegister$Printer", "skewSetting", "I", false)
  | 4 => ("PrintRegister$Printer", "tilt", "I", false)
  | 5 => ("PrintRegister$Printer", "disturbanceAmount", "I", false)
  | 6 => ("PrintRegister$Printer", "disturbanceDuration", "I", false)
  | _ => ("PrintRegister$Printer", "disturbanceLeft", "I", false)
def tyX4 : Nat → FieldType := fun k => match k with
  | 0 => .array .int
  | 1 => .array .int
  | 2 => .int
  | 3 => .int
  | 4 => .int
  | 5 => .int
  | 6 => .int
  | _ => .int
abbrev wsX40 : List Cond := u_ws RX4 TX4 8
theorem nmX4 : ∀ a, a < 8 → ∀ b, b < 8 → a ≠ b → (TX4 a).2.1 ≠ (TX4 b).2.1 := by decide +kernel
theorem tyX4_ok : ∀ k, k < 8 → parseFieldDescriptor (TX4 k).2.2.1 = some (tyX4 k) := by decide +kernel
abbrev cX4_init : ByteArray := prog_6_method_1_code
def yX4_init : MethodName := ⟨RX4, "<init>", "()V"⟩
abbrev cX4_begin : ByteArray := prog_6_method_2_code
def yX4_begin : MethodName := ⟨RX4, "begin", "()V"⟩
abbrev cX4_copyFrom : ByteArray := prog_6_method_3_code
def yX4_copyFrom : MethodName := ⟨RX4, "copyFrom", "(LPrintRegister$Printer;)V"⟩
abbrev cX4_byHand : ByteArray := prog_6_method_4_code
def yX4_byHand : MethodName := ⟨RX4, "byHand", "(I)I"⟩
abbrev cX4_changeByHand : ByteArray := prog_6_method_5_code
def yX4_changeByHand : MethodName := ⟨RX4, "changeByHand", "(II)V"⟩
abbrev cX4_beDisturbed : ByteArray := prog_6_method_6_code
def yX4_beDisturbed : MethodName := ⟨RX4, "beDisturbed", "(II)V"⟩
abbrev cX4_disturbance : ByteArray := prog_6_method_7_code
def yX4_disturbance : MethodName := ⟨RX4, "disturbance", "()I"⟩
abbrev cX4_printPiece : ByteArray := prog_6_method_8_code
def yX4_printPiece : MethodName := ⟨RX4, "printPiece", "(II)V"⟩
abbrev cX4_offsetAt : ByteArray := prog_6_method_9_code
def yX4_offsetAt : MethodName := ⟨RX4, "offsetAt", "(I)I"⟩
abbrev cX4_skewAt : ByteArray := prog_6_method_10_code
def yX4_skewAt : MethodName := ⟨RX4, "skewAt", "(I)I"⟩
def RX5 : String := "PrintRegister$Sensor"
def TX5 : u_T := fun k => match k with
  | 0 => ("PrintRegister$Sensor", "log", "LPrintRegister$ErrorLog;", true)
  | 1 => ("PrintRegister$Sensor", "hiddenLeft", "I", false)
  | 2 => ("PrintRegister$Sensor", "falseOffset", "I", false)
  | 3 => ("PrintRegister$Sensor", "falseLeft", "I", false)
  | 4 => ("PrintRegister$Sensor", "sawPiece", "Z", false)
  | 5 => ("PrintRegister$Sensor", "trueError", "I", false)
  | 6 => ("PrintRegister$Sensor", "trueSkew", "I", false)
  | 7 => ("PrintRegister$Sensor", "recognized", "I", false)
  | 8 => ("PrintRegister$Sensor", "offset", "I", false)
  | _ => ("PrintRegister$Sensor", "skew", "I", false)
def tyX5 : Nat → FieldType := fun k => match k with
  | 0 => .object "PrintRegister$ErrorLog"
  | 1 => .int
  | 2 => .int
  | 3 => .int
  | 4 => .boolean
  | 5 => .int
  | 6 => .int
  | 7 => .int
  | 8 => .int
  | _ => .int
abbrev wsX50 : List Cond := u_ws RX5 TX5 10
theorem nmX5 : ∀ a, a < 10 → ∀ b, b < 10 → a ≠ b → (TX5 a).2.1 ≠ (TX5 b).2.1 := by decide +kernel
theorem tyX5_ok : ∀ k, k < 10 → parseFieldDescriptor (TX5 k).2.2.1 = some (tyX5 k) := by decide +kernel
abbrev cX5_init : ByteArray := prog_7_method_1_code
def yX5_init : MethodName := ⟨RX5, "<init>", "()V"⟩
abbrev cX5_begin : ByteArray := prog_7_method_2_code
def yX5_begin : MethodName := ⟨RX5, "begin", "()V"⟩
abbrev cX5_copyFrom : ByteArray := prog_7_method_3_code
def yX5_copyFrom : MethodName := ⟨RX5, "copyFrom", "(LPrintRegister$Sensor;)V"⟩
abbrev cX5_seeNothing : ByteArray := prog_7_method_4_code
def yX5_seeNothing : MethodName := ⟨RX5, "seeNothing", "()V"⟩
abbrev cX5_seePiece : ByteArray := prog_7_method_5_code
def yX5_seePiece : MethodName := ⟨RX5, "seePiece", "(II)V"⟩
abbrev cX5_recognizeNear : ByteArray := prog_7_method_6_code
def yX5_recognizeNear : MethodName := ⟨RX5, "recognizeNear", "(III)V"⟩
abbrev cX5_sight : ByteArray := prog_7_method_7_code
def yX5_sight : MethodName := ⟨RX5, "sight", "(I)I"⟩
def RX6 : String := "PrintRegister$Slot"
def TX6 : u_T := fun k => match k with
  | 0 => ("PrintRegister$Slot", "saved", "LPrintRegister$Press;", true)
  | _ => ("PrintRegister$Slot", "isUsed", "Z", false)
def tyX6 : Nat → FieldType := fun k => match k with
  | 0 => .object "PrintRegister$Press"
  | _ => .boolean
abbrev wsX60 : List Cond := u_ws RX6 TX6 2
theorem nmX6 : ∀ a, a < 2 → ∀ b, b < 2 → a ≠ b → (TX6 a).2.1 ≠ (TX6 b).2.1 := by decide +kernel
theorem tyX6_ok : ∀ k, k < 2 → parseFieldDescriptor (TX6 k).2.2.1 = some (tyX6 k) := by decide +kernel
abbrev cX6_init : ByteArray := prog_8_method_1_code
def yX6_init : MethodName := ⟨RX6, "<init>", "()V"⟩
def RX7 : String := "PrintRegister$Unit"
def TX7 : u_T := fun k => match k with
  | 0 => ("PrintRegister$Unit", "settings", "[I", true)
  | 1 => ("PrintRegister$Unit", "printer", "LPrintRegister$Printer;", true)
  | 2 => ("PrintRegister$Unit", "controller", "LPrintRegister$Controller;", true)
  | _ => ("PrintRegister$Unit", "sensor", "LPrintRegister$Sensor;", true)
def tyX7 : Nat → FieldType := fun k => match k with
  | 0 => .array .int
  | 1 => .object "PrintRegister$Printer"
  | 2 => .object "PrintRegister$Controller"
  | _ => .object "PrintRegister$Sensor"
abbrev wsX70 : List Cond := u_ws RX7 TX7 4
theorem nmX7 : ∀ a, a < 4 → ∀ b, b < 4 → a ≠ b → (TX7 a).2.1 ≠ (TX7 b).2.1 := by decide +kernel
theorem tyX7_ok : ∀ k, k < 4 → parseFieldDescriptor (TX7 k).2.2.1 = some (tyX7 k) := by decide +kernel
abbrev cX7_init : ByteArray := prog_9_method_1_code
def yX7_init : MethodName := ⟨RX7, "<init>", "()V"⟩
abbrev cX7_begin : ByteArray := prog_9_method_2_code
def yX7_begin : MethodName := ⟨RX7, "begin", "()V"⟩
abbrev cX7_copyFrom : ByteArray := prog_9_method_3_code
def yX7_copyFrom : MethodName := ⟨RX7, "copyFrom", "(LPrintRegister$Unit;)V"⟩
abbrev cX7_setting : ByteArray := prog_9_method_4_code
def yX7_setting : MethodName := ⟨RX7, "setting", "(I)I"⟩
abbrev cX7_changeSetting : ByteArray := prog_9_method_5_code
def yX7_changeSetting : MethodName := ⟨RX7, "changeSetting", "(II)V"⟩
abbrev cX7_beSpliced : ByteArray := prog_9_method_6_code
def yX7_beSpliced : MethodName := ⟨RX7, "beSpliced", "(II)V"⟩
abbrev cX7_printPiece : ByteArray := prog_9_method_7_code
def yX7_printPiece : MethodName := ⟨RX7, "printPiece", "(II)V"⟩
abbrev cX7_recognizeMark : ByteArray := prog_9_method_8_code
def yX7_recognizeMark : MethodName := ⟨RX7, "recognizeMark", "()Z"⟩
abbrev cX7_window : ByteArray := prog_9_method_9_code
def yX7_window : MethodName := ⟨RX7, "window", "()I"⟩
abbrev cX7_learnFrom : ByteArray := prog_9_method_10_code
def yX7_learnFrom : MethodName := ⟨RX7, "learnFrom", "(I)Z"⟩
abbrev cX7_expectAsMeasured : ByteArray := prog_9_method_11_code
def yX7_expectAsMeasured : MethodName := ⟨RX7, "expectAsMeasured", "()V"⟩
abbrev cX7_isOff : ByteArray := prog_9_method_12_code
def yX7_isOff : MethodName := ⟨RX7, "isOff", "(I)Z"⟩
abbrev cX7_correctPhase : ByteArray := prog_9_method_13_code
def yX7_correctPhase : MethodName := ⟨RX7, "correctPhase", "()I"⟩
abbrev cX7_correctSkew : ByteArray := prog_9_method_14_code
def yX7_correctSkew : MethodName := ⟨RX7, "correctSkew", "()I"⟩
abbrev cX7_endRepeat : ByteArray := prog_9_method_15_code
def yX7_endRepeat : MethodName := ⟨RX7, "endRepeat", "()V"⟩
def RX8 : String := "PrintRegister"
def TX8 : u_T := fun k => match k with
  | 0 => ("PrintRegister", "press", "LPrintRegister$Press;", true)
  | 1 => ("PrintRegister", "copy", "LPrintRegister$Press;", true)
  | 2 => ("PrintRegister", "slot0", "LPrintRegister$Slot;", true)
  | 3 => ("PrintRegister", "slot1", "LPrintRegister$Slot;", true)
  | _ => ("PrintRegister", "pad", "LPrintRegister$Pad;", true)
def tyX8 : Nat → FieldType := fun k => match k with
  | 0 => .object "PrintRegister$Press"
  | 1 => .object "PrintRegister$Press"
  | 2 => .object "PrintRegister$Slot"
  | 3 => .object "PrintRegister$Slot"
  | _ => .object "PrintRegister$Pad"
abbrev wsX80 : List Cond := u_ws RX8 TX8 5
theorem nmX8 : ∀ a, a < 5 → ∀ b, b < 5 → a ≠ b → (TX8 a).2.1 ≠ (TX8 b).2.1 := by decide +kernel
theorem tyX8_ok : ∀ k, k < 5 → parseFieldDescriptor (TX8 k).2.2.1 = some (tyX8 k) := by decide +kernel
abbrev cX8_init : ByteArray := prog_1_method_1_code
def yX8_init : MethodName := ⟨RX8, "<init>", "()V"⟩
abbrev cX8_setUp : ByteArray := prog_1_method_2_code
def yX8_setUp : MethodName := ⟨RX8, "setUp", "(I)I"⟩
abbrev cX8_set : ByteArray := prog_1_method_3_code
def yX8_set : MethodName := ⟨RX8, "set", "(III)I"⟩
abbrev cX8_get : ByteArray := prog_1_method_4_code
def yX8_get : MethodName := ⟨RX8, "get", "(II)I"⟩
abbrev cX8_adjust : ByteArray := prog_1_method_5_code
def yX8_adjust : MethodName := ⟨RX8, "adjust", "(III)I"⟩
abbrev cX8_restart : ByteArray := prog_1_method_6_code
def yX8_restart : MethodName := ⟨RX8, "restart", "(I)I"⟩
abbrev cX8_speed : ByteArray := prog_1_method_7_code
def yX8_speed : MethodName := ⟨RX8, "speed", "(I)I"⟩
abbrev cX8_disturb : ByteArray := prog_1_method_8_code
def yX8_disturb : MethodName := ⟨RX8, "disturb", "(III)I"⟩
abbrev cX8_hide : ByteArray := prog_1_method_9_code
def yX8_hide : MethodName := ⟨RX8, "hide", "(II)I"⟩
abbrev cX8_falseMark : ByteArray := prog_1_method_10_code
def yX8_falseMark : MethodName := ⟨RX8, "falseMark", "(III)I"⟩
abbrev cX8_splice : ByteArray := prog_1_method_11_code
def yX8_splice : MethodName := ⟨RX8, "splice", "(II)I"⟩
abbrev cX8_run : ByteArray := prog_1_method_12_code
def yX8_run : MethodName := ⟨RX8, "run", "(I)I"⟩
abbrev cX8_seen : ByteArray := prog_1_method_13_code
def yX8_seen : MethodName := ⟨RX8, "seen", "(II)I"⟩
abbrev cX8_state : ByteArray := prog_1_method_14_code
def yX8_state : MethodName := ⟨RX8, "state", "(II)I"⟩
abbrev cX8_errors : ByteArray := prog_1_method_15_code
def yX8_errors : MethodName := ⟨RX8, "errors", "(III)I"⟩
abbrev cX8_total : ByteArray := prog_1_method_16_code
def yX8_total : MethodName := ⟨RX8, "total", "(I)I"⟩
abbrev cX8_forecast : ByteArray := prog_1_method_17_code
def yX8_forecast : MethodName := ⟨RX8, "forecast", "(III)I"⟩
abbrev cX8_attempt : ByteArray := prog_1_method_18_code
def yX8_attempt : MethodName := ⟨RX8, "attempt", "(IIII)I"⟩
abbrev cX8_bestGain : ByteArray := prog_1_method_19_code
def yX8_bestGain : MethodName := ⟨RX8, "bestGain", "(IIIII)I"⟩
abbrev cX8_put : ByteArray := prog_1_method_20_code
def yX8_put : MethodName := ⟨RX8, "put", "(J)I"⟩
abbrev cX8_wipe : ByteArray := prog_1_method_21_code
def yX8_wipe : MethodName := ⟨RX8, "wipe", "()I"⟩
abbrev cX8_fault : ByteArray := prog_1_method_22_code
def yX8_fault : MethodName := ⟨RX8, "fault", "()I"⟩
abbrev cX8_carryOut : ByteArray := prog_1_method_23_code
def yX8_carryOut : MethodName := ⟨RX8, "carryOut", "()I"⟩
abbrev cX8_count : ByteArray := prog_1_method_24_code
def yX8_count : MethodName := ⟨RX8, "count", "(I)I"⟩
abbrev cX8_save : ByteArray := prog_1_method_25_code
def yX8_save : MethodName := ⟨RX8, "save", "(I)I"⟩
abbrev cX8_restore : ByteArray := prog_1_method_26_code
def yX8_restore : MethodName := ⟨RX8, "restore", "(I)I"⟩
abbrev cX8_slotAt : ByteArray := prog_1_method_27_code
def yX8_slotAt : MethodName := ⟨RX8, "slotAt", "(I)LPrintRegister$Slot;"⟩
abbrev cX8_carryOutStep : ByteArray := prog_1_method_28_code
def yX8_carryOutStep : MethodName := ⟨RX8, "carryOutStep", "()V"⟩
abbrev cX8_charactersIn : ByteArray := prog_1_method_29_code
def yX8_charactersIn : MethodName := ⟨RX8, "charactersIn", "(J)I"⟩
abbrev cX8_isOutside : ByteArray := prog_1_method_30_code
def yX8_isOutside : MethodName := ⟨RX8, "isOutside", "(III)Z"⟩
abbrev cX8_isSettingValue : ByteArray := prog_1_method_31_code
def yX8_isSettingValue : MethodName := ⟨RX8, "isSettingValue", "(II)Z"⟩
abbrev cX8_isPlace : ByteArray := prog_1_method_32_code
def yX8_isPlace : MethodName := ⟨RX8, "isPlace", "(I)Z"⟩
abbrev cX8_isDisturbance : ByteArray := prog_1_method_33_code
def yX8_isDisturbance : MethodName := ⟨RX8, "isDisturbance", "(II)Z"⟩
abbrev cX8_limited : ByteArray := prog_1_method_34_code
def yX8_limited : MethodName := ⟨RX8, "limited", "(II)I"⟩
abbrev cX8_lessOne : ByteArray := prog_1_method_35_code
def yX8_lessOne : MethodName := ⟨RX8, "lessOne", "(I)I"⟩
def RX9 : String := "PrintRegisterModel"
def TX9 : u_T := fun k => match k with
  | 0 => ("PrintRegisterModel", "at", "[I", true)
  | 1 => ("PrintRegisterModel", "aside", "[I", true)
  | 2 => ("PrintRegisterModel", "slots", "[I", true)
  | 3 => ("PrintRegisterModel", "isSaved", "[Z", true)
  | 4 => ("PrintRegisterModel", "pad", "[I", true)
  | 5 => ("PrintRegisterModel", "padMany", "I", false)
  | 6 => ("PrintRegisterModel", "spot", "I", false)
  | 7 => ("PrintRegisterModel", "isWrong", "Z", false)
  | 8 => ("PrintRegisterModel", "steps", "[I", true)
  | _ => ("PrintRegisterModel", "stepMany", "I", false)
def tyX9 : Nat → FieldType := fun k => match k with
  | 0 => .array .int
  | 1 => .array .int
  | 2 => .array .int
  | 3 => .array .boolean
  | 4 => .array .int
  | 5 => .int
  | 6 => .int
  | 7 => .boolean
  | 8 => .array .int
  | _ => .int
abbrev wsX90 : List Cond := u_ws RX9 TX9 10
theorem nmX9 : ∀ a, a < 10 → ∀ b, b < 10 → a ≠ b → (TX9 a).2.1 ≠ (TX9 b).2.1 := by decide +kernel
theorem tyX9_ok : ∀ k, k < 10 → parseFieldDescriptor (TX9 k).2.2.1 = some (tyX9 k) := by decide +kernel
abbrev cX9_init : ByteArray := prog_11_method_1_code
def yX9_init : MethodName := ⟨RX9, "<init>", "()V"⟩
abbrev cX9_in : ByteArray := prog_11_method_3_code
def yX9_in : MethodName := ⟨RX9, "in", "(III)Z"⟩
abbrev cX9_size : ByteArray := prog_11_method_4_code
def yX9_size : MethodName := ⟨RX9, "size", "(I)I"⟩
abbrev cX9_limited : ByteArray := prog_11_method_5_code
def yX9_limited : MethodName := ⟨RX9, "limited", "(II)I"⟩
abbrev cX9_firstValue : ByteArray := prog_11_method_6_code
def yX9_firstValue : MethodName := ⟨RX9, "firstValue", "(I)I"⟩
abbrev cX9_place : ByteArray := prog_11_method_7_code
def yX9_place : MethodName := ⟨RX9, "place", "(II)I"⟩
abbrev cX9_of : ByteArray := prog_11_method_8_code
def yX9_of : MethodName := ⟨RX9, "of", "(II)I"⟩
abbrev cX9_lay : ByteArray := prog_11_method_9_code
def yX9_lay : MethodName := ⟨RX9, "lay", "(III)V"⟩
abbrev cX9_layAll : ByteArray := prog_11_method_10_code
def yX9_layAll : MethodName := ⟨RX9, "layAll", "(I)V"⟩
abbrev cX9_putAside : ByteArray := prog_11_method_11_code
def yX9_putAside : MethodName := ⟨RX9, "putAside", "()V"⟩
abbrev cX9_putBack : ByteArray := prog_11_method_12_code
def yX9_putBack : MethodName := ⟨RX9, "putBack", "()V"⟩
abbrev cX9_isUnit : ByteArray := prog_11_method_13_code
def yX9_isUnit : MethodName := ⟨RX9, "isUnit", "(I)Z"⟩
abbrev cX9_way : ByteArray := prog_11_method_14_code
def yX9_way : MethodName := ⟨RX9, "way", "(I)I"⟩
abbrev cX9_setUp : ByteArray := prog_11_method_15_code
def yX9_setUp : MethodName := ⟨RX9, "setUp", "(I)I"⟩
abbrev cX9_takes : ByteArray := prog_11_method_16_code
def yX9_takes : MethodName := ⟨RX9, "takes", "(II)Z"⟩
abbrev cX9_set : ByteArray := prog_11_method_17_code
def yX9_set : MethodName := ⟨RX9, "set", "(III)I"⟩
abbrev cX9_get : ByteArray := prog_11_method_18_code
def yX9_get : MethodName := ⟨RX9, "get", "(II)I"⟩
abbrev cX9_adjust : ByteArray := prog_11_method_19_code
def yX9_adjust : MethodName := ⟨RX9, "adjust", "(III)I"⟩
abbrev cX9_restart : ByteArray := prog_11_method_20_code
def yX9_restart : MethodName := ⟨RX9, "restart", "(I)I"⟩
abbrev cX9_speed : ByteArray := prog_11_method_21_code
def yX9_speed : MethodName := ⟨RX9, "speed", "(I)I"⟩
abbrev cX9_giveDisturbance : ByteArray := prog_11_method_22_code
def yX9_giveDisturbance : MethodName := ⟨RX9, "giveDisturbance", "(III)V"⟩
abbrev cX9_isDisturbance : ByteArray := prog_11_method_23_code
def yX9_isDisturbance : MethodName := ⟨RX9, "isDisturbance", "(II)Z"⟩
abbrev cX9_disturb : ByteArray := prog_11_method_24_code
def yX9_disturb : MethodName := ⟨RX9, "disturb", "(III)I"⟩
abbrev cX9_hide : ByteArray := prog_11_method_25_code
def yX9_hide : MethodName := ⟨RX9, "hide", "(II)I"⟩
abbrev cX9_falseMark : ByteArray := prog_11_method_26_code
def yX9_falseMark : MethodName := ⟨RX9, "falseMark", "(III)I"⟩
abbrev cX9_startSplice : ByteArray := prog_11_method_27_code
def yX9_startSplice : MethodName := ⟨RX9, "startSplice", "(II)I"⟩
abbrev cX9_splice : ByteArray := prog_11_method_28_code
def yX9_splice : MethodName := ⟨RX9, "splice", "(II)I"⟩
abbrev cX9_tally : ByteArray := prog_11_method_29_code
def yX9_tally : MethodName := ⟨RX9, "tally", "(IZ)V"⟩
abbrev cX9_goOnSplice : ByteArray := prog_11_method_30_code
def yX9_goOnSplice : MethodName := ⟨RX9, "goOnSplice", "()V"⟩
abbrev cX9_print : ByteArray := prog_11_method_31_code
def yX9_print : MethodName := ⟨RX9, "print", "(I)V"⟩
abbrev cX9_isSeen : ByteArray := prog_11_method_32_code
def yX9_isSeen : MethodName := ⟨RX9, "isSeen", "(I)Z"⟩
abbrev cX9_keepError : ByteArray := prog_11_method_33_code
def yX9_keepError : MethodName := ⟨RX9, "keepError", "(II)V"⟩
abbrev cX9_see : ByteArray := prog_11_method_34_code
def yX9_see : MethodName := ⟨RX9, "see", "(I)V"⟩
abbrev cX9_recognized : ByteArray := prog_11_method_35_code
def yX9_recognized : MethodName := ⟨RX9, "recognized", "(I)I"⟩
abbrev cX9_recognize : ByteArray := prog_11_method_36_code
def yX9_recognize : MethodName := ⟨RX9, "recognize", "(I)V"⟩
abbrev cX9_isRecognized : ByteArray := prog_11_method_37_code
def yX9_isRecognized : MethodName := ⟨RX9, "isRecognized", "(I)Z"⟩
abbrev cX9_learn : ByteArray := prog_11_method_38_code
def yX9_learn : MethodName := ⟨RX9, "learn", "(I)V"⟩
abbrev cX9_expect : ByteArray := prog_11_method_39_code
def yX9_expect : MethodName := ⟨RX9, "expect", "(I)V"⟩
abbrev cX9_correct : ByteArray := prog_11_method_40_code
def yX9_correct : MethodName := ⟨RX9, "correct", "(I)V"⟩
abbrev cX9_decrease : ByteArray := prog_11_method_41_code
def yX9_decrease : MethodName := ⟨RX9, "decrease", "(II)V"⟩
abbrev cX9_endRepeat : ByteArray := prog_11_method_42_code
def yX9_endRepeat : MethodName := ⟨RX9, "endRepeat", "(I)V"⟩
abbrev cX9_makeRepeat : ByteArray := prog_11_method_43_code
def yX9_makeRepeat : MethodName := ⟨RX9, "makeRepeat", "()V"⟩
abbrev cX9_makeRepeats : ByteArray := prog_11_method_44_code
def yX9_makeRepeats : MethodName := ⟨RX9, "makeRepeats", "(I)V"⟩
abbrev cX9_run : ByteArray := prog_11_method_45_code
def yX9_run : MethodName := ⟨RX9, "run", "(I)I"⟩
abbrev cX9_seen : ByteArray := prog_11_method_46_code
def yX9_seen : MethodName := ⟨RX9, "seen", "(II)I"⟩
abbrev cX9_state : ByteArray := prog_11_method_47_code
def yX9_state : MethodName := ⟨RX9, "state", "(II)I"⟩
abbrev cX9_isControlled : ByteArray := prog_11_method_48_code
def yX9_isControlled : MethodName := ⟨RX9, "isControlled", "(I)Z"⟩
abbrev cX9_errors : ByteArray := prog_11_method_49_code
def yX9_errors : MethodName := ⟨RX9, "errors", "(III)I"⟩
abbrev cX9_total : ByteArray := prog_11_method_50_code
def yX9_total : MethodName := ⟨RX9, "total", "(I)I"⟩
abbrev cX9_comesBack : ByteArray := prog_11_method_51_code
def yX9_comesBack : MethodName := ⟨RX9, "comesBack", "(III)I"⟩
abbrev cX9_forecast : ByteArray := prog_11_method_52_code
def yX9_forecast : MethodName := ⟨RX9, "forecast", "(III)I"⟩
abbrev cX9_tried : ByteArray := prog_11_method_53_code
def yX9_tried : MethodName := ⟨RX9, "tried", "(IIII)I"⟩
abbrev cX9_attempt : ByteArray := prog_11_method_54_code
def yX9_attempt : MethodName := ⟨RX9, "attempt", "(IIII)I"⟩
abbrev cX9_bestGain : ByteArray := prog_11_method_55_code
def yX9_bestGain : MethodName := ⟨RX9, "bestGain", "(IIIII)I"⟩
abbrev cX9_put : ByteArray := prog_11_method_56_code
def yX9_put : MethodName := ⟨RX9, "put", "(J)I"⟩
abbrev cX9_wipe : ByteArray := prog_11_method_57_code
def yX9_wipe : MethodName := ⟨RX9, "wipe", "()I"⟩
abbrev cX9_next : ByteArray := prog_11_method_58_code
def yX9_next : MethodName := ⟨RX9, "next", "()I"⟩
abbrev cX9_need : ByteArray := prog_11_method_59_code
def yX9_need : MethodName := ⟨RX9, "need", "(I)V"⟩
abbrev cX9_readNumber : ByteArray := prog_11_method_60_code
def yX9_readNumber : MethodName := ⟨RX9, "readNumber", "(II)I"⟩
abbrev cX9_readUnit : ByteArray := prog_11_method_61_code
def yX9_readUnit : MethodName := ⟨RX9, "readUnit", "()I"⟩
abbrev cX9_readDisturbance : ByteArray := prog_11_method_62_code
def yX9_readDisturbance : MethodName := ⟨RX9, "readDisturbance", "(I)V"⟩
abbrev cX9_readStep : ByteArray := prog_11_method_63_code
def yX9_readStep : MethodName := ⟨RX9, "readStep", "()V"⟩
abbrev cX9_fault : ByteArray := prog_11_method_64_code
def yX9_fault : MethodName := ⟨RX9, "fault", "()I"⟩
abbrev cX9_carryOutStep : ByteArray := prog_11_method_65_code
def yX9_carryOutStep : MethodName := ⟨RX9, "carryOutStep", "(I)V"⟩
abbrev cX9_carryOut : ByteArray := prog_11_method_66_code
def yX9_carryOut : MethodName := ⟨RX9, "carryOut", "()I"⟩
abbrev cX9_count : ByteArray := prog_11_method_67_code
def yX9_count : MethodName := ⟨RX9, "count", "(I)I"⟩
abbrev cX9_save : ByteArray := prog_11_method_68_code
def yX9_save : MethodName := ⟨RX9, "save", "(I)I"⟩
abbrev cX9_restore : ByteArray := prog_11_method_69_code
def yX9_restore : MethodName := ⟨RX9, "restore", "(I)I"⟩
def RJ9 : String := "java/lang/Math"
def TJ9 : u_T := fun k => match k with
  | _ => ("", "", "", false)
def tyJ9 : Nat → FieldType := fun k => match k with
  | _ => .int
abbrev wsJ90 : List Cond := u_ws RJ9 TJ9 0
theorem nmJ9 : ∀ a, a < 0 → ∀ b, b < 0 → a ≠ b → (TJ9 a).2.1 ≠ (TJ9 b).2.1 := by decide +kernel
theorem tyJ9_ok : ∀ k, k < 0 → parseFieldDescriptor (TJ9 k).2.2.1 = some (tyJ9 k) := by decide +kernel
abbrev cJ9_abs_0f7a4 : ByteArray := prog_12_method_59_code
def yJ9_abs_0f7a4 : MethodName := ⟨RJ9, "abs", "(I)I"⟩
abbrev cJ9_max_7cf53 : ByteArray := prog_12_method_65_code
def yJ9_max_7cf53 : MethodName := ⟨RJ9, "max", "(II)I"⟩
abbrev cJ9_min_7cf53 : ByteArray := prog_12_method_69_code
def yJ9_min_7cf53 : MethodName := ⟨RJ9, "min", "(II)I"⟩
def RJ10 : String := "java/lang/System"
def TJ10 : u_T := fun k => match k with
  | _ => ("", "", "", false)
def tyJ10 : Nat → FieldType := fun k => match k with
  | _ => .int
abbrev wsJ100 : List Cond := u_ws RJ10 TJ10 0
theorem nmJ10 : ∀ a, a < 0 → ∀ b, b < 0 → a ≠ b → (TJ10 a).2.1 ≠ (TJ10 b).2.1 := by decide +kernel
theorem tyJ10_ok : ∀ k, k < 0 → parseFieldDescriptor (TJ10 k).2.2.1 = some (tyJ10 k) := by decide +kernel
def RL : String := "PrintRegisterLaw"
abbrev cL_law : ByteArray := code
def yL_law : MethodName := ⟨RL, "law", "([I)Z"⟩
-- ===== the words of the tables, in one list; a row for each =====
def pr_A0 : List Cond := [.code yX0_init cX0_init 1 none, .methodLink RX0 1 objectInit, .instanceMethod objectInit, .code objectInit ⟨#[0xb1]⟩ 1 none, .code yX0_clear cX0_clear 1 none, .fieldLink RX0 7 "PrintRegister$Controller" "feed" "I", .fieldLink RX0 13 "PrintRegister$Controller" "sum" "I", .fieldLink RX0 16 "PrintRegister$Controller" "wait" "I", .fieldLink RX0 19 "PrintRegister$Controller" "misses" "I", .fieldLink RX0 22 "PrintRegister$Controller" "readyTime" "I", .fieldLink RX0 25 "PrintRegister$Controller" "expectedError" "I", .fieldLink RX0 28 "PrintRegister$Controller" "expectedSkew" "I", .fieldLink RX0 31 "PrintRegister$Controller" "addedPhase" "I", .fieldLink RX0 34 "PrintRegister$Controller" "addedSkew" "I", .code yX0_copyFrom cX0_copyFrom 2 none, .code yX8_lessOne cX8_lessOne 1 (some .int), .code yX0_endRepeat cX0_endRepeat 1 none, .static yX8_lessOne, .initialized RX8, .code yX1_init cX1_init 1 none, .methodLink RX1 3 objectInit, .arrayClass .int, .fieldLink RX1 9 "PrintRegister$ErrorLog" "places" "[I", .code yX1_begin cX1_begin 1 none, .fieldLink RX1 15 "PrintRegister$ErrorLog" "added" "I", .code yX1_copyFrom cX1_copyFrom 2 none, .methodLink RX1 19 arraycopyName, .native arraycopyName, .static arraycopyName, .initialized "java/lang/System", .code yX1_add cX1_add 2 none, .code yX1_kept cX1_kept 2 (some .int), .methodLink RX1 25 Lib.Math.min.name, .static Lib.Math.min.name, .initialized "java/lang/Math", .code Lib.Math.min.name Lib.Math.min.code 2 (some .int), .code yX1_sizeOf cX1_sizeOf 2 (some .int), .methodLink RX1 31 Lib.Math.abs.name, .static Lib.Math.abs.name, .code Lib.Math.abs.name Lib.Math.abs.code 1 (some .int)]
def pr_A1 : List Cond := [.code yX1_greatest cX1_greatest 4 (some .int), .methodLink RX1 41 Lib.Math.max.name, .static Lib.Math.max.name, .code Lib.Math.max.name Lib.Math.max.code 2 (some .int), .methodLink RX1 35 yX1_kept, .instanceMethod yX1_kept, .selects RX1 yX1_kept yX1_kept, .initialized RX1, .methodLink RX1 38 yX1_sizeOf, .instanceMethod yX1_sizeOf, .selects RX1 yX1_sizeOf yX1_sizeOf, .code yX1_sumOf cX1_sumOf 4 (some .int), .code yX1_greaterThan cX1_greaterThan 5 (some .int), .code yX2_init cX2_init 1 none, .methodLink RX2 3 objectInit, .fieldLink RX2 9 "PrintRegister$Pad" "codes" "[I", .code yX2_append cX2_append 2 none, .fieldLink RX2 15 "PrintRegister$Pad" "length" "I", .code yX2_codeAt cX2_codeAt 2 (some .int), .code yX2_beginReading cX2_beginReading 1 none, .fieldLink RX2 19 "PrintRegister$Pad" "at" "I", .fieldLink RX2 22 "PrintRegister$Pad" "failed" "Z", .code yX2_hasMore cX2_hasMore 1 (some .boolean), .code yX2_readSign cX2_readSign 2 none, .methodLink RX2 61 yX2_codeAt, .instanceMethod yX2_codeAt, .selects RX2 yX2_codeAt yX2_codeAt, .initialized RX2, .code yX2_digitAt cX2_digitAt 3 (some .int), .code yX2_readNumber cX2_readNumber 5 (some .int), .methodLink RX2 75 yX2_digitAt, .instanceMethod yX2_digitAt, .selects RX2 yX2_digitAt yX2_digitAt, .code yX2_readUnit cX2_readUnit 2 (some .int), .code yX2_readDisturbance cX2_readDisturbance 3 none, .fieldLink RX2 41 "PrintRegister$Pad" "number" "I", .fieldLink RX2 78 "PrintRegister$Pad" "duration" "I", .methodLink RX2 57 yX2_readSign, .instanceMethod yX2_readSign, .selects RX2 yX2_readSign yX2_readSign]
def pr_A2 : List Cond := [.methodLink RX2 65 yX2_readNumber, .instanceMethod yX2_readNumber, .selects RX2 yX2_readNumber yX2_readNumber, .fieldLink RX2 38 "PrintRegister$Pad" "kind" "I", .fieldLink RX2 44 "PrintRegister$Pad" "unit" "I", .methodLink RX2 68 yX2_readUnit, .instanceMethod yX2_readUnit, .selects RX2 yX2_readUnit yX2_readUnit, .methodLink RX2 72 yX2_readDisturbance, .instanceMethod yX2_readDisturbance, .selects RX2 yX2_readDisturbance yX2_readDisturbance, .code yX2_readStep cX2_readStep 1 none, .fieldLink RX2 29 "PrintRegister$Pad" "repeats" "I", .fieldLink RX2 32 "PrintRegister$Pad" "greatestUnit" "I", .methodLink RX2 47 Lib.Math.max.name, .methodLink RX2 26 yX2_beginReading, .instanceMethod yX2_beginReading, .selects RX2 yX2_beginReading yX2_beginReading, .methodLink RX2 35 yX2_readStep, .instanceMethod yX2_readStep, .selects RX2 yX2_readStep yX2_readStep, .methodLink RX2 53 yX2_hasMore, .instanceMethod yX2_hasMore, .selects RX2 yX2_hasMore yX2_hasMore, .code yX2_readAll cX2_readAll 2 none, .code yX4_init cX4_init 1 none, .methodLink RX4 3 objectInit, .fieldLink RX4 9 "PrintRegister$Printer" "offsets" "[I", .fieldLink RX4 15 "PrintRegister$Printer" "skews" "[I", .code yX5_init cX5_init 1 none, .methodLink RX5 3 objectInit, .classLink RX5 9 RX1, .instantiable RX1 2, .fieldLink RX5 12 "PrintRegister$Sensor" "log" "LPrintRegister$ErrorLog;", .instanceMethod yX1_init, .methodLink RX7 3 objectInit, .fieldLink RX7 9 "PrintRegister$Unit" "settings" "[I", .classLink RX7 15 RX4, .instantiable RX4 8, .initialized RX4]
def pr_A3 : List Cond := [.fieldLink RX7 18 "PrintRegister$Unit" "printer" "LPrintRegister$Printer;", .classLink RX7 22 RX0, .instantiable RX0 9, .initialized RX0, .fieldLink RX7 25 "PrintRegister$Unit" "controller" "LPrintRegister$Controller;", .classLink RX7 29 RX5, .instantiable RX5 10, .initialized RX5, .fieldLink RX7 32 "PrintRegister$Unit" "sensor" "LPrintRegister$Sensor;", .instanceMethod yX4_init, .instanceMethod yX0_init, .instanceMethod yX5_init, .code yX7_init cX7_init 1 none, .methodLink RX3 3 objectInit, .classLink RX3 9 RX7, .fieldLink RX3 11 "PrintRegister$Press" "units" "[LPrintRegister$Unit;", .fieldLink RX3 17 "PrintRegister$Press" "changes" "[I", .fieldLink RX3 21 "PrintRegister$Press" "totals" "[I", .instantiable RX7 4, .initialized RX7, .instanceMethod yX7_init, .code yX3_init cX3_init 2 none, .code yX4_begin cX4_begin 1 none, .fieldLink RX4 18 "PrintRegister$Printer" "phase" "I", .fieldLink RX4 22 "PrintRegister$Printer" "skewSetting" "I", .fieldLink RX4 25 "PrintRegister$Printer" "tilt" "I", .fieldLink RX4 28 "PrintRegister$Printer" "disturbanceAmount" "I", .fieldLink RX4 31 "PrintRegister$Printer" "disturbanceDuration" "I", .fieldLink RX4 34 "PrintRegister$Printer" "disturbanceLeft" "I", .code yX5_seeNothing cX5_seeNothing 1 none, .fieldLink RX5 50 "PrintRegister$Sensor" "sawPiece" "Z", .fieldLink RX5 54 "PrintRegister$Sensor" "recognized" "I", .code yX5_begin cX5_begin 1 none, .fieldLink RX5 21 "PrintRegister$Sensor" "hiddenLeft" "I", .fieldLink RX5 25 "PrintRegister$Sensor" "falseOffset" "I", .fieldLink RX5 28 "PrintRegister$Sensor" "falseLeft" "I", .fieldLink RX5 34 "PrintRegister$Sensor" "trueError" "I", .fieldLink RX5 37 "PrintRegister$Sensor" "trueSkew" "I", .fieldLink RX5 40 "PrintRegister$Sensor" "offset" "I", .fieldLink RX5 43 "PrintRegister$Sensor" "skew" "I"]
def pr_A4 : List Cond := [.methodLink RX5 18 yX1_begin, .instanceMethod yX1_begin, .selects RX1 yX1_begin yX1_begin, .methodLink RX5 31 yX5_seeNothing, .instanceMethod yX5_seeNothing, .selects RX5 yX5_seeNothing yX5_seeNothing, .methodLink RX7 39 yX4_begin, .instanceMethod yX4_begin, .selects RX4 yX4_begin yX4_begin, .methodLink RX7 42 yX0_clear, .instanceMethod yX0_clear, .selects RX0 yX0_clear yX0_clear, .methodLink RX7 45 yX5_begin, .instanceMethod yX5_begin, .selects RX5 yX5_begin yX5_begin, .code yX7_begin cX7_begin 2 none, .fieldLink RX3 25 "PrintRegister$Press" "unitCount" "I", .fieldLink RX3 29 "PrintRegister$Press" "time" "I", .fieldLink RX3 32 "PrintRegister$Press" "speedNow" "I", .fieldLink RX3 35 "PrintRegister$Press" "speedBefore" "I", .fieldLink RX3 38 "PrintRegister$Press" "spliceStart" "I", .fieldLink RX3 41 "PrintRegister$Press" "spliceAmount" "I", .fieldLink RX3 44 "PrintRegister$Press" "spliceDuration" "I", .methodLink RX3 47 yX7_begin, .instanceMethod yX7_begin, .selects RX7 yX7_begin yX7_begin, .code yX3_begin cX3_begin 3 none, .code yX4_copyFrom cX4_copyFrom 2 none, .methodLink RX4 37 arraycopyName, .code yX5_copyFrom cX5_copyFrom 2 none, .methodLink RX5 46 yX1_copyFrom, .instanceMethod yX1_copyFrom, .selects RX1 yX1_copyFrom yX1_copyFrom, .methodLink RX7 46 arraycopyName, .methodLink RX7 52 yX4_copyFrom, .instanceMethod yX4_copyFrom, .selects RX4 yX4_copyFrom yX4_copyFrom, .methodLink RX7 56 yX0_copyFrom, .instanceMethod yX0_copyFrom, .selects RX0 yX0_copyFrom yX0_copyFrom]
def pr_A5 : List Cond := [.methodLink RX7 59 yX5_copyFrom, .instanceMethod yX5_copyFrom, .selects RX5 yX5_copyFrom yX5_copyFrom, .code yX7_copyFrom cX7_copyFrom 2 none, .methodLink RX3 50 arraycopyName, .methodLink RX3 56 yX7_copyFrom, .instanceMethod yX7_copyFrom, .selects RX7 yX7_copyFrom yX7_copyFrom, .code yX3_copyFrom cX3_copyFrom 3 none, .code yX3_unitAt cX3_unitAt 2 (some (.object "PrintRegister$Unit")), .code yX3_controlledUnitAt cX3_controlledUnitAt 2 (some (.object "PrintRegister$Unit")), .methodLink RX3 60 yX3_unitAt, .instanceMethod yX3_unitAt, .selects RX3 yX3_unitAt yX3_unitAt, .initialized RX3, .code yX7_setting cX7_setting 2 (some .int), .code yX3_wayOf cX3_wayOf 4 (some .int), .methodLink RX3 64 yX7_setting, .instanceMethod yX7_setting, .selects RX7 yX7_setting yX7_setting, .code yX3_startSplice cX3_startSplice 3 none, .code yX3_repeatsToLastUnit cX3_repeatsToLastUnit 1 (some .int), .methodLink RX3 71 Lib.Math.max.name, .methodLink RX3 68 yX3_wayOf, .instanceMethod yX3_wayOf, .selects RX3 yX3_wayOf yX3_wayOf, .code yX3_isWithin cX3_isWithin 4 (some .boolean), .methodLink RX3 90 Lib.Math.abs.name, .code yX7_changeSetting cX7_changeSetting 3 none, .code yX4_beDisturbed cX4_beDisturbed 3 none, .code yX7_beSpliced cX7_beSpliced 3 none, .methodLink RX7 62 yX4_beDisturbed, .instanceMethod yX4_beDisturbed, .selects RX4 yX4_beDisturbed yX4_beDisturbed, .methodLink RX7 70 yX7_setting, .methodLink RX3 116 yX7_beSpliced, .instanceMethod yX7_beSpliced, .selects RX7 yX7_beSpliced yX7_beSpliced, .code yX3_bringSplice cX3_bringSplice 3 none, .code yX4_disturbance cX4_disturbance 1 (some .int)]
def pr_A6 : List Cond := [.code yX4_printPiece cX4_printPiece 3 none, .methodLink RX4 43 yX4_disturbance, .instanceMethod yX4_disturbance, .selects RX4 yX4_disturbance yX4_disturbance, .methodLink RX7 80 yX4_printPiece, .instanceMethod yX4_printPiece, .selects RX4 yX4_printPiece yX4_printPiece, .code yX7_printPiece cX7_printPiece 3 none, .code yX4_offsetAt cX4_offsetAt 2 (some .int), .code yX4_skewAt cX4_skewAt 2 (some .int), .code yX5_seePiece cX5_seePiece 3 none, .methodLink RX5 57 yX1_add, .instanceMethod yX1_add, .selects RX1 yX1_add yX1_add, .code yX7_window cX7_window 2 (some .int), .code yX5_recognizeNear cX5_recognizeNear 8 none, .methodLink RX5 61 Lib.Math.abs.name, .methodLink RX7 89 yX7_window, .instanceMethod yX7_window, .selects RX7 yX7_window yX7_window, .methodLink RX7 93 yX5_recognizeNear, .instanceMethod yX5_recognizeNear, .selects RX5 yX5_recognizeNear yX5_recognizeNear, .code yX7_recognizeMark cX7_recognizeMark 2 (some .boolean), .code yX8_limited cX8_limited 2 (some .int), .code yX7_learnFrom cX7_learnFrom 4 (some .boolean), .methodLink RX7 103 Lib.Math.abs.name, .static yX8_limited, .code yX7_expectAsMeasured cX7_expectAsMeasured 1 none, .code yX7_isOff cX7_isOff 2 (some .boolean), .code yX7_correctPhase cX7_correctPhase 4 (some .int), .code yX7_correctSkew cX7_correctSkew 3 (some .int), .methodLink RX3 147 yX7_learnFrom, .instanceMethod yX7_learnFrom, .selects RX7 yX7_learnFrom yX7_learnFrom, .methodLink RX3 151 yX7_expectAsMeasured, .instanceMethod yX7_expectAsMeasured, .selects RX7 yX7_expectAsMeasured yX7_expectAsMeasured, .methodLink RX3 166 yX7_isOff, .instanceMethod yX7_isOff]
def pr_A7 : List Cond := [.selects RX7 yX7_isOff yX7_isOff, .methodLink RX3 172 yX7_correctPhase, .instanceMethod yX7_correctPhase, .selects RX7 yX7_correctPhase yX7_correctPhase, .methodLink RX3 179 yX7_correctSkew, .instanceMethod yX7_correctSkew, .selects RX7 yX7_correctSkew yX7_correctSkew, .code yX3_control cX3_control 5 none, .methodLink RX3 119 yX5_seeNothing, .methodLink RX3 126 yX4_offsetAt, .instanceMethod yX4_offsetAt, .selects RX4 yX4_offsetAt yX4_offsetAt, .methodLink RX3 131 yX4_skewAt, .instanceMethod yX4_skewAt, .selects RX4 yX4_skewAt yX4_skewAt, .methodLink RX3 134 yX5_seePiece, .instanceMethod yX5_seePiece, .selects RX5 yX5_seePiece yX5_seePiece, .methodLink RX3 137 yX7_recognizeMark, .instanceMethod yX7_recognizeMark, .selects RX7 yX7_recognizeMark yX7_recognizeMark, .methodLink RX3 144 yX3_control, .instanceMethod yX3_control, .selects RX3 yX3_control yX3_control, .code yX3_watchUnit cX3_watchUnit 6 none, .code yX7_endRepeat cX7_endRepeat 1 none, .methodLink RX7 124 yX0_endRepeat, .instanceMethod yX0_endRepeat, .selects RX0 yX0_endRepeat yX0_endRepeat, .methodLink RX3 103 yX3_bringSplice, .instanceMethod yX3_bringSplice, .selects RX3 yX3_bringSplice yX3_bringSplice, .methodLink RX3 106 yX7_printPiece, .instanceMethod yX7_printPiece, .selects RX7 yX7_printPiece yX7_printPiece, .methodLink RX3 109 yX3_watchUnit, .instanceMethod yX3_watchUnit, .selects RX3 yX3_watchUnit yX3_watchUnit, .methodLink RX3 113 yX7_endRepeat, .instanceMethod yX7_endRepeat]
def pr_A8 : List Cond := [.selects RX7 yX7_endRepeat yX7_endRepeat, .code yX3_makeRepeat cX3_makeRepeat 4 none, .methodLink RX3 93 yX3_copyFrom, .instanceMethod yX3_copyFrom, .selects RX3 yX3_copyFrom yX3_copyFrom, .methodLink RX3 96 yX7_changeSetting, .instanceMethod yX7_changeSetting, .selects RX7 yX7_changeSetting yX7_changeSetting, .methodLink RX3 100 yX3_makeRepeat, .instanceMethod yX3_makeRepeat, .selects RX3 yX3_makeRepeat yX3_makeRepeat, .code yX3_sumErrorsIn cX3_sumErrorsIn 9 (some .int), .code yX4_byHand cX4_byHand 2 (some .int), .code yX4_changeByHand cX4_changeByHand 3 none, .code yX5_sight cX5_sight 2 (some .int), .methodLink RX6 1 objectInit, .classLink RX6 7 RX3, .instantiable RX3 10, .fieldLink RX6 10 "PrintRegister$Slot" "saved" "LPrintRegister$Press;", .methodLink RX6 9 yX3_init, .instanceMethod yX3_init, .code yX6_init cX6_init 1 none, .methodLink RX8 1 objectInit, .classLink RX8 7 RX3, .fieldLink RX8 10 "PrintRegister" "press" "LPrintRegister$Press;", .fieldLink RX8 16 "PrintRegister" "copy" "LPrintRegister$Press;", .classLink RX8 19 RX6, .instantiable RX6 2, .initialized RX6, .fieldLink RX8 22 "PrintRegister" "slot0" "LPrintRegister$Slot;", .fieldLink RX8 26 "PrintRegister" "slot1" "LPrintRegister$Slot;", .classLink RX8 29 RX2, .instantiable RX2 10, .fieldLink RX8 32 "PrintRegister" "pad" "LPrintRegister$Pad;", .methodLink RX8 9 yX3_init, .instanceMethod yX6_init, .instanceMethod yX2_init, .methodLink RX8 36 yX3_begin, .instanceMethod yX3_begin, .selects RX3 yX3_begin yX3_begin]
def pr_A9 : List Cond := [.code yX8_init cX8_init 1 none, .code yX8_isOutside cX8_isOutside 3 (some .boolean), .constant RX8 44 (-1000000002), .methodLink RX8 40 yX8_isOutside, .static yX8_isOutside, .code yX8_setUp cX8_setUp 3 (some .int), .code yX8_isSettingValue cX8_isSettingValue 2 (some .boolean), .fieldLink RX8 280 "PrintRegister" "LEAST_SETTINGS" "[I", .fieldLink RX8 283 "PrintRegister" "GREATEST_SETTINGS" "[I", .code yX8_isPlace cX8_isPlace 1 (some .boolean), .constant RX8 53 (-1000000001), .constant RX8 62 (-1000000005), .methodLink RX8 49 yX3_unitAt, .methodLink RX8 54 yX8_isSettingValue, .static yX8_isSettingValue, .methodLink RX8 58 yX8_isPlace, .static yX8_isPlace, .methodLink RX8 63 yX7_setting, .methodLink RX8 69 yX7_changeSetting, .code yX8_set cX8_set 6 (some .int), .code yX8_get cX8_get 4 (some .int), .fieldLink RX8 73 "PrintRegister" "MOST_BY_HAND" "[I", .methodLink RX8 81 yX4_byHand, .instanceMethod yX4_byHand, .selects RX4 yX4_byHand yX4_byHand, .methodLink RX8 86 yX4_changeByHand, .instanceMethod yX4_changeByHand, .selects RX4 yX4_changeByHand yX4_changeByHand, .code yX8_adjust cX8_adjust 6 (some .int), .code yX8_restart cX8_restart 4 (some .int), .methodLink RX8 98 yX0_clear, .code yX8_speed cX8_speed 3 (some .int), .code yX8_isDisturbance cX8_isDisturbance 2 (some .boolean), .methodLink RX8 104 yX8_isDisturbance, .static yX8_isDisturbance, .methodLink RX8 107 yX4_beDisturbed, .code yX8_disturb cX8_disturb 5 (some .int), .code yX8_hide cX8_hide 5 (some .int), .code yX8_falseMark cX8_falseMark 6 (some .int), .methodLink RX8 125 yX3_startSplice]
def pr_A10 : List Cond := [.instanceMethod yX3_startSplice, .selects RX3 yX3_startSplice yX3_startSplice, .methodLink RX8 128 yX3_repeatsToLastUnit, .instanceMethod yX3_repeatsToLastUnit, .selects RX3 yX3_repeatsToLastUnit yX3_repeatsToLastUnit, .code yX8_splice cX8_splice 3 (some .int), .constant RX8 132 (100000), .methodLink RX8 133 yX3_makeRepeat, .code yX8_run cX8_run 3 (some .int), .constant RX8 152 (-1000000006), .methodLink RX8 136 yX4_offsetAt, .methodLink RX8 139 yX4_skewAt, .methodLink RX8 149 yX5_sight, .instanceMethod yX5_sight, .selects RX5 yX5_sight yX5_sight, .code yX8_seen cX8_seen 6 (some .int), .methodLink RX8 174 yX3_wayOf, .code yX8_state cX8_state 4 (some .int), .methodLink RX8 177 yX3_controlledUnitAt, .instanceMethod yX3_controlledUnitAt, .selects RX3 yX3_controlledUnitAt yX3_controlledUnitAt, .methodLink RX8 184 yX1_greatest, .instanceMethod yX1_greatest, .selects RX1 yX1_greatest yX1_greatest, .methodLink RX8 189 yX1_sumOf, .instanceMethod yX1_sumOf, .selects RX1 yX1_sumOf yX1_sumOf, .methodLink RX8 192 yX1_kept, .methodLink RX8 195 yX1_greaterThan, .instanceMethod yX1_greaterThan, .selects RX1 yX1_greaterThan yX1_greaterThan, .code yX8_errors cX8_errors 6 (some .int), .code yX8_total cX8_total 2 (some .int), .methodLink RX8 202 yX3_copyFrom, .methodLink RX8 206 yX3_isWithin, .instanceMethod yX3_isWithin, .selects RX3 yX3_isWithin yX3_isWithin, .code yX8_forecast cX8_forecast 7 (some .int), .methodLink RX8 209 yX3_sumErrorsIn, .instanceMethod yX3_sumErrorsIn]
def pr_A11 : List Cond := [.selects RX3 yX3_sumErrorsIn yX3_sumErrorsIn, .code yX8_attempt cX8_attempt 6 (some .int), .code yX8_bestGain cX8_bestGain 12 (some .int), .code yX8_charactersIn cX8_charactersIn 5 (some .int), .constantLong RX8 278 (255), .code yX8_put cX8_put 5 (some .int), .constant RX8 220 (-1000000004), .methodLink RX8 213 yX8_charactersIn, .static yX8_charactersIn, .methodLink RX8 221 yX2_append, .instanceMethod yX2_append, .selects RX2 yX2_append yX2_append, .code yX8_wipe cX8_wipe 2 (some .int), .methodLink RX8 224 yX2_readAll, .instanceMethod yX2_readAll, .selects RX2 yX2_readAll yX2_readAll, .code yX8_fault cX8_fault 1 (some .int), .code yX8_carryOutStep cX8_carryOutStep 2 none, .constant RX8 233 (-1000000003), .methodLink RX8 243 yX2_beginReading, .methodLink RX8 246 yX2_hasMore, .methodLink RX8 250 yX2_readStep, .methodLink RX8 253 yX8_carryOutStep, .instanceMethod yX8_carryOutStep, .selects RX8 yX8_carryOutStep yX8_carryOutStep, .code yX8_carryOut cX8_carryOut 3 (some .int), .code yX8_count cX8_count 2 (some .int), .code yX8_slotAt cX8_slotAt 2 (some (.object "PrintRegister$Slot")), .methodLink RX8 256 yX8_slotAt, .instanceMethod yX8_slotAt, .selects RX8 yX8_slotAt yX8_slotAt, .code yX8_save cX8_save 3 (some .int), .code yX8_restore cX8_restore 3 (some .int), .code yX9_firstValue cX9_firstValue 1 (some .int), .code yX9_place cX9_place 2 (some .int), .code yX9_lay cX9_lay 4 none, .fieldLink RX9 9 "PrintRegisterModel" "at" "[I", .methodLink RX9 33 yX9_place, .static yX9_place, .initialized RX9]
def pr_A12 : List Cond := [.code yX9_layAll cX9_layAll 4 none, .methodLink RX9 37 yX9_firstValue, .static yX9_firstValue, .methodLink RX9 41 yX9_lay, .instanceMethod yX9_lay, .selects RX9 yX9_lay yX9_lay, .methodLink RX9 3 objectInit, .fieldLink RX9 13 "PrintRegisterModel" "aside" "[I", .fieldLink RX9 16 "PrintRegisterModel" "slots" "[I", .arrayClass .boolean, .fieldLink RX9 19 "PrintRegisterModel" "isSaved" "[Z", .fieldLink RX9 23 "PrintRegisterModel" "pad" "[I", .fieldLink RX9 26 "PrintRegisterModel" "steps" "[I", .methodLink RX9 29 yX9_layAll, .instanceMethod yX9_layAll, .selects RX9 yX9_layAll yX9_layAll, .code yX9_init cX9_init 1 none, .code yX9_in cX9_in 3 (some .boolean), .code yX9_size cX9_size 1 (some .int), .code yX9_limited cX9_limited 2 (some .int), .code yX9_of cX9_of 3 (some .int), .code yX9_putAside cX9_putAside 2 none, .code yX9_putBack cX9_putBack 2 none, .code yX9_isUnit cX9_isUnit 2 (some .boolean), .methodLink RX9 45 yX9_in, .static yX9_in, .code yX9_way cX9_way 4 (some .int), .methodLink RX9 49 yX9_of, .instanceMethod yX9_of, .selects RX9 yX9_of yX9_of, .code yX9_setUp cX9_setUp 3 (some .int), .constant RX9 52 (-1000000002), .code yX9_takes cX9_takes 2 (some .boolean), .constant RX9 57 (-1000000001), .constant RX9 62 (-1000000005), .methodLink RX9 53 yX9_isUnit, .instanceMethod yX9_isUnit, .selects RX9 yX9_isUnit yX9_isUnit, .methodLink RX9 58 yX9_takes, .static yX9_takes]
def pr_A13 : List Cond := [.code yX9_set cX9_set 5 (some .int), .code yX9_get cX9_get 3 (some .int), .code yX9_adjust cX9_adjust 6 (some .int), .code yX9_restart cX9_restart 4 (some .int), .code yX9_speed cX9_speed 3 (some .int), .code yX9_giveDisturbance cX9_giveDisturbance 4 none, .code yX9_isDisturbance cX9_isDisturbance 2 (some .boolean), .methodLink RX9 63 yX9_isDisturbance, .static yX9_isDisturbance, .methodLink RX9 66 yX9_giveDisturbance, .instanceMethod yX9_giveDisturbance, .selects RX9 yX9_giveDisturbance yX9_giveDisturbance, .code yX9_disturb cX9_disturb 4 (some .int), .code yX9_hide cX9_hide 4 (some .int), .code yX9_falseMark cX9_falseMark 5 (some .int), .code yX9_startSplice cX9_startSplice 3 (some .int), .methodLink RX9 69 yX9_way, .instanceMethod yX9_way, .selects RX9 yX9_way yX9_way, .code yX9_splice cX9_splice 3 (some .int), .methodLink RX9 72 yX9_startSplice, .instanceMethod yX9_startSplice, .selects RX9 yX9_startSplice yX9_startSplice, .code yX9_tally cX9_tally 3 none, .code yX9_goOnSplice cX9_goOnSplice 3 none, .code yX9_print cX9_print 7 none, .constant RX9 75 (-1000000006), .code yX9_isSeen cX9_isSeen 2 (some .boolean), .code yX9_keepError cX9_keepError 3 none, .code yX9_see cX9_see 4 none, .methodLink RX9 76 yX9_keepError, .instanceMethod yX9_keepError, .selects RX9 yX9_keepError yX9_keepError, .code yX9_recognized cX9_recognized 8 (some .int), .methodLink RX9 80 yX9_size, .static yX9_size, .code yX9_recognize cX9_recognize 3 none, .methodLink RX9 83 yX9_recognized, .instanceMethod yX9_recognized, .selects RX9 yX9_recognized yX9_recognized]
def pr_A14 : List Cond := [.methodLink RX9 86 yX9_tally, .instanceMethod yX9_tally, .selects RX9 yX9_tally yX9_tally, .code yX9_isRecognized cX9_isRecognized 2 (some .boolean), .methodLink RX9 90 yX9_isSeen, .instanceMethod yX9_isSeen, .selects RX9 yX9_isSeen yX9_isSeen, .code yX9_learn cX9_learn 4 none, .methodLink RX9 93 yX9_limited, .static yX9_limited, .code yX9_expect cX9_expect 2 none, .code yX9_correct cX9_correct 9 none, .code yX9_decrease cX9_decrease 3 none, .code yX9_endRepeat cX9_endRepeat 2 none, .methodLink RX9 96 yX9_decrease, .instanceMethod yX9_decrease, .selects RX9 yX9_decrease yX9_decrease, .methodLink RX9 99 yX9_goOnSplice, .instanceMethod yX9_goOnSplice, .selects RX9 yX9_goOnSplice yX9_goOnSplice, .methodLink RX9 102 yX9_print, .instanceMethod yX9_print, .selects RX9 yX9_print yX9_print, .methodLink RX9 105 yX9_see, .instanceMethod yX9_see, .selects RX9 yX9_see yX9_see, .methodLink RX9 108 yX9_recognize, .instanceMethod yX9_recognize, .selects RX9 yX9_recognize yX9_recognize, .methodLink RX9 111 yX9_isRecognized, .instanceMethod yX9_isRecognized, .selects RX9 yX9_isRecognized yX9_isRecognized, .methodLink RX9 114 yX9_learn, .instanceMethod yX9_learn, .selects RX9 yX9_learn yX9_learn, .methodLink RX9 117 yX9_expect, .instanceMethod yX9_expect, .selects RX9 yX9_expect yX9_expect, .methodLink RX9 120 yX9_correct, .instanceMethod yX9_correct]
def pr_A15 : List Cond := [.selects RX9 yX9_correct yX9_correct, .methodLink RX9 123 yX9_endRepeat, .instanceMethod yX9_endRepeat, .selects RX9 yX9_endRepeat yX9_endRepeat, .code yX9_makeRepeat cX9_makeRepeat 2 none, .methodLink RX9 126 yX9_makeRepeat, .instanceMethod yX9_makeRepeat, .selects RX9 yX9_makeRepeat yX9_makeRepeat, .code yX9_makeRepeats cX9_makeRepeats 3 none, .constant RX9 129 (100000), .methodLink RX9 130 yX9_makeRepeats, .instanceMethod yX9_makeRepeats, .selects RX9 yX9_makeRepeats yX9_makeRepeats, .code yX9_run cX9_run 2 (some .int), .code yX9_seen cX9_seen 3 (some .int), .code yX9_state cX9_state 3 (some .int), .code yX9_isControlled cX9_isControlled 2 (some .boolean), .methodLink RX9 133 yX9_isControlled, .instanceMethod yX9_isControlled, .selects RX9 yX9_isControlled yX9_isControlled, .code yX9_errors cX9_errors 11 (some .int), .code yX9_total cX9_total 2 (some .int), .code yX9_comesBack cX9_comesBack 7 (some .int), .methodLink RX9 136 yX9_putAside, .instanceMethod yX9_putAside, .selects RX9 yX9_putAside yX9_putAside, .methodLink RX9 139 yX9_comesBack, .instanceMethod yX9_comesBack, .selects RX9 yX9_comesBack yX9_comesBack, .methodLink RX9 143 yX9_putBack, .instanceMethod yX9_putBack, .selects RX9 yX9_putBack yX9_putBack, .code yX9_forecast cX9_forecast 5 (some .int), .code yX9_tried cX9_tried 8 (some .int), .methodLink RX9 146 yX9_tried, .instanceMethod yX9_tried, .selects RX9 yX9_tried yX9_tried, .code yX9_attempt cX9_attempt 5 (some .int), .code yX9_bestGain cX9_bestGain 10 (some .int), .code yX9_put cX9_put 7 (some .int)]
def pr_A16 : List Cond := [.constantLong RX9 150 (255), .fieldLink RX9 152 "PrintRegisterModel" "padMany" "I", .constant RX9 156 (-1000000004), .code yX9_wipe cX9_wipe 2 (some .int), .code yX9_next cX9_next 1 (some .int), .fieldLink RX9 157 "PrintRegisterModel" "spot" "I", .code yX9_need cX9_need 2 none, .fieldLink RX9 160 "PrintRegisterModel" "isWrong" "Z", .methodLink RX9 164 yX9_next, .instanceMethod yX9_next, .selects RX9 yX9_next yX9_next, .code yX9_readNumber cX9_readNumber 4 (some .int), .code yX9_readUnit cX9_readUnit 1 (some .int), .code yX9_readDisturbance cX9_readDisturbance 4 none, .methodLink RX9 168 yX9_readNumber, .instanceMethod yX9_readNumber, .selects RX9 yX9_readNumber yX9_readNumber, .methodLink RX9 171 yX9_need, .instanceMethod yX9_need, .selects RX9 yX9_need yX9_need, .fieldLink RX9 174 "PrintRegisterModel" "stepMany" "I", .methodLink RX9 177 yX9_readUnit, .instanceMethod yX9_readUnit, .selects RX9 yX9_readUnit yX9_readUnit, .methodLink RX9 180 yX9_readDisturbance, .instanceMethod yX9_readDisturbance, .selects RX9 yX9_readDisturbance yX9_readDisturbance, .code yX9_readStep cX9_readStep 3 none, .methodLink RX9 183 yX9_readStep, .instanceMethod yX9_readStep, .selects RX9 yX9_readStep yX9_readStep, .code yX9_fault cX9_fault 1 (some .int), .code yX9_carryOutStep cX9_carryOutStep 2 none, .constant RX9 189 (-1000000003), .methodLink RX9 186 yX9_fault, .instanceMethod yX9_fault, .selects RX9 yX9_fault yX9_fault, .methodLink RX9 190 yX9_carryOutStep, .instanceMethod yX9_carryOutStep, .selects RX9 yX9_carryOutStep yX9_carryOutStep]
def pr_A17 : List Cond := [.code yX9_carryOut cX9_carryOut 4 (some .int), .code yX9_count cX9_count 2 (some .int), .code yX9_save cX9_save 3 (some .int), .code yX9_restore cX9_restore 3 (some .int), .code yJ9_abs_0f7a4 cJ9_abs_0f7a4 1 (some .int), .code yJ9_max_7cf53 cJ9_max_7cf53 2 (some .int), .code yJ9_min_7cf53 cJ9_min_7cf53 2 (some .int), .classLink RL 7 RX8, .instantiable RX8 5, .classLink RL 10 RX9, .instantiable RX9 10, .constantLong RL 90 (4294967295), .methodLink RL 9 yX8_init, .instanceMethod yX8_init, .methodLink RL 12 yX9_init, .instanceMethod yX9_init, .methodLink RL 13 yX8_setUp, .instanceMethod yX8_setUp, .selects RX8 yX8_setUp yX8_setUp, .methodLink RL 17 yX9_setUp, .instanceMethod yX9_setUp, .selects RX9 yX9_setUp yX9_setUp, .methodLink RL 18 yX8_set, .instanceMethod yX8_set, .selects RX8 yX8_set yX8_set, .methodLink RL 22 yX9_set, .instanceMethod yX9_set, .selects RX9 yX9_set yX9_set, .methodLink RL 23 yX8_get, .instanceMethod yX8_get, .selects RX8 yX8_get yX8_get, .methodLink RL 27 yX9_get, .instanceMethod yX9_get, .selects RX9 yX9_get yX9_get, .methodLink RL 28 yX8_adjust, .instanceMethod yX8_adjust, .selects RX8 yX8_adjust yX8_adjust, .methodLink RL 31 yX9_adjust, .instanceMethod yX9_adjust, .selects RX9 yX9_adjust yX9_adjust]
def pr_A18 : List Cond := [.methodLink RL 32 yX8_restart, .instanceMethod yX8_restart, .selects RX8 yX8_restart yX8_restart, .methodLink RL 35 yX9_restart, .instanceMethod yX9_restart, .selects RX9 yX9_restart yX9_restart, .methodLink RL 36 yX8_speed, .instanceMethod yX8_speed, .selects RX8 yX8_speed yX8_speed, .methodLink RL 39 yX9_speed, .instanceMethod yX9_speed, .selects RX9 yX9_speed yX9_speed, .methodLink RL 40 yX8_disturb, .instanceMethod yX8_disturb, .selects RX8 yX8_disturb yX8_disturb, .methodLink RL 43 yX9_disturb, .instanceMethod yX9_disturb, .selects RX9 yX9_disturb yX9_disturb, .methodLink RL 44 yX8_hide, .instanceMethod yX8_hide, .selects RX8 yX8_hide yX8_hide, .methodLink RL 47 yX9_hide, .instanceMethod yX9_hide, .selects RX9 yX9_hide yX9_hide, .methodLink RL 48 yX8_falseMark, .instanceMethod yX8_falseMark, .selects RX8 yX8_falseMark yX8_falseMark, .methodLink RL 51 yX9_falseMark, .instanceMethod yX9_falseMark, .selects RX9 yX9_falseMark yX9_falseMark, .methodLink RL 52 yX8_splice, .instanceMethod yX8_splice, .selects RX8 yX8_splice yX8_splice, .methodLink RL 55 yX9_splice, .instanceMethod yX9_splice, .selects RX9 yX9_splice yX9_splice, .methodLink RL 56 yX8_run, .instanceMethod yX8_run, .selects RX8 yX8_run yX8_run, .methodLink RL 59 yX9_run]
def pr_A19 : List Cond := [.instanceMethod yX9_run, .selects RX9 yX9_run yX9_run, .methodLink RL 60 yX8_seen, .instanceMethod yX8_seen, .selects RX8 yX8_seen yX8_seen, .methodLink RL 63 yX9_seen, .instanceMethod yX9_seen, .selects RX9 yX9_seen yX9_seen, .methodLink RL 64 yX8_state, .instanceMethod yX8_state, .selects RX8 yX8_state yX8_state, .methodLink RL 67 yX9_state, .instanceMethod yX9_state, .selects RX9 yX9_state yX9_state, .methodLink RL 68 yX8_errors, .instanceMethod yX8_errors, .selects RX8 yX8_errors yX8_errors, .methodLink RL 71 yX9_errors, .instanceMethod yX9_errors, .selects RX9 yX9_errors yX9_errors, .methodLink RL 72 yX8_total, .instanceMethod yX8_total, .selects RX8 yX8_total yX8_total, .methodLink RL 75 yX9_total, .instanceMethod yX9_total, .selects RX9 yX9_total yX9_total, .methodLink RL 76 yX8_forecast, .instanceMethod yX8_forecast, .selects RX8 yX8_forecast yX8_forecast, .methodLink RL 79 yX9_forecast, .instanceMethod yX9_forecast, .selects RX9 yX9_forecast yX9_forecast, .methodLink RL 80 yX8_attempt, .instanceMethod yX8_attempt, .selects RX8 yX8_attempt yX8_attempt, .methodLink RL 84 yX9_attempt, .instanceMethod yX9_attempt, .selects RX9 yX9_attempt yX9_attempt, .methodLink RL 85 yX8_bestGain, .instanceMethod yX8_bestGain]
def pr_A20 : List Cond := [.selects RX8 yX8_bestGain yX8_bestGain, .methodLink RL 89 yX9_bestGain, .instanceMethod yX9_bestGain, .selects RX9 yX9_bestGain yX9_bestGain, .methodLink RL 92 yX8_put, .instanceMethod yX8_put, .selects RX8 yX8_put yX8_put, .methodLink RL 96 yX9_put, .instanceMethod yX9_put, .selects RX9 yX9_put yX9_put, .methodLink RL 97 yX8_wipe, .instanceMethod yX8_wipe, .selects RX8 yX8_wipe yX8_wipe, .methodLink RL 101 yX9_wipe, .instanceMethod yX9_wipe, .selects RX9 yX9_wipe yX9_wipe, .methodLink RL 102 yX8_fault, .instanceMethod yX8_fault, .selects RX8 yX8_fault yX8_fault, .methodLink RL 105 yX9_fault, .methodLink RL 106 yX8_carryOut, .instanceMethod yX8_carryOut, .selects RX8 yX8_carryOut yX8_carryOut, .methodLink RL 109 yX9_carryOut, .instanceMethod yX9_carryOut, .selects RX9 yX9_carryOut yX9_carryOut, .methodLink RL 110 yX8_count, .instanceMethod yX8_count, .selects RX8 yX8_count yX8_count, .methodLink RL 113 yX9_count, .instanceMethod yX9_count, .selects RX9 yX9_count yX9_count, .methodLink RL 114 yX8_save, .instanceMethod yX8_save, .selects RX8 yX8_save yX8_save, .methodLink RL 117 yX9_save, .instanceMethod yX9_save, .selects RX9 yX9_save yX9_save, .methodLink RL 118 yX8_restore, .instanceMethod yX8_restore]
def pr_A21 : List Cond := [.selects RX8 yX8_restore yX8_restore, .methodLink RL 121 yX9_restore, .instanceMethod yX9_restore, .selects RX9 yX9_restore yX9_restore]
def pr_AL : List Cond := pr_A0 ++ (pr_A1 ++ (pr_A2 ++ (pr_A3 ++ (pr_A4 ++ (pr_A5 ++ (pr_A6 ++ (pr_A7 ++ (pr_A8 ++ (pr_A9 ++ (pr_A10 ++ (pr_A11 ++ (pr_A12 ++ (pr_A13 ++ (pr_A14 ++ (pr_A15 ++ (pr_A16 ++ (pr_A17 ++ (pr_A18 ++ (pr_A19 ++ (pr_A20 ++ (pr_A21 ++ (wsX00 ++ (wsX10 ++ (wsX20 ++ (wsX30 ++ (wsX40 ++ (wsX50 ++ (wsX60 ++ (wsX70 ++ (wsX80 ++ (wsX90)))))))))))))))))))))))))))))))
theorem pr_in_pr_A0 : ∀ w ∈ pr_A0, w ∈ pr_AL := fun _ h => List.mem_append_left _ h
theorem pr_in_pr_A1 : ∀ w ∈ pr_A1, w ∈ pr_AL := fun _ h => List.mem_append_right _ (List.mem_append_left _ h)
theorem pr_in_pr_A2 : ∀ w ∈ pr_A2, w ∈ pr_AL := fun _ h => List.mem_append_right _ (List.mem_append_right _ (List.mem_append_left _ h))
theorem pr_in_pr_A3 : ∀ w ∈ pr_A3, w ∈ pr_AL := fun _ h => List.mem_append_right _ (List.mem_append_right _ (List.mem_append_right _ (List.mem_append_left _ h)))
theorem pr_in_pr_A4 : ∀ w ∈ pr_A4, w ∈ pr_AL := fun _ h => List.mem_append_right _ (List.mem_append_right _ (List.mem_append_right _ (List.mem_append_right _ (List.mem_append_left _ h))))
theorem pr_in_pr_A5 : ∀ w ∈ pr_A5, w ∈ pr_AL := fun _ h => List.mem_append_right _ (List.mem_append_right _ (List.mem_append_right _ (List.mem_append_right _ (List.mem_append_right _ (List.mem_append_left _ h)))))
theorem pr_in_pr_A6 : ∀ w ∈ pr_A6, w ∈ pr_AL := fun _ h => List.mem_append_right _ (List.mem_append_right _ (List.mem_append_right _ (List.mem_append_right _ (List.mem_append_right _ (List.mem_append_right _ (List.mem_append_left _ h))))))
theorem pr_in_pr_A7 : ∀ w ∈ pr_A7, w ∈ pr_AL := fun _ h => List.mem_append_right _ (List.mem_append_right _ (List.mem_append_right _ (List.mem_append_right _ (List.mem_append_right _ (List.mem_append_right _ (List.mem_append_right _ (List.mem_append_left _ h)))))))
theorem pr_in_pr_A8 : ∀ w ∈ pr_A8, w ∈ pr_AL := fun _ h => List.mem_append_right _ (List.mem_append_right _ (List.mem_append_right _ (List.mem_append_right _ (List.mem_append_right _ (List.mem_append_right _ (List.mem_append_right _ (List.mem_append_right _ (List.mem_append_left _ h))))))))
theorem pr_in_pr_A9 : ∀ w ∈ pr_A9, w ∈ pr_AL := fun _ h => List.mem_append_right _ (List.mem_append_right _ (List.mem_append_right _ (List.mem_append_right _ (List.mem_append_right _ (List.mem_append_right _ (List.mem_append_right _ (List.mem_append_right _ (List.mem_append_right _ (List.mem_append_left _ h)))))))))
theorem pr_in_pr_A10 : ∀ w ∈ pr_A10, w ∈ pr_AL := fun _ h => List.mem_append_right _ (List.mem_append_right _ (List.mem_append_right _ (List.mem_append_right _ (List.mem_append_right _ (List.mem_append_right _ (List.mem_append_right _ (List.mem_append_right _ (List.mem_append_right _ (List.mem_append_right _ (List.mem_append_left _ h))))))))))
theorem pr_in_pr_A11 : ∀ w ∈ pr_A11, w ∈ pr_AL := fun _ h => List.mem_append_right _ (List.mem_append_right _ (List.mem_append_right _ (List.mem_append_right _ (List.mem_append_right _ (List.mem_append_right _ (List.mem_append_right _ (List.mem_append_right _ (List.mem_append_right _ (List.mem_append_right _ (List.mem_append_right _ (List.mem_append_left _ h)))))))))))
theorem pr_in_pr_A12 : ∀ w ∈ pr_A12, w ∈ pr_AL := fun _ h => List.mem_append_right _ (List.mem_append_right _ (List.mem_append_right _ (List.mem_append_right _ (List.mem_append_right _ (List.mem_append_right _ (List.mem_append_right _ (List.mem_append_right _ (List.mem_append_right _ (List.mem_append_right _ (List.mem_append_right _ (List.mem_append_right _ (List.mem_append_left _ h))))))))))))
theorem pr_in_pr_A13 : ∀ w ∈ pr_A13, w ∈ pr_AL := fun _ h => List.mem_append_right _ (List.mem_append_right _ (List.mem_append_right _ (List.mem_append_right _ (List.mem_append_right _ (List.mem_append_right _ (List.mem_append_right _ (List.mem_append_right _ (List.mem_append_right _ (List.mem_append_right _ (List.mem_append_right _ (List.mem_append_right _ (List.mem_append_right _ (List.mem_append_left _ h)))))))))))))
theorem pr_in_pr_A14 : ∀ w ∈ pr_A14, w ∈ pr_AL := fun _ h => List.mem_append_right _ (List.mem_append_right _ (List.mem_append_right _ (List.mem_append_right _ (List.mem_append_right _ (List.mem_append_right _ (List.mem_append_right _ (List.mem_append_right _ (List.mem_append_right _ (List.mem_append_right _ (List.mem_append_right _ (List.mem_append_right _ (List.mem_append_right _ (List.mem_append_right _ (List.mem_append_left _ h))))))))))))))
theorem pr_in_pr_A15 : ∀ w ∈ pr_A15, w ∈ pr_AL := fun _ h => List.mem_append_right _ (List.mem_append_right _ (List.mem_append_right _ (List.mem_append_right _ (List.mem_append_right _ (List.mem_append_right _ (List.mem_append_right _ (List.mem_append_right _ (List.mem_append_right _ (List.mem_append_right _ (List.mem_append_right _ (List.mem_append_right _ (List.mem_append_right _ (List.mem_append_right _ (List.mem_append_right _ (List.mem_append_left _ h)))))))))))))))
theorem pr_in_pr_A16 : ∀ w ∈ pr_A16, w ∈ pr_AL := fun _ h => List.mem_append_right _ (List.mem_append_right _ (List.mem_append_right _ (List.mem_append_right _ (List.mem_append_right _ (List.mem_append_right _ (List.mem_append_right _ (List.mem_append_right _ (List.mem_append_right _ (List.mem_append_right _ (List.mem_append_right _ (List.mem_append_right _ (List.mem_append_right _ (List.mem_append_right _ (List.mem_append_right _ (List.mem_append_right _ (List.mem_append_left _ h))))))))))))))))
theorem pr_in_pr_A17 : ∀ w ∈ pr_A17, w ∈ pr_AL := fun _ h => List.mem_append_right _ (List.mem_append_right _ (List.mem_append_right _ (List.mem_append_right _ (List.mem_append_right _ (List.mem_append_right _ (List.mem_append_right _ (List.mem_append_right _ (List.mem_append_right _ (List.mem_append_right _ (List.mem_append_right _ (List.mem_append_right _ (List.mem_append_right _ (List.mem_append_right _ (List.mem_append_right _ (List.mem_append_right _ (List.mem_append_right _ (List.mem_append_left _ h)))))))))))))))))
theorem pr_in_pr_A18 : ∀ w ∈ pr_A18, w ∈ pr_AL := fun _ h => List.mem_append_right _ (List.mem_append_right _ (List.mem_append_right _ (List.mem_append_right _ (List.mem_append_right _ (List.mem_append_right _ (List.mem_append_right _ (List.mem_append_right _ (List.mem_append_right _ (List.mem_append_right _ (List.mem_append_right _ (List.mem_append_right _ (List.mem_append_right _ (List.mem_append_right _ (List.mem_append_right _ (List.mem_append_right _ (List.mem_append_right _ (List.mem_append_right _ (List.mem_append_left _ h))))))))))))))))))
theorem pr_in_pr_A19 : ∀ w ∈ pr_A19, w ∈ pr_AL := fun _ h => List.mem_append_right _ (List.mem_append_right _ (List.mem_append_right _ (List.mem_append_right _ (List.mem_append_right _ (List.mem_append_right _ (List.mem_append_right _ (List.mem_append_right _ (List.mem_append_right _ (List.mem_append_right _ (List.mem_append_right _ (List.mem_append_right _ (List.mem_append_right _ (List.mem_append_right _ (List.mem_append_right _ (List.mem_append_right _ (List.mem_append_right _ (List.mem_append_right _ (List.mem_append_right _ (List.mem_append_left _ h)))))))))))))))))))
theorem pr_in_pr_A20 : ∀ w ∈ pr_A20, w ∈ pr_AL := fun _ h => List.mem_append_right _ (List.mem_append_right _ (List.mem_append_right _ (List.mem_append_right _ (List.mem_append_right _ (List.mem_append_right _ (List.mem_append_right _ (List.mem_append_right _ (List.mem_append_right _ (List.mem_append_right _ (List.mem_append_right _ (List.mem_append_right _ (List.mem_append_right _ (List.mem_append_right _ (List.mem_append_right _ (List.mem_append_right _ (List.mem_append_right _ (List.mem_append_right _ (List.mem_append_right _ (List.mem_append_right _ (List.mem_append_left _ h))))))))))))))))))))
theorem pr_in_pr_A21 : ∀ w ∈ pr_A21, w ∈ pr_AL := fun _ h => List.mem_append_right _ (List.mem_append_right _ (List.mem_append_right _ (List.mem_append_right _ (List.mem_append_right _ (List.mem_append_right _ (List.mem_append_right _ (List.mem_append_right _ (List.mem_append_right _ (List.mem_append_right _ (List.mem_append_right _ (List.mem_append_right _ (List.mem_append_right _ (List.mem_append_right _ (List.mem_append_right _ (List.mem_append_right _ (List.mem_append_right _ (List.mem_append_right _ (List.mem_append_right _ (List.mem_append_right _ (List.mem_append_right _ (List.mem_append_left _ h)))))))))))))))))))))
theorem pr_in_wsX00 : ∀ w ∈ wsX00, w ∈ pr_AL := fun _ h => List.mem_append_right _ (List.mem_append_right _ (List.mem_append_right _ (List.mem_append_right _ (List.mem_append_right _ (List.mem_append_right _ (List.mem_append_right _ (List.mem_append_right _ (List.mem_append_right _ (List.mem_append_right _ (List.mem_append_right _ (List.mem_append_right _ (List.mem_append_right _ (List.mem_append_right _ (List.mem_append_right _ (List.mem_append_right _ (List.mem_append_right _ (List.mem_append_right _ (List.mem_append_right _ (List.mem_append_right _ (List.mem_append_right _ (List.mem_append_right _ (List.mem_append_left _ h))))))))))))))))))))))
theorem pr_in_wsX10 : ∀ w ∈ wsX10, w ∈ pr_AL := fun _ h => List.mem_append_right _ (List.mem_append_right _ (List.mem_append_right _ (List.mem_append_right _ (List.mem_append_right _ (List.mem_append_right _ (List.mem_append_right _ (List.mem_append_right _ (List.mem_append_right _ (List.mem_append_right _ (List.mem_append_right _ (List.mem_append_right _ (List.mem_append_right _ (List.mem_append_right _ (List.mem_append_right _ (List.mem_append_right _ (List.mem_append_right _ (List.mem_append_right _ (List.mem_append_right _ (List.mem_append_right _ (List.mem_append_right _ (List.mem_append_right _ (List.mem_append_right _ (List.mem_append_left _ h)))))))))))))))))))))))
theorem pr_in_wsX20 : ∀ w ∈ wsX20, w ∈ pr_AL := fun _ h => List.mem_append_right _ (List.mem_append_right _ (List.mem_append_right _ (List.mem_append_right _ (List.mem_append_right _ (List.mem_append_right _ (List.mem_append_right _ (List.mem_append_right _ (List.mem_append_right _ (List.mem_append_right _ (List.mem_append_right _ (List.mem_append_right _ (List.mem_append_right _ (List.mem_append_right _ (List.mem_append_right _ (List.mem_append_right _ (List.mem_append_right _ (List.mem_append_right _ (List.mem_append_right _ (List.mem_append_right _ (List.mem_append_right _ (List.mem_append_right _ (List.mem_append_right _ (List.mem_append_right _ (List.mem_append_left _ h))))))))))))))))))))))))
theorem pr_in_wsX30 : ∀ w ∈ wsX30, w ∈ pr_AL := fun _ h => List.mem_append_right _ (List.mem_append_right _ (List.mem_append_right _ (List.mem_append_right _ (List.mem_append_right _ (List.mem_append_right _ (List.mem_append_right _ (List.mem_append_right _ (List.mem_append_right _ (List.mem_append_right _ (List.mem_append_right _ (List.mem_append_right _ (List.mem_append_right _ (List.mem_append_right _ (List.mem_append_right _ (List.mem_append_right _ (List.mem_append_right _ (List.mem_append_right _ (List.mem_append_right _ (List.mem_append_right _ (List.mem_append_right _ (List.mem_append_right _ (List.mem_append_right _ (List.mem_append_right _ (List.mem_append_right _ (List.mem_append_left _ h)))))))))))))))))))))))))
theorem pr_in_wsX40 : ∀ w ∈ wsX40, w ∈ pr_AL := fun _ h => List.mem_append_right _ (List.mem_append_right _ (List.mem_append_right _ (List.mem_append_right _ (List.mem_append_right _ (List.mem_append_right _ (List.mem_append_right _ (List.mem_append_right _ (List.mem_append_right _ (List.mem_append_right _ (List.mem_append_right _ (List.mem_append_right _ (List.mem_append_right _ (List.mem_append_right _ (List.mem_append_right _ (List.mem_append_right _ (List.mem_append_right _ (List.mem_append_right _ (List.mem_append_right _ (List.mem_append_right _ (List.mem_append_right _ (List.mem_append_right _ (List.mem_append_right _ (List.mem_append_right _ (List.mem_append_right _ (List.mem_append_right _ (List.mem_append_left _ h))))))))))))))))))))))))))
theorem pr_in_wsX50 : ∀ w ∈ wsX50, w ∈ pr_AL := fun _ h => List.mem_append_right _ (List.mem_append_right _ (List.mem_append_right _ (List.mem_append_right _ (List.mem_append_right _ (List.mem_append_right _ (List.mem_append_right _ (List.mem_append_right _ (List.mem_append_right _ (List.mem_append_right _ (List.mem_append_right _ (List.mem_append_right _ (List.mem_append_right _ (List.mem_append_right _ (List.mem_append_right _ (List.mem_append_right _ (List.mem_append_right _ (List.mem_append_right _ (List.mem_append_right _ (List.mem_append_right _ (List.mem_append_right _ (List.mem_append_right _ (List.mem_append_right _ (List.mem_append_right _ (List.mem_append_right _ (List.mem_append_right _ (List.mem_append_right _ (List.mem_append_left _ h)))))))))))))))))))))))))))
theorem pr_in_wsX60 : ∀ w ∈ wsX60, w ∈ pr_AL := fun _ h => List.mem_append_right _ (List.mem_append_right _ (List.mem_append_right _ (List.mem_append_right _ (List.mem_append_right _ (List.mem_append_right _ (List.mem_append_right _ (List.mem_append_right _ (List.mem_append_right _ (List.mem_append_right _ (List.mem_append_right _ (List.mem_append_right _ (List.mem_append_right _ (List.mem_append_right _ (List.mem_append_right _ (List.mem_append_right _ (List.mem_append_right _ (List.mem_append_right _ (List.mem_append_right _ (List.mem_append_right _ (List.mem_append_right _ (List.mem_append_right _ (List.mem_append_right _ (List.mem_append_right _ (List.mem_append_right _ (List.mem_append_right _ (List.mem_append_right _ (List.mem_append_right _ (List.mem_append_left _ h))))))))))))))))))))))))))))
theorem pr_in_wsX70 : ∀ w ∈ wsX70, w ∈ pr_AL := fun _ h => List.mem_append_right _ (List.mem_append_right _ (List.mem_append_right _ (List.mem_append_right _ (List.mem_append_right _ (List.mem_append_right _ (List.mem_append_right _ (List.mem_append_right _ (List.mem_append_right _ (List.mem_append_right _ (List.mem_append_right _ (List.mem_append_right _ (List.mem_append_right _ (List.mem_append_right _ (List.mem_append_right _ (List.mem_append_right _ (List.mem_append_right _ (List.mem_append_right _ (List.mem_append_right _ (List.mem_append_right _ (List.mem_append_right _ (List.mem_append_right _ (List.mem_append_right _ (List.mem_append_right _ (List.mem_append_right _ (List.mem_append_right _ (List.mem_append_right _ (List.mem_append_right _ (List.mem_append_right _ (List.mem_append_left _ h)))))))))))))))))))))))))))))
theorem pr_in_wsX80 : ∀ w ∈ wsX80, w ∈ pr_AL := fun _ h => List.mem_append_right _ (List.mem_append_right _ (List.mem_append_right _ (List.mem_append_right _ (List.mem_append_right _ (List.mem_append_right _ (List.mem_append_right _ (List.mem_append_right _ (List.mem_append_right _ (List.mem_append_right _ (List.mem_append_right _ (List.mem_append_right _ (List.mem_append_right _ (List.mem_append_right _ (List.mem_append_right _ (List.mem_append_right _ (List.mem_append_right _ (List.mem_append_right _ (List.mem_append_right _ (List.mem_append_right _ (List.mem_append_right _ (List.mem_append_right _ (List.mem_append_right _ (List.mem_append_right _ (List.mem_append_right _ (List.mem_append_right _ (List.mem_append_right _ (List.mem_append_right _ (List.mem_append_right _ (List.mem_append_right _ (List.mem_append_left _ h))))))))))))))))))))))))))))))
theorem pr_in_wsX90 : ∀ w ∈ wsX90, w ∈ pr_AL := fun _ h => List.mem_append_right _ (List.mem_append_right _ (List.mem_append_right _ (List.mem_append_right _ (List.mem_append_right _ (List.mem_append_right _ (List.mem_append_right _ (List.mem_append_right _ (List.mem_append_right _ (List.mem_append_right _ (List.mem_append_right _ (List.mem_append_right _ (List.mem_append_right _ (List.mem_append_right _ (List.mem_append_right _ (List.mem_append_right _ (List.mem_append_right _ (List.mem_append_right _ (List.mem_append_right _ (List.mem_append_right _ (List.mem_append_right _ (List.mem_append_right _ (List.mem_append_right _ (List.mem_append_right _ (List.mem_append_right _ (List.mem_append_right _ (List.mem_append_right _ (List.mem_append_right _ (List.mem_append_right _ (List.mem_append_right _ (List.mem_append_right _ (h)))))))))))))))))))))))))))))))
theorem pr_w0 : Cond.code yX0_init cX0_init 1 none ∈ pr_AL := pr_in_pr_A0 _ (List.mem_of_getElem? (i := 0) (by decide +kernel))
theorem pr_w1 : Cond.methodLink RX0 1 objectInit ∈ pr_AL := pr_in_pr_A0 _ (List.mem_of_getElem? (i := 1) (by decide +kernel))
theorem pr_w2 : Cond.instanceMethod objectInit ∈ pr_AL := pr_in_pr_A0 _ (List.mem_of_getElem? (i := 2) (by decide +kernel))
theorem pr_w3 : Cond.code objectInit ⟨#[0xb1]⟩ 1 none ∈ pr_AL := pr_in_pr_A0 _ (List.mem_of_getElem? (i := 3) (by decide +kernel))
theorem pr_w4 : Cond.code yX0_clear cX0_clear 1 none ∈ pr_AL := pr_in_pr_A0 _ (List.mem_of_getElem? (i := 4) (by decide +kernel))
theorem pr_w5 : Cond.fieldLink RX0 7 "PrintRegister$Controller" "feed" "I" ∈ pr_AL := pr_in_pr_A0 _ (List.mem_of_getElem? (i := 5) (by decide +kernel))
theorem pr_w6 : Cond.fieldLink RX0 13 "PrintRegister$Controller" "sum" "I" ∈ pr_AL := pr_in_pr_A0 _ (List.mem_of_getElem? (i := 6) (by decide +kernel))
theorem pr_w7 : Cond.fieldLink RX0 16 "PrintRegister$Controller" "wait" "I" ∈ pr_AL := pr_in_pr_A0 _ (List.mem_of_getElem? (i := 7) (by decide +kernel))
theorem pr_w8 : Cond.fieldLink RX0 19 "PrintRegister$Controller" "misses" "I" ∈ pr_AL := pr_in_pr_A0 _ (List.mem_of_getElem? (i := 8) (by decide +kernel))
theorem pr_w9 : Cond.fieldLink RX0 22 "PrintRegister$Controller" "readyTime" "I" ∈ pr_AL := pr_in_pr_A0 _ (List.mem_of_getElem? (i := 9) (by decide +kernel))
theorem pr_w10 : Cond.fieldLink RX0 25 "PrintRegister$Controller" "expectedError" "I" ∈ pr_AL := pr_in_pr_A0 _ (List.mem_of_getElem? (i := 10) (by decide +kernel))
theorem pr_w11 : Cond.fieldLink RX0 28 "PrintRegister$Controller" "expectedSkew" "I" ∈ pr_AL := pr_in_pr_A0 _ (List.mem_of_getElem? (i := 11) (by decide +kernel))
theorem pr_w12 : Cond.fieldLink RX0 31 "PrintRegister$Controller" "addedPhase" "I" ∈ pr_AL := pr_in_pr_A0 _ (List.mem_of_getElem? (i := 12) (by decide +kernel))
theorem pr_w13 : Cond.fieldLink RX0 34 "PrintRegister$Controller" "addedSkew" "I" ∈ pr_AL := pr_in_pr_A0 _ (List.mem_of_getElem? (i := 13) (by decide +kernel))
theorem pr_w14 : Cond.code yX0_copyFrom cX0_copyFrom 2 none ∈ pr_AL := pr_in_pr_A0 _ (List.mem_of_getElem? (i := 14) (by decide +kernel))
theorem pr_w15 : Cond.code yX8_lessOne cX8_lessOne 1 (some .int) ∈ pr_AL := pr_in_pr_A0 _ (List.mem_of_getElem? (i := 15) (by decide +kernel))
theorem pr_w16 : Cond.code yX0_endRepeat cX0_endRepeat 1 none ∈ pr_AL := pr_in_pr_A0 _ (List.mem_of_getElem? (i := 16) (by decide +kernel))
theorem pr_w17 : Cond.static yX8_lessOne ∈ pr_AL := pr_in_pr_A0 _ (List.mem_of_getElem? (i := 17) (by decide +kernel))
theorem pr_w18 : Cond.initialized RX8 ∈ pr_AL := pr_in_pr_A0 _ (List.mem_of_getElem? (i := 18) (by decide +kernel))
theorem pr_w19 : Cond.code yX1_init cX1_init 1 none ∈ pr_AL := pr_in_pr_A0 _ (List.mem_of_getElem? (i := 19) (by decide +kernel))
theorem pr_w20 : Cond.methodLink RX1 3 objectInit ∈ pr_AL := pr_in_pr_A0 _ (List.mem_of_getElem? (i := 20) (by decide +kernel))
theorem pr_w21 : Cond.arrayClass .int ∈ pr_AL := pr_in_pr_A0 _ (List.mem_of_getElem? (i := 21) (by decide +kernel))
theorem pr_w22 : Cond.fieldLink RX1 9 "PrintRegister$ErrorLog" "places" "[I" ∈ pr_AL := pr_in_pr_A0 _ (List.mem_of_getElem? (i := 22) (by decide +kernel))
theorem pr_w23 : Cond.code yX1_begin cX1_begin 1 none ∈ pr_AL := pr_in_pr_A0 _ (List.mem_of_getElem? (i := 23) (by decide +kernel))
theorem pr_w24 : Cond.fieldLink RX1 15 "PrintRegister$ErrorLog" "added" "I" ∈ pr_AL := pr_in_pr_A0 _ (List.mem_of_getElem? (i := 24) (by decide +kernel))
theorem pr_w25 : Cond.code yX1_copyFrom cX1_copyFrom 2 none ∈ pr_AL := pr_in_pr_A0 _ (List.mem_of_getElem? (i := 25) (by decide +kernel))
theorem pr_w26 : Cond.methodLink RX1 19 arraycopyName ∈ pr_AL := pr_in_pr_A0 _ (List.mem_of_getElem? (i := 26) (by decide +kernel))
theorem pr_w27 : Cond.native arraycopyName ∈ pr_AL := pr_in_pr_A0 _ (List.mem_of_getElem? (i := 27) (by decide +kernel))
theorem pr_w28 : Cond.static arraycopyName ∈ pr_AL := pr_in_pr_A0 _ (List.mem_of_getElem? (i := 28) (by decide +kernel))
theorem pr_w29 : Cond.initialized "java/lang/System" ∈ pr_AL := pr_in_pr_A0 _ (List.mem_of_getElem? (i := 29) (by decide +kernel))
theorem pr_w30 : Cond.code yX1_add cX1_add 2 none ∈ pr_AL := pr_in_pr_A0 _ (List.mem_of_getElem? (i := 30) (by decide +kernel))
theorem pr_w31 : Cond.code yX1_kept cX1_kept 2 (some .int) ∈ pr_AL := pr_in_pr_A0 _ (List.mem_of_getElem? (i := 31) (by decide +kernel))
theorem pr_w32 : Cond.methodLink RX1 25 Lib.Math.min.name ∈ pr_AL := pr_in_pr_A0 _ (List.mem_of_getElem? (i := 32) (by decide +kernel))
theorem pr_w33 : Cond.static Lib.Math.min.name ∈ pr_AL := pr_in_pr_A0 _ (List.mem_of_getElem? (i := 33) (by decide +kernel))
theorem pr_w34 : Cond.initialized "java/lang/Math" ∈ pr_AL := pr_in_pr_A0 _ (List.mem_of_getElem? (i := 34) (by decide +kernel))
theorem pr_w35 : Cond.code Lib.Math.min.name Lib.Math.min.code 2 (some .int) ∈ pr_AL := pr_in_pr_A0 _ (List.mem_of_getElem? (i := 35) (by decide +kernel))
theorem pr_w36 : Cond.code yX1_sizeOf cX1_sizeOf 2 (some .int) ∈ pr_AL := pr_in_pr_A0 _ (List.mem_of_getElem? (i := 36) (by decide +kernel))
theorem pr_w37 : Cond.methodLink RX1 31 Lib.Math.abs.name ∈ pr_AL := pr_in_pr_A0 _ (List.mem_of_getElem? (i := 37) (by decide +kernel))
theorem pr_w38 : Cond.static Lib.Math.abs.name ∈ pr_AL := pr_in_pr_A0 _ (List.mem_of_getElem? (i := 38) (by decide +kernel))
theorem pr_w39 : Cond.code Lib.Math.abs.name Lib.Math.abs.code 1 (some .int) ∈ pr_AL := pr_in_pr_A0 _ (List.mem_of_getElem? (i := 39) (by decide +kernel))
theorem pr_w40 : Cond.code yX1_greatest cX1_greatest 4 (some .int) ∈ pr_AL := pr_in_pr_A1 _ (List.mem_of_getElem? (i := 0) (by decide +kernel))
theorem pr_w41 : Cond.methodLink RX1 41 Lib.Math.max.name ∈ pr_AL := pr_in_pr_A1 _ (List.mem_of_getElem? (i := 1) (by decide +kernel))
theorem pr_w42 : Cond.static Lib.Math.max.name ∈ pr_AL := pr_in_pr_A1 _ (List.mem_of_getElem? (i := 2) (by decide +kernel))
theorem pr_w43 : Cond.code Lib.Math.max.name Lib.Math.max.code 2 (some .int) ∈ pr_AL := pr_in_pr_A1 _ (List.mem_of_getElem? (i := 3) (by decide +kernel))
theorem pr_w44 : Cond.methodLink RX1 35 yX1_kept ∈ pr_AL := pr_in_pr_A1 _ (List.mem_of_getElem? (i := 4) (by decide +kernel))
theorem pr_w45 : Cond.instanceMethod yX1_kept ∈ pr_AL := pr_in_pr_A1 _ (List.mem_of_getElem? (i := 5) (by decide +kernel))
theorem pr_w46 : Cond.selects RX1 yX1_kept yX1_kept ∈ pr_AL := pr_in_pr_A1 _ (List.mem_of_getElem? (i := 6) (by decide +kernel))
theorem pr_w47 : Cond.initialized RX1 ∈ pr_AL := pr_in_pr_A1 _ (List.mem_of_getElem? (i := 7) (by decide +kernel))
theorem pr_w48 : Cond.methodLink RX1 38 yX1_sizeOf ∈ pr_AL := pr_in_pr_A1 _ (List.mem_of_getElem? (i := 8) (by decide +kernel))
theorem pr_w49 : Cond.instanceMethod yX1_sizeOf ∈ pr_AL := pr_in_pr_A1 _ (List.mem_of_getElem? (i := 9) (by decide +kernel))
theorem pr_w50 : Cond.selects RX1 yX1_sizeOf yX1_sizeOf ∈ pr_AL := pr_in_pr_A1 _ (List.mem_of_getElem? (i := 10) (by decide +kernel))
theorem pr_w51 : Cond.code yX1_sumOf cX1_sumOf 4 (some .int) ∈ pr_AL := pr_in_pr_A1 _ (List.mem_of_getElem? (i := 11) (by decide +kernel))
theorem pr_w52 : Cond.code yX1_greaterThan cX1_greaterThan 5 (some .int) ∈ pr_AL := pr_in_pr_A1 _ (List.mem_of_getElem? (i := 12) (by decide +kernel))
theorem pr_w53 : Cond.code yX2_init cX2_init 1 none ∈ pr_AL := pr_in_pr_A1 _ (List.mem_of_getElem? (i := 13) (by decide +kernel))
theorem pr_w54 : Cond.methodLink RX2 3 objectInit ∈ pr_AL := pr_in_pr_A1 _ (List.mem_of_getElem? (i := 14) (by decide +kernel))
theorem pr_w55 : Cond.fieldLink RX2 9 "PrintRegister$Pad" "codes" "[I" ∈ pr_AL := pr_in_pr_A1 _ (List.mem_of_getElem? (i := 15) (by decide +kernel))
theorem pr_w56 : Cond.code yX2_append cX2_append 2 none ∈ pr_AL := pr_in_pr_A1 _ (List.mem_of_getElem? (i := 16) (by decide +kernel))
theorem pr_w57 : Cond.fieldLink RX2 15 "PrintRegister$Pad" "length" "I" ∈ pr_AL := pr_in_pr_A1 _ (List.mem_of_getElem? (i := 17) (by decide +kernel))
theorem pr_w58 : Cond.code yX2_codeAt cX2_codeAt 2 (some .int) ∈ pr_AL := pr_in_pr_A1 _ (List.mem_of_getElem? (i := 18) (by decide +kernel))
theorem pr_w59 : Cond.code yX2_beginReading cX2_beginReading 1 none ∈ pr_AL := pr_in_pr_A1 _ (List.mem_of_getElem? (i := 19) (by decide +kernel))
theorem pr_w60 : Cond.fieldLink RX2 19 "PrintRegister$Pad" "at" "I" ∈ pr_AL := pr_in_pr_A1 _ (List.mem_of_getElem? (i := 20) (by decide +kernel))
theorem pr_w61 : Cond.fieldLink RX2 22 "PrintRegister$Pad" "failed" "Z" ∈ pr_AL := pr_in_pr_A1 _ (List.mem_of_getElem? (i := 21) (by decide +kernel))
theorem pr_w62 : Cond.code yX2_hasMore cX2_hasMore 1 (some .boolean) ∈ pr_AL := pr_in_pr_A1 _ (List.mem_of_getElem? (i := 22) (by decide +kernel))
theorem pr_w63 : Cond.code yX2_readSign cX2_readSign 2 none ∈ pr_AL := pr_in_pr_A1 _ (List.mem_of_getElem? (i := 23) (by decide +kernel))
theorem pr_w64 : Cond.methodLink RX2 61 yX2_codeAt ∈ pr_AL := pr_in_pr_A1 _ (List.mem_of_getElem? (i := 24) (by decide +kernel))
theorem pr_w65 : Cond.instanceMethod yX2_codeAt ∈ pr_AL := pr_in_pr_A1 _ (List.mem_of_getElem? (i := 25) (by decide +kernel))
theorem pr_w66 : Cond.selects RX2 yX2_codeAt yX2_codeAt ∈ pr_AL := pr_in_pr_A1 _ (List.mem_of_getElem? (i := 26) (by decide +kernel))
theorem pr_w67 : Cond.initialized RX2 ∈ pr_AL := pr_in_pr_A1 _ (List.mem_of_getElem? (i := 27) (by decide +kernel))
theorem pr_w68 : Cond.code yX2_digitAt cX2_digitAt 3 (some .int) ∈ pr_AL := pr_in_pr_A1 _ (List.mem_of_getElem? (i := 28) (by decide +kernel))
theorem pr_w69 : Cond.code yX2_readNumber cX2_readNumber 5 (some .int) ∈ pr_AL := pr_in_pr_A1 _ (List.mem_of_getElem? (i := 29) (by decide +kernel))
theorem pr_w70 : Cond.methodLink RX2 75 yX2_digitAt ∈ pr_AL := pr_in_pr_A1 _ (List.mem_of_getElem? (i := 30) (by decide +kernel))
theorem pr_w71 : Cond.instanceMethod yX2_digitAt ∈ pr_AL := pr_in_pr_A1 _ (List.mem_of_getElem? (i := 31) (by decide +kernel))
theorem pr_w72 : Cond.selects RX2 yX2_digitAt yX2_digitAt ∈ pr_AL := pr_in_pr_A1 _ (List.mem_of_getElem? (i := 32) (by decide +kernel))
theorem pr_w73 : Cond.code yX2_readUnit cX2_readUnit 2 (some .int) ∈ pr_AL := pr_in_pr_A1 _ (List.mem_of_getElem? (i := 33) (by decide +kernel))
theorem pr_w74 : Cond.code yX2_readDisturbance cX2_readDisturbance 3 none ∈ pr_AL := pr_in_pr_A1 _ (List.mem_of_getElem? (i := 34) (by decide +kernel))
theorem pr_w75 : Cond.fieldLink RX2 41 "PrintRegister$Pad" "number" "I" ∈ pr_AL := pr_in_pr_A1 _ (List.mem_of_getElem? (i := 35) (by decide +kernel))
theorem pr_w76 : Cond.fieldLink RX2 78 "PrintRegister$Pad" "duration" "I" ∈ pr_AL := pr_in_pr_A1 _ (List.mem_of_getElem? (i := 36) (by decide +kernel))
theorem pr_w77 : Cond.methodLink RX2 57 yX2_readSign ∈ pr_AL := pr_in_pr_A1 _ (List.mem_of_getElem? (i := 37) (by decide +kernel))
theorem pr_w78 : Cond.instanceMethod yX2_readSign ∈ pr_AL := pr_in_pr_A1 _ (List.mem_of_getElem? (i := 38) (by decide +kernel))
theorem pr_w79 : Cond.selects RX2 yX2_readSign yX2_readSign ∈ pr_AL := pr_in_pr_A1 _ (List.mem_of_getElem? (i := 39) (by decide +kernel))
theorem pr_w80 : Cond.methodLink RX2 65 yX2_readNumber ∈ pr_AL := pr_in_pr_A2 _ (List.mem_of_getElem? (i := 0) (by decide +kernel))
theorem pr_w81 : Cond.instanceMethod yX2_readNumber ∈ pr_AL := pr_in_pr_A2 _ (List.mem_of_getElem? (i := 1) (by decide +kernel))
theorem pr_w82 : Cond.selects RX2 yX2_readNumber yX2_readNumber ∈ pr_AL := pr_in_pr_A2 _ (List.mem_of_getElem? (i := 2) (by decide +kernel))
theorem pr_w83 : Cond.fieldLink RX2 38 "PrintRegister$Pad" "kind" "I" ∈ pr_AL := pr_in_pr_A2 _ (List.mem_of_getElem? (i := 3) (by decide +kernel))
theorem pr_w84 : Cond.fieldLink RX2 44 "PrintRegister$Pad" "unit" "I" ∈ pr_AL := pr_in_pr_A2 _ (List.mem_of_getElem? (i := 4) (by decide +kernel))
theorem pr_w85 : Cond.methodLink RX2 68 yX2_readUnit ∈ pr_AL := pr_in_pr_A2 _ (List.mem_of_getElem? (i := 5) (by decide +kernel))
theorem pr_w86 : Cond.instanceMethod yX2_readUnit ∈ pr_AL := pr_in_pr_A2 _ (List.mem_of_getElem? (i := 6) (by decide +kernel))
theorem pr_w87 : Cond.selects RX2 yX2_readUnit yX2_readUnit ∈ pr_AL := pr_in_pr_A2 _ (List.mem_of_getElem? (i := 7) (by decide +kernel))
theorem pr_w88 : Cond.methodLink RX2 72 yX2_readDisturbance ∈ pr_AL := pr_in_pr_A2 _ (List.mem_of_getElem? (i := 8) (by decide +kernel))
theorem pr_w89 : Cond.instanceMethod yX2_readDisturbance ∈ pr_AL := pr_in_pr_A2 _ (List.mem_of_getElem? (i := 9) (by decide +kernel))
theorem pr_w90 : Cond.selects RX2 yX2_readDisturbance yX2_readDisturbance ∈ pr_AL := pr_in_pr_A2 _ (List.mem_of_getElem? (i := 10) (by decide +kernel))
theorem pr_w91 : Cond.code yX2_readStep cX2_readStep 1 none ∈ pr_AL := pr_in_pr_A2 _ (List.mem_of_getElem? (i := 11) (by decide +kernel))
theorem pr_w92 : Cond.fieldLink RX2 29 "PrintRegister$Pad" "repeats" "I" ∈ pr_AL := pr_in_pr_A2 _ (List.mem_of_getElem? (i := 12) (by decide +kernel))
theorem pr_w93 : Cond.fieldLink RX2 32 "PrintRegister$Pad" "greatestUnit" "I" ∈ pr_AL := pr_in_pr_A2 _ (List.mem_of_getElem? (i := 13) (by decide +kernel))
theorem pr_w94 : Cond.methodLink RX2 47 Lib.Math.max.name ∈ pr_AL := pr_in_pr_A2 _ (List.mem_of_getElem? (i := 14) (by decide +kernel))
theorem pr_w95 : Cond.methodLink RX2 26 yX2_beginReading ∈ pr_AL := pr_in_pr_A2 _ (List.mem_of_getElem? (i := 15) (by decide +kernel))
theorem pr_w96 : Cond.instanceMethod yX2_beginReading ∈ pr_AL := pr_in_pr_A2 _ (List.mem_of_getElem? (i := 16) (by decide +kernel))
theorem pr_w97 : Cond.selects RX2 yX2_beginReading yX2_beginReading ∈ pr_AL := pr_in_pr_A2 _ (List.mem_of_getElem? (i := 17) (by decide +kernel))
theorem pr_w98 : Cond.methodLink RX2 35 yX2_readStep ∈ pr_AL := pr_in_pr_A2 _ (List.mem_of_getElem? (i := 18) (by decide +kernel))
theorem pr_w99 : Cond.instanceMethod yX2_readStep ∈ pr_AL := pr_in_pr_A2 _ (List.mem_of_getElem? (i := 19) (by decide +kernel))
theorem pr_w100 : Cond.selects RX2 yX2_readStep yX2_readStep ∈ pr_AL := pr_in_pr_A2 _ (List.mem_of_getElem? (i := 20) (by decide +kernel))
theorem pr_w101 : Cond.methodLink RX2 53 yX2_hasMore ∈ pr_AL := pr_in_pr_A2 _ (List.mem_of_getElem? (i := 21) (by decide +kernel))
theorem pr_w102 : Cond.instanceMethod yX2_hasMore ∈ pr_AL := pr_in_pr_A2 _ (List.mem_of_getElem? (i := 22) (by decide +kernel))
theorem pr_w103 : Cond.selects RX2 yX2_hasMore yX2_hasMore ∈ pr_AL := pr_in_pr_A2 _ (List.mem_of_getElem? (i := 23) (by decide +kernel))
theorem pr_w104 : Cond.code yX2_readAll cX2_readAll 2 none ∈ pr_AL := pr_in_pr_A2 _ (List.mem_of_getElem? (i := 24) (by decide +kernel))
theorem pr_w105 : Cond.code yX4_init cX4_init 1 none ∈ pr_AL := pr_in_pr_A2 _ (List.mem_of_getElem? (i := 25) (by decide +kernel))
theorem pr_w106 : Cond.methodLink RX4 3 objectInit ∈ pr_AL := pr_in_pr_A2 _ (List.mem_of_getElem? (i := 26) (by decide +kernel))
theorem pr_w107 : Cond.fieldLink RX4 9 "PrintRegister$Printer" "offsets" "[I" ∈ pr_AL := pr_in_pr_A2 _ (List.mem_of_getElem? (i := 27) (by decide +kernel))
theorem pr_w108 : Cond.fieldLink RX4 15 "PrintRegister$Printer" "skews" "[I" ∈ pr_AL := pr_in_pr_A2 _ (List.mem_of_getElem? (i := 28) (by decide +kernel))
theorem pr_w109 : Cond.code yX5_init cX5_init 1 none ∈ pr_AL := pr_in_pr_A2 _ (List.mem_of_getElem? (i := 29) (by decide +kernel))
theorem pr_w110 : Cond.methodLink RX5 3 objectInit ∈ pr_AL := pr_in_pr_A2 _ (List.mem_of_getElem? (i := 30) (by decide +kernel))
theorem pr_w111 : Cond.classLink RX5 9 RX1 ∈ pr_AL := pr_in_pr_A2 _ (List.mem_of_getElem? (i := 31) (by decide +kernel))
theorem pr_w112 : Cond.instantiable RX1 2 ∈ pr_AL := pr_in_pr_A2 _ (List.mem_of_getElem? (i := 32) (by decide +kernel))
theorem pr_w113 : Cond.fieldLink RX5 12 "PrintRegister$Sensor" "log" "LPrintRegister$ErrorLog;" ∈ pr_AL := pr_in_pr_A2 _ (List.mem_of_getElem? (i := 33) (by decide +kernel))
theorem pr_w114 : Cond.instanceMethod yX1_init ∈ pr_AL := pr_in_pr_A2 _ (List.mem_of_getElem? (i := 34) (by decide +kernel))
theorem pr_w115 : Cond.methodLink RX7 3 objectInit ∈ pr_AL := pr_in_pr_A2 _ (List.mem_of_getElem? (i := 35) (by decide +kernel))
theorem pr_w116 : Cond.fieldLink RX7 9 "PrintRegister$Unit" "settings" "[I" ∈ pr_AL := pr_in_pr_A2 _ (List.mem_of_getElem? (i := 36) (by decide +kernel))
theorem pr_w117 : Cond.classLink RX7 15 RX4 ∈ pr_AL := pr_in_pr_A2 _ (List.mem_of_getElem? (i := 37) (by decide +kernel))
theorem pr_w118 : Cond.instantiable RX4 8 ∈ pr_AL := pr_in_pr_A2 _ (List.mem_of_getElem? (i := 38) (by decide +kernel))
theorem pr_w119 : Cond.initialized RX4 ∈ pr_AL := pr_in_pr_A2 _ (List.mem_of_getElem? (i := 39) (by decide +kernel))
theorem pr_w120 : Cond.fieldLink RX7 18 "PrintRegister$Unit" "printer" "LPrintRegister$Printer;" ∈ pr_AL := pr_in_pr_A3 _ (List.mem_of_getElem? (i := 0) (by decide +kernel))
theorem pr_w121 : Cond.classLink RX7 22 RX0 ∈ pr_AL := pr_in_pr_A3 _ (List.mem_of_getElem? (i := 1) (by decide +kernel))
theorem pr_w122 : Cond.instantiable RX0 9 ∈ pr_AL := pr_in_pr_A3 _ (List.mem_of_getElem? (i := 2) (by decide +kernel))
theorem pr_w123 : Cond.initialized RX0 ∈ pr_AL := pr_in_pr_A3 _ (List.mem_of_getElem? (i := 3) (by decide +kernel))
theorem pr_w124 : Cond.fieldLink RX7 25 "PrintRegister$Unit" "controller" "LPrintRegister$Controller;" ∈ pr_AL := pr_in_pr_A3 _ (List.mem_of_getElem? (i := 4) (by decide +kernel))
theorem pr_w125 : Cond.classLink RX7 29 RX5 ∈ pr_AL := pr_in_pr_A3 _ (List.mem_of_getElem? (i := 5) (by decide +kernel))
theorem pr_w126 : Cond.instantiable RX5 10 ∈ pr_AL := pr_in_pr_A3 _ (List.mem_of_getElem? (i := 6) (by decide +kernel))
theorem pr_w127 : Cond.initialized RX5 ∈ pr_AL := pr_in_pr_A3 _ (List.mem_of_getElem? (i := 7) (by decide +kernel))
theorem pr_w128 : Cond.fieldLink RX7 32 "PrintRegister$Unit" "sensor" "LPrintRegister$Sensor;" ∈ pr_AL := pr_in_pr_A3 _ (List.mem_of_getElem? (i := 8) (by decide +kernel))
theorem pr_w129 : Cond.instanceMethod yX4_init ∈ pr_AL := pr_in_pr_A3 _ (List.mem_of_getElem? (i := 9) (by decide +kernel))
theorem pr_w130 : Cond.instanceMethod yX0_init ∈ pr_AL := pr_in_pr_A3 _ (List.mem_of_getElem? (i := 10) (by decide +kernel))
theorem pr_w131 : Cond.instanceMethod yX5_init ∈ pr_AL := pr_in_pr_A3 _ (List.mem_of_getElem? (i := 11) (by decide +kernel))
theorem pr_w132 : Cond.code yX7_init cX7_init 1 none ∈ pr_AL := pr_in_pr_A3 _ (List.mem_of_getElem? (i := 12) (by decide +kernel))
theorem pr_w133 : Cond.methodLink RX3 3 objectInit ∈ pr_AL := pr_in_pr_A3 _ (List.mem_of_getElem? (i := 13) (by decide +kernel))
theorem pr_w134 : Cond.classLink RX3 9 RX7 ∈ pr_AL := pr_in_pr_A3 _ (List.mem_of_getElem? (i := 14) (by decide +kernel))
theorem pr_w135 : Cond.fieldLink RX3 11 "PrintRegister$Press" "units" "[LPrintRegister$Unit;" ∈ pr_AL := pr_in_pr_A3 _ (List.mem_of_getElem? (i := 15) (by decide +kernel))
theorem pr_w136 : Cond.fieldLink RX3 17 "PrintRegister$Press" "changes" "[I" ∈ pr_AL := pr_in_pr_A3 _ (List.mem_of_getElem? (i := 16) (by decide +kernel))
theorem pr_w137 : Cond.fieldLink RX3 21 "PrintRegister$Press" "totals" "[I" ∈ pr_AL := pr_in_pr_A3 _ (List.mem_of_getElem? (i := 17) (by decide +kernel))
theorem pr_w138 : Cond.instantiable RX7 4 ∈ pr_AL := pr_in_pr_A3 _ (List.mem_of_getElem? (i := 18) (by decide +kernel))
theorem pr_w139 : Cond.initialized RX7 ∈ pr_AL := pr_in_pr_A3 _ (List.mem_of_getElem? (i := 19) (by decide +kernel))
theorem pr_w140 : Cond.instanceMethod yX7_init ∈ pr_AL := pr_in_pr_A3 _ (List.mem_of_getElem? (i := 20) (by decide +kernel))
theorem pr_w141 : Cond.code yX3_init cX3_init 2 none ∈ pr_AL := pr_in_pr_A3 _ (List.mem_of_getElem? (i := 21) (by decide +kernel))
theorem pr_w142 : Cond.code yX4_begin cX4_begin 1 none ∈ pr_AL := pr_in_pr_A3 _ (List.mem_of_getElem? (i := 22) (by decide +kernel))
theorem pr_w143 : Cond.fieldLink RX4 18 "PrintRegister$Printer" "phase" "I" ∈ pr_AL := pr_in_pr_A3 _ (List.mem_of_getElem? (i := 23) (by decide +kernel))
theorem pr_w144 : Cond.fieldLink RX4 22 "PrintRegister$Printer" "skewSetting" "I" ∈ pr_AL := pr_in_pr_A3 _ (List.mem_of_getElem? (i := 24) (by decide +kernel))
theorem pr_w145 : Cond.fieldLink RX4 25 "PrintRegister$Printer" "tilt" "I" ∈ pr_AL := pr_in_pr_A3 _ (List.mem_of_getElem? (i := 25) (by decide +kernel))
theorem pr_w146 : Cond.fieldLink RX4 28 "PrintRegister$Printer" "disturbanceAmount" "I" ∈ pr_AL := pr_in_pr_A3 _ (List.mem_of_getElem? (i := 26) (by decide +kernel))
theorem pr_w147 : Cond.fieldLink RX4 31 "PrintRegister$Printer" "disturbanceDuration" "I" ∈ pr_AL := pr_in_pr_A3 _ (List.mem_of_getElem? (i := 27) (by decide +kernel))
theorem pr_w148 : Cond.fieldLink RX4 34 "PrintRegister$Printer" "disturbanceLeft" "I" ∈ pr_AL := pr_in_pr_A3 _ (List.mem_of_getElem? (i := 28) (by decide +kernel))
theorem pr_w149 : Cond.code yX5_seeNothing cX5_seeNothing 1 none ∈ pr_AL := pr_in_pr_A3 _ (List.mem_of_getElem? (i := 29) (by decide +kernel))
theorem pr_w150 : Cond.fieldLink RX5 50 "PrintRegister$Sensor" "sawPiece" "Z" ∈ pr_AL := pr_in_pr_A3 _ (List.mem_of_getElem? (i := 30) (by decide +kernel))
theorem pr_w151 : Cond.fieldLink RX5 54 "PrintRegister$Sensor" "recognized" "I" ∈ pr_AL := pr_in_pr_A3 _ (List.mem_of_getElem? (i := 31) (by decide +kernel))
theorem pr_w152 : Cond.code yX5_begin cX5_begin 1 none ∈ pr_AL := pr_in_pr_A3 _ (List.mem_of_getElem? (i := 32) (by decide +kernel))
theorem pr_w153 : Cond.fieldLink RX5 21 "PrintRegister$Sensor" "hiddenLeft" "I" ∈ pr_AL := pr_in_pr_A3 _ (List.mem_of_getElem? (i := 33) (by decide +kernel))
theorem pr_w154 : Cond.fieldLink RX5 25 "PrintRegister$Sensor" "falseOffset" "I" ∈ pr_AL := pr_in_pr_A3 _ (List.mem_of_getElem? (i := 34) (by decide +kernel))
theorem pr_w155 : Cond.fieldLink RX5 28 "PrintRegister$Sensor" "falseLeft" "I" ∈ pr_AL := pr_in_pr_A3 _ (List.mem_of_getElem? (i := 35) (by decide +kernel))
theorem pr_w156 : Cond.fieldLink RX5 34 "PrintRegister$Sensor" "trueError" "I" ∈ pr_AL := pr_in_pr_A3 _ (List.mem_of_getElem? (i := 36) (by decide +kernel))
theorem pr_w157 : Cond.fieldLink RX5 37 "PrintRegister$Sensor" "trueSkew" "I" ∈ pr_AL := pr_in_pr_A3 _ (List.mem_of_getElem? (i := 37) (by decide +kernel))
theorem pr_w158 : Cond.fieldLink RX5 40 "PrintRegister$Sensor" "offset" "I" ∈ pr_AL := pr_in_pr_A3 _ (List.mem_of_getElem? (i := 38) (by decide +kernel))
theorem pr_w159 : Cond.fieldLink RX5 43 "PrintRegister$Sensor" "skew" "I" ∈ pr_AL := pr_in_pr_A3 _ (List.mem_of_getElem? (i := 39) (by decide +kernel))
theorem pr_w160 : Cond.methodLink RX5 18 yX1_begin ∈ pr_AL := pr_in_pr_A4 _ (List.mem_of_getElem? (i := 0) (by decide +kernel))
theorem pr_w161 : Cond.instanceMethod yX1_begin ∈ pr_AL := pr_in_pr_A4 _ (List.mem_of_getElem? (i := 1) (by decide +kernel))
theorem pr_w162 : Cond.selects RX1 yX1_begin yX1_begin ∈ pr_AL := pr_in_pr_A4 _ (List.mem_of_getElem? (i := 2) (by decide +kernel))
theorem pr_w163 : Cond.methodLink RX5 31 yX5_seeNothing ∈ pr_AL := pr_in_pr_A4 _ (List.mem_of_getElem? (i := 3) (by decide +kernel))
theorem pr_w164 : Cond.instanceMethod yX5_seeNothing ∈ pr_AL := pr_in_pr_A4 _ (List.mem_of_getElem? (i := 4) (by decide +kernel))
theorem pr_w165 : Cond.selects RX5 yX5_seeNothing yX5_seeNothing ∈ pr_AL := pr_in_pr_A4 _ (List.mem_of_getElem? (i := 5) (by decide +kernel))
theorem pr_w166 : Cond.methodLink RX7 39 yX4_begin ∈ pr_AL := pr_in_pr_A4 _ (List.mem_of_getElem? (i := 6) (by decide +kernel))
theorem pr_w167 : Cond.instanceMethod yX4_begin ∈ pr_AL := pr_in_pr_A4 _ (List.mem_of_getElem? (i := 7) (by decide +kernel))
theorem pr_w168 : Cond.selects RX4 yX4_begin yX4_begin ∈ pr_AL := pr_in_pr_A4 _ (List.mem_of_getElem? (i := 8) (by decide +kernel))
theorem pr_w169 : Cond.methodLink RX7 42 yX0_clear ∈ pr_AL := pr_in_pr_A4 _ (List.mem_of_getElem? (i := 9) (by decide +kernel))
theorem pr_w170 : Cond.instanceMethod yX0_clear ∈ pr_AL := pr_in_pr_A4 _ (List.mem_of_getElem? (i := 10) (by decide +kernel))
theorem pr_w171 : Cond.selects RX0 yX0_clear yX0_clear ∈ pr_AL := pr_in_pr_A4 _ (List.mem_of_getElem? (i := 11) (by decide +kernel))
theorem pr_w172 : Cond.methodLink RX7 45 yX5_begin ∈ pr_AL := pr_in_pr_A4 _ (List.mem_of_getElem? (i := 12) (by decide +kernel))
theorem pr_w173 : Cond.instanceMethod yX5_begin ∈ pr_AL := pr_in_pr_A4 _ (List.mem_of_getElem? (i := 13) (by decide +kernel))
theorem pr_w174 : Cond.selects RX5 yX5_begin yX5_begin ∈ pr_AL := pr_in_pr_A4 _ (List.mem_of_getElem? (i := 14) (by decide +kernel))
theorem pr_w175 : Cond.code yX7_begin cX7_begin 2 none ∈ pr_AL := pr_in_pr_A4 _ (List.mem_of_getElem? (i := 15) (by decide +kernel))
theorem pr_w176 : Cond.fieldLink RX3 25 "PrintRegister$Press" "unitCount" "I" ∈ pr_AL := pr_in_pr_A4 _ (List.mem_of_getElem? (i := 16) (by decide +kernel))
theorem pr_w177 : Cond.fieldLink RX3 29 "PrintRegister$Press" "time" "I" ∈ pr_AL := pr_in_pr_A4 _ (List.mem_of_getElem? (i := 17) (by decide +kernel))
theorem pr_w178 : Cond.fieldLink RX3 32 "PrintRegister$Press" "speedNow" "I" ∈ pr_AL := pr_in_pr_A4 _ (List.mem_of_getElem? (i := 18) (by decide +kernel))
theorem pr_w179 : Cond.fieldLink RX3 35 "PrintRegister$Press" "speedBefore" "I" ∈ pr_AL := pr_in_pr_A4 _ (List.mem_of_getElem? (i := 19) (by decide +kernel))
theorem pr_w180 : Cond.fieldLink RX3 38 "PrintRegister$Press" "spliceStart" "I" ∈ pr_AL := pr_in_pr_A4 _ (List.mem_of_getElem? (i := 20) (by decide +kernel))
theorem pr_w181 : Cond.fieldLink RX3 41 "PrintRegister$Press" "spliceAmount" "I" ∈ pr_AL := pr_in_pr_A4 _ (List.mem_of_getElem? (i := 21) (by decide +kernel))
theorem pr_w182 : Cond.fieldLink RX3 44 "PrintRegister$Press" "spliceDuration" "I" ∈ pr_AL := pr_in_pr_A4 _ (List.mem_of_getElem? (i := 22) (by decide +kernel))
theorem pr_w183 : Cond.methodLink RX3 47 yX7_begin ∈ pr_AL := pr_in_pr_A4 _ (List.mem_of_getElem? (i := 23) (by decide +kernel))
theorem pr_w184 : Cond.instanceMethod yX7_begin ∈ pr_AL := pr_in_pr_A4 _ (List.mem_of_getElem? (i := 24) (by decide +kernel))
theorem pr_w185 : Cond.selects RX7 yX7_begin yX7_begin ∈ pr_AL := pr_in_pr_A4 _ (List.mem_of_getElem? (i := 25) (by decide +kernel))
theorem pr_w186 : Cond.code yX3_begin cX3_begin 3 none ∈ pr_AL := pr_in_pr_A4 _ (List.mem_of_getElem? (i := 26) (by decide +kernel))
theorem pr_w187 : Cond.code yX4_copyFrom cX4_copyFrom 2 none ∈ pr_AL := pr_in_pr_A4 _ (List.mem_of_getElem? (i := 27) (by decide +kernel))
theorem pr_w188 : Cond.methodLink RX4 37 arraycopyName ∈ pr_AL := pr_in_pr_A4 _ (List.mem_of_getElem? (i := 28) (by decide +kernel))
theorem pr_w189 : Cond.code yX5_copyFrom cX5_copyFrom 2 none ∈ pr_AL := pr_in_pr_A4 _ (List.mem_of_getElem? (i := 29) (by decide +kernel))
theorem pr_w190 : Cond.methodLink RX5 46 yX1_copyFrom ∈ pr_AL := pr_in_pr_A4 _ (List.mem_of_getElem? (i := 30) (by decide +kernel))
theorem pr_w191 : Cond.instanceMethod yX1_copyFrom ∈ pr_AL := pr_in_pr_A4 _ (List.mem_of_getElem? (i := 31) (by decide +kernel))
theorem pr_w192 : Cond.selects RX1 yX1_copyFrom yX1_copyFrom ∈ pr_AL := pr_in_pr_A4 _ (List.mem_of_getElem? (i := 32) (by decide +kernel))
theorem pr_w193 : Cond.methodLink RX7 46 arraycopyName ∈ pr_AL := pr_in_pr_A4 _ (List.mem_of_getElem? (i := 33) (by decide +kernel))
theorem pr_w194 : Cond.methodLink RX7 52 yX4_copyFrom ∈ pr_AL := pr_in_pr_A4 _ (List.mem_of_getElem? (i := 34) (by decide +kernel))
theorem pr_w195 : Cond.instanceMethod yX4_copyFrom ∈ pr_AL := pr_in_pr_A4 _ (List.mem_of_getElem? (i := 35) (by decide +kernel))
theorem pr_w196 : Cond.selects RX4 yX4_copyFrom yX4_copyFrom ∈ pr_AL := pr_in_pr_A4 _ (List.mem_of_getElem? (i := 36) (by decide +kernel))
theorem pr_w197 : Cond.methodLink RX7 56 yX0_copyFrom ∈ pr_AL := pr_in_pr_A4 _ (List.mem_of_getElem? (i := 37) (by decide +kernel))
theorem pr_w198 : Cond.instanceMethod yX0_copyFrom ∈ pr_AL := pr_in_pr_A4 _ (List.mem_of_getElem? (i := 38) (by decide +kernel))
theorem pr_w199 : Cond.selects RX0 yX0_copyFrom yX0_copyFrom ∈ pr_AL := pr_in_pr_A4 _ (List.mem_of_getElem? (i := 39) (by decide +kernel))
theorem pr_w200 : Cond.methodLink RX7 59 yX5_copyFrom ∈ pr_AL := pr_in_pr_A5 _ (List.mem_of_getElem? (i := 0) (by decide +kernel))
theorem pr_w201 : Cond.instanceMethod yX5_copyFrom ∈ pr_AL := pr_in_pr_A5 _ (List.mem_of_getElem? (i := 1) (by decide +kernel))
theorem pr_w202 : Cond.selects RX5 yX5_copyFrom yX5_copyFrom ∈ pr_AL := pr_in_pr_A5 _ (List.mem_of_getElem? (i := 2) (by decide +kernel))
theorem pr_w203 : Cond.code yX7_copyFrom cX7_copyFrom 2 none ∈ pr_AL := pr_in_pr_A5 _ (List.mem_of_getElem? (i := 3) (by decide +kernel))
theorem pr_w204 : Cond.methodLink RX3 50 arraycopyName ∈ pr_AL := pr_in_pr_A5 _ (List.mem_of_getElem? (i := 4) (by decide +kernel))
theorem pr_w205 : Cond.methodLink RX3 56 yX7_copyFrom ∈ pr_AL := pr_in_pr_A5 _ (List.mem_of_getElem? (i := 5) (by decide +kernel))
theorem pr_w206 : Cond.instanceMethod yX7_copyFrom ∈ pr_AL := pr_in_pr_A5 _ (List.mem_of_getElem? (i := 6) (by decide +kernel))
theorem pr_w207 : Cond.selects RX7 yX7_copyFrom yX7_copyFrom ∈ pr_AL := pr_in_pr_A5 _ (List.mem_of_getElem? (i := 7) (by decide +kernel))
theorem pr_w208 : Cond.code yX3_copyFrom cX3_copyFrom 3 none ∈ pr_AL := pr_in_pr_A5 _ (List.mem_of_getElem? (i := 8) (by decide +kernel))
theorem pr_w209 : Cond.code yX3_unitAt cX3_unitAt 2 (some (.object "PrintRegister$Unit")) ∈ pr_AL := pr_in_pr_A5 _ (List.mem_of_getElem? (i := 9) (by decide +kernel))
theorem pr_w210 : Cond.code yX3_controlledUnitAt cX3_controlledUnitAt 2 (some (.object "PrintRegister$Unit")) ∈ pr_AL := pr_in_pr_A5 _ (List.mem_of_getElem? (i := 10) (by decide +kernel))
theorem pr_w211 : Cond.methodLink RX3 60 yX3_unitAt ∈ pr_AL := pr_in_pr_A5 _ (List.mem_of_getElem? (i := 11) (by decide +kernel))
theorem pr_w212 : Cond.instanceMethod yX3_unitAt ∈ pr_AL := pr_in_pr_A5 _ (List.mem_of_getElem? (i := 12) (by decide +kernel))
theorem pr_w213 : Cond.selects RX3 yX3_unitAt yX3_unitAt ∈ pr_AL := pr_in_pr_A5 _ (List.mem_of_getElem? (i := 13) (by decide +kernel))
theorem pr_w214 : Cond.initialized RX3 ∈ pr_AL := pr_in_pr_A5 _ (List.mem_of_getElem? (i := 14) (by decide +kernel))
theorem pr_w215 : Cond.code yX7_setting cX7_setting 2 (some .int) ∈ pr_AL := pr_in_pr_A5 _ (List.mem_of_getElem? (i := 15) (by decide +kernel))
theorem pr_w216 : Cond.code yX3_wayOf cX3_wayOf 4 (some .int) ∈ pr_AL := pr_in_pr_A5 _ (List.mem_of_getElem? (i := 16) (by decide +kernel))
theorem pr_w217 : Cond.methodLink RX3 64 yX7_setting ∈ pr_AL := pr_in_pr_A5 _ (List.mem_of_getElem? (i := 17) (by decide +kernel))
theorem pr_w218 : Cond.instanceMethod yX7_setting ∈ pr_AL := pr_in_pr_A5 _ (List.mem_of_getElem? (i := 18) (by decide +kernel))
theorem pr_w219 : Cond.selects RX7 yX7_setting yX7_setting ∈ pr_AL := pr_in_pr_A5 _ (List.mem_of_getElem? (i := 19) (by decide +kernel))
theorem pr_w220 : Cond.code yX3_startSplice cX3_startSplice 3 none ∈ pr_AL := pr_in_pr_A5 _ (List.mem_of_getElem? (i := 20) (by decide +kernel))
theorem pr_w221 : Cond.code yX3_repeatsToLastUnit cX3_repeatsToLastUnit 1 (some .int) ∈ pr_AL := pr_in_pr_A5 _ (List.mem_of_getElem? (i := 21) (by decide +kernel))
theorem pr_w222 : Cond.methodLink RX3 71 Lib.Math.max.name ∈ pr_AL := pr_in_pr_A5 _ (List.mem_of_getElem? (i := 22) (by decide +kernel))
theorem pr_w223 : Cond.methodLink RX3 68 yX3_wayOf ∈ pr_AL := pr_in_pr_A5 _ (List.mem_of_getElem? (i := 23) (by decide +kernel))
theorem pr_w224 : Cond.instanceMethod yX3_wayOf ∈ pr_AL := pr_in_pr_A5 _ (List.mem_of_getElem? (i := 24) (by decide +kernel))
theorem pr_w225 : Cond.selects RX3 yX3_wayOf yX3_wayOf ∈ pr_AL := pr_in_pr_A5 _ (List.mem_of_getElem? (i := 25) (by decide +kernel))
theorem pr_w226 : Cond.code yX3_isWithin cX3_isWithin 4 (some .boolean) ∈ pr_AL := pr_in_pr_A5 _ (List.mem_of_getElem? (i := 26) (by decide +kernel))
theorem pr_w227 : Cond.methodLink RX3 90 Lib.Math.abs.name ∈ pr_AL := pr_in_pr_A5 _ (List.mem_of_getElem? (i := 27) (by decide +kernel))
theorem pr_w228 : Cond.code yX7_changeSetting cX7_changeSetting 3 none ∈ pr_AL := pr_in_pr_A5 _ (List.mem_of_getElem? (i := 28) (by decide +kernel))
theorem pr_w229 : Cond.code yX4_beDisturbed cX4_beDisturbed 3 none ∈ pr_AL := pr_in_pr_A5 _ (List.mem_of_getElem? (i := 29) (by decide +kernel))
theorem pr_w230 : Cond.code yX7_beSpliced cX7_beSpliced 3 none ∈ pr_AL := pr_in_pr_A5 _ (List.mem_of_getElem? (i := 30) (by decide +kernel))
theorem pr_w231 : Cond.methodLink RX7 62 yX4_beDisturbed ∈ pr_AL := pr_in_pr_A5 _ (List.mem_of_getElem? (i := 31) (by decide +kernel))
theorem pr_w232 : Cond.instanceMethod yX4_beDisturbed ∈ pr_AL := pr_in_pr_A5 _ (List.mem_of_getElem? (i := 32) (by decide +kernel))
theorem pr_w233 : Cond.selects RX4 yX4_beDisturbed yX4_beDisturbed ∈ pr_AL := pr_in_pr_A5 _ (List.mem_of_getElem? (i := 33) (by decide +kernel))
theorem pr_w234 : Cond.methodLink RX7 70 yX7_setting ∈ pr_AL := pr_in_pr_A5 _ (List.mem_of_getElem? (i := 34) (by decide +kernel))
theorem pr_w235 : Cond.methodLink RX3 116 yX7_beSpliced ∈ pr_AL := pr_in_pr_A5 _ (List.mem_of_getElem? (i := 35) (by decide +kernel))
theorem pr_w236 : Cond.instanceMethod yX7_beSpliced ∈ pr_AL := pr_in_pr_A5 _ (List.mem_of_getElem? (i := 36) (by decide +kernel))
theorem pr_w237 : Cond.selects RX7 yX7_beSpliced yX7_beSpliced ∈ pr_AL := pr_in_pr_A5 _ (List.mem_of_getElem? (i := 37) (by decide +kernel))
theorem pr_w238 : Cond.code yX3_bringSplice cX3_bringSplice 3 none ∈ pr_AL := pr_in_pr_A5 _ (List.mem_of_getElem? (i := 38) (by decide +kernel))
theorem pr_w239 : Cond.code yX4_disturbance cX4_disturbance 1 (some .int) ∈ pr_AL := pr_in_pr_A5 _ (List.mem_of_getElem? (i := 39) (by decide +kernel))
theorem pr_w240 : Cond.code yX4_printPiece cX4_printPiece 3 none ∈ pr_AL := pr_in_pr_A6 _ (List.mem_of_getElem? (i := 0) (by decide +kernel))
theorem pr_w241 : Cond.methodLink RX4 43 yX4_disturbance ∈ pr_AL := pr_in_pr_A6 _ (List.mem_of_getElem? (i := 1) (by decide +kernel))
theorem pr_w242 : Cond.instanceMethod yX4_disturbance ∈ pr_AL := pr_in_pr_A6 _ (List.mem_of_getElem? (i := 2) (by decide +kernel))
theorem pr_w243 : Cond.selects RX4 yX4_disturbance yX4_disturbance ∈ pr_AL := pr_in_pr_A6 _ (List.mem_of_getElem? (i := 3) (by decide +kernel))
theorem pr_w244 : Cond.methodLink RX7 80 yX4_printPiece ∈ pr_AL := pr_in_pr_A6 _ (List.mem_of_getElem? (i := 4) (by decide +kernel))
theorem pr_w245 : Cond.instanceMethod yX4_printPiece ∈ pr_AL := pr_in_pr_A6 _ (List.mem_of_getElem? (i := 5) (by decide +kernel))
theorem pr_w246 : Cond.selects RX4 yX4_printPiece yX4_printPiece ∈ pr_AL := pr_in_pr_A6 _ (List.mem_of_getElem? (i := 6) (by decide +kernel))
theorem pr_w247 : Cond.code yX7_printPiece cX7_printPiece 3 none ∈ pr_AL := pr_in_pr_A6 _ (List.mem_of_getElem? (i := 7) (by decide +kernel))
theorem pr_w248 : Cond.code yX4_offsetAt cX4_offsetAt 2 (some .int) ∈ pr_AL := pr_in_pr_A6 _ (List.mem_of_getElem? (i := 8) (by decide +kernel))
theorem pr_w249 : Cond.code yX4_skewAt cX4_skewAt 2 (some .int) ∈ pr_AL := pr_in_pr_A6 _ (List.mem_of_getElem? (i := 9) (by decide +kernel))
theorem pr_w250 : Cond.code yX5_seePiece cX5_seePiece 3 none ∈ pr_AL := pr_in_pr_A6 _ (List.mem_of_getElem? (i := 10) (by decide +kernel))
theorem pr_w251 : Cond.methodLink RX5 57 yX1_add ∈ pr_AL := pr_in_pr_A6 _ (List.mem_of_getElem? (i := 11) (by decide +kernel))
theorem pr_w252 : Cond.instanceMethod yX1_add ∈ pr_AL := pr_in_pr_A6 _ (List.mem_of_getElem? (i := 12) (by decide +kernel))
theorem pr_w253 : Cond.selects RX1 yX1_add yX1_add ∈ pr_AL := pr_in_pr_A6 _ (List.mem_of_getElem? (i := 13) (by decide +kernel))
theorem pr_w254 : Cond.code yX7_window cX7_window 2 (some .int) ∈ pr_AL := pr_in_pr_A6 _ (List.mem_of_getElem? (i := 14) (by decide +kernel))
theorem pr_w255 : Cond.code yX5_recognizeNear cX5_recognizeNear 8 none ∈ pr_AL := pr_in_pr_A6 _ (List.mem_of_getElem? (i := 15) (by decide +kernel))
theorem pr_w256 : Cond.methodLink RX5 61 Lib.Math.abs.name ∈ pr_AL := pr_in_pr_A6 _ (List.mem_of_getElem? (i := 16) (by decide +kernel))
theorem pr_w257 : Cond.methodLink RX7 89 yX7_window ∈ pr_AL := pr_in_pr_A6 _ (List.mem_of_getElem? (i := 17) (by decide +kernel))
theorem pr_w258 : Cond.instanceMethod yX7_window ∈ pr_AL := pr_in_pr_A6 _ (List.mem_of_getElem? (i := 18) (by decide +kernel))
theorem pr_w259 : Cond.selects RX7 yX7_window yX7_window ∈ pr_AL := pr_in_pr_A6 _ (List.mem_of_getElem? (i := 19) (by decide +kernel))
theorem pr_w260 : Cond.methodLink RX7 93 yX5_recognizeNear ∈ pr_AL := pr_in_pr_A6 _ (List.mem_of_getElem? (i := 20) (by decide +kernel))
theorem pr_w261 : Cond.instanceMethod yX5_recognizeNear ∈ pr_AL := pr_in_pr_A6 _ (List.mem_of_getElem? (i := 21) (by decide +kernel))
theorem pr_w262 : Cond.selects RX5 yX5_recognizeNear yX5_recognizeNear ∈ pr_AL := pr_in_pr_A6 _ (List.mem_of_getElem? (i := 22) (by decide +kernel))
theorem pr_w263 : Cond.code yX7_recognizeMark cX7_recognizeMark 2 (some .boolean) ∈ pr_AL := pr_in_pr_A6 _ (List.mem_of_getElem? (i := 23) (by decide +kernel))
theorem pr_w264 : Cond.code yX8_limited cX8_limited 2 (some .int) ∈ pr_AL := pr_in_pr_A6 _ (List.mem_of_getElem? (i := 24) (by decide +kernel))
theorem pr_w265 : Cond.code yX7_learnFrom cX7_learnFrom 4 (some .boolean) ∈ pr_AL := pr_in_pr_A6 _ (List.mem_of_getElem? (i := 25) (by decide +kernel))
theorem pr_w266 : Cond.methodLink RX7 103 Lib.Math.abs.name ∈ pr_AL := pr_in_pr_A6 _ (List.mem_of_getElem? (i := 26) (by decide +kernel))
theorem pr_w267 : Cond.static yX8_limited ∈ pr_AL := pr_in_pr_A6 _ (List.mem_of_getElem? (i := 27) (by decide +kernel))
theorem pr_w268 : Cond.code yX7_expectAsMeasured cX7_expectAsMeasured 1 none ∈ pr_AL := pr_in_pr_A6 _ (List.mem_of_getElem? (i := 28) (by decide +kernel))
theorem pr_w269 : Cond.code yX7_isOff cX7_isOff 2 (some .boolean) ∈ pr_AL := pr_in_pr_A6 _ (List.mem_of_getElem? (i := 29) (by decide +kernel))
theorem pr_w270 : Cond.code yX7_correctPhase cX7_correctPhase 4 (some .int) ∈ pr_AL := pr_in_pr_A6 _ (List.mem_of_getElem? (i := 30) (by decide +kernel))
theorem pr_w271 : Cond.code yX7_correctSkew cX7_correctSkew 3 (some .int) ∈ pr_AL := pr_in_pr_A6 _ (List.mem_of_getElem? (i := 31) (by decide +kernel))
theorem pr_w272 : Cond.methodLink RX3 147 yX7_learnFrom ∈ pr_AL := pr_in_pr_A6 _ (List.mem_of_getElem? (i := 32) (by decide +kernel))
theorem pr_w273 : Cond.instanceMethod yX7_learnFrom ∈ pr_AL := pr_in_pr_A6 _ (List.mem_of_getElem? (i := 33) (by decide +kernel))
theorem pr_w274 : Cond.selects RX7 yX7_learnFrom yX7_learnFrom ∈ pr_AL := pr_in_pr_A6 _ (List.mem_of_getElem? (i := 34) (by decide +kernel))
theorem pr_w275 : Cond.methodLink RX3 151 yX7_expectAsMeasured ∈ pr_AL := pr_in_pr_A6 _ (List.mem_of_getElem? (i := 35) (by decide +kernel))
theorem pr_w276 : Cond.instanceMethod yX7_expectAsMeasured ∈ pr_AL := pr_in_pr_A6 _ (List.mem_of_getElem? (i := 36) (by decide +kernel))
theorem pr_w277 : Cond.selects RX7 yX7_expectAsMeasured yX7_expectAsMeasured ∈ pr_AL := pr_in_pr_A6 _ (List.mem_of_getElem? (i := 37) (by decide +kernel))
theorem pr_w278 : Cond.methodLink RX3 166 yX7_isOff ∈ pr_AL := pr_in_pr_A6 _ (List.mem_of_getElem? (i := 38) (by decide +kernel))
theorem pr_w279 : Cond.instanceMethod yX7_isOff ∈ pr_AL := pr_in_pr_A6 _ (List.mem_of_getElem? (i := 39) (by decide +kernel))
theorem pr_w280 : Cond.selects RX7 yX7_isOff yX7_isOff ∈ pr_AL := pr_in_pr_A7 _ (List.mem_of_getElem? (i := 0) (by decide +kernel))
theorem pr_w281 : Cond.methodLink RX3 172 yX7_correctPhase ∈ pr_AL := pr_in_pr_A7 _ (List.mem_of_getElem? (i := 1) (by decide +kernel))
theorem pr_w282 : Cond.instanceMethod yX7_correctPhase ∈ pr_AL := pr_in_pr_A7 _ (List.mem_of_getElem? (i := 2) (by decide +kernel))
theorem pr_w283 : Cond.selects RX7 yX7_correctPhase yX7_correctPhase ∈ pr_AL := pr_in_pr_A7 _ (List.mem_of_getElem? (i := 3) (by decide +kernel))
theorem pr_w284 : Cond.methodLink RX3 179 yX7_correctSkew ∈ pr_AL := pr_in_pr_A7 _ (List.mem_of_getElem? (i := 4) (by decide +kernel))
theorem pr_w285 : Cond.instanceMethod yX7_correctSkew ∈ pr_AL := pr_in_pr_A7 _ (List.mem_of_getElem? (i := 5) (by decide +kernel))
theorem pr_w286 : Cond.selects RX7 yX7_correctSkew yX7_correctSkew ∈ pr_AL := pr_in_pr_A7 _ (List.mem_of_getElem? (i := 6) (by decide +kernel))
theorem pr_w287 : Cond.code yX3_control cX3_control 5 none ∈ pr_AL := pr_in_pr_A7 _ (List.mem_of_getElem? (i := 7) (by decide +kernel))
theorem pr_w288 : Cond.methodLink RX3 119 yX5_seeNothing ∈ pr_AL := pr_in_pr_A7 _ (List.mem_of_getElem? (i := 8) (by decide +kernel))
theorem pr_w289 : Cond.methodLink RX3 126 yX4_offsetAt ∈ pr_AL := pr_in_pr_A7 _ (List.mem_of_getElem? (i := 9) (by decide +kernel))
theorem pr_w290 : Cond.instanceMethod yX4_offsetAt ∈ pr_AL := pr_in_pr_A7 _ (List.mem_of_getElem? (i := 10) (by decide +kernel))
theorem pr_w291 : Cond.selects RX4 yX4_offsetAt yX4_offsetAt ∈ pr_AL := pr_in_pr_A7 _ (List.mem_of_getElem? (i := 11) (by decide +kernel))
theorem pr_w292 : Cond.methodLink RX3 131 yX4_skewAt ∈ pr_AL := pr_in_pr_A7 _ (List.mem_of_getElem? (i := 12) (by decide +kernel))
theorem pr_w293 : Cond.instanceMethod yX4_skewAt ∈ pr_AL := pr_in_pr_A7 _ (List.mem_of_getElem? (i := 13) (by decide +kernel))
theorem pr_w294 : Cond.selects RX4 yX4_skewAt yX4_skewAt ∈ pr_AL := pr_in_pr_A7 _ (List.mem_of_getElem? (i := 14) (by decide +kernel))
theorem pr_w295 : Cond.methodLink RX3 134 yX5_seePiece ∈ pr_AL := pr_in_pr_A7 _ (List.mem_of_getElem? (i := 15) (by decide +kernel))
theorem pr_w296 : Cond.instanceMethod yX5_seePiece ∈ pr_AL := pr_in_pr_A7 _ (List.mem_of_getElem? (i := 16) (by decide +kernel))
theorem pr_w297 : Cond.selects RX5 yX5_seePiece yX5_seePiece ∈ pr_AL := pr_in_pr_A7 _ (List.mem_of_getElem? (i := 17) (by decide +kernel))
theorem pr_w298 : Cond.methodLink RX3 137 yX7_recognizeMark ∈ pr_AL := pr_in_pr_A7 _ (List.mem_of_getElem? (i := 18) (by decide +kernel))
theorem pr_w299 : Cond.instanceMethod yX7_recognizeMark ∈ pr_AL := pr_in_pr_A7 _ (List.mem_of_getElem? (i := 19) (by decide +kernel))
theorem pr_w300 : Cond.selects RX7 yX7_recognizeMark yX7_recognizeMark ∈ pr_AL := pr_in_pr_A7 _ (List.mem_of_getElem? (i := 20) (by decide +kernel))
theorem pr_w301 : Cond.methodLink RX3 144 yX3_control ∈ pr_AL := pr_in_pr_A7 _ (List.mem_of_getElem? (i := 21) (by decide +kernel))
theorem pr_w302 : Cond.instanceMethod yX3_control ∈ pr_AL := pr_in_pr_A7 _ (List.mem_of_getElem? (i := 22) (by decide +kernel))
theorem pr_w303 : Cond.selects RX3 yX3_control yX3_control ∈ pr_AL := pr_in_pr_A7 _ (List.mem_of_getElem? (i := 23) (by decide +kernel))
theorem pr_w304 : Cond.code yX3_watchUnit cX3_watchUnit 6 none ∈ pr_AL := pr_in_pr_A7 _ (List.mem_of_getElem? (i := 24) (by decide +kernel))
theorem pr_w305 : Cond.code yX7_endRepeat cX7_endRepeat 1 none ∈ pr_AL := pr_in_pr_A7 _ (List.mem_of_getElem? (i := 25) (by decide +kernel))
theorem pr_w306 : Cond.methodLink RX7 124 yX0_endRepeat ∈ pr_AL := pr_in_pr_A7 _ (List.mem_of_getElem? (i := 26) (by decide +kernel))
theorem pr_w307 : Cond.instanceMethod yX0_endRepeat ∈ pr_AL := pr_in_pr_A7 _ (List.mem_of_getElem? (i := 27) (by decide +kernel))
theorem pr_w308 : Cond.selects RX0 yX0_endRepeat yX0_endRepeat ∈ pr_AL := pr_in_pr_A7 _ (List.mem_of_getElem? (i := 28) (by decide +kernel))
theorem pr_w309 : Cond.methodLink RX3 103 yX3_bringSplice ∈ pr_AL := pr_in_pr_A7 _ (List.mem_of_getElem? (i := 29) (by decide +kernel))
theorem pr_w310 : Cond.instanceMethod yX3_bringSplice ∈ pr_AL := pr_in_pr_A7 _ (List.mem_of_getElem? (i := 30) (by decide +kernel))
theorem pr_w311 : Cond.selects RX3 yX3_bringSplice yX3_bringSplice ∈ pr_AL := pr_in_pr_A7 _ (List.mem_of_getElem? (i := 31) (by decide +kernel))
theorem pr_w312 : Cond.methodLink RX3 106 yX7_printPiece ∈ pr_AL := pr_in_pr_A7 _ (List.mem_of_getElem? (i := 32) (by decide +kernel))
theorem pr_w313 : Cond.instanceMethod yX7_printPiece ∈ pr_AL := pr_in_pr_A7 _ (List.mem_of_getElem? (i := 33) (by decide +kernel))
theorem pr_w314 : Cond.selects RX7 yX7_printPiece yX7_printPiece ∈ pr_AL := pr_in_pr_A7 _ (List.mem_of_getElem? (i := 34) (by decide +kernel))
theorem pr_w315 : Cond.methodLink RX3 109 yX3_watchUnit ∈ pr_AL := pr_in_pr_A7 _ (List.mem_of_getElem? (i := 35) (by decide +kernel))
theorem pr_w316 : Cond.instanceMethod yX3_watchUnit ∈ pr_AL := pr_in_pr_A7 _ (List.mem_of_getElem? (i := 36) (by decide +kernel))
theorem pr_w317 : Cond.selects RX3 yX3_watchUnit yX3_watchUnit ∈ pr_AL := pr_in_pr_A7 _ (List.mem_of_getElem? (i := 37) (by decide +kernel))
theorem pr_w318 : Cond.methodLink RX3 113 yX7_endRepeat ∈ pr_AL := pr_in_pr_A7 _ (List.mem_of_getElem? (i := 38) (by decide +kernel))
theorem pr_w319 : Cond.instanceMethod yX7_endRepeat ∈ pr_AL := pr_in_pr_A7 _ (List.mem_of_getElem? (i := 39) (by decide +kernel))
theorem pr_w320 : Cond.selects RX7 yX7_endRepeat yX7_endRepeat ∈ pr_AL := pr_in_pr_A8 _ (List.mem_of_getElem? (i := 0) (by decide +kernel))
theorem pr_w321 : Cond.code yX3_makeRepeat cX3_makeRepeat 4 none ∈ pr_AL := pr_in_pr_A8 _ (List.mem_of_getElem? (i := 1) (by decide +kernel))
theorem pr_w322 : Cond.methodLink RX3 93 yX3_copyFrom ∈ pr_AL := pr_in_pr_A8 _ (List.mem_of_getElem? (i := 2) (by decide +kernel))
theorem pr_w323 : Cond.instanceMethod yX3_copyFrom ∈ pr_AL := pr_in_pr_A8 _ (List.mem_of_getElem? (i := 3) (by decide +kernel))
theorem pr_w324 : Cond.selects RX3 yX3_copyFrom yX3_copyFrom ∈ pr_AL := pr_in_pr_A8 _ (List.mem_of_getElem? (i := 4) (by decide +kernel))
theorem pr_w325 : Cond.methodLink RX3 96 yX7_changeSetting ∈ pr_AL := pr_in_pr_A8 _ (List.mem_of_getElem? (i := 5) (by decide +kernel))
theorem pr_w326 : Cond.instanceMethod yX7_changeSetting ∈ pr_AL := pr_in_pr_A8 _ (List.mem_of_getElem? (i := 6) (by decide +kernel))
theorem pr_w327 : Cond.selects RX7 yX7_changeSetting yX7_changeSetting ∈ pr_AL := pr_in_pr_A8 _ (List.mem_of_getElem? (i := 7) (by decide +kernel))
theorem pr_w328 : Cond.methodLink RX3 100 yX3_makeRepeat ∈ pr_AL := pr_in_pr_A8 _ (List.mem_of_getElem? (i := 8) (by decide +kernel))
theorem pr_w329 : Cond.instanceMethod yX3_makeRepeat ∈ pr_AL := pr_in_pr_A8 _ (List.mem_of_getElem? (i := 9) (by decide +kernel))
theorem pr_w330 : Cond.selects RX3 yX3_makeRepeat yX3_makeRepeat ∈ pr_AL := pr_in_pr_A8 _ (List.mem_of_getElem? (i := 10) (by decide +kernel))
theorem pr_w331 : Cond.code yX3_sumErrorsIn cX3_sumErrorsIn 9 (some .int) ∈ pr_AL := pr_in_pr_A8 _ (List.mem_of_getElem? (i := 11) (by decide +kernel))
theorem pr_w332 : Cond.code yX4_byHand cX4_byHand 2 (some .int) ∈ pr_AL := pr_in_pr_A8 _ (List.mem_of_getElem? (i := 12) (by decide +kernel))
theorem pr_w333 : Cond.code yX4_changeByHand cX4_changeByHand 3 none ∈ pr_AL := pr_in_pr_A8 _ (List.mem_of_getElem? (i := 13) (by decide +kernel))
theorem pr_w334 : Cond.code yX5_sight cX5_sight 2 (some .int) ∈ pr_AL := pr_in_pr_A8 _ (List.mem_of_getElem? (i := 14) (by decide +kernel))
theorem pr_w335 : Cond.methodLink RX6 1 objectInit ∈ pr_AL := pr_in_pr_A8 _ (List.mem_of_getElem? (i := 15) (by decide +kernel))
theorem pr_w336 : Cond.classLink RX6 7 RX3 ∈ pr_AL := pr_in_pr_A8 _ (List.mem_of_getElem? (i := 16) (by decide +kernel))
theorem pr_w337 : Cond.instantiable RX3 10 ∈ pr_AL := pr_in_pr_A8 _ (List.mem_of_getElem? (i := 17) (by decide +kernel))
theorem pr_w338 : Cond.fieldLink RX6 10 "PrintRegister$Slot" "saved" "LPrintRegister$Press;" ∈ pr_AL := pr_in_pr_A8 _ (List.mem_of_getElem? (i := 18) (by decide +kernel))
theorem pr_w339 : Cond.methodLink RX6 9 yX3_init ∈ pr_AL := pr_in_pr_A8 _ (List.mem_of_getElem? (i := 19) (by decide +kernel))
theorem pr_w340 : Cond.instanceMethod yX3_init ∈ pr_AL := pr_in_pr_A8 _ (List.mem_of_getElem? (i := 20) (by decide +kernel))
theorem pr_w341 : Cond.code yX6_init cX6_init 1 none ∈ pr_AL := pr_in_pr_A8 _ (List.mem_of_getElem? (i := 21) (by decide +kernel))
theorem pr_w342 : Cond.methodLink RX8 1 objectInit ∈ pr_AL := pr_in_pr_A8 _ (List.mem_of_getElem? (i := 22) (by decide +kernel))
theorem pr_w343 : Cond.classLink RX8 7 RX3 ∈ pr_AL := pr_in_pr_A8 _ (List.mem_of_getElem? (i := 23) (by decide +kernel))
theorem pr_w344 : Cond.fieldLink RX8 10 "PrintRegister" "press" "LPrintRegister$Press;" ∈ pr_AL := pr_in_pr_A8 _ (List.mem_of_getElem? (i := 24) (by decide +kernel))
theorem pr_w345 : Cond.fieldLink RX8 16 "PrintRegister" "copy" "LPrintRegister$Press;" ∈ pr_AL := pr_in_pr_A8 _ (List.mem_of_getElem? (i := 25) (by decide +kernel))
theorem pr_w346 : Cond.classLink RX8 19 RX6 ∈ pr_AL := pr_in_pr_A8 _ (List.mem_of_getElem? (i := 26) (by decide +kernel))
theorem pr_w347 : Cond.instantiable RX6 2 ∈ pr_AL := pr_in_pr_A8 _ (List.mem_of_getElem? (i := 27) (by decide +kernel))
theorem pr_w348 : Cond.initialized RX6 ∈ pr_AL := pr_in_pr_A8 _ (List.mem_of_getElem? (i := 28) (by decide +kernel))
theorem pr_w349 : Cond.fieldLink RX8 22 "PrintRegister" "slot0" "LPrintRegister$Slot;" ∈ pr_AL := pr_in_pr_A8 _ (List.mem_of_getElem? (i := 29) (by decide +kernel))
theorem pr_w350 : Cond.fieldLink RX8 26 "PrintRegister" "slot1" "LPrintRegister$Slot;" ∈ pr_AL := pr_in_pr_A8 _ (List.mem_of_getElem? (i := 30) (by decide +kernel))
theorem pr_w351 : Cond.classLink RX8 29 RX2 ∈ pr_AL := pr_in_pr_A8 _ (List.mem_of_getElem? (i := 31) (by decide +kernel))
theorem pr_w352 : Cond.instantiable RX2 10 ∈ pr_AL := pr_in_pr_A8 _ (List.mem_of_getElem? (i := 32) (by decide +kernel))
theorem pr_w353 : Cond.fieldLink RX8 32 "PrintRegister" "pad" "LPrintRegister$Pad;" ∈ pr_AL := pr_in_pr_A8 _ (List.mem_of_getElem? (i := 33) (by decide +kernel))
theorem pr_w354 : Cond.methodLink RX8 9 yX3_init ∈ pr_AL := pr_in_pr_A8 _ (List.mem_of_getElem? (i := 34) (by decide +kernel))
theorem pr_w355 : Cond.instanceMethod yX6_init ∈ pr_AL := pr_in_pr_A8 _ (List.mem_of_getElem? (i := 35) (by decide +kernel))
theorem pr_w356 : Cond.instanceMethod yX2_init ∈ pr_AL := pr_in_pr_A8 _ (List.mem_of_getElem? (i := 36) (by decide +kernel))
theorem pr_w357 : Cond.methodLink RX8 36 yX3_begin ∈ pr_AL := pr_in_pr_A8 _ (List.mem_of_getElem? (i := 37) (by decide +kernel))
theorem pr_w358 : Cond.instanceMethod yX3_begin ∈ pr_AL := pr_in_pr_A8 _ (List.mem_of_getElem? (i := 38) (by decide +kernel))
theorem pr_w359 : Cond.selects RX3 yX3_begin yX3_begin ∈ pr_AL := pr_in_pr_A8 _ (List.mem_of_getElem? (i := 39) (by decide +kernel))
theorem pr_w360 : Cond.code yX8_init cX8_init 1 none ∈ pr_AL := pr_in_pr_A9 _ (List.mem_of_getElem? (i := 0) (by decide +kernel))
theorem pr_w361 : Cond.code yX8_isOutside cX8_isOutside 3 (some .boolean) ∈ pr_AL := pr_in_pr_A9 _ (List.mem_of_getElem? (i := 1) (by decide +kernel))
theorem pr_w362 : Cond.constant RX8 44 (-1000000002) ∈ pr_AL := pr_in_pr_A9 _ (List.mem_of_getElem? (i := 2) (by decide +kernel))
theorem pr_w363 : Cond.methodLink RX8 40 yX8_isOutside ∈ pr_AL := pr_in_pr_A9 _ (List.mem_of_getElem? (i := 3) (by decide +kernel))
theorem pr_w364 : Cond.static yX8_isOutside ∈ pr_AL := pr_in_pr_A9 _ (List.mem_of_getElem? (i := 4) (by decide +kernel))
theorem pr_w365 : Cond.code yX8_setUp cX8_setUp 3 (some .int) ∈ pr_AL := pr_in_pr_A9 _ (List.mem_of_getElem? (i := 5) (by decide +kernel))
theorem pr_w366 : Cond.code yX8_isSettingValue cX8_isSettingValue 2 (some .boolean) ∈ pr_AL := pr_in_pr_A9 _ (List.mem_of_getElem? (i := 6) (by decide +kernel))
theorem pr_w367 : Cond.fieldLink RX8 280 "PrintRegister" "LEAST_SETTINGS" "[I" ∈ pr_AL := pr_in_pr_A9 _ (List.mem_of_getElem? (i := 7) (by decide +kernel))
theorem pr_w368 : Cond.fieldLink RX8 283 "PrintRegister" "GREATEST_SETTINGS" "[I" ∈ pr_AL := pr_in_pr_A9 _ (List.mem_of_getElem? (i := 8) (by decide +kernel))
theorem pr_w369 : Cond.code yX8_isPlace cX8_isPlace 1 (some .boolean) ∈ pr_AL := pr_in_pr_A9 _ (List.mem_of_getElem? (i := 9) (by decide +kernel))
theorem pr_w370 : Cond.constant RX8 53 (-1000000001) ∈ pr_AL := pr_in_pr_A9 _ (List.mem_of_getElem? (i := 10) (by decide +kernel))
theorem pr_w371 : Cond.constant RX8 62 (-1000000005) ∈ pr_AL := pr_in_pr_A9 _ (List.mem_of_getElem? (i := 11) (by decide +kernel))
theorem pr_w372 : Cond.methodLink RX8 49 yX3_unitAt ∈ pr_AL := pr_in_pr_A9 _ (List.mem_of_getElem? (i := 12) (by decide +kernel))
theorem pr_w373 : Cond.methodLink RX8 54 yX8_isSettingValue ∈ pr_AL := pr_in_pr_A9 _ (List.mem_of_getElem? (i := 13) (by decide +kernel))
theorem pr_w374 : Cond.static yX8_isSettingValue ∈ pr_AL := pr_in_pr_A9 _ (List.mem_of_getElem? (i := 14) (by decide +kernel))
theorem pr_w375 : Cond.methodLink RX8 58 yX8_isPlace ∈ pr_AL := pr_in_pr_A9 _ (List.mem_of_getElem? (i := 15) (by decide +kernel))
theorem pr_w376 : Cond.static yX8_isPlace ∈ pr_AL := pr_in_pr_A9 _ (List.mem_of_getElem? (i := 16) (by decide +kernel))
theorem pr_w377 : Cond.methodLink RX8 63 yX7_setting ∈ pr_AL := pr_in_pr_A9 _ (List.mem_of_getElem? (i := 17) (by decide +kernel))
theorem pr_w378 : Cond.methodLink RX8 69 yX7_changeSetting ∈ pr_AL := pr_in_pr_A9 _ (List.mem_of_getElem? (i := 18) (by decide +kernel))
theorem pr_w379 : Cond.code yX8_set cX8_set 6 (some .int) ∈ pr_AL := pr_in_pr_A9 _ (List.mem_of_getElem? (i := 19) (by decide +kernel))
theorem pr_w380 : Cond.code yX8_get cX8_get 4 (some .int) ∈ pr_AL := pr_in_pr_A9 _ (List.mem_of_getElem? (i := 20) (by decide +kernel))
theorem pr_w381 : Cond.fieldLink RX8 73 "PrintRegister" "MOST_BY_HAND" "[I" ∈ pr_AL := pr_in_pr_A9 _ (List.mem_of_getElem? (i := 21) (by decide +kernel))
theorem pr_w382 : Cond.methodLink RX8 81 yX4_byHand ∈ pr_AL := pr_in_pr_A9 _ (List.mem_of_getElem? (i := 22) (by decide +kernel))
theorem pr_w383 : Cond.instanceMethod yX4_byHand ∈ pr_AL := pr_in_pr_A9 _ (List.mem_of_getElem? (i := 23) (by decide +kernel))
theorem pr_w384 : Cond.selects RX4 yX4_byHand yX4_byHand ∈ pr_AL := pr_in_pr_A9 _ (List.mem_of_getElem? (i := 24) (by decide +kernel))
theorem pr_w385 : Cond.methodLink RX8 86 yX4_changeByHand ∈ pr_AL := pr_in_pr_A9 _ (List.mem_of_getElem? (i := 25) (by decide +kernel))
theorem pr_w386 : Cond.instanceMethod yX4_changeByHand ∈ pr_AL := pr_in_pr_A9 _ (List.mem_of_getElem? (i := 26) (by decide +kernel))
theorem pr_w387 : Cond.selects RX4 yX4_changeByHand yX4_changeByHand ∈ pr_AL := pr_in_pr_A9 _ (List.mem_of_getElem? (i := 27) (by decide +kernel))
theorem pr_w388 : Cond.code yX8_adjust cX8_adjust 6 (some .int) ∈ pr_AL := pr_in_pr_A9 _ (List.mem_of_getElem? (i := 28) (by decide +kernel))
theorem pr_w389 : Cond.code yX8_restart cX8_restart 4 (some .int) ∈ pr_AL := pr_in_pr_A9 _ (List.mem_of_getElem? (i := 29) (by decide +kernel))
theorem pr_w390 : Cond.methodLink RX8 98 yX0_clear ∈ pr_AL := pr_in_pr_A9 _ (List.mem_of_getElem? (i := 30) (by decide +kernel))
theorem pr_w391 : Cond.code yX8_speed cX8_speed 3 (some .int) ∈ pr_AL := pr_in_pr_A9 _ (List.mem_of_getElem? (i := 31) (by decide +kernel))
theorem pr_w392 : Cond.code yX8_isDisturbance cX8_isDisturbance 2 (some .boolean) ∈ pr_AL := pr_in_pr_A9 _ (List.mem_of_getElem? (i := 32) (by decide +kernel))
theorem pr_w393 : Cond.methodLink RX8 104 yX8_isDisturbance ∈ pr_AL := pr_in_pr_A9 _ (List.mem_of_getElem? (i := 33) (by decide +kernel))
theorem pr_w394 : Cond.static yX8_isDisturbance ∈ pr_AL := pr_in_pr_A9 _ (List.mem_of_getElem? (i := 34) (by decide +kernel))
theorem pr_w395 : Cond.methodLink RX8 107 yX4_beDisturbed ∈ pr_AL := pr_in_pr_A9 _ (List.mem_of_getElem? (i := 35) (by decide +kernel))
theorem pr_w396 : Cond.code yX8_disturb cX8_disturb 5 (some .int) ∈ pr_AL := pr_in_pr_A9 _ (List.mem_of_getElem? (i := 36) (by decide +kernel))
theorem pr_w397 : Cond.code yX8_hide cX8_hide 5 (some .int) ∈ pr_AL := pr_in_pr_A9 _ (List.mem_of_getElem? (i := 37) (by decide +kernel))
theorem pr_w398 : Cond.code yX8_falseMark cX8_falseMark 6 (some .int) ∈ pr_AL := pr_in_pr_A9 _ (List.mem_of_getElem? (i := 38) (by decide +kernel))
theorem pr_w399 : Cond.methodLink RX8 125 yX3_startSplice ∈ pr_AL := pr_in_pr_A9 _ (List.mem_of_getElem? (i := 39) (by decide +kernel))
theorem pr_w400 : Cond.instanceMethod yX3_startSplice ∈ pr_AL := pr_in_pr_A10 _ (List.mem_of_getElem? (i := 0) (by decide +kernel))
theorem pr_w401 : Cond.selects RX3 yX3_startSplice yX3_startSplice ∈ pr_AL := pr_in_pr_A10 _ (List.mem_of_getElem? (i := 1) (by decide +kernel))
theorem pr_w402 : Cond.methodLink RX8 128 yX3_repeatsToLastUnit ∈ pr_AL := pr_in_pr_A10 _ (List.mem_of_getElem? (i := 2) (by decide +kernel))
theorem pr_w403 : Cond.instanceMethod yX3_repeatsToLastUnit ∈ pr_AL := pr_in_pr_A10 _ (List.mem_of_getElem? (i := 3) (by decide +kernel))
theorem pr_w404 : Cond.selects RX3 yX3_repeatsToLastUnit yX3_repeatsToLastUnit ∈ pr_AL := pr_in_pr_A10 _ (List.mem_of_getElem? (i := 4) (by decide +kernel))
theorem pr_w405 : Cond.code yX8_splice cX8_splice 3 (some .int) ∈ pr_AL := pr_in_pr_A10 _ (List.mem_of_getElem? (i := 5) (by decide +kernel))
theorem pr_w406 : Cond.constant RX8 132 (100000) ∈ pr_AL := pr_in_pr_A10 _ (List.mem_of_getElem? (i := 6) (by decide +kernel))
theorem pr_w407 : Cond.methodLink RX8 133 yX3_makeRepeat ∈ pr_AL := pr_in_pr_A10 _ (List.mem_of_getElem? (i := 7) (by decide +kernel))
theorem pr_w408 : Cond.code yX8_run cX8_run 3 (some .int) ∈ pr_AL := pr_in_pr_A10 _ (List.mem_of_getElem? (i := 8) (by decide +kernel))
theorem pr_w409 : Cond.constant RX8 152 (-1000000006) ∈ pr_AL := pr_in_pr_A10 _ (List.mem_of_getElem? (i := 9) (by decide +kernel))
theorem pr_w410 : Cond.methodLink RX8 136 yX4_offsetAt ∈ pr_AL := pr_in_pr_A10 _ (List.mem_of_getElem? (i := 10) (by decide +kernel))
theorem pr_w411 : Cond.methodLink RX8 139 yX4_skewAt ∈ pr_AL := pr_in_pr_A10 _ (List.mem_of_getElem? (i := 11) (by decide +kernel))
theorem pr_w412 : Cond.methodLink RX8 149 yX5_sight ∈ pr_AL := pr_in_pr_A10 _ (List.mem_of_getElem? (i := 12) (by decide +kernel))
theorem pr_w413 : Cond.instanceMethod yX5_sight ∈ pr_AL := pr_in_pr_A10 _ (List.mem_of_getElem? (i := 13) (by decide +kernel))
theorem pr_w414 : Cond.selects RX5 yX5_sight yX5_sight ∈ pr_AL := pr_in_pr_A10 _ (List.mem_of_getElem? (i := 14) (by decide +kernel))
theorem pr_w415 : Cond.code yX8_seen cX8_seen 6 (some .int) ∈ pr_AL := pr_in_pr_A10 _ (List.mem_of_getElem? (i := 15) (by decide +kernel))
theorem pr_w416 : Cond.methodLink RX8 174 yX3_wayOf ∈ pr_AL := pr_in_pr_A10 _ (List.mem_of_getElem? (i := 16) (by decide +kernel))
theorem pr_w417 : Cond.code yX8_state cX8_state 4 (some .int) ∈ pr_AL := pr_in_pr_A10 _ (List.mem_of_getElem? (i := 17) (by decide +kernel))
theorem pr_w418 : Cond.methodLink RX8 177 yX3_controlledUnitAt ∈ pr_AL := pr_in_pr_A10 _ (List.mem_of_getElem? (i := 18) (by decide +kernel))
theorem pr_w419 : Cond.instanceMethod yX3_controlledUnitAt ∈ pr_AL := pr_in_pr_A10 _ (List.mem_of_getElem? (i := 19) (by decide +kernel))
theorem pr_w420 : Cond.selects RX3 yX3_controlledUnitAt yX3_controlledUnitAt ∈ pr_AL := pr_in_pr_A10 _ (List.mem_of_getElem? (i := 20) (by decide +kernel))
theorem pr_w421 : Cond.methodLink RX8 184 yX1_greatest ∈ pr_AL := pr_in_pr_A10 _ (List.mem_of_getElem? (i := 21) (by decide +kernel))
theorem pr_w422 : Cond.instanceMethod yX1_greatest ∈ pr_AL := pr_in_pr_A10 _ (List.mem_of_getElem? (i := 22) (by decide +kernel))
theorem pr_w423 : Cond.selects RX1 yX1_greatest yX1_greatest ∈ pr_AL := pr_in_pr_A10 _ (List.mem_of_getElem? (i := 23) (by decide +kernel))
theorem pr_w424 : Cond.methodLink RX8 189 yX1_sumOf ∈ pr_AL := pr_in_pr_A10 _ (List.mem_of_getElem? (i := 24) (by decide +kernel))
theorem pr_w425 : Cond.instanceMethod yX1_sumOf ∈ pr_AL := pr_in_pr_A10 _ (List.mem_of_getElem? (i := 25) (by decide +kernel))
theorem pr_w426 : Cond.selects RX1 yX1_sumOf yX1_sumOf ∈ pr_AL := pr_in_pr_A10 _ (List.mem_of_getElem? (i := 26) (by decide +kernel))
theorem pr_w427 : Cond.methodLink RX8 192 yX1_kept ∈ pr_AL := pr_in_pr_A10 _ (List.mem_of_getElem? (i := 27) (by decide +kernel))
theorem pr_w428 : Cond.methodLink RX8 195 yX1_greaterThan ∈ pr_AL := pr_in_pr_A10 _ (List.mem_of_getElem? (i := 28) (by decide +kernel))
theorem pr_w429 : Cond.instanceMethod yX1_greaterThan ∈ pr_AL := pr_in_pr_A10 _ (List.mem_of_getElem? (i := 29) (by decide +kernel))
theorem pr_w430 : Cond.selects RX1 yX1_greaterThan yX1_greaterThan ∈ pr_AL := pr_in_pr_A10 _ (List.mem_of_getElem? (i := 30) (by decide +kernel))
theorem pr_w431 : Cond.code yX8_errors cX8_errors 6 (some .int) ∈ pr_AL := pr_in_pr_A10 _ (List.mem_of_getElem? (i := 31) (by decide +kernel))
theorem pr_w432 : Cond.code yX8_total cX8_total 2 (some .int) ∈ pr_AL := pr_in_pr_A10 _ (List.mem_of_getElem? (i := 32) (by decide +kernel))
theorem pr_w433 : Cond.methodLink RX8 202 yX3_copyFrom ∈ pr_AL := pr_in_pr_A10 _ (List.mem_of_getElem? (i := 33) (by decide +kernel))
theorem pr_w434 : Cond.methodLink RX8 206 yX3_isWithin ∈ pr_AL := pr_in_pr_A10 _ (List.mem_of_getElem? (i := 34) (by decide +kernel))
theorem pr_w435 : Cond.instanceMethod yX3_isWithin ∈ pr_AL := pr_in_pr_A10 _ (List.mem_of_getElem? (i := 35) (by decide +kernel))
theorem pr_w436 : Cond.selects RX3 yX3_isWithin yX3_isWithin ∈ pr_AL := pr_in_pr_A10 _ (List.mem_of_getElem? (i := 36) (by decide +kernel))
theorem pr_w437 : Cond.code yX8_forecast cX8_forecast 7 (some .int) ∈ pr_AL := pr_in_pr_A10 _ (List.mem_of_getElem? (i := 37) (by decide +kernel))
theorem pr_w438 : Cond.methodLink RX8 209 yX3_sumErrorsIn ∈ pr_AL := pr_in_pr_A10 _ (List.mem_of_getElem? (i := 38) (by decide +kernel))
theorem pr_w439 : Cond.instanceMethod yX3_sumErrorsIn ∈ pr_AL := pr_in_pr_A10 _ (List.mem_of_getElem? (i := 39) (by decide +kernel))
theorem pr_w440 : Cond.selects RX3 yX3_sumErrorsIn yX3_sumErrorsIn ∈ pr_AL := pr_in_pr_A11 _ (List.mem_of_getElem? (i := 0) (by decide +kernel))
theorem pr_w441 : Cond.code yX8_attempt cX8_attempt 6 (some .int) ∈ pr_AL := pr_in_pr_A11 _ (List.mem_of_getElem? (i := 1) (by decide +kernel))
theorem pr_w442 : Cond.code yX8_bestGain cX8_bestGain 12 (some .int) ∈ pr_AL := pr_in_pr_A11 _ (List.mem_of_getElem? (i := 2) (by decide +kernel))
theorem pr_w443 : Cond.code yX8_charactersIn cX8_charactersIn 5 (some .int) ∈ pr_AL := pr_in_pr_A11 _ (List.mem_of_getElem? (i := 3) (by decide +kernel))
theorem pr_w444 : Cond.constantLong RX8 278 (255) ∈ pr_AL := pr_in_pr_A11 _ (List.mem_of_getElem? (i := 4) (by decide +kernel))
theorem pr_w445 : Cond.code yX8_put cX8_put 5 (some .int) ∈ pr_AL := pr_in_pr_A11 _ (List.mem_of_getElem? (i := 5) (by decide +kernel))
theorem pr_w446 : Cond.constant RX8 220 (-1000000004) ∈ pr_AL := pr_in_pr_A11 _ (List.mem_of_getElem? (i := 6) (by decide +kernel))
theorem pr_w447 : Cond.methodLink RX8 213 yX8_charactersIn ∈ pr_AL := pr_in_pr_A11 _ (List.mem_of_getElem? (i := 7) (by decide +kernel))
theorem pr_w448 : Cond.static yX8_charactersIn ∈ pr_AL := pr_in_pr_A11 _ (List.mem_of_getElem? (i := 8) (by decide +kernel))
theorem pr_w449 : Cond.methodLink RX8 221 yX2_append ∈ pr_AL := pr_in_pr_A11 _ (List.mem_of_getElem? (i := 9) (by decide +kernel))
theorem pr_w450 : Cond.instanceMethod yX2_append ∈ pr_AL := pr_in_pr_A11 _ (List.mem_of_getElem? (i := 10) (by decide +kernel))
theorem pr_w451 : Cond.selects RX2 yX2_append yX2_append ∈ pr_AL := pr_in_pr_A11 _ (List.mem_of_getElem? (i := 11) (by decide +kernel))
theorem pr_w452 : Cond.code yX8_wipe cX8_wipe 2 (some .int) ∈ pr_AL := pr_in_pr_A11 _ (List.mem_of_getElem? (i := 12) (by decide +kernel))
theorem pr_w453 : Cond.methodLink RX8 224 yX2_readAll ∈ pr_AL := pr_in_pr_A11 _ (List.mem_of_getElem? (i := 13) (by decide +kernel))
theorem pr_w454 : Cond.instanceMethod yX2_readAll ∈ pr_AL := pr_in_pr_A11 _ (List.mem_of_getElem? (i := 14) (by decide +kernel))
theorem pr_w455 : Cond.selects RX2 yX2_readAll yX2_readAll ∈ pr_AL := pr_in_pr_A11 _ (List.mem_of_getElem? (i := 15) (by decide +kernel))
theorem pr_w456 : Cond.code yX8_fault cX8_fault 1 (some .int) ∈ pr_AL := pr_in_pr_A11 _ (List.mem_of_getElem? (i := 16) (by decide +kernel))
theorem pr_w457 : Cond.code yX8_carryOutStep cX8_carryOutStep 2 none ∈ pr_AL := pr_in_pr_A11 _ (List.mem_of_getElem? (i := 17) (by decide +kernel))
theorem pr_w458 : Cond.constant RX8 233 (-1000000003) ∈ pr_AL := pr_in_pr_A11 _ (List.mem_of_getElem? (i := 18) (by decide +kernel))
theorem pr_w459 : Cond.methodLink RX8 243 yX2_beginReading ∈ pr_AL := pr_in_pr_A11 _ (List.mem_of_getElem? (i := 19) (by decide +kernel))
theorem pr_w460 : Cond.methodLink RX8 246 yX2_hasMore ∈ pr_AL := pr_in_pr_A11 _ (List.mem_of_getElem? (i := 20) (by decide +kernel))
theorem pr_w461 : Cond.methodLink RX8 250 yX2_readStep ∈ pr_AL := pr_in_pr_A11 _ (List.mem_of_getElem? (i := 21) (by decide +kernel))
theorem pr_w462 : Cond.methodLink RX8 253 yX8_carryOutStep ∈ pr_AL := pr_in_pr_A11 _ (List.mem_of_getElem? (i := 22) (by decide +kernel))
theorem pr_w463 : Cond.instanceMethod yX8_carryOutStep ∈ pr_AL := pr_in_pr_A11 _ (List.mem_of_getElem? (i := 23) (by decide +kernel))
theorem pr_w464 : Cond.selects RX8 yX8_carryOutStep yX8_carryOutStep ∈ pr_AL := pr_in_pr_A11 _ (List.mem_of_getElem? (i := 24) (by decide +kernel))
theorem pr_w465 : Cond.code yX8_carryOut cX8_carryOut 3 (some .int) ∈ pr_AL := pr_in_pr_A11 _ (List.mem_of_getElem? (i := 25) (by decide +kernel))
theorem pr_w466 : Cond.code yX8_count cX8_count 2 (some .int) ∈ pr_AL := pr_in_pr_A11 _ (List.mem_of_getElem? (i := 26) (by decide +kernel))
theorem pr_w467 : Cond.code yX8_slotAt cX8_slotAt 2 (some (.object "PrintRegister$Slot")) ∈ pr_AL := pr_in_pr_A11 _ (List.mem_of_getElem? (i := 27) (by decide +kernel))
theorem pr_w468 : Cond.methodLink RX8 256 yX8_slotAt ∈ pr_AL := pr_in_pr_A11 _ (List.mem_of_getElem? (i := 28) (by decide +kernel))
theorem pr_w469 : Cond.instanceMethod yX8_slotAt ∈ pr_AL := pr_in_pr_A11 _ (List.mem_of_getElem? (i := 29) (by decide +kernel))
theorem pr_w470 : Cond.selects RX8 yX8_slotAt yX8_slotAt ∈ pr_AL := pr_in_pr_A11 _ (List.mem_of_getElem? (i := 30) (by decide +kernel))
theorem pr_w471 : Cond.code yX8_save cX8_save 3 (some .int) ∈ pr_AL := pr_in_pr_A11 _ (List.mem_of_getElem? (i := 31) (by decide +kernel))
theorem pr_w472 : Cond.code yX8_restore cX8_restore 3 (some .int) ∈ pr_AL := pr_in_pr_A11 _ (List.mem_of_getElem? (i := 32) (by decide +kernel))
theorem pr_w473 : Cond.code yX9_firstValue cX9_firstValue 1 (some .int) ∈ pr_AL := pr_in_pr_A11 _ (List.mem_of_getElem? (i := 33) (by decide +kernel))
theorem pr_w474 : Cond.code yX9_place cX9_place 2 (some .int) ∈ pr_AL := pr_in_pr_A11 _ (List.mem_of_getElem? (i := 34) (by decide +kernel))
theorem pr_w475 : Cond.code yX9_lay cX9_lay 4 none ∈ pr_AL := pr_in_pr_A11 _ (List.mem_of_getElem? (i := 35) (by decide +kernel))
theorem pr_w476 : Cond.fieldLink RX9 9 "PrintRegisterModel" "at" "[I" ∈ pr_AL := pr_in_pr_A11 _ (List.mem_of_getElem? (i := 36) (by decide +kernel))
theorem pr_w477 : Cond.methodLink RX9 33 yX9_place ∈ pr_AL := pr_in_pr_A11 _ (List.mem_of_getElem? (i := 37) (by decide +kernel))
theorem pr_w478 : Cond.static yX9_place ∈ pr_AL := pr_in_pr_A11 _ (List.mem_of_getElem? (i := 38) (by decide +kernel))
theorem pr_w479 : Cond.initialized RX9 ∈ pr_AL := pr_in_pr_A11 _ (List.mem_of_getElem? (i := 39) (by decide +kernel))
theorem pr_w480 : Cond.code yX9_layAll cX9_layAll 4 none ∈ pr_AL := pr_in_pr_A12 _ (List.mem_of_getElem? (i := 0) (by decide +kernel))
theorem pr_w481 : Cond.methodLink RX9 37 yX9_firstValue ∈ pr_AL := pr_in_pr_A12 _ (List.mem_of_getElem? (i := 1) (by decide +kernel))
theorem pr_w482 : Cond.static yX9_firstValue ∈ pr_AL := pr_in_pr_A12 _ (List.mem_of_getElem? (i := 2) (by decide +kernel))
theorem pr_w483 : Cond.methodLink RX9 41 yX9_lay ∈ pr_AL := pr_in_pr_A12 _ (List.mem_of_getElem? (i := 3) (by decide +kernel))
theorem pr_w484 : Cond.instanceMethod yX9_lay ∈ pr_AL := pr_in_pr_A12 _ (List.mem_of_getElem? (i := 4) (by decide +kernel))
theorem pr_w485 : Cond.selects RX9 yX9_lay yX9_lay ∈ pr_AL := pr_in_pr_A12 _ (List.mem_of_getElem? (i := 5) (by decide +kernel))
theorem pr_w486 : Cond.methodLink RX9 3 objectInit ∈ pr_AL := pr_in_pr_A12 _ (List.mem_of_getElem? (i := 6) (by decide +kernel))
theorem pr_w487 : Cond.fieldLink RX9 13 "PrintRegisterModel" "aside" "[I" ∈ pr_AL := pr_in_pr_A12 _ (List.mem_of_getElem? (i := 7) (by decide +kernel))
theorem pr_w488 : Cond.fieldLink RX9 16 "PrintRegisterModel" "slots" "[I" ∈ pr_AL := pr_in_pr_A12 _ (List.mem_of_getElem? (i := 8) (by decide +kernel))
theorem pr_w489 : Cond.arrayClass .boolean ∈ pr_AL := pr_in_pr_A12 _ (List.mem_of_getElem? (i := 9) (by decide +kernel))
theorem pr_w490 : Cond.fieldLink RX9 19 "PrintRegisterModel" "isSaved" "[Z" ∈ pr_AL := pr_in_pr_A12 _ (List.mem_of_getElem? (i := 10) (by decide +kernel))
theorem pr_w491 : Cond.fieldLink RX9 23 "PrintRegisterModel" "pad" "[I" ∈ pr_AL := pr_in_pr_A12 _ (List.mem_of_getElem? (i := 11) (by decide +kernel))
theorem pr_w492 : Cond.fieldLink RX9 26 "PrintRegisterModel" "steps" "[I" ∈ pr_AL := pr_in_pr_A12 _ (List.mem_of_getElem? (i := 12) (by decide +kernel))
theorem pr_w493 : Cond.methodLink RX9 29 yX9_layAll ∈ pr_AL := pr_in_pr_A12 _ (List.mem_of_getElem? (i := 13) (by decide +kernel))
theorem pr_w494 : Cond.instanceMethod yX9_layAll ∈ pr_AL := pr_in_pr_A12 _ (List.mem_of_getElem? (i := 14) (by decide +kernel))
theorem pr_w495 : Cond.selects RX9 yX9_layAll yX9_layAll ∈ pr_AL := pr_in_pr_A12 _ (List.mem_of_getElem? (i := 15) (by decide +kernel))
theorem pr_w496 : Cond.code yX9_init cX9_init 1 none ∈ pr_AL := pr_in_pr_A12 _ (List.mem_of_getElem? (i := 16) (by decide +kernel))
theorem pr_w497 : Cond.code yX9_in cX9_in 3 (some .boolean) ∈ pr_AL := pr_in_pr_A12 _ (List.mem_of_getElem? (i := 17) (by decide +kernel))
theorem pr_w498 : Cond.code yX9_size cX9_size 1 (some .int) ∈ pr_AL := pr_in_pr_A12 _ (List.mem_of_getElem? (i := 18) (by decide +kernel))
theorem pr_w499 : Cond.code yX9_limited cX9_limited 2 (some .int) ∈ pr_AL := pr_in_pr_A12 _ (List.mem_of_getElem? (i := 19) (by decide +kernel))
theorem pr_w500 : Cond.code yX9_of cX9_of 3 (some .int) ∈ pr_AL := pr_in_pr_A12 _ (List.mem_of_getElem? (i := 20) (by decide +kernel))
theorem pr_w501 : Cond.code yX9_putAside cX9_putAside 2 none ∈ pr_AL := pr_in_pr_A12 _ (List.mem_of_getElem? (i := 21) (by decide +kernel))
theorem pr_w502 : Cond.code yX9_putBack cX9_putBack 2 none ∈ pr_AL := pr_in_pr_A12 _ (List.mem_of_getElem? (i := 22) (by decide +kernel))
theorem pr_w503 : Cond.code yX9_isUnit cX9_isUnit 2 (some .boolean) ∈ pr_AL := pr_in_pr_A12 _ (List.mem_of_getElem? (i := 23) (by decide +kernel))
theorem pr_w504 : Cond.methodLink RX9 45 yX9_in ∈ pr_AL := pr_in_pr_A12 _ (List.mem_of_getElem? (i := 24) (by decide +kernel))
theorem pr_w505 : Cond.static yX9_in ∈ pr_AL := pr_in_pr_A12 _ (List.mem_of_getElem? (i := 25) (by decide +kernel))
theorem pr_w506 : Cond.code yX9_way cX9_way 4 (some .int) ∈ pr_AL := pr_in_pr_A12 _ (List.mem_of_getElem? (i := 26) (by decide +kernel))
theorem pr_w507 : Cond.methodLink RX9 49 yX9_of ∈ pr_AL := pr_in_pr_A12 _ (List.mem_of_getElem? (i := 27) (by decide +kernel))
theorem pr_w508 : Cond.instanceMethod yX9_of ∈ pr_AL := pr_in_pr_A12 _ (List.mem_of_getElem? (i := 28) (by decide +kernel))
theorem pr_w509 : Cond.selects RX9 yX9_of yX9_of ∈ pr_AL := pr_in_pr_A12 _ (List.mem_of_getElem? (i := 29) (by decide +kernel))
theorem pr_w510 : Cond.code yX9_setUp cX9_setUp 3 (some .int) ∈ pr_AL := pr_in_pr_A12 _ (List.mem_of_getElem? (i := 30) (by decide +kernel))
theorem pr_w511 : Cond.constant RX9 52 (-1000000002) ∈ pr_AL := pr_in_pr_A12 _ (List.mem_of_getElem? (i := 31) (by decide +kernel))
theorem pr_w512 : Cond.code yX9_takes cX9_takes 2 (some .boolean) ∈ pr_AL := pr_in_pr_A12 _ (List.mem_of_getElem? (i := 32) (by decide +kernel))
theorem pr_w513 : Cond.constant RX9 57 (-1000000001) ∈ pr_AL := pr_in_pr_A12 _ (List.mem_of_getElem? (i := 33) (by decide +kernel))
theorem pr_w514 : Cond.constant RX9 62 (-1000000005) ∈ pr_AL := pr_in_pr_A12 _ (List.mem_of_getElem? (i := 34) (by decide +kernel))
theorem pr_w515 : Cond.methodLink RX9 53 yX9_isUnit ∈ pr_AL := pr_in_pr_A12 _ (List.mem_of_getElem? (i := 35) (by decide +kernel))
theorem pr_w516 : Cond.instanceMethod yX9_isUnit ∈ pr_AL := pr_in_pr_A12 _ (List.mem_of_getElem? (i := 36) (by decide +kernel))
theorem pr_w517 : Cond.selects RX9 yX9_isUnit yX9_isUnit ∈ pr_AL := pr_in_pr_A12 _ (List.mem_of_getElem? (i := 37) (by decide +kernel))
theorem pr_w518 : Cond.methodLink RX9 58 yX9_takes ∈ pr_AL := pr_in_pr_A12 _ (List.mem_of_getElem? (i := 38) (by decide +kernel))
theorem pr_w519 : Cond.static yX9_takes ∈ pr_AL := pr_in_pr_A12 _ (List.mem_of_getElem? (i := 39) (by decide +kernel))
theorem pr_w520 : Cond.code yX9_set cX9_set 5 (some .int) ∈ pr_AL := pr_in_pr_A13 _ (List.mem_of_getElem? (i := 0) (by decide +kernel))
theorem pr_w521 : Cond.code yX9_get cX9_get 3 (some .int) ∈ pr_AL := pr_in_pr_A13 _ (List.mem_of_getElem? (i := 1) (by decide +kernel))
theorem pr_w522 : Cond.code yX9_adjust cX9_adjust 6 (some .int) ∈ pr_AL := pr_in_pr_A13 _ (List.mem_of_getElem? (i := 2) (by decide +kernel))
theorem pr_w523 : Cond.code yX9_restart cX9_restart 4 (some .int) ∈ pr_AL := pr_in_pr_A13 _ (List.mem_of_getElem? (i := 3) (by decide +kernel))
theorem pr_w524 : Cond.code yX9_speed cX9_speed 3 (some .int) ∈ pr_AL := pr_in_pr_A13 _ (List.mem_of_getElem? (i := 4) (by decide +kernel))
theorem pr_w525 : Cond.code yX9_giveDisturbance cX9_giveDisturbance 4 none ∈ pr_AL := pr_in_pr_A13 _ (List.mem_of_getElem? (i := 5) (by decide +kernel))
theorem pr_w526 : Cond.code yX9_isDisturbance cX9_isDisturbance 2 (some .boolean) ∈ pr_AL := pr_in_pr_A13 _ (List.mem_of_getElem? (i := 6) (by decide +kernel))
theorem pr_w527 : Cond.methodLink RX9 63 yX9_isDisturbance ∈ pr_AL := pr_in_pr_A13 _ (List.mem_of_getElem? (i := 7) (by decide +kernel))
theorem pr_w528 : Cond.static yX9_isDisturbance ∈ pr_AL := pr_in_pr_A13 _ (List.mem_of_getElem? (i := 8) (by decide +kernel))
theorem pr_w529 : Cond.methodLink RX9 66 yX9_giveDisturbance ∈ pr_AL := pr_in_pr_A13 _ (List.mem_of_getElem? (i := 9) (by decide +kernel))
theorem pr_w530 : Cond.instanceMethod yX9_giveDisturbance ∈ pr_AL := pr_in_pr_A13 _ (List.mem_of_getElem? (i := 10) (by decide +kernel))
theorem pr_w531 : Cond.selects RX9 yX9_giveDisturbance yX9_giveDisturbance ∈ pr_AL := pr_in_pr_A13 _ (List.mem_of_getElem? (i := 11) (by decide +kernel))
theorem pr_w532 : Cond.code yX9_disturb cX9_disturb 4 (some .int) ∈ pr_AL := pr_in_pr_A13 _ (List.mem_of_getElem? (i := 12) (by decide +kernel))
theorem pr_w533 : Cond.code yX9_hide cX9_hide 4 (some .int) ∈ pr_AL := pr_in_pr_A13 _ (List.mem_of_getElem? (i := 13) (by decide +kernel))
theorem pr_w534 : Cond.code yX9_falseMark cX9_falseMark 5 (some .int) ∈ pr_AL := pr_in_pr_A13 _ (List.mem_of_getElem? (i := 14) (by decide +kernel))
theorem pr_w535 : Cond.code yX9_startSplice cX9_startSplice 3 (some .int) ∈ pr_AL := pr_in_pr_A13 _ (List.mem_of_getElem? (i := 15) (by decide +kernel))
theorem pr_w536 : Cond.methodLink RX9 69 yX9_way ∈ pr_AL := pr_in_pr_A13 _ (List.mem_of_getElem? (i := 16) (by decide +kernel))
theorem pr_w537 : Cond.instanceMethod yX9_way ∈ pr_AL := pr_in_pr_A13 _ (List.mem_of_getElem? (i := 17) (by decide +kernel))
theorem pr_w538 : Cond.selects RX9 yX9_way yX9_way ∈ pr_AL := pr_in_pr_A13 _ (List.mem_of_getElem? (i := 18) (by decide +kernel))
theorem pr_w539 : Cond.code yX9_splice cX9_splice 3 (some .int) ∈ pr_AL := pr_in_pr_A13 _ (List.mem_of_getElem? (i := 19) (by decide +kernel))
theorem pr_w540 : Cond.methodLink RX9 72 yX9_startSplice ∈ pr_AL := pr_in_pr_A13 _ (List.mem_of_getElem? (i := 20) (by decide +kernel))
theorem pr_w541 : Cond.instanceMethod yX9_startSplice ∈ pr_AL := pr_in_pr_A13 _ (List.mem_of_getElem? (i := 21) (by decide +kernel))
theorem pr_w542 : Cond.selects RX9 yX9_startSplice yX9_startSplice ∈ pr_AL := pr_in_pr_A13 _ (List.mem_of_getElem? (i := 22) (by decide +kernel))
theorem pr_w543 : Cond.code yX9_tally cX9_tally 3 none ∈ pr_AL := pr_in_pr_A13 _ (List.mem_of_getElem? (i := 23) (by decide +kernel))
theorem pr_w544 : Cond.code yX9_goOnSplice cX9_goOnSplice 3 none ∈ pr_AL := pr_in_pr_A13 _ (List.mem_of_getElem? (i := 24) (by decide +kernel))
theorem pr_w545 : Cond.code yX9_print cX9_print 7 none ∈ pr_AL := pr_in_pr_A13 _ (List.mem_of_getElem? (i := 25) (by decide +kernel))
theorem pr_w546 : Cond.constant RX9 75 (-1000000006) ∈ pr_AL := pr_in_pr_A13 _ (List.mem_of_getElem? (i := 26) (by decide +kernel))
theorem pr_w547 : Cond.code yX9_isSeen cX9_isSeen 2 (some .boolean) ∈ pr_AL := pr_in_pr_A13 _ (List.mem_of_getElem? (i := 27) (by decide +kernel))
theorem pr_w548 : Cond.code yX9_keepError cX9_keepError 3 none ∈ pr_AL := pr_in_pr_A13 _ (List.mem_of_getElem? (i := 28) (by decide +kernel))
theorem pr_w549 : Cond.code yX9_see cX9_see 4 none ∈ pr_AL := pr_in_pr_A13 _ (List.mem_of_getElem? (i := 29) (by decide +kernel))
theorem pr_w550 : Cond.methodLink RX9 76 yX9_keepError ∈ pr_AL := pr_in_pr_A13 _ (List.mem_of_getElem? (i := 30) (by decide +kernel))
theorem pr_w551 : Cond.instanceMethod yX9_keepError ∈ pr_AL := pr_in_pr_A13 _ (List.mem_of_getElem? (i := 31) (by decide +kernel))
theorem pr_w552 : Cond.selects RX9 yX9_keepError yX9_keepError ∈ pr_AL := pr_in_pr_A13 _ (List.mem_of_getElem? (i := 32) (by decide +kernel))
theorem pr_w553 : Cond.code yX9_recognized cX9_recognized 8 (some .int) ∈ pr_AL := pr_in_pr_A13 _ (List.mem_of_getElem? (i := 33) (by decide +kernel))
theorem pr_w554 : Cond.methodLink RX9 80 yX9_size ∈ pr_AL := pr_in_pr_A13 _ (List.mem_of_getElem? (i := 34) (by decide +kernel))
theorem pr_w555 : Cond.static yX9_size ∈ pr_AL := pr_in_pr_A13 _ (List.mem_of_getElem? (i := 35) (by decide +kernel))
theorem pr_w556 : Cond.code yX9_recognize cX9_recognize 3 none ∈ pr_AL := pr_in_pr_A13 _ (List.mem_of_getElem? (i := 36) (by decide +kernel))
theorem pr_w557 : Cond.methodLink RX9 83 yX9_recognized ∈ pr_AL := pr_in_pr_A13 _ (List.mem_of_getElem? (i := 37) (by decide +kernel))
theorem pr_w558 : Cond.instanceMethod yX9_recognized ∈ pr_AL := pr_in_pr_A13 _ (List.mem_of_getElem? (i := 38) (by decide +kernel))
theorem pr_w559 : Cond.selects RX9 yX9_recognized yX9_recognized ∈ pr_AL := pr_in_pr_A13 _ (List.mem_of_getElem? (i := 39) (by decide +kernel))
theorem pr_w560 : Cond.methodLink RX9 86 yX9_tally ∈ pr_AL := pr_in_pr_A14 _ (List.mem_of_getElem? (i := 0) (by decide +kernel))
theorem pr_w561 : Cond.instanceMethod yX9_tally ∈ pr_AL := pr_in_pr_A14 _ (List.mem_of_getElem? (i := 1) (by decide +kernel))
theorem pr_w562 : Cond.selects RX9 yX9_tally yX9_tally ∈ pr_AL := pr_in_pr_A14 _ (List.mem_of_getElem? (i := 2) (by decide +kernel))
theorem pr_w563 : Cond.code yX9_isRecognized cX9_isRecognized 2 (some .boolean) ∈ pr_AL := pr_in_pr_A14 _ (List.mem_of_getElem? (i := 3) (by decide +kernel))
theorem pr_w564 : Cond.methodLink RX9 90 yX9_isSeen ∈ pr_AL := pr_in_pr_A14 _ (List.mem_of_getElem? (i := 4) (by decide +kernel))
theorem pr_w565 : Cond.instanceMethod yX9_isSeen ∈ pr_AL := pr_in_pr_A14 _ (List.mem_of_getElem? (i := 5) (by decide +kernel))
theorem pr_w566 : Cond.selects RX9 yX9_isSeen yX9_isSeen ∈ pr_AL := pr_in_pr_A14 _ (List.mem_of_getElem? (i := 6) (by decide +kernel))
theorem pr_w567 : Cond.code yX9_learn cX9_learn 4 none ∈ pr_AL := pr_in_pr_A14 _ (List.mem_of_getElem? (i := 7) (by decide +kernel))
theorem pr_w568 : Cond.methodLink RX9 93 yX9_limited ∈ pr_AL := pr_in_pr_A14 _ (List.mem_of_getElem? (i := 8) (by decide +kernel))
theorem pr_w569 : Cond.static yX9_limited ∈ pr_AL := pr_in_pr_A14 _ (List.mem_of_getElem? (i := 9) (by decide +kernel))
theorem pr_w570 : Cond.code yX9_expect cX9_expect 2 none ∈ pr_AL := pr_in_pr_A14 _ (List.mem_of_getElem? (i := 10) (by decide +kernel))
theorem pr_w571 : Cond.code yX9_correct cX9_correct 9 none ∈ pr_AL := pr_in_pr_A14 _ (List.mem_of_getElem? (i := 11) (by decide +kernel))
theorem pr_w572 : Cond.code yX9_decrease cX9_decrease 3 none ∈ pr_AL := pr_in_pr_A14 _ (List.mem_of_getElem? (i := 12) (by decide +kernel))
theorem pr_w573 : Cond.code yX9_endRepeat cX9_endRepeat 2 none ∈ pr_AL := pr_in_pr_A14 _ (List.mem_of_getElem? (i := 13) (by decide +kernel))
theorem pr_w574 : Cond.methodLink RX9 96 yX9_decrease ∈ pr_AL := pr_in_pr_A14 _ (List.mem_of_getElem? (i := 14) (by decide +kernel))
theorem pr_w575 : Cond.instanceMethod yX9_decrease ∈ pr_AL := pr_in_pr_A14 _ (List.mem_of_getElem? (i := 15) (by decide +kernel))
theorem pr_w576 : Cond.selects RX9 yX9_decrease yX9_decrease ∈ pr_AL := pr_in_pr_A14 _ (List.mem_of_getElem? (i := 16) (by decide +kernel))
theorem pr_w577 : Cond.methodLink RX9 99 yX9_goOnSplice ∈ pr_AL := pr_in_pr_A14 _ (List.mem_of_getElem? (i := 17) (by decide +kernel))
theorem pr_w578 : Cond.instanceMethod yX9_goOnSplice ∈ pr_AL := pr_in_pr_A14 _ (List.mem_of_getElem? (i := 18) (by decide +kernel))
theorem pr_w579 : Cond.selects RX9 yX9_goOnSplice yX9_goOnSplice ∈ pr_AL := pr_in_pr_A14 _ (List.mem_of_getElem? (i := 19) (by decide +kernel))
theorem pr_w580 : Cond.methodLink RX9 102 yX9_print ∈ pr_AL := pr_in_pr_A14 _ (List.mem_of_getElem? (i := 20) (by decide +kernel))
theorem pr_w581 : Cond.instanceMethod yX9_print ∈ pr_AL := pr_in_pr_A14 _ (List.mem_of_getElem? (i := 21) (by decide +kernel))
theorem pr_w582 : Cond.selects RX9 yX9_print yX9_print ∈ pr_AL := pr_in_pr_A14 _ (List.mem_of_getElem? (i := 22) (by decide +kernel))
theorem pr_w583 : Cond.methodLink RX9 105 yX9_see ∈ pr_AL := pr_in_pr_A14 _ (List.mem_of_getElem? (i := 23) (by decide +kernel))
theorem pr_w584 : Cond.instanceMethod yX9_see ∈ pr_AL := pr_in_pr_A14 _ (List.mem_of_getElem? (i := 24) (by decide +kernel))
theorem pr_w585 : Cond.selects RX9 yX9_see yX9_see ∈ pr_AL := pr_in_pr_A14 _ (List.mem_of_getElem? (i := 25) (by decide +kernel))
theorem pr_w586 : Cond.methodLink RX9 108 yX9_recognize ∈ pr_AL := pr_in_pr_A14 _ (List.mem_of_getElem? (i := 26) (by decide +kernel))
theorem pr_w587 : Cond.instanceMethod yX9_recognize ∈ pr_AL := pr_in_pr_A14 _ (List.mem_of_getElem? (i := 27) (by decide +kernel))
theorem pr_w588 : Cond.selects RX9 yX9_recognize yX9_recognize ∈ pr_AL := pr_in_pr_A14 _ (List.mem_of_getElem? (i := 28) (by decide +kernel))
theorem pr_w589 : Cond.methodLink RX9 111 yX9_isRecognized ∈ pr_AL := pr_in_pr_A14 _ (List.mem_of_getElem? (i := 29) (by decide +kernel))
theorem pr_w590 : Cond.instanceMethod yX9_isRecognized ∈ pr_AL := pr_in_pr_A14 _ (List.mem_of_getElem? (i := 30) (by decide +kernel))
theorem pr_w591 : Cond.selects RX9 yX9_isRecognized yX9_isRecognized ∈ pr_AL := pr_in_pr_A14 _ (List.mem_of_getElem? (i := 31) (by decide +kernel))
theorem pr_w592 : Cond.methodLink RX9 114 yX9_learn ∈ pr_AL := pr_in_pr_A14 _ (List.mem_of_getElem? (i := 32) (by decide +kernel))
theorem pr_w593 : Cond.instanceMethod yX9_learn ∈ pr_AL := pr_in_pr_A14 _ (List.mem_of_getElem? (i := 33) (by decide +kernel))
theorem pr_w594 : Cond.selects RX9 yX9_learn yX9_learn ∈ pr_AL := pr_in_pr_A14 _ (List.mem_of_getElem? (i := 34) (by decide +kernel))
theorem pr_w595 : Cond.methodLink RX9 117 yX9_expect ∈ pr_AL := pr_in_pr_A14 _ (List.mem_of_getElem? (i := 35) (by decide +kernel))
theorem pr_w596 : Cond.instanceMethod yX9_expect ∈ pr_AL := pr_in_pr_A14 _ (List.mem_of_getElem? (i := 36) (by decide +kernel))
theorem pr_w597 : Cond.selects RX9 yX9_expect yX9_expect ∈ pr_AL := pr_in_pr_A14 _ (List.mem_of_getElem? (i := 37) (by decide +kernel))
theorem pr_w598 : Cond.methodLink RX9 120 yX9_correct ∈ pr_AL := pr_in_pr_A14 _ (List.mem_of_getElem? (i := 38) (by decide +kernel))
theorem pr_w599 : Cond.instanceMethod yX9_correct ∈ pr_AL := pr_in_pr_A14 _ (List.mem_of_getElem? (i := 39) (by decide +kernel))
theorem pr_w600 : Cond.selects RX9 yX9_correct yX9_correct ∈ pr_AL := pr_in_pr_A15 _ (List.mem_of_getElem? (i := 0) (by decide +kernel))
theorem pr_w601 : Cond.methodLink RX9 123 yX9_endRepeat ∈ pr_AL := pr_in_pr_A15 _ (List.mem_of_getElem? (i := 1) (by decide +kernel))
theorem pr_w602 : Cond.instanceMethod yX9_endRepeat ∈ pr_AL := pr_in_pr_A15 _ (List.mem_of_getElem? (i := 2) (by decide +kernel))
theorem pr_w603 : Cond.selects RX9 yX9_endRepeat yX9_endRepeat ∈ pr_AL := pr_in_pr_A15 _ (List.mem_of_getElem? (i := 3) (by decide +kernel))
theorem pr_w604 : Cond.code yX9_makeRepeat cX9_makeRepeat 2 none ∈ pr_AL := pr_in_pr_A15 _ (List.mem_of_getElem? (i := 4) (by decide +kernel))
theorem pr_w605 : Cond.methodLink RX9 126 yX9_makeRepeat ∈ pr_AL := pr_in_pr_A15 _ (List.mem_of_getElem? (i := 5) (by decide +kernel))
theorem pr_w606 : Cond.instanceMethod yX9_makeRepeat ∈ pr_AL := pr_in_pr_A15 _ (List.mem_of_getElem? (i := 6) (by decide +kernel))
theorem pr_w607 : Cond.selects RX9 yX9_makeRepeat yX9_makeRepeat ∈ pr_AL := pr_in_pr_A15 _ (List.mem_of_getElem? (i := 7) (by decide +kernel))
theorem pr_w608 : Cond.code yX9_makeRepeats cX9_makeRepeats 3 none ∈ pr_AL := pr_in_pr_A15 _ (List.mem_of_getElem? (i := 8) (by decide +kernel))
theorem pr_w609 : Cond.constant RX9 129 (100000) ∈ pr_AL := pr_in_pr_A15 _ (List.mem_of_getElem? (i := 9) (by decide +kernel))
theorem pr_w610 : Cond.methodLink RX9 130 yX9_makeRepeats ∈ pr_AL := pr_in_pr_A15 _ (List.mem_of_getElem? (i := 10) (by decide +kernel))
theorem pr_w611 : Cond.instanceMethod yX9_makeRepeats ∈ pr_AL := pr_in_pr_A15 _ (List.mem_of_getElem? (i := 11) (by decide +kernel))
theorem pr_w612 : Cond.selects RX9 yX9_makeRepeats yX9_makeRepeats ∈ pr_AL := pr_in_pr_A15 _ (List.mem_of_getElem? (i := 12) (by decide +kernel))
theorem pr_w613 : Cond.code yX9_run cX9_run 2 (some .int) ∈ pr_AL := pr_in_pr_A15 _ (List.mem_of_getElem? (i := 13) (by decide +kernel))
theorem pr_w614 : Cond.code yX9_seen cX9_seen 3 (some .int) ∈ pr_AL := pr_in_pr_A15 _ (List.mem_of_getElem? (i := 14) (by decide +kernel))
theorem pr_w615 : Cond.code yX9_state cX9_state 3 (some .int) ∈ pr_AL := pr_in_pr_A15 _ (List.mem_of_getElem? (i := 15) (by decide +kernel))
theorem pr_w616 : Cond.code yX9_isControlled cX9_isControlled 2 (some .boolean) ∈ pr_AL := pr_in_pr_A15 _ (List.mem_of_getElem? (i := 16) (by decide +kernel))
theorem pr_w617 : Cond.methodLink RX9 133 yX9_isControlled ∈ pr_AL := pr_in_pr_A15 _ (List.mem_of_getElem? (i := 17) (by decide +kernel))
theorem pr_w618 : Cond.instanceMethod yX9_isControlled ∈ pr_AL := pr_in_pr_A15 _ (List.mem_of_getElem? (i := 18) (by decide +kernel))
theorem pr_w619 : Cond.selects RX9 yX9_isControlled yX9_isControlled ∈ pr_AL := pr_in_pr_A15 _ (List.mem_of_getElem? (i := 19) (by decide +kernel))
theorem pr_w620 : Cond.code yX9_errors cX9_errors 11 (some .int) ∈ pr_AL := pr_in_pr_A15 _ (List.mem_of_getElem? (i := 20) (by decide +kernel))
theorem pr_w621 : Cond.code yX9_total cX9_total 2 (some .int) ∈ pr_AL := pr_in_pr_A15 _ (List.mem_of_getElem? (i := 21) (by decide +kernel))
theorem pr_w622 : Cond.code yX9_comesBack cX9_comesBack 7 (some .int) ∈ pr_AL := pr_in_pr_A15 _ (List.mem_of_getElem? (i := 22) (by decide +kernel))
theorem pr_w623 : Cond.methodLink RX9 136 yX9_putAside ∈ pr_AL := pr_in_pr_A15 _ (List.mem_of_getElem? (i := 23) (by decide +kernel))
theorem pr_w624 : Cond.instanceMethod yX9_putAside ∈ pr_AL := pr_in_pr_A15 _ (List.mem_of_getElem? (i := 24) (by decide +kernel))
theorem pr_w625 : Cond.selects RX9 yX9_putAside yX9_putAside ∈ pr_AL := pr_in_pr_A15 _ (List.mem_of_getElem? (i := 25) (by decide +kernel))
theorem pr_w626 : Cond.methodLink RX9 139 yX9_comesBack ∈ pr_AL := pr_in_pr_A15 _ (List.mem_of_getElem? (i := 26) (by decide +kernel))
theorem pr_w627 : Cond.instanceMethod yX9_comesBack ∈ pr_AL := pr_in_pr_A15 _ (List.mem_of_getElem? (i := 27) (by decide +kernel))
theorem pr_w628 : Cond.selects RX9 yX9_comesBack yX9_comesBack ∈ pr_AL := pr_in_pr_A15 _ (List.mem_of_getElem? (i := 28) (by decide +kernel))
theorem pr_w629 : Cond.methodLink RX9 143 yX9_putBack ∈ pr_AL := pr_in_pr_A15 _ (List.mem_of_getElem? (i := 29) (by decide +kernel))
theorem pr_w630 : Cond.instanceMethod yX9_putBack ∈ pr_AL := pr_in_pr_A15 _ (List.mem_of_getElem? (i := 30) (by decide +kernel))
theorem pr_w631 : Cond.selects RX9 yX9_putBack yX9_putBack ∈ pr_AL := pr_in_pr_A15 _ (List.mem_of_getElem? (i := 31) (by decide +kernel))
theorem pr_w632 : Cond.code yX9_forecast cX9_forecast 5 (some .int) ∈ pr_AL := pr_in_pr_A15 _ (List.mem_of_getElem? (i := 32) (by decide +kernel))
theorem pr_w633 : Cond.code yX9_tried cX9_tried 8 (some .int) ∈ pr_AL := pr_in_pr_A15 _ (List.mem_of_getElem? (i := 33) (by decide +kernel))
theorem pr_w634 : Cond.methodLink RX9 146 yX9_tried ∈ pr_AL := pr_in_pr_A15 _ (List.mem_of_getElem? (i := 34) (by decide +kernel))
theorem pr_w635 : Cond.instanceMethod yX9_tried ∈ pr_AL := pr_in_pr_A15 _ (List.mem_of_getElem? (i := 35) (by decide +kernel))
theorem pr_w636 : Cond.selects RX9 yX9_tried yX9_tried ∈ pr_AL := pr_in_pr_A15 _ (List.mem_of_getElem? (i := 36) (by decide +kernel))
theorem pr_w637 : Cond.code yX9_attempt cX9_attempt 5 (some .int) ∈ pr_AL := pr_in_pr_A15 _ (List.mem_of_getElem? (i := 37) (by decide +kernel))
theorem pr_w638 : Cond.code yX9_bestGain cX9_bestGain 10 (some .int) ∈ pr_AL := pr_in_pr_A15 _ (List.mem_of_getElem? (i := 38) (by decide +kernel))
theorem pr_w639 : Cond.code yX9_put cX9_put 7 (some .int) ∈ pr_AL := pr_in_pr_A15 _ (List.mem_of_getElem? (i := 39) (by decide +kernel))
theorem pr_w640 : Cond.constantLong RX9 150 (255) ∈ pr_AL := pr_in_pr_A16 _ (List.mem_of_getElem? (i := 0) (by decide +kernel))
theorem pr_w641 : Cond.fieldLink RX9 152 "PrintRegisterModel" "padMany" "I" ∈ pr_AL := pr_in_pr_A16 _ (List.mem_of_getElem? (i := 1) (by decide +kernel))
theorem pr_w642 : Cond.constant RX9 156 (-1000000004) ∈ pr_AL := pr_in_pr_A16 _ (List.mem_of_getElem? (i := 2) (by decide +kernel))
theorem pr_w643 : Cond.code yX9_wipe cX9_wipe 2 (some .int) ∈ pr_AL := pr_in_pr_A16 _ (List.mem_of_getElem? (i := 3) (by decide +kernel))
theorem pr_w644 : Cond.code yX9_next cX9_next 1 (some .int) ∈ pr_AL := pr_in_pr_A16 _ (List.mem_of_getElem? (i := 4) (by decide +kernel))
theorem pr_w645 : Cond.fieldLink RX9 157 "PrintRegisterModel" "spot" "I" ∈ pr_AL := pr_in_pr_A16 _ (List.mem_of_getElem? (i := 5) (by decide +kernel))
theorem pr_w646 : Cond.code yX9_need cX9_need 2 none ∈ pr_AL := pr_in_pr_A16 _ (List.mem_of_getElem? (i := 6) (by decide +kernel))
theorem pr_w647 : Cond.fieldLink RX9 160 "PrintRegisterModel" "isWrong" "Z" ∈ pr_AL := pr_in_pr_A16 _ (List.mem_of_getElem? (i := 7) (by decide +kernel))
theorem pr_w648 : Cond.methodLink RX9 164 yX9_next ∈ pr_AL := pr_in_pr_A16 _ (List.mem_of_getElem? (i := 8) (by decide +kernel))
theorem pr_w649 : Cond.instanceMethod yX9_next ∈ pr_AL := pr_in_pr_A16 _ (List.mem_of_getElem? (i := 9) (by decide +kernel))
theorem pr_w650 : Cond.selects RX9 yX9_next yX9_next ∈ pr_AL := pr_in_pr_A16 _ (List.mem_of_getElem? (i := 10) (by decide +kernel))
theorem pr_w651 : Cond.code yX9_readNumber cX9_readNumber 4 (some .int) ∈ pr_AL := pr_in_pr_A16 _ (List.mem_of_getElem? (i := 11) (by decide +kernel))
theorem pr_w652 : Cond.code yX9_readUnit cX9_readUnit 1 (some .int) ∈ pr_AL := pr_in_pr_A16 _ (List.mem_of_getElem? (i := 12) (by decide +kernel))
theorem pr_w653 : Cond.code yX9_readDisturbance cX9_readDisturbance 4 none ∈ pr_AL := pr_in_pr_A16 _ (List.mem_of_getElem? (i := 13) (by decide +kernel))
theorem pr_w654 : Cond.methodLink RX9 168 yX9_readNumber ∈ pr_AL := pr_in_pr_A16 _ (List.mem_of_getElem? (i := 14) (by decide +kernel))
theorem pr_w655 : Cond.instanceMethod yX9_readNumber ∈ pr_AL := pr_in_pr_A16 _ (List.mem_of_getElem? (i := 15) (by decide +kernel))
theorem pr_w656 : Cond.selects RX9 yX9_readNumber yX9_readNumber ∈ pr_AL := pr_in_pr_A16 _ (List.mem_of_getElem? (i := 16) (by decide +kernel))
theorem pr_w657 : Cond.methodLink RX9 171 yX9_need ∈ pr_AL := pr_in_pr_A16 _ (List.mem_of_getElem? (i := 17) (by decide +kernel))
theorem pr_w658 : Cond.instanceMethod yX9_need ∈ pr_AL := pr_in_pr_A16 _ (List.mem_of_getElem? (i := 18) (by decide +kernel))
theorem pr_w659 : Cond.selects RX9 yX9_need yX9_need ∈ pr_AL := pr_in_pr_A16 _ (List.mem_of_getElem? (i := 19) (by decide +kernel))
theorem pr_w660 : Cond.fieldLink RX9 174 "PrintRegisterModel" "stepMany" "I" ∈ pr_AL := pr_in_pr_A16 _ (List.mem_of_getElem? (i := 20) (by decide +kernel))
theorem pr_w661 : Cond.methodLink RX9 177 yX9_readUnit ∈ pr_AL := pr_in_pr_A16 _ (List.mem_of_getElem? (i := 21) (by decide +kernel))
theorem pr_w662 : Cond.instanceMethod yX9_readUnit ∈ pr_AL := pr_in_pr_A16 _ (List.mem_of_getElem? (i := 22) (by decide +kernel))
theorem pr_w663 : Cond.selects RX9 yX9_readUnit yX9_readUnit ∈ pr_AL := pr_in_pr_A16 _ (List.mem_of_getElem? (i := 23) (by decide +kernel))
theorem pr_w664 : Cond.methodLink RX9 180 yX9_readDisturbance ∈ pr_AL := pr_in_pr_A16 _ (List.mem_of_getElem? (i := 24) (by decide +kernel))
theorem pr_w665 : Cond.instanceMethod yX9_readDisturbance ∈ pr_AL := pr_in_pr_A16 _ (List.mem_of_getElem? (i := 25) (by decide +kernel))
theorem pr_w666 : Cond.selects RX9 yX9_readDisturbance yX9_readDisturbance ∈ pr_AL := pr_in_pr_A16 _ (List.mem_of_getElem? (i := 26) (by decide +kernel))
theorem pr_w667 : Cond.code yX9_readStep cX9_readStep 3 none ∈ pr_AL := pr_in_pr_A16 _ (List.mem_of_getElem? (i := 27) (by decide +kernel))
theorem pr_w668 : Cond.methodLink RX9 183 yX9_readStep ∈ pr_AL := pr_in_pr_A16 _ (List.mem_of_getElem? (i := 28) (by decide +kernel))
theorem pr_w669 : Cond.instanceMethod yX9_readStep ∈ pr_AL := pr_in_pr_A16 _ (List.mem_of_getElem? (i := 29) (by decide +kernel))
theorem pr_w670 : Cond.selects RX9 yX9_readStep yX9_readStep ∈ pr_AL := pr_in_pr_A16 _ (List.mem_of_getElem? (i := 30) (by decide +kernel))
theorem pr_w671 : Cond.code yX9_fault cX9_fault 1 (some .int) ∈ pr_AL := pr_in_pr_A16 _ (List.mem_of_getElem? (i := 31) (by decide +kernel))
theorem pr_w672 : Cond.code yX9_carryOutStep cX9_carryOutStep 2 none ∈ pr_AL := pr_in_pr_A16 _ (List.mem_of_getElem? (i := 32) (by decide +kernel))
theorem pr_w673 : Cond.constant RX9 189 (-1000000003) ∈ pr_AL := pr_in_pr_A16 _ (List.mem_of_getElem? (i := 33) (by decide +kernel))
theorem pr_w674 : Cond.methodLink RX9 186 yX9_fault ∈ pr_AL := pr_in_pr_A16 _ (List.mem_of_getElem? (i := 34) (by decide +kernel))
theorem pr_w675 : Cond.instanceMethod yX9_fault ∈ pr_AL := pr_in_pr_A16 _ (List.mem_of_getElem? (i := 35) (by decide +kernel))
theorem pr_w676 : Cond.selects RX9 yX9_fault yX9_fault ∈ pr_AL := pr_in_pr_A16 _ (List.mem_of_getElem? (i := 36) (by decide +kernel))
theorem pr_w677 : Cond.methodLink RX9 190 yX9_carryOutStep ∈ pr_AL := pr_in_pr_A16 _ (List.mem_of_getElem? (i := 37) (by decide +kernel))
theorem pr_w678 : Cond.instanceMethod yX9_carryOutStep ∈ pr_AL := pr_in_pr_A16 _ (List.mem_of_getElem? (i := 38) (by decide +kernel))
theorem pr_w679 : Cond.selects RX9 yX9_carryOutStep yX9_carryOutStep ∈ pr_AL := pr_in_pr_A16 _ (List.mem_of_getElem? (i := 39) (by decide +kernel))
theorem pr_w680 : Cond.code yX9_carryOut cX9_carryOut 4 (some .int) ∈ pr_AL := pr_in_pr_A17 _ (List.mem_of_getElem? (i := 0) (by decide +kernel))
theorem pr_w681 : Cond.code yX9_count cX9_count 2 (some .int) ∈ pr_AL := pr_in_pr_A17 _ (List.mem_of_getElem? (i := 1) (by decide +kernel))
theorem pr_w682 : Cond.code yX9_save cX9_save 3 (some .int) ∈ pr_AL := pr_in_pr_A17 _ (List.mem_of_getElem? (i := 2) (by decide +kernel))
theorem pr_w683 : Cond.code yX9_restore cX9_restore 3 (some .int) ∈ pr_AL := pr_in_pr_A17 _ (List.mem_of_getElem? (i := 3) (by decide +kernel))
theorem pr_w684 : Cond.code yJ9_abs_0f7a4 cJ9_abs_0f7a4 1 (some .int) ∈ pr_AL := pr_in_pr_A17 _ (List.mem_of_getElem? (i := 4) (by decide +kernel))
theorem pr_w685 : Cond.code yJ9_max_7cf53 cJ9_max_7cf53 2 (some .int) ∈ pr_AL := pr_in_pr_A17 _ (List.mem_of_getElem? (i := 5) (by decide +kernel))
theorem pr_w686 : Cond.code yJ9_min_7cf53 cJ9_min_7cf53 2 (some .int) ∈ pr_AL := pr_in_pr_A17 _ (List.mem_of_getElem? (i := 6) (by decide +kernel))
theorem pr_w687 : Cond.classLink RL 7 RX8 ∈ pr_AL := pr_in_pr_A17 _ (List.mem_of_getElem? (i := 7) (by decide +kernel))
theorem pr_w688 : Cond.instantiable RX8 5 ∈ pr_AL := pr_in_pr_A17 _ (List.mem_of_getElem? (i := 8) (by decide +kernel))
theorem pr_w689 : Cond.classLink RL 10 RX9 ∈ pr_AL := pr_in_pr_A17 _ (List.mem_of_getElem? (i := 9) (by decide +kernel))
theorem pr_w690 : Cond.instantiable RX9 10 ∈ pr_AL := pr_in_pr_A17 _ (List.mem_of_getElem? (i := 10) (by decide +kernel))
theorem pr_w691 : Cond.constantLong RL 90 (4294967295) ∈ pr_AL := pr_in_pr_A17 _ (List.mem_of_getElem? (i := 11) (by decide +kernel))
theorem pr_w692 : Cond.methodLink RL 9 yX8_init ∈ pr_AL := pr_in_pr_A17 _ (List.mem_of_getElem? (i := 12) (by decide +kernel))
theorem pr_w693 : Cond.instanceMethod yX8_init ∈ pr_AL := pr_in_pr_A17 _ (List.mem_of_getElem? (i := 13) (by decide +kernel))
theorem pr_w694 : Cond.methodLink RL 12 yX9_init ∈ pr_AL := pr_in_pr_A17 _ (List.mem_of_getElem? (i := 14) (by decide +kernel))
theorem pr_w695 : Cond.instanceMethod yX9_init ∈ pr_AL := pr_in_pr_A17 _ (List.mem_of_getElem? (i := 15) (by decide +kernel))
theorem pr_w696 : Cond.methodLink RL 13 yX8_setUp ∈ pr_AL := pr_in_pr_A17 _ (List.mem_of_getElem? (i := 16) (by decide +kernel))
theorem pr_w697 : Cond.instanceMethod yX8_setUp ∈ pr_AL := pr_in_pr_A17 _ (List.mem_of_getElem? (i := 17) (by decide +kernel))
theorem pr_w698 : Cond.selects RX8 yX8_setUp yX8_setUp ∈ pr_AL := pr_in_pr_A17 _ (List.mem_of_getElem? (i := 18) (by decide +kernel))
theorem pr_w699 : Cond.methodLink RL 17 yX9_setUp ∈ pr_AL := pr_in_pr_A17 _ (List.mem_of_getElem? (i := 19) (by decide +kernel))
theorem pr_w700 : Cond.instanceMethod yX9_setUp ∈ pr_AL := pr_in_pr_A17 _ (List.mem_of_getElem? (i := 20) (by decide +kernel))
theorem pr_w701 : Cond.selects RX9 yX9_setUp yX9_setUp ∈ pr_AL := pr_in_pr_A17 _ (List.mem_of_getElem? (i := 21) (by decide +kernel))
theorem pr_w702 : Cond.methodLink RL 18 yX8_set ∈ pr_AL := pr_in_pr_A17 _ (List.mem_of_getElem? (i := 22) (by decide +kernel))
theorem pr_w703 : Cond.instanceMethod yX8_set ∈ pr_AL := pr_in_pr_A17 _ (List.mem_of_getElem? (i := 23) (by decide +kernel))
theorem pr_w704 : Cond.selects RX8 yX8_set yX8_set ∈ pr_AL := pr_in_pr_A17 _ (List.mem_of_getElem? (i := 24) (by decide +kernel))
theorem pr_w705 : Cond.methodLink RL 22 yX9_set ∈ pr_AL := pr_in_pr_A17 _ (List.mem_of_getElem? (i := 25) (by decide +kernel))
theorem pr_w706 : Cond.instanceMethod yX9_set ∈ pr_AL := pr_in_pr_A17 _ (List.mem_of_getElem? (i := 26) (by decide +kernel))
theorem pr_w707 : Cond.selects RX9 yX9_set yX9_set ∈ pr_AL := pr_in_pr_A17 _ (List.mem_of_getElem? (i := 27) (by decide +kernel))
theorem pr_w708 : Cond.methodLink RL 23 yX8_get ∈ pr_AL := pr_in_pr_A17 _ (List.mem_of_getElem? (i := 28) (by decide +kernel))
theorem pr_w709 : Cond.instanceMethod yX8_get ∈ pr_AL := pr_in_pr_A17 _ (List.mem_of_getElem? (i := 29) (by decide +kernel))
theorem pr_w710 : Cond.selects RX8 yX8_get yX8_get ∈ pr_AL := pr_in_pr_A17 _ (List.mem_of_getElem? (i := 30) (by decide +kernel))
theorem pr_w711 : Cond.methodLink RL 27 yX9_get ∈ pr_AL := pr_in_pr_A17 _ (List.mem_of_getElem? (i := 31) (by decide +kernel))
theorem pr_w712 : Cond.instanceMethod yX9_get ∈ pr_AL := pr_in_pr_A17 _ (List.mem_of_getElem? (i := 32) (by decide +kernel))
theorem pr_w713 : Cond.selects RX9 yX9_get yX9_get ∈ pr_AL := pr_in_pr_A17 _ (List.mem_of_getElem? (i := 33) (by decide +kernel))
theorem pr_w714 : Cond.methodLink RL 28 yX8_adjust ∈ pr_AL := pr_in_pr_A17 _ (List.mem_of_getElem? (i := 34) (by decide +kernel))
theorem pr_w715 : Cond.instanceMethod yX8_adjust ∈ pr_AL := pr_in_pr_A17 _ (List.mem_of_getElem? (i := 35) (by decide +kernel))
theorem pr_w716 : Cond.selects RX8 yX8_adjust yX8_adjust ∈ pr_AL := pr_in_pr_A17 _ (List.mem_of_getElem? (i := 36) (by decide +kernel))
theorem pr_w717 : Cond.methodLink RL 31 yX9_adjust ∈ pr_AL := pr_in_pr_A17 _ (List.mem_of_getElem? (i := 37) (by decide +kernel))
theorem pr_w718 : Cond.instanceMethod yX9_adjust ∈ pr_AL := pr_in_pr_A17 _ (List.mem_of_getElem? (i := 38) (by decide +kernel))
theorem pr_w719 : Cond.selects RX9 yX9_adjust yX9_adjust ∈ pr_AL := pr_in_pr_A17 _ (List.mem_of_getElem? (i := 39) (by decide +kernel))
theorem pr_w720 : Cond.methodLink RL 32 yX8_restart ∈ pr_AL := pr_in_pr_A18 _ (List.mem_of_getElem? (i := 0) (by decide +kernel))
theorem pr_w721 : Cond.instanceMethod yX8_restart ∈ pr_AL := pr_in_pr_A18 _ (List.mem_of_getElem? (i := 1) (by decide +kernel))
theorem pr_w722 : Cond.selects RX8 yX8_restart yX8_restart ∈ pr_AL := pr_in_pr_A18 _ (List.mem_of_getElem? (i := 2) (by decide +kernel))
theorem pr_w723 : Cond.methodLink RL 35 yX9_restart ∈ pr_AL := pr_in_pr_A18 _ (List.mem_of_getElem? (i := 3) (by decide +kernel))
theorem pr_w724 : Cond.instanceMethod yX9_restart ∈ pr_AL := pr_in_pr_A18 _ (List.mem_of_getElem? (i := 4) (by decide +kernel))
theorem pr_w725 : Cond.selects RX9 yX9_restart yX9_restart ∈ pr_AL := pr_in_pr_A18 _ (List.mem_of_getElem? (i := 5) (by decide +kernel))
theorem pr_w726 : Cond.methodLink RL 36 yX8_speed ∈ pr_AL := pr_in_pr_A18 _ (List.mem_of_getElem? (i := 6) (by decide +kernel))
theorem pr_w727 : Cond.instanceMethod yX8_speed ∈ pr_AL := pr_in_pr_A18 _ (List.mem_of_getElem? (i := 7) (by decide +kernel))
theorem pr_w728 : Cond.selects RX8 yX8_speed yX8_speed ∈ pr_AL := pr_in_pr_A18 _ (List.mem_of_getElem? (i := 8) (by decide +kernel))
theorem pr_w729 : Cond.methodLink RL 39 yX9_speed ∈ pr_AL := pr_in_pr_A18 _ (List.mem_of_getElem? (i := 9) (by decide +kernel))
theorem pr_w730 : Cond.instanceMethod yX9_speed ∈ pr_AL := pr_in_pr_A18 _ (List.mem_of_getElem? (i := 10) (by decide +kernel))
theorem pr_w731 : Cond.selects RX9 yX9_speed yX9_speed ∈ pr_AL := pr_in_pr_A18 _ (List.mem_of_getElem? (i := 11) (by decide +kernel))
theorem pr_w732 : Cond.methodLink RL 40 yX8_disturb ∈ pr_AL := pr_in_pr_A18 _ (List.mem_of_getElem? (i := 12) (by decide +kernel))
theorem pr_w733 : Cond.instanceMethod yX8_disturb ∈ pr_AL := pr_in_pr_A18 _ (List.mem_of_getElem? (i := 13) (by decide +kernel))
theorem pr_w734 : Cond.selects RX8 yX8_disturb yX8_disturb ∈ pr_AL := pr_in_pr_A18 _ (List.mem_of_getElem? (i := 14) (by decide +kernel))
theorem pr_w735 : Cond.methodLink RL 43 yX9_disturb ∈ pr_AL := pr_in_pr_A18 _ (List.mem_of_getElem? (i := 15) (by decide +kernel))
theorem pr_w736 : Cond.instanceMethod yX9_disturb ∈ pr_AL := pr_in_pr_A18 _ (List.mem_of_getElem? (i := 16) (by decide +kernel))
theorem pr_w737 : Cond.selects RX9 yX9_disturb yX9_disturb ∈ pr_AL := pr_in_pr_A18 _ (List.mem_of_getElem? (i := 17) (by decide +kernel))
theorem pr_w738 : Cond.methodLink RL 44 yX8_hide ∈ pr_AL := pr_in_pr_A18 _ (List.mem_of_getElem? (i := 18) (by decide +kernel))
theorem pr_w739 : Cond.instanceMethod yX8_hide ∈ pr_AL := pr_in_pr_A18 _ (List.mem_of_getElem? (i := 19) (by decide +kernel))
theorem pr_w740 : Cond.selects RX8 yX8_hide yX8_hide ∈ pr_AL := pr_in_pr_A18 _ (List.mem_of_getElem? (i := 20) (by decide +kernel))
theorem pr_w741 : Cond.methodLink RL 47 yX9_hide ∈ pr_AL := pr_in_pr_A18 _ (List.mem_of_getElem? (i := 21) (by decide +kernel))
theorem pr_w742 : Cond.instanceMethod yX9_hide ∈ pr_AL := pr_in_pr_A18 _ (List.mem_of_getElem? (i := 22) (by decide +kernel))
theorem pr_w743 : Cond.selects RX9 yX9_hide yX9_hide ∈ pr_AL := pr_in_pr_A18 _ (List.mem_of_getElem? (i := 23) (by decide +kernel))
theorem pr_w744 : Cond.methodLink RL 48 yX8_falseMark ∈ pr_AL := pr_in_pr_A18 _ (List.mem_of_getElem? (i := 24) (by decide +kernel))
theorem pr_w745 : Cond.instanceMethod yX8_falseMark ∈ pr_AL := pr_in_pr_A18 _ (List.mem_of_getElem? (i := 25) (by decide +kernel))
theorem pr_w746 : Cond.selects RX8 yX8_falseMark yX8_falseMark ∈ pr_AL := pr_in_pr_A18 _ (List.mem_of_getElem? (i := 26) (by decide +kernel))
theorem pr_w747 : Cond.methodLink RL 51 yX9_falseMark ∈ pr_AL := pr_in_pr_A18 _ (List.mem_of_getElem? (i := 27) (by decide +kernel))
theorem pr_w748 : Cond.instanceMethod yX9_falseMark ∈ pr_AL := pr_in_pr_A18 _ (List.mem_of_getElem? (i := 28) (by decide +kernel))
theorem pr_w749 : Cond.selects RX9 yX9_falseMark yX9_falseMark ∈ pr_AL := pr_in_pr_A18 _ (List.mem_of_getElem? (i := 29) (by decide +kernel))
theorem pr_w750 : Cond.methodLink RL 52 yX8_splice ∈ pr_AL := pr_in_pr_A18 _ (List.mem_of_getElem? (i := 30) (by decide +kernel))
theorem pr_w751 : Cond.instanceMethod yX8_splice ∈ pr_AL := pr_in_pr_A18 _ (List.mem_of_getElem? (i := 31) (by decide +kernel))
theorem pr_w752 : Cond.selects RX8 yX8_splice yX8_splice ∈ pr_AL := pr_in_pr_A18 _ (List.mem_of_getElem? (i := 32) (by decide +kernel))
theorem pr_w753 : Cond.methodLink RL 55 yX9_splice ∈ pr_AL := pr_in_pr_A18 _ (List.mem_of_getElem? (i := 33) (by decide +kernel))
theorem pr_w754 : Cond.instanceMethod yX9_splice ∈ pr_AL := pr_in_pr_A18 _ (List.mem_of_getElem? (i := 34) (by decide +kernel))
theorem pr_w755 : Cond.selects RX9 yX9_splice yX9_splice ∈ pr_AL := pr_in_pr_A18 _ (List.mem_of_getElem? (i := 35) (by decide +kernel))
theorem pr_w756 : Cond.methodLink RL 56 yX8_run ∈ pr_AL := pr_in_pr_A18 _ (List.mem_of_getElem? (i := 36) (by decide +kernel))
theorem pr_w757 : Cond.instanceMethod yX8_run ∈ pr_AL := pr_in_pr_A18 _ (List.mem_of_getElem? (i := 37) (by decide +kernel))
theorem pr_w758 : Cond.selects RX8 yX8_run yX8_run ∈ pr_AL := pr_in_pr_A18 _ (List.mem_of_getElem? (i := 38) (by decide +kernel))
theorem pr_w759 : Cond.methodLink RL 59 yX9_run ∈ pr_AL := pr_in_pr_A18 _ (List.mem_of_getElem? (i := 39) (by decide +kernel))
theorem pr_w760 : Cond.instanceMethod yX9_run ∈ pr_AL := pr_in_pr_A19 _ (List.mem_of_getElem? (i := 0) (by decide +kernel))
theorem pr_w761 : Cond.selects RX9 yX9_run yX9_run ∈ pr_AL := pr_in_pr_A19 _ (List.mem_of_getElem? (i := 1) (by decide +kernel))
theorem pr_w762 : Cond.methodLink RL 60 yX8_seen ∈ pr_AL := pr_in_pr_A19 _ (List.mem_of_getElem? (i := 2) (by decide +kernel))
theorem pr_w763 : Cond.instanceMethod yX8_seen ∈ pr_AL := pr_in_pr_A19 _ (List.mem_of_getElem? (i := 3) (by decide +kernel))
theorem pr_w764 : Cond.selects RX8 yX8_seen yX8_seen ∈ pr_AL := pr_in_pr_A19 _ (List.mem_of_getElem? (i := 4) (by decide +kernel))
theorem pr_w765 : Cond.methodLink RL 63 yX9_seen ∈ pr_AL := pr_in_pr_A19 _ (List.mem_of_getElem? (i := 5) (by decide +kernel))
theorem pr_w766 : Cond.instanceMethod yX9_seen ∈ pr_AL := pr_in_pr_A19 _ (List.mem_of_getElem? (i := 6) (by decide +kernel))
theorem pr_w767 : Cond.selects RX9 yX9_seen yX9_seen ∈ pr_AL := pr_in_pr_A19 _ (List.mem_of_getElem? (i := 7) (by decide +kernel))
theorem pr_w768 : Cond.methodLink RL 64 yX8_state ∈ pr_AL := pr_in_pr_A19 _ (List.mem_of_getElem? (i := 8) (by decide +kernel))
theorem pr_w769 : Cond.instanceMethod yX8_state ∈ pr_AL := pr_in_pr_A19 _ (List.mem_of_getElem? (i := 9) (by decide +kernel))
theorem pr_w770 : Cond.selects RX8 yX8_state yX8_state ∈ pr_AL := pr_in_pr_A19 _ (List.mem_of_getElem? (i := 10) (by decide +kernel))
theorem pr_w771 : Cond.methodLink RL 67 yX9_state ∈ pr_AL := pr_in_pr_A19 _ (List.mem_of_getElem? (i := 11) (by decide +kernel))
theorem pr_w772 : Cond.instanceMethod yX9_state ∈ pr_AL := pr_in_pr_A19 _ (List.mem_of_getElem? (i := 12) (by decide +kernel))
theorem pr_w773 : Cond.selects RX9 yX9_state yX9_state ∈ pr_AL := pr_in_pr_A19 _ (List.mem_of_getElem? (i := 13) (by decide +kernel))
theorem pr_w774 : Cond.methodLink RL 68 yX8_errors ∈ pr_AL := pr_in_pr_A19 _ (List.mem_of_getElem? (i := 14) (by decide +kernel))
theorem pr_w775 : Cond.instanceMethod yX8_errors ∈ pr_AL := pr_in_pr_A19 _ (List.mem_of_getElem? (i := 15) (by decide +kernel))
theorem pr_w776 : Cond.selects RX8 yX8_errors yX8_errors ∈ pr_AL := pr_in_pr_A19 _ (List.mem_of_getElem? (i := 16) (by decide +kernel))
theorem pr_w777 : Cond.methodLink RL 71 yX9_errors ∈ pr_AL := pr_in_pr_A19 _ (List.mem_of_getElem? (i := 17) (by decide +kernel))
theorem pr_w778 : Cond.instanceMethod yX9_errors ∈ pr_AL := pr_in_pr_A19 _ (List.mem_of_getElem? (i := 18) (by decide +kernel))
theorem pr_w779 : Cond.selects RX9 yX9_errors yX9_errors ∈ pr_AL := pr_in_pr_A19 _ (List.mem_of_getElem? (i := 19) (by decide +kernel))
theorem pr_w780 : Cond.methodLink RL 72 yX8_total ∈ pr_AL := pr_in_pr_A19 _ (List.mem_of_getElem? (i := 20) (by decide +kernel))
theorem pr_w781 : Cond.instanceMethod yX8_total ∈ pr_AL := pr_in_pr_A19 _ (List.mem_of_getElem? (i := 21) (by decide +kernel))
theorem pr_w782 : Cond.selects RX8 yX8_total yX8_total ∈ pr_AL := pr_in_pr_A19 _ (List.mem_of_getElem? (i := 22) (by decide +kernel))
theorem pr_w783 : Cond.methodLink RL 75 yX9_total ∈ pr_AL := pr_in_pr_A19 _ (List.mem_of_getElem? (i := 23) (by decide +kernel))
theorem pr_w784 : Cond.instanceMethod yX9_total ∈ pr_AL := pr_in_pr_A19 _ (List.mem_of_getElem? (i := 24) (by decide +kernel))
theorem pr_w785 : Cond.selects RX9 yX9_total yX9_total ∈ pr_AL := pr_in_pr_A19 _ (List.mem_of_getElem? (i := 25) (by decide +kernel))
theorem pr_w786 : Cond.methodLink RL 76 yX8_forecast ∈ pr_AL := pr_in_pr_A19 _ (List.mem_of_getElem? (i := 26) (by decide +kernel))
theorem pr_w787 : Cond.instanceMethod yX8_forecast ∈ pr_AL := pr_in_pr_A19 _ (List.mem_of_getElem? (i := 27) (by decide +kernel))
theorem pr_w788 : Cond.selects RX8 yX8_forecast yX8_forecast ∈ pr_AL := pr_in_pr_A19 _ (List.mem_of_getElem? (i := 28) (by decide +kernel))
theorem pr_w789 : Cond.methodLink RL 79 yX9_forecast ∈ pr_AL := pr_in_pr_A19 _ (List.mem_of_getElem? (i := 29) (by decide +kernel))
theorem pr_w790 : Cond.instanceMethod yX9_forecast ∈ pr_AL := pr_in_pr_A19 _ (List.mem_of_getElem? (i := 30) (by decide +kernel))
theorem pr_w791 : Cond.selects RX9 yX9_forecast yX9_forecast ∈ pr_AL := pr_in_pr_A19 _ (List.mem_of_getElem? (i := 31) (by decide +kernel))
theorem pr_w792 : Cond.methodLink RL 80 yX8_attempt ∈ pr_AL := pr_in_pr_A19 _ (List.mem_of_getElem? (i := 32) (by decide +kernel))
theorem pr_w793 : Cond.instanceMethod yX8_attempt ∈ pr_AL := pr_in_pr_A19 _ (List.mem_of_getElem? (i := 33) (by decide +kernel))
theorem pr_w794 : Cond.selects RX8 yX8_attempt yX8_attempt ∈ pr_AL := pr_in_pr_A19 _ (List.mem_of_getElem? (i := 34) (by decide +kernel))
theorem pr_w795 : Cond.methodLink RL 84 yX9_attempt ∈ pr_AL := pr_in_pr_A19 _ (List.mem_of_getElem? (i := 35) (by decide +kernel))
theorem pr_w796 : Cond.instanceMethod yX9_attempt ∈ pr_AL := pr_in_pr_A19 _ (List.mem_of_getElem? (i := 36) (by decide +kernel))
theorem pr_w797 : Cond.selects RX9 yX9_attempt yX9_attempt ∈ pr_AL := pr_in_pr_A19 _ (List.mem_of_getElem? (i := 37) (by decide +kernel))
theorem pr_w798 : Cond.methodLink RL 85 yX8_bestGain ∈ pr_AL := pr_in_pr_A19 _ (List.mem_of_getElem? (i := 38) (by decide +kernel))
theorem pr_w799 : Cond.instanceMethod yX8_bestGain ∈ pr_AL := pr_in_pr_A19 _ (List.mem_of_getElem? (i := 39) (by decide +kernel))
theorem pr_w800 : Cond.selects RX8 yX8_bestGain yX8_bestGain ∈ pr_AL := pr_in_pr_A20 _ (List.mem_of_getElem? (i := 0) (by decide +kernel))
theorem pr_w801 : Cond.methodLink RL 89 yX9_bestGain ∈ pr_AL := pr_in_pr_A20 _ (List.mem_of_getElem? (i := 1) (by decide +kernel))
theorem pr_w802 : Cond.instanceMethod yX9_bestGain ∈ pr_AL := pr_in_pr_A20 _ (List.mem_of_getElem? (i := 2) (by decide +kernel))
theorem pr_w803 : Cond.selects RX9 yX9_bestGain yX9_bestGain ∈ pr_AL := pr_in_pr_A20 _ (List.mem_of_getElem? (i := 3) (by decide +kernel))
theorem pr_w804 : Cond.methodLink RL 92 yX8_put ∈ pr_AL := pr_in_pr_A20 _ (List.mem_of_getElem? (i := 4) (by decide +kernel))
theorem pr_w805 : Cond.instanceMethod yX8_put ∈ pr_AL := pr_in_pr_A20 _ (List.mem_of_getElem? (i := 5) (by decide +kernel))
theorem pr_w806 : Cond.selects RX8 yX8_put yX8_put ∈ pr_AL := pr_in_pr_A20 _ (List.mem_of_getElem? (i := 6) (by decide +kernel))
theorem pr_w807 : Cond.methodLink RL 96 yX9_put ∈ pr_AL := pr_in_pr_A20 _ (List.mem_of_getElem? (i := 7) (by decide +kernel))
theorem pr_w808 : Cond.instanceMethod yX9_put ∈ pr_AL := pr_in_pr_A20 _ (List.mem_of_getElem? (i := 8) (by decide +kernel))
theorem pr_w809 : Cond.selects RX9 yX9_put yX9_put ∈ pr_AL := pr_in_pr_A20 _ (List.mem_of_getElem? (i := 9) (by decide +kernel))
theorem pr_w810 : Cond.methodLink RL 97 yX8_wipe ∈ pr_AL := pr_in_pr_A20 _ (List.mem_of_getElem? (i := 10) (by decide +kernel))
theorem pr_w811 : Cond.instanceMethod yX8_wipe ∈ pr_AL := pr_in_pr_A20 _ (List.mem_of_getElem? (i := 11) (by decide +kernel))
theorem pr_w812 : Cond.selects RX8 yX8_wipe yX8_wipe ∈ pr_AL := pr_in_pr_A20 _ (List.mem_of_getElem? (i := 12) (by decide +kernel))
theorem pr_w813 : Cond.methodLink RL 101 yX9_wipe ∈ pr_AL := pr_in_pr_A20 _ (List.mem_of_getElem? (i := 13) (by decide +kernel))
theorem pr_w814 : Cond.instanceMethod yX9_wipe ∈ pr_AL := pr_in_pr_A20 _ (List.mem_of_getElem? (i := 14) (by decide +kernel))
theorem pr_w815 : Cond.selects RX9 yX9_wipe yX9_wipe ∈ pr_AL := pr_in_pr_A20 _ (List.mem_of_getElem? (i := 15) (by decide +kernel))
theorem pr_w816 : Cond.methodLink RL 102 yX8_fault ∈ pr_AL := pr_in_pr_A20 _ (List.mem_of_getElem? (i := 16) (by decide +kernel))
theorem pr_w817 : Cond.instanceMethod yX8_fault ∈ pr_AL := pr_in_pr_A20 _ (List.mem_of_getElem? (i := 17) (by decide +kernel))
theorem pr_w818 : Cond.selects RX8 yX8_fault yX8_fault ∈ pr_AL := pr_in_pr_A20 _ (List.mem_of_getElem? (i := 18) (by decide +kernel))
theorem pr_w819 : Cond.methodLink RL 105 yX9_fault ∈ pr_AL := pr_in_pr_A20 _ (List.mem_of_getElem? (i := 19) (by decide +kernel))
theorem pr_w820 : Cond.methodLink RL 106 yX8_carryOut ∈ pr_AL := pr_in_pr_A20 _ (List.mem_of_getElem? (i := 20) (by decide +kernel))
theorem pr_w821 : Cond.instanceMethod yX8_carryOut ∈ pr_AL := pr_in_pr_A20 _ (List.mem_of_getElem? (i := 21) (by decide +kernel))
theorem pr_w822 : Cond.selects RX8 yX8_carryOut yX8_carryOut ∈ pr_AL := pr_in_pr_A20 _ (List.mem_of_getElem? (i := 22) (by decide +kernel))
theorem pr_w823 : Cond.methodLink RL 109 yX9_carryOut ∈ pr_AL := pr_in_pr_A20 _ (List.mem_of_getElem? (i := 23) (by decide +kernel))
theorem pr_w824 : Cond.instanceMethod yX9_carryOut ∈ pr_AL := pr_in_pr_A20 _ (List.mem_of_getElem? (i := 24) (by decide +kernel))
theorem pr_w825 : Cond.selects RX9 yX9_carryOut yX9_carryOut ∈ pr_AL := pr_in_pr_A20 _ (List.mem_of_getElem? (i := 25) (by decide +kernel))
theorem pr_w826 : Cond.methodLink RL 110 yX8_count ∈ pr_AL := pr_in_pr_A20 _ (List.mem_of_getElem? (i := 26) (by decide +kernel))
theorem pr_w827 : Cond.instanceMethod yX8_count ∈ pr_AL := pr_in_pr_A20 _ (List.mem_of_getElem? (i := 27) (by decide +kernel))
theorem pr_w828 : Cond.selects RX8 yX8_count yX8_count ∈ pr_AL := pr_in_pr_A20 _ (List.mem_of_getElem? (i := 28) (by decide +kernel))
theorem pr_w829 : Cond.methodLink RL 113 yX9_count ∈ pr_AL := pr_in_pr_A20 _ (List.mem_of_getElem? (i := 29) (by decide +kernel))
theorem pr_w830 : Cond.instanceMethod yX9_count ∈ pr_AL := pr_in_pr_A20 _ (List.mem_of_getElem? (i := 30) (by decide +kernel))
theorem pr_w831 : Cond.selects RX9 yX9_count yX9_count ∈ pr_AL := pr_in_pr_A20 _ (List.mem_of_getElem? (i := 31) (by decide +kernel))
theorem pr_w832 : Cond.methodLink RL 114 yX8_save ∈ pr_AL := pr_in_pr_A20 _ (List.mem_of_getElem? (i := 32) (by decide +kernel))
theorem pr_w833 : Cond.instanceMethod yX8_save ∈ pr_AL := pr_in_pr_A20 _ (List.mem_of_getElem? (i := 33) (by decide +kernel))
theorem pr_w834 : Cond.selects RX8 yX8_save yX8_save ∈ pr_AL := pr_in_pr_A20 _ (List.mem_of_getElem? (i := 34) (by decide +kernel))
theorem pr_w835 : Cond.methodLink RL 117 yX9_save ∈ pr_AL := pr_in_pr_A20 _ (List.mem_of_getElem? (i := 35) (by decide +kernel))
theorem pr_w836 : Cond.instanceMethod yX9_save ∈ pr_AL := pr_in_pr_A20 _ (List.mem_of_getElem? (i := 36) (by decide +kernel))
theorem pr_w837 : Cond.selects RX9 yX9_save yX9_save ∈ pr_AL := pr_in_pr_A20 _ (List.mem_of_getElem? (i := 37) (by decide +kernel))
theorem pr_w838 : Cond.methodLink RL 118 yX8_restore ∈ pr_AL := pr_in_pr_A20 _ (List.mem_of_getElem? (i := 38) (by decide +kernel))
theorem pr_w839 : Cond.instanceMethod yX8_restore ∈ pr_AL := pr_in_pr_A20 _ (List.mem_of_getElem? (i := 39) (by decide +kernel))
theorem pr_w840 : Cond.selects RX8 yX8_restore yX8_restore ∈ pr_AL := pr_in_pr_A21 _ (List.mem_of_getElem? (i := 0) (by decide +kernel))
theorem pr_w841 : Cond.methodLink RL 121 yX9_restore ∈ pr_AL := pr_in_pr_A21 _ (List.mem_of_getElem? (i := 1) (by decide +kernel))
theorem pr_w842 : Cond.instanceMethod yX9_restore ∈ pr_AL := pr_in_pr_A21 _ (List.mem_of_getElem? (i := 2) (by decide +kernel))
theorem pr_w843 : Cond.selects RX9 yX9_restore yX9_restore ∈ pr_AL := pr_in_pr_A21 _ (List.mem_of_getElem? (i := 3) (by decide +kernel))
def pr_NF : List (String × Nat × String × String × String) := [("PrintRegister$Unit", 118, "PrintRegister$Printer", "phase", "I"), ("PrintRegister$Unit", 121, "PrintRegister$Printer", "skewSetting", "I"), ("PrintRegister", 171, "PrintRegister$Printer", "disturbanceLeft", "I"), ("PrintRegister$Unit", 127, "PrintRegister$Printer", "disturbanceLeft", "I"), ("PrintRegister", 93, "PrintRegister$Controller", "feed", "I"), ("PrintRegister$Unit", 77, "PrintRegister$Controller", "feed", "I"), ("PrintRegister$Unit", 66, "PrintRegister$Controller", "sum", "I"), ("PrintRegister", 153, "PrintRegister$Controller", "sum", "I"), ("PrintRegister$Press", 158, "PrintRegister$Controller", "wait", "I"), ("PrintRegister", 156, "PrintRegister$Controller", "wait", "I"), ("PrintRegister$Unit", 100, "PrintRegister$Controller", "misses", "I"), ("PrintRegister", 159, "PrintRegister$Controller", "misses", "I"), ("PrintRegister$Unit", 74, "PrintRegister$Controller", "readyTime", "I"), ("PrintRegister", 162, "PrintRegister$Controller", "readyTime", "I"), ("PrintRegister$Unit", 83, "PrintRegister$Controller", "expectedError", "I"), ("PrintRegister", 165, "PrintRegister$Controller", "expectedError", "I"), ("PrintRegister$Unit", 86, "PrintRegister$Controller", "expectedSkew", "I"), ("PrintRegister", 168, "PrintRegister$Controller", "expectedSkew", "I"), ("PrintRegister$Press", 176, "PrintRegister$Controller", "addedPhase", "I"), ("PrintRegister$Press", 182, "PrintRegister$Controller", "addedSkew", "I"), ("PrintRegister", 180, "PrintRegister$Sensor", "log", "LPrintRegister$ErrorLog;"), ("PrintRegister", 114, "PrintRegister$Sensor", "hiddenLeft", "I"), ("PrintRegister$Unit", 133, "PrintRegister$Sensor", "hiddenLeft", "I"), ("PrintRegister", 122, "PrintRegister$Sensor", "falseOffset", "I"), ("PrintRegister", 119, "PrintRegister$Sensor", "falseLeft", "I"), ("PrintRegister$Unit", 136, "PrintRegister$Sensor", "falseLeft", "I"), ("PrintRegister$Press", 81, "PrintRegister$Sensor", "sawPiece", "Z"), ("PrintRegister", 142, "PrintRegister$Sensor", "sawPiece", "Z"), ("PrintRegister$Press", 87, "PrintRegister$Sensor", "trueError", "I"), ("PrintRegister$Unit", 97, "PrintRegister$Sensor", "recognized", "I"), ("PrintRegister$Press", 141, "PrintRegister$Sensor", "recognized", "I"), ("PrintRegister", 146, "PrintRegister$Sensor", "recognized", "I"), ("PrintRegister$Unit", 108, "PrintRegister$Sensor", "offset", "I"), ("PrintRegister$Press", 163, "PrintRegister$Sensor", "offset", "I"), ("PrintRegister$Unit", 115, "PrintRegister$Sensor", "skew", "I"), ("PrintRegister$Press", 169, "PrintRegister$Sensor", "skew", "I"), ("PrintRegister", 77, "PrintRegister$Unit", "printer", "LPrintRegister$Printer;"), ("PrintRegister$Press", 122, "PrintRegister$Unit", "printer", "LPrintRegister$Printer;"), ("PrintRegister", 89, "PrintRegister$Unit", "controller", "LPrintRegister$Controller;"), ("PrintRegister$Press", 154, "PrintRegister$Unit", "controller", "LPrintRegister$Controller;"), ("PrintRegister$Press", 77, "PrintRegister$Unit", "sensor", "LPrintRegister$Sensor;"), ("PrintRegister", 110, "PrintRegister$Unit", "sensor", "LPrintRegister$Sensor;"), ("PrintRegister", 199, "PrintRegister$Press", "totals", "[I"), ("PrintRegister", 240, "PrintRegister$Press", "unitCount", "I"), ("PrintRegister", 45, "PrintRegister$Press", "time", "I"), ("PrintRegister", 101, "PrintRegister$Press", "speedNow", "I"), ("PrintRegister", 260, "PrintRegister$Slot", "saved", "LPrintRegister$Press;"), ("PrintRegister", 263, "PrintRegister$Slot", "isUsed", "Z"), ("PrintRegister", 217, "PrintRegister$Pad", "length", "I"), ("PrintRegister", 230, "PrintRegister$Pad", "at", "I"), ("PrintRegister", 227, "PrintRegister$Pad", "failed", "Z"), ("PrintRegister", 266, "PrintRegister$Pad", "kind", "I"), ("PrintRegister", 272, "PrintRegister$Pad", "unit", "I"), ("PrintRegister", 269, "PrintRegister$Pad", "number", "I"), ("PrintRegister", 275, "PrintRegister$Pad", "duration", "I"), ("PrintRegister", 234, "PrintRegister$Pad", "repeats", "I"), ("PrintRegister", 237, "PrintRegister$Pad", "greatestUnit", "I"), ("PrintRegister$Unit", 36, "PrintRegister", "FIRST_SETTINGS", "[I")]
def pr_NM : List (String × Nat × MethodName) := [("PrintRegister$Press", 24, ⟨"PrintRegister$Unit", "<init>", "()V"⟩), ("PrintRegister$Unit", 17, ⟨"PrintRegister$Printer", "<init>", "()V"⟩), ("PrintRegister$Unit", 24, ⟨"PrintRegister$Controller", "<init>", "()V"⟩), ("PrintRegister$Unit", 31, ⟨"PrintRegister$Sensor", "<init>", "()V"⟩), ("PrintRegister$Sensor", 11, ⟨"PrintRegister$ErrorLog", "<init>", "()V"⟩), ("PrintRegister", 21, ⟨"PrintRegister$Slot", "<init>", "()V"⟩), ("PrintRegister", 31, ⟨"PrintRegister$Pad", "<init>", "()V"⟩), ("PrintRegister$Unit", 111, ⟨"PrintRegister", "limited", "(II)I"⟩), ("PrintRegister$Controller", 37, ⟨"PrintRegister", "lessOne", "(I)I"⟩), ("PrintRegister$Unit", 130, ⟨"PrintRegister", "lessOne", "(I)I"⟩)]
def pr_NW : List Cond := pr_NF.map (fun q => .fieldLinkNest q.1 q.2.1 q.2.2.1 q.2.2.2.1 q.2.2.2.2 "PrintRegister") ++ pr_NM.map (fun q => .methodLinkNest q.1 q.2.1 q.2.2 "PrintRegister")
theorem pr_nf0 : Cond.fieldLinkNest RX7 118 "PrintRegister$Printer" "phase" "I" "PrintRegister" ∈ pr_NW := List.mem_append_left _ (List.mem_map.mpr ⟨("PrintRegister$Unit", 118, "PrintRegister$Printer", "phase", "I"), List.mem_of_getElem? (i := 0) (by decide +kernel), rfl⟩)
theorem pr_nf1 : Cond.fieldLinkNest RX7 121 "PrintRegister$Printer" "skewSetting" "I" "PrintRegister" ∈ pr_NW := List.mem_append_left _ (List.mem_map.mpr ⟨("PrintRegister$Unit", 121, "PrintRegister$Printer", "skewSetting", "I"), List.mem_of_getElem? (i := 1) (by decide +kernel), rfl⟩)
theorem pr_nf2 : Cond.fieldLinkNest RX8 171 "PrintRegister$Printer" "disturbanceLeft" "I" "PrintRegister" ∈ pr_NW := List.mem_append_left _ (List.mem_map.mpr ⟨("PrintRegister", 171, "PrintRegister$Printer", "disturbanceLeft", "I"), List.mem_of_getElem? (i := 2) (by decide +kernel), rfl⟩)
theorem pr_nf3 : Cond.fieldLinkNest RX7 127 "PrintRegister$Printer" "disturbanceLeft" "I" "PrintRegister" ∈ pr_NW := List.mem_append_left _ (List.mem_map.mpr ⟨("PrintRegister$Unit", 127, "PrintRegister$Printer", "disturbanceLeft", "I"), List.mem_of_getElem? (i := 3) (by decide +kernel), rfl⟩)
theorem pr_nf4 : Cond.fieldLinkNest RX8 93 "PrintRegister$Controller" "feed" "I" "PrintRegister" ∈ pr_NW := List.mem_append_left _ (List.mem_map.mpr ⟨("PrintRegister", 93, "PrintRegister$Controller", "feed", "I"), List.mem_of_getElem? (i := 4) (by decide +kernel), rfl⟩)
theorem pr_nf5 : Cond.fieldLinkNest RX7 77 "PrintRegister$Controller" "feed" "I" "PrintRegister" ∈ pr_NW := List.mem_append_left _ (List.mem_map.mpr ⟨("PrintRegister$Unit", 77, "PrintRegister$Controller", "feed", "I"), List.mem_of_getElem? (i := 5) (by decide +kernel), rfl⟩)
theorem pr_nf6 : Cond.fieldLinkNest RX7 66 "PrintRegister$Controller" "sum" "I" "PrintRegister" ∈ pr_NW := List.mem_append_left _ (List.mem_map.mpr ⟨("PrintRegister$Unit", 66, "PrintRegister$Controller", "sum", "I"), List.mem_of_getElem? (i := 6) (by decide +kernel), rfl⟩)
theorem pr_nf7 : Cond.fieldLinkNest RX8 153 "PrintRegister$Controller" "sum" "I" "PrintRegister" ∈ pr_NW := List.mem_append_left _ (List.mem_map.mpr ⟨("PrintRegister", 153, "PrintRegister$Controller", "sum", "I"), List.mem_of_getElem? (i := 7) (by decide +kernel), rfl⟩)
theorem pr_nf8 : Cond.fieldLinkNest RX3 158 "PrintRegister$Controller" "wait" "I" "PrintRegister" ∈ pr_NW := List.mem_append_left _ (List.mem_map.mpr ⟨("PrintRegister$Press", 158, "PrintRegister$Controller", "wait", "I"), List.mem_of_getElem? (i := 8) (by decide +kernel), rfl⟩)
theorem pr_nf9 : Cond.fieldLinkNest RX8 156 "PrintRegister$Controller" "wait" "I" "PrintRegister" ∈ pr_NW := List.mem_append_left _ (List.mem_map.mpr ⟨("PrintRegister", 156, "PrintRegister$Controller", "wait", "I"), List.mem_of_getElem? (i := 9) (by decide +kernel), rfl⟩)
theorem pr_nf10 : Cond.fieldLinkNest RX7 100 "PrintRegister$Controller" "misses" "I" "PrintRegister" ∈ pr_NW := List.mem_append_left _ (List.mem_map.mpr ⟨("PrintRegister$Unit", 100, "PrintRegister$Controller", "misses", "I"), List.mem_of_getElem? (i := 10) (by decide +kernel), rfl⟩)
theorem pr_nf11 : Cond.fieldLinkNest RX8 159 "PrintRegister$Controller" "misses" "I" "PrintRegister" ∈ pr_NW := List.mem_append_left _ (List.mem_map.mpr ⟨("PrintRegister", 159, "PrintRegister$Controller", "misses", "I"), List.mem_of_getElem? (i := 11) (by decide +kernel), rfl⟩)
theorem pr_nf12 : Cond.fieldLinkNest RX7 74 "PrintRegister$Controller" "readyTime" "I" "PrintRegister" ∈ pr_NW := List.mem_append_left _ (List.mem_map.mpr ⟨("PrintRegister$Unit", 74, "PrintRegister$Controller", "readyTime", "I"), List.mem_of_getElem? (i := 12) (by decide +kernel), rfl⟩)
theorem pr_nf13 : Cond.fieldLinkNest RX8 162 "PrintRegister$Controller" "readyTime" "I" "PrintRegister" ∈ pr_NW := List.mem_append_left _ (List.mem_map.mpr ⟨("PrintRegister", 162, "PrintRegister$Controller", "readyTime", "I"), List.mem_of_getElem? (i := 13) (by decide +kernel), rfl⟩)
theorem pr_nf14 : Cond.fieldLinkNest RX7 83 "PrintRegister$Controller" "expectedError" "I" "PrintRegister" ∈ pr_NW := List.mem_append_left _ (List.mem_map.mpr ⟨("PrintRegister$Unit", 83, "PrintRegister$Controller", "expectedError", "I"), List.mem_of_getElem? (i := 14) (by decide +kernel), rfl⟩)
theorem pr_nf15 : Cond.fieldLinkNest RX8 165 "PrintRegister$Controller" "expectedError" "I" "PrintRegister" ∈ pr_NW := List.mem_append_left _ (List.mem_map.mpr ⟨("PrintRegister", 165, "PrintRegister$Controller", "expectedError", "I"), List.mem_of_getElem? (i := 15) (by decide +kernel), rfl⟩)
theorem pr_nf16 : Cond.fieldLinkNest RX7 86 "PrintRegister$Controller" "expectedSkew" "I" "PrintRegister" ∈ pr_NW := List.mem_append_left _ (List.mem_map.mpr ⟨("PrintRegister$Unit", 86, "PrintRegister$Controller", "expectedSkew", "I"), List.mem_of_getElem? (i := 16) (by decide +kernel), rfl⟩)
theorem pr_nf17 : Cond.fieldLinkNest RX8 168 "PrintRegister$Controller" "expectedSkew" "I" "PrintRegister" ∈ pr_NW := List.mem_append_left _ (List.mem_map.mpr ⟨("PrintRegister", 168, "PrintRegister$Controller", "expectedSkew", "I"), List.mem_of_getElem? (i := 17) (by decide +kernel), rfl⟩)
theorem pr_nf18 : Cond.fieldLinkNest RX3 176 "PrintRegister$Controller" "addedPhase" "I" "PrintRegister" ∈ pr_NW := List.mem_append_left _ (List.mem_map.mpr ⟨("PrintRegister$Press", 176, "PrintRegister$Controller", "addedPhase", "I"), List.mem_of_getElem? (i := 18) (by decide +kernel), rfl⟩)
theorem pr_nf19 : Cond.fieldLinkNest RX3 182 "PrintRegister$Controller" "addedSkew" "I" "PrintRegister" ∈ pr_NW := List.mem_append_left _ (List.mem_map.mpr ⟨("PrintRegister$Press", 182, "PrintRegister$Controller", "addedSkew", "I"), List.mem_of_getElem? (i := 19) (by decide +kernel), rfl⟩)
theorem pr_nf20 : Cond.fieldLinkNest RX8 180 "PrintRegister$Sensor" "log" "LPrintRegister$ErrorLog;" "PrintRegister" ∈ pr_NW := List.mem_append_left _ (List.mem_map.mpr ⟨("PrintRegister", 180, "PrintRegister$Sensor", "log", "LPrintRegister$ErrorLog;"), List.mem_of_getElem? (i := 20) (by decide +kernel), rfl⟩)
theorem pr_nf21 : Cond.fieldLinkNest RX8 114 "PrintRegister$Sensor" "hiddenLeft" "I" "PrintRegister" ∈ pr_NW := List.mem_append_left _ (List.mem_map.mpr ⟨("PrintRegister", 114, "PrintRegister$Sensor", "hiddenLeft", "I"), List.mem_of_getElem? (i := 21) (by decide +kernel), rfl⟩)
theorem pr_nf22 : Cond.fieldLinkNest RX7 133 "PrintRegister$Sensor" "hiddenLeft" "I" "PrintRegister" ∈ pr_NW := List.mem_append_left _ (List.mem_map.mpr ⟨("PrintRegister$Unit", 133, "PrintRegister$Sensor", "hiddenLeft", "I"), List.mem_of_getElem? (i := 22) (by decide +kernel), rfl⟩)
theorem pr_nf23 : Cond.fieldLinkNest RX8 122 "PrintRegister$Sensor" "falseOffset" "I" "PrintRegister" ∈ pr_NW := List.mem_append_left _ (List.mem_map.mpr ⟨("PrintRegister", 122, "PrintRegister$Sensor", "falseOffset", "I"), List.mem_of_getElem? (i := 23) (by decide +kernel), rfl⟩)
theorem pr_nf24 : Cond.fieldLinkNest RX8 119 "PrintRegister$Sensor" "falseLeft" "I" "PrintRegister" ∈ pr_NW := List.mem_append_left _ (List.mem_map.mpr ⟨("PrintRegister", 119, "PrintRegister$Sensor", "falseLeft", "I"), List.mem_of_getElem? (i := 24) (by decide +kernel), rfl⟩)
theorem pr_nf25 : Cond.fieldLinkNest RX7 136 "PrintRegister$Sensor" "falseLeft" "I" "PrintRegister" ∈ pr_NW := List.mem_append_left _ (List.mem_map.mpr ⟨("PrintRegister$Unit", 136, "PrintRegister$Sensor", "falseLeft", "I"), List.mem_of_getElem? (i := 25) (by decide +kernel), rfl⟩)
theorem pr_nf26 : Cond.fieldLinkNest RX3 81 "PrintRegister$Sensor" "sawPiece" "Z" "PrintRegister" ∈ pr_NW := List.mem_append_left _ (List.mem_map.mpr ⟨("PrintRegister$Press", 81, "PrintRegister$Sensor", "sawPiece", "Z"), List.mem_of_getElem? (i := 26) (by decide +kernel), rfl⟩)
theorem pr_nf27 : Cond.fieldLinkNest RX8 142 "PrintRegister$Sensor" "sawPiece" "Z" "PrintRegister" ∈ pr_NW := List.mem_append_left _ (List.mem_map.mpr ⟨("PrintRegister", 142, "PrintRegister$Sensor", "sawPiece", "Z"), List.mem_of_getElem? (i := 27) (by decide +kernel), rfl⟩)
theorem pr_nf28 : Cond.fieldLinkNest RX3 87 "PrintRegister$Sensor" "trueError" "I" "PrintRegister" ∈ pr_NW := List.mem_append_left _ (List.mem_map.mpr ⟨("PrintRegister$Press", 87, "PrintRegister$Sensor", "trueError", "I"), List.mem_of_getElem? (i := 28) (by decide +kernel), rfl⟩)
theorem pr_nf29 : Cond.fieldLinkNest RX7 97 "PrintRegister$Sensor" "recognized" "I" "PrintRegister" ∈ pr_NW := List.mem_append_left _ (List.mem_map.mpr ⟨("PrintRegister$Unit", 97, "PrintRegister$Sensor", "recognized", "I"), List.mem_of_getElem? (i := 29) (by decide +kernel), rfl⟩)
theorem pr_nf30 : Cond.fieldLinkNest RX3 141 "PrintRegister$Sensor" "recognized" "I" "PrintRegister" ∈ pr_NW := List.mem_append_left _ (List.mem_map.mpr ⟨("PrintRegister$Press", 141, "PrintRegister$Sensor", "recognized", "I"), List.mem_of_getElem? (i := 30) (by decide +kernel), rfl⟩)
theorem pr_nf31 : Cond.fieldLinkNest RX8 146 "PrintRegister$Sensor" "recognized" "I" "PrintRegister" ∈ pr_NW := List.mem_append_left _ (List.mem_map.mpr ⟨("PrintRegister", 146, "PrintRegister$Sensor", "recognized", "I"), List.mem_of_getElem? (i := 31) (by decide +kernel), rfl⟩)
theorem pr_nf32 : Cond.fieldLinkNest RX7 108 "PrintRegister$Sensor" "offset" "I" "PrintRegister" ∈ pr_NW := List.mem_append_left _ (List.mem_map.mpr ⟨("PrintRegister$Unit", 108, "PrintRegister$Sensor", "offset", "I"), List.mem_of_getElem? (i := 32) (by decide +kernel), rfl⟩)
theorem pr_nf33 : Cond.fieldLinkNest RX3 163 "PrintRegister$Sensor" "offset" "I" "PrintRegister" ∈ pr_NW := List.mem_append_left _ (List.mem_map.mpr ⟨("PrintRegister$Press", 163, "PrintRegister$Sensor", "offset", "I"), List.mem_of_getElem? (i := 33) (by decide +kernel), rfl⟩)
theorem pr_nf34 : Cond.fieldLinkNest RX7 115 "PrintRegister$Sensor" "skew" "I" "PrintRegister" ∈ pr_NW := List.mem_append_left _ (List.mem_map.mpr ⟨("PrintRegister$Unit", 115, "PrintRegister$Sensor", "skew", "I"), List.mem_of_getElem? (i := 34) (by decide +kernel), rfl⟩)
theorem pr_nf35 : Cond.fieldLinkNest RX3 169 "PrintRegister$Sensor" "skew" "I" "PrintRegister" ∈ pr_NW := List.mem_append_left _ (List.mem_map.mpr ⟨("PrintRegister$Press", 169, "PrintRegister$Sensor", "skew", "I"), List.mem_of_getElem? (i := 35) (by decide +kernel), rfl⟩)
theorem pr_nf36 : Cond.fieldLinkNest RX8 77 "PrintRegister$Unit" "printer" "LPrintRegister$Printer;" "PrintRegister" ∈ pr_NW := List.mem_append_left _ (List.mem_map.mpr ⟨("PrintRegister", 77, "PrintRegister$Unit", "printer", "LPrintRegister$Printer;"), List.mem_of_getElem? (i := 36) (by decide +kernel), rfl⟩)
theorem pr_nf37 : Cond.fieldLinkNest RX3 122 "PrintRegister$Unit" "printer" "LPrintRegister$Printer;" "PrintRegister" ∈ pr_NW := List.mem_append_left _ (List.mem_map.mpr ⟨("PrintRegister$Press", 122, "PrintRegister$Unit", "printer", "LPrintRegister$Printer;"), List.mem_of_getElem? (i := 37) (by decide +kernel), rfl⟩)
theorem pr_nf38 : Cond.fieldLinkNest RX8 89 "PrintRegister$Unit" "controller" "LPrintRegister$Controller;" "PrintRegister" ∈ pr_NW := List.mem_append_left _ (List.mem_map.mpr ⟨("PrintRegister", 89, "PrintRegister$Unit", "controller", "LPrintRegister$Controller;"), List.mem_of_getElem? (i := 38) (by decide +kernel), rfl⟩)
theorem pr_nf39 : Cond.fieldLinkNest RX3 154 "PrintRegister$Unit" "controller" "LPrintRegister$Controller;" "PrintRegister" ∈ pr_NW := List.mem_append_left _ (List.mem_map.mpr ⟨("PrintRegister$Press", 154, "PrintRegister$Unit", "controller", "LPrintRegister$Controller;"), List.mem_of_getElem? (i := 39) (by decide +kernel), rfl⟩)
theorem pr_nf40 : Cond.fieldLinkNest RX3 77 "PrintRegister$Unit" "sensor" "LPrintRegister$Sensor;" "PrintRegister" ∈ pr_NW := List.mem_append_left _ (List.mem_map.mpr ⟨("PrintRegister$Press", 77, "PrintRegister$Unit", "sensor", "LPrintRegister$Sensor;"), List.mem_of_getElem? (i := 40) (by decide +kernel), rfl⟩)
theorem pr_nf41 : Cond.fieldLinkNest RX8 110 "PrintRegister$Unit" "sensor" "LPrintRegister$Sensor;" "PrintRegister" ∈ pr_NW := List.mem_append_left _ (List.mem_map.mpr ⟨("PrintRegister", 110, "PrintRegister$Unit", "sensor", "LPrintRegister$Sensor;"), List.mem_of_getElem? (i := 41) (by decide +kernel), rfl⟩)
theorem pr_nf42 : Cond.fieldLinkNest RX8 199 "PrintRegister$Press" "totals" "[I" "PrintRegister" ∈ pr_NW := List.mem_append_left _ (List.mem_map.mpr ⟨("PrintRegister", 199, "PrintRegister$Press", "totals", "[I"), List.mem_of_getElem? (i := 42) (by decide +kernel), rfl⟩)
theorem pr_nf43 : Cond.fieldLinkNest RX8 240 "PrintRegister$Press" "unitCount" "I" "PrintRegister" ∈ pr_NW := List.mem_append_left _ (List.mem_map.mpr ⟨("PrintRegister", 240, "PrintRegister$Press", "unitCount", "I"), List.mem_of_getElem? (i := 43) (by decide +kernel), rfl⟩)
theorem pr_nf44 : Cond.fieldLinkNest RX8 45 "PrintRegister$Press" "time" "I" "PrintRegister" ∈ pr_NW := List.mem_append_left _ (List.mem_map.mpr ⟨("PrintRegister", 45, "PrintRegister$Press", "time", "I"), List.mem_of_getElem? (i := 44) (by decide +kernel), rfl⟩)
theorem pr_nf45 : Cond.fieldLinkNest RX8 101 "PrintRegister$Press" "speedNow" "I" "PrintRegister" ∈ pr_NW := List.mem_append_left _ (List.mem_map.mpr ⟨("PrintRegister", 101, "PrintRegister$Press", "speedNow", "I"), List.mem_of_getElem? (i := 45) (by decide +kernel), rfl⟩)
theorem pr_nf46 : Cond.fieldLinkNest RX8 260 "PrintRegister$Slot" "saved" "LPrintRegister$Press;" "PrintRegister" ∈ pr_NW := List.mem_append_left _ (List.mem_map.mpr ⟨("PrintRegister", 260, "PrintRegister$Slot", "saved", "LPrintRegister$Press;"), List.mem_of_getElem? (i := 46) (by decide +kernel), rfl⟩)
theorem pr_nf47 : Cond.fieldLinkNest RX8 263 "PrintRegister$Slot" "isUsed" "Z" "PrintRegister" ∈ pr_NW := List.mem_append_left _ (List.mem_map.mpr ⟨("PrintRegister", 263, "PrintRegister$Slot", "isUsed", "Z"), List.mem_of_getElem? (i := 47) (by decide +kernel), rfl⟩)
theorem pr_nf48 : Cond.fieldLinkNest RX8 217 "PrintRegister$Pad" "length" "I" "PrintRegister" ∈ pr_NW := List.mem_append_left _ (List.mem_map.mpr ⟨("PrintRegister", 217, "PrintRegister$Pad", "length", "I"), List.mem_of_getElem? (i := 48) (by decide +kernel), rfl⟩)
theorem pr_nf49 : Cond.fieldLinkNest RX8 230 "PrintRegister$Pad" "at" "I" "PrintRegister" ∈ pr_NW := List.mem_append_left _ (List.mem_map.mpr ⟨("PrintRegister", 230, "PrintRegister$Pad", "at", "I"), List.mem_of_getElem? (i := 49) (by decide +kernel), rfl⟩)
theorem pr_nf50 : Cond.fieldLinkNest RX8 227 "PrintRegister$Pad" "failed" "Z" "PrintRegister" ∈ pr_NW := List.mem_append_left _ (List.mem_map.mpr ⟨("PrintRegister", 227, "PrintRegister$Pad", "failed", "Z"), List.mem_of_getElem? (i := 50) (by decide +kernel), rfl⟩)
theorem pr_nf51 : Cond.fieldLinkNest RX8 266 "PrintRegister$Pad" "kind" "I" "PrintRegister" ∈ pr_NW := List.mem_append_left _ (List.mem_map.mpr ⟨("PrintRegister", 266, "PrintRegister$Pad", "kind", "I"), List.mem_of_getElem? (i := 51) (by decide +kernel), rfl⟩)
theorem pr_nf52 : Cond.fieldLinkNest RX8 272 "PrintRegister$Pad" "unit" "I" "PrintRegister" ∈ pr_NW := List.mem_append_left _ (List.mem_map.mpr ⟨("PrintRegister", 272, "PrintRegister$Pad", "unit", "I"), List.mem_of_getElem? (i := 52) (by decide +kernel), rfl⟩)
theorem pr_nf53 : Cond.fieldLinkNest RX8 269 "PrintRegister$Pad" "number" "I" "PrintRegister" ∈ pr_NW := List.mem_append_left _ (List.mem_map.mpr ⟨("PrintRegister", 269, "PrintRegister$Pad", "number", "I"), List.mem_of_getElem? (i := 53) (by decide +kernel), rfl⟩)
theorem pr_nf54 : Cond.fieldLinkNest RX8 275 "PrintRegister$Pad" "duration" "I" "PrintRegister" ∈ pr_NW := List.mem_append_left _ (List.mem_map.mpr ⟨("PrintRegister", 275, "PrintRegister$Pad", "duration", "I"), List.mem_of_getElem? (i := 54) (by decide +kernel), rfl⟩)
theorem pr_nf55 : Cond.fieldLinkNest RX8 234 "PrintRegister$Pad" "repeats" "I" "PrintRegister" ∈ pr_NW := List.mem_append_left _ (List.mem_map.mpr ⟨("PrintRegister", 234, "PrintRegister$Pad", "repeats", "I"), List.mem_of_getElem? (i := 55) (by decide +kernel), rfl⟩)
theorem pr_nf56 : Cond.fieldLinkNest RX8 237 "PrintRegister$Pad" "greatestUnit" "I" "PrintRegister" ∈ pr_NW := List.mem_append_left _ (List.mem_map.mpr ⟨("PrintRegister", 237, "PrintRegister$Pad", "greatestUnit", "I"), List.mem_of_getElem? (i := 56) (by decide +kernel), rfl⟩)
theorem pr_nf57 : Cond.fieldLinkNest RX7 36 "PrintRegister" "FIRST_SETTINGS" "[I" "PrintRegister" ∈ pr_NW := List.mem_append_left _ (List.mem_map.mpr ⟨("PrintRegister$Unit", 36, "PrintRegister", "FIRST_SETTINGS", "[I"), List.mem_of_getElem? (i := 57) (by decide +kernel), rfl⟩)
theorem pr_nm0 : Cond.methodLinkNest RX3 24 ⟨"PrintRegister$Unit", "<init>", "()V"⟩ "PrintRegister" ∈ pr_NW := List.mem_append_right _ (List.mem_map.mpr ⟨("PrintRegister$Press", 24, ⟨"PrintRegister$Unit", "<init>", "()V"⟩), List.mem_of_getElem? (i := 0) (by decide +kernel), rfl⟩)
theorem pr_nm1 : Cond.methodLinkNest RX7 17 ⟨"PrintRegister$Printer", "<init>", "()V"⟩ "PrintRegister" ∈ pr_NW := List.mem_append_right _ (List.mem_map.mpr ⟨("PrintRegister$Unit", 17, ⟨"PrintRegister$Printer", "<init>", "()V"⟩), List.mem_of_getElem? (i := 1) (by decide +kernel), rfl⟩)
theorem pr_nm2 : Cond.methodLinkNest RX7 24 ⟨"PrintRegister$Controller", "<init>", "()V"⟩ "PrintRegister" ∈ pr_NW := List.mem_append_right _ (List.mem_map.mpr ⟨("PrintRegister$Unit", 24, ⟨"PrintRegister$Controller", "<init>", "()V"⟩), List.mem_of_getElem? (i := 2) (by decide +kernel), rfl⟩)
theorem pr_nm3 : Cond.methodLinkNest RX7 31 ⟨"PrintRegister$Sensor", "<init>", "()V"⟩ "PrintRegister" ∈ pr_NW := List.mem_append_right _ (List.mem_map.mpr ⟨("PrintRegister$Unit", 31, ⟨"PrintRegister$Sensor", "<init>", "()V"⟩), List.mem_of_getElem? (i := 3) (by decide +kernel), rfl⟩)
theorem pr_nm4 : Cond.methodLinkNest RX5 11 ⟨"PrintRegister$ErrorLog", "<init>", "()V"⟩ "PrintRegister" ∈ pr_NW := List.mem_append_right _ (List.mem_map.mpr ⟨("PrintRegister$Sensor", 11, ⟨"PrintRegister$ErrorLog", "<init>", "()V"⟩), List.mem_of_getElem? (i := 4) (by decide +kernel), rfl⟩)
theorem pr_nm5 : Cond.methodLinkNest RX8 21 ⟨"PrintRegister$Slot", "<init>", "()V"⟩ "PrintRegister" ∈ pr_NW := List.mem_append_right _ (List.mem_map.mpr ⟨("PrintRegister", 21, ⟨"PrintRegister$Slot", "<init>", "()V"⟩), List.mem_of_getElem? (i := 5) (by decide +kernel), rfl⟩)
theorem pr_nm6 : Cond.methodLinkNest RX8 31 ⟨"PrintRegister$Pad", "<init>", "()V"⟩ "PrintRegister" ∈ pr_NW := List.mem_append_right _ (List.mem_map.mpr ⟨("PrintRegister", 31, ⟨"PrintRegister$Pad", "<init>", "()V"⟩), List.mem_of_getElem? (i := 6) (by decide +kernel), rfl⟩)
theorem pr_nm7 : Cond.methodLinkNest RX7 111 ⟨"PrintRegister", "limited", "(II)I"⟩ "PrintRegister" ∈ pr_NW := List.mem_append_right _ (List.mem_map.mpr ⟨("PrintRegister$Unit", 111, ⟨"PrintRegister", "limited", "(II)I"⟩), List.mem_of_getElem? (i := 7) (by decide +kernel), rfl⟩)
theorem pr_nm8 : Cond.methodLinkNest RX0 37 ⟨"PrintRegister", "lessOne", "(I)I"⟩ "PrintRegister" ∈ pr_NW := List.mem_append_right _ (List.mem_map.mpr ⟨("PrintRegister$Controller", 37, ⟨"PrintRegister", "lessOne", "(I)I"⟩), List.mem_of_getElem? (i := 8) (by decide +kernel), rfl⟩)
theorem pr_nm9 : Cond.methodLinkNest RX7 130 ⟨"PrintRegister", "lessOne", "(I)I"⟩ "PrintRegister" ∈ pr_NW := List.mem_append_right _ (List.mem_map.mpr ⟨("PrintRegister$Unit", 130, ⟨"PrintRegister", "lessOne", "(I)I"⟩), List.mem_of_getElem? (i := 9) (by decide +kernel), rfl⟩)
end
section
/-! ===== one flat memory for a fixed set of cells: places, pictures, judgement ===== -/
abbrev pr_M : Type := Nat → Nat → Int32
/-- one number of one cell -/
def pr_up (f : pr_M) (c j : Nat) (v : Int32) : pr_M := fun a b => if a = c ∧ b = j then v else f a b
/-- a whole row of one cell -/
def pr_rw (f : pr_M) (c : Nat) (g : Nat → Int32) : pr_M := fun a b => if a = c then g b else f a b
theorem pr_up_ne {f : pr_M} {c j a : Nat} {v : Int32} (h : a ≠ c) : pr_up f c j v a = f a := by
  funext b; simp [pr_up, h]
theorem pr_rw_ne {f : pr_M} {c a : Nat} {g : Nat → Int32} (h : a ≠ c) : pr_rw f c g a = f a := by
  funext b; simp [pr_rw, h]
theorem pr_rw_eq {f : pr_M} {c : Nat} {g : Nat → Int32} : pr_rw f c g c = g := by
  funext b; simp [pr_rw]
theorem pr_up_eq {f : pr_M} {c j : Nat} {v : Int32} : pr_up f c j v c = upd (f c) j v := by
  funext b; by_cases h : b = j <;> simp [pr_up, upd, h]
abbrev pr_CL : List vw_C := [(RX0, TX0, 9), (RX1, TX1, 2), (RX2, TX2, 10), (RX3, TX3, 10), (RX4, TX4, 8), (RX5, TX5, 10), (RX6, TX6, 2), (RX7, TX7, 4), (RX8, TX8, 5), (RX9, TX9, 10)]
/-- what a class's slots hold: 0 a number, d a reference to the cell d places on -/
def pr_sh : Nat → List Nat
  | 0 => [0, 0, 0, 0, 0, 0, 0, 0, 0]
  | 1 => [1, 0]
  | 2 => [1, 0, 0, 0, 0, 0, 0, 0, 0, 0]
  | 3 => [1, 2, 3, 0, 0, 0, 0, 0, 0, 0]
  | 4 => [1, 2, 0, 0, 0, 0, 0, 0]
  | 5 => [1, 0, 0, 0, 0, 0, 0, 0, 0, 0]
  | 6 => [1, 0]
  | 7 => [1, 2, 5, 6]
  | 8 => [1, 50, 99, 149, 199]
  | 9 => [1, 2, 3, 4, 5, 0, 0, 0, 6, 0]
  | _ => []
def pr_fv (ad : Nat → Nat) (f : pr_M) (c j d : Nat) : Value := if d = 0 then .int (f c j) else .ref (ad (c + d))
def pr_fs (ad : Nat → Nat) (f : pr_M) (c : Nat) : Nat → List Nat → List Value
  | _, [] => []
  | j, d :: ds => pr_fv ad f c j d :: pr_fs ad f c (j + 1) ds
theorem pr_fs_len (ad : Nat → Nat) (f : pr_M) (c : Nat) : ∀ (ds : List Nat) (j : Nat), (pr_fs ad f c j ds).length = ds.length
  | [], _ => rfl
  | _ :: ds, j => by simp [pr_fs, pr_fs_len ad f c ds (j + 1)]
theorem pr_fs_get (ad : Nat → Nat) (f : pr_M) (c : Nat) : ∀ (ds : List Nat) (j k d : Nat), ds[k]? = some d → (pr_fs ad f c j ds)[k]? = some (pr_fv ad f c (j + k) d)
  | [], _, _, _, h => by simp at h
  | d0 :: ds, j, 0, d, h => by
    simp at h
    subst h
    simp [pr_fs]
  | d0 :: ds, j, k + 1, d, h => by
    have h1 := pr_fs_get ad f c ds (j + 1) k d (by simpa using h)
    simp only [pr_fs, List.getElem?_cons_succ, h1]
    rw [show j + 1 + k = j + (k + 1) by omega]
theorem pr_fs_same (ad : Nat → Nat) (f g : pr_M) (c : Nat) : ∀ (ds : List Nat) (j : Nat), (∀ k, j ≤ k → g c k = f c k) → pr_fs ad g c j ds = pr_fs ad f c j ds
  | [], _, _ => rfl
  | d :: ds, j, h => by
    have h1 := pr_fs_same ad f g c ds (j + 1) (fun k hk => h k (by omega))
    simp only [pr_fs, pr_fv, h j (Nat.le_refl j), h1]
theorem pr_fs_set (ad : Nat → Nat) (f : pr_M) (c : Nat) (v : Int32) : ∀ (ds : List Nat) (j k : Nat), ds[k]? = some 0 → (pr_fs ad f c j ds).set k (.int v) = pr_fs ad (pr_up f c (j + k) v) c j ds
  | [], _, _, h => by simp at h
  | d0 :: ds, j, 0, h => by
    simp at h
    subst h
    have h1 := pr_fs_same ad f (pr_up f c (j + 0) v) c ds (j + 1) (fun k hk => by simp [pr_up]; omega)
    simp only [pr_fs, List.set_cons_zero, h1]
    simp [pr_fv, pr_up]
  | d0 :: ds, j, k + 1, h => by
    have h1 := pr_fs_set ad f c v ds (j + 1) k (by simpa using h)
    rw [show j + 1 + k = j + (k + 1) by omega] at h1
    simp only [pr_fs, List.set_cons_succ, h1]
    congr 1
    have hne : ¬ j = j + (k + 1) := by omega
    simp only [pr_fv, pr_up, hne, and_false, if_false]
/-- the classes of the three kinds of arrays -/
abbrev pr_T : Type := ClassId × ClassId × ClassId
def pr_ce (T : pr_T) (ad : Nat → Nat) (f : pr_M) (k : Nat × Nat) (c : Nat) : va_E :=
  if k.1 < 10 then .inr (k.1, pr_fs ad f c 0 (pr_sh k.1))
  else if k.1 = 10 then .inl (T.1, k.2, .inl (f c))
  else if k.1 = 11 then .inl (T.2.1, k.2, .inl (f c))
  else .inl (T.2.2, k.2, .inr (.inr (.inr (.inr (fun i => some (ad (c + 3 + 9 * i)))))))
theorem pr_ce_same (T : pr_T) (ad : Nat → Nat) {f g : pr_M} (k : Nat × Nat) {c : Nat} (h : g c = f c) : pr_ce T ad g k c = pr_ce T ad f k c := by
  have h1 := pr_fs_same ad f g c (pr_sh k.1) 0 (fun k _ => by rw [h])
  simp only [pr_ce, h, h1]
def pr_me (T : pr_T) (L : List (Nat × Nat)) (ad : Nat → Nat) (f : pr_M) : va_W := (List.range L.length).map (fun c => (ad c, pr_ce T ad f (L.getD c (0, 0)) c))
theorem pr_me_at {T : pr_T} {L : List (Nat × Nat)} {ad : Nat → Nat} {f : pr_M} {R : va_W} {c : Nat} {k : Nat × Nat} (h : L[c]? = some k) : (pr_me T L ad f ++ R)[c]? = some (ad c, pr_ce T ad f k c) := by
  have hl : c < L.length := (List.getElem?_eq_some_iff.mp h).1
  rw [List.getElem?_append_left (by simpa [pr_me] using hl)]
  simp [pr_me, List.getElem?_range hl, List.getD_eq_getElem?_getD, h]
theorem pr_me_set {T : pr_T} {L : List (Nat × Nat)} {ad : Nat → Nat} {f g : pr_M} {R : va_W} {c : Nat} {k : Nat × Nat} (h : L[c]? = some k) (hg : ∀ a, a ≠ c → g a = f a) : (pr_me T L ad f ++ R).set c (ad c, pr_ce T ad g k c) = pr_me T L ad g ++ R := by
  have hl : c < L.length := (List.getElem?_eq_some_iff.mp h).1
  have hlen : c < (pr_me T L ad f ++ R).length := by simp [pr_me]; omega
  apply List.ext_getElem?
  intro i
  by_cases hi : i = c
  · subst hi
    rw [List.getElem?_set_self hlen, pr_me_at h]
  · rw [List.getElem?_set_ne (Ne.symm hi)]
    by_cases hil : i < L.length
    · rw [List.getElem?_append_left (by simpa [pr_me] using hil), List.getElem?_append_left (by simpa [pr_me] using hil)]
      simp [pr_me, List.getElem?_range hil, pr_ce_same T ad _ (hg i hi)]
    · rw [List.getElem?_append_right (by simp [pr_me]; omega), List.getElem?_append_right (by simp [pr_me]; omega)]
      simp [pr_me]
/-- what stays through a walk: launch, classes, layout, addresses, the other cells, the border of the old heap -/
abbrev pr_E : Type := Launch × va_G × pr_T × List (Nat × Nat) × (Nat → Nat) × va_W × Nat
abbrev pr_l (E : pr_E) : Launch := E.1
abbrev pr_D (E : pr_E) : va_G := E.2.1
abbrev pr_t (E : pr_E) : pr_T := E.2.2.1
abbrev pr_L (E : pr_E) : List (Nat × Nat) := E.2.2.2.1
abbrev pr_ad (E : pr_E) : Nat → Nat := E.2.2.2.2.1
abbrev pr_R (E : pr_E) : va_W := E.2.2.2.2.2.1
abbrev pr_B (E : pr_E) : Nat := E.2.2.2.2.2.2
abbrev pr_A (E : pr_E) : Nat → Prop := fun q => pr_B E ≤ q
abbrev pr_m (E : pr_E) (f : pr_M) : va_W := pr_me (pr_t E) (pr_L E) (pr_ad E) f ++ pr_R E
/-- the frame that is walked -/
abbrev pr_Y : Type := Program × Env × State × MethodId × Array Value × List Frame × Method × Code × Nat × Nat × (State → Prop)
abbrev pr_yp (Y : pr_Y) : Program := Y.1
abbrev pr_ye (Y : pr_Y) : Env := Y.2.1
abbrev pr_ys (Y : pr_Y) : State := Y.2.2.1
abbrev pr_ym (Y : pr_Y) : MethodId := Y.2.2.2.1
abbrev pr_ya (Y : pr_Y) : Array Value := Y.2.2.2.2.1
abbrev pr_yb (Y : pr_Y) : List Frame := Y.2.2.2.2.2.1
abbrev pr_yh (Y : pr_Y) : Method := Y.2.2.2.2.2.2.1
abbrev pr_yc (Y : pr_Y) : Code := Y.2.2.2.2.2.2.2.1
abbrev pr_yk (Y : pr_Y) : Nat := Y.2.2.2.2.2.2.2.2.1
abbrev pr_yn (Y : pr_Y) : Nat := Y.2.2.2.2.2.2.2.2.2.1
abbrev pr_yQ (Y : pr_Y) : State → Prop := Y.2.2.2.2.2.2.2.2.2.2
abbrev pr_ty (T : pr_T) : List (ClassId × FieldType) := [(T.1, .int), (T.2.1, .boolean), (T.2.2, .object "PrintRegister$Unit")]
/-- the tables of the class that nobody writes -/
def pr_ST : List (String × Nat × List Int32) := [("LEAST_SETTINGS", 11, [1, 1, 5, 1, 0, 0, 0, 1, 0, 0, -500]), ("GREATEST_SETTINGS", 11, [20, 10, 2000, 20, 256, 256, 500, 2000, 256, 30, 500]), ("FIRST_SETTINGS", 11, [5, 3, 200, 4, 128, 16, 5, 300, 64, 8, 0]), ("MOST_BY_HAND", 3, [5000, 3000, 2000])]
def pr_S (A : Nat → Prop) (U : State) (H : Heap) : Prop := ∀ q ∈ pr_ST, ∃ t : Nat, va_Z "PrintRegister" q.1 "[I" (.ref t) A U H ∧ va_T .int t q.2.1 (fun j => .int (q.2.2.getD j 0)) A U H
theorem pr_S.moved {A : Nat → Prop} {u U : State} {H : Heap} (hvm : u.vm.Alike U.vm) (h : pr_S A u H) : pr_S A U H := fun q hq => by
  obtain ⟨t, h1, h2⟩ := h q hq
  exact ⟨t, h1.moved hvm, h2.moved hvm⟩
theorem pr_S.kept {A : Nat → Prop} {U : State} {H H1 : Heap} (h : pr_S A U H) (hq : ∀ a : Nat, a < H.size → ¬ A a → H1[a]? = H[a]?) : pr_S A U H1 := fun q hm => by
  obtain ⟨t, h1, h2⟩ := h q hm
  exact ⟨t, h1.kept hq, h2.kept hq⟩
def pr_N (U : State) : Prop := ∀ w ∈ pr_NW, va_Nw w U
theorem pr_N.warm {s U : State} (hW : s.WarmedH U.vm) (h : pr_N s) : pr_N U := by
  intro w hw
  have h1 := h w hw
  rcases List.mem_append.mp hw with a | a
  · obtain ⟨q, -, rfl⟩ := List.mem_map.mp a
    exact va_Nw.warmF hW h1
  · obtain ⟨q, -, rfl⟩ := List.mem_map.mp a
    exact va_Nw.warmM hW h1
theorem pr_N.same {s U : State} (hvm : s.vm = U.vm) (h : pr_N s) : pr_N U := by
  intro w hw
  have h1 := h w hw
  rcases List.mem_append.mp hw with a | a
  · obtain ⟨q, -, rfl⟩ := List.mem_map.mp a
    exact va_Nw.same rfl hvm h1
  · obtain ⟨q, -, rfl⟩ := List.mem_map.mp a
    exact va_Nw.same rfl hvm h1
theorem pr_AL_good : pr_AL.all goodWord = true := by decide +kernel
theorem pr_goodIn {c0 w : Cond} (h : w ∈ pr_AL) : GoodIn (c0 :: pr_AL) (w :: pr_AL) := fun x hx => by
  have hm : x ∈ pr_AL := by
    rcases List.mem_cons.mp hx with e | e
    · rw [e]; exact h
    · exact e
  exact ⟨List.mem_cons_of_mem _ hm, good_of_word (List.all_eq_true.mp pr_AL_good x hm)⟩
/-- what holds of a frame throughout -/
def pr_C (E : pr_E) (Y : pr_Y) (Rm : Room) (cc : ByteArray) (own : String) (nL : Nat) (c0 : Cond) : Prop :=
  (pr_yp Y).tables.exec = Jvm.exec ∧ (pr_yc Y).code = cc ∧ (pr_yc Y).maxLocals = nL ∧ (pr_ys Y).vm.findClass own = some (pr_ym Y).cls ∧ (∀ w ∈ c0 :: pr_AL, w.before (pr_ya Y) (pr_ys Y) = true) ∧
  (pr_yh Y).locks = false ∧ va_K (pr_D E) pr_CL (pr_ty (pr_t E)) (pr_ys Y) ∧ (∀ f, va_D (pr_A E) (pr_m E f)) ∧ pr_S (pr_A E) (pr_ys Y) (pr_ys Y).heap ∧ pr_N (pr_ys Y) ∧ pr_B E ≤ (pr_ys Y).heap.size ∧ pr_yk Y ≤ Rm.cells ∧ pr_yn Y ≤ Rm.slots
def pr_W (E : pr_E) (Y : pr_Y) (Rm : Room) (nL : Nat) (f : pr_M) (pc : Nat) (lv : List (Nat × Value)) (st : List Value) : Prop :=
  ∀ (H : Heap) (locs : List Loc) (ls : Array Slot), va_P (pr_D E) pr_CL (pr_m E f) H → va_S (pr_A E) (pr_ys Y).heap H locs → lv_has ls nL lv →
    W (pr_yp Y) (pr_l E) (pr_ye Y) Rm (pr_ys Y) (pr_ym Y) (pr_ya Y) (pr_yb Y) (pr_yh Y) (pr_yc Y) H locs (pr_yk Y) (pr_yn Y) (pr_yQ Y) (F0 (pr_ym Y) pc ls st)
def pr_Po (E : pr_E) (r : Option Value) (f : pr_M) : Array Value → State → Outcome → State → Prop := fun _ st o t => o = .returned r ∧ va_P (pr_D E) pr_CL (pr_m E f) t.heap ∧ va_F (pr_A E) st t
def pr_Pr (E : pr_E) (av : List Value) (f : pr_M) : Array Value → State → Prop := va_Pc av (fun U => pr_B E ≤ U.heap.size ∧ va_P (pr_D E) pr_CL (pr_m E f) U.heap ∧ va_K (pr_D E) pr_CL (pr_ty (pr_t E)) U ∧ pr_S (pr_A E) U U.heap ∧ pr_N U)
/-- a method's contract: from memory f it returns r and leaves memory g -/
def pr_Met (E : pr_E) (y : MethodName) (cc : ByteArray) (nL : Nat) (ret : Option FieldType) (rm : Room) (av : List Value) (f : pr_M) (r : Option Value) (g : pr_M) : Prop :=
  (∀ f, va_D (pr_A E) (pr_m E f)) → Met (pr_l E) y (.code y cc nL ret :: pr_AL) rm (pr_Pr E av f) (pr_Po E r g) 0 0 (pr_A E)
def pr_Z (E : pr_E) (Y : pr_Y) (ret : Option FieldType) (r : Option Value) (f : pr_M) : Prop :=
  (pr_yh Y).sig.returnType = ret ∧ pr_yQ Y = MQ (pr_yb Y) (pr_Po E r f) (pr_ya Y) (pr_ys Y) (pr_yk Y) (pr_yn Y) (pr_A E)
/-- a method's walk, from its entry -/
theorem pr_enter {E : pr_E} {y : MethodName} {cc : ByteArray} {nL : Nat} {ret : Option FieldType} {rm : Room} {av : List Value} {f : pr_M} {r : Option Value} {g : pr_M}
    (hy : plainName y.cls = true) (hn : (lg_sl av).length ≤ nL)
    (body : ∀ Y : pr_Y, pr_C E Y rm cc y.cls nL (.code y cc nL ret) → pr_Z E Y ret r g → pr_W E Y rm nL f 0 (lv_args 0 av) []) : pr_Met E y cc nL ret rm av f r g := by
  intro hD
  refine Met.ofW (cc := cc) (maxL := nL) (ret := ret) hy rfl ?_
  intro p e s m args below meth c s₁ B hml hv
  obtain ⟨rfl, hB, hP, hK, hSt, hN⟩ := hv
  have hl := lv_entry av hn
  rw [lg_entry_eq]
  exact body (p, e, s, m, av.toArray, below, meth, c, 0, 0, MQ below (pr_Po E r g) av.toArray s 0 0 (pr_A E))
    ⟨B.exec, B.bytes, hml, findClass_of_methodNamed B.named, atoms_spec (ws := .code y cc nL ret :: pr_AL) B.pre, B.notSynchronized, hK, hD, hSt, hN, hB, Nat.zero_le _, Nat.zero_le _⟩
    ⟨B.returns, rfl⟩ s.heap [] _ hP va_S.rf hl
end
section
/-! ===== a row an instruction, over the flat memory ===== -/
section RW
variable {E : pr_E} {Y : pr_Y} {Rm : Room} {cc : ByteArray} {own : String} {nL : Nat} {c0 : Cond} {f : pr_M} {pc : Nat} {lv lv' : List (Nat × Value)} {st : List Value}
theorem pr_hts (C : pr_C E Y Rm cc own nL c0) {w : Cond} (h : w ∈ pr_AL) : w.before (pr_ya Y) (pr_ys Y) = true := C.2.2.2.2.1 w (List.mem_cons_of_mem _ h)
theorem pr_nts (C : pr_C E Y Rm cc own nL c0) {w : Cond} (h : w ∈ pr_NW) : va_Nw w (pr_ys Y) := C.2.2.2.2.2.2.2.2.2.1 w h
theorem pr_K (C : pr_C E Y Rm cc own nL c0) : va_K (pr_D E) pr_CL (pr_ty (pr_t E)) (pr_ys Y) := C.2.2.2.2.2.2.1
theorem pr_Ds (C : pr_C E Y Rm cc own nL c0) (f : pr_M) : va_D (pr_A E) (pr_m E f) := C.2.2.2.2.2.2.2.1 f
theorem pr_eq {f g : pr_M} (h : g = f) (k : pr_W E Y Rm nL g pc lv st) : pr_W E Y Rm nL f pc lv st := h ▸ k
theorem pr_eqs {st' : List Value} (h : st' = st) (k : pr_W E Y Rm nL f pc lv st') : pr_W E Y Rm nL f pc lv st := h ▸ k
theorem pr_pick (ks : List Nat) (h : lv_pick lv ks = lv') (k : pr_W E Y Rm nL f pc lv' st) : pr_W E Y Rm nL f pc lv st := fun H locs ls hP hS hl => k H locs ls hP hS (lv_sub hl ks h)

theorem pr_iconst (C : pr_C E Y Rm cc own nL c0) {n : Int} {v : Int32} (hd : decode cc pc = .ok (.iconst n, 1)) (hv : Int32.ofInt n = v) (k : pr_W E Y Rm nL f (pc + 1) lv (.int v :: st)) : pr_W E Y Rm nL f pc lv st := fun H locs ls hP hS hl => lv_iconst C.1 C.2.1 hd hv (k H locs ls hP hS hl)
theorem pr_bipush (C : pr_C E Y Rm cc own nL c0) {n : Int} {v : Int32} (hd : decode cc pc = .ok (.bipush n, 2)) (hv : (Int8.ofInt n).toInt32 = v) (k : pr_W E Y Rm nL f (pc + 2) lv (.int v :: st)) : pr_W E Y Rm nL f pc lv st := fun H locs ls hP hS hl => lv_bipush C.1 C.2.1 hd hv (k H locs ls hP hS hl)
theorem pr_sipush (C : pr_C E Y Rm cc own nL c0) {n : Int} {v : Int32} (hd : decode cc pc = .ok (.sipush n, 3)) (hv : (Int16.ofInt n).toInt32 = v) (k : pr_W E Y Rm nL f (pc + 3) lv (.int v :: st)) : pr_W E Y Rm nL f pc lv st := fun H locs ls hP hS hl => lv_sipush C.1 C.2.1 hd hv (k H locs ls hP hS hl)
theorem pr_lconst (C : pr_C E Y Rm cc own nL c0) {n : Fin 2} {v : Int64} (hd : decode cc pc = .ok (.lconst n, 1)) (hv : Int64.ofNat (n : Nat) = v) (k : pr_W E Y Rm nL f (pc + 1) lv (.long v :: st)) : pr_W E Y Rm nL f pc lv st := fun H locs ls hP hS hl => lv_lconst C.1 C.2.1 hd hv (k H locs ls hP hS hl)
theorem pr_ldc (C : pr_C E Y Rm cc own nL c0) {n : Nat} {v : Int32} (hd : decode cc pc = .ok (.ldc n, 2)) (hw : Cond.constant own n v ∈ pr_AL) (k : pr_W E Y Rm nL f (pc + 2) lv (.int v :: st)) : pr_W E Y Rm nL f pc lv st := fun H locs ls hP hS hl => lv_ldc C.1 C.2.1 C.2.2.2.1 (pr_hts C hw) hd (k H locs ls hP hS hl)
theorem pr_ldc2 (C : pr_C E Y Rm cc own nL c0) {n : Nat} {v : Int64} (hd : decode cc pc = .ok (.ldc2_w n, 3)) (hw : Cond.constantLong own n v ∈ pr_AL) (k : pr_W E Y Rm nL f (pc + 3) lv (.long v :: st)) : pr_W E Y Rm nL f pc lv st := fun H locs ls hP hS hl => lv_ldc2 C.1 C.2.1 C.2.2.2.1 (pr_hts C hw) hd (k H locs ls hP hS hl)
theorem pr_null (C : pr_C E Y Rm cc own nL c0) (hd : decode cc pc = .ok (.aconst_null, 1)) (k : pr_W E Y Rm nL f (pc + 1) lv (.null :: st)) : pr_W E Y Rm nL f pc lv st := fun H locs ls hP hS hl => lv_null C.1 C.2.1 hd (k H locs ls hP hS hl)
theorem pr_iload_n (C : pr_C E Y Rm cc own nL c0) {j : Fin 4} {i : Nat} {x : Int32} (hd : decode cc pc = .ok (.iload_n j, 1)) (hi : (j : Nat) = i) (q : Nat) (hl : lv[q]? = some (i, .int x)) (k : pr_W E Y Rm nL f (pc + 1) lv (.int x :: st)) : pr_W E Y Rm nL f pc lv st := fun H locs ls hP hS h => lv_iload_n C.1 C.2.1 hd hi (lv_at h q hl) (k H locs ls hP hS h)
theorem pr_iload (C : pr_C E Y Rm cc own nL c0) {i : Nat} {x : Int32} (hd : decode cc pc = .ok (.iload i, 2)) (q : Nat) (hl : lv[q]? = some (i, .int x)) (k : pr_W E Y Rm nL f (pc + 2) lv (.int x :: st)) : pr_W E Y Rm nL f pc lv st := fun H locs ls hP hS h => lv_iload C.1 C.2.1 hd (lv_at h q hl) (k H locs ls hP hS h)
theorem pr_istore_n (C : pr_C E Y Rm cc own nL c0) {j : Fin 4} {i : Nat} {x : Int32} (hd : decode cc pc = .ok (.istore_n j, 1)) (hi : (j : Nat) = i) (hn : i < nL) (hl : (i, Value.int x) :: lv.filter (fun q => !(q.1 == i) && !(q.1 + 1 == i && q.2.category == 2)) = lv') (k : pr_W E Y Rm nL f (pc + 1) lv' st) : pr_W E Y Rm nL f pc lv (.int x :: st) := fun H locs ls hP hS h => lv_istore_n C.1 C.2.1 hd hi h hn hl (fun ls h => k H locs ls hP hS h)
theorem pr_istore (C : pr_C E Y Rm cc own nL c0) {i : Nat} {x : Int32} (hd : decode cc pc = .ok (.istore i, 2)) (hn : i < nL) (hl : (i, Value.int x) :: lv.filter (fun q => !(q.1 == i) && !(q.1 + 1 == i && q.2.category == 2)) = lv') (k : pr_W E Y Rm nL f (pc + 2) lv' st) : pr_W E Y Rm nL f pc lv (.int x :: st) := fun H locs ls hP hS h => lv_istore C.1 C.2.1 hd h hn hl (fun ls h => k H locs ls hP hS h)
theorem pr_lload_n (C : pr_C E Y Rm cc own nL c0) {j : Fin 4} {i : Nat} {x : Int64} (hd : decode cc pc = .ok (.lload_n j, 1)) (hi : (j : Nat) = i) (q : Nat) (hl : lv[q]? = some (i, .long x)) (k : pr_W E Y Rm nL f (pc + 1) lv (.long x :: st)) : pr_W E Y Rm nL f pc lv st := fun H locs ls hP hS h => lv_lload_n C.1 C.2.1 hd hi (lv_at h q hl) (k H locs ls hP hS h)
theorem pr_lload (C : pr_C E Y Rm cc own nL c0) {i : Nat} {x : Int64} (hd : decode cc pc = .ok (.lload i, 2)) (q : Nat) (hl : lv[q]? = some (i, .long x)) (k : pr_W E Y Rm nL f (pc + 2) lv (.long x :: st)) : pr_W E Y Rm nL f pc lv st := fun H locs ls hP hS h => lv_lload C.1 C.2.1 hd (lv_at h q hl) (k H locs ls hP hS h)
theorem pr_lstore_n (C : pr_C E Y Rm cc own nL c0) {j : Fin 4} {i : Nat} {x : Int64} (hd : decode cc pc = .ok (.lstore_n j, 1)) (hi : (j : Nat) = i) (hn : i + 1 < nL) (hl : (i, Value.long x) :: lv.filter (fun q => !(q.1 == i) && (!(q.1 == i + 1) && !(q.1 + 1 == i && q.2.category == 2))) = lv') (k : pr_W E Y Rm nL f (pc + 1) lv' st) : pr_W E Y Rm nL f pc lv (.long x :: st) := fun H locs ls hP hS h => lv_lstore_n C.1 C.2.1 hd hi h hn hl (fun ls h => k H locs ls hP hS h)
theorem pr_lstore (C : pr_C E Y Rm cc own nL c0) {i : Nat} {x : Int64} (hd : decode cc pc = .ok (.lstore i, 2)) (hn : i + 1 < nL) (hl : (i, Value.long x) :: lv.filter (fun q => !(q.1 == i) && (!(q.1 == i + 1) && !(q.1 + 1 == i && q.2.category == 2))) = lv') (k : pr_W E Y Rm nL f (pc + 2) lv' st) : pr_W E Y Rm nL f pc lv (.long x :: st) := fun H locs ls hP hS h => lv_lstore C.1 C.2.1 hd h hn hl (fun ls h => k H locs ls hP hS h)
theorem pr_aload_n (C : pr_C E Y Rm cc own nL c0) {j : Fin 4} {i : Nat} {x : Nat} (hd : decode cc pc = .ok (.aload_n j, 1)) (hi : (j : Nat) = i) (q : Nat) (hl : lv[q]? = some (i, .ref x)) (k : pr_W E Y Rm nL f (pc + 1) lv (.ref x :: st)) : pr_W E Y Rm nL f pc lv st := fun H locs ls hP hS h => lv_aload_n C.1 C.2.1 hd hi (lv_at h q hl) (k H locs ls hP hS h)
theorem pr_aload (C : pr_C E Y Rm cc own nL c0) {i : Nat} {x : Nat} (hd : decode cc pc = .ok (.aload i, 2)) (q : Nat) (hl : lv[q]? = some (i, .ref x)) (k : pr_W E Y Rm nL f (pc + 2) lv (.ref x :: st)) : pr_W E Y Rm nL f pc lv st := fun H locs ls hP hS h => lv_aload C.1 C.2.1 hd (lv_at h q hl) (k H locs ls hP hS h)
theorem pr_astore_n (C : pr_C E Y Rm cc own nL c0) {j : Fin 4} {i : Nat} {x : Nat} (hd : decode cc pc = .ok (.astore_n j, 1)) (hi : (j : Nat) = i) (hn : i < nL) (hl : (i, Value.ref x) :: lv.filter (fun q => !(q.1 == i) && !(q.1 + 1 == i && q.2.category == 2)) = lv') (k : pr_W E Y Rm nL f (pc + 1) lv' st) : pr_W E Y Rm nL f pc lv (.ref x :: st) := fun H locs ls hP hS h => lv_astore_n C.1 C.2.1 hd hi h hn hl (fun ls h => k H locs ls hP hS h)
theorem pr_astore (C : pr_C E Y Rm cc own nL c0) {i : Nat} {x : Nat} (hd : decode cc pc = .ok (.astore i, 2)) (hn : i < nL) (hl : (i, Value.ref x) :: lv.filter (fun q => !(q.1 == i) && !(q.1 + 1 == i && q.2.category == 2)) = lv') (k : pr_W E Y Rm nL f (pc + 2) lv' st) : pr_W E Y Rm nL f pc lv (.ref x :: st) := fun H locs ls hP hS h => lv_astore C.1 C.2.1 hd h hn hl (fun ls h => k H locs ls hP hS h)
theorem pr_astore_nN (C : pr_C E Y Rm cc own nL c0) {j : Fin 4} {i : Nat} (hd : decode cc pc = .ok (.astore_n j, 1)) (hi : (j : Nat) = i) (hn : i < nL) (hl : (i, Value.null) :: lv.filter (fun q => !(q.1 == i) && !(q.1 + 1 == i && q.2.category == 2)) = lv') (k : pr_W E Y Rm nL f (pc + 1) lv' st) : pr_W E Y Rm nL f pc lv (.null :: st) := fun H locs ls hP hS h => lv_astore_nN C.1 C.2.1 hd hi h hn hl (fun ls h => k H locs ls hP hS h)
theorem pr_astoreN (C : pr_C E Y Rm cc own nL c0) {i : Nat} (hd : decode cc pc = .ok (.astore i, 2)) (hn : i < nL) (hl : (i, Value.null) :: lv.filter (fun q => !(q.1 == i) && !(q.1 + 1 == i && q.2.category == 2)) = lv') (k : pr_W E Y Rm nL f (pc + 2) lv' st) : pr_W E Y Rm nL f pc lv (.null :: st) := fun H locs ls hP hS h => lv_astoreN C.1 C.2.1 hd h hn hl (fun ls h => k H locs ls hP hS h)
theorem pr_aload_nN (C : pr_C E Y Rm cc own nL c0) {j : Fin 4} {i : Nat} (hd : decode cc pc = .ok (.aload_n j, 1)) (hi : (j : Nat) = i) (q : Nat) (hl : lv[q]? = some (i, .null)) (k : pr_W E Y Rm nL f (pc + 1) lv (.null :: st)) : pr_W E Y Rm nL f pc lv st := fun H locs ls hP hS h => lv_aload_nN C.1 C.2.1 hd hi (lv_at h q hl) (k H locs ls hP hS h)
theorem pr_aloadN (C : pr_C E Y Rm cc own nL c0) {i : Nat} (hd : decode cc pc = .ok (.aload i, 2)) (q : Nat) (hl : lv[q]? = some (i, .null)) (k : pr_W E Y Rm nL f (pc + 2) lv (.null :: st)) : pr_W E Y Rm nL f pc lv st := fun H locs ls hP hS h => lv_aloadN C.1 C.2.1 hd (lv_at h q hl) (k H locs ls hP hS h)
theorem pr_iinc (C : pr_C E Y Rm cc own nL c0) {i : Nat} {n : Int} {x v : Int32} (hd : decode cc pc = .ok (.iinc i n, 3)) (q : Nat) (hq : lv[q]? = some (i, .int x)) (hv : x + Int32.ofInt n = v) (hn : i < nL) (hl : (i, Value.int v) :: lv.filter (fun q => !(q.1 == i) && !(q.1 + 1 == i && q.2.category == 2)) = lv') (k : pr_W E Y Rm nL f (pc + 3) lv' st) : pr_W E Y Rm nL f pc lv st := fun H locs ls hP hS h => lv_iinc C.1 C.2.1 hd h hq hv hn hl (fun ls h => k H locs ls hP hS h)
theorem pr_iadd (C : pr_C E Y Rm cc own nL c0) {x y : Int32} (hd : decode cc pc = .ok (.iadd, 1)) (k : pr_W E Y Rm nL f (pc + 1) lv (.int (x + y) :: st)) : pr_W E Y Rm nL f pc lv (.int y :: .int x :: st) := fun H locs ls hP hS hl => lv_iadd C.1 C.2.1 hd (k H locs ls hP hS hl)
theorem pr_isub (C : pr_C E Y Rm cc own nL c0) {x y : Int32} (hd : decode cc pc = .ok (.isub, 1)) (k : pr_W E Y Rm nL f (pc + 1) lv (.int (x - y) :: st)) : pr_W E Y Rm nL f pc lv (.int y :: .int x :: st) := fun H locs ls hP hS hl => lv_isub C.1 C.2.1 hd (k H locs ls hP hS hl)
theorem pr_imul (C : pr_C E Y Rm cc own nL c0) {x y : Int32} (hd : decode cc pc = .ok (.imul, 1)) (k : pr_W E Y Rm nL f (pc + 1) lv (.int (x * y) :: st)) : pr_W E Y Rm nL f pc lv (.int y :: .int x :: st) := fun H locs ls hP hS hl => lv_imul C.1 C.2.1 hd (k H locs ls hP hS hl)
theorem pr_iand (C : pr_C E Y Rm cc own nL c0) {x y : Int32} (hd : decode cc pc = .ok (.iand, 1)) (k : pr_W E Y Rm nL f (pc + 1) lv (.int (x &&& y) :: st)) : pr_W E Y Rm nL f pc lv (.int y :: .int x :: st) := fun H locs ls hP hS hl => lv_iand C.1 C.2.1 hd (k H locs ls hP hS hl)
theorem pr_ishl (C : pr_C E Y Rm cc own nL c0) {x y : Int32} (hd : decode cc pc = .ok (.ishl, 1)) (k : pr_W E Y Rm nL f (pc + 1) lv (.int (x <<< (y &&& 31)) :: st)) : pr_W E Y Rm nL f pc lv (.int y :: .int x :: st) := fun H locs ls hP hS hl => lv_ishl C.1 C.2.1 hd (k H locs ls hP hS hl)
theorem pr_ishr (C : pr_C E Y Rm cc own nL c0) {x y : Int32} (hd : decode cc pc = .ok (.ishr, 1)) (k : pr_W E Y Rm nL f (pc + 1) lv (.int (x >>> (y &&& 31)) :: st)) : pr_W E Y Rm nL f pc lv (.int y :: .int x :: st) := fun H locs ls hP hS hl => lv_ishr C.1 C.2.1 hd (k H locs ls hP hS hl)
theorem pr_idiv (C : pr_C E Y Rm cc own nL c0) {x y : Int32} (hd : decode cc pc = .ok (.idiv, 1)) (hne : ¬ y = 0) (k : pr_W E Y Rm nL f (pc + 1) lv (.int (x / y) :: st)) : pr_W E Y Rm nL f pc lv (.int y :: .int x :: st) := fun H locs ls hP hS hl => lv_idiv C.1 C.2.1 hd hne (k H locs ls hP hS hl)
theorem pr_irem (C : pr_C E Y Rm cc own nL c0) {x y : Int32} (hd : decode cc pc = .ok (.irem, 1)) (hne : ¬ y = 0) (k : pr_W E Y Rm nL f (pc + 1) lv (.int (x - x / y * y) :: st)) : pr_W E Y Rm nL f pc lv (.int y :: .int x :: st) := fun H locs ls hP hS hl => lv_irem C.1 C.2.1 hd hne (k H locs ls hP hS hl)
theorem pr_ineg (C : pr_C E Y Rm cc own nL c0) {x : Int32} (hd : decode cc pc = .ok (.ineg, 1)) (k : pr_W E Y Rm nL f (pc + 1) lv (.int (-x) :: st)) : pr_W E Y Rm nL f pc lv (.int x :: st) := fun H locs ls hP hS hl => lv_ineg C.1 C.2.1 hd (k H locs ls hP hS hl)
theorem pr_land (C : pr_C E Y Rm cc own nL c0) {x y : Int64} (hd : decode cc pc = .ok (.land, 1)) (k : pr_W E Y Rm nL f (pc + 1) lv (.long (x &&& y) :: st)) : pr_W E Y Rm nL f pc lv (.long y :: .long x :: st) := fun H locs ls hP hS hl => lv_land C.1 C.2.1 hd (k H locs ls hP hS hl)
theorem pr_lor (C : pr_C E Y Rm cc own nL c0) {x y : Int64} (hd : decode cc pc = .ok (.lor, 1)) (k : pr_W E Y Rm nL f (pc + 1) lv (.long (x ||| y) :: st)) : pr_W E Y Rm nL f pc lv (.long y :: .long x :: st) := fun H locs ls hP hS hl => lv_lor C.1 C.2.1 hd (k H locs ls hP hS hl)
theorem pr_lushr (C : pr_C E Y Rm cc own nL c0) {x : Int64} {y : Int32} (hd : decode cc pc = .ok (.lushr, 1)) (k : pr_W E Y Rm nL f (pc + 1) lv (.long ((x.toUInt64 >>> (y.toInt64.toUInt64 &&& Int64.toUInt64 63)).toInt64) :: st)) : pr_W E Y Rm nL f pc lv (.int y :: .long x :: st) := fun H locs ls hP hS hl => lv_lushr C.1 C.2.1 hd rfl (k H locs ls hP hS hl)
theorem pr_lshl (C : pr_C E Y Rm cc own nL c0) {x : Int64} {y : Int32} (hd : decode cc pc = .ok (.lshl, 1)) (k : pr_W E Y Rm nL f (pc + 1) lv (.long (x <<< (y.toInt64 &&& 63)) :: st)) : pr_W E Y Rm nL f pc lv (.int y :: .long x :: st) := fun H locs ls hP hS hl => lv_lshl C.1 C.2.1 hd rfl (k H locs ls hP hS hl)
theorem pr_lshr (C : pr_C E Y Rm cc own nL c0) {x : Int64} {y : Int32} (hd : decode cc pc = .ok (.lshr, 1)) (k : pr_W E Y Rm nL f (pc + 1) lv (.long (x >>> (y.toInt64 &&& 63)) :: st)) : pr_W E Y Rm nL f pc lv (.int y :: .long x :: st) := fun H locs ls hP hS hl => lv_lshr C.1 C.2.1 hd rfl (k H locs ls hP hS hl)
theorem pr_i2l (C : pr_C E Y Rm cc own nL c0) {x : Int32} (hd : decode cc pc = .ok (.i2l, 1)) (k : pr_W E Y Rm nL f (pc + 1) lv (.long x.toInt64 :: st)) : pr_W E Y Rm nL f pc lv (.int x :: st) := fun H locs ls hP hS hl => lv_i2l C.1 C.2.1 hd rfl (k H locs ls hP hS hl)
theorem pr_l2i (C : pr_C E Y Rm cc own nL c0) {x : Int64} (hd : decode cc pc = .ok (.l2i, 1)) (k : pr_W E Y Rm nL f (pc + 1) lv (.int x.toInt32 :: st)) : pr_W E Y Rm nL f pc lv (.long x :: st) := fun H locs ls hP hS hl => lv_l2i C.1 C.2.1 hd rfl (k H locs ls hP hS hl)
theorem pr_dup (C : pr_C E Y Rm cc own nL c0) {v : Value} (hd : decode cc pc = .ok (.dup, 1)) (hv : v.category = 1) (k : pr_W E Y Rm nL f (pc + 1) lv (v :: v :: st)) : pr_W E Y Rm nL f pc lv (v :: st) := fun H locs ls hP hS hl => lv_dup C.1 C.2.1 hd hv (k H locs ls hP hS hl)
theorem pr_dup2 (C : pr_C E Y Rm cc own nL c0) {v w : Value} (hd : decode cc pc = .ok (.dup2, 1)) (hv : v.category = 1) (hw : w.category = 1) (k : pr_W E Y Rm nL f (pc + 1) lv (v :: w :: v :: w :: st)) : pr_W E Y Rm nL f pc lv (v :: w :: st) := fun H locs ls hP hS hl => lv_dup2_11 C.1 C.2.1 hd hv hw (k H locs ls hP hS hl)
theorem pr_pop (C : pr_C E Y Rm cc own nL c0) {v : Value} (hd : decode cc pc = .ok (.pop, 1)) (hv : v.category = 1) (k : pr_W E Y Rm nL f (pc + 1) lv st) : pr_W E Y Rm nL f pc lv (v :: st) := fun H locs ls hP hS hl => lv_pop C.1 C.2.1 hd hv (k H locs ls hP hS hl)
theorem pr_goto (C : pr_C E Y Rm cc own nL c0) {off : Int} {tgt : Nat} (hd : decode cc pc = .ok (.goto off, 3)) (ht : (pc : Int) + off = (tgt : Int)) (k : pr_W E Y Rm nL f tgt lv st) : pr_W E Y Rm nL f pc lv st := fun H locs ls hP hS hl => lv_goto C.1 C.2.1 hd ht (k H locs ls hP hS hl)
theorem pr_if_eq (C : pr_C E Y Rm cc own nL c0) {x : Int32} {off : Int} {tgt : Nat} (hd : decode cc pc = .ok (.ifCond .eq off, 3)) (ht : (pc : Int) + off = (tgt : Int)) (kt : x = 0 → pr_W E Y Rm nL f tgt lv st) (kf : ¬ x = 0 → pr_W E Y Rm nL f (pc + 3) lv st) : pr_W E Y Rm nL f pc lv (.int x :: st) := fun H locs ls hP hS hl => lv_if_eq C.1 C.2.1 hd ht (fun c => kt c H locs ls hP hS hl) (fun c => kf c H locs ls hP hS hl)
theorem pr_if_ne (C : pr_C E Y Rm cc own nL c0) {x : Int32} {off : Int} {tgt : Nat} (hd : decode cc pc = .ok (.ifCond .ne off, 3)) (ht : (pc : Int) + off = (tgt : Int)) (kt : ¬ x = 0 → pr_W E Y Rm nL f tgt lv st) (kf : x = 0 → pr_W E Y Rm nL f (pc + 3) lv st) : pr_W E Y Rm nL f pc lv (.int x :: st) := fun H locs ls hP hS hl => lv_if_ne C.1 C.2.1 hd ht (fun c => kt c H locs ls hP hS hl) (fun c => kf c H locs ls hP hS hl)
theorem pr_if_lt (C : pr_C E Y Rm cc own nL c0) {x : Int32} {off : Int} {tgt : Nat} (hd : decode cc pc = .ok (.ifCond .lt off, 3)) (ht : (pc : Int) + off = (tgt : Int)) (kt : x < 0 → pr_W E Y Rm nL f tgt lv st) (kf : ¬ x < 0 → pr_W E Y Rm nL f (pc + 3) lv st) : pr_W E Y Rm nL f pc lv (.int x :: st) := fun H locs ls hP hS hl => lv_if_lt C.1 C.2.1 hd ht (fun c => kt c H locs ls hP hS hl) (fun c => kf c H locs ls hP hS hl)
theorem pr_if_ge (C : pr_C E Y Rm cc own nL c0) {x : Int32} {off : Int} {tgt : Nat} (hd : decode cc pc = .ok (.ifCond .ge off, 3)) (ht : (pc : Int) + off = (tgt : Int)) (kt : 0 ≤ x → pr_W E Y Rm nL f tgt lv st) (kf : ¬ 0 ≤ x → pr_W E Y Rm nL f (pc + 3) lv st) : pr_W E Y Rm nL f pc lv (.int x :: st) := fun H locs ls hP hS hl => lv_if_ge C.1 C.2.1 hd ht (fun c => kt c H locs ls hP hS hl) (fun c => kf c H locs ls hP hS hl)
theorem pr_if_gt (C : pr_C E Y Rm cc own nL c0) {x : Int32} {off : Int} {tgt : Nat} (hd : decode cc pc = .ok (.ifCond .gt off, 3)) (ht : (pc : Int) + off = (tgt : Int)) (kt : 0 < x → pr_W E Y Rm nL f tgt lv st) (kf : ¬ 0 < x → pr_W E Y Rm nL f (pc + 3) lv st) : pr_W E Y Rm nL f pc lv (.int x :: st) := fun H locs ls hP hS hl => lv_if_gt C.1 C.2.1 hd ht (fun c => kt c H locs ls hP hS hl) (fun c => kf c H locs ls hP hS hl)
theorem pr_if_le (C : pr_C E Y Rm cc own nL c0) {x : Int32} {off : Int} {tgt : Nat} (hd : decode cc pc = .ok (.ifCond .le off, 3)) (ht : (pc : Int) + off = (tgt : Int)) (kt : x ≤ 0 → pr_W E Y Rm nL f tgt lv st) (kf : ¬ x ≤ 0 → pr_W E Y Rm nL f (pc + 3) lv st) : pr_W E Y Rm nL f pc lv (.int x :: st) := fun H locs ls hP hS hl => lv_if_le C.1 C.2.1 hd ht (fun c => kt c H locs ls hP hS hl) (fun c => kf c H locs ls hP hS hl)
theorem pr_icmp_eq (C : pr_C E Y Rm cc own nL c0) {x y : Int32} {off : Int} {tgt : Nat} (hd : decode cc pc = .ok (.if_icmp .eq off, 3)) (ht : (pc : Int) + off = (tgt : Int)) (kt : x = y → pr_W E Y Rm nL f tgt lv st) (kf : ¬ x = y → pr_W E Y Rm nL f (pc + 3) lv st) : pr_W E Y Rm nL f pc lv (.int y :: .int x :: st) := fun H locs ls hP hS hl => lv_icmp_eq C.1 C.2.1 hd ht (fun c => kt c H locs ls hP hS hl) (fun c => kf c H locs ls hP hS hl)
theorem pr_icmp_ne (C : pr_C E Y Rm cc own nL c0) {x y : Int32} {off : Int} {tgt : Nat} (hd : decode cc pc = .ok (.if_icmp .ne off, 3)) (ht : (pc : Int) + off = (tgt : Int)) (kt : ¬ x = y → pr_W E Y Rm nL f tgt lv st) (kf : x = y → pr_W E Y Rm nL f (pc + 3) lv st) : pr_W E Y Rm nL f pc lv (.int y :: .int x :: st) := fun H locs ls hP hS hl => lv_icmp_ne C.1 C.2.1 hd ht (fun c => kt c H locs ls hP hS hl) (fun c => kf c H locs ls hP hS hl)
theorem pr_icmp_lt (C : pr_C E Y Rm cc own nL c0) {x y : Int32} {off : Int} {tgt : Nat} (hd : decode cc pc = .ok (.if_icmp .lt off, 3)) (ht : (pc : Int) + off = (tgt : Int)) (kt : x < y → pr_W E Y Rm nL f tgt lv st) (kf : ¬ x < y → pr_W E Y Rm nL f (pc + 3) lv st) : pr_W E Y Rm nL f pc lv (.int y :: .int x :: st) := fun H locs ls hP hS hl => lv_icmp_lt C.1 C.2.1 hd ht (fun c => kt c H locs ls hP hS hl) (fun c => kf c H locs ls hP hS hl)
theorem pr_icmp_ge (C : pr_C E Y Rm cc own nL c0) {x y : Int32} {off : Int} {tgt : Nat} (hd : decode cc pc = .ok (.if_icmp .ge off, 3)) (ht : (pc : Int) + off = (tgt : Int)) (kt : y ≤ x → pr_W E Y Rm nL f tgt lv st) (kf : ¬ y ≤ x → pr_W E Y Rm nL f (pc + 3) lv st) : pr_W E Y Rm nL f pc lv (.int y :: .int x :: st) := fun H locs ls hP hS hl => lv_icmp_ge C.1 C.2.1 hd ht (fun c => kt c H locs ls hP hS hl) (fun c => kf c H locs ls hP hS hl)
theorem pr_icmp_gt (C : pr_C E Y Rm cc own nL c0) {x y : Int32} {off : Int} {tgt : Nat} (hd : decode cc pc = .ok (.if_icmp .gt off, 3)) (ht : (pc : Int) + off = (tgt : Int)) (kt : y < x → pr_W E Y Rm nL f tgt lv st) (kf : ¬ y < x → pr_W E Y Rm nL f (pc + 3) lv st) : pr_W E Y Rm nL f pc lv (.int y :: .int x :: st) := fun H locs ls hP hS hl => lv_icmp_gt C.1 C.2.1 hd ht (fun c => kt c H locs ls hP hS hl) (fun c => kf c H locs ls hP hS hl)
theorem pr_icmp_le (C : pr_C E Y Rm cc own nL c0) {x y : Int32} {off : Int} {tgt : Nat} (hd : decode cc pc = .ok (.if_icmp .le off, 3)) (ht : (pc : Int) + off = (tgt : Int)) (kt : x ≤ y → pr_W E Y Rm nL f tgt lv st) (kf : ¬ x ≤ y → pr_W E Y Rm nL f (pc + 3) lv st) : pr_W E Y Rm nL f pc lv (.int y :: .int x :: st) := fun H locs ls hP hS hl => lv_icmp_le C.1 C.2.1 hd ht (fun c => kt c H locs ls hP hS hl) (fun c => kf c H locs ls hP hS hl)
theorem pr_ifnonnull (C : pr_C E Y Rm cc own nL c0) {x : Nat} {off : Int} {tgt : Nat} (hd : decode cc pc = .ok (.ifnonnull off, 3)) (ht : (pc : Int) + off = (tgt : Int)) (k : pr_W E Y Rm nL f tgt lv st) : pr_W E Y Rm nL f pc lv (.ref x :: st) := fun H locs ls hP hS hl => lv_ifnonnull C.1 C.2.1 hd ht (k H locs ls hP hS hl)
theorem pr_ifnull (C : pr_C E Y Rm cc own nL c0) {x : Nat} {off : Int} (hd : decode cc pc = .ok (.ifnull off, 3)) (k : pr_W E Y Rm nL f (pc + 3) lv st) : pr_W E Y Rm nL f pc lv (.ref x :: st) := fun H locs ls hP hS hl => lv_ifnull C.1 C.2.1 hd (k H locs ls hP hS hl)
theorem pr_ifnullN (C : pr_C E Y Rm cc own nL c0) {off : Int} {tgt : Nat} (hd : decode cc pc = .ok (.ifnull off, 3)) (ht : (pc : Int) + off = (tgt : Int)) (k : pr_W E Y Rm nL f tgt lv st) : pr_W E Y Rm nL f pc lv (.null :: st) := fun H locs ls hP hS hl => lv_ifnullN C.1 C.2.1 hd ht (k H locs ls hP hS hl)
theorem pr_ifnonnullN (C : pr_C E Y Rm cc own nL c0) {off : Int} (hd : decode cc pc = .ok (.ifnonnull off, 3)) (k : pr_W E Y Rm nL f (pc + 3) lv st) : pr_W E Y Rm nL f pc lv (.null :: st) := fun H locs ls hP hS hl => lv_ifnonnullN C.1 C.2.1 hd (k H locs ls hP hS hl)
theorem pr_lcmp (C : pr_C E Y Rm cc own nL c0) {x y : Int64} (hd : decode cc pc = .ok (.lcmp, 1)) (k : ∀ r : Int32, (r = 0 ↔ x = y) → pr_W E Y Rm nL f (pc + 1) lv (.int r :: st)) : pr_W E Y Rm nL f pc lv (.long y :: .long x :: st) := sorry
theorem pr_tableIn (C : pr_C E Y Rm cc own nL c0) {dflt lo hi : Int} {offs : Array Int} {len : Nat} {x v : Int32} {off : Int} {tgt : Nat} (hd : decode cc pc = .ok (.tableswitch dflt lo hi offs, len)) (hx : x = v) (h1 : ¬ v.toInt < lo) (h2 : ¬ hi < v.toInt) (ho : offs[(v.toInt - lo).toNat]? = some off) (ht : (pc : Int) + off = (tgt : Int)) (k : pr_W E Y Rm nL f tgt lv st) : pr_W E Y Rm nL f pc lv (.int x :: st) := by
  subst hx
  exact fun H locs ls hP hS hl => lv_tableIn C.1 C.2.1 hd h1 h2 ho ht (k H locs ls hP hS hl)
theorem pr_tableOut (C : pr_C E Y Rm cc own nL c0) {dflt lo hi : Int} {offs : Array Int} {len : Nat} {x : Int32} {tgt : Nat} (hd : decode cc pc = .ok (.tableswitch dflt lo hi offs, len)) (h : x.toInt < lo ∨ hi < x.toInt) (ht : (pc : Int) + dflt = (tgt : Int)) (k : pr_W E Y Rm nL f tgt lv st) : pr_W E Y Rm nL f pc lv (.int x :: st) := fun H locs ls hP hS hl => lv_tableOut C.1 C.2.1 hd h ht (k H locs ls hP hS hl)
theorem pr_lookup (C : pr_C E Y Rm cc own nL c0) {dflt : Int} {ps : Array (Int × Int)} {len : Nat} {x v : Int32} {off : Int} {tgt : Nat} (hd : decode cc pc = .ok (.lookupswitch dflt ps, len)) (hx : x = v) (hp : (ps.toList.zip (ps.toList.drop 1)).all (fun (a, next) => a.1 < next.1) = true) (ho : Op.lookupswitch.offset ps.toList dflt v.toInt = off) (ht : (pc : Int) + off = (tgt : Int)) (k : pr_W E Y Rm nL f tgt lv st) : pr_W E Y Rm nL f pc lv (.int x :: st) := by
  subst hx
  exact fun H locs ls hP hS hl => lv_lookup C.1 C.2.1 hd hp ho ht (k H locs ls hP hS hl)
theorem pr_getf (C : pr_C E Y Rm cc own nL c0) {ci N c z : Nat} {Cn : String} {T : u_T} (hk : (pr_L E)[c]? = some (ci, z)) (hci : ci < 10) (hcl : pr_CL[ci]? = some (Cn, T, N)) (hin : ∀ w ∈ u_ws Cn T N, w ∈ pr_AL) (j : Nat) (hj : j < N) {idx d : Nat} (hw : Cond.fieldLink own idx (T j).1 (T j).2.1 (T j).2.2.1 ∈ pr_AL) (hd : (pr_sh ci)[j]? = some d) (hdg : decode cc pc = .ok (.getfield idx, 3)) (k : pr_W E Y Rm nL f (pc + 3) lv (pr_fv (pr_ad E) f c j d :: st)) : pr_W E Y Rm nL f pc lv (.ref (pr_ad E c) :: st) := fun H locs ls hP hS hl =>
  va_get (D := pr_D E) (ci := ci) (fs := pr_fs (pr_ad E) f c 0 (pr_sh ci)) C.1 C.2.1 (Ts := c0 :: pr_AL) C.2.2.2.2.1 (fun w h => List.mem_cons_of_mem _ (hin w h)) C.2.2.2.1 (pr_K C) hP c (by rw [pr_me_at hk]; simp [pr_ce, hci]) hcl j hj (pr_hts C hw) (fun _ h => h) (by rw [pr_fs_get _ _ _ _ _ _ _ hd, Nat.zero_add]) hdg (k H locs ls hP hS hl)
theorem pr_getN (C : pr_C E Y Rm cc own nL c0) {ci N c z : Nat} {Cn : String} {T : u_T} (hk : (pr_L E)[c]? = some (ci, z)) (hci : ci < 10) (hcl : pr_CL[ci]? = some (Cn, T, N)) (hin : ∀ w ∈ u_ws Cn T N, w ∈ pr_AL) (j : Nat) (hj : j < N) {idx d : Nat} (hw : Cond.fieldLinkNest own idx (T j).1 (T j).2.1 (T j).2.2.1 "PrintRegister" ∈ pr_NW) (hd : (pr_sh ci)[j]? = some d) (hdg : decode cc pc = .ok (.getfield idx, 3)) (k : pr_W E Y Rm nL f (pc + 3) lv (pr_fv (pr_ad E) f c j d :: st)) : pr_W E Y Rm nL f pc lv (.ref (pr_ad E c) :: st) := fun H locs ls hP hS hl =>
  va_getN (D := pr_D E) (ci := ci) (fs := pr_fs (pr_ad E) f c 0 (pr_sh ci)) C.1 C.2.1 (Ts := c0 :: pr_AL) C.2.2.2.2.1 (fun w h => List.mem_cons_of_mem _ (hin w h)) C.2.2.2.1 (pr_K C) hP c (by rw [pr_me_at hk]; simp [pr_ce, hci]) hcl j hj (va_Nw.use rfl (pr_nts C hw)) (fun _ h => h) (by rw [pr_fs_get _ _ _ _ _ _ _ hd, Nat.zero_add]) hdg (k H locs ls hP hS hl)
theorem pr_set_o {ci c z j : Nat} {v : Int32} (hk : (pr_L E)[c]? = some (ci, z)) (hci : ci < 10) (hd : (pr_sh ci)[j]? = some 0) : (pr_m E f).set c (pr_ad E c, .inr (ci, (pr_fs (pr_ad E) f c 0 (pr_sh ci)).set j (.int v))) = pr_m E (pr_up f c j v) := by
  rw [pr_fs_set _ _ _ _ _ _ _ hd, Nat.zero_add]
  have h := pr_me_set (T := pr_t E) (ad := pr_ad E) (R := pr_R E) (f := f) (g := pr_up f c j v) hk (fun a h => pr_up_ne h)
  simp only [pr_ce, hci, if_true] at h
  exact h
theorem pr_putf (C : pr_C E Y Rm cc own nL c0) {ci N c z : Nat} {Cn : String} {T : u_T} (hk : (pr_L E)[c]? = some (ci, z)) (hci : ci < 10) (hcl : pr_CL[ci]? = some (Cn, T, N)) (hin : ∀ w ∈ u_ws Cn T N, w ∈ pr_AL) (ty0 : Nat → FieldType) (hty : ∀ k, k < N → parseFieldDescriptor (T k).2.2.1 = some (ty0 k)) (hnm : ∀ a, a < N → ∀ b, b < N → a ≠ b → (T a).2.1 ≠ (T b).2.1) (j : Nat) (hj : j < N) {idx : Nat} (hw : Cond.fieldLink own idx (T j).1 (T j).2.1 (T j).2.2.1 ∈ pr_AL) (hd : (pr_sh ci)[j]? = some 0) (hfin : (T j).2.2.2 = false) {v : Int32} (hn : narrow (ty0 j) (.int v) = .int v) (hfit : fits (ty0 j) (.int v) = true) (hdg : decode cc pc = .ok (.putfield idx, 3)) (k : ∀ g, g = pr_up f c j v → pr_W E Y Rm nL g (pc + 3) lv st) : pr_W E Y Rm nL f pc lv (.int v :: .ref (pr_ad E c) :: st) := fun H locs ls hP hS hl =>
  va_put (D := pr_D E) (ci := ci) (fs := pr_fs (pr_ad E) f c 0 (pr_sh ci)) C.1 C.2.1 (Ts := c0 :: pr_AL) C.2.2.2.2.1 (fun w h => List.mem_cons_of_mem _ (hin w h)) ty0 hty hnm C.2.2.2.1 (pr_K C) hP (pr_Ds C f) hS c (by rw [pr_me_at hk]; simp [pr_ce, hci]) hcl j hj (pr_hts C hw) (fun _ h => h) hfin (hty j hj) hn hfit (by rw [pr_fs_len]; exact (List.getElem?_eq_some_iff.mp hd).1) hdg (fun H1 locs1 hP1 _ hS1 => k _ rfl H1 locs1 ls (by rw [← pr_set_o hk hci hd]; exact hP1) hS1 hl)
theorem pr_putN (C : pr_C E Y Rm cc own nL c0) {ci N c z : Nat} {Cn : String} {T : u_T} (hk : (pr_L E)[c]? = some (ci, z)) (hci : ci < 10) (hcl : pr_CL[ci]? = some (Cn, T, N)) (hin : ∀ w ∈ u_ws Cn T N, w ∈ pr_AL) (ty0 : Nat → FieldType) (hty : ∀ k, k < N → parseFieldDescriptor (T k).2.2.1 = some (ty0 k)) (hnm : ∀ a, a < N → ∀ b, b < N → a ≠ b → (T a).2.1 ≠ (T b).2.1) (j : Nat) (hj : j < N) {idx : Nat} (hw : Cond.fieldLinkNest own idx (T j).1 (T j).2.1 (T j).2.2.1 "PrintRegister" ∈ pr_NW) (hd : (pr_sh ci)[j]? = some 0) (hfin : (T j).2.2.2 = false) {v : Int32} (hn : narrow (ty0 j) (.int v) = .int v) (hfit : fits (ty0 j) (.int v) = true) (hdg : decode cc pc = .ok (.putfield idx, 3)) (k : ∀ g, g = pr_up f c j v → pr_W E Y Rm nL g (pc + 3) lv st) : pr_W E Y Rm nL f pc lv (.int v :: .ref (pr_ad E c) :: st) := fun H locs ls hP hS hl =>
  va_putN (D := pr_D E) (ci := ci) (fs := pr_fs (pr_ad E) f c 0 (pr_sh ci)) C.1 C.2.1 (Ts := c0 :: pr_AL) C.2.2.2.2.1 (fun w h => List.mem_cons_of_mem _ (hin w h)) ty0 hty hnm C.2.2.2.1 (pr_K C) hP (pr_Ds C f) hS c (by rw [pr_me_at hk]; simp [pr_ce, hci]) hcl j hj (va_Nw.use rfl (pr_nts C hw)) (fun _ h => h) hfin (hty j hj) hn hfit (by rw [pr_fs_len]; exact (List.getElem?_eq_some_iff.mp hd).1) hdg (fun H1 locs1 hP1 _ hS1 => k _ rfl H1 locs1 ls (by rw [← pr_set_o hk hci hd]; exact hP1) hS1 hl)
theorem pr_at_i {c z : Nat} (hk : (pr_L E)[c]? = some (10, z)) : (pr_m E f)[c]? = some (pr_ad E c, .inl ((pr_t E).1, z, .inl (f c))) := by rw [pr_me_at hk]; simp [pr_ce]
theorem pr_at_z {c z : Nat} (hk : (pr_L E)[c]? = some (11, z)) : (pr_m E f)[c]? = some (pr_ad E c, .inl ((pr_t E).2.1, z, .inl (f c))) := by rw [pr_me_at hk]; simp [pr_ce]
theorem pr_at_u {c z : Nat} (hk : (pr_L E)[c]? = some (12, z)) : (pr_m E f)[c]? = some (pr_ad E c, .inl ((pr_t E).2.2, z, .inr (.inr (.inr (.inr (fun i => some (pr_ad E (c + 3 + 9 * i)))))))) := by rw [pr_me_at hk]; simp [pr_ce]
theorem pr_set_i {c z j : Nat} {v : Int32} (hk : (pr_L E)[c]? = some (10, z)) : (pr_m E f).set c (pr_ad E c, .inl ((pr_t E).1, z, .inl (upd (f c) j v))) = pr_m E (pr_up f c j v) := by
  have h := pr_me_set (T := pr_t E) (ad := pr_ad E) (R := pr_R E) (f := f) (g := pr_up f c j v) hk (fun a h => pr_up_ne h)
  simp only [pr_ce, pr_up_eq] at h
  exact h
theorem pr_set_z {c z j : Nat} {v : Int32} (hk : (pr_L E)[c]? = some (11, z)) : (pr_m E f).set c (pr_ad E c, .inl ((pr_t E).2.1, z, .inl (upd (f c) j v))) = pr_m E (pr_up f c j v) := by
  have h := pr_me_set (T := pr_t E) (ad := pr_ad E) (R := pr_R E) (f := f) (g := pr_up f c j v) hk (fun a h => pr_up_ne h)
  simp only [pr_ce, pr_up_eq] at h
  exact h
theorem pr_set_r {c z : Nat} {g : Nat → Int32} (hk : (pr_L E)[c]? = some (10, z)) : (pr_m E f).set c (pr_ad E c, .inl ((pr_t E).1, z, .inl g)) = pr_m E (pr_rw f c g) := by
  have h := pr_me_set (T := pr_t E) (ad := pr_ad E) (R := pr_R E) (f := f) (g := pr_rw f c g) hk (fun a h => pr_rw_ne h)
  simp only [pr_ce, pr_rw_eq] at h
  exact h
theorem pr_iaload (C : pr_C E Y Rm cc own nL c0) {c z : Nat} {i : Int32} (hk : (pr_L E)[c]? = some (10, z)) (hin : vp_in i z) (hdg : decode cc pc = .ok (.iaload, 1)) (k : pr_W E Y Rm nL f (pc + 1) lv (.int (f c i.toNatClampNeg) :: st)) : pr_W E Y Rm nL f pc lv (.int i :: .ref (pr_ad E c) :: st) := fun H locs ls hP hS hl =>
  va_iald C.1 C.2.1 (pr_K C) hP c 0 (pr_at_i hk) rfl hin hdg (k H locs ls hP hS hl)
theorem pr_iastore (C : pr_C E Y Rm cc own nL c0) {c z : Nat} {i v : Int32} (hk : (pr_L E)[c]? = some (10, z)) (hin : vp_in i z) (hdg : decode cc pc = .ok (.iastore, 1)) (k : ∀ g, g = pr_up f c i.toNatClampNeg v → pr_W E Y Rm nL g (pc + 1) lv st) : pr_W E Y Rm nL f pc lv (.int v :: .int i :: .ref (pr_ad E c) :: st) := fun H locs ls hP hS hl =>
  va_iast C.1 C.2.1 (pr_K C) hP (pr_Ds C f) hS c 0 (pr_at_i hk) rfl hin hdg (fun H1 locs1 hP1 _ hS1 => k _ rfl H1 locs1 ls (by rw [← pr_set_i hk]; exact hP1) hS1 hl)
theorem pr_zaload (C : pr_C E Y Rm cc own nL c0) {c z : Nat} {i : Int32} (hk : (pr_L E)[c]? = some (11, z)) (hin : vp_in i z) (hdg : decode cc pc = .ok (.baload, 1)) (k : pr_W E Y Rm nL f (pc + 1) lv (.int (f c i.toNatClampNeg) :: st)) : pr_W E Y Rm nL f pc lv (.int i :: .ref (pr_ad E c) :: st) := fun H locs ls hP hS hl =>
  va_zald C.1 C.2.1 (pr_K C) hP c 1 (pr_at_z hk) rfl hin hdg (k H locs ls hP hS hl)
theorem pr_zastore (C : pr_C E Y Rm cc own nL c0) {c z : Nat} {i v : Int32} (hk : (pr_L E)[c]? = some (11, z)) (hin : vp_in i z) (hv : vp_nar .boolean v = v) (hdg : decode cc pc = .ok (.bastore, 1)) (k : ∀ g, g = pr_up f c i.toNatClampNeg v → pr_W E Y Rm nL g (pc + 1) lv st) : pr_W E Y Rm nL f pc lv (.int v :: .int i :: .ref (pr_ad E c) :: st) := fun H locs ls hP hS hl =>
  va_zast C.1 C.2.1 (pr_K C) hP (pr_Ds C f) hS c 1 (pr_at_z hk) rfl hin hdg (fun H1 locs1 hP1 _ hS1 => k _ rfl H1 locs1 ls (by rw [← pr_set_z hk]; rw [hv] at hP1; exact hP1) hS1 hl)
theorem pr_aaload (C : pr_C E Y Rm cc own nL c0) {c z : Nat} {i : Int32} (hk : (pr_L E)[c]? = some (12, z)) (hin : vp_in i z) (hdg : decode cc pc = .ok (.aaload, 1)) (k : pr_W E Y Rm nL f (pc + 1) lv (.ref (pr_ad E (c + 3 + 9 * i.toNatClampNeg)) :: st)) : pr_W E Y Rm nL f pc lv (.int i :: .ref (pr_ad E c) :: st) := fun H locs ls hP hS hl =>
  va_aldq C.1 C.2.1 (pr_K C) hP c 2 (pr_at_u hk) rfl hin hdg (k H locs ls hP hS hl)
theorem pr_cell_lt {c : Nat} {k : Nat × Nat} {H : Heap} (hP : va_P (pr_D E) pr_CL (pr_m E f) H) (hk : (pr_L E)[c]? = some k) : pr_ad E c < H.size := (hP c _ (pr_me_at hk)).lt
theorem pr_copy (C : pr_C E Y Rm cc own nL c0) {a b z1 z2 idx : Nat} {sp dp n : Int32} (ha : (pr_L E)[a]? = some (10, z1)) (hb : (pr_L E)[b]? = some (10, z2)) (w1 : Cond.methodLink own idx arraycopyName ∈ pr_AL) (w2 : Cond.native arraycopyName ∈ pr_AL) (w3 : Cond.static arraycopyName ∈ pr_AL) (w4 : Cond.initialized "java/lang/System" ∈ pr_AL)
    (h1 : ¬ sp < 0) (h2 : ¬ dp < 0) (h3 : ¬ n < 0) (h4 : sp.toNatClampNeg + n.toNatClampNeg ≤ z1) (h5 : dp.toNatClampNeg + n.toNatClampNeg ≤ z2) (hfr : 1 ≤ Rm.frames) (hlo : (st.map fun v => v.category).sum + (nativeFrameWords "java/lang/System" "arraycopy" 5 + 11) ≤ Rm.locals) (hdg : decode cc pc = .ok (.invokestatic idx, 3))
    (k : ∀ g, g = pr_rw f b (va_cpy (f a) (f b) sp.toNatClampNeg dp.toNatClampNeg n.toNatClampNeg) → pr_W E Y Rm nL g (pc + 3) lv st) : pr_W E Y Rm nL f pc lv (.int n :: .int dp :: .ref (pr_ad E b) :: .int sp :: .ref (pr_ad E a) :: st) := fun H locs ls hP hS hl =>
  va_copyi C.1 C.2.1 (by rw [C.2.2.1]; exact hl.1.symm) C.2.2.2.1 (pr_hts C w1) (pr_hts C w2) (pr_hts C w3) (pr_hts C w4) (pr_K C) hP (pr_Ds C f) hS a b 0 0 (pr_at_i ha) (pr_at_i hb) rfl rfl rfl h1 h2 h3 h4 h5 (fun _ _ => rfl) hfr hlo hdg (fun H1 locs1 hP1 _ hS1 => k _ rfl H1 locs1 ls (by rw [← pr_set_r hb]; exact hP1) hS1 hl)
theorem pr_mabs (C : pr_C E Y Rm cc own nL c0) {x y : Int32} {idx : Nat} (w1 : Cond.methodLink own idx Lib.Math.abs.name ∈ pr_AL) (w2 : Cond.static Lib.Math.abs.name ∈ pr_AL) (w3 : Cond.initialized "java/lang/Math" ∈ pr_AL) (w4 : Cond.code Lib.Math.abs.name Lib.Math.abs.code 1 (some .int) ∈ pr_AL) (hfr : 1 ≤ Rm.frames) (hlo : (st.map fun v => v.category).sum + 13 ≤ Rm.locals) (hdg : decode cc pc = .ok (.invokestatic idx, 3)) (k : pr_W E Y Rm nL f (pc + 3) lv (.int (if 0 ≤ x then x else 0 - x) :: st)) : pr_W E Y Rm nL f pc lv (.int x :: st) := fun H locs ls hP hS hl =>
  va_mabs C.1 C.2.1 (by rw [C.2.2.1]; exact hl.1.symm) C.2.2.2.1 (pr_hts C w1) (pr_hts C w2) (pr_hts C w3) (pr_hts C w4) hfr hlo C.2.2.2.2.2.2.2.2.2.2.2.1 C.2.2.2.2.2.2.2.2.2.2.2.2 hdg (k H locs ls hP hS hl)
theorem pr_mmax (C : pr_C E Y Rm cc own nL c0) {x y : Int32} {idx : Nat} (w1 : Cond.methodLink own idx Lib.Math.max.name ∈ pr_AL) (w2 : Cond.static Lib.Math.max.name ∈ pr_AL) (w3 : Cond.initialized "java/lang/Math" ∈ pr_AL) (w4 : Cond.code Lib.Math.max.name Lib.Math.max.code 2 (some .int) ∈ pr_AL) (hfr : 1 ≤ Rm.frames) (hlo : (st.map fun v => v.category).sum + 13 ≤ Rm.locals) (hdg : decode cc pc = .ok (.invokestatic idx, 3)) (k : pr_W E Y Rm nL f (pc + 3) lv (.int (if x < y then y else x) :: st)) : pr_W E Y Rm nL f pc lv (.int y :: .int x :: st) := fun H locs ls hP hS hl =>
  va_mmax C.1 C.2.1 (by rw [C.2.2.1]; exact hl.1.symm) C.2.2.2.1 (pr_hts C w1) (pr_hts C w2) (pr_hts C w3) (pr_hts C w4) hfr hlo C.2.2.2.2.2.2.2.2.2.2.2.1 C.2.2.2.2.2.2.2.2.2.2.2.2 hdg (k H locs ls hP hS hl)
theorem pr_mmin (C : pr_C E Y Rm cc own nL c0) {x y : Int32} {idx : Nat} (w1 : Cond.methodLink own idx Lib.Math.min.name ∈ pr_AL) (w2 : Cond.static Lib.Math.min.name ∈ pr_AL) (w3 : Cond.initialized "java/lang/Math" ∈ pr_AL) (w4 : Cond.code Lib.Math.min.name Lib.Math.min.code 2 (some .int) ∈ pr_AL) (hfr : 1 ≤ Rm.frames) (hlo : (st.map fun v => v.category).sum + 13 ≤ Rm.locals) (hdg : decode cc pc = .ok (.invokestatic idx, 3)) (k : pr_W E Y Rm nL f (pc + 3) lv (.int (if y < x then y else x) :: st)) : pr_W E Y Rm nL f pc lv (.int y :: .int x :: st) := fun H locs ls hP hS hl =>
  va_mmin C.1 C.2.1 (by rw [C.2.2.1]; exact hl.1.symm) C.2.2.2.1 (pr_hts C w1) (pr_hts C w2) (pr_hts C w3) (pr_hts C w4) hfr hlo C.2.2.2.2.2.2.2.2.2.2.2.1 C.2.2.2.2.2.2.2.2.2.2.2.2 hdg (k H locs ls hP hS hl)
theorem pr_sget (C : pr_C E Y Rm cc own nL c0) {idx N : Nat} {nm : String} {xs : List Int32} (hq : (nm, N, xs) ∈ pr_ST) (hw : Cond.fieldLink own idx "PrintRegister" nm "[I" ∈ pr_AL) (hdg : decode cc pc = .ok (.getstatic idx, 3)) (k : ∀ t : Nat, va_T .int t N (fun j => .int (xs.getD j 0)) (pr_A E) (pr_ys Y) (pr_ys Y).heap → pr_W E Y Rm nL f (pc + 3) lv (.ref t :: st)) : pr_W E Y Rm nL f pc lv st := fun H locs ls hP hS hl => by
  obtain ⟨t, h1, h2⟩ := C.2.2.2.2.2.2.2.2.1 _ hq
  exact va_gets C.1 C.2.1 h1 hS C.2.2.2.1 (pr_hts C hw) (fun _ h => h) hdg (k t h2 H locs ls hP hS hl)
theorem pr_sgetN (C : pr_C E Y Rm cc own nL c0) {idx N : Nat} {nm : String} {xs : List Int32} (hq : (nm, N, xs) ∈ pr_ST) (hw : Cond.fieldLinkNest own idx "PrintRegister" nm "[I" "PrintRegister" ∈ pr_NW) (hdg : decode cc pc = .ok (.getstatic idx, 3)) (k : ∀ t : Nat, va_T .int t N (fun j => .int (xs.getD j 0)) (pr_A E) (pr_ys Y) (pr_ys Y).heap → pr_W E Y Rm nL f (pc + 3) lv (.ref t :: st)) : pr_W E Y Rm nL f pc lv st := fun H locs ls hP hS hl => by
  obtain ⟨t, h1, h2⟩ := C.2.2.2.2.2.2.2.2.1 _ hq
  exact va_getsN C.1 C.2.1 h1 hS C.2.2.2.1 (va_Nw.use rfl (pr_nts C hw)) (fun _ h => h) hdg (k t h2 H locs ls hP hS hl)
theorem pr_saload (C : pr_C E Y Rm cc own nL c0) {t N : Nat} {xs : List Int32} {i : Int32} (hT : va_T .int t N (fun j => .int (xs.getD j 0)) (pr_A E) (pr_ys Y) (pr_ys Y).heap) (hin : vp_in i N) (hdg : decode cc pc = .ok (.iaload, 1)) (k : pr_W E Y Rm nL f (pc + 1) lv (.int (xs.getD i.toNatClampNeg 0) :: st)) : pr_W E Y Rm nL f pc lv (.int i :: .ref t :: st) := fun H locs ls hP hS hl =>
  va_ti C.1 C.2.1 hT hS hin rfl hdg (k H locs ls hP hS hl)
theorem pr_iret (C : pr_C E Y Rm cc own nL c0) {v : Int32} (Z : pr_Z E Y (some .int) (some (.int v)) f) (hdg : decode cc pc = .ok (.ireturn, 1)) : pr_W E Y Rm nL f pc lv [.int v] := fun H locs ls hP hS hl => by
  rw [Z.2]
  exact W.iret C.1 C.2.1 Z.1 (fun t ht hW => ⟨rfl, by rw [ht]; exact hP, hS.F ht⟩) hS.2.2 hdg C.2.2.2.2.2.1
theorem pr_zret (C : pr_C E Y Rm cc own nL c0) {v : Int32} (hn : narrow .boolean (.int v) = .int v) (Z : pr_Z E Y (some .boolean) (some (.int v)) f) (hdg : decode cc pc = .ok (.ireturn, 1)) : pr_W E Y Rm nL f pc lv [.int v] := fun H locs ls hP hS hl => by
  rw [Z.2]
  exact W.zret C.1 C.2.1 Z.1 hn (fun t ht hW => ⟨rfl, by rw [ht]; exact hP, hS.F ht⟩) hS.2.2 hdg C.2.2.2.2.2.1
theorem pr_vret (C : pr_C E Y Rm cc own nL c0) (Z : pr_Z E Y none none f) (hdg : decode cc pc = .ok (.return_, 1)) : pr_W E Y Rm nL f pc lv [] := fun H locs ls hP hS hl => by
  rw [Z.2]
  exact W.vret C.1 C.2.1 Z.1 (fun t ht hW => ⟨rfl, by rw [ht]; exact hP, hS.F ht⟩) hS.2.2 hdg C.2.2.2.2.2.1
theorem pr_aret (C : pr_C E Y Rm cc own nL c0) {v : Value} {n : String} (hv : v = .null ∨ ∃ a, v = .ref a) (Z : pr_Z E Y (some (.object n)) (some v) f) (hdg : decode cc pc = .ok (.areturn, 1)) : pr_W E Y Rm nL f pc lv [v] := fun H locs ls hP hS hl => by
  rw [Z.2]
  exact W.aret C.1 C.2.1 Z.1 (Or.inl ⟨n, rfl⟩) hv (fun t ht hW => ⟨rfl, by rw [ht]; exact hP, hS.F ht⟩) hS.2.2 hdg C.2.2.2.2.2.1
theorem pr_blind {av : List Value} : FrameBlind (pr_Pr E av f) := fun a U g mk q => ⟨q.1, q.2.1, q.2.2.1, va_K.moved (u := U) (U := U.calling g mk a) (Vm.Alike.refl U.vm) q.2.2.2.1, q.2.2.2.2.1.moved (u := U) (U := U.calling g mk a) (Vm.Alike.refl U.vm), q.2.2.2.2.2.same (s := U) (U := U.calling g mk a) rfl⟩
theorem pr_pre (C : pr_C E Y Rm cc own nL c0) {av : List Value} {H : Heap} {locs : List Loc} (hP : va_P (pr_D E) pr_CL (pr_m E f) H) (hS : va_S (pr_A E) (pr_ys Y).heap H locs) : ∀ U : State, U.heap = H → (pr_ys Y).WarmedH U.vm → pr_Pr E av f av.toArray U := fun U hU hW => by
  subst hU
  exact ⟨rfl, Nat.le_trans C.2.2.2.2.2.2.2.2.2.2.1 hS.1, hP, (pr_K C).moved hW.alike, (C.2.2.2.2.2.2.2.2.1.moved hW.alike).kept (fun a h1 h2 => hS.2.1 a h1 h2), C.2.2.2.2.2.2.2.2.2.1.warm hW⟩
theorem pr_after {r : Option Value} {g : pr_M} {H : Heap} {locs : List Loc} {rest stk : List Value} {ls : Array Slot} {y : MethodName} {av : Array Value} (hB : pr_B E ≤ (pr_ys Y).heap.size)
    (hr : va_Run (pr_yp Y) (pr_l E) (pr_ye Y) Rm (pr_ys Y) (pr_ym Y) (pr_ya Y) (pr_yb Y) (pr_yh Y) (pr_yc Y) H locs (pr_yk Y) (pr_yn Y) 0 0 (F0 (pr_ym Y) pc ls stk) rest (pr_Po E r g av) (pr_A E))
    (hS : va_S (pr_A E) (pr_ys Y).heap H locs) (hl : lv_has ls nL lv) (k : pr_W E Y Rm nL g (pc + 3) lv (r.toList ++ rest)) :
    W (pr_yp Y) (pr_l E) (pr_ye Y) Rm (pr_ys Y) (pr_ym Y) (pr_ya Y) (pr_yb Y) (pr_yh Y) (pr_yc Y) H locs (pr_yk Y) (pr_yn Y) (pr_yQ Y) (F0 (pr_ym Y) pc ls stk) := by
  intro T hT X
  obtain ⟨v, st₀, t, T', L, h0, X', hL, e1, e2, ⟨hv, hP1, hz, hk⟩, go⟩ := hr T hT X
  cases hv
  rw [h0] at hz hk
  obtain ⟨t2, a1, b1⟩ := k T'.heap (locs ++ L) ls (by rw [e1]; exact hP1)
    ⟨Nat.le_trans hS.1 (by rw [e1]; exact hz), fun q h1 h2 => by rw [e1, hk q (Nat.lt_of_lt_of_le h1 hS.1) h2]; exact hS.2.1 q h1 h2, fun q hq => by
      rcases List.mem_append.mp hq with h | h
      · exact hS.2.2 q h
      · exact hL q h⟩ hl T' rfl X'
  exact ⟨t2, go t2 a1, b1⟩
theorem pr_callV (C : pr_C E Y Rm cc own nL c0) {y : MethodName} {bytes : ByteArray} {maxL ci z c N idx n : Nat} {Cn : String} {T : u_T} {ret : Option FieldType} {rm : Room} {As stk : List Value} {r : Option Value} {g : pr_M} (hM : pr_Met E y bytes maxL ret rm (.ref (pr_ad E c) :: As) f r g) (hk : (pr_L E)[c]? = some (ci, z)) (hci : ci < 10) (hcl : pr_CL[ci]? = some (Cn, T, N))
    (w1 : Cond.methodLink own idx y ∈ pr_AL) (w2 : Cond.instanceMethod y ∈ pr_AL) (w3 : Cond.selects Cn y y ∈ pr_AL) (w4 : Cond.initialized Cn ∈ pr_AL) (w5 : Cond.code y bytes maxL ret ∈ pr_AL) (hrc : rm.cells = 0) (hrs : rm.slots = 0)
    (hy : y.cls = Cn ∧ y.cls ≠ "java/lang/invoke/MethodHandle" ∧ y.cls ≠ "java/lang/invoke/VarHandle" ∧ (parseMethodDescriptor y.desc).map (fun d => d.parameters.length) = some n) (hn : As.length = n) (hR : rm.frames + 1 ≤ Rm.frames ∧ 8 + (maxL + 11) + rm.locals ≤ Rm.locals)
    (hst : stk = As.reverse ++ .ref (pr_ad E c) :: st) (hcat : (st.map fun v => v.category).sum ≤ 8) (hdg : decode cc pc = .ok (.invokevirtual idx, 3)) (k : pr_W E Y Rm nL g (pc + 3) lv (r.toList ++ st)) : pr_W E Y Rm nL f pc lv stk := fun H locs ls hP hS hl => by
  have hG : GoodIn (c0 :: pr_AL) (wsV own idx Cn y (.code y bytes maxL ret :: pr_AL)) := by
    intro w hw
    rcases List.mem_append.mp hw with h | h
    · have hm : w ∈ pr_AL := by
        simp only [List.mem_cons, List.not_mem_nil, or_false] at h
        rcases h with rfl | rfl | rfl | rfl <;> assumption
      exact ⟨List.mem_cons_of_mem _ hm, good_of_word (List.all_eq_true.mp pr_AL_good w hm)⟩
    · exact pr_goodIn w5 w h
  have he : (pr_m E f)[c]? = some (pr_ad E c, .inr (ci, pr_fs (pr_ad E) f c 0 (pr_sh ci))) := by rw [pr_me_at hk]; simp [pr_ce, hci]
  exact pr_after (y := y) C.2.2.2.2.2.2.2.2.2.2.1 (va_runV (As := As) (rest := st) (g := F0 (pr_ym Y) pc ls stk) ⟨C.1, C.2.1, C.2.2.1, C.2.2.2.1, C.2.2.2.2.1⟩ (hM C.2.2.2.2.2.2.2.1) (cwV n C.2.2.2.2.1 hG rfl hrc hrs hy hR) ⟨pr_blind, va_recv (pr_K C) hP hcl he, pr_pre C hP hS⟩ rfl hn hl.1 hst (lv_room hcat) hdg ⟨C.2.2.2.2.2.2.2.2.2.2.2.1, C.2.2.2.2.2.2.2.2.2.2.2.2⟩) hS hl k
theorem pr_callS (C : pr_C E Y Rm cc own nL c0) {y : MethodName} {bytes : ByteArray} {maxL idx n : Nat} {ret : Option FieldType} {rm : Room} {As stk : List Value} {r : Option Value} {g : pr_M} (hM : pr_Met E y bytes maxL ret rm As f r g)
    (w1 : Cond.methodLink own idx y ∈ pr_AL) (w2 : Cond.static y ∈ pr_AL) (w4 : Cond.initialized y.cls ∈ pr_AL) (w5 : Cond.code y bytes maxL ret ∈ pr_AL) (hrc : rm.cells = 0) (hrs : rm.slots = 0)
    (hy : y.cls ≠ "java/lang/invoke/MethodHandle" ∧ y.cls ≠ "java/lang/invoke/VarHandle" ∧ (parseMethodDescriptor y.desc).map (fun d => d.parameters.length) = some n) (hn : As.length = n) (hR : rm.frames + 1 ≤ Rm.frames ∧ 8 + (maxL + 11) + rm.locals ≤ Rm.locals)
    (hst : stk = As.reverse ++ st) (hcat : (st.map fun v => v.category).sum ≤ 8) (hdg : decode cc pc = .ok (.invokestatic idx, 3)) (k : pr_W E Y Rm nL g (pc + 3) lv (r.toList ++ st)) : pr_W E Y Rm nL f pc lv stk := fun H locs ls hP hS hl => by
  have hG : GoodIn (c0 :: pr_AL) (va_wsS own idx y (.code y bytes maxL ret :: pr_AL)) := by
    intro w hw
    rcases List.mem_append.mp hw with h | h
    · have hm : w ∈ pr_AL := by
        simp only [List.mem_cons, List.not_mem_nil, or_false] at h
        rcases h with rfl | rfl | rfl <;> assumption
      exact ⟨List.mem_cons_of_mem _ hm, good_of_word (List.all_eq_true.mp pr_AL_good w hm)⟩
    · exact pr_goodIn w5 w h
  exact pr_after (y := y) C.2.2.2.2.2.2.2.2.2.2.1 (va_runS (As := As) (rest := st) (g := F0 (pr_ym Y) pc ls stk) ⟨C.1, C.2.1, C.2.2.1, C.2.2.2.1, C.2.2.2.2.1⟩ (hM C.2.2.2.2.2.2.2.1) (va_cwS n C.2.2.2.2.1 hG rfl hrc hrs hy hR) ⟨pr_blind, pr_pre C hP hS⟩ rfl hn hl.1 hst (lv_room hcat) hdg ⟨C.2.2.2.2.2.2.2.2.2.2.2.1, C.2.2.2.2.2.2.2.2.2.2.2.2⟩) hS hl k
theorem pr_callSN (C : pr_C E Y Rm cc own nL c0) {y : MethodName} {bytes : ByteArray} {maxL idx n : Nat} {ret : Option FieldType} {rm : Room} {As stk : List Value} {r : Option Value} {g : pr_M} (hM : pr_Met E y bytes maxL ret rm As f r g)
    (w1 : Cond.methodLinkNest own idx y "PrintRegister" ∈ pr_NW) (w2 : Cond.static y ∈ pr_AL) (w4 : Cond.initialized y.cls ∈ pr_AL) (w5 : Cond.code y bytes maxL ret ∈ pr_AL) (hrc : rm.cells = 0) (hrs : rm.slots = 0)
    (hy : y.cls ≠ "java/lang/invoke/MethodHandle" ∧ y.cls ≠ "java/lang/invoke/VarHandle" ∧ (parseMethodDescriptor y.desc).map (fun d => d.parameters.length) = some n) (hn : As.length = n) (hR : rm.frames + 1 ≤ Rm.frames ∧ 8 + (maxL + 11) + rm.locals ≤ Rm.locals)
    (hst : stk = As.reverse ++ st) (hcat : (st.map fun v => v.category).sum ≤ 8) (hdg : decode cc pc = .ok (.invokestatic idx, 3)) (k : pr_W E Y Rm nL g (pc + 3) lv (r.toList ++ st)) : pr_W E Y Rm nL f pc lv stk := fun H locs ls hP hS hl =>
  pr_after (y := y) C.2.2.2.2.2.2.2.2.2.2.1 (va_runSN (As := As) (rest := st) (g := F0 (pr_ym Y) pc ls stk) ⟨C.1, C.2.1, C.2.2.1, C.2.2.2.1, C.2.2.2.2.1⟩ (hM C.2.2.2.2.2.2.2.1) ⟨va_cnB n C.2.2.2.2.1 (pr_goodIn w5) rfl hrc hrs (pr_nts C w1) (pr_hts C w4) hy hR, pr_hts C w2, trivial⟩ ⟨pr_blind, pr_pre C hP hS⟩ rfl hn hl.1 hst (lv_room hcat) hdg ⟨C.2.2.2.2.2.2.2.2.2.2.2.1, C.2.2.2.2.2.2.2.2.2.2.2.2⟩) hS hl k
end RW
/-! ===== the words of a picture's answer ===== -/
def pr_bd {α β : Type} (x : Option (α × pr_M)) (k : α → pr_M → Option β) : Option β := match x with
  | none => none
  | some (a, g) => k a g
theorem pr_bd_some {α β : Type} {x : Option (α × pr_M)} {k : α → pr_M → Option β} {z : β} (h : pr_bd x k = some z) : ∃ (a : α) (g : pr_M), x = some (a, g) ∧ k a g = some z := by
  cases x with
  | none => cases h
  | some q => exact ⟨q.1, q.2, rfl, h⟩
def pr_gd {β : Type} (p : Prop) [Decidable p] (x : Option β) : Option β := if p then x else none
theorem pr_gd_some {β : Type} {p : Prop} [Decidable p] {x : Option β} {z : β} (h : pr_gd p x = some z) : p ∧ x = some z := by
  by_cases c : p
  · exact ⟨c, by simpa [pr_gd, c] using h⟩
  · simp [pr_gd, c] at h
def pr_lt {α β : Type} (v : α) (k : α → β) : β := k v
theorem pr_lt_at {α β : Type} {v : α} {k : α → β} {z : β} (h : pr_lt v k = z) {a : α} (e : a = v) : k a = z := by subst e; exact h
theorem pr_ifT {α : Type} {p : Prop} [Decidable p] {a b z : α} (h : (if p then a else b) = z) (c : p) : a = z := by rw [if_pos c] at h; exact h
theorem pr_ifF {α : Type} {p : Prop} [Decidable p] {a b z : α} (h : (if p then a else b) = z) (c : ¬ p) : b = z := by rw [if_neg c] at h; exact h
def pr_op {β : Type} (x : Option Nat) (n : Option β) (k : Nat → Option β) : Option β := match x with
  | none => n
  | some a => k a
theorem pr_inj {α β : Type} {a c : α} {b d : β} (h : some (a, b) = some (c, d)) : c = a ∧ d = b := by cases h; exact ⟨rfl, rfl⟩
end
