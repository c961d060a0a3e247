section
def RX0 : String := "PrintRegister$Controller"
def TX0 : u_T := fun k => match k with
  | 0 => ("PrintRegister$Controller", "feed", "I", false)
  | 1 => ("PrintRegister$Controller", "sum", "I", false)
  | 2 => ("PrintRegister$Controller", "wait", "I", false)
  | 3 => ("PrintRegister$Controller", "misses", "I", false)
  | 4 => ("PrintRegister$Controller", "readyTime", "I", false)
  | 5 => ("PrintRegister$Controller", "expectedError", "I", false)
  | 6 => ("PrintRegister$Controller", "expectedSkew", "I", false)
  | 7 => ("PrintRegister$Controller", "addedPhase", "I", false)
  | _ => ("PrintRegister$Controller", "addedSkew", "I", false)
def tyX0 : Nat → FieldType := fun k => match k with
  | 0 => .int
  | 1 => .int
  | 2 => .int
  | 3 => .int
  | 4 => .int
  | 5 => .int
  | 6 => .int
  | 7 => .int
  | _ => .int
abbrev wsX00 : List Cond := u_ws RX0 TX0 9
theorem nmX0 : ∀ a, a < 9 → ∀ b, b < 9 → a ≠ b → (TX0 a).2.1 ≠ (TX0 b).2.1 := by decide +kernel
theorem tyX0_ok : ∀ k, k < 9 → parseFieldDescriptor (TX0 k).2.2.1 = some (tyX0 k) := by decide +kernel
abbrev cX0_init : ByteArray := prog_2_method_1_code
def yX0_init : MethodName := ⟨RX0, "<init>", "()V"⟩
abbrev cX0_clear : ByteArray := prog_2_method_2_code
def yX0_clear : MethodName := ⟨RX0, "clear", "()V"⟩
abbrev cX0_copyFrom : ByteArray := prog_2_method_3_code
def yX0_copyFrom : MethodName := ⟨RX0, "copyFrom", "(LPrintRegister$Controller;)V"⟩
abbrev cX0_endRepeat : ByteArray := prog_2_method_4_code
def yX0_endRepeat : MethodName := ⟨RX0, "endRepeat", "()V"⟩
def RX1 : String := "PrintRegister$ErrorLog"
def TX1 : u_T := fun k => match k with
  | 0 => ("PrintRegister$ErrorLog", "places", "[I", true)
  | _ => ("PrintRegister$ErrorLog", "added", "I", false)
def tyX1 : Nat → FieldType := fun k => match k with
  | 0 => .array .int
  | _ => .int
abbrev wsX10 : List Cond := u_ws RX1 TX1 2
theorem nmX1 : ∀ a, a < 2 → ∀ b, b < 2 → a ≠ b → (TX1 a).2.1 ≠ (TX1 b).2.1 := by decide +kernel
theorem tyX1_ok : ∀ k, k < 2 → parseFieldDescriptor (TX1 k).2.2.1 = some (tyX1 k) := by decide +kernel
abbrev cX1_init : ByteArray := prog_3_method_1_code
def yX1_init : MethodName := ⟨RX1, "<init>", "()V"⟩
abbrev cX1_begin : ByteArray := prog_3_method_2_code
def yX1_begin : MethodName := ⟨RX1, "begin", "()V"⟩
abbrev cX1_copyFrom : ByteArray := prog_3_method_3_code
def yX1_copyFrom : MethodName := ⟨RX1, "copyFrom", "(LPrintRegister$ErrorLog;)V"⟩
abbrev cX1_add : ByteArray := prog_3_method_4_code
def yX1_add : MethodName := ⟨RX1, "add", "(I)V"⟩
abbrev cX1_kept : ByteArray := prog_3_method_5_code
def yX1_kept : MethodName := ⟨RX1, "kept", "(I)I"⟩
abbrev cX1_sizeOf : ByteArray := prog_3_method_6_code
def yX1_sizeOf : MethodName := ⟨RX1, "sizeOf", "(I)I"⟩
abbrev cX1_greatest : ByteArray := prog_3_method_7_code
def yX1_greatest : MethodName := ⟨RX1, "greatest", "(I)I"⟩
abbrev cX1_sumOf : ByteArray := prog_3_method_8_code
def yX1_sumOf : MethodName := ⟨RX1, "sumOf", "(I)I"⟩
abbrev cX1_greaterThan : ByteArray := prog_3_method_9_code
def yX1_greaterThan : MethodName := ⟨RX1, "greaterThan", "(II)I"⟩
def RX2 : String := "PrintRegister$Pad"
def TX2 : u_T := fun k => match k with
  | 0 => ("PrintRegister$Pad", "codes", "[I", true)
  | 1 => ("PrintRegister$Pad", "length", "I", false)
  | 2 => ("PrintRegister$Pad", "at", "I", false)
  | 3 => ("PrintRegister$Pad", "failed", "Z", false)
  | 4 => ("PrintRegister$Pad", "kind", "I", false)
  | 5 => ("PrintRegister$Pad", "unit", "I", false)
  | 6 => ("PrintRegister$Pad", "number", "I", false)
  | 7 => ("PrintRegister$Pad", "duration", "I", false)
  | 8 => ("PrintRegister$Pad", "repeats", "I", false)
  | _ => ("PrintRegister$Pad", "greatestUnit", "I", false)
def tyX2 : Nat → FieldType := fun k => match k with
  | 0 => .array .int
  | 1 => .int
  | 2 => .int
  | 3 => .boolean
  | 4 => .int
  | 5 => .int
  | 6 => .int
  | 7 => .int
  | 8 => .int
  | _ => .int
abbrev wsX20 : List Cond := u_ws RX2 TX2 10
theorem nmX2 : ∀ a, a < 10 → ∀ b, b < 10 → a ≠ b → (TX2 a).2.1 ≠ (TX2 b).2.1 := by decide +kernel
theorem tyX2_ok : ∀ k, k < 10 → parseFieldDescriptor (TX2 k).2.2.1 = some (tyX2 k) := by decide +kernel
abbrev cX2_init : ByteArray := prog_4_method_1_code
def yX2_init : MethodName := ⟨RX2, "<init>", "()V"⟩
abbrev cX2_append : ByteArray := prog_4_method_2_code
def yX2_append : MethodName := ⟨RX2, "append", "(I)V"⟩
abbrev cX2_codeAt : ByteArray := prog_4_method_3_code
def yX2_codeAt : MethodName := ⟨RX2, "codeAt", "(I)I"⟩
abbrev cX2_beginReading : ByteArray := prog_4_method_4_code
def yX2_beginReading : MethodName := ⟨RX2, "beginReading", "()V"⟩
abbrev cX2_hasMore : ByteArray := prog_4_method_5_code
def yX2_hasMore : MethodName := ⟨RX2, "hasMore", "()Z"⟩
abbrev cX2_readAll : ByteArray := prog_4_method_6_code
def yX2_readAll : MethodName := ⟨RX2, "readAll", "()V"⟩
abbrev cX2_readStep : ByteArray := prog_4_method_7_code
def yX2_readStep : MethodName := ⟨RX2, "readStep", "()V"⟩
abbrev cX2_readSign : ByteArray := prog_4_method_8_code
def yX2_readSign : MethodName := ⟨RX2, "readSign", "(C)V"⟩
abbrev cX2_readUnit : ByteArray := prog_4_method_9_code
def yX2_readUnit : MethodName := ⟨RX2, "readUnit", "()I"⟩
abbrev cX2_readDisturbance : ByteArray := prog_4_method_10_code
def yX2_readDisturbance : MethodName := ⟨RX2, "readDisturbance", "()V"⟩
abbrev cX2_readNumber : ByteArray := prog_4_method_11_code
def yX2_readNumber : MethodName := ⟨RX2, "readNumber", "(II)I"⟩
abbrev cX2_digitAt : ByteArray := prog_4_method_12_code
def yX2_digitAt : MethodName := ⟨RX2, "digitAt", "(I)I"⟩
def RX3 : String := "PrintRegister$Press"
def TX3 : u_T := fun k => match k with
  | 0 => ("PrintRegister$Press", "units", "[LPrintRegister$Unit;", true)
  | 1 => ("PrintRegister$Press", "changes", "[I", true)
  | 2 => ("PrintRegister$Press", "totals", "[I", true)
  | 3 => ("PrintRegister$Press", "unitCount", "I", false)
  | 4 => ("PrintRegister$Press", "time", "I", false)
  | 5 => ("PrintRegister$Press", "speedNow", "I", false)
  | 6 => ("PrintRegister$Press", "speedBefore", "I", false)
  | 7 => ("PrintRegister$Press", "spliceStart", "I", false)
  | 8 => ("PrintRegister$Press", "spliceAmount", "I", false)
  | _ => ("PrintRegister$Press", "spliceDuration", "I", false)
def tyX3 : Nat → FieldType := fun k => match k with
  | 0 => .array (.object "PrintRegister$Unit")
  | 1 => .array .int
  | 2 => .array .int
  | 3 => .int
  | 4 => .int
  | 5 => .int
  | 6 => .int
  | 7 => .int
  | 8 => .int
  | _ => .int
abbrev wsX30 : List Cond := u_ws RX3 TX3 10
theorem nmX3 : ∀ a, a < 10 → ∀ b, b < 10 → a ≠ b → (TX3 a).2.1 ≠ (TX3 b).2.1 := by decide +kernel
theorem tyX3_ok : ∀ k, k < 10 → parseFieldDescriptor (TX3 k).2.2.1 = some (tyX3 k) := by decide +kernel
abbrev cX3_init : ByteArray := prog_5_method_1_code
def yX3_init : MethodName := ⟨RX3, "<init>", "()V"⟩
abbrev cX3_begin : ByteArray := prog_5_method_2_code
def yX3_begin : MethodName := ⟨RX3, "begin", "(I)V"⟩
abbrev cX3_copyFrom : ByteArray := prog_5_method_3_code
def yX3_copyFrom : MethodName := ⟨RX3, "copyFrom", "(LPrintRegister$Press;)V"⟩
abbrev cX3_unitAt : ByteArray := prog_5_method_4_code
def yX3_unitAt : MethodName := ⟨RX3, "unitAt", "(I)LPrintRegister$Unit;"⟩
abbrev cX3_controlledUnitAt : ByteArray := prog_5_method_5_code
def yX3_controlledUnitAt : MethodName := ⟨RX3, "controlledUnitAt", "(I)LPrintRegister$Unit;"⟩
abbrev cX3_wayOf : ByteArray := prog_5_method_6_code
def yX3_wayOf : MethodName := ⟨RX3, "wayOf", "(I)I"⟩
abbrev cX3_startSplice : ByteArray := prog_5_method_7_code
def yX3_startSplice : MethodName := ⟨RX3, "startSplice", "(II)V"⟩
abbrev cX3_repeatsToLastUnit : ByteArray := prog_5_method_8_code
def yX3_repeatsToLastUnit : MethodName := ⟨RX3, "repeatsToLastUnit", "()I"⟩
abbrev cX3_isWithin : ByteArray := prog_5_method_9_code
def yX3_isWithin : MethodName := ⟨RX3, "isWithin", "(II)Z"⟩
abbrev cX3_sumErrorsIn : ByteArray := prog_5_method_10_code
def yX3_sumErrorsIn : MethodName := ⟨RX3, "sumErrorsIn", "(LPrintRegister$Press;IIII)I"⟩
abbrev cX3_makeRepeat : ByteArray := prog_5_method_11_code
def yX3_makeRepeat : MethodName := ⟨RX3, "makeRepeat", "()V"⟩
abbrev cX3_bringSplice : ByteArray := prog_5_method_12_code
def yX3_bringSplice : MethodName := ⟨RX3, "bringSplice", "()V"⟩
abbrev cX3_watchUnit : ByteArray := prog_5_method_13_code
def yX3_watchUnit : MethodName := ⟨RX3, "watchUnit", "(LPrintRegister$Unit;I)V"⟩
abbrev cX3_control : ByteArray := prog_5_method_14_code
def yX3_control : MethodName := ⟨RX3, "control", "(LPrintRegister$Unit;I)V"⟩
def RX4 : String := "PrintRegister$Printer"
def TX4 : u_T := fun k => match k with
  | 0 => ("PrintRegister$Printer", "offsets", "[I", true)
  | 1 => ("PrintRegister$Printer", "skews", "[I", true)
  | 2 => ("PrintRegister$Printer", "phase", "I", false)
  | 3 => ("PrintRegister$Printer", "skewSetting", "I", false)
  | 4 => ("PrintRegister$Printer", "tilt", "I", false)
  | 5 => ("PrintRegister$Printer", "disturbanceAmount", "I", false)
  | 6 => ("PrintRegister$Printer", "disturbanceDuration", "I", false)
  | _ => ("PrintRegister$Printer", "disturbanceLeft", "I", false)
def tyX4 : Nat → FieldType := fun k => match k with
  | 0 => .array .int
  | 1 => .array .int
  | 2 => .int
  | 3 => .int
  | 4 => .int
  | 5 => .int
  | 6 => .int
  | _ => .int
abbrev wsX40 : List Cond := u_ws RX4 TX4 8
theorem nmX4 : ∀ a, a < 8 → ∀ b, b < 8 → a ≠ b → (TX4 a).2.1 ≠ (TX4 b).2.1 := by decide +kernel
theorem tyX4_ok : ∀ k, k < 8 → parseFieldDescriptor (TX4 k).2.2.1 = some (tyX4 k) := by decide +kernel
abbrev cX4_init : ByteArray := prog_6_method_1_code
def yX4_init : MethodName := ⟨RX4, "<init>", "()V"⟩
abbrev cX4_begin : ByteArray := prog_6_method_2_code
def yX4_begin : MethodName := ⟨RX4, "begin", "()V"⟩
abbrev cX4_copyFrom : ByteArray := prog_6_method_3_code
def yX4_copyFrom : MethodName := ⟨RX4, "copyFrom", "(LPrintRegister$Printer;)V"⟩
abbrev cX4_byHand : ByteArray := prog_6_method_4_code
def yX4_byHand : MethodName := ⟨RX4, "byHand", "(I)I"⟩
abbrev cX4_changeByHand : ByteArray := prog_6_method_5_code
def yX4_changeByHand : MethodName := ⟨RX4, "changeByHand", "(II)V"⟩
abbrev cX4_beDisturbed : ByteArray := prog_6_method_6_code
def yX4_beDisturbed : MethodName := ⟨RX4, "beDisturbed", "(II)V"⟩
abbrev cX4_disturbance : ByteArray := prog_6_method_7_code
def yX4_disturbance : MethodName := ⟨RX4, "disturbance", "()I"⟩
abbrev cX4_printPiece : ByteArray := prog_6_method_8_code
def yX4_printPiece : MethodName := ⟨RX4, "printPiece", "(II)V"⟩
abbrev cX4_offsetAt : ByteArray := prog_6_method_9_code
def yX4_offsetAt : MethodName := ⟨RX4, "offsetAt", "(I)I"⟩
abbrev cX4_skewAt : ByteArray := prog_6_method_10_code
def yX4_skewAt : MethodName := ⟨RX4, "skewAt", "(I)I"⟩
def RX5 : String := "PrintRegister$Sensor"
def TX5 : u_T := fun k => match k with
  | 0 => ("PrintRegister$Sensor", "log", "LPrintRegister$ErrorLog;", true)
  | 1 => ("PrintRegister$Sensor", "hiddenLeft", "I", false)
  | 2 => ("PrintRegister$Sensor", "falseOffset", "I", false)
  | 3 => ("PrintRegister$Sensor", "falseLeft", "I", false)
  | 4 => ("PrintRegister$Sensor", "sawPiece", "Z", false)
  | 5 => ("PrintRegister$Sensor", "trueError", "I", false)
  | 6 => ("PrintRegister$Sensor", "trueSkew", "I", false)
  | 7 => ("PrintRegister$Sensor", "recognized", "I", false)
  | 8 => ("PrintRegister$Sensor", "offset", "I", false)
  | _ => ("PrintRegister$Sensor", "skew", "I", false)
def tyX5 : Nat → FieldType := fun k => match k with
  | 0 => .object "PrintRegister$ErrorLog"
  | 1 => .int
  | 2 => .int
  | 3 => .int
  | 4 => .boolean
  | 5 => .int
  | 6 => .int
  | 7 => .int
  | 8 => .int
  | _ => .int
abbrev wsX50 : List Cond := u_ws RX5 TX5 10
theorem nmX5 : ∀ a, a < 10 → ∀ b, b < 10 → a ≠ b → (TX5 a).2.1 ≠ (TX5 b).2.1 := by decide +kernel
theorem tyX5_ok : ∀ k, k < 10 → parseFieldDescriptor (TX5 k).2.2.1 = some (tyX5 k) := by decide +kernel
abbrev cX5_init : ByteArray := prog_7_method_1_code
def yX5_init : MethodName := ⟨RX5, "<init>", "()V"⟩
abbrev cX5_begin : ByteArray := prog_7_method_2_code
def yX5_begin : MethodName := ⟨RX5, "begin", "()V"⟩
abbrev cX5_copyFrom : ByteArray := prog_7_method_3_code
def yX5_copyFrom : MethodName := ⟨RX5, "copyFrom", "(LPrintRegister$Sensor;)V"⟩
abbrev cX5_seeNothing : ByteArray := prog_7_method_4_code
def yX5_seeNothing : MethodName := ⟨RX5, "seeNothing", "()V"⟩
abbrev cX5_seePiece : ByteArray := prog_7_method_5_code
def yX5_seePiece : MethodName := ⟨RX5, "seePiece", "(II)V"⟩
abbrev cX5_recognizeNear : ByteArray := prog_7_method_6_code
def yX5_recognizeNear : MethodName := ⟨RX5, "recognizeNear", "(III)V"⟩
abbrev cX5_sight : ByteArray := prog_7_method_7_code
def yX5_sight : MethodName := ⟨RX5, "sight", "(I)I"⟩
def RX6 : String := "PrintRegister$Slot"
def TX6 : u_T := fun k => match k with
  | 0 => ("PrintRegister$Slot", "saved", "LPrintRegister$Press;", true)
  | _ => ("PrintRegister$Slot", "isUsed", "Z", false)
def tyX6 : Nat → FieldType := fun k => match k with
  | 0 => .object "PrintRegister$Press"
  | _ => .boolean
abbrev wsX60 : List Cond := u_ws RX6 TX6 2
theorem nmX6 : ∀ a, a < 2 → ∀ b, b < 2 → a ≠ b → (TX6 a).2.1 ≠ (TX6 b).2.1 := by decide +kernel
theorem tyX6_ok : ∀ k, k < 2 → parseFieldDescriptor (TX6 k).2.2.1 = some (tyX6 k) := by decide +kernel
abbrev cX6_init : ByteArray := prog_8_method_1_code
def yX6_init : MethodName := ⟨RX6, "<init>", "()V"⟩
def RX7 : String := "PrintRegister$Unit"
def TX7 : u_T := fun k => match k with
  | 0 => ("PrintRegister$Unit", "settings", "[I", true)
  | 1 => ("PrintRegister$Unit", "printer", "LPrintRegister$Printer;", true)
  | 2 => ("PrintRegister$Unit", "controller", "LPrintRegister$Controller;", true)
  | _ => ("PrintRegister$Unit", "sensor", "LPrintRegister$Sensor;", true)
def tyX7 : Nat → FieldType := fun k => match k with
  | 0 => .array .int
  | 1 => .object "PrintRegister$Printer"
  | 2 => .object "PrintRegister$Controller"
  | _ => .object "PrintRegister$Sensor"
abbrev wsX70 : List Cond := u_ws RX7 TX7 4
theorem nmX7 : ∀ a, a < 4 → ∀ b, b < 4 → a ≠ b → (TX7 a).2.1 ≠ (TX7 b).2.1 := by decide +kernel
theorem tyX7_ok : ∀ k, k < 4 → parseFieldDescriptor (TX7 k).2.2.1 = some (tyX7 k) := by decide +kernel
abbrev cX7_init : ByteArray := prog_9_method_1_code
def yX7_init : MethodName := ⟨RX7, "<init>", "()V"⟩
abbrev cX7_begin : ByteArray := prog_9_method_2_code
def yX7_begin : MethodName := ⟨RX7, "begin", "()V"⟩
abbrev cX7_copyFrom : ByteArray := prog_9_method_3_code
def yX7_copyFrom : MethodName := ⟨RX7, "copyFrom", "(LPrintRegister$Unit;)V"⟩
abbrev cX7_setting : ByteArray := prog_9_method_4_code
def yX7_setting : MethodName := ⟨RX7, "setting", "(I)I"⟩
abbrev cX7_changeSetting : ByteArray := prog_9_method_5_code
def yX7_changeSetting : MethodName := ⟨RX7, "changeSetting", "(II)V"⟩
abbrev cX7_beSpliced : ByteArray := prog_9_method_6_code
def yX7_beSpliced : MethodName := ⟨RX7, "beSpliced", "(II)V"⟩
abbrev cX7_printPiece : ByteArray := prog_9_method_7_code
def yX7_printPiece : MethodName := ⟨RX7, "printPiece", "(II)V"⟩
abbrev cX7_recognizeMark : ByteArray := prog_9_method_8_code
def yX7_recognizeMark : MethodName := ⟨RX7, "recognizeMark", "()Z"⟩
abbrev cX7_window : ByteArray := prog_9_method_9_code
def yX7_window : MethodName := ⟨RX7, "window", "()I"⟩
abbrev cX7_learnFrom : ByteArray := prog_9_method_10_code
def yX7_learnFrom : MethodName := ⟨RX7, "learnFrom", "(I)Z"⟩
abbrev cX7_expectAsMeasured : ByteArray := prog_9_method_11_code
def yX7_expectAsMeasured : MethodName := ⟨RX7, "expectAsMeasured", "()V"⟩
abbrev cX7_isOff : ByteArray := prog_9_method_12_code
def yX7_isOff : MethodName := ⟨RX7, "isOff", "(I)Z"⟩
abbrev cX7_correctPhase : ByteArray := prog_9_method_13_code
def yX7_correctPhase : MethodName := ⟨RX7, "correctPhase", "()I"⟩
abbrev cX7_correctSkew : ByteArray := prog_9_method_14_code
def yX7_correctSkew : MethodName := ⟨RX7, "correctSkew", "()I"⟩
abbrev cX7_endRepeat : ByteArray := prog_9_method_15_code
def yX7_endRepeat : MethodName := ⟨RX7, "endRepeat", "()V"⟩
def RX8 : String := "PrintRegister"
def TX8 : u_T := fun k => match k with
  | 0 => ("PrintRegister", "press", "LPrintRegister$Press;", true)
  | 1 => ("PrintRegister", "copy", "LPrintRegister$Press;", true)
  | 2 => ("PrintRegister", "slot0", "LPrintRegister$Slot;", true)
  | 3 => ("PrintRegister", "slot1", "LPrintRegister$Slot;", true)
  | _ => ("PrintRegister", "pad", "LPrintRegister$Pad;", true)
def tyX8 : Nat → FieldType := fun k => match k with
  | 0 => .object "PrintRegister$Press"
  | 1 => .object "PrintRegister$Press"
  | 2 => .object "PrintRegister$Slot"
  | 3 => .object "PrintRegister$Slot"
  | _ => .object "PrintRegister$Pad"
abbrev wsX80 : List Cond := u_ws RX8 TX8 5
theorem nmX8 : ∀ a, a < 5 → ∀ b, b < 5 → a ≠ b → (TX8 a).2.1 ≠ (TX8 b).2.1 := by decide +kernel
theorem tyX8_ok : ∀ k, k < 5 → parseFieldDescriptor (TX8 k).2.2.1 = some (tyX8 k) := by decide +kernel
abbrev cX8_init : ByteArray := prog_1_method_1_code
def yX8_init : MethodName := ⟨RX8, "<init>", "()V"⟩
abbrev cX8_setUp : ByteArray := prog_1_method_2_code
def yX8_setUp : MethodName := ⟨RX8, "setUp", "(I)I"⟩
abbrev cX8_set : ByteArray := prog_1_method_3_code
def yX8_set : MethodName := ⟨RX8, "set", "(III)I"⟩
abbrev cX8_get : ByteArray := prog_1_method_4_code
def yX8_get : MethodName := ⟨RX8, "get", "(II)I"⟩
abbrev cX8_adjust : ByteArray := prog_1_method_5_code
def yX8_adjust : MethodName := ⟨RX8, "adjust", "(III)I"⟩
abbrev cX8_restart : ByteArray := prog_1_method_6_code
def yX8_restart : MethodName := ⟨RX8, "restart", "(I)I"⟩
abbrev cX8_speed : ByteArray := prog_1_method_7_code
def yX8_speed : MethodName := ⟨RX8, "speed", "(I)I"⟩
abbrev cX8_disturb : ByteArray := prog_1_method_8_code
def yX8_disturb : MethodName := ⟨RX8, "disturb", "(III)I"⟩
abbrev cX8_hide : ByteArray := prog_1_method_9_code
def yX8_hide : MethodName := ⟨RX8, "hide", "(II)I"⟩
abbrev cX8_falseMark : ByteArray := prog_1_method_10_code
def yX8_falseMark : MethodName := ⟨RX8, "falseMark", "(III)I"⟩
abbrev cX8_splice : ByteArray := prog_1_method_11_code
def yX8_splice : MethodName := ⟨RX8, "splice", "(II)I"⟩
abbrev cX8_run : ByteArray := prog_1_method_12_code
def yX8_run : MethodName := ⟨RX8, "run", "(I)I"⟩
abbrev cX8_seen : ByteArray := prog_1_method_13_code
def yX8_seen : MethodName := ⟨RX8, "seen", "(II)I"⟩
abbrev cX8_state : ByteArray := prog_1_method_14_code
def yX8_state : MethodName := ⟨RX8, "state", "(II)I"⟩
abbrev cX8_errors : ByteArray := prog_1_method_15_code
def yX8_errors : MethodName := ⟨RX8, "errors", "(III)I"⟩
abbrev cX8_total : ByteArray := prog_1_method_16_code
def yX8_total : MethodName := ⟨RX8, "total", "(I)I"⟩
abbrev cX8_forecast : ByteArray := prog_1_method_17_code
def yX8_forecast : MethodName := ⟨RX8, "forecast", "(III)I"⟩
abbrev cX8_attempt : ByteArray := prog_1_method_18_code
def yX8_attempt : MethodName := ⟨RX8, "attempt", "(IIII)I"⟩
abbrev cX8_bestGain : ByteArray := prog_1_method_19_code
def yX8_bestGain : MethodName := ⟨RX8, "bestGain", "(IIIII)I"⟩
abbrev cX8_put : ByteArray := prog_1_method_20_code
def yX8_put : MethodName := ⟨RX8, "put", "(J)I"⟩
abbrev cX8_wipe : ByteArray := prog_1_method_21_code
def yX8_wipe : MethodName := ⟨RX8, "wipe", "()I"⟩
abbrev cX8_fault : ByteArray := prog_1_method_22_code
def yX8_fault : MethodName := ⟨RX8, "fault", "()I"⟩
abbrev cX8_carryOut : ByteArray := prog_1_method_23_code
def yX8_carryOut : MethodName := ⟨RX8, "carryOut", "()I"⟩
abbrev cX8_count : ByteArray := prog_1_method_24_code
def yX8_count : MethodName := ⟨RX8, "count", "(I)I"⟩
abbrev cX8_save : ByteArray := prog_1_method_25_code
def yX8_save : MethodName := ⟨RX8, "save", "(I)I"⟩
abbrev cX8_restore : ByteArray := prog_1_method_26_code
def yX8_restore : MethodName := ⟨RX8, "restore", "(I)I"⟩
abbrev cX8_slotAt : ByteArray := prog_1_method_27_code
def yX8_slotAt : MethodName := ⟨RX8, "slotAt", "(I)LPrintRegister$Slot;"⟩
abbrev cX8_carryOutStep : ByteArray := prog_1_method_28_code
def yX8_carryOutStep : MethodName := ⟨RX8, "carryOutStep", "()V"⟩
abbrev cX8_charactersIn : ByteArray := prog_1_method_29_code
def yX8_charactersIn : MethodName := ⟨RX8, "charactersIn", "(J)I"⟩
abbrev cX8_isOutside : ByteArray := prog_1_method_30_code
def yX8_isOutside : MethodName := ⟨RX8, "isOutside", "(III)Z"⟩
abbrev cX8_isSettingValue : ByteArray := prog_1_method_31_code
def yX8_isSettingValue : MethodName := ⟨RX8, "isSettingValue", "(II)Z"⟩
abbrev cX8_isPlace : ByteArray := prog_1_method_32_code
def yX8_isPlace : MethodName := ⟨RX8, "isPlace", "(I)Z"⟩
abbrev cX8_isDisturbance : ByteArray := prog_1_method_33_code
def yX8_isDisturbance : MethodName := ⟨RX8, "isDisturbance", "(II)Z"⟩
abbrev cX8_limited : ByteArray := prog_1_method_34_code
def yX8_limited : MethodName := ⟨RX8, "limited", "(II)I"⟩
abbrev cX8_lessOne : ByteArray := prog_1_method_35_code
def yX8_lessOne : MethodName := ⟨RX8, "lessOne", "(I)I"⟩
def RX9 : String := "PrintRegisterModel"
def TX9 : u_T := fun k => match k with
  | 0 => ("PrintRegisterModel", "at", "[I", true)
  | 1 => ("PrintRegisterModel", "aside", "[I", true)
  | 2 => ("PrintRegisterModel", "slots", "[I", true)
  | 3 => ("PrintRegisterModel", "isSaved", "[Z", true)
  | 4 => ("PrintRegisterModel", "pad", "[I", true)
  | 5 => ("PrintRegisterModel", "padMany", "I", false)
  | 6 => ("PrintRegisterModel", "spot", "I", false)
  | 7 => ("PrintRegisterModel", "isWrong", "Z", false)
  | 8 => ("PrintRegisterModel", "steps", "[I", true)
  | _ => ("PrintRegisterModel", "stepMany", "I", false)
def tyX9 : Nat → FieldType := fun k => match k with
  | 0 => .array .int
  | 1 => .array .int
  | 2 => .array .int
  | 3 => .array .boolean
  | 4 => .array .int
  | 5 => .int
  | 6 => .int
  | 7 => .boolean
  | 8 => .array .int
  | _ => .int
abbrev wsX90 : List Cond := u_ws RX9 TX9 10
theorem nmX9 : ∀ a, a < 10 → ∀ b, b < 10 → a ≠ b → (TX9 a).2.1 ≠ (TX9 b).2.1 := by decide +kernel
theorem tyX9_ok : ∀ k, k < 10 → parseFieldDescriptor (TX9 k).2.2.1 = some (tyX9 k) := by decide +kernel
abbrev cX9_init : ByteArray := prog_11_method_1_code
def yX9_init : MethodName := ⟨RX9, "<init>", "()V"⟩
abbrev cX9_in : ByteArray := prog_11_method_3_code
def yX9_in : MethodName := ⟨RX9, "in", "(III)Z"⟩
abbrev cX9_size : ByteArray := prog_11_method_4_code
def yX9_size : MethodName := ⟨RX9, "size", "(I)I"⟩
abbrev cX9_limited : ByteArray := prog_11_method_5_code
def yX9_limited : MethodName := ⟨RX9, "limited", "(II)I"⟩
abbrev cX9_firstValue : ByteArray := prog_11_method_6_code
def yX9_firstValue : MethodName := ⟨RX9, "firstValue", "(I)I"⟩
abbrev cX9_place : ByteArray := prog_11_method_7_code
def yX9_place : MethodName := ⟨RX9, "place", "(II)I"⟩
abbrev cX9_of : ByteArray := prog_11_method_8_code
def yX9_of : MethodName := ⟨RX9, "of", "(II)I"⟩
abbrev cX9_lay : ByteArray := prog_11_method_9_code
def yX9_lay : MethodName := ⟨RX9, "lay", "(III)V"⟩
abbrev cX9_layAll : ByteArray := prog_11_method_10_code
def yX9_layAll : MethodName := ⟨RX9, "layAll", "(I)V"⟩
abbrev cX9_putAside : ByteArray := prog_11_method_11_code
def yX9_putAside : MethodName := ⟨RX9, "putAside", "()V"⟩
abbrev cX9_putBack : ByteArray := prog_11_method_12_code
def yX9_putBack : MethodName := ⟨RX9, "putBack", "()V"⟩
abbrev cX9_isUnit : ByteArray := prog_11_method_13_code
def yX9_isUnit : MethodName := ⟨RX9, "isUnit", "(I)Z"⟩
abbrev cX9_way : ByteArray := prog_11_method_14_code
def yX9_way : MethodName := ⟨RX9, "way", "(I)I"⟩
abbrev cX9_setUp : ByteArray := prog_11_method_15_code
def yX9_setUp : MethodName := ⟨RX9, "setUp", "(I)I"⟩
abbrev cX9_takes : ByteArray := prog_11_method_16_code
def yX9_takes : MethodName := ⟨RX9, "takes", "(II)Z"⟩
abbrev cX9_set : ByteArray := prog_11_method_17_code
def yX9_set : MethodName := ⟨RX9, "set", "(III)I"⟩
abbrev cX9_get : ByteArray := prog_11_method_18_code
def yX9_get : MethodName := ⟨RX9, "get", "(II)I"⟩
abbrev cX9_adjust : ByteArray := prog_11_method_19_code
def yX9_adjust : MethodName := ⟨RX9, "adjust", "(III)I"⟩
abbrev cX9_restart : ByteArray := prog_11_method_20_code
def yX9_restart : MethodName := ⟨RX9, "restart", "(I)I"⟩
abbrev cX9_speed : ByteArray := prog_11_method_21_code
def yX9_speed : MethodName := ⟨RX9, "speed", "(I)I"⟩
abbrev cX9_giveDisturbance : ByteArray := prog_11_method_22_code
def yX9_giveDisturbance : MethodName := ⟨RX9, "giveDisturbance", "(III)V"⟩
abbrev cX9_isDisturbance : ByteArray := prog_11_method_23_code
def yX9_isDisturbance : MethodName := ⟨RX9, "isDisturbance", "(II)Z"⟩
abbrev cX9_disturb : ByteArray := prog_11_method_24_code
def yX9_disturb : MethodName := ⟨RX9, "disturb", "(III)I"⟩
abbrev cX9_hide : ByteArray := prog_11_method_25_code
def yX9_hide : MethodName := ⟨RX9, "hide", "(II)I"⟩
abbrev cX9_falseMark : ByteArray := prog_11_method_26_code
def yX9_falseMark : MethodName := ⟨RX9, "falseMark", "(III)I"⟩
abbrev cX9_startSplice : ByteArray := prog_11_method_27_code
def yX9_startSplice : MethodName := ⟨RX9, "startSplice", "(II)I"⟩
abbrev cX9_splice : ByteArray := prog_11_method_28_code
def yX9_splice : MethodName := ⟨RX9, "splice", "(II)I"⟩
abbrev cX9_tally : ByteArray := prog_11_method_29_code
def yX9_tally : MethodName := ⟨RX9, "tally", "(IZ)V"⟩
abbrev cX9_goOnSplice : ByteArray := prog_11_method_30_code
def yX9_goOnSplice : MethodName := ⟨RX9, "goOnSplice", "()V"⟩
abbrev cX9_print : ByteArray := prog_11_method_31_code
def yX9_print : MethodName := ⟨RX9, "print", "(I)V"⟩
abbrev cX9_isSeen : ByteArray := prog_11_method_32_code
def yX9_isSeen : MethodName := ⟨RX9, "isSeen", "(I)Z"⟩
abbrev cX9_keepError : ByteArray := prog_11_method_33_code
def yX9_keepError : MethodName := ⟨RX9, "keepError", "(II)V"⟩
abbrev cX9_see : ByteArray := prog_11_method_34_code
def yX9_see : MethodName := ⟨RX9, "see", "(I)V"⟩
abbrev cX9_recognized : ByteArray := prog_11_method_35_code
def yX9_recognized : MethodName := ⟨RX9, "recognized", "(I)I"⟩
abbrev cX9_recognize : ByteArray := prog_11_method_36_code
def yX9_recognize : MethodName := ⟨RX9, "recognize", "(I)V"⟩
abbrev cX9_isRecognized : ByteArray := prog_11_method_37_code
def yX9_isRecognized : MethodName := ⟨RX9, "isRecognized", "(I)Z"⟩
abbrev cX9_learn : ByteArray := prog_11_method_38_code
def yX9_learn : MethodName := ⟨RX9, "learn", "(I)V"⟩
abbrev cX9_expect : ByteArray := prog_11_method_39_code
def yX9_expect : MethodName := ⟨RX9, "expect", "(I)V"⟩
abbrev cX9_correct : ByteArray := prog_11_method_40_code
def yX9_correct : MethodName := ⟨RX9, "correct", "(I)V"⟩
abbrev cX9_decrease : ByteArray := prog_11_method_41_code
def yX9_decrease : MethodName := ⟨RX9, "decrease", "(II)V"⟩
abbrev cX9_endRepeat : ByteArray := prog_11_method_42_code
def yX9_endRepeat : MethodName := ⟨RX9, "endRepeat", "(I)V"⟩
abbrev cX9_makeRepeat : ByteArray := prog_11_method_43_code
def yX9_makeRepeat : MethodName := ⟨RX9, "makeRepeat", "()V"⟩
abbrev cX9_makeRepeats : ByteArray := prog_11_method_44_code
def yX9_makeRepeats : MethodName := ⟨RX9, "makeRepeats", "(I)V"⟩
abbrev cX9_run : ByteArray := prog_11_method_45_code
def yX9_run : MethodName := ⟨RX9, "run", "(I)I"⟩
abbrev cX9_seen : ByteArray := prog_11_method_46_code
def yX9_seen : MethodName := ⟨RX9, "seen", "(II)I"⟩
abbrev cX9_state : ByteArray := prog_11_method_47_code
def yX9_state : MethodName := ⟨RX9, "state", "(II)I"⟩
abbrev cX9_isControlled : ByteArray := prog_11_method_48_code
def yX9_isControlled : MethodName := ⟨RX9, "isControlled", "(I)Z"⟩
abbrev cX9_errors : ByteArray := prog_11_method_49_code
def yX9_errors : MethodName := ⟨RX9, "errors", "(III)I"⟩
abbrev cX9_total : ByteArray := prog_11_method_50_code
def yX9_total : MethodName := ⟨RX9, "total", "(I)I"⟩
abbrev cX9_comesBack : ByteArray := prog_11_method_51_code
def yX9_comesBack : MethodName := ⟨RX9, "comesBack", "(III)I"⟩
abbrev cX9_forecast : ByteArray := prog_11_method_52_code
def yX9_forecast : MethodName := ⟨RX9, "forecast", "(III)I"⟩
abbrev cX9_tried : ByteArray := prog_11_method_53_code
def yX9_tried : MethodName := ⟨RX9, "tried", "(IIII)I"⟩
abbrev cX9_attempt : ByteArray := prog_11_method_54_code
def yX9_attempt : MethodName := ⟨RX9, "attempt", "(IIII)I"⟩
abbrev cX9_bestGain : ByteArray := prog_11_method_55_code
def yX9_bestGain : MethodName := ⟨RX9, "bestGain", "(IIIII)I"⟩
abbrev cX9_put : ByteArray := prog_11_method_56_code
def yX9_put : MethodName := ⟨RX9, "put", "(J)I"⟩
abbrev cX9_wipe : ByteArray := prog_11_method_57_code
def yX9_wipe : MethodName := ⟨RX9, "wipe", "()I"⟩
abbrev cX9_next : ByteArray := prog_11_method_58_code
def yX9_next : MethodName := ⟨RX9, "next", "()I"⟩
abbrev cX9_need : ByteArray := prog_11_method_59_code
def yX9_need : MethodName := ⟨RX9, "need", "(I)V"⟩
abbrev cX9_readNumber : ByteArray := prog_11_method_60_code
def yX9_readNumber : MethodName := ⟨RX9, "readNumber", "(II)I"⟩
abbrev cX9_readUnit : ByteArray := prog_11_method_61_code
def yX9_readUnit : MethodName := ⟨RX9, "readUnit", "()I"⟩
abbrev cX9_readDisturbance : ByteArray := prog_11_method_62_code
def yX9_readDisturbance : MethodName := ⟨RX9, "readDisturbance", "(I)V"⟩
abbrev cX9_readStep : ByteArray := prog_11_method_63_code
def yX9_readStep : MethodName := ⟨RX9, "readStep", "()V"⟩
abbrev cX9_fault : ByteArray := prog_11_method_64_code
def yX9_fault : MethodName := ⟨RX9, "fault", "()I"⟩
abbrev cX9_carryOutStep : ByteArray := prog_11_method_65_code
def yX9_carryOutStep : MethodName := ⟨RX9, "carryOutStep", "(I)V"⟩
abbrev cX9_carryOut : ByteArray := prog_11_method_66_code
def yX9_carryOut : MethodName := ⟨RX9, "carryOut", "()I"⟩
abbrev cX9_count : ByteArray := prog_11_method_67_code
def yX9_count : MethodName := ⟨RX9, "count", "(I)I"⟩
abbrev cX9_save : ByteArray := prog_11_method_68_code
def yX9_save : MethodName := ⟨RX9, "save", "(I)I"⟩
abbrev cX9_restore : ByteArray := prog_11_method_69_code
def yX9_restore : MethodName := ⟨RX9, "restore", "(I)I"⟩
def RJ9 : String := "java/lang/Math"
def TJ9 : u_T := fun k => match k with
  | _ => ("", "", "", false)
def tyJ9 : Nat → FieldType := fun k => match k with
  | _ => .int
abbrev wsJ90 : List Cond := u_ws RJ9 TJ9 0
theorem nmJ9 : ∀ a, a < 0 → ∀ b, b < 0 → a ≠ b → (TJ9 a).2.1 ≠ (TJ9 b).2.1 := by decide +kernel
theorem tyJ9_ok : ∀ k, k < 0 → parseFieldDescriptor (TJ9 k).2.2.1 = some (tyJ9 k) := by decide +kernel
abbrev cJ9_abs_0f7a4 : ByteArray := prog_12_method_59_code
def yJ9_abs_0f7a4 : MethodName := ⟨RJ9, "abs", "(I)I"⟩
abbrev cJ9_max_7cf53 : ByteArray := prog_12_method_65_code
def yJ9_max_7cf53 : MethodName := ⟨RJ9, "max", "(II)I"⟩
abbrev cJ9_min_7cf53 : ByteArray := prog_12_method_69_code
def yJ9_min_7cf53 : MethodName := ⟨RJ9, "min", "(II)I"⟩
def RJ10 : String := "java/lang/System"
def TJ10 : u_T := fun k => match k with
  | _ => ("", "", "", false)
def tyJ10 : Nat → FieldType := fun k => match k with
  | _ => .int
abbrev wsJ100 : List Cond := u_ws RJ10 TJ10 0
theorem nmJ10 : ∀ a, a < 0 → ∀ b, b < 0 → a ≠ b → (TJ10 a).2.1 ≠ (TJ10 b).2.1 := by decide +kernel
theorem tyJ10_ok : ∀ k, k < 0 → parseFieldDescriptor (TJ10 k).2.2.1 = some (tyJ10 k) := by decide +kernel
def RL : String := "PrintRegisterLaw"
abbrev cL_law : ByteArray := code
def yL_law : MethodName := ⟨RL, "law", "([I)Z"⟩
-- ===== the words of the tables, in one list; a row for each =====
def pr_A0 : List Cond := [.code yX0_init cX0_init 1 none, .methodLink RX0 1 objectInit, .instanceMethod objectInit, .code objectInit ⟨#[0xb1]⟩ 1 none, .code yX0_clear cX0_clear 1 none, .fieldLink RX0 7 "PrintRegister$Controller" "feed" "I", .fieldLink RX0 13 "PrintRegister$Controller" "sum" "I", .fieldLink RX0 16 "PrintRegister$Controller" "wait" "I", .fieldLink RX0 19 "PrintRegister$Controller" "misses" "I", .fieldLink RX0 22 "PrintRegister$Controller" "readyTime" "I", .fieldLink RX0 25 "PrintRegister$Controller" "expectedError" "I", .fieldLink RX0 28 "PrintRegister$Controller" "expectedSkew" "I", .fieldLink RX0 31 "PrintRegister$Controller" "addedPhase" "I", .fieldLink RX0 34 "PrintRegister$Controller" "addedSkew" "I", .code yX0_copyFrom cX0_copyFrom 2 none, .code yX8_lessOne cX8_lessOne 1 (some .int), .code yX0_endRepeat cX0_endRepeat 1 none, .static yX8_lessOne, .initialized RX8, .code yX1_init cX1_init 1 none, .methodLink RX1 3 objectInit, .arrayClass .int, .fieldLink RX1 9 "PrintRegister$ErrorLog" "places" "[I", .code yX1_begin cX1_begin 1 none, .fieldLink RX1 15 "PrintRegister$ErrorLog" "added" "I", .code yX1_copyFrom cX1_copyFrom 2 none, .methodLink RX1 19 arraycopyName, .native arraycopyName, .static arraycopyName, .initialized "java/lang/System", .code yX1_add cX1_add 2 none, .code yX1_kept cX1_kept 2 (some .int), .methodLink RX1 25 Lib.Math.min.name, .static Lib.Math.min.name, .initialized "java/lang/Math", .code Lib.Math.min.name Lib.Math.min.code 2 (some .int), .code yX1_sizeOf cX1_sizeOf 2 (some .int), .methodLink RX1 31 Lib.Math.abs.name, .static Lib.Math.abs.name, .code Lib.Math.abs.name Lib.Math.abs.code 1 (some .int)]
def pr_A1 : List Cond := [.code yX1_greatest cX1_greatest 4 (some .int), .methodLink RX1 41 Lib.Math.max.name, .static Lib.Math.max.name, .code Lib.Math.max.name Lib.Math.max.code 2 (some .int), .methodLink RX1 35 yX1_kept, .instanceMethod yX1_kept, .selects RX1 yX1_kept yX1_kept, .initialized RX1, .methodLink RX1 38 yX1_sizeOf, .instanceMethod yX1_sizeOf, .selects RX1 yX1_sizeOf yX1_sizeOf, .code yX1_sumOf cX1_sumOf 4 (some .int), .code yX1_greaterThan cX1_greaterThan 5 (some .int), .code yX2_init cX2_init 1 none, .methodLink RX2 3 objectInit, .fieldLink RX2 9 "PrintRegister$Pad" "codes" "[I", .code yX2_append cX2_append 2 none, .fieldLink RX2 15 "PrintRegister$Pad" "length" "I", .code yX2_codeAt cX2_codeAt 2 (some .int), .code yX2_beginReading cX2_beginReading 1 none, .fieldLink RX2 19 "PrintRegister$Pad" "at" "I", .fieldLink RX2 22 "PrintRegister$Pad" "failed" "Z", .code yX2_hasMore cX2_hasMore 1 (some .boolean), .code yX2_readSign cX2_readSign 2 none, .methodLink RX2 61 yX2_codeAt, .instanceMethod yX2_codeAt, .selects RX2 yX2_codeAt yX2_codeAt, .initialized RX2, .code yX2_digitAt cX2_digitAt 3 (some .int), .code yX2_readNumber cX2_readNumber 5 (some .int), .methodLink RX2 75 yX2_digitAt, .instanceMethod yX2_digitAt, .selects RX2 yX2_digitAt yX2_digitAt, .code yX2_readUnit cX2_readUnit 2 (some .int), .code yX2_readDisturbance cX2_readDisturbance 3 none, .fieldLink RX2 41 "PrintRegister$Pad" "number" "I", .fieldLink RX2 78 "PrintRegister$Pad" "duration" "I", .methodLink RX2 57 yX2_readSign, .instanceMethod yX2_readSign, .selects RX2 yX2_readSign yX2_readSign]
def pr_A2 : List Cond := [.methodLink RX2 65 yX2_readNumber, .instanceMethod yX2_readNumber, .selects RX2 yX2_readNumber yX2_readNumber, .fieldLink RX2 38 "PrintRegister$Pad" "kind" "I", .fieldLink RX2 44 "PrintRegister$Pad" "unit" "I", .methodLink RX2 68 yX2_readUnit, .instanceMethod yX2_readUnit, .selects RX2 yX2_readUnit yX2_readUnit, .methodLink RX2 72 yX2_readDisturbance, .instanceMethod yX2_readDisturbance, .selects RX2 yX2_readDisturbance yX2_readDisturbance, .code yX2_readStep cX2_readStep 1 none, .fieldLink RX2 29 "PrintRegister$Pad" "repeats" "I", .fieldLink RX2 32 "PrintRegister$Pad" "greatestUnit" "I", .methodLink RX2 47 Lib.Math.max.name, .methodLink RX2 26 yX2_beginReading, .instanceMethod yX2_beginReading, .selects RX2 yX2_beginReading yX2_beginReading, .methodLink RX2 35 yX2_readStep, .instanceMethod yX2_readStep, .selects RX2 yX2_readStep yX2_readStep, .methodLink RX2 53 yX2_hasMore, .instanceMethod yX2_hasMore, .selects RX2 yX2_hasMore yX2_hasMore, .code yX2_readAll cX2_readAll 2 none, .code yX4_init cX4_init 1 none, .methodLink RX4 3 objectInit, .fieldLink RX4 9 "PrintRegister$Printer" "offsets" "[I", .fieldLink RX4 15 "PrintRegister$Printer" "skews" "[I", .code yX5_init cX5_init 1 none, .methodLink RX5 3 objectInit, .classLink RX5 9 RX1, .instantiable RX1 2, .fieldLink RX5 12 "PrintRegister$Sensor" "log" "LPrintRegister$ErrorLog;", .instanceMethod yX1_init, .methodLink RX7 3 objectInit, .fieldLink RX7 9 "PrintRegister$Unit" "settings" "[I", .classLink RX7 15 RX4, .instantiable RX4 8, .initialized RX4]
def pr_A3 : List Cond := [.fieldLink RX7 18 "PrintRegister$Unit" "printer" "LPrintRegister$Printer;", .classLink RX7 22 RX0, .instantiable RX0 9, .initialized RX0, .fieldLink RX7 25 "PrintRegister$Unit" "controller" "LPrintRegister$Controller;", .classLink RX7 29 RX5, .instantiable RX5 10, .initialized RX5, .fieldLink RX7 32 "PrintRegister$Unit" "sensor" "LPrintRegister$Sensor;", .instanceMethod yX4_init, .instanceMethod yX0_init, .instanceMethod yX5_init, .code yX7_init cX7_init 1 none, .methodLink RX3 3 objectInit, .classLink RX3 9 RX7, .fieldLink RX3 11 "PrintRegister$Press" "units" "[LPrintRegister$Unit;", .fieldLink RX3 17 "PrintRegister$Press" "changes" "[I", .fieldLink RX3 21 "PrintRegister$Press" "totals" "[I", .instantiable RX7 4, .initialized RX7, .instanceMethod yX7_init, .code yX3_init cX3_init 2 none, .code yX4_begin cX4_begin 1 none, .fieldLink RX4 18 "PrintRegister$Printer" "phase" "I", .fieldLink RX4 22 "PrintRegister$Printer" "skewSetting" "I", .fieldLink RX4 25 "PrintRegister$Printer" "tilt" "I", .fieldLink RX4 28 "PrintRegister$Printer" "disturbanceAmount" "I", .fieldLink RX4 31 "PrintRegister$Printer" "disturbanceDuration" "I", .fieldLink RX4 34 "PrintRegister$Printer" "disturbanceLeft" "I", .code yX5_seeNothing cX5_seeNothing 1 none, .fieldLink RX5 50 "PrintRegister$Sensor" "sawPiece" "Z", .fieldLink RX5 54 "PrintRegister$Sensor" "recognized" "I", .code yX5_begin cX5_begin 1 none, .fieldLink RX5 21 "PrintRegister$Sensor" "hiddenLeft" "I", .fieldLink RX5 25 "PrintRegister$Sensor" "falseOffset" "I", .fieldLink RX5 28 "PrintRegister$Sensor" "falseLeft" "I", .fieldLink RX5 34 "PrintRegister$Sensor" "trueError" "I", .fieldLink RX5 37 "PrintRegister$Sensor" "trueSkew" "I", .fieldLink RX5 40 "PrintRegister$Sensor" "offset" "I", .fieldLink RX5 43 "PrintRegister$Sensor" "skew" "I"]
def pr_A4 : List Cond := [.methodLink RX5 18 yX1_begin, .instanceMethod yX1_begin, .selects RX1 yX1_begin yX1_begin, .methodLink RX5 31 yX5_seeNothing, .instanceMethod yX5_seeNothing, .selects RX5 yX5_seeNothing yX5_seeNothing, .methodLink RX7 39 yX4_begin, .instanceMethod yX4_begin, .selects RX4 yX4_begin yX4_begin, .methodLink RX7 42 yX0_clear, .instanceMethod yX0_clear, .selects RX0 yX0_clear yX0_clear, .methodLink RX7 45 yX5_begin, .instanceMethod yX5_begin, .selects RX5 yX5_begin yX5_begin, .code yX7_begin cX7_begin 2 none, .fieldLink RX3 25 "PrintRegister$Press" "unitCount" "I", .fieldLink RX3 29 "PrintRegister$Press" "time" "I", .fieldLink RX3 32 "PrintRegister$Press" "speedNow" "I", .fieldLink RX3 35 "PrintRegister$Press" "speedBefore" "I", .fieldLink RX3 38 "PrintRegister$Press" "spliceStart" "I", .fieldLink RX3 41 "PrintRegister$Press" "spliceAmount" "I", .fieldLink RX3 44 "PrintRegister$Press" "spliceDuration" "I", .methodLink RX3 47 yX7_begin, .instanceMethod yX7_begin, .selects RX7 yX7_begin yX7_begin, .code yX3_begin cX3_begin 3 none, .code yX4_copyFrom cX4_copyFrom 2 none, .methodLink RX4 37 arraycopyName, .code yX5_copyFrom cX5_copyFrom 2 none, .methodLink RX5 46 yX1_copyFrom, .instanceMethod yX1_copyFrom, .selects RX1 yX1_copyFrom yX1_copyFrom, .methodLink RX7 46 arraycopyName, .methodLink RX7 52 yX4_copyFrom, .instanceMethod yX4_copyFrom, .selects RX4 yX4_copyFrom yX4_copyFrom, .methodLink RX7 56 yX0_copyFrom, .instanceMethod yX0_copyFrom, .selects RX0 yX0_copyFrom yX0_copyFrom]
def pr_A5 : List Cond := [.methodLink RX7 59 yX5_copyFrom, .instanceMethod yX5_copyFrom, .selects RX5 yX5_copyFrom yX5_copyFrom, .code yX7_copyFrom cX7_copyFrom 2 none, .methodLink RX3 50 arraycopyName, .methodLink RX3 56 yX7_copyFrom, .instanceMethod yX7_copyFrom, .selects RX7 yX7_copyFrom yX7_copyFrom, .code yX3_copyFrom cX3_copyFrom 3 none, .code yX3_unitAt cX3_unitAt 2 (some (.object "PrintRegister$Unit")), .code yX3_controlledUnitAt cX3_controlledUnitAt 2 (some (.object "PrintRegister$Unit")), .methodLink RX3 60 yX3_unitAt, .instanceMethod yX3_unitAt, .selects RX3 yX3_unitAt yX3_unitAt, .initialized RX3, .code yX7_setting cX7_setting 2 (some .int), .code yX3_wayOf cX3_wayOf 4 (some .int), .methodLink RX3 64 yX7_setting, .instanceMethod yX7_setting, .selects RX7 yX7_setting yX7_setting, .code yX3_startSplice cX3_startSplice 3 none, .code yX3_repeatsToLastUnit cX3_repeatsToLastUnit 1 (some .int), .methodLink RX3 71 Lib.Math.max.name, .methodLink RX3 68 yX3_wayOf, .instanceMethod yX3_wayOf, .selects RX3 yX3_wayOf yX3_wayOf, .code yX3_isWithin cX3_isWithin 4 (some .boolean), .methodLink RX3 90 Lib.Math.abs.name, .code yX7_changeSetting cX7_changeSetting 3 none, .code yX4_beDisturbed cX4_beDisturbed 3 none, .code yX7_beSpliced cX7_beSpliced 3 none, .methodLink RX7 62 yX4_beDisturbed, .instanceMethod yX4_beDisturbed, .selects RX4 yX4_beDisturbed yX4_beDisturbed, .methodLink RX7 70 yX7_setting, .methodLink RX3 116 yX7_beSpliced, .instanceMethod yX7_beSpliced, .selects RX7 yX7_beSpliced yX7_beSpliced, .code yX3_bringSplice cX3_bringSplice 3 none, .code yX4_disturbance cX4_disturbance 1 (some .int)]
def pr_A6 : List Cond := [.code yX4_printPiece cX4_printPiece 3 none, .methodLink RX4 43 yX4_disturbance, .instanceMethod yX4_disturbance, .selects RX4 yX4_disturbance yX4_disturbance, .methodLink RX7 80 yX4_printPiece, .instanceMethod yX4_printPiece, .selects RX4 yX4_printPiece yX4_printPiece, .code yX7_printPiece cX7_printPiece 3 none, .code yX4_offsetAt cX4_offsetAt 2 (some .int), .code yX4_skewAt cX4_skewAt 2 (some .int), .code yX5_seePiece cX5_seePiece 3 none, .methodLink RX5 57 yX1_add, .instanceMethod yX1_add, .selects RX1 yX1_add yX1_add, .code yX7_window cX7_window 2 (some .int), .code yX5_recognizeNear cX5_recognizeNear 8 none, .methodLink RX5 61 Lib.Math.abs.name, .methodLink RX7 89 yX7_window, .instanceMethod yX7_window, .selects RX7 yX7_window yX7_window, .methodLink RX7 93 yX5_recognizeNear, .instanceMethod yX5_recognizeNear, .selects RX5 yX5_recognizeNear yX5_recognizeNear, .code yX7_recognizeMark cX7_recognizeMark 2 (some .boolean), .code yX8_limited cX8_limited 2 (some .int), .code yX7_learnFrom cX7_learnFrom 4 (some .boolean), .methodLink RX7 103 Lib.Math.abs.name, .static yX8_limited, .code yX7_expectAsMeasured cX7_expectAsMeasured 1 none, .code yX7_isOff cX7_isOff 2 (some .boolean), .code yX7_correctPhase cX7_correctPhase 4 (some .int), .code yX7_correctSkew cX7_correctSkew 3 (some .int), .methodLink RX3 147 yX7_learnFrom, .instanceMethod yX7_learnFrom, .selects RX7 yX7_learnFrom yX7_learnFrom, .methodLink RX3 151 yX7_expectAsMeasured, .instanceMethod yX7_expectAsMeasured, .selects RX7 yX7_expectAsMeasured yX7_expectAsMeasured, .methodLink RX3 166 yX7_isOff, .instanceMethod yX7_isOff]
def pr_A7 : List Cond := [.selects RX7 yX7_isOff yX7_isOff, .methodLink RX3 172 yX7_correctPhase, .instanceMethod yX7_correctPhase, .selects RX7 yX7_correctPhase yX7_correctPhase, .methodLink RX3 179 yX7_correctSkew, .instanceMethod yX7_correctSkew, .selects RX7 yX7_correctSkew yX7_correctSkew, .code yX3_control cX3_control 5 none, .methodLink RX3 119 yX5_seeNothing, .methodLink RX3 126 yX4_offsetAt, .instanceMethod yX4_offsetAt, .selects RX4 yX4_offsetAt yX4_offsetAt, .methodLink RX3 131 yX4_skewAt, .instanceMethod yX4_skewAt, .selects RX4 yX4_skewAt yX4_skewAt, .methodLink RX3 134 yX5_seePiece, .instanceMethod yX5_seePiece, .selects RX5 yX5_seePiece yX5_seePiece, .methodLink RX3 137 yX7_recognizeMark, .instanceMethod yX7_recognizeMark, .selects RX7 yX7_recognizeMark yX7_recognizeMark, .methodLink RX3 144 yX3_control, .instanceMethod yX3_control, .selects RX3 yX3_control yX3_control, .code yX3_watchUnit cX3_watchUnit 6 none, .code yX7_endRepeat cX7_endRepeat 1 none, .methodLink RX7 124 yX0_endRepeat, .instanceMethod yX0_endRepeat, .selects RX0 yX0_endRepeat yX0_endRepeat, .methodLink RX3 103 yX3_bringSplice, .instanceMethod yX3_bringSplice, .selects RX3 yX3_bringSplice yX3_bringSplice, .methodLink RX3 106 yX7_printPiece, .instanceMethod yX7_printPiece, .selects RX7 yX7_printPiece yX7_printPiece, .methodLink RX3 109 yX3_watchUnit, .instanceMethod yX3_watchUnit, .selects RX3 yX3_watchUnit yX3_watchUnit, .methodLink RX3 113 yX7_endRepeat, .instanceMethod yX7_endRepeat]
def pr_A8 : List Cond := [.selects RX7 yX7_endRepeat yX7_endRepeat, .code yX3_makeRepeat cX3_makeRepeat 4 none, .methodLink RX3 93 yX3_copyFrom, .instanceMethod yX3_copyFrom, .selects RX3 yX3_copyFrom yX3_copyFrom, .methodLink RX3 96 yX7_changeSetting, .instanceMethod yX7_changeSetting, .selects RX7 yX7_changeSetting yX7_changeSetting, .methodLink RX3 100 yX3_makeRepeat, .instanceMethod yX3_makeRepeat, .selects RX3 yX3_makeRepeat yX3_makeRepeat, .code yX3_sumErrorsIn cX3_sumErrorsIn 9 (some .int), .code yX4_byHand cX4_byHand 2 (some .int), .code yX4_changeByHand cX4_changeByHand 3 none, .code yX5_sight cX5_sight 2 (some .int), .methodLink RX6 1 objectInit, .classLink RX6 7 RX3, .instantiable RX3 10, .fieldLink RX6 10 "PrintRegister$Slot" "saved" "LPrintRegister$Press;", .methodLink RX6 9 yX3_init, .instanceMethod yX3_init, .code yX6_init cX6_init 1 none, .methodLink RX8 1 objectInit, .classLink RX8 7 RX3, .fieldLink RX8 10 "PrintRegister" "press" "LPrintRegister$Press;", .fieldLink RX8 16 "PrintRegister" "copy" "LPrintRegister$Press;", .classLink RX8 19 RX6, .instantiable RX6 2, .initialized RX6, .fieldLink RX8 22 "PrintRegister" "slot0" "LPrintRegister$Slot;", .fieldLink RX8 26 "PrintRegister" "slot1" "LPrintRegister$Slot;", .classLink RX8 29 RX2, .instantiable RX2 10, .fieldLink RX8 32 "PrintRegister" "pad" "LPrintRegister$Pad;", .methodLink RX8 9 yX3_init, .instanceMethod yX6_init, .instanceMethod yX2_init, .methodLink RX8 36 yX3_begin, .instanceMethod yX3_begin, .selects RX3 yX3_begin yX3_begin]
def pr_A9 : List Cond := [.code yX8_init cX8_init 1 none, .code yX8_isOutside cX8_isOutside 3 (some .boolean), .constant RX8 44 (-1000000002), .methodLink RX8 40 yX8_isOutside, .static yX8_isOutside, .code yX8_setUp cX8_setUp 3 (some .int), .code yX8_isSettingValue cX8_isSettingValue 2 (some .boolean), .fieldLink RX8 280 "PrintRegister" "LEAST_SETTINGS" "[I", .fieldLink RX8 283 "PrintRegister" "GREATEST_SETTINGS" "[I", .code yX8_isPlace cX8_isPlace 1 (some .boolean), .constant RX8 53 (-1000000001), .constant RX8 62 (-1000000005), .methodLink RX8 49 yX3_unitAt, .methodLink RX8 54 yX8_isSettingValue, .static yX8_isSettingValue, .methodLink RX8 58 yX8_isPlace, .static yX8_isPlace, .methodLink RX8 63 yX7_setting, .methodLink RX8 69 yX7_changeSetting, .code yX8_set cX8_set 6 (some .int), .code yX8_get cX8_get 4 (some .int), .fieldLink RX8 73 "PrintRegister" "MOST_BY_HAND" "[I", .methodLink RX8 81 yX4_byHand, .instanceMethod yX4_byHand, .selects RX4 yX4_byHand yX4_byHand, .methodLink RX8 86 yX4_changeByHand, .instanceMethod yX4_changeByHand, .selects RX4 yX4_changeByHand yX4_changeByHand, .code yX8_adjust cX8_adjust 6 (some .int), .code yX8_restart cX8_restart 4 (some .int), .methodLink RX8 98 yX0_clear, .code yX8_speed cX8_speed 3 (some .int), .code yX8_isDisturbance cX8_isDisturbance 2 (some .boolean), .methodLink RX8 104 yX8_isDisturbance, .static yX8_isDisturbance, .methodLink RX8 107 yX4_beDisturbed, .code yX8_disturb cX8_disturb 5 (some .int), .code yX8_hide cX8_hide 5 (some .int), .code yX8_falseMark cX8_falseMark 6 (some .int), .methodLink RX8 125 yX3_startSplice]
def pr_A10 : List Cond := [.instanceMethod yX3_startSplice, .selects RX3 yX3_startSplice yX3_startSplice, .methodLink RX8 128 yX3_repeatsToLastUnit, .instanceMethod yX3_repeatsToLastUnit, .selects RX3 yX3_repeatsToLastUnit yX3_repeatsToLastUnit, .code yX8_splice cX8_splice 3 (some .int), .constant RX8 132 (100000), .methodLink RX8 133 yX3_makeRepeat, .code yX8_run cX8_run 3 (some .int), .constant RX8 152 (-1000000006), .methodLink RX8 136 yX4_offsetAt, .methodLink RX8 139 yX4_skewAt, .methodLink RX8 149 yX5_sight, .instanceMethod yX5_sight, .selects RX5 yX5_sight yX5_sight, .code yX8_seen cX8_seen 6 (some .int), .methodLink RX8 174 yX3_wayOf, .code yX8_state cX8_state 4 (some .int), .methodLink RX8 177 yX3_controlledUnitAt, .instanceMethod yX3_controlledUnitAt, .selects RX3 yX3_controlledUnitAt yX3_controlledUnitAt, .methodLink RX8 184 yX1_greatest, .instanceMethod yX1_greatest, .selects RX1 yX1_greatest yX1_greatest, .methodLink RX8 189 yX1_sumOf, .instanceMethod yX1_sumOf, .selects RX1 yX1_sumOf yX1_sumOf, .methodLink RX8 192 yX1_kept, .methodLink RX8 195 yX1_greaterThan, .instanceMethod yX1_greaterThan, .selects RX1 yX1_greaterThan yX1_greaterThan, .code yX8_errors cX8_errors 6 (some .int), .code yX8_total cX8_total 2 (some .int), .methodLink RX8 202 yX3_copyFrom, .methodLink RX8 206 yX3_isWithin, .instanceMethod yX3_isWithin, .selects RX3 yX3_isWithin yX3_isWithin, .code yX8_forecast cX8_forecast 7 (some .int), .methodLink RX8 209 yX3_sumErrorsIn, .instanceMethod yX3_sumErrorsIn]
def pr_A11 : List Cond := [.selects RX3 yX3_sumErrorsIn yX3_sumErrorsIn, .code yX8_attempt cX8_attempt 6 (some .int), .code yX8_bestGain cX8_bestGain 12 (some .int), .code yX8_charactersIn cX8_charactersIn 5 (some .int), .constantLong RX8 278 (255), .code yX8_put cX8_put 5 (some .int), .constant RX8 220 (-1000000004), .methodLink RX8 213 yX8_charactersIn, .static yX8_charactersIn, .methodLink RX8 221 yX2_append, .instanceMethod yX2_append, .selects RX2 yX2_append yX2_append, .code yX8_wipe cX8_wipe 2 (some .int), .methodLink RX8 224 yX2_readAll, .instanceMethod yX2_readAll, .selects RX2 yX2_readAll yX2_readAll, .code yX8_fault cX8_fault 1 (some .int), .code yX8_carryOutStep cX8_carryOutStep 2 none, .constant RX8 233 (-1000000003), .methodLink RX8 243 yX2_beginReading, .methodLink RX8 246 yX2_hasMore, .methodLink RX8 250 yX2_readStep, .methodLink RX8 253 yX8_carryOutStep, .instanceMethod yX8_carryOutStep, .selects RX8 yX8_carryOutStep yX8_carryOutStep, .code yX8_carryOut cX8_carryOut 3 (some .int), .code yX8_count cX8_count 2 (some .int), .code yX8_slotAt cX8_slotAt 2 (some (.object "PrintRegister$Slot")), .methodLink RX8 256 yX8_slotAt, .instanceMethod yX8_slotAt, .selects RX8 yX8_slotAt yX8_slotAt, .code yX8_save cX8_save 3 (some .int), .code yX8_restore cX8_restore 3 (some .int), .code yX9_firstValue cX9_firstValue 1 (some .int), .code yX9_place cX9_place 2 (some .int), .code yX9_lay cX9_lay 4 none, .fieldLink RX9 9 "PrintRegisterModel" "at" "[I", .methodLink RX9 33 yX9_place, .static yX9_place, .initialized RX9]
def pr_A12 : List Cond := [.code yX9_layAll cX9_layAll 4 none, .methodLink RX9 37 yX9_firstValue, .static yX9_firstValue, .methodLink RX9 41 yX9_lay, .instanceMethod yX9_lay, .selects RX9 yX9_lay yX9_lay, .methodLink RX9 3 objectInit, .fieldLink RX9 13 "PrintRegisterModel" "aside" "[I", .fieldLink RX9 16 "PrintRegisterModel" "slots" "[I", .arrayClass .boolean, .fieldLink RX9 19 "PrintRegisterModel" "isSaved" "[Z", .fieldLink RX9 23 "PrintRegisterModel" "pad" "[I", .fieldLink RX9 26 "PrintRegisterModel" "steps" "[I", .methodLink RX9 29 yX9_layAll, .instanceMethod yX9_layAll, .selects RX9 yX9_layAll yX9_layAll, .code yX9_init cX9_init 1 none, .code yX9_in cX9_in 3 (some .boolean), .code yX9_size cX9_size 1 (some .int), .code yX9_limited cX9_limited 2 (some .int), .code yX9_of cX9_of 3 (some .int), .code yX9_putAside cX9_putAside 2 none, .code yX9_putBack cX9_putBack 2 none, .code yX9_isUnit cX9_isUnit 2 (some .boolean), .methodLink RX9 45 yX9_in, .static yX9_in, .code yX9_way cX9_way 4 (some .int), .methodLink RX9 49 yX9_of, .instanceMethod yX9_of, .selects RX9 yX9_of yX9_of, .code yX9_setUp cX9_setUp 3 (some .int), .constant RX9 52 (-1000000002), .code yX9_takes cX9_takes 2 (some .boolean), .constant RX9 57 (-1000000001), .constant RX9 62 (-1000000005), .methodLink RX9 53 yX9_isUnit, .instanceMethod yX9_isUnit, .selects RX9 yX9_isUnit yX9_isUnit, .methodLink RX9 58 yX9_takes, .static yX9_takes]
def pr_A13 : List Cond := [.code yX9_set cX9_set 5 (some .int), .code yX9_get cX9_get 3 (some .int), .code yX9_adjust cX9_adjust 6 (some .int), .code yX9_restart cX9_restart 4 (some .int), .code yX9_speed cX9_speed 3 (some .int), .code yX9_giveDisturbance cX9_giveDisturbance 4 none, .code yX9_isDisturbance cX9_isDisturbance 2 (some .boolean), .methodLink RX9 63 yX9_isDisturbance, .static yX9_isDisturbance, .methodLink RX9 66 yX9_giveDisturbance, .instanceMethod yX9_giveDisturbance, .selects RX9 yX9_giveDisturbance yX9_giveDisturbance, .code yX9_disturb cX9_disturb 4 (some .int), .code yX9_hide cX9_hide 4 (some .int), .code yX9_falseMark cX9_falseMark 5 (some .int), .code yX9_startSplice cX9_startSplice 3 (some .int), .methodLink RX9 69 yX9_way, .instanceMethod yX9_way, .selects RX9 yX9_way yX9_way, .code yX9_splice cX9_splice 3 (some .int), .methodLink RX9 72 yX9_startSplice, .instanceMethod yX9_startSplice, .selects RX9 yX9_startSplice yX9_startSplice, .code yX9_tally cX9_tally 3 none, .code yX9_goOnSplice cX9_goOnSplice 3 none, .code yX9_print cX9_print 7 none, .constant RX9 75 (-1000000006), .code yX9_isSeen cX9_isSeen 2 (some .boolean), .code yX9_keepError cX9_keepError 3 none, .code yX9_see cX9_see 4 none, .methodLink RX9 76 yX9_keepError, .instanceMethod yX9_keepError, .selects RX9 yX9_keepError yX9_keepError, .code yX9_recognized cX9_recognized 8 (some .int), .methodLink RX9 80 yX9_size, .static yX9_size, .code yX9_recognize cX9_recognize 3 none, .methodLink RX9 83 yX9_recognized, .instanceMethod yX9_recognized, .selects RX9 yX9_recognized yX9_recognized]
def pr_A14 : List Cond := [.methodLink RX9 86 yX9_tally, .instanceMethod yX9_tally, .selects RX9 yX9_tally yX9_tally, .code yX9_isRecognized cX9_isRecognized 2 (some .boolean), .methodLink RX9 90 yX9_isSeen, .instanceMethod yX9_isSeen, .selects RX9 yX9_isSeen yX9_isSeen, .code yX9_learn cX9_learn 4 none, .methodLink RX9 93 yX9_limited, .static yX9_limited, .code yX9_expect cX9_expect 2 none, .code yX9_correct cX9_correct 9 none, .code yX9_decrease cX9_decrease 3 none, .code yX9_endRepeat cX9_endRepeat 2 none, .methodLink RX9 96 yX9_decrease, .instanceMethod yX9_decrease, .selects RX9 yX9_decrease yX9_decrease, .methodLink RX9 99 yX9_goOnSplice, .instanceMethod yX9_goOnSplice, .selects RX9 yX9_goOnSplice yX9_goOnSplice, .methodLink RX9 102 yX9_print, .instanceMethod yX9_print, .selects RX9 yX9_print yX9_print, .methodLink RX9 105 yX9_see, .instanceMethod yX9_see, .selects RX9 yX9_see yX9_see, .methodLink RX9 108 yX9_recognize, .instanceMethod yX9_recognize, .selects RX9 yX9_recognize yX9_recognize, .methodLink RX9 111 yX9_isRecognized, .instanceMethod yX9_isRecognized, .selects RX9 yX9_isRecognized yX9_isRecognized, .methodLink RX9 114 yX9_learn, .instanceMethod yX9_learn, .selects RX9 yX9_learn yX9_learn, .methodLink RX9 117 yX9_expect, .instanceMethod yX9_expect, .selects RX9 yX9_expect yX9_expect, .methodLink RX9 120 yX9_correct, .instanceMethod yX9_correct]
def pr_A15 : List Cond := [.selects RX9 yX9_correct yX9_correct, .methodLink RX9 123 yX9_endRepeat, .instanceMethod yX9_endRepeat, .selects RX9 yX9_endRepeat yX9_endRepeat, .code yX9_makeRepeat cX9_makeRepeat 2 none, .methodLink RX9 126 yX9_makeRepeat, .instanceMethod yX9_makeRepeat, .selects RX9 yX9_makeRepeat yX9_makeRepeat, .code yX9_makeRepeats cX9_makeRepeats 3 none, .constant RX9 129 (100000), .methodLink RX9 130 yX9_makeRepeats, .instanceMethod yX9_makeRepeats, .selects RX9 yX9_makeRepeats yX9_makeRepeats, .code yX9_run cX9_run 2 (some .int), .code yX9_seen cX9_seen 3 (some .int), .code yX9_state cX9_state 3 (some .int), .code yX9_isControlled cX9_isControlled 2 (some .boolean), .methodLink RX9 133 yX9_isControlled, .instanceMethod yX9_isControlled, .selects RX9 yX9_isControlled yX9_isControlled, .code yX9_errors cX9_errors 11 (some .int), .code yX9_total cX9_total 2 (some .int), .code yX9_comesBack cX9_comesBack 7 (some .int), .methodLink RX9 136 yX9_putAside, .instanceMethod yX9_putAside, .selects RX9 yX9_putAside yX9_putAside, .methodLink RX9 139 yX9_comesBack, .instanceMethod yX9_comesBack, .selects RX9 yX9_comesBack yX9_comesBack, .methodLink RX9 143 yX9_putBack, .instanceMethod yX9_putBack, .selects RX9 yX9_putBack yX9_putBack, .code yX9_forecast cX9_forecast 5 (some .int), .code yX9_tried cX9_tried 8 (some .int), .methodLink RX9 146 yX9_tried, .instanceMethod yX9_tried, .selects RX9 yX9_tried yX9_tried, .code yX9_attempt cX9_attempt 5 (some .int), .code yX9_bestGain cX9_bestGain 10 (some .int), .code yX9_put cX9_put 7 (some .int)]
def pr_A16 : List Cond := [.constantLong RX9 150 (255), .fieldLink RX9 152 "PrintRegisterModel" "padMany" "I", .constant RX9 156 (-1000000004), .code yX9_wipe cX9_wipe 2 (some .int), .code yX9_next cX9_next 1 (some .int), .fieldLink RX9 157 "PrintRegisterModel" "spot" "I", .code yX9_need cX9_need 2 none, .fieldLink RX9 160 "PrintRegisterModel" "isWrong" "Z", .methodLink RX9 164 yX9_next, .instanceMethod yX9_next, .selects RX9 yX9_next yX9_next, .code yX9_readNumber cX9_readNumber 4 (some .int), .code yX9_readUnit cX9_readUnit 1 (some .int), .code yX9_readDisturbance cX9_readDisturbance 4 none, .methodLink RX9 168 yX9_readNumber, .instanceMethod yX9_readNumber, .selects RX9 yX9_readNumber yX9_readNumber, .methodLink RX9 171 yX9_need, .instanceMethod yX9_need, .selects RX9 yX9_need yX9_need, .fieldLink RX9 174 "PrintRegisterModel" "stepMany" "I", .methodLink RX9 177 yX9_readUnit, .instanceMethod yX9_readUnit, .selects RX9 yX9_readUnit yX9_readUnit, .methodLink RX9 180 yX9_readDisturbance, .instanceMethod yX9_readDisturbance, .selects RX9 yX9_readDisturbance yX9_readDisturbance, .code yX9_readStep cX9_readStep 3 none, .methodLink RX9 183 yX9_readStep, .instanceMethod yX9_readStep, .selects RX9 yX9_readStep yX9_readStep, .code yX9_fault cX9_fault 1 (some .int), .code yX9_carryOutStep cX9_carryOutStep 2 none, .constant RX9 189 (-1000000003), .methodLink RX9 186 yX9_fault, .instanceMethod yX9_fault, .selects RX9 yX9_fault yX9_fault, .methodLink RX9 190 yX9_carryOutStep, .instanceMethod yX9_carryOutStep, .selects RX9 yX9_carryOutStep yX9_carryOutStep]
def pr_A17 : List Cond := [.code yX9_carryOut cX9_carryOut 4 (some .int), .code yX9_count cX9_count 2 (some .int), .code yX9_save cX9_save 3 (some .int), .code yX9_restore cX9_restore 3 (some .int), .code yJ9_abs_0f7a4 cJ9_abs_0f7a4 1 (some .int), .code yJ9_max_7cf53 cJ9_max_7cf53 2 (some .int), .code yJ9_min_7cf53 cJ9_min_7cf53 2 (some .int), .classLink RL 7 RX8, .instantiable RX8 5, .classLink RL 10 RX9, .instantiable RX9 10, .constantLong RL 90 (4294967295), .methodLink RL 9 yX8_init, .instanceMethod yX8_init, .methodLink RL 12 yX9_init, .instanceMethod yX9_init, .methodLink RL 13 yX8_setUp, .instanceMethod yX8_setUp, .selects RX8 yX8_setUp yX8_setUp, .methodLink RL 17 yX9_setUp, .instanceMethod yX9_setUp, .selects RX9 yX9_setUp yX9_setUp, .methodLink RL 18 yX8_set, .instanceMethod yX8_set, .selects RX8 yX8_set yX8_set, .methodLink RL 22 yX9_set, .instanceMethod yX9_set, .selects RX9 yX9_set yX9_set, .methodLink RL 23 yX8_get, .instanceMethod yX8_get, .selects RX8 yX8_get yX8_get, .methodLink RL 27 yX9_get, .instanceMethod yX9_get, .selects RX9 yX9_get yX9_get, .methodLink RL 28 yX8_adjust, .instanceMethod yX8_adjust, .selects RX8 yX8_adjust yX8_adjust, .methodLink RL 31 yX9_adjust, .instanceMethod yX9_adjust, .selects RX9 yX9_adjust yX9_adjust]
def pr_A18 : List Cond := [.methodLink RL 32 yX8_restart, .instanceMethod yX8_restart, .selects RX8 yX8_restart yX8_restart, .methodLink RL 35 yX9_restart, .instanceMethod yX9_restart, .selects RX9 yX9_restart yX9_restart, .methodLink RL 36 yX8_speed, .instanceMethod yX8_speed, .selects RX8 yX8_speed yX8_speed, .methodLink RL 39 yX9_speed, .instanceMethod yX9_speed, .selects RX9 yX9_speed yX9_speed, .methodLink RL 40 yX8_disturb, .instanceMethod yX8_disturb, .selects RX8 yX8_disturb yX8_disturb, .methodLink RL 43 yX9_disturb, .instanceMethod yX9_disturb, .selects RX9 yX9_disturb yX9_disturb, .methodLink RL 44 yX8_hide, .instanceMethod yX8_hide, .selects RX8 yX8_hide yX8_hide, .methodLink RL 47 yX9_hide, .instanceMethod yX9_hide, .selects RX9 yX9_hide yX9_hide, .methodLink RL 48 yX8_falseMark, .instanceMethod yX8_falseMark, .selects RX8 yX8_falseMark yX8_falseMark, .methodLink RL 51 yX9_falseMark, .instanceMethod yX9_falseMark, .selects RX9 yX9_falseMark yX9_falseMark, .methodLink RL 52 yX8_splice, .instanceMethod yX8_splice, .selects RX8 yX8_splice yX8_splice, .methodLink RL 55 yX9_splice, .instanceMethod yX9_splice, .selects RX9 yX9_splice yX9_splice, .methodLink RL 56 yX8_run, .instanceMethod yX8_run, .selects RX8 yX8_run yX8_run, .methodLink RL 59 yX9_run]
def pr_A19 : List Cond := [.instanceMethod yX9_run, .selects RX9 yX9_run yX9_run, .methodLink RL 60 yX8_seen, .instanceMethod yX8_seen, .selects RX8 yX8_seen yX8_seen, .methodLink RL 63 yX9_seen, .instanceMethod yX9_seen, .selects RX9 yX9_seen yX9_seen, .methodLink RL 64 yX8_state, .instanceMethod yX8_state, .selects RX8 yX8_state yX8_state, .methodLink RL 67 yX9_state, .instanceMethod yX9_state, .selects RX9 yX9_state yX9_state, .methodLink RL 68 yX8_errors, .instanceMethod yX8_errors, .selects RX8 yX8_errors yX8_errors, .methodLink RL 71 yX9_errors, .instanceMethod yX9_errors, .selects RX9 yX9_errors yX9_errors, .methodLink RL 72 yX8_total, .instanceMethod yX8_total, .selects RX8 yX8_total yX8_total, .methodLink RL 75 yX9_total, .instanceMethod yX9_total, .selects RX9 yX9_total yX9_total, .methodLink RL 76 yX8_forecast, .instanceMethod yX8_forecast, .selects RX8 yX8_forecast yX8_forecast, .methodLink RL 79 yX9_forecast, .instanceMethod yX9_forecast, .selects RX9 yX9_forecast yX9_forecast, .methodLink RL 80 yX8_attempt, .instanceMethod yX8_attempt, .selects RX8 yX8_attempt yX8_attempt, .methodLink RL 84 yX9_attempt, .instanceMethod yX9_attempt, .selects RX9 yX9_attempt yX9_attempt, .methodLink RL 85 yX8_bestGain, .instanceMethod yX8_bestGain]
def pr_A20 : List Cond := [.selects RX8 yX8_bestGain yX8_bestGain, .methodLink RL 89 yX9_bestGain, .instanceMethod yX9_bestGain, .selects RX9 yX9_bestGain yX9_bestGain, .methodLink RL 92 yX8_put, .instanceMethod yX8_put, .selects RX8 yX8_put yX8_put, .methodLink RL 96 yX9_put, .instanceMethod yX9_put, .selects RX9 yX9_put yX9_put, .methodLink RL 97 yX8_wipe, .instanceMethod yX8_wipe, .selects RX8 yX8_wipe yX8_wipe, .methodLink RL 101 yX9_wipe, .instanceMethod yX9_wipe, .selects RX9 yX9_wipe yX9_wipe, .methodLink RL 102 yX8_fault, .instanceMethod yX8_fault, .selects RX8 yX8_fault yX8_fault, .methodLink RL 105 yX9_fault, .methodLink RL 106 yX8_carryOut, .instanceMethod yX8_carryOut, .selects RX8 yX8_carryOut yX8_carryOut, .methodLink RL 109 yX9_carryOut, .instanceMethod yX9_carryOut, .selects RX9 yX9_carryOut yX9_carryOut, .methodLink RL 110 yX8_count, .instanceMethod yX8_count, .selects RX8 yX8_count yX8_count, .methodLink RL 113 yX9_count, .instanceMethod yX9_count, .selects RX9 yX9_count yX9_count, .methodLink RL 114 yX8_save, .instanceMethod yX8_save, .selects RX8 yX8_save yX8_save, .methodLink RL 117 yX9_save, .instanceMethod yX9_save, .selects RX9 yX9_save yX9_save, .methodLink RL 118 yX8_restore, .instanceMethod yX8_restore]
def pr_A21 : List Cond := [.selects RX8 yX8_restore yX8_restore, .methodLink RL 121 yX9_restore, .instanceMethod yX9_restore, .selects RX9 yX9_restore yX9_restore]
def pr_AL : List Cond := pr_A0 ++ (pr_A1 ++ (pr_A2 ++ (pr_A3 ++ (pr_A4 ++ (pr_A5 ++ (pr_A6 ++ (pr_A7 ++ (pr_A8 ++ (pr_A9 ++ (pr_A10 ++ (pr_A11 ++ (pr_A12 ++ (pr_A13 ++ (pr_A14 ++ (pr_A15 ++ (pr_A16 ++ (pr_A17 ++ (pr_A18 ++ (pr_A19 ++ (pr_A20 ++ (pr_A21 ++ (wsX00 ++ (wsX10 ++ (wsX20 ++ (wsX30 ++ (wsX40 ++ (wsX50 ++ (wsX60 ++ (wsX70 ++ (wsX80 ++ (wsX90)))))))))))))))))))))))))))))))
theorem pr_in_pr_A0 : ∀ w ∈ pr_A0, w ∈ pr_AL := fun _ h => List.mem_append_left _ h
theorem pr_in_pr_A1 : ∀ w ∈ pr_A1, w ∈ pr_AL := fun _ h => List.mem_append_right _ (List.mem_append_left _ h)
theorem pr_in_pr_A2 : ∀ w ∈ pr_A2, w ∈ pr_AL := fun _ h => List.mem_append_right _ (List.mem_append_right _ (List.mem_append_left _ h))
theorem pr_in_pr_A3 : ∀ w ∈ pr_A3, w ∈ pr_AL := fun _ h => List.mem_append_right _ (List.mem_append_right _ (List.mem_append_right _ (List.mem_append_left _ h)))
theorem pr_in_pr_A4 : ∀ w ∈ pr_A4, w ∈ pr_AL := fun _ h => List.mem_append_right _ (List.mem_append_right _ (List.mem_append_right _ (List.mem_append_right _ (List.mem_append_left _ h))))
theorem pr_in_pr_A5 : ∀ w ∈ pr_A5, w ∈ pr_AL := fun _ h => List.mem_append_right _ (List.mem_append_right _ (List.mem_append_right _ (List.mem_append_right _ (List.mem_append_right _ (List.mem_append_left _ h)))))
theorem pr_in_pr_A6 : ∀ w ∈ pr_A6, w ∈ pr_AL := fun _ h => List.mem_append_right _ (List.mem_append_right _ (List.mem_append_right _ (List.mem_append_right _ (List.mem_append_right _ (List.mem_append_right _ (List.mem_append_left _ h))))))
theorem pr_in_pr_A7 : ∀ w ∈ pr_A7, w ∈ pr_AL := fun _ h => List.mem_append_right _ (List.mem_append_right _ (List.mem_append_right _ (List.mem_append_right _ (List.mem_append_right _ (List.mem_append_right _ (List.mem_append_right _ (List.mem_append_left _ h)))))))
theorem pr_in_pr_A8 : ∀ w ∈ pr_A8, w ∈ pr_AL := fun _ h => List.mem_append_right _ (List.mem_append_right _ (List.mem_append_right _ (List.mem_append_right _ (List.mem_append_right _ (List.mem_append_right _ (List.mem_append_right _ (List.mem_append_right _ (List.mem_append_left _ h))))))))
theorem pr_in_pr_A9 : ∀ w ∈ pr_A9, w ∈ pr_AL := fun _ h => List.mem_append_right _ (List.mem_append_right _ (List.mem_append_right _ (List.mem_append_right _ (List.mem_append_right _ (List.mem_append_right _ (List.mem_append_right _ (List.mem_append_right _ (List.mem_append_right _ (List.mem_append_left _ h)))))))))
theorem pr_in_pr_A10 : ∀ w ∈ pr_A10, w ∈ pr_AL := fun _ h => List.mem_append_right _ (List.mem_append_right _ (List.mem_append_right _ (List.mem_append_right _ (List.mem_append_right _ (List.mem_append_right _ (List.mem_append_right _ (List.mem_append_right _ (List.mem_append_right _ (List.mem_append_right _ (List.mem_append_left _ h))))))))))
theorem pr_in_pr_A11 : ∀ w ∈ pr_A11, w ∈ pr_AL := fun _ h => List.mem_append_right _ (List.mem_append_right _ (List.mem_append_right _ (List.mem_append_right _ (List.mem_append_right _ (List.mem_append_right _ (List.mem_append_right _ (List.mem_append_right _ (List.mem_append_right _ (List.mem_append_right _ (List.mem_append_right _ (List.mem_append_left _ h)))))))))))
theorem pr_in_pr_A12 : ∀ w ∈ pr_A12, w ∈ pr_AL := fun _ h => List.mem_append_right _ (List.mem_append_right _ (List.mem_append_right _ (List.mem_append_right _ (List.mem_append_right _ (List.mem_append_right _ (List.mem_append_right _ (List.mem_append_right _ (List.mem_append_right _ (List.mem_append_right _ (List.mem_append_right _ (List.mem_append_right _ (List.mem_append_left _ h))))))))))))
theorem pr_in_pr_A13 : ∀ w ∈ pr_A13, w ∈ pr_AL := fun _ h => List.mem_append_right _ (List.mem_append_right _ (List.mem_append_right _ (List.mem_append_right _ (List.mem_append_right _ (List.mem_append_right _ (List.mem_append_right _ (List.mem_append_right _ (List.mem_append_right _ (List.mem_append_right _ (List.mem_append_right _ (List.mem_append_right _ (List.mem_append_right _ (List.mem_append_left _ h)))))))))))))
theorem pr_in_pr_A14 : ∀ w ∈ pr_A14, w ∈ pr_AL := fun _ h => List.mem_append_right _ (List.mem_append_right _ (List.mem_append_right _ (List.mem_append_right _ (List.mem_append_right _ (List.mem_append_right _ (List.mem_append_right _ (List.mem_append_right _ (List.mem_append_right _ (List.mem_append_right _ (List.mem_append_right _ (List.mem_append_right _ (List.mem_append_right _ (List.mem_append_right _ (List.mem_append_left _ h))))))))))))))
theorem pr_in_pr_A15 : ∀ w ∈ pr_A15, w ∈ pr_AL := fun _ h => List.mem_append_right _ (List.mem_append_right _ (List.mem_append_right _ (List.mem_append_right _ (List.mem_append_right _ (List.mem_append_right _ (List.mem_append_right _ (List.mem_append_right _ (List.mem_append_right _ (List.mem_append_right _ (List.mem_append_right _ (List.mem_append_right _ (List.mem_append_right _ (List.mem_append_right _ (List.mem_append_right _ (List.mem_append_left _ h)))))))))))))))
theorem pr_in_pr_A16 : ∀ w ∈ pr_A16, w ∈ pr_AL := fun _ h => List.mem_append_right _ (List.mem_append_right _ (List.mem_append_right _ (List.mem_append_right _ (List.mem_append_right _ (List.mem_append_right _ (List.mem_append_right _ (List.mem_append_right _ (List.mem_append_right _ (List.mem_append_right _ (List.mem_append_right _ (List.mem_append_right _ (List.mem_append_right _ (List.mem_append_right _ (List.mem_append_right _ (List.mem_append_right _ (List.mem_append_left _ h))))))))))))))))
theorem pr_in_pr_A17 : ∀ w ∈ pr_A17, w ∈ pr_AL := fun _ h => List.mem_append_right _ (List.mem_append_right _ (List.mem_append_right _ (List.mem_append_right _ (List.mem_append_right _ (List.mem_append_right _ (List.mem_append_right _ (List.mem_append_right _ (List.mem_append_right _ (List.mem_append_right _ (List.mem_append_right _ (List.mem_append_right _ (List.mem_append_right _ (List.mem_append_right _ (List.mem_append_right _ (List.mem_append_right _ (List.mem_append_right _ (List.mem_append_left _ h)))))))))))))))))
theorem pr_in_pr_A18 : ∀ w ∈ pr_A18, w ∈ pr_AL := fun _ h => List.mem_append_right _ (List.mem_append_right _ (List.mem_append_right _ (List.mem_append_right _ (List.mem_append_right _ (List.mem_append_right _ (List.mem_append_right _ (List.mem_append_right _ (List.mem_append_right _ (List.mem_append_right _ (List.mem_append_right _ (List.mem_append_right _ (List.mem_append_right _ (List.mem_append_right _ (List.mem_append_right _ (List.mem_append_right _ (List.mem_append_right _ (List.mem_append_right _ (List.mem_append_left _ h))))))))))))))))))
theorem pr_in_pr_A19 : ∀ w ∈ pr_A19, w ∈ pr_AL := fun _ h => List.mem_append_right _ (List.mem_append_right _ (List.mem_append_right _ (List.mem_append_right _ (List.mem_append_right _ (List.mem_append_right _ (List.mem_append_right _ (List.mem_append_right _ (List.mem_append_right _ (List.mem_append_right _ (List.mem_append_right _ (List.mem_append_right _ (List.mem_append_right _ (List.mem_append_right _ (List.mem_append_right _ (List.mem_append_right _ (List.mem_append_right _ (List.mem_append_right _ (List.mem_append_right _ (List.mem_append_left _ h)))))))))))))))))))
theorem pr_in_pr_A20 : ∀ w ∈ pr_A20, w ∈ pr_AL := fun _ h => List.mem_append_right _ (List.mem_append_right _ (List.mem_append_right _ (List.mem_append_right _ (List.mem_append_right _ (List.mem_append_right _ (List.mem_append_right _ (List.mem_append_right _ (List.mem_append_right _ (List.mem_append_right _ (List.mem_append_right _ (List.mem_append_right _ (List.mem_append_right _ (List.mem_append_right _ (List.mem_append_right _ (List.mem_append_right _ (List.mem_append_right _ (List.mem_append_right _ (List.mem_append_right _ (List.mem_append_right _ (List.mem_append_left _ h))))))))))))))))))))
theorem pr_in_pr_A21 : ∀ w ∈ pr_A21, w ∈ pr_AL := fun _ h => List.mem_append_right _ (List.mem_append_right _ (List.mem_append_right _ (List.mem_append_right _ (List.mem_append_right _ (List.mem_append_right _ (List.mem_append_right _ (List.mem_append_right _ (List.mem_append_right _ (List.mem_append_right _ (List.mem_append_right _ (List.mem_append_right _ (List.mem_append_right _ (List.mem_append_right _ (List.mem_append_right _ (List.mem_append_right _ (List.mem_append_right _ (List.mem_append_right _ (List.mem_append_right _ (List.mem_append_right _ (List.mem_append_right _ (List.mem_append_left _ h)))))))))))))))))))))
theorem pr_in_wsX00 : ∀ w ∈ wsX00, w ∈ pr_AL := fun _ h => List.mem_append_right _ (List.mem_append_right _ (List.mem_append_right _ (List.mem_append_right _ (List.mem_append_right _ (List.mem_append_right _ (List.mem_append_right _ (List.mem_append_right _ (List.mem_append_right _ (List.mem_append_right _ (List.mem_append_right _ (List.mem_append_right _ (List.mem_append_right _ (List.mem_append_right _ (List.mem_append_right _ (List.mem_append_right _ (List.mem_append_right _ (List.mem_append_right _ (List.mem_append_right _ (List.mem_append_right _ (List.mem_append_right _ (List.mem_append_right _ (List.mem_append_left _ h))))))))))))))))))))))
theorem pr_in_wsX10 : ∀ w ∈ wsX10, w ∈ pr_AL := fun _ h => List.mem_append_right _ (List.mem_append_right _ (List.mem_append_right _ (List.mem_append_right _ (List.mem_append_right _ (List.mem_append_right _ (List.mem_append_right _ (List.mem_append_right _ (List.mem_append_right _ (List.mem_append_right _ (List.mem_append_right _ (List.mem_append_right _ (List.mem_append_right _ (List.mem_append_right _ (List.mem_append_right _ (List.mem_append_right _ (List.mem_append_right _ (List.mem_append_right _ (List.mem_append_right _ (List.mem_append_right _ (List.mem_append_right _ (List.mem_append_right _ (List.mem_append_right _ (List.mem_append_left _ h)))))))))))))))))))))))
theorem pr_in_wsX20 : ∀ w ∈ wsX20, w ∈ pr_AL := fun _ h => List.mem_append_right _ (List.mem_append_right _ (List.mem_append_right _ (List.mem_append_right _ (List.mem_append_right _ (List.mem_append_right _ (List.mem_append_right _ (List.mem_append_right _ (List.mem_append_right _ (List.mem_append_right _ (List.mem_append_right _ (List.mem_append_right _ (List.mem_append_right _ (List.mem_append_right _ (List.mem_append_right _ (List.mem_append_right _ (List.mem_append_right _ (List.mem_append_right _ (List.mem_append_right _ (List.mem_append_right _ (List.mem_append_right _ (List.mem_append_right _ (List.mem_append_right _ (List.mem_append_right _ (List.mem_append_left _ h))))))))))))))))))))))))
theorem pr_in_wsX30 : ∀ w ∈ wsX30, w ∈ pr_AL := fun _ h => List.mem_append_right _ (List.mem_append_right _ (List.mem_append_right _ (List.mem_append_right _ (List.mem_append_right _ (List.mem_append_right _ (List.mem_append_right _ (List.mem_append_right _ (List.mem_append_right _ (List.mem_append_right _ (List.mem_append_right _ (List.mem_append_right _ (List.mem_append_right _ (List.mem_append_right _ (List.mem_append_right _ (List.mem_append_right _ (List.mem_append_right _ (List.mem_append_right _ (List.mem_append_right _ (List.mem_append_right _ (List.mem_append_right _ (List.mem_append_right _ (List.mem_append_right _ (List.mem_append_right _ (List.mem_append_right _ (List.mem_append_left _ h)))))))))))))))))))))))))
theorem pr_in_wsX40 : ∀ w ∈ wsX40, w ∈ pr_AL := fun _ h => List.mem_append_right _ (List.mem_append_right _ (List.mem_append_right _ (List.mem_append_right _ (List.mem_append_right _ (List.mem_append_right _ (List.mem_append_right _ (List.mem_append_right _ (List.mem_append_right _ (List.mem_append_right _ (List.mem_append_right _ (List.mem_append_right _ (List.mem_append_right _ (List.mem_append_right _ (List.mem_append_right _ (List.mem_append_right _ (List.mem_append_right _ (List.mem_append_right _ (List.mem_append_right _ (List.mem_append_right _ (List.mem_append_right _ (List.mem_append_right _ (List.mem_append_right _ (List.mem_append_right _ (List.mem_append_right _ (List.mem_append_right _ (List.mem_append_left _ h))))))))))))))))))))))))))
theorem pr_in_wsX50 : ∀ w ∈ wsX50, w ∈ pr_AL := fun _ h => List.mem_append_right _ (List.mem_append_right _ (List.mem_append_right _ (List.mem_append_right _ (List.mem_append_right _ (List.mem_append_right _ (List.mem_append_right _ (List.mem_append_right _ (List.mem_append_right _ (List.mem_append_right _ (List.mem_append_right _ (List.mem_append_right _ (List.mem_append_right _ (List.mem_append_right _ (List.mem_append_right _ (List.mem_append_right _ (List.mem_append_right _ (List.mem_append_right _ (List.mem_append_right _ (List.mem_append_right _ (List.mem_append_right _ (List.mem_append_right _ (List.mem_append_right _ (List.mem_append_right _ (List.mem_append_right _ (List.mem_append_right _ (List.mem_append_right _ (List.mem_append_left _ h)))))))))))))))))))))))))))
theorem pr_in_wsX60 : ∀ w ∈ wsX60, w ∈ pr_AL := fun _ h => List.mem_append_right _ (List.mem_append_right _ (List.mem_append_right _ (List.mem_append_right _ (List.mem_append_right _ (List.mem_append_right _ (List.mem_append_right _ (List.mem_append_right _ (List.mem_append_right _ (List.mem_append_right _ (List.mem_append_right _ (List.mem_append_right _ (List.mem_append_right _ (List.mem_append_right _ (List.mem_append_right _ (List.mem_append_right _ (List.mem_append_right _ (List.mem_append_right _ (List.mem_append_right _ (List.mem_append_right _ (List.mem_append_right _ (List.mem_append_right _ (List.mem_append_right _ (List.mem_append_right _ (List.mem_append_right _ (List.mem_append_right _ (List.mem_append_right _ (List.mem_append_right _ (List.mem_append_left _ h))))))))))))))))))))))))))))
theorem pr_in_wsX70 : ∀ w ∈ wsX70, w ∈ pr_AL := fun _ h => List.mem_append_right _ (List.mem_append_right _ (List.mem_append_right _ (List.mem_append_right _ (List.mem_append_right _ (List.mem_append_right _ (List.mem_append_right _ (List.mem_append_right _ (List.mem_append_right _ (List.mem_append_right _ (List.mem_append_right _ (List.mem_append_right _ (List.mem_append_right _ (List.mem_append_right _ (List.mem_append_right _ (List.mem_append_right _ (List.mem_append_right _ (List.mem_append_right _ (List.mem_append_right _ (List.mem_append_right _ (List.mem_append_right _ (List.mem_append_right _ (List.mem_append_right _ (List.mem_append_right _ (List.mem_append_right _ (List.mem_append_right _ (List.mem_append_right _ (List.mem_append_right _ (List.mem_append_right _ (List.mem_append_left _ h)))))))))))))))))))))))))))))
theorem pr_in_wsX80 : ∀ w ∈ wsX80, w ∈ pr_AL := fun _ h => List.mem_append_right _ (List.mem_append_right _ (List.mem_append_right _ (List.mem_append_right _ (List.mem_append_right _ (List.mem_append_right _ (List.mem_append_right _ (List.mem_append_right _ (List.mem_append_right _ (List.mem_append_right _ (List.mem_append_right _ (List.mem_append_right _ (List.mem_append_right _ (List.mem_append_right _ (List.mem_append_right _ (List.mem_append_right _ (List.mem_append_right _ (List.mem_append_right _ (List.mem_append_right _ (List.mem_append_right _ (List.mem_append_right _ (List.mem_append_right _ (List.mem_append_right _ (List.mem_append_right _ (List.mem_append_right _ (List.mem_append_right _ (List.mem_append_right _ (List.mem_append_right _ (List.mem_append_right _ (List.mem_append_right _ (List.mem_append_left _ h))))))))))))))))))))))))))))))
theorem pr_in_wsX90 : ∀ w ∈ wsX90, w ∈ pr_AL := fun _ h => List.mem_append_right _ (List.mem_append_right _ (List.mem_append_right _ (List.mem_append_right _ (List.mem_append_right _ (List.mem_append_right _ (List.mem_append_right _ (List.mem_append_right _ (List.mem_append_right _ (List.mem_append_right _ (List.mem_append_right _ (List.mem_append_right _ (List.mem_append_right _ (List.mem_append_right _ (List.mem_append_right _ (List.mem_append_right _ (List.mem_append_right _ (List.mem_append_right _ (List.mem_append_right _ (List.mem_append_right _ (List.mem_append_right _ (List.mem_append_right _ (List.mem_append_right _ (List.mem_append_right _ (List.mem_append_right _ (List.mem_append_right _ (List.mem_append_right _ (List.mem_append_right _ (List.mem_append_right _ (List.mem_append_right _ (List.mem_append_right _ (h)))))))))))))))))))))))))))))))
theorem pr_w0 : Cond.code yX0_init cX0_init 1 none ∈ pr_AL := pr_in_pr_A0 _ (List.mem_of_getElem? (i := 0) (by decide +kernel))
theorem pr_w1 : Cond.methodLink RX0 1 objectInit ∈ pr_AL := pr_in_pr_A0 _ (List.mem_of_getElem? (i := 1) (by decide +kernel))
theorem pr_w2 : Cond.instanceMethod objectInit ∈ pr_AL := pr_in_pr_A0 _ (List.mem_of_getElem? (i := 2) (by decide +kernel))
theorem pr_w3 : Cond.code objectInit ⟨#[0xb1]⟩ 1 none ∈ pr_AL := pr_in_pr_A0 _ (List.mem_of_getElem? (i := 3) (by decide +kernel))
theorem pr_w4 : Cond.code yX0_clear cX0_clear 1 none ∈ pr_AL := pr_in_pr_A0 _ (List.mem_of_getElem? (i := 4) (by decide +kernel))
theorem pr_w5 : Cond.fieldLink RX0 7 "PrintRegister$Controller" "feed" "I" ∈ pr_AL := pr_in_pr_A0 _ (List.mem_of_getElem? (i := 5) (by decide +kernel))
theorem pr_w6 : Cond.fieldLink RX0 13 "PrintRegister$Controller" "sum" "I" ∈ pr_AL := pr_in_pr_A0 _ (List.mem_of_getElem? (i := 6) (by decide +kernel))
theorem pr_w7 : Cond.fieldLink RX0 16 "PrintRegister$Controller" "wait" "I" ∈ pr_AL := pr_in_pr_A0 _ (List.mem_of_getElem? (i := 7) (by decide +kernel))
theorem pr_w8 : Cond.fieldLink RX0 19 "PrintRegister$Controller" "misses" "I" ∈ pr_AL := pr_in_pr_A0 _ (List.mem_of_getElem? (i := 8) (by decide +kernel))
theorem pr_w9 : Cond.fieldLink RX0 22 "PrintRegister$Controller" "readyTime" "I" ∈ pr_AL := pr_in_pr_A0 _ (List.mem_of_getElem? (i := 9) (by decide +kernel))
theorem pr_w10 : Cond.fieldLink RX0 25 "PrintRegister$Controller" "expectedError" "I" ∈ pr_AL := pr_in_pr_A0 _ (List.mem_of_getElem? (i := 10) (by decide +kernel))
theorem pr_w11 : Cond.fieldLink RX0 28 "PrintRegister$Controller" "expectedSkew" "I" ∈ pr_AL := pr_in_pr_A0 _ (List.mem_of_getElem? (i := 11) (by decide +kernel))
theorem pr_w12 : Cond.fieldLink RX0 31 "PrintRegister$Controller" "addedPhase" "I" ∈ pr_AL := pr_in_pr_A0 _ (List.mem_of_getElem? (i := 12) (by decide +kernel))
theorem pr_w13 : Cond.fieldLink RX0 34 "PrintRegister$Controller" "addedSkew" "I" ∈ pr_AL := pr_in_pr_A0 _ (List.mem_of_getElem? (i := 13) (by decide +kernel))
theorem pr_w14 : Cond.code yX0_copyFrom cX0_copyFrom 2 none ∈ pr_AL := pr_in_pr_A0 _ (List.mem_of_getElem? (i := 14) (by decide +kernel))
theorem pr_w15 : Cond.code yX8_lessOne cX8_lessOne 1 (some .int) ∈ pr_AL := pr_in_pr_A0 _ (List.mem_of_getElem? (i := 15) (by decide +kernel))
theorem pr_w16 : Cond.code yX0_endRepeat cX0_endRepeat 1 none ∈ pr_AL := pr_in_pr_A0 _ (List.mem_of_getElem? (i := 16) (by decide +kernel))
theorem pr_w17 : Cond.static yX8_lessOne ∈ pr_AL := pr_in_pr_A0 _ (List.mem_of_getElem? (i := 17) (by decide +kernel))
theorem pr_w18 : Cond.initialized RX8 ∈ pr_AL := pr_in_pr_A0 _ (List.mem_of_getElem? (i := 18) (by decide +kernel))
theorem pr_w19 : Cond.code yX1_init cX1_init 1 none ∈ pr_AL := pr_in_pr_A0 _ (List.mem_of_getElem? (i := 19) (by decide +kernel))
theorem pr_w20 : Cond.methodLink RX1 3 objectInit ∈ pr_AL := pr_in_pr_A0 _ (List.mem_of_getElem? (i := 20) (by decide +kernel))
theorem pr_w21 : Cond.arrayClass .int ∈ pr_AL := pr_in_pr_A0 _ (List.mem_of_getElem? (i := 21) (by decide +kernel))
theorem pr_w22 : Cond.fieldLink RX1 9 "PrintRegister$ErrorLog" "places" "[I" ∈ pr_AL := pr_in_pr_A0 _ (List.mem_of_getElem? (i := 22) (by decide +kernel))
theorem pr_w23 : Cond.code yX1_begin cX1_begin 1 none ∈ pr_AL := pr_in_pr_A0 _ (List.mem_of_getElem? (i := 23) (by decide +kernel))
theorem pr_w24 : Cond.fieldLink RX1 15 "PrintRegister$ErrorLog" "added" "I" ∈ pr_AL := pr_in_pr_A0 _ (List.mem_of_getElem? (i := 24) (by decide +kernel))
theorem pr_w25 : Cond.code yX1_copyFrom cX1_copyFrom 2 none ∈ pr_AL := pr_in_pr_A0 _ (List.mem_of_getElem? (i := 25) (by decide +kernel))
theorem pr_w26 : Cond.methodLink RX1 19 arraycopyName ∈ pr_AL := pr_in_pr_A0 _ (List.mem_of_getElem? (i := 26) (by decide +kernel))
theorem pr_w27 : Cond.native arraycopyName ∈ pr_AL := pr_in_pr_A0 _ (List.mem_of_getElem? (i := 27) (by decide +kernel))
theorem pr_w28 : Cond.static arraycopyName ∈ pr_AL := pr_in_pr_A0 _ (List.mem_of_getElem? (i := 28) (by decide +kernel))
theorem pr_w29 : Cond.initialized "java/lang/System" ∈ pr_AL := pr_in_pr_A0 _ (List.mem_of_getElem? (i := 29) (by decide +kernel))
theorem pr_w30 : Cond.code yX1_add cX1_add 2 none ∈ pr_AL := pr_in_pr_A0 _ (List.mem_of_getElem? (i := 30) (by decide +kernel))
theorem pr_w31 : Cond.code yX1_kept cX1_kept 2 (some .int) ∈ pr_AL := pr_in_pr_A0 _ (List.mem_of_getElem? (i := 31) (by decide +kernel))
theorem pr_w32 : Cond.methodLink RX1 25 Lib.Math.min.name ∈ pr_AL := pr_in_pr_A0 _ (List.mem_of_getElem? (i := 32) (by decide +kernel))
theorem pr_w33 : Cond.static Lib.Math.min.name ∈ pr_AL := pr_in_pr_A0 _ (List.mem_of_getElem? (i := 33) (by decide +kernel))
theorem pr_w34 : Cond.initialized "java/lang/Math" ∈ pr_AL := pr_in_pr_A0 _ (List.mem_of_getElem? (i := 34) (by decide +kernel))
theorem pr_w35 : Cond.code Lib.Math.min.name Lib.Math.min.code 2 (some .int) ∈ pr_AL := pr_in_pr_A0 _ (List.mem_of_getElem? (i := 35) (by decide +kernel))
theorem pr_w36 : Cond.code yX1_sizeOf cX1_sizeOf 2 (some .int) ∈ pr_AL := pr_in_pr_A0 _ (List.mem_of_getElem? (i := 36) (by decide +kernel))
theorem pr_w37 : Cond.methodLink RX1 31 Lib.Math.abs.name ∈ pr_AL := pr_in_pr_A0 _ (List.mem_of_getElem? (i := 37) (by decide +kernel))
theorem pr_w38 : Cond.static Lib.Math.abs.name ∈ pr_AL := pr_in_pr_A0 _ (List.mem_of_getElem? (i := 38) (by decide +kernel))
theorem pr_w39 : Cond.code Lib.Math.abs.name Lib.Math.abs.code 1 (some .int) ∈ pr_AL := pr_in_pr_A0 _ (List.mem_of_getElem? (i := 39) (by decide +kernel))
theorem pr_w40 : Cond.code yX1_greatest cX1_greatest 4 (some .int) ∈ pr_AL := pr_in_pr_A1 _ (List.mem_of_getElem? (i := 0) (by decide +kernel))
theorem pr_w41 : Cond.methodLink RX1 41 Lib.Math.max.name ∈ pr_AL := pr_in_pr_A1 _ (List.mem_of_getElem? (i := 1) (by decide +kernel))
theorem pr_w42 : Cond.static Lib.Math.max.name ∈ pr_AL := pr_in_pr_A1 _ (List.mem_of_getElem? (i := 2) (by decide +kernel))
theorem pr_w43 : Cond.code Lib.Math.max.name Lib.Math.max.code 2 (some .int) ∈ pr_AL := pr_in_pr_A1 _ (List.mem_of_getElem? (i := 3) (by decide +kernel))
theorem pr_w44 : Cond.methodLink RX1 35 yX1_kept ∈ pr_AL := pr_in_pr_A1 _ (List.mem_of_getElem? (i := 4) (by decide +kernel))
theorem pr_w45 : Cond.instanceMethod yX1_kept ∈ pr_AL := pr_in_pr_A1 _ (List.mem_of_getElem? (i := 5) (by decide +kernel))
theorem pr_w46 : Cond.selects RX1 yX1_kept yX1_kept ∈ pr_AL := pr_in_pr_A1 _ (List.mem_of_getElem? (i := 6) (by decide +kernel))
theorem pr_w47 : Cond.initialized RX1 ∈ pr_AL := pr_in_pr_A1 _ (List.mem_of_getElem? (i := 7) (by decide +kernel))
theorem pr_w48 : Cond.methodLink RX1 38 yX1_sizeOf ∈ pr_AL := pr_in_pr_A1 _ (List.mem_of_getElem? (i := 8) (by decide +kernel))
theorem pr_w49 : Cond.instanceMethod yX1_sizeOf ∈ pr_AL := pr_in_pr_A1 _ (List.mem_of_getElem? (i := 9) (by decide +kernel))
theorem pr_w50 : Cond.selects RX1 yX1_sizeOf yX1_sizeOf ∈ pr_AL := pr_in_pr_A1 _ (List.mem_of_getElem? (i := 10) (by decide +kernel))
theorem pr_w51 : Cond.code yX1_sumOf cX1_sumOf 4 (some .int) ∈ pr_AL := pr_in_pr_A1 _ (List.mem_of_getElem? (i := 11) (by decide +kernel))
theorem pr_w52 : Cond.code yX1_greaterThan cX1_greaterThan 5 (some .int) ∈ pr_AL := pr_in_pr_A1 _ (List.mem_of_getElem? (i := 12) (by decide +kernel))
theorem pr_w53 : Cond.code yX2_init cX2_init 1 none ∈ pr_AL := pr_in_pr_A1 _ (List.mem_of_getElem? (i := 13) (by decide +kernel))
theorem pr_w54 : Cond.methodLink RX2 3 objectInit ∈ pr_AL := pr_in_pr_A1 _ (List.mem_of_getElem? (i := 14) (by decide +kernel))
theorem pr_w55 : Cond.fieldLink RX2 9 "PrintRegister$Pad" "codes" "[I" ∈ pr_AL := pr_in_pr_A1 _ (List.mem_of_getElem? (i := 15) (by decide +kernel))
theorem pr_w56 : Cond.code yX2_append cX2_append 2 none ∈ pr_AL := pr_in_pr_A1 _ (List.mem_of_getElem? (i := 16) (by decide +kernel))
theorem pr_w57 : Cond.fieldLink RX2 15 "PrintRegister$Pad" "length" "I" ∈ pr_AL := pr_in_pr_A1 _ (List.mem_of_getElem? (i := 17) (by decide +kernel))
theorem pr_w58 : Cond.code yX2_codeAt cX2_codeAt 2 (some .int) ∈ pr_AL := pr_in_pr_A1 _ (List.mem_of_getElem? (i := 18) (by decide +kernel))
theorem pr_w59 : Cond.code yX2_beginReading cX2_beginReading 1 none ∈ pr_AL := pr_in_pr_A1 _ (List.mem_of_getElem? (i := 19) (by decide +kernel))
theorem pr_w60 : Cond.fieldLink RX2 19 "PrintRegister$Pad" "at" "I" ∈ pr_AL := pr_in_pr_A1 _ (List.mem_of_getElem? (i := 20) (by decide +kernel))
theorem pr_w61 : Cond.fieldLink RX2 22 "PrintRegister$Pad" "failed" "Z" ∈ pr_AL := pr_in_pr_A1 _ (List.mem_of_getElem? (i := 21) (by decide +kernel))
theorem pr_w62 : Cond.code yX2_hasMore cX2_hasMore 1 (some .boolean) ∈ pr_AL := pr_in_pr_A1 _ (List.mem_of_getElem? (i := 22) (by decide +kernel))
theorem pr_w63 : Cond.code yX2_readSign cX2_readSign 2 none ∈ pr_AL := pr_in_pr_A1 _ (List.mem_of_getElem? (i := 23) (by decide +kernel))
theorem pr_w64 : Cond.methodLink RX2 61 yX2_codeAt ∈ pr_AL := pr_in_pr_A1 _ (List.mem_of_getElem? (i := 24) (by decide +kernel))
theorem pr_w65 : Cond.instanceMethod yX2_codeAt ∈ pr_AL := pr_in_pr_A1 _ (List.mem_of_getElem? (i := 25) (by decide +kernel))
theorem pr_w66 : Cond.selects RX2 yX2_codeAt yX2_codeAt ∈ pr_AL := pr_in_pr_A1 _ (List.mem_of_getElem? (i := 26) (by decide +kernel))
theorem pr_w67 : Cond.initialized RX2 ∈ pr_AL := pr_in_pr_A1 _ (List.mem_of_getElem? (i := 27) (by decide +kernel))
theorem pr_w68 : Cond.code yX2_digitAt cX2_digitAt 3 (some .int) ∈ pr_AL := pr_in_pr_A1 _ (List.mem_of_getElem? (i := 28) (by decide +kernel))
theorem pr_w69 : Cond.code yX2_readNumber cX2_readNumber 5 (some .int) ∈ pr_AL := pr_in_pr_A1 _ (List.mem_of_getElem? (i := 29) (by decide +kernel))
theorem pr_w70 : Cond.methodLink RX2 75 yX2_digitAt ∈ pr_AL := pr_in_pr_A1 _ (List.mem_of_getElem? (i := 30) (by decide +kernel))
theorem pr_w71 : Cond.instanceMethod yX2_digitAt ∈ pr_AL := pr_in_pr_A1 _ (List.mem_of_getElem? (i := 31) (by decide +kernel))
theorem pr_w72 : Cond.selects RX2 yX2_digitAt yX2_digitAt ∈ pr_AL := pr_in_pr_A1 _ (List.mem_of_getElem? (i := 32) (by decide +kernel))
theorem pr_w73 : Cond.code yX2_readUnit cX2_readUnit 2 (some .int) ∈ pr_AL := pr_in_pr_A1 _ (List.mem_of_getElem? (i := 33) (by decide +kernel))
theorem pr_w74 : Cond.code yX2_readDisturbance cX2_readDisturbance 3 none ∈ pr_AL := pr_in_pr_A1 _ (List.mem_of_getElem? (i := 34) (by decide +kernel))
theorem pr_w75 : Cond.fieldLink RX2 41 "PrintRegister$Pad" "number" "I" ∈ pr_AL := pr_in_pr_A1 _ (List.mem_of_getElem? (i := 35) (by decide +kernel))
theorem pr_w76 : Cond.fieldLink RX2 78 "PrintRegister$Pad" "duration" "I" ∈ pr_AL := pr_in_pr_A1 _ (List.mem_of_getElem? (i := 36) (by decide +kernel))
theorem pr_w77 : Cond.methodLink RX2 57 yX2_readSign ∈ pr_AL := pr_in_pr_A1 _ (List.mem_of_getElem? (i := 37) (by decide +kernel))
theorem pr_w78 : Cond.instanceMethod yX2_readSign ∈ pr_AL := pr_in_pr_A1 _ (List.mem_of_getElem? (i := 38) (by decide +kernel))
theorem pr_w79 : Cond.selects RX2 yX2_readSign yX2_readSign ∈ pr_AL := pr_in_pr_A1 _ (List.mem_of_getElem? (i := 39) (by decide +kernel))
theorem pr_w80 : Cond.methodLink RX2 65 yX2_readNumber ∈ pr_AL := pr_in_pr_A2 _ (List.mem_of_getElem? (i := 0) (by decide +kernel))
theorem pr_w81 : Cond.instanceMethod yX2_readNumber ∈ pr_AL := pr_in_pr_A2 _ (List.mem_of_getElem? (i := 1) (by decide +kernel))
theorem pr_w82 : Cond.selects RX2 yX2_readNumber yX2_readNumber ∈ pr_AL := pr_in_pr_A2 _ (List.mem_of_getElem? (i := 2) (by decide +kernel))
theorem pr_w83 : Cond.fieldLink RX2 38 "PrintRegister$Pad" "kind" "I" ∈ pr_AL := pr_in_pr_A2 _ (List.mem_of_getElem? (i := 3) (by decide +kernel))
theorem pr_w84 : Cond.fieldLink RX2 44 "PrintRegister$Pad" "unit" "I" ∈ pr_AL := pr_in_pr_A2 _ (List.mem_of_getElem? (i := 4) (by decide +kernel))
theorem pr_w85 : Cond.methodLink RX2 68 yX2_readUnit ∈ pr_AL := pr_in_pr_A2 _ (List.mem_of_getElem? (i := 5) (by decide +kernel))
theorem pr_w86 : Cond.instanceMethod yX2_readUnit ∈ pr_AL := pr_in_pr_A2 _ (List.mem_of_getElem? (i := 6) (by decide +kernel))
theorem pr_w87 : Cond.selects RX2 yX2_readUnit yX2_readUnit ∈ pr_AL := pr_in_pr_A2 _ (List.mem_of_getElem? (i := 7) (by decide +kernel))
theorem pr_w88 : Cond.methodLink RX2 72 yX2_readDisturbance ∈ pr_AL := pr_in_pr_A2 _ (List.mem_of_getElem? (i := 8) (by decide +kernel))
theorem pr_w89 : Cond.instanceMethod yX2_readDisturbance ∈ pr_AL := pr_in_pr_A2 _ (List.mem_of_getElem? (i := 9) (by decide +kernel))
theorem pr_w90 : Cond.selects RX2 yX2_readDisturbance yX2_readDisturbance ∈ pr_AL := pr_in_pr_A2 _ (List.mem_of_getElem? (i := 10) (by decide +kernel))
theorem pr_w91 : Cond.code yX2_readStep cX2_readStep 1 none ∈ pr_AL := pr_in_pr_A2 _ (List.mem_of_getElem? (i := 11) (by decide +kernel))
theorem pr_w92 : Cond.fieldLink RX2 29 "PrintRegister$Pad" "repeats" "I" ∈ pr_AL := pr_in_pr_A2 _ (List.mem_of_getElem? (i := 12) (by decide +kernel))
theorem pr_w93 : Cond.fieldLink RX2 32 "PrintRegister$Pad" "greatestUnit" "I" ∈ pr_AL := pr_in_pr_A2 _ (List.mem_of_getElem? (i := 13) (by decide +kernel))
theorem pr_w94 : Cond.methodLink RX2 47 Lib.Math.max.name ∈ pr_AL := pr_in_pr_A2 _ (List.mem_of_getElem? (i := 14) (by decide +kernel))
theorem pr_w95 : Cond.methodLink RX2 26 yX2_beginReading ∈ pr_AL := pr_in_pr_A2 _ (List.mem_of_getElem? (i := 15) (by decide +kernel))
theorem pr_w96 : Cond.instanceMethod yX2_beginReading ∈ pr_AL := pr_in_pr_A2 _ (List.mem_of_getElem? (i := 16) (by decide +kernel))
theorem pr_w97 : Cond.selects RX2 yX2_beginReading yX2_beginReading ∈ pr_AL := pr_in_pr_A2 _ (List.mem_of_getElem? (i := 17) (by decide +kernel))
theorem pr_w98 : Cond.methodLink RX2 35 yX2_readStep ∈ pr_AL := pr_in_pr_A2 _ (List.mem_of_getElem? (i := 18) (by decide +kernel))
theorem pr_w99 : Cond.instanceMethod yX2_readStep ∈ pr_AL := pr_in_pr_A2 _ (List.mem_of_getElem? (i := 19) (by decide +kernel))
theorem pr_w100 : Cond.selects RX2 yX2_readStep yX2_readStep ∈ pr_AL := pr_in_pr_A2 _ (List.mem_of_getElem? (i := 20) (by decide +kernel))
theorem pr_w101 : Cond.methodLink RX2 53 yX2_hasMore ∈ pr_AL := pr_in_pr_A2 _ (List.mem_of_getElem? (i := 21) (by decide +kernel))
theorem pr_w102 : Cond.instanceMethod yX2_hasMore ∈ pr_AL := pr_in_pr_A2 _ (List.mem_of_getElem? (i := 22) (by decide +kernel))
theorem pr_w103 : Cond.selects RX2 yX2_hasMore yX2_hasMore ∈ pr_AL := pr_in_pr_A2 _ (List.mem_of_getElem? (i := 23) (by decide +kernel))
theorem pr_w104 : Cond.code yX2_readAll cX2_readAll 2 none ∈ pr_AL := pr_in_pr_A2 _ (List.mem_of_getElem? (i := 24) (by decide +kernel))
theorem pr_w105 : Cond.code yX4_init cX4_init 1 none ∈ pr_AL := pr_in_pr_A2 _ (List.mem_of_getElem? (i := 25) (by decide +kernel))
theorem pr_w106 : Cond.methodLink RX4 3 objectInit ∈ pr_AL := pr_in_pr_A2 _ (List.mem_of_getElem? (i := 26) (by decide +kernel))
theorem pr_w107 : Cond.fieldLink RX4 9 "PrintRegister$Printer" "offsets" "[I" ∈ pr_AL := pr_in_pr_A2 _ (List.mem_of_getElem? (i := 27) (by decide +kernel))
theorem pr_w108 : Cond.fieldLink RX4 15 "PrintRegister$Printer" "skews" "[I" ∈ pr_AL := pr_in_pr_A2 _ (List.mem_of_getElem? (i := 28) (by decide +kernel))
theorem pr_w109 : Cond.code yX5_init cX5_init 1 none ∈ pr_AL := pr_in_pr_A2 _ (List.mem_of_getElem? (i := 29) (by decide +kernel))
theorem pr_w110 : Cond.methodLink RX5 3 objectInit ∈ pr_AL := pr_in_pr_A2 _ (List.mem_of_getElem? (i := 30) (by decide +kernel))
theorem pr_w111 : Cond.classLink RX5 9 RX1 ∈ pr_AL := pr_in_pr_A2 _ (List.mem_of_getElem? (i := 31) (by decide +kernel))
theorem pr_w112 : Cond.instantiable RX1 2 ∈ pr_AL := pr_in_pr_A2 _ (List.mem_of_getElem? (i := 32) (by decide +kernel))
theorem pr_w113 : Cond.fieldLink RX5 12 "PrintRegister$Sensor" "log" "LPrintRegister$ErrorLog;" ∈ pr_AL := pr_in_pr_A2 _ (List.mem_of_getElem? (i := 33) (by decide +kernel))
theorem pr_w114 : Cond.instanceMethod yX1_init ∈ pr_AL := pr_in_pr_A2 _ (List.mem_of_getElem? (i := 34) (by decide +kernel))
theorem pr_w115 : Cond.methodLink RX7 3 objectInit ∈ pr_AL := pr_in_pr_A2 _ (List.mem_of_getElem? (i := 35) (by decide +kernel))
theorem pr_w116 : Cond.fieldLink RX7 9 "PrintRegister$Unit" "settings" "[I" ∈ pr_AL := pr_in_pr_A2 _ (List.mem_of_getElem? (i := 36) (by decide +kernel))
theorem pr_w117 : Cond.classLink RX7 15 RX4 ∈ pr_AL := pr_in_pr_A2 _ (List.mem_of_getElem? (i := 37) (by decide +kernel))
theorem pr_w118 : Cond.instantiable RX4 8 ∈ pr_AL := pr_in_pr_A2 _ (List.mem_of_getElem? (i := 38) (by decide +kernel))
theorem pr_w119 : Cond.initialized RX4 ∈ pr_AL := pr_in_pr_A2 _ (List.mem_of_getElem? (i := 39) (by decide +kernel))
theorem pr_w120 : Cond.fieldLink RX7 18 "PrintRegister$Unit" "printer" "LPrintRegister$Printer;" ∈ pr_AL := pr_in_pr_A3 _ (List.mem_of_getElem? (i := 0) (by decide +kernel))
theorem pr_w121 : Cond.classLink RX7 22 RX0 ∈ pr_AL := pr_in_pr_A3 _ (List.mem_of_getElem? (i := 1) (by decide +kernel))
theorem pr_w122 : Cond.instantiable RX0 9 ∈ pr_AL := pr_in_pr_A3 _ (List.mem_of_getElem? (i := 2) (by decide +kernel))
theorem pr_w123 : Cond.initialized RX0 ∈ pr_AL := pr_in_pr_A3 _ (List.mem_of_getElem? (i := 3) (by decide +kernel))
theorem pr_w124 : Cond.fieldLink RX7 25 "PrintRegister$Unit" "controller" "LPrintRegister$Controller;" ∈ pr_AL := pr_in_pr_A3 _ (List.mem_of_getElem? (i := 4) (by decide +kernel))
theorem pr_w125 : Cond.classLink RX7 29 RX5 ∈ pr_AL := pr_in_pr_A3 _ (List.mem_of_getElem? (i := 5) (by decide +kernel))
theorem pr_w126 : Cond.instantiable RX5 10 ∈ pr_AL := pr_in_pr_A3 _ (List.mem_of_getElem? (i := 6) (by decide +kernel))
theorem pr_w127 : Cond.initialized RX5 ∈ pr_AL := pr_in_pr_A3 _ (List.mem_of_getElem? (i := 7) (by decide +kernel))
theorem pr_w128 : Cond.fieldLink RX7 32 "PrintRegister$Unit" "sensor" "LPrintRegister$Sensor;" ∈ pr_AL := pr_in_pr_A3 _ (List.mem_of_getElem? (i := 8) (by decide +kernel))
theorem pr_w129 : Cond.instanceMethod yX4_init ∈ pr_AL := pr_in_pr_A3 _ (List.mem_of_getElem? (i := 9) (by decide +kernel))
theorem pr_w130 : Cond.instanceMethod yX0_init ∈ pr_AL := pr_in_pr_A3 _ (List.mem_of_getElem? (i := 10) (by decide +kernel))
theorem pr_w131 : Cond.instanceMethod yX5_init ∈ pr_AL := pr_in_pr_A3 _ (List.mem_of_getElem? (i := 11) (by decide +kernel))
theorem pr_w132 : Cond.code yX7_init cX7_init 1 none ∈ pr_AL := pr_in_pr_A3 _ (List.mem_of_getElem? (i := 12) (by decide +kernel))
theorem pr_w133 : Cond.methodLink RX3 3 objectInit ∈ pr_AL := pr_in_pr_A3 _ (List.mem_of_getElem? (i := 13) (by decide +kernel))
theorem pr_w134 : Cond.classLink RX3 9 RX7 ∈ pr_AL := pr_in_pr_A3 _ (List.mem_of_getElem? (i := 14) (by decide +kernel))
theorem pr_w135 : Cond.fieldLink RX3 11 "PrintRegister$Press" "units" "[LPrintRegister$Unit;" ∈ pr_AL := pr_in_pr_A3 _ (List.mem_of_getElem? (i := 15) (by decide +kernel))
theorem pr_w136 : Cond.fieldLink RX3 17 "PrintRegister$Press" "changes" "[I" ∈ pr_AL := pr_in_pr_A3 _ (List.mem_of_getElem? (i := 16) (by decide +kernel))
theorem pr_w137 : Cond.fieldLink RX3 21 "PrintRegister$Press" "totals" "[I" ∈ pr_AL := pr_in_pr_A3 _ (List.mem_of_getElem? (i := 17) (by decide +kernel))
theorem pr_w138 : Cond.instantiable RX7 4 ∈ pr_AL := pr_in_pr_A3 _ (List.mem_of_getElem? (i := 18) (by decide +kernel))
theorem pr_w139 : Cond.initialized RX7 ∈ pr_AL := pr_in_pr_A3 _ (List.mem_of_getElem? (i := 19) (by decide +kernel))
theorem pr_w140 : Cond.instanceMethod yX7_init ∈ pr_AL := pr_in_pr_A3 _ (List.mem_of_getElem? (i := 20) (by decide +kernel))
theorem pr_w141 : Cond.code yX3_init cX3_init 2 none ∈ pr_AL := pr_in_pr_A3 _ (List.mem_of_getElem? (i := 21) (by decide +kernel))
theorem pr_w142 : Cond.code yX4_begin cX4_begin 1 none ∈ pr_AL := pr_in_pr_A3 _ (List.mem_of_getElem? (i := 22) (by decide +kernel))
theorem pr_w143 : Cond.fieldLink RX4 18 "PrintRegister$Printer" "phase" "I" ∈ pr_AL := pr_in_pr_A3 _ (List.mem_of_getElem? (i := 23) (by decide +kernel))
theorem pr_w144 : Cond.fieldLink RX4 22 "PrintRegister$Printer" "skewSetting" "I" ∈ pr_AL := pr_in_pr_A3 _ (List.mem_of_getElem? (i := 24) (by decide +kernel))
theorem pr_w145 : Cond.fieldLink RX4 25 "PrintRegister$Printer" "tilt" "I" ∈ pr_AL := pr_in_pr_A3 _ (List.mem_of_getElem? (i := 25) (by decide +kernel))
theorem pr_w146 : Cond.fieldLink RX4 28 "PrintRegister$Printer" "disturbanceAmount" "I" ∈ pr_AL := pr_in_pr_A3 _ (List.mem_of_getElem? (i := 26) (by decide +kernel))
theorem pr_w147 : Cond.fieldLink RX4 31 "PrintRegister$Printer" "disturbanceDuration" "I" ∈ pr_AL := pr_in_pr_A3 _ (List.mem_of_getElem? (i := 27) (by decide +kernel))
theorem pr_w148 : Cond.fieldLink RX4 34 "PrintRegister$Printer" "disturbanceLeft" "I" ∈ pr_AL := pr_in_pr_A3 _ (List.mem_of_getElem? (i := 28) (by decide +kernel))
theorem pr_w149 : Cond.code yX5_seeNothing cX5_seeNothing 1 none ∈ pr_AL := pr_in_pr_A3 _ (List.mem_of_getElem? (i := 29) (by decide +kernel))
theorem pr_w150 : Cond.fieldLink RX5 50 "PrintRegister$Sensor" "sawPiece" "Z" ∈ pr_AL := pr_in_pr_A3 _ (List.mem_of_getElem? (i := 30) (by decide +kernel))
theorem pr_w151 : Cond.fieldLink RX5 54 "PrintRegister$Sensor" "recognized" "I" ∈ pr_AL := pr_in_pr_A3 _ (List.mem_of_getElem? (i := 31) (by decide +kernel))
theorem pr_w152 : Cond.code yX5_begin cX5_begin 1 none ∈ pr_AL := pr_in_pr_A3 _ (List.mem_of_getElem? (i := 32) (by decide +kernel))
theorem pr_w153 : Cond.fieldLink RX5 21 "PrintRegister$Sensor" "hiddenLeft" "I" ∈ pr_AL := pr_in_pr_A3 _ (List.mem_of_getElem? (i := 33) (by decide +kernel))
theorem pr_w154 : Cond.fieldLink RX5 25 "PrintRegister$Sensor" "falseOffset" "I" ∈ pr_AL := pr_in_pr_A3 _ (List.mem_of_getElem? (i := 34) (by decide +kernel))
theorem pr_w155 : Cond.fieldLink RX5 28 "PrintRegister$Sensor" "falseLeft" "I" ∈ pr_AL := pr_in_pr_A3 _ (List.mem_of_getElem? (i := 35) (by decide +kernel))
theorem pr_w156 : Cond.fieldLink RX5 34 "PrintRegister$Sensor" "trueError" "I" ∈ pr_AL := pr_in_pr_A3 _ (List.mem_of_getElem? (i := 36) (by decide +kernel))
theorem pr_w157 : Cond.fieldLink RX5 37 "PrintRegister$Sensor" "trueSkew" "I" ∈ pr_AL := pr_in_pr_A3 _ (List.mem_of_getElem? (i := 37) (by decide +kernel))
theorem pr_w158 : Cond.fieldLink RX5 40 "PrintRegister$Sensor" "offset" "I" ∈ pr_AL := pr_in_pr_A3 _ (List.mem_of_getElem? (i := 38) (by decide +kernel))
theorem pr_w159 : Cond.fieldLink RX5 43 "PrintRegister$Sensor" "skew" "I" ∈ pr_AL := pr_in_pr_A3 _ (List.mem_of_getElem? (i := 39) (by decide +kernel))
theorem pr_w160 : Cond.methodLink RX5 18 yX1_begin ∈ pr_AL := pr_in_pr_A4 _ (List.mem_of_getElem? (i := 0) (by decide +kernel))
theorem pr_w161 : Cond.instanceMethod yX1_begin ∈ pr_AL := pr_in_pr_A4 _ (List.mem_of_getElem? (i := 1) (by decide +kernel))
theorem pr_w162 : Cond.selects RX1 yX1_begin yX1_begin ∈ pr_AL := pr_in_pr_A4 _ (List.mem_of_getElem? (i := 2) (by decide +kernel))
theorem pr_w163 : Cond.methodLink RX5 31 yX5_seeNothing ∈ pr_AL := pr_in_pr_A4 _ (List.mem_of_getElem? (i := 3) (by decide +kernel))
theorem pr_w164 : Cond.instanceMethod yX5_seeNothing ∈ pr_AL := pr_in_pr_A4 _ (List.mem_of_getElem? (i := 4) (by decide +kernel))
theorem pr_w165 : Cond.selects RX5 yX5_seeNothing yX5_seeNothing ∈ pr_AL := pr_in_pr_A4 _ (List.mem_of_getElem? (i := 5) (by decide +kernel))
theorem pr_w166 : Cond.methodLink RX7 39 yX4_begin ∈ pr_AL := pr_in_pr_A4 _ (List.mem_of_getElem? (i := 6) (by decide +kernel))
theorem pr_w167 : Cond.instanceMethod yX4_begin ∈ pr_AL := pr_in_pr_A4 _ (List.mem_of_getElem? (i := 7) (by decide +kernel))
theorem pr_w168 : Cond.selects RX4 yX4_begin yX4_begin ∈ pr_AL := pr_in_pr_A4 _ (List.mem_of_getElem? (i := 8) (by decide +kernel))
theorem pr_w169 : Cond.methodLink RX7 42 yX0_clear ∈ pr_AL := pr_in_pr_A4 _ (List.mem_of_getElem? (i := 9) (by decide +kernel))
theorem pr_w170 : Cond.instanceMethod yX0_clear ∈ pr_AL := pr_in_pr_A4 _ (List.mem_of_getElem? (i := 10) (by decide +kernel))
theorem pr_w171 : Cond.selects RX0 yX0_clear yX0_clear ∈ pr_AL := pr_in_pr_A4 _ (List.mem_of_getElem? (i := 11) (by decide +kernel))
theorem pr_w172 : Cond.methodLink RX7 45 yX5_begin ∈ pr_AL := pr_in_pr_A4 _ (List.mem_of_getElem? (i := 12) (by decide +kernel))
theorem pr_w173 : Cond.instanceMethod yX5_begin ∈ pr_AL := pr_in_pr_A4 _ (List.mem_of_getElem? (i := 13) (by decide +kernel))
theorem pr_w174 : Cond.selects RX5 yX5_begin yX5_begin ∈ pr_AL := pr_in_pr_A4 _ (List.mem_of_getElem? (i := 14) (by decide +kernel))
theorem pr_w175 : Cond.code yX7_begin cX7_begin 2 none ∈ pr_AL := pr_in_pr_A4 _ (List.mem_of_getElem? (i := 15) (by decide +kernel))
theorem pr_w176 : Cond.fieldLink RX3 25 "PrintRegister$Press" "unitCount" "I" ∈ pr_AL := pr_in_pr_A4 _ (List.mem_of_getElem? (i := 16) (by decide +kernel))
theorem pr_w177 : Cond.fieldLink RX3 29 "PrintRegister$Press" "time" "I" ∈ pr_AL := pr_in_pr_A4 _ (List.mem_of_getElem? (i := 17) (by decide +kernel))
theorem pr_w178 : Cond.fieldLink RX3 32 "PrintRegister$Press" "speedNow" "I" ∈ pr_AL := pr_in_pr_A4 _ (List.mem_of_getElem? (i := 18) (by decide +kernel))
theorem pr_w179 : Cond.fieldLink RX3 35 "PrintRegister$Press" "speedBefore" "I" ∈ pr_AL := pr_in_pr_A4 _ (List.mem_of_getElem? (i := 19) (by decide +kernel))
theorem pr_w180 : Cond.fieldLink RX3 38 "PrintRegister$Press" "spliceStart" "I" ∈ pr_AL := pr_in_pr_A4 _ (List.mem_of_getElem? (i := 20) (by decide +kernel))
theorem pr_w181 : Cond.fieldLink RX3 41 "PrintRegister$Press" "spliceAmount" "I" ∈ pr_AL := pr_in_pr_A4 _ (List.mem_of_getElem? (i := 21) (by decide +kernel))
theorem pr_w182 : Cond.fieldLink RX3 44 "PrintRegister$Press" "spliceDuration" "I" ∈ pr_AL := pr_in_pr_A4 _ (List.mem_of_getElem? (i := 22) (by decide +kernel))
theorem pr_w183 : Cond.methodLink RX3 47 yX7_begin ∈ pr_AL := pr_in_pr_A4 _ (List.mem_of_getElem? (i := 23) (by decide +kernel))
theorem pr_w184 : Cond.instanceMethod yX7_begin ∈ pr_AL := pr_in_pr_A4 _ (List.mem_of_getElem? (i := 24) (by decide +kernel))
theorem pr_w185 : Cond.selects RX7 yX7_begin yX7_begin ∈ pr_AL := pr_in_pr_A4 _ (List.mem_of_getElem? (i := 25) (by decide +kernel))
theorem pr_w186 : Cond.code yX3_begin cX3_begin 3 none ∈ pr_AL := pr_in_pr_A4 _ (List.mem_of_getElem? (i := 26) (by decide +kernel))
theorem pr_w187 : Cond.code yX4_copyFrom cX4_copyFrom 2 none ∈ pr_AL := pr_in_pr_A4 _ (List.mem_of_getElem? (i := 27) (by decide +kernel))
theorem pr_w188 : Cond.methodLink RX4 37 arraycopyName ∈ pr_AL := pr_in_pr_A4 _ (List.mem_of_getElem? (i := 28) (by decide +kernel))
theorem pr_w189 : Cond.code yX5_copyFrom cX5_copyFrom 2 none ∈ pr_AL := pr_in_pr_A4 _ (List.mem_of_getElem? (i := 29) (by decide +kernel))
theorem pr_w190 : Cond.methodLink RX5 46 yX1_copyFrom ∈ pr_AL := pr_in_pr_A4 _ (List.mem_of_getElem? (i := 30) (by decide +kernel))
theorem pr_w191 : Cond.instanceMethod yX1_copyFrom ∈ pr_AL := pr_in_pr_A4 _ (List.mem_of_getElem? (i := 31) (by decide +kernel))
theorem pr_w192 : Cond.selects RX1 yX1_copyFrom yX1_copyFrom ∈ pr_AL := pr_in_pr_A4 _ (List.mem_of_getElem? (i := 32) (by decide +kernel))
theorem pr_w193 : Cond.methodLink RX7 46 arraycopyName ∈ pr_AL := pr_in_pr_A4 _ (List.mem_of_getElem? (i := 33) (by decide +kernel))
theorem pr_w194 : Cond.methodLink RX7 52 yX4_copyFrom ∈ pr_AL := pr_in_pr_A4 _ (List.mem_of_getElem? (i := 34) (by decide +kernel))
theorem pr_w195 : Cond.instanceMethod yX4_copyFrom ∈ pr_AL := pr_in_pr_A4 _ (List.mem_of_getElem? (i := 35) (by decide +kernel))
theorem pr_w196 : Cond.selects RX4 yX4_copyFrom yX4_copyFrom ∈ pr_AL := pr_in_pr_A4 _ (List.mem_of_getElem? (i := 36) (by decide +kernel))
theorem pr_w197 : Cond.methodLink RX7 56 yX0_copyFrom ∈ pr_AL := pr_in_pr_A4 _ (List.mem_of_getElem? (i := 37) (by decide +kernel))
theorem pr_w198 : Cond.instanceMethod yX0_copyFrom ∈ pr_AL := pr_in_pr_A4 _ (List.mem_of_getElem? (i := 38) (by decide +kernel))
theorem pr_w199 : Cond.selects RX0 yX0_copyFrom yX0_copyFrom ∈ pr_AL := pr_in_pr_A4 _ (List.mem_of_getElem? (i := 39) (by decide +kernel))
theorem pr_w200 : Cond.methodLink RX7 59 yX5_copyFrom ∈ pr_AL := pr_in_pr_A5 _ (List.mem_of_getElem? (i := 0) (by decide +kernel))
theorem pr_w201 : Cond.instanceMethod yX5_copyFrom ∈ pr_AL := pr_in_pr_A5 _ (List.mem_of_getElem? (i := 1) (by decide +kernel))
theorem pr_w202 : Cond.selects RX5 yX5_copyFrom yX5_copyFrom ∈ pr_AL := pr_in_pr_A5 _ (List.mem_of_getElem? (i := 2) (by decide +kernel))
theorem pr_w203 : Cond.code yX7_copyFrom cX7_copyFrom 2 none ∈ pr_AL := pr_in_pr_A5 _ (List.mem_of_getElem? (i := 3) (by decide +kernel))
theorem pr_w204 : Cond.methodLink RX3 50 arraycopyName ∈ pr_AL := pr_in_pr_A5 _ (List.mem_of_getElem? (i := 4) (by decide +kernel))
theorem pr_w205 : Cond.methodLink RX3 56 yX7_copyFrom ∈ pr_AL := pr_in_pr_A5 _ (List.mem_of_getElem? (i := 5) (by decide +kernel))
theorem pr_w206 : Cond.instanceMethod yX7_copyFrom ∈ pr_AL := pr_in_pr_A5 _ (List.mem_of_getElem? (i := 6) (by decide +kernel))
theorem pr_w207 : Cond.selects RX7 yX7_copyFrom yX7_copyFrom ∈ pr_AL := pr_in_pr_A5 _ (List.mem_of_getElem? (i := 7) (by decide +kernel))
theorem pr_w208 : Cond.code yX3_copyFrom cX3_copyFrom 3 none ∈ pr_AL := pr_in_pr_A5 _ (List.mem_of_getElem? (i := 8) (by decide +kernel))
theorem pr_w209 : Cond.code yX3_unitAt cX3_unitAt 2 (some (.object "PrintRegister$Unit")) ∈ pr_AL := pr_in_pr_A5 _ (List.mem_of_getElem? (i := 9) (by decide +kernel))
theorem pr_w210 : Cond.code yX3_controlledUnitAt cX3_controlledUnitAt 2 (some (.object "PrintRegister$Unit")) ∈ pr_AL := pr_in_pr_A5 _ (List.mem_of_getElem? (i := 10) (by decide +kernel))
theorem pr_w211 : Cond.methodLink RX3 60 yX3_unitAt ∈ pr_AL := pr_in_pr_A5 _ (List.mem_of_getElem? (i := 11) (by decide +kernel))
theorem pr_w212 : Cond.instanceMethod yX3_unitAt ∈ pr_AL := pr_in_pr_A5 _ (List.mem_of_getElem? (i := 12) (by decide +kernel))
theorem pr_w213 : Cond.selects RX3 yX3_unitAt yX3_unitAt ∈ pr_AL := pr_in_pr_A5 _ (List.mem_of_getElem? (i := 13) (by decide +kernel))
theorem pr_w214 : Cond.initialized RX3 ∈ pr_AL := pr_in_pr_A5 _ (List.mem_of_getElem? (i := 14) (by decide +kernel))
theorem pr_w215 : Cond.code yX7_setting cX7_setting 2 (some .int) ∈ pr_AL := pr_in_pr_A5 _ (List.mem_of_getElem? (i := 15) (by decide +kernel))
theorem pr_w216 : Cond.code yX3_wayOf cX3_wayOf 4 (some .int) ∈ pr_AL := pr_in_pr_A5 _ (List.mem_of_getElem? (i := 16) (by decide +kernel))
theorem pr_w217 : Cond.methodLink RX3 64 yX7_setting ∈ pr_AL := pr_in_pr_A5 _ (List.mem_of_getElem? (i := 17) (by decide +kernel))
theorem pr_w218 : Cond.instanceMethod yX7_setting ∈ pr_AL := pr_in_pr_A5 _ (List.mem_of_getElem? (i := 18) (by decide +kernel))
theorem pr_w219 : Cond.selects RX7 yX7_setting yX7_setting ∈ pr_AL := pr_in_pr_A5 _ (List.mem_of_getElem? (i := 19) (by decide +kernel))
theorem pr_w220 : Cond.code yX3_startSplice cX3_startSplice 3 none ∈ pr_AL := pr_in_pr_A5 _ (List.mem_of_getElem? (i := 20) (by decide +kernel))
theorem pr_w221 : Cond.code yX3_repeatsToLastUnit cX3_repeatsToLastUnit 1 (some .int) ∈ pr_AL := pr_in_pr_A5 _ (List.mem_of_getElem? (i := 21) (by decide +kernel))
theorem pr_w222 : Cond.methodLink RX3 71 Lib.Math.max.name ∈ pr_AL := pr_in_pr_A5 _ (List.mem_of_getElem? (i := 22) (by decide +kernel))
theorem pr_w223 : Cond.methodLink RX3 68 yX3_wayOf ∈ pr_AL := pr_in_pr_A5 _ (List.mem_of_getElem? (i := 23) (by decide +kernel))
theorem pr_w224 : Cond.instanceMethod yX3_wayOf ∈ pr_AL := pr_in_pr_A5 _ (List.mem_of_getElem? (i := 24) (by decide +kernel))
theorem pr_w225 : Cond.selects RX3 yX3_wayOf yX3_wayOf ∈ pr_AL := pr_in_pr_A5 _ (List.mem_of_getElem? (i := 25) (by decide +kernel))
theorem pr_w226 : Cond.code yX3_isWithin cX3_isWithin 4 (some .boolean) ∈ pr_AL := pr_in_pr_A5 _ (List.mem_of_getElem? (i := 26) (by decide +kernel))
theorem pr_w227 : Cond.methodLink RX3 90 Lib.Math.abs.name ∈ pr_AL := pr_in_pr_A5 _ (List.mem_of_getElem? (i := 27) (by decide +kernel))
theorem pr_w228 : Cond.code yX7_changeSetting cX7_changeSetting 3 none ∈ pr_AL := pr_in_pr_A5 _ (List.mem_of_getElem? (i := 28) (by decide +kernel))
theorem pr_w229 : Cond.code yX4_beDisturbed cX4_beDisturbed 3 none ∈ pr_AL := pr_in_pr_A5 _ (List.mem_of_getElem? (i := 29) (by decide +kernel))
theorem pr_w230 : Cond.code yX7_beSpliced cX7_beSpliced 3 none ∈ pr_AL := pr_in_pr_A5 _ (List.mem_of_getElem? (i := 30) (by decide +kernel))
theorem pr_w231 : Cond.methodLink RX7 62 yX4_beDisturbed ∈ pr_AL := pr_in_pr_A5 _ (List.mem_of_getElem? (i := 31) (by decide +kernel))
theorem pr_w232 : Cond.instanceMethod yX4_beDisturbed ∈ pr_AL := pr_in_pr_A5 _ (List.mem_of_getElem? (i := 32) (by decide +kernel))
theorem pr_w233 : Cond.selects RX4 yX4_beDisturbed yX4_beDisturbed ∈ pr_AL := pr_in_pr_A5 _ (List.mem_of_getElem? (i := 33) (by decide +kernel))
theorem pr_w234 : Cond.methodLink RX7 70 yX7_setting ∈ pr_AL := pr_in_pr_A5 _ (List.mem_of_getElem? (i := 34) (by decide +kernel))
theorem pr_w235 : Cond.methodLink RX3 116 yX7_beSpliced ∈ pr_AL := pr_in_pr_A5 _ (List.mem_of_getElem? (i := 35) (by decide +kernel))
theorem pr_w236 : Cond.instanceMethod yX7_beSpliced ∈ pr_AL := pr_in_pr_A5 _ (List.mem_of_getElem? (i := 36) (by decide +kernel))
theorem pr_w237 : Cond.selects RX7 yX7_beSpliced yX7_beSpliced ∈ pr_AL := pr_in_pr_A5 _ (List.mem_of_getElem? (i := 37) (by decide +kernel))
theorem pr_w238 : Cond.code yX3_bringSplice cX3_bringSplice 3 none ∈ pr_AL := pr_in_pr_A5 _ (List.mem_of_getElem? (i := 38) (by decide +kernel))
theorem pr_w239 : Cond.code yX4_disturbance cX4_disturbance 1 (some .int) ∈ pr_AL := pr_in_pr_A5 _ (List.mem_of_getElem? (i := 39) (by decide +kernel))
theorem pr_w240 : Cond.code yX4_printPiece cX4_printPiece 3 none ∈ pr_AL := pr_in_pr_A6 _ (List.mem_of_getElem? (i := 0) (by decide +kernel))
theorem pr_w241 : Cond.methodLink RX4 43 yX4_disturbance ∈ pr_AL := pr_in_pr_A6 _ (List.mem_of_getElem? (i := 1) (by decide +kernel))
theorem pr_w242 : Cond.instanceMethod yX4_disturbance ∈ pr_AL := pr_in_pr_A6 _ (List.mem_of_getElem? (i := 2) (by decide +kernel))
theorem pr_w243 : Cond.selects RX4 yX4_disturbance yX4_disturbance ∈ pr_AL := pr_in_pr_A6 _ (List.mem_of_getElem? (i := 3) (by decide +kernel))
theorem pr_w244 : Cond.methodLink RX7 80 yX4_printPiece ∈ pr_AL := pr_in_pr_A6 _ (List.mem_of_getElem? (i := 4) (by decide +kernel))
theorem pr_w245 : Cond.instanceMethod yX4_printPiece ∈ pr_AL := pr_in_pr_A6 _ (List.mem_of_getElem? (i := 5) (by decide +kernel))
theorem pr_w246 : Cond.selects RX4 yX4_printPiece yX4_printPiece ∈ pr_AL := pr_in_pr_A6 _ (List.mem_of_getElem? (i := 6) (by decide +kernel))
theorem pr_w247 : Cond.code yX7_printPiece cX7_printPiece 3 none ∈ pr_AL := pr_in_pr_A6 _ (List.mem_of_getElem? (i := 7) (by decide +kernel))
theorem pr_w248 : Cond.code yX4_offsetAt cX4_offsetAt 2 (some .int) ∈ pr_AL := pr_in_pr_A6 _ (List.mem_of_getElem? (i := 8) (by decide +kernel))
theorem pr_w249 : Cond.code yX4_skewAt cX4_skewAt 2 (some .int) ∈ pr_AL := pr_in_pr_A6 _ (List.mem_of_getElem? (i := 9) (by decide +kernel))
theorem pr_w250 : Cond.code yX5_seePiece cX5_seePiece 3 none ∈ pr_AL := pr_in_pr_A6 _ (List.mem_of_getElem? (i := 10) (by decide +kernel))
theorem pr_w251 : Cond.methodLink RX5 57 yX1_add ∈ pr_AL := pr_in_pr_A6 _ (List.mem_of_getElem? (i := 11) (by decide +kernel))
theorem pr_w252 : Cond.instanceMethod yX1_add ∈ pr_AL := pr_in_pr_A6 _ (List.mem_of_getElem? (i := 12) (by decide +kernel))
theorem pr_w253 : Cond.selects RX1 yX1_add yX1_add ∈ pr_AL := pr_in_pr_A6 _ (List.mem_of_getElem? (i := 13) (by decide +kernel))
theorem pr_w254 : Cond.code yX7_window cX7_window 2 (some .int) ∈ pr_AL := pr_in_pr_A6 _ (List.mem_of_getElem? (i := 14) (by decide +kernel))
theorem pr_w255 : Cond.code yX5_recognizeNear cX5_recognizeNear 8 none ∈ pr_AL := pr_in_pr_A6 _ (List.mem_of_getElem? (i := 15) (by decide +kernel))
theorem pr_w256 : Cond.methodLink RX5 61 Lib.Math.abs.name ∈ pr_AL := pr_in_pr_A6 _ (List.mem_of_getElem? (i := 16) (by decide +kernel))
theorem pr_w257 : Cond.methodLink RX7 89 yX7_window ∈ pr_AL := pr_in_pr_A6 _ (List.mem_of_getElem? (i := 17) (by decide +kernel))
theorem pr_w258 : Cond.instanceMethod yX7_window ∈ pr_AL := pr_in_pr_A6 _ (List.mem_of_getElem? (i := 18) (by decide +kernel))
theorem pr_w259 : Cond.selects RX7 yX7_window yX7_window ∈ pr_AL := pr_in_pr_A6 _ (List.mem_of_getElem? (i := 19) (by decide +kernel))
theorem pr_w260 : Cond.methodLink RX7 93 yX5_recognizeNear ∈ pr_AL := pr_in_pr_A6 _ (List.mem_of_getElem? (i := 20) (by decide +kernel))
theorem pr_w261 : Cond.instanceMethod yX5_recognizeNear ∈ pr_AL := pr_in_pr_A6 _ (List.mem_of_getElem? (i := 21) (by decide +kernel))
theorem pr_w262 : Cond.selects RX5 yX5_recognizeNear yX5_recognizeNear ∈ pr_AL := pr_in_pr_A6 _ (List.mem_of_getElem? (i := 22) (by decide +kernel))
theorem pr_w263 : Cond.code yX7_recognizeMark cX7_recognizeMark 2 (some .boolean) ∈ pr_AL := pr_in_pr_A6 _ (List.mem_of_getElem? (i := 23) (by decide +kernel))
theorem pr_w264 : Cond.code yX8_limited cX8_limited 2 (some .int) ∈ pr_AL := pr_in_pr_A6 _ (List.mem_of_getElem? (i := 24) (by decide +kernel))
theorem pr_w265 : Cond.code yX7_learnFrom cX7_learnFrom 4 (some .boolean) ∈ pr_AL := pr_in_pr_A6 _ (List.mem_of_getElem? (i := 25) (by decide +kernel))
theorem pr_w266 : Cond.methodLink RX7 103 Lib.Math.abs.name ∈ pr_AL := pr_in_pr_A6 _ (List.mem_of_getElem? (i := 26) (by decide +kernel))
theorem pr_w267 : Cond.static yX8_limited ∈ pr_AL := pr_in_pr_A6 _ (List.mem_of_getElem? (i := 27) (by decide +kernel))
theorem pr_w268 : Cond.code yX7_expectAsMeasured cX7_expectAsMeasured 1 none ∈ pr_AL := pr_in_pr_A6 _ (List.mem_of_getElem? (i := 28) (by decide +kernel))
theorem pr_w269 : Cond.code yX7_isOff cX7_isOff 2 (some .boolean) ∈ pr_AL := pr_in_pr_A6 _ (List.mem_of_getElem? (i := 29) (by decide +kernel))
theorem pr_w270 : Cond.code yX7_correctPhase cX7_correctPhase 4 (some .int) ∈ pr_AL := pr_in_pr_A6 _ (List.mem_of_getElem? (i := 30) (by decide +kernel))
theorem pr_w271 : Cond.code yX7_correctSkew cX7_correctSkew 3 (some .int) ∈ pr_AL := pr_in_pr_A6 _ (List.mem_of_getElem? (i := 31) (by decide +kernel))
theorem pr_w272 : Cond.methodLink RX3 147 yX7_learnFrom ∈ pr_AL := pr_in_pr_A6 _ (List.mem_of_getElem? (i := 32) (by decide +kernel))
theorem pr_w273 : Cond.instanceMethod yX7_learnFrom ∈ pr_AL := pr_in_pr_A6 _ (List.mem_of_getElem? (i := 33) (by decide +kernel))
theorem pr_w274 : Cond.selects RX7 yX7_learnFrom yX7_learnFrom ∈ pr_AL := pr_in_pr_A6 _ (List.mem_of_getElem? (i := 34) (by decide +kernel))
theorem pr_w275 : Cond.methodLink RX3 151 yX7_expectAsMeasured ∈ pr_AL := pr_in_pr_A6 _ (List.mem_of_getElem? (i := 35) (by decide +kernel))
theorem pr_w276 : Cond.instanceMethod yX7_expectAsMeasured ∈ pr_AL := pr_in_pr_A6 _ (List.mem_of_getElem? (i := 36) (by decide +kernel))
theorem pr_w277 : Cond.selects RX7 yX7_expectAsMeasured yX7_expectAsMeasured ∈ pr_AL := pr_in_pr_A6 _ (List.mem_of_getElem? (i := 37) (by decide +kernel))
theorem pr_w278 : Cond.methodLink RX3 166 yX7_isOff ∈ pr_AL := pr_in_pr_A6 _ (List.mem_of_getElem? (i := 38) (by decide +kernel))
theorem pr_w279 : Cond.instanceMethod yX7_isOff ∈ pr_AL := pr_in_pr_A6 _ (List.mem_of_getElem? (i := 39) (by decide +kernel))
theorem pr_w280 : Cond.selects RX7 yX7_isOff yX7_isOff ∈ pr_AL := pr_in_pr_A7 _ (List.mem_of_getElem? (i := 0) (by decide +kernel))
theorem pr_w281 : Cond.methodLink RX3 172 yX7_correctPhase ∈ pr_AL := pr_in_pr_A7 _ (List.mem_of_getElem? (i := 1) (by decide +kernel))
theorem pr_w282 : Cond.instanceMethod yX7_correctPhase ∈ pr_AL := pr_in_pr_A7 _ (List.mem_of_getElem? (i := 2) (by decide +kernel))
theorem pr_w283 : Cond.selects RX7 yX7_correctPhase yX7_correctPhase ∈ pr_AL := pr_in_pr_A7 _ (List.mem_of_getElem? (i := 3) (by decide +kernel))
theorem pr_w284 : Cond.methodLink RX3 179 yX7_correctSkew ∈ pr_AL := pr_in_pr_A7 _ (List.mem_of_getElem? (i := 4) (by decide +kernel))
theorem pr_w285 : Cond.instanceMethod yX7_correctSkew ∈ pr_AL := pr_in_pr_A7 _ (List.mem_of_getElem? (i := 5) (by decide +kernel))
theorem pr_w286 : Cond.selects RX7 yX7_correctSkew yX7_correctSkew ∈ pr_AL := pr_in_pr_A7 _ (List.mem_of_getElem? (i := 6) (by decide +kernel))
theorem pr_w287 : Cond.code yX3_control cX3_control 5 none ∈ pr_AL := pr_in_pr_A7 _ (List.mem_of_getElem? (i := 7) (by decide +kernel))
theorem pr_w288 : Cond.methodLink RX3 119 yX5_seeNothing ∈ pr_AL := pr_in_pr_A7 _ (List.mem_of_getElem? (i := 8) (by decide +kernel))
theorem pr_w289 : Cond.methodLink RX3 126 yX4_offsetAt ∈ pr_AL := pr_in_pr_A7 _ (List.mem_of_getElem? (i := 9) (by decide +kernel))
theorem pr_w290 : Cond.instanceMethod yX4_offsetAt ∈ pr_AL := pr_in_pr_A7 _ (List.mem_of_getElem? (i := 10) (by decide +kernel))
theorem pr_w291 : Cond.selects RX4 yX4_offsetAt yX4_offsetAt ∈ pr_AL := pr_in_pr_A7 _ (List.mem_of_getElem? (i := 11) (by decide +kernel))
theorem pr_w292 : Cond.methodLink RX3 131 yX4_skewAt ∈ pr_AL := pr_in_pr_A7 _ (List.mem_of_getElem? (i := 12) (by decide +kernel))
theorem pr_w293 : Cond.instanceMethod yX4_skewAt ∈ pr_AL := pr_in_pr_A7 _ (List.mem_of_getElem? (i := 13) (by decide +kernel))
theorem pr_w294 : Cond.selects RX4 yX4_skewAt yX4_skewAt ∈ pr_AL := pr_in_pr_A7 _ (List.mem_of_getElem? (i := 14) (by decide +kernel))
theorem pr_w295 : Cond.methodLink RX3 134 yX5_seePiece ∈ pr_AL := pr_in_pr_A7 _ (List.mem_of_getElem? (i := 15) (by decide +kernel))
theorem pr_w296 : Cond.instanceMethod yX5_seePiece ∈ pr_AL := pr_in_pr_A7 _ (List.mem_of_getElem? (i := 16) (by decide +kernel))
theorem pr_w297 : Cond.selects RX5 yX5_seePiece yX5_seePiece ∈ pr_AL := pr_in_pr_A7 _ (List.mem_of_getElem? (i := 17) (by decide +kernel))
theorem pr_w298 : Cond.methodLink RX3 137 yX7_recognizeMark ∈ pr_AL := pr_in_pr_A7 _ (List.mem_of_getElem? (i := 18) (by decide +kernel))
theorem pr_w299 : Cond.instanceMethod yX7_recognizeMark ∈ pr_AL := pr_in_pr_A7 _ (List.mem_of_getElem? (i := 19) (by decide +kernel))
theorem pr_w300 : Cond.selects RX7 yX7_recognizeMark yX7_recognizeMark ∈ pr_AL := pr_in_pr_A7 _ (List.mem_of_getElem? (i := 20) (by decide +kernel))
theorem pr_w301 : Cond.methodLink RX3 144 yX3_control ∈ pr_AL := pr_in_pr_A7 _ (List.mem_of_getElem? (i := 21) (by decide +kernel))
theorem pr_w302 : Cond.instanceMethod yX3_control ∈ pr_AL := pr_in_pr_A7 _ (List.mem_of_getElem? (i := 22) (by decide +kernel))
theorem pr_w303 : Cond.selects RX3 yX3_control yX3_control ∈ pr_AL := pr_in_pr_A7 _ (List.mem_of_getElem? (i := 23) (by decide +kernel))
theorem pr_w304 : Cond.code yX3_watchUnit cX3_watchUnit 6 none ∈ pr_AL := pr_in_pr_A7 _ (List.mem_of_getElem? (i := 24) (by decide +kernel))
theorem pr_w305 : Cond.code yX7_endRepeat cX7_endRepeat 1 none ∈ pr_AL := pr_in_pr_A7 _ (List.mem_of_getElem? (i := 25) (by decide +kernel))
theorem pr_w306 : Cond.methodLink RX7 124 yX0_endRepeat ∈ pr_AL := pr_in_pr_A7 _ (List.mem_of_getElem? (i := 26) (by decide +kernel))
theorem pr_w307 : Cond.instanceMethod yX0_endRepeat ∈ pr_AL := pr_in_pr_A7 _ (List.mem_of_getElem? (i := 27) (by decide +kernel))
theorem pr_w308 : Cond.selects RX0 yX0_endRepeat yX0_endRepeat ∈ pr_AL := pr_in_pr_A7 _ (List.mem_of_getElem? (i := 28) (by decide +kernel))
theorem pr_w309 : Cond.methodLink RX3 103 yX3_bringSplice ∈ pr_AL := pr_in_pr_A7 _ (List.mem_of_getElem? (i := 29) (by decide +kernel))
theorem pr_w310 : Cond.instanceMethod yX3_bringSplice ∈ pr_AL := pr_in_pr_A7 _ (List.mem_of_getElem? (i := 30) (by decide +kernel))
theorem pr_w311 : Cond.selects RX3 yX3_bringSplice yX3_bringSplice ∈ pr_AL := pr_in_pr_A7 _ (List.mem_of_getElem? (i := 31) (by decide +kernel))
theorem pr_w312 : Cond.methodLink RX3 106 yX7_printPiece ∈ pr_AL := pr_in_pr_A7 _ (List.mem_of_getElem? (i := 32) (by decide +kernel))
theorem pr_w313 : Cond.instanceMethod yX7_printPiece ∈ pr_AL := pr_in_pr_A7 _ (List.mem_of_getElem? (i := 33) (by decide +kernel))
theorem pr_w314 : Cond.selects RX7 yX7_printPiece yX7_printPiece ∈ pr_AL := pr_in_pr_A7 _ (List.mem_of_getElem? (i := 34) (by decide +kernel))
theorem pr_w315 : Cond.methodLink RX3 109 yX3_watchUnit ∈ pr_AL := pr_in_pr_A7 _ (List.mem_of_getElem? (i := 35) (by decide +kernel))
theorem pr_w316 : Cond.instanceMethod yX3_watchUnit ∈ pr_AL := pr_in_pr_A7 _ (List.mem_of_getElem? (i := 36) (by decide +kernel))
theorem pr_w317 : Cond.selects RX3 yX3_watchUnit yX3_watchUnit ∈ pr_AL := pr_in_pr_A7 _ (List.mem_of_getElem? (i := 37) (by decide +kernel))
theorem pr_w318 : Cond.methodLink RX3 113 yX7_endRepeat ∈ pr_AL := pr_in_pr_A7 _ (List.mem_of_getElem? (i := 38) (by decide +kernel))
theorem pr_w319 : Cond.instanceMethod yX7_endRepeat ∈ pr_AL := pr_in_pr_A7 _ (List.mem_of_getElem? (i := 39) (by decide +kernel))
theorem pr_w320 : Cond.selects RX7 yX7_endRepeat yX7_endRepeat ∈ pr_AL := pr_in_pr_A8 _ (List.mem_of_getElem? (i := 0) (by decide +kernel))
theorem pr_w321 : Cond.code yX3_makeRepeat cX3_makeRepeat 4 none ∈ pr_AL := pr_in_pr_A8 _ (List.mem_of_getElem? (i := 1) (by decide +kernel))
theorem pr_w322 : Cond.methodLink RX3 93 yX3_copyFrom ∈ pr_AL := pr_in_pr_A8 _ (List.mem_of_getElem? (i := 2) (by decide +kernel))
theorem pr_w323 : Cond.instanceMethod yX3_copyFrom ∈ pr_AL := pr_in_pr_A8 _ (List.mem_of_getElem? (i := 3) (by decide +kernel))
theorem pr_w324 : Cond.selects RX3 yX3_copyFrom yX3_copyFrom ∈ pr_AL := pr_in_pr_A8 _ (List.mem_of_getElem? (i := 4) (by decide +kernel))
theorem pr_w325 : Cond.methodLink RX3 96 yX7_changeSetting ∈ pr_AL := pr_in_pr_A8 _ (List.mem_of_getElem? (i := 5) (by decide +kernel))
theorem pr_w326 : Cond.instanceMethod yX7_changeSetting ∈ pr_AL := pr_in_pr_A8 _ (List.mem_of_getElem? (i := 6) (by decide +kernel))
theorem pr_w327 : Cond.selects RX7 yX7_changeSetting yX7_changeSetting ∈ pr_AL := pr_in_pr_A8 _ (List.mem_of_getElem? (i := 7) (by decide +kernel))
theorem pr_w328 : Cond.methodLink RX3 100 yX3_makeRepeat ∈ pr_AL := pr_in_pr_A8 _ (List.mem_of_getElem? (i := 8) (by decide +kernel))
theorem pr_w329 : Cond.instanceMethod yX3_makeRepeat ∈ pr_AL := pr_in_pr_A8 _ (List.mem_of_getElem? (i := 9) (by decide +kernel))
theorem pr_w330 : Cond.selects RX3 yX3_makeRepeat yX3_makeRepeat ∈ pr_AL := pr_in_pr_A8 _ (List.mem_of_getElem? (i := 10) (by decide +kernel))
theorem pr_w331 : Cond.code yX3_sumErrorsIn cX3_sumErrorsIn 9 (some .int) ∈ pr_AL := pr_in_pr_A8 _ (List.mem_of_getElem? (i := 11) (by decide +kernel))
theorem pr_w332 : Cond.code yX4_byHand cX4_byHand 2 (some .int) ∈ pr_AL := pr_in_pr_A8 _ (List.mem_of_getElem? (i := 12) (by decide +kernel))
theorem pr_w333 : Cond.code yX4_changeByHand cX4_changeByHand 3 none ∈ pr_AL := pr_in_pr_A8 _ (List.mem_of_getElem? (i := 13) (by decide +kernel))
theorem pr_w334 : Cond.code yX5_sight cX5_sight 2 (some .int) ∈ pr_AL := pr_in_pr_A8 _ (List.mem_of_getElem? (i := 14) (by decide +kernel))
theorem pr_w335 : Cond.methodLink RX6 1 objectInit ∈ pr_AL := pr_in_pr_A8 _ (List.mem_of_getElem? (i := 15) (by decide +kernel))
theorem pr_w336 : Cond.classLink RX6 7 RX3 ∈ pr_AL := pr_in_pr_A8 _ (List.mem_of_getElem? (i := 16) (by decide +kernel))
theorem pr_w337 : Cond.instantiable RX3 10 ∈ pr_AL := pr_in_pr_A8 _ (List.mem_of_getElem? (i := 17) (by decide +kernel))
theorem pr_w338 : Cond.fieldLink RX6 10 "PrintRegister$Slot" "saved" "LPrintRegister$Press;" ∈ pr_AL := pr_in_pr_A8 _ (List.mem_of_getElem? (i := 18) (by decide +kernel))
theorem pr_w339 : Cond.methodLink RX6 9 yX3_init ∈ pr_AL := pr_in_pr_A8 _ (List.mem_of_getElem? (i := 19) (by decide +kernel))
theorem pr_w340 : Cond.instanceMethod yX3_init ∈ pr_AL := pr_in_pr_A8 _ (List.mem_of_getElem? (i := 20) (by decide +kernel))
theorem pr_w341 : Cond.code yX6_init cX6_init 1 none ∈ pr_AL := pr_in_pr_A8 _ (List.mem_of_getElem? (i := 21) (by decide +kernel))
theorem pr_w342 : Cond.methodLink RX8 1 objectInit ∈ pr_AL := pr_in_pr_A8 _ (List.mem_of_getElem? (i := 22) (by decide +kernel))
theorem pr_w343 : Cond.classLink RX8 7 RX3 ∈ pr_AL := pr_in_pr_A8 _ (List.mem_of_getElem? (i := 23) (by decide +kernel))
theorem pr_w344 : Cond.fieldLink RX8 10 "PrintRegister" "press" "LPrintRegister$Press;" ∈ pr_AL := pr_in_pr_A8 _ (List.mem_of_getElem? (i := 24) (by decide +kernel))
theorem pr_w345 : Cond.fieldLink RX8 16 "PrintRegister" "copy" "LPrintRegister$Press;" ∈ pr_AL := pr_in_pr_A8 _ (List.mem_of_getElem? (i := 25) (by decide +kernel))
theorem pr_w346 : Cond.classLink RX8 19 RX6 ∈ pr_AL := pr_in_pr_A8 _ (List.mem_of_getElem? (i := 26) (by decide +kernel))
theorem pr_w347 : Cond.instantiable RX6 2 ∈ pr_AL := pr_in_pr_A8 _ (List.mem_of_getElem? (i := 27) (by decide +kernel))
theorem pr_w348 : Cond.initialized RX6 ∈ pr_AL := pr_in_pr_A8 _ (List.mem_of_getElem? (i := 28) (by decide +kernel))
theorem pr_w349 : Cond.fieldLink RX8 22 "PrintRegister" "slot0" "LPrintRegister$Slot;" ∈ pr_AL := pr_in_pr_A8 _ (List.mem_of_getElem? (i := 29) (by decide +kernel))
theorem pr_w350 : Cond.fieldLink RX8 26 "PrintRegister" "slot1" "LPrintRegister$Slot;" ∈ pr_AL := pr_in_pr_A8 _ (List.mem_of_getElem? (i := 30) (by decide +kernel))
theorem pr_w351 : Cond.classLink RX8 29 RX2 ∈ pr_AL := pr_in_pr_A8 _ (List.mem_of_getElem? (i := 31) (by decide +kernel))
theorem pr_w352 : Cond.instantiable RX2 10 ∈ pr_AL := pr_in_pr_A8 _ (List.mem_of_getElem? (i := 32) (by decide +kernel))
theorem pr_w353 : Cond.fieldLink RX8 32 "PrintRegister" "pad" "LPrintRegister$Pad;" ∈ pr_AL := pr_in_pr_A8 _ (List.mem_of_getElem? (i := 33) (by decide +kernel))
theorem pr_w354 : Cond.methodLink RX8 9 yX3_init ∈ pr_AL := pr_in_pr_A8 _ (List.mem_of_getElem? (i := 34) (by decide +kernel))
theorem pr_w355 : Cond.instanceMethod yX6_init ∈ pr_AL := pr_in_pr_A8 _ (List.mem_of_getElem? (i := 35) (by decide +kernel))
theorem pr_w356 : Cond.instanceMethod yX2_init ∈ pr_AL := pr_in_pr_A8 _ (List.mem_of_getElem? (i := 36) (by decide +kernel))
theorem pr_w357 : Cond.methodLink RX8 36 yX3_begin ∈ pr_AL := pr_in_pr_A8 _ (List.mem_of_getElem? (i := 37) (by decide +kernel))
theorem pr_w358 : Cond.instanceMethod yX3_begin ∈ pr_AL := pr_in_pr_A8 _ (List.mem_of_getElem? (i := 38) (by decide +kernel))
theorem pr_w359 : Cond.selects RX3 yX3_begin yX3_begin ∈ pr_AL := pr_in_pr_A8 _ (List.mem_of_getElem? (i := 39) (by decide +kernel))
theorem pr_w360 : Cond.code yX8_init cX8_init 1 none ∈ pr_AL := pr_in_pr_A9 _ (List.mem_of_getElem? (i := 0) (by decide +kernel))
theorem pr_w361 : Cond.code yX8_isOutside cX8_isOutside 3 (some .boolean) ∈ pr_AL := pr_in_pr_A9 _ (List.mem_of_getElem? (i := 1) (by decide +kernel))
theorem pr_w362 : Cond.constant RX8 44 (-1000000002) ∈ pr_AL := pr_in_pr_A9 _ (List.mem_of_getElem? (i := 2) (by decide +kernel))
theorem pr_w363 : Cond.methodLink RX8 40 yX8_isOutside ∈ pr_AL := pr_in_pr_A9 _ (List.mem_of_getElem? (i := 3) (by decide +kernel))
theorem pr_w364 : Cond.static yX8_isOutside ∈ pr_AL := pr_in_pr_A9 _ (List.mem_of_getElem? (i := 4) (by decide +kernel))
theorem pr_w365 : Cond.code yX8_setUp cX8_setUp 3 (some .int) ∈ pr_AL := pr_in_pr_A9 _ (List.mem_of_getElem? (i := 5) (by decide +kernel))
theorem pr_w366 : Cond.code yX8_isSettingValue cX8_isSettingValue 2 (some .boolean) ∈ pr_AL := pr_in_pr_A9 _ (List.mem_of_getElem? (i := 6) (by decide +kernel))
theorem pr_w367 : Cond.fieldLink RX8 280 "PrintRegister" "LEAST_SETTINGS" "[I" ∈ pr_AL := pr_in_pr_A9 _ (List.mem_of_getElem? (i := 7) (by decide +kernel))
theorem pr_w368 : Cond.fieldLink RX8 283 "PrintRegister" "GREATEST_SETTINGS" "[I" ∈ pr_AL := pr_in_pr_A9 _ (List.mem_of_getElem? (i := 8) (by decide +kernel))
theorem pr_w369 : Cond.code yX8_isPlace cX8_isPlace 1 (some .boolean) ∈ pr_AL := pr_in_pr_A9 _ (List.mem_of_getElem? (i := 9) (by decide +kernel))
theorem pr_w370 : Cond.constant RX8 53 (-1000000001) ∈ pr_AL := pr_in_pr_A9 _ (List.mem_of_getElem? (i := 10) (by decide +kernel))
theorem pr_w371 : Cond.constant RX8 62 (-1000000005) ∈ pr_AL := pr_in_pr_A9 _ (List.mem_of_getElem? (i := 11) (by decide +kernel))
theorem pr_w372 : Cond.methodLink RX8 49 yX3_unitAt ∈ pr_AL := pr_in_pr_A9 _ (List.mem_of_getElem? (i := 12) (by decide +kernel))
theorem pr_w373 : Cond.methodLink RX8 54 yX8_isSettingValue ∈ pr_AL := pr_in_pr_A9 _ (List.mem_of_getElem? (i := 13) (by decide +kernel))
theorem pr_w374 : Cond.static yX8_isSettingValue ∈ pr_AL := pr_in_pr_A9 _ (List.mem_of_getElem? (i := 14) (by decide +kernel))
theorem pr_w375 : Cond.methodLink RX8 58 yX8_isPlace ∈ pr_AL := pr_in_pr_A9 _ (List.mem_of_getElem? (i := 15) (by decide +kernel))
theorem pr_w376 : Cond.static yX8_isPlace ∈ pr_AL := pr_in_pr_A9 _ (List.mem_of_getElem? (i := 16) (by decide +kernel))
theorem pr_w377 : Cond.methodLink RX8 63 yX7_setting ∈ pr_AL := pr_in_pr_A9 _ (List.mem_of_getElem? (i := 17) (by decide +kernel))
theorem pr_w378 : Cond.methodLink RX8 69 yX7_changeSetting ∈ pr_AL := pr_in_pr_A9 _ (List.mem_of_getElem? (i := 18) (by decide +kernel))
theorem pr_w379 : Cond.code yX8_set cX8_set 6 (some .int) ∈ pr_AL := pr_in_pr_A9 _ (List.mem_of_getElem? (i := 19) (by decide +kernel))
theorem pr_w380 : Cond.code yX8_get cX8_get 4 (some .int) ∈ pr_AL := pr_in_pr_A9 _ (List.mem_of_getElem? (i := 20) (by decide +kernel))
theorem pr_w381 : Cond.fieldLink RX8 73 "PrintRegister" "MOST_BY_HAND" "[I" ∈ pr_AL := pr_in_pr_A9 _ (List.mem_of_getElem? (i := 21) (by decide +kernel))
theorem pr_w382 : Cond.methodLink RX8 81 yX4_byHand ∈ pr_AL := pr_in_pr_A9 _ (List.mem_of_getElem? (i := 22) (by decide +kernel))
theorem pr_w383 : Cond.instanceMethod yX4_byHand ∈ pr_AL := pr_in_pr_A9 _ (List.mem_of_getElem? (i := 23) (by decide +kernel))
theorem pr_w384 : Cond.selects RX4 yX4_byHand yX4_byHand ∈ pr_AL := pr_in_pr_A9 _ (List.mem_of_getElem? (i := 24) (by decide +kernel))
theorem pr_w385 : Cond.methodLink RX8 86 yX4_changeByHand ∈ pr_AL := pr_in_pr_A9 _ (List.mem_of_getElem? (i := 25) (by decide +kernel))
theorem pr_w386 : Cond.instanceMethod yX4_changeByHand ∈ pr_AL := pr_in_pr_A9 _ (List.mem_of_getElem? (i := 26) (by decide +kernel))
theorem pr_w387 : Cond.selects RX4 yX4_changeByHand yX4_changeByHand ∈ pr_AL := pr_in_pr_A9 _ (List.mem_of_getElem? (i := 27) (by decide +kernel))
theorem pr_w388 : Cond.code yX8_adjust cX8_adjust 6 (some .int) ∈ pr_AL := pr_in_pr_A9 _ (List.mem_of_getElem? (i := 28) (by decide +kernel))
theorem pr_w389 : Cond.code yX8_restart cX8_restart 4 (some .int) ∈ pr_AL := pr_in_pr_A9 _ (List.mem_of_getElem? (i := 29) (by decide +kernel))
theorem pr_w390 : Cond.methodLink RX8 98 yX0_clear ∈ pr_AL := pr_in_pr_A9 _ (List.mem_of_getElem? (i := 30) (by decide +kernel))
theorem pr_w391 : Cond.code yX8_speed cX8_speed 3 (some .int) ∈ pr_AL := pr_in_pr_A9 _ (List.mem_of_getElem? (i := 31) (by decide +kernel))
theorem pr_w392 : Cond.code yX8_isDisturbance cX8_isDisturbance 2 (some .boolean) ∈ pr_AL := pr_in_pr_A9 _ (List.mem_of_getElem? (i := 32) (by decide +kernel))
theorem pr_w393 : Cond.methodLink RX8 104 yX8_isDisturbance ∈ pr_AL := pr_in_pr_A9 _ (List.mem_of_getElem? (i := 33) (by decide +kernel))
theorem pr_w394 : Cond.static yX8_isDisturbance ∈ pr_AL := pr_in_pr_A9 _ (List.mem_of_getElem? (i := 34) (by decide +kernel))
theorem pr_w395 : Cond.methodLink RX8 107 yX4_beDisturbed ∈ pr_AL := pr_in_pr_A9 _ (List.mem_of_getElem? (i := 35) (by decide +kernel))
theorem pr_w396 : Cond.code yX8_disturb cX8_disturb 5 (some .int) ∈ pr_AL := pr_in_pr_A9 _ (List.mem_of_getElem? (i := 36) (by decide +kernel))
theorem pr_w397 : Cond.code yX8_hide cX8_hide 5 (some .int) ∈ pr_AL := pr_in_pr_A9 _ (List.mem_of_getElem? (i := 37) (by decide +kernel))
theorem pr_w398 : Cond.code yX8_falseMark cX8_falseMark 6 (some .int) ∈ pr_AL := pr_in_pr_A9 _ (List.mem_of_getElem? (i := 38) (by decide +kernel))
theorem pr_w399 : Cond.methodLink RX8 125 yX3_startSplice ∈ pr_AL := pr_in_pr_A9 _ (List.mem_of_getElem? (i := 39) (by decide +kernel))
theorem pr_w400 : Cond.instanceMethod yX3_startSplice ∈ pr_AL := pr_in_pr_A10 _ (List.mem_of_getElem? (i := 0) (by decide +kernel))
theorem pr_w401 : Cond.selects RX3 yX3_startSplice yX3_startSplice ∈ pr_AL := pr_in_pr_A10 _ (List.mem_of_getElem? (i := 1) (by decide +kernel))
theorem pr_w402 : Cond.methodLink RX8 128 yX3_repeatsToLastUnit ∈ pr_AL := pr_in_pr_A10 _ (List.mem_of_getElem? (i := 2) (by decide +kernel))
theorem pr_w403 : Cond.instanceMethod yX3_repeatsToLastUnit ∈ pr_AL := pr_in_pr_A10 _ (List.mem_of_getElem? (i := 3) (by decide +kernel))
theorem pr_w404 : Cond.selects RX3 yX3_repeatsToLastUnit yX3_repeatsToLastUnit ∈ pr_AL := pr_in_pr_A10 _ (List.mem_of_getElem? (i := 4) (by decide +kernel))
theorem pr_w405 : Cond.code yX8_splice cX8_splice 3 (some .int) ∈ pr_AL := pr_in_pr_A10 _ (List.mem_of_getElem? (i := 5) (by decide +kernel))
theorem pr_w406 : Cond.constant RX8 132 (100000) ∈ pr_AL := pr_in_pr_A10 _ (List.mem_of_getElem? (i := 6) (by decide +kernel))
theorem pr_w407 : Cond.methodLink RX8 133 yX3_makeRepeat ∈ pr_AL := pr_in_pr_A10 _ (List.mem_of_getElem? (i := 7) (by decide +kernel))
theorem pr_w408 : Cond.code yX8_run cX8_run 3 (some .int) ∈ pr_AL := pr_in_pr_A10 _ (List.mem_of_getElem? (i := 8) (by decide +kernel))
theorem pr_w409 : Cond.constant RX8 152 (-1000000006) ∈ pr_AL := pr_in_pr_A10 _ (List.mem_of_getElem? (i := 9) (by decide +kernel))
theorem pr_w410 : Cond.methodLink RX8 136 yX4_offsetAt ∈ pr_AL := pr_in_pr_A10 _ (List.mem_of_getElem? (i := 10) (by decide +kernel))
theorem pr_w411 : Cond.methodLink RX8 139 yX4_skewAt ∈ pr_AL := pr_in_pr_A10 _ (List.mem_of_getElem? (i := 11) (by decide +kernel))
theorem pr_w412 : Cond.methodLink RX8 149 yX5_sight ∈ pr_AL := pr_in_pr_A10 _ (List.mem_of_getElem? (i := 12) (by decide +kernel))
theorem pr_w413 : Cond.instanceMethod yX5_sight ∈ pr_AL := pr_in_pr_A10 _ (List.mem_of_getElem? (i := 13) (by decide +kernel))
theorem pr_w414 : Cond.selects RX5 yX5_sight yX5_sight ∈ pr_AL := pr_in_pr_A10 _ (List.mem_of_getElem? (i := 14) (by decide +kernel))
theorem pr_w415 : Cond.code yX8_seen cX8_seen 6 (some .int) ∈ pr_AL := pr_in_pr_A10 _ (List.mem_of_getElem? (i := 15) (by decide +kernel))
theorem pr_w416 : Cond.methodLink RX8 174 yX3_wayOf ∈ pr_AL := pr_in_pr_A10 _ (List.mem_of_getElem? (i := 16) (by decide +kernel))
theorem pr_w417 : Cond.code yX8_state cX8_state 4 (some .int) ∈ pr_AL := pr_in_pr_A10 _ (List.mem_of_getElem? (i := 17) (by decide +kernel))
theorem pr_w418 : Cond.methodLink RX8 177 yX3_controlledUnitAt ∈ pr_AL := pr_in_pr_A10 _ (List.mem_of_getElem? (i := 18) (by decide +kernel))
theorem pr_w419 : Cond.instanceMethod yX3_controlledUnitAt ∈ pr_AL := pr_in_pr_A10 _ (List.mem_of_getElem? (i := 19) (by decide +kernel))
theorem pr_w420 : Cond.selects RX3 yX3_controlledUnitAt yX3_controlledUnitAt ∈ pr_AL := pr_in_pr_A10 _ (List.mem_of_getElem? (i := 20) (by decide +kernel))
theorem pr_w421 : Cond.methodLink RX8 184 yX1_greatest ∈ pr_AL := pr_in_pr_A10 _ (List.mem_of_getElem? (i := 21) (by decide +kernel))
theorem pr_w422 : Cond.instanceMethod yX1_greatest ∈ pr_AL := pr_in_pr_A10 _ (List.mem_of_getElem? (i := 22) (by decide +kernel))
theorem pr_w423 : Cond.selects RX1 yX1_greatest yX1_greatest ∈ pr_AL := pr_in_pr_A10 _ (List.mem_of_getElem? (i := 23) (by decide +kernel))
theorem pr_w424 : Cond.methodLink RX8 189 yX1_sumOf ∈ pr_AL := pr_in_pr_A10 _ (List.mem_of_getElem? (i := 24) (by decide +kernel))
theorem pr_w425 : Cond.instanceMethod yX1_sumOf ∈ pr_AL := pr_in_pr_A10 _ (List.mem_of_getElem? (i := 25) (by decide +kernel))
theorem pr_w426 : Cond.selects RX1 yX1_sumOf yX1_sumOf ∈ pr_AL := pr_in_pr_A10 _ (List.mem_of_getElem? (i := 26) (by decide +kernel))
theorem pr_w427 : Cond.methodLink RX8 192 yX1_kept ∈ pr_AL := pr_in_pr_A10 _ (List.mem_of_getElem? (i := 27) (by decide +kernel))
theorem pr_w428 : Cond.methodLink RX8 195 yX1_greaterThan ∈ pr_AL := pr_in_pr_A10 _ (List.mem_of_getElem? (i := 28) (by decide +kernel))
theorem pr_w429 : Cond.instanceMethod yX1_greaterThan ∈ pr_AL := pr_in_pr_A10 _ (List.mem_of_getElem? (i := 29) (by decide +kernel))
theorem pr_w430 : Cond.selects RX1 yX1_greaterThan yX1_greaterThan ∈ pr_AL := pr_in_pr_A10 _ (List.mem_of_getElem? (i := 30) (by decide +kernel))
theorem pr_w431 : Cond.code yX8_errors cX8_errors 6 (some .int) ∈ pr_AL := pr_in_pr_A10 _ (List.mem_of_getElem? (i := 31) (by decide +kernel))
theorem pr_w432 : Cond.code yX8_total cX8_total 2 (some .int) ∈ pr_AL := pr_in_pr_A10 _ (List.mem_of_getElem? (i := 32) (by decide +kernel))
theorem pr_w433 : Cond.methodLink RX8 202 yX3_copyFrom ∈ pr_AL := pr_in_pr_A10 _ (List.mem_of_getElem? (i := 33) (by decide +kernel))
theorem pr_w434 : Cond.methodLink RX8 206 yX3_isWithin ∈ pr_AL := pr_in_pr_A10 _ (List.mem_of_getElem? (i := 34) (by decide +kernel))
theorem pr_w435 : Cond.instanceMethod yX3_isWithin ∈ pr_AL := pr_in_pr_A10 _ (List.mem_of_getElem? (i := 35) (by decide +kernel))
theorem pr_w436 : Cond.selects RX3 yX3_isWithin yX3_isWithin ∈ pr_AL := pr_in_pr_A10 _ (List.mem_of_getElem? (i := 36) (by decide +kernel))
theorem pr_w437 : Cond.code yX8_forecast cX8_forecast 7 (some .int) ∈ pr_AL := pr_in_pr_A10 _ (List.mem_of_getElem? (i := 37) (by decide +kernel))
theorem pr_w438 : Cond.methodLink RX8 209 yX3_sumErrorsIn ∈ pr_AL := pr_in_pr_A10 _ (List.mem_of_getElem? (i := 38) (by decide +kernel))
theorem pr_w439 : Cond.instanceMethod yX3_sumErrorsIn ∈ pr_AL := pr_in_pr_A10 _ (List.mem_of_getElem? (i := 39) (by decide +kernel))
theorem pr_w440 : Cond.selects RX3 yX3_sumErrorsIn yX3_sumErrorsIn ∈ pr_AL := pr_in_pr_A11 _ (List.mem_of_getElem? (i := 0) (by decide +kernel))
theorem pr_w441 : Cond.code yX8_attempt cX8_attempt 6 (some .int) ∈ pr_AL := pr_in_pr_A11 _ (List.mem_of_getElem? (i := 1) (by decide +kernel))
theorem pr_w442 : Cond.code yX8_bestGain cX8_bestGain 12 (some .int) ∈ pr_AL := pr_in_pr_A11 _ (List.mem_of_getElem? (i := 2) (by decide +kernel))
theorem pr_w443 : Cond.code yX8_charactersIn cX8_charactersIn 5 (some .int) ∈ pr_AL := pr_in_pr_A11 _ (List.mem_of_getElem? (i := 3) (by decide +kernel))
theorem pr_w444 : Cond.constantLong RX8 278 (255) ∈ pr_AL := pr_in_pr_A11 _ (List.mem_of_getElem? (i := 4) (by decide +kernel))
theorem pr_w445 : Cond.code yX8_put cX8_put 5 (some .int) ∈ pr_AL := pr_in_pr_A11 _ (List.mem_of_getElem? (i := 5) (by decide +kernel))
theorem pr_w446 : Cond.constant RX8 220 (-1000000004) ∈ pr_AL := pr_in_pr_A11 _ (List.mem_of_getElem? (i := 6) (by decide +kernel))
theorem pr_w447 : Cond.methodLink RX8 213 yX8_charactersIn ∈ pr_AL := pr_in_pr_A11 _ (List.mem_of_getElem? (i := 7) (by decide +kernel))
theorem pr_w448 : Cond.static yX8_charactersIn ∈ pr_AL := pr_in_pr_A11 _ (List.mem_of_getElem? (i := 8) (by decide +kernel))
theorem pr_w449 : Cond.methodLink RX8 221 yX2_append ∈ pr_AL := pr_in_pr_A11 _ (List.mem_of_getElem? (i := 9) (by decide +kernel))
theorem pr_w450 : Cond.instanceMethod yX2_append ∈ pr_AL := pr_in_pr_A11 _ (List.mem_of_getElem? (i := 10) (by decide +kernel))
theorem pr_w451 : Cond.selects RX2 yX2_append yX2_append ∈ pr_AL := pr_in_pr_A11 _ (List.mem_of_getElem? (i := 11) (by decide +kernel))
theorem pr_w452 : Cond.code yX8_wipe cX8_wipe 2 (some .int) ∈ pr_AL := pr_in_pr_A11 _ (List.mem_of_getElem? (i := 12) (by decide +kernel))
theorem pr_w453 : Cond.methodLink RX8 224 yX2_readAll ∈ pr_AL := pr_in_pr_A11 _ (List.mem_of_getElem? (i := 13) (by decide +kernel))
theorem pr_w454 : Cond.instanceMethod yX2_readAll ∈ pr_AL := pr_in_pr_A11 _ (List.mem_of_getElem? (i := 14) (by decide +kernel))
theorem pr_w455 : Cond.selects RX2 yX2_readAll yX2_readAll ∈ pr_AL := pr_in_pr_A11 _ (List.mem_of_getElem? (i := 15) (by decide +kernel))
theorem pr_w456 : Cond.code yX8_fault cX8_fault 1 (some .int) ∈ pr_AL := pr_in_pr_A11 _ (List.mem_of_getElem? (i := 16) (by decide +kernel))
theorem pr_w457 : Cond.code yX8_carryOutStep cX8_carryOutStep 2 none ∈ pr_AL := pr_in_pr_A11 _ (List.mem_of_getElem? (i := 17) (by decide +kernel))
theorem pr_w458 : Cond.constant RX8 233 (-1000000003) ∈ pr_AL := pr_in_pr_A11 _ (List.mem_of_getElem? (i := 18) (by decide +kernel))
theorem pr_w459 : Cond.methodLink RX8 243 yX2_beginReading ∈ pr_AL := pr_in_pr_A11 _ (List.mem_of_getElem? (i := 19) (by decide +kernel))
theorem pr_w460 : Cond.methodLink RX8 246 yX2_hasMore ∈ pr_AL := pr_in_pr_A11 _ (List.mem_of_getElem? (i := 20) (by decide +kernel))
theorem pr_w461 : Cond.methodLink RX8 250 yX2_readStep ∈ pr_AL := pr_in_pr_A11 _ (List.mem_of_getElem? (i := 21) (by decide +kernel))
theorem pr_w462 : Cond.methodLink RX8 253 yX8_carryOutStep ∈ pr_AL := pr_in_pr_A11 _ (List.mem_of_getElem? (i := 22) (by decide +kernel))
theorem pr_w463 : Cond.instanceMethod yX8_carryOutStep ∈ pr_AL := pr_in_pr_A11 _ (List.mem_of_getElem? (i := 23) (by decide +kernel))
theorem pr_w464 : Cond.selects RX8 yX8_carryOutStep yX8_carryOutStep ∈ pr_AL := pr_in_pr_A11 _ (List.mem_of_getElem? (i := 24) (by decide +kernel))
theorem pr_w465 : Cond.code yX8_carryOut cX8_carryOut 3 (some .int) ∈ pr_AL := pr_in_pr_A11 _ (List.mem_of_getElem? (i := 25) (by decide +kernel))
theorem pr_w466 : Cond.code yX8_count cX8_count 2 (some .int) ∈ pr_AL := pr_in_pr_A11 _ (List.mem_of_getElem? (i := 26) (by decide +kernel))
theorem pr_w467 : Cond.code yX8_slotAt cX8_slotAt 2 (some (.object "PrintRegister$Slot")) ∈ pr_AL := pr_in_pr_A11 _ (List.mem_of_getElem? (i := 27) (by decide +kernel))
theorem pr_w468 : Cond.methodLink RX8 256 yX8_slotAt ∈ pr_AL := pr_in_pr_A11 _ (List.mem_of_getElem? (i := 28) (by decide +kernel))
theorem pr_w469 : Cond.instanceMethod yX8_slotAt ∈ pr_AL := pr_in_pr_A11 _ (List.mem_of_getElem? (i := 29) (by decide +kernel))
theorem pr_w470 : Cond.selects RX8 yX8_slotAt yX8_slotAt ∈ pr_AL := pr_in_pr_A11 _ (List.mem_of_getElem? (i := 30) (by decide +kernel))
theorem pr_w471 : Cond.code yX8_save cX8_save 3 (some .int) ∈ pr_AL := pr_in_pr_A11 _ (List.mem_of_getElem? (i := 31) (by decide +kernel))
theorem pr_w472 : Cond.code yX8_restore cX8_restore 3 (some .int) ∈ pr_AL := pr_in_pr_A11 _ (List.mem_of_getElem? (i := 32) (by decide +kernel))
theorem pr_w473 : Cond.code yX9_firstValue cX9_firstValue 1 (some .int) ∈ pr_AL := pr_in_pr_A11 _ (List.mem_of_getElem? (i := 33) (by decide +kernel))
theorem pr_w474 : Cond.code yX9_place cX9_place 2 (some .int) ∈ pr_AL := pr_in_pr_A11 _ (List.mem_of_getElem? (i := 34) (by decide +kernel))
theorem pr_w475 : Cond.code yX9_lay cX9_lay 4 none ∈ pr_AL := pr_in_pr_A11 _ (List.mem_of_getElem? (i := 35) (by decide +kernel))
theorem pr_w476 : Cond.fieldLink RX9 9 "PrintRegisterModel" "at" "[I" ∈ pr_AL := pr_in_pr_A11 _ (List.mem_of_getElem? (i := 36) (by decide +kernel))
theorem pr_w477 : Cond.methodLink RX9 33 yX9_place ∈ pr_AL := pr_in_pr_A11 _ (List.mem_of_getElem? (i := 37) (by decide +kernel))
theorem pr_w478 : Cond.static yX9_place ∈ pr_AL := pr_in_pr_A11 _ (List.mem_of_getElem? (i := 38) (by decide +kernel))
theorem pr_w479 : Cond.initialized RX9 ∈ pr_AL := pr_in_pr_A11 _ (List.mem_of_getElem? (i := 39) (by decide +kernel))
theorem pr_w480 : Cond.code yX9_layAll cX9_layAll 4 none ∈ pr_AL := pr_in_pr_A12 _ (List.mem_of_getElem? (i := 0) (by decide +kernel))
theorem pr_w481 : Cond.methodLink RX9 37 yX9_firstValue ∈ pr_AL := pr_in_pr_A12 _ (List.mem_of_getElem? (i := 1) (by decide +kernel))
theorem pr_w482 : Cond.static yX9_firstValue ∈ pr_AL := pr_in_pr_A12 _ (List.mem_of_getElem? (i := 2) (by decide +kernel))
theorem pr_w483 : Cond.methodLink RX9 41 yX9_lay ∈ pr_AL := pr_in_pr_A12 _ (List.mem_of_getElem? (i := 3) (by decide +kernel))
theorem pr_w484 : Cond.instanceMethod yX9_lay ∈ pr_AL := pr_in_pr_A12 _ (List.mem_of_getElem? (i := 4) (by decide +kernel))
theorem pr_w485 : Cond.selects RX9 yX9_lay yX9_lay ∈ pr_AL := pr_in_pr_A12 _ (List.mem_of_getElem? (i := 5) (by decide +kernel))
theorem pr_w486 : Cond.methodLink RX9 3 objectInit ∈ pr_AL := pr_in_pr_A12 _ (List.mem_of_getElem? (i := 6) (by decide +kernel))
theorem pr_w487 : Cond.fieldLink RX9 13 "PrintRegisterModel" "aside" "[I" ∈ pr_AL := pr_in_pr_A12 _ (List.mem_of_getElem? (i := 7) (by decide +kernel))
theorem pr_w488 : Cond.fieldLink RX9 16 "PrintRegisterModel" "slots" "[I" ∈ pr_AL := pr_in_pr_A12 _ (List.mem_of_getElem? (i := 8) (by decide +kernel))
theorem pr_w489 : Cond.arrayClass .boolean ∈ pr_AL := pr_in_pr_A12 _ (List.mem_of_getElem? (i := 9) (by decide +kernel))
theorem pr_w490 : Cond.fieldLink RX9 19 "PrintRegisterModel" "isSaved" "[Z" ∈ pr_AL := pr_in_pr_A12 _ (List.mem_of_getElem? (i := 10) (by decide +kernel))
theorem pr_w491 : Cond.fieldLink RX9 23 "PrintRegisterModel" "pad" "[I" ∈ pr_AL := pr_in_pr_A12 _ (List.mem_of_getElem? (i := 11) (by decide +kernel))
theorem pr_w492 : Cond.fieldLink RX9 26 "PrintRegisterModel" "steps" "[I" ∈ pr_AL := pr_in_pr_A12 _ (List.mem_of_getElem? (i := 12) (by decide +kernel))
theorem pr_w493 : Cond.methodLink RX9 29 yX9_layAll ∈ pr_AL := pr_in_pr_A12 _ (List.mem_of_getElem? (i := 13) (by decide +kernel))
theorem pr_w494 : Cond.instanceMethod yX9_layAll ∈ pr_AL := pr_in_pr_A12 _ (List.mem_of_getElem? (i := 14) (by decide +kernel))
theorem pr_w495 : Cond.selects RX9 yX9_layAll yX9_layAll ∈ pr_AL := pr_in_pr_A12 _ (List.mem_of_getElem? (i := 15) (by decide +kernel))
theorem pr_w496 : Cond.code yX9_init cX9_init 1 none ∈ pr_AL := pr_in_pr_A12 _ (List.mem_of_getElem? (i := 16) (by decide +kernel))
theorem pr_w497 : Cond.code yX9_in cX9_in 3 (some .boolean) ∈ pr_AL := pr_in_pr_A12 _ (List.mem_of_getElem? (i := 17) (by decide +kernel))
theorem pr_w498 : Cond.code yX9_size cX9_size 1 (some .int) ∈ pr_AL := pr_in_pr_A12 _ (List.mem_of_getElem? (i := 18) (by decide +kernel))
theorem pr_w499 : Cond.code yX9_limited cX9_limited 2 (some .int) ∈ pr_AL := pr_in_pr_A12 _ (List.mem_of_getElem? (i := 19) (by decide +kernel))
theorem pr_w500 : Cond.code yX9_of cX9_of 3 (some .int) ∈ pr_AL := pr_in_pr_A12 _ (List.mem_of_getElem? (i := 20) (by decide +kernel))
theorem pr_w501 : Cond.code yX9_putAside cX9_putAside 2 none ∈ pr_AL := pr_in_pr_A12 _ (List.mem_of_getElem? (i := 21) (by decide +kernel))
theorem pr_w502 : Cond.code yX9_putBack cX9_putBack 2 none ∈ pr_AL := pr_in_pr_A12 _ (List.mem_of_getElem? (i := 22) (by decide +kernel))
theorem pr_w503 : Cond.code yX9_isUnit cX9_isUnit 2 (some .boolean) ∈ pr_AL := pr_in_pr_A12 _ (List.mem_of_getElem? (i := 23) (by decide +kernel))
theorem pr_w504 : Cond.methodLink RX9 45 yX9_in ∈ pr_AL := pr_in_pr_A12 _ (List.mem_of_getElem? (i := 24) (by decide +kernel))
theorem pr_w505 : Cond.static yX9_in ∈ pr_AL := pr_in_pr_A12 _ (List.mem_of_getElem? (i := 25) (by decide +kernel))
theorem pr_w506 : Cond.code yX9_way cX9_way 4 (some .int) ∈ pr_AL := pr_in_pr_A12 _ (List.mem_of_getElem? (i := 26) (by decide +kernel))
theorem pr_w507 : Cond.methodLink RX9 49 yX9_of ∈ pr_AL := pr_in_pr_A12 _ (List.mem_of_getElem? (i := 27) (by decide +kernel))
theorem pr_w508 : Cond.instanceMethod yX9_of ∈ pr_AL := pr_in_pr_A12 _ (List.mem_of_getElem? (i := 28) (by decide +kernel))
theorem pr_w509 : Cond.selects RX9 yX9_of yX9_of ∈ pr_AL := pr_in_pr_A12 _ (List.mem_of_getElem? (i := 29) (by decide +kernel))
theorem pr_w510 : Cond.code yX9_setUp cX9_setUp 3 (some .int) ∈ pr_AL := pr_in_pr_A12 _ (List.mem_of_getElem? (i := 30) (by decide +kernel))
theorem pr_w511 : Cond.constant RX9 52 (-1000000002) ∈ pr_AL := pr_in_pr_A12 _ (List.mem_of_getElem? (i := 31) (by decide +kernel))
theorem pr_w512 : Cond.code yX9_takes cX9_takes 2 (some .boolean) ∈ pr_AL := pr_in_pr_A12 _ (List.mem_of_getElem? (i := 32) (by decide +kernel))
theorem pr_w513 : Cond.constant RX9 57 (-1000000001) ∈ pr_AL := pr_in_pr_A12 _ (List.mem_of_getElem? (i := 33) (by decide +kernel))
theorem pr_w514 : Cond.constant RX9 62 (-1000000005) ∈ pr_AL := pr_in_pr_A12 _ (List.mem_of_getElem? (i := 34) (by decide +kernel))
theorem pr_w515 : Cond.methodLink RX9 53 yX9_isUnit ∈ pr_AL := pr_in_pr_A12 _ (List.mem_of_getElem? (i := 35) (by decide +kernel))
theorem pr_w516 : Cond.instanceMethod yX9_isUnit ∈ pr_AL := pr_in_pr_A12 _ (List.mem_of_getElem? (i := 36) (by decide +kernel))
theorem pr_w517 : Cond.selects RX9 yX9_isUnit yX9_isUnit ∈ pr_AL := pr_in_pr_A12 _ (List.mem_of_getElem? (i := 37) (by decide +kernel))
theorem pr_w518 : Cond.methodLink RX9 58 yX9_takes ∈ pr_AL := pr_in_pr_A12 _ (List.mem_of_getElem? (i := 38) (by decide +kernel))
theorem pr_w519 : Cond.static yX9_takes ∈ pr_AL := pr_in_pr_A12 _ (List.mem_of_getElem? (i := 39) (by decide +kernel))
theorem pr_w520 : Cond.code yX9_set cX9_set 5 (some .int) ∈ pr_AL := pr_in_pr_A13 _ (List.mem_of_getElem? (i := 0) (by decide +kernel))
theorem pr_w521 : Cond.code yX9_get cX9_get 3 (some .int) ∈ pr_AL := pr_in_pr_A13 _ (List.mem_of_getElem? (i := 1) (by decide +kernel))
theorem pr_w522 : Cond.code yX9_adjust cX9_adjust 6 (some .int) ∈ pr_AL := pr_in_pr_A13 _ (List.mem_of_getElem? (i := 2) (by decide +kernel))
theorem pr_w523 : Cond.code yX9_restart cX9_restart 4 (some .int) ∈ pr_AL := pr_in_pr_A13 _ (List.mem_of_getElem? (i := 3) (by decide +kernel))
theorem pr_w524 : Cond.code yX9_speed cX9_speed 3 (some .int) ∈ pr_AL := pr_in_pr_A13 _ (List.mem_of_getElem? (i := 4) (by decide +kernel))
theorem pr_w525 : Cond.code yX9_giveDisturbance cX9_giveDisturbance 4 none ∈ pr_AL := pr_in_pr_A13 _ (List.mem_of_getElem? (i := 5) (by decide +kernel))
theorem pr_w526 : Cond.code yX9_isDisturbance cX9_isDisturbance 2 (some .boolean) ∈ pr_AL := pr_in_pr_A13 _ (List.mem_of_getElem? (i := 6) (by decide +kernel))
theorem pr_w527 : Cond.methodLink RX9 63 yX9_isDisturbance ∈ pr_AL := pr_in_pr_A13 _ (List.mem_of_getElem? (i := 7) (by decide +kernel))
theorem pr_w528 : Cond.static yX9_isDisturbance ∈ pr_AL := pr_in_pr_A13 _ (List.mem_of_getElem? (i := 8) (by decide +kernel))
theorem pr_w529 : Cond.methodLink RX9 66 yX9_giveDisturbance ∈ pr_AL := pr_in_pr_A13 _ (List.mem_of_getElem? (i := 9) (by decide +kernel))
theorem pr_w530 : Cond.instanceMethod yX9_giveDisturbance ∈ pr_AL := pr_in_pr_A13 _ (List.mem_of_getElem? (i := 10) (by decide +kernel))
theorem pr_w531 : Cond.selects RX9 yX9_giveDisturbance yX9_giveDisturbance ∈ pr_AL := pr_in_pr_A13 _ (List.mem_of_getElem? (i := 11) (by decide +kernel))
theorem pr_w532 : Cond.code yX9_disturb cX9_disturb 4 (some .int) ∈ pr_AL := pr_in_pr_A13 _ (List.mem_of_getElem? (i := 12) (by decide +kernel))
theorem pr_w533 : Cond.code yX9_hide cX9_hide 4 (some .int) ∈ pr_AL := pr_in_pr_A13 _ (List.mem_of_getElem? (i := 13) (by decide +kernel))
theorem pr_w534 : Cond.code yX9_falseMark cX9_falseMark 5 (some .int) ∈ pr_AL := pr_in_pr_A13 _ (List.mem_of_getElem? (i := 14) (by decide +kernel))
theorem pr_w535 : Cond.code yX9_startSplice cX9_startSplice 3 (some .int) ∈ pr_AL := pr_in_pr_A13 _ (List.mem_of_getElem? (i := 15) (by decide +kernel))
theorem pr_w536 : Cond.methodLink RX9 69 yX9_way ∈ pr_AL := pr_in_pr_A13 _ (List.mem_of_getElem? (i := 16) (by decide +kernel))
theorem pr_w537 : Cond.instanceMethod yX9_way ∈ pr_AL := pr_in_pr_A13 _ (List.mem_of_getElem? (i := 17) (by decide +kernel))
theorem pr_w538 : Cond.selects RX9 yX9_way yX9_way ∈ pr_AL := pr_in_pr_A13 _ (List.mem_of_getElem? (i := 18) (by decide +kernel))
theorem pr_w539 : Cond.code yX9_splice cX9_splice 3 (some .int) ∈ pr_AL := pr_in_pr_A13 _ (List.mem_of_getElem? (i := 19) (by decide +kernel))
theorem pr_w540 : Cond.methodLink RX9 72 yX9_startSplice ∈ pr_AL := pr_in_pr_A13 _ (List.mem_of_getElem? (i := 20) (by decide +kernel))
theorem pr_w541 : Cond.instanceMethod yX9_startSplice ∈ pr_AL := pr_in_pr_A13 _ (List.mem_of_getElem? (i := 21) (by decide +kernel))
theorem pr_w542 : Cond.selects RX9 yX9_startSplice yX9_startSplice ∈ pr_AL := pr_in_pr_A13 _ (List.mem_of_getElem? (i := 22) (by decide +kernel))
theorem pr_w543 : Cond.code yX9_tally cX9_tally 3 none ∈ pr_AL := pr_in_pr_A13 _ (List.mem_of_getElem? (i := 23) (by decide +kernel))
theorem pr_w544 : Cond.code yX9_goOnSplice cX9_goOnSplice 3 none ∈ pr_AL := pr_in_pr_A13 _ (List.mem_of_getElem? (i := 24) (by decide +kernel))
theorem pr_w545 : Cond.code yX9_print cX9_print 7 none ∈ pr_AL := pr_in_pr_A13 _ (List.mem_of_getElem? (i := 25) (by decide +kernel))
theorem pr_w546 : Cond.constant RX9 75 (-1000000006) ∈ pr_AL := pr_in_pr_A13 _ (List.mem_of_getElem? (i := 26) (by decide +kernel))
theorem pr_w547 : Cond.code yX9_isSeen cX9_isSeen 2 (some .boolean) ∈ pr_AL := pr_in_pr_A13 _ (List.mem_of_getElem? (i := 27) (by decide +kernel))
theorem pr_w548 : Cond.code yX9_keepError cX9_keepError 3 none ∈ pr_AL := pr_in_pr_A13 _ (List.mem_of_getElem? (i := 28) (by decide +kernel))
theorem pr_w549 : Cond.code yX9_see cX9_see 4 none ∈ pr_AL := pr_in_pr_A13 _ (List.mem_of_getElem? (i := 29) (by decide +kernel))
theorem pr_w550 : Cond.methodLink RX9 76 yX9_keepError ∈ pr_AL := pr_in_pr_A13 _ (List.mem_of_getElem? (i := 30) (by decide +kernel))
theorem pr_w551 : Cond.instanceMethod yX9_keepError ∈ pr_AL := pr_in_pr_A13 _ (List.mem_of_getElem? (i := 31) (by decide +kernel))
theorem pr_w552 : Cond.selects RX9 yX9_keepError yX9_keepError ∈ pr_AL := pr_in_pr_A13 _ (List.mem_of_getElem? (i := 32) (by decide +kernel))
theorem pr_w553 : Cond.code yX9_recognized cX9_recognized 8 (some .int) ∈ pr_AL := pr_in_pr_A13 _ (List.mem_of_getElem? (i := 33) (by decide +kernel))
theorem pr_w554 : Cond.methodLink RX9 80 yX9_size ∈ pr_AL := pr_in_pr_A13 _ (List.mem_of_getElem? (i := 34) (by decide +kernel))
theorem pr_w555 : Cond.static yX9_size ∈ pr_AL := pr_in_pr_A13 _ (List.mem_of_getElem? (i := 35) (by decide +kernel))
theorem pr_w556 : Cond.code yX9_recognize cX9_recognize 3 none ∈ pr_AL := pr_in_pr_A13 _ (List.mem_of_getElem? (i := 36) (by decide +kernel))
theorem pr_w557 : Cond.methodLink RX9 83 yX9_recognized ∈ pr_AL := pr_in_pr_A13 _ (List.mem_of_getElem? (i := 37) (by decide +kernel))
theorem pr_w558 : Cond.instanceMethod yX9_recognized ∈ pr_AL := pr_in_pr_A13 _ (List.mem_of_getElem? (i := 38) (by decide +kernel))
theorem pr_w559 : Cond.selects RX9 yX9_recognized yX9_recognized ∈ pr_AL := pr_in_pr_A13 _ (List.mem_of_getElem? (i := 39) (by decide +kernel))
theorem pr_w560 : Cond.methodLink RX9 86 yX9_tally ∈ pr_AL := pr_in_pr_A14 _ (List.mem_of_getElem? (i := 0) (by decide +kernel))
theorem pr_w561 : Cond.instanceMethod yX9_tally ∈ pr_AL := pr_in_pr_A14 _ (List.mem_of_getElem? (i := 1) (by decide +kernel))
theorem pr_w562 : Cond.selects RX9 yX9_tally yX9_tally ∈ pr_AL := pr_in_pr_A14 _ (List.mem_of_getElem? (i := 2) (by decide +kernel))
theorem pr_w563 : Cond.code yX9_isRecognized cX9_isRecognized 2 (some .boolean) ∈ pr_AL := pr_in_pr_A14 _ (List.mem_of_getElem? (i := 3) (by decide +kernel))
theorem pr_w564 : Cond.methodLink RX9 90 yX9_isSeen ∈ pr_AL := pr_in_pr_A14 _ (List.mem_of_getElem? (i := 4) (by decide +kernel))
theorem pr_w565 : Cond.instanceMethod yX9_isSeen ∈ pr_AL := pr_in_pr_A14 _ (List.mem_of_getElem? (i := 5) (by decide +kernel))
theorem pr_w566 : Cond.selects RX9 yX9_isSeen yX9_isSeen ∈ pr_AL := pr_in_pr_A14 _ (List.mem_of_getElem? (i := 6) (by decide +kernel))
theorem pr_w567 : Cond.code yX9_learn cX9_learn 4 none ∈ pr_AL := pr_in_pr_A14 _ (List.mem_of_getElem? (i := 7) (by decide +kernel))
theorem pr_w568 : Cond.methodLink RX9 93 yX9_limited ∈ pr_AL := pr_in_pr_A14 _ (List.mem_of_getElem? (i := 8) (by decide +kernel))
theorem pr_w569 : Cond.static yX9_limited ∈ pr_AL := pr_in_pr_A14 _ (List.mem_of_getElem? (i := 9) (by decide +kernel))
theorem pr_w570 : Cond.code yX9_expect cX9_expect 2 none ∈ pr_AL := pr_in_pr_A14 _ (List.mem_of_getElem? (i := 10) (by decide +kernel))
theorem pr_w571 : Cond.code yX9_correct cX9_correct 9 none ∈ pr_AL := pr_in_pr_A14 _ (List.mem_of_getElem? (i := 11) (by decide +kernel))
theorem pr_w572 : Cond.code yX9_decrease cX9_decrease 3 none ∈ pr_AL := pr_in_pr_A14 _ (List.mem_of_getElem? (i := 12) (by decide +kernel))
theorem pr_w573 : Cond.code yX9_endRepeat cX9_endRepeat 2 none ∈ pr_AL := pr_in_pr_A14 _ (List.mem_of_getElem? (i := 13) (by decide +kernel))
theorem pr_w574 : Cond.methodLink RX9 96 yX9_decrease ∈ pr_AL := pr_in_pr_A14 _ (List.mem_of_getElem? (i := 14) (by decide +kernel))
theorem pr_w575 : Cond.instanceMethod yX9_decrease ∈ pr_AL := pr_in_pr_A14 _ (List.mem_of_getElem? (i := 15) (by decide +kernel))
theorem pr_w576 : Cond.selects RX9 yX9_decrease yX9_decrease ∈ pr_AL := pr_in_pr_A14 _ (List.mem_of_getElem? (i := 16) (by decide +kernel))
theorem pr_w577 : Cond.methodLink RX9 99 yX9_goOnSplice ∈ pr_AL := pr_in_pr_A14 _ (List.mem_of_getElem? (i := 17) (by decide +kernel))
theorem pr_w578 : Cond.instanceMethod yX9_goOnSplice ∈ pr_AL := pr_in_pr_A14 _ (List.mem_of_getElem? (i := 18) (by decide +kernel))
theorem pr_w579 : Cond.selects RX9 yX9_goOnSplice yX9_goOnSplice ∈ pr_AL := pr_in_pr_A14 _ (List.mem_of_getElem? (i := 19) (by decide +kernel))
theorem pr_w580 : Cond.methodLink RX9 102 yX9_print ∈ pr_AL := pr_in_pr_A14 _ (List.mem_of_getElem? (i := 20) (by decide +kernel))
theorem pr_w581 : Cond.instanceMethod yX9_print ∈ pr_AL := pr_in_pr_A14 _ (List.mem_of_getElem? (i := 21) (by decide +kernel))
theorem pr_w582 : Cond.selects RX9 yX9_print yX9_print ∈ pr_AL := pr_in_pr_A14 _ (List.mem_of_getElem? (i := 22) (by decide +kernel))
theorem pr_w583 : Cond.methodLink RX9 105 yX9_see ∈ pr_AL := pr_in_pr_A14 _ (List.mem_of_getElem? (i := 23) (by decide +kernel))
theorem pr_w584 : Cond.instanceMethod yX9_see ∈ pr_AL := pr_in_pr_A14 _ (List.mem_of_getElem? (i := 24) (by decide +kernel))
theorem pr_w585 : Cond.selects RX9 yX9_see yX9_see ∈ pr_AL := pr_in_pr_A14 _ (List.mem_of_getElem? (i := 25) (by decide +kernel))
theorem pr_w586 : Cond.methodLink RX9 108 yX9_recognize ∈ pr_AL := pr_in_pr_A14 _ (List.mem_of_getElem? (i := 26) (by decide +kernel))
theorem pr_w587 : Cond.instanceMethod yX9_recognize ∈ pr_AL := pr_in_pr_A14 _ (List.mem_of_getElem? (i := 27) (by decide +kernel))
theorem pr_w588 : Cond.selects RX9 yX9_recognize yX9_recognize ∈ pr_AL := pr_in_pr_A14 _ (List.mem_of_getElem? (i := 28) (by decide +kernel))
theorem pr_w589 : Cond.methodLink RX9 111 yX9_isRecognized ∈ pr_AL := pr_in_pr_A14 _ (List.mem_of_getElem? (i := 29) (by decide +kernel))
theorem pr_w590 : Cond.instanceMethod yX9_isRecognized ∈ pr_AL := pr_in_pr_A14 _ (List.mem_of_getElem? (i := 30) (by decide +kernel))
theorem pr_w591 : Cond.selects RX9 yX9_isRecognized yX9_isRecognized ∈ pr_AL := pr_in_pr_A14 _ (List.mem_of_getElem? (i := 31) (by decide +kernel))
theorem pr_w592 : Cond.methodLink RX9 114 yX9_learn ∈ pr_AL := pr_in_pr_A14 _ (List.mem_of_getElem? (i := 32) (by decide +kernel))
theorem pr_w593 : Cond.instanceMethod yX9_learn ∈ pr_AL := pr_in_pr_A14 _ (List.mem_of_getElem? (i := 33) (by decide +kernel))
theorem pr_w594 : Cond.selects RX9 yX9_learn yX9_learn ∈ pr_AL := pr_in_pr_A14 _ (List.mem_of_getElem? (i := 34) (by decide +kernel))
theorem pr_w595 : Cond.methodLink RX9 117 yX9_expect ∈ pr_AL := pr_in_pr_A14 _ (List.mem_of_getElem? (i := 35) (by decide +kernel))
theorem pr_w596 : Cond.instanceMethod yX9_expect ∈ pr_AL := pr_in_pr_A14 _ (List.mem_of_getElem? (i := 36) (by decide +kernel))
theorem pr_w597 : Cond.selects RX9 yX9_expect yX9_expect ∈ pr_AL := pr_in_pr_A14 _ (List.mem_of_getElem? (i := 37) (by decide +kernel))
theorem pr_w598 : Cond.methodLink RX9 120 yX9_correct ∈ pr_AL := pr_in_pr_A14 _ (List.mem_of_getElem? (i := 38) (by decide +kernel))
theorem pr_w599 : Cond.instanceMethod yX9_correct ∈ pr_AL := pr_in_pr_A14 _ (List.mem_of_getElem? (i := 39) (by decide +kernel))
theorem pr_w600 : Cond.selects RX9 yX9_correct yX9_correct ∈ pr_AL := pr_in_pr_A15 _ (List.mem_of_getElem? (i := 0) (by decide +kernel))
theorem pr_w601 : Cond.methodLink RX9 123 yX9_endRepeat ∈ pr_AL := pr_in_pr_A15 _ (List.mem_of_getElem? (i := 1) (by decide +kernel))
theorem pr_w602 : Cond.instanceMethod yX9_endRepeat ∈ pr_AL := pr_in_pr_A15 _ (List.mem_of_getElem? (i := 2) (by decide +kernel))
theorem pr_w603 : Cond.selects RX9 yX9_endRepeat yX9_endRepeat ∈ pr_AL := pr_in_pr_A15 _ (List.mem_of_getElem? (i := 3) (by decide +kernel))
theorem pr_w604 : Cond.code yX9_makeRepeat cX9_makeRepeat 2 none ∈ pr_AL := pr_in_pr_A15 _ (List.mem_of_getElem? (i := 4) (by decide +kernel))
theorem pr_w605 : Cond.methodLink RX9 126 yX9_makeRepeat ∈ pr_AL := pr_in_pr_A15 _ (List.mem_of_getElem? (i := 5) (by decide +kernel))
theorem pr_w606 : Cond.instanceMethod yX9_makeRepeat ∈ pr_AL := pr_in_pr_A15 _ (List.mem_of_getElem? (i := 6) (by decide +kernel))
theorem pr_w607 : Cond.selects RX9 yX9_makeRepeat yX9_makeRepeat ∈ pr_AL := pr_in_pr_A15 _ (List.mem_of_getElem? (i := 7) (by decide +kernel))
theorem pr_w608 : Cond.code yX9_makeRepeats cX9_makeRepeats 3 none ∈ pr_AL := pr_in_pr_A15 _ (List.mem_of_getElem? (i := 8) (by decide +kernel))
theorem pr_w609 : Cond.constant RX9 129 (100000) ∈ pr_AL := pr_in_pr_A15 _ (List.mem_of_getElem? (i := 9) (by decide +kernel))
theorem pr_w610 : Cond.methodLink RX9 130 yX9_makeRepeats ∈ pr_AL := pr_in_pr_A15 _ (List.mem_of_getElem? (i := 10) (by decide +kernel))
theorem pr_w611 : Cond.instanceMethod yX9_makeRepeats ∈ pr_AL := pr_in_pr_A15 _ (List.mem_of_getElem? (i := 11) (by decide +kernel))
theorem pr_w612 : Cond.selects RX9 yX9_makeRepeats yX9_makeRepeats ∈ pr_AL := pr_in_pr_A15 _ (List.mem_of_getElem? (i := 12) (by decide +kernel))
theorem pr_w613 : Cond.code yX9_run cX9_run 2 (some .int) ∈ pr_AL := pr_in_pr_A15 _ (List.mem_of_getElem? (i := 13) (by decide +kernel))
theorem pr_w614 : Cond.code yX9_seen cX9_seen 3 (some .int) ∈ pr_AL := pr_in_pr_A15 _ (List.mem_of_getElem? (i := 14) (by decide +kernel))
theorem pr_w615 : Cond.code yX9_state cX9_state 3 (some .int) ∈ pr_AL := pr_in_pr_A15 _ (List.mem_of_getElem? (i := 15) (by decide +kernel))
theorem pr_w616 : Cond.code yX9_isControlled cX9_isControlled 2 (some .boolean) ∈ pr_AL := pr_in_pr_A15 _ (List.mem_of_getElem? (i := 16) (by decide +kernel))
theorem pr_w617 : Cond.methodLink RX9 133 yX9_isControlled ∈ pr_AL := pr_in_pr_A15 _ (List.mem_of_getElem? (i := 17) (by decide +kernel))
theorem pr_w618 : Cond.instanceMethod yX9_isControlled ∈ pr_AL := pr_in_pr_A15 _ (List.mem_of_getElem? (i := 18) (by decide +kernel))
theorem pr_w619 : Cond.selects RX9 yX9_isControlled yX9_isControlled ∈ pr_AL := pr_in_pr_A15 _ (List.mem_of_getElem? (i := 19) (by decide +kernel))
theorem pr_w620 : Cond.code yX9_errors cX9_errors 11 (some .int) ∈ pr_AL := pr_in_pr_A15 _ (List.mem_of_getElem? (i := 20) (by decide +kernel))
theorem pr_w621 : Cond.code yX9_total cX9_total 2 (some .int) ∈ pr_AL := pr_in_pr_A15 _ (List.mem_of_getElem? (i := 21) (by decide +kernel))
theorem pr_w622 : Cond.code yX9_comesBack cX9_comesBack 7 (some .int) ∈ pr_AL := pr_in_pr_A15 _ (List.mem_of_getElem? (i := 22) (by decide +kernel))
theorem pr_w623 : Cond.methodLink RX9 136 yX9_putAside ∈ pr_AL := pr_in_pr_A15 _ (List.mem_of_getElem? (i := 23) (by decide +kernel))
theorem pr_w624 : Cond.instanceMethod yX9_putAside ∈ pr_AL := pr_in_pr_A15 _ (List.mem_of_getElem? (i := 24) (by decide +kernel))
theorem pr_w625 : Cond.selects RX9 yX9_putAside yX9_putAside ∈ pr_AL := pr_in_pr_A15 _ (List.mem_of_getElem? (i := 25) (by decide +kernel))
theorem pr_w626 : Cond.methodLink RX9 139 yX9_comesBack ∈ pr_AL := pr_in_pr_A15 _ (List.mem_of_getElem? (i := 26) (by decide +kernel))
theorem pr_w627 : Cond.instanceMethod yX9_comesBack ∈ pr_AL := pr_in_pr_A15 _ (List.mem_of_getElem? (i := 27) (by decide +kernel))
theorem pr_w628 : Cond.selects RX9 yX9_comesBack yX9_comesBack ∈ pr_AL := pr_in_pr_A15 _ (List.mem_of_getElem? (i := 28) (by decide +kernel))
theorem pr_w629 : Cond.methodLink RX9 143 yX9_putBack ∈ pr_AL := pr_in_pr_A15 _ (List.mem_of_getElem? (i := 29) (by decide +kernel))
theorem pr_w630 : Cond.instanceMethod yX9_putBack ∈ pr_AL := pr_in_pr_A15 _ (List.mem_of_getElem? (i := 30) (by decide +kernel))
theorem pr_w631 : Cond.selects RX9 yX9_putBack yX9_putBack ∈ pr_AL := pr_in_pr_A15 _ (List.mem_of_getElem? (i := 31) (by decide +kernel))
theorem pr_w632 : Cond.code yX9_forecast cX9_forecast 5 (some .int) ∈ pr_AL := pr_in_pr_A15 _ (List.mem_of_getElem? (i := 32) (by decide +kernel))
theorem pr_w633 : Cond.code yX9_tried cX9_tried 8 (some .int) ∈ pr_AL := pr_in_pr_A15 _ (List.mem_of_getElem? (i := 33) (by decide +kernel))
theorem pr_w634 : Cond.methodLink RX9 146 yX9_tried ∈ pr_AL := pr_in_pr_A15 _ (List.mem_of_getElem? (i := 34) (by decide +kernel))
theorem pr_w635 : Cond.instanceMethod yX9_tried ∈ pr_AL := pr_in_pr_A15 _ (List.mem_of_getElem? (i := 35) (by decide +kernel))
theorem pr_w636 : Cond.selects RX9 yX9_tried yX9_tried ∈ pr_AL := pr_in_pr_A15 _ (List.mem_of_getElem? (i := 36) (by decide +kernel))
theorem pr_w637 : Cond.code yX9_attempt cX9_attempt 5 (some .int) ∈ pr_AL := pr_in_pr_A15 _ (List.mem_of_getElem? (i := 37) (by decide +kernel))
theorem pr_w638 : Cond.code yX9_bestGain cX9_bestGain 10 (some .int) ∈ pr_AL := pr_in_pr_A15 _ (List.mem_of_getElem? (i := 38) (by decide +kernel))
theorem pr_w639 : Cond.code yX9_put cX9_put 7 (some .int) ∈ pr_AL := pr_in_pr_A15 _ (List.mem_of_getElem? (i := 39) (by decide +kernel))
theorem pr_w640 : Cond.constantLong RX9 150 (255) ∈ pr_AL := pr_in_pr_A16 _ (List.mem_of_getElem? (i := 0) (by decide +kernel))
theorem pr_w641 : Cond.fieldLink RX9 152 "PrintRegisterModel" "padMany" "I" ∈ pr_AL := pr_in_pr_A16 _ (List.mem_of_getElem? (i := 1) (by decide +kernel))
theorem pr_w642 : Cond.constant RX9 156 (-1000000004) ∈ pr_AL := pr_in_pr_A16 _ (List.mem_of_getElem? (i := 2) (by decide +kernel))
theorem pr_w643 : Cond.code yX9_wipe cX9_wipe 2 (some .int) ∈ pr_AL := pr_in_pr_A16 _ (List.mem_of_getElem? (i := 3) (by decide +kernel))
theorem pr_w644 : Cond.code yX9_next cX9_next 1 (some .int) ∈ pr_AL := pr_in_pr_A16 _ (List.mem_of_getElem? (i := 4) (by decide +kernel))
theorem pr_w645 : Cond.fieldLink RX9 157 "PrintRegisterModel" "spot" "I" ∈ pr_AL := pr_in_pr_A16 _ (List.mem_of_getElem? (i := 5) (by decide +kernel))
theorem pr_w646 : Cond.code yX9_need cX9_need 2 none ∈ pr_AL := pr_in_pr_A16 _ (List.mem_of_getElem? (i := 6) (by decide +kernel))
theorem pr_w647 : Cond.fieldLink RX9 160 "PrintRegisterModel" "isWrong" "Z" ∈ pr_AL := pr_in_pr_A16 _ (List.mem_of_getElem? (i := 7) (by decide +kernel))
theorem pr_w648 : Cond.methodLink RX9 164 yX9_next ∈ pr_AL := pr_in_pr_A16 _ (List.mem_of_getElem? (i := 8) (by decide +kernel))
theorem pr_w649 : Cond.instanceMethod yX9_next ∈ pr_AL := pr_in_pr_A16 _ (List.mem_of_getElem? (i := 9) (by decide +kernel))
theorem pr_w650 : Cond.selects RX9 yX9_next yX9_next ∈ pr_AL := pr_in_pr_A16 _ (List.mem_of_getElem? (i := 10) (by decide +kernel))
theorem pr_w651 : Cond.code yX9_readNumber cX9_readNumber 4 (some .int) ∈ pr_AL := pr_in_pr_A16 _ (List.mem_of_getElem? (i := 11) (by decide +kernel))
theorem pr_w652 : Cond.code yX9_readUnit cX9_readUnit 1 (some .int) ∈ pr_AL := pr_in_pr_A16 _ (List.mem_of_getElem? (i := 12) (by decide +kernel))
theorem pr_w653 : Cond.code yX9_readDisturbance cX9_readDisturbance 4 none ∈ pr_AL := pr_in_pr_A16 _ (List.mem_of_getElem? (i := 13) (by decide +kernel))
theorem pr_w654 : Cond.methodLink RX9 168 yX9_readNumber ∈ pr_AL := pr_in_pr_A16 _ (List.mem_of_getElem? (i := 14) (by decide +kernel))
theorem pr_w655 : Cond.instanceMethod yX9_readNumber ∈ pr_AL := pr_in_pr_A16 _ (List.mem_of_getElem? (i := 15) (by decide +kernel))
theorem pr_w656 : Cond.selects RX9 yX9_readNumber yX9_readNumber ∈ pr_AL := pr_in_pr_A16 _ (List.mem_of_getElem? (i := 16) (by decide +kernel))
theorem pr_w657 : Cond.methodLink RX9 171 yX9_need ∈ pr_AL := pr_in_pr_A16 _ (List.mem_of_getElem? (i := 17) (by decide +kernel))
theorem pr_w658 : Cond.instanceMethod yX9_need ∈ pr_AL := pr_in_pr_A16 _ (List.mem_of_getElem? (i := 18) (by decide +kernel))
theorem pr_w659 : Cond.selects RX9 yX9_need yX9_need ∈ pr_AL := pr_in_pr_A16 _ (List.mem_of_getElem? (i := 19) (by decide +kernel))
theorem pr_w660 : Cond.fieldLink RX9 174 "PrintRegisterModel" "stepMany" "I" ∈ pr_AL := pr_in_pr_A16 _ (List.mem_of_getElem? (i := 20) (by decide +kernel))
theorem pr_w661 : Cond.methodLink RX9 177 yX9_readUnit ∈ pr_AL := pr_in_pr_A16 _ (List.mem_of_getElem? (i := 21) (by decide +kernel))
theorem pr_w662 : Cond.instanceMethod yX9_readUnit ∈ pr_AL := pr_in_pr_A16 _ (List.mem_of_getElem? (i := 22) (by decide +kernel))
theorem pr_w663 : Cond.selects RX9 yX9_readUnit yX9_readUnit ∈ pr_AL := pr_in_pr_A16 _ (List.mem_of_getElem? (i := 23) (by decide +kernel))
theorem pr_w664 : Cond.methodLink RX9 180 yX9_readDisturbance ∈ pr_AL := pr_in_pr_A16 _ (List.mem_of_getElem? (i := 24) (by decide +kernel))
theorem pr_w665 : Cond.instanceMethod yX9_readDisturbance ∈ pr_AL := pr_in_pr_A16 _ (List.mem_of_getElem? (i := 25) (by decide +kernel))
theorem pr_w666 : Cond.selects RX9 yX9_readDisturbance yX9_readDisturbance ∈ pr_AL := pr_in_pr_A16 _ (List.mem_of_getElem? (i := 26) (by decide +kernel))
theorem pr_w667 : Cond.code yX9_readStep cX9_readStep 3 none ∈ pr_AL := pr_in_pr_A16 _ (List.mem_of_getElem? (i := 27) (by decide +kernel))
theorem pr_w668 : Cond.methodLink RX9 183 yX9_readStep ∈ pr_AL := pr_in_pr_A16 _ (List.mem_of_getElem? (i := 28) (by decide +kernel))
theorem pr_w669 : Cond.instanceMethod yX9_readStep ∈ pr_AL := pr_in_pr_A16 _ (List.mem_of_getElem? (i := 29) (by decide +kernel))
theorem pr_w670 : Cond.selects RX9 yX9_readStep yX9_readStep ∈ pr_AL := pr_in_pr_A16 _ (List.mem_of_getElem? (i := 30) (by decide +kernel))
theorem pr_w671 : Cond.code yX9_fault cX9_fault 1 (some .int) ∈ pr_AL := pr_in_pr_A16 _ (List.mem_of_getElem? (i := 31) (by decide +kernel))
theorem pr_w672 : Cond.code yX9_carryOutStep cX9_carryOutStep 2 none ∈ pr_AL := pr_in_pr_A16 _ (List.mem_of_getElem? (i := 32) (by decide +kernel))
theorem pr_w673 : Cond.constant RX9 189 (-1000000003) ∈ pr_AL := pr_in_pr_A16 _ (List.mem_of_getElem? (i := 33) (by decide +kernel))
theorem pr_w674 : Cond.methodLink RX9 186 yX9_fault ∈ pr_AL := pr_in_pr_A16 _ (List.mem_of_getElem? (i := 34) (by decide +kernel))
theorem pr_w675 : Cond.instanceMethod yX9_fault ∈ pr_AL := pr_in_pr_A16 _ (List.mem_of_getElem? (i := 35) (by decide +kernel))
theorem pr_w676 : Cond.selects RX9 yX9_fault yX9_fault ∈ pr_AL := pr_in_pr_A16 _ (List.mem_of_getElem? (i := 36) (by decide +kernel))
theorem pr_w677 : Cond.methodLink RX9 190 yX9_carryOutStep ∈ pr_AL := pr_in_pr_A16 _ (List.mem_of_getElem? (i := 37) (by decide +kernel))
theorem pr_w678 : Cond.instanceMethod yX9_carryOutStep ∈ pr_AL := pr_in_pr_A16 _ (List.mem_of_getElem? (i := 38) (by decide +kernel))
theorem pr_w679 : Cond.selects RX9 yX9_carryOutStep yX9_carryOutStep ∈ pr_AL := pr_in_pr_A16 _ (List.mem_of_getElem? (i := 39) (by decide +kernel))
theorem pr_w680 : Cond.code yX9_carryOut cX9_carryOut 4 (some .int) ∈ pr_AL := pr_in_pr_A17 _ (List.mem_of_getElem? (i := 0) (by decide +kernel))
theorem pr_w681 : Cond.code yX9_count cX9_count 2 (some .int) ∈ pr_AL := pr_in_pr_A17 _ (List.mem_of_getElem? (i := 1) (by decide +kernel))
theorem pr_w682 : Cond.code yX9_save cX9_save 3 (some .int) ∈ pr_AL := pr_in_pr_A17 _ (List.mem_of_getElem? (i := 2) (by decide +kernel))
theorem pr_w683 : Cond.code yX9_restore cX9_restore 3 (some .int) ∈ pr_AL := pr_in_pr_A17 _ (List.mem_of_getElem? (i := 3) (by decide +kernel))
theorem pr_w684 : Cond.code yJ9_abs_0f7a4 cJ9_abs_0f7a4 1 (some .int) ∈ pr_AL := pr_in_pr_A17 _ (List.mem_of_getElem? (i := 4) (by decide +kernel))
theorem pr_w685 : Cond.code yJ9_max_7cf53 cJ9_max_7cf53 2 (some .int) ∈ pr_AL := pr_in_pr_A17 _ (List.mem_of_getElem? (i := 5) (by decide +kernel))
theorem pr_w686 : Cond.code yJ9_min_7cf53 cJ9_min_7cf53 2 (some .int) ∈ pr_AL := pr_in_pr_A17 _ (List.mem_of_getElem? (i := 6) (by decide +kernel))
theorem pr_w687 : Cond.classLink RL 7 RX8 ∈ pr_AL := pr_in_pr_A17 _ (List.mem_of_getElem? (i := 7) (by decide +kernel))
theorem pr_w688 : Cond.instantiable RX8 5 ∈ pr_AL := pr_in_pr_A17 _ (List.mem_of_getElem? (i := 8) (by decide +kernel))
theorem pr_w689 : Cond.classLink RL 10 RX9 ∈ pr_AL := pr_in_pr_A17 _ (List.mem_of_getElem? (i := 9) (by decide +kernel))
theorem pr_w690 : Cond.instantiable RX9 10 ∈ pr_AL := pr_in_pr_A17 _ (List.mem_of_getElem? (i := 10) (by decide +kernel))
theorem pr_w691 : Cond.constantLong RL 90 (4294967295) ∈ pr_AL := pr_in_pr_A17 _ (List.mem_of_getElem? (i := 11) (by decide +kernel))
theorem pr_w692 : Cond.methodLink RL 9 yX8_init ∈ pr_AL := pr_in_pr_A17 _ (List.mem_of_getElem? (i := 12) (by decide +kernel))
theorem pr_w693 : Cond.instanceMethod yX8_init ∈ pr_AL := pr_in_pr_A17 _ (List.mem_of_getElem? (i := 13) (by decide +kernel))
theorem pr_w694 : Cond.methodLink RL 12 yX9_init ∈ pr_AL := pr_in_pr_A17 _ (List.mem_of_getElem? (i := 14) (by decide +kernel))
theorem pr_w695 : Cond.instanceMethod yX9_init ∈ pr_AL := pr_in_pr_A17 _ (List.mem_of_getElem? (i := 15) (by decide +kernel))
theorem pr_w696 : Cond.methodLink RL 13 yX8_setUp ∈ pr_AL := pr_in_pr_A17 _ (List.mem_of_getElem? (i := 16) (by decide +kernel))
theorem pr_w697 : Cond.instanceMethod yX8_setUp ∈ pr_AL := pr_in_pr_A17 _ (List.mem_of_getElem? (i := 17) (by decide +kernel))
theorem pr_w698 : Cond.selects RX8 yX8_setUp yX8_setUp ∈ pr_AL := pr_in_pr_A17 _ (List.mem_of_getElem? (i := 18) (by decide +kernel))
theorem pr_w699 : Cond.methodLink RL 17 yX9_setUp ∈ pr_AL := pr_in_pr_A17 _ (List.mem_of_getElem? (i := 19) (by decide +kernel))
theorem pr_w700 : Cond.instanceMethod yX9_setUp ∈ pr_AL := pr_in_pr_A17 _ (List.mem_of_getElem? (i := 20) (by decide +kernel))
theorem pr_w701 : Cond.selects RX9 yX9_setUp yX9_setUp ∈ pr_AL := pr_in_pr_A17 _ (List.mem_of_getElem? (i := 21) (by decide +kernel))
theorem pr_w702 : Cond.methodLink RL 18 yX8_set ∈ pr_AL := pr_in_pr_A17 _ (List.mem_of_getElem? (i := 22) (by decide +kernel))
theorem pr_w703 : Cond.instanceMethod yX8_set ∈ pr_AL := pr_in_pr_A17 _ (List.mem_of_getElem? (i := 23) (by decide +kernel))
theorem pr_w704 : Cond.selects RX8 yX8_set yX8_set ∈ pr_AL := pr_in_pr_A17 _ (List.mem_of_getElem? (i := 24) (by decide +kernel))
theorem pr_w705 : Cond.methodLink RL 22 yX9_set ∈ pr_AL := pr_in_pr_A17 _ (List.mem_of_getElem? (i := 25) (by decide +kernel))
theorem pr_w706 : Cond.instanceMethod yX9_set ∈ pr_AL := pr_in_pr_A17 _ (List.mem_of_getElem? (i := 26) (by decide +kernel))
theorem pr_w707 : Cond.selects RX9 yX9_set yX9_set ∈ pr_AL := pr_in_pr_A17 _ (List.mem_of_getElem? (i := 27) (by decide +kernel))
theorem pr_w708 : Cond.methodLink RL 23 yX8_get ∈ pr_AL := pr_in_pr_A17 _ (List.mem_of_getElem? (i := 28) (by decide +kernel))
theorem pr_w709 : Cond.instanceMethod yX8_get ∈ pr_AL := pr_in_pr_A17 _ (List.mem_of_getElem? (i := 29) (by decide +kernel))
theorem pr_w710 : Cond.selects RX8 yX8_get yX8_get ∈ pr_AL := pr_in_pr_A17 _ (List.mem_of_getElem? (i := 30) (by decide +kernel))
theorem pr_w711 : Cond.methodLink RL 27 yX9_get ∈ pr_AL := pr_in_pr_A17 _ (List.mem_of_getElem? (i := 31) (by decide +kernel))
theorem pr_w712 : Cond.instanceMethod yX9_get ∈ pr_AL := pr_in_pr_A17 _ (List.mem_of_getElem? (i := 32) (by decide +kernel))
theorem pr_w713 : Cond.selects RX9 yX9_get yX9_get ∈ pr_AL := pr_in_pr_A17 _ (List.mem_of_getElem? (i := 33) (by decide +kernel))
theorem pr_w714 : Cond.methodLink RL 28 yX8_adjust ∈ pr_AL := pr_in_pr_A17 _ (List.mem_of_getElem? (i := 34) (by decide +kernel))
theorem pr_w715 : Cond.instanceMethod yX8_adjust ∈ pr_AL := pr_in_pr_A17 _ (List.mem_of_getElem? (i := 35) (by decide +kernel))
theorem pr_w716 : Cond.selects RX8 yX8_adjust yX8_adjust ∈ pr_AL := pr_in_pr_A17 _ (List.mem_of_getElem? (i := 36) (by decide +kernel))
theorem pr_w717 : Cond.methodLink RL 31 yX9_adjust ∈ pr_AL := pr_in_pr_A17 _ (List.mem_of_getElem? (i := 37) (by decide +kernel))
theorem pr_w718 : Cond.instanceMethod yX9_adjust ∈ pr_AL := pr_in_pr_A17 _ (List.mem_of_getElem? (i := 38) (by decide +kernel))
theorem pr_w719 : Cond.selects RX9 yX9_adjust yX9_adjust ∈ pr_AL := pr_in_pr_A17 _ (List.mem_of_getElem? (i := 39) (by decide +kernel))
theorem pr_w720 : Cond.methodLink RL 32 yX8_restart ∈ pr_AL := pr_in_pr_A18 _ (List.mem_of_getElem? (i := 0) (by decide +kernel))
theorem pr_w721 : Cond.instanceMethod yX8_restart ∈ pr_AL := pr_in_pr_A18 _ (List.mem_of_getElem? (i := 1) (by decide +kernel))
theorem pr_w722 : Cond.selects RX8 yX8_restart yX8_restart ∈ pr_AL := pr_in_pr_A18 _ (List.mem_of_getElem? (i := 2) (by decide +kernel))
theorem pr_w723 : Cond.methodLink RL 35 yX9_restart ∈ pr_AL := pr_in_pr_A18 _ (List.mem_of_getElem? (i := 3) (by decide +kernel))
theorem pr_w724 : Cond.instanceMethod yX9_restart ∈ pr_AL := pr_in_pr_A18 _ (List.mem_of_getElem? (i := 4) (by decide +kernel))
theorem pr_w725 : Cond.selects RX9 yX9_restart yX9_restart ∈ pr_AL := pr_in_pr_A18 _ (List.mem_of_getElem? (i := 5) (by decide +kernel))
theorem pr_w726 : Cond.methodLink RL 36 yX8_speed ∈ pr_AL := pr_in_pr_A18 _ (List.mem_of_getElem? (i := 6) (by decide +kernel))
theorem pr_w727 : Cond.instanceMethod yX8_speed ∈ pr_AL := pr_in_pr_A18 _ (List.mem_of_getElem? (i := 7) (by decide +kernel))
theorem pr_w728 : Cond.selects RX8 yX8_speed yX8_speed ∈ pr_AL := pr_in_pr_A18 _ (List.mem_of_getElem? (i := 8) (by decide +kernel))
theorem pr_w729 : Cond.methodLink RL 39 yX9_speed ∈ pr_AL := pr_in_pr_A18 _ (List.mem_of_getElem? (i := 9) (by decide +kernel))
theorem pr_w730 : Cond.instanceMethod yX9_speed ∈ pr_AL := pr_in_pr_A18 _ (List.mem_of_getElem? (i := 10) (by decide +kernel))
theorem pr_w731 : Cond.selects RX9 yX9_speed yX9_speed ∈ pr_AL := pr_in_pr_A18 _ (List.mem_of_getElem? (i := 11) (by decide +kernel))
theorem pr_w732 : Cond.methodLink RL 40 yX8_disturb ∈ pr_AL := pr_in_pr_A18 _ (List.mem_of_getElem? (i := 12) (by decide +kernel))
theorem pr_w733 : Cond.instanceMethod yX8_disturb ∈ pr_AL := pr_in_pr_A18 _ (List.mem_of_getElem? (i := 13) (by decide +kernel))
theorem pr_w734 : Cond.selects RX8 yX8_disturb yX8_disturb ∈ pr_AL := pr_in_pr_A18 _ (List.mem_of_getElem? (i := 14) (by decide +kernel))
theorem pr_w735 : Cond.methodLink RL 43 yX9_disturb ∈ pr_AL := pr_in_pr_A18 _ (List.mem_of_getElem? (i := 15) (by decide +kernel))
theorem pr_w736 : Cond.instanceMethod yX9_disturb ∈ pr_AL := pr_in_pr_A18 _ (List.mem_of_getElem? (i := 16) (by decide +kernel))
theorem pr_w737 : Cond.selects RX9 yX9_disturb yX9_disturb ∈ pr_AL := pr_in_pr_A18 _ (List.mem_of_getElem? (i := 17) (by decide +kernel))
theorem pr_w738 : Cond.methodLink RL 44 yX8_hide ∈ pr_AL := pr_in_pr_A18 _ (List.mem_of_getElem? (i := 18) (by decide +kernel))
theorem pr_w739 : Cond.instanceMethod yX8_hide ∈ pr_AL := pr_in_pr_A18 _ (List.mem_of_getElem? (i := 19) (by decide +kernel))
theorem pr_w740 : Cond.selects RX8 yX8_hide yX8_hide ∈ pr_AL := pr_in_pr_A18 _ (List.mem_of_getElem? (i := 20) (by decide +kernel))
theorem pr_w741 : Cond.methodLink RL 47 yX9_hide ∈ pr_AL := pr_in_pr_A18 _ (List.mem_of_getElem? (i := 21) (by decide +kernel))
theorem pr_w742 : Cond.instanceMethod yX9_hide ∈ pr_AL := pr_in_pr_A18 _ (List.mem_of_getElem? (i := 22) (by decide +kernel))
theorem pr_w743 : Cond.selects RX9 yX9_hide yX9_hide ∈ pr_AL := pr_in_pr_A18 _ (List.mem_of_getElem? (i := 23) (by decide +kernel))
theorem pr_w744 : Cond.methodLink RL 48 yX8_falseMark ∈ pr_AL := pr_in_pr_A18 _ (List.mem_of_getElem? (i := 24) (by decide +kernel))
theorem pr_w745 : Cond.instanceMethod yX8_falseMark ∈ pr_AL := pr_in_pr_A18 _ (List.mem_of_getElem? (i := 25) (by decide +kernel))
theorem pr_w746 : Cond.selects RX8 yX8_falseMark yX8_falseMark ∈ pr_AL := pr_in_pr_A18 _ (List.mem_of_getElem? (i := 26) (by decide +kernel))
theorem pr_w747 : Cond.methodLink RL 51 yX9_falseMark ∈ pr_AL := pr_in_pr_A18 _ (List.mem_of_getElem? (i := 27) (by decide +kernel))
theorem pr_w748 : Cond.instanceMethod yX9_falseMark ∈ pr_AL := pr_in_pr_A18 _ (List.mem_of_getElem? (i := 28) (by decide +kernel))
theorem pr_w749 : Cond.selects RX9 yX9_falseMark yX9_falseMark ∈ pr_AL := pr_in_pr_A18 _ (List.mem_of_getElem? (i := 29) (by decide +kernel))
theorem pr_w750 : Cond.methodLink RL 52 yX8_splice ∈ pr_AL := pr_in_pr_A18 _ (List.mem_of_getElem? (i := 30) (by decide +kernel))
theorem pr_w751 : Cond.instanceMethod yX8_splice ∈ pr_AL := pr_in_pr_A18 _ (List.mem_of_getElem? (i := 31) (by decide +kernel))
theorem pr_w752 : Cond.selects RX8 yX8_splice yX8_splice ∈ pr_AL := pr_in_pr_A18 _ (List.mem_of_getElem? (i := 32) (by decide +kernel))
theorem pr_w753 : Cond.methodLink RL 55 yX9_splice ∈ pr_AL := pr_in_pr_A18 _ (List.mem_of_getElem? (i := 33) (by decide +kernel))
theorem pr_w754 : Cond.instanceMethod yX9_splice ∈ pr_AL := pr_in_pr_A18 _ (List.mem_of_getElem? (i := 34) (by decide +kernel))
theorem pr_w755 : Cond.selects RX9 yX9_splice yX9_splice ∈ pr_AL := pr_in_pr_A18 _ (List.mem_of_getElem? (i := 35) (by decide +kernel))
theorem pr_w756 : Cond.methodLink RL 56 yX8_run ∈ pr_AL := pr_in_pr_A18 _ (List.mem_of_getElem? (i := 36) (by decide +kernel))
theorem pr_w757 : Cond.instanceMethod yX8_run ∈ pr_AL := pr_in_pr_A18 _ (List.mem_of_getElem? (i := 37) (by decide +kernel))
theorem pr_w758 : Cond.selects RX8 yX8_run yX8_run ∈ pr_AL := pr_in_pr_A18 _ (List.mem_of_getElem? (i := 38) (by decide +kernel))
theorem pr_w759 : Cond.methodLink RL 59 yX9_run ∈ pr_AL := pr_in_pr_A18 _ (List.mem_of_getElem? (i := 39) (by decide +kernel))
theorem pr_w760 : Cond.instanceMethod yX9_run ∈ pr_AL := pr_in_pr_A19 _ (List.mem_of_getElem? (i := 0) (by decide +kernel))
theorem pr_w761 : Cond.selects RX9 yX9_run yX9_run ∈ pr_AL := pr_in_pr_A19 _ (List.mem_of_getElem? (i := 1) (by decide +kernel))
theorem pr_w762 : Cond.methodLink RL 60 yX8_seen ∈ pr_AL := pr_in_pr_A19 _ (List.mem_of_getElem? (i := 2) (by decide +kernel))
theorem pr_w763 : Cond.instanceMethod yX8_seen ∈ pr_AL := pr_in_pr_A19 _ (List.mem_of_getElem? (i := 3) (by decide +kernel))
theorem pr_w764 : Cond.selects RX8 yX8_seen yX8_seen ∈ pr_AL := pr_in_pr_A19 _ (List.mem_of_getElem? (i := 4) (by decide +kernel))
theorem pr_w765 : Cond.methodLink RL 63 yX9_seen ∈ pr_AL := pr_in_pr_A19 _ (List.mem_of_getElem? (i := 5) (by decide +kernel))
theorem pr_w766 : Cond.instanceMethod yX9_seen ∈ pr_AL := pr_in_pr_A19 _ (List.mem_of_getElem? (i := 6) (by decide +kernel))
theorem pr_w767 : Cond.selects RX9 yX9_seen yX9_seen ∈ pr_AL := pr_in_pr_A19 _ (List.mem_of_getElem? (i := 7) (by decide +kernel))
theorem pr_w768 : Cond.methodLink RL 64 yX8_state ∈ pr_AL := pr_in_pr_A19 _ (List.mem_of_getElem? (i := 8) (by decide +kernel))
theorem pr_w769 : Cond.instanceMethod yX8_state ∈ pr_AL := pr_in_pr_A19 _ (List.mem_of_getElem? (i := 9) (by decide +kernel))
theorem pr_w770 : Cond.selects RX8 yX8_state yX8_state ∈ pr_AL := pr_in_pr_A19 _ (List.mem_of_getElem? (i := 10) (by decide +kernel))
theorem pr_w771 : Cond.methodLink RL 67 yX9_state ∈ pr_AL := pr_in_pr_A19 _ (List.mem_of_getElem? (i := 11) (by decide +kernel))
theorem pr_w772 : Cond.instanceMethod yX9_state ∈ pr_AL := pr_in_pr_A19 _ (List.mem_of_getElem? (i := 12) (by decide +kernel))
theorem pr_w773 : Cond.selects RX9 yX9_state yX9_state ∈ pr_AL := pr_in_pr_A19 _ (List.mem_of_getElem? (i := 13) (by decide +kernel))
theorem pr_w774 : Cond.methodLink RL 68 yX8_errors ∈ pr_AL := pr_in_pr_A19 _ (List.mem_of_getElem? (i := 14) (by decide +kernel))
theorem pr_w775 : Cond.instanceMethod yX8_errors ∈ pr_AL := pr_in_pr_A19 _ (List.mem_of_getElem? (i := 15) (by decide +kernel))
theorem pr_w776 : Cond.selects RX8 yX8_errors yX8_errors ∈ pr_AL := pr_in_pr_A19 _ (List.mem_of_getElem? (i := 16) (by decide +kernel))
theorem pr_w777 : Cond.methodLink RL 71 yX9_errors ∈ pr_AL := pr_in_pr_A19 _ (List.mem_of_getElem? (i := 17) (by decide +kernel))
theorem pr_w778 : Cond.instanceMethod yX9_errors ∈ pr_AL := pr_in_pr_A19 _ (List.mem_of_getElem? (i := 18) (by decide +kernel))
theorem pr_w779 : Cond.selects RX9 yX9_errors yX9_errors ∈ pr_AL := pr_in_pr_A19 _ (List.mem_of_getElem? (i := 19) (by decide +kernel))
theorem pr_w780 : Cond.methodLink RL 72 yX8_total ∈ pr_AL := pr_in_pr_A19 _ (List.mem_of_getElem? (i := 20) (by decide +kernel))
theorem pr_w781 : Cond.instanceMethod yX8_total ∈ pr_AL := pr_in_pr_A19 _ (List.mem_of_getElem? (i := 21) (by decide +kernel))
theorem pr_w782 : Cond.selects RX8 yX8_total yX8_total ∈ pr_AL := pr_in_pr_A19 _ (List.mem_of_getElem? (i := 22) (by decide +kernel))
theorem pr_w783 : Cond.methodLink RL 75 yX9_total ∈ pr_AL := pr_in_pr_A19 _ (List.mem_of_getElem? (i := 23) (by decide +kernel))
theorem pr_w784 : Cond.instanceMethod yX9_total ∈ pr_AL := pr_in_pr_A19 _ (List.mem_of_getElem? (i := 24) (by decide +kernel))
theorem pr_w785 : Cond.selects RX9 yX9_total yX9_total ∈ pr_AL := pr_in_pr_A19 _ (List.mem_of_getElem? (i := 25) (by decide +kernel))
theorem pr_w786 : Cond.methodLink RL 76 yX8_forecast ∈ pr_AL := pr_in_pr_A19 _ (List.mem_of_getElem? (i := 26) (by decide +kernel))
theorem pr_w787 : Cond.instanceMethod yX8_forecast ∈ pr_AL := pr_in_pr_A19 _ (List.mem_of_getElem? (i := 27) (by decide +kernel))
theorem pr_w788 : Cond.selects RX8 yX8_forecast yX8_forecast ∈ pr_AL := pr_in_pr_A19 _ (List.mem_of_getElem? (i := 28) (by decide +kernel))
theorem pr_w789 : Cond.methodLink RL 79 yX9_forecast ∈ pr_AL := pr_in_pr_A19 _ (List.mem_of_getElem? (i := 29) (by decide +kernel))
theorem pr_w790 : Cond.instanceMethod yX9_forecast ∈ pr_AL := pr_in_pr_A19 _ (List.mem_of_getElem? (i := 30) (by decide +kernel))
theorem pr_w791 : Cond.selects RX9 yX9_forecast yX9_forecast ∈ pr_AL := pr_in_pr_A19 _ (List.mem_of_getElem? (i := 31) (by decide +kernel))
theorem pr_w792 : Cond.methodLink RL 80 yX8_attempt ∈ pr_AL := pr_in_pr_A19 _ (List.mem_of_getElem? (i := 32) (by decide +kernel))
theorem pr_w793 : Cond.instanceMethod yX8_attempt ∈ pr_AL := pr_in_pr_A19 _ (List.mem_of_getElem? (i := 33) (by decide +kernel))
theorem pr_w794 : Cond.selects RX8 yX8_attempt yX8_attempt ∈ pr_AL := pr_in_pr_A19 _ (List.mem_of_getElem? (i := 34) (by decide +kernel))
theorem pr_w795 : Cond.methodLink RL 84 yX9_attempt ∈ pr_AL := pr_in_pr_A19 _ (List.mem_of_getElem? (i := 35) (by decide +kernel))
theorem pr_w796 : Cond.instanceMethod yX9_attempt ∈ pr_AL := pr_in_pr_A19 _ (List.mem_of_getElem? (i := 36) (by decide +kernel))
theorem pr_w797 : Cond.selects RX9 yX9_attempt yX9_attempt ∈ pr_AL := pr_in_pr_A19 _ (List.mem_of_getElem? (i := 37) (by decide +kernel))
theorem pr_w798 : Cond.methodLink RL 85 yX8_bestGain ∈ pr_AL := pr_in_pr_A19 _ (List.mem_of_getElem? (i := 38) (by decide +kernel))
theorem pr_w799 : Cond.instanceMethod yX8_bestGain ∈ pr_AL := pr_in_pr_A19 _ (List.mem_of_getElem? (i := 39) (by decide +kernel))
theorem pr_w800 : Cond.selects RX8 yX8_bestGain yX8_bestGain ∈ pr_AL := pr_in_pr_A20 _ (List.mem_of_getElem? (i := 0) (by decide +kernel))
theorem pr_w801 : Cond.methodLink RL 89 yX9_bestGain ∈ pr_AL := pr_in_pr_A20 _ (List.mem_of_getElem? (i := 1) (by decide +kernel))
theorem pr_w802 : Cond.instanceMethod yX9_bestGain ∈ pr_AL := pr_in_pr_A20 _ (List.mem_of_getElem? (i := 2) (by decide +kernel))
theorem pr_w803 : Cond.selects RX9 yX9_bestGain yX9_bestGain ∈ pr_AL := pr_in_pr_A20 _ (List.mem_of_getElem? (i := 3) (by decide +kernel))
theorem pr_w804 : Cond.methodLink RL 92 yX8_put ∈ pr_AL := pr_in_pr_A20 _ (List.mem_of_getElem? (i := 4) (by decide +kernel))
theorem pr_w805 : Cond.instanceMethod yX8_put ∈ pr_AL := pr_in_pr_A20 _ (List.mem_of_getElem? (i := 5) (by decide +kernel))
theorem pr_w806 : Cond.selects RX8 yX8_put yX8_put ∈ pr_AL := pr_in_pr_A20 _ (List.mem_of_getElem? (i := 6) (by decide +kernel))
theorem pr_w807 : Cond.methodLink RL 96 yX9_put ∈ pr_AL := pr_in_pr_A20 _ (List.mem_of_getElem? (i := 7) (by decide +kernel))
theorem pr_w808 : Cond.instanceMethod yX9_put ∈ pr_AL := pr_in_pr_A20 _ (List.mem_of_getElem? (i := 8) (by decide +kernel))
theorem pr_w809 : Cond.selects RX9 yX9_put yX9_put ∈ pr_AL := pr_in_pr_A20 _ (List.mem_of_getElem? (i := 9) (by decide +kernel))
theorem pr_w810 : Cond.methodLink RL 97 yX8_wipe ∈ pr_AL := pr_in_pr_A20 _ (List.mem_of_getElem? (i := 10) (by decide +kernel))
theorem pr_w811 : Cond.instanceMethod yX8_wipe ∈ pr_AL := pr_in_pr_A20 _ (List.mem_of_getElem? (i := 11) (by decide +kernel))
theorem pr_w812 : Cond.selects RX8 yX8_wipe yX8_wipe ∈ pr_AL := pr_in_pr_A20 _ (List.mem_of_getElem? (i := 12) (by decide +kernel))
theorem pr_w813 : Cond.methodLink RL 101 yX9_wipe ∈ pr_AL := pr_in_pr_A20 _ (List.mem_of_getElem? (i := 13) (by decide +kernel))
theorem pr_w814 : Cond.instanceMethod yX9_wipe ∈ pr_AL := pr_in_pr_A20 _ (List.mem_of_getElem? (i := 14) (by decide +kernel))
theorem pr_w815 : Cond.selects RX9 yX9_wipe yX9_wipe ∈ pr_AL := pr_in_pr_A20 _ (List.mem_of_getElem? (i := 15) (by decide +kernel))
theorem pr_w816 : Cond.methodLink RL 102 yX8_fault ∈ pr_AL := pr_in_pr_A20 _ (List.mem_of_getElem? (i := 16) (by decide +kernel))
theorem pr_w817 : Cond.instanceMethod yX8_fault ∈ pr_AL := pr_in_pr_A20 _ (List.mem_of_getElem? (i := 17) (by decide +kernel))
theorem pr_w818 : Cond.selects RX8 yX8_fault yX8_fault ∈ pr_AL := pr_in_pr_A20 _ (List.mem_of_getElem? (i := 18) (by decide +kernel))
theorem pr_w819 : Cond.methodLink RL 105 yX9_fault ∈ pr_AL := pr_in_pr_A20 _ (List.mem_of_getElem? (i := 19) (by decide +kernel))
theorem pr_w820 : Cond.methodLink RL 106 yX8_carryOut ∈ pr_AL := pr_in_pr_A20 _ (List.mem_of_getElem? (i := 20) (by decide +kernel))
theorem pr_w821 : Cond.instanceMethod yX8_carryOut ∈ pr_AL := pr_in_pr_A20 _ (List.mem_of_getElem? (i := 21) (by decide +kernel))
theorem pr_w822 : Cond.selects RX8 yX8_carryOut yX8_carryOut ∈ pr_AL := pr_in_pr_A20 _ (List.mem_of_getElem? (i := 22) (by decide +kernel))
theorem pr_w823 : Cond.methodLink RL 109 yX9_carryOut ∈ pr_AL := pr_in_pr_A20 _ (List.mem_of_getElem? (i := 23) (by decide +kernel))
theorem pr_w824 : Cond.instanceMethod yX9_carryOut ∈ pr_AL := pr_in_pr_A20 _ (List.mem_of_getElem? (i := 24) (by decide +kernel))
theorem pr_w825 : Cond.selects RX9 yX9_carryOut yX9_carryOut ∈ pr_AL := pr_in_pr_A20 _ (List.mem_of_getElem? (i := 25) (by decide +kernel))
theorem pr_w826 : Cond.methodLink RL 110 yX8_count ∈ pr_AL := pr_in_pr_A20 _ (List.mem_of_getElem? (i := 26) (by decide +kernel))
theorem pr_w827 : Cond.instanceMethod yX8_count ∈ pr_AL := pr_in_pr_A20 _ (List.mem_of_getElem? (i := 27) (by decide +kernel))
theorem pr_w828 : Cond.selects RX8 yX8_count yX8_count ∈ pr_AL := pr_in_pr_A20 _ (List.mem_of_getElem? (i := 28) (by decide +kernel))
theorem pr_w829 : Cond.methodLink RL 113 yX9_count ∈ pr_AL := pr_in_pr_A20 _ (List.mem_of_getElem? (i := 29) (by decide +kernel))
theorem pr_w830 : Cond.instanceMethod yX9_count ∈ pr_AL := pr_in_pr_A20 _ (List.mem_of_getElem? (i := 30) (by decide +kernel))
theorem pr_w831 : Cond.selects RX9 yX9_count yX9_count ∈ pr_AL := pr_in_pr_A20 _ (List.mem_of_getElem? (i := 31) (by decide +kernel))
theorem pr_w832 : Cond.methodLink RL 114 yX8_save ∈ pr_AL := pr_in_pr_A20 _ (List.mem_of_getElem? (i := 32) (by decide +kernel))
theorem pr_w833 : Cond.instanceMethod yX8_save ∈ pr_AL := pr_in_pr_A20 _ (List.mem_of_getElem? (i := 33) (by decide +kernel))
theorem pr_w834 : Cond.selects RX8 yX8_save yX8_save ∈ pr_AL := pr_in_pr_A20 _ (List.mem_of_getElem? (i := 34) (by decide +kernel))
theorem pr_w835 : Cond.methodLink RL 117 yX9_save ∈ pr_AL := pr_in_pr_A20 _ (List.mem_of_getElem? (i := 35) (by decide +kernel))
theorem pr_w836 : Cond.instanceMethod yX9_save ∈ pr_AL := pr_in_pr_A20 _ (List.mem_of_getElem? (i := 36) (by decide +kernel))
theorem pr_w837 : Cond.selects RX9 yX9_save yX9_save ∈ pr_AL := pr_in_pr_A20 _ (List.mem_of_getElem? (i := 37) (by decide +kernel))
theorem pr_w838 : Cond.methodLink RL 118 yX8_restore ∈ pr_AL := pr_in_pr_A20 _ (List.mem_of_getElem? (i := 38) (by decide +kernel))
theorem pr_w839 : Cond.instanceMethod yX8_restore ∈ pr_AL := pr_in_pr_A20 _ (List.mem_of_getElem? (i := 39) (by decide +kernel))
theorem pr_w840 : Cond.selects RX8 yX8_restore yX8_restore ∈ pr_AL := pr_in_pr_A21 _ (List.mem_of_getElem? (i := 0) (by decide +kernel))
theorem pr_w841 : Cond.methodLink RL 121 yX9_restore ∈ pr_AL := pr_in_pr_A21 _ (List.mem_of_getElem? (i := 1) (by decide +kernel))
theorem pr_w842 : Cond.instanceMethod yX9_restore ∈ pr_AL := pr_in_pr_A21 _ (List.mem_of_getElem? (i := 2) (by decide +kernel))
theorem pr_w843 : Cond.selects RX9 yX9_restore yX9_restore ∈ pr_AL := pr_in_pr_A21 _ (List.mem_of_getElem? (i := 3) (by decide +kernel))
def pr_NF : List (String × Nat × String × String × String) := [("PrintRegister$Unit", 118, "PrintRegister$Printer", "phase", "I"), ("PrintRegister$Unit", 121, "PrintRegister$Printer", "skewSetting", "I"), ("PrintRegister", 171, "PrintRegister$Printer", "disturbanceLeft", "I"), ("PrintRegister$Unit", 127, "PrintRegister$Printer", "disturbanceLeft", "I"), ("PrintRegister", 93, "PrintRegister$Controller", "feed", "I"), ("PrintRegister$Unit", 77, "PrintRegister$Controller", "feed", "I"), ("PrintRegister$Unit", 66, "PrintRegister$Controller", "sum", "I"), ("PrintRegister", 153, "PrintRegister$Controller", "sum", "I"), ("PrintRegister$Press", 158, "PrintRegister$Controller", "wait", "I"), ("PrintRegister", 156, "PrintRegister$Controller", "wait", "I"), ("PrintRegister$Unit", 100, "PrintRegister$Controller", "misses", "I"), ("PrintRegister", 159, "PrintRegister$Controller", "misses", "I"), ("PrintRegister$Unit", 74, "PrintRegister$Controller", "readyTime", "I"), ("PrintRegister", 162, "PrintRegister$Controller", "readyTime", "I"), ("PrintRegister$Unit", 83, "PrintRegister$Controller", "expectedError", "I"), ("PrintRegister", 165, "PrintRegister$Controller", "expectedError", "I"), ("PrintRegister$Unit", 86, "PrintRegister$Controller", "expectedSkew", "I"), ("PrintRegister", 168, "PrintRegister$Controller", "expectedSkew", "I"), ("PrintRegister$Press", 176, "PrintRegister$Controller", "addedPhase", "I"), ("PrintRegister$Press", 182, "PrintRegister$Controller", "addedSkew", "I"), ("PrintRegister", 180, "PrintRegister$Sensor", "log", "LPrintRegister$ErrorLog;"), ("PrintRegister", 114, "PrintRegister$Sensor", "hiddenLeft", "I"), ("PrintRegister$Unit", 133, "PrintRegister$Sensor", "hiddenLeft", "I"), ("PrintRegister", 122, "PrintRegister$Sensor", "falseOffset", "I"), ("PrintRegister", 119, "PrintRegister$Sensor", "falseLeft", "I"), ("PrintRegister$Unit", 136, "PrintRegister$Sensor", "falseLeft", "I"), ("PrintRegister$Press", 81, "PrintRegister$Sensor", "sawPiece", "Z"), ("PrintRegister", 142, "PrintRegister$Sensor", "sawPiece", "Z"), ("PrintRegister$Press", 87, "PrintRegister$Sensor", "trueError", "I"), ("PrintRegister$Unit", 97, "PrintRegister$Sensor", "recognized", "I"), ("PrintRegister$Press", 141, "PrintRegister$Sensor", "recognized", "I"), ("PrintRegister", 146, "PrintRegister$Sensor", "recognized", "I"), ("PrintRegister$Unit", 108, "PrintRegister$Sensor", "offset", "I"), ("PrintRegister$Press", 163, "PrintRegister$Sensor", "offset", "I"), ("PrintRegister$Unit", 115, "PrintRegister$Sensor", "skew", "I"), ("PrintRegister$Press", 169, "PrintRegister$Sensor", "skew", "I"), ("PrintRegister", 77, "PrintRegister$Unit", "printer", "LPrintRegister$Printer;"), ("PrintRegister$Press", 122, "PrintRegister$Unit", "printer", "LPrintRegister$Printer;"), ("PrintRegister", 89, "PrintRegister$Unit", "controller", "LPrintRegister$Controller;"), ("PrintRegister$Press", 154, "PrintRegister$Unit", "controller", "LPrintRegister$Controller;"), ("PrintRegister$Press", 77, "PrintRegister$Unit", "sensor", "LPrintRegister$Sensor;"), ("PrintRegister", 110, "PrintRegister$Unit", "sensor", "LPrintRegister$Sensor;"), ("PrintRegister", 199, "PrintRegister$Press", "totals", "[I"), ("PrintRegister", 240, "PrintRegister$Press", "unitCount", "I"), ("PrintRegister", 45, "PrintRegister$Press", "time", "I"), ("PrintRegister", 101, "PrintRegister$Press", "speedNow", "I"), ("PrintRegister", 260, "PrintRegister$Slot", "saved", "LPrintRegister$Press;"), ("PrintRegister", 263, "PrintRegister$Slot", "isUsed", "Z"), ("PrintRegister", 217, "PrintRegister$Pad", "length", "I"), ("PrintRegister", 230, "PrintRegister$Pad", "at", "I"), ("PrintRegister", 227, "PrintRegister$Pad", "failed", "Z"), ("PrintRegister", 266, "PrintRegister$Pad", "kind", "I"), ("PrintRegister", 272, "PrintRegister$Pad", "unit", "I"), ("PrintRegister", 269, "PrintRegister$Pad", "number", "I"), ("PrintRegister", 275, "PrintRegister$Pad", "duration", "I"), ("PrintRegister", 234, "PrintRegister$Pad", "repeats", "I"), ("PrintRegister", 237, "PrintRegister$Pad", "greatestUnit", "I"), ("PrintRegister$Unit", 36, "PrintRegister", "FIRST_SETTINGS", "[I")]
def pr_NM : List (String × Nat × MethodName) := [("PrintRegister$Press", 24, ⟨"PrintRegister$Unit", "<init>", "()V"⟩), ("PrintRegister$Unit", 17, ⟨"PrintRegister$Printer", "<init>", "()V"⟩), ("PrintRegister$Unit", 24, ⟨"PrintRegister$Controller", "<init>", "()V"⟩), ("PrintRegister$Unit", 31, ⟨"PrintRegister$Sensor", "<init>", "()V"⟩), ("PrintRegister$Sensor", 11, ⟨"PrintRegister$ErrorLog", "<init>", "()V"⟩), ("PrintRegister", 21, ⟨"PrintRegister$Slot", "<init>", "()V"⟩), ("PrintRegister", 31, ⟨"PrintRegister$Pad", "<init>", "()V"⟩), ("PrintRegister$Unit", 111, ⟨"PrintRegister", "limited", "(II)I"⟩), ("PrintRegister$Controller", 37, ⟨"PrintRegister", "lessOne", "(I)I"⟩), ("PrintRegister$Unit", 130, ⟨"PrintRegister", "lessOne", "(I)I"⟩)]
def pr_NW : List Cond := pr_NF.map (fun q => .fieldLinkNest q.1 q.2.1 q.2.2.1 q.2.2.2.1 q.2.2.2.2 "PrintRegister") ++ pr_NM.map (fun q => .methodLinkNest q.1 q.2.1 q.2.2 "PrintRegister")
theorem pr_nf0 : Cond.fieldLinkNest RX7 118 "PrintRegister$Printer" "phase" "I" "PrintRegister" ∈ pr_NW := List.mem_append_left _ (List.mem_map.mpr ⟨("PrintRegister$Unit", 118, "PrintRegister$Printer", "phase", "I"), List.mem_of_getElem? (i := 0) (by decide +kernel), rfl⟩)
theorem pr_nf1 : Cond.fieldLinkNest RX7 121 "PrintRegister$Printer" "skewSetting" "I" "PrintRegister" ∈ pr_NW := List.mem_append_left _ (List.mem_map.mpr ⟨("PrintRegister$Unit", 121, "PrintRegister$Printer", "skewSetting", "I"), List.mem_of_getElem? (i := 1) (by decide +kernel), rfl⟩)
theorem pr_nf2 : Cond.fieldLinkNest RX8 171 "PrintRegister$Printer" "disturbanceLeft" "I" "PrintRegister" ∈ pr_NW := List.mem_append_left _ (List.mem_map.mpr ⟨("PrintRegister", 171, "PrintRegister$Printer", "disturbanceLeft", "I"), List.mem_of_getElem? (i := 2) (by decide +kernel), rfl⟩)
theorem pr_nf3 : Cond.fieldLinkNest RX7 127 "PrintRegister$Printer" "disturbanceLeft" "I" "PrintRegister" ∈ pr_NW := List.mem_append_left _ (List.mem_map.mpr ⟨("PrintRegister$Unit", 127, "PrintRegister$Printer", "disturbanceLeft", "I"), List.mem_of_getElem? (i := 3) (by decide +kernel), rfl⟩)
theorem pr_nf4 : Cond.fieldLinkNest RX8 93 "PrintRegister$Controller" "feed" "I" "PrintRegister" ∈ pr_NW := List.mem_append_left _ (List.mem_map.mpr ⟨("PrintRegister", 93, "PrintRegister$Controller", "feed", "I"), List.mem_of_getElem? (i := 4) (by decide +kernel), rfl⟩)
theorem pr_nf5 : Cond.fieldLinkNest RX7 77 "PrintRegister$Controller" "feed" "I" "PrintRegister" ∈ pr_NW := List.mem_append_left _ (List.mem_map.mpr ⟨("PrintRegister$Unit", 77, "PrintRegister$Controller", "feed", "I"), List.mem_of_getElem? (i := 5) (by decide +kernel), rfl⟩)
theorem pr_nf6 : Cond.fieldLinkNest RX7 66 "PrintRegister$Controller" "sum" "I" "PrintRegister" ∈ pr_NW := List.mem_append_left _ (List.mem_map.mpr ⟨("PrintRegister$Unit", 66, "PrintRegister$Controller", "sum", "I"), List.mem_of_getElem? (i := 6) (by decide +kernel), rfl⟩)
theorem pr_nf7 : Cond.fieldLinkNest RX8 153 "PrintRegister$Controller" "sum" "I" "PrintRegister" ∈ pr_NW := List.mem_append_left _ (List.mem_map.mpr ⟨("PrintRegister", 153, "PrintRegister$Controller", "sum", "I"), List.mem_of_getElem? (i := 7) (by decide +kernel), rfl⟩)
theorem pr_nf8 : Cond.fieldLinkNest RX3 158 "PrintRegister$Controller" "wait" "I" "PrintRegister" ∈ pr_NW := List.mem_append_left _ (List.mem_map.mpr ⟨("PrintRegister$Press", 158, "PrintRegister$Controller", "wait", "I"), List.mem_of_getElem? (i := 8) (by decide +kernel), rfl⟩)
theorem pr_nf9 : Cond.fieldLinkNest RX8 156 "PrintRegister$Controller" "wait" "I" "PrintRegister" ∈ pr_NW := List.mem_append_left _ (List.mem_map.mpr ⟨("PrintRegister", 156, "PrintRegister$Controller", "wait", "I"), List.mem_of_getElem? (i := 9) (by decide +kernel), rfl⟩)
theorem pr_nf10 : Cond.fieldLinkNest RX7 100 "PrintRegister$Controller" "misses" "I" "PrintRegister" ∈ pr_NW := List.mem_append_left _ (List.mem_map.mpr ⟨("PrintRegister$Unit", 100, "PrintRegister$Controller", "misses", "I"), List.mem_of_getElem? (i := 10) (by decide +kernel), rfl⟩)
theorem pr_nf11 : Cond.fieldLinkNest RX8 159 "PrintRegister$Controller" "misses" "I" "PrintRegister" ∈ pr_NW := List.mem_append_left _ (List.mem_map.mpr ⟨("PrintRegister", 159, "PrintRegister$Controller", "misses", "I"), List.mem_of_getElem? (i := 11) (by decide +kernel), rfl⟩)
theorem pr_nf12 : Cond.fieldLinkNest RX7 74 "PrintRegister$Controller" "readyTime" "I" "PrintRegister" ∈ pr_NW := List.mem_append_left _ (List.mem_map.mpr ⟨("PrintRegister$Unit", 74, "PrintRegister$Controller", "readyTime", "I"), List.mem_of_getElem? (i := 12) (by decide +kernel), rfl⟩)
theorem pr_nf13 : Cond.fieldLinkNest RX8 162 "PrintRegister$Controller" "readyTime" "I" "PrintRegister" ∈ pr_NW := List.mem_append_left _ (List.mem_map.mpr ⟨("PrintRegister", 162, "PrintRegister$Controller", "readyTime", "I"), List.mem_of_getElem? (i := 13) (by decide +kernel), rfl⟩)
theorem pr_nf14 : Cond.fieldLinkNest RX7 83 "PrintRegister$Controller" "expectedError" "I" "PrintRegister" ∈ pr_NW := List.mem_append_left _ (List.mem_map.mpr ⟨("PrintRegister$Unit", 83, "PrintRegister$Controller", "expectedError", "I"), List.mem_of_getElem? (i := 14) (by decide +kernel), rfl⟩)
theorem pr_nf15 : Cond.fieldLinkNest RX8 165 "PrintRegister$Controller" "expectedError" "I" "PrintRegister" ∈ pr_NW := List.mem_append_left _ (List.mem_map.mpr ⟨("PrintRegister", 165, "PrintRegister$Controller", "expectedError", "I"), List.mem_of_getElem? (i := 15) (by decide +kernel), rfl⟩)
theorem pr_nf16 : Cond.fieldLinkNest RX7 86 "PrintRegister$Controller" "expectedSkew" "I" "PrintRegister" ∈ pr_NW := List.mem_append_left _ (List.mem_map.mpr ⟨("PrintRegister$Unit", 86, "PrintRegister$Controller", "expectedSkew", "I"), List.mem_of_getElem? (i := 16) (by decide +kernel), rfl⟩)
theorem pr_nf17 : Cond.fieldLinkNest RX8 168 "PrintRegister$Controller" "expectedSkew" "I" "PrintRegister" ∈ pr_NW := List.mem_append_left _ (List.mem_map.mpr ⟨("PrintRegister", 168, "PrintRegister$Controller", "expectedSkew", "I"), List.mem_of_getElem? (i := 17) (by decide +kernel), rfl⟩)
theorem pr_nf18 : Cond.fieldLinkNest RX3 176 "PrintRegister$Controller" "addedPhase" "I" "PrintRegister" ∈ pr_NW := List.mem_append_left _ (List.mem_map.mpr ⟨("PrintRegister$Press", 176, "PrintRegister$Controller", "addedPhase", "I"), List.mem_of_getElem? (i := 18) (by decide +kernel), rfl⟩)
theorem pr_nf19 : Cond.fieldLinkNest RX3 182 "PrintRegister$Controller" "addedSkew" "I" "PrintRegister" ∈ pr_NW := List.mem_append_left _ (List.mem_map.mpr ⟨("PrintRegister$Press", 182, "PrintRegister$Controller", "addedSkew", "I"), List.mem_of_getElem? (i := 19) (by decide +kernel), rfl⟩)
theorem pr_nf20 : Cond.fieldLinkNest RX8 180 "PrintRegister$Sensor" "log" "LPrintRegister$ErrorLog;" "PrintRegister" ∈ pr_NW := List.mem_append_left _ (List.mem_map.mpr ⟨("PrintRegister", 180, "PrintRegister$Sensor", "log", "LPrintRegister$ErrorLog;"), List.mem_of_getElem? (i := 20) (by decide +kernel), rfl⟩)
theorem pr_nf21 : Cond.fieldLinkNest RX8 114 "PrintRegister$Sensor" "hiddenLeft" "I" "PrintRegister" ∈ pr_NW := List.mem_append_left _ (List.mem_map.mpr ⟨("PrintRegister", 114, "PrintRegister$Sensor", "hiddenLeft", "I"), List.mem_of_getElem? (i := 21) (by decide +kernel), rfl⟩)
theorem pr_nf22 : Cond.fieldLinkNest RX7 133 "PrintRegister$Sensor" "hiddenLeft" "I" "PrintRegister" ∈ pr_NW := List.mem_append_left _ (List.mem_map.mpr ⟨("PrintRegister$Unit", 133, "PrintRegister$Sensor", "hiddenLeft", "I"), List.mem_of_getElem? (i := 22) (by decide +kernel), rfl⟩)
theorem pr_nf23 : Cond.fieldLinkNest RX8 122 "PrintRegister$Sensor" "falseOffset" "I" "PrintRegister" ∈ pr_NW := List.mem_append_left _ (List.mem_map.mpr ⟨("PrintRegister", 122, "PrintRegister$Sensor", "falseOffset", "I"), List.mem_of_getElem? (i := 23) (by decide +kernel), rfl⟩)
theorem pr_nf24 : Cond.fieldLinkNest RX8 119 "PrintRegister$Sensor" "falseLeft" "I" "PrintRegister" ∈ pr_NW := List.mem_append_left _ (List.mem_map.mpr ⟨("PrintRegister", 119, "PrintRegister$Sensor", "falseLeft", "I"), List.mem_of_getElem? (i := 24) (by decide +kernel), rfl⟩)
theorem pr_nf25 : Cond.fieldLinkNest RX7 136 "PrintRegister$Sensor" "falseLeft" "I" "PrintRegister" ∈ pr_NW := List.mem_append_left _ (List.mem_map.mpr ⟨("PrintRegister$Unit", 136, "PrintRegister$Sensor", "falseLeft", "I"), List.mem_of_getElem? (i := 25) (by decide +kernel), rfl⟩)
theorem pr_nf26 : Cond.fieldLinkNest RX3 81 "PrintRegister$Sensor" "sawPiece" "Z" "PrintRegister" ∈ pr_NW := List.mem_append_left _ (List.mem_map.mpr ⟨("PrintRegister$Press", 81, "PrintRegister$Sensor", "sawPiece", "Z"), List.mem_of_getElem? (i := 26) (by decide +kernel), rfl⟩)
theorem pr_nf27 : Cond.fieldLinkNest RX8 142 "PrintRegister$Sensor" "sawPiece" "Z" "PrintRegister" ∈ pr_NW := List.mem_append_left _ (List.mem_map.mpr ⟨("PrintRegister", 142, "PrintRegister$Sensor", "sawPiece", "Z"), List.mem_of_getElem? (i := 27) (by decide +kernel), rfl⟩)
theorem pr_nf28 : Cond.fieldLinkNest RX3 87 "PrintRegister$Sensor" "trueError" "I" "PrintRegister" ∈ pr_NW := List.mem_append_left _ (List.mem_map.mpr ⟨("PrintRegister$Press", 87, "PrintRegister$Sensor", "trueError", "I"), List.mem_of_getElem? (i := 28) (by decide +kernel), rfl⟩)
theorem pr_nf29 : Cond.fieldLinkNest RX7 97 "PrintRegister$Sensor" "recognized" "I" "PrintRegister" ∈ pr_NW := List.mem_append_left _ (List.mem_map.mpr ⟨("PrintRegister$Unit", 97, "PrintRegister$Sensor", "recognized", "I"), List.mem_of_getElem? (i := 29) (by decide +kernel), rfl⟩)
theorem pr_nf30 : Cond.fieldLinkNest RX3 141 "PrintRegister$Sensor" "recognized" "I" "PrintRegister" ∈ pr_NW := List.mem_append_left _ (List.mem_map.mpr ⟨("PrintRegister$Press", 141, "PrintRegister$Sensor", "recognized", "I"), List.mem_of_getElem? (i := 30) (by decide +kernel), rfl⟩)
theorem pr_nf31 : Cond.fieldLinkNest RX8 146 "PrintRegister$Sensor" "recognized" "I" "PrintRegister" ∈ pr_NW := List.mem_append_left _ (List.mem_map.mpr ⟨("PrintRegister", 146, "PrintRegister$Sensor", "recognized", "I"), List.mem_of_getElem? (i := 31) (by decide +kernel), rfl⟩)
theorem pr_nf32 : Cond.fieldLinkNest RX7 108 "PrintRegister$Sensor" "offset" "I" "PrintRegister" ∈ pr_NW := List.mem_append_left _ (List.mem_map.mpr ⟨("PrintRegister$Unit", 108, "PrintRegister$Sensor", "offset", "I"), List.mem_of_getElem? (i := 32) (by decide +kernel), rfl⟩)
theorem pr_nf33 : Cond.fieldLinkNest RX3 163 "PrintRegister$Sensor" "offset" "I" "PrintRegister" ∈ pr_NW := List.mem_append_left _ (List.mem_map.mpr ⟨("PrintRegister$Press", 163, "PrintRegister$Sensor", "offset", "I"), List.mem_of_getElem? (i := 33) (by decide +kernel), rfl⟩)
theorem pr_nf34 : Cond.fieldLinkNest RX7 115 "PrintRegister$Sensor" "skew" "I" "PrintRegister" ∈ pr_NW := List.mem_append_left _ (List.mem_map.mpr ⟨("PrintRegister$Unit", 115, "PrintRegister$Sensor", "skew", "I"), List.mem_of_getElem? (i := 34) (by decide +kernel), rfl⟩)
theorem pr_nf35 : Cond.fieldLinkNest RX3 169 "PrintRegister$Sensor" "skew" "I" "PrintRegister" ∈ pr_NW := List.mem_append_left _ (List.mem_map.mpr ⟨("PrintRegister$Press", 169, "PrintRegister$Sensor", "skew", "I"), List.mem_of_getElem? (i := 35) (by decide +kernel), rfl⟩)
theorem pr_nf36 : Cond.fieldLinkNest RX8 77 "PrintRegister$Unit" "printer" "LPrintRegister$Printer;" "PrintRegister" ∈ pr_NW := List.mem_append_left _ (List.mem_map.mpr ⟨("PrintRegister", 77, "PrintRegister$Unit", "printer", "LPrintRegister$Printer;"), List.mem_of_getElem? (i := 36) (by decide +kernel), rfl⟩)
theorem pr_nf37 : Cond.fieldLinkNest RX3 122 "PrintRegister$Unit" "printer" "LPrintRegister$Printer;" "PrintRegister" ∈ pr_NW := List.mem_append_left _ (List.mem_map.mpr ⟨("PrintRegister$Press", 122, "PrintRegister$Unit", "printer", "LPrintRegister$Printer;"), List.mem_of_getElem? (i := 37) (by decide +kernel), rfl⟩)
theorem pr_nf38 : Cond.fieldLinkNest RX8 89 "PrintRegister$Unit" "controller" "LPrintRegister$Controller;" "PrintRegister" ∈ pr_NW := List.mem_append_left _ (List.mem_map.mpr ⟨("PrintRegister", 89, "PrintRegister$Unit", "controller", "LPrintRegister$Controller;"), List.mem_of_getElem? (i := 38) (by decide +kernel), rfl⟩)
theorem pr_nf39 : Cond.fieldLinkNest RX3 154 "PrintRegister$Unit" "controller" "LPrintRegister$Controller;" "PrintRegister" ∈ pr_NW := List.mem_append_left _ (List.mem_map.mpr ⟨("PrintRegister$Press", 154, "PrintRegister$Unit", "controller", "LPrintRegister$Controller;"), List.mem_of_getElem? (i := 39) (by decide +kernel), rfl⟩)
theorem pr_nf40 : Cond.fieldLinkNest RX3 77 "PrintRegister$Unit" "sensor" "LPrintRegister$Sensor;" "PrintRegister" ∈ pr_NW := List.mem_append_left _ (List.mem_map.mpr ⟨("PrintRegister$Press", 77, "PrintRegister$Unit", "sensor", "LPrintRegister$Sensor;"), List.mem_of_getElem? (i := 40) (by decide +kernel), rfl⟩)
theorem pr_nf41 : Cond.fieldLinkNest RX8 110 "PrintRegister$Unit" "sensor" "LPrintRegister$Sensor;" "PrintRegister" ∈ pr_NW := List.mem_append_left _ (List.mem_map.mpr ⟨("PrintRegister", 110, "PrintRegister$Unit", "sensor", "LPrintRegister$Sensor;"), List.mem_of_getElem? (i := 41) (by decide +kernel), rfl⟩)
theorem pr_nf42 : Cond.fieldLinkNest RX8 199 "PrintRegister$Press" "totals" "[I" "PrintRegister" ∈ pr_NW := List.mem_append_left _ (List.mem_map.mpr ⟨("PrintRegister", 199, "PrintRegister$Press", "totals", "[I"), List.mem_of_getElem? (i := 42) (by decide +kernel), rfl⟩)
theorem pr_nf43 : Cond.fieldLinkNest RX8 240 "PrintRegister$Press" "unitCount" "I" "PrintRegister" ∈ pr_NW := List.mem_append_left _ (List.mem_map.mpr ⟨("PrintRegister", 240, "PrintRegister$Press", "unitCount", "I"), List.mem_of_getElem? (i := 43) (by decide +kernel), rfl⟩)
theorem pr_nf44 : Cond.fieldLinkNest RX8 45 "PrintRegister$Press" "time" "I" "PrintRegister" ∈ pr_NW := List.mem_append_left _ (List.mem_map.mpr ⟨("PrintRegister", 45, "PrintRegister$Press", "time", "I"), List.mem_of_getElem? (i := 44) (by decide +kernel), rfl⟩)
theorem pr_nf45 : Cond.fieldLinkNest RX8 101 "PrintRegister$Press" "speedNow" "I" "PrintRegister" ∈ pr_NW := List.mem_append_left _ (List.mem_map.mpr ⟨("PrintRegister", 101, "PrintRegister$Press", "speedNow", "I"), List.mem_of_getElem? (i := 45) (by decide +kernel), rfl⟩)
theorem pr_nf46 : Cond.fieldLinkNest RX8 260 "PrintRegister$Slot" "saved" "LPrintRegister$Press;" "PrintRegister" ∈ pr_NW := List.mem_append_left _ (List.mem_map.mpr ⟨("PrintRegister", 260, "PrintRegister$Slot", "saved", "LPrintRegister$Press;"), List.mem_of_getElem? (i := 46) (by decide +kernel), rfl⟩)
theorem pr_nf47 : Cond.fieldLinkNest RX8 263 "PrintRegister$Slot" "isUsed" "Z" "PrintRegister" ∈ pr_NW := List.mem_append_left _ (List.mem_map.mpr ⟨("PrintRegister", 263, "PrintRegister$Slot", "isUsed", "Z"), List.mem_of_getElem? (i := 47) (by decide +kernel), rfl⟩)
theorem pr_nf48 : Cond.fieldLinkNest RX8 217 "PrintRegister$Pad" "length" "I" "PrintRegister" ∈ pr_NW := List.mem_append_left _ (List.mem_map.mpr ⟨("PrintRegister", 217, "PrintRegister$Pad", "length", "I"), List.mem_of_getElem? (i := 48) (by decide +kernel), rfl⟩)
theorem pr_nf49 : Cond.fieldLinkNest RX8 230 "PrintRegister$Pad" "at" "I" "PrintRegister" ∈ pr_NW := List.mem_append_left _ (List.mem_map.mpr ⟨("PrintRegister", 230, "PrintRegister$Pad", "at", "I"), List.mem_of_getElem? (i := 49) (by decide +kernel), rfl⟩)
theorem pr_nf50 : Cond.fieldLinkNest RX8 227 "PrintRegister$Pad" "failed" "Z" "PrintRegister" ∈ pr_NW := List.mem_append_left _ (List.mem_map.mpr ⟨("PrintRegister", 227, "PrintRegister$Pad", "failed", "Z"), List.mem_of_getElem? (i := 50) (by decide +kernel), rfl⟩)
theorem pr_nf51 : Cond.fieldLinkNest RX8 266 "PrintRegister$Pad" "kind" "I" "PrintRegister" ∈ pr_NW := List.mem_append_left _ (List.mem_map.mpr ⟨("PrintRegister", 266, "PrintRegister$Pad", "kind", "I"), List.mem_of_getElem? (i := 51) (by decide +kernel), rfl⟩)
theorem pr_nf52 : Cond.fieldLinkNest RX8 272 "PrintRegister$Pad" "unit" "I" "PrintRegister" ∈ pr_NW := List.mem_append_left _ (List.mem_map.mpr ⟨("PrintRegister", 272, "PrintRegister$Pad", "unit", "I"), List.mem_of_getElem? (i := 52) (by decide +kernel), rfl⟩)
theorem pr_nf53 : Cond.fieldLinkNest RX8 269 "PrintRegister$Pad" "number" "I" "PrintRegister" ∈ pr_NW := List.mem_append_left _ (List.mem_map.mpr ⟨("PrintRegister", 269, "PrintRegister$Pad", "number", "I"), List.mem_of_getElem? (i := 53) (by decide +kernel), rfl⟩)
theorem pr_nf54 : Cond.fieldLinkNest RX8 275 "PrintRegister$Pad" "duration" "I" "PrintRegister" ∈ pr_NW := List.mem_append_left _ (List.mem_map.mpr ⟨("PrintRegister", 275, "PrintRegister$Pad", "duration", "I"), List.mem_of_getElem? (i := 54) (by decide +kernel), rfl⟩)
theorem pr_nf55 : Cond.fieldLinkNest RX8 234 "PrintRegister$Pad" "repeats" "I" "PrintRegister" ∈ pr_NW := List.mem_append_left _ (List.mem_map.mpr ⟨("PrintRegister", 234, "PrintRegister$Pad", "repeats", "I"), List.mem_of_getElem? (i := 55) (by decide +kernel), rfl⟩)
theorem pr_nf56 : Cond.fieldLinkNest RX8 237 "PrintRegister$Pad" "greatestUnit" "I" "PrintRegister" ∈ pr_NW := List.mem_append_left _ (List.mem_map.mpr ⟨("PrintRegister", 237, "PrintRegister$Pad", "greatestUnit", "I"), List.mem_of_getElem? (i := 56) (by decide +kernel), rfl⟩)
theorem pr_nf57 : Cond.fieldLinkNest RX7 36 "PrintRegister" "FIRST_SETTINGS" "[I" "PrintRegister" ∈ pr_NW := List.mem_append_left _ (List.mem_map.mpr ⟨("PrintRegister$Unit", 36, "PrintRegister", "FIRST_SETTINGS", "[I"), List.mem_of_getElem? (i := 57) (by decide +kernel), rfl⟩)
theorem pr_nm0 : Cond.methodLinkNest RX3 24 ⟨"PrintRegister$Unit", "<init>", "()V"⟩ "PrintRegister" ∈ pr_NW := List.mem_append_right _ (List.mem_map.mpr ⟨("PrintRegister$Press", 24, ⟨"PrintRegister$Unit", "<init>", "()V"⟩), List.mem_of_getElem? (i := 0) (by decide +kernel), rfl⟩)
theorem pr_nm1 : Cond.methodLinkNest RX7 17 ⟨"PrintRegister$Printer", "<init>", "()V"⟩ "PrintRegister" ∈ pr_NW := List.mem_append_right _ (List.mem_map.mpr ⟨("PrintRegister$Unit", 17, ⟨"PrintRegister$Printer", "<init>", "()V"⟩), List.mem_of_getElem? (i := 1) (by decide +kernel), rfl⟩)
theorem pr_nm2 : Cond.methodLinkNest RX7 24 ⟨"PrintRegister$Controller", "<init>", "()V"⟩ "PrintRegister" ∈ pr_NW := List.mem_append_right _ (List.mem_map.mpr ⟨("PrintRegister$Unit", 24, ⟨"PrintRegister$Controller", "<init>", "()V"⟩), List.mem_of_getElem? (i := 2) (by decide +kernel), rfl⟩)
theorem pr_nm3 : Cond.methodLinkNest RX7 31 ⟨"PrintRegister$Sensor", "<init>", "()V"⟩ "PrintRegister" ∈ pr_NW := List.mem_append_right _ (List.mem_map.mpr ⟨("PrintRegister$Unit", 31, ⟨"PrintRegister$Sensor", "<init>", "()V"⟩), List.mem_of_getElem? (i := 3) (by decide +kernel), rfl⟩)
theorem pr_nm4 : Cond.methodLinkNest RX5 11 ⟨"PrintRegister$ErrorLog", "<init>", "()V"⟩ "PrintRegister" ∈ pr_NW := List.mem_append_right _ (List.mem_map.mpr ⟨("PrintRegister$Sensor", 11, ⟨"PrintRegister$ErrorLog", "<init>", "()V"⟩), List.mem_of_getElem? (i := 4) (by decide +kernel), rfl⟩)
theorem pr_nm5 : Cond.methodLinkNest RX8 21 ⟨"PrintRegister$Slot", "<init>", "()V"⟩ "PrintRegister" ∈ pr_NW := List.mem_append_right _ (List.mem_map.mpr ⟨("PrintRegister", 21, ⟨"PrintRegister$Slot", "<init>", "()V"⟩), List.mem_of_getElem? (i := 5) (by decide +kernel), rfl⟩)
theorem pr_nm6 : Cond.methodLinkNest RX8 31 ⟨"PrintRegister$Pad", "<init>", "()V"⟩ "PrintRegister" ∈ pr_NW := List.mem_append_right _ (List.mem_map.mpr ⟨("PrintRegister", 31, ⟨"PrintRegister$Pad", "<init>", "()V"⟩), List.mem_of_getElem? (i := 6) (by decide +kernel), rfl⟩)
theorem pr_nm7 : Cond.methodLinkNest RX7 111 ⟨"PrintRegister", "limited", "(II)I"⟩ "PrintRegister" ∈ pr_NW := List.mem_append_right _ (List.mem_map.mpr ⟨("PrintRegister$Unit", 111, ⟨"PrintRegister", "limited", "(II)I"⟩), List.mem_of_getElem? (i := 7) (by decide +kernel), rfl⟩)
theorem pr_nm8 : Cond.methodLinkNest RX0 37 ⟨"PrintRegister", "lessOne", "(I)I"⟩ "PrintRegister" ∈ pr_NW := List.mem_append_right _ (List.mem_map.mpr ⟨("PrintRegister$Controller", 37, ⟨"PrintRegister", "lessOne", "(I)I"⟩), List.mem_of_getElem? (i := 8) (by decide +kernel), rfl⟩)
theorem pr_nm9 : Cond.methodLinkNest RX7 130 ⟨"PrintRegister", "lessOne", "(I)I"⟩ "PrintRegister" ∈ pr_NW := List.mem_append_right _ (List.mem_map.mpr ⟨("PrintRegister$Unit", 130, ⟨"PrintRegister", "lessOne", "(I)I"⟩), List.mem_of_getElem? (i := 9) (by decide +kernel), rfl⟩)
end
section
/-! ===== one flat memory for a fixed set of cells: places, pictures, judgement ===== -/
abbrev pr_M : Type := Nat → Nat → Int32
/-- one number of one cell -/
def pr_up (f : pr_M) (c j : Nat) (v : Int32) : pr_M := fun a b => if a = c ∧ b = j then v else f a b
/-- a whole row of one cell -/
def pr_rw (f : pr_M) (c : Nat) (g : Nat → Int32) : pr_M := fun a b => if a = c then g b else f a b
theorem pr_up_ne {f : pr_M} {c j a : Nat} {v : Int32} (h : a ≠ c) : pr_up f c j v a = f a := by
  funext b; simp [pr_up, h]
theorem pr_rw_ne {f : pr_M} {c a : Nat} {g : Nat → Int32} (h : a ≠ c) : pr_rw f c g a = f a := by
  funext b; simp [pr_rw, h]
theorem pr_rw_eq {f : pr_M} {c : Nat} {g : Nat → Int32} : pr_rw f c g c = g := by
  funext b; simp [pr_rw]
theorem pr_up_eq {f : pr_M} {c j : Nat} {v : Int32} : pr_up f c j v c = upd (f c) j v := by
  funext b; by_cases h : b = j <;> simp [pr_up, upd, h]
abbrev pr_CL : List vw_C := [(RX0, TX0, 9), (RX1, TX1, 2), (RX2, TX2, 10), (RX3, TX3, 10), (RX4, TX4, 8), (RX5, TX5, 10), (RX6, TX6, 2), (RX7, TX7, 4), (RX8, TX8, 5), (RX9, TX9, 10)]
/-- what a class's slots hold: 0 a number, d a reference to the cell d places on -/
def pr_sh : Nat → List Nat
  | 0 => [0, 0, 0, 0, 0, 0, 0, 0, 0]
  | 1 => [1, 0]
  | 2 => [1, 0, 0, 0, 0, 0, 0, 0, 0, 0]
  | 3 => [1, 2, 3, 0, 0, 0, 0, 0, 0, 0]
  | 4 => [1, 2, 0, 0, 0, 0, 0, 0]
  | 5 => [1, 0, 0, 0, 0, 0, 0, 0, 0, 0]
  | 6 => [1, 0]
  | 7 => [1, 2, 5, 6]
  | 8 => [1, 50, 99, 149, 199]
  | 9 => [1, 2, 3, 4, 5, 0, 0, 0, 6, 0]
  | _ => []
def pr_fv (ad : Nat → Nat) (f : pr_M) (c j d : Nat) : Value := if d = 0 then .int (f c j) else .ref (ad (c + d))
def pr_fs (ad : Nat → Nat) (f : pr_M) (c : Nat) : Nat → List Nat → List Value
  | _, [] => []
  | j, d :: ds => pr_fv ad f c j d :: pr_fs ad f c (j + 1) ds
theorem pr_fs_len (ad : Nat → Nat) (f : pr_M) (c : Nat) : ∀ (ds : List Nat) (j : Nat), (pr_fs ad f c j ds).length = ds.length
  | [], _ => rfl
  | _ :: ds, j => by simp [pr_fs, pr_fs_len ad f c ds (j + 1)]
theorem pr_fs_get (ad : Nat → Nat) (f : pr_M) (c : Nat) : ∀ (ds : List Nat) (j k d : Nat), ds[k]? = some d → (pr_fs ad f c j ds)[k]? = some (pr_fv ad f c (j + k) d)
  | [], _, _, _, h => by simp at h
  | d0 :: ds, j, 0, d, h => by
    simp at h
    subst h
    simp [pr_fs]
  | d0 :: ds, j, k + 1, d, h => by
    have h1 := pr_fs_get ad f c ds (j + 1) k d (by simpa using h)
    simp only [pr_fs, List.getElem?_cons_succ, h1]
    rw [show j + 1 + k = j + (k + 1) by omega]
theorem pr_fs_same (ad : Nat → Nat) (f g : pr_M) (c : Nat) : ∀ (ds : List Nat) (j : Nat), (∀ k, j ≤ k → g c k = f c k) → pr_fs ad g c j ds = pr_fs ad f c j ds
  | [], _, _ => rfl
  | d :: ds, j, h => by
    have h1 := pr_fs_same ad f g c ds (j + 1) (fun k hk => h k (by omega))
    simp only [pr_fs, pr_fv, h j (Nat.le_refl j), h1]
theorem pr_fs_set (ad : Nat → Nat) (f : pr_M) (c : Nat) (v : Int32) : ∀ (ds : List Nat) (j k : Nat), ds[k]? = some 0 → (pr_fs ad f c j ds).set k (.int v) = pr_fs ad (pr_up f c (j + k) v) c j ds
  | [], _, _, h => by simp at h
  | d0 :: ds, j, 0, h => by
    simp at h
    subst h
    have h1 := pr_fs_same ad f (pr_up f c (j + 0) v) c ds (j + 1) (fun k hk => by simp [pr_up]; omega)
    simp only [pr_fs, List.set_cons_zero, h1]
    simp [pr_fv, pr_up]
  | d0 :: ds, j, k + 1, h => by
    have h1 := pr_fs_set ad f c v ds (j + 1) k (by simpa using h)
    rw [show j + 1 + k = j + (k + 1) by omega] at h1
    simp only [pr_fs, List.set_cons_succ, h1]
    congr 1
    have hne : ¬ j = j + (k + 1) := by omega
    simp only [pr_fv, pr_up, hne, and_false, if_false]
/-- the classes of the three kinds of arrays -/
abbrev pr_T : Type := ClassId × ClassId × ClassId
def pr_ce (T : pr_T) (ad : Nat → Nat) (f : pr_M) (k : Nat × Nat) (c : Nat) : va_E :=
  if k.1 < 10 then .inr (k.1, pr_fs ad f c 0 (pr_sh k.1))
  else if k.1 = 10 then .inl (T.1, k.2, .inl (f c))
  else if k.1 = 11 then .inl (T.2.1, k.2, .inl (f c))
  else .inl (T.2.2, k.2, .inr (.inr (.inr (.inr (fun i => some (ad (c + 3 + 9 * i)))))))
theorem pr_ce_same (T : pr_T) (ad : Nat → Nat) {f g : pr_M} (k : Nat × Nat) {c : Nat} (h : g c = f c) : pr_ce T ad g k c = pr_ce T ad f k c := by
  have h1 := pr_fs_same ad f g c (pr_sh k.1) 0 (fun k _ => by rw [h])
  simp only [pr_ce, h, h1]
def pr_me (T : pr_T) (L : List (Nat × Nat)) (ad : Nat → Nat) (f : pr_M) : va_W := (List.range L.length).map (fun c => (ad c, pr_ce T ad f (L.getD c (0, 0)) c))
theorem pr_me_at {T : pr_T} {L : List (Nat × Nat)} {ad : Nat → Nat} {f : pr_M} {R : va_W} {c : Nat} {k : Nat × Nat} (h : L[c]? = some k) : (pr_me T L ad f ++ R)[c]? = some (ad c, pr_ce T ad f k c) := by
  have hl : c < L.length := (List.getElem?_eq_some_iff.mp h).1
  rw [List.getElem?_append_left (by simpa [pr_me] using hl)]
  simp [pr_me, List.getElem?_range hl, List.getD_eq_getElem?_getD, h]
theorem pr_me_set {T : pr_T} {L : List (Nat × Nat)} {ad : Nat → Nat} {f g : pr_M} {R : va_W} {c : Nat} {k : Nat × Nat} (h : L[c]? = some k) (hg : ∀ a, a ≠ c → g a = f a) : (pr_me T L ad f ++ R).set c (ad c, pr_ce T ad g k c) = pr_me T L ad g ++ R := by
  have hl : c < L.length := (List.getElem?_eq_some_iff.mp h).1
  have hlen : c < (pr_me T L ad f ++ R).length := by simp [pr_me]; omega
  apply List.ext_getElem?
  intro i
  by_cases hi : i = c
  · subst hi
    rw [List.getElem?_set_self hlen, pr_me_at h]
  · rw [List.getElem?_set_ne (Ne.symm hi)]
    by_cases hil : i < L.length
    · rw [List.getElem?_append_left (by simpa [pr_me] using hil), List.getElem?_append_left (by simpa [pr_me] using hil)]
      simp [pr_me, List.getElem?_range hil, pr_ce_same T ad _ (hg i hi)]
    · rw [List.getElem?_append_right (by simp [pr_me]; omega), List.getElem?_append_right (by simp [pr_me]; omega)]
      simp [pr_me]
/-- what stays through a walk: launch, classes, layout, addresses, the other cells, the border of the old heap -/
abbrev pr_E : Type := Launch × va_G × pr_T × List (Nat × Nat) × (Nat → Nat) × va_W × Nat
abbrev pr_l (E : pr_E) : Launch := E.1
abbrev pr_D (E : pr_E) : va_G := E.2.1
abbrev pr_t (E : pr_E) : pr_T := E.2.2.1
abbrev pr_L (E : pr_E) : List (Nat × Nat) := E.2.2.2.1
abbrev pr_ad (E : pr_E) : Nat → Nat := E.2.2.2.2.1
abbrev pr_R (E : pr_E) : va_W := E.2.2.2.2.2.1
abbrev pr_B (E : pr_E) : Nat := E.2.2.2.2.2.2
abbrev pr_A (E : pr_E) : Nat → Prop := fun q => pr_B E ≤ q
abbrev pr_m (E : pr_E) (f : pr_M) : va_W := pr_me (pr_t E) (pr_L E) (pr_ad E) f ++ pr_R E
/-- the frame that is walked -/
abbrev pr_Y : Type := Program × Env × State × MethodId × Array Value × List Frame × Method × Code × Nat × Nat × (State → Prop)
abbrev pr_yp (Y : pr_Y) : Program := Y.1
abbrev pr_ye (Y : pr_Y) : Env := Y.2.1
abbrev pr_ys (Y : pr_Y) : State := Y.2.2.1
abbrev pr_ym (Y : pr_Y) : MethodId := Y.2.2.2.1
abbrev pr_ya (Y : pr_Y) : Array Value := Y.2.2.2.2.1
abbrev pr_yb (Y : pr_Y) : List Frame := Y.2.2.2.2.2.1
abbrev pr_yh (Y : pr_Y) : Method := Y.2.2.2.2.2.2.1
abbrev pr_yc (Y : pr_Y) : Code := Y.2.2.2.2.2.2.2.1
abbrev pr_yk (Y : pr_Y) : Nat := Y.2.2.2.2.2.2.2.2.1
abbrev pr_yn (Y : pr_Y) : Nat := Y.2.2.2.2.2.2.2.2.2.1
abbrev pr_yQ (Y : pr_Y) : State → Prop := Y.2.2.2.2.2.2.2.2.2.2
abbrev pr_ty (T : pr_T) : List (ClassId × FieldType) := [(T.1, .int), (T.2.1, .boolean), (T.2.2, .object "PrintRegister$Unit")]
/-- the tables of the class that nobody writes -/
def pr_x0 : List Int32 := [1, 1, 5, 1, 0, 0, 0, 1, 0, 0, -500]
def pr_x1 : List Int32 := [20, 10, 2000, 20, 256, 256, 500, 2000, 256, 30, 500]
def pr_x2 : List Int32 := [5, 3, 200, 4, 128, 16, 5, 300, 64, 8, 0]
def pr_x3 : List Int32 := [5000, 3000, 2000]
def pr_ST : List (String × Nat × List Int32) := [("LEAST_SETTINGS", 11, pr_x0), ("GREATEST_SETTINGS", 11, pr_x1), ("FIRST_SETTINGS", 11, pr_x2), ("MOST_BY_HAND", 3, pr_x3)]
def pr_S (A : Nat → Prop) (U : State) (H : Heap) : Prop := ∀ q ∈ pr_ST, ∃ t : Nat, va_Z "PrintRegister" q.1 "[I" (.ref t) A U H ∧ va_T .int t q.2.1 (fun j => .int (q.2.2.getD j 0)) A U H
theorem pr_S.moved {A : Nat → Prop} {u U : State} {H : Heap} (hvm : u.vm.Alike U.vm) (h : pr_S A u H) : pr_S A U H := fun q hq => by
  obtain ⟨t, h1, h2⟩ := h q hq
  exact ⟨t, h1.moved hvm, h2.moved hvm⟩
theorem pr_S.kept {A : Nat → Prop} {U : State} {H H1 : Heap} (h : pr_S A U H) (hq : ∀ a : Nat, a < H.size → ¬ A a → H1[a]? = H[a]?) : pr_S A U H1 := fun q hm => by
  obtain ⟨t, h1, h2⟩ := h q hm
  exact ⟨t, h1.kept hq, h2.kept hq⟩
def pr_N (U : State) : Prop := ∀ w ∈ pr_NW, va_Nw w U
theorem pr_N.warm {s U : State} (hW : s.WarmedH U.vm) (h : pr_N s) : pr_N U := by
  intro w hw
  have h1 := h w hw
  rcases List.mem_append.mp hw with a | a
  · obtain ⟨q, -, rfl⟩ := List.mem_map.mp a
    exact va_Nw.warmF hW h1
  · obtain ⟨q, -, rfl⟩ := List.mem_map.mp a
    exact va_Nw.warmM hW h1
theorem pr_N.same {s U : State} (hvm : s.vm = U.vm) (h : pr_N s) : pr_N U := by
  intro w hw
  have h1 := h w hw
  rcases List.mem_append.mp hw with a | a
  · obtain ⟨q, -, rfl⟩ := List.mem_map.mp a
    exact va_Nw.same rfl hvm h1
  · obtain ⟨q, -, rfl⟩ := List.mem_map.mp a
    exact va_Nw.same rfl hvm h1
theorem pr_AL_good : pr_AL.all goodWord = true := by decide +kernel
theorem pr_goodIn {c0 w : Cond} (h : w ∈ pr_AL) : GoodIn (c0 :: pr_AL) (w :: pr_AL) := fun x hx => by
  have hm : x ∈ pr_AL := by
    rcases List.mem_cons.mp hx with e | e
    · rw [e]; exact h
    · exact e
  exact ⟨List.mem_cons_of_mem _ hm, good_of_word (List.all_eq_true.mp pr_AL_good x hm)⟩
/-- what holds of a frame throughout -/
def pr_C (E : pr_E) (Y : pr_Y) (Rm : Room) (cc : ByteArray) (own : String) (nL : Nat) (c0 : Cond) : Prop :=
  (pr_yp Y).tables.exec = Jvm.exec ∧ (pr_yc Y).code = cc ∧ (pr_yc Y).maxLocals = nL ∧ (pr_ys Y).vm.findClass own = some (pr_ym Y).cls ∧ (∀ w ∈ c0 :: pr_AL, w.before (pr_ya Y) (pr_ys Y) = true) ∧
  (pr_yh Y).locks = false ∧ va_K (pr_D E) pr_CL (pr_ty (pr_t E)) (pr_ys Y) ∧ (∀ f, va_D (pr_A E) (pr_m E f)) ∧ pr_S (pr_A E) (pr_ys Y) (pr_ys Y).heap ∧ pr_N (pr_ys Y) ∧ pr_B E ≤ (pr_ys Y).heap.size ∧ pr_yk Y ≤ Rm.cells ∧ pr_yn Y ≤ Rm.slots
def pr_W (E : pr_E) (Y : pr_Y) (Rm : Room) (nL : Nat) (f : pr_M) (pc : Nat) (lv : List (Nat × Value)) (st : List Value) : Prop :=
  ∀ (H : Heap) (locs : List Loc) (ls : Array Slot), va_P (pr_D E) pr_CL (pr_m E f) H → va_S (pr_A E) (pr_ys Y).heap H locs → lv_has ls nL lv →
    W (pr_yp Y) (pr_l E) (pr_ye Y) Rm (pr_ys Y) (pr_ym Y) (pr_ya Y) (pr_yb Y) (pr_yh Y) (pr_yc Y) H locs (pr_yk Y) (pr_yn Y) (pr_yQ Y) (F0 (pr_ym Y) pc ls st)
def pr_Po (E : pr_E) (r : Option Value) (f : pr_M) : Array Value → State → Outcome → State → Prop := fun _ st o t => o = .returned r ∧ va_P (pr_D E) pr_CL (pr_m E f) t.heap ∧ va_F (pr_A E) st t
def pr_Pr (E : pr_E) (av : List Value) (f : pr_M) : Array Value → State → Prop := va_Pc av (fun U => pr_B E ≤ U.heap.size ∧ va_P (pr_D E) pr_CL (pr_m E f) U.heap ∧ va_K (pr_D E) pr_CL (pr_ty (pr_t E)) U ∧ pr_S (pr_A E) U U.heap ∧ pr_N U)
/-- a method's contract: from memory f it returns r and leaves memory g -/
def pr_Met (E : pr_E) (y : MethodName) (cc : ByteArray) (nL : Nat) (ret : Option FieldType) (rm : Room) (av : List Value) (f : pr_M) (r : Option Value) (g : pr_M) : Prop :=
  (∀ f, va_D (pr_A E) (pr_m E f)) → Met (pr_l E) y (.code y cc nL ret :: pr_AL) rm (pr_Pr E av f) (pr_Po E r g) 0 0 (pr_A E)
def pr_Z (E : pr_E) (Y : pr_Y) (ret : Option FieldType) (r : Option Value) (f : pr_M) : Prop :=
  (pr_yh Y).sig.returnType = ret ∧ pr_yQ Y = MQ (pr_yb Y) (pr_Po E r f) (pr_ya Y) (pr_ys Y) (pr_yk Y) (pr_yn Y) (pr_A E)
/-- a method's walk, from its entry -/
theorem pr_enter {E : pr_E} {y : MethodName} {cc : ByteArray} {nL : Nat} {ret : Option FieldType} {rm : Room} {av : List Value} {f : pr_M} {r : Option Value} {g : pr_M}
    (hy : plainName y.cls = true) (hn : (lg_sl av).length ≤ nL)
    (body : ∀ Y : pr_Y, pr_C E Y rm cc y.cls nL (.code y cc nL ret) → pr_Z E Y ret r g → pr_W E Y rm nL f 0 (lv_args 0 av) []) : pr_Met E y cc nL ret rm av f r g := by
  intro hD
  refine Met.ofW (cc := cc) (maxL := nL) (ret := ret) hy rfl ?_
  intro p e s m args below meth c s₁ B hml hv
  obtain ⟨rfl, hB, hP, hK, hSt, hN⟩ := hv
  have hl := lv_entry av hn
  rw [lg_entry_eq]
  exact body (p, e, s, m, av.toArray, below, meth, c, 0, 0, MQ below (pr_Po E r g) av.toArray s 0 0 (pr_A E))
    ⟨B.exec, B.bytes, hml, findClass_of_methodNamed B.named, atoms_spec (ws := .code y cc nL ret :: pr_AL) B.pre, B.notSynchronized, hK, hD, hSt, hN, hB, Nat.zero_le _, Nat.zero_le _⟩
    ⟨B.returns, rfl⟩ s.heap [] _ hP va_S.rf hl
end
section
/-! ===== a row an instruction, over the flat memory ===== -/
section RW
variable {E : pr_E} {Y : pr_Y} {Rm : Room} {cc : ByteArray} {own : String} {nL : Nat} {c0 : Cond} {f : pr_M} {pc : Nat} {lv lv' : List (Nat × Value)} {st : List Value}
theorem pr_hts (C : pr_C E Y Rm cc own nL c0) {w : Cond} (h : w ∈ pr_AL) : w.before (pr_ya Y) (pr_ys Y) = true := C.2.2.2.2.1 w (List.mem_cons_of_mem _ h)
theorem pr_nts (C : pr_C E Y Rm cc own nL c0) {w : Cond} (h : w ∈ pr_NW) : va_Nw w (pr_ys Y) := C.2.2.2.2.2.2.2.2.2.1 w h
theorem pr_K (C : pr_C E Y Rm cc own nL c0) : va_K (pr_D E) pr_CL (pr_ty (pr_t E)) (pr_ys Y) := C.2.2.2.2.2.2.1
theorem pr_Ds (C : pr_C E Y Rm cc own nL c0) (f : pr_M) : va_D (pr_A E) (pr_m E f) := C.2.2.2.2.2.2.2.1 f
theorem pr_eq {f g : pr_M} (h : g = f) (k : pr_W E Y Rm nL g pc lv st) : pr_W E Y Rm nL f pc lv st := h ▸ k
theorem pr_eqs {st' : List Value} (h : st' = st) (k : pr_W E Y Rm nL f pc lv st') : pr_W E Y Rm nL f pc lv st := h ▸ k
theorem pr_pick (ks : List Nat) (h : lv_pick lv ks = lv') (k : pr_W E Y Rm nL f pc lv' st) : pr_W E Y Rm nL f pc lv st := fun H locs ls hP hS hl => k H locs ls hP hS (lv_sub hl ks h)

theorem pr_iconst (C : pr_C E Y Rm cc own nL c0) {n : Int} {v : Int32} (hd : decode cc pc = .ok (.iconst n, 1)) (hv : Int32.ofInt n = v) (k : pr_W E Y Rm nL f (pc + 1) lv (.int v :: st)) : pr_W E Y Rm nL f pc lv st := fun H locs ls hP hS hl => lv_iconst C.1 C.2.1 hd hv (k H locs ls hP hS hl)
theorem pr_bipush (C : pr_C E Y Rm cc own nL c0) {n : Int} {v : Int32} (hd : decode cc pc = .ok (.bipush n, 2)) (hv : (Int8.ofInt n).toInt32 = v) (k : pr_W E Y Rm nL f (pc + 2) lv (.int v :: st)) : pr_W E Y Rm nL f pc lv st := fun H locs ls hP hS hl => lv_bipush C.1 C.2.1 hd hv (k H locs ls hP hS hl)
theorem pr_sipush (C : pr_C E Y Rm cc own nL c0) {n : Int} {v : Int32} (hd : decode cc pc = .ok (.sipush n, 3)) (hv : (Int16.ofInt n).toInt32 = v) (k : pr_W E Y Rm nL f (pc + 3) lv (.int v :: st)) : pr_W E Y Rm nL f pc lv st := fun H locs ls hP hS hl => lv_sipush C.1 C.2.1 hd hv (k H locs ls hP hS hl)
theorem pr_lconst (C : pr_C E Y Rm cc own nL c0) {n : Fin 2} {v : Int64} (hd : decode cc pc = .ok (.lconst n, 1)) (hv : Int64.ofNat (n : Nat) = v) (k : pr_W E Y Rm nL f (pc + 1) lv (.long v :: st)) : pr_W E Y Rm nL f pc lv st := fun H locs ls hP hS hl => lv_lconst C.1 C.2.1 hd hv (k H locs ls hP hS hl)
theorem pr_ldc (C : pr_C E Y Rm cc own nL c0) {n : Nat} {v : Int32} (hd : decode cc pc = .ok (.ldc n, 2)) (hw : Cond.constant own n v ∈ pr_AL) (k : pr_W E Y Rm nL f (pc + 2) lv (.int v :: st)) : pr_W E Y Rm nL f pc lv st := fun H locs ls hP hS hl => lv_ldc C.1 C.2.1 C.2.2.2.1 (pr_hts C hw) hd (k H locs ls hP hS hl)
theorem pr_ldc2 (C : pr_C E Y Rm cc own nL c0) {n : Nat} {v : Int64} (hd : decode cc pc = .ok (.ldc2_w n, 3)) (hw : Cond.constantLong own n v ∈ pr_AL) (k : pr_W E Y Rm nL f (pc + 3) lv (.long v :: st)) : pr_W E Y Rm nL f pc lv st := fun H locs ls hP hS hl => lv_ldc2 C.1 C.2.1 C.2.2.2.1 (pr_hts C hw) hd (k H locs ls hP hS hl)
theorem pr_null (C : pr_C E Y Rm cc own nL c0) (hd : decode cc pc = .ok (.aconst_null, 1)) (k : pr_W E Y Rm nL f (pc + 1) lv (.null :: st)) : pr_W E Y Rm nL f pc lv st := fun H locs ls hP hS hl => lv_null C.1 C.2.1 hd (k H locs ls hP hS hl)
theorem pr_iload_n (C : pr_C E Y Rm cc own nL c0) {j : Fin 4} {i : Nat} {x : Int32} (hd : decode cc pc = .ok (.iload_n j, 1)) (hi : (j : Nat) = i) (q : Nat) (hl : lv[q]? = some (i, .int x)) (k : pr_W E Y Rm nL f (pc + 1) lv (.int x :: st)) : pr_W E Y Rm nL f pc lv st := fun H locs ls hP hS h => lv_iload_n C.1 C.2.1 hd hi (lv_at h q hl) (k H locs ls hP hS h)
theorem pr_iload (C : pr_C E Y Rm cc own nL c0) {i : Nat} {x : Int32} (hd : decode cc pc = .ok (.iload i, 2)) (q : Nat) (hl : lv[q]? = some (i, .int x)) (k : pr_W E Y Rm nL f (pc + 2) lv (.int x :: st)) : pr_W E Y Rm nL f pc lv st := fun H locs ls hP hS h => lv_iload C.1 C.2.1 hd (lv_at h q hl) (k H locs ls hP hS h)
theorem pr_istore_n (C : pr_C E Y Rm cc own nL c0) {j : Fin 4} {i : Nat} {x : Int32} (hd : decode cc pc = .ok (.istore_n j, 1)) (hi : (j : Nat) = i) (hn : i < nL) (hl : (i, Value.int x) :: lv.filter (fun q => !(q.1 == i) && !(q.1 + 1 == i && q.2.category == 2)) = lv') (k : pr_W E Y Rm nL f (pc + 1) lv' st) : pr_W E Y Rm nL f pc lv (.int x :: st) := fun H locs ls hP hS h => lv_istore_n C.1 C.2.1 hd hi h hn hl (fun ls h => k H locs ls hP hS h)
theorem pr_istore (C : pr_C E Y Rm cc own nL c0) {i : Nat} {x : Int32} (hd : decode cc pc = .ok (.istore i, 2)) (hn : i < nL) (hl : (i, Value.int x) :: lv.filter (fun q => !(q.1 == i) && !(q.1 + 1 == i && q.2.category == 2)) = lv') (k : pr_W E Y Rm nL f (pc + 2) lv' st) : pr_W E Y Rm nL f pc lv (.int x :: st) := fun H locs ls hP hS h => lv_istore C.1 C.2.1 hd h hn hl (fun ls h => k H locs ls hP hS h)
theorem pr_lload_n (C : pr_C E Y Rm cc own nL c0) {j : Fin 4} {i : Nat} {x : Int64} (hd : decode cc pc = .ok (.lload_n j, 1)) (hi : (j : Nat) = i) (q : Nat) (hl : lv[q]? = some (i, .long x)) (k : pr_W E Y Rm nL f (pc + 1) lv (.long x :: st)) : pr_W E Y Rm nL f pc lv st := fun H locs ls hP hS h => lv_lload_n C.1 C.2.1 hd hi (lv_at h q hl) (k H locs ls hP hS h)
theorem pr_lload (C : pr_C E Y Rm cc own nL c0) {i : Nat} {x : Int64} (hd : decode cc pc = .ok (.lload i, 2)) (q : Nat) (hl : lv[q]? = some (i, .long x)) (k : pr_W E Y Rm nL f (pc + 2) lv (.long x :: st)) : pr_W E Y Rm nL f pc lv st := fun H locs ls hP hS h => lv_lload C.1 C.2.1 hd (lv_at h q hl) (k H locs ls hP hS h)
theorem pr_lstore_n (C : pr_C E Y Rm cc own nL c0) {j : Fin 4} {i : Nat} {x : Int64} (hd : decode cc pc = .ok (.lstore_n j, 1)) (hi : (j : Nat) = i) (hn : i + 1 < nL) (hl : (i, Value.long x) :: lv.filter (fun q => !(q.1 == i) && (!(q.1 == i + 1) && !(q.1 + 1 == i && q.2.category == 2))) = lv') (k : pr_W E Y Rm nL f (pc + 1) lv' st) : pr_W E Y Rm nL f pc lv (.long x :: st) := fun H locs ls hP hS h => lv_lstore_n C.1 C.2.1 hd hi h hn hl (fun ls h => k H locs ls hP hS h)
theorem pr_lstore (C : pr_C E Y Rm cc own nL c0) {i : Nat} {x : Int64} (hd : decode cc pc = .ok (.lstore i, 2)) (hn : i + 1 < nL) (hl : (i, Value.long x) :: lv.filter (fun q => !(q.1 == i) && (!(q.1 == i + 1) && !(q.1 + 1 == i && q.2.category == 2))) = lv') (k : pr_W E Y Rm nL f (pc + 2) lv' st) : pr_W E Y Rm nL f pc lv (.long x :: st) := fun H locs ls hP hS h => lv_lstore C.1 C.2.1 hd h hn hl (fun ls h => k H locs ls hP hS h)
theorem pr_aload_n (C : pr_C E Y Rm cc own nL c0) {j : Fin 4} {i : Nat} {x : Nat} (hd : decode cc pc = .ok (.aload_n j, 1)) (hi : (j : Nat) = i) (q : Nat) (hl : lv[q]? = some (i, .ref x)) (k : pr_W E Y Rm nL f (pc + 1) lv (.ref x :: st)) : pr_W E Y Rm nL f pc lv st := fun H locs ls hP hS h => lv_aload_n C.1 C.2.1 hd hi (lv_at h q hl) (k H locs ls hP hS h)
theorem pr_aload (C : pr_C E Y Rm cc own nL c0) {i : Nat} {x : Nat} (hd : decode cc pc = .ok (.aload i, 2)) (q : Nat) (hl : lv[q]? = some (i, .ref x)) (k : pr_W E Y Rm nL f (pc + 2) lv (.ref x :: st)) : pr_W E Y Rm nL f pc lv st := fun H locs ls hP hS h => lv_aload C.1 C.2.1 hd (lv_at h q hl) (k H locs ls hP hS h)
theorem pr_astore_n (C : pr_C E Y Rm cc own nL c0) {j : Fin 4} {i : Nat} {x : Nat} (hd : decode cc pc = .ok (.astore_n j, 1)) (hi : (j : Nat) = i) (hn : i < nL) (hl : (i, Value.ref x) :: lv.filter (fun q => !(q.1 == i) && !(q.1 + 1 == i && q.2.category == 2)) = lv') (k : pr_W E Y Rm nL f (pc + 1) lv' st) : pr_W E Y Rm nL f pc lv (.ref x :: st) := fun H locs ls hP hS h => lv_astore_n C.1 C.2.1 hd hi h hn hl (fun ls h => k H locs ls hP hS h)
theorem pr_astore (C : pr_C E Y Rm cc own nL c0) {i : Nat} {x : Nat} (hd : decode cc pc = .ok (.astore i, 2)) (hn : i < nL) (hl : (i, Value.ref x) :: lv.filter (fun q => !(q.1 == i) && !(q.1 + 1 == i && q.2.category == 2)) = lv') (k : pr_W E Y Rm nL f (pc + 2) lv' st) : pr_W E Y Rm nL f pc lv (.ref x :: st) := fun H locs ls hP hS h => lv_astore C.1 C.2.1 hd h hn hl (fun ls h => k H locs ls hP hS h)
theorem pr_astore_nN (C : pr_C E Y Rm cc own nL c0) {j : Fin 4} {i : Nat} (hd : decode cc pc = .ok (.astore_n j, 1)) (hi : (j : Nat) = i) (hn : i < nL) (hl : (i, Value.null) :: lv.filter (fun q => !(q.1 == i) && !(q.1 + 1 == i && q.2.category == 2)) = lv') (k : pr_W E Y Rm nL f (pc + 1) lv' st) : pr_W E Y Rm nL f pc lv (.null :: st) := fun H locs ls hP hS h => lv_astore_nN C.1 C.2.1 hd hi h hn hl (fun ls h => k H locs ls hP hS h)
theorem pr_astoreN (C : pr_C E Y Rm cc own nL c0) {i : Nat} (hd : decode cc pc = .ok (.astore i, 2)) (hn : i < nL) (hl : (i, Value.null) :: lv.filter (fun q => !(q.1 == i) && !(q.1 + 1 == i && q.2.category == 2)) = lv') (k : pr_W E Y Rm nL f (pc + 2) lv' st) : pr_W E Y Rm nL f pc lv (.null :: st) := fun H locs ls hP hS h => lv_astoreN C.1 C.2.1 hd h hn hl (fun ls h => k H locs ls hP hS h)
theorem pr_aload_nN (C : pr_C E Y Rm cc own nL c0) {j : Fin 4} {i : Nat} (hd : decode cc pc = .ok (.aload_n j, 1)) (hi : (j : Nat) = i) (q : Nat) (hl : lv[q]? = some (i, .null)) (k : pr_W E Y Rm nL f (pc + 1) lv (.null :: st)) : pr_W E Y Rm nL f pc lv st := fun H locs ls hP hS h => lv_aload_nN C.1 C.2.1 hd hi (lv_at h q hl) (k H locs ls hP hS h)
theorem pr_aloadN (C : pr_C E Y Rm cc own nL c0) {i : Nat} (hd : decode cc pc = .ok (.aload i, 2)) (q : Nat) (hl : lv[q]? = some (i, .null)) (k : pr_W E Y Rm nL f (pc + 2) lv (.null :: st)) : pr_W E Y Rm nL f pc lv st := fun H locs ls hP hS h => lv_aloadN C.1 C.2.1 hd (lv_at h q hl) (k H locs ls hP hS h)
theorem pr_iinc (C : pr_C E Y Rm cc own nL c0) {i : Nat} {n : Int} {x v : Int32} (hd : decode cc pc = .ok (.iinc i n, 3)) (q : Nat) (hq : lv[q]? = some (i, .int x)) (hv : x + Int32.ofInt n = v) (hn : i < nL) (hl : (i, Value.int v) :: lv.filter (fun q => !(q.1 == i) && !(q.1 + 1 == i && q.2.category == 2)) = lv') (k : pr_W E Y Rm nL f (pc + 3) lv' st) : pr_W E Y Rm nL f pc lv st := fun H locs ls hP hS h => lv_iinc C.1 C.2.1 hd h hq hv hn hl (fun ls h => k H locs ls hP hS h)
theorem pr_iadd (C : pr_C E Y Rm cc own nL c0) {x y : Int32} (hd : decode cc pc = .ok (.iadd, 1)) (k : pr_W E Y Rm nL f (pc + 1) lv (.int (x + y) :: st)) : pr_W E Y Rm nL f pc lv (.int y :: .int x :: st) := fun H locs ls hP hS hl => lv_iadd C.1 C.2.1 hd (k H locs ls hP hS hl)
theorem pr_isub (C : pr_C E Y Rm cc own nL c0) {x y : Int32} (hd : decode cc pc = .ok (.isub, 1)) (k : pr_W E Y Rm nL f (pc + 1) lv (.int (x - y) :: st)) : pr_W E Y Rm nL f pc lv (.int y :: .int x :: st) := fun H locs ls hP hS hl => lv_isub C.1 C.2.1 hd (k H locs ls hP hS hl)
theorem pr_imul (C : pr_C E Y Rm cc own nL c0) {x y : Int32} (hd : decode cc pc = .ok (.imul, 1)) (k : pr_W E Y Rm nL f (pc + 1) lv (.int (x * y) :: st)) : pr_W E Y Rm nL f pc lv (.int y :: .int x :: st) := fun H locs ls hP hS hl => lv_imul C.1 C.2.1 hd (k H locs ls hP hS hl)
theorem pr_iand (C : pr_C E Y Rm cc own nL c0) {x y : Int32} (hd : decode cc pc = .ok (.iand, 1)) (k : pr_W E Y Rm nL f (pc + 1) lv (.int (x &&& y) :: st)) : pr_W E Y Rm nL f pc lv (.int y :: .int x :: st) := fun H locs ls hP hS hl => lv_iand C.1 C.2.1 hd (k H locs ls hP hS hl)
theorem pr_ishl (C : pr_C E Y Rm cc own nL c0) {x y : Int32} (hd : decode cc pc = .ok (.ishl, 1)) (k : pr_W E Y Rm nL f (pc + 1) lv (.int (x <<< (y &&& 31)) :: st)) : pr_W E Y Rm nL f pc lv (.int y :: .int x :: st) := fun H locs ls hP hS hl => lv_ishl C.1 C.2.1 hd (k H locs ls hP hS hl)
theorem pr_ishr (C : pr_C E Y Rm cc own nL c0) {x y : Int32} (hd : decode cc pc = .ok (.ishr, 1)) (k : pr_W E Y Rm nL f (pc + 1) lv (.int (x >>> (y &&& 31)) :: st)) : pr_W E Y Rm nL f pc lv (.int y :: .int x :: st) := fun H locs ls hP hS hl => lv_ishr C.1 C.2.1 hd (k H locs ls hP hS hl)
theorem pr_idiv (C : pr_C E Y Rm cc own nL c0) {x y : Int32} (hd : decode cc pc = .ok (.idiv, 1)) (hne : ¬ y = 0) (k : pr_W E Y Rm nL f (pc + 1) lv (.int (x / y) :: st)) : pr_W E Y Rm nL f pc lv (.int y :: .int x :: st) := fun H locs ls hP hS hl => lv_idiv C.1 C.2.1 hd hne (k H locs ls hP hS hl)
theorem pr_irem (C : pr_C E Y Rm cc own nL c0) {x y : Int32} (hd : decode cc pc = .ok (.irem, 1)) (hne : ¬ y = 0) (k : pr_W E Y Rm nL f (pc + 1) lv (.int (x - x / y * y) :: st)) : pr_W E Y Rm nL f pc lv (.int y :: .int x :: st) := fun H locs ls hP hS hl => lv_irem C.1 C.2.1 hd hne (k H locs ls hP hS hl)
theorem pr_ineg (C : pr_C E Y Rm cc own nL c0) {x : Int32} (hd : decode cc pc = .ok (.ineg, 1)) (k : pr_W E Y Rm nL f (pc + 1) lv (.int (-x) :: st)) : pr_W E Y Rm nL f pc lv (.int x :: st) := fun H locs ls hP hS hl => lv_ineg C.1 C.2.1 hd (k H locs ls hP hS hl)
theorem pr_land (C : pr_C E Y Rm cc own nL c0) {x y : Int64} (hd : decode cc pc = .ok (.land, 1)) (k : pr_W E Y Rm nL f (pc + 1) lv (.long (x &&& y) :: st)) : pr_W E Y Rm nL f pc lv (.long y :: .long x :: st) := fun H locs ls hP hS hl => lv_land C.1 C.2.1 hd (k H locs ls hP hS hl)
theorem pr_lor (C : pr_C E Y Rm cc own nL c0) {x y : Int64} (hd : decode cc pc = .ok (.lor, 1)) (k : pr_W E Y Rm nL f (pc + 1) lv (.long (x ||| y) :: st)) : pr_W E Y Rm nL f pc lv (.long y :: .long x :: st) := fun H locs ls hP hS hl => lv_lor C.1 C.2.1 hd (k H locs ls hP hS hl)
theorem pr_lushr (C : pr_C E Y Rm cc own nL c0) {x : Int64} {y : Int32} (hd : decode cc pc = .ok (.lushr, 1)) (k : pr_W E Y Rm nL f (pc + 1) lv (.long ((x.toUInt64 >>> (y.toInt64.toUInt64 &&& Int64.toUInt64 63)).toInt64) :: st)) : pr_W E Y Rm nL f pc lv (.int y :: .long x :: st) := fun H locs ls hP hS hl => lv_lushr C.1 C.2.1 hd rfl (k H locs ls hP hS hl)
theorem pr_lshl (C : pr_C E Y Rm cc own nL c0) {x : Int64} {y : Int32} (hd : decode cc pc = .ok (.lshl, 1)) (k : pr_W E Y Rm nL f (pc + 1) lv (.long (x <<< (y.toInt64 &&& 63)) :: st)) : pr_W E Y Rm nL f pc lv (.int y :: .long x :: st) := fun H locs ls hP hS hl => lv_lshl C.1 C.2.1 hd rfl (k H locs ls hP hS hl)
theorem pr_lshr (C : pr_C E Y Rm cc own nL c0) {x : Int64} {y : Int32} (hd : decode cc pc = .ok (.lshr, 1)) (k : pr_W E Y Rm nL f (pc + 1) lv (.long (x >>> (y.toInt64 &&& 63)) :: st)) : pr_W E Y Rm nL f pc lv (.int y :: .long x :: st) := fun H locs ls hP hS hl => lv_lshr C.1 C.2.1 hd rfl (k H locs ls hP hS hl)
theorem pr_i2l (C : pr_C E Y Rm cc own nL c0) {x : Int32} (hd : decode cc pc = .ok (.i2l, 1)) (k : pr_W E Y Rm nL f (pc + 1) lv (.long x.toInt64 :: st)) : pr_W E Y Rm nL f pc lv (.int x :: st) := fun H locs ls hP hS hl => lv_i2l C.1 C.2.1 hd rfl (k H locs ls hP hS hl)
theorem pr_l2i (C : pr_C E Y Rm cc own nL c0) {x : Int64} (hd : decode cc pc = .ok (.l2i, 1)) (k : pr_W E Y Rm nL f (pc + 1) lv (.int x.toInt32 :: st)) : pr_W E Y Rm nL f pc lv (.long x :: st) := fun H locs ls hP hS hl => lv_l2i C.1 C.2.1 hd rfl (k H locs ls hP hS hl)
theorem pr_dup (C : pr_C E Y Rm cc own nL c0) {v : Value} (hd : decode cc pc = .ok (.dup, 1)) (hv : v.category = 1) (k : pr_W E Y Rm nL f (pc + 1) lv (v :: v :: st)) : pr_W E Y Rm nL f pc lv (v :: st) := fun H locs ls hP hS hl => lv_dup C.1 C.2.1 hd hv (k H locs ls hP hS hl)
theorem pr_dup2 (C : pr_C E Y Rm cc own nL c0) {v w : Value} (hd : decode cc pc = .ok (.dup2, 1)) (hv : v.category = 1) (hw : w.category = 1) (k : pr_W E Y Rm nL f (pc + 1) lv (v :: w :: v :: w :: st)) : pr_W E Y Rm nL f pc lv (v :: w :: st) := fun H locs ls hP hS hl => lv_dup2_11 C.1 C.2.1 hd hv hw (k H locs ls hP hS hl)
theorem pr_pop (C : pr_C E Y Rm cc own nL c0) {v : Value} (hd : decode cc pc = .ok (.pop, 1)) (hv : v.category = 1) (k : pr_W E Y Rm nL f (pc + 1) lv st) : pr_W E Y Rm nL f pc lv (v :: st) := fun H locs ls hP hS hl => lv_pop C.1 C.2.1 hd hv (k H locs ls hP hS hl)
theorem pr_goto (C : pr_C E Y Rm cc own nL c0) {off : Int} {tgt : Nat} (hd : decode cc pc = .ok (.goto off, 3)) (ht : (pc : Int) + off = (tgt : Int)) (k : pr_W E Y Rm nL f tgt lv st) : pr_W E Y Rm nL f pc lv st := fun H locs ls hP hS hl => lv_goto C.1 C.2.1 hd ht (k H locs ls hP hS hl)
theorem pr_if_eq (C : pr_C E Y Rm cc own nL c0) {x : Int32} {off : Int} {tgt : Nat} (hd : decode cc pc = .ok (.ifCond .eq off, 3)) (ht : (pc : Int) + off = (tgt : Int)) (kt : x = 0 → pr_W E Y Rm nL f tgt lv st) (kf : ¬ x = 0 → pr_W E Y Rm nL f (pc + 3) lv st) : pr_W E Y Rm nL f pc lv (.int x :: st) := fun H locs ls hP hS hl => lv_if_eq C.1 C.2.1 hd ht (fun c => kt c H locs ls hP hS hl) (fun c => kf c H locs ls hP hS hl)
theorem pr_if_ne (C : pr_C E Y Rm cc own nL c0) {x : Int32} {off : Int} {tgt : Nat} (hd : decode cc pc = .ok (.ifCond .ne off, 3)) (ht : (pc : Int) + off = (tgt : Int)) (kt : ¬ x = 0 → pr_W E Y Rm nL f tgt lv st) (kf : x = 0 → pr_W E Y Rm nL f (pc + 3) lv st) : pr_W E Y Rm nL f pc lv (.int x :: st) := fun H locs ls hP hS hl => lv_if_ne C.1 C.2.1 hd ht (fun c => kt c H locs ls hP hS hl) (fun c => kf c H locs ls hP hS hl)
theorem pr_if_lt (C : pr_C E Y Rm cc own nL c0) {x : Int32} {off : Int} {tgt : Nat} (hd : decode cc pc = .ok (.ifCond .lt off, 3)) (ht : (pc : Int) + off = (tgt : Int)) (kt : x < 0 → pr_W E Y Rm nL f tgt lv st) (kf : ¬ x < 0 → pr_W E Y Rm nL f (pc + 3) lv st) : pr_W E Y Rm nL f pc lv (.int x :: st) := fun H locs ls hP hS hl => lv_if_lt C.1 C.2.1 hd ht (fun c => kt c H locs ls hP hS hl) (fun c => kf c H locs ls hP hS hl)
theorem pr_if_ge (C : pr_C E Y Rm cc own nL c0) {x : Int32} {off : Int} {tgt : Nat} (hd : decode cc pc = .ok (.ifCond .ge off, 3)) (ht : (pc : Int) + off = (tgt : Int)) (kt : 0 ≤ x → pr_W E Y Rm nL f tgt lv st) (kf : ¬ 0 ≤ x → pr_W E Y Rm nL f (pc + 3) lv st) : pr_W E Y Rm nL f pc lv (.int x :: st) := fun H locs ls hP hS hl => lv_if_ge C.1 C.2.1 hd ht (fun c => kt c H locs ls hP hS hl) (fun c => kf c H locs ls hP hS hl)
theorem pr_if_gt (C : pr_C E Y Rm cc own nL c0) {x : Int32} {off : Int} {tgt : Nat} (hd : decode cc pc = .ok (.ifCond .gt off, 3)) (ht : (pc : Int) + off = (tgt : Int)) (kt : 0 < x → pr_W E Y Rm nL f tgt lv st) (kf : ¬ 0 < x → pr_W E Y Rm nL f (pc + 3) lv st) : pr_W E Y Rm nL f pc lv (.int x :: st) := fun H locs ls hP hS hl => lv_if_gt C.1 C.2.1 hd ht (fun c => kt c H locs ls hP hS hl) (fun c => kf c H locs ls hP hS hl)
theorem pr_if_le (C : pr_C E Y Rm cc own nL c0) {x : Int32} {off : Int} {tgt : Nat} (hd : decode cc pc = .ok (.ifCond .le off, 3)) (ht : (pc : Int) + off = (tgt : Int)) (kt : x ≤ 0 → pr_W E Y Rm nL f tgt lv st) (kf : ¬ x ≤ 0 → pr_W E Y Rm nL f (pc + 3) lv st) : pr_W E Y Rm nL f pc lv (.int x :: st) := fun H locs ls hP hS hl => lv_if_le C.1 C.2.1 hd ht (fun c => kt c H locs ls hP hS hl) (fun c => kf c H locs ls hP hS hl)
theorem pr_icmp_eq (C : pr_C E Y Rm cc own nL c0) {x y : Int32} {off : Int} {tgt : Nat} (hd : decode cc pc = .ok (.if_icmp .eq off, 3)) (ht : (pc : Int) + off = (tgt : Int)) (kt : x = y → pr_W E Y Rm nL f tgt lv st) (kf : ¬ x = y → pr_W E Y Rm nL f (pc + 3) lv st) : pr_W E Y Rm nL f pc lv (.int y :: .int x :: st) := fun H locs ls hP hS hl => lv_icmp_eq C.1 C.2.1 hd ht (fun c => kt c H locs ls hP hS hl) (fun c => kf c H locs ls hP hS hl)
theorem pr_icmp_ne (C : pr_C E Y Rm cc own nL c0) {x y : Int32} {off : Int} {tgt : Nat} (hd : decode cc pc = .ok (.if_icmp .ne off, 3)) (ht : (pc : Int) + off = (tgt : Int)) (kt : ¬ x = y → pr_W E Y Rm nL f tgt lv st) (kf : x = y → pr_W E Y Rm nL f (pc + 3) lv st) : pr_W E Y Rm nL f pc lv (.int y :: .int x :: st) := fun H locs ls hP hS hl => lv_icmp_ne C.1 C.2.1 hd ht (fun c => kt c H locs ls hP hS hl) (fun c => kf c H locs ls hP hS hl)
theorem pr_icmp_lt (C : pr_C E Y Rm cc own nL c0) {x y : Int32} {off : Int} {tgt : Nat} (hd : decode cc pc = .ok (.if_icmp .lt off, 3)) (ht : (pc : Int) + off = (tgt : Int)) (kt : x < y → pr_W E Y Rm nL f tgt lv st) (kf : ¬ x < y → pr_W E Y Rm nL f (pc + 3) lv st) : pr_W E Y Rm nL f pc lv (.int y :: .int x :: st) := fun H locs ls hP hS hl => lv_icmp_lt C.1 C.2.1 hd ht (fun c => kt c H locs ls hP hS hl) (fun c => kf c H locs ls hP hS hl)
theorem pr_icmp_ge (C : pr_C E Y Rm cc own nL c0) {x y : Int32} {off : Int} {tgt : Nat} (hd : decode cc pc = .ok (.if_icmp .ge off, 3)) (ht : (pc : Int) + off = (tgt : Int)) (kt : y ≤ x → pr_W E Y Rm nL f tgt lv st) (kf : ¬ y ≤ x → pr_W E Y Rm nL f (pc + 3) lv st) : pr_W E Y Rm nL f pc lv (.int y :: .int x :: st) := fun H locs ls hP hS hl => lv_icmp_ge C.1 C.2.1 hd ht (fun c => kt c H locs ls hP hS hl) (fun c => kf c H locs ls hP hS hl)
theorem pr_icmp_gt (C : pr_C E Y Rm cc own nL c0) {x y : Int32} {off : Int} {tgt : Nat} (hd : decode cc pc = .ok (.if_icmp .gt off, 3)) (ht : (pc : Int) + off = (tgt : Int)) (kt : y < x → pr_W E Y Rm nL f tgt lv st) (kf : ¬ y < x → pr_W E Y Rm nL f (pc + 3) lv st) : pr_W E Y Rm nL f pc lv (.int y :: .int x :: st) := fun H locs ls hP hS hl => lv_icmp_gt C.1 C.2.1 hd ht (fun c => kt c H locs ls hP hS hl) (fun c => kf c H locs ls hP hS hl)
theorem pr_icmp_le (C : pr_C E Y Rm cc own nL c0) {x y : Int32} {off : Int} {tgt : Nat} (hd : decode cc pc = .ok (.if_icmp .le off, 3)) (ht : (pc : Int) + off = (tgt : Int)) (kt : x ≤ y → pr_W E Y Rm nL f tgt lv st) (kf : ¬ x ≤ y → pr_W E Y Rm nL f (pc + 3) lv st) : pr_W E Y Rm nL f pc lv (.int y :: .int x :: st) := fun H locs ls hP hS hl => lv_icmp_le C.1 C.2.1 hd ht (fun c => kt c H locs ls hP hS hl) (fun c => kf c H locs ls hP hS hl)
theorem pr_ifnonnull (C : pr_C E Y Rm cc own nL c0) {x : Nat} {off : Int} {tgt : Nat} (hd : decode cc pc = .ok (.ifnonnull off, 3)) (ht : (pc : Int) + off = (tgt : Int)) (k : pr_W E Y Rm nL f tgt lv st) : pr_W E Y Rm nL f pc lv (.ref x :: st) := fun H locs ls hP hS hl => lv_ifnonnull C.1 C.2.1 hd ht (k H locs ls hP hS hl)
theorem pr_ifnull (C : pr_C E Y Rm cc own nL c0) {x : Nat} {off : Int} (hd : decode cc pc = .ok (.ifnull off, 3)) (k : pr_W E Y Rm nL f (pc + 3) lv st) : pr_W E Y Rm nL f pc lv (.ref x :: st) := fun H locs ls hP hS hl => lv_ifnull C.1 C.2.1 hd (k H locs ls hP hS hl)
theorem pr_ifnullN (C : pr_C E Y Rm cc own nL c0) {off : Int} {tgt : Nat} (hd : decode cc pc = .ok (.ifnull off, 3)) (ht : (pc : Int) + off = (tgt : Int)) (k : pr_W E Y Rm nL f tgt lv st) : pr_W E Y Rm nL f pc lv (.null :: st) := fun H locs ls hP hS hl => lv_ifnullN C.1 C.2.1 hd ht (k H locs ls hP hS hl)
theorem pr_ifnonnullN (C : pr_C E Y Rm cc own nL c0) {off : Int} (hd : decode cc pc = .ok (.ifnonnull off, 3)) (k : pr_W E Y Rm nL f (pc + 3) lv st) : pr_W E Y Rm nL f pc lv (.null :: st) := fun H locs ls hP hS hl => lv_ifnonnullN C.1 C.2.1 hd (k H locs ls hP hS hl)
theorem pr_lcmp (C : pr_C E Y Rm cc own nL c0) {x y : Int64} (hd : decode cc pc = .ok (.lcmp, 1)) (k : pr_W E Y Rm nL f (pc + 1) lv (.int (lg_cmp x y) :: st)) : pr_W E Y Rm nL f pc lv (.long y :: .long x :: st) := fun H locs ls hP hS hl => W.lcmp C.1 C.2.1 hd (k H locs ls hP hS hl)
theorem pr_tableIn (C : pr_C E Y Rm cc own nL c0) {dflt lo hi : Int} {offs : Array Int} {len : Nat} {x v : Int32} {off : Int} {tgt : Nat} (hd : decode cc pc = .ok (.tableswitch dflt lo hi offs, len)) (hx : x = v) (h1 : ¬ v.toInt < lo) (h2 : ¬ hi < v.toInt) (ho : offs[(v.toInt - lo).toNat]? = some off) (ht : (pc : Int) + off = (tgt : Int)) (k : pr_W E Y Rm nL f tgt lv st) : pr_W E Y Rm nL f pc lv (.int x :: st) := by
  subst hx
  exact fun H locs ls hP hS hl => lv_tableIn C.1 C.2.1 hd h1 h2 ho ht (k H locs ls hP hS hl)
theorem pr_tableOut (C : pr_C E Y Rm cc own nL c0) {dflt lo hi : Int} {offs : Array Int} {len : Nat} {x : Int32} {tgt : Nat} (hd : decode cc pc = .ok (.tableswitch dflt lo hi offs, len)) (h : x.toInt < lo ∨ hi < x.toInt) (ht : (pc : Int) + dflt = (tgt : Int)) (k : pr_W E Y Rm nL f tgt lv st) : pr_W E Y Rm nL f pc lv (.int x :: st) := fun H locs ls hP hS hl => lv_tableOut C.1 C.2.1 hd h ht (k H locs ls hP hS hl)
theorem pr_lookup (C : pr_C E Y Rm cc own nL c0) {dflt : Int} {ps : Array (Int × Int)} {len : Nat} {x v : Int32} {off : Int} {tgt : Nat} (hd : decode cc pc = .ok (.lookupswitch dflt ps, len)) (hx : x = v) (hp : (ps.toList.zip (ps.toList.drop 1)).all (fun (a, next) => a.1 < next.1) = true) (ho : Op.lookupswitch.offset ps.toList dflt v.toInt = off) (ht : (pc : Int) + off = (tgt : Int)) (k : pr_W E Y Rm nL f tgt lv st) : pr_W E Y Rm nL f pc lv (.int x :: st) := by
  subst hx
  exact fun H locs ls hP hS hl => lv_lookup C.1 C.2.1 hd hp ho ht (k H locs ls hP hS hl)
theorem pr_getf (C : pr_C E Y Rm cc own nL c0) {ci N c z : Nat} {Cn : String} {T : u_T} (hk : (pr_L E)[c]? = some (ci, z)) (hci : ci < 10) (hcl : pr_CL[ci]? = some (Cn, T, N)) (hin : ∀ w ∈ u_ws Cn T N, w ∈ pr_AL) (j : Nat) (hj : j < N) {idx d : Nat} (hw : Cond.fieldLink own idx (T j).1 (T j).2.1 (T j).2.2.1 ∈ pr_AL) (hd : (pr_sh ci)[j]? = some d) (hdg : decode cc pc = .ok (.getfield idx, 3)) (k : pr_W E Y Rm nL f (pc + 3) lv (pr_fv (pr_ad E) f c j d :: st)) : pr_W E Y Rm nL f pc lv (.ref (pr_ad E c) :: st) := fun H locs ls hP hS hl =>
  va_get (D := pr_D E) (ci := ci) (fs := pr_fs (pr_ad E) f c 0 (pr_sh ci)) C.1 C.2.1 (Ts := c0 :: pr_AL) C.2.2.2.2.1 (fun w h => List.mem_cons_of_mem _ (hin w h)) C.2.2.2.1 (pr_K C) hP c (by rw [pr_me_at hk]; simp [pr_ce, hci]) hcl j hj (pr_hts C hw) (fun _ h => h) (by rw [pr_fs_get _ _ _ _ _ _ _ hd, Nat.zero_add]) hdg (k H locs ls hP hS hl)
theorem pr_getN (C : pr_C E Y Rm cc own nL c0) {ci N c z : Nat} {Cn : String} {T : u_T} (hk : (pr_L E)[c]? = some (ci, z)) (hci : ci < 10) (hcl : pr_CL[ci]? = some (Cn, T, N)) (hin : ∀ w ∈ u_ws Cn T N, w ∈ pr_AL) (j : Nat) (hj : j < N) {idx d : Nat} (hw : Cond.fieldLinkNest own idx (T j).1 (T j).2.1 (T j).2.2.1 "PrintRegister" ∈ pr_NW) (hd : (pr_sh ci)[j]? = some d) (hdg : decode cc pc = .ok (.getfield idx, 3)) (k : pr_W E Y Rm nL f (pc + 3) lv (pr_fv (pr_ad E) f c j d :: st)) : pr_W E Y Rm nL f pc lv (.ref (pr_ad E c) :: st) := fun H locs ls hP hS hl =>
  va_getN (D := pr_D E) (ci := ci) (fs := pr_fs (pr_ad E) f c 0 (pr_sh ci)) C.1 C.2.1 (Ts := c0 :: pr_AL) C.2.2.2.2.1 (fun w h => List.mem_cons_of_mem _ (hin w h)) C.2.2.2.1 (pr_K C) hP c (by rw [pr_me_at hk]; simp [pr_ce, hci]) hcl j hj (va_Nw.use rfl (pr_nts C hw)) (fun _ h => h) (by rw [pr_fs_get _ _ _ _ _ _ _ hd, Nat.zero_add]) hdg (k H locs ls hP hS hl)
theorem pr_set_o {ci c z j : Nat} {v : Int32} (hk : (pr_L E)[c]? = some (ci, z)) (hci : ci < 10) (hd : (pr_sh ci)[j]? = some 0) : (pr_m E f).set c (pr_ad E c, .inr (ci, (pr_fs (pr_ad E) f c 0 (pr_sh ci)).set j (.int v))) = pr_m E (pr_up f c j v) := by
  rw [pr_fs_set _ _ _ _ _ _ _ hd, Nat.zero_add]
  have h := pr_me_set (T := pr_t E) (ad := pr_ad E) (R := pr_R E) (f := f) (g := pr_up f c j v) hk (fun a h => pr_up_ne h)
  simp only [pr_ce, hci, if_true] at h
  exact h
theorem pr_putf (C : pr_C E Y Rm cc own nL c0) {ci N c z : Nat} {Cn : String} {T : u_T} (hk : (pr_L E)[c]? = some (ci, z)) (hci : ci < 10) (hcl : pr_CL[ci]? = some (Cn, T, N)) (hin : ∀ w ∈ u_ws Cn T N, w ∈ pr_AL) (ty0 : Nat → FieldType) (hty : ∀ k, k < N → parseFieldDescriptor (T k).2.2.1 = some (ty0 k)) (hnm : ∀ a, a < N → ∀ b, b < N → a ≠ b → (T a).2.1 ≠ (T b).2.1) (j : Nat) (hj : j < N) {idx : Nat} (hw : Cond.fieldLink own idx (T j).1 (T j).2.1 (T j).2.2.1 ∈ pr_AL) (hd : (pr_sh ci)[j]? = some 0) (hfin : (T j).2.2.2 = false) {v : Int32} (hn : narrow (ty0 j) (.int v) = .int v) (hfit : fits (ty0 j) (.int v) = true) (hdg : decode cc pc = .ok (.putfield idx, 3)) (k : ∀ g, g = pr_up f c j v → pr_W E Y Rm nL g (pc + 3) lv st) : pr_W E Y Rm nL f pc lv (.int v :: .ref (pr_ad E c) :: st) := fun H locs ls hP hS hl =>
  va_put (D := pr_D E) (ci := ci) (fs := pr_fs (pr_ad E) f c 0 (pr_sh ci)) C.1 C.2.1 (Ts := c0 :: pr_AL) C.2.2.2.2.1 (fun w h => List.mem_cons_of_mem _ (hin w h)) ty0 hty hnm C.2.2.2.1 (pr_K C) hP (pr_Ds C f) hS c (by rw [pr_me_at hk]; simp [pr_ce, hci]) hcl j hj (pr_hts C hw) (fun _ h => h) hfin (hty j hj) hn hfit (by rw [pr_fs_len]; exact (List.getElem?_eq_some_iff.mp hd).1) hdg (fun H1 locs1 hP1 _ hS1 => k _ rfl H1 locs1 ls (by rw [← pr_set_o hk hci hd]; exact hP1) hS1 hl)
theorem pr_putN (C : pr_C E Y Rm cc own nL c0) {ci N c z : Nat} {Cn : String} {T : u_T} (hk : (pr_L E)[c]? = some (ci, z)) (hci : ci < 10) (hcl : pr_CL[ci]? = some (Cn, T, N)) (hin : ∀ w ∈ u_ws Cn T N, w ∈ pr_AL) (ty0 : Nat → FieldType) (hty : ∀ k, k < N → parseFieldDescriptor (T k).2.2.1 = some (ty0 k)) (hnm : ∀ a, a < N → ∀ b, b < N → a ≠ b → (T a).2.1 ≠ (T b).2.1) (j : Nat) (hj : j < N) {idx : Nat} (hw : Cond.fieldLinkNest own idx (T j).1 (T j).2.1 (T j).2.2.1 "PrintRegister" ∈ pr_NW) (hd : (pr_sh ci)[j]? = some 0) (hfin : (T j).2.2.2 = false) {v : Int32} (hn : narrow (ty0 j) (.int v) = .int v) (hfit : fits (ty0 j) (.int v) = true) (hdg : decode cc pc = .ok (.putfield idx, 3)) (k : ∀ g, g = pr_up f c j v → pr_W E Y Rm nL g (pc + 3) lv st) : pr_W E Y Rm nL f pc lv (.int v :: .ref (pr_ad E c) :: st) := fun H locs ls hP hS hl =>
  va_putN (D := pr_D E) (ci := ci) (fs := pr_fs (pr_ad E) f c 0 (pr_sh ci)) C.1 C.2.1 (Ts := c0 :: pr_AL) C.2.2.2.2.1 (fun w h => List.mem_cons_of_mem _ (hin w h)) ty0 hty hnm C.2.2.2.1 (pr_K C) hP (pr_Ds C f) hS c (by rw [pr_me_at hk]; simp [pr_ce, hci]) hcl j hj (va_Nw.use rfl (pr_nts C hw)) (fun _ h => h) hfin (hty j hj) hn hfit (by rw [pr_fs_len]; exact (List.getElem?_eq_some_iff.mp hd).1) hdg (fun H1 locs1 hP1 _ hS1 => k _ rfl H1 locs1 ls (by rw [← pr_set_o hk hci hd]; exact hP1) hS1 hl)
theorem pr_at_i {c z : Nat} (hk : (pr_L E)[c]? = some (10, z)) : (pr_m E f)[c]? = some (pr_ad E c, .inl ((pr_t E).1, z, .inl (f c))) := by rw [pr_me_at hk]; simp [pr_ce]
theorem pr_at_z {c z : Nat} (hk : (pr_L E)[c]? = some (11, z)) : (pr_m E f)[c]? = some (pr_ad E c, .inl ((pr_t E).2.1, z, .inl (f c))) := by rw [pr_me_at hk]; simp [pr_ce]
theorem pr_at_u {c z : Nat} (hk : (pr_L E)[c]? = some (12, z)) : (pr_m E f)[c]? = some (pr_ad E c, .inl ((pr_t E).2.2, z, .inr (.inr (.inr (.inr (fun i => some (pr_ad E (c + 3 + 9 * i)))))))) := by rw [pr_me_at hk]; simp [pr_ce]
theorem pr_set_i {c z j : Nat} {v : Int32} (hk : (pr_L E)[c]? = some (10, z)) : (pr_m E f).set c (pr_ad E c, .inl ((pr_t E).1, z, .inl (upd (f c) j v))) = pr_m E (pr_up f c j v) := by
  have h := pr_me_set (T := pr_t E) (ad := pr_ad E) (R := pr_R E) (f := f) (g := pr_up f c j v) hk (fun a h => pr_up_ne h)
  simp only [pr_ce, pr_up_eq] at h
  exact h
theorem pr_set_z {c z j : Nat} {v : Int32} (hk : (pr_L E)[c]? = some (11, z)) : (pr_m E f).set c (pr_ad E c, .inl ((pr_t E).2.1, z, .inl (upd (f c) j v))) = pr_m E (pr_up f c j v) := by
  have h := pr_me_set (T := pr_t E) (ad := pr_ad E) (R := pr_R E) (f := f) (g := pr_up f c j v) hk (fun a h => pr_up_ne h)
  simp only [pr_ce, pr_up_eq] at h
  exact h
theorem pr_set_r {c z : Nat} {g : Nat → Int32} (hk : (pr_L E)[c]? = some (10, z)) : (pr_m E f).set c (pr_ad E c, .inl ((pr_t E).1, z, .inl g)) = pr_m E (pr_rw f c g) := by
  have h := pr_me_set (T := pr_t E) (ad := pr_ad E) (R := pr_R E) (f := f) (g := pr_rw f c g) hk (fun a h => pr_rw_ne h)
  simp only [pr_ce, pr_rw_eq] at h
  exact h
theorem pr_iaload (C : pr_C E Y Rm cc own nL c0) {c z : Nat} {i : Int32} (hk : (pr_L E)[c]? = some (10, z)) (hin : vp_in i z) (hdg : decode cc pc = .ok (.iaload, 1)) (k : pr_W E Y Rm nL f (pc + 1) lv (.int (f c i.toNatClampNeg) :: st)) : pr_W E Y Rm nL f pc lv (.int i :: .ref (pr_ad E c) :: st) := fun H locs ls hP hS hl =>
  va_iald C.1 C.2.1 (pr_K C) hP c 0 (pr_at_i hk) rfl hin hdg (k H locs ls hP hS hl)
theorem pr_iastore (C : pr_C E Y Rm cc own nL c0) {c z : Nat} {i v : Int32} (hk : (pr_L E)[c]? = some (10, z)) (hin : vp_in i z) (hdg : decode cc pc = .ok (.iastore, 1)) (k : ∀ g, g = pr_up f c i.toNatClampNeg v → pr_W E Y Rm nL g (pc + 1) lv st) : pr_W E Y Rm nL f pc lv (.int v :: .int i :: .ref (pr_ad E c) :: st) := fun H locs ls hP hS hl =>
  va_iast C.1 C.2.1 (pr_K C) hP (pr_Ds C f) hS c 0 (pr_at_i hk) rfl hin hdg (fun H1 locs1 hP1 _ hS1 => k _ rfl H1 locs1 ls (by rw [← pr_set_i hk]; exact hP1) hS1 hl)
theorem pr_zaload (C : pr_C E Y Rm cc own nL c0) {c z : Nat} {i : Int32} (hk : (pr_L E)[c]? = some (11, z)) (hin : vp_in i z) (hdg : decode cc pc = .ok (.baload, 1)) (k : pr_W E Y Rm nL f (pc + 1) lv (.int (f c i.toNatClampNeg) :: st)) : pr_W E Y Rm nL f pc lv (.int i :: .ref (pr_ad E c) :: st) := fun H locs ls hP hS hl =>
  va_zald C.1 C.2.1 (pr_K C) hP c 1 (pr_at_z hk) rfl hin hdg (k H locs ls hP hS hl)
theorem pr_zastore (C : pr_C E Y Rm cc own nL c0) {c z : Nat} {i v : Int32} (hk : (pr_L E)[c]? = some (11, z)) (hin : vp_in i z) (hv : vp_nar .boolean v = v) (hdg : decode cc pc = .ok (.bastore, 1)) (k : ∀ g, g = pr_up f c i.toNatClampNeg v → pr_W E Y Rm nL g (pc + 1) lv st) : pr_W E Y Rm nL f pc lv (.int v :: .int i :: .ref (pr_ad E c) :: st) := fun H locs ls hP hS hl =>
  va_zast C.1 C.2.1 (pr_K C) hP (pr_Ds C f) hS c 1 (pr_at_z hk) rfl hin hdg (fun H1 locs1 hP1 _ hS1 => k _ rfl H1 locs1 ls (by rw [← pr_set_z hk]; rw [hv] at hP1; exact hP1) hS1 hl)
theorem pr_aaload (C : pr_C E Y Rm cc own nL c0) {c z : Nat} {i : Int32} (hk : (pr_L E)[c]? = some (12, z)) (hin : vp_in i z) (hdg : decode cc pc = .ok (.aaload, 1)) (k : pr_W E Y Rm nL f (pc + 1) lv (.ref (pr_ad E (c + 3 + 9 * i.toNatClampNeg)) :: st)) : pr_W E Y Rm nL f pc lv (.int i :: .ref (pr_ad E c) :: st) := fun H locs ls hP hS hl =>
  va_aldq C.1 C.2.1 (pr_K C) hP c 2 (pr_at_u hk) rfl hin hdg (k H locs ls hP hS hl)
theorem pr_cell_lt {c : Nat} {k : Nat × Nat} {H : Heap} (hP : va_P (pr_D E) pr_CL (pr_m E f) H) (hk : (pr_L E)[c]? = some k) : pr_ad E c < H.size := (hP c _ (pr_me_at hk)).lt
theorem pr_copy (C : pr_C E Y Rm cc own nL c0) {a b z1 z2 idx : Nat} {sp dp n : Int32} (ha : (pr_L E)[a]? = some (10, z1)) (hb : (pr_L E)[b]? = some (10, z2)) (w1 : Cond.methodLink own idx arraycopyName ∈ pr_AL) (w2 : Cond.native arraycopyName ∈ pr_AL) (w3 : Cond.static arraycopyName ∈ pr_AL) (w4 : Cond.initialized "java/lang/System" ∈ pr_AL)
    (h1 : ¬ sp < 0) (h2 : ¬ dp < 0) (h3 : ¬ n < 0) (h4 : sp.toNatClampNeg + n.toNatClampNeg ≤ z1) (h5 : dp.toNatClampNeg + n.toNatClampNeg ≤ z2) (hfr : 1 ≤ Rm.frames) (hlo : (st.map fun v => v.category).sum + (nativeFrameWords "java/lang/System" "arraycopy" 5 + 11) ≤ Rm.locals) (hdg : decode cc pc = .ok (.invokestatic idx, 3))
    (k : ∀ g, g = pr_rw f b (va_cpy (f a) (f b) sp.toNatClampNeg dp.toNatClampNeg n.toNatClampNeg) → pr_W E Y Rm nL g (pc + 3) lv st) : pr_W E Y Rm nL f pc lv (.int n :: .int dp :: .ref (pr_ad E b) :: .int sp :: .ref (pr_ad E a) :: st) := fun H locs ls hP hS hl =>
  va_copyi C.1 C.2.1 (by rw [C.2.2.1]; exact hl.1.symm) C.2.2.2.1 (pr_hts C w1) (pr_hts C w2) (pr_hts C w3) (pr_hts C w4) (pr_K C) hP (pr_Ds C f) hS a b 0 0 (pr_at_i ha) (pr_at_i hb) rfl rfl rfl h1 h2 h3 h4 h5 (fun _ _ => rfl) hfr hlo hdg (fun H1 locs1 hP1 _ hS1 => k _ rfl H1 locs1 ls (by rw [← pr_set_r hb]; exact hP1) hS1 hl)
theorem pr_mabs (C : pr_C E Y Rm cc own nL c0) {x y : Int32} {idx : Nat} (w1 : Cond.methodLink own idx Lib.Math.abs.name ∈ pr_AL) (w2 : Cond.static Lib.Math.abs.name ∈ pr_AL) (w3 : Cond.initialized "java/lang/Math" ∈ pr_AL) (w4 : Cond.code Lib.Math.abs.name Lib.Math.abs.code 1 (some .int) ∈ pr_AL) (hfr : 1 ≤ Rm.frames) (hlo : (st.map fun v => v.category).sum + 13 ≤ Rm.locals) (hdg : decode cc pc = .ok (.invokestatic idx, 3)) (k : pr_W E Y Rm nL f (pc + 3) lv (.int (if 0 ≤ x then x else 0 - x) :: st)) : pr_W E Y Rm nL f pc lv (.int x :: st) := fun H locs ls hP hS hl =>
  va_mabs C.1 C.2.1 (by rw [C.2.2.1]; exact hl.1.symm) C.2.2.2.1 (pr_hts C w1) (pr_hts C w2) (pr_hts C w3) (pr_hts C w4) hfr hlo C.2.2.2.2.2.2.2.2.2.2.2.1 C.2.2.2.2.2.2.2.2.2.2.2.2 hdg (k H locs ls hP hS hl)
theorem pr_mmax (C : pr_C E Y Rm cc own nL c0) {x y : Int32} {idx : Nat} (w1 : Cond.methodLink own idx Lib.Math.max.name ∈ pr_AL) (w2 : Cond.static Lib.Math.max.name ∈ pr_AL) (w3 : Cond.initialized "java/lang/Math" ∈ pr_AL) (w4 : Cond.code Lib.Math.max.name Lib.Math.max.code 2 (some .int) ∈ pr_AL) (hfr : 1 ≤ Rm.frames) (hlo : (st.map fun v => v.category).sum + 13 ≤ Rm.locals) (hdg : decode cc pc = .ok (.invokestatic idx, 3)) (k : pr_W E Y Rm nL f (pc + 3) lv (.int (if x < y then y else x) :: st)) : pr_W E Y Rm nL f pc lv (.int y :: .int x :: st) := fun H locs ls hP hS hl =>
  va_mmax C.1 C.2.1 (by rw [C.2.2.1]; exact hl.1.symm) C.2.2.2.1 (pr_hts C w1) (pr_hts C w2) (pr_hts C w3) (pr_hts C w4) hfr hlo C.2.2.2.2.2.2.2.2.2.2.2.1 C.2.2.2.2.2.2.2.2.2.2.2.2 hdg (k H locs ls hP hS hl)
theorem pr_mmin (C : pr_C E Y Rm cc own nL c0) {x y : Int32} {idx : Nat} (w1 : Cond.methodLink own idx Lib.Math.min.name ∈ pr_AL) (w2 : Cond.static Lib.Math.min.name ∈ pr_AL) (w3 : Cond.initialized "java/lang/Math" ∈ pr_AL) (w4 : Cond.code Lib.Math.min.name Lib.Math.min.code 2 (some .int) ∈ pr_AL) (hfr : 1 ≤ Rm.frames) (hlo : (st.map fun v => v.category).sum + 13 ≤ Rm.locals) (hdg : decode cc pc = .ok (.invokestatic idx, 3)) (k : pr_W E Y Rm nL f (pc + 3) lv (.int (if y < x then y else x) :: st)) : pr_W E Y Rm nL f pc lv (.int y :: .int x :: st) := fun H locs ls hP hS hl =>
  va_mmin C.1 C.2.1 (by rw [C.2.2.1]; exact hl.1.symm) C.2.2.2.1 (pr_hts C w1) (pr_hts C w2) (pr_hts C w3) (pr_hts C w4) hfr hlo C.2.2.2.2.2.2.2.2.2.2.2.1 C.2.2.2.2.2.2.2.2.2.2.2.2 hdg (k H locs ls hP hS hl)
theorem pr_sget (C : pr_C E Y Rm cc own nL c0) {idx N : Nat} {nm : String} {xs : List Int32} (hq : (nm, N, xs) ∈ pr_ST) (hw : Cond.fieldLink own idx "PrintRegister" nm "[I" ∈ pr_AL) (hdg : decode cc pc = .ok (.getstatic idx, 3)) (k : ∀ t : Nat, va_T .int t N (fun j => .int (xs.getD j 0)) (pr_A E) (pr_ys Y) (pr_ys Y).heap → pr_W E Y Rm nL f (pc + 3) lv (.ref t :: st)) : pr_W E Y Rm nL f pc lv st := fun H locs ls hP hS hl => by
  obtain ⟨t, h1, h2⟩ := C.2.2.2.2.2.2.2.2.1 _ hq
  exact va_gets C.1 C.2.1 h1 hS C.2.2.2.1 (pr_hts C hw) (fun _ h => h) hdg (k t h2 H locs ls hP hS hl)
theorem pr_sgetN (C : pr_C E Y Rm cc own nL c0) {idx N : Nat} {nm : String} {xs : List Int32} (hq : (nm, N, xs) ∈ pr_ST) (hw : Cond.fieldLinkNest own idx "PrintRegister" nm "[I" "PrintRegister" ∈ pr_NW) (hdg : decode cc pc = .ok (.getstatic idx, 3)) (k : ∀ t : Nat, va_T .int t N (fun j => .int (xs.getD j 0)) (pr_A E) (pr_ys Y) (pr_ys Y).heap → pr_W E Y Rm nL f (pc + 3) lv (.ref t :: st)) : pr_W E Y Rm nL f pc lv st := fun H locs ls hP hS hl => by
  obtain ⟨t, h1, h2⟩ := C.2.2.2.2.2.2.2.2.1 _ hq
  exact va_getsN C.1 C.2.1 h1 hS C.2.2.2.1 (va_Nw.use rfl (pr_nts C hw)) (fun _ h => h) hdg (k t h2 H locs ls hP hS hl)
theorem pr_saload (C : pr_C E Y Rm cc own nL c0) {t N : Nat} {xs : List Int32} {i : Int32} (hT : va_T .int t N (fun j => .int (xs.getD j 0)) (pr_A E) (pr_ys Y) (pr_ys Y).heap) (hin : vp_in i N) (hdg : decode cc pc = .ok (.iaload, 1)) (k : pr_W E Y Rm nL f (pc + 1) lv (.int (xs.getD i.toNatClampNeg 0) :: st)) : pr_W E Y Rm nL f pc lv (.int i :: .ref t :: st) := fun H locs ls hP hS hl =>
  va_ti C.1 C.2.1 hT hS hin rfl hdg (k H locs ls hP hS hl)
theorem pr_iret (C : pr_C E Y Rm cc own nL c0) {v : Int32} (Z : pr_Z E Y (some .int) (some (.int v)) f) (hdg : decode cc pc = .ok (.ireturn, 1)) : pr_W E Y Rm nL f pc lv [.int v] := fun H locs ls hP hS hl => by
  rw [Z.2]
  exact W.iret C.1 C.2.1 Z.1 (fun t ht hW => ⟨rfl, by rw [ht]; exact hP, hS.F ht⟩) hS.2.2 hdg C.2.2.2.2.2.1
theorem pr_zret (C : pr_C E Y Rm cc own nL c0) {v : Int32} (hn : narrow .boolean (.int v) = .int v) (Z : pr_Z E Y (some .boolean) (some (.int v)) f) (hdg : decode cc pc = .ok (.ireturn, 1)) : pr_W E Y Rm nL f pc lv [.int v] := fun H locs ls hP hS hl => by
  rw [Z.2]
  exact W.zret C.1 C.2.1 Z.1 hn (fun t ht hW => ⟨rfl, by rw [ht]; exact hP, hS.F ht⟩) hS.2.2 hdg C.2.2.2.2.2.1
theorem pr_vret (C : pr_C E Y Rm cc own nL c0) (Z : pr_Z E Y none none f) (hdg : decode cc pc = .ok (.return_, 1)) : pr_W E Y Rm nL f pc lv [] := fun H locs ls hP hS hl => by
  rw [Z.2]
  exact W.vret C.1 C.2.1 Z.1 (fun t ht hW => ⟨rfl, by rw [ht]; exact hP, hS.F ht⟩) hS.2.2 hdg C.2.2.2.2.2.1
theorem pr_aret (C : pr_C E Y Rm cc own nL c0) {v : Value} {n : String} (hv : v = .null ∨ ∃ a, v = .ref a) (Z : pr_Z E Y (some (.object n)) (some v) f) (hdg : decode cc pc = .ok (.areturn, 1)) : pr_W E Y Rm nL f pc lv [v] := fun H locs ls hP hS hl => by
  rw [Z.2]
  exact W.aret C.1 C.2.1 Z.1 (Or.inl ⟨n, rfl⟩) hv (fun t ht hW => ⟨rfl, by rw [ht]; exact hP, hS.F ht⟩) hS.2.2 hdg C.2.2.2.2.2.1
theorem pr_blind {av : List Value} : FrameBlind (pr_Pr E av f) := fun a U g mk q => ⟨q.1, q.2.1, q.2.2.1, va_K.moved (u := U) (U := U.calling g mk a) (Vm.Alike.refl U.vm) q.2.2.2.1, q.2.2.2.2.1.moved (u := U) (U := U.calling g mk a) (Vm.Alike.refl U.vm), q.2.2.2.2.2.same (s := U) (U := U.calling g mk a) rfl⟩
theorem pr_pre (C : pr_C E Y Rm cc own nL c0) {av : List Value} {H : Heap} {locs : List Loc} (hP : va_P (pr_D E) pr_CL (pr_m E f) H) (hS : va_S (pr_A E) (pr_ys Y).heap H locs) : ∀ U : State, U.heap = H → (pr_ys Y).WarmedH U.vm → pr_Pr E av f av.toArray U := fun U hU hW => by
  subst hU
  exact ⟨rfl, Nat.le_trans C.2.2.2.2.2.2.2.2.2.2.1 hS.1, hP, (pr_K C).moved hW.alike, (C.2.2.2.2.2.2.2.2.1.moved hW.alike).kept (fun a h1 h2 => hS.2.1 a h1 h2), C.2.2.2.2.2.2.2.2.2.1.warm hW⟩
theorem pr_after {r : Option Value} {g : pr_M} {H : Heap} {locs : List Loc} {rest stk : List Value} {ls : Array Slot} {y : MethodName} {av : Array Value} (hB : pr_B E ≤ (pr_ys Y).heap.size)
    (hr : va_Run (pr_yp Y) (pr_l E) (pr_ye Y) Rm (pr_ys Y) (pr_ym Y) (pr_ya Y) (pr_yb Y) (pr_yh Y) (pr_yc Y) H locs (pr_yk Y) (pr_yn Y) 0 0 (F0 (pr_ym Y) pc ls stk) rest (pr_Po E r g av) (pr_A E))
    (hS : va_S (pr_A E) (pr_ys Y).heap H locs) (hl : lv_has ls nL lv) (k : pr_W E Y Rm nL g (pc + 3) lv (r.toList ++ rest)) :
    W (pr_yp Y) (pr_l E) (pr_ye Y) Rm (pr_ys Y) (pr_ym Y) (pr_ya Y) (pr_yb Y) (pr_yh Y) (pr_yc Y) H locs (pr_yk Y) (pr_yn Y) (pr_yQ Y) (F0 (pr_ym Y) pc ls stk) := by
  intro T hT X
  obtain ⟨v, st₀, t, T', L, h0, X', hL, e1, e2, ⟨hv, hP1, hz, hk⟩, go⟩ := hr T hT X
  cases hv
  rw [h0] at hz hk
  obtain ⟨t2, a1, b1⟩ := k T'.heap (locs ++ L) ls (by rw [e1]; exact hP1)
    ⟨Nat.le_trans hS.1 (by rw [e1]; exact hz), fun q h1 h2 => by rw [e1, hk q (Nat.lt_of_lt_of_le h1 hS.1) h2]; exact hS.2.1 q h1 h2, fun q hq => by
      rcases List.mem_append.mp hq with h | h
      · exact hS.2.2 q h
      · exact hL q h⟩ hl T' rfl X'
  exact ⟨t2, go t2 a1, b1⟩
theorem pr_callV (C : pr_C E Y Rm cc own nL c0) {y : MethodName} {bytes : ByteArray} {maxL ci z c N idx n : Nat} {Cn : String} {T : u_T} {ret : Option FieldType} {rm : Room} {As stk : List Value} {r : Option Value} {g : pr_M} (hM : pr_Met E y bytes maxL ret rm (.ref (pr_ad E c) :: As) f r g) (hk : (pr_L E)[c]? = some (ci, z)) (hci : ci < 10) (hcl : pr_CL[ci]? = some (Cn, T, N))
    (w1 : Cond.methodLink own idx y ∈ pr_AL) (w2 : Cond.instanceMethod y ∈ pr_AL) (w3 : Cond.selects Cn y y ∈ pr_AL) (w4 : Cond.initialized Cn ∈ pr_AL) (w5 : Cond.code y bytes maxL ret ∈ pr_AL) (hrc : rm.cells = 0) (hrs : rm.slots = 0)
    (hy : y.cls = Cn ∧ y.cls ≠ "java/lang/invoke/MethodHandle" ∧ y.cls ≠ "java/lang/invoke/VarHandle" ∧ (parseMethodDescriptor y.desc).map (fun d => d.parameters.length) = some n) (hn : As.length = n) (hR : rm.frames + 1 ≤ Rm.frames ∧ 8 + (maxL + 11) + rm.locals ≤ Rm.locals)
    (hst : stk = As.reverse ++ .ref (pr_ad E c) :: st) (hcat : (st.map fun v => v.category).sum ≤ 8) (hdg : decode cc pc = .ok (.invokevirtual idx, 3)) (k : pr_W E Y Rm nL g (pc + 3) lv (r.toList ++ st)) : pr_W E Y Rm nL f pc lv stk := fun H locs ls hP hS hl => by
  have hG : GoodIn (c0 :: pr_AL) (wsV own idx Cn y (.code y bytes maxL ret :: pr_AL)) := by
    intro w hw
    rcases List.mem_append.mp hw with h | h
    · have hm : w ∈ pr_AL := by
        simp only [List.mem_cons, List.not_mem_nil, or_false] at h
        rcases h with rfl | rfl | rfl | rfl <;> assumption
      exact ⟨List.mem_cons_of_mem _ hm, good_of_word (List.all_eq_true.mp pr_AL_good w hm)⟩
    · exact pr_goodIn w5 w h
  have he : (pr_m E f)[c]? = some (pr_ad E c, .inr (ci, pr_fs (pr_ad E) f c 0 (pr_sh ci))) := by rw [pr_me_at hk]; simp [pr_ce, hci]
  exact pr_after (y := y) C.2.2.2.2.2.2.2.2.2.2.1 (va_runV (As := As) (rest := st) (g := F0 (pr_ym Y) pc ls stk) ⟨C.1, C.2.1, C.2.2.1, C.2.2.2.1, C.2.2.2.2.1⟩ (hM C.2.2.2.2.2.2.2.1) (cwV n C.2.2.2.2.1 hG rfl hrc hrs hy hR) ⟨pr_blind, va_recv (pr_K C) hP hcl he, pr_pre C hP hS⟩ rfl hn hl.1 hst (lv_room hcat) hdg ⟨C.2.2.2.2.2.2.2.2.2.2.2.1, C.2.2.2.2.2.2.2.2.2.2.2.2⟩) hS hl k
theorem pr_callS (C : pr_C E Y Rm cc own nL c0) {y : MethodName} {bytes : ByteArray} {maxL idx n : Nat} {ret : Option FieldType} {rm : Room} {As stk : List Value} {r : Option Value} {g : pr_M} (hM : pr_Met E y bytes maxL ret rm As f r g)
    (w1 : Cond.methodLink own idx y ∈ pr_AL) (w2 : Cond.static y ∈ pr_AL) (w4 : Cond.initialized y.cls ∈ pr_AL) (w5 : Cond.code y bytes maxL ret ∈ pr_AL) (hrc : rm.cells = 0) (hrs : rm.slots = 0)
    (hy : y.cls ≠ "java/lang/invoke/MethodHandle" ∧ y.cls ≠ "java/lang/invoke/VarHandle" ∧ (parseMethodDescriptor y.desc).map (fun d => d.parameters.length) = some n) (hn : As.length = n) (hR : rm.frames + 1 ≤ Rm.frames ∧ 8 + (maxL + 11) + rm.locals ≤ Rm.locals)
    (hst : stk = As.reverse ++ st) (hcat : (st.map fun v => v.category).sum ≤ 8) (hdg : decode cc pc = .ok (.invokestatic idx, 3)) (k : pr_W E Y Rm nL g (pc + 3) lv (r.toList ++ st)) : pr_W E Y Rm nL f pc lv stk := fun H locs ls hP hS hl => by
  have hG : GoodIn (c0 :: pr_AL) (va_wsS own idx y (.code y bytes maxL ret :: pr_AL)) := by
    intro w hw
    rcases List.mem_append.mp hw with h | h
    · have hm : w ∈ pr_AL := by
        simp only [List.mem_cons, List.not_mem_nil, or_false] at h
        rcases h with rfl | rfl | rfl <;> assumption
      exact ⟨List.mem_cons_of_mem _ hm, good_of_word (List.all_eq_true.mp pr_AL_good w hm)⟩
    · exact pr_goodIn w5 w h
  exact pr_after (y := y) C.2.2.2.2.2.2.2.2.2.2.1 (va_runS (As := As) (rest := st) (g := F0 (pr_ym Y) pc ls stk) ⟨C.1, C.2.1, C.2.2.1, C.2.2.2.1, C.2.2.2.2.1⟩ (hM C.2.2.2.2.2.2.2.1) (va_cwS n C.2.2.2.2.1 hG rfl hrc hrs hy hR) ⟨pr_blind, pr_pre C hP hS⟩ rfl hn hl.1 hst (lv_room hcat) hdg ⟨C.2.2.2.2.2.2.2.2.2.2.2.1, C.2.2.2.2.2.2.2.2.2.2.2.2⟩) hS hl k
theorem pr_callSN (C : pr_C E Y Rm cc own nL c0) {y : MethodName} {bytes : ByteArray} {maxL idx n : Nat} {ret : Option FieldType} {rm : Room} {As stk : List Value} {r : Option Value} {g : pr_M} (hM : pr_Met E y bytes maxL ret rm As f r g)
    (w1 : Cond.methodLinkNest own idx y "PrintRegister" ∈ pr_NW) (w2 : Cond.static y ∈ pr_AL) (w4 : Cond.initialized y.cls ∈ pr_AL) (w5 : Cond.code y bytes maxL ret ∈ pr_AL) (hrc : rm.cells = 0) (hrs : rm.slots = 0)
    (hy : y.cls ≠ "java/lang/invoke/MethodHandle" ∧ y.cls ≠ "java/lang/invoke/VarHandle" ∧ (parseMethodDescriptor y.desc).map (fun d => d.parameters.length) = some n) (hn : As.length = n) (hR : rm.frames + 1 ≤ Rm.frames ∧ 8 + (maxL + 11) + rm.locals ≤ Rm.locals)
    (hst : stk = As.reverse ++ st) (hcat : (st.map fun v => v.category).sum ≤ 8) (hdg : decode cc pc = .ok (.invokestatic idx, 3)) (k : pr_W E Y Rm nL g (pc + 3) lv (r.toList ++ st)) : pr_W E Y Rm nL f pc lv stk := fun H locs ls hP hS hl =>
  pr_after (y := y) C.2.2.2.2.2.2.2.2.2.2.1 (va_runSN (As := As) (rest := st) (g := F0 (pr_ym Y) pc ls stk) ⟨C.1, C.2.1, C.2.2.1, C.2.2.2.1, C.2.2.2.2.1⟩ (hM C.2.2.2.2.2.2.2.1) ⟨va_cnB n C.2.2.2.2.1 (pr_goodIn w5) rfl hrc hrs (pr_nts C w1) (pr_hts C w4) hy hR, pr_hts C w2, trivial⟩ ⟨pr_blind, pr_pre C hP hS⟩ rfl hn hl.1 hst (lv_room hcat) hdg ⟨C.2.2.2.2.2.2.2.2.2.2.2.1, C.2.2.2.2.2.2.2.2.2.2.2.2⟩) hS hl k
end RW
/-! ===== the words of a picture's answer ===== -/
def pr_bd {α β : Type} (x : Option (α × pr_M)) (k : α → pr_M → Option β) : Option β := match x with
  | none => none
  | some (a, g) => k a g
theorem pr_bd_some {α β : Type} {x : Option (α × pr_M)} {k : α → pr_M → Option β} {z : β} (h : pr_bd x k = some z) : ∃ (a : α) (g : pr_M), x = some (a, g) ∧ k a g = some z := by
  cases x with
  | none => cases h
  | some q => exact ⟨q.1, q.2, rfl, h⟩
def pr_gd {β : Type} (p : Prop) [Decidable p] (x : Option β) : Option β := if p then x else none
theorem pr_gd_some {β : Type} {p : Prop} [Decidable p] {x : Option β} {z : β} (h : pr_gd p x = some z) : p ∧ x = some z := by
  by_cases c : p
  · exact ⟨c, by simpa [pr_gd, c] using h⟩
  · simp [pr_gd, c] at h
def pr_lt {α β : Type} (v : α) (k : α → β) : β := k v
theorem pr_lt_at {α β : Type} {v : α} {k : α → β} {z : β} (h : pr_lt v k = z) {a : α} (e : a = v) : k a = z := by subst e; exact h
theorem pr_ifT {α : Type} {p : Prop} [Decidable p] {a b z : α} (h : (if p then a else b) = z) (c : p) : a = z := by rw [if_pos c] at h; exact h
theorem pr_ifF {α : Type} {p : Prop} [Decidable p] {a b z : α} (h : (if p then a else b) = z) (c : ¬ p) : b = z := by rw [if_neg c] at h; exact h
def pr_op {β : Type} (x : Option Nat) (n : Option β) (k : Nat → Option β) : Option β := match x with
  | none => n
  | some a => k a
theorem pr_inj {α β : Type} {a c : α} {b d : β} (h : some (a, b) = some (c, d)) : c = a ∧ d = b := by cases h; exact ⟨rfl, rfl⟩
end
section
theorem dX0_init_0 : decode cX0_init 0 = .ok (.aload_n 0, 1) := by decide +kernel
theorem dX0_init_1 : decode cX0_init 1 = .ok (.invokespecial 1, 3) := by decide +kernel
theorem dX0_init_4 : decode cX0_init 4 = .ok (.return_, 1) := by decide +kernel
theorem dX0_clear_0 : decode cX0_clear 0 = .ok (.aload_n 0, 1) := by decide +kernel
theorem dX0_clear_1 : decode cX0_clear 1 = .ok (.iconst 0, 1) := by decide +kernel
theorem dX0_clear_2 : decode cX0_clear 2 = .ok (.putfield 7, 3) := by decide +kernel
theorem dX0_clear_5 : decode cX0_clear 5 = .ok (.aload_n 0, 1) := by decide +kernel
theorem dX0_clear_6 : decode cX0_clear 6 = .ok (.iconst 0, 1) := by decide +kernel
theorem dX0_clear_7 : decode cX0_clear 7 = .ok (.putfield 13, 3) := by decide +kernel
theorem dX0_clear_10 : decode cX0_clear 10 = .ok (.aload_n 0, 1) := by decide +kernel
theorem dX0_clear_11 : decode cX0_clear 11 = .ok (.iconst 0, 1) := by decide +kernel
theorem dX0_clear_12 : decode cX0_clear 12 = .ok (.putfield 16, 3) := by decide +kernel
theorem dX0_clear_15 : decode cX0_clear 15 = .ok (.aload_n 0, 1) := by decide +kernel
theorem dX0_clear_16 : decode cX0_clear 16 = .ok (.iconst 0, 1) := by decide +kernel
theorem dX0_clear_17 : decode cX0_clear 17 = .ok (.putfield 19, 3) := by decide +kernel
theorem dX0_clear_20 : decode cX0_clear 20 = .ok (.aload_n 0, 1) := by decide +kernel
theorem dX0_clear_21 : decode cX0_clear 21 = .ok (.iconst 0, 1) := by decide +kernel
theorem dX0_clear_22 : decode cX0_clear 22 = .ok (.putfield 22, 3) := by decide +kernel
theorem dX0_clear_25 : decode cX0_clear 25 = .ok (.aload_n 0, 1) := by decide +kernel
theorem dX0_clear_26 : decode cX0_clear 26 = .ok (.iconst 0, 1) := by decide +kernel
theorem dX0_clear_27 : decode cX0_clear 27 = .ok (.putfield 25, 3) := by decide +kernel
theorem dX0_clear_30 : decode cX0_clear 30 = .ok (.aload_n 0, 1) := by decide +kernel
theorem dX0_clear_31 : decode cX0_clear 31 = .ok (.iconst 0, 1) := by decide +kernel
theorem dX0_clear_32 : decode cX0_clear 32 = .ok (.putfield 28, 3) := by decide +kernel
theorem dX0_clear_35 : decode cX0_clear 35 = .ok (.aload_n 0, 1) := by decide +kernel
theorem dX0_clear_36 : decode cX0_clear 36 = .ok (.iconst 0, 1) := by decide +kernel
theorem dX0_clear_37 : decode cX0_clear 37 = .ok (.putfield 31, 3) := by decide +kernel
theorem dX0_clear_40 : decode cX0_clear 40 = .ok (.aload_n 0, 1) := by decide +kernel
theorem dX0_clear_41 : decode cX0_clear 41 = .ok (.iconst 0, 1) := by decide +kernel
theorem dX0_clear_42 : decode cX0_clear 42 = .ok (.putfield 34, 3) := by decide +kernel
theorem dX0_clear_45 : decode cX0_clear 45 = .ok (.return_, 1) := by decide +kernel
theorem dX0_copyFrom_0 : decode cX0_copyFrom 0 = .ok (.aload_n 0, 1) := by decide +kernel
theorem dX0_copyFrom_1 : decode cX0_copyFrom 1 = .ok (.aload_n 1, 1) := by decide +kernel
theorem dX0_copyFrom_2 : decode cX0_copyFrom 2 = .ok (.getfield 7, 3) := by decide +kernel
theorem dX0_copyFrom_5 : decode cX0_copyFrom 5 = .ok (.putfield 7, 3) := by decide +kernel
theorem dX0_copyFrom_8 : decode cX0_copyFrom 8 = .ok (.aload_n 0, 1) := by decide +kernel
theorem dX0_copyFrom_9 : decode cX0_copyFrom 9 = .ok (.aload_n 1, 1) := by decide +kernel
theorem dX0_copyFrom_10 : decode cX0_copyFrom 10 = .ok (.getfield 13, 3) := by decide +kernel
theorem dX0_copyFrom_13 : decode cX0_copyFrom 13 = .ok (.putfield 13, 3) := by decide +kernel
theorem dX0_copyFrom_16 : decode cX0_copyFrom 16 = .ok (.aload_n 0, 1) := by decide +kernel
theorem dX0_copyFrom_17 : decode cX0_copyFrom 17 = .ok (.aload_n 1, 1) := by decide +kernel
theorem dX0_copyFrom_18 : decode cX0_copyFrom 18 = .ok (.getfield 16, 3) := by decide +kernel
theorem dX0_copyFrom_21 : decode cX0_copyFrom 21 = .ok (.putfield 16, 3) := by decide +kernel
theorem dX0_copyFrom_24 : decode cX0_copyFrom 24 = .ok (.aload_n 0, 1) := by decide +kernel
theorem dX0_copyFrom_25 : decode cX0_copyFrom 25 = .ok (.aload_n 1, 1) := by decide +kernel
theorem dX0_copyFrom_26 : decode cX0_copyFrom 26 = .ok (.getfield 19, 3) := by decide +kernel
theorem dX0_copyFrom_29 : decode cX0_copyFrom 29 = .ok (.putfield 19, 3) := by decide +kernel
theorem dX0_copyFrom_32 : decode cX0_copyFrom 32 = .ok (.aload_n 0, 1) := by decide +kernel
theorem dX0_copyFrom_33 : decode cX0_copyFrom 33 = .ok (.aload_n 1, 1) := by decide +kernel
theorem dX0_copyFrom_34 : decode cX0_copyFrom 34 = .ok (.getfield 22, 3) := by decide +kernel
theorem dX0_copyFrom_37 : decode cX0_copyFrom 37 = .ok (.putfield 22, 3) := by decide +kernel
theorem dX0_copyFrom_40 : decode cX0_copyFrom 40 = .ok (.aload_n 0, 1) := by decide +kernel
theorem dX0_copyFrom_41 : decode cX0_copyFrom 41 = .ok (.aload_n 1, 1) := by decide +kernel
theorem dX0_copyFrom_42 : decode cX0_copyFrom 42 = .ok (.getfield 25, 3) := by decide +kernel
theorem dX0_copyFrom_45 : decode cX0_copyFrom 45 = .ok (.putfield 25, 3) := by decide +kernel
theorem dX0_copyFrom_48 : decode cX0_copyFrom 48 = .ok (.aload_n 0, 1) := by decide +kernel
theorem dX0_copyFrom_49 : decode cX0_copyFrom 49 = .ok (.aload_n 1, 1) := by decide +kernel
theorem dX0_copyFrom_50 : decode cX0_copyFrom 50 = .ok (.getfield 28, 3) := by decide +kernel
theorem dX0_copyFrom_53 : decode cX0_copyFrom 53 = .ok (.putfield 28, 3) := by decide +kernel
theorem dX0_copyFrom_56 : decode cX0_copyFrom 56 = .ok (.aload_n 0, 1) := by decide +kernel
theorem dX0_copyFrom_57 : decode cX0_copyFrom 57 = .ok (.aload_n 1, 1) := by decide +kernel
theorem dX0_copyFrom_58 : decode cX0_copyFrom 58 = .ok (.getfield 31, 3) := by decide +kernel
theorem dX0_copyFrom_61 : decode cX0_copyFrom 61 = .ok (.putfield 31, 3) := by decide +kernel
theorem dX0_copyFrom_64 : decode cX0_copyFrom 64 = .ok (.aload_n 0, 1) := by decide +kernel
theorem dX0_copyFrom_65 : decode cX0_copyFrom 65 = .ok (.aload_n 1, 1) := by decide +kernel
theorem dX0_copyFrom_66 : decode cX0_copyFrom 66 = .ok (.getfield 34, 3) := by decide +kernel
theorem dX0_copyFrom_69 : decode cX0_copyFrom 69 = .ok (.putfield 34, 3) := by decide +kernel
theorem dX0_copyFrom_72 : decode cX0_copyFrom 72 = .ok (.return_, 1) := by decide +kernel
theorem dX0_endRepeat_0 : decode cX0_endRepeat 0 = .ok (.aload_n 0, 1) := by decide +kernel
theorem dX0_endRepeat_1 : decode cX0_endRepeat 1 = .ok (.getfield 16, 3) := by decide +kernel
theorem dX0_endRepeat_4 : decode cX0_endRepeat 4 = .ok (.ifCond .le 46, 3) := by decide +kernel
theorem dX0_endRepeat_7 : decode cX0_endRepeat 7 = .ok (.aload_n 0, 1) := by decide +kernel
theorem dX0_endRepeat_8 : decode cX0_endRepeat 8 = .ok (.dup, 1) := by decide +kernel
theorem dX0_endRepeat_9 : decode cX0_endRepeat 9 = .ok (.getfield 16, 3) := by decide +kernel
theorem dX0_endRepeat_12 : decode cX0_endRepeat 12 = .ok (.iconst 1, 1) := by decide +kernel
theorem dX0_endRepeat_13 : decode cX0_endRepeat 13 = .ok (.isub, 1) := by decide +kernel
theorem dX0_endRepeat_14 : decode cX0_endRepeat 14 = .ok (.putfield 16, 3) := by decide +kernel
theorem dX0_endRepeat_17 : decode cX0_endRepeat 17 = .ok (.aload_n 0, 1) := by decide +kernel
theorem dX0_endRepeat_18 : decode cX0_endRepeat 18 = .ok (.getfield 16, 3) := by decide +kernel
theorem dX0_endRepeat_21 : decode cX0_endRepeat 21 = .ok (.ifCond .ne 29, 3) := by decide +kernel
theorem dX0_endRepeat_24 : decode cX0_endRepeat 24 = .ok (.aload_n 0, 1) := by decide +kernel
theorem dX0_endRepeat_25 : decode cX0_endRepeat 25 = .ok (.dup, 1) := by decide +kernel
theorem dX0_endRepeat_26 : decode cX0_endRepeat 26 = .ok (.getfield 25, 3) := by decide +kernel
theorem dX0_endRepeat_29 : decode cX0_endRepeat 29 = .ok (.aload_n 0, 1) := by decide +kernel
theorem dX0_endRepeat_30 : decode cX0_endRepeat 30 = .ok (.getfield 31, 3) := by decide +kernel
theorem dX0_endRepeat_33 : decode cX0_endRepeat 33 = .ok (.iadd, 1) := by decide +kernel
theorem dX0_endRepeat_34 : decode cX0_endRepeat 34 = .ok (.putfield 25, 3) := by decide +kernel
theorem dX0_endRepeat_37 : decode cX0_endRepeat 37 = .ok (.aload_n 0, 1) := by decide +kernel
theorem dX0_endRepeat_38 : decode cX0_endRepeat 38 = .ok (.dup, 1) := by decide +kernel
theorem dX0_endRepeat_39 : decode cX0_endRepeat 39 = .ok (.getfield 28, 3) := by decide +kernel
theorem dX0_endRepeat_42 : decode cX0_endRepeat 42 = .ok (.aload_n 0, 1) := by decide +kernel
theorem dX0_endRepeat_43 : decode cX0_endRepeat 43 = .ok (.getfield 34, 3) := by decide +kernel
theorem dX0_endRepeat_46 : decode cX0_endRepeat 46 = .ok (.iadd, 1) := by decide +kernel
theorem dX0_endRepeat_47 : decode cX0_endRepeat 47 = .ok (.putfield 28, 3) := by decide +kernel
theorem dX0_endRepeat_50 : decode cX0_endRepeat 50 = .ok (.aload_n 0, 1) := by decide +kernel
theorem dX0_endRepeat_51 : decode cX0_endRepeat 51 = .ok (.aload_n 0, 1) := by decide +kernel
theorem dX0_endRepeat_52 : decode cX0_endRepeat 52 = .ok (.getfield 22, 3) := by decide +kernel
theorem dX0_endRepeat_55 : decode cX0_endRepeat 55 = .ok (.invokestatic 37, 3) := by decide +kernel
theorem dX0_endRepeat_58 : decode cX0_endRepeat 58 = .ok (.putfield 22, 3) := by decide +kernel
theorem dX0_endRepeat_61 : decode cX0_endRepeat 61 = .ok (.return_, 1) := by decide +kernel
theorem dX1_init_0 : decode cX1_init 0 = .ok (.aload_n 0, 1) := by decide +kernel
theorem dX1_init_1 : decode cX1_init 1 = .ok (.invokespecial 3, 3) := by decide +kernel
theorem dX1_init_4 : decode cX1_init 4 = .ok (.aload_n 0, 1) := by decide +kernel
theorem dX1_init_5 : decode cX1_init 5 = .ok (.bipush 64, 2) := by decide +kernel
theorem dX1_init_7 : decode cX1_init 7 = .ok (.newarray .int, 2) := by decide +kernel
theorem dX1_init_9 : decode cX1_init 9 = .ok (.putfield 9, 3) := by decide +kernel
theorem dX1_init_12 : decode cX1_init 12 = .ok (.return_, 1) := by decide +kernel
theorem dX1_begin_0 : decode cX1_begin 0 = .ok (.aload_n 0, 1) := by decide +kernel
theorem dX1_begin_1 : decode cX1_begin 1 = .ok (.iconst 0, 1) := by decide +kernel
theorem dX1_begin_2 : decode cX1_begin 2 = .ok (.putfield 15, 3) := by decide +kernel
theorem dX1_begin_5 : decode cX1_begin 5 = .ok (.return_, 1) := by decide +kernel
theorem dX1_copyFrom_0 : decode cX1_copyFrom 0 = .ok (.aload_n 1, 1) := by decide +kernel
theorem dX1_copyFrom_1 : decode cX1_copyFrom 1 = .ok (.getfield 9, 3) := by decide +kernel
theorem dX1_copyFrom_4 : decode cX1_copyFrom 4 = .ok (.iconst 0, 1) := by decide +kernel
theorem dX1_copyFrom_5 : decode cX1_copyFrom 5 = .ok (.aload_n 0, 1) := by decide +kernel
theorem dX1_copyFrom_6 : decode cX1_copyFrom 6 = .ok (.getfield 9, 3) := by decide +kernel
theorem dX1_copyFrom_9 : decode cX1_copyFrom 9 = .ok (.iconst 0, 1) := by decide +kernel
theorem dX1_copyFrom_10 : decode cX1_copyFrom 10 = .ok (.bipush 64, 2) := by decide +kernel
theorem dX1_copyFrom_12 : decode cX1_copyFrom 12 = .ok (.invokestatic 19, 3) := by decide +kernel
theorem dX1_copyFrom_15 : decode cX1_copyFrom 15 = .ok (.aload_n 0, 1) := by decide +kernel
theorem dX1_copyFrom_16 : decode cX1_copyFrom 16 = .ok (.aload_n 1, 1) := by decide +kernel
theorem dX1_copyFrom_17 : decode cX1_copyFrom 17 = .ok (.getfield 15, 3) := by decide +kernel
theorem dX1_copyFrom_20 : decode cX1_copyFrom 20 = .ok (.putfield 15, 3) := by decide +kernel
theorem dX1_copyFrom_23 : decode cX1_copyFrom 23 = .ok (.return_, 1) := by decide +kernel
theorem dX1_add_0 : decode cX1_add 0 = .ok (.aload_n 0, 1) := by decide +kernel
theorem dX1_add_1 : decode cX1_add 1 = .ok (.getfield 9, 3) := by decide +kernel
theorem dX1_add_4 : decode cX1_add 4 = .ok (.aload_n 0, 1) := by decide +kernel
theorem dX1_add_5 : decode cX1_add 5 = .ok (.getfield 15, 3) := by decide +kernel
theorem dX1_add_8 : decode cX1_add 8 = .ok (.bipush 63, 2) := by decide +kernel
theorem dX1_add_10 : decode cX1_add 10 = .ok (.iand, 1) := by decide +kernel
theorem dX1_add_11 : decode cX1_add 11 = .ok (.iload_n 1, 1) := by decide +kernel
theorem dX1_add_12 : decode cX1_add 12 = .ok (.iastore, 1) := by decide +kernel
theorem dX1_add_13 : decode cX1_add 13 = .ok (.aload_n 0, 1) := by decide +kernel
theorem dX1_add_14 : decode cX1_add 14 = .ok (.dup, 1) := by decide +kernel
theorem dX1_add_15 : decode cX1_add 15 = .ok (.getfield 15, 3) := by decide +kernel
theorem dX1_add_18 : decode cX1_add 18 = .ok (.iconst 1, 1) := by decide +kernel
theorem dX1_add_19 : decode cX1_add 19 = .ok (.iadd, 1) := by decide +kernel
theorem dX1_add_20 : decode cX1_add 20 = .ok (.putfield 15, 3) := by decide +kernel
theorem dX1_add_23 : decode cX1_add 23 = .ok (.return_, 1) := by decide +kernel
theorem dX1_kept_0 : decode cX1_kept 0 = .ok (.iload_n 1, 1) := by decide +kernel
theorem dX1_kept_1 : decode cX1_kept 1 = .ok (.bipush 60, 2) := by decide +kernel
theorem dX1_kept_3 : decode cX1_kept 3 = .ok (.invokestatic 25, 3) := by decide +kernel
theorem dX1_kept_6 : decode cX1_kept 6 = .ok (.aload_n 0, 1) := by decide +kernel
theorem dX1_kept_7 : decode cX1_kept 7 = .ok (.getfield 15, 3) := by decide +kernel
theorem dX1_kept_10 : decode cX1_kept 10 = .ok (.invokestatic 25, 3) := by decide +kernel
theorem dX1_kept_13 : decode cX1_kept 13 = .ok (.ireturn, 1) := by decide +kernel
theorem dX1_sizeOf_0 : decode cX1_sizeOf 0 = .ok (.aload_n 0, 1) := by decide +kernel
theorem dX1_sizeOf_1 : decode cX1_sizeOf 1 = .ok (.getfield 9, 3) := by decide +kernel
theorem dX1_sizeOf_4 : decode cX1_sizeOf 4 = .ok (.aload_n 0, 1) := by decide +kernel
theorem dX1_sizeOf_5 : decode cX1_sizeOf 5 = .ok (.getfield 15, 3) := by decide +kernel
theorem dX1_sizeOf_8 : decode cX1_sizeOf 8 = .ok (.iload_n 1, 1) := by decide +kernel
theorem dX1_sizeOf_9 : decode cX1_sizeOf 9 = .ok (.isub, 1) := by decide +kernel
theorem dX1_sizeOf_10 : decode cX1_sizeOf 10 = .ok (.bipush 63, 2) := by decide +kernel
theorem dX1_sizeOf_12 : decode cX1_sizeOf 12 = .ok (.iand, 1) := by decide +kernel
theorem dX1_sizeOf_13 : decode cX1_sizeOf 13 = .ok (.iaload, 1) := by decide +kernel
theorem dX1_sizeOf_14 : decode cX1_sizeOf 14 = .ok (.invokestatic 31, 3) := by decide +kernel
theorem dX1_sizeOf_17 : decode cX1_sizeOf 17 = .ok (.ireturn, 1) := by decide +kernel
theorem dX1_greatest_0 : decode cX1_greatest 0 = .ok (.iconst 0, 1) := by decide +kernel
theorem dX1_greatest_1 : decode cX1_greatest 1 = .ok (.istore_n 2, 1) := by decide +kernel
theorem dX1_greatest_2 : decode cX1_greatest 2 = .ok (.iconst 1, 1) := by decide +kernel
theorem dX1_greatest_3 : decode cX1_greatest 3 = .ok (.istore_n 3, 1) := by decide +kernel
theorem dX1_greatest_4 : decode cX1_greatest 4 = .ok (.iload_n 3, 1) := by decide +kernel
theorem dX1_greatest_5 : decode cX1_greatest 5 = .ok (.aload_n 0, 1) := by decide +kernel
theorem dX1_greatest_6 : decode cX1_greatest 6 = .ok (.iload_n 1, 1) := by decide +kernel
theorem dX1_greatest_7 : decode cX1_greatest 7 = .ok (.invokevirtual 35, 3) := by decide +kernel
theorem dX1_greatest_10 : decode cX1_greatest 10 = .ok (.if_icmp .gt 19, 3) := by decide +kernel
theorem dX1_greatest_13 : decode cX1_greatest 13 = .ok (.iload_n 2, 1) := by decide +kernel
theorem dX1_greatest_14 : decode cX1_greatest 14 = .ok (.aload_n 0, 1) := by decide +kernel
theorem dX1_greatest_15 : decode cX1_greatest 15 = .ok (.iload_n 3, 1) := by decide +kernel
theorem dX1_greatest_16 : decode cX1_greatest 16 = .ok (.invokevirtual 38, 3) := by decide +kernel
theorem dX1_greatest_19 : decode cX1_greatest 19 = .ok (.invokestatic 41, 3) := by decide +kernel
theorem dX1_greatest_22 : decode cX1_greatest 22 = .ok (.istore_n 2, 1) := by decide +kernel
theorem dX1_greatest_23 : decode cX1_greatest 23 = .ok (.iinc 3 1, 3) := by decide +kernel
theorem dX1_greatest_26 : decode cX1_greatest 26 = .ok (.goto (-22), 3) := by decide +kernel
theorem dX1_greatest_29 : decode cX1_greatest 29 = .ok (.iload_n 2, 1) := by decide +kernel
theorem dX1_greatest_30 : decode cX1_greatest 30 = .ok (.ireturn, 1) := by decide +kernel
theorem dX1_sumOf_0 : decode cX1_sumOf 0 = .ok (.iconst 0, 1) := by decide +kernel
theorem dX1_sumOf_1 : decode cX1_sumOf 1 = .ok (.istore_n 2, 1) := by decide +kernel
theorem dX1_sumOf_2 : decode cX1_sumOf 2 = .ok (.iconst 1, 1) := by decide +kernel
theorem dX1_sumOf_3 : decode cX1_sumOf 3 = .ok (.istore_n 3, 1) := by decide +kernel
theorem dX1_sumOf_4 : decode cX1_sumOf 4 = .ok (.iload_n 3, 1) := by decide +kernel
theorem dX1_sumOf_5 : decode cX1_sumOf 5 = .ok (.aload_n 0, 1) := by decide +kernel
theorem dX1_sumOf_6 : decode cX1_sumOf 6 = .ok (.iload_n 1, 1) := by decide +kernel
theorem dX1_sumOf_7 : decode cX1_sumOf 7 = .ok (.invokevirtual 35, 3) := by decide +kernel
theorem dX1_sumOf_10 : decode cX1_sumOf 10 = .ok (.if_icmp .gt 17, 3) := by decide +kernel
theorem dX1_sumOf_13 : decode cX1_sumOf 13 = .ok (.iload_n 2, 1) := by decide +kernel
theorem dX1_sumOf_14 : decode cX1_sumOf 14 = .ok (.aload_n 0, 1) := by decide +kernel
theorem dX1_sumOf_15 : decode cX1_sumOf 15 = .ok (.iload_n 3, 1) := by decide +kernel
theorem dX1_sumOf_16 : decode cX1_sumOf 16 = .ok (.invokevirtual 38, 3) := by decide +kernel
theorem dX1_sumOf_19 : decode cX1_sumOf 19 = .ok (.iadd, 1) := by decide +kernel
theorem dX1_sumOf_20 : decode cX1_sumOf 20 = .ok (.istore_n 2, 1) := by decide +kernel
theorem dX1_sumOf_21 : decode cX1_sumOf 21 = .ok (.iinc 3 1, 3) := by decide +kernel
theorem dX1_sumOf_24 : decode cX1_sumOf 24 = .ok (.goto (-20), 3) := by decide +kernel
theorem dX1_sumOf_27 : decode cX1_sumOf 27 = .ok (.iload_n 2, 1) := by decide +kernel
theorem dX1_sumOf_28 : decode cX1_sumOf 28 = .ok (.ireturn, 1) := by decide +kernel
theorem dX1_greaterThan_0 : decode cX1_greaterThan 0 = .ok (.iconst 0, 1) := by decide +kernel
theorem dX1_greaterThan_1 : decode cX1_greaterThan 1 = .ok (.istore_n 3, 1) := by decide +kernel
theorem dX1_greaterThan_2 : decode cX1_greaterThan 2 = .ok (.iconst 1, 1) := by decide +kernel
theorem dX1_greaterThan_3 : decode cX1_greaterThan 3 = .ok (.istore 4, 2) := by decide +kernel
theorem dX1_greaterThan_5 : decode cX1_greaterThan 5 = .ok (.iload 4, 2) := by decide +kernel
theorem dX1_greaterThan_7 : decode cX1_greaterThan 7 = .ok (.aload_n 0, 1) := by decide +kernel
theorem dX1_greaterThan_8 : decode cX1_greaterThan 8 = .ok (.iload_n 1, 1) := by decide +kernel
theorem dX1_greaterThan_9 : decode cX1_greaterThan 9 = .ok (.invokevirtual 35, 3) := by decide +kernel
theorem dX1_greaterThan_12 : decode cX1_greaterThan 12 = .ok (.if_icmp .gt 22, 3) := by decide +kernel
theorem dX1_greaterThan_15 : decode cX1_greaterThan 15 = .ok (.aload_n 0, 1) := by decide +kernel
theorem dX1_greaterThan_16 : decode cX1_greaterThan 16 = .ok (.iload 4, 2) := by decide +kernel
theorem dX1_greaterThan_18 : decode cX1_greaterThan 18 = .ok (.invokevirtual 38, 3) := by decide +kernel
theorem dX1_greaterThan_21 : decode cX1_greaterThan 21 = .ok (.iload_n 2, 1) := by decide +kernel
theorem dX1_greaterThan_22 : decode cX1_greaterThan 22 = .ok (.if_icmp .le 6, 3) := by decide +kernel
theorem dX1_greaterThan_25 : decode cX1_greaterThan 25 = .ok (.iinc 3 1, 3) := by decide +kernel
theorem dX1_greaterThan_28 : decode cX1_greaterThan 28 = .ok (.iinc 4 1, 3) := by decide +kernel
theorem dX1_greaterThan_31 : decode cX1_greaterThan 31 = .ok (.goto (-26), 3) := by decide +kernel
theorem dX1_greaterThan_34 : decode cX1_greaterThan 34 = .ok (.iload_n 3, 1) := by decide +kernel
theorem dX1_greaterThan_35 : decode cX1_greaterThan 35 = .ok (.ireturn, 1) := by decide +kernel
theorem dX2_init_0 : decode cX2_init 0 = .ok (.aload_n 0, 1) := by decide +kernel
theorem dX2_init_1 : decode cX2_init 1 = .ok (.invokespecial 3, 3) := by decide +kernel
theorem dX2_init_4 : decode cX2_init 4 = .ok (.aload_n 0, 1) := by decide +kernel
theorem dX2_init_5 : decode cX2_init 5 = .ok (.bipush 80, 2) := by decide +kernel
theorem dX2_init_7 : decode cX2_init 7 = .ok (.newarray .int, 2) := by decide +kernel
theorem dX2_init_9 : decode cX2_init 9 = .ok (.putfield 9, 3) := by decide +kernel
theorem dX2_init_12 : decode cX2_init 12 = .ok (.return_, 1) := by decide +kernel
theorem dX2_append_0 : decode cX2_append 0 = .ok (.aload_n 0, 1) := by decide +kernel
theorem dX2_append_1 : decode cX2_append 1 = .ok (.getfield 15, 3) := by decide +kernel
theorem dX2_append_4 : decode cX2_append 4 = .ok (.ifCond .lt 32, 3) := by decide +kernel
theorem dX2_append_7 : decode cX2_append 7 = .ok (.aload_n 0, 1) := by decide +kernel
theorem dX2_append_8 : decode cX2_append 8 = .ok (.getfield 15, 3) := by decide +kernel
theorem dX2_append_11 : decode cX2_append 11 = .ok (.bipush 80, 2) := by decide +kernel
theorem dX2_append_13 : decode cX2_append 13 = .ok (.if_icmp .ge 23, 3) := by decide +kernel
theorem dX2_append_16 : decode cX2_append 16 = .ok (.aload_n 0, 1) := by decide +kernel
theorem dX2_append_17 : decode cX2_append 17 = .ok (.getfield 9, 3) := by decide +kernel
theorem dX2_append_20 : decode cX2_append 20 = .ok (.aload_n 0, 1) := by decide +kernel
theorem dX2_append_21 : decode cX2_append 21 = .ok (.getfield 15, 3) := by decide +kernel
theorem dX2_append_24 : decode cX2_append 24 = .ok (.iload_n 1, 1) := by decide +kernel
theorem dX2_append_25 : decode cX2_append 25 = .ok (.iastore, 1) := by decide +kernel
theorem dX2_append_26 : decode cX2_append 26 = .ok (.aload_n 0, 1) := by decide +kernel
theorem dX2_append_27 : decode cX2_append 27 = .ok (.dup, 1) := by decide +kernel
theorem dX2_append_28 : decode cX2_append 28 = .ok (.getfield 15, 3) := by decide +kernel
theorem dX2_append_31 : decode cX2_append 31 = .ok (.iconst 1, 1) := by decide +kernel
theorem dX2_append_32 : decode cX2_append 32 = .ok (.iadd, 1) := by decide +kernel
theorem dX2_append_33 : decode cX2_append 33 = .ok (.putfield 15, 3) := by decide +kernel
theorem dX2_append_36 : decode cX2_append 36 = .ok (.return_, 1) := by decide +kernel
theorem dX2_codeAt_0 : decode cX2_codeAt 0 = .ok (.iload_n 1, 1) := by decide +kernel
theorem dX2_codeAt_1 : decode cX2_codeAt 1 = .ok (.ifCond .lt 26, 3) := by decide +kernel
theorem dX2_codeAt_4 : decode cX2_codeAt 4 = .ok (.iload_n 1, 1) := by decide +kernel
theorem dX2_codeAt_5 : decode cX2_codeAt 5 = .ok (.aload_n 0, 1) := by decide +kernel
theorem dX2_codeAt_6 : decode cX2_codeAt 6 = .ok (.getfield 15, 3) := by decide +kernel
theorem dX2_codeAt_9 : decode cX2_codeAt 9 = .ok (.if_icmp .ge 18, 3) := by decide +kernel
theorem dX2_codeAt_12 : decode cX2_codeAt 12 = .ok (.iload_n 1, 1) := by decide +kernel
theorem dX2_codeAt_13 : decode cX2_codeAt 13 = .ok (.bipush 80, 2) := by decide +kernel
theorem dX2_codeAt_15 : decode cX2_codeAt 15 = .ok (.if_icmp .ge 12, 3) := by decide +kernel
theorem dX2_codeAt_18 : decode cX2_codeAt 18 = .ok (.aload_n 0, 1) := by decide +kernel
theorem dX2_codeAt_19 : decode cX2_codeAt 19 = .ok (.getfield 9, 3) := by decide +kernel
theorem dX2_codeAt_22 : decode cX2_codeAt 22 = .ok (.iload_n 1, 1) := by decide +kernel
theorem dX2_codeAt_23 : decode cX2_codeAt 23 = .ok (.iaload, 1) := by decide +kernel
theorem dX2_codeAt_24 : decode cX2_codeAt 24 = .ok (.goto 4, 3) := by decide +kernel
theorem dX2_codeAt_27 : decode cX2_codeAt 27 = .ok (.iconst 0, 1) := by decide +kernel
theorem dX2_codeAt_28 : decode cX2_codeAt 28 = .ok (.ireturn, 1) := by decide +kernel
theorem dX2_beginReading_0 : decode cX2_beginReading 0 = .ok (.aload_n 0, 1) := by decide +kernel
theorem dX2_beginReading_1 : decode cX2_beginReading 1 = .ok (.iconst 0, 1) := by decide +kernel
theorem dX2_beginReading_2 : decode cX2_beginReading 2 = .ok (.putfield 19, 3) := by decide +kernel
theorem dX2_beginReading_5 : decode cX2_beginReading 5 = .ok (.aload_n 0, 1) := by decide +kernel
theorem dX2_beginReading_6 : decode cX2_beginReading 6 = .ok (.iconst 0, 1) := by decide +kernel
theorem dX2_beginReading_7 : decode cX2_beginReading 7 = .ok (.putfield 22, 3) := by decide +kernel
theorem dX2_beginReading_10 : decode cX2_beginReading 10 = .ok (.return_, 1) := by decide +kernel
theorem dX2_hasMore_0 : decode cX2_hasMore 0 = .ok (.aload_n 0, 1) := by decide +kernel
theorem dX2_hasMore_1 : decode cX2_hasMore 1 = .ok (.getfield 22, 3) := by decide +kernel
theorem dX2_hasMore_4 : decode cX2_hasMore 4 = .ok (.ifCond .ne 18, 3) := by decide +kernel
theorem dX2_hasMore_7 : decode cX2_hasMore 7 = .ok (.aload_n 0, 1) := by decide +kernel
theorem dX2_hasMore_8 : decode cX2_hasMore 8 = .ok (.getfield 19, 3) := by decide +kernel
theorem dX2_hasMore_11 : decode cX2_hasMore 11 = .ok (.aload_n 0, 1) := by decide +kernel
theorem dX2_hasMore_12 : decode cX2_hasMore 12 = .ok (.getfield 15, 3) := by decide +kernel
theorem dX2_hasMore_15 : decode cX2_hasMore 15 = .ok (.if_icmp .ge 7, 3) := by decide +kernel
theorem dX2_hasMore_18 : decode cX2_hasMore 18 = .ok (.iconst 1, 1) := by decide +kernel
theorem dX2_hasMore_19 : decode cX2_hasMore 19 = .ok (.goto 4, 3) := by decide +kernel
theorem dX2_hasMore_22 : decode cX2_hasMore 22 = .ok (.iconst 0, 1) := by decide +kernel
theorem dX2_hasMore_23 : decode cX2_hasMore 23 = .ok (.ireturn, 1) := by decide +kernel
theorem dX2_readAll_0 : decode cX2_readAll 0 = .ok (.aload_n 0, 1) := by decide +kernel
theorem dX2_readAll_1 : decode cX2_readAll 1 = .ok (.invokevirtual 26, 3) := by decide +kernel
theorem dX2_readAll_4 : decode cX2_readAll 4 = .ok (.aload_n 0, 1) := by decide +kernel
theorem dX2_readAll_5 : decode cX2_readAll 5 = .ok (.iconst 0, 1) := by decide +kernel
theorem dX2_readAll_6 : decode cX2_readAll 6 = .ok (.putfield 29, 3) := by decide +kernel
theorem dX2_readAll_9 : decode cX2_readAll 9 = .ok (.aload_n 0, 1) := by decide +kernel
theorem dX2_readAll_10 : decode cX2_readAll 10 = .ok (.iconst 0, 1) := by decide +kernel
theorem dX2_readAll_11 : decode cX2_readAll 11 = .ok (.putfield 32, 3) := by decide +kernel
theorem dX2_readAll_14 : decode cX2_readAll 14 = .ok (.iconst 0, 1) := by decide +kernel
theorem dX2_readAll_15 : decode cX2_readAll 15 = .ok (.istore_n 1, 1) := by decide +kernel
theorem dX2_readAll_16 : decode cX2_readAll 16 = .ok (.aload_n 0, 1) := by decide +kernel
theorem dX2_readAll_17 : decode cX2_readAll 17 = .ok (.invokevirtual 35, 3) := by decide +kernel
theorem dX2_readAll_20 : decode cX2_readAll 20 = .ok (.aload_n 0, 1) := by decide +kernel
theorem dX2_readAll_21 : decode cX2_readAll 21 = .ok (.getfield 38, 3) := by decide +kernel
theorem dX2_readAll_24 : decode cX2_readAll 24 = .ok (.bipush 110, 2) := by decide +kernel
theorem dX2_readAll_26 : decode cX2_readAll 26 = .ok (.if_icmp .ne 16, 3) := by decide +kernel
theorem dX2_readAll_29 : decode cX2_readAll 29 = .ok (.aload_n 0, 1) := by decide +kernel
theorem dX2_readAll_30 : decode cX2_readAll 30 = .ok (.dup, 1) := by decide +kernel
theorem dX2_readAll_31 : decode cX2_readAll 31 = .ok (.getfield 29, 3) := by decide +kernel
theorem dX2_readAll_34 : decode cX2_readAll 34 = .ok (.aload_n 0, 1) := by decide +kernel
theorem dX2_readAll_35 : decode cX2_readAll 35 = .ok (.getfield 41, 3) := by decide +kernel
theorem dX2_readAll_38 : decode cX2_readAll 38 = .ok (.iadd, 1) := by decide +kernel
theorem dX2_readAll_39 : decode cX2_readAll 39 = .ok (.putfield 29, 3) := by decide +kernel
theorem dX2_readAll_42 : decode cX2_readAll 42 = .ok (.aload_n 0, 1) := by decide +kernel
theorem dX2_readAll_43 : decode cX2_readAll 43 = .ok (.getfield 38, 3) := by decide +kernel
theorem dX2_readAll_46 : decode cX2_readAll 46 = .ok (.bipush 100, 2) := by decide +kernel
theorem dX2_readAll_48 : decode cX2_readAll 48 = .ok (.if_icmp .ne 18, 3) := by decide +kernel
theorem dX2_readAll_51 : decode cX2_readAll 51 = .ok (.aload_n 0, 1) := by decide +kernel
theorem dX2_readAll_52 : decode cX2_readAll 52 = .ok (.aload_n 0, 1) := by decide +kernel
theorem dX2_readAll_53 : decode cX2_readAll 53 = .ok (.getfield 32, 3) := by decide +kernel
theorem dX2_readAll_56 : decode cX2_readAll 56 = .ok (.aload_n 0, 1) := by decide +kernel
theorem dX2_readAll_57 : decode cX2_readAll 57 = .ok (.getfield 44, 3) := by decide +kernel
theorem dX2_readAll_60 : decode cX2_readAll 60 = .ok (.invokestatic 47, 3) := by decide +kernel
theorem dX2_readAll_63 : decode cX2_readAll 63 = .ok (.putfield 32, 3) := by decide +kernel
theorem dX2_readAll_66 : decode cX2_readAll 66 = .ok (.iinc 1 1, 3) := by decide +kernel
theorem dX2_readAll_69 : decode cX2_readAll 69 = .ok (.aload_n 0, 1) := by decide +kernel
theorem dX2_readAll_70 : decode cX2_readAll 70 = .ok (.invokevirtual 53, 3) := by decide +kernel
theorem dX2_readAll_73 : decode cX2_readAll 73 = .ok (.ifCond .eq 9, 3) := by decide +kernel
theorem dX2_readAll_76 : decode cX2_readAll 76 = .ok (.iload_n 1, 1) := by decide +kernel
theorem dX2_readAll_77 : decode cX2_readAll 77 = .ok (.bipush 80, 2) := by decide +kernel
theorem dX2_readAll_79 : decode cX2_readAll 79 = .ok (.if_icmp .lt (-63), 3) := by decide +kernel
theorem dX2_readAll_82 : decode cX2_readAll 82 = .ok (.return_, 1) := by decide +kernel
theorem dX2_readStep_0 : decode cX2_readStep 0 = .ok (.aload_n 0, 1) := by decide +kernel
theorem dX2_readStep_1 : decode cX2_readStep 1 = .ok (.getfield 19, 3) := by decide +kernel
theorem dX2_readStep_4 : decode cX2_readStep 4 = .ok (.ifCond .le 9, 3) := by decide +kernel
theorem dX2_readStep_7 : decode cX2_readStep 7 = .ok (.aload_n 0, 1) := by decide +kernel
theorem dX2_readStep_8 : decode cX2_readStep 8 = .ok (.bipush 44, 2) := by decide +kernel
theorem dX2_readStep_10 : decode cX2_readStep 10 = .ok (.invokevirtual 57, 3) := by decide +kernel
theorem dX2_readStep_13 : decode cX2_readStep 13 = .ok (.aload_n 0, 1) := by decide +kernel
theorem dX2_readStep_14 : decode cX2_readStep 14 = .ok (.aload_n 0, 1) := by decide +kernel
theorem dX2_readStep_15 : decode cX2_readStep 15 = .ok (.aload_n 0, 1) := by decide +kernel
theorem dX2_readStep_16 : decode cX2_readStep 16 = .ok (.getfield 19, 3) := by decide +kernel
theorem dX2_readStep_19 : decode cX2_readStep 19 = .ok (.invokevirtual 61, 3) := by decide +kernel
theorem dX2_readStep_22 : decode cX2_readStep 22 = .ok (.putfield 38, 3) := by decide +kernel
theorem dX2_readStep_25 : decode cX2_readStep 25 = .ok (.aload_n 0, 1) := by decide +kernel
theorem dX2_readStep_26 : decode cX2_readStep 26 = .ok (.getfield 38, 3) := by decide +kernel
theorem dX2_readStep_29 : decode cX2_readStep 29 = .ok (.lookupswitch 124 #[(100, 84), (110, 43), (112, 111), (118, 63)], 43) := by decide +kernel
theorem dX2_readStep_72 : decode cX2_readStep 72 = .ok (.aload_n 0, 1) := by decide +kernel
theorem dX2_readStep_73 : decode cX2_readStep 73 = .ok (.bipush 110, 2) := by decide +kernel
theorem dX2_readStep_75 : decode cX2_readStep 75 = .ok (.invokevirtual 57, 3) := by decide +kernel
theorem dX2_readStep_78 : decode cX2_readStep 78 = .ok (.aload_n 0, 1) := by decide +kernel
theorem dX2_readStep_79 : decode cX2_readStep 79 = .ok (.aload_n 0, 1) := by decide +kernel
theorem dX2_readStep_80 : decode cX2_readStep 80 = .ok (.iconst 1, 1) := by decide +kernel
theorem dX2_readStep_81 : decode cX2_readStep 81 = .ok (.bipush 99, 2) := by decide +kernel
theorem dX2_readStep_83 : decode cX2_readStep 83 = .ok (.invokevirtual 65, 3) := by decide +kernel
theorem dX2_readStep_86 : decode cX2_readStep 86 = .ok (.putfield 41, 3) := by decide +kernel
theorem dX2_readStep_89 : decode cX2_readStep 89 = .ok (.goto 69, 3) := by decide +kernel
theorem dX2_readStep_92 : decode cX2_readStep 92 = .ok (.aload_n 0, 1) := by decide +kernel
theorem dX2_readStep_93 : decode cX2_readStep 93 = .ok (.bipush 118, 2) := by decide +kernel
theorem dX2_readStep_95 : decode cX2_readStep 95 = .ok (.invokevirtual 57, 3) := by decide +kernel
theorem dX2_readStep_98 : decode cX2_readStep 98 = .ok (.aload_n 0, 1) := by decide +kernel
theorem dX2_readStep_99 : decode cX2_readStep 99 = .ok (.aload_n 0, 1) := by decide +kernel
theorem dX2_readStep_100 : decode cX2_readStep 100 = .ok (.iconst 0, 1) := by decide +kernel
theorem dX2_readStep_101 : decode cX2_readStep 101 = .ok (.sipush 1000, 3) := by decide +kernel
theorem dX2_readStep_104 : decode cX2_readStep 104 = .ok (.invokevirtual 65, 3) := by decide +kernel
theorem dX2_readStep_107 : decode cX2_readStep 107 = .ok (.putfield 41, 3) := by decide +kernel
theorem dX2_readStep_110 : decode cX2_readStep 110 = .ok (.goto 48, 3) := by decide +kernel
theorem dX2_readStep_113 : decode cX2_readStep 113 = .ok (.aload_n 0, 1) := by decide +kernel
theorem dX2_readStep_114 : decode cX2_readStep 114 = .ok (.bipush 100, 2) := by decide +kernel
theorem dX2_readStep_116 : decode cX2_readStep 116 = .ok (.invokevirtual 57, 3) := by decide +kernel
theorem dX2_readStep_119 : decode cX2_readStep 119 = .ok (.aload_n 0, 1) := by decide +kernel
theorem dX2_readStep_120 : decode cX2_readStep 120 = .ok (.aload_n 0, 1) := by decide +kernel
theorem dX2_readStep_121 : decode cX2_readStep 121 = .ok (.invokevirtual 68, 3) := by decide +kernel
theorem dX2_readStep_124 : decode cX2_readStep 124 = .ok (.putfield 44, 3) := by decide +kernel
theorem dX2_readStep_127 : decode cX2_readStep 127 = .ok (.aload_n 0, 1) := by decide +kernel
theorem dX2_readStep_128 : decode cX2_readStep 128 = .ok (.bipush 58, 2) := by decide +kernel
theorem dX2_readStep_130 : decode cX2_readStep 130 = .ok (.invokevirtual 57, 3) := by decide +kernel
theorem dX2_readStep_133 : decode cX2_readStep 133 = .ok (.aload_n 0, 1) := by decide +kernel
theorem dX2_readStep_134 : decode cX2_readStep 134 = .ok (.invokevirtual 72, 3) := by decide +kernel
theorem dX2_readStep_137 : decode cX2_readStep 137 = .ok (.goto 21, 3) := by decide +kernel
theorem dX2_readStep_140 : decode cX2_readStep 140 = .ok (.aload_n 0, 1) := by decide +kernel
theorem dX2_readStep_141 : decode cX2_readStep 141 = .ok (.bipush 112, 2) := by decide +kernel
theorem dX2_readStep_143 : decode cX2_readStep 143 = .ok (.invokevirtual 57, 3) := by decide +kernel
theorem dX2_readStep_146 : decode cX2_readStep 146 = .ok (.aload_n 0, 1) := by decide +kernel
theorem dX2_readStep_147 : decode cX2_readStep 147 = .ok (.invokevirtual 72, 3) := by decide +kernel
theorem dX2_readStep_150 : decode cX2_readStep 150 = .ok (.goto 8, 3) := by decide +kernel
theorem dX2_readStep_153 : decode cX2_readStep 153 = .ok (.aload_n 0, 1) := by decide +kernel
theorem dX2_readStep_154 : decode cX2_readStep 154 = .ok (.iconst 1, 1) := by decide +kernel
theorem dX2_readStep_155 : decode cX2_readStep 155 = .ok (.putfield 22, 3) := by decide +kernel
theorem dX2_readStep_158 : decode cX2_readStep 158 = .ok (.return_, 1) := by decide +kernel
theorem dX2_readSign_0 : decode cX2_readSign 0 = .ok (.aload_n 0, 1) := by decide +kernel
theorem dX2_readSign_1 : decode cX2_readSign 1 = .ok (.aload_n 0, 1) := by decide +kernel
theorem dX2_readSign_2 : decode cX2_readSign 2 = .ok (.getfield 19, 3) := by decide +kernel
theorem dX2_readSign_5 : decode cX2_readSign 5 = .ok (.invokevirtual 61, 3) := by decide +kernel
theorem dX2_readSign_8 : decode cX2_readSign 8 = .ok (.iload_n 1, 1) := by decide +kernel
theorem dX2_readSign_9 : decode cX2_readSign 9 = .ok (.if_icmp .eq 8, 3) := by decide +kernel
theorem dX2_readSign_12 : decode cX2_readSign 12 = .ok (.aload_n 0, 1) := by decide +kernel
theorem dX2_readSign_13 : decode cX2_readSign 13 = .ok (.iconst 1, 1) := by decide +kernel
theorem dX2_readSign_14 : decode cX2_readSign 14 = .ok (.putfield 22, 3) := by decide +kernel
theorem dX2_readSign_17 : decode cX2_readSign 17 = .ok (.aload_n 0, 1) := by decide +kernel
theorem dX2_readSign_18 : decode cX2_readSign 18 = .ok (.getfield 22, 3) := by decide +kernel
theorem dX2_readSign_21 : decode cX2_readSign 21 = .ok (.ifCond .ne 13, 3) := by decide +kernel
theorem dX2_readSign_24 : decode cX2_readSign 24 = .ok (.aload_n 0, 1) := by decide +kernel
theorem dX2_readSign_25 : decode cX2_readSign 25 = .ok (.dup, 1) := by decide +kernel
theorem dX2_readSign_26 : decode cX2_readSign 26 = .ok (.getfield 19, 3) := by decide +kernel
theorem dX2_readSign_29 : decode cX2_readSign 29 = .ok (.iconst 1, 1) := by decide +kernel
theorem dX2_readSign_30 : decode cX2_readSign 30 = .ok (.iadd, 1) := by decide +kernel
theorem dX2_readSign_31 : decode cX2_readSign 31 = .ok (.putfield 19, 3) := by decide +kernel
theorem dX2_readSign_34 : decode cX2_readSign 34 = .ok (.return_, 1) := by decide +kernel
theorem dX2_readUnit_0 : decode cX2_readUnit 0 = .ok (.aload_n 0, 1) := by decide +kernel
theorem dX2_readUnit_1 : decode cX2_readUnit 1 = .ok (.aload_n 0, 1) := by decide +kernel
theorem dX2_readUnit_2 : decode cX2_readUnit 2 = .ok (.getfield 19, 3) := by decide +kernel
theorem dX2_readUnit_5 : decode cX2_readUnit 5 = .ok (.invokevirtual 75, 3) := by decide +kernel
theorem dX2_readUnit_8 : decode cX2_readUnit 8 = .ok (.istore_n 1, 1) := by decide +kernel
theorem dX2_readUnit_9 : decode cX2_readUnit 9 = .ok (.iload_n 1, 1) := by decide +kernel
theorem dX2_readUnit_10 : decode cX2_readUnit 10 = .ok (.iconst (-1), 1) := by decide +kernel
theorem dX2_readUnit_11 : decode cX2_readUnit 11 = .ok (.if_icmp .eq 8, 3) := by decide +kernel
theorem dX2_readUnit_14 : decode cX2_readUnit 14 = .ok (.iload_n 1, 1) := by decide +kernel
theorem dX2_readUnit_15 : decode cX2_readUnit 15 = .ok (.iconst 4, 1) := by decide +kernel
theorem dX2_readUnit_16 : decode cX2_readUnit 16 = .ok (.if_icmp .le 8, 3) := by decide +kernel
theorem dX2_readUnit_19 : decode cX2_readUnit 19 = .ok (.aload_n 0, 1) := by decide +kernel
theorem dX2_readUnit_20 : decode cX2_readUnit 20 = .ok (.iconst 1, 1) := by decide +kernel
theorem dX2_readUnit_21 : decode cX2_readUnit 21 = .ok (.putfield 22, 3) := by decide +kernel
theorem dX2_readUnit_24 : decode cX2_readUnit 24 = .ok (.aload_n 0, 1) := by decide +kernel
theorem dX2_readUnit_25 : decode cX2_readUnit 25 = .ok (.getfield 22, 3) := by decide +kernel
theorem dX2_readUnit_28 : decode cX2_readUnit 28 = .ok (.ifCond .eq 5, 3) := by decide +kernel
theorem dX2_readUnit_31 : decode cX2_readUnit 31 = .ok (.iconst 0, 1) := by decide +kernel
theorem dX2_readUnit_32 : decode cX2_readUnit 32 = .ok (.ireturn, 1) := by decide +kernel
theorem dX2_readUnit_33 : decode cX2_readUnit 33 = .ok (.aload_n 0, 1) := by decide +kernel
theorem dX2_readUnit_34 : decode cX2_readUnit 34 = .ok (.dup, 1) := by decide +kernel
theorem dX2_readUnit_35 : decode cX2_readUnit 35 = .ok (.getfield 19, 3) := by decide +kernel
theorem dX2_readUnit_38 : decode cX2_readUnit 38 = .ok (.iconst 1, 1) := by decide +kernel
theorem dX2_readUnit_39 : decode cX2_readUnit 39 = .ok (.iadd, 1) := by decide +kernel
theorem dX2_readUnit_40 : decode cX2_readUnit 40 = .ok (.putfield 19, 3) := by decide +kernel
theorem dX2_readUnit_43 : decode cX2_readUnit 43 = .ok (.iload_n 1, 1) := by decide +kernel
theorem dX2_readUnit_44 : decode cX2_readUnit 44 = .ok (.ireturn, 1) := by decide +kernel
theorem dX2_readDisturbance_0 : decode cX2_readDisturbance 0 = .ok (.aload_n 0, 1) := by decide +kernel
theorem dX2_readDisturbance_1 : decode cX2_readDisturbance 1 = .ok (.aload_n 0, 1) := by decide +kernel
theorem dX2_readDisturbance_2 : decode cX2_readDisturbance 2 = .ok (.getfield 19, 3) := by decide +kernel
theorem dX2_readDisturbance_5 : decode cX2_readDisturbance 5 = .ok (.invokevirtual 61, 3) := by decide +kernel
theorem dX2_readDisturbance_8 : decode cX2_readDisturbance 8 = .ok (.bipush 45, 2) := by decide +kernel
theorem dX2_readDisturbance_10 : decode cX2_readDisturbance 10 = .ok (.if_icmp .ne 7, 3) := by decide +kernel
theorem dX2_readDisturbance_13 : decode cX2_readDisturbance 13 = .ok (.iconst 1, 1) := by decide +kernel
theorem dX2_readDisturbance_14 : decode cX2_readDisturbance 14 = .ok (.goto 4, 3) := by decide +kernel
theorem dX2_readDisturbance_17 : decode cX2_readDisturbance 17 = .ok (.iconst 0, 1) := by decide +kernel
theorem dX2_readDisturbance_18 : decode cX2_readDisturbance 18 = .ok (.istore_n 1, 1) := by decide +kernel
theorem dX2_readDisturbance_19 : decode cX2_readDisturbance 19 = .ok (.iload_n 1, 1) := by decide +kernel
theorem dX2_readDisturbance_20 : decode cX2_readDisturbance 20 = .ok (.ifCond .eq 9, 3) := by decide +kernel
theorem dX2_readDisturbance_23 : decode cX2_readDisturbance 23 = .ok (.aload_n 0, 1) := by decide +kernel
theorem dX2_readDisturbance_24 : decode cX2_readDisturbance 24 = .ok (.bipush 45, 2) := by decide +kernel
theorem dX2_readDisturbance_26 : decode cX2_readDisturbance 26 = .ok (.invokevirtual 57, 3) := by decide +kernel
theorem dX2_readDisturbance_29 : decode cX2_readDisturbance 29 = .ok (.aload_n 0, 1) := by decide +kernel
theorem dX2_readDisturbance_30 : decode cX2_readDisturbance 30 = .ok (.iconst 0, 1) := by decide +kernel
theorem dX2_readDisturbance_31 : decode cX2_readDisturbance 31 = .ok (.sipush 3000, 3) := by decide +kernel
theorem dX2_readDisturbance_34 : decode cX2_readDisturbance 34 = .ok (.invokevirtual 65, 3) := by decide +kernel
theorem dX2_readDisturbance_37 : decode cX2_readDisturbance 37 = .ok (.istore_n 2, 1) := by decide +kernel
theorem dX2_readDisturbance_38 : decode cX2_readDisturbance 38 = .ok (.aload_n 0, 1) := by decide +kernel
theorem dX2_readDisturbance_39 : decode cX2_readDisturbance 39 = .ok (.iload_n 1, 1) := by decide +kernel
theorem dX2_readDisturbance_40 : decode cX2_readDisturbance 40 = .ok (.ifCond .eq 8, 3) := by decide +kernel
theorem dX2_readDisturbance_43 : decode cX2_readDisturbance 43 = .ok (.iload_n 2, 1) := by decide +kernel
theorem dX2_readDisturbance_44 : decode cX2_readDisturbance 44 = .ok (.ineg, 1) := by decide +kernel
theorem dX2_readDisturbance_45 : decode cX2_readDisturbance 45 = .ok (.goto 4, 3) := by decide +kernel
theorem dX2_readDisturbance_48 : decode cX2_readDisturbance 48 = .ok (.iload_n 2, 1) := by decide +kernel
theorem dX2_readDisturbance_49 : decode cX2_readDisturbance 49 = .ok (.putfield 41, 3) := by decide +kernel
theorem dX2_readDisturbance_52 : decode cX2_readDisturbance 52 = .ok (.aload_n 0, 1) := by decide +kernel
theorem dX2_readDisturbance_53 : decode cX2_readDisturbance 53 = .ok (.bipush 47, 2) := by decide +kernel
theorem dX2_readDisturbance_55 : decode cX2_readDisturbance 55 = .ok (.invokevirtual 57, 3) := by decide +kernel
theorem dX2_readDisturbance_58 : decode cX2_readDisturbance 58 = .ok (.aload_n 0, 1) := by decide +kernel
theorem dX2_readDisturbance_59 : decode cX2_readDisturbance 59 = .ok (.aload_n 0, 1) := by decide +kernel
theorem dX2_readDisturbance_60 : decode cX2_readDisturbance 60 = .ok (.iconst 1, 1) := by decide +kernel
theorem dX2_readDisturbance_61 : decode cX2_readDisturbance 61 = .ok (.bipush 50, 2) := by decide +kernel
theorem dX2_readDisturbance_63 : decode cX2_readDisturbance 63 = .ok (.invokevirtual 65, 3) := by decide +kernel
theorem dX2_readDisturbance_66 : decode cX2_readDisturbance 66 = .ok (.putfield 78, 3) := by decide +kernel
theorem dX2_readDisturbance_69 : decode cX2_readDisturbance 69 = .ok (.return_, 1) := by decide +kernel
theorem dX2_readNumber_0 : decode cX2_readNumber 0 = .ok (.aload_n 0, 1) := by decide +kernel
theorem dX2_readNumber_1 : decode cX2_readNumber 1 = .ok (.aload_n 0, 1) := by decide +kernel
theorem dX2_readNumber_2 : decode cX2_readNumber 2 = .ok (.getfield 19, 3) := by decide +kernel
theorem dX2_readNumber_5 : decode cX2_readNumber 5 = .ok (.invokevirtual 75, 3) := by decide +kernel
theorem dX2_readNumber_8 : decode cX2_readNumber 8 = .ok (.istore_n 3, 1) := by decide +kernel
theorem dX2_readNumber_9 : decode cX2_readNumber 9 = .ok (.iload_n 3, 1) := by decide +kernel
theorem dX2_readNumber_10 : decode cX2_readNumber 10 = .ok (.iconst (-1), 1) := by decide +kernel
theorem dX2_readNumber_11 : decode cX2_readNumber 11 = .ok (.if_icmp .eq 8, 3) := by decide +kernel
theorem dX2_readNumber_14 : decode cX2_readNumber 14 = .ok (.iload_n 3, 1) := by decide +kernel
theorem dX2_readNumber_15 : decode cX2_readNumber 15 = .ok (.iload_n 1, 1) := by decide +kernel
theorem dX2_readNumber_16 : decode cX2_readNumber 16 = .ok (.if_icmp .ge 8, 3) := by decide +kernel
theorem dX2_readNumber_19 : decode cX2_readNumber 19 = .ok (.aload_n 0, 1) := by decide +kernel
theorem dX2_readNumber_20 : decode cX2_readNumber 20 = .ok (.iconst 1, 1) := by decide +kernel
theorem dX2_readNumber_21 : decode cX2_readNumber 21 = .ok (.putfield 22, 3) := by decide +kernel
theorem dX2_readNumber_24 : decode cX2_readNumber 24 = .ok (.aload_n 0, 1) := by decide +kernel
theorem dX2_readNumber_25 : decode cX2_readNumber 25 = .ok (.getfield 22, 3) := by decide +kernel
theorem dX2_readNumber_28 : decode cX2_readNumber 28 = .ok (.ifCond .eq 5, 3) := by decide +kernel
theorem dX2_readNumber_31 : decode cX2_readNumber 31 = .ok (.iconst 0, 1) := by decide +kernel
theorem dX2_readNumber_32 : decode cX2_readNumber 32 = .ok (.ireturn, 1) := by decide +kernel
theorem dX2_readNumber_33 : decode cX2_readNumber 33 = .ok (.aload_n 0, 1) := by decide +kernel
theorem dX2_readNumber_34 : decode cX2_readNumber 34 = .ok (.dup, 1) := by decide +kernel
theorem dX2_readNumber_35 : decode cX2_readNumber 35 = .ok (.getfield 19, 3) := by decide +kernel
theorem dX2_readNumber_38 : decode cX2_readNumber 38 = .ok (.iconst 1, 1) := by decide +kernel
theorem dX2_readNumber_39 : decode cX2_readNumber 39 = .ok (.iadd, 1) := by decide +kernel
theorem dX2_readNumber_40 : decode cX2_readNumber 40 = .ok (.putfield 19, 3) := by decide +kernel
theorem dX2_readNumber_43 : decode cX2_readNumber 43 = .ok (.aload_n 0, 1) := by decide +kernel
theorem dX2_readNumber_44 : decode cX2_readNumber 44 = .ok (.getfield 19, 3) := by decide +kernel
theorem dX2_readNumber_47 : decode cX2_readNumber 47 = .ok (.aload_n 0, 1) := by decide +kernel
theorem dX2_readNumber_48 : decode cX2_readNumber 48 = .ok (.getfield 15, 3) := by decide +kernel
theorem dX2_readNumber_51 : decode cX2_readNumber 51 = .ok (.if_icmp .ge 63, 3) := by decide +kernel
theorem dX2_readNumber_54 : decode cX2_readNumber 54 = .ok (.aload_n 0, 1) := by decide +kernel
theorem dX2_readNumber_55 : decode cX2_readNumber 55 = .ok (.aload_n 0, 1) := by decide +kernel
theorem dX2_readNumber_56 : decode cX2_readNumber 56 = .ok (.getfield 19, 3) := by decide +kernel
theorem dX2_readNumber_59 : decode cX2_readNumber 59 = .ok (.invokevirtual 75, 3) := by decide +kernel
theorem dX2_readNumber_62 : decode cX2_readNumber 62 = .ok (.iconst (-1), 1) := by decide +kernel
theorem dX2_readNumber_63 : decode cX2_readNumber 63 = .ok (.if_icmp .eq 51, 3) := by decide +kernel
theorem dX2_readNumber_66 : decode cX2_readNumber 66 = .ok (.bipush 10, 2) := by decide +kernel
theorem dX2_readNumber_68 : decode cX2_readNumber 68 = .ok (.iload_n 3, 1) := by decide +kernel
theorem dX2_readNumber_69 : decode cX2_readNumber 69 = .ok (.imul, 1) := by decide +kernel
theorem dX2_readNumber_70 : decode cX2_readNumber 70 = .ok (.aload_n 0, 1) := by decide +kernel
theorem dX2_readNumber_71 : decode cX2_readNumber 71 = .ok (.aload_n 0, 1) := by decide +kernel
theorem dX2_readNumber_72 : decode cX2_readNumber 72 = .ok (.getfield 19, 3) := by decide +kernel
theorem dX2_readNumber_75 : decode cX2_readNumber 75 = .ok (.invokevirtual 75, 3) := by decide +kernel
theorem dX2_readNumber_78 : decode cX2_readNumber 78 = .ok (.iadd, 1) := by decide +kernel
theorem dX2_readNumber_79 : decode cX2_readNumber 79 = .ok (.istore 4, 2) := by decide +kernel
theorem dX2_readNumber_81 : decode cX2_readNumber 81 = .ok (.iload_n 3, 1) := by decide +kernel
theorem dX2_readNumber_82 : decode cX2_readNumber 82 = .ok (.ifCond .eq 9, 3) := by decide +kernel
theorem dX2_readNumber_85 : decode cX2_readNumber 85 = .ok (.iload 4, 2) := by decide +kernel
theorem dX2_readNumber_87 : decode cX2_readNumber 87 = .ok (.iload_n 2, 1) := by decide +kernel
theorem dX2_readNumber_88 : decode cX2_readNumber 88 = .ok (.if_icmp .le 10, 3) := by decide +kernel
theorem dX2_readNumber_91 : decode cX2_readNumber 91 = .ok (.aload_n 0, 1) := by decide +kernel
theorem dX2_readNumber_92 : decode cX2_readNumber 92 = .ok (.iconst 1, 1) := by decide +kernel
theorem dX2_readNumber_93 : decode cX2_readNumber 93 = .ok (.putfield 22, 3) := by decide +kernel
theorem dX2_readNumber_96 : decode cX2_readNumber 96 = .ok (.iconst 0, 1) := by decide +kernel
theorem dX2_readNumber_97 : decode cX2_readNumber 97 = .ok (.ireturn, 1) := by decide +kernel
theorem dX2_readNumber_98 : decode cX2_readNumber 98 = .ok (.iload 4, 2) := by decide +kernel
theorem dX2_readNumber_100 : decode cX2_readNumber 100 = .ok (.istore_n 3, 1) := by decide +kernel
theorem dX2_readNumber_101 : decode cX2_readNumber 101 = .ok (.aload_n 0, 1) := by decide +kernel
theorem dX2_readNumber_102 : decode cX2_readNumber 102 = .ok (.dup, 1) := by decide +kernel
theorem dX2_readNumber_103 : decode cX2_readNumber 103 = .ok (.getfield 19, 3) := by decide +kernel
theorem dX2_readNumber_106 : decode cX2_readNumber 106 = .ok (.iconst 1, 1) := by decide +kernel
theorem dX2_readNumber_107 : decode cX2_readNumber 107 = .ok (.iadd, 1) := by decide +kernel
theorem dX2_readNumber_108 : decode cX2_readNumber 108 = .ok (.putfield 19, 3) := by decide +kernel
theorem dX2_readNumber_111 : decode cX2_readNumber 111 = .ok (.goto (-68), 3) := by decide +kernel
theorem dX2_readNumber_114 : decode cX2_readNumber 114 = .ok (.iload_n 3, 1) := by decide +kernel
theorem dX2_readNumber_115 : decode cX2_readNumber 115 = .ok (.ireturn, 1) := by decide +kernel
theorem dX2_digitAt_0 : decode cX2_digitAt 0 = .ok (.aload_n 0, 1) := by decide +kernel
theorem dX2_digitAt_1 : decode cX2_digitAt 1 = .ok (.iload_n 1, 1) := by decide +kernel
theorem dX2_digitAt_2 : decode cX2_digitAt 2 = .ok (.invokevirtual 61, 3) := by decide +kernel
theorem dX2_digitAt_5 : decode cX2_digitAt 5 = .ok (.istore_n 2, 1) := by decide +kernel
theorem dX2_digitAt_6 : decode cX2_digitAt 6 = .ok (.iload_n 2, 1) := by decide +kernel
theorem dX2_digitAt_7 : decode cX2_digitAt 7 = .ok (.bipush 48, 2) := by decide +kernel
theorem dX2_digitAt_9 : decode cX2_digitAt 9 = .ok (.if_icmp .lt 16, 3) := by decide +kernel
theorem dX2_digitAt_12 : decode cX2_digitAt 12 = .ok (.iload_n 2, 1) := by decide +kernel
theorem dX2_digitAt_13 : decode cX2_digitAt 13 = .ok (.bipush 57, 2) := by decide +kernel
theorem dX2_digitAt_15 : decode cX2_digitAt 15 = .ok (.if_icmp .gt 10, 3) := by decide +kernel
theorem dX2_digitAt_18 : decode cX2_digitAt 18 = .ok (.iload_n 2, 1) := by decide +kernel
theorem dX2_digitAt_19 : decode cX2_digitAt 19 = .ok (.bipush 48, 2) := by decide +kernel
theorem dX2_digitAt_21 : decode cX2_digitAt 21 = .ok (.isub, 1) := by decide +kernel
theorem dX2_digitAt_22 : decode cX2_digitAt 22 = .ok (.goto 4, 3) := by decide +kernel
theorem dX2_digitAt_25 : decode cX2_digitAt 25 = .ok (.iconst (-1), 1) := by decide +kernel
theorem dX2_digitAt_26 : decode cX2_digitAt 26 = .ok (.ireturn, 1) := by decide +kernel
theorem dX3_init_0 : decode cX3_init 0 = .ok (.aload_n 0, 1) := by decide +kernel
theorem dX3_init_1 : decode cX3_init 1 = .ok (.invokespecial 3, 3) := by decide +kernel
theorem dX3_init_4 : decode cX3_init 4 = .ok (.aload_n 0, 1) := by decide +kernel
theorem dX3_init_5 : decode cX3_init 5 = .ok (.iconst 5, 1) := by decide +kernel
theorem dX3_init_6 : decode cX3_init 6 = .ok (.anewarray 9, 3) := by decide +kernel
theorem dX3_init_9 : decode cX3_init 9 = .ok (.putfield 11, 3) := by decide +kernel
theorem dX3_init_12 : decode cX3_init 12 = .ok (.aload_n 0, 1) := by decide +kernel
theorem dX3_init_13 : decode cX3_init 13 = .ok (.sipush 128, 3) := by decide +kernel
theorem dX3_init_16 : decode cX3_init 16 = .ok (.newarray .int, 2) := by decide +kernel
theorem dX3_init_18 : decode cX3_init 18 = .ok (.putfield 17, 3) := by decide +kernel
theorem dX3_init_21 : decode cX3_init 21 = .ok (.aload_n 0, 1) := by decide +kernel
theorem dX3_init_22 : decode cX3_init 22 = .ok (.bipush 6, 2) := by decide +kernel
theorem dX3_init_24 : decode cX3_init 24 = .ok (.newarray .int, 2) := by decide +kernel
theorem dX3_init_26 : decode cX3_init 26 = .ok (.putfield 21, 3) := by decide +kernel
theorem dX3_init_29 : decode cX3_init 29 = .ok (.iconst 0, 1) := by decide +kernel
theorem dX3_init_30 : decode cX3_init 30 = .ok (.istore_n 1, 1) := by decide +kernel
theorem dX3_init_31 : decode cX3_init 31 = .ok (.iload_n 1, 1) := by decide +kernel
theorem dX3_init_32 : decode cX3_init 32 = .ok (.iconst 5, 1) := by decide +kernel
theorem dX3_init_33 : decode cX3_init 33 = .ok (.if_icmp .ge 22, 3) := by decide +kernel
theorem dX3_init_36 : decode cX3_init 36 = .ok (.aload_n 0, 1) := by decide +kernel
theorem dX3_init_37 : decode cX3_init 37 = .ok (.getfield 11, 3) := by decide +kernel
theorem dX3_init_40 : decode cX3_init 40 = .ok (.iload_n 1, 1) := by decide +kernel
theorem dX3_init_41 : decode cX3_init 41 = .ok (.new 9, 3) := by decide +kernel
theorem dX3_init_44 : decode cX3_init 44 = .ok (.dup, 1) := by decide +kernel
theorem dX3_init_45 : decode cX3_init 45 = .ok (.invokespecial 24, 3) := by decide +kernel
theorem dX3_init_48 : decode cX3_init 48 = .ok (.aastore, 1) := by decide +kernel
theorem dX3_init_49 : decode cX3_init 49 = .ok (.iinc 1 1, 3) := by decide +kernel
theorem dX3_init_52 : decode cX3_init 52 = .ok (.goto (-21), 3) := by decide +kernel
theorem dX3_init_55 : decode cX3_init 55 = .ok (.return_, 1) := by decide +kernel
theorem dX3_begin_0 : decode cX3_begin 0 = .ok (.aload_n 0, 1) := by decide +kernel
theorem dX3_begin_1 : decode cX3_begin 1 = .ok (.iload_n 1, 1) := by decide +kernel
theorem dX3_begin_2 : decode cX3_begin 2 = .ok (.putfield 25, 3) := by decide +kernel
theorem dX3_begin_5 : decode cX3_begin 5 = .ok (.aload_n 0, 1) := by decide +kernel
theorem dX3_begin_6 : decode cX3_begin 6 = .ok (.iconst 0, 1) := by decide +kernel
theorem dX3_begin_7 : decode cX3_begin 7 = .ok (.putfield 29, 3) := by decide +kernel
theorem dX3_begin_10 : decode cX3_begin 10 = .ok (.aload_n 0, 1) := by decide +kernel
theorem dX3_begin_11 : decode cX3_begin 11 = .ok (.iconst 0, 1) := by decide +kernel
theorem dX3_begin_12 : decode cX3_begin 12 = .ok (.putfield 32, 3) := by decide +kernel
theorem dX3_begin_15 : decode cX3_begin 15 = .ok (.aload_n 0, 1) := by decide +kernel
theorem dX3_begin_16 : decode cX3_begin 16 = .ok (.iconst 0, 1) := by decide +kernel
theorem dX3_begin_17 : decode cX3_begin 17 = .ok (.putfield 35, 3) := by decide +kernel
theorem dX3_begin_20 : decode cX3_begin 20 = .ok (.aload_n 0, 1) := by decide +kernel
theorem dX3_begin_21 : decode cX3_begin 21 = .ok (.iconst 0, 1) := by decide +kernel
theorem dX3_begin_22 : decode cX3_begin 22 = .ok (.putfield 38, 3) := by decide +kernel
theorem dX3_begin_25 : decode cX3_begin 25 = .ok (.aload_n 0, 1) := by decide +kernel
theorem dX3_begin_26 : decode cX3_begin 26 = .ok (.iconst 0, 1) := by decide +kernel
theorem dX3_begin_27 : decode cX3_begin 27 = .ok (.putfield 41, 3) := by decide +kernel
theorem dX3_begin_30 : decode cX3_begin 30 = .ok (.aload_n 0, 1) := by decide +kernel
theorem dX3_begin_31 : decode cX3_begin 31 = .ok (.iconst 0, 1) := by decide +kernel
theorem dX3_begin_32 : decode cX3_begin 32 = .ok (.putfield 44, 3) := by decide +kernel
theorem dX3_begin_35 : decode cX3_begin 35 = .ok (.iconst 0, 1) := by decide +kernel
theorem dX3_begin_36 : decode cX3_begin 36 = .ok (.istore_n 2, 1) := by decide +kernel
theorem dX3_begin_37 : decode cX3_begin 37 = .ok (.iload_n 2, 1) := by decide +kernel
theorem dX3_begin_38 : decode cX3_begin 38 = .ok (.bipush 6, 2) := by decide +kernel
theorem dX3_begin_40 : decode cX3_begin 40 = .ok (.if_icmp .ge 16, 3) := by decide +kernel
theorem dX3_begin_43 : decode cX3_begin 43 = .ok (.aload_n 0, 1) := by decide +kernel
theorem dX3_begin_44 : decode cX3_begin 44 = .ok (.getfield 21, 3) := by decide +kernel
theorem dX3_begin_47 : decode cX3_begin 47 = .ok (.iload_n 2, 1) := by decide +kernel
theorem dX3_begin_48 : decode cX3_begin 48 = .ok (.iconst 0, 1) := by decide +kernel
theorem dX3_begin_49 : decode cX3_begin 49 = .ok (.iastore, 1) := by decide +kernel
theorem dX3_begin_50 : decode cX3_begin 50 = .ok (.iinc 2 1, 3) := by decide +kernel
theorem dX3_begin_53 : decode cX3_begin 53 = .ok (.goto (-16), 3) := by decide +kernel
theorem dX3_begin_56 : decode cX3_begin 56 = .ok (.iconst 0, 1) := by decide +kernel
theorem dX3_begin_57 : decode cX3_begin 57 = .ok (.istore_n 2, 1) := by decide +kernel
theorem dX3_begin_58 : decode cX3_begin 58 = .ok (.iload_n 2, 1) := by decide +kernel
theorem dX3_begin_59 : decode cX3_begin 59 = .ok (.iconst 5, 1) := by decide +kernel
theorem dX3_begin_60 : decode cX3_begin 60 = .ok (.if_icmp .ge 18, 3) := by decide +kernel
theorem dX3_begin_63 : decode cX3_begin 63 = .ok (.aload_n 0, 1) := by decide +kernel
theorem dX3_begin_64 : decode cX3_begin 64 = .ok (.getfield 11, 3) := by decide +kernel
theorem dX3_begin_67 : decode cX3_begin 67 = .ok (.iload_n 2, 1) := by decide +kernel
theorem dX3_begin_68 : decode cX3_begin 68 = .ok (.aaload, 1) := by decide +kernel
theorem dX3_begin_69 : decode cX3_begin 69 = .ok (.invokevirtual 47, 3) := by decide +kernel
theorem dX3_begin_72 : decode cX3_begin 72 = .ok (.iinc 2 1, 3) := by decide +kernel
theorem dX3_begin_75 : decode cX3_begin 75 = .ok (.goto (-17), 3) := by decide +kernel
theorem dX3_begin_78 : decode cX3_begin 78 = .ok (.return_, 1) := by decide +kernel
theorem dX3_copyFrom_0 : decode cX3_copyFrom 0 = .ok (.aload_n 0, 1) := by decide +kernel
theorem dX3_copyFrom_1 : decode cX3_copyFrom 1 = .ok (.aload_n 1, 1) := by decide +kernel
theorem dX3_copyFrom_2 : decode cX3_copyFrom 2 = .ok (.getfield 25, 3) := by decide +kernel
theorem dX3_copyFrom_5 : decode cX3_copyFrom 5 = .ok (.putfield 25, 3) := by decide +kernel
theorem dX3_copyFrom_8 : decode cX3_copyFrom 8 = .ok (.aload_n 0, 1) := by decide +kernel
theorem dX3_copyFrom_9 : decode cX3_copyFrom 9 = .ok (.aload_n 1, 1) := by decide +kernel
theorem dX3_copyFrom_10 : decode cX3_copyFrom 10 = .ok (.getfield 29, 3) := by decide +kernel
theorem dX3_copyFrom_13 : decode cX3_copyFrom 13 = .ok (.putfield 29, 3) := by decide +kernel
theorem dX3_copyFrom_16 : decode cX3_copyFrom 16 = .ok (.aload_n 0, 1) := by decide +kernel
theorem dX3_copyFrom_17 : decode cX3_copyFrom 17 = .ok (.aload_n 1, 1) := by decide +kernel
theorem dX3_copyFrom_18 : decode cX3_copyFrom 18 = .ok (.getfield 32, 3) := by decide +kernel
theorem dX3_copyFrom_21 : decode cX3_copyFrom 21 = .ok (.putfield 32, 3) := by decide +kernel
theorem dX3_copyFrom_24 : decode cX3_copyFrom 24 = .ok (.aload_n 0, 1) := by decide +kernel
theorem dX3_copyFrom_25 : decode cX3_copyFrom 25 = .ok (.aload_n 1, 1) := by decide +kernel
theorem dX3_copyFrom_26 : decode cX3_copyFrom 26 = .ok (.getfield 35, 3) := by decide +kernel
theorem dX3_copyFrom_29 : decode cX3_copyFrom 29 = .ok (.putfield 35, 3) := by decide +kernel
theorem dX3_copyFrom_32 : decode cX3_copyFrom 32 = .ok (.aload_n 0, 1) := by decide +kernel
theorem dX3_copyFrom_33 : decode cX3_copyFrom 33 = .ok (.aload_n 1, 1) := by decide +kernel
theorem dX3_copyFrom_34 : decode cX3_copyFrom 34 = .ok (.getfield 38, 3) := by decide +kernel
theorem dX3_copyFrom_37 : decode cX3_copyFrom 37 = .ok (.putfield 38, 3) := by decide +kernel
theorem dX3_copyFrom_40 : decode cX3_copyFrom 40 = .ok (.aload_n 0, 1) := by decide +kernel
theorem dX3_copyFrom_41 : decode cX3_copyFrom 41 = .ok (.aload_n 1, 1) := by decide +kernel
theorem dX3_copyFrom_42 : decode cX3_copyFrom 42 = .ok (.getfield 41, 3) := by decide +kernel
theorem dX3_copyFrom_45 : decode cX3_copyFrom 45 = .ok (.putfield 41, 3) := by decide +kernel
theorem dX3_copyFrom_48 : decode cX3_copyFrom 48 = .ok (.aload_n 0, 1) := by decide +kernel
theorem dX3_copyFrom_49 : decode cX3_copyFrom 49 = .ok (.aload_n 1, 1) := by decide +kernel
theorem dX3_copyFrom_50 : decode cX3_copyFrom 50 = .ok (.getfield 44, 3) := by decide +kernel
theorem dX3_copyFrom_53 : decode cX3_copyFrom 53 = .ok (.putfield 44, 3) := by decide +kernel
theorem dX3_copyFrom_56 : decode cX3_copyFrom 56 = .ok (.aload_n 1, 1) := by decide +kernel
theorem dX3_copyFrom_57 : decode cX3_copyFrom 57 = .ok (.getfield 17, 3) := by decide +kernel
theorem dX3_copyFrom_60 : decode cX3_copyFrom 60 = .ok (.iconst 0, 1) := by decide +kernel
theorem dX3_copyFrom_61 : decode cX3_copyFrom 61 = .ok (.aload_n 0, 1) := by decide +kernel
theorem dX3_copyFrom_62 : decode cX3_copyFrom 62 = .ok (.getfield 17, 3) := by decide +kernel
theorem dX3_copyFrom_65 : decode cX3_copyFrom 65 = .ok (.iconst 0, 1) := by decide +kernel
theorem dX3_copyFrom_66 : decode cX3_copyFrom 66 = .ok (.sipush 128, 3) := by decide +kernel
theorem dX3_copyFrom_69 : decode cX3_copyFrom 69 = .ok (.invokestatic 50, 3) := by decide +kernel
theorem dX3_copyFrom_72 : decode cX3_copyFrom 72 = .ok (.aload_n 1, 1) := by decide +kernel
theorem dX3_copyFrom_73 : decode cX3_copyFrom 73 = .ok (.getfield 21, 3) := by decide +kernel
theorem dX3_copyFrom_76 : decode cX3_copyFrom 76 = .ok (.iconst 0, 1) := by decide +kernel
theorem dX3_copyFrom_77 : decode cX3_copyFrom 77 = .ok (.aload_n 0, 1) := by decide +kernel
theorem dX3_copyFrom_78 : decode cX3_copyFrom 78 = .ok (.getfield 21, 3) := by decide +kernel
theorem dX3_copyFrom_81 : decode cX3_copyFrom 81 = .ok (.iconst 0, 1) := by decide +kernel
theorem dX3_copyFrom_82 : decode cX3_copyFrom 82 = .ok (.bipush 6, 2) := by decide +kernel
theorem dX3_copyFrom_84 : decode cX3_copyFrom 84 = .ok (.invokestatic 50, 3) := by decide +kernel
theorem dX3_copyFrom_87 : decode cX3_copyFrom 87 = .ok (.iconst 0, 1) := by decide +kernel
theorem dX3_copyFrom_88 : decode cX3_copyFrom 88 = .ok (.istore_n 2, 1) := by decide +kernel
theorem dX3_copyFrom_89 : decode cX3_copyFrom 89 = .ok (.iload_n 2, 1) := by decide +kernel
theorem dX3_copyFrom_90 : decode cX3_copyFrom 90 = .ok (.aload_n 0, 1) := by decide +kernel
theorem dX3_copyFrom_91 : decode cX3_copyFrom 91 = .ok (.getfield 25, 3) := by decide +kernel
theorem dX3_copyFrom_94 : decode cX3_copyFrom 94 = .ok (.if_icmp .ge 24, 3) := by decide +kernel
theorem dX3_copyFrom_97 : decode cX3_copyFrom 97 = .ok (.aload_n 0, 1) := by decide +kernel
theorem dX3_copyFrom_98 : decode cX3_copyFrom 98 = .ok (.getfield 11, 3) := by decide +kernel
theorem dX3_copyFrom_101 : decode cX3_copyFrom 101 = .ok (.iload_n 2, 1) := by decide +kernel
theorem dX3_copyFrom_102 : decode cX3_copyFrom 102 = .ok (.aaload, 1) := by decide +kernel
theorem dX3_copyFrom_103 : decode cX3_copyFrom 103 = .ok (.aload_n 1, 1) := by decide +kernel
theorem dX3_copyFrom_104 : decode cX3_copyFrom 104 = .ok (.getfield 11, 3) := by decide +kernel
theorem dX3_copyFrom_107 : decode cX3_copyFrom 107 = .ok (.iload_n 2, 1) := by decide +kernel
theorem dX3_copyFrom_108 : decode cX3_copyFrom 108 = .ok (.aaload, 1) := by decide +kernel
theorem dX3_copyFrom_109 : decode cX3_copyFrom 109 = .ok (.invokevirtual 56, 3) := by decide +kernel
theorem dX3_copyFrom_112 : decode cX3_copyFrom 112 = .ok (.iinc 2 1, 3) := by decide +kernel
theorem dX3_copyFrom_115 : decode cX3_copyFrom 115 = .ok (.goto (-26), 3) := by decide +kernel
theorem dX3_copyFrom_118 : decode cX3_copyFrom 118 = .ok (.return_, 1) := by decide +kernel
theorem dX3_unitAt_0 : decode cX3_unitAt 0 = .ok (.iload_n 1, 1) := by decide +kernel
theorem dX3_unitAt_1 : decode cX3_unitAt 1 = .ok (.ifCond .lt 20, 3) := by decide +kernel
theorem dX3_unitAt_4 : decode cX3_unitAt 4 = .ok (.iload_n 1, 1) := by decide +kernel
theorem dX3_unitAt_5 : decode cX3_unitAt 5 = .ok (.aload_n 0, 1) := by decide +kernel
theorem dX3_unitAt_6 : decode cX3_unitAt 6 = .ok (.getfield 25, 3) := by decide +kernel
theorem dX3_unitAt_9 : decode cX3_unitAt 9 = .ok (.if_icmp .ge 12, 3) := by decide +kernel
theorem dX3_unitAt_12 : decode cX3_unitAt 12 = .ok (.aload_n 0, 1) := by decide +kernel
theorem dX3_unitAt_13 : decode cX3_unitAt 13 = .ok (.getfield 11, 3) := by decide +kernel
theorem dX3_unitAt_16 : decode cX3_unitAt 16 = .ok (.iload_n 1, 1) := by decide +kernel
theorem dX3_unitAt_17 : decode cX3_unitAt 17 = .ok (.aaload, 1) := by decide +kernel
theorem dX3_unitAt_18 : decode cX3_unitAt 18 = .ok (.goto 4, 3) := by decide +kernel
theorem dX3_unitAt_21 : decode cX3_unitAt 21 = .ok (.aconst_null, 1) := by decide +kernel
theorem dX3_unitAt_22 : decode cX3_unitAt 22 = .ok (.areturn, 1) := by decide +kernel
theorem dX3_controlledUnitAt_0 : decode cX3_controlledUnitAt 0 = .ok (.iload_n 1, 1) := by decide +kernel
theorem dX3_controlledUnitAt_1 : decode cX3_controlledUnitAt 1 = .ok (.ifCond .ne 7, 3) := by decide +kernel
theorem dX3_controlledUnitAt_4 : decode cX3_controlledUnitAt 4 = .ok (.aconst_null, 1) := by decide +kernel
theorem dX3_controlledUnitAt_5 : decode cX3_controlledUnitAt 5 = .ok (.goto 8, 3) := by decide +kernel
theorem dX3_controlledUnitAt_8 : decode cX3_controlledUnitAt 8 = .ok (.aload_n 0, 1) := by decide +kernel
theorem dX3_controlledUnitAt_9 : decode cX3_controlledUnitAt 9 = .ok (.iload_n 1, 1) := by decide +kernel
theorem dX3_controlledUnitAt_10 : decode cX3_controlledUnitAt 10 = .ok (.invokevirtual 60, 3) := by decide +kernel
theorem dX3_controlledUnitAt_13 : decode cX3_controlledUnitAt 13 = .ok (.areturn, 1) := by decide +kernel
theorem dX3_wayOf_0 : decode cX3_wayOf 0 = .ok (.iconst 0, 1) := by decide +kernel
theorem dX3_wayOf_1 : decode cX3_wayOf 1 = .ok (.istore_n 2, 1) := by decide +kernel
theorem dX3_wayOf_2 : decode cX3_wayOf 2 = .ok (.iconst 1, 1) := by decide +kernel
theorem dX3_wayOf_3 : decode cX3_wayOf 3 = .ok (.istore_n 3, 1) := by decide +kernel
theorem dX3_wayOf_4 : decode cX3_wayOf 4 = .ok (.iload_n 3, 1) := by decide +kernel
theorem dX3_wayOf_5 : decode cX3_wayOf 5 = .ok (.iload_n 1, 1) := by decide +kernel
theorem dX3_wayOf_6 : decode cX3_wayOf 6 = .ok (.if_icmp .gt 30, 3) := by decide +kernel
theorem dX3_wayOf_9 : decode cX3_wayOf 9 = .ok (.iload_n 3, 1) := by decide +kernel
theorem dX3_wayOf_10 : decode cX3_wayOf 10 = .ok (.aload_n 0, 1) := by decide +kernel
theorem dX3_wayOf_11 : decode cX3_wayOf 11 = .ok (.getfield 25, 3) := by decide +kernel
theorem dX3_wayOf_14 : decode cX3_wayOf 14 = .ok (.if_icmp .ge 22, 3) := by decide +kernel
theorem dX3_wayOf_17 : decode cX3_wayOf 17 = .ok (.iload_n 2, 1) := by decide +kernel
theorem dX3_wayOf_18 : decode cX3_wayOf 18 = .ok (.aload_n 0, 1) := by decide +kernel
theorem dX3_wayOf_19 : decode cX3_wayOf 19 = .ok (.getfield 11, 3) := by decide +kernel
theorem dX3_wayOf_22 : decode cX3_wayOf 22 = .ok (.iload_n 3, 1) := by decide +kernel
theorem dX3_wayOf_23 : decode cX3_wayOf 23 = .ok (.aaload, 1) := by decide +kernel
theorem dX3_wayOf_24 : decode cX3_wayOf 24 = .ok (.iconst 0, 1) := by decide +kernel
theorem dX3_wayOf_25 : decode cX3_wayOf 25 = .ok (.invokevirtual 64, 3) := by decide +kernel
theorem dX3_wayOf_28 : decode cX3_wayOf 28 = .ok (.iadd, 1) := by decide +kernel
theorem dX3_wayOf_29 : decode cX3_wayOf 29 = .ok (.istore_n 2, 1) := by decide +kernel
theorem dX3_wayOf_30 : decode cX3_wayOf 30 = .ok (.iinc 3 1, 3) := by decide +kernel
theorem dX3_wayOf_33 : decode cX3_wayOf 33 = .ok (.goto (-29), 3) := by decide +kernel
theorem dX3_wayOf_36 : decode cX3_wayOf 36 = .ok (.iload_n 2, 1) := by decide +kernel
theorem dX3_wayOf_37 : decode cX3_wayOf 37 = .ok (.ireturn, 1) := by decide +kernel
theorem dX3_startSplice_0 : decode cX3_startSplice 0 = .ok (.aload_n 0, 1) := by decide +kernel
theorem dX3_startSplice_1 : decode cX3_startSplice 1 = .ok (.aload_n 0, 1) := by decide +kernel
theorem dX3_startSplice_2 : decode cX3_startSplice 2 = .ok (.getfield 29, 3) := by decide +kernel
theorem dX3_startSplice_5 : decode cX3_startSplice 5 = .ok (.putfield 38, 3) := by decide +kernel
theorem dX3_startSplice_8 : decode cX3_startSplice 8 = .ok (.aload_n 0, 1) := by decide +kernel
theorem dX3_startSplice_9 : decode cX3_startSplice 9 = .ok (.iload_n 1, 1) := by decide +kernel
theorem dX3_startSplice_10 : decode cX3_startSplice 10 = .ok (.putfield 41, 3) := by decide +kernel
theorem dX3_startSplice_13 : decode cX3_startSplice 13 = .ok (.aload_n 0, 1) := by decide +kernel
theorem dX3_startSplice_14 : decode cX3_startSplice 14 = .ok (.iload_n 2, 1) := by decide +kernel
theorem dX3_startSplice_15 : decode cX3_startSplice 15 = .ok (.putfield 44, 3) := by decide +kernel
theorem dX3_startSplice_18 : decode cX3_startSplice 18 = .ok (.return_, 1) := by decide +kernel
theorem dX3_repeatsToLastUnit_0 : decode cX3_repeatsToLastUnit 0 = .ok (.aload_n 0, 1) := by decide +kernel
theorem dX3_repeatsToLastUnit_1 : decode cX3_repeatsToLastUnit 1 = .ok (.getfield 44, 3) := by decide +kernel
theorem dX3_repeatsToLastUnit_4 : decode cX3_repeatsToLastUnit 4 = .ok (.ifCond .ne 5, 3) := by decide +kernel
theorem dX3_repeatsToLastUnit_7 : decode cX3_repeatsToLastUnit 7 = .ok (.iconst 0, 1) := by decide +kernel
theorem dX3_repeatsToLastUnit_8 : decode cX3_repeatsToLastUnit 8 = .ok (.ireturn, 1) := by decide +kernel
theorem dX3_repeatsToLastUnit_9 : decode cX3_repeatsToLastUnit 9 = .ok (.iconst 0, 1) := by decide +kernel
theorem dX3_repeatsToLastUnit_10 : decode cX3_repeatsToLastUnit 10 = .ok (.aload_n 0, 1) := by decide +kernel
theorem dX3_repeatsToLastUnit_11 : decode cX3_repeatsToLastUnit 11 = .ok (.getfield 38, 3) := by decide +kernel
theorem dX3_repeatsToLastUnit_14 : decode cX3_repeatsToLastUnit 14 = .ok (.aload_n 0, 1) := by decide +kernel
theorem dX3_repeatsToLastUnit_15 : decode cX3_repeatsToLastUnit 15 = .ok (.aload_n 0, 1) := by decide +kernel
theorem dX3_repeatsToLastUnit_16 : decode cX3_repeatsToLastUnit 16 = .ok (.getfield 25, 3) := by decide +kernel
theorem dX3_repeatsToLastUnit_19 : decode cX3_repeatsToLastUnit 19 = .ok (.iconst 1, 1) := by decide +kernel
theorem dX3_repeatsToLastUnit_20 : decode cX3_repeatsToLastUnit 20 = .ok (.isub, 1) := by decide +kernel
theorem dX3_repeatsToLastUnit_21 : decode cX3_repeatsToLastUnit 21 = .ok (.invokevirtual 68, 3) := by decide +kernel
theorem dX3_repeatsToLastUnit_24 : decode cX3_repeatsToLastUnit 24 = .ok (.iadd, 1) := by decide +kernel
theorem dX3_repeatsToLastUnit_25 : decode cX3_repeatsToLastUnit 25 = .ok (.iconst 1, 1) := by decide +kernel
theorem dX3_repeatsToLastUnit_26 : decode cX3_repeatsToLastUnit 26 = .ok (.iadd, 1) := by decide +kernel
theorem dX3_repeatsToLastUnit_27 : decode cX3_repeatsToLastUnit 27 = .ok (.aload_n 0, 1) := by decide +kernel
theorem dX3_repeatsToLastUnit_28 : decode cX3_repeatsToLastUnit 28 = .ok (.getfield 29, 3) := by decide +kernel
theorem dX3_repeatsToLastUnit_31 : decode cX3_repeatsToLastUnit 31 = .ok (.isub, 1) := by decide +kernel
theorem dX3_repeatsToLastUnit_32 : decode cX3_repeatsToLastUnit 32 = .ok (.invokestatic 71, 3) := by decide +kernel
theorem dX3_repeatsToLastUnit_35 : decode cX3_repeatsToLastUnit 35 = .ok (.ireturn, 1) := by decide +kernel
theorem dX3_isWithin_0 : decode cX3_isWithin 0 = .ok (.aload_n 0, 1) := by decide +kernel
theorem dX3_isWithin_1 : decode cX3_isWithin 1 = .ok (.iload_n 1, 1) := by decide +kernel
theorem dX3_isWithin_2 : decode cX3_isWithin 2 = .ok (.invokevirtual 60, 3) := by decide +kernel
theorem dX3_isWithin_5 : decode cX3_isWithin 5 = .ok (.astore_n 3, 1) := by decide +kernel
theorem dX3_isWithin_6 : decode cX3_isWithin 6 = .ok (.aload_n 3, 1) := by decide +kernel
theorem dX3_isWithin_7 : decode cX3_isWithin 7 = .ok (.ifnull 31, 3) := by decide +kernel
theorem dX3_isWithin_10 : decode cX3_isWithin 10 = .ok (.aload_n 3, 1) := by decide +kernel
theorem dX3_isWithin_11 : decode cX3_isWithin 11 = .ok (.getfield 77, 3) := by decide +kernel
theorem dX3_isWithin_14 : decode cX3_isWithin 14 = .ok (.getfield 81, 3) := by decide +kernel
theorem dX3_isWithin_17 : decode cX3_isWithin 17 = .ok (.ifCond .eq 21, 3) := by decide +kernel
theorem dX3_isWithin_20 : decode cX3_isWithin 20 = .ok (.aload_n 3, 1) := by decide +kernel
theorem dX3_isWithin_21 : decode cX3_isWithin 21 = .ok (.getfield 77, 3) := by decide +kernel
theorem dX3_isWithin_24 : decode cX3_isWithin 24 = .ok (.getfield 87, 3) := by decide +kernel
theorem dX3_isWithin_27 : decode cX3_isWithin 27 = .ok (.invokestatic 90, 3) := by decide +kernel
theorem dX3_isWithin_30 : decode cX3_isWithin 30 = .ok (.iload_n 2, 1) := by decide +kernel
theorem dX3_isWithin_31 : decode cX3_isWithin 31 = .ok (.if_icmp .gt 7, 3) := by decide +kernel
theorem dX3_isWithin_34 : decode cX3_isWithin 34 = .ok (.iconst 1, 1) := by decide +kernel
theorem dX3_isWithin_35 : decode cX3_isWithin 35 = .ok (.goto 4, 3) := by decide +kernel
theorem dX3_isWithin_38 : decode cX3_isWithin 38 = .ok (.iconst 0, 1) := by decide +kernel
theorem dX3_isWithin_39 : decode cX3_isWithin 39 = .ok (.ireturn, 1) := by decide +kernel
theorem dX3_sumErrorsIn_0 : decode cX3_sumErrorsIn 0 = .ok (.aload_n 0, 1) := by decide +kernel
theorem dX3_sumErrorsIn_1 : decode cX3_sumErrorsIn 1 = .ok (.aload_n 1, 1) := by decide +kernel
theorem dX3_sumErrorsIn_2 : decode cX3_sumErrorsIn 2 = .ok (.invokevirtual 93, 3) := by decide +kernel
theorem dX3_sumErrorsIn_5 : decode cX3_sumErrorsIn 5 = .ok (.aload_n 0, 1) := by decide +kernel
theorem dX3_sumErrorsIn_6 : decode cX3_sumErrorsIn 6 = .ok (.iload_n 2, 1) := by decide +kernel
theorem dX3_sumErrorsIn_7 : decode cX3_sumErrorsIn 7 = .ok (.invokevirtual 60, 3) := by decide +kernel
theorem dX3_sumErrorsIn_10 : decode cX3_sumErrorsIn 10 = .ok (.astore 6, 2) := by decide +kernel
theorem dX3_sumErrorsIn_12 : decode cX3_sumErrorsIn 12 = .ok (.aload 6, 2) := by decide +kernel
theorem dX3_sumErrorsIn_14 : decode cX3_sumErrorsIn 14 = .ok (.ifnonnull 5, 3) := by decide +kernel
theorem dX3_sumErrorsIn_17 : decode cX3_sumErrorsIn 17 = .ok (.iconst 0, 1) := by decide +kernel
theorem dX3_sumErrorsIn_18 : decode cX3_sumErrorsIn 18 = .ok (.ireturn, 1) := by decide +kernel
theorem dX3_sumErrorsIn_19 : decode cX3_sumErrorsIn 19 = .ok (.aload 6, 2) := by decide +kernel
theorem dX3_sumErrorsIn_21 : decode cX3_sumErrorsIn 21 = .ok (.iload_n 3, 1) := by decide +kernel
theorem dX3_sumErrorsIn_22 : decode cX3_sumErrorsIn 22 = .ok (.iload 4, 2) := by decide +kernel
theorem dX3_sumErrorsIn_24 : decode cX3_sumErrorsIn 24 = .ok (.invokevirtual 96, 3) := by decide +kernel
theorem dX3_sumErrorsIn_27 : decode cX3_sumErrorsIn 27 = .ok (.iconst 0, 1) := by decide +kernel
theorem dX3_sumErrorsIn_28 : decode cX3_sumErrorsIn 28 = .ok (.istore 7, 2) := by decide +kernel
theorem dX3_sumErrorsIn_30 : decode cX3_sumErrorsIn 30 = .ok (.iconst 0, 1) := by decide +kernel
theorem dX3_sumErrorsIn_31 : decode cX3_sumErrorsIn 31 = .ok (.istore 8, 2) := by decide +kernel
theorem dX3_sumErrorsIn_33 : decode cX3_sumErrorsIn 33 = .ok (.iload 8, 2) := by decide +kernel
theorem dX3_sumErrorsIn_35 : decode cX3_sumErrorsIn 35 = .ok (.iload 5, 2) := by decide +kernel
theorem dX3_sumErrorsIn_37 : decode cX3_sumErrorsIn 37 = .ok (.if_icmp .ge 40, 3) := by decide +kernel
theorem dX3_sumErrorsIn_40 : decode cX3_sumErrorsIn 40 = .ok (.aload_n 0, 1) := by decide +kernel
theorem dX3_sumErrorsIn_41 : decode cX3_sumErrorsIn 41 = .ok (.invokevirtual 100, 3) := by decide +kernel
theorem dX3_sumErrorsIn_44 : decode cX3_sumErrorsIn 44 = .ok (.aload 6, 2) := by decide +kernel
theorem dX3_sumErrorsIn_46 : decode cX3_sumErrorsIn 46 = .ok (.getfield 77, 3) := by decide +kernel
theorem dX3_sumErrorsIn_49 : decode cX3_sumErrorsIn 49 = .ok (.getfield 81, 3) := by decide +kernel
theorem dX3_sumErrorsIn_52 : decode cX3_sumErrorsIn 52 = .ok (.ifCond .eq 19, 3) := by decide +kernel
theorem dX3_sumErrorsIn_55 : decode cX3_sumErrorsIn 55 = .ok (.iload 7, 2) := by decide +kernel
theorem dX3_sumErrorsIn_57 : decode cX3_sumErrorsIn 57 = .ok (.aload 6, 2) := by decide +kernel
theorem dX3_sumErrorsIn_59 : decode cX3_sumErrorsIn 59 = .ok (.getfield 77, 3) := by decide +kernel
theorem dX3_sumErrorsIn_62 : decode cX3_sumErrorsIn 62 = .ok (.getfield 87, 3) := by decide +kernel
theorem dX3_sumErrorsIn_65 : decode cX3_sumErrorsIn 65 = .ok (.invokestatic 90, 3) := by decide +kernel
theorem dX3_sumErrorsIn_68 : decode cX3_sumErrorsIn 68 = .ok (.iadd, 1) := by decide +kernel
theorem dX3_sumErrorsIn_69 : decode cX3_sumErrorsIn 69 = .ok (.istore 7, 2) := by decide +kernel
theorem dX3_sumErrorsIn_71 : decode cX3_sumErrorsIn 71 = .ok (.iinc 8 1, 3) := by decide +kernel
theorem dX3_sumErrorsIn_74 : decode cX3_sumErrorsIn 74 = .ok (.goto (-41), 3) := by decide +kernel
theorem dX3_sumErrorsIn_77 : decode cX3_sumErrorsIn 77 = .ok (.iload 7, 2) := by decide +kernel
theorem dX3_sumErrorsIn_79 : decode cX3_sumErrorsIn 79 = .ok (.ireturn, 1) := by decide +kernel
theorem dX3_makeRepeat_0 : decode cX3_makeRepeat 0 = .ok (.aload_n 0, 1) := by decide +kernel
theorem dX3_makeRepeat_1 : decode cX3_makeRepeat 1 = .ok (.getfield 32, 3) := by decide +kernel
theorem dX3_makeRepeat_4 : decode cX3_makeRepeat 4 = .ok (.aload_n 0, 1) := by decide +kernel
theorem dX3_makeRepeat_5 : decode cX3_makeRepeat 5 = .ok (.getfield 35, 3) := by decide +kernel
theorem dX3_makeRepeat_8 : decode cX3_makeRepeat 8 = .ok (.isub, 1) := by decide +kernel
theorem dX3_makeRepeat_9 : decode cX3_makeRepeat 9 = .ok (.istore_n 1, 1) := by decide +kernel
theorem dX3_makeRepeat_10 : decode cX3_makeRepeat 10 = .ok (.aload_n 0, 1) := by decide +kernel
theorem dX3_makeRepeat_11 : decode cX3_makeRepeat 11 = .ok (.getfield 17, 3) := by decide +kernel
theorem dX3_makeRepeat_14 : decode cX3_makeRepeat 14 = .ok (.aload_n 0, 1) := by decide +kernel
theorem dX3_makeRepeat_15 : decode cX3_makeRepeat 15 = .ok (.getfield 29, 3) := by decide +kernel
theorem dX3_makeRepeat_18 : decode cX3_makeRepeat 18 = .ok (.bipush 127, 2) := by decide +kernel
theorem dX3_makeRepeat_20 : decode cX3_makeRepeat 20 = .ok (.iand, 1) := by decide +kernel
theorem dX3_makeRepeat_21 : decode cX3_makeRepeat 21 = .ok (.iload_n 1, 1) := by decide +kernel
theorem dX3_makeRepeat_22 : decode cX3_makeRepeat 22 = .ok (.iastore, 1) := by decide +kernel
theorem dX3_makeRepeat_23 : decode cX3_makeRepeat 23 = .ok (.aload_n 0, 1) := by decide +kernel
theorem dX3_makeRepeat_24 : decode cX3_makeRepeat 24 = .ok (.invokevirtual 103, 3) := by decide +kernel
theorem dX3_makeRepeat_27 : decode cX3_makeRepeat 27 = .ok (.iconst 0, 1) := by decide +kernel
theorem dX3_makeRepeat_28 : decode cX3_makeRepeat 28 = .ok (.istore_n 2, 1) := by decide +kernel
theorem dX3_makeRepeat_29 : decode cX3_makeRepeat 29 = .ok (.iload_n 2, 1) := by decide +kernel
theorem dX3_makeRepeat_30 : decode cX3_makeRepeat 30 = .ok (.aload_n 0, 1) := by decide +kernel
theorem dX3_makeRepeat_31 : decode cX3_makeRepeat 31 = .ok (.getfield 25, 3) := by decide +kernel
theorem dX3_makeRepeat_34 : decode cX3_makeRepeat 34 = .ok (.if_icmp .ge 23, 3) := by decide +kernel
theorem dX3_makeRepeat_37 : decode cX3_makeRepeat 37 = .ok (.aload_n 0, 1) := by decide +kernel
theorem dX3_makeRepeat_38 : decode cX3_makeRepeat 38 = .ok (.getfield 11, 3) := by decide +kernel
theorem dX3_makeRepeat_41 : decode cX3_makeRepeat 41 = .ok (.iload_n 2, 1) := by decide +kernel
theorem dX3_makeRepeat_42 : decode cX3_makeRepeat 42 = .ok (.aaload, 1) := by decide +kernel
theorem dX3_makeRepeat_43 : decode cX3_makeRepeat 43 = .ok (.aload_n 0, 1) := by decide +kernel
theorem dX3_makeRepeat_44 : decode cX3_makeRepeat 44 = .ok (.getfield 29, 3) := by decide +kernel
theorem dX3_makeRepeat_47 : decode cX3_makeRepeat 47 = .ok (.iload_n 1, 1) := by decide +kernel
theorem dX3_makeRepeat_48 : decode cX3_makeRepeat 48 = .ok (.invokevirtual 106, 3) := by decide +kernel
theorem dX3_makeRepeat_51 : decode cX3_makeRepeat 51 = .ok (.iinc 2 1, 3) := by decide +kernel
theorem dX3_makeRepeat_54 : decode cX3_makeRepeat 54 = .ok (.goto (-25), 3) := by decide +kernel
theorem dX3_makeRepeat_57 : decode cX3_makeRepeat 57 = .ok (.iconst 0, 1) := by decide +kernel
theorem dX3_makeRepeat_58 : decode cX3_makeRepeat 58 = .ok (.istore_n 2, 1) := by decide +kernel
theorem dX3_makeRepeat_59 : decode cX3_makeRepeat 59 = .ok (.iconst 1, 1) := by decide +kernel
theorem dX3_makeRepeat_60 : decode cX3_makeRepeat 60 = .ok (.istore_n 3, 1) := by decide +kernel
theorem dX3_makeRepeat_61 : decode cX3_makeRepeat 61 = .ok (.iload_n 3, 1) := by decide +kernel
theorem dX3_makeRepeat_62 : decode cX3_makeRepeat 62 = .ok (.aload_n 0, 1) := by decide +kernel
theorem dX3_makeRepeat_63 : decode cX3_makeRepeat 63 = .ok (.getfield 25, 3) := by decide +kernel
theorem dX3_makeRepeat_66 : decode cX3_makeRepeat 66 = .ok (.if_icmp .ge 33, 3) := by decide +kernel
theorem dX3_makeRepeat_69 : decode cX3_makeRepeat 69 = .ok (.iload_n 2, 1) := by decide +kernel
theorem dX3_makeRepeat_70 : decode cX3_makeRepeat 70 = .ok (.aload_n 0, 1) := by decide +kernel
theorem dX3_makeRepeat_71 : decode cX3_makeRepeat 71 = .ok (.getfield 11, 3) := by decide +kernel
theorem dX3_makeRepeat_74 : decode cX3_makeRepeat 74 = .ok (.iload_n 3, 1) := by decide +kernel
theorem dX3_makeRepeat_75 : decode cX3_makeRepeat 75 = .ok (.aaload, 1) := by decide +kernel
theorem dX3_makeRepeat_76 : decode cX3_makeRepeat 76 = .ok (.iconst 0, 1) := by decide +kernel
theorem dX3_makeRepeat_77 : decode cX3_makeRepeat 77 = .ok (.invokevirtual 64, 3) := by decide +kernel
theorem dX3_makeRepeat_80 : decode cX3_makeRepeat 80 = .ok (.iadd, 1) := by decide +kernel
theorem dX3_makeRepeat_81 : decode cX3_makeRepeat 81 = .ok (.istore_n 2, 1) := by decide +kernel
theorem dX3_makeRepeat_82 : decode cX3_makeRepeat 82 = .ok (.aload_n 0, 1) := by decide +kernel
theorem dX3_makeRepeat_83 : decode cX3_makeRepeat 83 = .ok (.aload_n 0, 1) := by decide +kernel
theorem dX3_makeRepeat_84 : decode cX3_makeRepeat 84 = .ok (.getfield 11, 3) := by decide +kernel
theorem dX3_makeRepeat_87 : decode cX3_makeRepeat 87 = .ok (.iload_n 3, 1) := by decide +kernel
theorem dX3_makeRepeat_88 : decode cX3_makeRepeat 88 = .ok (.aaload, 1) := by decide +kernel
theorem dX3_makeRepeat_89 : decode cX3_makeRepeat 89 = .ok (.iload_n 2, 1) := by decide +kernel
theorem dX3_makeRepeat_90 : decode cX3_makeRepeat 90 = .ok (.invokevirtual 109, 3) := by decide +kernel
theorem dX3_makeRepeat_93 : decode cX3_makeRepeat 93 = .ok (.iinc 3 1, 3) := by decide +kernel
theorem dX3_makeRepeat_96 : decode cX3_makeRepeat 96 = .ok (.goto (-35), 3) := by decide +kernel
theorem dX3_makeRepeat_99 : decode cX3_makeRepeat 99 = .ok (.iconst 0, 1) := by decide +kernel
theorem dX3_makeRepeat_100 : decode cX3_makeRepeat 100 = .ok (.istore_n 3, 1) := by decide +kernel
theorem dX3_makeRepeat_101 : decode cX3_makeRepeat 101 = .ok (.iload_n 3, 1) := by decide +kernel
theorem dX3_makeRepeat_102 : decode cX3_makeRepeat 102 = .ok (.aload_n 0, 1) := by decide +kernel
theorem dX3_makeRepeat_103 : decode cX3_makeRepeat 103 = .ok (.getfield 25, 3) := by decide +kernel
theorem dX3_makeRepeat_106 : decode cX3_makeRepeat 106 = .ok (.if_icmp .ge 18, 3) := by decide +kernel
theorem dX3_makeRepeat_109 : decode cX3_makeRepeat 109 = .ok (.aload_n 0, 1) := by decide +kernel
theorem dX3_makeRepeat_110 : decode cX3_makeRepeat 110 = .ok (.getfield 11, 3) := by decide +kernel
theorem dX3_makeRepeat_113 : decode cX3_makeRepeat 113 = .ok (.iload_n 3, 1) := by decide +kernel
theorem dX3_makeRepeat_114 : decode cX3_makeRepeat 114 = .ok (.aaload, 1) := by decide +kernel
theorem dX3_makeRepeat_115 : decode cX3_makeRepeat 115 = .ok (.invokevirtual 113, 3) := by decide +kernel
theorem dX3_makeRepeat_118 : decode cX3_makeRepeat 118 = .ok (.iinc 3 1, 3) := by decide +kernel
theorem dX3_makeRepeat_121 : decode cX3_makeRepeat 121 = .ok (.goto (-20), 3) := by decide +kernel
theorem dX3_makeRepeat_124 : decode cX3_makeRepeat 124 = .ok (.aload_n 0, 1) := by decide +kernel
theorem dX3_makeRepeat_125 : decode cX3_makeRepeat 125 = .ok (.aload_n 0, 1) := by decide +kernel
theorem dX3_makeRepeat_126 : decode cX3_makeRepeat 126 = .ok (.getfield 32, 3) := by decide +kernel
theorem dX3_makeRepeat_129 : decode cX3_makeRepeat 129 = .ok (.putfield 35, 3) := by decide +kernel
theorem dX3_makeRepeat_132 : decode cX3_makeRepeat 132 = .ok (.aload_n 0, 1) := by decide +kernel
theorem dX3_makeRepeat_133 : decode cX3_makeRepeat 133 = .ok (.dup, 1) := by decide +kernel
theorem dX3_makeRepeat_134 : decode cX3_makeRepeat 134 = .ok (.getfield 29, 3) := by decide +kernel
theorem dX3_makeRepeat_137 : decode cX3_makeRepeat 137 = .ok (.iconst 1, 1) := by decide +kernel
theorem dX3_makeRepeat_138 : decode cX3_makeRepeat 138 = .ok (.iadd, 1) := by decide +kernel
theorem dX3_makeRepeat_139 : decode cX3_makeRepeat 139 = .ok (.putfield 29, 3) := by decide +kernel
theorem dX3_makeRepeat_142 : decode cX3_makeRepeat 142 = .ok (.return_, 1) := by decide +kernel
theorem dX3_bringSplice_0 : decode cX3_bringSplice 0 = .ok (.aload_n 0, 1) := by decide +kernel
theorem dX3_bringSplice_1 : decode cX3_bringSplice 1 = .ok (.getfield 44, 3) := by decide +kernel
theorem dX3_bringSplice_4 : decode cX3_bringSplice 4 = .ok (.ifCond .ne 4, 3) := by decide +kernel
theorem dX3_bringSplice_7 : decode cX3_bringSplice 7 = .ok (.return_, 1) := by decide +kernel
theorem dX3_bringSplice_8 : decode cX3_bringSplice 8 = .ok (.iconst 0, 1) := by decide +kernel
theorem dX3_bringSplice_9 : decode cX3_bringSplice 9 = .ok (.istore_n 1, 1) := by decide +kernel
theorem dX3_bringSplice_10 : decode cX3_bringSplice 10 = .ok (.iconst 0, 1) := by decide +kernel
theorem dX3_bringSplice_11 : decode cX3_bringSplice 11 = .ok (.istore_n 2, 1) := by decide +kernel
theorem dX3_bringSplice_12 : decode cX3_bringSplice 12 = .ok (.iload_n 2, 1) := by decide +kernel
theorem dX3_bringSplice_13 : decode cX3_bringSplice 13 = .ok (.aload_n 0, 1) := by decide +kernel
theorem dX3_bringSplice_14 : decode cX3_bringSplice 14 = .ok (.getfield 25, 3) := by decide +kernel
theorem dX3_bringSplice_17 : decode cX3_bringSplice 17 = .ok (.if_icmp .ge 56, 3) := by decide +kernel
theorem dX3_bringSplice_20 : decode cX3_bringSplice 20 = .ok (.iload_n 2, 1) := by decide +kernel
theorem dX3_bringSplice_21 : decode cX3_bringSplice 21 = .ok (.ifCond .le 16, 3) := by decide +kernel
theorem dX3_bringSplice_24 : decode cX3_bringSplice 24 = .ok (.iload_n 1, 1) := by decide +kernel
theorem dX3_bringSplice_25 : decode cX3_bringSplice 25 = .ok (.aload_n 0, 1) := by decide +kernel
theorem dX3_bringSplice_26 : decode cX3_bringSplice 26 = .ok (.getfield 11, 3) := by decide +kernel
theorem dX3_bringSplice_29 : decode cX3_bringSplice 29 = .ok (.iload_n 2, 1) := by decide +kernel
theorem dX3_bringSplice_30 : decode cX3_bringSplice 30 = .ok (.aaload, 1) := by decide +kernel
theorem dX3_bringSplice_31 : decode cX3_bringSplice 31 = .ok (.iconst 0, 1) := by decide +kernel
theorem dX3_bringSplice_32 : decode cX3_bringSplice 32 = .ok (.invokevirtual 64, 3) := by decide +kernel
theorem dX3_bringSplice_35 : decode cX3_bringSplice 35 = .ok (.iadd, 1) := by decide +kernel
theorem dX3_bringSplice_36 : decode cX3_bringSplice 36 = .ok (.istore_n 1, 1) := by decide +kernel
theorem dX3_bringSplice_37 : decode cX3_bringSplice 37 = .ok (.aload_n 0, 1) := by decide +kernel
theorem dX3_bringSplice_38 : decode cX3_bringSplice 38 = .ok (.getfield 29, 3) := by decide +kernel
theorem dX3_bringSplice_41 : decode cX3_bringSplice 41 = .ok (.aload_n 0, 1) := by decide +kernel
theorem dX3_bringSplice_42 : decode cX3_bringSplice 42 = .ok (.getfield 38, 3) := by decide +kernel
theorem dX3_bringSplice_45 : decode cX3_bringSplice 45 = .ok (.iload_n 1, 1) := by decide +kernel
theorem dX3_bringSplice_46 : decode cX3_bringSplice 46 = .ok (.iadd, 1) := by decide +kernel
theorem dX3_bringSplice_47 : decode cX3_bringSplice 47 = .ok (.if_icmp .ne 20, 3) := by decide +kernel
theorem dX3_bringSplice_50 : decode cX3_bringSplice 50 = .ok (.aload_n 0, 1) := by decide +kernel
theorem dX3_bringSplice_51 : decode cX3_bringSplice 51 = .ok (.getfield 11, 3) := by decide +kernel
theorem dX3_bringSplice_54 : decode cX3_bringSplice 54 = .ok (.iload_n 2, 1) := by decide +kernel
theorem dX3_bringSplice_55 : decode cX3_bringSplice 55 = .ok (.aaload, 1) := by decide +kernel
theorem dX3_bringSplice_56 : decode cX3_bringSplice 56 = .ok (.aload_n 0, 1) := by decide +kernel
theorem dX3_bringSplice_57 : decode cX3_bringSplice 57 = .ok (.getfield 41, 3) := by decide +kernel
theorem dX3_bringSplice_60 : decode cX3_bringSplice 60 = .ok (.aload_n 0, 1) := by decide +kernel
theorem dX3_bringSplice_61 : decode cX3_bringSplice 61 = .ok (.getfield 44, 3) := by decide +kernel
theorem dX3_bringSplice_64 : decode cX3_bringSplice 64 = .ok (.invokevirtual 116, 3) := by decide +kernel
theorem dX3_bringSplice_67 : decode cX3_bringSplice 67 = .ok (.iinc 2 1, 3) := by decide +kernel
theorem dX3_bringSplice_70 : decode cX3_bringSplice 70 = .ok (.goto (-58), 3) := by decide +kernel
theorem dX3_bringSplice_73 : decode cX3_bringSplice 73 = .ok (.return_, 1) := by decide +kernel
theorem dX3_watchUnit_0 : decode cX3_watchUnit 0 = .ok (.aload_n 0, 1) := by decide +kernel
theorem dX3_watchUnit_1 : decode cX3_watchUnit 1 = .ok (.getfield 29, 3) := by decide +kernel
theorem dX3_watchUnit_4 : decode cX3_watchUnit 4 = .ok (.aload_n 1, 1) := by decide +kernel
theorem dX3_watchUnit_5 : decode cX3_watchUnit 5 = .ok (.iconst 1, 1) := by decide +kernel
theorem dX3_watchUnit_6 : decode cX3_watchUnit 6 = .ok (.invokevirtual 64, 3) := by decide +kernel
theorem dX3_watchUnit_9 : decode cX3_watchUnit 9 = .ok (.isub, 1) := by decide +kernel
theorem dX3_watchUnit_10 : decode cX3_watchUnit 10 = .ok (.istore_n 3, 1) := by decide +kernel
theorem dX3_watchUnit_11 : decode cX3_watchUnit 11 = .ok (.iload_n 3, 1) := by decide +kernel
theorem dX3_watchUnit_12 : decode cX3_watchUnit 12 = .ok (.iload_n 2, 1) := by decide +kernel
theorem dX3_watchUnit_13 : decode cX3_watchUnit 13 = .ok (.isub, 1) := by decide +kernel
theorem dX3_watchUnit_14 : decode cX3_watchUnit 14 = .ok (.istore 4, 2) := by decide +kernel
theorem dX3_watchUnit_16 : decode cX3_watchUnit 16 = .ok (.iload 4, 2) := by decide +kernel
theorem dX3_watchUnit_18 : decode cX3_watchUnit 18 = .ok (.ifCond .ge 11, 3) := by decide +kernel
theorem dX3_watchUnit_21 : decode cX3_watchUnit 21 = .ok (.aload_n 1, 1) := by decide +kernel
theorem dX3_watchUnit_22 : decode cX3_watchUnit 22 = .ok (.getfield 77, 3) := by decide +kernel
theorem dX3_watchUnit_25 : decode cX3_watchUnit 25 = .ok (.invokevirtual 119, 3) := by decide +kernel
theorem dX3_watchUnit_28 : decode cX3_watchUnit 28 = .ok (.return_, 1) := by decide +kernel
theorem dX3_watchUnit_29 : decode cX3_watchUnit 29 = .ok (.aload_n 1, 1) := by decide +kernel
theorem dX3_watchUnit_30 : decode cX3_watchUnit 30 = .ok (.getfield 122, 3) := by decide +kernel
theorem dX3_watchUnit_33 : decode cX3_watchUnit 33 = .ok (.iload_n 3, 1) := by decide +kernel
theorem dX3_watchUnit_34 : decode cX3_watchUnit 34 = .ok (.invokevirtual 126, 3) := by decide +kernel
theorem dX3_watchUnit_37 : decode cX3_watchUnit 37 = .ok (.aload_n 0, 1) := by decide +kernel
theorem dX3_watchUnit_38 : decode cX3_watchUnit 38 = .ok (.getfield 11, 3) := by decide +kernel
theorem dX3_watchUnit_41 : decode cX3_watchUnit 41 = .ok (.iconst 0, 1) := by decide +kernel
theorem dX3_watchUnit_42 : decode cX3_watchUnit 42 = .ok (.aaload, 1) := by decide +kernel
theorem dX3_watchUnit_43 : decode cX3_watchUnit 43 = .ok (.getfield 122, 3) := by decide +kernel
theorem dX3_watchUnit_46 : decode cX3_watchUnit 46 = .ok (.iload 4, 2) := by decide +kernel
theorem dX3_watchUnit_48 : decode cX3_watchUnit 48 = .ok (.invokevirtual 126, 3) := by decide +kernel
theorem dX3_watchUnit_51 : decode cX3_watchUnit 51 = .ok (.isub, 1) := by decide +kernel
theorem dX3_watchUnit_52 : decode cX3_watchUnit 52 = .ok (.istore 5, 2) := by decide +kernel
theorem dX3_watchUnit_54 : decode cX3_watchUnit 54 = .ok (.aload_n 1, 1) := by decide +kernel
theorem dX3_watchUnit_55 : decode cX3_watchUnit 55 = .ok (.getfield 77, 3) := by decide +kernel
theorem dX3_watchUnit_58 : decode cX3_watchUnit 58 = .ok (.iload 5, 2) := by decide +kernel
theorem dX3_watchUnit_60 : decode cX3_watchUnit 60 = .ok (.aload_n 1, 1) := by decide +kernel
theorem dX3_watchUnit_61 : decode cX3_watchUnit 61 = .ok (.getfield 122, 3) := by decide +kernel
theorem dX3_watchUnit_64 : decode cX3_watchUnit 64 = .ok (.iload_n 3, 1) := by decide +kernel
theorem dX3_watchUnit_65 : decode cX3_watchUnit 65 = .ok (.invokevirtual 131, 3) := by decide +kernel
theorem dX3_watchUnit_68 : decode cX3_watchUnit 68 = .ok (.invokevirtual 134, 3) := by decide +kernel
theorem dX3_watchUnit_71 : decode cX3_watchUnit 71 = .ok (.aload_n 1, 1) := by decide +kernel
theorem dX3_watchUnit_72 : decode cX3_watchUnit 72 = .ok (.invokevirtual 137, 3) := by decide +kernel
theorem dX3_watchUnit_75 : decode cX3_watchUnit 75 = .ok (.ifCond .eq 51, 3) := by decide +kernel
theorem dX3_watchUnit_78 : decode cX3_watchUnit 78 = .ok (.aload_n 0, 1) := by decide +kernel
theorem dX3_watchUnit_79 : decode cX3_watchUnit 79 = .ok (.getfield 21, 3) := by decide +kernel
theorem dX3_watchUnit_82 : decode cX3_watchUnit 82 = .ok (.iconst 0, 1) := by decide +kernel
theorem dX3_watchUnit_83 : decode cX3_watchUnit 83 = .ok (.dup2, 1) := by decide +kernel
theorem dX3_watchUnit_84 : decode cX3_watchUnit 84 = .ok (.iaload, 1) := by decide +kernel
theorem dX3_watchUnit_85 : decode cX3_watchUnit 85 = .ok (.iconst 1, 1) := by decide +kernel
theorem dX3_watchUnit_86 : decode cX3_watchUnit 86 = .ok (.iadd, 1) := by decide +kernel
theorem dX3_watchUnit_87 : decode cX3_watchUnit 87 = .ok (.iastore, 1) := by decide +kernel
theorem dX3_watchUnit_88 : decode cX3_watchUnit 88 = .ok (.aload_n 1, 1) := by decide +kernel
theorem dX3_watchUnit_89 : decode cX3_watchUnit 89 = .ok (.getfield 77, 3) := by decide +kernel
theorem dX3_watchUnit_92 : decode cX3_watchUnit 92 = .ok (.getfield 141, 3) := by decide +kernel
theorem dX3_watchUnit_95 : decode cX3_watchUnit 95 = .ok (.iconst 2, 1) := by decide +kernel
theorem dX3_watchUnit_96 : decode cX3_watchUnit 96 = .ok (.if_icmp .ne 13, 3) := by decide +kernel
theorem dX3_watchUnit_99 : decode cX3_watchUnit 99 = .ok (.aload_n 0, 1) := by decide +kernel
theorem dX3_watchUnit_100 : decode cX3_watchUnit 100 = .ok (.getfield 21, 3) := by decide +kernel
theorem dX3_watchUnit_103 : decode cX3_watchUnit 103 = .ok (.iconst 1, 1) := by decide +kernel
theorem dX3_watchUnit_104 : decode cX3_watchUnit 104 = .ok (.dup2, 1) := by decide +kernel
theorem dX3_watchUnit_105 : decode cX3_watchUnit 105 = .ok (.iaload, 1) := by decide +kernel
theorem dX3_watchUnit_106 : decode cX3_watchUnit 106 = .ok (.iconst 1, 1) := by decide +kernel
theorem dX3_watchUnit_107 : decode cX3_watchUnit 107 = .ok (.iadd, 1) := by decide +kernel
theorem dX3_watchUnit_108 : decode cX3_watchUnit 108 = .ok (.iastore, 1) := by decide +kernel
theorem dX3_watchUnit_109 : decode cX3_watchUnit 109 = .ok (.aload_n 0, 1) := by decide +kernel
theorem dX3_watchUnit_110 : decode cX3_watchUnit 110 = .ok (.aload_n 1, 1) := by decide +kernel
theorem dX3_watchUnit_111 : decode cX3_watchUnit 111 = .ok (.aload_n 0, 1) := by decide +kernel
theorem dX3_watchUnit_112 : decode cX3_watchUnit 112 = .ok (.getfield 17, 3) := by decide +kernel
theorem dX3_watchUnit_115 : decode cX3_watchUnit 115 = .ok (.iload_n 3, 1) := by decide +kernel
theorem dX3_watchUnit_116 : decode cX3_watchUnit 116 = .ok (.bipush 127, 2) := by decide +kernel
theorem dX3_watchUnit_118 : decode cX3_watchUnit 118 = .ok (.iand, 1) := by decide +kernel
theorem dX3_watchUnit_119 : decode cX3_watchUnit 119 = .ok (.iaload, 1) := by decide +kernel
theorem dX3_watchUnit_120 : decode cX3_watchUnit 120 = .ok (.invokevirtual 144, 3) := by decide +kernel
theorem dX3_watchUnit_123 : decode cX3_watchUnit 123 = .ok (.goto 13, 3) := by decide +kernel
theorem dX3_watchUnit_126 : decode cX3_watchUnit 126 = .ok (.aload_n 0, 1) := by decide +kernel
theorem dX3_watchUnit_127 : decode cX3_watchUnit 127 = .ok (.getfield 21, 3) := by decide +kernel
theorem dX3_watchUnit_130 : decode cX3_watchUnit 130 = .ok (.iconst 2, 1) := by decide +kernel
theorem dX3_watchUnit_131 : decode cX3_watchUnit 131 = .ok (.dup2, 1) := by decide +kernel
theorem dX3_watchUnit_132 : decode cX3_watchUnit 132 = .ok (.iaload, 1) := by decide +kernel
theorem dX3_watchUnit_133 : decode cX3_watchUnit 133 = .ok (.iconst 1, 1) := by decide +kernel
theorem dX3_watchUnit_134 : decode cX3_watchUnit 134 = .ok (.iadd, 1) := by decide +kernel
theorem dX3_watchUnit_135 : decode cX3_watchUnit 135 = .ok (.iastore, 1) := by decide +kernel
theorem dX3_watchUnit_136 : decode cX3_watchUnit 136 = .ok (.return_, 1) := by decide +kernel
theorem dX3_control_0 : decode cX3_control 0 = .ok (.aload_n 1, 1) := by decide +kernel
theorem dX3_control_1 : decode cX3_control 1 = .ok (.iload_n 2, 1) := by decide +kernel
theorem dX3_control_2 : decode cX3_control 2 = .ok (.invokevirtual 147, 3) := by decide +kernel
theorem dX3_control_5 : decode cX3_control 5 = .ok (.ifCond .eq 13, 3) := by decide +kernel
theorem dX3_control_8 : decode cX3_control 8 = .ok (.aload_n 0, 1) := by decide +kernel
theorem dX3_control_9 : decode cX3_control 9 = .ok (.getfield 21, 3) := by decide +kernel
theorem dX3_control_12 : decode cX3_control 12 = .ok (.iconst 5, 1) := by decide +kernel
theorem dX3_control_13 : decode cX3_control 13 = .ok (.dup2, 1) := by decide +kernel
theorem dX3_control_14 : decode cX3_control 14 = .ok (.iaload, 1) := by decide +kernel
theorem dX3_control_15 : decode cX3_control 15 = .ok (.iconst 1, 1) := by decide +kernel
theorem dX3_control_16 : decode cX3_control 16 = .ok (.iadd, 1) := by decide +kernel
theorem dX3_control_17 : decode cX3_control 17 = .ok (.iastore, 1) := by decide +kernel
theorem dX3_control_18 : decode cX3_control 18 = .ok (.aload_n 1, 1) := by decide +kernel
theorem dX3_control_19 : decode cX3_control 19 = .ok (.invokevirtual 151, 3) := by decide +kernel
theorem dX3_control_22 : decode cX3_control 22 = .ok (.aload_n 1, 1) := by decide +kernel
theorem dX3_control_23 : decode cX3_control 23 = .ok (.getfield 154, 3) := by decide +kernel
theorem dX3_control_26 : decode cX3_control 26 = .ok (.getfield 158, 3) := by decide +kernel
theorem dX3_control_29 : decode cX3_control 29 = .ok (.ifCond .eq 4, 3) := by decide +kernel
theorem dX3_control_32 : decode cX3_control 32 = .ok (.return_, 1) := by decide +kernel
theorem dX3_control_33 : decode cX3_control 33 = .ok (.aload_n 1, 1) := by decide +kernel
theorem dX3_control_34 : decode cX3_control 34 = .ok (.aload_n 1, 1) := by decide +kernel
theorem dX3_control_35 : decode cX3_control 35 = .ok (.getfield 77, 3) := by decide +kernel
theorem dX3_control_38 : decode cX3_control 38 = .ok (.getfield 163, 3) := by decide +kernel
theorem dX3_control_41 : decode cX3_control 41 = .ok (.invokevirtual 166, 3) := by decide +kernel
theorem dX3_control_44 : decode cX3_control 44 = .ok (.istore_n 3, 1) := by decide +kernel
theorem dX3_control_45 : decode cX3_control 45 = .ok (.aload_n 1, 1) := by decide +kernel
theorem dX3_control_46 : decode cX3_control 46 = .ok (.aload_n 1, 1) := by decide +kernel
theorem dX3_control_47 : decode cX3_control 47 = .ok (.getfield 77, 3) := by decide +kernel
theorem dX3_control_50 : decode cX3_control 50 = .ok (.getfield 169, 3) := by decide +kernel
theorem dX3_control_53 : decode cX3_control 53 = .ok (.invokevirtual 166, 3) := by decide +kernel
theorem dX3_control_56 : decode cX3_control 56 = .ok (.istore 4, 2) := by decide +kernel
theorem dX3_control_58 : decode cX3_control 58 = .ok (.iload_n 3, 1) := by decide +kernel
theorem dX3_control_59 : decode cX3_control 59 = .ok (.ifCond .ne 9, 3) := by decide +kernel
theorem dX3_control_62 : decode cX3_control 62 = .ok (.iload 4, 2) := by decide +kernel
theorem dX3_control_64 : decode cX3_control 64 = .ok (.ifCond .ne 4, 3) := by decide +kernel
theorem dX3_control_67 : decode cX3_control 67 = .ok (.return_, 1) := by decide +kernel
theorem dX3_control_68 : decode cX3_control 68 = .ok (.aload_n 1, 1) := by decide +kernel
theorem dX3_control_69 : decode cX3_control 69 = .ok (.getfield 154, 3) := by decide +kernel
theorem dX3_control_72 : decode cX3_control 72 = .ok (.iload_n 3, 1) := by decide +kernel
theorem dX3_control_73 : decode cX3_control 73 = .ok (.ifCond .eq 10, 3) := by decide +kernel
theorem dX3_control_76 : decode cX3_control 76 = .ok (.aload_n 1, 1) := by decide +kernel
theorem dX3_control_77 : decode cX3_control 77 = .ok (.invokevirtual 172, 3) := by decide +kernel
theorem dX3_control_80 : decode cX3_control 80 = .ok (.goto 4, 3) := by decide +kernel
theorem dX3_control_83 : decode cX3_control 83 = .ok (.iconst 0, 1) := by decide +kernel
theorem dX3_control_84 : decode cX3_control 84 = .ok (.putfield 176, 3) := by decide +kernel
theorem dX3_control_87 : decode cX3_control 87 = .ok (.aload_n 1, 1) := by decide +kernel
theorem dX3_control_88 : decode cX3_control 88 = .ok (.getfield 154, 3) := by decide +kernel
theorem dX3_control_91 : decode cX3_control 91 = .ok (.iload 4, 2) := by decide +kernel
theorem dX3_control_93 : decode cX3_control 93 = .ok (.ifCond .eq 10, 3) := by decide +kernel
theorem dX3_control_96 : decode cX3_control 96 = .ok (.aload_n 1, 1) := by decide +kernel
theorem dX3_control_97 : decode cX3_control 97 = .ok (.invokevirtual 179, 3) := by decide +kernel
theorem dX3_control_100 : decode cX3_control 100 = .ok (.goto 4, 3) := by decide +kernel
theorem dX3_control_103 : decode cX3_control 103 = .ok (.iconst 0, 1) := by decide +kernel
theorem dX3_control_104 : decode cX3_control 104 = .ok (.putfield 182, 3) := by decide +kernel
theorem dX3_control_107 : decode cX3_control 107 = .ok (.aload_n 1, 1) := by decide +kernel
theorem dX3_control_108 : decode cX3_control 108 = .ok (.getfield 154, 3) := by decide +kernel
theorem dX3_control_111 : decode cX3_control 111 = .ok (.aload_n 1, 1) := by decide +kernel
theorem dX3_control_112 : decode cX3_control 112 = .ok (.iconst 1, 1) := by decide +kernel
theorem dX3_control_113 : decode cX3_control 113 = .ok (.invokevirtual 64, 3) := by decide +kernel
theorem dX3_control_116 : decode cX3_control 116 = .ok (.iconst 1, 1) := by decide +kernel
theorem dX3_control_117 : decode cX3_control 117 = .ok (.iadd, 1) := by decide +kernel
theorem dX3_control_118 : decode cX3_control 118 = .ok (.putfield 158, 3) := by decide +kernel
theorem dX3_control_121 : decode cX3_control 121 = .ok (.iload_n 3, 1) := by decide +kernel
theorem dX3_control_122 : decode cX3_control 122 = .ok (.ifCond .eq 13, 3) := by decide +kernel
theorem dX3_control_125 : decode cX3_control 125 = .ok (.aload_n 0, 1) := by decide +kernel
theorem dX3_control_126 : decode cX3_control 126 = .ok (.getfield 21, 3) := by decide +kernel
theorem dX3_control_129 : decode cX3_control 129 = .ok (.iconst 3, 1) := by decide +kernel
theorem dX3_control_130 : decode cX3_control 130 = .ok (.dup2, 1) := by decide +kernel
theorem dX3_control_131 : decode cX3_control 131 = .ok (.iaload, 1) := by decide +kernel
theorem dX3_control_132 : decode cX3_control 132 = .ok (.iconst 1, 1) := by decide +kernel
theorem dX3_control_133 : decode cX3_control 133 = .ok (.iadd, 1) := by decide +kernel
theorem dX3_control_134 : decode cX3_control 134 = .ok (.iastore, 1) := by decide +kernel
theorem dX3_control_135 : decode cX3_control 135 = .ok (.iload 4, 2) := by decide +kernel
theorem dX3_control_137 : decode cX3_control 137 = .ok (.ifCond .eq 13, 3) := by decide +kernel
theorem dX3_control_140 : decode cX3_control 140 = .ok (.aload_n 0, 1) := by decide +kernel
theorem dX3_control_141 : decode cX3_control 141 = .ok (.getfield 21, 3) := by decide +kernel
theorem dX3_control_144 : decode cX3_control 144 = .ok (.iconst 4, 1) := by decide +kernel
theorem dX3_control_145 : decode cX3_control 145 = .ok (.dup2, 1) := by decide +kernel
theorem dX3_control_146 : decode cX3_control 146 = .ok (.iaload, 1) := by decide +kernel
theorem dX3_control_147 : decode cX3_control 147 = .ok (.iconst 1, 1) := by decide +kernel
theorem dX3_control_148 : decode cX3_control 148 = .ok (.iadd, 1) := by decide +kernel
theorem dX3_control_149 : decode cX3_control 149 = .ok (.iastore, 1) := by decide +kernel
theorem dX3_control_150 : decode cX3_control 150 = .ok (.return_, 1) := by decide +kernel
theorem dX4_init_0 : decode cX4_init 0 = .ok (.aload_n 0, 1) := by decide +kernel
theorem dX4_init_1 : decode cX4_init 1 = .ok (.invokespecial 3, 3) := by decide +kernel
theorem dX4_init_4 : decode cX4_init 4 = .ok (.aload_n 0, 1) := by decide +kernel
theorem dX4_init_5 : decode cX4_init 5 = .ok (.sipush 128, 3) := by decide +kernel
theorem dX4_init_8 : decode cX4_init 8 = .ok (.newarray .int, 2) := by decide +kernel
theorem dX4_init_10 : decode cX4_init 10 = .ok (.putfield 9, 3) := by decide +kernel
theorem dX4_init_13 : decode cX4_init 13 = .ok (.aload_n 0, 1) := by decide +kernel
theorem dX4_init_14 : decode cX4_init 14 = .ok (.sipush 128, 3) := by decide +kernel
theorem dX4_init_17 : decode cX4_init 17 = .ok (.newarray .int, 2) := by decide +kernel
theorem dX4_init_19 : decode cX4_init 19 = .ok (.putfield 15, 3) := by decide +kernel
theorem dX4_init_22 : decode cX4_init 22 = .ok (.return_, 1) := by decide +kernel
theorem dX4_begin_0 : decode cX4_begin 0 = .ok (.aload_n 0, 1) := by decide +kernel
theorem dX4_begin_1 : decode cX4_begin 1 = .ok (.iconst 0, 1) := by decide +kernel
theorem dX4_begin_2 : decode cX4_begin 2 = .ok (.putfield 18, 3) := by decide +kernel
theorem dX4_begin_5 : decode cX4_begin 5 = .ok (.aload_n 0, 1) := by decide +kernel
theorem dX4_begin_6 : decode cX4_begin 6 = .ok (.iconst 0, 1) := by decide +kernel
theorem dX4_begin_7 : decode cX4_begin 7 = .ok (.putfield 22, 3) := by decide +kernel
theorem dX4_begin_10 : decode cX4_begin 10 = .ok (.aload_n 0, 1) := by decide +kernel
theorem dX4_begin_11 : decode cX4_begin 11 = .ok (.iconst 0, 1) := by decide +kernel
theorem dX4_begin_12 : decode cX4_begin 12 = .ok (.putfield 25, 3) := by decide +kernel
theorem dX4_begin_15 : decode cX4_begin 15 = .ok (.aload_n 0, 1) := by decide +kernel
theorem dX4_begin_16 : decode cX4_begin 16 = .ok (.iconst 0, 1) := by decide +kernel
theorem dX4_begin_17 : decode cX4_begin 17 = .ok (.putfield 28, 3) := by decide +kernel
theorem dX4_begin_20 : decode cX4_begin 20 = .ok (.aload_n 0, 1) := by decide +kernel
theorem dX4_begin_21 : decode cX4_begin 21 = .ok (.iconst 0, 1) := by decide +kernel
theorem dX4_begin_22 : decode cX4_begin 22 = .ok (.putfield 31, 3) := by decide +kernel
theorem dX4_begin_25 : decode cX4_begin 25 = .ok (.aload_n 0, 1) := by decide +kernel
theorem dX4_begin_26 : decode cX4_begin 26 = .ok (.iconst 0, 1) := by decide +kernel
theorem dX4_begin_27 : decode cX4_begin 27 = .ok (.putfield 34, 3) := by decide +kernel
theorem dX4_begin_30 : decode cX4_begin 30 = .ok (.return_, 1) := by decide +kernel
theorem dX4_copyFrom_0 : decode cX4_copyFrom 0 = .ok (.aload_n 1, 1) := by decide +kernel
theorem dX4_copyFrom_1 : decode cX4_copyFrom 1 = .ok (.getfield 9, 3) := by decide +kernel
theorem dX4_copyFrom_4 : decode cX4_copyFrom 4 = .ok (.iconst 0, 1) := by decide +kernel
theorem dX4_copyFrom_5 : decode cX4_copyFrom 5 = .ok (.aload_n 0, 1) := by decide +kernel
theorem dX4_copyFrom_6 : decode cX4_copyFrom 6 = .ok (.getfield 9, 3) := by decide +kernel
theorem dX4_copyFrom_9 : decode cX4_copyFrom 9 = .ok (.iconst 0, 1) := by decide +kernel
theorem dX4_copyFrom_10 : decode cX4_copyFrom 10 = .ok (.sipush 128, 3) := by decide +kernel
theorem dX4_copyFrom_13 : decode cX4_copyFrom 13 = .ok (.invokestatic 37, 3) := by decide +kernel
theorem dX4_copyFrom_16 : decode cX4_copyFrom 16 = .ok (.aload_n 1, 1) := by decide +kernel
theorem dX4_copyFrom_17 : decode cX4_copyFrom 17 = .ok (.getfield 15, 3) := by decide +kernel
theorem dX4_copyFrom_20 : decode cX4_copyFrom 20 = .ok (.iconst 0, 1) := by decide +kernel
theorem dX4_copyFrom_21 : decode cX4_copyFrom 21 = .ok (.aload_n 0, 1) := by decide +kernel
theorem dX4_copyFrom_22 : decode cX4_copyFrom 22 = .ok (.getfield 15, 3) := by decide +kernel
theorem dX4_copyFrom_25 : decode cX4_copyFrom 25 = .ok (.iconst 0, 1) := by decide +kernel
theorem dX4_copyFrom_26 : decode cX4_copyFrom 26 = .ok (.sipush 128, 3) := by decide +kernel
theorem dX4_copyFrom_29 : decode cX4_copyFrom 29 = .ok (.invokestatic 37, 3) := by decide +kernel
theorem dX4_copyFrom_32 : decode cX4_copyFrom 32 = .ok (.aload_n 0, 1) := by decide +kernel
theorem dX4_copyFrom_33 : decode cX4_copyFrom 33 = .ok (.aload_n 1, 1) := by decide +kernel
theorem dX4_copyFrom_34 : decode cX4_copyFrom 34 = .ok (.getfield 18, 3) := by decide +kernel
theorem dX4_copyFrom_37 : decode cX4_copyFrom 37 = .ok (.putfield 18, 3) := by decide +kernel
theorem dX4_copyFrom_40 : decode cX4_copyFrom 40 = .ok (.aload_n 0, 1) := by decide +kernel
theorem dX4_copyFrom_41 : decode cX4_copyFrom 41 = .ok (.aload_n 1, 1) := by decide +kernel
theorem dX4_copyFrom_42 : decode cX4_copyFrom 42 = .ok (.getfield 22, 3) := by decide +kernel
theorem dX4_copyFrom_45 : decode cX4_copyFrom 45 = .ok (.putfield 22, 3) := by decide +kernel
theorem dX4_copyFrom_48 : decode cX4_copyFrom 48 = .ok (.aload_n 0, 1) := by decide +kernel
theorem dX4_copyFrom_49 : decode cX4_copyFrom 49 = .ok (.aload_n 1, 1) := by decide +kernel
theorem dX4_copyFrom_50 : decode cX4_copyFrom 50 = .ok (.getfield 25, 3) := by decide +kernel
theorem dX4_copyFrom_53 : decode cX4_copyFrom 53 = .ok (.putfield 25, 3) := by decide +kernel
theorem dX4_copyFrom_56 : decode cX4_copyFrom 56 = .ok (.aload_n 0, 1) := by decide +kernel
theorem dX4_copyFrom_57 : decode cX4_copyFrom 57 = .ok (.aload_n 1, 1) := by decide +kernel
theorem dX4_copyFrom_58 : decode cX4_copyFrom 58 = .ok (.getfield 28, 3) := by decide +kernel
theorem dX4_copyFrom_61 : decode cX4_copyFrom 61 = .ok (.putfield 28, 3) := by decide +kernel
theorem dX4_copyFrom_64 : decode cX4_copyFrom 64 = .ok (.aload_n 0, 1) := by decide +kernel
theorem dX4_copyFrom_65 : decode cX4_copyFrom 65 = .ok (.aload_n 1, 1) := by decide +kernel
theorem dX4_copyFrom_66 : decode cX4_copyFrom 66 = .ok (.getfield 31, 3) := by decide +kernel
theorem dX4_copyFrom_69 : decode cX4_copyFrom 69 = .ok (.putfield 31, 3) := by decide +kernel
theorem dX4_copyFrom_72 : decode cX4_copyFrom 72 = .ok (.aload_n 0, 1) := by decide +kernel
theorem dX4_copyFrom_73 : decode cX4_copyFrom 73 = .ok (.aload_n 1, 1) := by decide +kernel
theorem dX4_copyFrom_74 : decode cX4_copyFrom 74 = .ok (.getfield 34, 3) := by decide +kernel
theorem dX4_copyFrom_77 : decode cX4_copyFrom 77 = .ok (.putfield 34, 3) := by decide +kernel
theorem dX4_copyFrom_80 : decode cX4_copyFrom 80 = .ok (.return_, 1) := by decide +kernel
theorem dX4_byHand_0 : decode cX4_byHand 0 = .ok (.iload_n 1, 1) := by decide +kernel
theorem dX4_byHand_1 : decode cX4_byHand 1 = .ok (.lookupswitch 37 #[(0, 27), (1, 32)], 27) := by decide +kernel
theorem dX4_byHand_28 : decode cX4_byHand 28 = .ok (.aload_n 0, 1) := by decide +kernel
theorem dX4_byHand_29 : decode cX4_byHand 29 = .ok (.getfield 18, 3) := by decide +kernel
theorem dX4_byHand_32 : decode cX4_byHand 32 = .ok (.ireturn, 1) := by decide +kernel
theorem dX4_byHand_33 : decode cX4_byHand 33 = .ok (.aload_n 0, 1) := by decide +kernel
theorem dX4_byHand_34 : decode cX4_byHand 34 = .ok (.getfield 22, 3) := by decide +kernel
theorem dX4_byHand_37 : decode cX4_byHand 37 = .ok (.ireturn, 1) := by decide +kernel
theorem dX4_byHand_38 : decode cX4_byHand 38 = .ok (.aload_n 0, 1) := by decide +kernel
theorem dX4_byHand_39 : decode cX4_byHand 39 = .ok (.getfield 25, 3) := by decide +kernel
theorem dX4_byHand_42 : decode cX4_byHand 42 = .ok (.ireturn, 1) := by decide +kernel
theorem dX4_changeByHand_0 : decode cX4_changeByHand 0 = .ok (.iload_n 1, 1) := by decide +kernel
theorem dX4_changeByHand_1 : decode cX4_changeByHand 1 = .ok (.lookupswitch 43 #[(0, 27), (1, 35)], 27) := by decide +kernel
theorem dX4_changeByHand_28 : decode cX4_changeByHand 28 = .ok (.aload_n 0, 1) := by decide +kernel
theorem dX4_changeByHand_29 : decode cX4_changeByHand 29 = .ok (.iload_n 2, 1) := by decide +kernel
theorem dX4_changeByHand_30 : decode cX4_changeByHand 30 = .ok (.putfield 18, 3) := by decide +kernel
theorem dX4_changeByHand_33 : decode cX4_changeByHand 33 = .ok (.goto 16, 3) := by decide +kernel
theorem dX4_changeByHand_36 : decode cX4_changeByHand 36 = .ok (.aload_n 0, 1) := by decide +kernel
theorem dX4_changeByHand_37 : decode cX4_changeByHand 37 = .ok (.iload_n 2, 1) := by decide +kernel
theorem dX4_changeByHand_38 : decode cX4_changeByHand 38 = .ok (.putfield 22, 3) := by decide +kernel
theorem dX4_changeByHand_41 : decode cX4_changeByHand 41 = .ok (.goto 8, 3) := by decide +kernel
theorem dX4_changeByHand_44 : decode cX4_changeByHand 44 = .ok (.aload_n 0, 1) := by decide +kernel
theorem dX4_changeByHand_45 : decode cX4_changeByHand 45 = .ok (.iload_n 2, 1) := by decide +kernel
theorem dX4_changeByHand_46 : decode cX4_changeByHand 46 = .ok (.putfield 25, 3) := by decide +kernel
theorem dX4_changeByHand_49 : decode cX4_changeByHand 49 = .ok (.return_, 1) := by decide +kernel
theorem dX4_beDisturbed_0 : decode cX4_beDisturbed 0 = .ok (.aload_n 0, 1) := by decide +kernel
theorem dX4_beDisturbed_1 : decode cX4_beDisturbed 1 = .ok (.iload_n 1, 1) := by decide +kernel
theorem dX4_beDisturbed_2 : decode cX4_beDisturbed 2 = .ok (.putfield 28, 3) := by decide +kernel
theorem dX4_beDisturbed_5 : decode cX4_beDisturbed 5 = .ok (.aload_n 0, 1) := by decide +kernel
theorem dX4_beDisturbed_6 : decode cX4_beDisturbed 6 = .ok (.iload_n 2, 1) := by decide +kernel
theorem dX4_beDisturbed_7 : decode cX4_beDisturbed 7 = .ok (.putfield 31, 3) := by decide +kernel
theorem dX4_beDisturbed_10 : decode cX4_beDisturbed 10 = .ok (.aload_n 0, 1) := by decide +kernel
theorem dX4_beDisturbed_11 : decode cX4_beDisturbed 11 = .ok (.iload_n 2, 1) := by decide +kernel
theorem dX4_beDisturbed_12 : decode cX4_beDisturbed 12 = .ok (.putfield 34, 3) := by decide +kernel
theorem dX4_beDisturbed_15 : decode cX4_beDisturbed 15 = .ok (.return_, 1) := by decide +kernel
theorem dX4_disturbance_0 : decode cX4_disturbance 0 = .ok (.aload_n 0, 1) := by decide +kernel
theorem dX4_disturbance_1 : decode cX4_disturbance 1 = .ok (.getfield 34, 3) := by decide +kernel
theorem dX4_disturbance_4 : decode cX4_disturbance 4 = .ok (.ifCond .le 10, 3) := by decide +kernel
theorem dX4_disturbance_7 : decode cX4_disturbance 7 = .ok (.aload_n 0, 1) := by decide +kernel
theorem dX4_disturbance_8 : decode cX4_disturbance 8 = .ok (.getfield 31, 3) := by decide +kernel
theorem dX4_disturbance_11 : decode cX4_disturbance 11 = .ok (.ifCond .gt 5, 3) := by decide +kernel
theorem dX4_disturbance_14 : decode cX4_disturbance 14 = .ok (.iconst 0, 1) := by decide +kernel
theorem dX4_disturbance_15 : decode cX4_disturbance 15 = .ok (.ireturn, 1) := by decide +kernel
theorem dX4_disturbance_16 : decode cX4_disturbance 16 = .ok (.aload_n 0, 1) := by decide +kernel
theorem dX4_disturbance_17 : decode cX4_disturbance 17 = .ok (.getfield 28, 3) := by decide +kernel
theorem dX4_disturbance_20 : decode cX4_disturbance 20 = .ok (.aload_n 0, 1) := by decide +kernel
theorem dX4_disturbance_21 : decode cX4_disturbance 21 = .ok (.getfield 34, 3) := by decide +kernel
theorem dX4_disturbance_24 : decode cX4_disturbance 24 = .ok (.imul, 1) := by decide +kernel
theorem dX4_disturbance_25 : decode cX4_disturbance 25 = .ok (.aload_n 0, 1) := by decide +kernel
theorem dX4_disturbance_26 : decode cX4_disturbance 26 = .ok (.getfield 31, 3) := by decide +kernel
theorem dX4_disturbance_29 : decode cX4_disturbance 29 = .ok (.idiv, 1) := by decide +kernel
theorem dX4_disturbance_30 : decode cX4_disturbance 30 = .ok (.ireturn, 1) := by decide +kernel
theorem dX4_printPiece_0 : decode cX4_printPiece 0 = .ok (.aload_n 0, 1) := by decide +kernel
theorem dX4_printPiece_1 : decode cX4_printPiece 1 = .ok (.getfield 9, 3) := by decide +kernel
theorem dX4_printPiece_4 : decode cX4_printPiece 4 = .ok (.iload_n 1, 1) := by decide +kernel
theorem dX4_printPiece_5 : decode cX4_printPiece 5 = .ok (.bipush 127, 2) := by decide +kernel
theorem dX4_printPiece_7 : decode cX4_printPiece 7 = .ok (.iand, 1) := by decide +kernel
theorem dX4_printPiece_8 : decode cX4_printPiece 8 = .ok (.aload_n 0, 1) := by decide +kernel
theorem dX4_printPiece_9 : decode cX4_printPiece 9 = .ok (.getfield 18, 3) := by decide +kernel
theorem dX4_printPiece_12 : decode cX4_printPiece 12 = .ok (.aload_n 0, 1) := by decide +kernel
theorem dX4_printPiece_13 : decode cX4_printPiece 13 = .ok (.invokevirtual 43, 3) := by decide +kernel
theorem dX4_printPiece_16 : decode cX4_printPiece 16 = .ok (.iadd, 1) := by decide +kernel
theorem dX4_printPiece_17 : decode cX4_printPiece 17 = .ok (.iload_n 2, 1) := by decide +kernel
theorem dX4_printPiece_18 : decode cX4_printPiece 18 = .ok (.iadd, 1) := by decide +kernel
theorem dX4_printPiece_19 : decode cX4_printPiece 19 = .ok (.iastore, 1) := by decide +kernel
theorem dX4_printPiece_20 : decode cX4_printPiece 20 = .ok (.aload_n 0, 1) := by decide +kernel
theorem dX4_printPiece_21 : decode cX4_printPiece 21 = .ok (.getfield 15, 3) := by decide +kernel
theorem dX4_printPiece_24 : decode cX4_printPiece 24 = .ok (.iload_n 1, 1) := by decide +kernel
theorem dX4_printPiece_25 : decode cX4_printPiece 25 = .ok (.bipush 127, 2) := by decide +kernel
theorem dX4_printPiece_27 : decode cX4_printPiece 27 = .ok (.iand, 1) := by decide +kernel
theorem dX4_printPiece_28 : decode cX4_printPiece 28 = .ok (.aload_n 0, 1) := by decide +kernel
theorem dX4_printPiece_29 : decode cX4_printPiece 29 = .ok (.getfield 25, 3) := by decide +kernel
theorem dX4_printPiece_32 : decode cX4_printPiece 32 = .ok (.aload_n 0, 1) := by decide +kernel
theorem dX4_printPiece_33 : decode cX4_printPiece 33 = .ok (.getfield 22, 3) := by decide +kernel
theorem dX4_printPiece_36 : decode cX4_printPiece 36 = .ok (.iadd, 1) := by decide +kernel
theorem dX4_printPiece_37 : decode cX4_printPiece 37 = .ok (.iastore, 1) := by decide +kernel
theorem dX4_printPiece_38 : decode cX4_printPiece 38 = .ok (.return_, 1) := by decide +kernel
theorem dX4_offsetAt_0 : decode cX4_offsetAt 0 = .ok (.aload_n 0, 1) := by decide +kernel
theorem dX4_offsetAt_1 : decode cX4_offsetAt 1 = .ok (.getfield 9, 3) := by decide +kernel
theorem dX4_offsetAt_4 : decode cX4_offsetAt 4 = .ok (.iload_n 1, 1) := by decide +kernel
theorem dX4_offsetAt_5 : decode cX4_offsetAt 5 = .ok (.bipush 127, 2) := by decide +kernel
theorem dX4_offsetAt_7 : decode cX4_offsetAt 7 = .ok (.iand, 1) := by decide +kernel
theorem dX4_offsetAt_8 : decode cX4_offsetAt 8 = .ok (.iaload, 1) := by decide +kernel
theorem dX4_offsetAt_9 : decode cX4_offsetAt 9 = .ok (.ireturn, 1) := by decide +kernel
theorem dX4_skewAt_0 : decode cX4_skewAt 0 = .ok (.aload_n 0, 1) := by decide +kernel
theorem dX4_skewAt_1 : decode cX4_skewAt 1 = .ok (.getfield 15, 3) := by decide +kernel
theorem dX4_skewAt_4 : decode cX4_skewAt 4 = .ok (.iload_n 1, 1) := by decide +kernel
theorem dX4_skewAt_5 : decode cX4_skewAt 5 = .ok (.bipush 127, 2) := by decide +kernel
theorem dX4_skewAt_7 : decode cX4_skewAt 7 = .ok (.iand, 1) := by decide +kernel
theorem dX4_skewAt_8 : decode cX4_skewAt 8 = .ok (.iaload, 1) := by decide +kernel
theorem dX4_skewAt_9 : decode cX4_skewAt 9 = .ok (.ireturn, 1) := by decide +kernel
theorem dX5_init_0 : decode cX5_init 0 = .ok (.aload_n 0, 1) := by decide +kernel
theorem dX5_init_1 : decode cX5_init 1 = .ok (.invokespecial 3, 3) := by decide +kernel
theorem dX5_init_4 : decode cX5_init 4 = .ok (.aload_n 0, 1) := by decide +kernel
theorem dX5_init_5 : decode cX5_init 5 = .ok (.new 9, 3) := by decide +kernel
theorem dX5_init_8 : decode cX5_init 8 = .ok (.dup, 1) := by decide +kernel
theorem dX5_init_9 : decode cX5_init 9 = .ok (.invokespecial 11, 3) := by decide +kernel
theorem dX5_init_12 : decode cX5_init 12 = .ok (.putfield 12, 3) := by decide +kernel
theorem dX5_init_15 : decode cX5_init 15 = .ok (.return_, 1) := by decide +kernel
theorem dX5_begin_0 : decode cX5_begin 0 = .ok (.aload_n 0, 1) := by decide +kernel
theorem dX5_begin_1 : decode cX5_begin 1 = .ok (.getfield 12, 3) := by decide +kernel
theorem dX5_begin_4 : decode cX5_begin 4 = .ok (.invokevirtual 18, 3) := by decide +kernel
theorem dX5_begin_7 : decode cX5_begin 7 = .ok (.aload_n 0, 1) := by decide +kernel
theorem dX5_begin_8 : decode cX5_begin 8 = .ok (.iconst 0, 1) := by decide +kernel
theorem dX5_begin_9 : decode cX5_begin 9 = .ok (.putfield 21, 3) := by decide +kernel
theorem dX5_begin_12 : decode cX5_begin 12 = .ok (.aload_n 0, 1) := by decide +kernel
theorem dX5_begin_13 : decode cX5_begin 13 = .ok (.iconst 0, 1) := by decide +kernel
theorem dX5_begin_14 : decode cX5_begin 14 = .ok (.putfield 25, 3) := by decide +kernel
theorem dX5_begin_17 : decode cX5_begin 17 = .ok (.aload_n 0, 1) := by decide +kernel
theorem dX5_begin_18 : decode cX5_begin 18 = .ok (.iconst 0, 1) := by decide +kernel
theorem dX5_begin_19 : decode cX5_begin 19 = .ok (.putfield 28, 3) := by decide +kernel
theorem dX5_begin_22 : decode cX5_begin 22 = .ok (.aload_n 0, 1) := by decide +kernel
theorem dX5_begin_23 : decode cX5_begin 23 = .ok (.invokevirtual 31, 3) := by decide +kernel
theorem dX5_begin_26 : decode cX5_begin 26 = .ok (.aload_n 0, 1) := by decide +kernel
theorem dX5_begin_27 : decode cX5_begin 27 = .ok (.iconst 0, 1) := by decide +kernel
theorem dX5_begin_28 : decode cX5_begin 28 = .ok (.putfield 34, 3) := by decide +kernel
theorem dX5_begin_31 : decode cX5_begin 31 = .ok (.aload_n 0, 1) := by decide +kernel
theorem dX5_begin_32 : decode cX5_begin 32 = .ok (.iconst 0, 1) := by decide +kernel
theorem dX5_begin_33 : decode cX5_begin 33 = .ok (.putfield 37, 3) := by decide +kernel
theorem dX5_begin_36 : decode cX5_begin 36 = .ok (.aload_n 0, 1) := by decide +kernel
theorem dX5_begin_37 : decode cX5_begin 37 = .ok (.iconst 0, 1) := by decide +kernel
theorem dX5_begin_38 : decode cX5_begin 38 = .ok (.putfield 40, 3) := by decide +kernel
theorem dX5_begin_41 : decode cX5_begin 41 = .ok (.aload_n 0, 1) := by decide +kernel
theorem dX5_begin_42 : decode cX5_begin 42 = .ok (.iconst 0, 1) := by decide +kernel
theorem dX5_begin_43 : decode cX5_begin 43 = .ok (.putfield 43, 3) := by decide +kernel
theorem dX5_begin_46 : decode cX5_begin 46 = .ok (.return_, 1) := by decide +kernel
theorem dX5_copyFrom_0 : decode cX5_copyFrom 0 = .ok (.aload_n 0, 1) := by decide +kernel
theorem dX5_copyFrom_1 : decode cX5_copyFrom 1 = .ok (.getfield 12, 3) := by decide +kernel
theorem dX5_copyFrom_4 : decode cX5_copyFrom 4 = .ok (.aload_n 1, 1) := by decide +kernel
theorem dX5_copyFrom_5 : decode cX5_copyFrom 5 = .ok (.getfield 12, 3) := by decide +kernel
theorem dX5_copyFrom_8 : decode cX5_copyFrom 8 = .ok (.invokevirtual 46, 3) := by decide +kernel
theorem dX5_copyFrom_11 : decode cX5_copyFrom 11 = .ok (.aload_n 0, 1) := by decide +kernel
theorem dX5_copyFrom_12 : decode cX5_copyFrom 12 = .ok (.aload_n 1, 1) := by decide +kernel
theorem dX5_copyFrom_13 : decode cX5_copyFrom 13 = .ok (.getfield 21, 3) := by decide +kernel
theorem dX5_copyFrom_16 : decode cX5_copyFrom 16 = .ok (.putfield 21, 3) := by decide +kernel
theorem dX5_copyFrom_19 : decode cX5_copyFrom 19 = .ok (.aload_n 0, 1) := by decide +kernel
theorem dX5_copyFrom_20 : decode cX5_copyFrom 20 = .ok (.aload_n 1, 1) := by decide +kernel
theorem dX5_copyFrom_21 : decode cX5_copyFrom 21 = .ok (.getfield 25, 3) := by decide +kernel
theorem dX5_copyFrom_24 : decode cX5_copyFrom 24 = .ok (.putfield 25, 3) := by decide +kernel
theorem dX5_copyFrom_27 : decode cX5_copyFrom 27 = .ok (.aload_n 0, 1) := by decide +kernel
theorem dX5_copyFrom_28 : decode cX5_copyFrom 28 = .ok (.aload_n 1, 1) := by decide +kernel
theorem dX5_copyFrom_29 : decode cX5_copyFrom 29 = .ok (.getfield 28, 3) := by decide +kernel
theorem dX5_copyFrom_32 : decode cX5_copyFrom 32 = .ok (.putfield 28, 3) := by decide +kernel
theorem dX5_copyFrom_35 : decode cX5_copyFrom 35 = .ok (.aload_n 0, 1) := by decide +kernel
theorem dX5_copyFrom_36 : decode cX5_copyFrom 36 = .ok (.aload_n 1, 1) := by decide +kernel
theorem dX5_copyFrom_37 : decode cX5_copyFrom 37 = .ok (.getfield 50, 3) := by decide +kernel
theorem dX5_copyFrom_40 : decode cX5_copyFrom 40 = .ok (.putfield 50, 3) := by decide +kernel
theorem dX5_copyFrom_43 : decode cX5_copyFrom 43 = .ok (.aload_n 0, 1) := by decide +kernel
theorem dX5_copyFrom_44 : decode cX5_copyFrom 44 = .ok (.aload_n 1, 1) := by decide +kernel
theorem dX5_copyFrom_45 : decode cX5_copyFrom 45 = .ok (.getfield 34, 3) := by decide +kernel
theorem dX5_copyFrom_48 : decode cX5_copyFrom 48 = .ok (.putfield 34, 3) := by decide +kernel
theorem dX5_copyFrom_51 : decode cX5_copyFrom 51 = .ok (.aload_n 0, 1) := by decide +kernel
theorem dX5_copyFrom_52 : decode cX5_copyFrom 52 = .ok (.aload_n 1, 1) := by decide +kernel
theorem dX5_copyFrom_53 : decode cX5_copyFrom 53 = .ok (.getfield 37, 3) := by decide +kernel
theorem dX5_copyFrom_56 : decode cX5_copyFrom 56 = .ok (.putfield 37, 3) := by decide +kernel
theorem dX5_copyFrom_59 : decode cX5_copyFrom 59 = .ok (.aload_n 0, 1) := by decide +kernel
theorem dX5_copyFrom_60 : decode cX5_copyFrom 60 = .ok (.aload_n 1, 1) := by decide +kernel
theorem dX5_copyFrom_61 : decode cX5_copyFrom 61 = .ok (.getfield 54, 3) := by decide +kernel
theorem dX5_copyFrom_64 : decode cX5_copyFrom 64 = .ok (.putfield 54, 3) := by decide +kernel
theorem dX5_copyFrom_67 : decode cX5_copyFrom 67 = .ok (.aload_n 0, 1) := by decide +kernel
theorem dX5_copyFrom_68 : decode cX5_copyFrom 68 = .ok (.aload_n 1, 1) := by decide +kernel
theorem dX5_copyFrom_69 : decode cX5_copyFrom 69 = .ok (.getfield 40, 3) := by decide +kernel
theorem dX5_copyFrom_72 : decode cX5_copyFrom 72 = .ok (.putfield 40, 3) := by decide +kernel
theorem dX5_copyFrom_75 : decode cX5_copyFrom 75 = .ok (.aload_n 0, 1) := by decide +kernel
theorem dX5_copyFrom_76 : decode cX5_copyFrom 76 = .ok (.aload_n 1, 1) := by decide +kernel
theorem dX5_copyFrom_77 : decode cX5_copyFrom 77 = .ok (.getfield 43, 3) := by decide +kernel
theorem dX5_copyFrom_80 : decode cX5_copyFrom 80 = .ok (.putfield 43, 3) := by decide +kernel
theorem dX5_copyFrom_83 : decode cX5_copyFrom 83 = .ok (.return_, 1) := by decide +kernel
theorem dX5_seeNothing_0 : decode cX5_seeNothing 0 = .ok (.aload_n 0, 1) := by decide +kernel
theorem dX5_seeNothing_1 : decode cX5_seeNothing 1 = .ok (.iconst 0, 1) := by decide +kernel
theorem dX5_seeNothing_2 : decode cX5_seeNothing 2 = .ok (.putfield 50, 3) := by decide +kernel
theorem dX5_seeNothing_5 : decode cX5_seeNothing 5 = .ok (.aload_n 0, 1) := by decide +kernel
theorem dX5_seeNothing_6 : decode cX5_seeNothing 6 = .ok (.iconst 0, 1) := by decide +kernel
theorem dX5_seeNothing_7 : decode cX5_seeNothing 7 = .ok (.putfield 54, 3) := by decide +kernel
theorem dX5_seeNothing_10 : decode cX5_seeNothing 10 = .ok (.return_, 1) := by decide +kernel
theorem dX5_seePiece_0 : decode cX5_seePiece 0 = .ok (.aload_n 0, 1) := by decide +kernel
theorem dX5_seePiece_1 : decode cX5_seePiece 1 = .ok (.iconst 1, 1) := by decide +kernel
theorem dX5_seePiece_2 : decode cX5_seePiece 2 = .ok (.putfield 50, 3) := by decide +kernel
theorem dX5_seePiece_5 : decode cX5_seePiece 5 = .ok (.aload_n 0, 1) := by decide +kernel
theorem dX5_seePiece_6 : decode cX5_seePiece 6 = .ok (.iconst 0, 1) := by decide +kernel
theorem dX5_seePiece_7 : decode cX5_seePiece 7 = .ok (.putfield 54, 3) := by decide +kernel
theorem dX5_seePiece_10 : decode cX5_seePiece 10 = .ok (.aload_n 0, 1) := by decide +kernel
theorem dX5_seePiece_11 : decode cX5_seePiece 11 = .ok (.iload_n 1, 1) := by decide +kernel
theorem dX5_seePiece_12 : decode cX5_seePiece 12 = .ok (.putfield 34, 3) := by decide +kernel
theorem dX5_seePiece_15 : decode cX5_seePiece 15 = .ok (.aload_n 0, 1) := by decide +kernel
theorem dX5_seePiece_16 : decode cX5_seePiece 16 = .ok (.iload_n 2, 1) := by decide +kernel
theorem dX5_seePiece_17 : decode cX5_seePiece 17 = .ok (.putfield 37, 3) := by decide +kernel
theorem dX5_seePiece_20 : decode cX5_seePiece 20 = .ok (.aload_n 0, 1) := by decide +kernel
theorem dX5_seePiece_21 : decode cX5_seePiece 21 = .ok (.getfield 12, 3) := by decide +kernel
theorem dX5_seePiece_24 : decode cX5_seePiece 24 = .ok (.iload_n 1, 1) := by decide +kernel
theorem dX5_seePiece_25 : decode cX5_seePiece 25 = .ok (.invokevirtual 57, 3) := by decide +kernel
theorem dX5_seePiece_28 : decode cX5_seePiece 28 = .ok (.return_, 1) := by decide +kernel
theorem dX5_recognizeNear_0 : decode cX5_recognizeNear 0 = .ok (.aload_n 0, 1) := by decide +kernel
theorem dX5_recognizeNear_1 : decode cX5_recognizeNear 1 = .ok (.getfield 34, 3) := by decide +kernel
theorem dX5_recognizeNear_4 : decode cX5_recognizeNear 4 = .ok (.iload_n 1, 1) := by decide +kernel
theorem dX5_recognizeNear_5 : decode cX5_recognizeNear 5 = .ok (.isub, 1) := by decide +kernel
theorem dX5_recognizeNear_6 : decode cX5_recognizeNear 6 = .ok (.invokestatic 61, 3) := by decide +kernel
theorem dX5_recognizeNear_9 : decode cX5_recognizeNear 9 = .ok (.istore 4, 2) := by decide +kernel
theorem dX5_recognizeNear_11 : decode cX5_recognizeNear 11 = .ok (.aload_n 0, 1) := by decide +kernel
theorem dX5_recognizeNear_12 : decode cX5_recognizeNear 12 = .ok (.getfield 25, 3) := by decide +kernel
theorem dX5_recognizeNear_15 : decode cX5_recognizeNear 15 = .ok (.iload_n 1, 1) := by decide +kernel
theorem dX5_recognizeNear_16 : decode cX5_recognizeNear 16 = .ok (.isub, 1) := by decide +kernel
theorem dX5_recognizeNear_17 : decode cX5_recognizeNear 17 = .ok (.invokestatic 61, 3) := by decide +kernel
theorem dX5_recognizeNear_20 : decode cX5_recognizeNear 20 = .ok (.istore 5, 2) := by decide +kernel
theorem dX5_recognizeNear_22 : decode cX5_recognizeNear 22 = .ok (.aload_n 0, 1) := by decide +kernel
theorem dX5_recognizeNear_23 : decode cX5_recognizeNear 23 = .ok (.getfield 21, 3) := by decide +kernel
theorem dX5_recognizeNear_26 : decode cX5_recognizeNear 26 = .ok (.ifCond .ne 13, 3) := by decide +kernel
theorem dX5_recognizeNear_29 : decode cX5_recognizeNear 29 = .ok (.iload 4, 2) := by decide +kernel
theorem dX5_recognizeNear_31 : decode cX5_recognizeNear 31 = .ok (.iload_n 3, 1) := by decide +kernel
theorem dX5_recognizeNear_32 : decode cX5_recognizeNear 32 = .ok (.if_icmp .gt 7, 3) := by decide +kernel
theorem dX5_recognizeNear_35 : decode cX5_recognizeNear 35 = .ok (.iconst 1, 1) := by decide +kernel
theorem dX5_recognizeNear_36 : decode cX5_recognizeNear 36 = .ok (.goto 4, 3) := by decide +kernel
theorem dX5_recognizeNear_39 : decode cX5_recognizeNear 39 = .ok (.iconst 0, 1) := by decide +kernel
theorem dX5_recognizeNear_40 : decode cX5_recognizeNear 40 = .ok (.istore 6, 2) := by decide +kernel
theorem dX5_recognizeNear_42 : decode cX5_recognizeNear 42 = .ok (.aload_n 0, 1) := by decide +kernel
theorem dX5_recognizeNear_43 : decode cX5_recognizeNear 43 = .ok (.getfield 28, 3) := by decide +kernel
theorem dX5_recognizeNear_46 : decode cX5_recognizeNear 46 = .ok (.ifCond .le 13, 3) := by decide +kernel
theorem dX5_recognizeNear_49 : decode cX5_recognizeNear 49 = .ok (.iload 5, 2) := by decide +kernel
theorem dX5_recognizeNear_51 : decode cX5_recognizeNear 51 = .ok (.iload_n 3, 1) := by decide +kernel
theorem dX5_recognizeNear_52 : decode cX5_recognizeNear 52 = .ok (.if_icmp .gt 7, 3) := by decide +kernel
theorem dX5_recognizeNear_55 : decode cX5_recognizeNear 55 = .ok (.iconst 1, 1) := by decide +kernel
theorem dX5_recognizeNear_56 : decode cX5_recognizeNear 56 = .ok (.goto 4, 3) := by decide +kernel
theorem dX5_recognizeNear_59 : decode cX5_recognizeNear 59 = .ok (.iconst 0, 1) := by decide +kernel
theorem dX5_recognizeNear_60 : decode cX5_recognizeNear 60 = .ok (.istore 7, 2) := by decide +kernel
theorem dX5_recognizeNear_62 : decode cX5_recognizeNear 62 = .ok (.iload 6, 2) := by decide +kernel
theorem dX5_recognizeNear_64 : decode cX5_recognizeNear 64 = .ok (.ifCond .eq 39, 3) := by decide +kernel
theorem dX5_recognizeNear_67 : decode cX5_recognizeNear 67 = .ok (.iload 7, 2) := by decide +kernel
theorem dX5_recognizeNear_69 : decode cX5_recognizeNear 69 = .ok (.ifCond .eq 10, 3) := by decide +kernel
theorem dX5_recognizeNear_72 : decode cX5_recognizeNear 72 = .ok (.iload 4, 2) := by decide +kernel
theorem dX5_recognizeNear_74 : decode cX5_recognizeNear 74 = .ok (.iload 5, 2) := by decide +kernel
theorem dX5_recognizeNear_76 : decode cX5_recognizeNear 76 = .ok (.if_icmp .gt 27, 3) := by decide +kernel
theorem dX5_recognizeNear_79 : decode cX5_recognizeNear 79 = .ok (.aload_n 0, 1) := by decide +kernel
theorem dX5_recognizeNear_80 : decode cX5_recognizeNear 80 = .ok (.iconst 1, 1) := by decide +kernel
theorem dX5_recognizeNear_81 : decode cX5_recognizeNear 81 = .ok (.putfield 54, 3) := by decide +kernel
theorem dX5_recognizeNear_84 : decode cX5_recognizeNear 84 = .ok (.aload_n 0, 1) := by decide +kernel
theorem dX5_recognizeNear_85 : decode cX5_recognizeNear 85 = .ok (.aload_n 0, 1) := by decide +kernel
theorem dX5_recognizeNear_86 : decode cX5_recognizeNear 86 = .ok (.getfield 34, 3) := by decide +kernel
theorem dX5_recognizeNear_89 : decode cX5_recognizeNear 89 = .ok (.putfield 40, 3) := by decide +kernel
theorem dX5_recognizeNear_92 : decode cX5_recognizeNear 92 = .ok (.aload_n 0, 1) := by decide +kernel
theorem dX5_recognizeNear_93 : decode cX5_recognizeNear 93 = .ok (.aload_n 0, 1) := by decide +kernel
theorem dX5_recognizeNear_94 : decode cX5_recognizeNear 94 = .ok (.getfield 37, 3) := by decide +kernel
theorem dX5_recognizeNear_97 : decode cX5_recognizeNear 97 = .ok (.putfield 43, 3) := by decide +kernel
theorem dX5_recognizeNear_100 : decode cX5_recognizeNear 100 = .ok (.goto 26, 3) := by decide +kernel
theorem dX5_recognizeNear_103 : decode cX5_recognizeNear 103 = .ok (.iload 7, 2) := by decide +kernel
theorem dX5_recognizeNear_105 : decode cX5_recognizeNear 105 = .ok (.ifCond .eq 21, 3) := by decide +kernel
theorem dX5_recognizeNear_108 : decode cX5_recognizeNear 108 = .ok (.aload_n 0, 1) := by decide +kernel
theorem dX5_recognizeNear_109 : decode cX5_recognizeNear 109 = .ok (.iconst 2, 1) := by decide +kernel
theorem dX5_recognizeNear_110 : decode cX5_recognizeNear 110 = .ok (.putfield 54, 3) := by decide +kernel
theorem dX5_recognizeNear_113 : decode cX5_recognizeNear 113 = .ok (.aload_n 0, 1) := by decide +kernel
theorem dX5_recognizeNear_114 : decode cX5_recognizeNear 114 = .ok (.aload_n 0, 1) := by decide +kernel
theorem dX5_recognizeNear_115 : decode cX5_recognizeNear 115 = .ok (.getfield 25, 3) := by decide +kernel
theorem dX5_recognizeNear_118 : decode cX5_recognizeNear 118 = .ok (.putfield 40, 3) := by decide +kernel
theorem dX5_recognizeNear_121 : decode cX5_recognizeNear 121 = .ok (.aload_n 0, 1) := by decide +kernel
theorem dX5_recognizeNear_122 : decode cX5_recognizeNear 122 = .ok (.iload_n 2, 1) := by decide +kernel
theorem dX5_recognizeNear_123 : decode cX5_recognizeNear 123 = .ok (.putfield 43, 3) := by decide +kernel
theorem dX5_recognizeNear_126 : decode cX5_recognizeNear 126 = .ok (.return_, 1) := by decide +kernel
theorem dX5_sight_0 : decode cX5_sight 0 = .ok (.iload_n 1, 1) := by decide +kernel
theorem dX5_sight_1 : decode cX5_sight 1 = .ok (.tableswitch 51 2 5 #[31, 36, 41, 46], 31) := by decide +kernel
theorem dX5_sight_32 : decode cX5_sight 32 = .ok (.aload_n 0, 1) := by decide +kernel
theorem dX5_sight_33 : decode cX5_sight 33 = .ok (.getfield 34, 3) := by decide +kernel
theorem dX5_sight_36 : decode cX5_sight 36 = .ok (.ireturn, 1) := by decide +kernel
theorem dX5_sight_37 : decode cX5_sight 37 = .ok (.aload_n 0, 1) := by decide +kernel
theorem dX5_sight_38 : decode cX5_sight 38 = .ok (.getfield 37, 3) := by decide +kernel
theorem dX5_sight_41 : decode cX5_sight 41 = .ok (.ireturn, 1) := by decide +kernel
theorem dX5_sight_42 : decode cX5_sight 42 = .ok (.aload_n 0, 1) := by decide +kernel
theorem dX5_sight_43 : decode cX5_sight 43 = .ok (.getfield 54, 3) := by decide +kernel
theorem dX5_sight_46 : decode cX5_sight 46 = .ok (.ireturn, 1) := by decide +kernel
theorem dX5_sight_47 : decode cX5_sight 47 = .ok (.aload_n 0, 1) := by decide +kernel
theorem dX5_sight_48 : decode cX5_sight 48 = .ok (.getfield 40, 3) := by decide +kernel
theorem dX5_sight_51 : decode cX5_sight 51 = .ok (.ireturn, 1) := by decide +kernel
theorem dX5_sight_52 : decode cX5_sight 52 = .ok (.aload_n 0, 1) := by decide +kernel
theorem dX5_sight_53 : decode cX5_sight 53 = .ok (.getfield 43, 3) := by decide +kernel
theorem dX5_sight_56 : decode cX5_sight 56 = .ok (.ireturn, 1) := by decide +kernel
theorem dX6_init_0 : decode cX6_init 0 = .ok (.aload_n 0, 1) := by decide +kernel
theorem dX6_init_1 : decode cX6_init 1 = .ok (.invokespecial 1, 3) := by decide +kernel
theorem dX6_init_4 : decode cX6_init 4 = .ok (.aload_n 0, 1) := by decide +kernel
theorem dX6_init_5 : decode cX6_init 5 = .ok (.new 7, 3) := by decide +kernel
theorem dX6_init_8 : decode cX6_init 8 = .ok (.dup, 1) := by decide +kernel
theorem dX6_init_9 : decode cX6_init 9 = .ok (.invokespecial 9, 3) := by decide +kernel
theorem dX6_init_12 : decode cX6_init 12 = .ok (.putfield 10, 3) := by decide +kernel
theorem dX6_init_15 : decode cX6_init 15 = .ok (.return_, 1) := by decide +kernel
theorem dX7_init_0 : decode cX7_init 0 = .ok (.aload_n 0, 1) := by decide +kernel
theorem dX7_init_1 : decode cX7_init 1 = .ok (.invokespecial 3, 3) := by decide +kernel
theorem dX7_init_4 : decode cX7_init 4 = .ok (.aload_n 0, 1) := by decide +kernel
theorem dX7_init_5 : decode cX7_init 5 = .ok (.bipush 11, 2) := by decide +kernel
theorem dX7_init_7 : decode cX7_init 7 = .ok (.newarray .int, 2) := by decide +kernel
theorem dX7_init_9 : decode cX7_init 9 = .ok (.putfield 9, 3) := by decide +kernel
theorem dX7_init_12 : decode cX7_init 12 = .ok (.aload_n 0, 1) := by decide +kernel
theorem dX7_init_13 : decode cX7_init 13 = .ok (.new 15, 3) := by decide +kernel
theorem dX7_init_16 : decode cX7_init 16 = .ok (.dup, 1) := by decide +kernel
theorem dX7_init_17 : decode cX7_init 17 = .ok (.invokespecial 17, 3) := by decide +kernel
theorem dX7_init_20 : decode cX7_init 20 = .ok (.putfield 18, 3) := by decide +kernel
theorem dX7_init_23 : decode cX7_init 23 = .ok (.aload_n 0, 1) := by decide +kernel
theorem dX7_init_24 : decode cX7_init 24 = .ok (.new 22, 3) := by decide +kernel
theorem dX7_init_27 : decode cX7_init 27 = .ok (.dup, 1) := by decide +kernel
theorem dX7_init_28 : decode cX7_init 28 = .ok (.invokespecial 24, 3) := by decide +kernel
theorem dX7_init_31 : decode cX7_init 31 = .ok (.putfield 25, 3) := by decide +kernel
theorem dX7_init_34 : decode cX7_init 34 = .ok (.aload_n 0, 1) := by decide +kernel
theorem dX7_init_35 : decode cX7_init 35 = .ok (.new 29, 3) := by decide +kernel
theorem dX7_init_38 : decode cX7_init 38 = .ok (.dup, 1) := by decide +kernel
theorem dX7_init_39 : decode cX7_init 39 = .ok (.invokespecial 31, 3) := by decide +kernel
theorem dX7_init_42 : decode cX7_init 42 = .ok (.putfield 32, 3) := by decide +kernel
theorem dX7_init_45 : decode cX7_init 45 = .ok (.return_, 1) := by decide +kernel
theorem dX7_begin_0 : decode cX7_begin 0 = .ok (.iconst 0, 1) := by decide +kernel
theorem dX7_begin_1 : decode cX7_begin 1 = .ok (.istore_n 1, 1) := by decide +kernel
theorem dX7_begin_2 : decode cX7_begin 2 = .ok (.iload_n 1, 1) := by decide +kernel
theorem dX7_begin_3 : decode cX7_begin 3 = .ok (.bipush 11, 2) := by decide +kernel
theorem dX7_begin_5 : decode cX7_begin 5 = .ok (.if_icmp .ge 20, 3) := by decide +kernel
theorem dX7_begin_8 : decode cX7_begin 8 = .ok (.aload_n 0, 1) := by decide +kernel
theorem dX7_begin_9 : decode cX7_begin 9 = .ok (.getfield 9, 3) := by decide +kernel
theorem dX7_begin_12 : decode cX7_begin 12 = .ok (.iload_n 1, 1) := by decide +kernel
theorem dX7_begin_13 : decode cX7_begin 13 = .ok (.getstatic 36, 3) := by decide +kernel
theorem dX7_begin_16 : decode cX7_begin 16 = .ok (.iload_n 1, 1) := by decide +kernel
theorem dX7_begin_17 : decode cX7_begin 17 = .ok (.iaload, 1) := by decide +kernel
theorem dX7_begin_18 : decode cX7_begin 18 = .ok (.iastore, 1) := by decide +kernel
theorem dX7_begin_19 : decode cX7_begin 19 = .ok (.iinc 1 1, 3) := by decide +kernel
theorem dX7_begin_22 : decode cX7_begin 22 = .ok (.goto (-20), 3) := by decide +kernel
theorem dX7_begin_25 : decode cX7_begin 25 = .ok (.aload_n 0, 1) := by decide +kernel
theorem dX7_begin_26 : decode cX7_begin 26 = .ok (.getfield 18, 3) := by decide +kernel
theorem dX7_begin_29 : decode cX7_begin 29 = .ok (.invokevirtual 39, 3) := by decide +kernel
theorem dX7_begin_32 : decode cX7_begin 32 = .ok (.aload_n 0, 1) := by decide +kernel
theorem dX7_begin_33 : decode cX7_begin 33 = .ok (.getfield 25, 3) := by decide +kernel
theorem dX7_begin_36 : decode cX7_begin 36 = .ok (.invokevirtual 42, 3) := by decide +kernel
theorem dX7_begin_39 : decode cX7_begin 39 = .ok (.aload_n 0, 1) := by decide +kernel
theorem dX7_begin_40 : decode cX7_begin 40 = .ok (.getfield 32, 3) := by decide +kernel
theorem dX7_begin_43 : decode cX7_begin 43 = .ok (.invokevirtual 45, 3) := by decide +kernel
theorem dX7_begin_46 : decode cX7_begin 46 = .ok (.return_, 1) := by decide +kernel
theorem dX7_copyFrom_0 : decode cX7_copyFrom 0 = .ok (.aload_n 1, 1) := by decide +kernel
theorem dX7_copyFrom_1 : decode cX7_copyFrom 1 = .ok (.getfield 9, 3) := by decide +kernel
theorem dX7_copyFrom_4 : decode cX7_copyFrom 4 = .ok (.iconst 0, 1) := by decide +kernel
theorem dX7_copyFrom_5 : decode cX7_copyFrom 5 = .ok (.aload_n 0, 1) := by decide +kernel
theorem dX7_copyFrom_6 : decode cX7_copyFrom 6 = .ok (.getfield 9, 3) := by decide +kernel
theorem dX7_copyFrom_9 : decode cX7_copyFrom 9 = .ok (.iconst 0, 1) := by decide +kernel
theorem dX7_copyFrom_10 : decode cX7_copyFrom 10 = .ok (.bipush 11, 2) := by decide +kernel
theorem dX7_copyFrom_12 : decode cX7_copyFrom 12 = .ok (.invokestatic 46, 3) := by decide +kernel
theorem dX7_copyFrom_15 : decode cX7_copyFrom 15 = .ok (.aload_n 0, 1) := by decide +kernel
theorem dX7_copyFrom_16 : decode cX7_copyFrom 16 = .ok (.getfield 18, 3) := by decide +kernel
theorem dX7_copyFrom_19 : decode cX7_copyFrom 19 = .ok (.aload_n 1, 1) := by decide +kernel
theorem dX7_copyFrom_20 : decode cX7_copyFrom 20 = .ok (.getfield 18, 3) := by decide +kernel
theorem dX7_copyFrom_23 : decode cX7_copyFrom 23 = .ok (.invokevirtual 52, 3) := by decide +kernel
theorem dX7_copyFrom_26 : decode cX7_copyFrom 26 = .ok (.aload_n 0, 1) := by decide +kernel
theorem dX7_copyFrom_27 : decode cX7_copyFrom 27 = .ok (.getfield 25, 3) := by decide +kernel
theorem dX7_copyFrom_30 : decode cX7_copyFrom 30 = .ok (.aload_n 1, 1) := by decide +kernel
theorem dX7_copyFrom_31 : decode cX7_copyFrom 31 = .ok (.getfield 25, 3) := by decide +kernel
theorem dX7_copyFrom_34 : decode cX7_copyFrom 34 = .ok (.invokevirtual 56, 3) := by decide +kernel
theorem dX7_copyFrom_37 : decode cX7_copyFrom 37 = .ok (.aload_n 0, 1) := by decide +kernel
theorem dX7_copyFrom_38 : decode cX7_copyFrom 38 = .ok (.getfield 32, 3) := by decide +kernel
theorem dX7_copyFrom_41 : decode cX7_copyFrom 41 = .ok (.aload_n 1, 1) := by decide +kernel
theorem dX7_copyFrom_42 : decode cX7_copyFrom 42 = .ok (.getfield 32, 3) := by decide +kernel
theorem dX7_copyFrom_45 : decode cX7_copyFrom 45 = .ok (.invokevirtual 59, 3) := by decide +kernel
theorem dX7_copyFrom_48 : decode cX7_copyFrom 48 = .ok (.return_, 1) := by decide +kernel
theorem dX7_setting_0 : decode cX7_setting 0 = .ok (.iload_n 1, 1) := by decide +kernel
theorem dX7_setting_1 : decode cX7_setting 1 = .ok (.ifCond .lt 18, 3) := by decide +kernel
theorem dX7_setting_4 : decode cX7_setting 4 = .ok (.iload_n 1, 1) := by decide +kernel
theorem dX7_setting_5 : decode cX7_setting 5 = .ok (.bipush 11, 2) := by decide +kernel
theorem dX7_setting_7 : decode cX7_setting 7 = .ok (.if_icmp .ge 12, 3) := by decide +kernel
theorem dX7_setting_10 : decode cX7_setting 10 = .ok (.aload_n 0, 1) := by decide +kernel
theorem dX7_setting_11 : decode cX7_setting 11 = .ok (.getfield 9, 3) := by decide +kernel
theorem dX7_setting_14 : decode cX7_setting 14 = .ok (.iload_n 1, 1) := by decide +kernel
theorem dX7_setting_15 : decode cX7_setting 15 = .ok (.iaload, 1) := by decide +kernel
theorem dX7_setting_16 : decode cX7_setting 16 = .ok (.goto 4, 3) := by decide +kernel
theorem dX7_setting_19 : decode cX7_setting 19 = .ok (.iconst 0, 1) := by decide +kernel
theorem dX7_setting_20 : decode cX7_setting 20 = .ok (.ireturn, 1) := by decide +kernel
theorem dX7_changeSetting_0 : decode cX7_changeSetting 0 = .ok (.iload_n 1, 1) := by decide +kernel
theorem dX7_changeSetting_1 : decode cX7_changeSetting 1 = .ok (.ifCond .lt 16, 3) := by decide +kernel
theorem dX7_changeSetting_4 : decode cX7_changeSetting 4 = .ok (.iload_n 1, 1) := by decide +kernel
theorem dX7_changeSetting_5 : decode cX7_changeSetting 5 = .ok (.bipush 11, 2) := by decide +kernel
theorem dX7_changeSetting_7 : decode cX7_changeSetting 7 = .ok (.if_icmp .ge 10, 3) := by decide +kernel
theorem dX7_changeSetting_10 : decode cX7_changeSetting 10 = .ok (.aload_n 0, 1) := by decide +kernel
theorem dX7_changeSetting_11 : decode cX7_changeSetting 11 = .ok (.getfield 9, 3) := by decide +kernel
theorem dX7_changeSetting_14 : decode cX7_changeSetting 14 = .ok (.iload_n 1, 1) := by decide +kernel
theorem dX7_changeSetting_15 : decode cX7_changeSetting 15 = .ok (.iload_n 2, 1) := by decide +kernel
theorem dX7_changeSetting_16 : decode cX7_changeSetting 16 = .ok (.iastore, 1) := by decide +kernel
theorem dX7_changeSetting_17 : decode cX7_changeSetting 17 = .ok (.return_, 1) := by decide +kernel
theorem dX7_beSpliced_0 : decode cX7_beSpliced 0 = .ok (.aload_n 0, 1) := by decide +kernel
theorem dX7_beSpliced_1 : decode cX7_beSpliced 1 = .ok (.getfield 18, 3) := by decide +kernel
theorem dX7_beSpliced_4 : decode cX7_beSpliced 4 = .ok (.iload_n 1, 1) := by decide +kernel
theorem dX7_beSpliced_5 : decode cX7_beSpliced 5 = .ok (.iload_n 2, 1) := by decide +kernel
theorem dX7_beSpliced_6 : decode cX7_beSpliced 6 = .ok (.invokevirtual 62, 3) := by decide +kernel
theorem dX7_beSpliced_9 : decode cX7_beSpliced 9 = .ok (.aload_n 0, 1) := by decide +kernel
theorem dX7_beSpliced_10 : decode cX7_beSpliced 10 = .ok (.getfield 25, 3) := by decide +kernel
theorem dX7_beSpliced_13 : decode cX7_beSpliced 13 = .ok (.iconst 0, 1) := by decide +kernel
theorem dX7_beSpliced_14 : decode cX7_beSpliced 14 = .ok (.putfield 66, 3) := by decide +kernel
theorem dX7_beSpliced_17 : decode cX7_beSpliced 17 = .ok (.aload_n 0, 1) := by decide +kernel
theorem dX7_beSpliced_18 : decode cX7_beSpliced 18 = .ok (.getfield 25, 3) := by decide +kernel
theorem dX7_beSpliced_21 : decode cX7_beSpliced 21 = .ok (.aload_n 0, 1) := by decide +kernel
theorem dX7_beSpliced_22 : decode cX7_beSpliced 22 = .ok (.iconst 1, 1) := by decide +kernel
theorem dX7_beSpliced_23 : decode cX7_beSpliced 23 = .ok (.invokevirtual 70, 3) := by decide +kernel
theorem dX7_beSpliced_26 : decode cX7_beSpliced 26 = .ok (.aload_n 0, 1) := by decide +kernel
theorem dX7_beSpliced_27 : decode cX7_beSpliced 27 = .ok (.bipush 9, 2) := by decide +kernel
theorem dX7_beSpliced_29 : decode cX7_beSpliced 29 = .ok (.invokevirtual 70, 3) := by decide +kernel
theorem dX7_beSpliced_32 : decode cX7_beSpliced 32 = .ok (.iadd, 1) := by decide +kernel
theorem dX7_beSpliced_33 : decode cX7_beSpliced 33 = .ok (.putfield 74, 3) := by decide +kernel
theorem dX7_beSpliced_36 : decode cX7_beSpliced 36 = .ok (.return_, 1) := by decide +kernel
theorem dX7_printPiece_0 : decode cX7_printPiece 0 = .ok (.aload_n 0, 1) := by decide +kernel
theorem dX7_printPiece_1 : decode cX7_printPiece 1 = .ok (.getfield 18, 3) := by decide +kernel
theorem dX7_printPiece_4 : decode cX7_printPiece 4 = .ok (.iload_n 1, 1) := by decide +kernel
theorem dX7_printPiece_5 : decode cX7_printPiece 5 = .ok (.aload_n 0, 1) := by decide +kernel
theorem dX7_printPiece_6 : decode cX7_printPiece 6 = .ok (.bipush 10, 2) := by decide +kernel
theorem dX7_printPiece_8 : decode cX7_printPiece 8 = .ok (.invokevirtual 70, 3) := by decide +kernel
theorem dX7_printPiece_11 : decode cX7_printPiece 11 = .ok (.aload_n 0, 1) := by decide +kernel
theorem dX7_printPiece_12 : decode cX7_printPiece 12 = .ok (.getfield 25, 3) := by decide +kernel
theorem dX7_printPiece_15 : decode cX7_printPiece 15 = .ok (.getfield 77, 3) := by decide +kernel
theorem dX7_printPiece_18 : decode cX7_printPiece 18 = .ok (.isub, 1) := by decide +kernel
theorem dX7_printPiece_19 : decode cX7_printPiece 19 = .ok (.iload_n 2, 1) := by decide +kernel
theorem dX7_printPiece_20 : decode cX7_printPiece 20 = .ok (.imul, 1) := by decide +kernel
theorem dX7_printPiece_21 : decode cX7_printPiece 21 = .ok (.bipush 100, 2) := by decide +kernel
theorem dX7_printPiece_23 : decode cX7_printPiece 23 = .ok (.idiv, 1) := by decide +kernel
theorem dX7_printPiece_24 : decode cX7_printPiece 24 = .ok (.invokevirtual 80, 3) := by decide +kernel
theorem dX7_printPiece_27 : decode cX7_printPiece 27 = .ok (.return_, 1) := by decide +kernel
theorem dX7_recognizeMark_0 : decode cX7_recognizeMark 0 = .ok (.aload_n 0, 1) := by decide +kernel
theorem dX7_recognizeMark_1 : decode cX7_recognizeMark 1 = .ok (.getfield 32, 3) := by decide +kernel
theorem dX7_recognizeMark_4 : decode cX7_recognizeMark 4 = .ok (.aload_n 0, 1) := by decide +kernel
theorem dX7_recognizeMark_5 : decode cX7_recognizeMark 5 = .ok (.getfield 25, 3) := by decide +kernel
theorem dX7_recognizeMark_8 : decode cX7_recognizeMark 8 = .ok (.getfield 83, 3) := by decide +kernel
theorem dX7_recognizeMark_11 : decode cX7_recognizeMark 11 = .ok (.aload_n 0, 1) := by decide +kernel
theorem dX7_recognizeMark_12 : decode cX7_recognizeMark 12 = .ok (.getfield 25, 3) := by decide +kernel
theorem dX7_recognizeMark_15 : decode cX7_recognizeMark 15 = .ok (.getfield 86, 3) := by decide +kernel
theorem dX7_recognizeMark_18 : decode cX7_recognizeMark 18 = .ok (.aload_n 0, 1) := by decide +kernel
theorem dX7_recognizeMark_19 : decode cX7_recognizeMark 19 = .ok (.invokevirtual 89, 3) := by decide +kernel
theorem dX7_recognizeMark_22 : decode cX7_recognizeMark 22 = .ok (.invokevirtual 93, 3) := by decide +kernel
theorem dX7_recognizeMark_25 : decode cX7_recognizeMark 25 = .ok (.aload_n 0, 1) := by decide +kernel
theorem dX7_recognizeMark_26 : decode cX7_recognizeMark 26 = .ok (.getfield 32, 3) := by decide +kernel
theorem dX7_recognizeMark_29 : decode cX7_recognizeMark 29 = .ok (.getfield 97, 3) := by decide +kernel
theorem dX7_recognizeMark_32 : decode cX7_recognizeMark 32 = .ok (.ifCond .eq 7, 3) := by decide +kernel
theorem dX7_recognizeMark_35 : decode cX7_recognizeMark 35 = .ok (.iconst 1, 1) := by decide +kernel
theorem dX7_recognizeMark_36 : decode cX7_recognizeMark 36 = .ok (.goto 4, 3) := by decide +kernel
theorem dX7_recognizeMark_39 : decode cX7_recognizeMark 39 = .ok (.iconst 0, 1) := by decide +kernel
theorem dX7_recognizeMark_40 : decode cX7_recognizeMark 40 = .ok (.istore_n 1, 1) := by decide +kernel
theorem dX7_recognizeMark_41 : decode cX7_recognizeMark 41 = .ok (.aload_n 0, 1) := by decide +kernel
theorem dX7_recognizeMark_42 : decode cX7_recognizeMark 42 = .ok (.getfield 25, 3) := by decide +kernel
theorem dX7_recognizeMark_45 : decode cX7_recognizeMark 45 = .ok (.iload_n 1, 1) := by decide +kernel
theorem dX7_recognizeMark_46 : decode cX7_recognizeMark 46 = .ok (.ifCond .eq 7, 3) := by decide +kernel
theorem dX7_recognizeMark_49 : decode cX7_recognizeMark 49 = .ok (.iconst 0, 1) := by decide +kernel
theorem dX7_recognizeMark_50 : decode cX7_recognizeMark 50 = .ok (.goto 12, 3) := by decide +kernel
theorem dX7_recognizeMark_53 : decode cX7_recognizeMark 53 = .ok (.aload_n 0, 1) := by decide +kernel
theorem dX7_recognizeMark_54 : decode cX7_recognizeMark 54 = .ok (.getfield 25, 3) := by decide +kernel
theorem dX7_recognizeMark_57 : decode cX7_recognizeMark 57 = .ok (.getfield 100, 3) := by decide +kernel
theorem dX7_recognizeMark_60 : decode cX7_recognizeMark 60 = .ok (.iconst 1, 1) := by decide +kernel
theorem dX7_recognizeMark_61 : decode cX7_recognizeMark 61 = .ok (.iadd, 1) := by decide +kernel
theorem dX7_recognizeMark_62 : decode cX7_recognizeMark 62 = .ok (.putfield 100, 3) := by decide +kernel
theorem dX7_recognizeMark_65 : decode cX7_recognizeMark 65 = .ok (.iload_n 1, 1) := by decide +kernel
theorem dX7_recognizeMark_66 : decode cX7_recognizeMark 66 = .ok (.ireturn, 1) := by decide +kernel
theorem dX7_window_0 : decode cX7_window 0 = .ok (.aload_n 0, 1) := by decide +kernel
theorem dX7_window_1 : decode cX7_window 1 = .ok (.getfield 25, 3) := by decide +kernel
theorem dX7_window_4 : decode cX7_window 4 = .ok (.getfield 100, 3) := by decide +kernel
theorem dX7_window_7 : decode cX7_window 7 = .ok (.aload_n 0, 1) := by decide +kernel
theorem dX7_window_8 : decode cX7_window 8 = .ok (.iconst 3, 1) := by decide +kernel
theorem dX7_window_9 : decode cX7_window 9 = .ok (.invokevirtual 70, 3) := by decide +kernel
theorem dX7_window_12 : decode cX7_window 12 = .ok (.if_icmp .ge 13, 3) := by decide +kernel
theorem dX7_window_15 : decode cX7_window 15 = .ok (.aload_n 0, 1) := by decide +kernel
theorem dX7_window_16 : decode cX7_window 16 = .ok (.getfield 25, 3) := by decide +kernel
theorem dX7_window_19 : decode cX7_window 19 = .ok (.getfield 74, 3) := by decide +kernel
theorem dX7_window_22 : decode cX7_window 22 = .ok (.ifCond .le 7, 3) := by decide +kernel
theorem dX7_window_25 : decode cX7_window 25 = .ok (.iconst 1, 1) := by decide +kernel
theorem dX7_window_26 : decode cX7_window 26 = .ok (.goto 4, 3) := by decide +kernel
theorem dX7_window_29 : decode cX7_window 29 = .ok (.iconst 0, 1) := by decide +kernel
theorem dX7_window_30 : decode cX7_window 30 = .ok (.istore_n 1, 1) := by decide +kernel
theorem dX7_window_31 : decode cX7_window 31 = .ok (.iload_n 1, 1) := by decide +kernel
theorem dX7_window_32 : decode cX7_window 32 = .ok (.ifCond .eq 13, 3) := by decide +kernel
theorem dX7_window_35 : decode cX7_window 35 = .ok (.iconst 4, 1) := by decide +kernel
theorem dX7_window_36 : decode cX7_window 36 = .ok (.aload_n 0, 1) := by decide +kernel
theorem dX7_window_37 : decode cX7_window 37 = .ok (.iconst 2, 1) := by decide +kernel
theorem dX7_window_38 : decode cX7_window 38 = .ok (.invokevirtual 70, 3) := by decide +kernel
theorem dX7_window_41 : decode cX7_window 41 = .ok (.imul, 1) := by decide +kernel
theorem dX7_window_42 : decode cX7_window 42 = .ok (.goto 8, 3) := by decide +kernel
theorem dX7_window_45 : decode cX7_window 45 = .ok (.aload_n 0, 1) := by decide +kernel
theorem dX7_window_46 : decode cX7_window 46 = .ok (.iconst 2, 1) := by decide +kernel
theorem dX7_window_47 : decode cX7_window 47 = .ok (.invokevirtual 70, 3) := by decide +kernel
theorem dX7_window_50 : decode cX7_window 50 = .ok (.ireturn, 1) := by decide +kernel
theorem dX7_learnFrom_0 : decode cX7_learnFrom 0 = .ok (.iload_n 1, 1) := by decide +kernel
theorem dX7_learnFrom_1 : decode cX7_learnFrom 1 = .ok (.invokestatic 103, 3) := by decide +kernel
theorem dX7_learnFrom_4 : decode cX7_learnFrom 4 = .ok (.bipush 10, 2) := by decide +kernel
theorem dX7_learnFrom_6 : decode cX7_learnFrom 6 = .ok (.if_icmp .lt 16, 3) := by decide +kernel
theorem dX7_learnFrom_9 : decode cX7_learnFrom 9 = .ok (.iload_n 1, 1) := by decide +kernel
theorem dX7_learnFrom_10 : decode cX7_learnFrom 10 = .ok (.ifCond .eq 12, 3) := by decide +kernel
theorem dX7_learnFrom_13 : decode cX7_learnFrom 13 = .ok (.aload_n 0, 1) := by decide +kernel
theorem dX7_learnFrom_14 : decode cX7_learnFrom 14 = .ok (.bipush 8, 2) := by decide +kernel
theorem dX7_learnFrom_16 : decode cX7_learnFrom 16 = .ok (.invokevirtual 70, 3) := by decide +kernel
theorem dX7_learnFrom_19 : decode cX7_learnFrom 19 = .ok (.ifCond .gt 5, 3) := by decide +kernel
theorem dX7_learnFrom_22 : decode cX7_learnFrom 22 = .ok (.iconst 0, 1) := by decide +kernel
theorem dX7_learnFrom_23 : decode cX7_learnFrom 23 = .ok (.ireturn, 1) := by decide +kernel
theorem dX7_learnFrom_24 : decode cX7_learnFrom 24 = .ok (.aload_n 0, 1) := by decide +kernel
theorem dX7_learnFrom_25 : decode cX7_learnFrom 25 = .ok (.getfield 32, 3) := by decide +kernel
theorem dX7_learnFrom_28 : decode cX7_learnFrom 28 = .ok (.getfield 108, 3) := by decide +kernel
theorem dX7_learnFrom_31 : decode cX7_learnFrom 31 = .ok (.aload_n 0, 1) := by decide +kernel
theorem dX7_learnFrom_32 : decode cX7_learnFrom 32 = .ok (.getfield 25, 3) := by decide +kernel
theorem dX7_learnFrom_35 : decode cX7_learnFrom 35 = .ok (.getfield 83, 3) := by decide +kernel
theorem dX7_learnFrom_38 : decode cX7_learnFrom 38 = .ok (.isub, 1) := by decide +kernel
theorem dX7_learnFrom_39 : decode cX7_learnFrom 39 = .ok (.istore_n 2, 1) := by decide +kernel
theorem dX7_learnFrom_40 : decode cX7_learnFrom 40 = .ok (.aload_n 0, 1) := by decide +kernel
theorem dX7_learnFrom_41 : decode cX7_learnFrom 41 = .ok (.getfield 25, 3) := by decide +kernel
theorem dX7_learnFrom_44 : decode cX7_learnFrom 44 = .ok (.getfield 77, 3) := by decide +kernel
theorem dX7_learnFrom_47 : decode cX7_learnFrom 47 = .ok (.iload_n 2, 1) := by decide +kernel
theorem dX7_learnFrom_48 : decode cX7_learnFrom 48 = .ok (.bipush 100, 2) := by decide +kernel
theorem dX7_learnFrom_50 : decode cX7_learnFrom 50 = .ok (.imul, 1) := by decide +kernel
theorem dX7_learnFrom_51 : decode cX7_learnFrom 51 = .ok (.iload_n 1, 1) := by decide +kernel
theorem dX7_learnFrom_52 : decode cX7_learnFrom 52 = .ok (.idiv, 1) := by decide +kernel
theorem dX7_learnFrom_53 : decode cX7_learnFrom 53 = .ok (.aload_n 0, 1) := by decide +kernel
theorem dX7_learnFrom_54 : decode cX7_learnFrom 54 = .ok (.bipush 8, 2) := by decide +kernel
theorem dX7_learnFrom_56 : decode cX7_learnFrom 56 = .ok (.invokevirtual 70, 3) := by decide +kernel
theorem dX7_learnFrom_59 : decode cX7_learnFrom 59 = .ok (.imul, 1) := by decide +kernel
theorem dX7_learnFrom_60 : decode cX7_learnFrom 60 = .ok (.sipush 256, 3) := by decide +kernel
theorem dX7_learnFrom_63 : decode cX7_learnFrom 63 = .ok (.idiv, 1) := by decide +kernel
theorem dX7_learnFrom_64 : decode cX7_learnFrom 64 = .ok (.iadd, 1) := by decide +kernel
theorem dX7_learnFrom_65 : decode cX7_learnFrom 65 = .ok (.istore_n 3, 1) := by decide +kernel
theorem dX7_learnFrom_66 : decode cX7_learnFrom 66 = .ok (.aload_n 0, 1) := by decide +kernel
theorem dX7_learnFrom_67 : decode cX7_learnFrom 67 = .ok (.getfield 25, 3) := by decide +kernel
theorem dX7_learnFrom_70 : decode cX7_learnFrom 70 = .ok (.iload_n 3, 1) := by decide +kernel
theorem dX7_learnFrom_71 : decode cX7_learnFrom 71 = .ok (.sipush 500, 3) := by decide +kernel
theorem dX7_learnFrom_74 : decode cX7_learnFrom 74 = .ok (.invokestatic 111, 3) := by decide +kernel
theorem dX7_learnFrom_77 : decode cX7_learnFrom 77 = .ok (.putfield 77, 3) := by decide +kernel
theorem dX7_learnFrom_80 : decode cX7_learnFrom 80 = .ok (.iconst 1, 1) := by decide +kernel
theorem dX7_learnFrom_81 : decode cX7_learnFrom 81 = .ok (.ireturn, 1) := by decide +kernel
theorem dX7_expectAsMeasured_0 : decode cX7_expectAsMeasured 0 = .ok (.aload_n 0, 1) := by decide +kernel
theorem dX7_expectAsMeasured_1 : decode cX7_expectAsMeasured 1 = .ok (.getfield 25, 3) := by decide +kernel
theorem dX7_expectAsMeasured_4 : decode cX7_expectAsMeasured 4 = .ok (.aload_n 0, 1) := by decide +kernel
theorem dX7_expectAsMeasured_5 : decode cX7_expectAsMeasured 5 = .ok (.getfield 32, 3) := by decide +kernel
theorem dX7_expectAsMeasured_8 : decode cX7_expectAsMeasured 8 = .ok (.getfield 108, 3) := by decide +kernel
theorem dX7_expectAsMeasured_11 : decode cX7_expectAsMeasured 11 = .ok (.putfield 83, 3) := by decide +kernel
theorem dX7_expectAsMeasured_14 : decode cX7_expectAsMeasured 14 = .ok (.aload_n 0, 1) := by decide +kernel
theorem dX7_expectAsMeasured_15 : decode cX7_expectAsMeasured 15 = .ok (.getfield 25, 3) := by decide +kernel
theorem dX7_expectAsMeasured_18 : decode cX7_expectAsMeasured 18 = .ok (.aload_n 0, 1) := by decide +kernel
theorem dX7_expectAsMeasured_19 : decode cX7_expectAsMeasured 19 = .ok (.getfield 32, 3) := by decide +kernel
theorem dX7_expectAsMeasured_22 : decode cX7_expectAsMeasured 22 = .ok (.getfield 115, 3) := by decide +kernel
theorem dX7_expectAsMeasured_25 : decode cX7_expectAsMeasured 25 = .ok (.putfield 86, 3) := by decide +kernel
theorem dX7_expectAsMeasured_28 : decode cX7_expectAsMeasured 28 = .ok (.return_, 1) := by decide +kernel
theorem dX7_isOff_0 : decode cX7_isOff 0 = .ok (.iload_n 1, 1) := by decide +kernel
theorem dX7_isOff_1 : decode cX7_isOff 1 = .ok (.invokestatic 103, 3) := by decide +kernel
theorem dX7_isOff_4 : decode cX7_isOff 4 = .ok (.aload_n 0, 1) := by decide +kernel
theorem dX7_isOff_5 : decode cX7_isOff 5 = .ok (.bipush 6, 2) := by decide +kernel
theorem dX7_isOff_7 : decode cX7_isOff 7 = .ok (.invokevirtual 70, 3) := by decide +kernel
theorem dX7_isOff_10 : decode cX7_isOff 10 = .ok (.if_icmp .le 7, 3) := by decide +kernel
theorem dX7_isOff_13 : decode cX7_isOff 13 = .ok (.iconst 1, 1) := by decide +kernel
theorem dX7_isOff_14 : decode cX7_isOff 14 = .ok (.goto 4, 3) := by decide +kernel
theorem dX7_isOff_17 : decode cX7_isOff 17 = .ok (.iconst 0, 1) := by decide +kernel
theorem dX7_isOff_18 : decode cX7_isOff 18 = .ok (.ireturn, 1) := by decide +kernel
theorem dX7_correctPhase_0 : decode cX7_correctPhase 0 = .ok (.aload_n 0, 1) := by decide +kernel
theorem dX7_correctPhase_1 : decode cX7_correctPhase 1 = .ok (.getfield 32, 3) := by decide +kernel
theorem dX7_correctPhase_4 : decode cX7_correctPhase 4 = .ok (.getfield 108, 3) := by decide +kernel
theorem dX7_correctPhase_7 : decode cX7_correctPhase 7 = .ok (.istore_n 1, 1) := by decide +kernel
theorem dX7_correctPhase_8 : decode cX7_correctPhase 8 = .ok (.aload_n 0, 1) := by decide +kernel
theorem dX7_correctPhase_9 : decode cX7_correctPhase 9 = .ok (.getfield 25, 3) := by decide +kernel
theorem dX7_correctPhase_12 : decode cX7_correctPhase 12 = .ok (.aload_n 0, 1) := by decide +kernel
theorem dX7_correctPhase_13 : decode cX7_correctPhase 13 = .ok (.getfield 25, 3) := by decide +kernel
theorem dX7_correctPhase_16 : decode cX7_correctPhase 16 = .ok (.getfield 66, 3) := by decide +kernel
theorem dX7_correctPhase_19 : decode cX7_correctPhase 19 = .ok (.iload_n 1, 1) := by decide +kernel
theorem dX7_correctPhase_20 : decode cX7_correctPhase 20 = .ok (.iadd, 1) := by decide +kernel
theorem dX7_correctPhase_21 : decode cX7_correctPhase 21 = .ok (.sipush 20000, 3) := by decide +kernel
theorem dX7_correctPhase_24 : decode cX7_correctPhase 24 = .ok (.invokestatic 111, 3) := by decide +kernel
theorem dX7_correctPhase_27 : decode cX7_correctPhase 27 = .ok (.putfield 66, 3) := by decide +kernel
theorem dX7_correctPhase_30 : decode cX7_correctPhase 30 = .ok (.aload_n 0, 1) := by decide +kernel
theorem dX7_correctPhase_31 : decode cX7_correctPhase 31 = .ok (.iconst 4, 1) := by decide +kernel
theorem dX7_correctPhase_32 : decode cX7_correctPhase 32 = .ok (.invokevirtual 70, 3) := by decide +kernel
theorem dX7_correctPhase_35 : decode cX7_correctPhase 35 = .ok (.iload_n 1, 1) := by decide +kernel
theorem dX7_correctPhase_36 : decode cX7_correctPhase 36 = .ok (.imul, 1) := by decide +kernel
theorem dX7_correctPhase_37 : decode cX7_correctPhase 37 = .ok (.aload_n 0, 1) := by decide +kernel
theorem dX7_correctPhase_38 : decode cX7_correctPhase 38 = .ok (.iconst 5, 1) := by decide +kernel
theorem dX7_correctPhase_39 : decode cX7_correctPhase 39 = .ok (.invokevirtual 70, 3) := by decide +kernel
theorem dX7_correctPhase_42 : decode cX7_correctPhase 42 = .ok (.aload_n 0, 1) := by decide +kernel
theorem dX7_correctPhase_43 : decode cX7_correctPhase 43 = .ok (.getfield 25, 3) := by decide +kernel
theorem dX7_correctPhase_46 : decode cX7_correctPhase 46 = .ok (.getfield 66, 3) := by decide +kernel
theorem dX7_correctPhase_49 : decode cX7_correctPhase 49 = .ok (.imul, 1) := by decide +kernel
theorem dX7_correctPhase_50 : decode cX7_correctPhase 50 = .ok (.iadd, 1) := by decide +kernel
theorem dX7_correctPhase_51 : decode cX7_correctPhase 51 = .ok (.ineg, 1) := by decide +kernel
theorem dX7_correctPhase_52 : decode cX7_correctPhase 52 = .ok (.sipush 256, 3) := by decide +kernel
theorem dX7_correctPhase_55 : decode cX7_correctPhase 55 = .ok (.idiv, 1) := by decide +kernel
theorem dX7_correctPhase_56 : decode cX7_correctPhase 56 = .ok (.istore_n 2, 1) := by decide +kernel
theorem dX7_correctPhase_57 : decode cX7_correctPhase 57 = .ok (.aload_n 0, 1) := by decide +kernel
theorem dX7_correctPhase_58 : decode cX7_correctPhase 58 = .ok (.getfield 18, 3) := by decide +kernel
theorem dX7_correctPhase_61 : decode cX7_correctPhase 61 = .ok (.getfield 118, 3) := by decide +kernel
theorem dX7_correctPhase_64 : decode cX7_correctPhase 64 = .ok (.istore_n 3, 1) := by decide +kernel
theorem dX7_correctPhase_65 : decode cX7_correctPhase 65 = .ok (.aload_n 0, 1) := by decide +kernel
theorem dX7_correctPhase_66 : decode cX7_correctPhase 66 = .ok (.getfield 18, 3) := by decide +kernel
theorem dX7_correctPhase_69 : decode cX7_correctPhase 69 = .ok (.iload_n 3, 1) := by decide +kernel
theorem dX7_correctPhase_70 : decode cX7_correctPhase 70 = .ok (.iload_n 2, 1) := by decide +kernel
theorem dX7_correctPhase_71 : decode cX7_correctPhase 71 = .ok (.aload_n 0, 1) := by decide +kernel
theorem dX7_correctPhase_72 : decode cX7_correctPhase 72 = .ok (.bipush 7, 2) := by decide +kernel
theorem dX7_correctPhase_74 : decode cX7_correctPhase 74 = .ok (.invokevirtual 70, 3) := by decide +kernel
theorem dX7_correctPhase_77 : decode cX7_correctPhase 77 = .ok (.invokestatic 111, 3) := by decide +kernel
theorem dX7_correctPhase_80 : decode cX7_correctPhase 80 = .ok (.iadd, 1) := by decide +kernel
theorem dX7_correctPhase_81 : decode cX7_correctPhase 81 = .ok (.sipush 5000, 3) := by decide +kernel
theorem dX7_correctPhase_84 : decode cX7_correctPhase 84 = .ok (.invokestatic 111, 3) := by decide +kernel
theorem dX7_correctPhase_87 : decode cX7_correctPhase 87 = .ok (.putfield 118, 3) := by decide +kernel
theorem dX7_correctPhase_90 : decode cX7_correctPhase 90 = .ok (.aload_n 0, 1) := by decide +kernel
theorem dX7_correctPhase_91 : decode cX7_correctPhase 91 = .ok (.getfield 18, 3) := by decide +kernel
theorem dX7_correctPhase_94 : decode cX7_correctPhase 94 = .ok (.getfield 118, 3) := by decide +kernel
theorem dX7_correctPhase_97 : decode cX7_correctPhase 97 = .ok (.iload_n 3, 1) := by decide +kernel
theorem dX7_correctPhase_98 : decode cX7_correctPhase 98 = .ok (.isub, 1) := by decide +kernel
theorem dX7_correctPhase_99 : decode cX7_correctPhase 99 = .ok (.ireturn, 1) := by decide +kernel
theorem dX7_correctSkew_0 : decode cX7_correctSkew 0 = .ok (.aload_n 0, 1) := by decide +kernel
theorem dX7_correctSkew_1 : decode cX7_correctSkew 1 = .ok (.iconst 4, 1) := by decide +kernel
theorem dX7_correctSkew_2 : decode cX7_correctSkew 2 = .ok (.invokevirtual 70, 3) := by decide +kernel
theorem dX7_correctSkew_5 : decode cX7_correctSkew 5 = .ok (.aload_n 0, 1) := by decide +kernel
theorem dX7_correctSkew_6 : decode cX7_correctSkew 6 = .ok (.getfield 32, 3) := by decide +kernel
theorem dX7_correctSkew_9 : decode cX7_correctSkew 9 = .ok (.getfield 115, 3) := by decide +kernel
theorem dX7_correctSkew_12 : decode cX7_correctSkew 12 = .ok (.imul, 1) := by decide +kernel
theorem dX7_correctSkew_13 : decode cX7_correctSkew 13 = .ok (.ineg, 1) := by decide +kernel
theorem dX7_correctSkew_14 : decode cX7_correctSkew 14 = .ok (.sipush 256, 3) := by decide +kernel
theorem dX7_correctSkew_17 : decode cX7_correctSkew 17 = .ok (.idiv, 1) := by decide +kernel
theorem dX7_correctSkew_18 : decode cX7_correctSkew 18 = .ok (.istore_n 1, 1) := by decide +kernel
theorem dX7_correctSkew_19 : decode cX7_correctSkew 19 = .ok (.aload_n 0, 1) := by decide +kernel
theorem dX7_correctSkew_20 : decode cX7_correctSkew 20 = .ok (.getfield 18, 3) := by decide +kernel
theorem dX7_correctSkew_23 : decode cX7_correctSkew 23 = .ok (.getfield 121, 3) := by decide +kernel
theorem dX7_correctSkew_26 : decode cX7_correctSkew 26 = .ok (.istore_n 2, 1) := by decide +kernel
theorem dX7_correctSkew_27 : decode cX7_correctSkew 27 = .ok (.aload_n 0, 1) := by decide +kernel
theorem dX7_correctSkew_28 : decode cX7_correctSkew 28 = .ok (.getfield 18, 3) := by decide +kernel
theorem dX7_correctSkew_31 : decode cX7_correctSkew 31 = .ok (.iload_n 2, 1) := by decide +kernel
theorem dX7_correctSkew_32 : decode cX7_correctSkew 32 = .ok (.iload_n 1, 1) := by decide +kernel
theorem dX7_correctSkew_33 : decode cX7_correctSkew 33 = .ok (.aload_n 0, 1) := by decide +kernel
theorem dX7_correctSkew_34 : decode cX7_correctSkew 34 = .ok (.bipush 7, 2) := by decide +kernel
theorem dX7_correctSkew_36 : decode cX7_correctSkew 36 = .ok (.invokevirtual 70, 3) := by decide +kernel
theorem dX7_correctSkew_39 : decode cX7_correctSkew 39 = .ok (.invokestatic 111, 3) := by decide +kernel
theorem dX7_correctSkew_42 : decode cX7_correctSkew 42 = .ok (.iadd, 1) := by decide +kernel
theorem dX7_correctSkew_43 : decode cX7_correctSkew 43 = .ok (.sipush 3000, 3) := by decide +kernel
theorem dX7_correctSkew_46 : decode cX7_correctSkew 46 = .ok (.invokestatic 111, 3) := by decide +kernel
theorem dX7_correctSkew_49 : decode cX7_correctSkew 49 = .ok (.putfield 121, 3) := by decide +kernel
theorem dX7_correctSkew_52 : decode cX7_correctSkew 52 = .ok (.aload_n 0, 1) := by decide +kernel
theorem dX7_correctSkew_53 : decode cX7_correctSkew 53 = .ok (.getfield 18, 3) := by decide +kernel
theorem dX7_correctSkew_56 : decode cX7_correctSkew 56 = .ok (.getfield 121, 3) := by decide +kernel
theorem dX7_correctSkew_59 : decode cX7_correctSkew 59 = .ok (.iload_n 2, 1) := by decide +kernel
theorem dX7_correctSkew_60 : decode cX7_correctSkew 60 = .ok (.isub, 1) := by decide +kernel
theorem dX7_correctSkew_61 : decode cX7_correctSkew 61 = .ok (.ireturn, 1) := by decide +kernel
theorem dX7_endRepeat_0 : decode cX7_endRepeat 0 = .ok (.aload_n 0, 1) := by decide +kernel
theorem dX7_endRepeat_1 : decode cX7_endRepeat 1 = .ok (.getfield 25, 3) := by decide +kernel
theorem dX7_endRepeat_4 : decode cX7_endRepeat 4 = .ok (.invokevirtual 124, 3) := by decide +kernel
theorem dX7_endRepeat_7 : decode cX7_endRepeat 7 = .ok (.aload_n 0, 1) := by decide +kernel
theorem dX7_endRepeat_8 : decode cX7_endRepeat 8 = .ok (.getfield 18, 3) := by decide +kernel
theorem dX7_endRepeat_11 : decode cX7_endRepeat 11 = .ok (.aload_n 0, 1) := by decide +kernel
theorem dX7_endRepeat_12 : decode cX7_endRepeat 12 = .ok (.getfield 18, 3) := by decide +kernel
theorem dX7_endRepeat_15 : decode cX7_endRepeat 15 = .ok (.getfield 127, 3) := by decide +kernel
theorem dX7_endRepeat_18 : decode cX7_endRepeat 18 = .ok (.invokestatic 130, 3) := by decide +kernel
theorem dX7_endRepeat_21 : decode cX7_endRepeat 21 = .ok (.putfield 127, 3) := by decide +kernel
theorem dX7_endRepeat_24 : decode cX7_endRepeat 24 = .ok (.aload_n 0, 1) := by decide +kernel
theorem dX7_endRepeat_25 : decode cX7_endRepeat 25 = .ok (.getfield 32, 3) := by decide +kernel
theorem dX7_endRepeat_28 : decode cX7_endRepeat 28 = .ok (.aload_n 0, 1) := by decide +kernel
theorem dX7_endRepeat_29 : decode cX7_endRepeat 29 = .ok (.getfield 32, 3) := by decide +kernel
theorem dX7_endRepeat_32 : decode cX7_endRepeat 32 = .ok (.getfield 133, 3) := by decide +kernel
theorem dX7_endRepeat_35 : decode cX7_endRepeat 35 = .ok (.invokestatic 130, 3) := by decide +kernel
theorem dX7_endRepeat_38 : decode cX7_endRepeat 38 = .ok (.putfield 133, 3) := by decide +kernel
theorem dX7_endRepeat_41 : decode cX7_endRepeat 41 = .ok (.aload_n 0, 1) := by decide +kernel
theorem dX7_endRepeat_42 : decode cX7_endRepeat 42 = .ok (.getfield 32, 3) := by decide +kernel
theorem dX7_endRepeat_45 : decode cX7_endRepeat 45 = .ok (.aload_n 0, 1) := by decide +kernel
theorem dX7_endRepeat_46 : decode cX7_endRepeat 46 = .ok (.getfield 32, 3) := by decide +kernel
theorem dX7_endRepeat_49 : decode cX7_endRepeat 49 = .ok (.getfield 136, 3) := by decide +kernel
theorem dX7_endRepeat_52 : decode cX7_endRepeat 52 = .ok (.invokestatic 130, 3) := by decide +kernel
theorem dX7_endRepeat_55 : decode cX7_endRepeat 55 = .ok (.putfield 136, 3) := by decide +kernel
theorem dX7_endRepeat_58 : decode cX7_endRepeat 58 = .ok (.return_, 1) := by decide +kernel
theorem dX8_init_0 : decode cX8_init 0 = .ok (.aload_n 0, 1) := by decide +kernel
theorem dX8_init_1 : decode cX8_init 1 = .ok (.invokespecial 1, 3) := by decide +kernel
theorem dX8_init_4 : decode cX8_init 4 = .ok (.aload_n 0, 1) := by decide +kernel
theorem dX8_init_5 : decode cX8_init 5 = .ok (.new 7, 3) := by decide +kernel
theorem dX8_init_8 : decode cX8_init 8 = .ok (.dup, 1) := by decide +kernel
theorem dX8_init_9 : decode cX8_init 9 = .ok (.invokespecial 9, 3) := by decide +kernel
theorem dX8_init_12 : decode cX8_init 12 = .ok (.putfield 10, 3) := by decide +kernel
theorem dX8_init_15 : decode cX8_init 15 = .ok (.aload_n 0, 1) := by decide +kernel
theorem dX8_init_16 : decode cX8_init 16 = .ok (.new 7, 3) := by decide +kernel
theorem dX8_init_19 : decode cX8_init 19 = .ok (.dup, 1) := by decide +kernel
theorem dX8_init_20 : decode cX8_init 20 = .ok (.invokespecial 9, 3) := by decide +kernel
theorem dX8_init_23 : decode cX8_init 23 = .ok (.putfield 16, 3) := by decide +kernel
theorem dX8_init_26 : decode cX8_init 26 = .ok (.aload_n 0, 1) := by decide +kernel
theorem dX8_init_27 : decode cX8_init 27 = .ok (.new 19, 3) := by decide +kernel
theorem dX8_init_30 : decode cX8_init 30 = .ok (.dup, 1) := by decide +kernel
theorem dX8_init_31 : decode cX8_init 31 = .ok (.invokespecial 21, 3) := by decide +kernel
theorem dX8_init_34 : decode cX8_init 34 = .ok (.putfield 22, 3) := by decide +kernel
theorem dX8_init_37 : decode cX8_init 37 = .ok (.aload_n 0, 1) := by decide +kernel
theorem dX8_init_38 : decode cX8_init 38 = .ok (.new 19, 3) := by decide +kernel
theorem dX8_init_41 : decode cX8_init 41 = .ok (.dup, 1) := by decide +kernel
theorem dX8_init_42 : decode cX8_init 42 = .ok (.invokespecial 21, 3) := by decide +kernel
theorem dX8_init_45 : decode cX8_init 45 = .ok (.putfield 26, 3) := by decide +kernel
theorem dX8_init_48 : decode cX8_init 48 = .ok (.aload_n 0, 1) := by decide +kernel
theorem dX8_init_49 : decode cX8_init 49 = .ok (.new 29, 3) := by decide +kernel
theorem dX8_init_52 : decode cX8_init 52 = .ok (.dup, 1) := by decide +kernel
theorem dX8_init_53 : decode cX8_init 53 = .ok (.invokespecial 31, 3) := by decide +kernel
theorem dX8_init_56 : decode cX8_init 56 = .ok (.putfield 32, 3) := by decide +kernel
theorem dX8_init_59 : decode cX8_init 59 = .ok (.aload_n 0, 1) := by decide +kernel
theorem dX8_init_60 : decode cX8_init 60 = .ok (.getfield 10, 3) := by decide +kernel
theorem dX8_init_63 : decode cX8_init 63 = .ok (.iconst 3, 1) := by decide +kernel
theorem dX8_init_64 : decode cX8_init 64 = .ok (.invokevirtual 36, 3) := by decide +kernel
theorem dX8_init_67 : decode cX8_init 67 = .ok (.return_, 1) := by decide +kernel
theorem dX8_setUp_0 : decode cX8_setUp 0 = .ok (.iload_n 1, 1) := by decide +kernel
theorem dX8_setUp_1 : decode cX8_setUp 1 = .ok (.iconst 2, 1) := by decide +kernel
theorem dX8_setUp_2 : decode cX8_setUp 2 = .ok (.iconst 5, 1) := by decide +kernel
theorem dX8_setUp_3 : decode cX8_setUp 3 = .ok (.invokestatic 40, 3) := by decide +kernel
theorem dX8_setUp_6 : decode cX8_setUp 6 = .ok (.ifCond .eq 6, 3) := by decide +kernel
theorem dX8_setUp_9 : decode cX8_setUp 9 = .ok (.ldc 44, 2) := by decide +kernel
theorem dX8_setUp_11 : decode cX8_setUp 11 = .ok (.ireturn, 1) := by decide +kernel
theorem dX8_setUp_12 : decode cX8_setUp 12 = .ok (.aload_n 0, 1) := by decide +kernel
theorem dX8_setUp_13 : decode cX8_setUp 13 = .ok (.getfield 10, 3) := by decide +kernel
theorem dX8_setUp_16 : decode cX8_setUp 16 = .ok (.getfield 45, 3) := by decide +kernel
theorem dX8_setUp_19 : decode cX8_setUp 19 = .ok (.istore_n 2, 1) := by decide +kernel
theorem dX8_setUp_20 : decode cX8_setUp 20 = .ok (.aload_n 0, 1) := by decide +kernel
theorem dX8_setUp_21 : decode cX8_setUp 21 = .ok (.getfield 10, 3) := by decide +kernel
theorem dX8_setUp_24 : decode cX8_setUp 24 = .ok (.iload_n 1, 1) := by decide +kernel
theorem dX8_setUp_25 : decode cX8_setUp 25 = .ok (.invokevirtual 36, 3) := by decide +kernel
theorem dX8_setUp_28 : decode cX8_setUp 28 = .ok (.iload_n 2, 1) := by decide +kernel
theorem dX8_setUp_29 : decode cX8_setUp 29 = .ok (.ireturn, 1) := by decide +kernel
theorem dX8_set_0 : decode cX8_set 0 = .ok (.aload_n 0, 1) := by decide +kernel
theorem dX8_set_1 : decode cX8_set 1 = .ok (.getfield 10, 3) := by decide +kernel
theorem dX8_set_4 : decode cX8_set 4 = .ok (.iload_n 1, 1) := by decide +kernel
theorem dX8_set_5 : decode cX8_set 5 = .ok (.invokevirtual 49, 3) := by decide +kernel
theorem dX8_set_8 : decode cX8_set 8 = .ok (.astore 4, 2) := by decide +kernel
theorem dX8_set_10 : decode cX8_set 10 = .ok (.aload 4, 2) := by decide +kernel
theorem dX8_set_12 : decode cX8_set 12 = .ok (.ifnonnull 6, 3) := by decide +kernel
theorem dX8_set_15 : decode cX8_set 15 = .ok (.ldc 53, 2) := by decide +kernel
theorem dX8_set_17 : decode cX8_set 17 = .ok (.ireturn, 1) := by decide +kernel
theorem dX8_set_18 : decode cX8_set 18 = .ok (.iload_n 2, 1) := by decide +kernel
theorem dX8_set_19 : decode cX8_set 19 = .ok (.iload_n 3, 1) := by decide +kernel
theorem dX8_set_20 : decode cX8_set 20 = .ok (.invokestatic 54, 3) := by decide +kernel
theorem dX8_set_23 : decode cX8_set 23 = .ok (.ifCond .ne 6, 3) := by decide +kernel
theorem dX8_set_26 : decode cX8_set 26 = .ok (.ldc 44, 2) := by decide +kernel
theorem dX8_set_28 : decode cX8_set 28 = .ok (.ireturn, 1) := by decide +kernel
theorem dX8_set_29 : decode cX8_set 29 = .ok (.iload_n 2, 1) := by decide +kernel
theorem dX8_set_30 : decode cX8_set 30 = .ok (.invokestatic 58, 3) := by decide +kernel
theorem dX8_set_33 : decode cX8_set 33 = .ok (.ifCond .eq 16, 3) := by decide +kernel
theorem dX8_set_36 : decode cX8_set 36 = .ok (.aload_n 0, 1) := by decide +kernel
theorem dX8_set_37 : decode cX8_set 37 = .ok (.getfield 10, 3) := by decide +kernel
theorem dX8_set_40 : decode cX8_set 40 = .ok (.getfield 45, 3) := by decide +kernel
theorem dX8_set_43 : decode cX8_set 43 = .ok (.ifCond .eq 6, 3) := by decide +kernel
theorem dX8_set_46 : decode cX8_set 46 = .ok (.ldc 62, 2) := by decide +kernel
theorem dX8_set_48 : decode cX8_set 48 = .ok (.ireturn, 1) := by decide +kernel
theorem dX8_set_49 : decode cX8_set 49 = .ok (.aload 4, 2) := by decide +kernel
theorem dX8_set_51 : decode cX8_set 51 = .ok (.iload_n 2, 1) := by decide +kernel
theorem dX8_set_52 : decode cX8_set 52 = .ok (.invokevirtual 63, 3) := by decide +kernel
theorem dX8_set_55 : decode cX8_set 55 = .ok (.istore 5, 2) := by decide +kernel
theorem dX8_set_57 : decode cX8_set 57 = .ok (.aload 4, 2) := by decide +kernel
theorem dX8_set_59 : decode cX8_set 59 = .ok (.iload_n 2, 1) := by decide +kernel
theorem dX8_set_60 : decode cX8_set 60 = .ok (.iload_n 3, 1) := by decide +kernel
theorem dX8_set_61 : decode cX8_set 61 = .ok (.invokevirtual 69, 3) := by decide +kernel
theorem dX8_set_64 : decode cX8_set 64 = .ok (.iload 5, 2) := by decide +kernel
theorem dX8_set_66 : decode cX8_set 66 = .ok (.ireturn, 1) := by decide +kernel
theorem dX8_get_0 : decode cX8_get 0 = .ok (.aload_n 0, 1) := by decide +kernel
theorem dX8_get_1 : decode cX8_get 1 = .ok (.getfield 10, 3) := by decide +kernel
theorem dX8_get_4 : decode cX8_get 4 = .ok (.iload_n 1, 1) := by decide +kernel
theorem dX8_get_5 : decode cX8_get 5 = .ok (.invokevirtual 49, 3) := by decide +kernel
theorem dX8_get_8 : decode cX8_get 8 = .ok (.astore_n 3, 1) := by decide +kernel
theorem dX8_get_9 : decode cX8_get 9 = .ok (.aload_n 3, 1) := by decide +kernel
theorem dX8_get_10 : decode cX8_get 10 = .ok (.ifnonnull 6, 3) := by decide +kernel
theorem dX8_get_13 : decode cX8_get 13 = .ok (.ldc 53, 2) := by decide +kernel
theorem dX8_get_15 : decode cX8_get 15 = .ok (.ireturn, 1) := by decide +kernel
theorem dX8_get_16 : decode cX8_get 16 = .ok (.iload_n 2, 1) := by decide +kernel
theorem dX8_get_17 : decode cX8_get 17 = .ok (.iconst 0, 1) := by decide +kernel
theorem dX8_get_18 : decode cX8_get 18 = .ok (.bipush 10, 2) := by decide +kernel
theorem dX8_get_20 : decode cX8_get 20 = .ok (.invokestatic 40, 3) := by decide +kernel
theorem dX8_get_23 : decode cX8_get 23 = .ok (.ifCond .eq 6, 3) := by decide +kernel
theorem dX8_get_26 : decode cX8_get 26 = .ok (.ldc 44, 2) := by decide +kernel
theorem dX8_get_28 : decode cX8_get 28 = .ok (.ireturn, 1) := by decide +kernel
theorem dX8_get_29 : decode cX8_get 29 = .ok (.aload_n 3, 1) := by decide +kernel
theorem dX8_get_30 : decode cX8_get 30 = .ok (.iload_n 2, 1) := by decide +kernel
theorem dX8_get_31 : decode cX8_get 31 = .ok (.invokevirtual 63, 3) := by decide +kernel
theorem dX8_get_34 : decode cX8_get 34 = .ok (.ireturn, 1) := by decide +kernel
theorem dX8_adjust_0 : decode cX8_adjust 0 = .ok (.aload_n 0, 1) := by decide +kernel
theorem dX8_adjust_1 : decode cX8_adjust 1 = .ok (.getfield 10, 3) := by decide +kernel
theorem dX8_adjust_4 : decode cX8_adjust 4 = .ok (.iload_n 1, 1) := by decide +kernel
theorem dX8_adjust_5 : decode cX8_adjust 5 = .ok (.invokevirtual 49, 3) := by decide +kernel
theorem dX8_adjust_8 : decode cX8_adjust 8 = .ok (.astore 4, 2) := by decide +kernel
theorem dX8_adjust_10 : decode cX8_adjust 10 = .ok (.aload 4, 2) := by decide +kernel
theorem dX8_adjust_12 : decode cX8_adjust 12 = .ok (.ifnonnull 6, 3) := by decide +kernel
theorem dX8_adjust_15 : decode cX8_adjust 15 = .ok (.ldc 53, 2) := by decide +kernel
theorem dX8_adjust_17 : decode cX8_adjust 17 = .ok (.ireturn, 1) := by decide +kernel
theorem dX8_adjust_18 : decode cX8_adjust 18 = .ok (.iload_n 2, 1) := by decide +kernel
theorem dX8_adjust_19 : decode cX8_adjust 19 = .ok (.iconst 0, 1) := by decide +kernel
theorem dX8_adjust_20 : decode cX8_adjust 20 = .ok (.iconst 2, 1) := by decide +kernel
theorem dX8_adjust_21 : decode cX8_adjust 21 = .ok (.invokestatic 40, 3) := by decide +kernel
theorem dX8_adjust_24 : decode cX8_adjust 24 = .ok (.ifCond .eq 6, 3) := by decide +kernel
theorem dX8_adjust_27 : decode cX8_adjust 27 = .ok (.ldc 44, 2) := by decide +kernel
theorem dX8_adjust_29 : decode cX8_adjust 29 = .ok (.ireturn, 1) := by decide +kernel
theorem dX8_adjust_30 : decode cX8_adjust 30 = .ok (.iload_n 3, 1) := by decide +kernel
theorem dX8_adjust_31 : decode cX8_adjust 31 = .ok (.getstatic 73, 3) := by decide +kernel
theorem dX8_adjust_34 : decode cX8_adjust 34 = .ok (.iload_n 2, 1) := by decide +kernel
theorem dX8_adjust_35 : decode cX8_adjust 35 = .ok (.iaload, 1) := by decide +kernel
theorem dX8_adjust_36 : decode cX8_adjust 36 = .ok (.ineg, 1) := by decide +kernel
theorem dX8_adjust_37 : decode cX8_adjust 37 = .ok (.getstatic 73, 3) := by decide +kernel
theorem dX8_adjust_40 : decode cX8_adjust 40 = .ok (.iload_n 2, 1) := by decide +kernel
theorem dX8_adjust_41 : decode cX8_adjust 41 = .ok (.iaload, 1) := by decide +kernel
theorem dX8_adjust_42 : decode cX8_adjust 42 = .ok (.invokestatic 40, 3) := by decide +kernel
theorem dX8_adjust_45 : decode cX8_adjust 45 = .ok (.ifCond .eq 6, 3) := by decide +kernel
theorem dX8_adjust_48 : decode cX8_adjust 48 = .ok (.ldc 44, 2) := by decide +kernel
theorem dX8_adjust_50 : decode cX8_adjust 50 = .ok (.ireturn, 1) := by decide +kernel
theorem dX8_adjust_51 : decode cX8_adjust 51 = .ok (.aload 4, 2) := by decide +kernel
theorem dX8_adjust_53 : decode cX8_adjust 53 = .ok (.getfield 77, 3) := by decide +kernel
theorem dX8_adjust_56 : decode cX8_adjust 56 = .ok (.iload_n 2, 1) := by decide +kernel
theorem dX8_adjust_57 : decode cX8_adjust 57 = .ok (.invokevirtual 81, 3) := by decide +kernel
theorem dX8_adjust_60 : decode cX8_adjust 60 = .ok (.istore 5, 2) := by decide +kernel
theorem dX8_adjust_62 : decode cX8_adjust 62 = .ok (.aload 4, 2) := by decide +kernel
theorem dX8_adjust_64 : decode cX8_adjust 64 = .ok (.getfield 77, 3) := by decide +kernel
theorem dX8_adjust_67 : decode cX8_adjust 67 = .ok (.iload_n 2, 1) := by decide +kernel
theorem dX8_adjust_68 : decode cX8_adjust 68 = .ok (.iload_n 3, 1) := by decide +kernel
theorem dX8_adjust_69 : decode cX8_adjust 69 = .ok (.invokevirtual 86, 3) := by decide +kernel
theorem dX8_adjust_72 : decode cX8_adjust 72 = .ok (.iload 5, 2) := by decide +kernel
theorem dX8_adjust_74 : decode cX8_adjust 74 = .ok (.ireturn, 1) := by decide +kernel
theorem dX8_restart_0 : decode cX8_restart 0 = .ok (.aload_n 0, 1) := by decide +kernel
theorem dX8_restart_1 : decode cX8_restart 1 = .ok (.getfield 10, 3) := by decide +kernel
theorem dX8_restart_4 : decode cX8_restart 4 = .ok (.iload_n 1, 1) := by decide +kernel
theorem dX8_restart_5 : decode cX8_restart 5 = .ok (.invokevirtual 49, 3) := by decide +kernel
theorem dX8_restart_8 : decode cX8_restart 8 = .ok (.astore_n 2, 1) := by decide +kernel
theorem dX8_restart_9 : decode cX8_restart 9 = .ok (.aload_n 2, 1) := by decide +kernel
theorem dX8_restart_10 : decode cX8_restart 10 = .ok (.ifnonnull 6, 3) := by decide +kernel
theorem dX8_restart_13 : decode cX8_restart 13 = .ok (.ldc 53, 2) := by decide +kernel
theorem dX8_restart_15 : decode cX8_restart 15 = .ok (.ireturn, 1) := by decide +kernel
theorem dX8_restart_16 : decode cX8_restart 16 = .ok (.aload_n 2, 1) := by decide +kernel
theorem dX8_restart_17 : decode cX8_restart 17 = .ok (.getfield 89, 3) := by decide +kernel
theorem dX8_restart_20 : decode cX8_restart 20 = .ok (.getfield 93, 3) := by decide +kernel
theorem dX8_restart_23 : decode cX8_restart 23 = .ok (.istore_n 3, 1) := by decide +kernel
theorem dX8_restart_24 : decode cX8_restart 24 = .ok (.aload_n 2, 1) := by decide +kernel
theorem dX8_restart_25 : decode cX8_restart 25 = .ok (.getfield 89, 3) := by decide +kernel
theorem dX8_restart_28 : decode cX8_restart 28 = .ok (.invokevirtual 98, 3) := by decide +kernel
theorem dX8_restart_31 : decode cX8_restart 31 = .ok (.iload_n 3, 1) := by decide +kernel
theorem dX8_restart_32 : decode cX8_restart 32 = .ok (.ireturn, 1) := by decide +kernel
theorem dX8_speed_0 : decode cX8_speed 0 = .ok (.iload_n 1, 1) := by decide +kernel
theorem dX8_speed_1 : decode cX8_speed 1 = .ok (.iconst 0, 1) := by decide +kernel
theorem dX8_speed_2 : decode cX8_speed 2 = .ok (.sipush 1000, 3) := by decide +kernel
theorem dX8_speed_5 : decode cX8_speed 5 = .ok (.invokestatic 40, 3) := by decide +kernel
theorem dX8_speed_8 : decode cX8_speed 8 = .ok (.ifCond .eq 6, 3) := by decide +kernel
theorem dX8_speed_11 : decode cX8_speed 11 = .ok (.ldc 44, 2) := by decide +kernel
theorem dX8_speed_13 : decode cX8_speed 13 = .ok (.ireturn, 1) := by decide +kernel
theorem dX8_speed_14 : decode cX8_speed 14 = .ok (.aload_n 0, 1) := by decide +kernel
theorem dX8_speed_15 : decode cX8_speed 15 = .ok (.getfield 10, 3) := by decide +kernel
theorem dX8_speed_18 : decode cX8_speed 18 = .ok (.getfield 101, 3) := by decide +kernel
theorem dX8_speed_21 : decode cX8_speed 21 = .ok (.istore_n 2, 1) := by decide +kernel
theorem dX8_speed_22 : decode cX8_speed 22 = .ok (.aload_n 0, 1) := by decide +kernel
theorem dX8_speed_23 : decode cX8_speed 23 = .ok (.getfield 10, 3) := by decide +kernel
theorem dX8_speed_26 : decode cX8_speed 26 = .ok (.iload_n 1, 1) := by decide +kernel
theorem dX8_speed_27 : decode cX8_speed 27 = .ok (.putfield 101, 3) := by decide +kernel
theorem dX8_speed_30 : decode cX8_speed 30 = .ok (.iload_n 2, 1) := by decide +kernel
theorem dX8_speed_31 : decode cX8_speed 31 = .ok (.ireturn, 1) := by decide +kernel
theorem dX8_disturb_0 : decode cX8_disturb 0 = .ok (.aload_n 0, 1) := by decide +kernel
theorem dX8_disturb_1 : decode cX8_disturb 1 = .ok (.getfield 10, 3) := by decide +kernel
theorem dX8_disturb_4 : decode cX8_disturb 4 = .ok (.iload_n 1, 1) := by decide +kernel
theorem dX8_disturb_5 : decode cX8_disturb 5 = .ok (.invokevirtual 49, 3) := by decide +kernel
theorem dX8_disturb_8 : decode cX8_disturb 8 = .ok (.astore 4, 2) := by decide +kernel
theorem dX8_disturb_10 : decode cX8_disturb 10 = .ok (.aload 4, 2) := by decide +kernel
theorem dX8_disturb_12 : decode cX8_disturb 12 = .ok (.ifnonnull 6, 3) := by decide +kernel
theorem dX8_disturb_15 : decode cX8_disturb 15 = .ok (.ldc 53, 2) := by decide +kernel
theorem dX8_disturb_17 : decode cX8_disturb 17 = .ok (.ireturn, 1) := by decide +kernel
theorem dX8_disturb_18 : decode cX8_disturb 18 = .ok (.iload_n 2, 1) := by decide +kernel
theorem dX8_disturb_19 : decode cX8_disturb 19 = .ok (.iload_n 3, 1) := by decide +kernel
theorem dX8_disturb_20 : decode cX8_disturb 20 = .ok (.invokestatic 104, 3) := by decide +kernel
theorem dX8_disturb_23 : decode cX8_disturb 23 = .ok (.ifCond .ne 6, 3) := by decide +kernel
theorem dX8_disturb_26 : decode cX8_disturb 26 = .ok (.ldc 44, 2) := by decide +kernel
theorem dX8_disturb_28 : decode cX8_disturb 28 = .ok (.ireturn, 1) := by decide +kernel
theorem dX8_disturb_29 : decode cX8_disturb 29 = .ok (.aload 4, 2) := by decide +kernel
theorem dX8_disturb_31 : decode cX8_disturb 31 = .ok (.getfield 77, 3) := by decide +kernel
theorem dX8_disturb_34 : decode cX8_disturb 34 = .ok (.iload_n 2, 1) := by decide +kernel
theorem dX8_disturb_35 : decode cX8_disturb 35 = .ok (.iload_n 3, 1) := by decide +kernel
theorem dX8_disturb_36 : decode cX8_disturb 36 = .ok (.invokevirtual 107, 3) := by decide +kernel
theorem dX8_disturb_39 : decode cX8_disturb 39 = .ok (.aload_n 0, 1) := by decide +kernel
theorem dX8_disturb_40 : decode cX8_disturb 40 = .ok (.getfield 10, 3) := by decide +kernel
theorem dX8_disturb_43 : decode cX8_disturb 43 = .ok (.getfield 45, 3) := by decide +kernel
theorem dX8_disturb_46 : decode cX8_disturb 46 = .ok (.ireturn, 1) := by decide +kernel
theorem dX8_hide_0 : decode cX8_hide 0 = .ok (.aload_n 0, 1) := by decide +kernel
theorem dX8_hide_1 : decode cX8_hide 1 = .ok (.getfield 10, 3) := by decide +kernel
theorem dX8_hide_4 : decode cX8_hide 4 = .ok (.iload_n 1, 1) := by decide +kernel
theorem dX8_hide_5 : decode cX8_hide 5 = .ok (.invokevirtual 49, 3) := by decide +kernel
theorem dX8_hide_8 : decode cX8_hide 8 = .ok (.astore_n 3, 1) := by decide +kernel
theorem dX8_hide_9 : decode cX8_hide 9 = .ok (.aload_n 3, 1) := by decide +kernel
theorem dX8_hide_10 : decode cX8_hide 10 = .ok (.ifnonnull 6, 3) := by decide +kernel
theorem dX8_hide_13 : decode cX8_hide 13 = .ok (.ldc 53, 2) := by decide +kernel
theorem dX8_hide_15 : decode cX8_hide 15 = .ok (.ireturn, 1) := by decide +kernel
theorem dX8_hide_16 : decode cX8_hide 16 = .ok (.iload_n 2, 1) := by decide +kernel
theorem dX8_hide_17 : decode cX8_hide 17 = .ok (.iconst 0, 1) := by decide +kernel
theorem dX8_hide_18 : decode cX8_hide 18 = .ok (.bipush 50, 2) := by decide +kernel
theorem dX8_hide_20 : decode cX8_hide 20 = .ok (.invokestatic 40, 3) := by decide +kernel
theorem dX8_hide_23 : decode cX8_hide 23 = .ok (.ifCond .eq 6, 3) := by decide +kernel
theorem dX8_hide_26 : decode cX8_hide 26 = .ok (.ldc 44, 2) := by decide +kernel
theorem dX8_hide_28 : decode cX8_hide 28 = .ok (.ireturn, 1) := by decide +kernel
theorem dX8_hide_29 : decode cX8_hide 29 = .ok (.aload_n 3, 1) := by decide +kernel
theorem dX8_hide_30 : decode cX8_hide 30 = .ok (.getfield 110, 3) := by decide +kernel
theorem dX8_hide_33 : decode cX8_hide 33 = .ok (.getfield 114, 3) := by decide +kernel
theorem dX8_hide_36 : decode cX8_hide 36 = .ok (.istore 4, 2) := by decide +kernel
theorem dX8_hide_38 : decode cX8_hide 38 = .ok (.aload_n 3, 1) := by decide +kernel
theorem dX8_hide_39 : decode cX8_hide 39 = .ok (.getfield 110, 3) := by decide +kernel
theorem dX8_hide_42 : decode cX8_hide 42 = .ok (.iload_n 2, 1) := by decide +kernel
theorem dX8_hide_43 : decode cX8_hide 43 = .ok (.putfield 114, 3) := by decide +kernel
theorem dX8_hide_46 : decode cX8_hide 46 = .ok (.iload 4, 2) := by decide +kernel
theorem dX8_hide_48 : decode cX8_hide 48 = .ok (.ireturn, 1) := by decide +kernel
theorem dX8_falseMark_0 : decode cX8_falseMark 0 = .ok (.aload_n 0, 1) := by decide +kernel
theorem dX8_falseMark_1 : decode cX8_falseMark 1 = .ok (.getfield 10, 3) := by decide +kernel
theorem dX8_falseMark_4 : decode cX8_falseMark 4 = .ok (.iload_n 1, 1) := by decide +kernel
theorem dX8_falseMark_5 : decode cX8_falseMark 5 = .ok (.invokevirtual 49, 3) := by decide +kernel
theorem dX8_falseMark_8 : decode cX8_falseMark 8 = .ok (.astore 4, 2) := by decide +kernel
theorem dX8_falseMark_10 : decode cX8_falseMark 10 = .ok (.aload 4, 2) := by decide +kernel
theorem dX8_falseMark_12 : decode cX8_falseMark 12 = .ok (.ifnonnull 6, 3) := by decide +kernel
theorem dX8_falseMark_15 : decode cX8_falseMark 15 = .ok (.ldc 53, 2) := by decide +kernel
theorem dX8_falseMark_17 : decode cX8_falseMark 17 = .ok (.ireturn, 1) := by decide +kernel
theorem dX8_falseMark_18 : decode cX8_falseMark 18 = .ok (.iload_n 2, 1) := by decide +kernel
theorem dX8_falseMark_19 : decode cX8_falseMark 19 = .ok (.sipush (-3000), 3) := by decide +kernel
theorem dX8_falseMark_22 : decode cX8_falseMark 22 = .ok (.sipush 3000, 3) := by decide +kernel
theorem dX8_falseMark_25 : decode cX8_falseMark 25 = .ok (.invokestatic 40, 3) := by decide +kernel
theorem dX8_falseMark_28 : decode cX8_falseMark 28 = .ok (.ifCond .eq 6, 3) := by decide +kernel
theorem dX8_falseMark_31 : decode cX8_falseMark 31 = .ok (.ldc 44, 2) := by decide +kernel
theorem dX8_falseMark_33 : decode cX8_falseMark 33 = .ok (.ireturn, 1) := by decide +kernel
theorem dX8_falseMark_34 : decode cX8_falseMark 34 = .ok (.iload_n 3, 1) := by decide +kernel
theorem dX8_falseMark_35 : decode cX8_falseMark 35 = .ok (.iconst 0, 1) := by decide +kernel
theorem dX8_falseMark_36 : decode cX8_falseMark 36 = .ok (.bipush 50, 2) := by decide +kernel
theorem dX8_falseMark_38 : decode cX8_falseMark 38 = .ok (.invokestatic 40, 3) := by decide +kernel
theorem dX8_falseMark_41 : decode cX8_falseMark 41 = .ok (.ifCond .eq 6, 3) := by decide +kernel
theorem dX8_falseMark_44 : decode cX8_falseMark 44 = .ok (.ldc 44, 2) := by decide +kernel
theorem dX8_falseMark_46 : decode cX8_falseMark 46 = .ok (.ireturn, 1) := by decide +kernel
theorem dX8_falseMark_47 : decode cX8_falseMark 47 = .ok (.aload 4, 2) := by decide +kernel
theorem dX8_falseMark_49 : decode cX8_falseMark 49 = .ok (.getfield 110, 3) := by decide +kernel
theorem dX8_falseMark_52 : decode cX8_falseMark 52 = .ok (.getfield 119, 3) := by decide +kernel
theorem dX8_falseMark_55 : decode cX8_falseMark 55 = .ok (.istore 5, 2) := by decide +kernel
theorem dX8_falseMark_57 : decode cX8_falseMark 57 = .ok (.aload 4, 2) := by decide +kernel
theorem dX8_falseMark_59 : decode cX8_falseMark 59 = .ok (.getfield 110, 3) := by decide +kernel
theorem dX8_falseMark_62 : decode cX8_falseMark 62 = .ok (.iload_n 2, 1) := by decide +kernel
theorem dX8_falseMark_63 : decode cX8_falseMark 63 = .ok (.putfield 122, 3) := by decide +kernel
theorem dX8_falseMark_66 : decode cX8_falseMark 66 = .ok (.aload 4, 2) := by decide +kernel
theorem dX8_falseMark_68 : decode cX8_falseMark 68 = .ok (.getfield 110, 3) := by decide +kernel
theorem dX8_falseMark_71 : decode cX8_falseMark 71 = .ok (.iload_n 3, 1) := by decide +kernel
theorem dX8_falseMark_72 : decode cX8_falseMark 72 = .ok (.putfield 119, 3) := by decide +kernel
theorem dX8_falseMark_75 : decode cX8_falseMark 75 = .ok (.iload 5, 2) := by decide +kernel
theorem dX8_falseMark_77 : decode cX8_falseMark 77 = .ok (.ireturn, 1) := by decide +kernel
theorem dX8_splice_0 : decode cX8_splice 0 = .ok (.iload_n 1, 1) := by decide +kernel
theorem dX8_splice_1 : decode cX8_splice 1 = .ok (.iload_n 2, 1) := by decide +kernel
theorem dX8_splice_2 : decode cX8_splice 2 = .ok (.invokestatic 104, 3) := by decide +kernel
theorem dX8_splice_5 : decode cX8_splice 5 = .ok (.ifCond .ne 6, 3) := by decide +kernel
theorem dX8_splice_8 : decode cX8_splice 8 = .ok (.ldc 44, 2) := by decide +kernel
theorem dX8_splice_10 : decode cX8_splice 10 = .ok (.ireturn, 1) := by decide +kernel
theorem dX8_splice_11 : decode cX8_splice 11 = .ok (.aload_n 0, 1) := by decide +kernel
theorem dX8_splice_12 : decode cX8_splice 12 = .ok (.getfield 10, 3) := by decide +kernel
theorem dX8_splice_15 : decode cX8_splice 15 = .ok (.iload_n 1, 1) := by decide +kernel
theorem dX8_splice_16 : decode cX8_splice 16 = .ok (.iload_n 2, 1) := by decide +kernel
theorem dX8_splice_17 : decode cX8_splice 17 = .ok (.invokevirtual 125, 3) := by decide +kernel
theorem dX8_splice_20 : decode cX8_splice 20 = .ok (.aload_n 0, 1) := by decide +kernel
theorem dX8_splice_21 : decode cX8_splice 21 = .ok (.getfield 10, 3) := by decide +kernel
theorem dX8_splice_24 : decode cX8_splice 24 = .ok (.invokevirtual 128, 3) := by decide +kernel
theorem dX8_splice_27 : decode cX8_splice 27 = .ok (.ireturn, 1) := by decide +kernel
theorem dX8_run_0 : decode cX8_run 0 = .ok (.iload_n 1, 1) := by decide +kernel
theorem dX8_run_1 : decode cX8_run 1 = .ok (.iconst 1, 1) := by decide +kernel
theorem dX8_run_2 : decode cX8_run 2 = .ok (.sipush 300, 3) := by decide +kernel
theorem dX8_run_5 : decode cX8_run 5 = .ok (.invokestatic 40, 3) := by decide +kernel
theorem dX8_run_8 : decode cX8_run 8 = .ok (.ifCond .eq 6, 3) := by decide +kernel
theorem dX8_run_11 : decode cX8_run 11 = .ok (.ldc 44, 2) := by decide +kernel
theorem dX8_run_13 : decode cX8_run 13 = .ok (.ireturn, 1) := by decide +kernel
theorem dX8_run_14 : decode cX8_run 14 = .ok (.aload_n 0, 1) := by decide +kernel
theorem dX8_run_15 : decode cX8_run 15 = .ok (.getfield 10, 3) := by decide +kernel
theorem dX8_run_18 : decode cX8_run 18 = .ok (.getfield 45, 3) := by decide +kernel
theorem dX8_run_21 : decode cX8_run 21 = .ok (.iload_n 1, 1) := by decide +kernel
theorem dX8_run_22 : decode cX8_run 22 = .ok (.iadd, 1) := by decide +kernel
theorem dX8_run_23 : decode cX8_run 23 = .ok (.ldc 132, 2) := by decide +kernel
theorem dX8_run_25 : decode cX8_run 25 = .ok (.if_icmp .le 6, 3) := by decide +kernel
theorem dX8_run_28 : decode cX8_run 28 = .ok (.ldc 62, 2) := by decide +kernel
theorem dX8_run_30 : decode cX8_run 30 = .ok (.ireturn, 1) := by decide +kernel
theorem dX8_run_31 : decode cX8_run 31 = .ok (.iconst 0, 1) := by decide +kernel
theorem dX8_run_32 : decode cX8_run 32 = .ok (.istore_n 2, 1) := by decide +kernel
theorem dX8_run_33 : decode cX8_run 33 = .ok (.iload_n 2, 1) := by decide +kernel
theorem dX8_run_34 : decode cX8_run 34 = .ok (.iload_n 1, 1) := by decide +kernel
theorem dX8_run_35 : decode cX8_run 35 = .ok (.if_icmp .ge 16, 3) := by decide +kernel
theorem dX8_run_38 : decode cX8_run 38 = .ok (.aload_n 0, 1) := by decide +kernel
theorem dX8_run_39 : decode cX8_run 39 = .ok (.getfield 10, 3) := by decide +kernel
theorem dX8_run_42 : decode cX8_run 42 = .ok (.invokevirtual 133, 3) := by decide +kernel
theorem dX8_run_45 : decode cX8_run 45 = .ok (.iinc 2 1, 3) := by decide +kernel
theorem dX8_run_48 : decode cX8_run 48 = .ok (.goto (-15), 3) := by decide +kernel
theorem dX8_run_51 : decode cX8_run 51 = .ok (.aload_n 0, 1) := by decide +kernel
theorem dX8_run_52 : decode cX8_run 52 = .ok (.getfield 10, 3) := by decide +kernel
theorem dX8_run_55 : decode cX8_run 55 = .ok (.getfield 45, 3) := by decide +kernel
theorem dX8_run_58 : decode cX8_run 58 = .ok (.ireturn, 1) := by decide +kernel
theorem dX8_seen_0 : decode cX8_seen 0 = .ok (.aload_n 0, 1) := by decide +kernel
theorem dX8_seen_1 : decode cX8_seen 1 = .ok (.getfield 10, 3) := by decide +kernel
theorem dX8_seen_4 : decode cX8_seen 4 = .ok (.iload_n 1, 1) := by decide +kernel
theorem dX8_seen_5 : decode cX8_seen 5 = .ok (.invokevirtual 49, 3) := by decide +kernel
theorem dX8_seen_8 : decode cX8_seen 8 = .ok (.astore_n 3, 1) := by decide +kernel
theorem dX8_seen_9 : decode cX8_seen 9 = .ok (.aload_n 3, 1) := by decide +kernel
theorem dX8_seen_10 : decode cX8_seen 10 = .ok (.ifnonnull 6, 3) := by decide +kernel
theorem dX8_seen_13 : decode cX8_seen 13 = .ok (.ldc 53, 2) := by decide +kernel
theorem dX8_seen_15 : decode cX8_seen 15 = .ok (.ireturn, 1) := by decide +kernel
theorem dX8_seen_16 : decode cX8_seen 16 = .ok (.iload_n 2, 1) := by decide +kernel
theorem dX8_seen_17 : decode cX8_seen 17 = .ok (.iconst 0, 1) := by decide +kernel
theorem dX8_seen_18 : decode cX8_seen 18 = .ok (.bipush 6, 2) := by decide +kernel
theorem dX8_seen_20 : decode cX8_seen 20 = .ok (.invokestatic 40, 3) := by decide +kernel
theorem dX8_seen_23 : decode cX8_seen 23 = .ok (.ifCond .eq 6, 3) := by decide +kernel
theorem dX8_seen_26 : decode cX8_seen 26 = .ok (.ldc 44, 2) := by decide +kernel
theorem dX8_seen_28 : decode cX8_seen 28 = .ok (.ireturn, 1) := by decide +kernel
theorem dX8_seen_29 : decode cX8_seen 29 = .ok (.aload_n 0, 1) := by decide +kernel
theorem dX8_seen_30 : decode cX8_seen 30 = .ok (.getfield 10, 3) := by decide +kernel
theorem dX8_seen_33 : decode cX8_seen 33 = .ok (.getfield 45, 3) := by decide +kernel
theorem dX8_seen_36 : decode cX8_seen 36 = .ok (.ifCond .ne 6, 3) := by decide +kernel
theorem dX8_seen_39 : decode cX8_seen 39 = .ok (.ldc 62, 2) := by decide +kernel
theorem dX8_seen_41 : decode cX8_seen 41 = .ok (.ireturn, 1) := by decide +kernel
theorem dX8_seen_42 : decode cX8_seen 42 = .ok (.iload_n 2, 1) := by decide +kernel
theorem dX8_seen_43 : decode cX8_seen 43 = .ok (.ifCond .ne 20, 3) := by decide +kernel
theorem dX8_seen_46 : decode cX8_seen 46 = .ok (.aload_n 3, 1) := by decide +kernel
theorem dX8_seen_47 : decode cX8_seen 47 = .ok (.getfield 77, 3) := by decide +kernel
theorem dX8_seen_50 : decode cX8_seen 50 = .ok (.aload_n 0, 1) := by decide +kernel
theorem dX8_seen_51 : decode cX8_seen 51 = .ok (.getfield 10, 3) := by decide +kernel
theorem dX8_seen_54 : decode cX8_seen 54 = .ok (.getfield 45, 3) := by decide +kernel
theorem dX8_seen_57 : decode cX8_seen 57 = .ok (.iconst 1, 1) := by decide +kernel
theorem dX8_seen_58 : decode cX8_seen 58 = .ok (.isub, 1) := by decide +kernel
theorem dX8_seen_59 : decode cX8_seen 59 = .ok (.invokevirtual 136, 3) := by decide +kernel
theorem dX8_seen_62 : decode cX8_seen 62 = .ok (.ireturn, 1) := by decide +kernel
theorem dX8_seen_63 : decode cX8_seen 63 = .ok (.iload_n 2, 1) := by decide +kernel
theorem dX8_seen_64 : decode cX8_seen 64 = .ok (.iconst 1, 1) := by decide +kernel
theorem dX8_seen_65 : decode cX8_seen 65 = .ok (.if_icmp .ne 20, 3) := by decide +kernel
theorem dX8_seen_68 : decode cX8_seen 68 = .ok (.aload_n 3, 1) := by decide +kernel
theorem dX8_seen_69 : decode cX8_seen 69 = .ok (.getfield 77, 3) := by decide +kernel
theorem dX8_seen_72 : decode cX8_seen 72 = .ok (.aload_n 0, 1) := by decide +kernel
theorem dX8_seen_73 : decode cX8_seen 73 = .ok (.getfield 10, 3) := by decide +kernel
theorem dX8_seen_76 : decode cX8_seen 76 = .ok (.getfield 45, 3) := by decide +kernel
theorem dX8_seen_79 : decode cX8_seen 79 = .ok (.iconst 1, 1) := by decide +kernel
theorem dX8_seen_80 : decode cX8_seen 80 = .ok (.isub, 1) := by decide +kernel
theorem dX8_seen_81 : decode cX8_seen 81 = .ok (.invokevirtual 139, 3) := by decide +kernel
theorem dX8_seen_84 : decode cX8_seen 84 = .ok (.ireturn, 1) := by decide +kernel
theorem dX8_seen_85 : decode cX8_seen 85 = .ok (.aload_n 3, 1) := by decide +kernel
theorem dX8_seen_86 : decode cX8_seen 86 = .ok (.getfield 110, 3) := by decide +kernel
theorem dX8_seen_89 : decode cX8_seen 89 = .ok (.astore 4, 2) := by decide +kernel
theorem dX8_seen_91 : decode cX8_seen 91 = .ok (.iload_n 2, 1) := by decide +kernel
theorem dX8_seen_92 : decode cX8_seen 92 = .ok (.iconst 4, 1) := by decide +kernel
theorem dX8_seen_93 : decode cX8_seen 93 = .ok (.if_icmp .gt 11, 3) := by decide +kernel
theorem dX8_seen_96 : decode cX8_seen 96 = .ok (.aload 4, 2) := by decide +kernel
theorem dX8_seen_98 : decode cX8_seen 98 = .ok (.getfield 142, 3) := by decide +kernel
theorem dX8_seen_101 : decode cX8_seen 101 = .ok (.goto 16, 3) := by decide +kernel
theorem dX8_seen_104 : decode cX8_seen 104 = .ok (.aload 4, 2) := by decide +kernel
theorem dX8_seen_106 : decode cX8_seen 106 = .ok (.getfield 146, 3) := by decide +kernel
theorem dX8_seen_109 : decode cX8_seen 109 = .ok (.ifCond .eq 7, 3) := by decide +kernel
theorem dX8_seen_112 : decode cX8_seen 112 = .ok (.iconst 1, 1) := by decide +kernel
theorem dX8_seen_113 : decode cX8_seen 113 = .ok (.goto 4, 3) := by decide +kernel
theorem dX8_seen_116 : decode cX8_seen 116 = .ok (.iconst 0, 1) := by decide +kernel
theorem dX8_seen_117 : decode cX8_seen 117 = .ok (.istore 5, 2) := by decide +kernel
theorem dX8_seen_119 : decode cX8_seen 119 = .ok (.iload 5, 2) := by decide +kernel
theorem dX8_seen_121 : decode cX8_seen 121 = .ok (.ifCond .eq 12, 3) := by decide +kernel
theorem dX8_seen_124 : decode cX8_seen 124 = .ok (.aload 4, 2) := by decide +kernel
theorem dX8_seen_126 : decode cX8_seen 126 = .ok (.iload_n 2, 1) := by decide +kernel
theorem dX8_seen_127 : decode cX8_seen 127 = .ok (.invokevirtual 149, 3) := by decide +kernel
theorem dX8_seen_130 : decode cX8_seen 130 = .ok (.goto 5, 3) := by decide +kernel
theorem dX8_seen_133 : decode cX8_seen 133 = .ok (.ldc 152, 2) := by decide +kernel
theorem dX8_seen_135 : decode cX8_seen 135 = .ok (.ireturn, 1) := by decide +kernel
theorem dX8_state_0 : decode cX8_state 0 = .ok (.aload_n 0, 1) := by decide +kernel
theorem dX8_state_1 : decode cX8_state 1 = .ok (.getfield 10, 3) := by decide +kernel
theorem dX8_state_4 : decode cX8_state 4 = .ok (.iload_n 1, 1) := by decide +kernel
theorem dX8_state_5 : decode cX8_state 5 = .ok (.invokevirtual 49, 3) := by decide +kernel
theorem dX8_state_8 : decode cX8_state 8 = .ok (.astore_n 3, 1) := by decide +kernel
theorem dX8_state_9 : decode cX8_state 9 = .ok (.aload_n 3, 1) := by decide +kernel
theorem dX8_state_10 : decode cX8_state 10 = .ok (.ifnonnull 6, 3) := by decide +kernel
theorem dX8_state_13 : decode cX8_state 13 = .ok (.ldc 53, 2) := by decide +kernel
theorem dX8_state_15 : decode cX8_state 15 = .ok (.ireturn, 1) := by decide +kernel
theorem dX8_state_16 : decode cX8_state 16 = .ok (.iload_n 2, 1) := by decide +kernel
theorem dX8_state_17 : decode cX8_state 17 = .ok (.tableswitch 169 0 13 #[71, 71, 71, 80, 88, 96, 104, 112, 120, 128, 136, 144, 152, 160], 71) := by decide +kernel
theorem dX8_state_88 : decode cX8_state 88 = .ok (.aload_n 3, 1) := by decide +kernel
theorem dX8_state_89 : decode cX8_state 89 = .ok (.getfield 77, 3) := by decide +kernel
theorem dX8_state_92 : decode cX8_state 92 = .ok (.iload_n 2, 1) := by decide +kernel
theorem dX8_state_93 : decode cX8_state 93 = .ok (.invokevirtual 81, 3) := by decide +kernel
theorem dX8_state_96 : decode cX8_state 96 = .ok (.ireturn, 1) := by decide +kernel
theorem dX8_state_97 : decode cX8_state 97 = .ok (.aload_n 3, 1) := by decide +kernel
theorem dX8_state_98 : decode cX8_state 98 = .ok (.getfield 89, 3) := by decide +kernel
theorem dX8_state_101 : decode cX8_state 101 = .ok (.getfield 93, 3) := by decide +kernel
theorem dX8_state_104 : decode cX8_state 104 = .ok (.ireturn, 1) := by decide +kernel
theorem dX8_state_105 : decode cX8_state 105 = .ok (.aload_n 3, 1) := by decide +kernel
theorem dX8_state_106 : decode cX8_state 106 = .ok (.getfield 89, 3) := by decide +kernel
theorem dX8_state_109 : decode cX8_state 109 = .ok (.getfield 153, 3) := by decide +kernel
theorem dX8_state_112 : decode cX8_state 112 = .ok (.ireturn, 1) := by decide +kernel
theorem dX8_state_113 : decode cX8_state 113 = .ok (.aload_n 3, 1) := by decide +kernel
theorem dX8_state_114 : decode cX8_state 114 = .ok (.getfield 89, 3) := by decide +kernel
theorem dX8_state_117 : decode cX8_state 117 = .ok (.getfield 156, 3) := by decide +kernel
theorem dX8_state_120 : decode cX8_state 120 = .ok (.ireturn, 1) := by decide +kernel
theorem dX8_state_121 : decode cX8_state 121 = .ok (.aload_n 3, 1) := by decide +kernel
theorem dX8_state_122 : decode cX8_state 122 = .ok (.getfield 89, 3) := by decide +kernel
theorem dX8_state_125 : decode cX8_state 125 = .ok (.getfield 159, 3) := by decide +kernel
theorem dX8_state_128 : decode cX8_state 128 = .ok (.ireturn, 1) := by decide +kernel
theorem dX8_state_129 : decode cX8_state 129 = .ok (.aload_n 3, 1) := by decide +kernel
theorem dX8_state_130 : decode cX8_state 130 = .ok (.getfield 89, 3) := by decide +kernel
theorem dX8_state_133 : decode cX8_state 133 = .ok (.getfield 162, 3) := by decide +kernel
theorem dX8_state_136 : decode cX8_state 136 = .ok (.ireturn, 1) := by decide +kernel
theorem dX8_state_137 : decode cX8_state 137 = .ok (.aload_n 3, 1) := by decide +kernel
theorem dX8_state_138 : decode cX8_state 138 = .ok (.getfield 89, 3) := by decide +kernel
theorem dX8_state_141 : decode cX8_state 141 = .ok (.getfield 165, 3) := by decide +kernel
theorem dX8_state_144 : decode cX8_state 144 = .ok (.ireturn, 1) := by decide +kernel
theorem dX8_state_145 : decode cX8_state 145 = .ok (.aload_n 3, 1) := by decide +kernel
theorem dX8_state_146 : decode cX8_state 146 = .ok (.getfield 89, 3) := by decide +kernel
theorem dX8_state_149 : decode cX8_state 149 = .ok (.getfield 168, 3) := by decide +kernel
theorem dX8_state_152 : decode cX8_state 152 = .ok (.ireturn, 1) := by decide +kernel
theorem dX8_state_153 : decode cX8_state 153 = .ok (.aload_n 3, 1) := by decide +kernel
theorem dX8_state_154 : decode cX8_state 154 = .ok (.getfield 77, 3) := by decide +kernel
theorem dX8_state_157 : decode cX8_state 157 = .ok (.getfield 171, 3) := by decide +kernel
theorem dX8_state_160 : decode cX8_state 160 = .ok (.ireturn, 1) := by decide +kernel
theorem dX8_state_161 : decode cX8_state 161 = .ok (.aload_n 3, 1) := by decide +kernel
theorem dX8_state_162 : decode cX8_state 162 = .ok (.getfield 110, 3) := by decide +kernel
theorem dX8_state_165 : decode cX8_state 165 = .ok (.getfield 114, 3) := by decide +kernel
theorem dX8_state_168 : decode cX8_state 168 = .ok (.ireturn, 1) := by decide +kernel
theorem dX8_state_169 : decode cX8_state 169 = .ok (.aload_n 3, 1) := by decide +kernel
theorem dX8_state_170 : decode cX8_state 170 = .ok (.getfield 110, 3) := by decide +kernel
theorem dX8_state_173 : decode cX8_state 173 = .ok (.getfield 119, 3) := by decide +kernel
theorem dX8_state_176 : decode cX8_state 176 = .ok (.ireturn, 1) := by decide +kernel
theorem dX8_state_177 : decode cX8_state 177 = .ok (.aload_n 0, 1) := by decide +kernel
theorem dX8_state_178 : decode cX8_state 178 = .ok (.getfield 10, 3) := by decide +kernel
theorem dX8_state_181 : decode cX8_state 181 = .ok (.iload_n 1, 1) := by decide +kernel
theorem dX8_state_182 : decode cX8_state 182 = .ok (.invokevirtual 174, 3) := by decide +kernel
theorem dX8_state_185 : decode cX8_state 185 = .ok (.ireturn, 1) := by decide +kernel
theorem dX8_state_186 : decode cX8_state 186 = .ok (.ldc 44, 2) := by decide +kernel
theorem dX8_state_188 : decode cX8_state 188 = .ok (.ireturn, 1) := by decide +kernel
theorem dX8_errors_0 : decode cX8_errors 0 = .ok (.aload_n 0, 1) := by decide +kernel
theorem dX8_errors_1 : decode cX8_errors 1 = .ok (.getfield 10, 3) := by decide +kernel
theorem dX8_errors_4 : decode cX8_errors 4 = .ok (.iload_n 1, 1) := by decide +kernel
theorem dX8_errors_5 : decode cX8_errors 5 = .ok (.invokevirtual 177, 3) := by decide +kernel
theorem dX8_errors_8 : decode cX8_errors 8 = .ok (.astore 4, 2) := by decide +kernel
theorem dX8_errors_10 : decode cX8_errors 10 = .ok (.aload 4, 2) := by decide +kernel
theorem dX8_errors_12 : decode cX8_errors 12 = .ok (.ifnonnull 6, 3) := by decide +kernel
theorem dX8_errors_15 : decode cX8_errors 15 = .ok (.ldc 53, 2) := by decide +kernel
theorem dX8_errors_17 : decode cX8_errors 17 = .ok (.ireturn, 1) := by decide +kernel
theorem dX8_errors_18 : decode cX8_errors 18 = .ok (.iload_n 2, 1) := by decide +kernel
theorem dX8_errors_19 : decode cX8_errors 19 = .ok (.iconst 1, 1) := by decide +kernel
theorem dX8_errors_20 : decode cX8_errors 20 = .ok (.bipush 60, 2) := by decide +kernel
theorem dX8_errors_22 : decode cX8_errors 22 = .ok (.invokestatic 40, 3) := by decide +kernel
theorem dX8_errors_25 : decode cX8_errors 25 = .ok (.ifCond .eq 6, 3) := by decide +kernel
theorem dX8_errors_28 : decode cX8_errors 28 = .ok (.ldc 44, 2) := by decide +kernel
theorem dX8_errors_30 : decode cX8_errors 30 = .ok (.ireturn, 1) := by decide +kernel
theorem dX8_errors_31 : decode cX8_errors 31 = .ok (.aload 4, 2) := by decide +kernel
theorem dX8_errors_33 : decode cX8_errors 33 = .ok (.getfield 110, 3) := by decide +kernel
theorem dX8_errors_36 : decode cX8_errors 36 = .ok (.getfield 180, 3) := by decide +kernel
theorem dX8_errors_39 : decode cX8_errors 39 = .ok (.astore 5, 2) := by decide +kernel
theorem dX8_errors_41 : decode cX8_errors 41 = .ok (.iload_n 3, 1) := by decide +kernel
theorem dX8_errors_42 : decode cX8_errors 42 = .ok (.tableswitch 65 0 3 #[30, 37, 44, 51], 30) := by decide +kernel
theorem dX8_errors_72 : decode cX8_errors 72 = .ok (.aload 5, 2) := by decide +kernel
theorem dX8_errors_74 : decode cX8_errors 74 = .ok (.iload_n 2, 1) := by decide +kernel
theorem dX8_errors_75 : decode cX8_errors 75 = .ok (.invokevirtual 184, 3) := by decide +kernel
theorem dX8_errors_78 : decode cX8_errors 78 = .ok (.ireturn, 1) := by decide +kernel
theorem dX8_errors_79 : decode cX8_errors 79 = .ok (.aload 5, 2) := by decide +kernel
theorem dX8_errors_81 : decode cX8_errors 81 = .ok (.iload_n 2, 1) := by decide +kernel
theorem dX8_errors_82 : decode cX8_errors 82 = .ok (.invokevirtual 189, 3) := by decide +kernel
theorem dX8_errors_85 : decode cX8_errors 85 = .ok (.ireturn, 1) := by decide +kernel
theorem dX8_errors_86 : decode cX8_errors 86 = .ok (.aload 5, 2) := by decide +kernel
theorem dX8_errors_88 : decode cX8_errors 88 = .ok (.iload_n 2, 1) := by decide +kernel
theorem dX8_errors_89 : decode cX8_errors 89 = .ok (.invokevirtual 192, 3) := by decide +kernel
theorem dX8_errors_92 : decode cX8_errors 92 = .ok (.ireturn, 1) := by decide +kernel
theorem dX8_errors_93 : decode cX8_errors 93 = .ok (.aload 5, 2) := by decide +kernel
theorem dX8_errors_95 : decode cX8_errors 95 = .ok (.iload_n 2, 1) := by decide +kernel
theorem dX8_errors_96 : decode cX8_errors 96 = .ok (.aload 4, 2) := by decide +kernel
theorem dX8_errors_98 : decode cX8_errors 98 = .ok (.bipush 6, 2) := by decide +kernel
theorem dX8_errors_100 : decode cX8_errors 100 = .ok (.invokevirtual 63, 3) := by decide +kernel
theorem dX8_errors_103 : decode cX8_errors 103 = .ok (.invokevirtual 195, 3) := by decide +kernel
theorem dX8_errors_106 : decode cX8_errors 106 = .ok (.ireturn, 1) := by decide +kernel
theorem dX8_errors_107 : decode cX8_errors 107 = .ok (.ldc 44, 2) := by decide +kernel
theorem dX8_errors_109 : decode cX8_errors 109 = .ok (.ireturn, 1) := by decide +kernel
theorem dX8_total_0 : decode cX8_total 0 = .ok (.iload_n 1, 1) := by decide +kernel
theorem dX8_total_1 : decode cX8_total 1 = .ok (.iconst 0, 1) := by decide +kernel
theorem dX8_total_2 : decode cX8_total 2 = .ok (.iconst 5, 1) := by decide +kernel
theorem dX8_total_3 : decode cX8_total 3 = .ok (.invokestatic 40, 3) := by decide +kernel
theorem dX8_total_6 : decode cX8_total 6 = .ok (.ifCond .eq 6, 3) := by decide +kernel
theorem dX8_total_9 : decode cX8_total 9 = .ok (.ldc 44, 2) := by decide +kernel
theorem dX8_total_11 : decode cX8_total 11 = .ok (.ireturn, 1) := by decide +kernel
theorem dX8_total_12 : decode cX8_total 12 = .ok (.aload_n 0, 1) := by decide +kernel
theorem dX8_total_13 : decode cX8_total 13 = .ok (.getfield 10, 3) := by decide +kernel
theorem dX8_total_16 : decode cX8_total 16 = .ok (.getfield 199, 3) := by decide +kernel
theorem dX8_total_19 : decode cX8_total 19 = .ok (.iload_n 1, 1) := by decide +kernel
theorem dX8_total_20 : decode cX8_total 20 = .ok (.iaload, 1) := by decide +kernel
theorem dX8_total_21 : decode cX8_total 21 = .ok (.ireturn, 1) := by decide +kernel
theorem dX8_forecast_0 : decode cX8_forecast 0 = .ok (.aload_n 0, 1) := by decide +kernel
theorem dX8_forecast_1 : decode cX8_forecast 1 = .ok (.getfield 10, 3) := by decide +kernel
theorem dX8_forecast_4 : decode cX8_forecast 4 = .ok (.iload_n 1, 1) := by decide +kernel
theorem dX8_forecast_5 : decode cX8_forecast 5 = .ok (.invokevirtual 177, 3) := by decide +kernel
theorem dX8_forecast_8 : decode cX8_forecast 8 = .ok (.astore 4, 2) := by decide +kernel
theorem dX8_forecast_10 : decode cX8_forecast 10 = .ok (.aload 4, 2) := by decide +kernel
theorem dX8_forecast_12 : decode cX8_forecast 12 = .ok (.ifnonnull 6, 3) := by decide +kernel
theorem dX8_forecast_15 : decode cX8_forecast 15 = .ok (.ldc 53, 2) := by decide +kernel
theorem dX8_forecast_17 : decode cX8_forecast 17 = .ok (.ireturn, 1) := by decide +kernel
theorem dX8_forecast_18 : decode cX8_forecast 18 = .ok (.iload_n 2, 1) := by decide +kernel
theorem dX8_forecast_19 : decode cX8_forecast 19 = .ok (.iconst 0, 1) := by decide +kernel
theorem dX8_forecast_20 : decode cX8_forecast 20 = .ok (.sipush 1000, 3) := by decide +kernel
theorem dX8_forecast_23 : decode cX8_forecast 23 = .ok (.invokestatic 40, 3) := by decide +kernel
theorem dX8_forecast_26 : decode cX8_forecast 26 = .ok (.ifCond .eq 6, 3) := by decide +kernel
theorem dX8_forecast_29 : decode cX8_forecast 29 = .ok (.ldc 44, 2) := by decide +kernel
theorem dX8_forecast_31 : decode cX8_forecast 31 = .ok (.ireturn, 1) := by decide +kernel
theorem dX8_forecast_32 : decode cX8_forecast 32 = .ok (.iload_n 3, 1) := by decide +kernel
theorem dX8_forecast_33 : decode cX8_forecast 33 = .ok (.iconst 5, 1) := by decide +kernel
theorem dX8_forecast_34 : decode cX8_forecast 34 = .ok (.sipush 300, 3) := by decide +kernel
theorem dX8_forecast_37 : decode cX8_forecast 37 = .ok (.invokestatic 40, 3) := by decide +kernel
theorem dX8_forecast_40 : decode cX8_forecast 40 = .ok (.ifCond .eq 6, 3) := by decide +kernel
theorem dX8_forecast_43 : decode cX8_forecast 43 = .ok (.ldc 44, 2) := by decide +kernel
theorem dX8_forecast_45 : decode cX8_forecast 45 = .ok (.ireturn, 1) := by decide +kernel
theorem dX8_forecast_46 : decode cX8_forecast 46 = .ok (.aload_n 0, 1) := by decide +kernel
theorem dX8_forecast_47 : decode cX8_forecast 47 = .ok (.getfield 16, 3) := by decide +kernel
theorem dX8_forecast_50 : decode cX8_forecast 50 = .ok (.aload_n 0, 1) := by decide +kernel
theorem dX8_forecast_51 : decode cX8_forecast 51 = .ok (.getfield 10, 3) := by decide +kernel
theorem dX8_forecast_54 : decode cX8_forecast 54 = .ok (.invokevirtual 202, 3) := by decide +kernel
theorem dX8_forecast_57 : decode cX8_forecast 57 = .ok (.iconst 0, 1) := by decide +kernel
theorem dX8_forecast_58 : decode cX8_forecast 58 = .ok (.istore 5, 2) := by decide +kernel
theorem dX8_forecast_60 : decode cX8_forecast 60 = .ok (.iconst 1, 1) := by decide +kernel
theorem dX8_forecast_61 : decode cX8_forecast 61 = .ok (.istore 6, 2) := by decide +kernel
theorem dX8_forecast_63 : decode cX8_forecast 63 = .ok (.iload 6, 2) := by decide +kernel
theorem dX8_forecast_65 : decode cX8_forecast 65 = .ok (.iload_n 3, 1) := by decide +kernel
theorem dX8_forecast_66 : decode cX8_forecast 66 = .ok (.if_icmp .gt 49, 3) := by decide +kernel
theorem dX8_forecast_69 : decode cX8_forecast 69 = .ok (.aload_n 0, 1) := by decide +kernel
theorem dX8_forecast_70 : decode cX8_forecast 70 = .ok (.getfield 16, 3) := by decide +kernel
theorem dX8_forecast_73 : decode cX8_forecast 73 = .ok (.invokevirtual 133, 3) := by decide +kernel
theorem dX8_forecast_76 : decode cX8_forecast 76 = .ok (.aload_n 0, 1) := by decide +kernel
theorem dX8_forecast_77 : decode cX8_forecast 77 = .ok (.getfield 16, 3) := by decide +kernel
theorem dX8_forecast_80 : decode cX8_forecast 80 = .ok (.iload_n 1, 1) := by decide +kernel
theorem dX8_forecast_81 : decode cX8_forecast 81 = .ok (.iload_n 2, 1) := by decide +kernel
theorem dX8_forecast_82 : decode cX8_forecast 82 = .ok (.invokevirtual 206, 3) := by decide +kernel
theorem dX8_forecast_85 : decode cX8_forecast 85 = .ok (.ifCond .eq 10, 3) := by decide +kernel
theorem dX8_forecast_88 : decode cX8_forecast 88 = .ok (.iload 5, 2) := by decide +kernel
theorem dX8_forecast_90 : decode cX8_forecast 90 = .ok (.iconst 1, 1) := by decide +kernel
theorem dX8_forecast_91 : decode cX8_forecast 91 = .ok (.iadd, 1) := by decide +kernel
theorem dX8_forecast_92 : decode cX8_forecast 92 = .ok (.goto 4, 3) := by decide +kernel
theorem dX8_forecast_95 : decode cX8_forecast 95 = .ok (.iconst 0, 1) := by decide +kernel
theorem dX8_forecast_96 : decode cX8_forecast 96 = .ok (.istore 5, 2) := by decide +kernel
theorem dX8_forecast_98 : decode cX8_forecast 98 = .ok (.iload 5, 2) := by decide +kernel
theorem dX8_forecast_100 : decode cX8_forecast 100 = .ok (.iconst 5, 1) := by decide +kernel
theorem dX8_forecast_101 : decode cX8_forecast 101 = .ok (.if_icmp .ne 8, 3) := by decide +kernel
theorem dX8_forecast_104 : decode cX8_forecast 104 = .ok (.iload 6, 2) := by decide +kernel
theorem dX8_forecast_106 : decode cX8_forecast 106 = .ok (.iconst 5, 1) := by decide +kernel
theorem dX8_forecast_107 : decode cX8_forecast 107 = .ok (.isub, 1) := by decide +kernel
theorem dX8_forecast_108 : decode cX8_forecast 108 = .ok (.ireturn, 1) := by decide +kernel
theorem dX8_forecast_109 : decode cX8_forecast 109 = .ok (.iinc 6 1, 3) := by decide +kernel
theorem dX8_forecast_112 : decode cX8_forecast 112 = .ok (.goto (-49), 3) := by decide +kernel
theorem dX8_forecast_115 : decode cX8_forecast 115 = .ok (.ldc 152, 2) := by decide +kernel
theorem dX8_forecast_117 : decode cX8_forecast 117 = .ok (.ireturn, 1) := by decide +kernel
theorem dX8_attempt_0 : decode cX8_attempt 0 = .ok (.aload_n 0, 1) := by decide +kernel
theorem dX8_attempt_1 : decode cX8_attempt 1 = .ok (.getfield 10, 3) := by decide +kernel
theorem dX8_attempt_4 : decode cX8_attempt 4 = .ok (.iload_n 1, 1) := by decide +kernel
theorem dX8_attempt_5 : decode cX8_attempt 5 = .ok (.invokevirtual 177, 3) := by decide +kernel
theorem dX8_attempt_8 : decode cX8_attempt 8 = .ok (.astore 5, 2) := by decide +kernel
theorem dX8_attempt_10 : decode cX8_attempt 10 = .ok (.aload 5, 2) := by decide +kernel
theorem dX8_attempt_12 : decode cX8_attempt 12 = .ok (.ifnonnull 6, 3) := by decide +kernel
theorem dX8_attempt_15 : decode cX8_attempt 15 = .ok (.ldc 53, 2) := by decide +kernel
theorem dX8_attempt_17 : decode cX8_attempt 17 = .ok (.ireturn, 1) := by decide +kernel
theorem dX8_attempt_18 : decode cX8_attempt 18 = .ok (.iload_n 2, 1) := by decide +kernel
theorem dX8_attempt_19 : decode cX8_attempt 19 = .ok (.invokestatic 58, 3) := by decide +kernel
theorem dX8_attempt_22 : decode cX8_attempt 22 = .ok (.ifCond .ne 11, 3) := by decide +kernel
theorem dX8_attempt_25 : decode cX8_attempt 25 = .ok (.iload_n 2, 1) := by decide +kernel
theorem dX8_attempt_26 : decode cX8_attempt 26 = .ok (.iload_n 3, 1) := by decide +kernel
theorem dX8_attempt_27 : decode cX8_attempt 27 = .ok (.invokestatic 54, 3) := by decide +kernel
theorem dX8_attempt_30 : decode cX8_attempt 30 = .ok (.ifCond .ne 6, 3) := by decide +kernel
theorem dX8_attempt_33 : decode cX8_attempt 33 = .ok (.ldc 44, 2) := by decide +kernel
theorem dX8_attempt_35 : decode cX8_attempt 35 = .ok (.ireturn, 1) := by decide +kernel
theorem dX8_attempt_36 : decode cX8_attempt 36 = .ok (.iload 4, 2) := by decide +kernel
theorem dX8_attempt_38 : decode cX8_attempt 38 = .ok (.iconst 1, 1) := by decide +kernel
theorem dX8_attempt_39 : decode cX8_attempt 39 = .ok (.sipush 300, 3) := by decide +kernel
theorem dX8_attempt_42 : decode cX8_attempt 42 = .ok (.invokestatic 40, 3) := by decide +kernel
theorem dX8_attempt_45 : decode cX8_attempt 45 = .ok (.ifCond .eq 6, 3) := by decide +kernel
theorem dX8_attempt_48 : decode cX8_attempt 48 = .ok (.ldc 44, 2) := by decide +kernel
theorem dX8_attempt_50 : decode cX8_attempt 50 = .ok (.ireturn, 1) := by decide +kernel
theorem dX8_attempt_51 : decode cX8_attempt 51 = .ok (.aload_n 0, 1) := by decide +kernel
theorem dX8_attempt_52 : decode cX8_attempt 52 = .ok (.getfield 16, 3) := by decide +kernel
theorem dX8_attempt_55 : decode cX8_attempt 55 = .ok (.aload_n 0, 1) := by decide +kernel
theorem dX8_attempt_56 : decode cX8_attempt 56 = .ok (.getfield 10, 3) := by decide +kernel
theorem dX8_attempt_59 : decode cX8_attempt 59 = .ok (.iload_n 1, 1) := by decide +kernel
theorem dX8_attempt_60 : decode cX8_attempt 60 = .ok (.iload_n 2, 1) := by decide +kernel
theorem dX8_attempt_61 : decode cX8_attempt 61 = .ok (.iload_n 3, 1) := by decide +kernel
theorem dX8_attempt_62 : decode cX8_attempt 62 = .ok (.iload 4, 2) := by decide +kernel
theorem dX8_attempt_64 : decode cX8_attempt 64 = .ok (.invokevirtual 209, 3) := by decide +kernel
theorem dX8_attempt_67 : decode cX8_attempt 67 = .ok (.ireturn, 1) := by decide +kernel
theorem dX8_bestGain_0 : decode cX8_bestGain 0 = .ok (.aload_n 0, 1) := by decide +kernel
theorem dX8_bestGain_1 : decode cX8_bestGain 1 = .ok (.getfield 10, 3) := by decide +kernel
theorem dX8_bestGain_4 : decode cX8_bestGain 4 = .ok (.iload_n 1, 1) := by decide +kernel
theorem dX8_bestGain_5 : decode cX8_bestGain 5 = .ok (.invokevirtual 177, 3) := by decide +kernel
theorem dX8_bestGain_8 : decode cX8_bestGain 8 = .ok (.astore 6, 2) := by decide +kernel
theorem dX8_bestGain_10 : decode cX8_bestGain 10 = .ok (.aload 6, 2) := by decide +kernel
theorem dX8_bestGain_12 : decode cX8_bestGain 12 = .ok (.ifnonnull 6, 3) := by decide +kernel
theorem dX8_bestGain_15 : decode cX8_bestGain 15 = .ok (.ldc 53, 2) := by decide +kernel
theorem dX8_bestGain_17 : decode cX8_bestGain 17 = .ok (.ireturn, 1) := by decide +kernel
theorem dX8_bestGain_18 : decode cX8_bestGain 18 = .ok (.iload_n 2, 1) := by decide +kernel
theorem dX8_bestGain_19 : decode cX8_bestGain 19 = .ok (.iconst 0, 1) := by decide +kernel
theorem dX8_bestGain_20 : decode cX8_bestGain 20 = .ok (.sipush 256, 3) := by decide +kernel
theorem dX8_bestGain_23 : decode cX8_bestGain 23 = .ok (.invokestatic 40, 3) := by decide +kernel
theorem dX8_bestGain_26 : decode cX8_bestGain 26 = .ok (.ifCond .eq 6, 3) := by decide +kernel
theorem dX8_bestGain_29 : decode cX8_bestGain 29 = .ok (.ldc 44, 2) := by decide +kernel
theorem dX8_bestGain_31 : decode cX8_bestGain 31 = .ok (.ireturn, 1) := by decide +kernel
theorem dX8_bestGain_32 : decode cX8_bestGain 32 = .ok (.iload_n 3, 1) := by decide +kernel
theorem dX8_bestGain_33 : decode cX8_bestGain 33 = .ok (.iconst 1, 1) := by decide +kernel
theorem dX8_bestGain_34 : decode cX8_bestGain 34 = .ok (.sipush 128, 3) := by decide +kernel
theorem dX8_bestGain_37 : decode cX8_bestGain 37 = .ok (.invokestatic 40, 3) := by decide +kernel
theorem dX8_bestGain_40 : decode cX8_bestGain 40 = .ok (.ifCond .eq 6, 3) := by decide +kernel
theorem dX8_bestGain_43 : decode cX8_bestGain 43 = .ok (.ldc 44, 2) := by decide +kernel
theorem dX8_bestGain_45 : decode cX8_bestGain 45 = .ok (.ireturn, 1) := by decide +kernel
theorem dX8_bestGain_46 : decode cX8_bestGain 46 = .ok (.iload 4, 2) := by decide +kernel
theorem dX8_bestGain_48 : decode cX8_bestGain 48 = .ok (.iconst 1, 1) := by decide +kernel
theorem dX8_bestGain_49 : decode cX8_bestGain 49 = .ok (.bipush 8, 2) := by decide +kernel
theorem dX8_bestGain_51 : decode cX8_bestGain 51 = .ok (.invokestatic 40, 3) := by decide +kernel
theorem dX8_bestGain_54 : decode cX8_bestGain 54 = .ok (.ifCond .eq 6, 3) := by decide +kernel
theorem dX8_bestGain_57 : decode cX8_bestGain 57 = .ok (.ldc 44, 2) := by decide +kernel
theorem dX8_bestGain_59 : decode cX8_bestGain 59 = .ok (.ireturn, 1) := by decide +kernel
theorem dX8_bestGain_60 : decode cX8_bestGain 60 = .ok (.iload_n 2, 1) := by decide +kernel
theorem dX8_bestGain_61 : decode cX8_bestGain 61 = .ok (.iload_n 3, 1) := by decide +kernel
theorem dX8_bestGain_62 : decode cX8_bestGain 62 = .ok (.iload 4, 2) := by decide +kernel
theorem dX8_bestGain_64 : decode cX8_bestGain 64 = .ok (.iconst 1, 1) := by decide +kernel
theorem dX8_bestGain_65 : decode cX8_bestGain 65 = .ok (.isub, 1) := by decide +kernel
theorem dX8_bestGain_66 : decode cX8_bestGain 66 = .ok (.imul, 1) := by decide +kernel
theorem dX8_bestGain_67 : decode cX8_bestGain 67 = .ok (.iadd, 1) := by decide +kernel
theorem dX8_bestGain_68 : decode cX8_bestGain 68 = .ok (.sipush 256, 3) := by decide +kernel
theorem dX8_bestGain_71 : decode cX8_bestGain 71 = .ok (.if_icmp .le 6, 3) := by decide +kernel
theorem dX8_bestGain_74 : decode cX8_bestGain 74 = .ok (.ldc 44, 2) := by decide +kernel
theorem dX8_bestGain_76 : decode cX8_bestGain 76 = .ok (.ireturn, 1) := by decide +kernel
theorem dX8_bestGain_77 : decode cX8_bestGain 77 = .ok (.iload 5, 2) := by decide +kernel
theorem dX8_bestGain_79 : decode cX8_bestGain 79 = .ok (.iconst 1, 1) := by decide +kernel
theorem dX8_bestGain_80 : decode cX8_bestGain 80 = .ok (.sipush 300, 3) := by decide +kernel
theorem dX8_bestGain_83 : decode cX8_bestGain 83 = .ok (.invokestatic 40, 3) := by decide +kernel
theorem dX8_bestGain_86 : decode cX8_bestGain 86 = .ok (.ifCond .eq 6, 3) := by decide +kernel
theorem dX8_bestGain_89 : decode cX8_bestGain 89 = .ok (.ldc 44, 2) := by decide +kernel
theorem dX8_bestGain_91 : decode cX8_bestGain 91 = .ok (.ireturn, 1) := by decide +kernel
theorem dX8_bestGain_92 : decode cX8_bestGain 92 = .ok (.iload_n 2, 1) := by decide +kernel
theorem dX8_bestGain_93 : decode cX8_bestGain 93 = .ok (.istore 7, 2) := by decide +kernel
theorem dX8_bestGain_95 : decode cX8_bestGain 95 = .ok (.aload_n 0, 1) := by decide +kernel
theorem dX8_bestGain_96 : decode cX8_bestGain 96 = .ok (.getfield 16, 3) := by decide +kernel
theorem dX8_bestGain_99 : decode cX8_bestGain 99 = .ok (.aload_n 0, 1) := by decide +kernel
theorem dX8_bestGain_100 : decode cX8_bestGain 100 = .ok (.getfield 10, 3) := by decide +kernel
theorem dX8_bestGain_103 : decode cX8_bestGain 103 = .ok (.iload_n 1, 1) := by decide +kernel
theorem dX8_bestGain_104 : decode cX8_bestGain 104 = .ok (.iconst 4, 1) := by decide +kernel
theorem dX8_bestGain_105 : decode cX8_bestGain 105 = .ok (.iload_n 2, 1) := by decide +kernel
theorem dX8_bestGain_106 : decode cX8_bestGain 106 = .ok (.iload 5, 2) := by decide +kernel
theorem dX8_bestGain_108 : decode cX8_bestGain 108 = .ok (.invokevirtual 209, 3) := by decide +kernel
theorem dX8_bestGain_111 : decode cX8_bestGain 111 = .ok (.istore 8, 2) := by decide +kernel
theorem dX8_bestGain_113 : decode cX8_bestGain 113 = .ok (.iconst 1, 1) := by decide +kernel
theorem dX8_bestGain_114 : decode cX8_bestGain 114 = .ok (.istore 9, 2) := by decide +kernel
theorem dX8_bestGain_116 : decode cX8_bestGain 116 = .ok (.iload 9, 2) := by decide +kernel
theorem dX8_bestGain_118 : decode cX8_bestGain 118 = .ok (.iload 4, 2) := by decide +kernel
theorem dX8_bestGain_120 : decode cX8_bestGain 120 = .ok (.if_icmp .ge 51, 3) := by decide +kernel
theorem dX8_bestGain_123 : decode cX8_bestGain 123 = .ok (.iload_n 2, 1) := by decide +kernel
theorem dX8_bestGain_124 : decode cX8_bestGain 124 = .ok (.iload_n 3, 1) := by decide +kernel
theorem dX8_bestGain_125 : decode cX8_bestGain 125 = .ok (.iload 9, 2) := by decide +kernel
theorem dX8_bestGain_127 : decode cX8_bestGain 127 = .ok (.imul, 1) := by decide +kernel
theorem dX8_bestGain_128 : decode cX8_bestGain 128 = .ok (.iadd, 1) := by decide +kernel
theorem dX8_bestGain_129 : decode cX8_bestGain 129 = .ok (.istore 10, 2) := by decide +kernel
theorem dX8_bestGain_131 : decode cX8_bestGain 131 = .ok (.aload_n 0, 1) := by decide +kernel
theorem dX8_bestGain_132 : decode cX8_bestGain 132 = .ok (.getfield 16, 3) := by decide +kernel
theorem dX8_bestGain_135 : decode cX8_bestGain 135 = .ok (.aload_n 0, 1) := by decide +kernel
theorem dX8_bestGain_136 : decode cX8_bestGain 136 = .ok (.getfield 10, 3) := by decide +kernel
theorem dX8_bestGain_139 : decode cX8_bestGain 139 = .ok (.iload_n 1, 1) := by decide +kernel
theorem dX8_bestGain_140 : decode cX8_bestGain 140 = .ok (.iconst 4, 1) := by decide +kernel
theorem dX8_bestGain_141 : decode cX8_bestGain 141 = .ok (.iload 10, 2) := by decide +kernel
theorem dX8_bestGain_143 : decode cX8_bestGain 143 = .ok (.iload 5, 2) := by decide +kernel
theorem dX8_bestGain_145 : decode cX8_bestGain 145 = .ok (.invokevirtual 209, 3) := by decide +kernel
theorem dX8_bestGain_148 : decode cX8_bestGain 148 = .ok (.istore 11, 2) := by decide +kernel
theorem dX8_bestGain_150 : decode cX8_bestGain 150 = .ok (.iload 11, 2) := by decide +kernel
theorem dX8_bestGain_152 : decode cX8_bestGain 152 = .ok (.iload 8, 2) := by decide +kernel
theorem dX8_bestGain_154 : decode cX8_bestGain 154 = .ok (.if_icmp .ge 11, 3) := by decide +kernel
theorem dX8_bestGain_157 : decode cX8_bestGain 157 = .ok (.iload 11, 2) := by decide +kernel
theorem dX8_bestGain_159 : decode cX8_bestGain 159 = .ok (.istore 8, 2) := by decide +kernel
theorem dX8_bestGain_161 : decode cX8_bestGain 161 = .ok (.iload 10, 2) := by decide +kernel
theorem dX8_bestGain_163 : decode cX8_bestGain 163 = .ok (.istore 7, 2) := by decide +kernel
theorem dX8_bestGain_165 : decode cX8_bestGain 165 = .ok (.iinc 9 1, 3) := by decide +kernel
theorem dX8_bestGain_168 : decode cX8_bestGain 168 = .ok (.goto (-52), 3) := by decide +kernel
theorem dX8_bestGain_171 : decode cX8_bestGain 171 = .ok (.iload 7, 2) := by decide +kernel
theorem dX8_bestGain_173 : decode cX8_bestGain 173 = .ok (.ireturn, 1) := by decide +kernel
theorem dX8_put_0 : decode cX8_put 0 = .ok (.lload_n 1, 1) := by decide +kernel
theorem dX8_put_1 : decode cX8_put 1 = .ok (.invokestatic 213, 3) := by decide +kernel
theorem dX8_put_4 : decode cX8_put 4 = .ok (.istore_n 3, 1) := by decide +kernel
theorem dX8_put_5 : decode cX8_put 5 = .ok (.iload_n 3, 1) := by decide +kernel
theorem dX8_put_6 : decode cX8_put 6 = .ok (.ifCond .ne 6, 3) := by decide +kernel
theorem dX8_put_9 : decode cX8_put 9 = .ok (.ldc 44, 2) := by decide +kernel
theorem dX8_put_11 : decode cX8_put 11 = .ok (.ireturn, 1) := by decide +kernel
theorem dX8_put_12 : decode cX8_put 12 = .ok (.aload_n 0, 1) := by decide +kernel
theorem dX8_put_13 : decode cX8_put 13 = .ok (.getfield 32, 3) := by decide +kernel
theorem dX8_put_16 : decode cX8_put 16 = .ok (.getfield 217, 3) := by decide +kernel
theorem dX8_put_19 : decode cX8_put 19 = .ok (.iload_n 3, 1) := by decide +kernel
theorem dX8_put_20 : decode cX8_put 20 = .ok (.iadd, 1) := by decide +kernel
theorem dX8_put_21 : decode cX8_put 21 = .ok (.bipush 80, 2) := by decide +kernel
theorem dX8_put_23 : decode cX8_put 23 = .ok (.if_icmp .le 6, 3) := by decide +kernel
theorem dX8_put_26 : decode cX8_put 26 = .ok (.ldc 220, 2) := by decide +kernel
theorem dX8_put_28 : decode cX8_put 28 = .ok (.ireturn, 1) := by decide +kernel
theorem dX8_put_29 : decode cX8_put 29 = .ok (.iload_n 3, 1) := by decide +kernel
theorem dX8_put_30 : decode cX8_put 30 = .ok (.iconst 1, 1) := by decide +kernel
theorem dX8_put_31 : decode cX8_put 31 = .ok (.isub, 1) := by decide +kernel
theorem dX8_put_32 : decode cX8_put 32 = .ok (.istore 4, 2) := by decide +kernel
theorem dX8_put_34 : decode cX8_put 34 = .ok (.iload 4, 2) := by decide +kernel
theorem dX8_put_36 : decode cX8_put 36 = .ok (.ifCond .lt 28, 3) := by decide +kernel
theorem dX8_put_39 : decode cX8_put 39 = .ok (.aload_n 0, 1) := by decide +kernel
theorem dX8_put_40 : decode cX8_put 40 = .ok (.getfield 32, 3) := by decide +kernel
theorem dX8_put_43 : decode cX8_put 43 = .ok (.lload_n 1, 1) := by decide +kernel
theorem dX8_put_44 : decode cX8_put 44 = .ok (.bipush 8, 2) := by decide +kernel
theorem dX8_put_46 : decode cX8_put 46 = .ok (.iload 4, 2) := by decide +kernel
theorem dX8_put_48 : decode cX8_put 48 = .ok (.imul, 1) := by decide +kernel
theorem dX8_put_49 : decode cX8_put 49 = .ok (.lushr, 1) := by decide +kernel
theorem dX8_put_50 : decode cX8_put 50 = .ok (.l2i, 1) := by decide +kernel
theorem dX8_put_51 : decode cX8_put 51 = .ok (.sipush 255, 3) := by decide +kernel
theorem dX8_put_54 : decode cX8_put 54 = .ok (.iand, 1) := by decide +kernel
theorem dX8_put_55 : decode cX8_put 55 = .ok (.invokevirtual 221, 3) := by decide +kernel
theorem dX8_put_58 : decode cX8_put 58 = .ok (.iinc 4 (-1), 3) := by decide +kernel
theorem dX8_put_61 : decode cX8_put 61 = .ok (.goto (-27), 3) := by decide +kernel
theorem dX8_put_64 : decode cX8_put 64 = .ok (.aload_n 0, 1) := by decide +kernel
theorem dX8_put_65 : decode cX8_put 65 = .ok (.getfield 32, 3) := by decide +kernel
theorem dX8_put_68 : decode cX8_put 68 = .ok (.getfield 217, 3) := by decide +kernel
theorem dX8_put_71 : decode cX8_put 71 = .ok (.ireturn, 1) := by decide +kernel
theorem dX8_wipe_0 : decode cX8_wipe 0 = .ok (.aload_n 0, 1) := by decide +kernel
theorem dX8_wipe_1 : decode cX8_wipe 1 = .ok (.getfield 32, 3) := by decide +kernel
theorem dX8_wipe_4 : decode cX8_wipe 4 = .ok (.getfield 217, 3) := by decide +kernel
theorem dX8_wipe_7 : decode cX8_wipe 7 = .ok (.istore_n 1, 1) := by decide +kernel
theorem dX8_wipe_8 : decode cX8_wipe 8 = .ok (.aload_n 0, 1) := by decide +kernel
theorem dX8_wipe_9 : decode cX8_wipe 9 = .ok (.getfield 32, 3) := by decide +kernel
theorem dX8_wipe_12 : decode cX8_wipe 12 = .ok (.iconst 0, 1) := by decide +kernel
theorem dX8_wipe_13 : decode cX8_wipe 13 = .ok (.putfield 217, 3) := by decide +kernel
theorem dX8_wipe_16 : decode cX8_wipe 16 = .ok (.iload_n 1, 1) := by decide +kernel
theorem dX8_wipe_17 : decode cX8_wipe 17 = .ok (.ireturn, 1) := by decide +kernel
theorem dX8_fault_0 : decode cX8_fault 0 = .ok (.aload_n 0, 1) := by decide +kernel
theorem dX8_fault_1 : decode cX8_fault 1 = .ok (.getfield 32, 3) := by decide +kernel
theorem dX8_fault_4 : decode cX8_fault 4 = .ok (.invokevirtual 224, 3) := by decide +kernel
theorem dX8_fault_7 : decode cX8_fault 7 = .ok (.aload_n 0, 1) := by decide +kernel
theorem dX8_fault_8 : decode cX8_fault 8 = .ok (.getfield 32, 3) := by decide +kernel
theorem dX8_fault_11 : decode cX8_fault 11 = .ok (.getfield 227, 3) := by decide +kernel
theorem dX8_fault_14 : decode cX8_fault 14 = .ok (.ifCond .eq 13, 3) := by decide +kernel
theorem dX8_fault_17 : decode cX8_fault 17 = .ok (.aload_n 0, 1) := by decide +kernel
theorem dX8_fault_18 : decode cX8_fault 18 = .ok (.getfield 32, 3) := by decide +kernel
theorem dX8_fault_21 : decode cX8_fault 21 = .ok (.getfield 230, 3) := by decide +kernel
theorem dX8_fault_24 : decode cX8_fault 24 = .ok (.goto 5, 3) := by decide +kernel
theorem dX8_fault_27 : decode cX8_fault 27 = .ok (.ldc 152, 2) := by decide +kernel
theorem dX8_fault_29 : decode cX8_fault 29 = .ok (.ireturn, 1) := by decide +kernel
theorem dX8_carryOut_0 : decode cX8_carryOut 0 = .ok (.aload_n 0, 1) := by decide +kernel
theorem dX8_carryOut_1 : decode cX8_carryOut 1 = .ok (.getfield 32, 3) := by decide +kernel
theorem dX8_carryOut_4 : decode cX8_carryOut 4 = .ok (.invokevirtual 224, 3) := by decide +kernel
theorem dX8_carryOut_7 : decode cX8_carryOut 7 = .ok (.aload_n 0, 1) := by decide +kernel
theorem dX8_carryOut_8 : decode cX8_carryOut 8 = .ok (.getfield 32, 3) := by decide +kernel
theorem dX8_carryOut_11 : decode cX8_carryOut 11 = .ok (.getfield 227, 3) := by decide +kernel
theorem dX8_carryOut_14 : decode cX8_carryOut 14 = .ok (.ifCond .eq 6, 3) := by decide +kernel
theorem dX8_carryOut_17 : decode cX8_carryOut 17 = .ok (.ldc 233, 2) := by decide +kernel
theorem dX8_carryOut_19 : decode cX8_carryOut 19 = .ok (.ireturn, 1) := by decide +kernel
theorem dX8_carryOut_20 : decode cX8_carryOut 20 = .ok (.aload_n 0, 1) := by decide +kernel
theorem dX8_carryOut_21 : decode cX8_carryOut 21 = .ok (.getfield 32, 3) := by decide +kernel
theorem dX8_carryOut_24 : decode cX8_carryOut 24 = .ok (.getfield 234, 3) := by decide +kernel
theorem dX8_carryOut_27 : decode cX8_carryOut 27 = .ok (.istore_n 1, 1) := by decide +kernel
theorem dX8_carryOut_28 : decode cX8_carryOut 28 = .ok (.aload_n 0, 1) := by decide +kernel
theorem dX8_carryOut_29 : decode cX8_carryOut 29 = .ok (.getfield 32, 3) := by decide +kernel
theorem dX8_carryOut_32 : decode cX8_carryOut 32 = .ok (.getfield 237, 3) := by decide +kernel
theorem dX8_carryOut_35 : decode cX8_carryOut 35 = .ok (.aload_n 0, 1) := by decide +kernel
theorem dX8_carryOut_36 : decode cX8_carryOut 36 = .ok (.getfield 10, 3) := by decide +kernel
theorem dX8_carryOut_39 : decode cX8_carryOut 39 = .ok (.getfield 240, 3) := by decide +kernel
theorem dX8_carryOut_42 : decode cX8_carryOut 42 = .ok (.if_icmp .lt 6, 3) := by decide +kernel
theorem dX8_carryOut_45 : decode cX8_carryOut 45 = .ok (.ldc 53, 2) := by decide +kernel
theorem dX8_carryOut_47 : decode cX8_carryOut 47 = .ok (.ireturn, 1) := by decide +kernel
theorem dX8_carryOut_48 : decode cX8_carryOut 48 = .ok (.aload_n 0, 1) := by decide +kernel
theorem dX8_carryOut_49 : decode cX8_carryOut 49 = .ok (.getfield 10, 3) := by decide +kernel
theorem dX8_carryOut_52 : decode cX8_carryOut 52 = .ok (.getfield 45, 3) := by decide +kernel
theorem dX8_carryOut_55 : decode cX8_carryOut 55 = .ok (.iload_n 1, 1) := by decide +kernel
theorem dX8_carryOut_56 : decode cX8_carryOut 56 = .ok (.iadd, 1) := by decide +kernel
theorem dX8_carryOut_57 : decode cX8_carryOut 57 = .ok (.ldc 132, 2) := by decide +kernel
theorem dX8_carryOut_59 : decode cX8_carryOut 59 = .ok (.if_icmp .le 6, 3) := by decide +kernel
theorem dX8_carryOut_62 : decode cX8_carryOut 62 = .ok (.ldc 62, 2) := by decide +kernel
theorem dX8_carryOut_64 : decode cX8_carryOut 64 = .ok (.ireturn, 1) := by decide +kernel
theorem dX8_carryOut_65 : decode cX8_carryOut 65 = .ok (.aload_n 0, 1) := by decide +kernel
theorem dX8_carryOut_66 : decode cX8_carryOut 66 = .ok (.getfield 32, 3) := by decide +kernel
theorem dX8_carryOut_69 : decode cX8_carryOut 69 = .ok (.invokevirtual 243, 3) := by decide +kernel
theorem dX8_carryOut_72 : decode cX8_carryOut 72 = .ok (.iconst 0, 1) := by decide +kernel
theorem dX8_carryOut_73 : decode cX8_carryOut 73 = .ok (.istore_n 2, 1) := by decide +kernel
theorem dX8_carryOut_74 : decode cX8_carryOut 74 = .ok (.iload_n 2, 1) := by decide +kernel
theorem dX8_carryOut_75 : decode cX8_carryOut 75 = .ok (.bipush 80, 2) := by decide +kernel
theorem dX8_carryOut_77 : decode cX8_carryOut 77 = .ok (.if_icmp .ge 30, 3) := by decide +kernel
theorem dX8_carryOut_80 : decode cX8_carryOut 80 = .ok (.aload_n 0, 1) := by decide +kernel
theorem dX8_carryOut_81 : decode cX8_carryOut 81 = .ok (.getfield 32, 3) := by decide +kernel
theorem dX8_carryOut_84 : decode cX8_carryOut 84 = .ok (.invokevirtual 246, 3) := by decide +kernel
theorem dX8_carryOut_87 : decode cX8_carryOut 87 = .ok (.ifCond .eq 20, 3) := by decide +kernel
theorem dX8_carryOut_90 : decode cX8_carryOut 90 = .ok (.aload_n 0, 1) := by decide +kernel
theorem dX8_carryOut_91 : decode cX8_carryOut 91 = .ok (.getfield 32, 3) := by decide +kernel
theorem dX8_carryOut_94 : decode cX8_carryOut 94 = .ok (.invokevirtual 250, 3) := by decide +kernel
theorem dX8_carryOut_97 : decode cX8_carryOut 97 = .ok (.aload_n 0, 1) := by decide +kernel
theorem dX8_carryOut_98 : decode cX8_carryOut 98 = .ok (.invokevirtual 253, 3) := by decide +kernel
theorem dX8_carryOut_101 : decode cX8_carryOut 101 = .ok (.iinc 2 1, 3) := by decide +kernel
theorem dX8_carryOut_104 : decode cX8_carryOut 104 = .ok (.goto (-30), 3) := by decide +kernel
theorem dX8_carryOut_107 : decode cX8_carryOut 107 = .ok (.aload_n 0, 1) := by decide +kernel
theorem dX8_carryOut_108 : decode cX8_carryOut 108 = .ok (.getfield 32, 3) := by decide +kernel
theorem dX8_carryOut_111 : decode cX8_carryOut 111 = .ok (.iconst 0, 1) := by decide +kernel
theorem dX8_carryOut_112 : decode cX8_carryOut 112 = .ok (.putfield 217, 3) := by decide +kernel
theorem dX8_carryOut_115 : decode cX8_carryOut 115 = .ok (.iload_n 1, 1) := by decide +kernel
theorem dX8_carryOut_116 : decode cX8_carryOut 116 = .ok (.ireturn, 1) := by decide +kernel
theorem dX8_count_0 : decode cX8_count 0 = .ok (.iload_n 1, 1) := by decide +kernel
theorem dX8_count_1 : decode cX8_count 1 = .ok (.tableswitch 75 0 4 #[35, 43, 51, 59, 67], 35) := by decide +kernel
theorem dX8_count_36 : decode cX8_count 36 = .ok (.aload_n 0, 1) := by decide +kernel
theorem dX8_count_37 : decode cX8_count 37 = .ok (.getfield 10, 3) := by decide +kernel
theorem dX8_count_40 : decode cX8_count 40 = .ok (.getfield 45, 3) := by decide +kernel
theorem dX8_count_43 : decode cX8_count 43 = .ok (.ireturn, 1) := by decide +kernel
theorem dX8_count_44 : decode cX8_count 44 = .ok (.aload_n 0, 1) := by decide +kernel
theorem dX8_count_45 : decode cX8_count 45 = .ok (.getfield 10, 3) := by decide +kernel
theorem dX8_count_48 : decode cX8_count 48 = .ok (.getfield 240, 3) := by decide +kernel
theorem dX8_count_51 : decode cX8_count 51 = .ok (.ireturn, 1) := by decide +kernel
theorem dX8_count_52 : decode cX8_count 52 = .ok (.aload_n 0, 1) := by decide +kernel
theorem dX8_count_53 : decode cX8_count 53 = .ok (.getfield 10, 3) := by decide +kernel
theorem dX8_count_56 : decode cX8_count 56 = .ok (.getfield 101, 3) := by decide +kernel
theorem dX8_count_59 : decode cX8_count 59 = .ok (.ireturn, 1) := by decide +kernel
theorem dX8_count_60 : decode cX8_count 60 = .ok (.aload_n 0, 1) := by decide +kernel
theorem dX8_count_61 : decode cX8_count 61 = .ok (.getfield 10, 3) := by decide +kernel
theorem dX8_count_64 : decode cX8_count 64 = .ok (.invokevirtual 128, 3) := by decide +kernel
theorem dX8_count_67 : decode cX8_count 67 = .ok (.ireturn, 1) := by decide +kernel
theorem dX8_count_68 : decode cX8_count 68 = .ok (.aload_n 0, 1) := by decide +kernel
theorem dX8_count_69 : decode cX8_count 69 = .ok (.getfield 32, 3) := by decide +kernel
theorem dX8_count_72 : decode cX8_count 72 = .ok (.getfield 217, 3) := by decide +kernel
theorem dX8_count_75 : decode cX8_count 75 = .ok (.ireturn, 1) := by decide +kernel
theorem dX8_count_76 : decode cX8_count 76 = .ok (.ldc 44, 2) := by decide +kernel
theorem dX8_count_78 : decode cX8_count 78 = .ok (.ireturn, 1) := by decide +kernel
theorem dX8_save_0 : decode cX8_save 0 = .ok (.aload_n 0, 1) := by decide +kernel
theorem dX8_save_1 : decode cX8_save 1 = .ok (.iload_n 1, 1) := by decide +kernel
theorem dX8_save_2 : decode cX8_save 2 = .ok (.invokevirtual 256, 3) := by decide +kernel
theorem dX8_save_5 : decode cX8_save 5 = .ok (.astore_n 2, 1) := by decide +kernel
theorem dX8_save_6 : decode cX8_save 6 = .ok (.aload_n 2, 1) := by decide +kernel
theorem dX8_save_7 : decode cX8_save 7 = .ok (.ifnonnull 6, 3) := by decide +kernel
theorem dX8_save_10 : decode cX8_save 10 = .ok (.ldc 44, 2) := by decide +kernel
theorem dX8_save_12 : decode cX8_save 12 = .ok (.ireturn, 1) := by decide +kernel
theorem dX8_save_13 : decode cX8_save 13 = .ok (.aload_n 2, 1) := by decide +kernel
theorem dX8_save_14 : decode cX8_save 14 = .ok (.getfield 260, 3) := by decide +kernel
theorem dX8_save_17 : decode cX8_save 17 = .ok (.aload_n 0, 1) := by decide +kernel
theorem dX8_save_18 : decode cX8_save 18 = .ok (.getfield 10, 3) := by decide +kernel
theorem dX8_save_21 : decode cX8_save 21 = .ok (.invokevirtual 202, 3) := by decide +kernel
theorem dX8_save_24 : decode cX8_save 24 = .ok (.aload_n 2, 1) := by decide +kernel
theorem dX8_save_25 : decode cX8_save 25 = .ok (.iconst 1, 1) := by decide +kernel
theorem dX8_save_26 : decode cX8_save 26 = .ok (.putfield 263, 3) := by decide +kernel
theorem dX8_save_29 : decode cX8_save 29 = .ok (.aload_n 0, 1) := by decide +kernel
theorem dX8_save_30 : decode cX8_save 30 = .ok (.getfield 10, 3) := by decide +kernel
theorem dX8_save_33 : decode cX8_save 33 = .ok (.getfield 45, 3) := by decide +kernel
theorem dX8_save_36 : decode cX8_save 36 = .ok (.ireturn, 1) := by decide +kernel
theorem dX8_restore_0 : decode cX8_restore 0 = .ok (.aload_n 0, 1) := by decide +kernel
theorem dX8_restore_1 : decode cX8_restore 1 = .ok (.iload_n 1, 1) := by decide +kernel
theorem dX8_restore_2 : decode cX8_restore 2 = .ok (.invokevirtual 256, 3) := by decide +kernel
theorem dX8_restore_5 : decode cX8_restore 5 = .ok (.astore_n 2, 1) := by decide +kernel
theorem dX8_restore_6 : decode cX8_restore 6 = .ok (.aload_n 2, 1) := by decide +kernel
theorem dX8_restore_7 : decode cX8_restore 7 = .ok (.ifnonnull 6, 3) := by decide +kernel
theorem dX8_restore_10 : decode cX8_restore 10 = .ok (.ldc 44, 2) := by decide +kernel
theorem dX8_restore_12 : decode cX8_restore 12 = .ok (.ireturn, 1) := by decide +kernel
theorem dX8_restore_13 : decode cX8_restore 13 = .ok (.aload_n 2, 1) := by decide +kernel
theorem dX8_restore_14 : decode cX8_restore 14 = .ok (.getfield 263, 3) := by decide +kernel
theorem dX8_restore_17 : decode cX8_restore 17 = .ok (.ifCond .ne 6, 3) := by decide +kernel
theorem dX8_restore_20 : decode cX8_restore 20 = .ok (.ldc 62, 2) := by decide +kernel
theorem dX8_restore_22 : decode cX8_restore 22 = .ok (.ireturn, 1) := by decide +kernel
theorem dX8_restore_23 : decode cX8_restore 23 = .ok (.aload_n 0, 1) := by decide +kernel
theorem dX8_restore_24 : decode cX8_restore 24 = .ok (.getfield 10, 3) := by decide +kernel
theorem dX8_restore_27 : decode cX8_restore 27 = .ok (.aload_n 2, 1) := by decide +kernel
theorem dX8_restore_28 : decode cX8_restore 28 = .ok (.getfield 260, 3) := by decide +kernel
theorem dX8_restore_31 : decode cX8_restore 31 = .ok (.invokevirtual 202, 3) := by decide +kernel
theorem dX8_restore_34 : decode cX8_restore 34 = .ok (.aload_n 0, 1) := by decide +kernel
theorem dX8_restore_35 : decode cX8_restore 35 = .ok (.getfield 10, 3) := by decide +kernel
theorem dX8_restore_38 : decode cX8_restore 38 = .ok (.getfield 45, 3) := by decide +kernel
theorem dX8_restore_41 : decode cX8_restore 41 = .ok (.ireturn, 1) := by decide +kernel
theorem dX8_slotAt_0 : decode cX8_slotAt 0 = .ok (.iload_n 1, 1) := by decide +kernel
theorem dX8_slotAt_1 : decode cX8_slotAt 1 = .ok (.ifCond .ne 8, 3) := by decide +kernel
theorem dX8_slotAt_4 : decode cX8_slotAt 4 = .ok (.aload_n 0, 1) := by decide +kernel
theorem dX8_slotAt_5 : decode cX8_slotAt 5 = .ok (.getfield 22, 3) := by decide +kernel
theorem dX8_slotAt_8 : decode cX8_slotAt 8 = .ok (.areturn, 1) := by decide +kernel
theorem dX8_slotAt_9 : decode cX8_slotAt 9 = .ok (.iload_n 1, 1) := by decide +kernel
theorem dX8_slotAt_10 : decode cX8_slotAt 10 = .ok (.iconst 1, 1) := by decide +kernel
theorem dX8_slotAt_11 : decode cX8_slotAt 11 = .ok (.if_icmp .ne 10, 3) := by decide +kernel
theorem dX8_slotAt_14 : decode cX8_slotAt 14 = .ok (.aload_n 0, 1) := by decide +kernel
theorem dX8_slotAt_15 : decode cX8_slotAt 15 = .ok (.getfield 26, 3) := by decide +kernel
theorem dX8_slotAt_18 : decode cX8_slotAt 18 = .ok (.goto 4, 3) := by decide +kernel
theorem dX8_slotAt_21 : decode cX8_slotAt 21 = .ok (.aconst_null, 1) := by decide +kernel
theorem dX8_slotAt_22 : decode cX8_slotAt 22 = .ok (.areturn, 1) := by decide +kernel
theorem dX8_carryOutStep_0 : decode cX8_carryOutStep 0 = .ok (.aload_n 0, 1) := by decide +kernel
theorem dX8_carryOutStep_1 : decode cX8_carryOutStep 1 = .ok (.getfield 32, 3) := by decide +kernel
theorem dX8_carryOutStep_4 : decode cX8_carryOutStep 4 = .ok (.getfield 266, 3) := by decide +kernel
theorem dX8_carryOutStep_7 : decode cX8_carryOutStep 7 = .ok (.lookupswitch 154 #[(100, 87), (110, 41), (112, 130), (118, 70)], 41) := by decide +kernel
theorem dX8_carryOutStep_48 : decode cX8_carryOutStep 48 = .ok (.iconst 0, 1) := by decide +kernel
theorem dX8_carryOutStep_49 : decode cX8_carryOutStep 49 = .ok (.istore_n 1, 1) := by decide +kernel
theorem dX8_carryOutStep_50 : decode cX8_carryOutStep 50 = .ok (.iload_n 1, 1) := by decide +kernel
theorem dX8_carryOutStep_51 : decode cX8_carryOutStep 51 = .ok (.aload_n 0, 1) := by decide +kernel
theorem dX8_carryOutStep_52 : decode cX8_carryOutStep 52 = .ok (.getfield 32, 3) := by decide +kernel
theorem dX8_carryOutStep_55 : decode cX8_carryOutStep 55 = .ok (.getfield 269, 3) := by decide +kernel
theorem dX8_carryOutStep_58 : decode cX8_carryOutStep 58 = .ok (.if_icmp .ge 16, 3) := by decide +kernel
theorem dX8_carryOutStep_61 : decode cX8_carryOutStep 61 = .ok (.aload_n 0, 1) := by decide +kernel
theorem dX8_carryOutStep_62 : decode cX8_carryOutStep 62 = .ok (.getfield 10, 3) := by decide +kernel
theorem dX8_carryOutStep_65 : decode cX8_carryOutStep 65 = .ok (.invokevirtual 133, 3) := by decide +kernel
theorem dX8_carryOutStep_68 : decode cX8_carryOutStep 68 = .ok (.iinc 1 1, 3) := by decide +kernel
theorem dX8_carryOutStep_71 : decode cX8_carryOutStep 71 = .ok (.goto (-21), 3) := by decide +kernel
theorem dX8_carryOutStep_74 : decode cX8_carryOutStep 74 = .ok (.goto 87, 3) := by decide +kernel
theorem dX8_carryOutStep_77 : decode cX8_carryOutStep 77 = .ok (.aload_n 0, 1) := by decide +kernel
theorem dX8_carryOutStep_78 : decode cX8_carryOutStep 78 = .ok (.getfield 10, 3) := by decide +kernel
theorem dX8_carryOutStep_81 : decode cX8_carryOutStep 81 = .ok (.aload_n 0, 1) := by decide +kernel
theorem dX8_carryOutStep_82 : decode cX8_carryOutStep 82 = .ok (.getfield 32, 3) := by decide +kernel
theorem dX8_carryOutStep_85 : decode cX8_carryOutStep 85 = .ok (.getfield 269, 3) := by decide +kernel
theorem dX8_carryOutStep_88 : decode cX8_carryOutStep 88 = .ok (.putfield 101, 3) := by decide +kernel
theorem dX8_carryOutStep_91 : decode cX8_carryOutStep 91 = .ok (.goto 70, 3) := by decide +kernel
theorem dX8_carryOutStep_94 : decode cX8_carryOutStep 94 = .ok (.aload_n 0, 1) := by decide +kernel
theorem dX8_carryOutStep_95 : decode cX8_carryOutStep 95 = .ok (.getfield 10, 3) := by decide +kernel
theorem dX8_carryOutStep_98 : decode cX8_carryOutStep 98 = .ok (.aload_n 0, 1) := by decide +kernel
theorem dX8_carryOutStep_99 : decode cX8_carryOutStep 99 = .ok (.getfield 32, 3) := by decide +kernel
theorem dX8_carryOutStep_102 : decode cX8_carryOutStep 102 = .ok (.getfield 272, 3) := by decide +kernel
theorem dX8_carryOutStep_105 : decode cX8_carryOutStep 105 = .ok (.invokevirtual 49, 3) := by decide +kernel
theorem dX8_carryOutStep_108 : decode cX8_carryOutStep 108 = .ok (.astore_n 1, 1) := by decide +kernel
theorem dX8_carryOutStep_109 : decode cX8_carryOutStep 109 = .ok (.aload_n 1, 1) := by decide +kernel
theorem dX8_carryOutStep_110 : decode cX8_carryOutStep 110 = .ok (.ifnull 51, 3) := by decide +kernel
theorem dX8_carryOutStep_113 : decode cX8_carryOutStep 113 = .ok (.aload_n 1, 1) := by decide +kernel
theorem dX8_carryOutStep_114 : decode cX8_carryOutStep 114 = .ok (.getfield 77, 3) := by decide +kernel
theorem dX8_carryOutStep_117 : decode cX8_carryOutStep 117 = .ok (.aload_n 0, 1) := by decide +kernel
theorem dX8_carryOutStep_118 : decode cX8_carryOutStep 118 = .ok (.getfield 32, 3) := by decide +kernel
theorem dX8_carryOutStep_121 : decode cX8_carryOutStep 121 = .ok (.getfield 269, 3) := by decide +kernel
theorem dX8_carryOutStep_124 : decode cX8_carryOutStep 124 = .ok (.aload_n 0, 1) := by decide +kernel
theorem dX8_carryOutStep_125 : decode cX8_carryOutStep 125 = .ok (.getfield 32, 3) := by decide +kernel
theorem dX8_carryOutStep_128 : decode cX8_carryOutStep 128 = .ok (.getfield 275, 3) := by decide +kernel
theorem dX8_carryOutStep_131 : decode cX8_carryOutStep 131 = .ok (.invokevirtual 107, 3) := by decide +kernel
theorem dX8_carryOutStep_134 : decode cX8_carryOutStep 134 = .ok (.goto 27, 3) := by decide +kernel
theorem dX8_carryOutStep_137 : decode cX8_carryOutStep 137 = .ok (.aload_n 0, 1) := by decide +kernel
theorem dX8_carryOutStep_138 : decode cX8_carryOutStep 138 = .ok (.getfield 10, 3) := by decide +kernel
theorem dX8_carryOutStep_141 : decode cX8_carryOutStep 141 = .ok (.aload_n 0, 1) := by decide +kernel
theorem dX8_carryOutStep_142 : decode cX8_carryOutStep 142 = .ok (.getfield 32, 3) := by decide +kernel
theorem dX8_carryOutStep_145 : decode cX8_carryOutStep 145 = .ok (.getfield 269, 3) := by decide +kernel
theorem dX8_carryOutStep_148 : decode cX8_carryOutStep 148 = .ok (.aload_n 0, 1) := by decide +kernel
theorem dX8_carryOutStep_149 : decode cX8_carryOutStep 149 = .ok (.getfield 32, 3) := by decide +kernel
theorem dX8_carryOutStep_152 : decode cX8_carryOutStep 152 = .ok (.getfield 275, 3) := by decide +kernel
theorem dX8_carryOutStep_155 : decode cX8_carryOutStep 155 = .ok (.invokevirtual 125, 3) := by decide +kernel
theorem dX8_carryOutStep_158 : decode cX8_carryOutStep 158 = .ok (.goto 3, 3) := by decide +kernel
theorem dX8_carryOutStep_161 : decode cX8_carryOutStep 161 = .ok (.return_, 1) := by decide +kernel
theorem dX8_charactersIn_0 : decode cX8_charactersIn 0 = .ok (.lload_n 0, 1) := by decide +kernel
theorem dX8_charactersIn_1 : decode cX8_charactersIn 1 = .ok (.lstore_n 2, 1) := by decide +kernel
theorem dX8_charactersIn_2 : decode cX8_charactersIn 2 = .ok (.iconst 0, 1) := by decide +kernel
theorem dX8_charactersIn_3 : decode cX8_charactersIn 3 = .ok (.istore 4, 2) := by decide +kernel
theorem dX8_charactersIn_5 : decode cX8_charactersIn 5 = .ok (.lload_n 2, 1) := by decide +kernel
theorem dX8_charactersIn_6 : decode cX8_charactersIn 6 = .ok (.lconst 0, 1) := by decide +kernel
theorem dX8_charactersIn_7 : decode cX8_charactersIn 7 = .ok (.lcmp, 1) := by decide +kernel
theorem dX8_charactersIn_8 : decode cX8_charactersIn 8 = .ok (.ifCond .eq 39, 3) := by decide +kernel
theorem dX8_charactersIn_11 : decode cX8_charactersIn 11 = .ok (.iload 4, 2) := by decide +kernel
theorem dX8_charactersIn_13 : decode cX8_charactersIn 13 = .ok (.bipush 8, 2) := by decide +kernel
theorem dX8_charactersIn_15 : decode cX8_charactersIn 15 = .ok (.if_icmp .ge 32, 3) := by decide +kernel
theorem dX8_charactersIn_18 : decode cX8_charactersIn 18 = .ok (.lload_n 2, 1) := by decide +kernel
theorem dX8_charactersIn_19 : decode cX8_charactersIn 19 = .ok (.ldc2_w 278, 3) := by decide +kernel
theorem dX8_charactersIn_22 : decode cX8_charactersIn 22 = .ok (.land, 1) := by decide +kernel
theorem dX8_charactersIn_23 : decode cX8_charactersIn 23 = .ok (.l2i, 1) := by decide +kernel
theorem dX8_charactersIn_24 : decode cX8_charactersIn 24 = .ok (.bipush 33, 2) := by decide +kernel
theorem dX8_charactersIn_26 : decode cX8_charactersIn 26 = .ok (.bipush 126, 2) := by decide +kernel
theorem dX8_charactersIn_28 : decode cX8_charactersIn 28 = .ok (.invokestatic 40, 3) := by decide +kernel
theorem dX8_charactersIn_31 : decode cX8_charactersIn 31 = .ok (.ifCond .eq 5, 3) := by decide +kernel
theorem dX8_charactersIn_34 : decode cX8_charactersIn 34 = .ok (.iconst 0, 1) := by decide +kernel
theorem dX8_charactersIn_35 : decode cX8_charactersIn 35 = .ok (.ireturn, 1) := by decide +kernel
theorem dX8_charactersIn_36 : decode cX8_charactersIn 36 = .ok (.lload_n 2, 1) := by decide +kernel
theorem dX8_charactersIn_37 : decode cX8_charactersIn 37 = .ok (.bipush 8, 2) := by decide +kernel
theorem dX8_charactersIn_39 : decode cX8_charactersIn 39 = .ok (.lushr, 1) := by decide +kernel
theorem dX8_charactersIn_40 : decode cX8_charactersIn 40 = .ok (.lstore_n 2, 1) := by decide +kernel
theorem dX8_charactersIn_41 : decode cX8_charactersIn 41 = .ok (.iinc 4 1, 3) := by decide +kernel
theorem dX8_charactersIn_44 : decode cX8_charactersIn 44 = .ok (.goto (-39), 3) := by decide +kernel
theorem dX8_charactersIn_47 : decode cX8_charactersIn 47 = .ok (.iload 4, 2) := by decide +kernel
theorem dX8_charactersIn_49 : decode cX8_charactersIn 49 = .ok (.ireturn, 1) := by decide +kernel
theorem dX8_isOutside_0 : decode cX8_isOutside 0 = .ok (.iload_n 0, 1) := by decide +kernel
theorem dX8_isOutside_1 : decode cX8_isOutside 1 = .ok (.iload_n 1, 1) := by decide +kernel
theorem dX8_isOutside_2 : decode cX8_isOutside 2 = .ok (.if_icmp .lt 8, 3) := by decide +kernel
theorem dX8_isOutside_5 : decode cX8_isOutside 5 = .ok (.iload_n 0, 1) := by decide +kernel
theorem dX8_isOutside_6 : decode cX8_isOutside 6 = .ok (.iload_n 2, 1) := by decide +kernel
theorem dX8_isOutside_7 : decode cX8_isOutside 7 = .ok (.if_icmp .le 7, 3) := by decide +kernel
theorem dX8_isOutside_10 : decode cX8_isOutside 10 = .ok (.iconst 1, 1) := by decide +kernel
theorem dX8_isOutside_11 : decode cX8_isOutside 11 = .ok (.goto 4, 3) := by decide +kernel
theorem dX8_isOutside_14 : decode cX8_isOutside 14 = .ok (.iconst 0, 1) := by decide +kernel
theorem dX8_isOutside_15 : decode cX8_isOutside 15 = .ok (.ireturn, 1) := by decide +kernel
theorem dX8_isSettingValue_0 : decode cX8_isSettingValue 0 = .ok (.iload_n 0, 1) := by decide +kernel
theorem dX8_isSettingValue_1 : decode cX8_isSettingValue 1 = .ok (.ifCond .lt 9, 3) := by decide +kernel
theorem dX8_isSettingValue_4 : decode cX8_isSettingValue 4 = .ok (.iload_n 0, 1) := by decide +kernel
theorem dX8_isSettingValue_5 : decode cX8_isSettingValue 5 = .ok (.bipush 11, 2) := by decide +kernel
theorem dX8_isSettingValue_7 : decode cX8_isSettingValue 7 = .ok (.if_icmp .lt 5, 3) := by decide +kernel
theorem dX8_isSettingValue_10 : decode cX8_isSettingValue 10 = .ok (.iconst 0, 1) := by decide +kernel
theorem dX8_isSettingValue_11 : decode cX8_isSettingValue 11 = .ok (.ireturn, 1) := by decide +kernel
theorem dX8_isSettingValue_12 : decode cX8_isSettingValue 12 = .ok (.iload_n 1, 1) := by decide +kernel
theorem dX8_isSettingValue_13 : decode cX8_isSettingValue 13 = .ok (.getstatic 280, 3) := by decide +kernel
theorem dX8_isSettingValue_16 : decode cX8_isSettingValue 16 = .ok (.iload_n 0, 1) := by decide +kernel
theorem dX8_isSettingValue_17 : decode cX8_isSettingValue 17 = .ok (.iaload, 1) := by decide +kernel
theorem dX8_isSettingValue_18 : decode cX8_isSettingValue 18 = .ok (.getstatic 283, 3) := by decide +kernel
theorem dX8_isSettingValue_21 : decode cX8_isSettingValue 21 = .ok (.iload_n 0, 1) := by decide +kernel
theorem dX8_isSettingValue_22 : decode cX8_isSettingValue 22 = .ok (.iaload, 1) := by decide +kernel
theorem dX8_isSettingValue_23 : decode cX8_isSettingValue 23 = .ok (.invokestatic 40, 3) := by decide +kernel
theorem dX8_isSettingValue_26 : decode cX8_isSettingValue 26 = .ok (.ifCond .ne 7, 3) := by decide +kernel
theorem dX8_isSettingValue_29 : decode cX8_isSettingValue 29 = .ok (.iconst 1, 1) := by decide +kernel
theorem dX8_isSettingValue_30 : decode cX8_isSettingValue 30 = .ok (.goto 4, 3) := by decide +kernel
theorem dX8_isSettingValue_33 : decode cX8_isSettingValue 33 = .ok (.iconst 0, 1) := by decide +kernel
theorem dX8_isSettingValue_34 : decode cX8_isSettingValue 34 = .ok (.ireturn, 1) := by decide +kernel
theorem dX8_isPlace_0 : decode cX8_isPlace 0 = .ok (.iload_n 0, 1) := by decide +kernel
theorem dX8_isPlace_1 : decode cX8_isPlace 1 = .ok (.ifCond .eq 8, 3) := by decide +kernel
theorem dX8_isPlace_4 : decode cX8_isPlace 4 = .ok (.iload_n 0, 1) := by decide +kernel
theorem dX8_isPlace_5 : decode cX8_isPlace 5 = .ok (.iconst 1, 1) := by decide +kernel
theorem dX8_isPlace_6 : decode cX8_isPlace 6 = .ok (.if_icmp .ne 7, 3) := by decide +kernel
theorem dX8_isPlace_9 : decode cX8_isPlace 9 = .ok (.iconst 1, 1) := by decide +kernel
theorem dX8_isPlace_10 : decode cX8_isPlace 10 = .ok (.goto 4, 3) := by decide +kernel
theorem dX8_isPlace_13 : decode cX8_isPlace 13 = .ok (.iconst 0, 1) := by decide +kernel
theorem dX8_isPlace_14 : decode cX8_isPlace 14 = .ok (.ireturn, 1) := by decide +kernel
theorem dX8_isDisturbance_0 : decode cX8_isDisturbance 0 = .ok (.iload_n 0, 1) := by decide +kernel
theorem dX8_isDisturbance_1 : decode cX8_isDisturbance 1 = .ok (.sipush (-3000), 3) := by decide +kernel
theorem dX8_isDisturbance_4 : decode cX8_isDisturbance 4 = .ok (.sipush 3000, 3) := by decide +kernel
theorem dX8_isDisturbance_7 : decode cX8_isDisturbance 7 = .ok (.invokestatic 40, 3) := by decide +kernel
theorem dX8_isDisturbance_10 : decode cX8_isDisturbance 10 = .ok (.ifCond .ne 17, 3) := by decide +kernel
theorem dX8_isDisturbance_13 : decode cX8_isDisturbance 13 = .ok (.iload_n 1, 1) := by decide +kernel
theorem dX8_isDisturbance_14 : decode cX8_isDisturbance 14 = .ok (.iconst 1, 1) := by decide +kernel
theorem dX8_isDisturbance_15 : decode cX8_isDisturbance 15 = .ok (.bipush 50, 2) := by decide +kernel
theorem dX8_isDisturbance_17 : decode cX8_isDisturbance 17 = .ok (.invokestatic 40, 3) := by decide +kernel
theorem dX8_isDisturbance_20 : decode cX8_isDisturbance 20 = .ok (.ifCond .ne 7, 3) := by decide +kernel
theorem dX8_isDisturbance_23 : decode cX8_isDisturbance 23 = .ok (.iconst 1, 1) := by decide +kernel
theorem dX8_isDisturbance_24 : decode cX8_isDisturbance 24 = .ok (.goto 4, 3) := by decide +kernel
theorem dX8_isDisturbance_27 : decode cX8_isDisturbance 27 = .ok (.iconst 0, 1) := by decide +kernel
theorem dX8_isDisturbance_28 : decode cX8_isDisturbance 28 = .ok (.ireturn, 1) := by decide +kernel
theorem dX8_limited_0 : decode cX8_limited 0 = .ok (.iload_n 0, 1) := by decide +kernel
theorem dX8_limited_1 : decode cX8_limited 1 = .ok (.iload_n 1, 1) := by decide +kernel
theorem dX8_limited_2 : decode cX8_limited 2 = .ok (.if_icmp .le 5, 3) := by decide +kernel
theorem dX8_limited_5 : decode cX8_limited 5 = .ok (.iload_n 1, 1) := by decide +kernel
theorem dX8_limited_6 : decode cX8_limited 6 = .ok (.ireturn, 1) := by decide +kernel
theorem dX8_limited_7 : decode cX8_limited 7 = .ok (.iload_n 0, 1) := by decide +kernel
theorem dX8_limited_8 : decode cX8_limited 8 = .ok (.iload_n 1, 1) := by decide +kernel
theorem dX8_limited_9 : decode cX8_limited 9 = .ok (.ineg, 1) := by decide +kernel
theorem dX8_limited_10 : decode cX8_limited 10 = .ok (.if_icmp .ge 8, 3) := by decide +kernel
theorem dX8_limited_13 : decode cX8_limited 13 = .ok (.iload_n 1, 1) := by decide +kernel
theorem dX8_limited_14 : decode cX8_limited 14 = .ok (.ineg, 1) := by decide +kernel
theorem dX8_limited_15 : decode cX8_limited 15 = .ok (.goto 4, 3) := by decide +kernel
theorem dX8_limited_18 : decode cX8_limited 18 = .ok (.iload_n 0, 1) := by decide +kernel
theorem dX8_limited_19 : decode cX8_limited 19 = .ok (.ireturn, 1) := by decide +kernel
theorem dX8_lessOne_0 : decode cX8_lessOne 0 = .ok (.iload_n 0, 1) := by decide +kernel
theorem dX8_lessOne_1 : decode cX8_lessOne 1 = .ok (.ifCond .le 9, 3) := by decide +kernel
theorem dX8_lessOne_4 : decode cX8_lessOne 4 = .ok (.iload_n 0, 1) := by decide +kernel
theorem dX8_lessOne_5 : decode cX8_lessOne 5 = .ok (.iconst 1, 1) := by decide +kernel
theorem dX8_lessOne_6 : decode cX8_lessOne 6 = .ok (.isub, 1) := by decide +kernel
theorem dX8_lessOne_7 : decode cX8_lessOne 7 = .ok (.goto 4, 3) := by decide +kernel
theorem dX8_lessOne_10 : decode cX8_lessOne 10 = .ok (.iconst 0, 1) := by decide +kernel
theorem dX8_lessOne_11 : decode cX8_lessOne 11 = .ok (.ireturn, 1) := by decide +kernel
theorem dJ9_abs_0f7a4_0 : decode cJ9_abs_0f7a4 0 = .ok (.iload_n 0, 1) := by decide +kernel
theorem dJ9_abs_0f7a4_1 : decode cJ9_abs_0f7a4 1 = .ok (.ifCond .ge 8, 3) := by decide +kernel
theorem dJ9_abs_0f7a4_4 : decode cJ9_abs_0f7a4 4 = .ok (.iload_n 0, 1) := by decide +kernel
theorem dJ9_abs_0f7a4_5 : decode cJ9_abs_0f7a4 5 = .ok (.ineg, 1) := by decide +kernel
theorem dJ9_abs_0f7a4_6 : decode cJ9_abs_0f7a4 6 = .ok (.goto 4, 3) := by decide +kernel
theorem dJ9_abs_0f7a4_9 : decode cJ9_abs_0f7a4 9 = .ok (.iload_n 0, 1) := by decide +kernel
theorem dJ9_abs_0f7a4_10 : decode cJ9_abs_0f7a4 10 = .ok (.ireturn, 1) := by decide +kernel
theorem dJ9_max_7cf53_0 : decode cJ9_max_7cf53 0 = .ok (.iload_n 0, 1) := by decide +kernel
theorem dJ9_max_7cf53_1 : decode cJ9_max_7cf53 1 = .ok (.iload_n 1, 1) := by decide +kernel
theorem dJ9_max_7cf53_2 : decode cJ9_max_7cf53 2 = .ok (.if_icmp .lt 7, 3) := by decide +kernel
theorem dJ9_max_7cf53_5 : decode cJ9_max_7cf53 5 = .ok (.iload_n 0, 1) := by decide +kernel
theorem dJ9_max_7cf53_6 : decode cJ9_max_7cf53 6 = .ok (.goto 4, 3) := by decide +kernel
theorem dJ9_max_7cf53_9 : decode cJ9_max_7cf53 9 = .ok (.iload_n 1, 1) := by decide +kernel
theorem dJ9_max_7cf53_10 : decode cJ9_max_7cf53 10 = .ok (.ireturn, 1) := by decide +kernel
theorem dJ9_min_7cf53_0 : decode cJ9_min_7cf53 0 = .ok (.iload_n 0, 1) := by decide +kernel
theorem dJ9_min_7cf53_1 : decode cJ9_min_7cf53 1 = .ok (.iload_n 1, 1) := by decide +kernel
theorem dJ9_min_7cf53_2 : decode cJ9_min_7cf53 2 = .ok (.if_icmp .gt 7, 3) := by decide +kernel
theorem dJ9_min_7cf53_5 : decode cJ9_min_7cf53 5 = .ok (.iload_n 0, 1) := by decide +kernel
theorem dJ9_min_7cf53_6 : decode cJ9_min_7cf53 6 = .ok (.goto 4, 3) := by decide +kernel
theorem dJ9_min_7cf53_9 : decode cJ9_min_7cf53 9 = .ok (.iload_n 1, 1) := by decide +kernel
theorem dJ9_min_7cf53_10 : decode cJ9_min_7cf53 10 = .ok (.ireturn, 1) := by decide +kernel
end
section
theorem dX9_init_0 : decode cX9_init 0 = .ok (.aload_n 0, 1) := by decide +kernel
theorem dX9_init_1 : decode cX9_init 1 = .ok (.invokespecial 3, 3) := by decide +kernel
theorem dX9_init_4 : decode cX9_init 4 = .ok (.aload_n 0, 1) := by decide +kernel
theorem dX9_init_5 : decode cX9_init 5 = .ok (.sipush 1906, 3) := by decide +kernel
theorem dX9_init_8 : decode cX9_init 8 = .ok (.newarray .int, 2) := by decide +kernel
theorem dX9_init_10 : decode cX9_init 10 = .ok (.putfield 9, 3) := by decide +kernel
theorem dX9_init_13 : decode cX9_init 13 = .ok (.aload_n 0, 1) := by decide +kernel
theorem dX9_init_14 : decode cX9_init 14 = .ok (.sipush 1906, 3) := by decide +kernel
theorem dX9_init_17 : decode cX9_init 17 = .ok (.newarray .int, 2) := by decide +kernel
theorem dX9_init_19 : decode cX9_init 19 = .ok (.putfield 13, 3) := by decide +kernel
theorem dX9_init_22 : decode cX9_init 22 = .ok (.aload_n 0, 1) := by decide +kernel
theorem dX9_init_23 : decode cX9_init 23 = .ok (.sipush 3812, 3) := by decide +kernel
theorem dX9_init_26 : decode cX9_init 26 = .ok (.newarray .int, 2) := by decide +kernel
theorem dX9_init_28 : decode cX9_init 28 = .ok (.putfield 16, 3) := by decide +kernel
theorem dX9_init_31 : decode cX9_init 31 = .ok (.aload_n 0, 1) := by decide +kernel
theorem dX9_init_32 : decode cX9_init 32 = .ok (.iconst 2, 1) := by decide +kernel
theorem dX9_init_33 : decode cX9_init 33 = .ok (.newarray .boolean, 2) := by decide +kernel
theorem dX9_init_35 : decode cX9_init 35 = .ok (.putfield 19, 3) := by decide +kernel
theorem dX9_init_38 : decode cX9_init 38 = .ok (.aload_n 0, 1) := by decide +kernel
theorem dX9_init_39 : decode cX9_init 39 = .ok (.bipush 80, 2) := by decide +kernel
theorem dX9_init_41 : decode cX9_init 41 = .ok (.newarray .int, 2) := by decide +kernel
theorem dX9_init_43 : decode cX9_init 43 = .ok (.putfield 23, 3) := by decide +kernel
theorem dX9_init_46 : decode cX9_init 46 = .ok (.aload_n 0, 1) := by decide +kernel
theorem dX9_init_47 : decode cX9_init 47 = .ok (.sipush 164, 3) := by decide +kernel
theorem dX9_init_50 : decode cX9_init 50 = .ok (.newarray .int, 2) := by decide +kernel
theorem dX9_init_52 : decode cX9_init 52 = .ok (.putfield 26, 3) := by decide +kernel
theorem dX9_init_55 : decode cX9_init 55 = .ok (.aload_n 0, 1) := by decide +kernel
theorem dX9_init_56 : decode cX9_init 56 = .ok (.iconst 3, 1) := by decide +kernel
theorem dX9_init_57 : decode cX9_init 57 = .ok (.invokevirtual 29, 3) := by decide +kernel
theorem dX9_init_60 : decode cX9_init 60 = .ok (.return_, 1) := by decide +kernel
theorem dX9_in_0 : decode cX9_in 0 = .ok (.iload_n 0, 1) := by decide +kernel
theorem dX9_in_1 : decode cX9_in 1 = .ok (.iload_n 1, 1) := by decide +kernel
theorem dX9_in_2 : decode cX9_in 2 = .ok (.if_icmp .lt 12, 3) := by decide +kernel
theorem dX9_in_5 : decode cX9_in 5 = .ok (.iload_n 0, 1) := by decide +kernel
theorem dX9_in_6 : decode cX9_in 6 = .ok (.iload_n 2, 1) := by decide +kernel
theorem dX9_in_7 : decode cX9_in 7 = .ok (.if_icmp .gt 7, 3) := by decide +kernel
theorem dX9_in_10 : decode cX9_in 10 = .ok (.iconst 1, 1) := by decide +kernel
theorem dX9_in_11 : decode cX9_in 11 = .ok (.goto 4, 3) := by decide +kernel
theorem dX9_in_14 : decode cX9_in 14 = .ok (.iconst 0, 1) := by decide +kernel
theorem dX9_in_15 : decode cX9_in 15 = .ok (.ireturn, 1) := by decide +kernel
theorem dX9_size_0 : decode cX9_size 0 = .ok (.iload_n 0, 1) := by decide +kernel
theorem dX9_size_1 : decode cX9_size 1 = .ok (.ifCond .ge 8, 3) := by decide +kernel
theorem dX9_size_4 : decode cX9_size 4 = .ok (.iload_n 0, 1) := by decide +kernel
theorem dX9_size_5 : decode cX9_size 5 = .ok (.ineg, 1) := by decide +kernel
theorem dX9_size_6 : decode cX9_size 6 = .ok (.goto 4, 3) := by decide +kernel
theorem dX9_size_9 : decode cX9_size 9 = .ok (.iload_n 0, 1) := by decide +kernel
theorem dX9_size_10 : decode cX9_size 10 = .ok (.ireturn, 1) := by decide +kernel
theorem dX9_limited_0 : decode cX9_limited 0 = .ok (.iload_n 0, 1) := by decide +kernel
theorem dX9_limited_1 : decode cX9_limited 1 = .ok (.iload_n 1, 1) := by decide +kernel
theorem dX9_limited_2 : decode cX9_limited 2 = .ok (.if_icmp .le 7, 3) := by decide +kernel
theorem dX9_limited_5 : decode cX9_limited 5 = .ok (.iload_n 1, 1) := by decide +kernel
theorem dX9_limited_6 : decode cX9_limited 6 = .ok (.goto 15, 3) := by decide +kernel
theorem dX9_limited_9 : decode cX9_limited 9 = .ok (.iload_n 0, 1) := by decide +kernel
theorem dX9_limited_10 : decode cX9_limited 10 = .ok (.iload_n 1, 1) := by decide +kernel
theorem dX9_limited_11 : decode cX9_limited 11 = .ok (.ineg, 1) := by decide +kernel
theorem dX9_limited_12 : decode cX9_limited 12 = .ok (.if_icmp .ge 8, 3) := by decide +kernel
theorem dX9_limited_15 : decode cX9_limited 15 = .ok (.iload_n 1, 1) := by decide +kernel
theorem dX9_limited_16 : decode cX9_limited 16 = .ok (.ineg, 1) := by decide +kernel
theorem dX9_limited_17 : decode cX9_limited 17 = .ok (.goto 4, 3) := by decide +kernel
theorem dX9_limited_20 : decode cX9_limited 20 = .ok (.iload_n 0, 1) := by decide +kernel
theorem dX9_limited_21 : decode cX9_limited 21 = .ok (.ireturn, 1) := by decide +kernel
theorem dX9_firstValue_0 : decode cX9_firstValue 0 = .ok (.iload_n 0, 1) := by decide +kernel
theorem dX9_firstValue_1 : decode cX9_firstValue 1 = .ok (.tableswitch 82 0 9 #[55, 57, 59, 63, 65, 69, 55, 72, 76, 79], 55) := by decide +kernel
theorem dX9_firstValue_56 : decode cX9_firstValue 56 = .ok (.iconst 5, 1) := by decide +kernel
theorem dX9_firstValue_57 : decode cX9_firstValue 57 = .ok (.ireturn, 1) := by decide +kernel
theorem dX9_firstValue_58 : decode cX9_firstValue 58 = .ok (.iconst 3, 1) := by decide +kernel
theorem dX9_firstValue_59 : decode cX9_firstValue 59 = .ok (.ireturn, 1) := by decide +kernel
theorem dX9_firstValue_60 : decode cX9_firstValue 60 = .ok (.sipush 200, 3) := by decide +kernel
theorem dX9_firstValue_63 : decode cX9_firstValue 63 = .ok (.ireturn, 1) := by decide +kernel
theorem dX9_firstValue_64 : decode cX9_firstValue 64 = .ok (.iconst 4, 1) := by decide +kernel
theorem dX9_firstValue_65 : decode cX9_firstValue 65 = .ok (.ireturn, 1) := by decide +kernel
theorem dX9_firstValue_66 : decode cX9_firstValue 66 = .ok (.sipush 128, 3) := by decide +kernel
theorem dX9_firstValue_69 : decode cX9_firstValue 69 = .ok (.ireturn, 1) := by decide +kernel
theorem dX9_firstValue_70 : decode cX9_firstValue 70 = .ok (.bipush 16, 2) := by decide +kernel
theorem dX9_firstValue_72 : decode cX9_firstValue 72 = .ok (.ireturn, 1) := by decide +kernel
theorem dX9_firstValue_73 : decode cX9_firstValue 73 = .ok (.sipush 300, 3) := by decide +kernel
theorem dX9_firstValue_76 : decode cX9_firstValue 76 = .ok (.ireturn, 1) := by decide +kernel
theorem dX9_firstValue_77 : decode cX9_firstValue 77 = .ok (.bipush 64, 2) := by decide +kernel
theorem dX9_firstValue_79 : decode cX9_firstValue 79 = .ok (.ireturn, 1) := by decide +kernel
theorem dX9_firstValue_80 : decode cX9_firstValue 80 = .ok (.bipush 8, 2) := by decide +kernel
theorem dX9_firstValue_82 : decode cX9_firstValue 82 = .ok (.ireturn, 1) := by decide +kernel
theorem dX9_firstValue_83 : decode cX9_firstValue 83 = .ok (.iconst 0, 1) := by decide +kernel
theorem dX9_firstValue_84 : decode cX9_firstValue 84 = .ok (.ireturn, 1) := by decide +kernel
theorem dX9_place_0 : decode cX9_place 0 = .ok (.sipush 353, 3) := by decide +kernel
theorem dX9_place_3 : decode cX9_place 3 = .ok (.iload_n 0, 1) := by decide +kernel
theorem dX9_place_4 : decode cX9_place 4 = .ok (.imul, 1) := by decide +kernel
theorem dX9_place_5 : decode cX9_place 5 = .ok (.iload_n 1, 1) := by decide +kernel
theorem dX9_place_6 : decode cX9_place 6 = .ok (.iadd, 1) := by decide +kernel
theorem dX9_place_7 : decode cX9_place 7 = .ok (.ireturn, 1) := by decide +kernel
theorem dX9_of_0 : decode cX9_of 0 = .ok (.aload_n 0, 1) := by decide +kernel
theorem dX9_of_1 : decode cX9_of 1 = .ok (.getfield 9, 3) := by decide +kernel
theorem dX9_of_4 : decode cX9_of 4 = .ok (.iload_n 1, 1) := by decide +kernel
theorem dX9_of_5 : decode cX9_of 5 = .ok (.iload_n 2, 1) := by decide +kernel
theorem dX9_of_6 : decode cX9_of 6 = .ok (.invokestatic 33, 3) := by decide +kernel
theorem dX9_of_9 : decode cX9_of 9 = .ok (.iaload, 1) := by decide +kernel
theorem dX9_of_10 : decode cX9_of 10 = .ok (.ireturn, 1) := by decide +kernel
theorem dX9_lay_0 : decode cX9_lay 0 = .ok (.aload_n 0, 1) := by decide +kernel
theorem dX9_lay_1 : decode cX9_lay 1 = .ok (.getfield 9, 3) := by decide +kernel
theorem dX9_lay_4 : decode cX9_lay 4 = .ok (.iload_n 1, 1) := by decide +kernel
theorem dX9_lay_5 : decode cX9_lay 5 = .ok (.iload_n 2, 1) := by decide +kernel
theorem dX9_lay_6 : decode cX9_lay 6 = .ok (.invokestatic 33, 3) := by decide +kernel
theorem dX9_lay_9 : decode cX9_lay 9 = .ok (.iload_n 3, 1) := by decide +kernel
theorem dX9_lay_10 : decode cX9_lay 10 = .ok (.iastore, 1) := by decide +kernel
theorem dX9_lay_11 : decode cX9_lay 11 = .ok (.return_, 1) := by decide +kernel
theorem dX9_layAll_0 : decode cX9_layAll 0 = .ok (.iconst 0, 1) := by decide +kernel
theorem dX9_layAll_1 : decode cX9_layAll 1 = .ok (.istore_n 2, 1) := by decide +kernel
theorem dX9_layAll_2 : decode cX9_layAll 2 = .ok (.iload_n 2, 1) := by decide +kernel
theorem dX9_layAll_3 : decode cX9_layAll 3 = .ok (.sipush 1906, 3) := by decide +kernel
theorem dX9_layAll_6 : decode cX9_layAll 6 = .ok (.if_icmp .ge 16, 3) := by decide +kernel
theorem dX9_layAll_9 : decode cX9_layAll 9 = .ok (.aload_n 0, 1) := by decide +kernel
theorem dX9_layAll_10 : decode cX9_layAll 10 = .ok (.getfield 9, 3) := by decide +kernel
theorem dX9_layAll_13 : decode cX9_layAll 13 = .ok (.iload_n 2, 1) := by decide +kernel
theorem dX9_layAll_14 : decode cX9_layAll 14 = .ok (.iconst 0, 1) := by decide +kernel
theorem dX9_layAll_15 : decode cX9_layAll 15 = .ok (.iastore, 1) := by decide +kernel
theorem dX9_layAll_16 : decode cX9_layAll 16 = .ok (.iinc 2 1, 3) := by decide +kernel
theorem dX9_layAll_19 : decode cX9_layAll 19 = .ok (.goto (-17), 3) := by decide +kernel
theorem dX9_layAll_22 : decode cX9_layAll 22 = .ok (.aload_n 0, 1) := by decide +kernel
theorem dX9_layAll_23 : decode cX9_layAll 23 = .ok (.getfield 9, 3) := by decide +kernel
theorem dX9_layAll_26 : decode cX9_layAll 26 = .ok (.sipush 1766, 3) := by decide +kernel
theorem dX9_layAll_29 : decode cX9_layAll 29 = .ok (.iload_n 1, 1) := by decide +kernel
theorem dX9_layAll_30 : decode cX9_layAll 30 = .ok (.iastore, 1) := by decide +kernel
theorem dX9_layAll_31 : decode cX9_layAll 31 = .ok (.iconst 0, 1) := by decide +kernel
theorem dX9_layAll_32 : decode cX9_layAll 32 = .ok (.istore_n 2, 1) := by decide +kernel
theorem dX9_layAll_33 : decode cX9_layAll 33 = .ok (.iload_n 2, 1) := by decide +kernel
theorem dX9_layAll_34 : decode cX9_layAll 34 = .ok (.iconst 5, 1) := by decide +kernel
theorem dX9_layAll_35 : decode cX9_layAll 35 = .ok (.if_icmp .ge 33, 3) := by decide +kernel
theorem dX9_layAll_38 : decode cX9_layAll 38 = .ok (.iconst 0, 1) := by decide +kernel
theorem dX9_layAll_39 : decode cX9_layAll 39 = .ok (.istore_n 3, 1) := by decide +kernel
theorem dX9_layAll_40 : decode cX9_layAll 40 = .ok (.iload_n 3, 1) := by decide +kernel
theorem dX9_layAll_41 : decode cX9_layAll 41 = .ok (.bipush 11, 2) := by decide +kernel
theorem dX9_layAll_43 : decode cX9_layAll 43 = .ok (.if_icmp .ge 19, 3) := by decide +kernel
theorem dX9_layAll_46 : decode cX9_layAll 46 = .ok (.aload_n 0, 1) := by decide +kernel
theorem dX9_layAll_47 : decode cX9_layAll 47 = .ok (.iload_n 2, 1) := by decide +kernel
theorem dX9_layAll_48 : decode cX9_layAll 48 = .ok (.iload_n 3, 1) := by decide +kernel
theorem dX9_layAll_49 : decode cX9_layAll 49 = .ok (.iload_n 3, 1) := by decide +kernel
theorem dX9_layAll_50 : decode cX9_layAll 50 = .ok (.invokestatic 37, 3) := by decide +kernel
theorem dX9_layAll_53 : decode cX9_layAll 53 = .ok (.invokevirtual 41, 3) := by decide +kernel
theorem dX9_layAll_56 : decode cX9_layAll 56 = .ok (.iinc 3 1, 3) := by decide +kernel
theorem dX9_layAll_59 : decode cX9_layAll 59 = .ok (.goto (-19), 3) := by decide +kernel
theorem dX9_layAll_62 : decode cX9_layAll 62 = .ok (.iinc 2 1, 3) := by decide +kernel
theorem dX9_layAll_65 : decode cX9_layAll 65 = .ok (.goto (-32), 3) := by decide +kernel
theorem dX9_layAll_68 : decode cX9_layAll 68 = .ok (.return_, 1) := by decide +kernel
theorem dX9_putAside_0 : decode cX9_putAside 0 = .ok (.iconst 0, 1) := by decide +kernel
theorem dX9_putAside_1 : decode cX9_putAside 1 = .ok (.istore_n 1, 1) := by decide +kernel
theorem dX9_putAside_2 : decode cX9_putAside 2 = .ok (.iload_n 1, 1) := by decide +kernel
theorem dX9_putAside_3 : decode cX9_putAside 3 = .ok (.sipush 1906, 3) := by decide +kernel
theorem dX9_putAside_6 : decode cX9_putAside 6 = .ok (.if_icmp .ge 21, 3) := by decide +kernel
theorem dX9_putAside_9 : decode cX9_putAside 9 = .ok (.aload_n 0, 1) := by decide +kernel
theorem dX9_putAside_10 : decode cX9_putAside 10 = .ok (.getfield 13, 3) := by decide +kernel
theorem dX9_putAside_13 : decode cX9_putAside 13 = .ok (.iload_n 1, 1) := by decide +kernel
theorem dX9_putAside_14 : decode cX9_putAside 14 = .ok (.aload_n 0, 1) := by decide +kernel
theorem dX9_putAside_15 : decode cX9_putAside 15 = .ok (.getfield 9, 3) := by decide +kernel
theorem dX9_putAside_18 : decode cX9_putAside 18 = .ok (.iload_n 1, 1) := by decide +kernel
theorem dX9_putAside_19 : decode cX9_putAside 19 = .ok (.iaload, 1) := by decide +kernel
theorem dX9_putAside_20 : decode cX9_putAside 20 = .ok (.iastore, 1) := by decide +kernel
theorem dX9_putAside_21 : decode cX9_putAside 21 = .ok (.iinc 1 1, 3) := by decide +kernel
theorem dX9_putAside_24 : decode cX9_putAside 24 = .ok (.goto (-22), 3) := by decide +kernel
theorem dX9_putAside_27 : decode cX9_putAside 27 = .ok (.return_, 1) := by decide +kernel
theorem dX9_putBack_0 : decode cX9_putBack 0 = .ok (.iconst 0, 1) := by decide +kernel
theorem dX9_putBack_1 : decode cX9_putBack 1 = .ok (.istore_n 1, 1) := by decide +kernel
theorem dX9_putBack_2 : decode cX9_putBack 2 = .ok (.iload_n 1, 1) := by decide +kernel
theorem dX9_putBack_3 : decode cX9_putBack 3 = .ok (.sipush 1906, 3) := by decide +kernel
theorem dX9_putBack_6 : decode cX9_putBack 6 = .ok (.if_icmp .ge 21, 3) := by decide +kernel
theorem dX9_putBack_9 : decode cX9_putBack 9 = .ok (.aload_n 0, 1) := by decide +kernel
theorem dX9_putBack_10 : decode cX9_putBack 10 = .ok (.getfield 9, 3) := by decide +kernel
theorem dX9_putBack_13 : decode cX9_putBack 13 = .ok (.iload_n 1, 1) := by decide +kernel
theorem dX9_putBack_14 : decode cX9_putBack 14 = .ok (.aload_n 0, 1) := by decide +kernel
theorem dX9_putBack_15 : decode cX9_putBack 15 = .ok (.getfield 13, 3) := by decide +kernel
theorem dX9_putBack_18 : decode cX9_putBack 18 = .ok (.iload_n 1, 1) := by decide +kernel
theorem dX9_putBack_19 : decode cX9_putBack 19 = .ok (.iaload, 1) := by decide +kernel
theorem dX9_putBack_20 : decode cX9_putBack 20 = .ok (.iastore, 1) := by decide +kernel
theorem dX9_putBack_21 : decode cX9_putBack 21 = .ok (.iinc 1 1, 3) := by decide +kernel
theorem dX9_putBack_24 : decode cX9_putBack 24 = .ok (.goto (-22), 3) := by decide +kernel
theorem dX9_putBack_27 : decode cX9_putBack 27 = .ok (.return_, 1) := by decide +kernel
theorem dX9_isUnit_0 : decode cX9_isUnit 0 = .ok (.iload_n 1, 1) := by decide +kernel
theorem dX9_isUnit_1 : decode cX9_isUnit 1 = .ok (.iconst 0, 1) := by decide +kernel
theorem dX9_isUnit_2 : decode cX9_isUnit 2 = .ok (.aload_n 0, 1) := by decide +kernel
theorem dX9_isUnit_3 : decode cX9_isUnit 3 = .ok (.getfield 9, 3) := by decide +kernel
theorem dX9_isUnit_6 : decode cX9_isUnit 6 = .ok (.sipush 1766, 3) := by decide +kernel
theorem dX9_isUnit_9 : decode cX9_isUnit 9 = .ok (.iaload, 1) := by decide +kernel
theorem dX9_isUnit_10 : decode cX9_isUnit 10 = .ok (.iconst 1, 1) := by decide +kernel
theorem dX9_isUnit_11 : decode cX9_isUnit 11 = .ok (.isub, 1) := by decide +kernel
theorem dX9_isUnit_12 : decode cX9_isUnit 12 = .ok (.invokestatic 45, 3) := by decide +kernel
theorem dX9_isUnit_15 : decode cX9_isUnit 15 = .ok (.ireturn, 1) := by decide +kernel
theorem dX9_way_0 : decode cX9_way 0 = .ok (.iconst 0, 1) := by decide +kernel
theorem dX9_way_1 : decode cX9_way 1 = .ok (.istore_n 2, 1) := by decide +kernel
theorem dX9_way_2 : decode cX9_way 2 = .ok (.iconst 1, 1) := by decide +kernel
theorem dX9_way_3 : decode cX9_way 3 = .ok (.istore_n 3, 1) := by decide +kernel
theorem dX9_way_4 : decode cX9_way 4 = .ok (.iload_n 3, 1) := by decide +kernel
theorem dX9_way_5 : decode cX9_way 5 = .ok (.iload_n 1, 1) := by decide +kernel
theorem dX9_way_6 : decode cX9_way 6 = .ok (.if_icmp .gt 18, 3) := by decide +kernel
theorem dX9_way_9 : decode cX9_way 9 = .ok (.iload_n 2, 1) := by decide +kernel
theorem dX9_way_10 : decode cX9_way 10 = .ok (.aload_n 0, 1) := by decide +kernel
theorem dX9_way_11 : decode cX9_way 11 = .ok (.iload_n 3, 1) := by decide +kernel
theorem dX9_way_12 : decode cX9_way 12 = .ok (.iconst 0, 1) := by decide +kernel
theorem dX9_way_13 : decode cX9_way 13 = .ok (.invokevirtual 49, 3) := by decide +kernel
theorem dX9_way_16 : decode cX9_way 16 = .ok (.iadd, 1) := by decide +kernel
theorem dX9_way_17 : decode cX9_way 17 = .ok (.istore_n 2, 1) := by decide +kernel
theorem dX9_way_18 : decode cX9_way 18 = .ok (.iinc 3 1, 3) := by decide +kernel
theorem dX9_way_21 : decode cX9_way 21 = .ok (.goto (-17), 3) := by decide +kernel
theorem dX9_way_24 : decode cX9_way 24 = .ok (.iload_n 2, 1) := by decide +kernel
theorem dX9_way_25 : decode cX9_way 25 = .ok (.ireturn, 1) := by decide +kernel
theorem dX9_setUp_0 : decode cX9_setUp 0 = .ok (.iload_n 1, 1) := by decide +kernel
theorem dX9_setUp_1 : decode cX9_setUp 1 = .ok (.iconst 2, 1) := by decide +kernel
theorem dX9_setUp_2 : decode cX9_setUp 2 = .ok (.iconst 5, 1) := by decide +kernel
theorem dX9_setUp_3 : decode cX9_setUp 3 = .ok (.invokestatic 45, 3) := by decide +kernel
theorem dX9_setUp_6 : decode cX9_setUp 6 = .ok (.ifCond .ne 6, 3) := by decide +kernel
theorem dX9_setUp_9 : decode cX9_setUp 9 = .ok (.ldc 52, 2) := by decide +kernel
theorem dX9_setUp_11 : decode cX9_setUp 11 = .ok (.ireturn, 1) := by decide +kernel
theorem dX9_setUp_12 : decode cX9_setUp 12 = .ok (.aload_n 0, 1) := by decide +kernel
theorem dX9_setUp_13 : decode cX9_setUp 13 = .ok (.getfield 9, 3) := by decide +kernel
theorem dX9_setUp_16 : decode cX9_setUp 16 = .ok (.sipush 1765, 3) := by decide +kernel
theorem dX9_setUp_19 : decode cX9_setUp 19 = .ok (.iaload, 1) := by decide +kernel
theorem dX9_setUp_20 : decode cX9_setUp 20 = .ok (.istore_n 2, 1) := by decide +kernel
theorem dX9_setUp_21 : decode cX9_setUp 21 = .ok (.aload_n 0, 1) := by decide +kernel
theorem dX9_setUp_22 : decode cX9_setUp 22 = .ok (.iload_n 1, 1) := by decide +kernel
theorem dX9_setUp_23 : decode cX9_setUp 23 = .ok (.invokevirtual 29, 3) := by decide +kernel
theorem dX9_setUp_26 : decode cX9_setUp 26 = .ok (.iload_n 2, 1) := by decide +kernel
theorem dX9_setUp_27 : decode cX9_setUp 27 = .ok (.ireturn, 1) := by decide +kernel
theorem dX9_takes_0 : decode cX9_takes 0 = .ok (.iload_n 0, 1) := by decide +kernel
theorem dX9_takes_1 : decode cX9_takes 1 = .ok (.tableswitch 115 0 9 #[55, 63, 71, 55, 80, 80, 89, 98, 80, 107], 55) := by decide +kernel
theorem dX9_takes_56 : decode cX9_takes 56 = .ok (.iload_n 1, 1) := by decide +kernel
theorem dX9_takes_57 : decode cX9_takes 57 = .ok (.iconst 1, 1) := by decide +kernel
theorem dX9_takes_58 : decode cX9_takes 58 = .ok (.bipush 20, 2) := by decide +kernel
theorem dX9_takes_60 : decode cX9_takes 60 = .ok (.invokestatic 45, 3) := by decide +kernel
theorem dX9_takes_63 : decode cX9_takes 63 = .ok (.ireturn, 1) := by decide +kernel
theorem dX9_takes_64 : decode cX9_takes 64 = .ok (.iload_n 1, 1) := by decide +kernel
theorem dX9_takes_65 : decode cX9_takes 65 = .ok (.iconst 1, 1) := by decide +kernel
theorem dX9_takes_66 : decode cX9_takes 66 = .ok (.bipush 10, 2) := by decide +kernel
theorem dX9_takes_68 : decode cX9_takes 68 = .ok (.invokestatic 45, 3) := by decide +kernel
theorem dX9_takes_71 : decode cX9_takes 71 = .ok (.ireturn, 1) := by decide +kernel
theorem dX9_takes_72 : decode cX9_takes 72 = .ok (.iload_n 1, 1) := by decide +kernel
theorem dX9_takes_73 : decode cX9_takes 73 = .ok (.iconst 5, 1) := by decide +kernel
theorem dX9_takes_74 : decode cX9_takes 74 = .ok (.sipush 2000, 3) := by decide +kernel
theorem dX9_takes_77 : decode cX9_takes 77 = .ok (.invokestatic 45, 3) := by decide +kernel
theorem dX9_takes_80 : decode cX9_takes 80 = .ok (.ireturn, 1) := by decide +kernel
theorem dX9_takes_81 : decode cX9_takes 81 = .ok (.iload_n 1, 1) := by decide +kernel
theorem dX9_takes_82 : decode cX9_takes 82 = .ok (.iconst 0, 1) := by decide +kernel
theorem dX9_takes_83 : decode cX9_takes 83 = .ok (.sipush 256, 3) := by decide +kernel
theorem dX9_takes_86 : decode cX9_takes 86 = .ok (.invokestatic 45, 3) := by decide +kernel
theorem dX9_takes_89 : decode cX9_takes 89 = .ok (.ireturn, 1) := by decide +kernel
theorem dX9_takes_90 : decode cX9_takes 90 = .ok (.iload_n 1, 1) := by decide +kernel
theorem dX9_takes_91 : decode cX9_takes 91 = .ok (.iconst 0, 1) := by decide +kernel
theorem dX9_takes_92 : decode cX9_takes 92 = .ok (.sipush 500, 3) := by decide +kernel
theorem dX9_takes_95 : decode cX9_takes 95 = .ok (.invokestatic 45, 3) := by decide +kernel
theorem dX9_takes_98 : decode cX9_takes 98 = .ok (.ireturn, 1) := by decide +kernel
theorem dX9_takes_99 : decode cX9_takes 99 = .ok (.iload_n 1, 1) := by decide +kernel
theorem dX9_takes_100 : decode cX9_takes 100 = .ok (.iconst 1, 1) := by decide +kernel
theorem dX9_takes_101 : decode cX9_takes 101 = .ok (.sipush 2000, 3) := by decide +kernel
theorem dX9_takes_104 : decode cX9_takes 104 = .ok (.invokestatic 45, 3) := by decide +kernel
theorem dX9_takes_107 : decode cX9_takes 107 = .ok (.ireturn, 1) := by decide +kernel
theorem dX9_takes_108 : decode cX9_takes 108 = .ok (.iload_n 1, 1) := by decide +kernel
theorem dX9_takes_109 : decode cX9_takes 109 = .ok (.iconst 0, 1) := by decide +kernel
theorem dX9_takes_110 : decode cX9_takes 110 = .ok (.bipush 30, 2) := by decide +kernel
theorem dX9_takes_112 : decode cX9_takes 112 = .ok (.invokestatic 45, 3) := by decide +kernel
theorem dX9_takes_115 : decode cX9_takes 115 = .ok (.ireturn, 1) := by decide +kernel
theorem dX9_takes_116 : decode cX9_takes 116 = .ok (.iload_n 0, 1) := by decide +kernel
theorem dX9_takes_117 : decode cX9_takes 117 = .ok (.bipush 10, 2) := by decide +kernel
theorem dX9_takes_119 : decode cX9_takes 119 = .ok (.if_icmp .ne 20, 3) := by decide +kernel
theorem dX9_takes_122 : decode cX9_takes 122 = .ok (.iload_n 1, 1) := by decide +kernel
theorem dX9_takes_123 : decode cX9_takes 123 = .ok (.sipush (-500), 3) := by decide +kernel
theorem dX9_takes_126 : decode cX9_takes 126 = .ok (.sipush 500, 3) := by decide +kernel
theorem dX9_takes_129 : decode cX9_takes 129 = .ok (.invokestatic 45, 3) := by decide +kernel
theorem dX9_takes_132 : decode cX9_takes 132 = .ok (.ifCond .eq 7, 3) := by decide +kernel
theorem dX9_takes_135 : decode cX9_takes 135 = .ok (.iconst 1, 1) := by decide +kernel
theorem dX9_takes_136 : decode cX9_takes 136 = .ok (.goto 4, 3) := by decide +kernel
theorem dX9_takes_139 : decode cX9_takes 139 = .ok (.iconst 0, 1) := by decide +kernel
theorem dX9_takes_140 : decode cX9_takes 140 = .ok (.ireturn, 1) := by decide +kernel
theorem dX9_set_0 : decode cX9_set 0 = .ok (.aload_n 0, 1) := by decide +kernel
theorem dX9_set_1 : decode cX9_set 1 = .ok (.iload_n 1, 1) := by decide +kernel
theorem dX9_set_2 : decode cX9_set 2 = .ok (.invokevirtual 53, 3) := by decide +kernel
theorem dX9_set_5 : decode cX9_set 5 = .ok (.ifCond .ne 6, 3) := by decide +kernel
theorem dX9_set_8 : decode cX9_set 8 = .ok (.ldc 57, 2) := by decide +kernel
theorem dX9_set_10 : decode cX9_set 10 = .ok (.ireturn, 1) := by decide +kernel
theorem dX9_set_11 : decode cX9_set 11 = .ok (.iload_n 2, 1) := by decide +kernel
theorem dX9_set_12 : decode cX9_set 12 = .ok (.iload_n 3, 1) := by decide +kernel
theorem dX9_set_13 : decode cX9_set 13 = .ok (.invokestatic 58, 3) := by decide +kernel
theorem dX9_set_16 : decode cX9_set 16 = .ok (.ifCond .ne 6, 3) := by decide +kernel
theorem dX9_set_19 : decode cX9_set 19 = .ok (.ldc 52, 2) := by decide +kernel
theorem dX9_set_21 : decode cX9_set 21 = .ok (.ireturn, 1) := by decide +kernel
theorem dX9_set_22 : decode cX9_set 22 = .ok (.iload_n 2, 1) := by decide +kernel
theorem dX9_set_23 : decode cX9_set 23 = .ok (.iconst 1, 1) := by decide +kernel
theorem dX9_set_24 : decode cX9_set 24 = .ok (.if_icmp .gt 17, 3) := by decide +kernel
theorem dX9_set_27 : decode cX9_set 27 = .ok (.aload_n 0, 1) := by decide +kernel
theorem dX9_set_28 : decode cX9_set 28 = .ok (.getfield 9, 3) := by decide +kernel
theorem dX9_set_31 : decode cX9_set 31 = .ok (.sipush 1765, 3) := by decide +kernel
theorem dX9_set_34 : decode cX9_set 34 = .ok (.iaload, 1) := by decide +kernel
theorem dX9_set_35 : decode cX9_set 35 = .ok (.ifCond .eq 6, 3) := by decide +kernel
theorem dX9_set_38 : decode cX9_set 38 = .ok (.ldc 62, 2) := by decide +kernel
theorem dX9_set_40 : decode cX9_set 40 = .ok (.ireturn, 1) := by decide +kernel
theorem dX9_set_41 : decode cX9_set 41 = .ok (.aload_n 0, 1) := by decide +kernel
theorem dX9_set_42 : decode cX9_set 42 = .ok (.iload_n 1, 1) := by decide +kernel
theorem dX9_set_43 : decode cX9_set 43 = .ok (.iload_n 2, 1) := by decide +kernel
theorem dX9_set_44 : decode cX9_set 44 = .ok (.invokevirtual 49, 3) := by decide +kernel
theorem dX9_set_47 : decode cX9_set 47 = .ok (.istore 4, 2) := by decide +kernel
theorem dX9_set_49 : decode cX9_set 49 = .ok (.aload_n 0, 1) := by decide +kernel
theorem dX9_set_50 : decode cX9_set 50 = .ok (.iload_n 1, 1) := by decide +kernel
theorem dX9_set_51 : decode cX9_set 51 = .ok (.iload_n 2, 1) := by decide +kernel
theorem dX9_set_52 : decode cX9_set 52 = .ok (.iload_n 3, 1) := by decide +kernel
theorem dX9_set_53 : decode cX9_set 53 = .ok (.invokevirtual 41, 3) := by decide +kernel
theorem dX9_set_56 : decode cX9_set 56 = .ok (.iload 4, 2) := by decide +kernel
theorem dX9_set_58 : decode cX9_set 58 = .ok (.ireturn, 1) := by decide +kernel
theorem dX9_get_0 : decode cX9_get 0 = .ok (.aload_n 0, 1) := by decide +kernel
theorem dX9_get_1 : decode cX9_get 1 = .ok (.iload_n 1, 1) := by decide +kernel
theorem dX9_get_2 : decode cX9_get 2 = .ok (.invokevirtual 53, 3) := by decide +kernel
theorem dX9_get_5 : decode cX9_get 5 = .ok (.ifCond .ne 6, 3) := by decide +kernel
theorem dX9_get_8 : decode cX9_get 8 = .ok (.ldc 57, 2) := by decide +kernel
theorem dX9_get_10 : decode cX9_get 10 = .ok (.ireturn, 1) := by decide +kernel
theorem dX9_get_11 : decode cX9_get 11 = .ok (.iload_n 2, 1) := by decide +kernel
theorem dX9_get_12 : decode cX9_get 12 = .ok (.iconst 0, 1) := by decide +kernel
theorem dX9_get_13 : decode cX9_get 13 = .ok (.bipush 10, 2) := by decide +kernel
theorem dX9_get_15 : decode cX9_get 15 = .ok (.invokestatic 45, 3) := by decide +kernel
theorem dX9_get_18 : decode cX9_get 18 = .ok (.ifCond .eq 12, 3) := by decide +kernel
theorem dX9_get_21 : decode cX9_get 21 = .ok (.aload_n 0, 1) := by decide +kernel
theorem dX9_get_22 : decode cX9_get 22 = .ok (.iload_n 1, 1) := by decide +kernel
theorem dX9_get_23 : decode cX9_get 23 = .ok (.iload_n 2, 1) := by decide +kernel
theorem dX9_get_24 : decode cX9_get 24 = .ok (.invokevirtual 49, 3) := by decide +kernel
theorem dX9_get_27 : decode cX9_get 27 = .ok (.goto 5, 3) := by decide +kernel
theorem dX9_get_30 : decode cX9_get 30 = .ok (.ldc 52, 2) := by decide +kernel
theorem dX9_get_32 : decode cX9_get 32 = .ok (.ireturn, 1) := by decide +kernel
theorem dX9_adjust_0 : decode cX9_adjust 0 = .ok (.aload_n 0, 1) := by decide +kernel
theorem dX9_adjust_1 : decode cX9_adjust 1 = .ok (.iload_n 1, 1) := by decide +kernel
theorem dX9_adjust_2 : decode cX9_adjust 2 = .ok (.invokevirtual 53, 3) := by decide +kernel
theorem dX9_adjust_5 : decode cX9_adjust 5 = .ok (.ifCond .ne 6, 3) := by decide +kernel
theorem dX9_adjust_8 : decode cX9_adjust 8 = .ok (.ldc 57, 2) := by decide +kernel
theorem dX9_adjust_10 : decode cX9_adjust 10 = .ok (.ireturn, 1) := by decide +kernel
theorem dX9_adjust_11 : decode cX9_adjust 11 = .ok (.iload_n 2, 1) := by decide +kernel
theorem dX9_adjust_12 : decode cX9_adjust 12 = .ok (.ifCond .ne 9, 3) := by decide +kernel
theorem dX9_adjust_15 : decode cX9_adjust 15 = .ok (.sipush 5000, 3) := by decide +kernel
theorem dX9_adjust_18 : decode cX9_adjust 18 = .ok (.goto 17, 3) := by decide +kernel
theorem dX9_adjust_21 : decode cX9_adjust 21 = .ok (.iload_n 2, 1) := by decide +kernel
theorem dX9_adjust_22 : decode cX9_adjust 22 = .ok (.iconst 1, 1) := by decide +kernel
theorem dX9_adjust_23 : decode cX9_adjust 23 = .ok (.if_icmp .ne 9, 3) := by decide +kernel
theorem dX9_adjust_26 : decode cX9_adjust 26 = .ok (.sipush 3000, 3) := by decide +kernel
theorem dX9_adjust_29 : decode cX9_adjust 29 = .ok (.goto 6, 3) := by decide +kernel
theorem dX9_adjust_32 : decode cX9_adjust 32 = .ok (.sipush 2000, 3) := by decide +kernel
theorem dX9_adjust_35 : decode cX9_adjust 35 = .ok (.istore 4, 2) := by decide +kernel
theorem dX9_adjust_37 : decode cX9_adjust 37 = .ok (.iload_n 2, 1) := by decide +kernel
theorem dX9_adjust_38 : decode cX9_adjust 38 = .ok (.iconst 0, 1) := by decide +kernel
theorem dX9_adjust_39 : decode cX9_adjust 39 = .ok (.iconst 2, 1) := by decide +kernel
theorem dX9_adjust_40 : decode cX9_adjust 40 = .ok (.invokestatic 45, 3) := by decide +kernel
theorem dX9_adjust_43 : decode cX9_adjust 43 = .ok (.ifCond .eq 15, 3) := by decide +kernel
theorem dX9_adjust_46 : decode cX9_adjust 46 = .ok (.iload_n 3, 1) := by decide +kernel
theorem dX9_adjust_47 : decode cX9_adjust 47 = .ok (.iload 4, 2) := by decide +kernel
theorem dX9_adjust_49 : decode cX9_adjust 49 = .ok (.ineg, 1) := by decide +kernel
theorem dX9_adjust_50 : decode cX9_adjust 50 = .ok (.iload 4, 2) := by decide +kernel
theorem dX9_adjust_52 : decode cX9_adjust 52 = .ok (.invokestatic 45, 3) := by decide +kernel
theorem dX9_adjust_55 : decode cX9_adjust 55 = .ok (.ifCond .ne 6, 3) := by decide +kernel
theorem dX9_adjust_58 : decode cX9_adjust 58 = .ok (.ldc 52, 2) := by decide +kernel
theorem dX9_adjust_60 : decode cX9_adjust 60 = .ok (.ireturn, 1) := by decide +kernel
theorem dX9_adjust_61 : decode cX9_adjust 61 = .ok (.aload_n 0, 1) := by decide +kernel
theorem dX9_adjust_62 : decode cX9_adjust 62 = .ok (.iload_n 1, 1) := by decide +kernel
theorem dX9_adjust_63 : decode cX9_adjust 63 = .ok (.bipush 11, 2) := by decide +kernel
theorem dX9_adjust_65 : decode cX9_adjust 65 = .ok (.iload_n 2, 1) := by decide +kernel
theorem dX9_adjust_66 : decode cX9_adjust 66 = .ok (.iadd, 1) := by decide +kernel
theorem dX9_adjust_67 : decode cX9_adjust 67 = .ok (.invokevirtual 49, 3) := by decide +kernel
theorem dX9_adjust_70 : decode cX9_adjust 70 = .ok (.istore 5, 2) := by decide +kernel
theorem dX9_adjust_72 : decode cX9_adjust 72 = .ok (.aload_n 0, 1) := by decide +kernel
theorem dX9_adjust_73 : decode cX9_adjust 73 = .ok (.iload_n 1, 1) := by decide +kernel
theorem dX9_adjust_74 : decode cX9_adjust 74 = .ok (.bipush 11, 2) := by decide +kernel
theorem dX9_adjust_76 : decode cX9_adjust 76 = .ok (.iload_n 2, 1) := by decide +kernel
theorem dX9_adjust_77 : decode cX9_adjust 77 = .ok (.iadd, 1) := by decide +kernel
theorem dX9_adjust_78 : decode cX9_adjust 78 = .ok (.iload_n 3, 1) := by decide +kernel
theorem dX9_adjust_79 : decode cX9_adjust 79 = .ok (.invokevirtual 41, 3) := by decide +kernel
theorem dX9_adjust_82 : decode cX9_adjust 82 = .ok (.iload 5, 2) := by decide +kernel
theorem dX9_adjust_84 : decode cX9_adjust 84 = .ok (.ireturn, 1) := by decide +kernel
theorem dX9_restart_0 : decode cX9_restart 0 = .ok (.aload_n 0, 1) := by decide +kernel
theorem dX9_restart_1 : decode cX9_restart 1 = .ok (.iload_n 1, 1) := by decide +kernel
theorem dX9_restart_2 : decode cX9_restart 2 = .ok (.invokevirtual 53, 3) := by decide +kernel
theorem dX9_restart_5 : decode cX9_restart 5 = .ok (.ifCond .ne 6, 3) := by decide +kernel
theorem dX9_restart_8 : decode cX9_restart 8 = .ok (.ldc 57, 2) := by decide +kernel
theorem dX9_restart_10 : decode cX9_restart 10 = .ok (.ireturn, 1) := by decide +kernel
theorem dX9_restart_11 : decode cX9_restart 11 = .ok (.aload_n 0, 1) := by decide +kernel
theorem dX9_restart_12 : decode cX9_restart 12 = .ok (.iload_n 1, 1) := by decide +kernel
theorem dX9_restart_13 : decode cX9_restart 13 = .ok (.bipush 14, 2) := by decide +kernel
theorem dX9_restart_15 : decode cX9_restart 15 = .ok (.invokevirtual 49, 3) := by decide +kernel
theorem dX9_restart_18 : decode cX9_restart 18 = .ok (.istore_n 2, 1) := by decide +kernel
theorem dX9_restart_19 : decode cX9_restart 19 = .ok (.bipush 14, 2) := by decide +kernel
theorem dX9_restart_21 : decode cX9_restart 21 = .ok (.istore_n 3, 1) := by decide +kernel
theorem dX9_restart_22 : decode cX9_restart 22 = .ok (.iload_n 3, 1) := by decide +kernel
theorem dX9_restart_23 : decode cX9_restart 23 = .ok (.bipush 20, 2) := by decide +kernel
theorem dX9_restart_25 : decode cX9_restart 25 = .ok (.if_icmp .gt 16, 3) := by decide +kernel
theorem dX9_restart_28 : decode cX9_restart 28 = .ok (.aload_n 0, 1) := by decide +kernel
theorem dX9_restart_29 : decode cX9_restart 29 = .ok (.iload_n 1, 1) := by decide +kernel
theorem dX9_restart_30 : decode cX9_restart 30 = .ok (.iload_n 3, 1) := by decide +kernel
theorem dX9_restart_31 : decode cX9_restart 31 = .ok (.iconst 0, 1) := by decide +kernel
theorem dX9_restart_32 : decode cX9_restart 32 = .ok (.invokevirtual 41, 3) := by decide +kernel
theorem dX9_restart_35 : decode cX9_restart 35 = .ok (.iinc 3 1, 3) := by decide +kernel
theorem dX9_restart_38 : decode cX9_restart 38 = .ok (.goto (-16), 3) := by decide +kernel
theorem dX9_restart_41 : decode cX9_restart 41 = .ok (.iload_n 2, 1) := by decide +kernel
theorem dX9_restart_42 : decode cX9_restart 42 = .ok (.ireturn, 1) := by decide +kernel
theorem dX9_speed_0 : decode cX9_speed 0 = .ok (.iload_n 1, 1) := by decide +kernel
theorem dX9_speed_1 : decode cX9_speed 1 = .ok (.iconst 0, 1) := by decide +kernel
theorem dX9_speed_2 : decode cX9_speed 2 = .ok (.sipush 1000, 3) := by decide +kernel
theorem dX9_speed_5 : decode cX9_speed 5 = .ok (.invokestatic 45, 3) := by decide +kernel
theorem dX9_speed_8 : decode cX9_speed 8 = .ok (.ifCond .ne 6, 3) := by decide +kernel
theorem dX9_speed_11 : decode cX9_speed 11 = .ok (.ldc 52, 2) := by decide +kernel
theorem dX9_speed_13 : decode cX9_speed 13 = .ok (.ireturn, 1) := by decide +kernel
theorem dX9_speed_14 : decode cX9_speed 14 = .ok (.aload_n 0, 1) := by decide +kernel
theorem dX9_speed_15 : decode cX9_speed 15 = .ok (.getfield 9, 3) := by decide +kernel
theorem dX9_speed_18 : decode cX9_speed 18 = .ok (.sipush 1767, 3) := by decide +kernel
theorem dX9_speed_21 : decode cX9_speed 21 = .ok (.iaload, 1) := by decide +kernel
theorem dX9_speed_22 : decode cX9_speed 22 = .ok (.istore_n 2, 1) := by decide +kernel
theorem dX9_speed_23 : decode cX9_speed 23 = .ok (.aload_n 0, 1) := by decide +kernel
theorem dX9_speed_24 : decode cX9_speed 24 = .ok (.getfield 9, 3) := by decide +kernel
theorem dX9_speed_27 : decode cX9_speed 27 = .ok (.sipush 1767, 3) := by decide +kernel
theorem dX9_speed_30 : decode cX9_speed 30 = .ok (.iload_n 1, 1) := by decide +kernel
theorem dX9_speed_31 : decode cX9_speed 31 = .ok (.iastore, 1) := by decide +kernel
theorem dX9_speed_32 : decode cX9_speed 32 = .ok (.iload_n 2, 1) := by decide +kernel
theorem dX9_speed_33 : decode cX9_speed 33 = .ok (.ireturn, 1) := by decide +kernel
theorem dX9_giveDisturbance_0 : decode cX9_giveDisturbance 0 = .ok (.aload_n 0, 1) := by decide +kernel
theorem dX9_giveDisturbance_1 : decode cX9_giveDisturbance 1 = .ok (.iload_n 1, 1) := by decide +kernel
theorem dX9_giveDisturbance_2 : decode cX9_giveDisturbance 2 = .ok (.bipush 21, 2) := by decide +kernel
theorem dX9_giveDisturbance_4 : decode cX9_giveDisturbance 4 = .ok (.iload_n 2, 1) := by decide +kernel
theorem dX9_giveDisturbance_5 : decode cX9_giveDisturbance 5 = .ok (.invokevirtual 41, 3) := by decide +kernel
theorem dX9_giveDisturbance_8 : decode cX9_giveDisturbance 8 = .ok (.aload_n 0, 1) := by decide +kernel
theorem dX9_giveDisturbance_9 : decode cX9_giveDisturbance 9 = .ok (.iload_n 1, 1) := by decide +kernel
theorem dX9_giveDisturbance_10 : decode cX9_giveDisturbance 10 = .ok (.bipush 22, 2) := by decide +kernel
theorem dX9_giveDisturbance_12 : decode cX9_giveDisturbance 12 = .ok (.iload_n 3, 1) := by decide +kernel
theorem dX9_giveDisturbance_13 : decode cX9_giveDisturbance 13 = .ok (.invokevirtual 41, 3) := by decide +kernel
theorem dX9_giveDisturbance_16 : decode cX9_giveDisturbance 16 = .ok (.aload_n 0, 1) := by decide +kernel
theorem dX9_giveDisturbance_17 : decode cX9_giveDisturbance 17 = .ok (.iload_n 1, 1) := by decide +kernel
theorem dX9_giveDisturbance_18 : decode cX9_giveDisturbance 18 = .ok (.bipush 23, 2) := by decide +kernel
theorem dX9_giveDisturbance_20 : decode cX9_giveDisturbance 20 = .ok (.iload_n 3, 1) := by decide +kernel
theorem dX9_giveDisturbance_21 : decode cX9_giveDisturbance 21 = .ok (.invokevirtual 41, 3) := by decide +kernel
theorem dX9_giveDisturbance_24 : decode cX9_giveDisturbance 24 = .ok (.return_, 1) := by decide +kernel
theorem dX9_isDisturbance_0 : decode cX9_isDisturbance 0 = .ok (.iload_n 0, 1) := by decide +kernel
theorem dX9_isDisturbance_1 : decode cX9_isDisturbance 1 = .ok (.sipush (-3000), 3) := by decide +kernel
theorem dX9_isDisturbance_4 : decode cX9_isDisturbance 4 = .ok (.sipush 3000, 3) := by decide +kernel
theorem dX9_isDisturbance_7 : decode cX9_isDisturbance 7 = .ok (.invokestatic 45, 3) := by decide +kernel
theorem dX9_isDisturbance_10 : decode cX9_isDisturbance 10 = .ok (.ifCond .eq 17, 3) := by decide +kernel
theorem dX9_isDisturbance_13 : decode cX9_isDisturbance 13 = .ok (.iload_n 1, 1) := by decide +kernel
theorem dX9_isDisturbance_14 : decode cX9_isDisturbance 14 = .ok (.iconst 1, 1) := by decide +kernel
theorem dX9_isDisturbance_15 : decode cX9_isDisturbance 15 = .ok (.bipush 50, 2) := by decide +kernel
theorem dX9_isDisturbance_17 : decode cX9_isDisturbance 17 = .ok (.invokestatic 45, 3) := by decide +kernel
theorem dX9_isDisturbance_20 : decode cX9_isDisturbance 20 = .ok (.ifCond .eq 7, 3) := by decide +kernel
theorem dX9_isDisturbance_23 : decode cX9_isDisturbance 23 = .ok (.iconst 1, 1) := by decide +kernel
theorem dX9_isDisturbance_24 : decode cX9_isDisturbance 24 = .ok (.goto 4, 3) := by decide +kernel
theorem dX9_isDisturbance_27 : decode cX9_isDisturbance 27 = .ok (.iconst 0, 1) := by decide +kernel
theorem dX9_isDisturbance_28 : decode cX9_isDisturbance 28 = .ok (.ireturn, 1) := by decide +kernel
theorem dX9_disturb_0 : decode cX9_disturb 0 = .ok (.aload_n 0, 1) := by decide +kernel
theorem dX9_disturb_1 : decode cX9_disturb 1 = .ok (.iload_n 1, 1) := by decide +kernel
theorem dX9_disturb_2 : decode cX9_disturb 2 = .ok (.invokevirtual 53, 3) := by decide +kernel
theorem dX9_disturb_5 : decode cX9_disturb 5 = .ok (.ifCond .ne 6, 3) := by decide +kernel
theorem dX9_disturb_8 : decode cX9_disturb 8 = .ok (.ldc 57, 2) := by decide +kernel
theorem dX9_disturb_10 : decode cX9_disturb 10 = .ok (.ireturn, 1) := by decide +kernel
theorem dX9_disturb_11 : decode cX9_disturb 11 = .ok (.iload_n 2, 1) := by decide +kernel
theorem dX9_disturb_12 : decode cX9_disturb 12 = .ok (.iload_n 3, 1) := by decide +kernel
theorem dX9_disturb_13 : decode cX9_disturb 13 = .ok (.invokestatic 63, 3) := by decide +kernel
theorem dX9_disturb_16 : decode cX9_disturb 16 = .ok (.ifCond .ne 6, 3) := by decide +kernel
theorem dX9_disturb_19 : decode cX9_disturb 19 = .ok (.ldc 52, 2) := by decide +kernel
theorem dX9_disturb_21 : decode cX9_disturb 21 = .ok (.ireturn, 1) := by decide +kernel
theorem dX9_disturb_22 : decode cX9_disturb 22 = .ok (.aload_n 0, 1) := by decide +kernel
theorem dX9_disturb_23 : decode cX9_disturb 23 = .ok (.iload_n 1, 1) := by decide +kernel
theorem dX9_disturb_24 : decode cX9_disturb 24 = .ok (.iload_n 2, 1) := by decide +kernel
theorem dX9_disturb_25 : decode cX9_disturb 25 = .ok (.iload_n 3, 1) := by decide +kernel
theorem dX9_disturb_26 : decode cX9_disturb 26 = .ok (.invokevirtual 66, 3) := by decide +kernel
theorem dX9_disturb_29 : decode cX9_disturb 29 = .ok (.aload_n 0, 1) := by decide +kernel
theorem dX9_disturb_30 : decode cX9_disturb 30 = .ok (.getfield 9, 3) := by decide +kernel
theorem dX9_disturb_33 : decode cX9_disturb 33 = .ok (.sipush 1765, 3) := by decide +kernel
theorem dX9_disturb_36 : decode cX9_disturb 36 = .ok (.iaload, 1) := by decide +kernel
theorem dX9_disturb_37 : decode cX9_disturb 37 = .ok (.ireturn, 1) := by decide +kernel
theorem dX9_hide_0 : decode cX9_hide 0 = .ok (.aload_n 0, 1) := by decide +kernel
theorem dX9_hide_1 : decode cX9_hide 1 = .ok (.iload_n 1, 1) := by decide +kernel
theorem dX9_hide_2 : decode cX9_hide 2 = .ok (.invokevirtual 53, 3) := by decide +kernel
theorem dX9_hide_5 : decode cX9_hide 5 = .ok (.ifCond .ne 6, 3) := by decide +kernel
theorem dX9_hide_8 : decode cX9_hide 8 = .ok (.ldc 57, 2) := by decide +kernel
theorem dX9_hide_10 : decode cX9_hide 10 = .ok (.ireturn, 1) := by decide +kernel
theorem dX9_hide_11 : decode cX9_hide 11 = .ok (.iload_n 2, 1) := by decide +kernel
theorem dX9_hide_12 : decode cX9_hide 12 = .ok (.iconst 0, 1) := by decide +kernel
theorem dX9_hide_13 : decode cX9_hide 13 = .ok (.bipush 50, 2) := by decide +kernel
theorem dX9_hide_15 : decode cX9_hide 15 = .ok (.invokestatic 45, 3) := by decide +kernel
theorem dX9_hide_18 : decode cX9_hide 18 = .ok (.ifCond .ne 6, 3) := by decide +kernel
theorem dX9_hide_21 : decode cX9_hide 21 = .ok (.ldc 52, 2) := by decide +kernel
theorem dX9_hide_23 : decode cX9_hide 23 = .ok (.ireturn, 1) := by decide +kernel
theorem dX9_hide_24 : decode cX9_hide 24 = .ok (.aload_n 0, 1) := by decide +kernel
theorem dX9_hide_25 : decode cX9_hide 25 = .ok (.iload_n 1, 1) := by decide +kernel
theorem dX9_hide_26 : decode cX9_hide 26 = .ok (.bipush 24, 2) := by decide +kernel
theorem dX9_hide_28 : decode cX9_hide 28 = .ok (.invokevirtual 49, 3) := by decide +kernel
theorem dX9_hide_31 : decode cX9_hide 31 = .ok (.istore_n 3, 1) := by decide +kernel
theorem dX9_hide_32 : decode cX9_hide 32 = .ok (.aload_n 0, 1) := by decide +kernel
theorem dX9_hide_33 : decode cX9_hide 33 = .ok (.iload_n 1, 1) := by decide +kernel
theorem dX9_hide_34 : decode cX9_hide 34 = .ok (.bipush 24, 2) := by decide +kernel
theorem dX9_hide_36 : decode cX9_hide 36 = .ok (.iload_n 2, 1) := by decide +kernel
theorem dX9_hide_37 : decode cX9_hide 37 = .ok (.invokevirtual 41, 3) := by decide +kernel
theorem dX9_hide_40 : decode cX9_hide 40 = .ok (.iload_n 3, 1) := by decide +kernel
theorem dX9_hide_41 : decode cX9_hide 41 = .ok (.ireturn, 1) := by decide +kernel
theorem dX9_falseMark_0 : decode cX9_falseMark 0 = .ok (.aload_n 0, 1) := by decide +kernel
theorem dX9_falseMark_1 : decode cX9_falseMark 1 = .ok (.iload_n 1, 1) := by decide +kernel
theorem dX9_falseMark_2 : decode cX9_falseMark 2 = .ok (.invokevirtual 53, 3) := by decide +kernel
theorem dX9_falseMark_5 : decode cX9_falseMark 5 = .ok (.ifCond .ne 6, 3) := by decide +kernel
theorem dX9_falseMark_8 : decode cX9_falseMark 8 = .ok (.ldc 57, 2) := by decide +kernel
theorem dX9_falseMark_10 : decode cX9_falseMark 10 = .ok (.ireturn, 1) := by decide +kernel
theorem dX9_falseMark_11 : decode cX9_falseMark 11 = .ok (.iload_n 2, 1) := by decide +kernel
theorem dX9_falseMark_12 : decode cX9_falseMark 12 = .ok (.sipush (-3000), 3) := by decide +kernel
theorem dX9_falseMark_15 : decode cX9_falseMark 15 = .ok (.sipush 3000, 3) := by decide +kernel
theorem dX9_falseMark_18 : decode cX9_falseMark 18 = .ok (.invokestatic 45, 3) := by decide +kernel
theorem dX9_falseMark_21 : decode cX9_falseMark 21 = .ok (.ifCond .eq 13, 3) := by decide +kernel
theorem dX9_falseMark_24 : decode cX9_falseMark 24 = .ok (.iload_n 3, 1) := by decide +kernel
theorem dX9_falseMark_25 : decode cX9_falseMark 25 = .ok (.iconst 0, 1) := by decide +kernel
theorem dX9_falseMark_26 : decode cX9_falseMark 26 = .ok (.bipush 50, 2) := by decide +kernel
theorem dX9_falseMark_28 : decode cX9_falseMark 28 = .ok (.invokestatic 45, 3) := by decide +kernel
theorem dX9_falseMark_31 : decode cX9_falseMark 31 = .ok (.ifCond .ne 6, 3) := by decide +kernel
theorem dX9_falseMark_34 : decode cX9_falseMark 34 = .ok (.ldc 52, 2) := by decide +kernel
theorem dX9_falseMark_36 : decode cX9_falseMark 36 = .ok (.ireturn, 1) := by decide +kernel
theorem dX9_falseMark_37 : decode cX9_falseMark 37 = .ok (.aload_n 0, 1) := by decide +kernel
theorem dX9_falseMark_38 : decode cX9_falseMark 38 = .ok (.iload_n 1, 1) := by decide +kernel
theorem dX9_falseMark_39 : decode cX9_falseMark 39 = .ok (.bipush 26, 2) := by decide +kernel
theorem dX9_falseMark_41 : decode cX9_falseMark 41 = .ok (.invokevirtual 49, 3) := by decide +kernel
theorem dX9_falseMark_44 : decode cX9_falseMark 44 = .ok (.istore 4, 2) := by decide +kernel
theorem dX9_falseMark_46 : decode cX9_falseMark 46 = .ok (.aload_n 0, 1) := by decide +kernel
theorem dX9_falseMark_47 : decode cX9_falseMark 47 = .ok (.iload_n 1, 1) := by decide +kernel
theorem dX9_falseMark_48 : decode cX9_falseMark 48 = .ok (.bipush 25, 2) := by decide +kernel
theorem dX9_falseMark_50 : decode cX9_falseMark 50 = .ok (.iload_n 2, 1) := by decide +kernel
theorem dX9_falseMark_51 : decode cX9_falseMark 51 = .ok (.invokevirtual 41, 3) := by decide +kernel
theorem dX9_falseMark_54 : decode cX9_falseMark 54 = .ok (.aload_n 0, 1) := by decide +kernel
theorem dX9_falseMark_55 : decode cX9_falseMark 55 = .ok (.iload_n 1, 1) := by decide +kernel
theorem dX9_falseMark_56 : decode cX9_falseMark 56 = .ok (.bipush 26, 2) := by decide +kernel
theorem dX9_falseMark_58 : decode cX9_falseMark 58 = .ok (.iload_n 3, 1) := by decide +kernel
theorem dX9_falseMark_59 : decode cX9_falseMark 59 = .ok (.invokevirtual 41, 3) := by decide +kernel
theorem dX9_falseMark_62 : decode cX9_falseMark 62 = .ok (.iload 4, 2) := by decide +kernel
theorem dX9_falseMark_64 : decode cX9_falseMark 64 = .ok (.ireturn, 1) := by decide +kernel
theorem dX9_startSplice_0 : decode cX9_startSplice 0 = .ok (.aload_n 0, 1) := by decide +kernel
theorem dX9_startSplice_1 : decode cX9_startSplice 1 = .ok (.getfield 9, 3) := by decide +kernel
theorem dX9_startSplice_4 : decode cX9_startSplice 4 = .ok (.sipush 1769, 3) := by decide +kernel
theorem dX9_startSplice_7 : decode cX9_startSplice 7 = .ok (.iload_n 1, 1) := by decide +kernel
theorem dX9_startSplice_8 : decode cX9_startSplice 8 = .ok (.iastore, 1) := by decide +kernel
theorem dX9_startSplice_9 : decode cX9_startSplice 9 = .ok (.aload_n 0, 1) := by decide +kernel
theorem dX9_startSplice_10 : decode cX9_startSplice 10 = .ok (.getfield 9, 3) := by decide +kernel
theorem dX9_startSplice_13 : decode cX9_startSplice 13 = .ok (.sipush 1770, 3) := by decide +kernel
theorem dX9_startSplice_16 : decode cX9_startSplice 16 = .ok (.iload_n 2, 1) := by decide +kernel
theorem dX9_startSplice_17 : decode cX9_startSplice 17 = .ok (.iastore, 1) := by decide +kernel
theorem dX9_startSplice_18 : decode cX9_startSplice 18 = .ok (.aload_n 0, 1) := by decide +kernel
theorem dX9_startSplice_19 : decode cX9_startSplice 19 = .ok (.getfield 9, 3) := by decide +kernel
theorem dX9_startSplice_22 : decode cX9_startSplice 22 = .ok (.sipush 1771, 3) := by decide +kernel
theorem dX9_startSplice_25 : decode cX9_startSplice 25 = .ok (.iconst 1, 1) := by decide +kernel
theorem dX9_startSplice_26 : decode cX9_startSplice 26 = .ok (.iastore, 1) := by decide +kernel
theorem dX9_startSplice_27 : decode cX9_startSplice 27 = .ok (.aload_n 0, 1) := by decide +kernel
theorem dX9_startSplice_28 : decode cX9_startSplice 28 = .ok (.aload_n 0, 1) := by decide +kernel
theorem dX9_startSplice_29 : decode cX9_startSplice 29 = .ok (.getfield 9, 3) := by decide +kernel
theorem dX9_startSplice_32 : decode cX9_startSplice 32 = .ok (.sipush 1766, 3) := by decide +kernel
theorem dX9_startSplice_35 : decode cX9_startSplice 35 = .ok (.iaload, 1) := by decide +kernel
theorem dX9_startSplice_36 : decode cX9_startSplice 36 = .ok (.iconst 1, 1) := by decide +kernel
theorem dX9_startSplice_37 : decode cX9_startSplice 37 = .ok (.isub, 1) := by decide +kernel
theorem dX9_startSplice_38 : decode cX9_startSplice 38 = .ok (.invokevirtual 69, 3) := by decide +kernel
theorem dX9_startSplice_41 : decode cX9_startSplice 41 = .ok (.iconst 1, 1) := by decide +kernel
theorem dX9_startSplice_42 : decode cX9_startSplice 42 = .ok (.iadd, 1) := by decide +kernel
theorem dX9_startSplice_43 : decode cX9_startSplice 43 = .ok (.ireturn, 1) := by decide +kernel
theorem dX9_splice_0 : decode cX9_splice 0 = .ok (.iload_n 1, 1) := by decide +kernel
theorem dX9_splice_1 : decode cX9_splice 1 = .ok (.iload_n 2, 1) := by decide +kernel
theorem dX9_splice_2 : decode cX9_splice 2 = .ok (.invokestatic 63, 3) := by decide +kernel
theorem dX9_splice_5 : decode cX9_splice 5 = .ok (.ifCond .eq 12, 3) := by decide +kernel
theorem dX9_splice_8 : decode cX9_splice 8 = .ok (.aload_n 0, 1) := by decide +kernel
theorem dX9_splice_9 : decode cX9_splice 9 = .ok (.iload_n 1, 1) := by decide +kernel
theorem dX9_splice_10 : decode cX9_splice 10 = .ok (.iload_n 2, 1) := by decide +kernel
theorem dX9_splice_11 : decode cX9_splice 11 = .ok (.invokevirtual 72, 3) := by decide +kernel
theorem dX9_splice_14 : decode cX9_splice 14 = .ok (.goto 5, 3) := by decide +kernel
theorem dX9_splice_17 : decode cX9_splice 17 = .ok (.ldc 52, 2) := by decide +kernel
theorem dX9_splice_19 : decode cX9_splice 19 = .ok (.ireturn, 1) := by decide +kernel
theorem dX9_tally_0 : decode cX9_tally 0 = .ok (.aload_n 0, 1) := by decide +kernel
theorem dX9_tally_1 : decode cX9_tally 1 = .ok (.getfield 9, 3) := by decide +kernel
theorem dX9_tally_4 : decode cX9_tally 4 = .ok (.sipush 1772, 3) := by decide +kernel
theorem dX9_tally_7 : decode cX9_tally 7 = .ok (.iload_n 1, 1) := by decide +kernel
theorem dX9_tally_8 : decode cX9_tally 8 = .ok (.iadd, 1) := by decide +kernel
theorem dX9_tally_9 : decode cX9_tally 9 = .ok (.dup2, 1) := by decide +kernel
theorem dX9_tally_10 : decode cX9_tally 10 = .ok (.iaload, 1) := by decide +kernel
theorem dX9_tally_11 : decode cX9_tally 11 = .ok (.iload_n 2, 1) := by decide +kernel
theorem dX9_tally_12 : decode cX9_tally 12 = .ok (.ifCond .eq 7, 3) := by decide +kernel
theorem dX9_tally_15 : decode cX9_tally 15 = .ok (.iconst 1, 1) := by decide +kernel
theorem dX9_tally_16 : decode cX9_tally 16 = .ok (.goto 4, 3) := by decide +kernel
theorem dX9_tally_19 : decode cX9_tally 19 = .ok (.iconst 0, 1) := by decide +kernel
theorem dX9_tally_20 : decode cX9_tally 20 = .ok (.iadd, 1) := by decide +kernel
theorem dX9_tally_21 : decode cX9_tally 21 = .ok (.iastore, 1) := by decide +kernel
theorem dX9_tally_22 : decode cX9_tally 22 = .ok (.return_, 1) := by decide +kernel
theorem dX9_goOnSplice_0 : decode cX9_goOnSplice 0 = .ok (.aload_n 0, 1) := by decide +kernel
theorem dX9_goOnSplice_1 : decode cX9_goOnSplice 1 = .ok (.getfield 9, 3) := by decide +kernel
theorem dX9_goOnSplice_4 : decode cX9_goOnSplice 4 = .ok (.sipush 1771, 3) := by decide +kernel
theorem dX9_goOnSplice_7 : decode cX9_goOnSplice 7 = .ok (.iaload, 1) := by decide +kernel
theorem dX9_goOnSplice_8 : decode cX9_goOnSplice 8 = .ok (.ifCond .ne 4, 3) := by decide +kernel
theorem dX9_goOnSplice_11 : decode cX9_goOnSplice 11 = .ok (.return_, 1) := by decide +kernel
theorem dX9_goOnSplice_12 : decode cX9_goOnSplice 12 = .ok (.aload_n 0, 1) := by decide +kernel
theorem dX9_goOnSplice_13 : decode cX9_goOnSplice 13 = .ok (.getfield 9, 3) := by decide +kernel
theorem dX9_goOnSplice_16 : decode cX9_goOnSplice 16 = .ok (.sipush 1771, 3) := by decide +kernel
theorem dX9_goOnSplice_19 : decode cX9_goOnSplice 19 = .ok (.iaload, 1) := by decide +kernel
theorem dX9_goOnSplice_20 : decode cX9_goOnSplice 20 = .ok (.iconst 1, 1) := by decide +kernel
theorem dX9_goOnSplice_21 : decode cX9_goOnSplice 21 = .ok (.isub, 1) := by decide +kernel
theorem dX9_goOnSplice_22 : decode cX9_goOnSplice 22 = .ok (.istore_n 1, 1) := by decide +kernel
theorem dX9_goOnSplice_23 : decode cX9_goOnSplice 23 = .ok (.iconst 0, 1) := by decide +kernel
theorem dX9_goOnSplice_24 : decode cX9_goOnSplice 24 = .ok (.istore_n 2, 1) := by decide +kernel
theorem dX9_goOnSplice_25 : decode cX9_goOnSplice 25 = .ok (.iload_n 2, 1) := by decide +kernel
theorem dX9_goOnSplice_26 : decode cX9_goOnSplice 26 = .ok (.aload_n 0, 1) := by decide +kernel
theorem dX9_goOnSplice_27 : decode cX9_goOnSplice 27 = .ok (.getfield 9, 3) := by decide +kernel
theorem dX9_goOnSplice_30 : decode cX9_goOnSplice 30 = .ok (.sipush 1766, 3) := by decide +kernel
theorem dX9_goOnSplice_33 : decode cX9_goOnSplice 33 = .ok (.iaload, 1) := by decide +kernel
theorem dX9_goOnSplice_34 : decode cX9_goOnSplice 34 = .ok (.if_icmp .ge 68, 3) := by decide +kernel
theorem dX9_goOnSplice_37 : decode cX9_goOnSplice 37 = .ok (.aload_n 0, 1) := by decide +kernel
theorem dX9_goOnSplice_38 : decode cX9_goOnSplice 38 = .ok (.iload_n 2, 1) := by decide +kernel
theorem dX9_goOnSplice_39 : decode cX9_goOnSplice 39 = .ok (.invokevirtual 69, 3) := by decide +kernel
theorem dX9_goOnSplice_42 : decode cX9_goOnSplice 42 = .ok (.iload_n 1, 1) := by decide +kernel
theorem dX9_goOnSplice_43 : decode cX9_goOnSplice 43 = .ok (.if_icmp .ne 53, 3) := by decide +kernel
theorem dX9_goOnSplice_46 : decode cX9_goOnSplice 46 = .ok (.aload_n 0, 1) := by decide +kernel
theorem dX9_goOnSplice_47 : decode cX9_goOnSplice 47 = .ok (.iload_n 2, 1) := by decide +kernel
theorem dX9_goOnSplice_48 : decode cX9_goOnSplice 48 = .ok (.aload_n 0, 1) := by decide +kernel
theorem dX9_goOnSplice_49 : decode cX9_goOnSplice 49 = .ok (.getfield 9, 3) := by decide +kernel
theorem dX9_goOnSplice_52 : decode cX9_goOnSplice 52 = .ok (.sipush 1769, 3) := by decide +kernel
theorem dX9_goOnSplice_55 : decode cX9_goOnSplice 55 = .ok (.iaload, 1) := by decide +kernel
theorem dX9_goOnSplice_56 : decode cX9_goOnSplice 56 = .ok (.aload_n 0, 1) := by decide +kernel
theorem dX9_goOnSplice_57 : decode cX9_goOnSplice 57 = .ok (.getfield 9, 3) := by decide +kernel
theorem dX9_goOnSplice_60 : decode cX9_goOnSplice 60 = .ok (.sipush 1770, 3) := by decide +kernel
theorem dX9_goOnSplice_63 : decode cX9_goOnSplice 63 = .ok (.iaload, 1) := by decide +kernel
theorem dX9_goOnSplice_64 : decode cX9_goOnSplice 64 = .ok (.invokevirtual 66, 3) := by decide +kernel
theorem dX9_goOnSplice_67 : decode cX9_goOnSplice 67 = .ok (.aload_n 0, 1) := by decide +kernel
theorem dX9_goOnSplice_68 : decode cX9_goOnSplice 68 = .ok (.iload_n 2, 1) := by decide +kernel
theorem dX9_goOnSplice_69 : decode cX9_goOnSplice 69 = .ok (.bipush 15, 2) := by decide +kernel
theorem dX9_goOnSplice_71 : decode cX9_goOnSplice 71 = .ok (.iconst 0, 1) := by decide +kernel
theorem dX9_goOnSplice_72 : decode cX9_goOnSplice 72 = .ok (.invokevirtual 41, 3) := by decide +kernel
theorem dX9_goOnSplice_75 : decode cX9_goOnSplice 75 = .ok (.aload_n 0, 1) := by decide +kernel
theorem dX9_goOnSplice_76 : decode cX9_goOnSplice 76 = .ok (.iload_n 2, 1) := by decide +kernel
theorem dX9_goOnSplice_77 : decode cX9_goOnSplice 77 = .ok (.bipush 18, 2) := by decide +kernel
theorem dX9_goOnSplice_79 : decode cX9_goOnSplice 79 = .ok (.aload_n 0, 1) := by decide +kernel
theorem dX9_goOnSplice_80 : decode cX9_goOnSplice 80 = .ok (.iload_n 2, 1) := by decide +kernel
theorem dX9_goOnSplice_81 : decode cX9_goOnSplice 81 = .ok (.iconst 1, 1) := by decide +kernel
theorem dX9_goOnSplice_82 : decode cX9_goOnSplice 82 = .ok (.invokevirtual 49, 3) := by decide +kernel
theorem dX9_goOnSplice_85 : decode cX9_goOnSplice 85 = .ok (.aload_n 0, 1) := by decide +kernel
theorem dX9_goOnSplice_86 : decode cX9_goOnSplice 86 = .ok (.iload_n 2, 1) := by decide +kernel
theorem dX9_goOnSplice_87 : decode cX9_goOnSplice 87 = .ok (.bipush 9, 2) := by decide +kernel
theorem dX9_goOnSplice_89 : decode cX9_goOnSplice 89 = .ok (.invokevirtual 49, 3) := by decide +kernel
theorem dX9_goOnSplice_92 : decode cX9_goOnSplice 92 = .ok (.iadd, 1) := by decide +kernel
theorem dX9_goOnSplice_93 : decode cX9_goOnSplice 93 = .ok (.invokevirtual 41, 3) := by decide +kernel
theorem dX9_goOnSplice_96 : decode cX9_goOnSplice 96 = .ok (.iinc 2 1, 3) := by decide +kernel
theorem dX9_goOnSplice_99 : decode cX9_goOnSplice 99 = .ok (.goto (-74), 3) := by decide +kernel
theorem dX9_goOnSplice_102 : decode cX9_goOnSplice 102 = .ok (.aload_n 0, 1) := by decide +kernel
theorem dX9_goOnSplice_103 : decode cX9_goOnSplice 103 = .ok (.getfield 9, 3) := by decide +kernel
theorem dX9_goOnSplice_106 : decode cX9_goOnSplice 106 = .ok (.sipush 1771, 3) := by decide +kernel
theorem dX9_goOnSplice_109 : decode cX9_goOnSplice 109 = .ok (.iload_n 1, 1) := by decide +kernel
theorem dX9_goOnSplice_110 : decode cX9_goOnSplice 110 = .ok (.aload_n 0, 1) := by decide +kernel
theorem dX9_goOnSplice_111 : decode cX9_goOnSplice 111 = .ok (.aload_n 0, 1) := by decide +kernel
theorem dX9_goOnSplice_112 : decode cX9_goOnSplice 112 = .ok (.getfield 9, 3) := by decide +kernel
theorem dX9_goOnSplice_115 : decode cX9_goOnSplice 115 = .ok (.sipush 1766, 3) := by decide +kernel
theorem dX9_goOnSplice_118 : decode cX9_goOnSplice 118 = .ok (.iaload, 1) := by decide +kernel
theorem dX9_goOnSplice_119 : decode cX9_goOnSplice 119 = .ok (.iconst 1, 1) := by decide +kernel
theorem dX9_goOnSplice_120 : decode cX9_goOnSplice 120 = .ok (.isub, 1) := by decide +kernel
theorem dX9_goOnSplice_121 : decode cX9_goOnSplice 121 = .ok (.invokevirtual 69, 3) := by decide +kernel
theorem dX9_goOnSplice_124 : decode cX9_goOnSplice 124 = .ok (.if_icmp .lt 7, 3) := by decide +kernel
theorem dX9_goOnSplice_127 : decode cX9_goOnSplice 127 = .ok (.iconst 0, 1) := by decide +kernel
theorem dX9_goOnSplice_128 : decode cX9_goOnSplice 128 = .ok (.goto 13, 3) := by decide +kernel
theorem dX9_goOnSplice_131 : decode cX9_goOnSplice 131 = .ok (.aload_n 0, 1) := by decide +kernel
theorem dX9_goOnSplice_132 : decode cX9_goOnSplice 132 = .ok (.getfield 9, 3) := by decide +kernel
theorem dX9_goOnSplice_135 : decode cX9_goOnSplice 135 = .ok (.sipush 1771, 3) := by decide +kernel
theorem dX9_goOnSplice_138 : decode cX9_goOnSplice 138 = .ok (.iaload, 1) := by decide +kernel
theorem dX9_goOnSplice_139 : decode cX9_goOnSplice 139 = .ok (.iconst 1, 1) := by decide +kernel
theorem dX9_goOnSplice_140 : decode cX9_goOnSplice 140 = .ok (.iadd, 1) := by decide +kernel
theorem dX9_goOnSplice_141 : decode cX9_goOnSplice 141 = .ok (.iastore, 1) := by decide +kernel
theorem dX9_goOnSplice_142 : decode cX9_goOnSplice 142 = .ok (.return_, 1) := by decide +kernel
theorem dX9_print_0 : decode cX9_print 0 = .ok (.aload_n 0, 1) := by decide +kernel
theorem dX9_print_1 : decode cX9_print 1 = .ok (.getfield 9, 3) := by decide +kernel
theorem dX9_print_4 : decode cX9_print 4 = .ok (.sipush 1778, 3) := by decide +kernel
theorem dX9_print_7 : decode cX9_print 7 = .ok (.aload_n 0, 1) := by decide +kernel
theorem dX9_print_8 : decode cX9_print 8 = .ok (.getfield 9, 3) := by decide +kernel
theorem dX9_print_11 : decode cX9_print 11 = .ok (.sipush 1765, 3) := by decide +kernel
theorem dX9_print_14 : decode cX9_print 14 = .ok (.iaload, 1) := by decide +kernel
theorem dX9_print_15 : decode cX9_print 15 = .ok (.sipush 128, 3) := by decide +kernel
theorem dX9_print_18 : decode cX9_print 18 = .ok (.irem, 1) := by decide +kernel
theorem dX9_print_19 : decode cX9_print 19 = .ok (.iadd, 1) := by decide +kernel
theorem dX9_print_20 : decode cX9_print 20 = .ok (.iaload, 1) := by decide +kernel
theorem dX9_print_21 : decode cX9_print 21 = .ok (.istore_n 2, 1) := by decide +kernel
theorem dX9_print_22 : decode cX9_print 22 = .ok (.aload_n 0, 1) := by decide +kernel
theorem dX9_print_23 : decode cX9_print 23 = .ok (.iload_n 1, 1) := by decide +kernel
theorem dX9_print_24 : decode cX9_print 24 = .ok (.bipush 23, 2) := by decide +kernel
theorem dX9_print_26 : decode cX9_print 26 = .ok (.invokevirtual 49, 3) := by decide +kernel
theorem dX9_print_29 : decode cX9_print 29 = .ok (.ifCond .le 29, 3) := by decide +kernel
theorem dX9_print_32 : decode cX9_print 32 = .ok (.aload_n 0, 1) := by decide +kernel
theorem dX9_print_33 : decode cX9_print 33 = .ok (.iload_n 1, 1) := by decide +kernel
theorem dX9_print_34 : decode cX9_print 34 = .ok (.bipush 21, 2) := by decide +kernel
theorem dX9_print_36 : decode cX9_print 36 = .ok (.invokevirtual 49, 3) := by decide +kernel
theorem dX9_print_39 : decode cX9_print 39 = .ok (.aload_n 0, 1) := by decide +kernel
theorem dX9_print_40 : decode cX9_print 40 = .ok (.iload_n 1, 1) := by decide +kernel
theorem dX9_print_41 : decode cX9_print 41 = .ok (.bipush 23, 2) := by decide +kernel
theorem dX9_print_43 : decode cX9_print 43 = .ok (.invokevirtual 49, 3) := by decide +kernel
theorem dX9_print_46 : decode cX9_print 46 = .ok (.imul, 1) := by decide +kernel
theorem dX9_print_47 : decode cX9_print 47 = .ok (.aload_n 0, 1) := by decide +kernel
theorem dX9_print_48 : decode cX9_print 48 = .ok (.iload_n 1, 1) := by decide +kernel
theorem dX9_print_49 : decode cX9_print 49 = .ok (.bipush 22, 2) := by decide +kernel
theorem dX9_print_51 : decode cX9_print 51 = .ok (.invokevirtual 49, 3) := by decide +kernel
theorem dX9_print_54 : decode cX9_print 54 = .ok (.idiv, 1) := by decide +kernel
theorem dX9_print_55 : decode cX9_print 55 = .ok (.goto 4, 3) := by decide +kernel
theorem dX9_print_58 : decode cX9_print 58 = .ok (.iconst 0, 1) := by decide +kernel
theorem dX9_print_59 : decode cX9_print 59 = .ok (.istore_n 3, 1) := by decide +kernel
theorem dX9_print_60 : decode cX9_print 60 = .ok (.aload_n 0, 1) := by decide +kernel
theorem dX9_print_61 : decode cX9_print 61 = .ok (.iload_n 1, 1) := by decide +kernel
theorem dX9_print_62 : decode cX9_print 62 = .ok (.bipush 11, 2) := by decide +kernel
theorem dX9_print_64 : decode cX9_print 64 = .ok (.invokevirtual 49, 3) := by decide +kernel
theorem dX9_print_67 : decode cX9_print 67 = .ok (.iload_n 3, 1) := by decide +kernel
theorem dX9_print_68 : decode cX9_print 68 = .ok (.iadd, 1) := by decide +kernel
theorem dX9_print_69 : decode cX9_print 69 = .ok (.aload_n 0, 1) := by decide +kernel
theorem dX9_print_70 : decode cX9_print 70 = .ok (.iload_n 1, 1) := by decide +kernel
theorem dX9_print_71 : decode cX9_print 71 = .ok (.bipush 10, 2) := by decide +kernel
theorem dX9_print_73 : decode cX9_print 73 = .ok (.invokevirtual 49, 3) := by decide +kernel
theorem dX9_print_76 : decode cX9_print 76 = .ok (.aload_n 0, 1) := by decide +kernel
theorem dX9_print_77 : decode cX9_print 77 = .ok (.iload_n 1, 1) := by decide +kernel
theorem dX9_print_78 : decode cX9_print 78 = .ok (.bipush 14, 2) := by decide +kernel
theorem dX9_print_80 : decode cX9_print 80 = .ok (.invokevirtual 49, 3) := by decide +kernel
theorem dX9_print_83 : decode cX9_print 83 = .ok (.isub, 1) := by decide +kernel
theorem dX9_print_84 : decode cX9_print 84 = .ok (.iload_n 2, 1) := by decide +kernel
theorem dX9_print_85 : decode cX9_print 85 = .ok (.imul, 1) := by decide +kernel
theorem dX9_print_86 : decode cX9_print 86 = .ok (.bipush 100, 2) := by decide +kernel
theorem dX9_print_88 : decode cX9_print 88 = .ok (.idiv, 1) := by decide +kernel
theorem dX9_print_89 : decode cX9_print 89 = .ok (.iadd, 1) := by decide +kernel
theorem dX9_print_90 : decode cX9_print 90 = .ok (.istore 4, 2) := by decide +kernel
theorem dX9_print_92 : decode cX9_print 92 = .ok (.aload_n 0, 1) := by decide +kernel
theorem dX9_print_93 : decode cX9_print 93 = .ok (.iload_n 1, 1) := by decide +kernel
theorem dX9_print_94 : decode cX9_print 94 = .ok (.bipush 13, 2) := by decide +kernel
theorem dX9_print_96 : decode cX9_print 96 = .ok (.invokevirtual 49, 3) := by decide +kernel
theorem dX9_print_99 : decode cX9_print 99 = .ok (.aload_n 0, 1) := by decide +kernel
theorem dX9_print_100 : decode cX9_print 100 = .ok (.iload_n 1, 1) := by decide +kernel
theorem dX9_print_101 : decode cX9_print 101 = .ok (.bipush 12, 2) := by decide +kernel
theorem dX9_print_103 : decode cX9_print 103 = .ok (.invokevirtual 49, 3) := by decide +kernel
theorem dX9_print_106 : decode cX9_print 106 = .ok (.iadd, 1) := by decide +kernel
theorem dX9_print_107 : decode cX9_print 107 = .ok (.istore 5, 2) := by decide +kernel
theorem dX9_print_109 : decode cX9_print 109 = .ok (.aload_n 0, 1) := by decide +kernel
theorem dX9_print_110 : decode cX9_print 110 = .ok (.iload_n 1, 1) := by decide +kernel
theorem dX9_print_111 : decode cX9_print 111 = .ok (.bipush 97, 2) := by decide +kernel
theorem dX9_print_113 : decode cX9_print 113 = .ok (.aload_n 0, 1) := by decide +kernel
theorem dX9_print_114 : decode cX9_print 114 = .ok (.getfield 9, 3) := by decide +kernel
theorem dX9_print_117 : decode cX9_print 117 = .ok (.sipush 1765, 3) := by decide +kernel
theorem dX9_print_120 : decode cX9_print 120 = .ok (.iaload, 1) := by decide +kernel
theorem dX9_print_121 : decode cX9_print 121 = .ok (.sipush 128, 3) := by decide +kernel
theorem dX9_print_124 : decode cX9_print 124 = .ok (.irem, 1) := by decide +kernel
theorem dX9_print_125 : decode cX9_print 125 = .ok (.iadd, 1) := by decide +kernel
theorem dX9_print_126 : decode cX9_print 126 = .ok (.iload 4, 2) := by decide +kernel
theorem dX9_print_128 : decode cX9_print 128 = .ok (.invokevirtual 41, 3) := by decide +kernel
theorem dX9_print_131 : decode cX9_print 131 = .ok (.aload_n 0, 1) := by decide +kernel
theorem dX9_print_132 : decode cX9_print 132 = .ok (.iload_n 1, 1) := by decide +kernel
theorem dX9_print_133 : decode cX9_print 133 = .ok (.sipush 225, 3) := by decide +kernel
theorem dX9_print_136 : decode cX9_print 136 = .ok (.aload_n 0, 1) := by decide +kernel
theorem dX9_print_137 : decode cX9_print 137 = .ok (.getfield 9, 3) := by decide +kernel
theorem dX9_print_140 : decode cX9_print 140 = .ok (.sipush 1765, 3) := by decide +kernel
theorem dX9_print_143 : decode cX9_print 143 = .ok (.iaload, 1) := by decide +kernel
theorem dX9_print_144 : decode cX9_print 144 = .ok (.sipush 128, 3) := by decide +kernel
theorem dX9_print_147 : decode cX9_print 147 = .ok (.irem, 1) := by decide +kernel
theorem dX9_print_148 : decode cX9_print 148 = .ok (.iadd, 1) := by decide +kernel
theorem dX9_print_149 : decode cX9_print 149 = .ok (.iload 5, 2) := by decide +kernel
theorem dX9_print_151 : decode cX9_print 151 = .ok (.invokevirtual 41, 3) := by decide +kernel
theorem dX9_print_154 : decode cX9_print 154 = .ok (.aload_n 0, 1) := by decide +kernel
theorem dX9_print_155 : decode cX9_print 155 = .ok (.iload_n 1, 1) := by decide +kernel
theorem dX9_print_156 : decode cX9_print 156 = .ok (.bipush 29, 2) := by decide +kernel
theorem dX9_print_158 : decode cX9_print 158 = .ok (.iload 4, 2) := by decide +kernel
theorem dX9_print_160 : decode cX9_print 160 = .ok (.invokevirtual 41, 3) := by decide +kernel
theorem dX9_print_163 : decode cX9_print 163 = .ok (.aload_n 0, 1) := by decide +kernel
theorem dX9_print_164 : decode cX9_print 164 = .ok (.iload_n 1, 1) := by decide +kernel
theorem dX9_print_165 : decode cX9_print 165 = .ok (.bipush 30, 2) := by decide +kernel
theorem dX9_print_167 : decode cX9_print 167 = .ok (.iload 5, 2) := by decide +kernel
theorem dX9_print_169 : decode cX9_print 169 = .ok (.invokevirtual 41, 3) := by decide +kernel
theorem dX9_print_172 : decode cX9_print 172 = .ok (.iconst 2, 1) := by decide +kernel
theorem dX9_print_173 : decode cX9_print 173 = .ok (.istore 6, 2) := by decide +kernel
theorem dX9_print_175 : decode cX9_print 175 = .ok (.iload 6, 2) := by decide +kernel
theorem dX9_print_177 : decode cX9_print 177 = .ok (.bipush 6, 2) := by decide +kernel
theorem dX9_print_179 : decode cX9_print 179 = .ok (.if_icmp .gt 21, 3) := by decide +kernel
theorem dX9_print_182 : decode cX9_print 182 = .ok (.aload_n 0, 1) := by decide +kernel
theorem dX9_print_183 : decode cX9_print 183 = .ok (.iload_n 1, 1) := by decide +kernel
theorem dX9_print_184 : decode cX9_print 184 = .ok (.bipush 29, 2) := by decide +kernel
theorem dX9_print_186 : decode cX9_print 186 = .ok (.iload 6, 2) := by decide +kernel
theorem dX9_print_188 : decode cX9_print 188 = .ok (.iadd, 1) := by decide +kernel
theorem dX9_print_189 : decode cX9_print 189 = .ok (.ldc 75, 2) := by decide +kernel
theorem dX9_print_191 : decode cX9_print 191 = .ok (.invokevirtual 41, 3) := by decide +kernel
theorem dX9_print_194 : decode cX9_print 194 = .ok (.iinc 6 1, 3) := by decide +kernel
theorem dX9_print_197 : decode cX9_print 197 = .ok (.goto (-22), 3) := by decide +kernel
theorem dX9_print_200 : decode cX9_print 200 = .ok (.return_, 1) := by decide +kernel
theorem dX9_isSeen_0 : decode cX9_isSeen 0 = .ok (.iload_n 1, 1) := by decide +kernel
theorem dX9_isSeen_1 : decode cX9_isSeen 1 = .ok (.ifCond .le 30, 3) := by decide +kernel
theorem dX9_isSeen_4 : decode cX9_isSeen 4 = .ok (.aload_n 0, 1) := by decide +kernel
theorem dX9_isSeen_5 : decode cX9_isSeen 5 = .ok (.getfield 9, 3) := by decide +kernel
theorem dX9_isSeen_8 : decode cX9_isSeen 8 = .ok (.sipush 1765, 3) := by decide +kernel
theorem dX9_isSeen_11 : decode cX9_isSeen 11 = .ok (.iaload, 1) := by decide +kernel
theorem dX9_isSeen_12 : decode cX9_isSeen 12 = .ok (.aload_n 0, 1) := by decide +kernel
theorem dX9_isSeen_13 : decode cX9_isSeen 13 = .ok (.iload_n 1, 1) := by decide +kernel
theorem dX9_isSeen_14 : decode cX9_isSeen 14 = .ok (.iconst 1, 1) := by decide +kernel
theorem dX9_isSeen_15 : decode cX9_isSeen 15 = .ok (.invokevirtual 49, 3) := by decide +kernel
theorem dX9_isSeen_18 : decode cX9_isSeen 18 = .ok (.aload_n 0, 1) := by decide +kernel
theorem dX9_isSeen_19 : decode cX9_isSeen 19 = .ok (.iload_n 1, 1) := by decide +kernel
theorem dX9_isSeen_20 : decode cX9_isSeen 20 = .ok (.invokevirtual 69, 3) := by decide +kernel
theorem dX9_isSeen_23 : decode cX9_isSeen 23 = .ok (.iadd, 1) := by decide +kernel
theorem dX9_isSeen_24 : decode cX9_isSeen 24 = .ok (.if_icmp .lt 7, 3) := by decide +kernel
theorem dX9_isSeen_27 : decode cX9_isSeen 27 = .ok (.iconst 1, 1) := by decide +kernel
theorem dX9_isSeen_28 : decode cX9_isSeen 28 = .ok (.goto 4, 3) := by decide +kernel
theorem dX9_isSeen_31 : decode cX9_isSeen 31 = .ok (.iconst 0, 1) := by decide +kernel
theorem dX9_isSeen_32 : decode cX9_isSeen 32 = .ok (.ireturn, 1) := by decide +kernel
theorem dX9_keepError_0 : decode cX9_keepError 0 = .ok (.aload_n 0, 1) := by decide +kernel
theorem dX9_keepError_1 : decode cX9_keepError 1 = .ok (.iload_n 1, 1) := by decide +kernel
theorem dX9_keepError_2 : decode cX9_keepError 2 = .ok (.bipush 37, 2) := by decide +kernel
theorem dX9_keepError_4 : decode cX9_keepError 4 = .ok (.aload_n 0, 1) := by decide +kernel
theorem dX9_keepError_5 : decode cX9_keepError 5 = .ok (.iload_n 1, 1) := by decide +kernel
theorem dX9_keepError_6 : decode cX9_keepError 6 = .ok (.bipush 36, 2) := by decide +kernel
theorem dX9_keepError_8 : decode cX9_keepError 8 = .ok (.invokevirtual 49, 3) := by decide +kernel
theorem dX9_keepError_11 : decode cX9_keepError 11 = .ok (.bipush 60, 2) := by decide +kernel
theorem dX9_keepError_13 : decode cX9_keepError 13 = .ok (.irem, 1) := by decide +kernel
theorem dX9_keepError_14 : decode cX9_keepError 14 = .ok (.iadd, 1) := by decide +kernel
theorem dX9_keepError_15 : decode cX9_keepError 15 = .ok (.iload_n 2, 1) := by decide +kernel
theorem dX9_keepError_16 : decode cX9_keepError 16 = .ok (.invokevirtual 41, 3) := by decide +kernel
theorem dX9_keepError_19 : decode cX9_keepError 19 = .ok (.aload_n 0, 1) := by decide +kernel
theorem dX9_keepError_20 : decode cX9_keepError 20 = .ok (.iload_n 1, 1) := by decide +kernel
theorem dX9_keepError_21 : decode cX9_keepError 21 = .ok (.bipush 36, 2) := by decide +kernel
theorem dX9_keepError_23 : decode cX9_keepError 23 = .ok (.aload_n 0, 1) := by decide +kernel
theorem dX9_keepError_24 : decode cX9_keepError 24 = .ok (.iload_n 1, 1) := by decide +kernel
theorem dX9_keepError_25 : decode cX9_keepError 25 = .ok (.bipush 36, 2) := by decide +kernel
theorem dX9_keepError_27 : decode cX9_keepError 27 = .ok (.invokevirtual 49, 3) := by decide +kernel
theorem dX9_keepError_30 : decode cX9_keepError 30 = .ok (.iconst 1, 1) := by decide +kernel
theorem dX9_keepError_31 : decode cX9_keepError 31 = .ok (.iadd, 1) := by decide +kernel
theorem dX9_keepError_32 : decode cX9_keepError 32 = .ok (.invokevirtual 41, 3) := by decide +kernel
theorem dX9_keepError_35 : decode cX9_keepError 35 = .ok (.return_, 1) := by decide +kernel
theorem dX9_see_0 : decode cX9_see 0 = .ok (.aload_n 0, 1) := by decide +kernel
theorem dX9_see_1 : decode cX9_see 1 = .ok (.getfield 9, 3) := by decide +kernel
theorem dX9_see_4 : decode cX9_see 4 = .ok (.sipush 1765, 3) := by decide +kernel
theorem dX9_see_7 : decode cX9_see 7 = .ok (.iaload, 1) := by decide +kernel
theorem dX9_see_8 : decode cX9_see 8 = .ok (.aload_n 0, 1) := by decide +kernel
theorem dX9_see_9 : decode cX9_see 9 = .ok (.iload_n 1, 1) := by decide +kernel
theorem dX9_see_10 : decode cX9_see 10 = .ok (.iconst 1, 1) := by decide +kernel
theorem dX9_see_11 : decode cX9_see 11 = .ok (.invokevirtual 49, 3) := by decide +kernel
theorem dX9_see_14 : decode cX9_see 14 = .ok (.isub, 1) := by decide +kernel
theorem dX9_see_15 : decode cX9_see 15 = .ok (.istore_n 2, 1) := by decide +kernel
theorem dX9_see_16 : decode cX9_see 16 = .ok (.aload_n 0, 1) := by decide +kernel
theorem dX9_see_17 : decode cX9_see 17 = .ok (.iload_n 1, 1) := by decide +kernel
theorem dX9_see_18 : decode cX9_see 18 = .ok (.bipush 97, 2) := by decide +kernel
theorem dX9_see_20 : decode cX9_see 20 = .ok (.iload_n 2, 1) := by decide +kernel
theorem dX9_see_21 : decode cX9_see 21 = .ok (.sipush 128, 3) := by decide +kernel
theorem dX9_see_24 : decode cX9_see 24 = .ok (.irem, 1) := by decide +kernel
theorem dX9_see_25 : decode cX9_see 25 = .ok (.iadd, 1) := by decide +kernel
theorem dX9_see_26 : decode cX9_see 26 = .ok (.invokevirtual 49, 3) := by decide +kernel
theorem dX9_see_29 : decode cX9_see 29 = .ok (.aload_n 0, 1) := by decide +kernel
theorem dX9_see_30 : decode cX9_see 30 = .ok (.getfield 9, 3) := by decide +kernel
theorem dX9_see_33 : decode cX9_see 33 = .ok (.iconst 0, 1) := by decide +kernel
theorem dX9_see_34 : decode cX9_see 34 = .ok (.bipush 97, 2) := by decide +kernel
theorem dX9_see_36 : decode cX9_see 36 = .ok (.invokestatic 33, 3) := by decide +kernel
theorem dX9_see_39 : decode cX9_see 39 = .ok (.iload_n 2, 1) := by decide +kernel
theorem dX9_see_40 : decode cX9_see 40 = .ok (.aload_n 0, 1) := by decide +kernel
theorem dX9_see_41 : decode cX9_see 41 = .ok (.iload_n 1, 1) := by decide +kernel
theorem dX9_see_42 : decode cX9_see 42 = .ok (.invokevirtual 69, 3) := by decide +kernel
theorem dX9_see_45 : decode cX9_see 45 = .ok (.isub, 1) := by decide +kernel
theorem dX9_see_46 : decode cX9_see 46 = .ok (.sipush 128, 3) := by decide +kernel
theorem dX9_see_49 : decode cX9_see 49 = .ok (.irem, 1) := by decide +kernel
theorem dX9_see_50 : decode cX9_see 50 = .ok (.iadd, 1) := by decide +kernel
theorem dX9_see_51 : decode cX9_see 51 = .ok (.iaload, 1) := by decide +kernel
theorem dX9_see_52 : decode cX9_see 52 = .ok (.isub, 1) := by decide +kernel
theorem dX9_see_53 : decode cX9_see 53 = .ok (.istore_n 3, 1) := by decide +kernel
theorem dX9_see_54 : decode cX9_see 54 = .ok (.aload_n 0, 1) := by decide +kernel
theorem dX9_see_55 : decode cX9_see 55 = .ok (.iload_n 1, 1) := by decide +kernel
theorem dX9_see_56 : decode cX9_see 56 = .ok (.bipush 31, 2) := by decide +kernel
theorem dX9_see_58 : decode cX9_see 58 = .ok (.iload_n 3, 1) := by decide +kernel
theorem dX9_see_59 : decode cX9_see 59 = .ok (.invokevirtual 41, 3) := by decide +kernel
theorem dX9_see_62 : decode cX9_see 62 = .ok (.aload_n 0, 1) := by decide +kernel
theorem dX9_see_63 : decode cX9_see 63 = .ok (.iload_n 1, 1) := by decide +kernel
theorem dX9_see_64 : decode cX9_see 64 = .ok (.bipush 32, 2) := by decide +kernel
theorem dX9_see_66 : decode cX9_see 66 = .ok (.aload_n 0, 1) := by decide +kernel
theorem dX9_see_67 : decode cX9_see 67 = .ok (.iload_n 1, 1) := by decide +kernel
theorem dX9_see_68 : decode cX9_see 68 = .ok (.sipush 225, 3) := by decide +kernel
theorem dX9_see_71 : decode cX9_see 71 = .ok (.iload_n 2, 1) := by decide +kernel
theorem dX9_see_72 : decode cX9_see 72 = .ok (.sipush 128, 3) := by decide +kernel
theorem dX9_see_75 : decode cX9_see 75 = .ok (.irem, 1) := by decide +kernel
theorem dX9_see_76 : decode cX9_see 76 = .ok (.iadd, 1) := by decide +kernel
theorem dX9_see_77 : decode cX9_see 77 = .ok (.invokevirtual 49, 3) := by decide +kernel
theorem dX9_see_80 : decode cX9_see 80 = .ok (.invokevirtual 41, 3) := by decide +kernel
theorem dX9_see_83 : decode cX9_see 83 = .ok (.aload_n 0, 1) := by decide +kernel
theorem dX9_see_84 : decode cX9_see 84 = .ok (.iload_n 1, 1) := by decide +kernel
theorem dX9_see_85 : decode cX9_see 85 = .ok (.iload_n 3, 1) := by decide +kernel
theorem dX9_see_86 : decode cX9_see 86 = .ok (.invokevirtual 76, 3) := by decide +kernel
theorem dX9_see_89 : decode cX9_see 89 = .ok (.return_, 1) := by decide +kernel
theorem dX9_recognized_0 : decode cX9_recognized 0 = .ok (.aload_n 0, 1) := by decide +kernel
theorem dX9_recognized_1 : decode cX9_recognized 1 = .ok (.iload_n 1, 1) := by decide +kernel
theorem dX9_recognized_2 : decode cX9_recognized 2 = .ok (.bipush 17, 2) := by decide +kernel
theorem dX9_recognized_4 : decode cX9_recognized 4 = .ok (.invokevirtual 49, 3) := by decide +kernel
theorem dX9_recognized_7 : decode cX9_recognized 7 = .ok (.aload_n 0, 1) := by decide +kernel
theorem dX9_recognized_8 : decode cX9_recognized 8 = .ok (.iload_n 1, 1) := by decide +kernel
theorem dX9_recognized_9 : decode cX9_recognized 9 = .ok (.iconst 3, 1) := by decide +kernel
theorem dX9_recognized_10 : decode cX9_recognized 10 = .ok (.invokevirtual 49, 3) := by decide +kernel
theorem dX9_recognized_13 : decode cX9_recognized 13 = .ok (.if_icmp .ge 13, 3) := by decide +kernel
theorem dX9_recognized_16 : decode cX9_recognized 16 = .ok (.aload_n 0, 1) := by decide +kernel
theorem dX9_recognized_17 : decode cX9_recognized 17 = .ok (.iload_n 1, 1) := by decide +kernel
theorem dX9_recognized_18 : decode cX9_recognized 18 = .ok (.bipush 18, 2) := by decide +kernel
theorem dX9_recognized_20 : decode cX9_recognized 20 = .ok (.invokevirtual 49, 3) := by decide +kernel
theorem dX9_recognized_23 : decode cX9_recognized 23 = .ok (.ifCond .le 7, 3) := by decide +kernel
theorem dX9_recognized_26 : decode cX9_recognized 26 = .ok (.iconst 1, 1) := by decide +kernel
theorem dX9_recognized_27 : decode cX9_recognized 27 = .ok (.goto 4, 3) := by decide +kernel
theorem dX9_recognized_30 : decode cX9_recognized 30 = .ok (.iconst 0, 1) := by decide +kernel
theorem dX9_recognized_31 : decode cX9_recognized 31 = .ok (.istore_n 2, 1) := by decide +kernel
theorem dX9_recognized_32 : decode cX9_recognized 32 = .ok (.aload_n 0, 1) := by decide +kernel
theorem dX9_recognized_33 : decode cX9_recognized 33 = .ok (.iload_n 1, 1) := by decide +kernel
theorem dX9_recognized_34 : decode cX9_recognized 34 = .ok (.iconst 2, 1) := by decide +kernel
theorem dX9_recognized_35 : decode cX9_recognized 35 = .ok (.invokevirtual 49, 3) := by decide +kernel
theorem dX9_recognized_38 : decode cX9_recognized 38 = .ok (.iload_n 2, 1) := by decide +kernel
theorem dX9_recognized_39 : decode cX9_recognized 39 = .ok (.ifCond .eq 7, 3) := by decide +kernel
theorem dX9_recognized_42 : decode cX9_recognized 42 = .ok (.iconst 4, 1) := by decide +kernel
theorem dX9_recognized_43 : decode cX9_recognized 43 = .ok (.goto 4, 3) := by decide +kernel
theorem dX9_recognized_46 : decode cX9_recognized 46 = .ok (.iconst 1, 1) := by decide +kernel
theorem dX9_recognized_47 : decode cX9_recognized 47 = .ok (.imul, 1) := by decide +kernel
theorem dX9_recognized_48 : decode cX9_recognized 48 = .ok (.istore_n 3, 1) := by decide +kernel
theorem dX9_recognized_49 : decode cX9_recognized 49 = .ok (.aload_n 0, 1) := by decide +kernel
theorem dX9_recognized_50 : decode cX9_recognized 50 = .ok (.iload_n 1, 1) := by decide +kernel
theorem dX9_recognized_51 : decode cX9_recognized 51 = .ok (.bipush 31, 2) := by decide +kernel
theorem dX9_recognized_53 : decode cX9_recognized 53 = .ok (.invokevirtual 49, 3) := by decide +kernel
theorem dX9_recognized_56 : decode cX9_recognized 56 = .ok (.aload_n 0, 1) := by decide +kernel
theorem dX9_recognized_57 : decode cX9_recognized 57 = .ok (.iload_n 1, 1) := by decide +kernel
theorem dX9_recognized_58 : decode cX9_recognized 58 = .ok (.bipush 19, 2) := by decide +kernel
theorem dX9_recognized_60 : decode cX9_recognized 60 = .ok (.invokevirtual 49, 3) := by decide +kernel
theorem dX9_recognized_63 : decode cX9_recognized 63 = .ok (.isub, 1) := by decide +kernel
theorem dX9_recognized_64 : decode cX9_recognized 64 = .ok (.invokestatic 80, 3) := by decide +kernel
theorem dX9_recognized_67 : decode cX9_recognized 67 = .ok (.istore 4, 2) := by decide +kernel
theorem dX9_recognized_69 : decode cX9_recognized 69 = .ok (.aload_n 0, 1) := by decide +kernel
theorem dX9_recognized_70 : decode cX9_recognized 70 = .ok (.iload_n 1, 1) := by decide +kernel
theorem dX9_recognized_71 : decode cX9_recognized 71 = .ok (.bipush 25, 2) := by decide +kernel
theorem dX9_recognized_73 : decode cX9_recognized 73 = .ok (.invokevirtual 49, 3) := by decide +kernel
theorem dX9_recognized_76 : decode cX9_recognized 76 = .ok (.aload_n 0, 1) := by decide +kernel
theorem dX9_recognized_77 : decode cX9_recognized 77 = .ok (.iload_n 1, 1) := by decide +kernel
theorem dX9_recognized_78 : decode cX9_recognized 78 = .ok (.bipush 19, 2) := by decide +kernel
theorem dX9_recognized_80 : decode cX9_recognized 80 = .ok (.invokevirtual 49, 3) := by decide +kernel
theorem dX9_recognized_83 : decode cX9_recognized 83 = .ok (.isub, 1) := by decide +kernel
theorem dX9_recognized_84 : decode cX9_recognized 84 = .ok (.invokestatic 80, 3) := by decide +kernel
theorem dX9_recognized_87 : decode cX9_recognized 87 = .ok (.istore 5, 2) := by decide +kernel
theorem dX9_recognized_89 : decode cX9_recognized 89 = .ok (.aload_n 0, 1) := by decide +kernel
theorem dX9_recognized_90 : decode cX9_recognized 90 = .ok (.iload_n 1, 1) := by decide +kernel
theorem dX9_recognized_91 : decode cX9_recognized 91 = .ok (.bipush 24, 2) := by decide +kernel
theorem dX9_recognized_93 : decode cX9_recognized 93 = .ok (.invokevirtual 49, 3) := by decide +kernel
theorem dX9_recognized_96 : decode cX9_recognized 96 = .ok (.ifCond .ne 13, 3) := by decide +kernel
theorem dX9_recognized_99 : decode cX9_recognized 99 = .ok (.iload 4, 2) := by decide +kernel
theorem dX9_recognized_101 : decode cX9_recognized 101 = .ok (.iload_n 3, 1) := by decide +kernel
theorem dX9_recognized_102 : decode cX9_recognized 102 = .ok (.if_icmp .gt 7, 3) := by decide +kernel
theorem dX9_recognized_105 : decode cX9_recognized 105 = .ok (.iconst 1, 1) := by decide +kernel
theorem dX9_recognized_106 : decode cX9_recognized 106 = .ok (.goto 4, 3) := by decide +kernel
theorem dX9_recognized_109 : decode cX9_recognized 109 = .ok (.iconst 0, 1) := by decide +kernel
theorem dX9_recognized_110 : decode cX9_recognized 110 = .ok (.istore 6, 2) := by decide +kernel
theorem dX9_recognized_112 : decode cX9_recognized 112 = .ok (.aload_n 0, 1) := by decide +kernel
theorem dX9_recognized_113 : decode cX9_recognized 113 = .ok (.iload_n 1, 1) := by decide +kernel
theorem dX9_recognized_114 : decode cX9_recognized 114 = .ok (.bipush 26, 2) := by decide +kernel
theorem dX9_recognized_116 : decode cX9_recognized 116 = .ok (.invokevirtual 49, 3) := by decide +kernel
theorem dX9_recognized_119 : decode cX9_recognized 119 = .ok (.ifCond .le 13, 3) := by decide +kernel
theorem dX9_recognized_122 : decode cX9_recognized 122 = .ok (.iload 5, 2) := by decide +kernel
theorem dX9_recognized_124 : decode cX9_recognized 124 = .ok (.iload_n 3, 1) := by decide +kernel
theorem dX9_recognized_125 : decode cX9_recognized 125 = .ok (.if_icmp .gt 7, 3) := by decide +kernel
theorem dX9_recognized_128 : decode cX9_recognized 128 = .ok (.iconst 1, 1) := by decide +kernel
theorem dX9_recognized_129 : decode cX9_recognized 129 = .ok (.goto 4, 3) := by decide +kernel
theorem dX9_recognized_132 : decode cX9_recognized 132 = .ok (.iconst 0, 1) := by decide +kernel
theorem dX9_recognized_133 : decode cX9_recognized 133 = .ok (.istore 7, 2) := by decide +kernel
theorem dX9_recognized_135 : decode cX9_recognized 135 = .ok (.iload 6, 2) := by decide +kernel
theorem dX9_recognized_137 : decode cX9_recognized 137 = .ok (.ifCond .eq 17, 3) := by decide +kernel
theorem dX9_recognized_140 : decode cX9_recognized 140 = .ok (.iload 7, 2) := by decide +kernel
theorem dX9_recognized_142 : decode cX9_recognized 142 = .ok (.ifCond .eq 10, 3) := by decide +kernel
theorem dX9_recognized_145 : decode cX9_recognized 145 = .ok (.iload 4, 2) := by decide +kernel
theorem dX9_recognized_147 : decode cX9_recognized 147 = .ok (.iload 5, 2) := by decide +kernel
theorem dX9_recognized_149 : decode cX9_recognized 149 = .ok (.if_icmp .gt 5, 3) := by decide +kernel
theorem dX9_recognized_152 : decode cX9_recognized 152 = .ok (.iconst 1, 1) := by decide +kernel
theorem dX9_recognized_153 : decode cX9_recognized 153 = .ok (.ireturn, 1) := by decide +kernel
theorem dX9_recognized_154 : decode cX9_recognized 154 = .ok (.iload 7, 2) := by decide +kernel
theorem dX9_recognized_156 : decode cX9_recognized 156 = .ok (.ifCond .eq 7, 3) := by decide +kernel
theorem dX9_recognized_159 : decode cX9_recognized 159 = .ok (.iconst 2, 1) := by decide +kernel
theorem dX9_recognized_160 : decode cX9_recognized 160 = .ok (.goto 4, 3) := by decide +kernel
theorem dX9_recognized_163 : decode cX9_recognized 163 = .ok (.iconst 0, 1) := by decide +kernel
theorem dX9_recognized_164 : decode cX9_recognized 164 = .ok (.ireturn, 1) := by decide +kernel
theorem dX9_recognize_0 : decode cX9_recognize 0 = .ok (.aload_n 0, 1) := by decide +kernel
theorem dX9_recognize_1 : decode cX9_recognize 1 = .ok (.iload_n 1, 1) := by decide +kernel
theorem dX9_recognize_2 : decode cX9_recognize 2 = .ok (.invokevirtual 83, 3) := by decide +kernel
theorem dX9_recognize_5 : decode cX9_recognize 5 = .ok (.istore_n 2, 1) := by decide +kernel
theorem dX9_recognize_6 : decode cX9_recognize 6 = .ok (.aload_n 0, 1) := by decide +kernel
theorem dX9_recognize_7 : decode cX9_recognize 7 = .ok (.iload_n 1, 1) := by decide +kernel
theorem dX9_recognize_8 : decode cX9_recognize 8 = .ok (.bipush 33, 2) := by decide +kernel
theorem dX9_recognize_10 : decode cX9_recognize 10 = .ok (.iload_n 2, 1) := by decide +kernel
theorem dX9_recognize_11 : decode cX9_recognize 11 = .ok (.invokevirtual 41, 3) := by decide +kernel
theorem dX9_recognize_14 : decode cX9_recognize 14 = .ok (.aload_n 0, 1) := by decide +kernel
theorem dX9_recognize_15 : decode cX9_recognize 15 = .ok (.iconst 0, 1) := by decide +kernel
theorem dX9_recognize_16 : decode cX9_recognize 16 = .ok (.iload_n 2, 1) := by decide +kernel
theorem dX9_recognize_17 : decode cX9_recognize 17 = .ok (.ifCond .le 7, 3) := by decide +kernel
theorem dX9_recognize_20 : decode cX9_recognize 20 = .ok (.iconst 1, 1) := by decide +kernel
theorem dX9_recognize_21 : decode cX9_recognize 21 = .ok (.goto 4, 3) := by decide +kernel
theorem dX9_recognize_24 : decode cX9_recognize 24 = .ok (.iconst 0, 1) := by decide +kernel
theorem dX9_recognize_25 : decode cX9_recognize 25 = .ok (.invokevirtual 86, 3) := by decide +kernel
theorem dX9_recognize_28 : decode cX9_recognize 28 = .ok (.aload_n 0, 1) := by decide +kernel
theorem dX9_recognize_29 : decode cX9_recognize 29 = .ok (.iconst 1, 1) := by decide +kernel
theorem dX9_recognize_30 : decode cX9_recognize 30 = .ok (.iload_n 2, 1) := by decide +kernel
theorem dX9_recognize_31 : decode cX9_recognize 31 = .ok (.iconst 2, 1) := by decide +kernel
theorem dX9_recognize_32 : decode cX9_recognize 32 = .ok (.if_icmp .ne 7, 3) := by decide +kernel
theorem dX9_recognize_35 : decode cX9_recognize 35 = .ok (.iconst 1, 1) := by decide +kernel
theorem dX9_recognize_36 : decode cX9_recognize 36 = .ok (.goto 4, 3) := by decide +kernel
theorem dX9_recognize_39 : decode cX9_recognize 39 = .ok (.iconst 0, 1) := by decide +kernel
theorem dX9_recognize_40 : decode cX9_recognize 40 = .ok (.invokevirtual 86, 3) := by decide +kernel
theorem dX9_recognize_43 : decode cX9_recognize 43 = .ok (.aload_n 0, 1) := by decide +kernel
theorem dX9_recognize_44 : decode cX9_recognize 44 = .ok (.iconst 2, 1) := by decide +kernel
theorem dX9_recognize_45 : decode cX9_recognize 45 = .ok (.iload_n 2, 1) := by decide +kernel
theorem dX9_recognize_46 : decode cX9_recognize 46 = .ok (.ifCond .ne 7, 3) := by decide +kernel
theorem dX9_recognize_49 : decode cX9_recognize 49 = .ok (.iconst 1, 1) := by decide +kernel
theorem dX9_recognize_50 : decode cX9_recognize 50 = .ok (.goto 4, 3) := by decide +kernel
theorem dX9_recognize_53 : decode cX9_recognize 53 = .ok (.iconst 0, 1) := by decide +kernel
theorem dX9_recognize_54 : decode cX9_recognize 54 = .ok (.invokevirtual 86, 3) := by decide +kernel
theorem dX9_recognize_57 : decode cX9_recognize 57 = .ok (.iload_n 2, 1) := by decide +kernel
theorem dX9_recognize_58 : decode cX9_recognize 58 = .ok (.ifCond .ne 20, 3) := by decide +kernel
theorem dX9_recognize_61 : decode cX9_recognize 61 = .ok (.aload_n 0, 1) := by decide +kernel
theorem dX9_recognize_62 : decode cX9_recognize 62 = .ok (.iload_n 1, 1) := by decide +kernel
theorem dX9_recognize_63 : decode cX9_recognize 63 = .ok (.bipush 17, 2) := by decide +kernel
theorem dX9_recognize_65 : decode cX9_recognize 65 = .ok (.aload_n 0, 1) := by decide +kernel
theorem dX9_recognize_66 : decode cX9_recognize 66 = .ok (.iload_n 1, 1) := by decide +kernel
theorem dX9_recognize_67 : decode cX9_recognize 67 = .ok (.bipush 17, 2) := by decide +kernel
theorem dX9_recognize_69 : decode cX9_recognize 69 = .ok (.invokevirtual 49, 3) := by decide +kernel
theorem dX9_recognize_72 : decode cX9_recognize 72 = .ok (.iconst 1, 1) := by decide +kernel
theorem dX9_recognize_73 : decode cX9_recognize 73 = .ok (.iadd, 1) := by decide +kernel
theorem dX9_recognize_74 : decode cX9_recognize 74 = .ok (.invokevirtual 41, 3) := by decide +kernel
theorem dX9_recognize_77 : decode cX9_recognize 77 = .ok (.return_, 1) := by decide +kernel
theorem dX9_recognize_78 : decode cX9_recognize 78 = .ok (.aload_n 0, 1) := by decide +kernel
theorem dX9_recognize_79 : decode cX9_recognize 79 = .ok (.iload_n 1, 1) := by decide +kernel
theorem dX9_recognize_80 : decode cX9_recognize 80 = .ok (.bipush 17, 2) := by decide +kernel
theorem dX9_recognize_82 : decode cX9_recognize 82 = .ok (.iconst 0, 1) := by decide +kernel
theorem dX9_recognize_83 : decode cX9_recognize 83 = .ok (.invokevirtual 41, 3) := by decide +kernel
theorem dX9_recognize_86 : decode cX9_recognize 86 = .ok (.aload_n 0, 1) := by decide +kernel
theorem dX9_recognize_87 : decode cX9_recognize 87 = .ok (.iload_n 1, 1) := by decide +kernel
theorem dX9_recognize_88 : decode cX9_recognize 88 = .ok (.bipush 34, 2) := by decide +kernel
theorem dX9_recognize_90 : decode cX9_recognize 90 = .ok (.iload_n 2, 1) := by decide +kernel
theorem dX9_recognize_91 : decode cX9_recognize 91 = .ok (.iconst 1, 1) := by decide +kernel
theorem dX9_recognize_92 : decode cX9_recognize 92 = .ok (.if_icmp .ne 13, 3) := by decide +kernel
theorem dX9_recognize_95 : decode cX9_recognize 95 = .ok (.aload_n 0, 1) := by decide +kernel
theorem dX9_recognize_96 : decode cX9_recognize 96 = .ok (.iload_n 1, 1) := by decide +kernel
theorem dX9_recognize_97 : decode cX9_recognize 97 = .ok (.bipush 31, 2) := by decide +kernel
theorem dX9_recognize_99 : decode cX9_recognize 99 = .ok (.invokevirtual 49, 3) := by decide +kernel
theorem dX9_recognize_102 : decode cX9_recognize 102 = .ok (.goto 10, 3) := by decide +kernel
theorem dX9_recognize_105 : decode cX9_recognize 105 = .ok (.aload_n 0, 1) := by decide +kernel
theorem dX9_recognize_106 : decode cX9_recognize 106 = .ok (.iload_n 1, 1) := by decide +kernel
theorem dX9_recognize_107 : decode cX9_recognize 107 = .ok (.bipush 25, 2) := by decide +kernel
theorem dX9_recognize_109 : decode cX9_recognize 109 = .ok (.invokevirtual 49, 3) := by decide +kernel
theorem dX9_recognize_112 : decode cX9_recognize 112 = .ok (.invokevirtual 41, 3) := by decide +kernel
theorem dX9_recognize_115 : decode cX9_recognize 115 = .ok (.aload_n 0, 1) := by decide +kernel
theorem dX9_recognize_116 : decode cX9_recognize 116 = .ok (.iload_n 1, 1) := by decide +kernel
theorem dX9_recognize_117 : decode cX9_recognize 117 = .ok (.bipush 35, 2) := by decide +kernel
theorem dX9_recognize_119 : decode cX9_recognize 119 = .ok (.iload_n 2, 1) := by decide +kernel
theorem dX9_recognize_120 : decode cX9_recognize 120 = .ok (.iconst 1, 1) := by decide +kernel
theorem dX9_recognize_121 : decode cX9_recognize 121 = .ok (.if_icmp .ne 13, 3) := by decide +kernel
theorem dX9_recognize_124 : decode cX9_recognize 124 = .ok (.aload_n 0, 1) := by decide +kernel
theorem dX9_recognize_125 : decode cX9_recognize 125 = .ok (.iload_n 1, 1) := by decide +kernel
theorem dX9_recognize_126 : decode cX9_recognize 126 = .ok (.bipush 32, 2) := by decide +kernel
theorem dX9_recognize_128 : decode cX9_recognize 128 = .ok (.invokevirtual 49, 3) := by decide +kernel
theorem dX9_recognize_131 : decode cX9_recognize 131 = .ok (.goto 10, 3) := by decide +kernel
theorem dX9_recognize_134 : decode cX9_recognize 134 = .ok (.aload_n 0, 1) := by decide +kernel
theorem dX9_recognize_135 : decode cX9_recognize 135 = .ok (.iload_n 1, 1) := by decide +kernel
theorem dX9_recognize_136 : decode cX9_recognize 136 = .ok (.bipush 20, 2) := by decide +kernel
theorem dX9_recognize_138 : decode cX9_recognize 138 = .ok (.invokevirtual 49, 3) := by decide +kernel
theorem dX9_recognize_141 : decode cX9_recognize 141 = .ok (.invokevirtual 41, 3) := by decide +kernel
theorem dX9_recognize_144 : decode cX9_recognize 144 = .ok (.return_, 1) := by decide +kernel
theorem dX9_isRecognized_0 : decode cX9_isRecognized 0 = .ok (.aload_n 0, 1) := by decide +kernel
theorem dX9_isRecognized_1 : decode cX9_isRecognized 1 = .ok (.iload_n 1, 1) := by decide +kernel
theorem dX9_isRecognized_2 : decode cX9_isRecognized 2 = .ok (.invokevirtual 90, 3) := by decide +kernel
theorem dX9_isRecognized_5 : decode cX9_isRecognized 5 = .ok (.ifCond .eq 17, 3) := by decide +kernel
theorem dX9_isRecognized_8 : decode cX9_isRecognized 8 = .ok (.aload_n 0, 1) := by decide +kernel
theorem dX9_isRecognized_9 : decode cX9_isRecognized 9 = .ok (.iload_n 1, 1) := by decide +kernel
theorem dX9_isRecognized_10 : decode cX9_isRecognized 10 = .ok (.bipush 33, 2) := by decide +kernel
theorem dX9_isRecognized_12 : decode cX9_isRecognized 12 = .ok (.invokevirtual 49, 3) := by decide +kernel
theorem dX9_isRecognized_15 : decode cX9_isRecognized 15 = .ok (.ifCond .le 7, 3) := by decide +kernel
theorem dX9_isRecognized_18 : decode cX9_isRecognized 18 = .ok (.iconst 1, 1) := by decide +kernel
theorem dX9_isRecognized_19 : decode cX9_isRecognized 19 = .ok (.goto 4, 3) := by decide +kernel
theorem dX9_isRecognized_22 : decode cX9_isRecognized 22 = .ok (.iconst 0, 1) := by decide +kernel
theorem dX9_isRecognized_23 : decode cX9_isRecognized 23 = .ok (.ireturn, 1) := by decide +kernel
theorem dX9_learn_0 : decode cX9_learn 0 = .ok (.aload_n 0, 1) := by decide +kernel
theorem dX9_learn_1 : decode cX9_learn 1 = .ok (.getfield 9, 3) := by decide +kernel
theorem dX9_learn_4 : decode cX9_learn 4 = .ok (.sipush 1778, 3) := by decide +kernel
theorem dX9_learn_7 : decode cX9_learn 7 = .ok (.aload_n 0, 1) := by decide +kernel
theorem dX9_learn_8 : decode cX9_learn 8 = .ok (.getfield 9, 3) := by decide +kernel
theorem dX9_learn_11 : decode cX9_learn 11 = .ok (.sipush 1765, 3) := by decide +kernel
theorem dX9_learn_14 : decode cX9_learn 14 = .ok (.iaload, 1) := by decide +kernel
theorem dX9_learn_15 : decode cX9_learn 15 = .ok (.aload_n 0, 1) := by decide +kernel
theorem dX9_learn_16 : decode cX9_learn 16 = .ok (.iload_n 1, 1) := by decide +kernel
theorem dX9_learn_17 : decode cX9_learn 17 = .ok (.iconst 1, 1) := by decide +kernel
theorem dX9_learn_18 : decode cX9_learn 18 = .ok (.invokevirtual 49, 3) := by decide +kernel
theorem dX9_learn_21 : decode cX9_learn 21 = .ok (.isub, 1) := by decide +kernel
theorem dX9_learn_22 : decode cX9_learn 22 = .ok (.sipush 128, 3) := by decide +kernel
theorem dX9_learn_25 : decode cX9_learn 25 = .ok (.irem, 1) := by decide +kernel
theorem dX9_learn_26 : decode cX9_learn 26 = .ok (.iadd, 1) := by decide +kernel
theorem dX9_learn_27 : decode cX9_learn 27 = .ok (.iaload, 1) := by decide +kernel
theorem dX9_learn_28 : decode cX9_learn 28 = .ok (.istore_n 2, 1) := by decide +kernel
theorem dX9_learn_29 : decode cX9_learn 29 = .ok (.iload_n 2, 1) := by decide +kernel
theorem dX9_learn_30 : decode cX9_learn 30 = .ok (.invokestatic 80, 3) := by decide +kernel
theorem dX9_learn_33 : decode cX9_learn 33 = .ok (.bipush 10, 2) := by decide +kernel
theorem dX9_learn_35 : decode cX9_learn 35 = .ok (.if_icmp .lt 74, 3) := by decide +kernel
theorem dX9_learn_38 : decode cX9_learn 38 = .ok (.aload_n 0, 1) := by decide +kernel
theorem dX9_learn_39 : decode cX9_learn 39 = .ok (.iload_n 1, 1) := by decide +kernel
theorem dX9_learn_40 : decode cX9_learn 40 = .ok (.bipush 8, 2) := by decide +kernel
theorem dX9_learn_42 : decode cX9_learn 42 = .ok (.invokevirtual 49, 3) := by decide +kernel
theorem dX9_learn_45 : decode cX9_learn 45 = .ok (.ifCond .le 64, 3) := by decide +kernel
theorem dX9_learn_48 : decode cX9_learn 48 = .ok (.aload_n 0, 1) := by decide +kernel
theorem dX9_learn_49 : decode cX9_learn 49 = .ok (.iload_n 1, 1) := by decide +kernel
theorem dX9_learn_50 : decode cX9_learn 50 = .ok (.bipush 34, 2) := by decide +kernel
theorem dX9_learn_52 : decode cX9_learn 52 = .ok (.invokevirtual 49, 3) := by decide +kernel
theorem dX9_learn_55 : decode cX9_learn 55 = .ok (.aload_n 0, 1) := by decide +kernel
theorem dX9_learn_56 : decode cX9_learn 56 = .ok (.iload_n 1, 1) := by decide +kernel
theorem dX9_learn_57 : decode cX9_learn 57 = .ok (.bipush 19, 2) := by decide +kernel
theorem dX9_learn_59 : decode cX9_learn 59 = .ok (.invokevirtual 49, 3) := by decide +kernel
theorem dX9_learn_62 : decode cX9_learn 62 = .ok (.isub, 1) := by decide +kernel
theorem dX9_learn_63 : decode cX9_learn 63 = .ok (.bipush 100, 2) := by decide +kernel
theorem dX9_learn_65 : decode cX9_learn 65 = .ok (.imul, 1) := by decide +kernel
theorem dX9_learn_66 : decode cX9_learn 66 = .ok (.iload_n 2, 1) := by decide +kernel
theorem dX9_learn_67 : decode cX9_learn 67 = .ok (.idiv, 1) := by decide +kernel
theorem dX9_learn_68 : decode cX9_learn 68 = .ok (.aload_n 0, 1) := by decide +kernel
theorem dX9_learn_69 : decode cX9_learn 69 = .ok (.iload_n 1, 1) := by decide +kernel
theorem dX9_learn_70 : decode cX9_learn 70 = .ok (.bipush 8, 2) := by decide +kernel
theorem dX9_learn_72 : decode cX9_learn 72 = .ok (.invokevirtual 49, 3) := by decide +kernel
theorem dX9_learn_75 : decode cX9_learn 75 = .ok (.imul, 1) := by decide +kernel
theorem dX9_learn_76 : decode cX9_learn 76 = .ok (.sipush 256, 3) := by decide +kernel
theorem dX9_learn_79 : decode cX9_learn 79 = .ok (.idiv, 1) := by decide +kernel
theorem dX9_learn_80 : decode cX9_learn 80 = .ok (.istore_n 3, 1) := by decide +kernel
theorem dX9_learn_81 : decode cX9_learn 81 = .ok (.aload_n 0, 1) := by decide +kernel
theorem dX9_learn_82 : decode cX9_learn 82 = .ok (.iload_n 1, 1) := by decide +kernel
theorem dX9_learn_83 : decode cX9_learn 83 = .ok (.bipush 14, 2) := by decide +kernel
theorem dX9_learn_85 : decode cX9_learn 85 = .ok (.aload_n 0, 1) := by decide +kernel
theorem dX9_learn_86 : decode cX9_learn 86 = .ok (.iload_n 1, 1) := by decide +kernel
theorem dX9_learn_87 : decode cX9_learn 87 = .ok (.bipush 14, 2) := by decide +kernel
theorem dX9_learn_89 : decode cX9_learn 89 = .ok (.invokevirtual 49, 3) := by decide +kernel
theorem dX9_learn_92 : decode cX9_learn 92 = .ok (.iload_n 3, 1) := by decide +kernel
theorem dX9_learn_93 : decode cX9_learn 93 = .ok (.iadd, 1) := by decide +kernel
theorem dX9_learn_94 : decode cX9_learn 94 = .ok (.sipush 500, 3) := by decide +kernel
theorem dX9_learn_97 : decode cX9_learn 97 = .ok (.invokestatic 93, 3) := by decide +kernel
theorem dX9_learn_100 : decode cX9_learn 100 = .ok (.invokevirtual 41, 3) := by decide +kernel
theorem dX9_learn_103 : decode cX9_learn 103 = .ok (.aload_n 0, 1) := by decide +kernel
theorem dX9_learn_104 : decode cX9_learn 104 = .ok (.iconst 5, 1) := by decide +kernel
theorem dX9_learn_105 : decode cX9_learn 105 = .ok (.iconst 1, 1) := by decide +kernel
theorem dX9_learn_106 : decode cX9_learn 106 = .ok (.invokevirtual 86, 3) := by decide +kernel
theorem dX9_learn_109 : decode cX9_learn 109 = .ok (.return_, 1) := by decide +kernel
theorem dX9_expect_0 : decode cX9_expect 0 = .ok (.aload_n 0, 1) := by decide +kernel
theorem dX9_expect_1 : decode cX9_expect 1 = .ok (.iload_n 1, 1) := by decide +kernel
theorem dX9_expect_2 : decode cX9_expect 2 = .ok (.bipush 19, 2) := by decide +kernel
theorem dX9_expect_4 : decode cX9_expect 4 = .ok (.aload_n 0, 1) := by decide +kernel
theorem dX9_expect_5 : decode cX9_expect 5 = .ok (.iload_n 1, 1) := by decide +kernel
theorem dX9_expect_6 : decode cX9_expect 6 = .ok (.bipush 34, 2) := by decide +kernel
theorem dX9_expect_8 : decode cX9_expect 8 = .ok (.invokevirtual 49, 3) := by decide +kernel
theorem dX9_expect_11 : decode cX9_expect 11 = .ok (.invokevirtual 41, 3) := by decide +kernel
theorem dX9_expect_14 : decode cX9_expect 14 = .ok (.aload_n 0, 1) := by decide +kernel
theorem dX9_expect_15 : decode cX9_expect 15 = .ok (.iload_n 1, 1) := by decide +kernel
theorem dX9_expect_16 : decode cX9_expect 16 = .ok (.bipush 20, 2) := by decide +kernel
theorem dX9_expect_18 : decode cX9_expect 18 = .ok (.aload_n 0, 1) := by decide +kernel
theorem dX9_expect_19 : decode cX9_expect 19 = .ok (.iload_n 1, 1) := by decide +kernel
theorem dX9_expect_20 : decode cX9_expect 20 = .ok (.bipush 35, 2) := by decide +kernel
theorem dX9_expect_22 : decode cX9_expect 22 = .ok (.invokevirtual 49, 3) := by decide +kernel
theorem dX9_expect_25 : decode cX9_expect 25 = .ok (.invokevirtual 41, 3) := by decide +kernel
theorem dX9_expect_28 : decode cX9_expect 28 = .ok (.return_, 1) := by decide +kernel
theorem dX9_correct_0 : decode cX9_correct 0 = .ok (.aload_n 0, 1) := by decide +kernel
theorem dX9_correct_1 : decode cX9_correct 1 = .ok (.iload_n 1, 1) := by decide +kernel
theorem dX9_correct_2 : decode cX9_correct 2 = .ok (.bipush 16, 2) := by decide +kernel
theorem dX9_correct_4 : decode cX9_correct 4 = .ok (.invokevirtual 49, 3) := by decide +kernel
theorem dX9_correct_7 : decode cX9_correct 7 = .ok (.ifCond .le 4, 3) := by decide +kernel
theorem dX9_correct_10 : decode cX9_correct 10 = .ok (.return_, 1) := by decide +kernel
theorem dX9_correct_11 : decode cX9_correct 11 = .ok (.aload_n 0, 1) := by decide +kernel
theorem dX9_correct_12 : decode cX9_correct 12 = .ok (.iload_n 1, 1) := by decide +kernel
theorem dX9_correct_13 : decode cX9_correct 13 = .ok (.bipush 34, 2) := by decide +kernel
theorem dX9_correct_15 : decode cX9_correct 15 = .ok (.invokevirtual 49, 3) := by decide +kernel
theorem dX9_correct_18 : decode cX9_correct 18 = .ok (.istore_n 2, 1) := by decide +kernel
theorem dX9_correct_19 : decode cX9_correct 19 = .ok (.aload_n 0, 1) := by decide +kernel
theorem dX9_correct_20 : decode cX9_correct 20 = .ok (.iload_n 1, 1) := by decide +kernel
theorem dX9_correct_21 : decode cX9_correct 21 = .ok (.bipush 35, 2) := by decide +kernel
theorem dX9_correct_23 : decode cX9_correct 23 = .ok (.invokevirtual 49, 3) := by decide +kernel
theorem dX9_correct_26 : decode cX9_correct 26 = .ok (.istore_n 3, 1) := by decide +kernel
theorem dX9_correct_27 : decode cX9_correct 27 = .ok (.iload_n 2, 1) := by decide +kernel
theorem dX9_correct_28 : decode cX9_correct 28 = .ok (.invokestatic 80, 3) := by decide +kernel
theorem dX9_correct_31 : decode cX9_correct 31 = .ok (.aload_n 0, 1) := by decide +kernel
theorem dX9_correct_32 : decode cX9_correct 32 = .ok (.iload_n 1, 1) := by decide +kernel
theorem dX9_correct_33 : decode cX9_correct 33 = .ok (.bipush 6, 2) := by decide +kernel
theorem dX9_correct_35 : decode cX9_correct 35 = .ok (.invokevirtual 49, 3) := by decide +kernel
theorem dX9_correct_38 : decode cX9_correct 38 = .ok (.if_icmp .le 7, 3) := by decide +kernel
theorem dX9_correct_41 : decode cX9_correct 41 = .ok (.iconst 1, 1) := by decide +kernel
theorem dX9_correct_42 : decode cX9_correct 42 = .ok (.goto 4, 3) := by decide +kernel
theorem dX9_correct_45 : decode cX9_correct 45 = .ok (.iconst 0, 1) := by decide +kernel
theorem dX9_correct_46 : decode cX9_correct 46 = .ok (.istore 4, 2) := by decide +kernel
theorem dX9_correct_48 : decode cX9_correct 48 = .ok (.iload_n 3, 1) := by decide +kernel
theorem dX9_correct_49 : decode cX9_correct 49 = .ok (.invokestatic 80, 3) := by decide +kernel
theorem dX9_correct_52 : decode cX9_correct 52 = .ok (.aload_n 0, 1) := by decide +kernel
theorem dX9_correct_53 : decode cX9_correct 53 = .ok (.iload_n 1, 1) := by decide +kernel
theorem dX9_correct_54 : decode cX9_correct 54 = .ok (.bipush 6, 2) := by decide +kernel
theorem dX9_correct_56 : decode cX9_correct 56 = .ok (.invokevirtual 49, 3) := by decide +kernel
theorem dX9_correct_59 : decode cX9_correct 59 = .ok (.if_icmp .le 7, 3) := by decide +kernel
theorem dX9_correct_62 : decode cX9_correct 62 = .ok (.iconst 1, 1) := by decide +kernel
theorem dX9_correct_63 : decode cX9_correct 63 = .ok (.goto 4, 3) := by decide +kernel
theorem dX9_correct_66 : decode cX9_correct 66 = .ok (.iconst 0, 1) := by decide +kernel
theorem dX9_correct_67 : decode cX9_correct 67 = .ok (.istore 5, 2) := by decide +kernel
theorem dX9_correct_69 : decode cX9_correct 69 = .ok (.aload_n 0, 1) := by decide +kernel
theorem dX9_correct_70 : decode cX9_correct 70 = .ok (.iload_n 1, 1) := by decide +kernel
theorem dX9_correct_71 : decode cX9_correct 71 = .ok (.bipush 11, 2) := by decide +kernel
theorem dX9_correct_73 : decode cX9_correct 73 = .ok (.invokevirtual 49, 3) := by decide +kernel
theorem dX9_correct_76 : decode cX9_correct 76 = .ok (.istore 6, 2) := by decide +kernel
theorem dX9_correct_78 : decode cX9_correct 78 = .ok (.aload_n 0, 1) := by decide +kernel
theorem dX9_correct_79 : decode cX9_correct 79 = .ok (.iload_n 1, 1) := by decide +kernel
theorem dX9_correct_80 : decode cX9_correct 80 = .ok (.bipush 12, 2) := by decide +kernel
theorem dX9_correct_82 : decode cX9_correct 82 = .ok (.invokevirtual 49, 3) := by decide +kernel
theorem dX9_correct_85 : decode cX9_correct 85 = .ok (.istore 7, 2) := by decide +kernel
theorem dX9_correct_87 : decode cX9_correct 87 = .ok (.iload 4, 2) := by decide +kernel
theorem dX9_correct_89 : decode cX9_correct 89 = .ok (.ifCond .eq 89, 3) := by decide +kernel
theorem dX9_correct_92 : decode cX9_correct 92 = .ok (.aload_n 0, 1) := by decide +kernel
theorem dX9_correct_93 : decode cX9_correct 93 = .ok (.iload_n 1, 1) := by decide +kernel
theorem dX9_correct_94 : decode cX9_correct 94 = .ok (.bipush 15, 2) := by decide +kernel
theorem dX9_correct_96 : decode cX9_correct 96 = .ok (.aload_n 0, 1) := by decide +kernel
theorem dX9_correct_97 : decode cX9_correct 97 = .ok (.iload_n 1, 1) := by decide +kernel
theorem dX9_correct_98 : decode cX9_correct 98 = .ok (.bipush 15, 2) := by decide +kernel
theorem dX9_correct_100 : decode cX9_correct 100 = .ok (.invokevirtual 49, 3) := by decide +kernel
theorem dX9_correct_103 : decode cX9_correct 103 = .ok (.iload_n 2, 1) := by decide +kernel
theorem dX9_correct_104 : decode cX9_correct 104 = .ok (.iadd, 1) := by decide +kernel
theorem dX9_correct_105 : decode cX9_correct 105 = .ok (.sipush 20000, 3) := by decide +kernel
theorem dX9_correct_108 : decode cX9_correct 108 = .ok (.invokestatic 93, 3) := by decide +kernel
theorem dX9_correct_111 : decode cX9_correct 111 = .ok (.invokevirtual 41, 3) := by decide +kernel
theorem dX9_correct_114 : decode cX9_correct 114 = .ok (.aload_n 0, 1) := by decide +kernel
theorem dX9_correct_115 : decode cX9_correct 115 = .ok (.iload_n 1, 1) := by decide +kernel
theorem dX9_correct_116 : decode cX9_correct 116 = .ok (.iconst 4, 1) := by decide +kernel
theorem dX9_correct_117 : decode cX9_correct 117 = .ok (.invokevirtual 49, 3) := by decide +kernel
theorem dX9_correct_120 : decode cX9_correct 120 = .ok (.iload_n 2, 1) := by decide +kernel
theorem dX9_correct_121 : decode cX9_correct 121 = .ok (.imul, 1) := by decide +kernel
theorem dX9_correct_122 : decode cX9_correct 122 = .ok (.aload_n 0, 1) := by decide +kernel
theorem dX9_correct_123 : decode cX9_correct 123 = .ok (.iload_n 1, 1) := by decide +kernel
theorem dX9_correct_124 : decode cX9_correct 124 = .ok (.iconst 5, 1) := by decide +kernel
theorem dX9_correct_125 : decode cX9_correct 125 = .ok (.invokevirtual 49, 3) := by decide +kernel
theorem dX9_correct_128 : decode cX9_correct 128 = .ok (.aload_n 0, 1) := by decide +kernel
theorem dX9_correct_129 : decode cX9_correct 129 = .ok (.iload_n 1, 1) := by decide +kernel
theorem dX9_correct_130 : decode cX9_correct 130 = .ok (.bipush 15, 2) := by decide +kernel
theorem dX9_correct_132 : decode cX9_correct 132 = .ok (.invokevirtual 49, 3) := by decide +kernel
theorem dX9_correct_135 : decode cX9_correct 135 = .ok (.imul, 1) := by decide +kernel
theorem dX9_correct_136 : decode cX9_correct 136 = .ok (.iadd, 1) := by decide +kernel
theorem dX9_correct_137 : decode cX9_correct 137 = .ok (.ineg, 1) := by decide +kernel
theorem dX9_correct_138 : decode cX9_correct 138 = .ok (.sipush 256, 3) := by decide +kernel
theorem dX9_correct_141 : decode cX9_correct 141 = .ok (.idiv, 1) := by decide +kernel
theorem dX9_correct_142 : decode cX9_correct 142 = .ok (.aload_n 0, 1) := by decide +kernel
theorem dX9_correct_143 : decode cX9_correct 143 = .ok (.iload_n 1, 1) := by decide +kernel
theorem dX9_correct_144 : decode cX9_correct 144 = .ok (.bipush 7, 2) := by decide +kernel
theorem dX9_correct_146 : decode cX9_correct 146 = .ok (.invokevirtual 49, 3) := by decide +kernel
theorem dX9_correct_149 : decode cX9_correct 149 = .ok (.invokestatic 93, 3) := by decide +kernel
theorem dX9_correct_152 : decode cX9_correct 152 = .ok (.istore 8, 2) := by decide +kernel
theorem dX9_correct_154 : decode cX9_correct 154 = .ok (.aload_n 0, 1) := by decide +kernel
theorem dX9_correct_155 : decode cX9_correct 155 = .ok (.iload_n 1, 1) := by decide +kernel
theorem dX9_correct_156 : decode cX9_correct 156 = .ok (.bipush 11, 2) := by decide +kernel
theorem dX9_correct_158 : decode cX9_correct 158 = .ok (.iload 6, 2) := by decide +kernel
theorem dX9_correct_160 : decode cX9_correct 160 = .ok (.iload 8, 2) := by decide +kernel
theorem dX9_correct_162 : decode cX9_correct 162 = .ok (.iadd, 1) := by decide +kernel
theorem dX9_correct_163 : decode cX9_correct 163 = .ok (.sipush 5000, 3) := by decide +kernel
theorem dX9_correct_166 : decode cX9_correct 166 = .ok (.invokestatic 93, 3) := by decide +kernel
theorem dX9_correct_169 : decode cX9_correct 169 = .ok (.invokevirtual 41, 3) := by decide +kernel
theorem dX9_correct_172 : decode cX9_correct 172 = .ok (.aload_n 0, 1) := by decide +kernel
theorem dX9_correct_173 : decode cX9_correct 173 = .ok (.iconst 3, 1) := by decide +kernel
theorem dX9_correct_174 : decode cX9_correct 174 = .ok (.iconst 1, 1) := by decide +kernel
theorem dX9_correct_175 : decode cX9_correct 175 = .ok (.invokevirtual 86, 3) := by decide +kernel
theorem dX9_correct_178 : decode cX9_correct 178 = .ok (.iload 5, 2) := by decide +kernel
theorem dX9_correct_180 : decode cX9_correct 180 = .ok (.ifCond .eq 52, 3) := by decide +kernel
theorem dX9_correct_183 : decode cX9_correct 183 = .ok (.aload_n 0, 1) := by decide +kernel
theorem dX9_correct_184 : decode cX9_correct 184 = .ok (.iload_n 1, 1) := by decide +kernel
theorem dX9_correct_185 : decode cX9_correct 185 = .ok (.iconst 4, 1) := by decide +kernel
theorem dX9_correct_186 : decode cX9_correct 186 = .ok (.invokevirtual 49, 3) := by decide +kernel
theorem dX9_correct_189 : decode cX9_correct 189 = .ok (.iload_n 3, 1) := by decide +kernel
theorem dX9_correct_190 : decode cX9_correct 190 = .ok (.imul, 1) := by decide +kernel
theorem dX9_correct_191 : decode cX9_correct 191 = .ok (.ineg, 1) := by decide +kernel
theorem dX9_correct_192 : decode cX9_correct 192 = .ok (.sipush 256, 3) := by decide +kernel
theorem dX9_correct_195 : decode cX9_correct 195 = .ok (.idiv, 1) := by decide +kernel
theorem dX9_correct_196 : decode cX9_correct 196 = .ok (.aload_n 0, 1) := by decide +kernel
theorem dX9_correct_197 : decode cX9_correct 197 = .ok (.iload_n 1, 1) := by decide +kernel
theorem dX9_correct_198 : decode cX9_correct 198 = .ok (.bipush 7, 2) := by decide +kernel
theorem dX9_correct_200 : decode cX9_correct 200 = .ok (.invokevirtual 49, 3) := by decide +kernel
theorem dX9_correct_203 : decode cX9_correct 203 = .ok (.invokestatic 93, 3) := by decide +kernel
theorem dX9_correct_206 : decode cX9_correct 206 = .ok (.istore 8, 2) := by decide +kernel
theorem dX9_correct_208 : decode cX9_correct 208 = .ok (.aload_n 0, 1) := by decide +kernel
theorem dX9_correct_209 : decode cX9_correct 209 = .ok (.iload_n 1, 1) := by decide +kernel
theorem dX9_correct_210 : decode cX9_correct 210 = .ok (.bipush 12, 2) := by decide +kernel
theorem dX9_correct_212 : decode cX9_correct 212 = .ok (.iload 7, 2) := by decide +kernel
theorem dX9_correct_214 : decode cX9_correct 214 = .ok (.iload 8, 2) := by decide +kernel
theorem dX9_correct_216 : decode cX9_correct 216 = .ok (.iadd, 1) := by decide +kernel
theorem dX9_correct_217 : decode cX9_correct 217 = .ok (.sipush 3000, 3) := by decide +kernel
theorem dX9_correct_220 : decode cX9_correct 220 = .ok (.invokestatic 93, 3) := by decide +kernel
theorem dX9_correct_223 : decode cX9_correct 223 = .ok (.invokevirtual 41, 3) := by decide +kernel
theorem dX9_correct_226 : decode cX9_correct 226 = .ok (.aload_n 0, 1) := by decide +kernel
theorem dX9_correct_227 : decode cX9_correct 227 = .ok (.iconst 4, 1) := by decide +kernel
theorem dX9_correct_228 : decode cX9_correct 228 = .ok (.iconst 1, 1) := by decide +kernel
theorem dX9_correct_229 : decode cX9_correct 229 = .ok (.invokevirtual 86, 3) := by decide +kernel
theorem dX9_correct_232 : decode cX9_correct 232 = .ok (.iload 4, 2) := by decide +kernel
theorem dX9_correct_234 : decode cX9_correct 234 = .ok (.ifCond .ne 8, 3) := by decide +kernel
theorem dX9_correct_237 : decode cX9_correct 237 = .ok (.iload 5, 2) := by decide +kernel
theorem dX9_correct_239 : decode cX9_correct 239 = .ok (.ifCond .eq 52, 3) := by decide +kernel
theorem dX9_correct_242 : decode cX9_correct 242 = .ok (.aload_n 0, 1) := by decide +kernel
theorem dX9_correct_243 : decode cX9_correct 243 = .ok (.iload_n 1, 1) := by decide +kernel
theorem dX9_correct_244 : decode cX9_correct 244 = .ok (.bipush 27, 2) := by decide +kernel
theorem dX9_correct_246 : decode cX9_correct 246 = .ok (.aload_n 0, 1) := by decide +kernel
theorem dX9_correct_247 : decode cX9_correct 247 = .ok (.iload_n 1, 1) := by decide +kernel
theorem dX9_correct_248 : decode cX9_correct 248 = .ok (.bipush 11, 2) := by decide +kernel
theorem dX9_correct_250 : decode cX9_correct 250 = .ok (.invokevirtual 49, 3) := by decide +kernel
theorem dX9_correct_253 : decode cX9_correct 253 = .ok (.iload 6, 2) := by decide +kernel
theorem dX9_correct_255 : decode cX9_correct 255 = .ok (.isub, 1) := by decide +kernel
theorem dX9_correct_256 : decode cX9_correct 256 = .ok (.invokevirtual 41, 3) := by decide +kernel
theorem dX9_correct_259 : decode cX9_correct 259 = .ok (.aload_n 0, 1) := by decide +kernel
theorem dX9_correct_260 : decode cX9_correct 260 = .ok (.iload_n 1, 1) := by decide +kernel
theorem dX9_correct_261 : decode cX9_correct 261 = .ok (.bipush 28, 2) := by decide +kernel
theorem dX9_correct_263 : decode cX9_correct 263 = .ok (.aload_n 0, 1) := by decide +kernel
theorem dX9_correct_264 : decode cX9_correct 264 = .ok (.iload_n 1, 1) := by decide +kernel
theorem dX9_correct_265 : decode cX9_correct 265 = .ok (.bipush 12, 2) := by decide +kernel
theorem dX9_correct_267 : decode cX9_correct 267 = .ok (.invokevirtual 49, 3) := by decide +kernel
theorem dX9_correct_270 : decode cX9_correct 270 = .ok (.iload 7, 2) := by decide +kernel
theorem dX9_correct_272 : decode cX9_correct 272 = .ok (.isub, 1) := by decide +kernel
theorem dX9_correct_273 : decode cX9_correct 273 = .ok (.invokevirtual 41, 3) := by decide +kernel
theorem dX9_correct_276 : decode cX9_correct 276 = .ok (.aload_n 0, 1) := by decide +kernel
theorem dX9_correct_277 : decode cX9_correct 277 = .ok (.iload_n 1, 1) := by decide +kernel
theorem dX9_correct_278 : decode cX9_correct 278 = .ok (.bipush 16, 2) := by decide +kernel
theorem dX9_correct_280 : decode cX9_correct 280 = .ok (.aload_n 0, 1) := by decide +kernel
theorem dX9_correct_281 : decode cX9_correct 281 = .ok (.iload_n 1, 1) := by decide +kernel
theorem dX9_correct_282 : decode cX9_correct 282 = .ok (.iconst 1, 1) := by decide +kernel
theorem dX9_correct_283 : decode cX9_correct 283 = .ok (.invokevirtual 49, 3) := by decide +kernel
theorem dX9_correct_286 : decode cX9_correct 286 = .ok (.iconst 1, 1) := by decide +kernel
theorem dX9_correct_287 : decode cX9_correct 287 = .ok (.iadd, 1) := by decide +kernel
theorem dX9_correct_288 : decode cX9_correct 288 = .ok (.invokevirtual 41, 3) := by decide +kernel
theorem dX9_correct_291 : decode cX9_correct 291 = .ok (.return_, 1) := by decide +kernel
theorem dX9_decrease_0 : decode cX9_decrease 0 = .ok (.aload_n 0, 1) := by decide +kernel
theorem dX9_decrease_1 : decode cX9_decrease 1 = .ok (.iload_n 1, 1) := by decide +kernel
theorem dX9_decrease_2 : decode cX9_decrease 2 = .ok (.iload_n 2, 1) := by decide +kernel
theorem dX9_decrease_3 : decode cX9_decrease 3 = .ok (.aload_n 0, 1) := by decide +kernel
theorem dX9_decrease_4 : decode cX9_decrease 4 = .ok (.iload_n 1, 1) := by decide +kernel
theorem dX9_decrease_5 : decode cX9_decrease 5 = .ok (.iload_n 2, 1) := by decide +kernel
theorem dX9_decrease_6 : decode cX9_decrease 6 = .ok (.invokevirtual 49, 3) := by decide +kernel
theorem dX9_decrease_9 : decode cX9_decrease 9 = .ok (.ifCond .le 14, 3) := by decide +kernel
theorem dX9_decrease_12 : decode cX9_decrease 12 = .ok (.aload_n 0, 1) := by decide +kernel
theorem dX9_decrease_13 : decode cX9_decrease 13 = .ok (.iload_n 1, 1) := by decide +kernel
theorem dX9_decrease_14 : decode cX9_decrease 14 = .ok (.iload_n 2, 1) := by decide +kernel
theorem dX9_decrease_15 : decode cX9_decrease 15 = .ok (.invokevirtual 49, 3) := by decide +kernel
theorem dX9_decrease_18 : decode cX9_decrease 18 = .ok (.iconst 1, 1) := by decide +kernel
theorem dX9_decrease_19 : decode cX9_decrease 19 = .ok (.isub, 1) := by decide +kernel
theorem dX9_decrease_20 : decode cX9_decrease 20 = .ok (.goto 4, 3) := by decide +kernel
theorem dX9_decrease_23 : decode cX9_decrease 23 = .ok (.iconst 0, 1) := by decide +kernel
theorem dX9_decrease_24 : decode cX9_decrease 24 = .ok (.invokevirtual 41, 3) := by decide +kernel
theorem dX9_decrease_27 : decode cX9_decrease 27 = .ok (.return_, 1) := by decide +kernel
theorem dX9_endRepeat_0 : decode cX9_endRepeat 0 = .ok (.aload_n 0, 1) := by decide +kernel
theorem dX9_endRepeat_1 : decode cX9_endRepeat 1 = .ok (.iload_n 1, 1) := by decide +kernel
theorem dX9_endRepeat_2 : decode cX9_endRepeat 2 = .ok (.bipush 16, 2) := by decide +kernel
theorem dX9_endRepeat_4 : decode cX9_endRepeat 4 = .ok (.invokevirtual 49, 3) := by decide +kernel
theorem dX9_endRepeat_7 : decode cX9_endRepeat 7 = .ok (.ifCond .le 64, 3) := by decide +kernel
theorem dX9_endRepeat_10 : decode cX9_endRepeat 10 = .ok (.aload_n 0, 1) := by decide +kernel
theorem dX9_endRepeat_11 : decode cX9_endRepeat 11 = .ok (.iload_n 1, 1) := by decide +kernel
theorem dX9_endRepeat_12 : decode cX9_endRepeat 12 = .ok (.bipush 16, 2) := by decide +kernel
theorem dX9_endRepeat_14 : decode cX9_endRepeat 14 = .ok (.invokevirtual 96, 3) := by decide +kernel
theorem dX9_endRepeat_17 : decode cX9_endRepeat 17 = .ok (.aload_n 0, 1) := by decide +kernel
theorem dX9_endRepeat_18 : decode cX9_endRepeat 18 = .ok (.iload_n 1, 1) := by decide +kernel
theorem dX9_endRepeat_19 : decode cX9_endRepeat 19 = .ok (.bipush 16, 2) := by decide +kernel
theorem dX9_endRepeat_21 : decode cX9_endRepeat 21 = .ok (.invokevirtual 49, 3) := by decide +kernel
theorem dX9_endRepeat_24 : decode cX9_endRepeat 24 = .ok (.ifCond .ne 47, 3) := by decide +kernel
theorem dX9_endRepeat_27 : decode cX9_endRepeat 27 = .ok (.aload_n 0, 1) := by decide +kernel
theorem dX9_endRepeat_28 : decode cX9_endRepeat 28 = .ok (.iload_n 1, 1) := by decide +kernel
theorem dX9_endRepeat_29 : decode cX9_endRepeat 29 = .ok (.bipush 19, 2) := by decide +kernel
theorem dX9_endRepeat_31 : decode cX9_endRepeat 31 = .ok (.aload_n 0, 1) := by decide +kernel
theorem dX9_endRepeat_32 : decode cX9_endRepeat 32 = .ok (.iload_n 1, 1) := by decide +kernel
theorem dX9_endRepeat_33 : decode cX9_endRepeat 33 = .ok (.bipush 19, 2) := by decide +kernel
theorem dX9_endRepeat_35 : decode cX9_endRepeat 35 = .ok (.invokevirtual 49, 3) := by decide +kernel
theorem dX9_endRepeat_38 : decode cX9_endRepeat 38 = .ok (.aload_n 0, 1) := by decide +kernel
theorem dX9_endRepeat_39 : decode cX9_endRepeat 39 = .ok (.iload_n 1, 1) := by decide +kernel
theorem dX9_endRepeat_40 : decode cX9_endRepeat 40 = .ok (.bipush 27, 2) := by decide +kernel
theorem dX9_endRepeat_42 : decode cX9_endRepeat 42 = .ok (.invokevirtual 49, 3) := by decide +kernel
theorem dX9_endRepeat_45 : decode cX9_endRepeat 45 = .ok (.iadd, 1) := by decide +kernel
theorem dX9_endRepeat_46 : decode cX9_endRepeat 46 = .ok (.invokevirtual 41, 3) := by decide +kernel
theorem dX9_endRepeat_49 : decode cX9_endRepeat 49 = .ok (.aload_n 0, 1) := by decide +kernel
theorem dX9_endRepeat_50 : decode cX9_endRepeat 50 = .ok (.iload_n 1, 1) := by decide +kernel
theorem dX9_endRepeat_51 : decode cX9_endRepeat 51 = .ok (.bipush 20, 2) := by decide +kernel
theorem dX9_endRepeat_53 : decode cX9_endRepeat 53 = .ok (.aload_n 0, 1) := by decide +kernel
theorem dX9_endRepeat_54 : decode cX9_endRepeat 54 = .ok (.iload_n 1, 1) := by decide +kernel
theorem dX9_endRepeat_55 : decode cX9_endRepeat 55 = .ok (.bipush 20, 2) := by decide +kernel
theorem dX9_endRepeat_57 : decode cX9_endRepeat 57 = .ok (.invokevirtual 49, 3) := by decide +kernel
theorem dX9_endRepeat_60 : decode cX9_endRepeat 60 = .ok (.aload_n 0, 1) := by decide +kernel
theorem dX9_endRepeat_61 : decode cX9_endRepeat 61 = .ok (.iload_n 1, 1) := by decide +kernel
theorem dX9_endRepeat_62 : decode cX9_endRepeat 62 = .ok (.bipush 28, 2) := by decide +kernel
theorem dX9_endRepeat_64 : decode cX9_endRepeat 64 = .ok (.invokevirtual 49, 3) := by decide +kernel
theorem dX9_endRepeat_67 : decode cX9_endRepeat 67 = .ok (.iadd, 1) := by decide +kernel
theorem dX9_endRepeat_68 : decode cX9_endRepeat 68 = .ok (.invokevirtual 41, 3) := by decide +kernel
theorem dX9_endRepeat_71 : decode cX9_endRepeat 71 = .ok (.aload_n 0, 1) := by decide +kernel
theorem dX9_endRepeat_72 : decode cX9_endRepeat 72 = .ok (.iload_n 1, 1) := by decide +kernel
theorem dX9_endRepeat_73 : decode cX9_endRepeat 73 = .ok (.bipush 18, 2) := by decide +kernel
theorem dX9_endRepeat_75 : decode cX9_endRepeat 75 = .ok (.invokevirtual 96, 3) := by decide +kernel
theorem dX9_endRepeat_78 : decode cX9_endRepeat 78 = .ok (.aload_n 0, 1) := by decide +kernel
theorem dX9_endRepeat_79 : decode cX9_endRepeat 79 = .ok (.iload_n 1, 1) := by decide +kernel
theorem dX9_endRepeat_80 : decode cX9_endRepeat 80 = .ok (.bipush 23, 2) := by decide +kernel
theorem dX9_endRepeat_82 : decode cX9_endRepeat 82 = .ok (.invokevirtual 96, 3) := by decide +kernel
theorem dX9_endRepeat_85 : decode cX9_endRepeat 85 = .ok (.aload_n 0, 1) := by decide +kernel
theorem dX9_endRepeat_86 : decode cX9_endRepeat 86 = .ok (.iload_n 1, 1) := by decide +kernel
theorem dX9_endRepeat_87 : decode cX9_endRepeat 87 = .ok (.bipush 24, 2) := by decide +kernel
theorem dX9_endRepeat_89 : decode cX9_endRepeat 89 = .ok (.invokevirtual 96, 3) := by decide +kernel
theorem dX9_endRepeat_92 : decode cX9_endRepeat 92 = .ok (.aload_n 0, 1) := by decide +kernel
theorem dX9_endRepeat_93 : decode cX9_endRepeat 93 = .ok (.iload_n 1, 1) := by decide +kernel
theorem dX9_endRepeat_94 : decode cX9_endRepeat 94 = .ok (.bipush 26, 2) := by decide +kernel
theorem dX9_endRepeat_96 : decode cX9_endRepeat 96 = .ok (.invokevirtual 96, 3) := by decide +kernel
theorem dX9_endRepeat_99 : decode cX9_endRepeat 99 = .ok (.return_, 1) := by decide +kernel
theorem dX9_makeRepeat_0 : decode cX9_makeRepeat 0 = .ok (.aload_n 0, 1) := by decide +kernel
theorem dX9_makeRepeat_1 : decode cX9_makeRepeat 1 = .ok (.getfield 9, 3) := by decide +kernel
theorem dX9_makeRepeat_4 : decode cX9_makeRepeat 4 = .ok (.sipush 1778, 3) := by decide +kernel
theorem dX9_makeRepeat_7 : decode cX9_makeRepeat 7 = .ok (.aload_n 0, 1) := by decide +kernel
theorem dX9_makeRepeat_8 : decode cX9_makeRepeat 8 = .ok (.getfield 9, 3) := by decide +kernel
theorem dX9_makeRepeat_11 : decode cX9_makeRepeat 11 = .ok (.sipush 1765, 3) := by decide +kernel
theorem dX9_makeRepeat_14 : decode cX9_makeRepeat 14 = .ok (.iaload, 1) := by decide +kernel
theorem dX9_makeRepeat_15 : decode cX9_makeRepeat 15 = .ok (.sipush 128, 3) := by decide +kernel
theorem dX9_makeRepeat_18 : decode cX9_makeRepeat 18 = .ok (.irem, 1) := by decide +kernel
theorem dX9_makeRepeat_19 : decode cX9_makeRepeat 19 = .ok (.iadd, 1) := by decide +kernel
theorem dX9_makeRepeat_20 : decode cX9_makeRepeat 20 = .ok (.aload_n 0, 1) := by decide +kernel
theorem dX9_makeRepeat_21 : decode cX9_makeRepeat 21 = .ok (.getfield 9, 3) := by decide +kernel
theorem dX9_makeRepeat_24 : decode cX9_makeRepeat 24 = .ok (.sipush 1767, 3) := by decide +kernel
theorem dX9_makeRepeat_27 : decode cX9_makeRepeat 27 = .ok (.iaload, 1) := by decide +kernel
theorem dX9_makeRepeat_28 : decode cX9_makeRepeat 28 = .ok (.aload_n 0, 1) := by decide +kernel
theorem dX9_makeRepeat_29 : decode cX9_makeRepeat 29 = .ok (.getfield 9, 3) := by decide +kernel
theorem dX9_makeRepeat_32 : decode cX9_makeRepeat 32 = .ok (.sipush 1768, 3) := by decide +kernel
theorem dX9_makeRepeat_35 : decode cX9_makeRepeat 35 = .ok (.iaload, 1) := by decide +kernel
theorem dX9_makeRepeat_36 : decode cX9_makeRepeat 36 = .ok (.isub, 1) := by decide +kernel
theorem dX9_makeRepeat_37 : decode cX9_makeRepeat 37 = .ok (.iastore, 1) := by decide +kernel
theorem dX9_makeRepeat_38 : decode cX9_makeRepeat 38 = .ok (.aload_n 0, 1) := by decide +kernel
theorem dX9_makeRepeat_39 : decode cX9_makeRepeat 39 = .ok (.invokevirtual 99, 3) := by decide +kernel
theorem dX9_makeRepeat_42 : decode cX9_makeRepeat 42 = .ok (.iconst 0, 1) := by decide +kernel
theorem dX9_makeRepeat_43 : decode cX9_makeRepeat 43 = .ok (.istore_n 1, 1) := by decide +kernel
theorem dX9_makeRepeat_44 : decode cX9_makeRepeat 44 = .ok (.iload_n 1, 1) := by decide +kernel
theorem dX9_makeRepeat_45 : decode cX9_makeRepeat 45 = .ok (.aload_n 0, 1) := by decide +kernel
theorem dX9_makeRepeat_46 : decode cX9_makeRepeat 46 = .ok (.getfield 9, 3) := by decide +kernel
theorem dX9_makeRepeat_49 : decode cX9_makeRepeat 49 = .ok (.sipush 1766, 3) := by decide +kernel
theorem dX9_makeRepeat_52 : decode cX9_makeRepeat 52 = .ok (.iaload, 1) := by decide +kernel
theorem dX9_makeRepeat_53 : decode cX9_makeRepeat 53 = .ok (.if_icmp .ge 14, 3) := by decide +kernel
theorem dX9_makeRepeat_56 : decode cX9_makeRepeat 56 = .ok (.aload_n 0, 1) := by decide +kernel
theorem dX9_makeRepeat_57 : decode cX9_makeRepeat 57 = .ok (.iload_n 1, 1) := by decide +kernel
theorem dX9_makeRepeat_58 : decode cX9_makeRepeat 58 = .ok (.invokevirtual 102, 3) := by decide +kernel
theorem dX9_makeRepeat_61 : decode cX9_makeRepeat 61 = .ok (.iinc 1 1, 3) := by decide +kernel
theorem dX9_makeRepeat_64 : decode cX9_makeRepeat 64 = .ok (.goto (-20), 3) := by decide +kernel
theorem dX9_makeRepeat_67 : decode cX9_makeRepeat 67 = .ok (.iconst 1, 1) := by decide +kernel
theorem dX9_makeRepeat_68 : decode cX9_makeRepeat 68 = .ok (.istore_n 1, 1) := by decide +kernel
theorem dX9_makeRepeat_69 : decode cX9_makeRepeat 69 = .ok (.iload_n 1, 1) := by decide +kernel
theorem dX9_makeRepeat_70 : decode cX9_makeRepeat 70 = .ok (.aload_n 0, 1) := by decide +kernel
theorem dX9_makeRepeat_71 : decode cX9_makeRepeat 71 = .ok (.getfield 9, 3) := by decide +kernel
theorem dX9_makeRepeat_74 : decode cX9_makeRepeat 74 = .ok (.sipush 1766, 3) := by decide +kernel
theorem dX9_makeRepeat_77 : decode cX9_makeRepeat 77 = .ok (.iaload, 1) := by decide +kernel
theorem dX9_makeRepeat_78 : decode cX9_makeRepeat 78 = .ok (.if_icmp .ge 50, 3) := by decide +kernel
theorem dX9_makeRepeat_81 : decode cX9_makeRepeat 81 = .ok (.aload_n 0, 1) := by decide +kernel
theorem dX9_makeRepeat_82 : decode cX9_makeRepeat 82 = .ok (.iload_n 1, 1) := by decide +kernel
theorem dX9_makeRepeat_83 : decode cX9_makeRepeat 83 = .ok (.invokevirtual 90, 3) := by decide +kernel
theorem dX9_makeRepeat_86 : decode cX9_makeRepeat 86 = .ok (.ifCond .eq 13, 3) := by decide +kernel
theorem dX9_makeRepeat_89 : decode cX9_makeRepeat 89 = .ok (.aload_n 0, 1) := by decide +kernel
theorem dX9_makeRepeat_90 : decode cX9_makeRepeat 90 = .ok (.iload_n 1, 1) := by decide +kernel
theorem dX9_makeRepeat_91 : decode cX9_makeRepeat 91 = .ok (.invokevirtual 105, 3) := by decide +kernel
theorem dX9_makeRepeat_94 : decode cX9_makeRepeat 94 = .ok (.aload_n 0, 1) := by decide +kernel
theorem dX9_makeRepeat_95 : decode cX9_makeRepeat 95 = .ok (.iload_n 1, 1) := by decide +kernel
theorem dX9_makeRepeat_96 : decode cX9_makeRepeat 96 = .ok (.invokevirtual 108, 3) := by decide +kernel
theorem dX9_makeRepeat_99 : decode cX9_makeRepeat 99 = .ok (.aload_n 0, 1) := by decide +kernel
theorem dX9_makeRepeat_100 : decode cX9_makeRepeat 100 = .ok (.iload_n 1, 1) := by decide +kernel
theorem dX9_makeRepeat_101 : decode cX9_makeRepeat 101 = .ok (.invokevirtual 111, 3) := by decide +kernel
theorem dX9_makeRepeat_104 : decode cX9_makeRepeat 104 = .ok (.ifCond .eq 18, 3) := by decide +kernel
theorem dX9_makeRepeat_107 : decode cX9_makeRepeat 107 = .ok (.aload_n 0, 1) := by decide +kernel
theorem dX9_makeRepeat_108 : decode cX9_makeRepeat 108 = .ok (.iload_n 1, 1) := by decide +kernel
theorem dX9_makeRepeat_109 : decode cX9_makeRepeat 109 = .ok (.invokevirtual 114, 3) := by decide +kernel
theorem dX9_makeRepeat_112 : decode cX9_makeRepeat 112 = .ok (.aload_n 0, 1) := by decide +kernel
theorem dX9_makeRepeat_113 : decode cX9_makeRepeat 113 = .ok (.iload_n 1, 1) := by decide +kernel
theorem dX9_makeRepeat_114 : decode cX9_makeRepeat 114 = .ok (.invokevirtual 117, 3) := by decide +kernel
theorem dX9_makeRepeat_117 : decode cX9_makeRepeat 117 = .ok (.aload_n 0, 1) := by decide +kernel
theorem dX9_makeRepeat_118 : decode cX9_makeRepeat 118 = .ok (.iload_n 1, 1) := by decide +kernel
theorem dX9_makeRepeat_119 : decode cX9_makeRepeat 119 = .ok (.invokevirtual 120, 3) := by decide +kernel
theorem dX9_makeRepeat_122 : decode cX9_makeRepeat 122 = .ok (.iinc 1 1, 3) := by decide +kernel
theorem dX9_makeRepeat_125 : decode cX9_makeRepeat 125 = .ok (.goto (-56), 3) := by decide +kernel
theorem dX9_makeRepeat_128 : decode cX9_makeRepeat 128 = .ok (.iconst 0, 1) := by decide +kernel
theorem dX9_makeRepeat_129 : decode cX9_makeRepeat 129 = .ok (.istore_n 1, 1) := by decide +kernel
theorem dX9_makeRepeat_130 : decode cX9_makeRepeat 130 = .ok (.iload_n 1, 1) := by decide +kernel
theorem dX9_makeRepeat_131 : decode cX9_makeRepeat 131 = .ok (.aload_n 0, 1) := by decide +kernel
theorem dX9_makeRepeat_132 : decode cX9_makeRepeat 132 = .ok (.getfield 9, 3) := by decide +kernel
theorem dX9_makeRepeat_135 : decode cX9_makeRepeat 135 = .ok (.sipush 1766, 3) := by decide +kernel
theorem dX9_makeRepeat_138 : decode cX9_makeRepeat 138 = .ok (.iaload, 1) := by decide +kernel
theorem dX9_makeRepeat_139 : decode cX9_makeRepeat 139 = .ok (.if_icmp .ge 14, 3) := by decide +kernel
theorem dX9_makeRepeat_142 : decode cX9_makeRepeat 142 = .ok (.aload_n 0, 1) := by decide +kernel
theorem dX9_makeRepeat_143 : decode cX9_makeRepeat 143 = .ok (.iload_n 1, 1) := by decide +kernel
theorem dX9_makeRepeat_144 : decode cX9_makeRepeat 144 = .ok (.invokevirtual 123, 3) := by decide +kernel
theorem dX9_makeRepeat_147 : decode cX9_makeRepeat 147 = .ok (.iinc 1 1, 3) := by decide +kernel
theorem dX9_makeRepeat_150 : decode cX9_makeRepeat 150 = .ok (.goto (-20), 3) := by decide +kernel
theorem dX9_makeRepeat_153 : decode cX9_makeRepeat 153 = .ok (.aload_n 0, 1) := by decide +kernel
theorem dX9_makeRepeat_154 : decode cX9_makeRepeat 154 = .ok (.getfield 9, 3) := by decide +kernel
theorem dX9_makeRepeat_157 : decode cX9_makeRepeat 157 = .ok (.sipush 1768, 3) := by decide +kernel
theorem dX9_makeRepeat_160 : decode cX9_makeRepeat 160 = .ok (.aload_n 0, 1) := by decide +kernel
theorem dX9_makeRepeat_161 : decode cX9_makeRepeat 161 = .ok (.getfield 9, 3) := by decide +kernel
theorem dX9_makeRepeat_164 : decode cX9_makeRepeat 164 = .ok (.sipush 1767, 3) := by decide +kernel
theorem dX9_makeRepeat_167 : decode cX9_makeRepeat 167 = .ok (.iaload, 1) := by decide +kernel
theorem dX9_makeRepeat_168 : decode cX9_makeRepeat 168 = .ok (.iastore, 1) := by decide +kernel
theorem dX9_makeRepeat_169 : decode cX9_makeRepeat 169 = .ok (.aload_n 0, 1) := by decide +kernel
theorem dX9_makeRepeat_170 : decode cX9_makeRepeat 170 = .ok (.getfield 9, 3) := by decide +kernel
theorem dX9_makeRepeat_173 : decode cX9_makeRepeat 173 = .ok (.sipush 1765, 3) := by decide +kernel
theorem dX9_makeRepeat_176 : decode cX9_makeRepeat 176 = .ok (.dup2, 1) := by decide +kernel
theorem dX9_makeRepeat_177 : decode cX9_makeRepeat 177 = .ok (.iaload, 1) := by decide +kernel
theorem dX9_makeRepeat_178 : decode cX9_makeRepeat 178 = .ok (.iconst 1, 1) := by decide +kernel
theorem dX9_makeRepeat_179 : decode cX9_makeRepeat 179 = .ok (.iadd, 1) := by decide +kernel
theorem dX9_makeRepeat_180 : decode cX9_makeRepeat 180 = .ok (.iastore, 1) := by decide +kernel
theorem dX9_makeRepeat_181 : decode cX9_makeRepeat 181 = .ok (.return_, 1) := by decide +kernel
theorem dX9_makeRepeats_0 : decode cX9_makeRepeats 0 = .ok (.iconst 0, 1) := by decide +kernel
theorem dX9_makeRepeats_1 : decode cX9_makeRepeats 1 = .ok (.istore_n 2, 1) := by decide +kernel
theorem dX9_makeRepeats_2 : decode cX9_makeRepeats 2 = .ok (.iload_n 2, 1) := by decide +kernel
theorem dX9_makeRepeats_3 : decode cX9_makeRepeats 3 = .ok (.iload_n 1, 1) := by decide +kernel
theorem dX9_makeRepeats_4 : decode cX9_makeRepeats 4 = .ok (.if_icmp .ge 13, 3) := by decide +kernel
theorem dX9_makeRepeats_7 : decode cX9_makeRepeats 7 = .ok (.aload_n 0, 1) := by decide +kernel
theorem dX9_makeRepeats_8 : decode cX9_makeRepeats 8 = .ok (.invokevirtual 126, 3) := by decide +kernel
theorem dX9_makeRepeats_11 : decode cX9_makeRepeats 11 = .ok (.iinc 2 1, 3) := by decide +kernel
theorem dX9_makeRepeats_14 : decode cX9_makeRepeats 14 = .ok (.goto (-12), 3) := by decide +kernel
theorem dX9_makeRepeats_17 : decode cX9_makeRepeats 17 = .ok (.return_, 1) := by decide +kernel
theorem dX9_run_0 : decode cX9_run 0 = .ok (.iload_n 1, 1) := by decide +kernel
theorem dX9_run_1 : decode cX9_run 1 = .ok (.iconst 1, 1) := by decide +kernel
theorem dX9_run_2 : decode cX9_run 2 = .ok (.sipush 300, 3) := by decide +kernel
theorem dX9_run_5 : decode cX9_run 5 = .ok (.invokestatic 45, 3) := by decide +kernel
theorem dX9_run_8 : decode cX9_run 8 = .ok (.ifCond .ne 6, 3) := by decide +kernel
theorem dX9_run_11 : decode cX9_run 11 = .ok (.ldc 52, 2) := by decide +kernel
theorem dX9_run_13 : decode cX9_run 13 = .ok (.ireturn, 1) := by decide +kernel
theorem dX9_run_14 : decode cX9_run 14 = .ok (.aload_n 0, 1) := by decide +kernel
theorem dX9_run_15 : decode cX9_run 15 = .ok (.getfield 9, 3) := by decide +kernel
theorem dX9_run_18 : decode cX9_run 18 = .ok (.sipush 1765, 3) := by decide +kernel
theorem dX9_run_21 : decode cX9_run 21 = .ok (.iaload, 1) := by decide +kernel
theorem dX9_run_22 : decode cX9_run 22 = .ok (.iload_n 1, 1) := by decide +kernel
theorem dX9_run_23 : decode cX9_run 23 = .ok (.iadd, 1) := by decide +kernel
theorem dX9_run_24 : decode cX9_run 24 = .ok (.ldc 129, 2) := by decide +kernel
theorem dX9_run_26 : decode cX9_run 26 = .ok (.if_icmp .le 6, 3) := by decide +kernel
theorem dX9_run_29 : decode cX9_run 29 = .ok (.ldc 62, 2) := by decide +kernel
theorem dX9_run_31 : decode cX9_run 31 = .ok (.ireturn, 1) := by decide +kernel
theorem dX9_run_32 : decode cX9_run 32 = .ok (.aload_n 0, 1) := by decide +kernel
theorem dX9_run_33 : decode cX9_run 33 = .ok (.iload_n 1, 1) := by decide +kernel
theorem dX9_run_34 : decode cX9_run 34 = .ok (.invokevirtual 130, 3) := by decide +kernel
theorem dX9_run_37 : decode cX9_run 37 = .ok (.aload_n 0, 1) := by decide +kernel
theorem dX9_run_38 : decode cX9_run 38 = .ok (.getfield 9, 3) := by decide +kernel
theorem dX9_run_41 : decode cX9_run 41 = .ok (.sipush 1765, 3) := by decide +kernel
theorem dX9_run_44 : decode cX9_run 44 = .ok (.iaload, 1) := by decide +kernel
theorem dX9_run_45 : decode cX9_run 45 = .ok (.ireturn, 1) := by decide +kernel
theorem dX9_seen_0 : decode cX9_seen 0 = .ok (.aload_n 0, 1) := by decide +kernel
theorem dX9_seen_1 : decode cX9_seen 1 = .ok (.iload_n 1, 1) := by decide +kernel
theorem dX9_seen_2 : decode cX9_seen 2 = .ok (.invokevirtual 53, 3) := by decide +kernel
theorem dX9_seen_5 : decode cX9_seen 5 = .ok (.ifCond .ne 6, 3) := by decide +kernel
theorem dX9_seen_8 : decode cX9_seen 8 = .ok (.ldc 57, 2) := by decide +kernel
theorem dX9_seen_10 : decode cX9_seen 10 = .ok (.ireturn, 1) := by decide +kernel
theorem dX9_seen_11 : decode cX9_seen 11 = .ok (.iload_n 2, 1) := by decide +kernel
theorem dX9_seen_12 : decode cX9_seen 12 = .ok (.iconst 0, 1) := by decide +kernel
theorem dX9_seen_13 : decode cX9_seen 13 = .ok (.bipush 6, 2) := by decide +kernel
theorem dX9_seen_15 : decode cX9_seen 15 = .ok (.invokestatic 45, 3) := by decide +kernel
theorem dX9_seen_18 : decode cX9_seen 18 = .ok (.ifCond .ne 6, 3) := by decide +kernel
theorem dX9_seen_21 : decode cX9_seen 21 = .ok (.ldc 52, 2) := by decide +kernel
theorem dX9_seen_23 : decode cX9_seen 23 = .ok (.ireturn, 1) := by decide +kernel
theorem dX9_seen_24 : decode cX9_seen 24 = .ok (.aload_n 0, 1) := by decide +kernel
theorem dX9_seen_25 : decode cX9_seen 25 = .ok (.getfield 9, 3) := by decide +kernel
theorem dX9_seen_28 : decode cX9_seen 28 = .ok (.sipush 1765, 3) := by decide +kernel
theorem dX9_seen_31 : decode cX9_seen 31 = .ok (.iaload, 1) := by decide +kernel
theorem dX9_seen_32 : decode cX9_seen 32 = .ok (.ifCond .ne 8, 3) := by decide +kernel
theorem dX9_seen_35 : decode cX9_seen 35 = .ok (.ldc 62, 2) := by decide +kernel
theorem dX9_seen_37 : decode cX9_seen 37 = .ok (.goto 12, 3) := by decide +kernel
theorem dX9_seen_40 : decode cX9_seen 40 = .ok (.aload_n 0, 1) := by decide +kernel
theorem dX9_seen_41 : decode cX9_seen 41 = .ok (.iload_n 1, 1) := by decide +kernel
theorem dX9_seen_42 : decode cX9_seen 42 = .ok (.bipush 29, 2) := by decide +kernel
theorem dX9_seen_44 : decode cX9_seen 44 = .ok (.iload_n 2, 1) := by decide +kernel
theorem dX9_seen_45 : decode cX9_seen 45 = .ok (.iadd, 1) := by decide +kernel
theorem dX9_seen_46 : decode cX9_seen 46 = .ok (.invokevirtual 49, 3) := by decide +kernel
theorem dX9_seen_49 : decode cX9_seen 49 = .ok (.ireturn, 1) := by decide +kernel
theorem dX9_state_0 : decode cX9_state 0 = .ok (.aload_n 0, 1) := by decide +kernel
theorem dX9_state_1 : decode cX9_state 1 = .ok (.iload_n 1, 1) := by decide +kernel
theorem dX9_state_2 : decode cX9_state 2 = .ok (.invokevirtual 53, 3) := by decide +kernel
theorem dX9_state_5 : decode cX9_state 5 = .ok (.ifCond .ne 6, 3) := by decide +kernel
theorem dX9_state_8 : decode cX9_state 8 = .ok (.ldc 57, 2) := by decide +kernel
theorem dX9_state_10 : decode cX9_state 10 = .ok (.ireturn, 1) := by decide +kernel
theorem dX9_state_11 : decode cX9_state 11 = .ok (.iload_n 2, 1) := by decide +kernel
theorem dX9_state_12 : decode cX9_state 12 = .ok (.iconst 0, 1) := by decide +kernel
theorem dX9_state_13 : decode cX9_state 13 = .ok (.bipush 9, 2) := by decide +kernel
theorem dX9_state_15 : decode cX9_state 15 = .ok (.invokestatic 45, 3) := by decide +kernel
theorem dX9_state_18 : decode cX9_state 18 = .ok (.ifCond .eq 13, 3) := by decide +kernel
theorem dX9_state_21 : decode cX9_state 21 = .ok (.aload_n 0, 1) := by decide +kernel
theorem dX9_state_22 : decode cX9_state 22 = .ok (.iload_n 1, 1) := by decide +kernel
theorem dX9_state_23 : decode cX9_state 23 = .ok (.bipush 11, 2) := by decide +kernel
theorem dX9_state_25 : decode cX9_state 25 = .ok (.iload_n 2, 1) := by decide +kernel
theorem dX9_state_26 : decode cX9_state 26 = .ok (.iadd, 1) := by decide +kernel
theorem dX9_state_27 : decode cX9_state 27 = .ok (.invokevirtual 49, 3) := by decide +kernel
theorem dX9_state_30 : decode cX9_state 30 = .ok (.ireturn, 1) := by decide +kernel
theorem dX9_state_31 : decode cX9_state 31 = .ok (.iload_n 2, 1) := by decide +kernel
theorem dX9_state_32 : decode cX9_state 32 = .ok (.tableswitch 62 10 13 #[32, 40, 48, 56], 32) := by decide +kernel
theorem dX9_state_64 : decode cX9_state 64 = .ok (.aload_n 0, 1) := by decide +kernel
theorem dX9_state_65 : decode cX9_state 65 = .ok (.iload_n 1, 1) := by decide +kernel
theorem dX9_state_66 : decode cX9_state 66 = .ok (.bipush 23, 2) := by decide +kernel
theorem dX9_state_68 : decode cX9_state 68 = .ok (.invokevirtual 49, 3) := by decide +kernel
theorem dX9_state_71 : decode cX9_state 71 = .ok (.ireturn, 1) := by decide +kernel
theorem dX9_state_72 : decode cX9_state 72 = .ok (.aload_n 0, 1) := by decide +kernel
theorem dX9_state_73 : decode cX9_state 73 = .ok (.iload_n 1, 1) := by decide +kernel
theorem dX9_state_74 : decode cX9_state 74 = .ok (.bipush 24, 2) := by decide +kernel
theorem dX9_state_76 : decode cX9_state 76 = .ok (.invokevirtual 49, 3) := by decide +kernel
theorem dX9_state_79 : decode cX9_state 79 = .ok (.ireturn, 1) := by decide +kernel
theorem dX9_state_80 : decode cX9_state 80 = .ok (.aload_n 0, 1) := by decide +kernel
theorem dX9_state_81 : decode cX9_state 81 = .ok (.iload_n 1, 1) := by decide +kernel
theorem dX9_state_82 : decode cX9_state 82 = .ok (.bipush 26, 2) := by decide +kernel
theorem dX9_state_84 : decode cX9_state 84 = .ok (.invokevirtual 49, 3) := by decide +kernel
theorem dX9_state_87 : decode cX9_state 87 = .ok (.ireturn, 1) := by decide +kernel
theorem dX9_state_88 : decode cX9_state 88 = .ok (.aload_n 0, 1) := by decide +kernel
theorem dX9_state_89 : decode cX9_state 89 = .ok (.iload_n 1, 1) := by decide +kernel
theorem dX9_state_90 : decode cX9_state 90 = .ok (.invokevirtual 69, 3) := by decide +kernel
theorem dX9_state_93 : decode cX9_state 93 = .ok (.ireturn, 1) := by decide +kernel
theorem dX9_state_94 : decode cX9_state 94 = .ok (.ldc 52, 2) := by decide +kernel
theorem dX9_state_96 : decode cX9_state 96 = .ok (.ireturn, 1) := by decide +kernel
theorem dX9_isControlled_0 : decode cX9_isControlled 0 = .ok (.iload_n 1, 1) := by decide +kernel
theorem dX9_isControlled_1 : decode cX9_isControlled 1 = .ok (.ifCond .eq 15, 3) := by decide +kernel
theorem dX9_isControlled_4 : decode cX9_isControlled 4 = .ok (.aload_n 0, 1) := by decide +kernel
theorem dX9_isControlled_5 : decode cX9_isControlled 5 = .ok (.iload_n 1, 1) := by decide +kernel
theorem dX9_isControlled_6 : decode cX9_isControlled 6 = .ok (.invokevirtual 53, 3) := by decide +kernel
theorem dX9_isControlled_9 : decode cX9_isControlled 9 = .ok (.ifCond .eq 7, 3) := by decide +kernel
theorem dX9_isControlled_12 : decode cX9_isControlled 12 = .ok (.iconst 1, 1) := by decide +kernel
theorem dX9_isControlled_13 : decode cX9_isControlled 13 = .ok (.goto 4, 3) := by decide +kernel
theorem dX9_isControlled_16 : decode cX9_isControlled 16 = .ok (.iconst 0, 1) := by decide +kernel
theorem dX9_isControlled_17 : decode cX9_isControlled 17 = .ok (.ireturn, 1) := by decide +kernel
theorem dX9_errors_0 : decode cX9_errors 0 = .ok (.aload_n 0, 1) := by decide +kernel
theorem dX9_errors_1 : decode cX9_errors 1 = .ok (.iload_n 1, 1) := by decide +kernel
theorem dX9_errors_2 : decode cX9_errors 2 = .ok (.invokevirtual 133, 3) := by decide +kernel
theorem dX9_errors_5 : decode cX9_errors 5 = .ok (.ifCond .ne 6, 3) := by decide +kernel
theorem dX9_errors_8 : decode cX9_errors 8 = .ok (.ldc 57, 2) := by decide +kernel
theorem dX9_errors_10 : decode cX9_errors 10 = .ok (.ireturn, 1) := by decide +kernel
theorem dX9_errors_11 : decode cX9_errors 11 = .ok (.iload_n 2, 1) := by decide +kernel
theorem dX9_errors_12 : decode cX9_errors 12 = .ok (.iconst 1, 1) := by decide +kernel
theorem dX9_errors_13 : decode cX9_errors 13 = .ok (.bipush 60, 2) := by decide +kernel
theorem dX9_errors_15 : decode cX9_errors 15 = .ok (.invokestatic 45, 3) := by decide +kernel
theorem dX9_errors_18 : decode cX9_errors 18 = .ok (.ifCond .eq 12, 3) := by decide +kernel
theorem dX9_errors_21 : decode cX9_errors 21 = .ok (.iload_n 3, 1) := by decide +kernel
theorem dX9_errors_22 : decode cX9_errors 22 = .ok (.iconst 0, 1) := by decide +kernel
theorem dX9_errors_23 : decode cX9_errors 23 = .ok (.iconst 3, 1) := by decide +kernel
theorem dX9_errors_24 : decode cX9_errors 24 = .ok (.invokestatic 45, 3) := by decide +kernel
theorem dX9_errors_27 : decode cX9_errors 27 = .ok (.ifCond .ne 6, 3) := by decide +kernel
theorem dX9_errors_30 : decode cX9_errors 30 = .ok (.ldc 52, 2) := by decide +kernel
theorem dX9_errors_32 : decode cX9_errors 32 = .ok (.ireturn, 1) := by decide +kernel
theorem dX9_errors_33 : decode cX9_errors 33 = .ok (.aload_n 0, 1) := by decide +kernel
theorem dX9_errors_34 : decode cX9_errors 34 = .ok (.iload_n 1, 1) := by decide +kernel
theorem dX9_errors_35 : decode cX9_errors 35 = .ok (.bipush 36, 2) := by decide +kernel
theorem dX9_errors_37 : decode cX9_errors 37 = .ok (.invokevirtual 49, 3) := by decide +kernel
theorem dX9_errors_40 : decode cX9_errors 40 = .ok (.istore 4, 2) := by decide +kernel
theorem dX9_errors_42 : decode cX9_errors 42 = .ok (.iload 4, 2) := by decide +kernel
theorem dX9_errors_44 : decode cX9_errors 44 = .ok (.iload_n 2, 1) := by decide +kernel
theorem dX9_errors_45 : decode cX9_errors 45 = .ok (.if_icmp .ge 8, 3) := by decide +kernel
theorem dX9_errors_48 : decode cX9_errors 48 = .ok (.iload 4, 2) := by decide +kernel
theorem dX9_errors_50 : decode cX9_errors 50 = .ok (.goto 4, 3) := by decide +kernel
theorem dX9_errors_53 : decode cX9_errors 53 = .ok (.iload_n 2, 1) := by decide +kernel
theorem dX9_errors_54 : decode cX9_errors 54 = .ok (.istore 5, 2) := by decide +kernel
theorem dX9_errors_56 : decode cX9_errors 56 = .ok (.iconst 0, 1) := by decide +kernel
theorem dX9_errors_57 : decode cX9_errors 57 = .ok (.istore 6, 2) := by decide +kernel
theorem dX9_errors_59 : decode cX9_errors 59 = .ok (.iconst 0, 1) := by decide +kernel
theorem dX9_errors_60 : decode cX9_errors 60 = .ok (.istore 7, 2) := by decide +kernel
theorem dX9_errors_62 : decode cX9_errors 62 = .ok (.iconst 0, 1) := by decide +kernel
theorem dX9_errors_63 : decode cX9_errors 63 = .ok (.istore 8, 2) := by decide +kernel
theorem dX9_errors_65 : decode cX9_errors 65 = .ok (.iload 4, 2) := by decide +kernel
theorem dX9_errors_67 : decode cX9_errors 67 = .ok (.iload 5, 2) := by decide +kernel
theorem dX9_errors_69 : decode cX9_errors 69 = .ok (.isub, 1) := by decide +kernel
theorem dX9_errors_70 : decode cX9_errors 70 = .ok (.istore 9, 2) := by decide +kernel
theorem dX9_errors_72 : decode cX9_errors 72 = .ok (.iload 9, 2) := by decide +kernel
theorem dX9_errors_74 : decode cX9_errors 74 = .ok (.iload 4, 2) := by decide +kernel
theorem dX9_errors_76 : decode cX9_errors 76 = .ok (.if_icmp .ge 72, 3) := by decide +kernel
theorem dX9_errors_79 : decode cX9_errors 79 = .ok (.aload_n 0, 1) := by decide +kernel
theorem dX9_errors_80 : decode cX9_errors 80 = .ok (.iload_n 1, 1) := by decide +kernel
theorem dX9_errors_81 : decode cX9_errors 81 = .ok (.bipush 37, 2) := by decide +kernel
theorem dX9_errors_83 : decode cX9_errors 83 = .ok (.iload 9, 2) := by decide +kernel
theorem dX9_errors_85 : decode cX9_errors 85 = .ok (.bipush 60, 2) := by decide +kernel
theorem dX9_errors_87 : decode cX9_errors 87 = .ok (.irem, 1) := by decide +kernel
theorem dX9_errors_88 : decode cX9_errors 88 = .ok (.iadd, 1) := by decide +kernel
theorem dX9_errors_89 : decode cX9_errors 89 = .ok (.invokevirtual 49, 3) := by decide +kernel
theorem dX9_errors_92 : decode cX9_errors 92 = .ok (.invokestatic 80, 3) := by decide +kernel
theorem dX9_errors_95 : decode cX9_errors 95 = .ok (.istore 10, 2) := by decide +kernel
theorem dX9_errors_97 : decode cX9_errors 97 = .ok (.iload 10, 2) := by decide +kernel
theorem dX9_errors_99 : decode cX9_errors 99 = .ok (.iload 6, 2) := by decide +kernel
theorem dX9_errors_101 : decode cX9_errors 101 = .ok (.if_icmp .le 8, 3) := by decide +kernel
theorem dX9_errors_104 : decode cX9_errors 104 = .ok (.iload 10, 2) := by decide +kernel
theorem dX9_errors_106 : decode cX9_errors 106 = .ok (.goto 5, 3) := by decide +kernel
theorem dX9_errors_109 : decode cX9_errors 109 = .ok (.iload 6, 2) := by decide +kernel
theorem dX9_errors_111 : decode cX9_errors 111 = .ok (.istore 6, 2) := by decide +kernel
theorem dX9_errors_113 : decode cX9_errors 113 = .ok (.iload 7, 2) := by decide +kernel
theorem dX9_errors_115 : decode cX9_errors 115 = .ok (.iload 10, 2) := by decide +kernel
theorem dX9_errors_117 : decode cX9_errors 117 = .ok (.iadd, 1) := by decide +kernel
theorem dX9_errors_118 : decode cX9_errors 118 = .ok (.istore 7, 2) := by decide +kernel
theorem dX9_errors_120 : decode cX9_errors 120 = .ok (.iload 8, 2) := by decide +kernel
theorem dX9_errors_122 : decode cX9_errors 122 = .ok (.iload 10, 2) := by decide +kernel
theorem dX9_errors_124 : decode cX9_errors 124 = .ok (.aload_n 0, 1) := by decide +kernel
theorem dX9_errors_125 : decode cX9_errors 125 = .ok (.iload_n 1, 1) := by decide +kernel
theorem dX9_errors_126 : decode cX9_errors 126 = .ok (.bipush 6, 2) := by decide +kernel
theorem dX9_errors_128 : decode cX9_errors 128 = .ok (.invokevirtual 49, 3) := by decide +kernel
theorem dX9_errors_131 : decode cX9_errors 131 = .ok (.if_icmp .le 7, 3) := by decide +kernel
theorem dX9_errors_134 : decode cX9_errors 134 = .ok (.iconst 1, 1) := by decide +kernel
theorem dX9_errors_135 : decode cX9_errors 135 = .ok (.goto 4, 3) := by decide +kernel
theorem dX9_errors_138 : decode cX9_errors 138 = .ok (.iconst 0, 1) := by decide +kernel
theorem dX9_errors_139 : decode cX9_errors 139 = .ok (.iadd, 1) := by decide +kernel
theorem dX9_errors_140 : decode cX9_errors 140 = .ok (.istore 8, 2) := by decide +kernel
theorem dX9_errors_142 : decode cX9_errors 142 = .ok (.iinc 9 1, 3) := by decide +kernel
theorem dX9_errors_145 : decode cX9_errors 145 = .ok (.goto (-73), 3) := by decide +kernel
theorem dX9_errors_148 : decode cX9_errors 148 = .ok (.iload_n 3, 1) := by decide +kernel
theorem dX9_errors_149 : decode cX9_errors 149 = .ok (.ifCond .ne 8, 3) := by decide +kernel
theorem dX9_errors_152 : decode cX9_errors 152 = .ok (.iload 6, 2) := by decide +kernel
theorem dX9_errors_154 : decode cX9_errors 154 = .ok (.goto 25, 3) := by decide +kernel
theorem dX9_errors_157 : decode cX9_errors 157 = .ok (.iload_n 3, 1) := by decide +kernel
theorem dX9_errors_158 : decode cX9_errors 158 = .ok (.iconst 1, 1) := by decide +kernel
theorem dX9_errors_159 : decode cX9_errors 159 = .ok (.if_icmp .ne 8, 3) := by decide +kernel
theorem dX9_errors_162 : decode cX9_errors 162 = .ok (.iload 7, 2) := by decide +kernel
theorem dX9_errors_164 : decode cX9_errors 164 = .ok (.goto 15, 3) := by decide +kernel
theorem dX9_errors_167 : decode cX9_errors 167 = .ok (.iload_n 3, 1) := by decide +kernel
theorem dX9_errors_168 : decode cX9_errors 168 = .ok (.iconst 2, 1) := by decide +kernel
theorem dX9_errors_169 : decode cX9_errors 169 = .ok (.if_icmp .ne 8, 3) := by decide +kernel
theorem dX9_errors_172 : decode cX9_errors 172 = .ok (.iload 5, 2) := by decide +kernel
theorem dX9_errors_174 : decode cX9_errors 174 = .ok (.goto 5, 3) := by decide +kernel
theorem dX9_errors_177 : decode cX9_errors 177 = .ok (.iload 8, 2) := by decide +kernel
theorem dX9_errors_179 : decode cX9_errors 179 = .ok (.ireturn, 1) := by decide +kernel
theorem dX9_total_0 : decode cX9_total 0 = .ok (.iload_n 1, 1) := by decide +kernel
theorem dX9_total_1 : decode cX9_total 1 = .ok (.iconst 0, 1) := by decide +kernel
theorem dX9_total_2 : decode cX9_total 2 = .ok (.iconst 5, 1) := by decide +kernel
theorem dX9_total_3 : decode cX9_total 3 = .ok (.invokestatic 45, 3) := by decide +kernel
theorem dX9_total_6 : decode cX9_total 6 = .ok (.ifCond .eq 16, 3) := by decide +kernel
theorem dX9_total_9 : decode cX9_total 9 = .ok (.aload_n 0, 1) := by decide +kernel
theorem dX9_total_10 : decode cX9_total 10 = .ok (.getfield 9, 3) := by decide +kernel
theorem dX9_total_13 : decode cX9_total 13 = .ok (.sipush 1772, 3) := by decide +kernel
theorem dX9_total_16 : decode cX9_total 16 = .ok (.iload_n 1, 1) := by decide +kernel
theorem dX9_total_17 : decode cX9_total 17 = .ok (.iadd, 1) := by decide +kernel
theorem dX9_total_18 : decode cX9_total 18 = .ok (.iaload, 1) := by decide +kernel
theorem dX9_total_19 : decode cX9_total 19 = .ok (.goto 5, 3) := by decide +kernel
theorem dX9_total_22 : decode cX9_total 22 = .ok (.ldc 52, 2) := by decide +kernel
theorem dX9_total_24 : decode cX9_total 24 = .ok (.ireturn, 1) := by decide +kernel
theorem dX9_comesBack_0 : decode cX9_comesBack 0 = .ok (.iconst 0, 1) := by decide +kernel
theorem dX9_comesBack_1 : decode cX9_comesBack 1 = .ok (.istore 4, 2) := by decide +kernel
theorem dX9_comesBack_3 : decode cX9_comesBack 3 = .ok (.iconst 1, 1) := by decide +kernel
theorem dX9_comesBack_4 : decode cX9_comesBack 4 = .ok (.istore 5, 2) := by decide +kernel
theorem dX9_comesBack_6 : decode cX9_comesBack 6 = .ok (.iload 5, 2) := by decide +kernel
theorem dX9_comesBack_8 : decode cX9_comesBack 8 = .ok (.iload_n 3, 1) := by decide +kernel
theorem dX9_comesBack_9 : decode cX9_comesBack 9 = .ok (.if_icmp .gt 60, 3) := by decide +kernel
theorem dX9_comesBack_12 : decode cX9_comesBack 12 = .ok (.aload_n 0, 1) := by decide +kernel
theorem dX9_comesBack_13 : decode cX9_comesBack 13 = .ok (.iload_n 1, 1) := by decide +kernel
theorem dX9_comesBack_14 : decode cX9_comesBack 14 = .ok (.invokevirtual 90, 3) := by decide +kernel
theorem dX9_comesBack_17 : decode cX9_comesBack 17 = .ok (.istore 6, 2) := by decide +kernel
theorem dX9_comesBack_19 : decode cX9_comesBack 19 = .ok (.aload_n 0, 1) := by decide +kernel
theorem dX9_comesBack_20 : decode cX9_comesBack 20 = .ok (.invokevirtual 126, 3) := by decide +kernel
theorem dX9_comesBack_23 : decode cX9_comesBack 23 = .ok (.iload 6, 2) := by decide +kernel
theorem dX9_comesBack_25 : decode cX9_comesBack 25 = .ok (.ifCond .eq 24, 3) := by decide +kernel
theorem dX9_comesBack_28 : decode cX9_comesBack 28 = .ok (.aload_n 0, 1) := by decide +kernel
theorem dX9_comesBack_29 : decode cX9_comesBack 29 = .ok (.iload_n 1, 1) := by decide +kernel
theorem dX9_comesBack_30 : decode cX9_comesBack 30 = .ok (.bipush 31, 2) := by decide +kernel
theorem dX9_comesBack_32 : decode cX9_comesBack 32 = .ok (.invokevirtual 49, 3) := by decide +kernel
theorem dX9_comesBack_35 : decode cX9_comesBack 35 = .ok (.invokestatic 80, 3) := by decide +kernel
theorem dX9_comesBack_38 : decode cX9_comesBack 38 = .ok (.iload_n 2, 1) := by decide +kernel
theorem dX9_comesBack_39 : decode cX9_comesBack 39 = .ok (.if_icmp .gt 10, 3) := by decide +kernel
theorem dX9_comesBack_42 : decode cX9_comesBack 42 = .ok (.iload 4, 2) := by decide +kernel
theorem dX9_comesBack_44 : decode cX9_comesBack 44 = .ok (.iconst 1, 1) := by decide +kernel
theorem dX9_comesBack_45 : decode cX9_comesBack 45 = .ok (.iadd, 1) := by decide +kernel
theorem dX9_comesBack_46 : decode cX9_comesBack 46 = .ok (.goto 4, 3) := by decide +kernel
theorem dX9_comesBack_49 : decode cX9_comesBack 49 = .ok (.iconst 0, 1) := by decide +kernel
theorem dX9_comesBack_50 : decode cX9_comesBack 50 = .ok (.istore 4, 2) := by decide +kernel
theorem dX9_comesBack_52 : decode cX9_comesBack 52 = .ok (.iload 4, 2) := by decide +kernel
theorem dX9_comesBack_54 : decode cX9_comesBack 54 = .ok (.iconst 5, 1) := by decide +kernel
theorem dX9_comesBack_55 : decode cX9_comesBack 55 = .ok (.if_icmp .ne 8, 3) := by decide +kernel
theorem dX9_comesBack_58 : decode cX9_comesBack 58 = .ok (.iload 5, 2) := by decide +kernel
theorem dX9_comesBack_60 : decode cX9_comesBack 60 = .ok (.iconst 5, 1) := by decide +kernel
theorem dX9_comesBack_61 : decode cX9_comesBack 61 = .ok (.isub, 1) := by decide +kernel
theorem dX9_comesBack_62 : decode cX9_comesBack 62 = .ok (.ireturn, 1) := by decide +kernel
theorem dX9_comesBack_63 : decode cX9_comesBack 63 = .ok (.iinc 5 1, 3) := by decide +kernel
theorem dX9_comesBack_66 : decode cX9_comesBack 66 = .ok (.goto (-60), 3) := by decide +kernel
theorem dX9_comesBack_69 : decode cX9_comesBack 69 = .ok (.ldc 75, 2) := by decide +kernel
theorem dX9_comesBack_71 : decode cX9_comesBack 71 = .ok (.ireturn, 1) := by decide +kernel
theorem dX9_forecast_0 : decode cX9_forecast 0 = .ok (.aload_n 0, 1) := by decide +kernel
theorem dX9_forecast_1 : decode cX9_forecast 1 = .ok (.iload_n 1, 1) := by decide +kernel
theorem dX9_forecast_2 : decode cX9_forecast 2 = .ok (.invokevirtual 133, 3) := by decide +kernel
theorem dX9_forecast_5 : decode cX9_forecast 5 = .ok (.ifCond .ne 6, 3) := by decide +kernel
theorem dX9_forecast_8 : decode cX9_forecast 8 = .ok (.ldc 57, 2) := by decide +kernel
theorem dX9_forecast_10 : decode cX9_forecast 10 = .ok (.ireturn, 1) := by decide +kernel
theorem dX9_forecast_11 : decode cX9_forecast 11 = .ok (.iload_n 2, 1) := by decide +kernel
theorem dX9_forecast_12 : decode cX9_forecast 12 = .ok (.iconst 0, 1) := by decide +kernel
theorem dX9_forecast_13 : decode cX9_forecast 13 = .ok (.sipush 1000, 3) := by decide +kernel
theorem dX9_forecast_16 : decode cX9_forecast 16 = .ok (.invokestatic 45, 3) := by decide +kernel
theorem dX9_forecast_19 : decode cX9_forecast 19 = .ok (.ifCond .eq 14, 3) := by decide +kernel
theorem dX9_forecast_22 : decode cX9_forecast 22 = .ok (.iload_n 3, 1) := by decide +kernel
theorem dX9_forecast_23 : decode cX9_forecast 23 = .ok (.iconst 5, 1) := by decide +kernel
theorem dX9_forecast_24 : decode cX9_forecast 24 = .ok (.sipush 300, 3) := by decide +kernel
theorem dX9_forecast_27 : decode cX9_forecast 27 = .ok (.invokestatic 45, 3) := by decide +kernel
theorem dX9_forecast_30 : decode cX9_forecast 30 = .ok (.ifCond .ne 6, 3) := by decide +kernel
theorem dX9_forecast_33 : decode cX9_forecast 33 = .ok (.ldc 52, 2) := by decide +kernel
theorem dX9_forecast_35 : decode cX9_forecast 35 = .ok (.ireturn, 1) := by decide +kernel
theorem dX9_forecast_36 : decode cX9_forecast 36 = .ok (.aload_n 0, 1) := by decide +kernel
theorem dX9_forecast_37 : decode cX9_forecast 37 = .ok (.invokevirtual 136, 3) := by decide +kernel
theorem dX9_forecast_40 : decode cX9_forecast 40 = .ok (.aload_n 0, 1) := by decide +kernel
theorem dX9_forecast_41 : decode cX9_forecast 41 = .ok (.iload_n 1, 1) := by decide +kernel
theorem dX9_forecast_42 : decode cX9_forecast 42 = .ok (.iload_n 2, 1) := by decide +kernel
theorem dX9_forecast_43 : decode cX9_forecast 43 = .ok (.iload_n 3, 1) := by decide +kernel
theorem dX9_forecast_44 : decode cX9_forecast 44 = .ok (.invokevirtual 139, 3) := by decide +kernel
theorem dX9_forecast_47 : decode cX9_forecast 47 = .ok (.istore 4, 2) := by decide +kernel
theorem dX9_forecast_49 : decode cX9_forecast 49 = .ok (.aload_n 0, 1) := by decide +kernel
theorem dX9_forecast_50 : decode cX9_forecast 50 = .ok (.invokevirtual 143, 3) := by decide +kernel
theorem dX9_forecast_53 : decode cX9_forecast 53 = .ok (.iload 4, 2) := by decide +kernel
theorem dX9_forecast_55 : decode cX9_forecast 55 = .ok (.ireturn, 1) := by decide +kernel
theorem dX9_tried_0 : decode cX9_tried 0 = .ok (.aload_n 0, 1) := by decide +kernel
theorem dX9_tried_1 : decode cX9_tried 1 = .ok (.invokevirtual 136, 3) := by decide +kernel
theorem dX9_tried_4 : decode cX9_tried 4 = .ok (.aload_n 0, 1) := by decide +kernel
theorem dX9_tried_5 : decode cX9_tried 5 = .ok (.iload_n 1, 1) := by decide +kernel
theorem dX9_tried_6 : decode cX9_tried 6 = .ok (.iload_n 2, 1) := by decide +kernel
theorem dX9_tried_7 : decode cX9_tried 7 = .ok (.iload_n 3, 1) := by decide +kernel
theorem dX9_tried_8 : decode cX9_tried 8 = .ok (.invokevirtual 41, 3) := by decide +kernel
theorem dX9_tried_11 : decode cX9_tried 11 = .ok (.iconst 0, 1) := by decide +kernel
theorem dX9_tried_12 : decode cX9_tried 12 = .ok (.istore 5, 2) := by decide +kernel
theorem dX9_tried_14 : decode cX9_tried 14 = .ok (.iconst 0, 1) := by decide +kernel
theorem dX9_tried_15 : decode cX9_tried 15 = .ok (.istore 6, 2) := by decide +kernel
theorem dX9_tried_17 : decode cX9_tried 17 = .ok (.iload 6, 2) := by decide +kernel
theorem dX9_tried_19 : decode cX9_tried 19 = .ok (.iload 4, 2) := by decide +kernel
theorem dX9_tried_21 : decode cX9_tried 21 = .ok (.if_icmp .ge 44, 3) := by decide +kernel
theorem dX9_tried_24 : decode cX9_tried 24 = .ok (.aload_n 0, 1) := by decide +kernel
theorem dX9_tried_25 : decode cX9_tried 25 = .ok (.iload_n 1, 1) := by decide +kernel
theorem dX9_tried_26 : decode cX9_tried 26 = .ok (.invokevirtual 90, 3) := by decide +kernel
theorem dX9_tried_29 : decode cX9_tried 29 = .ok (.istore 7, 2) := by decide +kernel
theorem dX9_tried_31 : decode cX9_tried 31 = .ok (.aload_n 0, 1) := by decide +kernel
theorem dX9_tried_32 : decode cX9_tried 32 = .ok (.invokevirtual 126, 3) := by decide +kernel
theorem dX9_tried_35 : decode cX9_tried 35 = .ok (.iload 5, 2) := by decide +kernel
theorem dX9_tried_37 : decode cX9_tried 37 = .ok (.iload 7, 2) := by decide +kernel
theorem dX9_tried_39 : decode cX9_tried 39 = .ok (.ifCond .eq 16, 3) := by decide +kernel
theorem dX9_tried_42 : decode cX9_tried 42 = .ok (.aload_n 0, 1) := by decide +kernel
theorem dX9_tried_43 : decode cX9_tried 43 = .ok (.iload_n 1, 1) := by decide +kernel
theorem dX9_tried_44 : decode cX9_tried 44 = .ok (.bipush 31, 2) := by decide +kernel
theorem dX9_tried_46 : decode cX9_tried 46 = .ok (.invokevirtual 49, 3) := by decide +kernel
theorem dX9_tried_49 : decode cX9_tried 49 = .ok (.invokestatic 80, 3) := by decide +kernel
theorem dX9_tried_52 : decode cX9_tried 52 = .ok (.goto 4, 3) := by decide +kernel
theorem dX9_tried_55 : decode cX9_tried 55 = .ok (.iconst 0, 1) := by decide +kernel
theorem dX9_tried_56 : decode cX9_tried 56 = .ok (.iadd, 1) := by decide +kernel
theorem dX9_tried_57 : decode cX9_tried 57 = .ok (.istore 5, 2) := by decide +kernel
theorem dX9_tried_59 : decode cX9_tried 59 = .ok (.iinc 6 1, 3) := by decide +kernel
theorem dX9_tried_62 : decode cX9_tried 62 = .ok (.goto (-45), 3) := by decide +kernel
theorem dX9_tried_65 : decode cX9_tried 65 = .ok (.aload_n 0, 1) := by decide +kernel
theorem dX9_tried_66 : decode cX9_tried 66 = .ok (.invokevirtual 143, 3) := by decide +kernel
theorem dX9_tried_69 : decode cX9_tried 69 = .ok (.iload 5, 2) := by decide +kernel
theorem dX9_tried_71 : decode cX9_tried 71 = .ok (.ireturn, 1) := by decide +kernel
theorem dX9_attempt_0 : decode cX9_attempt 0 = .ok (.aload_n 0, 1) := by decide +kernel
theorem dX9_attempt_1 : decode cX9_attempt 1 = .ok (.iload_n 1, 1) := by decide +kernel
theorem dX9_attempt_2 : decode cX9_attempt 2 = .ok (.invokevirtual 133, 3) := by decide +kernel
theorem dX9_attempt_5 : decode cX9_attempt 5 = .ok (.ifCond .ne 6, 3) := by decide +kernel
theorem dX9_attempt_8 : decode cX9_attempt 8 = .ok (.ldc 57, 2) := by decide +kernel
theorem dX9_attempt_10 : decode cX9_attempt 10 = .ok (.ireturn, 1) := by decide +kernel
theorem dX9_attempt_11 : decode cX9_attempt 11 = .ok (.iload_n 2, 1) := by decide +kernel
theorem dX9_attempt_12 : decode cX9_attempt 12 = .ok (.iconst 1, 1) := by decide +kernel
theorem dX9_attempt_13 : decode cX9_attempt 13 = .ok (.if_icmp .le 23, 3) := by decide +kernel
theorem dX9_attempt_16 : decode cX9_attempt 16 = .ok (.iload_n 2, 1) := by decide +kernel
theorem dX9_attempt_17 : decode cX9_attempt 17 = .ok (.iload_n 3, 1) := by decide +kernel
theorem dX9_attempt_18 : decode cX9_attempt 18 = .ok (.invokestatic 58, 3) := by decide +kernel
theorem dX9_attempt_21 : decode cX9_attempt 21 = .ok (.ifCond .eq 15, 3) := by decide +kernel
theorem dX9_attempt_24 : decode cX9_attempt 24 = .ok (.iload 4, 2) := by decide +kernel
theorem dX9_attempt_26 : decode cX9_attempt 26 = .ok (.iconst 1, 1) := by decide +kernel
theorem dX9_attempt_27 : decode cX9_attempt 27 = .ok (.sipush 300, 3) := by decide +kernel
theorem dX9_attempt_30 : decode cX9_attempt 30 = .ok (.invokestatic 45, 3) := by decide +kernel
theorem dX9_attempt_33 : decode cX9_attempt 33 = .ok (.ifCond .ne 6, 3) := by decide +kernel
theorem dX9_attempt_36 : decode cX9_attempt 36 = .ok (.ldc 52, 2) := by decide +kernel
theorem dX9_attempt_38 : decode cX9_attempt 38 = .ok (.ireturn, 1) := by decide +kernel
theorem dX9_attempt_39 : decode cX9_attempt 39 = .ok (.aload_n 0, 1) := by decide +kernel
theorem dX9_attempt_40 : decode cX9_attempt 40 = .ok (.iload_n 1, 1) := by decide +kernel
theorem dX9_attempt_41 : decode cX9_attempt 41 = .ok (.iload_n 2, 1) := by decide +kernel
theorem dX9_attempt_42 : decode cX9_attempt 42 = .ok (.iload_n 3, 1) := by decide +kernel
theorem dX9_attempt_43 : decode cX9_attempt 43 = .ok (.iload 4, 2) := by decide +kernel
theorem dX9_attempt_45 : decode cX9_attempt 45 = .ok (.invokevirtual 146, 3) := by decide +kernel
theorem dX9_attempt_48 : decode cX9_attempt 48 = .ok (.ireturn, 1) := by decide +kernel
theorem dX9_bestGain_0 : decode cX9_bestGain 0 = .ok (.aload_n 0, 1) := by decide +kernel
theorem dX9_bestGain_1 : decode cX9_bestGain 1 = .ok (.iload_n 1, 1) := by decide +kernel
theorem dX9_bestGain_2 : decode cX9_bestGain 2 = .ok (.invokevirtual 133, 3) := by decide +kernel
theorem dX9_bestGain_5 : decode cX9_bestGain 5 = .ok (.ifCond .ne 6, 3) := by decide +kernel
theorem dX9_bestGain_8 : decode cX9_bestGain 8 = .ok (.ldc 57, 2) := by decide +kernel
theorem dX9_bestGain_10 : decode cX9_bestGain 10 = .ok (.ireturn, 1) := by decide +kernel
theorem dX9_bestGain_11 : decode cX9_bestGain 11 = .ok (.iload_n 2, 1) := by decide +kernel
theorem dX9_bestGain_12 : decode cX9_bestGain 12 = .ok (.iconst 0, 1) := by decide +kernel
theorem dX9_bestGain_13 : decode cX9_bestGain 13 = .ok (.sipush 256, 3) := by decide +kernel
theorem dX9_bestGain_16 : decode cX9_bestGain 16 = .ok (.invokestatic 45, 3) := by decide +kernel
theorem dX9_bestGain_19 : decode cX9_bestGain 19 = .ok (.ifCond .eq 51, 3) := by decide +kernel
theorem dX9_bestGain_22 : decode cX9_bestGain 22 = .ok (.iload_n 3, 1) := by decide +kernel
theorem dX9_bestGain_23 : decode cX9_bestGain 23 = .ok (.iconst 1, 1) := by decide +kernel
theorem dX9_bestGain_24 : decode cX9_bestGain 24 = .ok (.sipush 128, 3) := by decide +kernel
theorem dX9_bestGain_27 : decode cX9_bestGain 27 = .ok (.invokestatic 45, 3) := by decide +kernel
theorem dX9_bestGain_30 : decode cX9_bestGain 30 = .ok (.ifCond .eq 40, 3) := by decide +kernel
theorem dX9_bestGain_33 : decode cX9_bestGain 33 = .ok (.iload 4, 2) := by decide +kernel
theorem dX9_bestGain_35 : decode cX9_bestGain 35 = .ok (.iconst 1, 1) := by decide +kernel
theorem dX9_bestGain_36 : decode cX9_bestGain 36 = .ok (.bipush 8, 2) := by decide +kernel
theorem dX9_bestGain_38 : decode cX9_bestGain 38 = .ok (.invokestatic 45, 3) := by decide +kernel
theorem dX9_bestGain_41 : decode cX9_bestGain 41 = .ok (.ifCond .eq 29, 3) := by decide +kernel
theorem dX9_bestGain_44 : decode cX9_bestGain 44 = .ok (.iload_n 2, 1) := by decide +kernel
theorem dX9_bestGain_45 : decode cX9_bestGain 45 = .ok (.iload_n 3, 1) := by decide +kernel
theorem dX9_bestGain_46 : decode cX9_bestGain 46 = .ok (.iload 4, 2) := by decide +kernel
theorem dX9_bestGain_48 : decode cX9_bestGain 48 = .ok (.iconst 1, 1) := by decide +kernel
theorem dX9_bestGain_49 : decode cX9_bestGain 49 = .ok (.isub, 1) := by decide +kernel
theorem dX9_bestGain_50 : decode cX9_bestGain 50 = .ok (.imul, 1) := by decide +kernel
theorem dX9_bestGain_51 : decode cX9_bestGain 51 = .ok (.iadd, 1) := by decide +kernel
theorem dX9_bestGain_52 : decode cX9_bestGain 52 = .ok (.sipush 256, 3) := by decide +kernel
theorem dX9_bestGain_55 : decode cX9_bestGain 55 = .ok (.if_icmp .gt 15, 3) := by decide +kernel
theorem dX9_bestGain_58 : decode cX9_bestGain 58 = .ok (.iload 5, 2) := by decide +kernel
theorem dX9_bestGain_60 : decode cX9_bestGain 60 = .ok (.iconst 1, 1) := by decide +kernel
theorem dX9_bestGain_61 : decode cX9_bestGain 61 = .ok (.sipush 300, 3) := by decide +kernel
theorem dX9_bestGain_64 : decode cX9_bestGain 64 = .ok (.invokestatic 45, 3) := by decide +kernel
theorem dX9_bestGain_67 : decode cX9_bestGain 67 = .ok (.ifCond .ne 6, 3) := by decide +kernel
theorem dX9_bestGain_70 : decode cX9_bestGain 70 = .ok (.ldc 52, 2) := by decide +kernel
theorem dX9_bestGain_72 : decode cX9_bestGain 72 = .ok (.ireturn, 1) := by decide +kernel
theorem dX9_bestGain_73 : decode cX9_bestGain 73 = .ok (.iload_n 2, 1) := by decide +kernel
theorem dX9_bestGain_74 : decode cX9_bestGain 74 = .ok (.istore 6, 2) := by decide +kernel
theorem dX9_bestGain_76 : decode cX9_bestGain 76 = .ok (.aload_n 0, 1) := by decide +kernel
theorem dX9_bestGain_77 : decode cX9_bestGain 77 = .ok (.iload_n 1, 1) := by decide +kernel
theorem dX9_bestGain_78 : decode cX9_bestGain 78 = .ok (.iconst 4, 1) := by decide +kernel
theorem dX9_bestGain_79 : decode cX9_bestGain 79 = .ok (.iload_n 2, 1) := by decide +kernel
theorem dX9_bestGain_80 : decode cX9_bestGain 80 = .ok (.iload 5, 2) := by decide +kernel
theorem dX9_bestGain_82 : decode cX9_bestGain 82 = .ok (.invokevirtual 146, 3) := by decide +kernel
theorem dX9_bestGain_85 : decode cX9_bestGain 85 = .ok (.istore 7, 2) := by decide +kernel
theorem dX9_bestGain_87 : decode cX9_bestGain 87 = .ok (.iconst 1, 1) := by decide +kernel
theorem dX9_bestGain_88 : decode cX9_bestGain 88 = .ok (.istore 8, 2) := by decide +kernel
theorem dX9_bestGain_90 : decode cX9_bestGain 90 = .ok (.iload 8, 2) := by decide +kernel
theorem dX9_bestGain_92 : decode cX9_bestGain 92 = .ok (.iload 4, 2) := by decide +kernel
theorem dX9_bestGain_94 : decode cX9_bestGain 94 = .ok (.if_icmp .ge 61, 3) := by decide +kernel
theorem dX9_bestGain_97 : decode cX9_bestGain 97 = .ok (.aload_n 0, 1) := by decide +kernel
theorem dX9_bestGain_98 : decode cX9_bestGain 98 = .ok (.iload_n 1, 1) := by decide +kernel
theorem dX9_bestGain_99 : decode cX9_bestGain 99 = .ok (.iconst 4, 1) := by decide +kernel
theorem dX9_bestGain_100 : decode cX9_bestGain 100 = .ok (.iload_n 2, 1) := by decide +kernel
theorem dX9_bestGain_101 : decode cX9_bestGain 101 = .ok (.iload_n 3, 1) := by decide +kernel
theorem dX9_bestGain_102 : decode cX9_bestGain 102 = .ok (.iload 8, 2) := by decide +kernel
theorem dX9_bestGain_104 : decode cX9_bestGain 104 = .ok (.imul, 1) := by decide +kernel
theorem dX9_bestGain_105 : decode cX9_bestGain 105 = .ok (.iadd, 1) := by decide +kernel
theorem dX9_bestGain_106 : decode cX9_bestGain 106 = .ok (.iload 5, 2) := by decide +kernel
theorem dX9_bestGain_108 : decode cX9_bestGain 108 = .ok (.invokevirtual 146, 3) := by decide +kernel
theorem dX9_bestGain_111 : decode cX9_bestGain 111 = .ok (.istore 9, 2) := by decide +kernel
theorem dX9_bestGain_113 : decode cX9_bestGain 113 = .ok (.iload 9, 2) := by decide +kernel
theorem dX9_bestGain_115 : decode cX9_bestGain 115 = .ok (.iload 7, 2) := by decide +kernel
theorem dX9_bestGain_117 : decode cX9_bestGain 117 = .ok (.if_icmp .ge 12, 3) := by decide +kernel
theorem dX9_bestGain_120 : decode cX9_bestGain 120 = .ok (.iload_n 2, 1) := by decide +kernel
theorem dX9_bestGain_121 : decode cX9_bestGain 121 = .ok (.iload_n 3, 1) := by decide +kernel
theorem dX9_bestGain_122 : decode cX9_bestGain 122 = .ok (.iload 8, 2) := by decide +kernel
theorem dX9_bestGain_124 : decode cX9_bestGain 124 = .ok (.imul, 1) := by decide +kernel
theorem dX9_bestGain_125 : decode cX9_bestGain 125 = .ok (.iadd, 1) := by decide +kernel
theorem dX9_bestGain_126 : decode cX9_bestGain 126 = .ok (.goto 5, 3) := by decide +kernel
theorem dX9_bestGain_129 : decode cX9_bestGain 129 = .ok (.iload 6, 2) := by decide +kernel
theorem dX9_bestGain_131 : decode cX9_bestGain 131 = .ok (.istore 6, 2) := by decide +kernel
theorem dX9_bestGain_133 : decode cX9_bestGain 133 = .ok (.iload 9, 2) := by decide +kernel
theorem dX9_bestGain_135 : decode cX9_bestGain 135 = .ok (.iload 7, 2) := by decide +kernel
theorem dX9_bestGain_137 : decode cX9_bestGain 137 = .ok (.if_icmp .ge 8, 3) := by decide +kernel
theorem dX9_bestGain_140 : decode cX9_bestGain 140 = .ok (.iload 9, 2) := by decide +kernel
theorem dX9_bestGain_142 : decode cX9_bestGain 142 = .ok (.goto 5, 3) := by decide +kernel
theorem dX9_bestGain_145 : decode cX9_bestGain 145 = .ok (.iload 7, 2) := by decide +kernel
theorem dX9_bestGain_147 : decode cX9_bestGain 147 = .ok (.istore 7, 2) := by decide +kernel
theorem dX9_bestGain_149 : decode cX9_bestGain 149 = .ok (.iinc 8 1, 3) := by decide +kernel
theorem dX9_bestGain_152 : decode cX9_bestGain 152 = .ok (.goto (-62), 3) := by decide +kernel
theorem dX9_bestGain_155 : decode cX9_bestGain 155 = .ok (.iload 6, 2) := by decide +kernel
theorem dX9_bestGain_157 : decode cX9_bestGain 157 = .ok (.ireturn, 1) := by decide +kernel
theorem dX9_put_0 : decode cX9_put 0 = .ok (.iconst 0, 1) := by decide +kernel
theorem dX9_put_1 : decode cX9_put 1 = .ok (.istore_n 3, 1) := by decide +kernel
theorem dX9_put_2 : decode cX9_put 2 = .ok (.lload_n 1, 1) := by decide +kernel
theorem dX9_put_3 : decode cX9_put 3 = .ok (.lstore 4, 2) := by decide +kernel
theorem dX9_put_5 : decode cX9_put 5 = .ok (.iload_n 3, 1) := by decide +kernel
theorem dX9_put_6 : decode cX9_put 6 = .ok (.bipush 8, 2) := by decide +kernel
theorem dX9_put_8 : decode cX9_put 8 = .ok (.if_icmp .ge 47, 3) := by decide +kernel
theorem dX9_put_11 : decode cX9_put 11 = .ok (.lload 4, 2) := by decide +kernel
theorem dX9_put_13 : decode cX9_put 13 = .ok (.ldc2_w 150, 3) := by decide +kernel
theorem dX9_put_16 : decode cX9_put 16 = .ok (.land, 1) := by decide +kernel
theorem dX9_put_17 : decode cX9_put 17 = .ok (.lconst 0, 1) := by decide +kernel
theorem dX9_put_18 : decode cX9_put 18 = .ok (.lcmp, 1) := by decide +kernel
theorem dX9_put_19 : decode cX9_put 19 = .ok (.ifCond .eq 36, 3) := by decide +kernel
theorem dX9_put_22 : decode cX9_put 22 = .ok (.lload 4, 2) := by decide +kernel
theorem dX9_put_24 : decode cX9_put 24 = .ok (.ldc2_w 150, 3) := by decide +kernel
theorem dX9_put_27 : decode cX9_put 27 = .ok (.land, 1) := by decide +kernel
theorem dX9_put_28 : decode cX9_put 28 = .ok (.l2i, 1) := by decide +kernel
theorem dX9_put_29 : decode cX9_put 29 = .ok (.bipush 33, 2) := by decide +kernel
theorem dX9_put_31 : decode cX9_put 31 = .ok (.bipush 126, 2) := by decide +kernel
theorem dX9_put_33 : decode cX9_put 33 = .ok (.invokestatic 45, 3) := by decide +kernel
theorem dX9_put_36 : decode cX9_put 36 = .ok (.ifCond .ne 6, 3) := by decide +kernel
theorem dX9_put_39 : decode cX9_put 39 = .ok (.ldc 52, 2) := by decide +kernel
theorem dX9_put_41 : decode cX9_put 41 = .ok (.ireturn, 1) := by decide +kernel
theorem dX9_put_42 : decode cX9_put 42 = .ok (.iinc 3 1, 3) := by decide +kernel
theorem dX9_put_45 : decode cX9_put 45 = .ok (.lload 4, 2) := by decide +kernel
theorem dX9_put_47 : decode cX9_put 47 = .ok (.bipush 8, 2) := by decide +kernel
theorem dX9_put_49 : decode cX9_put 49 = .ok (.lushr, 1) := by decide +kernel
theorem dX9_put_50 : decode cX9_put 50 = .ok (.lstore 4, 2) := by decide +kernel
theorem dX9_put_52 : decode cX9_put 52 = .ok (.goto (-47), 3) := by decide +kernel
theorem dX9_put_55 : decode cX9_put 55 = .ok (.iload_n 3, 1) := by decide +kernel
theorem dX9_put_56 : decode cX9_put 56 = .ok (.ifCond .eq 10, 3) := by decide +kernel
theorem dX9_put_59 : decode cX9_put 59 = .ok (.lload 4, 2) := by decide +kernel
theorem dX9_put_61 : decode cX9_put 61 = .ok (.lconst 0, 1) := by decide +kernel
theorem dX9_put_62 : decode cX9_put 62 = .ok (.lcmp, 1) := by decide +kernel
theorem dX9_put_63 : decode cX9_put 63 = .ok (.ifCond .eq 6, 3) := by decide +kernel
theorem dX9_put_66 : decode cX9_put 66 = .ok (.ldc 52, 2) := by decide +kernel
theorem dX9_put_68 : decode cX9_put 68 = .ok (.ireturn, 1) := by decide +kernel
theorem dX9_put_69 : decode cX9_put 69 = .ok (.aload_n 0, 1) := by decide +kernel
theorem dX9_put_70 : decode cX9_put 70 = .ok (.getfield 152, 3) := by decide +kernel
theorem dX9_put_73 : decode cX9_put 73 = .ok (.iload_n 3, 1) := by decide +kernel
theorem dX9_put_74 : decode cX9_put 74 = .ok (.iadd, 1) := by decide +kernel
theorem dX9_put_75 : decode cX9_put 75 = .ok (.bipush 80, 2) := by decide +kernel
theorem dX9_put_77 : decode cX9_put 77 = .ok (.if_icmp .le 6, 3) := by decide +kernel
theorem dX9_put_80 : decode cX9_put 80 = .ok (.ldc 156, 2) := by decide +kernel
theorem dX9_put_82 : decode cX9_put 82 = .ok (.ireturn, 1) := by decide +kernel
theorem dX9_put_83 : decode cX9_put 83 = .ok (.iconst 0, 1) := by decide +kernel
theorem dX9_put_84 : decode cX9_put 84 = .ok (.istore 6, 2) := by decide +kernel
theorem dX9_put_86 : decode cX9_put 86 = .ok (.iload 6, 2) := by decide +kernel
theorem dX9_put_88 : decode cX9_put 88 = .ok (.iload_n 3, 1) := by decide +kernel
theorem dX9_put_89 : decode cX9_put 89 = .ok (.if_icmp .ge 37, 3) := by decide +kernel
theorem dX9_put_92 : decode cX9_put 92 = .ok (.aload_n 0, 1) := by decide +kernel
theorem dX9_put_93 : decode cX9_put 93 = .ok (.getfield 23, 3) := by decide +kernel
theorem dX9_put_96 : decode cX9_put 96 = .ok (.aload_n 0, 1) := by decide +kernel
theorem dX9_put_97 : decode cX9_put 97 = .ok (.getfield 152, 3) := by decide +kernel
theorem dX9_put_100 : decode cX9_put 100 = .ok (.iload 6, 2) := by decide +kernel
theorem dX9_put_102 : decode cX9_put 102 = .ok (.iadd, 1) := by decide +kernel
theorem dX9_put_103 : decode cX9_put 103 = .ok (.lload_n 1, 1) := by decide +kernel
theorem dX9_put_104 : decode cX9_put 104 = .ok (.bipush 8, 2) := by decide +kernel
theorem dX9_put_106 : decode cX9_put 106 = .ok (.iload_n 3, 1) := by decide +kernel
theorem dX9_put_107 : decode cX9_put 107 = .ok (.iconst 1, 1) := by decide +kernel
theorem dX9_put_108 : decode cX9_put 108 = .ok (.isub, 1) := by decide +kernel
theorem dX9_put_109 : decode cX9_put 109 = .ok (.iload 6, 2) := by decide +kernel
theorem dX9_put_111 : decode cX9_put 111 = .ok (.isub, 1) := by decide +kernel
theorem dX9_put_112 : decode cX9_put 112 = .ok (.imul, 1) := by decide +kernel
theorem dX9_put_113 : decode cX9_put 113 = .ok (.lshr, 1) := by decide +kernel
theorem dX9_put_114 : decode cX9_put 114 = .ok (.ldc2_w 150, 3) := by decide +kernel
theorem dX9_put_117 : decode cX9_put 117 = .ok (.land, 1) := by decide +kernel
theorem dX9_put_118 : decode cX9_put 118 = .ok (.l2i, 1) := by decide +kernel
theorem dX9_put_119 : decode cX9_put 119 = .ok (.iastore, 1) := by decide +kernel
theorem dX9_put_120 : decode cX9_put 120 = .ok (.iinc 6 1, 3) := by decide +kernel
theorem dX9_put_123 : decode cX9_put 123 = .ok (.goto (-37), 3) := by decide +kernel
theorem dX9_put_126 : decode cX9_put 126 = .ok (.aload_n 0, 1) := by decide +kernel
theorem dX9_put_127 : decode cX9_put 127 = .ok (.dup, 1) := by decide +kernel
theorem dX9_put_128 : decode cX9_put 128 = .ok (.getfield 152, 3) := by decide +kernel
theorem dX9_put_131 : decode cX9_put 131 = .ok (.iload_n 3, 1) := by decide +kernel
theorem dX9_put_132 : decode cX9_put 132 = .ok (.iadd, 1) := by decide +kernel
theorem dX9_put_133 : decode cX9_put 133 = .ok (.putfield 152, 3) := by decide +kernel
theorem dX9_put_136 : decode cX9_put 136 = .ok (.aload_n 0, 1) := by decide +kernel
theorem dX9_put_137 : decode cX9_put 137 = .ok (.getfield 152, 3) := by decide +kernel
theorem dX9_put_140 : decode cX9_put 140 = .ok (.ireturn, 1) := by decide +kernel
theorem dX9_wipe_0 : decode cX9_wipe 0 = .ok (.aload_n 0, 1) := by decide +kernel
theorem dX9_wipe_1 : decode cX9_wipe 1 = .ok (.getfield 152, 3) := by decide +kernel
theorem dX9_wipe_4 : decode cX9_wipe 4 = .ok (.istore_n 1, 1) := by decide +kernel
theorem dX9_wipe_5 : decode cX9_wipe 5 = .ok (.aload_n 0, 1) := by decide +kernel
theorem dX9_wipe_6 : decode cX9_wipe 6 = .ok (.iconst 0, 1) := by decide +kernel
theorem dX9_wipe_7 : decode cX9_wipe 7 = .ok (.putfield 152, 3) := by decide +kernel
theorem dX9_wipe_10 : decode cX9_wipe 10 = .ok (.iload_n 1, 1) := by decide +kernel
theorem dX9_wipe_11 : decode cX9_wipe 11 = .ok (.ireturn, 1) := by decide +kernel
theorem dX9_next_0 : decode cX9_next 0 = .ok (.aload_n 0, 1) := by decide +kernel
theorem dX9_next_1 : decode cX9_next 1 = .ok (.getfield 157, 3) := by decide +kernel
theorem dX9_next_4 : decode cX9_next 4 = .ok (.aload_n 0, 1) := by decide +kernel
theorem dX9_next_5 : decode cX9_next 5 = .ok (.getfield 152, 3) := by decide +kernel
theorem dX9_next_8 : decode cX9_next 8 = .ok (.if_icmp .ge 15, 3) := by decide +kernel
theorem dX9_next_11 : decode cX9_next 11 = .ok (.aload_n 0, 1) := by decide +kernel
theorem dX9_next_12 : decode cX9_next 12 = .ok (.getfield 23, 3) := by decide +kernel
theorem dX9_next_15 : decode cX9_next 15 = .ok (.aload_n 0, 1) := by decide +kernel
theorem dX9_next_16 : decode cX9_next 16 = .ok (.getfield 157, 3) := by decide +kernel
theorem dX9_next_19 : decode cX9_next 19 = .ok (.iaload, 1) := by decide +kernel
theorem dX9_next_20 : decode cX9_next 20 = .ok (.goto 4, 3) := by decide +kernel
theorem dX9_next_23 : decode cX9_next 23 = .ok (.iconst 0, 1) := by decide +kernel
theorem dX9_next_24 : decode cX9_next 24 = .ok (.ireturn, 1) := by decide +kernel
theorem dX9_need_0 : decode cX9_need 0 = .ok (.aload_n 0, 1) := by decide +kernel
theorem dX9_need_1 : decode cX9_need 1 = .ok (.aload_n 0, 1) := by decide +kernel
theorem dX9_need_2 : decode cX9_need 2 = .ok (.getfield 160, 3) := by decide +kernel
theorem dX9_need_5 : decode cX9_need 5 = .ok (.ifCond .ne 11, 3) := by decide +kernel
theorem dX9_need_8 : decode cX9_need 8 = .ok (.aload_n 0, 1) := by decide +kernel
theorem dX9_need_9 : decode cX9_need 9 = .ok (.invokevirtual 164, 3) := by decide +kernel
theorem dX9_need_12 : decode cX9_need 12 = .ok (.iload_n 1, 1) := by decide +kernel
theorem dX9_need_13 : decode cX9_need 13 = .ok (.if_icmp .eq 7, 3) := by decide +kernel
theorem dX9_need_16 : decode cX9_need 16 = .ok (.iconst 1, 1) := by decide +kernel
theorem dX9_need_17 : decode cX9_need 17 = .ok (.goto 4, 3) := by decide +kernel
theorem dX9_need_20 : decode cX9_need 20 = .ok (.iconst 0, 1) := by decide +kernel
theorem dX9_need_21 : decode cX9_need 21 = .ok (.putfield 160, 3) := by decide +kernel
theorem dX9_need_24 : decode cX9_need 24 = .ok (.aload_n 0, 1) := by decide +kernel
theorem dX9_need_25 : decode cX9_need 25 = .ok (.dup, 1) := by decide +kernel
theorem dX9_need_26 : decode cX9_need 26 = .ok (.getfield 157, 3) := by decide +kernel
theorem dX9_need_29 : decode cX9_need 29 = .ok (.aload_n 0, 1) := by decide +kernel
theorem dX9_need_30 : decode cX9_need 30 = .ok (.getfield 160, 3) := by decide +kernel
theorem dX9_need_33 : decode cX9_need 33 = .ok (.ifCond .eq 7, 3) := by decide +kernel
theorem dX9_need_36 : decode cX9_need 36 = .ok (.iconst 0, 1) := by decide +kernel
theorem dX9_need_37 : decode cX9_need 37 = .ok (.goto 4, 3) := by decide +kernel
theorem dX9_need_40 : decode cX9_need 40 = .ok (.iconst 1, 1) := by decide +kernel
theorem dX9_need_41 : decode cX9_need 41 = .ok (.iadd, 1) := by decide +kernel
theorem dX9_need_42 : decode cX9_need 42 = .ok (.putfield 157, 3) := by decide +kernel
theorem dX9_need_45 : decode cX9_need 45 = .ok (.return_, 1) := by decide +kernel
theorem dX9_readNumber_0 : decode cX9_readNumber 0 = .ok (.aload_n 0, 1) := by decide +kernel
theorem dX9_readNumber_1 : decode cX9_readNumber 1 = .ok (.getfield 160, 3) := by decide +kernel
theorem dX9_readNumber_4 : decode cX9_readNumber 4 = .ok (.ifCond .ne 19, 3) := by decide +kernel
theorem dX9_readNumber_7 : decode cX9_readNumber 7 = .ok (.aload_n 0, 1) := by decide +kernel
theorem dX9_readNumber_8 : decode cX9_readNumber 8 = .ok (.invokevirtual 164, 3) := by decide +kernel
theorem dX9_readNumber_11 : decode cX9_readNumber 11 = .ok (.bipush 48, 2) := by decide +kernel
theorem dX9_readNumber_13 : decode cX9_readNumber 13 = .ok (.iload_n 1, 1) := by decide +kernel
theorem dX9_readNumber_14 : decode cX9_readNumber 14 = .ok (.iadd, 1) := by decide +kernel
theorem dX9_readNumber_15 : decode cX9_readNumber 15 = .ok (.bipush 57, 2) := by decide +kernel
theorem dX9_readNumber_17 : decode cX9_readNumber 17 = .ok (.invokestatic 45, 3) := by decide +kernel
theorem dX9_readNumber_20 : decode cX9_readNumber 20 = .ok (.ifCond .ne 10, 3) := by decide +kernel
theorem dX9_readNumber_23 : decode cX9_readNumber 23 = .ok (.aload_n 0, 1) := by decide +kernel
theorem dX9_readNumber_24 : decode cX9_readNumber 24 = .ok (.iconst 1, 1) := by decide +kernel
theorem dX9_readNumber_25 : decode cX9_readNumber 25 = .ok (.putfield 160, 3) := by decide +kernel
theorem dX9_readNumber_28 : decode cX9_readNumber 28 = .ok (.iconst 0, 1) := by decide +kernel
theorem dX9_readNumber_29 : decode cX9_readNumber 29 = .ok (.ireturn, 1) := by decide +kernel
theorem dX9_readNumber_30 : decode cX9_readNumber 30 = .ok (.aload_n 0, 1) := by decide +kernel
theorem dX9_readNumber_31 : decode cX9_readNumber 31 = .ok (.invokevirtual 164, 3) := by decide +kernel
theorem dX9_readNumber_34 : decode cX9_readNumber 34 = .ok (.bipush 48, 2) := by decide +kernel
theorem dX9_readNumber_36 : decode cX9_readNumber 36 = .ok (.isub, 1) := by decide +kernel
theorem dX9_readNumber_37 : decode cX9_readNumber 37 = .ok (.istore_n 3, 1) := by decide +kernel
theorem dX9_readNumber_38 : decode cX9_readNumber 38 = .ok (.aload_n 0, 1) := by decide +kernel
theorem dX9_readNumber_39 : decode cX9_readNumber 39 = .ok (.dup, 1) := by decide +kernel
theorem dX9_readNumber_40 : decode cX9_readNumber 40 = .ok (.getfield 157, 3) := by decide +kernel
theorem dX9_readNumber_43 : decode cX9_readNumber 43 = .ok (.iconst 1, 1) := by decide +kernel
theorem dX9_readNumber_44 : decode cX9_readNumber 44 = .ok (.iadd, 1) := by decide +kernel
theorem dX9_readNumber_45 : decode cX9_readNumber 45 = .ok (.putfield 157, 3) := by decide +kernel
theorem dX9_readNumber_48 : decode cX9_readNumber 48 = .ok (.iload_n 3, 1) := by decide +kernel
theorem dX9_readNumber_49 : decode cX9_readNumber 49 = .ok (.ifCond .le 59, 3) := by decide +kernel
theorem dX9_readNumber_52 : decode cX9_readNumber 52 = .ok (.aload_n 0, 1) := by decide +kernel
theorem dX9_readNumber_53 : decode cX9_readNumber 53 = .ok (.invokevirtual 164, 3) := by decide +kernel
theorem dX9_readNumber_56 : decode cX9_readNumber 56 = .ok (.bipush 48, 2) := by decide +kernel
theorem dX9_readNumber_58 : decode cX9_readNumber 58 = .ok (.bipush 57, 2) := by decide +kernel
theorem dX9_readNumber_60 : decode cX9_readNumber 60 = .ok (.invokestatic 45, 3) := by decide +kernel
theorem dX9_readNumber_63 : decode cX9_readNumber 63 = .ok (.ifCond .eq 45, 3) := by decide +kernel
theorem dX9_readNumber_66 : decode cX9_readNumber 66 = .ok (.bipush 10, 2) := by decide +kernel
theorem dX9_readNumber_68 : decode cX9_readNumber 68 = .ok (.iload_n 3, 1) := by decide +kernel
theorem dX9_readNumber_69 : decode cX9_readNumber 69 = .ok (.imul, 1) := by decide +kernel
theorem dX9_readNumber_70 : decode cX9_readNumber 70 = .ok (.aload_n 0, 1) := by decide +kernel
theorem dX9_readNumber_71 : decode cX9_readNumber 71 = .ok (.invokevirtual 164, 3) := by decide +kernel
theorem dX9_readNumber_74 : decode cX9_readNumber 74 = .ok (.iadd, 1) := by decide +kernel
theorem dX9_readNumber_75 : decode cX9_readNumber 75 = .ok (.bipush 48, 2) := by decide +kernel
theorem dX9_readNumber_77 : decode cX9_readNumber 77 = .ok (.isub, 1) := by decide +kernel
theorem dX9_readNumber_78 : decode cX9_readNumber 78 = .ok (.iload_n 2, 1) := by decide +kernel
theorem dX9_readNumber_79 : decode cX9_readNumber 79 = .ok (.if_icmp .gt 29, 3) := by decide +kernel
theorem dX9_readNumber_82 : decode cX9_readNumber 82 = .ok (.bipush 10, 2) := by decide +kernel
theorem dX9_readNumber_84 : decode cX9_readNumber 84 = .ok (.iload_n 3, 1) := by decide +kernel
theorem dX9_readNumber_85 : decode cX9_readNumber 85 = .ok (.imul, 1) := by decide +kernel
theorem dX9_readNumber_86 : decode cX9_readNumber 86 = .ok (.aload_n 0, 1) := by decide +kernel
theorem dX9_readNumber_87 : decode cX9_readNumber 87 = .ok (.invokevirtual 164, 3) := by decide +kernel
theorem dX9_readNumber_90 : decode cX9_readNumber 90 = .ok (.iadd, 1) := by decide +kernel
theorem dX9_readNumber_91 : decode cX9_readNumber 91 = .ok (.bipush 48, 2) := by decide +kernel
theorem dX9_readNumber_93 : decode cX9_readNumber 93 = .ok (.isub, 1) := by decide +kernel
theorem dX9_readNumber_94 : decode cX9_readNumber 94 = .ok (.istore_n 3, 1) := by decide +kernel
theorem dX9_readNumber_95 : decode cX9_readNumber 95 = .ok (.aload_n 0, 1) := by decide +kernel
theorem dX9_readNumber_96 : decode cX9_readNumber 96 = .ok (.dup, 1) := by decide +kernel
theorem dX9_readNumber_97 : decode cX9_readNumber 97 = .ok (.getfield 157, 3) := by decide +kernel
theorem dX9_readNumber_100 : decode cX9_readNumber 100 = .ok (.iconst 1, 1) := by decide +kernel
theorem dX9_readNumber_101 : decode cX9_readNumber 101 = .ok (.iadd, 1) := by decide +kernel
theorem dX9_readNumber_102 : decode cX9_readNumber 102 = .ok (.putfield 157, 3) := by decide +kernel
theorem dX9_readNumber_105 : decode cX9_readNumber 105 = .ok (.goto (-57), 3) := by decide +kernel
theorem dX9_readNumber_108 : decode cX9_readNumber 108 = .ok (.iload_n 3, 1) := by decide +kernel
theorem dX9_readNumber_109 : decode cX9_readNumber 109 = .ok (.ireturn, 1) := by decide +kernel
theorem dX9_readUnit_0 : decode cX9_readUnit 0 = .ok (.aload_n 0, 1) := by decide +kernel
theorem dX9_readUnit_1 : decode cX9_readUnit 1 = .ok (.getfield 160, 3) := by decide +kernel
theorem dX9_readUnit_4 : decode cX9_readUnit 4 = .ok (.ifCond .ne 17, 3) := by decide +kernel
theorem dX9_readUnit_7 : decode cX9_readUnit 7 = .ok (.aload_n 0, 1) := by decide +kernel
theorem dX9_readUnit_8 : decode cX9_readUnit 8 = .ok (.invokevirtual 164, 3) := by decide +kernel
theorem dX9_readUnit_11 : decode cX9_readUnit 11 = .ok (.bipush 48, 2) := by decide +kernel
theorem dX9_readUnit_13 : decode cX9_readUnit 13 = .ok (.bipush 52, 2) := by decide +kernel
theorem dX9_readUnit_15 : decode cX9_readUnit 15 = .ok (.invokestatic 45, 3) := by decide +kernel
theorem dX9_readUnit_18 : decode cX9_readUnit 18 = .ok (.ifCond .ne 10, 3) := by decide +kernel
theorem dX9_readUnit_21 : decode cX9_readUnit 21 = .ok (.aload_n 0, 1) := by decide +kernel
theorem dX9_readUnit_22 : decode cX9_readUnit 22 = .ok (.iconst 1, 1) := by decide +kernel
theorem dX9_readUnit_23 : decode cX9_readUnit 23 = .ok (.putfield 160, 3) := by decide +kernel
theorem dX9_readUnit_26 : decode cX9_readUnit 26 = .ok (.iconst 0, 1) := by decide +kernel
theorem dX9_readUnit_27 : decode cX9_readUnit 27 = .ok (.ireturn, 1) := by decide +kernel
theorem dX9_readUnit_28 : decode cX9_readUnit 28 = .ok (.aload_n 0, 1) := by decide +kernel
theorem dX9_readUnit_29 : decode cX9_readUnit 29 = .ok (.dup, 1) := by decide +kernel
theorem dX9_readUnit_30 : decode cX9_readUnit 30 = .ok (.getfield 157, 3) := by decide +kernel
theorem dX9_readUnit_33 : decode cX9_readUnit 33 = .ok (.iconst 1, 1) := by decide +kernel
theorem dX9_readUnit_34 : decode cX9_readUnit 34 = .ok (.iadd, 1) := by decide +kernel
theorem dX9_readUnit_35 : decode cX9_readUnit 35 = .ok (.putfield 157, 3) := by decide +kernel
theorem dX9_readUnit_38 : decode cX9_readUnit 38 = .ok (.aload_n 0, 1) := by decide +kernel
theorem dX9_readUnit_39 : decode cX9_readUnit 39 = .ok (.getfield 23, 3) := by decide +kernel
theorem dX9_readUnit_42 : decode cX9_readUnit 42 = .ok (.aload_n 0, 1) := by decide +kernel
theorem dX9_readUnit_43 : decode cX9_readUnit 43 = .ok (.getfield 157, 3) := by decide +kernel
theorem dX9_readUnit_46 : decode cX9_readUnit 46 = .ok (.iconst 1, 1) := by decide +kernel
theorem dX9_readUnit_47 : decode cX9_readUnit 47 = .ok (.isub, 1) := by decide +kernel
theorem dX9_readUnit_48 : decode cX9_readUnit 48 = .ok (.iaload, 1) := by decide +kernel
theorem dX9_readUnit_49 : decode cX9_readUnit 49 = .ok (.bipush 48, 2) := by decide +kernel
theorem dX9_readUnit_51 : decode cX9_readUnit 51 = .ok (.isub, 1) := by decide +kernel
theorem dX9_readUnit_52 : decode cX9_readUnit 52 = .ok (.ireturn, 1) := by decide +kernel
theorem dX9_readDisturbance_0 : decode cX9_readDisturbance 0 = .ok (.aload_n 0, 1) := by decide +kernel
theorem dX9_readDisturbance_1 : decode cX9_readDisturbance 1 = .ok (.getfield 160, 3) := by decide +kernel
theorem dX9_readDisturbance_4 : decode cX9_readDisturbance 4 = .ok (.ifCond .ne 16, 3) := by decide +kernel
theorem dX9_readDisturbance_7 : decode cX9_readDisturbance 7 = .ok (.aload_n 0, 1) := by decide +kernel
theorem dX9_readDisturbance_8 : decode cX9_readDisturbance 8 = .ok (.invokevirtual 164, 3) := by decide +kernel
theorem dX9_readDisturbance_11 : decode cX9_readDisturbance 11 = .ok (.bipush 45, 2) := by decide +kernel
theorem dX9_readDisturbance_13 : decode cX9_readDisturbance 13 = .ok (.if_icmp .ne 7, 3) := by decide +kernel
theorem dX9_readDisturbance_16 : decode cX9_readDisturbance 16 = .ok (.iconst 1, 1) := by decide +kernel
theorem dX9_readDisturbance_17 : decode cX9_readDisturbance 17 = .ok (.goto 4, 3) := by decide +kernel
theorem dX9_readDisturbance_20 : decode cX9_readDisturbance 20 = .ok (.iconst 0, 1) := by decide +kernel
theorem dX9_readDisturbance_21 : decode cX9_readDisturbance 21 = .ok (.istore_n 2, 1) := by decide +kernel
theorem dX9_readDisturbance_22 : decode cX9_readDisturbance 22 = .ok (.aload_n 0, 1) := by decide +kernel
theorem dX9_readDisturbance_23 : decode cX9_readDisturbance 23 = .ok (.dup, 1) := by decide +kernel
theorem dX9_readDisturbance_24 : decode cX9_readDisturbance 24 = .ok (.getfield 157, 3) := by decide +kernel
theorem dX9_readDisturbance_27 : decode cX9_readDisturbance 27 = .ok (.iload_n 2, 1) := by decide +kernel
theorem dX9_readDisturbance_28 : decode cX9_readDisturbance 28 = .ok (.ifCond .eq 7, 3) := by decide +kernel
theorem dX9_readDisturbance_31 : decode cX9_readDisturbance 31 = .ok (.iconst 1, 1) := by decide +kernel
theorem dX9_readDisturbance_32 : decode cX9_readDisturbance 32 = .ok (.goto 4, 3) := by decide +kernel
theorem dX9_readDisturbance_35 : decode cX9_readDisturbance 35 = .ok (.iconst 0, 1) := by decide +kernel
theorem dX9_readDisturbance_36 : decode cX9_readDisturbance 36 = .ok (.iadd, 1) := by decide +kernel
theorem dX9_readDisturbance_37 : decode cX9_readDisturbance 37 = .ok (.putfield 157, 3) := by decide +kernel
theorem dX9_readDisturbance_40 : decode cX9_readDisturbance 40 = .ok (.aload_n 0, 1) := by decide +kernel
theorem dX9_readDisturbance_41 : decode cX9_readDisturbance 41 = .ok (.iconst 0, 1) := by decide +kernel
theorem dX9_readDisturbance_42 : decode cX9_readDisturbance 42 = .ok (.sipush 3000, 3) := by decide +kernel
theorem dX9_readDisturbance_45 : decode cX9_readDisturbance 45 = .ok (.invokevirtual 168, 3) := by decide +kernel
theorem dX9_readDisturbance_48 : decode cX9_readDisturbance 48 = .ok (.istore_n 3, 1) := by decide +kernel
theorem dX9_readDisturbance_49 : decode cX9_readDisturbance 49 = .ok (.aload_n 0, 1) := by decide +kernel
theorem dX9_readDisturbance_50 : decode cX9_readDisturbance 50 = .ok (.getfield 26, 3) := by decide +kernel
theorem dX9_readDisturbance_53 : decode cX9_readDisturbance 53 = .ok (.iload_n 1, 1) := by decide +kernel
theorem dX9_readDisturbance_54 : decode cX9_readDisturbance 54 = .ok (.iconst 2, 1) := by decide +kernel
theorem dX9_readDisturbance_55 : decode cX9_readDisturbance 55 = .ok (.iadd, 1) := by decide +kernel
theorem dX9_readDisturbance_56 : decode cX9_readDisturbance 56 = .ok (.iload_n 2, 1) := by decide +kernel
theorem dX9_readDisturbance_57 : decode cX9_readDisturbance 57 = .ok (.ifCond .eq 8, 3) := by decide +kernel
theorem dX9_readDisturbance_60 : decode cX9_readDisturbance 60 = .ok (.iload_n 3, 1) := by decide +kernel
theorem dX9_readDisturbance_61 : decode cX9_readDisturbance 61 = .ok (.ineg, 1) := by decide +kernel
theorem dX9_readDisturbance_62 : decode cX9_readDisturbance 62 = .ok (.goto 4, 3) := by decide +kernel
theorem dX9_readDisturbance_65 : decode cX9_readDisturbance 65 = .ok (.iload_n 3, 1) := by decide +kernel
theorem dX9_readDisturbance_66 : decode cX9_readDisturbance 66 = .ok (.iastore, 1) := by decide +kernel
theorem dX9_readDisturbance_67 : decode cX9_readDisturbance 67 = .ok (.aload_n 0, 1) := by decide +kernel
theorem dX9_readDisturbance_68 : decode cX9_readDisturbance 68 = .ok (.bipush 47, 2) := by decide +kernel
theorem dX9_readDisturbance_70 : decode cX9_readDisturbance 70 = .ok (.invokevirtual 171, 3) := by decide +kernel
theorem dX9_readDisturbance_73 : decode cX9_readDisturbance 73 = .ok (.aload_n 0, 1) := by decide +kernel
theorem dX9_readDisturbance_74 : decode cX9_readDisturbance 74 = .ok (.getfield 26, 3) := by decide +kernel
theorem dX9_readDisturbance_77 : decode cX9_readDisturbance 77 = .ok (.iload_n 1, 1) := by decide +kernel
theorem dX9_readDisturbance_78 : decode cX9_readDisturbance 78 = .ok (.iconst 3, 1) := by decide +kernel
theorem dX9_readDisturbance_79 : decode cX9_readDisturbance 79 = .ok (.iadd, 1) := by decide +kernel
theorem dX9_readDisturbance_80 : decode cX9_readDisturbance 80 = .ok (.aload_n 0, 1) := by decide +kernel
theorem dX9_readDisturbance_81 : decode cX9_readDisturbance 81 = .ok (.iconst 1, 1) := by decide +kernel
theorem dX9_readDisturbance_82 : decode cX9_readDisturbance 82 = .ok (.bipush 50, 2) := by decide +kernel
theorem dX9_readDisturbance_84 : decode cX9_readDisturbance 84 = .ok (.invokevirtual 168, 3) := by decide +kernel
theorem dX9_readDisturbance_87 : decode cX9_readDisturbance 87 = .ok (.iastore, 1) := by decide +kernel
theorem dX9_readDisturbance_88 : decode cX9_readDisturbance 88 = .ok (.return_, 1) := by decide +kernel
theorem dX9_readStep_0 : decode cX9_readStep 0 = .ok (.aload_n 0, 1) := by decide +kernel
theorem dX9_readStep_1 : decode cX9_readStep 1 = .ok (.invokevirtual 164, 3) := by decide +kernel
theorem dX9_readStep_4 : decode cX9_readStep 4 = .ok (.istore_n 1, 1) := by decide +kernel
theorem dX9_readStep_5 : decode cX9_readStep 5 = .ok (.iconst 4, 1) := by decide +kernel
theorem dX9_readStep_6 : decode cX9_readStep 6 = .ok (.aload_n 0, 1) := by decide +kernel
theorem dX9_readStep_7 : decode cX9_readStep 7 = .ok (.getfield 174, 3) := by decide +kernel
theorem dX9_readStep_10 : decode cX9_readStep 10 = .ok (.imul, 1) := by decide +kernel
theorem dX9_readStep_11 : decode cX9_readStep 11 = .ok (.istore_n 2, 1) := by decide +kernel
theorem dX9_readStep_12 : decode cX9_readStep 12 = .ok (.iload_n 1, 1) := by decide +kernel
theorem dX9_readStep_13 : decode cX9_readStep 13 = .ok (.bipush 110, 2) := by decide +kernel
theorem dX9_readStep_15 : decode cX9_readStep 15 = .ok (.if_icmp .eq 27, 3) := by decide +kernel
theorem dX9_readStep_18 : decode cX9_readStep 18 = .ok (.iload_n 1, 1) := by decide +kernel
theorem dX9_readStep_19 : decode cX9_readStep 19 = .ok (.bipush 118, 2) := by decide +kernel
theorem dX9_readStep_21 : decode cX9_readStep 21 = .ok (.if_icmp .eq 21, 3) := by decide +kernel
theorem dX9_readStep_24 : decode cX9_readStep 24 = .ok (.iload_n 1, 1) := by decide +kernel
theorem dX9_readStep_25 : decode cX9_readStep 25 = .ok (.bipush 100, 2) := by decide +kernel
theorem dX9_readStep_27 : decode cX9_readStep 27 = .ok (.if_icmp .eq 15, 3) := by decide +kernel
theorem dX9_readStep_30 : decode cX9_readStep 30 = .ok (.iload_n 1, 1) := by decide +kernel
theorem dX9_readStep_31 : decode cX9_readStep 31 = .ok (.bipush 112, 2) := by decide +kernel
theorem dX9_readStep_33 : decode cX9_readStep 33 = .ok (.if_icmp .eq 9, 3) := by decide +kernel
theorem dX9_readStep_36 : decode cX9_readStep 36 = .ok (.aload_n 0, 1) := by decide +kernel
theorem dX9_readStep_37 : decode cX9_readStep 37 = .ok (.iconst 1, 1) := by decide +kernel
theorem dX9_readStep_38 : decode cX9_readStep 38 = .ok (.putfield 160, 3) := by decide +kernel
theorem dX9_readStep_41 : decode cX9_readStep 41 = .ok (.return_, 1) := by decide +kernel
theorem dX9_readStep_42 : decode cX9_readStep 42 = .ok (.aload_n 0, 1) := by decide +kernel
theorem dX9_readStep_43 : decode cX9_readStep 43 = .ok (.dup, 1) := by decide +kernel
theorem dX9_readStep_44 : decode cX9_readStep 44 = .ok (.getfield 157, 3) := by decide +kernel
theorem dX9_readStep_47 : decode cX9_readStep 47 = .ok (.iconst 1, 1) := by decide +kernel
theorem dX9_readStep_48 : decode cX9_readStep 48 = .ok (.iadd, 1) := by decide +kernel
theorem dX9_readStep_49 : decode cX9_readStep 49 = .ok (.putfield 157, 3) := by decide +kernel
theorem dX9_readStep_52 : decode cX9_readStep 52 = .ok (.aload_n 0, 1) := by decide +kernel
theorem dX9_readStep_53 : decode cX9_readStep 53 = .ok (.getfield 26, 3) := by decide +kernel
theorem dX9_readStep_56 : decode cX9_readStep 56 = .ok (.iload_n 2, 1) := by decide +kernel
theorem dX9_readStep_57 : decode cX9_readStep 57 = .ok (.iload_n 1, 1) := by decide +kernel
theorem dX9_readStep_58 : decode cX9_readStep 58 = .ok (.iastore, 1) := by decide +kernel
theorem dX9_readStep_59 : decode cX9_readStep 59 = .ok (.aload_n 0, 1) := by decide +kernel
theorem dX9_readStep_60 : decode cX9_readStep 60 = .ok (.getfield 26, 3) := by decide +kernel
theorem dX9_readStep_63 : decode cX9_readStep 63 = .ok (.iload_n 2, 1) := by decide +kernel
theorem dX9_readStep_64 : decode cX9_readStep 64 = .ok (.iconst 1, 1) := by decide +kernel
theorem dX9_readStep_65 : decode cX9_readStep 65 = .ok (.iadd, 1) := by decide +kernel
theorem dX9_readStep_66 : decode cX9_readStep 66 = .ok (.iconst 0, 1) := by decide +kernel
theorem dX9_readStep_67 : decode cX9_readStep 67 = .ok (.iastore, 1) := by decide +kernel
theorem dX9_readStep_68 : decode cX9_readStep 68 = .ok (.iload_n 1, 1) := by decide +kernel
theorem dX9_readStep_69 : decode cX9_readStep 69 = .ok (.bipush 110, 2) := by decide +kernel
theorem dX9_readStep_71 : decode cX9_readStep 71 = .ok (.if_icmp .ne 21, 3) := by decide +kernel
theorem dX9_readStep_74 : decode cX9_readStep 74 = .ok (.aload_n 0, 1) := by decide +kernel
theorem dX9_readStep_75 : decode cX9_readStep 75 = .ok (.getfield 26, 3) := by decide +kernel
theorem dX9_readStep_78 : decode cX9_readStep 78 = .ok (.iload_n 2, 1) := by decide +kernel
theorem dX9_readStep_79 : decode cX9_readStep 79 = .ok (.iconst 2, 1) := by decide +kernel
theorem dX9_readStep_80 : decode cX9_readStep 80 = .ok (.iadd, 1) := by decide +kernel
theorem dX9_readStep_81 : decode cX9_readStep 81 = .ok (.aload_n 0, 1) := by decide +kernel
theorem dX9_readStep_82 : decode cX9_readStep 82 = .ok (.iconst 1, 1) := by decide +kernel
theorem dX9_readStep_83 : decode cX9_readStep 83 = .ok (.bipush 99, 2) := by decide +kernel
theorem dX9_readStep_85 : decode cX9_readStep 85 = .ok (.invokevirtual 168, 3) := by decide +kernel
theorem dX9_readStep_88 : decode cX9_readStep 88 = .ok (.iastore, 1) := by decide +kernel
theorem dX9_readStep_89 : decode cX9_readStep 89 = .ok (.goto 57, 3) := by decide +kernel
theorem dX9_readStep_92 : decode cX9_readStep 92 = .ok (.iload_n 1, 1) := by decide +kernel
theorem dX9_readStep_93 : decode cX9_readStep 93 = .ok (.bipush 118, 2) := by decide +kernel
theorem dX9_readStep_95 : decode cX9_readStep 95 = .ok (.if_icmp .ne 22, 3) := by decide +kernel
theorem dX9_readStep_98 : decode cX9_readStep 98 = .ok (.aload_n 0, 1) := by decide +kernel
theorem dX9_readStep_99 : decode cX9_readStep 99 = .ok (.getfield 26, 3) := by decide +kernel
theorem dX9_readStep_102 : decode cX9_readStep 102 = .ok (.iload_n 2, 1) := by decide +kernel
theorem dX9_readStep_103 : decode cX9_readStep 103 = .ok (.iconst 2, 1) := by decide +kernel
theorem dX9_readStep_104 : decode cX9_readStep 104 = .ok (.iadd, 1) := by decide +kernel
theorem dX9_readStep_105 : decode cX9_readStep 105 = .ok (.aload_n 0, 1) := by decide +kernel
theorem dX9_readStep_106 : decode cX9_readStep 106 = .ok (.iconst 0, 1) := by decide +kernel
theorem dX9_readStep_107 : decode cX9_readStep 107 = .ok (.sipush 1000, 3) := by decide +kernel
theorem dX9_readStep_110 : decode cX9_readStep 110 = .ok (.invokevirtual 168, 3) := by decide +kernel
theorem dX9_readStep_113 : decode cX9_readStep 113 = .ok (.iastore, 1) := by decide +kernel
theorem dX9_readStep_114 : decode cX9_readStep 114 = .ok (.goto 32, 3) := by decide +kernel
theorem dX9_readStep_117 : decode cX9_readStep 117 = .ok (.iload_n 1, 1) := by decide +kernel
theorem dX9_readStep_118 : decode cX9_readStep 118 = .ok (.bipush 100, 2) := by decide +kernel
theorem dX9_readStep_120 : decode cX9_readStep 120 = .ok (.if_icmp .ne 21, 3) := by decide +kernel
theorem dX9_readStep_123 : decode cX9_readStep 123 = .ok (.aload_n 0, 1) := by decide +kernel
theorem dX9_readStep_124 : decode cX9_readStep 124 = .ok (.getfield 26, 3) := by decide +kernel
theorem dX9_readStep_127 : decode cX9_readStep 127 = .ok (.iload_n 2, 1) := by decide +kernel
theorem dX9_readStep_128 : decode cX9_readStep 128 = .ok (.iconst 1, 1) := by decide +kernel
theorem dX9_readStep_129 : decode cX9_readStep 129 = .ok (.iadd, 1) := by decide +kernel
theorem dX9_readStep_130 : decode cX9_readStep 130 = .ok (.aload_n 0, 1) := by decide +kernel
theorem dX9_readStep_131 : decode cX9_readStep 131 = .ok (.invokevirtual 177, 3) := by decide +kernel
theorem dX9_readStep_134 : decode cX9_readStep 134 = .ok (.iastore, 1) := by decide +kernel
theorem dX9_readStep_135 : decode cX9_readStep 135 = .ok (.aload_n 0, 1) := by decide +kernel
theorem dX9_readStep_136 : decode cX9_readStep 136 = .ok (.bipush 58, 2) := by decide +kernel
theorem dX9_readStep_138 : decode cX9_readStep 138 = .ok (.invokevirtual 171, 3) := by decide +kernel
theorem dX9_readStep_141 : decode cX9_readStep 141 = .ok (.aload_n 0, 1) := by decide +kernel
theorem dX9_readStep_142 : decode cX9_readStep 142 = .ok (.iload_n 2, 1) := by decide +kernel
theorem dX9_readStep_143 : decode cX9_readStep 143 = .ok (.invokevirtual 180, 3) := by decide +kernel
theorem dX9_readStep_146 : decode cX9_readStep 146 = .ok (.aload_n 0, 1) := by decide +kernel
theorem dX9_readStep_147 : decode cX9_readStep 147 = .ok (.dup, 1) := by decide +kernel
theorem dX9_readStep_148 : decode cX9_readStep 148 = .ok (.getfield 174, 3) := by decide +kernel
theorem dX9_readStep_151 : decode cX9_readStep 151 = .ok (.iconst 1, 1) := by decide +kernel
theorem dX9_readStep_152 : decode cX9_readStep 152 = .ok (.iadd, 1) := by decide +kernel
theorem dX9_readStep_153 : decode cX9_readStep 153 = .ok (.putfield 174, 3) := by decide +kernel
theorem dX9_readStep_156 : decode cX9_readStep 156 = .ok (.return_, 1) := by decide +kernel
theorem dX9_fault_0 : decode cX9_fault 0 = .ok (.aload_n 0, 1) := by decide +kernel
theorem dX9_fault_1 : decode cX9_fault 1 = .ok (.iconst 0, 1) := by decide +kernel
theorem dX9_fault_2 : decode cX9_fault 2 = .ok (.putfield 157, 3) := by decide +kernel
theorem dX9_fault_5 : decode cX9_fault 5 = .ok (.aload_n 0, 1) := by decide +kernel
theorem dX9_fault_6 : decode cX9_fault 6 = .ok (.iconst 0, 1) := by decide +kernel
theorem dX9_fault_7 : decode cX9_fault 7 = .ok (.putfield 160, 3) := by decide +kernel
theorem dX9_fault_10 : decode cX9_fault 10 = .ok (.aload_n 0, 1) := by decide +kernel
theorem dX9_fault_11 : decode cX9_fault 11 = .ok (.iconst 0, 1) := by decide +kernel
theorem dX9_fault_12 : decode cX9_fault 12 = .ok (.putfield 174, 3) := by decide +kernel
theorem dX9_fault_15 : decode cX9_fault 15 = .ok (.aload_n 0, 1) := by decide +kernel
theorem dX9_fault_16 : decode cX9_fault 16 = .ok (.invokevirtual 183, 3) := by decide +kernel
theorem dX9_fault_19 : decode cX9_fault 19 = .ok (.aload_n 0, 1) := by decide +kernel
theorem dX9_fault_20 : decode cX9_fault 20 = .ok (.getfield 160, 3) := by decide +kernel
theorem dX9_fault_23 : decode cX9_fault 23 = .ok (.ifCond .ne 29, 3) := by decide +kernel
theorem dX9_fault_26 : decode cX9_fault 26 = .ok (.aload_n 0, 1) := by decide +kernel
theorem dX9_fault_27 : decode cX9_fault 27 = .ok (.invokevirtual 164, 3) := by decide +kernel
theorem dX9_fault_30 : decode cX9_fault 30 = .ok (.bipush 44, 2) := by decide +kernel
theorem dX9_fault_32 : decode cX9_fault 32 = .ok (.if_icmp .ne 20, 3) := by decide +kernel
theorem dX9_fault_35 : decode cX9_fault 35 = .ok (.aload_n 0, 1) := by decide +kernel
theorem dX9_fault_36 : decode cX9_fault 36 = .ok (.dup, 1) := by decide +kernel
theorem dX9_fault_37 : decode cX9_fault 37 = .ok (.getfield 157, 3) := by decide +kernel
theorem dX9_fault_40 : decode cX9_fault 40 = .ok (.iconst 1, 1) := by decide +kernel
theorem dX9_fault_41 : decode cX9_fault 41 = .ok (.iadd, 1) := by decide +kernel
theorem dX9_fault_42 : decode cX9_fault 42 = .ok (.putfield 157, 3) := by decide +kernel
theorem dX9_fault_45 : decode cX9_fault 45 = .ok (.aload_n 0, 1) := by decide +kernel
theorem dX9_fault_46 : decode cX9_fault 46 = .ok (.invokevirtual 183, 3) := by decide +kernel
theorem dX9_fault_49 : decode cX9_fault 49 = .ok (.goto (-30), 3) := by decide +kernel
theorem dX9_fault_52 : decode cX9_fault 52 = .ok (.aload_n 0, 1) := by decide +kernel
theorem dX9_fault_53 : decode cX9_fault 53 = .ok (.getfield 160, 3) := by decide +kernel
theorem dX9_fault_56 : decode cX9_fault 56 = .ok (.ifCond .ne 14, 3) := by decide +kernel
theorem dX9_fault_59 : decode cX9_fault 59 = .ok (.aload_n 0, 1) := by decide +kernel
theorem dX9_fault_60 : decode cX9_fault 60 = .ok (.getfield 157, 3) := by decide +kernel
theorem dX9_fault_63 : decode cX9_fault 63 = .ok (.aload_n 0, 1) := by decide +kernel
theorem dX9_fault_64 : decode cX9_fault 64 = .ok (.getfield 152, 3) := by decide +kernel
theorem dX9_fault_67 : decode cX9_fault 67 = .ok (.if_icmp .ge 10, 3) := by decide +kernel
theorem dX9_fault_70 : decode cX9_fault 70 = .ok (.aload_n 0, 1) := by decide +kernel
theorem dX9_fault_71 : decode cX9_fault 71 = .ok (.getfield 157, 3) := by decide +kernel
theorem dX9_fault_74 : decode cX9_fault 74 = .ok (.goto 5, 3) := by decide +kernel
theorem dX9_fault_77 : decode cX9_fault 77 = .ok (.ldc 75, 2) := by decide +kernel
theorem dX9_fault_79 : decode cX9_fault 79 = .ok (.ireturn, 1) := by decide +kernel
theorem dX9_carryOutStep_0 : decode cX9_carryOutStep 0 = .ok (.aload_n 0, 1) := by decide +kernel
theorem dX9_carryOutStep_1 : decode cX9_carryOutStep 1 = .ok (.getfield 26, 3) := by decide +kernel
theorem dX9_carryOutStep_4 : decode cX9_carryOutStep 4 = .ok (.iload_n 1, 1) := by decide +kernel
theorem dX9_carryOutStep_5 : decode cX9_carryOutStep 5 = .ok (.iaload, 1) := by decide +kernel
theorem dX9_carryOutStep_6 : decode cX9_carryOutStep 6 = .ok (.lookupswitch 99 #[(100, 68), (110, 34), (118, 49)], 34) := by decide +kernel
theorem dX9_carryOutStep_40 : decode cX9_carryOutStep 40 = .ok (.aload_n 0, 1) := by decide +kernel
theorem dX9_carryOutStep_41 : decode cX9_carryOutStep 41 = .ok (.aload_n 0, 1) := by decide +kernel
theorem dX9_carryOutStep_42 : decode cX9_carryOutStep 42 = .ok (.getfield 26, 3) := by decide +kernel
theorem dX9_carryOutStep_45 : decode cX9_carryOutStep 45 = .ok (.iload_n 1, 1) := by decide +kernel
theorem dX9_carryOutStep_46 : decode cX9_carryOutStep 46 = .ok (.iconst 2, 1) := by decide +kernel
theorem dX9_carryOutStep_47 : decode cX9_carryOutStep 47 = .ok (.iadd, 1) := by decide +kernel
theorem dX9_carryOutStep_48 : decode cX9_carryOutStep 48 = .ok (.iaload, 1) := by decide +kernel
theorem dX9_carryOutStep_49 : decode cX9_carryOutStep 49 = .ok (.invokevirtual 130, 3) := by decide +kernel
theorem dX9_carryOutStep_52 : decode cX9_carryOutStep 52 = .ok (.goto 74, 3) := by decide +kernel
theorem dX9_carryOutStep_55 : decode cX9_carryOutStep 55 = .ok (.aload_n 0, 1) := by decide +kernel
theorem dX9_carryOutStep_56 : decode cX9_carryOutStep 56 = .ok (.getfield 9, 3) := by decide +kernel
theorem dX9_carryOutStep_59 : decode cX9_carryOutStep 59 = .ok (.sipush 1767, 3) := by decide +kernel
theorem dX9_carryOutStep_62 : decode cX9_carryOutStep 62 = .ok (.aload_n 0, 1) := by decide +kernel
theorem dX9_carryOutStep_63 : decode cX9_carryOutStep 63 = .ok (.getfield 26, 3) := by decide +kernel
theorem dX9_carryOutStep_66 : decode cX9_carryOutStep 66 = .ok (.iload_n 1, 1) := by decide +kernel
theorem dX9_carryOutStep_67 : decode cX9_carryOutStep 67 = .ok (.iconst 2, 1) := by decide +kernel
theorem dX9_carryOutStep_68 : decode cX9_carryOutStep 68 = .ok (.iadd, 1) := by decide +kernel
theorem dX9_carryOutStep_69 : decode cX9_carryOutStep 69 = .ok (.iaload, 1) := by decide +kernel
theorem dX9_carryOutStep_70 : decode cX9_carryOutStep 70 = .ok (.iastore, 1) := by decide +kernel
theorem dX9_carryOutStep_71 : decode cX9_carryOutStep 71 = .ok (.goto 55, 3) := by decide +kernel
theorem dX9_carryOutStep_74 : decode cX9_carryOutStep 74 = .ok (.aload_n 0, 1) := by decide +kernel
theorem dX9_carryOutStep_75 : decode cX9_carryOutStep 75 = .ok (.aload_n 0, 1) := by decide +kernel
theorem dX9_carryOutStep_76 : decode cX9_carryOutStep 76 = .ok (.getfield 26, 3) := by decide +kernel
theorem dX9_carryOutStep_79 : decode cX9_carryOutStep 79 = .ok (.iload_n 1, 1) := by decide +kernel
theorem dX9_carryOutStep_80 : decode cX9_carryOutStep 80 = .ok (.iconst 1, 1) := by decide +kernel
theorem dX9_carryOutStep_81 : decode cX9_carryOutStep 81 = .ok (.iadd, 1) := by decide +kernel
theorem dX9_carryOutStep_82 : decode cX9_carryOutStep 82 = .ok (.iaload, 1) := by decide +kernel
theorem dX9_carryOutStep_83 : decode cX9_carryOutStep 83 = .ok (.aload_n 0, 1) := by decide +kernel
theorem dX9_carryOutStep_84 : decode cX9_carryOutStep 84 = .ok (.getfield 26, 3) := by decide +kernel
theorem dX9_carryOutStep_87 : decode cX9_carryOutStep 87 = .ok (.iload_n 1, 1) := by decide +kernel
theorem dX9_carryOutStep_88 : decode cX9_carryOutStep 88 = .ok (.iconst 2, 1) := by decide +kernel
theorem dX9_carryOutStep_89 : decode cX9_carryOutStep 89 = .ok (.iadd, 1) := by decide +kernel
theorem dX9_carryOutStep_90 : decode cX9_carryOutStep 90 = .ok (.iaload, 1) := by decide +kernel
theorem dX9_carryOutStep_91 : decode cX9_carryOutStep 91 = .ok (.aload_n 0, 1) := by decide +kernel
theorem dX9_carryOutStep_92 : decode cX9_carryOutStep 92 = .ok (.getfield 26, 3) := by decide +kernel
theorem dX9_carryOutStep_95 : decode cX9_carryOutStep 95 = .ok (.iload_n 1, 1) := by decide +kernel
theorem dX9_carryOutStep_96 : decode cX9_carryOutStep 96 = .ok (.iconst 3, 1) := by decide +kernel
theorem dX9_carryOutStep_97 : decode cX9_carryOutStep 97 = .ok (.iadd, 1) := by decide +kernel
theorem dX9_carryOutStep_98 : decode cX9_carryOutStep 98 = .ok (.iaload, 1) := by decide +kernel
theorem dX9_carryOutStep_99 : decode cX9_carryOutStep 99 = .ok (.invokevirtual 66, 3) := by decide +kernel
theorem dX9_carryOutStep_102 : decode cX9_carryOutStep 102 = .ok (.goto 24, 3) := by decide +kernel
theorem dX9_carryOutStep_105 : decode cX9_carryOutStep 105 = .ok (.aload_n 0, 1) := by decide +kernel
theorem dX9_carryOutStep_106 : decode cX9_carryOutStep 106 = .ok (.aload_n 0, 1) := by decide +kernel
theorem dX9_carryOutStep_107 : decode cX9_carryOutStep 107 = .ok (.getfield 26, 3) := by decide +kernel
theorem dX9_carryOutStep_110 : decode cX9_carryOutStep 110 = .ok (.iload_n 1, 1) := by decide +kernel
theorem dX9_carryOutStep_111 : decode cX9_carryOutStep 111 = .ok (.iconst 2, 1) := by decide +kernel
theorem dX9_carryOutStep_112 : decode cX9_carryOutStep 112 = .ok (.iadd, 1) := by decide +kernel
theorem dX9_carryOutStep_113 : decode cX9_carryOutStep 113 = .ok (.iaload, 1) := by decide +kernel
theorem dX9_carryOutStep_114 : decode cX9_carryOutStep 114 = .ok (.aload_n 0, 1) := by decide +kernel
theorem dX9_carryOutStep_115 : decode cX9_carryOutStep 115 = .ok (.getfield 26, 3) := by decide +kernel
theorem dX9_carryOutStep_118 : decode cX9_carryOutStep 118 = .ok (.iload_n 1, 1) := by decide +kernel
theorem dX9_carryOutStep_119 : decode cX9_carryOutStep 119 = .ok (.iconst 3, 1) := by decide +kernel
theorem dX9_carryOutStep_120 : decode cX9_carryOutStep 120 = .ok (.iadd, 1) := by decide +kernel
theorem dX9_carryOutStep_121 : decode cX9_carryOutStep 121 = .ok (.iaload, 1) := by decide +kernel
theorem dX9_carryOutStep_122 : decode cX9_carryOutStep 122 = .ok (.invokevirtual 72, 3) := by decide +kernel
theorem dX9_carryOutStep_125 : decode cX9_carryOutStep 125 = .ok (.pop, 1) := by decide +kernel
theorem dX9_carryOutStep_126 : decode cX9_carryOutStep 126 = .ok (.return_, 1) := by decide +kernel
theorem dX9_carryOut_0 : decode cX9_carryOut 0 = .ok (.aload_n 0, 1) := by decide +kernel
theorem dX9_carryOut_1 : decode cX9_carryOut 1 = .ok (.invokevirtual 186, 3) := by decide +kernel
theorem dX9_carryOut_4 : decode cX9_carryOut 4 = .ok (.ldc 75, 2) := by decide +kernel
theorem dX9_carryOut_6 : decode cX9_carryOut 6 = .ok (.if_icmp .eq 6, 3) := by decide +kernel
theorem dX9_carryOut_9 : decode cX9_carryOut 9 = .ok (.ldc 189, 2) := by decide +kernel
theorem dX9_carryOut_11 : decode cX9_carryOut 11 = .ok (.ireturn, 1) := by decide +kernel
theorem dX9_carryOut_12 : decode cX9_carryOut 12 = .ok (.iconst 0, 1) := by decide +kernel
theorem dX9_carryOut_13 : decode cX9_carryOut 13 = .ok (.istore_n 1, 1) := by decide +kernel
theorem dX9_carryOut_14 : decode cX9_carryOut 14 = .ok (.iconst 1, 1) := by decide +kernel
theorem dX9_carryOut_15 : decode cX9_carryOut 15 = .ok (.istore_n 2, 1) := by decide +kernel
theorem dX9_carryOut_16 : decode cX9_carryOut 16 = .ok (.iconst 0, 1) := by decide +kernel
theorem dX9_carryOut_17 : decode cX9_carryOut 17 = .ok (.istore_n 3, 1) := by decide +kernel
theorem dX9_carryOut_18 : decode cX9_carryOut 18 = .ok (.iload_n 3, 1) := by decide +kernel
theorem dX9_carryOut_19 : decode cX9_carryOut 19 = .ok (.aload_n 0, 1) := by decide +kernel
theorem dX9_carryOut_20 : decode cX9_carryOut 20 = .ok (.getfield 174, 3) := by decide +kernel
theorem dX9_carryOut_23 : decode cX9_carryOut 23 = .ok (.if_icmp .ge 66, 3) := by decide +kernel
theorem dX9_carryOut_26 : decode cX9_carryOut 26 = .ok (.iload_n 2, 1) := by decide +kernel
theorem dX9_carryOut_27 : decode cX9_carryOut 27 = .ok (.ifCond .eq 24, 3) := by decide +kernel
theorem dX9_carryOut_30 : decode cX9_carryOut 30 = .ok (.aload_n 0, 1) := by decide +kernel
theorem dX9_carryOut_31 : decode cX9_carryOut 31 = .ok (.aload_n 0, 1) := by decide +kernel
theorem dX9_carryOut_32 : decode cX9_carryOut 32 = .ok (.getfield 26, 3) := by decide +kernel
theorem dX9_carryOut_35 : decode cX9_carryOut 35 = .ok (.iconst 4, 1) := by decide +kernel
theorem dX9_carryOut_36 : decode cX9_carryOut 36 = .ok (.iload_n 3, 1) := by decide +kernel
theorem dX9_carryOut_37 : decode cX9_carryOut 37 = .ok (.imul, 1) := by decide +kernel
theorem dX9_carryOut_38 : decode cX9_carryOut 38 = .ok (.iconst 1, 1) := by decide +kernel
theorem dX9_carryOut_39 : decode cX9_carryOut 39 = .ok (.iadd, 1) := by decide +kernel
theorem dX9_carryOut_40 : decode cX9_carryOut 40 = .ok (.iaload, 1) := by decide +kernel
theorem dX9_carryOut_41 : decode cX9_carryOut 41 = .ok (.invokevirtual 53, 3) := by decide +kernel
theorem dX9_carryOut_44 : decode cX9_carryOut 44 = .ok (.ifCond .eq 7, 3) := by decide +kernel
theorem dX9_carryOut_47 : decode cX9_carryOut 47 = .ok (.iconst 1, 1) := by decide +kernel
theorem dX9_carryOut_48 : decode cX9_carryOut 48 = .ok (.goto 4, 3) := by decide +kernel
theorem dX9_carryOut_51 : decode cX9_carryOut 51 = .ok (.iconst 0, 1) := by decide +kernel
theorem dX9_carryOut_52 : decode cX9_carryOut 52 = .ok (.istore_n 2, 1) := by decide +kernel
theorem dX9_carryOut_53 : decode cX9_carryOut 53 = .ok (.iload_n 1, 1) := by decide +kernel
theorem dX9_carryOut_54 : decode cX9_carryOut 54 = .ok (.aload_n 0, 1) := by decide +kernel
theorem dX9_carryOut_55 : decode cX9_carryOut 55 = .ok (.getfield 26, 3) := by decide +kernel
theorem dX9_carryOut_58 : decode cX9_carryOut 58 = .ok (.iconst 4, 1) := by decide +kernel
theorem dX9_carryOut_59 : decode cX9_carryOut 59 = .ok (.iload_n 3, 1) := by decide +kernel
theorem dX9_carryOut_60 : decode cX9_carryOut 60 = .ok (.imul, 1) := by decide +kernel
theorem dX9_carryOut_61 : decode cX9_carryOut 61 = .ok (.iaload, 1) := by decide +kernel
theorem dX9_carryOut_62 : decode cX9_carryOut 62 = .ok (.bipush 110, 2) := by decide +kernel
theorem dX9_carryOut_64 : decode cX9_carryOut 64 = .ok (.if_icmp .ne 16, 3) := by decide +kernel
theorem dX9_carryOut_67 : decode cX9_carryOut 67 = .ok (.aload_n 0, 1) := by decide +kernel
theorem dX9_carryOut_68 : decode cX9_carryOut 68 = .ok (.getfield 26, 3) := by decide +kernel
theorem dX9_carryOut_71 : decode cX9_carryOut 71 = .ok (.iconst 4, 1) := by decide +kernel
theorem dX9_carryOut_72 : decode cX9_carryOut 72 = .ok (.iload_n 3, 1) := by decide +kernel
theorem dX9_carryOut_73 : decode cX9_carryOut 73 = .ok (.imul, 1) := by decide +kernel
theorem dX9_carryOut_74 : decode cX9_carryOut 74 = .ok (.iconst 2, 1) := by decide +kernel
theorem dX9_carryOut_75 : decode cX9_carryOut 75 = .ok (.iadd, 1) := by decide +kernel
theorem dX9_carryOut_76 : decode cX9_carryOut 76 = .ok (.iaload, 1) := by decide +kernel
theorem dX9_carryOut_77 : decode cX9_carryOut 77 = .ok (.goto 4, 3) := by decide +kernel
theorem dX9_carryOut_80 : decode cX9_carryOut 80 = .ok (.iconst 0, 1) := by decide +kernel
theorem dX9_carryOut_81 : decode cX9_carryOut 81 = .ok (.iadd, 1) := by decide +kernel
theorem dX9_carryOut_82 : decode cX9_carryOut 82 = .ok (.istore_n 1, 1) := by decide +kernel
theorem dX9_carryOut_83 : decode cX9_carryOut 83 = .ok (.iinc 3 1, 3) := by decide +kernel
theorem dX9_carryOut_86 : decode cX9_carryOut 86 = .ok (.goto (-68), 3) := by decide +kernel
theorem dX9_carryOut_89 : decode cX9_carryOut 89 = .ok (.iload_n 2, 1) := by decide +kernel
theorem dX9_carryOut_90 : decode cX9_carryOut 90 = .ok (.ifCond .ne 6, 3) := by decide +kernel
theorem dX9_carryOut_93 : decode cX9_carryOut 93 = .ok (.ldc 57, 2) := by decide +kernel
theorem dX9_carryOut_95 : decode cX9_carryOut 95 = .ok (.ireturn, 1) := by decide +kernel
theorem dX9_carryOut_96 : decode cX9_carryOut 96 = .ok (.aload_n 0, 1) := by decide +kernel
theorem dX9_carryOut_97 : decode cX9_carryOut 97 = .ok (.getfield 9, 3) := by decide +kernel
theorem dX9_carryOut_100 : decode cX9_carryOut 100 = .ok (.sipush 1765, 3) := by decide +kernel
theorem dX9_carryOut_103 : decode cX9_carryOut 103 = .ok (.iaload, 1) := by decide +kernel
theorem dX9_carryOut_104 : decode cX9_carryOut 104 = .ok (.iload_n 1, 1) := by decide +kernel
theorem dX9_carryOut_105 : decode cX9_carryOut 105 = .ok (.iadd, 1) := by decide +kernel
theorem dX9_carryOut_106 : decode cX9_carryOut 106 = .ok (.ldc 129, 2) := by decide +kernel
theorem dX9_carryOut_108 : decode cX9_carryOut 108 = .ok (.if_icmp .le 6, 3) := by decide +kernel
theorem dX9_carryOut_111 : decode cX9_carryOut 111 = .ok (.ldc 62, 2) := by decide +kernel
theorem dX9_carryOut_113 : decode cX9_carryOut 113 = .ok (.ireturn, 1) := by decide +kernel
theorem dX9_carryOut_114 : decode cX9_carryOut 114 = .ok (.iconst 0, 1) := by decide +kernel
theorem dX9_carryOut_115 : decode cX9_carryOut 115 = .ok (.istore_n 3, 1) := by decide +kernel
theorem dX9_carryOut_116 : decode cX9_carryOut 116 = .ok (.iload_n 3, 1) := by decide +kernel
theorem dX9_carryOut_117 : decode cX9_carryOut 117 = .ok (.aload_n 0, 1) := by decide +kernel
theorem dX9_carryOut_118 : decode cX9_carryOut 118 = .ok (.getfield 174, 3) := by decide +kernel
theorem dX9_carryOut_121 : decode cX9_carryOut 121 = .ok (.if_icmp .ge 16, 3) := by decide +kernel
theorem dX9_carryOut_124 : decode cX9_carryOut 124 = .ok (.aload_n 0, 1) := by decide +kernel
theorem dX9_carryOut_125 : decode cX9_carryOut 125 = .ok (.iconst 4, 1) := by decide +kernel
theorem dX9_carryOut_126 : decode cX9_carryOut 126 = .ok (.iload_n 3, 1) := by decide +kernel
theorem dX9_carryOut_127 : decode cX9_carryOut 127 = .ok (.imul, 1) := by decide +kernel
theorem dX9_carryOut_128 : decode cX9_carryOut 128 = .ok (.invokevirtual 190, 3) := by decide +kernel
theorem dX9_carryOut_131 : decode cX9_carryOut 131 = .ok (.iinc 3 1, 3) := by decide +kernel
theorem dX9_carryOut_134 : decode cX9_carryOut 134 = .ok (.goto (-18), 3) := by decide +kernel
theorem dX9_carryOut_137 : decode cX9_carryOut 137 = .ok (.aload_n 0, 1) := by decide +kernel
theorem dX9_carryOut_138 : decode cX9_carryOut 138 = .ok (.iconst 0, 1) := by decide +kernel
theorem dX9_carryOut_139 : decode cX9_carryOut 139 = .ok (.putfield 152, 3) := by decide +kernel
theorem dX9_carryOut_142 : decode cX9_carryOut 142 = .ok (.iload_n 1, 1) := by decide +kernel
theorem dX9_carryOut_143 : decode cX9_carryOut 143 = .ok (.ireturn, 1) := by decide +kernel
theorem dX9_count_0 : decode cX9_count 0 = .ok (.iload_n 1, 1) := by decide +kernel
theorem dX9_count_1 : decode cX9_count 1 = .ok (.tableswitch 108 0 4 #[35, 44, 53, 62, 103], 35) := by decide +kernel
theorem dX9_count_36 : decode cX9_count 36 = .ok (.aload_n 0, 1) := by decide +kernel
theorem dX9_count_37 : decode cX9_count 37 = .ok (.getfield 9, 3) := by decide +kernel
theorem dX9_count_40 : decode cX9_count 40 = .ok (.sipush 1765, 3) := by decide +kernel
theorem dX9_count_43 : decode cX9_count 43 = .ok (.iaload, 1) := by decide +kernel
theorem dX9_count_44 : decode cX9_count 44 = .ok (.ireturn, 1) := by decide +kernel
theorem dX9_count_45 : decode cX9_count 45 = .ok (.aload_n 0, 1) := by decide +kernel
theorem dX9_count_46 : decode cX9_count 46 = .ok (.getfield 9, 3) := by decide +kernel
theorem dX9_count_49 : decode cX9_count 49 = .ok (.sipush 1766, 3) := by decide +kernel
theorem dX9_count_52 : decode cX9_count 52 = .ok (.iaload, 1) := by decide +kernel
theorem dX9_count_53 : decode cX9_count 53 = .ok (.ireturn, 1) := by decide +kernel
theorem dX9_count_54 : decode cX9_count 54 = .ok (.aload_n 0, 1) := by decide +kernel
theorem dX9_count_55 : decode cX9_count 55 = .ok (.getfield 9, 3) := by decide +kernel
theorem dX9_count_58 : decode cX9_count 58 = .ok (.sipush 1767, 3) := by decide +kernel
theorem dX9_count_61 : decode cX9_count 61 = .ok (.iaload, 1) := by decide +kernel
theorem dX9_count_62 : decode cX9_count 62 = .ok (.ireturn, 1) := by decide +kernel
theorem dX9_count_63 : decode cX9_count 63 = .ok (.aload_n 0, 1) := by decide +kernel
theorem dX9_count_64 : decode cX9_count 64 = .ok (.getfield 9, 3) := by decide +kernel
theorem dX9_count_67 : decode cX9_count 67 = .ok (.sipush 1771, 3) := by decide +kernel
theorem dX9_count_70 : decode cX9_count 70 = .ok (.iaload, 1) := by decide +kernel
theorem dX9_count_71 : decode cX9_count 71 = .ok (.ifCond .ne 7, 3) := by decide +kernel
theorem dX9_count_74 : decode cX9_count 74 = .ok (.iconst 0, 1) := by decide +kernel
theorem dX9_count_75 : decode cX9_count 75 = .ok (.goto 28, 3) := by decide +kernel
theorem dX9_count_78 : decode cX9_count 78 = .ok (.aload_n 0, 1) := by decide +kernel
theorem dX9_count_79 : decode cX9_count 79 = .ok (.aload_n 0, 1) := by decide +kernel
theorem dX9_count_80 : decode cX9_count 80 = .ok (.getfield 9, 3) := by decide +kernel
theorem dX9_count_83 : decode cX9_count 83 = .ok (.sipush 1766, 3) := by decide +kernel
theorem dX9_count_86 : decode cX9_count 86 = .ok (.iaload, 1) := by decide +kernel
theorem dX9_count_87 : decode cX9_count 87 = .ok (.iconst 1, 1) := by decide +kernel
theorem dX9_count_88 : decode cX9_count 88 = .ok (.isub, 1) := by decide +kernel
theorem dX9_count_89 : decode cX9_count 89 = .ok (.invokevirtual 69, 3) := by decide +kernel
theorem dX9_count_92 : decode cX9_count 92 = .ok (.iconst 2, 1) := by decide +kernel
theorem dX9_count_93 : decode cX9_count 93 = .ok (.iadd, 1) := by decide +kernel
theorem dX9_count_94 : decode cX9_count 94 = .ok (.aload_n 0, 1) := by decide +kernel
theorem dX9_count_95 : decode cX9_count 95 = .ok (.getfield 9, 3) := by decide +kernel
theorem dX9_count_98 : decode cX9_count 98 = .ok (.sipush 1771, 3) := by decide +kernel
theorem dX9_count_101 : decode cX9_count 101 = .ok (.iaload, 1) := by decide +kernel
theorem dX9_count_102 : decode cX9_count 102 = .ok (.isub, 1) := by decide +kernel
theorem dX9_count_103 : decode cX9_count 103 = .ok (.ireturn, 1) := by decide +kernel
theorem dX9_count_104 : decode cX9_count 104 = .ok (.aload_n 0, 1) := by decide +kernel
theorem dX9_count_105 : decode cX9_count 105 = .ok (.getfield 152, 3) := by decide +kernel
theorem dX9_count_108 : decode cX9_count 108 = .ok (.ireturn, 1) := by decide +kernel
theorem dX9_count_109 : decode cX9_count 109 = .ok (.ldc 52, 2) := by decide +kernel
theorem dX9_count_111 : decode cX9_count 111 = .ok (.ireturn, 1) := by decide +kernel
theorem dX9_save_0 : decode cX9_save 0 = .ok (.iload_n 1, 1) := by decide +kernel
theorem dX9_save_1 : decode cX9_save 1 = .ok (.iconst 0, 1) := by decide +kernel
theorem dX9_save_2 : decode cX9_save 2 = .ok (.iconst 1, 1) := by decide +kernel
theorem dX9_save_3 : decode cX9_save 3 = .ok (.invokestatic 45, 3) := by decide +kernel
theorem dX9_save_6 : decode cX9_save 6 = .ok (.ifCond .ne 6, 3) := by decide +kernel
theorem dX9_save_9 : decode cX9_save 9 = .ok (.ldc 52, 2) := by decide +kernel
theorem dX9_save_11 : decode cX9_save 11 = .ok (.ireturn, 1) := by decide +kernel
theorem dX9_save_12 : decode cX9_save 12 = .ok (.iconst 0, 1) := by decide +kernel
theorem dX9_save_13 : decode cX9_save 13 = .ok (.istore_n 2, 1) := by decide +kernel
theorem dX9_save_14 : decode cX9_save 14 = .ok (.iload_n 2, 1) := by decide +kernel
theorem dX9_save_15 : decode cX9_save 15 = .ok (.sipush 1906, 3) := by decide +kernel
theorem dX9_save_18 : decode cX9_save 18 = .ok (.if_icmp .ge 27, 3) := by decide +kernel
theorem dX9_save_21 : decode cX9_save 21 = .ok (.aload_n 0, 1) := by decide +kernel
theorem dX9_save_22 : decode cX9_save 22 = .ok (.getfield 16, 3) := by decide +kernel
theorem dX9_save_25 : decode cX9_save 25 = .ok (.sipush 1906, 3) := by decide +kernel
theorem dX9_save_28 : decode cX9_save 28 = .ok (.iload_n 1, 1) := by decide +kernel
theorem dX9_save_29 : decode cX9_save 29 = .ok (.imul, 1) := by decide +kernel
theorem dX9_save_30 : decode cX9_save 30 = .ok (.iload_n 2, 1) := by decide +kernel
theorem dX9_save_31 : decode cX9_save 31 = .ok (.iadd, 1) := by decide +kernel
theorem dX9_save_32 : decode cX9_save 32 = .ok (.aload_n 0, 1) := by decide +kernel
theorem dX9_save_33 : decode cX9_save 33 = .ok (.getfield 9, 3) := by decide +kernel
theorem dX9_save_36 : decode cX9_save 36 = .ok (.iload_n 2, 1) := by decide +kernel
theorem dX9_save_37 : decode cX9_save 37 = .ok (.iaload, 1) := by decide +kernel
theorem dX9_save_38 : decode cX9_save 38 = .ok (.iastore, 1) := by decide +kernel
theorem dX9_save_39 : decode cX9_save 39 = .ok (.iinc 2 1, 3) := by decide +kernel
theorem dX9_save_42 : decode cX9_save 42 = .ok (.goto (-28), 3) := by decide +kernel
theorem dX9_save_45 : decode cX9_save 45 = .ok (.aload_n 0, 1) := by decide +kernel
theorem dX9_save_46 : decode cX9_save 46 = .ok (.getfield 19, 3) := by decide +kernel
theorem dX9_save_49 : decode cX9_save 49 = .ok (.iload_n 1, 1) := by decide +kernel
theorem dX9_save_50 : decode cX9_save 50 = .ok (.iconst 1, 1) := by decide +kernel
theorem dX9_save_51 : decode cX9_save 51 = .ok (.bastore, 1) := by decide +kernel
theorem dX9_save_52 : decode cX9_save 52 = .ok (.aload_n 0, 1) := by decide +kernel
theorem dX9_save_53 : decode cX9_save 53 = .ok (.getfield 9, 3) := by decide +kernel
theorem dX9_save_56 : decode cX9_save 56 = .ok (.sipush 1765, 3) := by decide +kernel
theorem dX9_save_59 : decode cX9_save 59 = .ok (.iaload, 1) := by decide +kernel
theorem dX9_save_60 : decode cX9_save 60 = .ok (.ireturn, 1) := by decide +kernel
theorem dX9_restore_0 : decode cX9_restore 0 = .ok (.iload_n 1, 1) := by decide +kernel
theorem dX9_restore_1 : decode cX9_restore 1 = .ok (.iconst 0, 1) := by decide +kernel
theorem dX9_restore_2 : decode cX9_restore 2 = .ok (.iconst 1, 1) := by decide +kernel
theorem dX9_restore_3 : decode cX9_restore 3 = .ok (.invokestatic 45, 3) := by decide +kernel
theorem dX9_restore_6 : decode cX9_restore 6 = .ok (.ifCond .ne 6, 3) := by decide +kernel
theorem dX9_restore_9 : decode cX9_restore 9 = .ok (.ldc 52, 2) := by decide +kernel
theorem dX9_restore_11 : decode cX9_restore 11 = .ok (.ireturn, 1) := by decide +kernel
theorem dX9_restore_12 : decode cX9_restore 12 = .ok (.aload_n 0, 1) := by decide +kernel
theorem dX9_restore_13 : decode cX9_restore 13 = .ok (.getfield 19, 3) := by decide +kernel
theorem dX9_restore_16 : decode cX9_restore 16 = .ok (.iload_n 1, 1) := by decide +kernel
theorem dX9_restore_17 : decode cX9_restore 17 = .ok (.baload, 1) := by decide +kernel
theorem dX9_restore_18 : decode cX9_restore 18 = .ok (.ifCond .ne 6, 3) := by decide +kernel
theorem dX9_restore_21 : decode cX9_restore 21 = .ok (.ldc 62, 2) := by decide +kernel
theorem dX9_restore_23 : decode cX9_restore 23 = .ok (.ireturn, 1) := by decide +kernel
theorem dX9_restore_24 : decode cX9_restore 24 = .ok (.iconst 0, 1) := by decide +kernel
theorem dX9_restore_25 : decode cX9_restore 25 = .ok (.istore_n 2, 1) := by decide +kernel
theorem dX9_restore_26 : decode cX9_restore 26 = .ok (.iload_n 2, 1) := by decide +kernel
theorem dX9_restore_27 : decode cX9_restore 27 = .ok (.sipush 1906, 3) := by decide +kernel
theorem dX9_restore_30 : decode cX9_restore 30 = .ok (.if_icmp .ge 27, 3) := by decide +kernel
theorem dX9_restore_33 : decode cX9_restore 33 = .ok (.aload_n 0, 1) := by decide +kernel
theorem dX9_restore_34 : decode cX9_restore 34 = .ok (.getfield 9, 3) := by decide +kernel
theorem dX9_restore_37 : decode cX9_restore 37 = .ok (.iload_n 2, 1) := by decide +kernel
theorem dX9_restore_38 : decode cX9_restore 38 = .ok (.aload_n 0, 1) := by decide +kernel
theorem dX9_restore_39 : decode cX9_restore 39 = .ok (.getfield 16, 3) := by decide +kernel
theorem dX9_restore_42 : decode cX9_restore 42 = .ok (.sipush 1906, 3) := by decide +kernel
theorem dX9_restore_45 : decode cX9_restore 45 = .ok (.iload_n 1, 1) := by decide +kernel
theorem dX9_restore_46 : decode cX9_restore 46 = .ok (.imul, 1) := by decide +kernel
theorem dX9_restore_47 : decode cX9_restore 47 = .ok (.iload_n 2, 1) := by decide +kernel
theorem dX9_restore_48 : decode cX9_restore 48 = .ok (.iadd, 1) := by decide +kernel
theorem dX9_restore_49 : decode cX9_restore 49 = .ok (.iaload, 1) := by decide +kernel
theorem dX9_restore_50 : decode cX9_restore 50 = .ok (.iastore, 1) := by decide +kernel
theorem dX9_restore_51 : decode cX9_restore 51 = .ok (.iinc 2 1, 3) := by decide +kernel
theorem dX9_restore_54 : decode cX9_restore 54 = .ok (.goto (-28), 3) := by decide +kernel
theorem dX9_restore_57 : decode cX9_restore 57 = .ok (.aload_n 0, 1) := by decide +kernel
theorem dX9_restore_58 : decode cX9_restore 58 = .ok (.getfield 9, 3) := by decide +kernel
theorem dX9_restore_61 : decode cX9_restore 61 = .ok (.sipush 1765, 3) := by decide +kernel
theorem dX9_restore_64 : decode cX9_restore 64 = .ok (.iaload, 1) := by decide +kernel
theorem dX9_restore_65 : decode cX9_restore 65 = .ok (.ireturn, 1) := by decide +kernel
end
section
/-! ===== the two layouts, and the rows of each field ===== -/
abbrev pr_E0 : Type := va_G × pr_T × (Nat → Nat) × va_W × Nat
def pr_LC : List (Nat × Nat) := [(8, 0), (3, 0), (12, 5), (10, 128), (10, 6), (7, 0), (10, 11), (4, 0), (10, 128), (10, 128), (0, 0), (5, 0), (1, 0), (10, 64), (7, 0), (10, 11), (4, 0), (10, 128), (10, 128), (0, 0), (5, 0), (1, 0), (10, 64), (7, 0), (10, 11), (4, 0), (10, 128), (10, 128), (0, 0), (5, 0), (1, 0), (10, 64), (7, 0), (10, 11), (4, 0), (10, 128), (10, 128), (0, 0), (5, 0), (1, 0), (10, 64), (7, 0), (10, 11), (4, 0), (10, 128), (10, 128), (0, 0), (5, 0), (1, 0), (10, 64), (3, 0), (12, 5), (10, 128), (10, 6), (7, 0), (10, 11), (4, 0), (10, 128), (10, 128), (0, 0), (5, 0), (1, 0), (10, 64), (7, 0), (10, 11), (4, 0), (10, 128), (10, 128), (0, 0), (5, 0), (1, 0), (10, 64), (7, 0), (10, 11), (4, 0), (10, 128), (10, 128), (0, 0), (5, 0), (1, 0), (10, 64), (7, 0), (10, 11), (4, 0), (10, 128), (10, 128), (0, 0), (5, 0), (1, 0), (10, 64), (7, 0), (10, 11), (4, 0), (10, 128), (10, 128), (0, 0), (5, 0), (1, 0), (10, 64), (6, 0), (3, 0), (12, 5), (10, 128), (10, 6), (7, 0), (10, 11), (4, 0), (10, 128), (10, 128), (0, 0), (5, 0), (1, 0), (10, 64), (7, 0), (10, 11), (4, 0), (10, 128), (10, 128), (0, 0), (5, 0), (1, 0), (10, 64), (7, 0), (10, 11), (4, 0), (10, 128), (10, 128), (0, 0), (5, 0), (1, 0), (10, 64), (7, 0), (10, 11), (4, 0), (10, 128), (10, 128), (0, 0), (5, 0), (1, 0), (10, 64), (7, 0), (10, 11), (4, 0), (10, 128), (10, 128), (0, 0), (5, 0), (1, 0), (10, 64), (6, 0), (3, 0), (12, 5), (10, 128), (10, 6), (7, 0), (10, 11), (4, 0), (10, 128), (10, 128), (0, 0), (5, 0), (1, 0), (10, 64), (7, 0), (10, 11), (4, 0), (10, 128), (10, 128), (0, 0), (5, 0), (1, 0), (10, 64), (7, 0), (10, 11), (4, 0), (10, 128), (10, 128), (0, 0), (5, 0), (1, 0), (10, 64), (7, 0), (10, 11), (4, 0), (10, 128), (10, 128), (0, 0), (5, 0), (1, 0), (10, 64), (7, 0), (10, 11), (4, 0), (10, 128), (10, 128), (0, 0), (5, 0), (1, 0), (10, 64), (2, 0), (10, 80)]
def pr_LM : List (Nat × Nat) := [(9, 0), (10, 1906), (10, 1906), (10, 3812), (11, 2), (10, 80), (10, 164)]
abbrev pr_EC (l : Launch) (e : pr_E0) : pr_E := (l, e.1, e.2.1, pr_LC, e.2.2.1, e.2.2.2.1, e.2.2.2.2)
abbrev pr_EM (l : Launch) (e : pr_E0) : pr_E := (l, e.1, e.2.1, pr_LM, e.2.2.1, e.2.2.2.1, e.2.2.2.2)
def pr_fuel : Nat := 4000
def pr_rv (E : pr_E) (o : Option Nat) : Value := match o with
  | none => .null
  | some c => .ref (pr_ad E c)
def pr_b1 {α β : Type} (x : Option α) (k : α → Option β) : Option β := match x with
  | none => none
  | some a => k a
theorem pr_b1_some {α β : Type} {x : Option α} {k : α → Option β} {z : β} (h : pr_b1 x k = some z) : ∃ a : α, x = some a ∧ k a = some z := by
  cases x with
  | none => cases h
  | some q => exact ⟨q, rfl, h⟩
theorem pr_in1 {α : Type} {a b : α} (h : some a = some b) : b = a := by cases h; rfl
theorem pr_op_n {β : Type} {n : Option β} {k : Nat → Option β} {z : β} (h : pr_op none n k = some z) : n = some z := h
theorem pr_op_s {β : Type} {n : Option β} {k : Nat → Option β} {z : β} {a : Nat} (h : pr_op (some a) n k = some z) : k a = some z := h
theorem pr_b01 {v : Int32} (h : v = 0 ∨ v = 1) : narrow .boolean (.int v) = .int v ∧ fits .boolean (.int v) = true := by
  rcases h with rfl | rfl <;> exact ⟨by decide, by decide⟩
theorem pr_kC_1_0 {c : Nat} (h : pr_LC[c]? = some (1, 0)) : pr_LC[c + 1]? = some (10, 64) := by
  have hc : c < 201 := (List.getElem?_eq_some_iff.mp h).1
  have key : ∀ c, c < 201 → pr_LC[c]? = some (1, 0) → pr_LC[c + 1]? = some (10, 64) := by decide +kernel
  exact key c hc h
theorem pr_kC_2_0 {c : Nat} (h : pr_LC[c]? = some (2, 0)) : pr_LC[c + 1]? = some (10, 80) := by
  have hc : c < 201 := (List.getElem?_eq_some_iff.mp h).1
  have key : ∀ c, c < 201 → pr_LC[c]? = some (2, 0) → pr_LC[c + 1]? = some (10, 80) := by decide +kernel
  exact key c hc h
theorem pr_kC_3_0 {c : Nat} (h : pr_LC[c]? = some (3, 0)) : pr_LC[c + 1]? = some (12, 5) := by
  have hc : c < 201 := (List.getElem?_eq_some_iff.mp h).1
  have key : ∀ c, c < 201 → pr_LC[c]? = some (3, 0) → pr_LC[c + 1]? = some (12, 5) := by decide +kernel
  exact key c hc h
theorem pr_kC_3_1 {c : Nat} (h : pr_LC[c]? = some (3, 0)) : pr_LC[c + 2]? = some (10, 128) := by
  have hc : c < 201 := (List.getElem?_eq_some_iff.mp h).1
  have key : ∀ c, c < 201 → pr_LC[c]? = some (3, 0) → pr_LC[c + 2]? = some (10, 128) := by decide +kernel
  exact key c hc h
theorem pr_kC_3_2 {c : Nat} (h : pr_LC[c]? = some (3, 0)) : pr_LC[c + 3]? = some (10, 6) := by
  have hc : c < 201 := (List.getElem?_eq_some_iff.mp h).1
  have key : ∀ c, c < 201 → pr_LC[c]? = some (3, 0) → pr_LC[c + 3]? = some (10, 6) := by decide +kernel
  exact key c hc h
theorem pr_kC_4_0 {c : Nat} (h : pr_LC[c]? = some (4, 0)) : pr_LC[c + 1]? = some (10, 128) := by
  have hc : c < 201 := (List.getElem?_eq_some_iff.mp h).1
  have key : ∀ c, c < 201 → pr_LC[c]? = some (4, 0) → pr_LC[c + 1]? = some (10, 128) := by decide +kernel
  exact key c hc h
theorem pr_kC_4_1 {c : Nat} (h : pr_LC[c]? = some (4, 0)) : pr_LC[c + 2]? = some (10, 128) := by
  have hc : c < 201 := (List.getElem?_eq_some_iff.mp h).1
  have key : ∀ c, c < 201 → pr_LC[c]? = some (4, 0) → pr_LC[c + 2]? = some (10, 128) := by decide +kernel
  exact key c hc h
theorem pr_kC_5_0 {c : Nat} (h : pr_LC[c]? = some (5, 0)) : pr_LC[c + 1]? = some (1, 0) := by
  have hc : c < 201 := (List.getElem?_eq_some_iff.mp h).1
  have key : ∀ c, c < 201 → pr_LC[c]? = some (5, 0) → pr_LC[c + 1]? = some (1, 0) := by decide +kernel
  exact key c hc h
theorem pr_kC_6_0 {c : Nat} (h : pr_LC[c]? = some (6, 0)) : pr_LC[c + 1]? = some (3, 0) := by
  have hc : c < 201 := (List.getElem?_eq_some_iff.mp h).1
  have key : ∀ c, c < 201 → pr_LC[c]? = some (6, 0) → pr_LC[c + 1]? = some (3, 0) := by decide +kernel
  exact key c hc h
theorem pr_kC_7_0 {c : Nat} (h : pr_LC[c]? = some (7, 0)) : pr_LC[c + 1]? = some (10, 11) := by
  have hc : c < 201 := (List.getElem?_eq_some_iff.mp h).1
  have key : ∀ c, c < 201 → pr_LC[c]? = some (7, 0) → pr_LC[c + 1]? = some (10, 11) := by decide +kernel
  exact key c hc h
theorem pr_kC_7_1 {c : Nat} (h : pr_LC[c]? = some (7, 0)) : pr_LC[c + 2]? = some (4, 0) := by
  have hc : c < 201 := (List.getElem?_eq_some_iff.mp h).1
  have key : ∀ c, c < 201 → pr_LC[c]? = some (7, 0) → pr_LC[c + 2]? = some (4, 0) := by decide +kernel
  exact key c hc h
theorem pr_kC_7_2 {c : Nat} (h : pr_LC[c]? = some (7, 0)) : pr_LC[c + 5]? = some (0, 0) := by
  have hc : c < 201 := (List.getElem?_eq_some_iff.mp h).1
  have key : ∀ c, c < 201 → pr_LC[c]? = some (7, 0) → pr_LC[c + 5]? = some (0, 0) := by decide +kernel
  exact key c hc h
theorem pr_kC_7_3 {c : Nat} (h : pr_LC[c]? = some (7, 0)) : pr_LC[c + 6]? = some (5, 0) := by
  have hc : c < 201 := (List.getElem?_eq_some_iff.mp h).1
  have key : ∀ c, c < 201 → pr_LC[c]? = some (7, 0) → pr_LC[c + 6]? = some (5, 0) := by decide +kernel
  exact key c hc h
theorem pr_kC_8_0 {c : Nat} (h : pr_LC[c]? = some (8, 0)) : pr_LC[c + 1]? = some (3, 0) := by
  have hc : c < 201 := (List.getElem?_eq_some_iff.mp h).1
  have key : ∀ c, c < 201 → pr_LC[c]? = some (8, 0) → pr_LC[c + 1]? = some (3, 0) := by decide +kernel
  exact key c hc h
theorem pr_kC_8_1 {c : Nat} (h : pr_LC[c]? = some (8, 0)) : pr_LC[c + 50]? = some (3, 0) := by
  have hc : c < 201 := (List.getElem?_eq_some_iff.mp h).1
  have key : ∀ c, c < 201 → pr_LC[c]? = some (8, 0) → pr_LC[c + 50]? = some (3, 0) := by decide +kernel
  exact key c hc h
theorem pr_kC_8_2 {c : Nat} (h : pr_LC[c]? = some (8, 0)) : pr_LC[c + 99]? = some (6, 0) := by
  have hc : c < 201 := (List.getElem?_eq_some_iff.mp h).1
  have key : ∀ c, c < 201 → pr_LC[c]? = some (8, 0) → pr_LC[c + 99]? = some (6, 0) := by decide +kernel
  exact key c hc h
theorem pr_kC_8_3 {c : Nat} (h : pr_LC[c]? = some (8, 0)) : pr_LC[c + 149]? = some (6, 0) := by
  have hc : c < 201 := (List.getElem?_eq_some_iff.mp h).1
  have key : ∀ c, c < 201 → pr_LC[c]? = some (8, 0) → pr_LC[c + 149]? = some (6, 0) := by decide +kernel
  exact key c hc h
theorem pr_kC_8_4 {c : Nat} (h : pr_LC[c]? = some (8, 0)) : pr_LC[c + 199]? = some (2, 0) := by
  have hc : c < 201 := (List.getElem?_eq_some_iff.mp h).1
  have key : ∀ c, c < 201 → pr_LC[c]? = some (8, 0) → pr_LC[c + 199]? = some (2, 0) := by decide +kernel
  exact key c hc h
theorem pr_kM_9_0 {c : Nat} (h : pr_LM[c]? = some (9, 0)) : pr_LM[c + 1]? = some (10, 1906) := by
  have hc : c < 7 := (List.getElem?_eq_some_iff.mp h).1
  have key : ∀ c, c < 7 → pr_LM[c]? = some (9, 0) → pr_LM[c + 1]? = some (10, 1906) := by decide +kernel
  exact key c hc h
theorem pr_kM_9_1 {c : Nat} (h : pr_LM[c]? = some (9, 0)) : pr_LM[c + 2]? = some (10, 1906) := by
  have hc : c < 7 := (List.getElem?_eq_some_iff.mp h).1
  have key : ∀ c, c < 7 → pr_LM[c]? = some (9, 0) → pr_LM[c + 2]? = some (10, 1906) := by decide +kernel
  exact key c hc h
theorem pr_kM_9_2 {c : Nat} (h : pr_LM[c]? = some (9, 0)) : pr_LM[c + 3]? = some (10, 3812) := by
  have hc : c < 7 := (List.getElem?_eq_some_iff.mp h).1
  have key : ∀ c, c < 7 → pr_LM[c]? = some (9, 0) → pr_LM[c + 3]? = some (10, 3812) := by decide +kernel
  exact key c hc h
theorem pr_kM_9_3 {c : Nat} (h : pr_LM[c]? = some (9, 0)) : pr_LM[c + 4]? = some (11, 2) := by
  have hc : c < 7 := (List.getElem?_eq_some_iff.mp h).1
  have key : ∀ c, c < 7 → pr_LM[c]? = some (9, 0) → pr_LM[c + 4]? = some (11, 2) := by decide +kernel
  exact key c hc h
theorem pr_kM_9_4 {c : Nat} (h : pr_LM[c]? = some (9, 0)) : pr_LM[c + 5]? = some (10, 80) := by
  have hc : c < 7 := (List.getElem?_eq_some_iff.mp h).1
  have key : ∀ c, c < 7 → pr_LM[c]? = some (9, 0) → pr_LM[c + 5]? = some (10, 80) := by decide +kernel
  exact key c hc h
theorem pr_kM_9_8 {c : Nat} (h : pr_LM[c]? = some (9, 0)) : pr_LM[c + 6]? = some (10, 164) := by
  have hc : c < 7 := (List.getElem?_eq_some_iff.mp h).1
  have key : ∀ c, c < 7 → pr_LM[c]? = some (9, 0) → pr_LM[c + 6]? = some (10, 164) := by decide +kernel
  exact key c hc h
theorem pr_kC_u {c : Nat} {i : Int32} (h : pr_LC[c]? = some (12, 5)) (hg : ¬ (i < 0 ∨ 5 ≤ Int32.toNatClampNeg i)) : pr_LC[c + 3 + 9 * Int32.toNatClampNeg i]? = some (7, 0) := by
  have hc : c < 201 := (List.getElem?_eq_some_iff.mp h).1
  have hi : Int32.toNatClampNeg i < 5 := Nat.not_le.mp fun q => hg (Or.inr q)
  generalize Int32.toNatClampNeg i = j at hi ⊢
  have key : ∀ c, c < 201 → ∀ j, j < 5 → pr_LC[c]? = some (12, 5) → pr_LC[c + 3 + 9 * j]? = some (7, 0) := by decide +kernel
  exact key c hc j hi h
theorem pr_uw0 : ∀ w ∈ u_ws RX0 TX0 9, w ∈ pr_AL := pr_in_wsX00
theorem pr_uw1 : ∀ w ∈ u_ws RX1 TX1 2, w ∈ pr_AL := pr_in_wsX10
theorem pr_uw2 : ∀ w ∈ u_ws RX2 TX2 10, w ∈ pr_AL := pr_in_wsX20
theorem pr_uw3 : ∀ w ∈ u_ws RX3 TX3 10, w ∈ pr_AL := pr_in_wsX30
theorem pr_uw4 : ∀ w ∈ u_ws RX4 TX4 8, w ∈ pr_AL := pr_in_wsX40
theorem pr_uw5 : ∀ w ∈ u_ws RX5 TX5 10, w ∈ pr_AL := pr_in_wsX50
theorem pr_uw6 : ∀ w ∈ u_ws RX6 TX6 2, w ∈ pr_AL := pr_in_wsX60
theorem pr_uw7 : ∀ w ∈ u_ws RX7 TX7 4, w ∈ pr_AL := pr_in_wsX70
theorem pr_uw8 : ∀ w ∈ u_ws RX8 TX8 5, w ∈ pr_AL := pr_in_wsX80
theorem pr_uw9 : ∀ w ∈ u_ws RX9 TX9 10, w ∈ pr_AL := pr_in_wsX90
section FR
variable {E : pr_E} {Y : pr_Y} {Rm : Room} {cc : ByteArray} {own : String} {nL : Nat} {c0 : Cond} {f : pr_M} {pc : Nat} {lv : List (Nat × Value)} {st : List Value}
theorem pr_g_0_0 (C : pr_C E Y Rm cc own nL c0) {c z idx : Nat} (hk : (pr_L E)[c]? = some (0, z)) (hw : Cond.fieldLink own idx "PrintRegister$Controller" "feed" "I" ∈ pr_AL) (hdg : decode cc pc = .ok (.getfield idx, 3)) (k : pr_W E Y Rm nL f (pc + 3) lv (.int (f c 0) :: st)) : pr_W E Y Rm nL f pc lv (.ref (pr_ad E c) :: st) := pr_getf (N := 9) (T := TX0) (Cn := RX0) C hk (by decide) rfl pr_uw0 0 (by decide) hw rfl hdg k
theorem pr_g_0_1 (C : pr_C E Y Rm cc own nL c0) {c z idx : Nat} (hk : (pr_L E)[c]? = some (0, z)) (hw : Cond.fieldLink own idx "PrintRegister$Controller" "sum" "I" ∈ pr_AL) (hdg : decode cc pc = .ok (.getfield idx, 3)) (k : pr_W E Y Rm nL f (pc + 3) lv (.int (f c 1) :: st)) : pr_W E Y Rm nL f pc lv (.ref (pr_ad E c) :: st) := pr_getf (N := 9) (T := TX0) (Cn := RX0) C hk (by decide) rfl pr_uw0 1 (by decide) hw rfl hdg k
theorem pr_g_0_2 (C : pr_C E Y Rm cc own nL c0) {c z idx : Nat} (hk : (pr_L E)[c]? = some (0, z)) (hw : Cond.fieldLink own idx "PrintRegister$Controller" "wait" "I" ∈ pr_AL) (hdg : decode cc pc = .ok (.getfield idx, 3)) (k : pr_W E Y Rm nL f (pc + 3) lv (.int (f c 2) :: st)) : pr_W E Y Rm nL f pc lv (.ref (pr_ad E c) :: st) := pr_getf (N := 9) (T := TX0) (Cn := RX0) C hk (by decide) rfl pr_uw0 2 (by decide) hw rfl hdg k
theorem pr_g_0_3 (C : pr_C E Y Rm cc own nL c0) {c z idx : Nat} (hk : (pr_L E)[c]? = some (0, z)) (hw : Cond.fieldLink own idx "PrintRegister$Controller" "misses" "I" ∈ pr_AL) (hdg : decode cc pc = .ok (.getfield idx, 3)) (k : pr_W E Y Rm nL f (pc + 3) lv (.int (f c 3) :: st)) : pr_W E Y Rm nL f pc lv (.ref (pr_ad E c) :: st) := pr_getf (N := 9) (T := TX0) (Cn := RX0) C hk (by decide) rfl pr_uw0 3 (by decide) hw rfl hdg k
theorem pr_g_0_4 (C : pr_C E Y Rm cc own nL c0) {c z idx : Nat} (hk : (pr_L E)[c]? = some (0, z)) (hw : Cond.fieldLink own idx "PrintRegister$Controller" "readyTime" "I" ∈ pr_AL) (hdg : decode cc pc = .ok (.getfield idx, 3)) (k : pr_W E Y Rm nL f (pc + 3) lv (.int (f c 4) :: st)) : pr_W E Y Rm nL f pc lv (.ref (pr_ad E c) :: st) := pr_getf (N := 9) (T := TX0) (Cn := RX0) C hk (by decide) rfl pr_uw0 4 (by decide) hw rfl hdg k
theorem pr_g_0_5 (C : pr_C E Y Rm cc own nL c0) {c z idx : Nat} (hk : (pr_L E)[c]? = some (0, z)) (hw : Cond.fieldLink own idx "PrintRegister$Controller" "expectedError" "I" ∈ pr_AL) (hdg : decode cc pc = .ok (.getfield idx, 3)) (k : pr_W E Y Rm nL f (pc + 3) lv (.int (f c 5) :: st)) : pr_W E Y Rm nL f pc lv (.ref (pr_ad E c) :: st) := pr_getf (N := 9) (T := TX0) (Cn := RX0) C hk (by decide) rfl pr_uw0 5 (by decide) hw rfl hdg k
theorem pr_g_0_6 (C : pr_C E Y Rm cc own nL c0) {c z idx : Nat} (hk : (pr_L E)[c]? = some (0, z)) (hw : Cond.fieldLink own idx "PrintRegister$Controller" "expectedSkew" "I" ∈ pr_AL) (hdg : decode cc pc = .ok (.getfield idx, 3)) (k : pr_W E Y Rm nL f (pc + 3) lv (.int (f c 6) :: st)) : pr_W E Y Rm nL f pc lv (.ref (pr_ad E c) :: st) := pr_getf (N := 9) (T := TX0) (Cn := RX0) C hk (by decide) rfl pr_uw0 6 (by decide) hw rfl hdg k
theorem pr_g_0_7 (C : pr_C E Y Rm cc own nL c0) {c z idx : Nat} (hk : (pr_L E)[c]? = some (0, z)) (hw : Cond.fieldLink own idx "PrintRegister$Controller" "addedPhase" "I" ∈ pr_AL) (hdg : decode cc pc = .ok (.getfield idx, 3)) (k : pr_W E Y Rm nL f (pc + 3) lv (.int (f c 7) :: st)) : pr_W E Y Rm nL f pc lv (.ref (pr_ad E c) :: st) := pr_getf (N := 9) (T := TX0) (Cn := RX0) C hk (by decide) rfl pr_uw0 7 (by decide) hw rfl hdg k
theorem pr_g_0_8 (C : pr_C E Y Rm cc own nL c0) {c z idx : Nat} (hk : (pr_L E)[c]? = some (0, z)) (hw : Cond.fieldLink own idx "PrintRegister$Controller" "addedSkew" "I" ∈ pr_AL) (hdg : decode cc pc = .ok (.getfield idx, 3)) (k : pr_W E Y Rm nL f (pc + 3) lv (.int (f c 8) :: st)) : pr_W E Y Rm nL f pc lv (.ref (pr_ad E c) :: st) := pr_getf (N := 9) (T := TX0) (Cn := RX0) C hk (by decide) rfl pr_uw0 8 (by decide) hw rfl hdg k
theorem pr_g_1_0 (C : pr_C E Y Rm cc own nL c0) {c z idx : Nat} (hk : (pr_L E)[c]? = some (1, z)) (hw : Cond.fieldLink own idx "PrintRegister$ErrorLog" "places" "[I" ∈ pr_AL) (hdg : decode cc pc = .ok (.getfield idx, 3)) (k : pr_W E Y Rm nL f (pc + 3) lv (.ref (pr_ad E (c + 1)) :: st)) : pr_W E Y Rm nL f pc lv (.ref (pr_ad E c) :: st) := pr_getf (N := 2) (T := TX1) (Cn := RX1) C hk (by decide) rfl pr_uw1 0 (by decide) hw rfl hdg k
theorem pr_g_1_1 (C : pr_C E Y Rm cc own nL c0) {c z idx : Nat} (hk : (pr_L E)[c]? = some (1, z)) (hw : Cond.fieldLink own idx "PrintRegister$ErrorLog" "added" "I" ∈ pr_AL) (hdg : decode cc pc = .ok (.getfield idx, 3)) (k : pr_W E Y Rm nL f (pc + 3) lv (.int (f c 1) :: st)) : pr_W E Y Rm nL f pc lv (.ref (pr_ad E c) :: st) := pr_getf (N := 2) (T := TX1) (Cn := RX1) C hk (by decide) rfl pr_uw1 1 (by decide) hw rfl hdg k
theorem pr_g_2_0 (C : pr_C E Y Rm cc own nL c0) {c z idx : Nat} (hk : (pr_L E)[c]? = some (2, z)) (hw : Cond.fieldLink own idx "PrintRegister$Pad" "codes" "[I" ∈ pr_AL) (hdg : decode cc pc = .ok (.getfield idx, 3)) (k : pr_W E Y Rm nL f (pc + 3) lv (.ref (pr_ad E (c + 1)) :: st)) : pr_W E Y Rm nL f pc lv (.ref (pr_ad E c) :: st) := pr_getf (N := 10) (T := TX2) (Cn := RX2) C hk (by decide) rfl pr_uw2 0 (by decide) hw rfl hdg k
theorem pr_g_2_1 (C : pr_C E Y Rm cc own nL c0) {c z idx : Nat} (hk : (pr_L E)[c]? = some (2, z)) (hw : Cond.fieldLink own idx "PrintRegister$Pad" "length" "I" ∈ pr_AL) (hdg : decode cc pc = .ok (.getfield idx, 3)) (k : pr_W E Y Rm nL f (pc + 3) lv (.int (f c 1) :: st)) : pr_W E Y Rm nL f pc lv (.ref (pr_ad E c) :: st) := pr_getf (N := 10) (T := TX2) (Cn := RX2) C hk (by decide) rfl pr_uw2 1 (by decide) hw rfl hdg k
theorem pr_g_2_2 (C : pr_C E Y Rm cc own nL c0) {c z idx : Nat} (hk : (pr_L E)[c]? = some (2, z)) (hw : Cond.fieldLink own idx "PrintRegister$Pad" "at" "I" ∈ pr_AL) (hdg : decode cc pc = .ok (.getfield idx, 3)) (k : pr_W E Y Rm nL f (pc + 3) lv (.int (f c 2) :: st)) : pr_W E Y Rm nL f pc lv (.ref (pr_ad E c) :: st) := pr_getf (N := 10) (T := TX2) (Cn := RX2) C hk (by decide) rfl pr_uw2 2 (by decide) hw rfl hdg k
theorem pr_g_2_3 (C : pr_C E Y Rm cc own nL c0) {c z idx : Nat} (hk : (pr_L E)[c]? = some (2, z)) (hw : Cond.fieldLink own idx "PrintRegister$Pad" "failed" "Z" ∈ pr_AL) (hdg : decode cc pc = .ok (.getfield idx, 3)) (k : pr_W E Y Rm nL f (pc + 3) lv (.int (f c 3) :: st)) : pr_W E Y Rm nL f pc lv (.ref (pr_ad E c) :: st) := pr_getf (N := 10) (T := TX2) (Cn := RX2) C hk (by decide) rfl pr_uw2 3 (by decide) hw rfl hdg k
theorem pr_g_2_4 (C : pr_C E Y Rm cc own nL c0) {c z idx : Nat} (hk : (pr_L E)[c]? = some (2, z)) (hw : Cond.fieldLink own idx "PrintRegister$Pad" "kind" "I" ∈ pr_AL) (hdg : decode cc pc = .ok (.getfield idx, 3)) (k : pr_W E Y Rm nL f (pc + 3) lv (.int (f c 4) :: st)) : pr_W E Y Rm nL f pc lv (.ref (pr_ad E c) :: st) := pr_getf (N := 10) (T := TX2) (Cn := RX2) C hk (by decide) rfl pr_uw2 4 (by decide) hw rfl hdg k
theorem pr_g_2_5 (C : pr_C E Y Rm cc own nL c0) {c z idx : Nat} (hk : (pr_L E)[c]? = some (2, z)) (hw : Cond.fieldLink own idx "PrintRegister$Pad" "unit" "I" ∈ pr_AL) (hdg : decode cc pc = .ok (.getfield idx, 3)) (k : pr_W E Y Rm nL f (pc + 3) lv (.int (f c 5) :: st)) : pr_W E Y Rm nL f pc lv (.ref (pr_ad E c) :: st) := pr_getf (N := 10) (T := TX2) (Cn := RX2) C hk (by decide) rfl pr_uw2 5 (by decide) hw rfl hdg k
theorem pr_g_2_6 (C : pr_C E Y Rm cc own nL c0) {c z idx : Nat} (hk : (pr_L E)[c]? = some (2, z)) (hw : Cond.fieldLink own idx "PrintRegister$Pad" "number" "I" ∈ pr_AL) (hdg : decode cc pc = .ok (.getfield idx, 3)) (k : pr_W E Y Rm nL f (pc + 3) lv (.int (f c 6) :: st)) : pr_W E Y Rm nL f pc lv (.ref (pr_ad E c) :: st) := pr_getf (N := 10) (T := TX2) (Cn := RX2) C hk (by decide) rfl pr_uw2 6 (by decide) hw rfl hdg k
theorem pr_g_2_8 (C : pr_C E Y Rm cc own nL c0) {c z idx : Nat} (hk : (pr_L E)[c]? = some (2, z)) (hw : Cond.fieldLink own idx "PrintRegister$Pad" "repeats" "I" ∈ pr_AL) (hdg : decode cc pc = .ok (.getfield idx, 3)) (k : pr_W E Y Rm nL f (pc + 3) lv (.int (f c 8) :: st)) : pr_W E Y Rm nL f pc lv (.ref (pr_ad E c) :: st) := pr_getf (N := 10) (T := TX2) (Cn := RX2) C hk (by decide) rfl pr_uw2 8 (by decide) hw rfl hdg k
theorem pr_g_2_9 (C : pr_C E Y Rm cc own nL c0) {c z idx : Nat} (hk : (pr_L E)[c]? = some (2, z)) (hw : Cond.fieldLink own idx "PrintRegister$Pad" "greatestUnit" "I" ∈ pr_AL) (hdg : decode cc pc = .ok (.getfield idx, 3)) (k : pr_W E Y Rm nL f (pc + 3) lv (.int (f c 9) :: st)) : pr_W E Y Rm nL f pc lv (.ref (pr_ad E c) :: st) := pr_getf (N := 10) (T := TX2) (Cn := RX2) C hk (by decide) rfl pr_uw2 9 (by decide) hw rfl hdg k
theorem pr_g_3_0 (C : pr_C E Y Rm cc own nL c0) {c z idx : Nat} (hk : (pr_L E)[c]? = some (3, z)) (hw : Cond.fieldLink own idx "PrintRegister$Press" "units" "[LPrintRegister$Unit;" ∈ pr_AL) (hdg : decode cc pc = .ok (.getfield idx, 3)) (k : pr_W E Y Rm nL f (pc + 3) lv (.ref (pr_ad E (c + 1)) :: st)) : pr_W E Y Rm nL f pc lv (.ref (pr_ad E c) :: st) := pr_getf (N := 10) (T := TX3) (Cn := RX3) C hk (by decide) rfl pr_uw3 0 (by decide) hw rfl hdg k
theorem pr_g_3_1 (C : pr_C E Y Rm cc own nL c0) {c z idx : Nat} (hk : (pr_L E)[c]? = some (3, z)) (hw : Cond.fieldLink own idx "PrintRegister$Press" "changes" "[I" ∈ pr_AL) (hdg : decode cc pc = .ok (.getfield idx, 3)) (k : pr_W E Y Rm nL f (pc + 3) lv (.ref (pr_ad E (c + 2)) :: st)) : pr_W E Y Rm nL f pc lv (.ref (pr_ad E c) :: st) := pr_getf (N := 10) (T := TX3) (Cn := RX3) C hk (by decide) rfl pr_uw3 1 (by decide) hw rfl hdg k
theorem pr_g_3_2 (C : pr_C E Y Rm cc own nL c0) {c z idx : Nat} (hk : (pr_L E)[c]? = some (3, z)) (hw : Cond.fieldLink own idx "PrintRegister$Press" "totals" "[I" ∈ pr_AL) (hdg : decode cc pc = .ok (.getfield idx, 3)) (k : pr_W E Y Rm nL f (pc + 3) lv (.ref (pr_ad E (c + 3)) :: st)) : pr_W E Y Rm nL f pc lv (.ref (pr_ad E c) :: st) := pr_getf (N := 10) (T := TX3) (Cn := RX3) C hk (by decide) rfl pr_uw3 2 (by decide) hw rfl hdg k
theorem pr_g_3_3 (C : pr_C E Y Rm cc own nL c0) {c z idx : Nat} (hk : (pr_L E)[c]? = some (3, z)) (hw : Cond.fieldLink own idx "PrintRegister$Press" "unitCount" "I" ∈ pr_AL) (hdg : decode cc pc = .ok (.getfield idx, 3)) (k : pr_W E Y Rm nL f (pc + 3) lv (.int (f c 3) :: st)) : pr_W E Y Rm nL f pc lv (.ref (pr_ad E c) :: st) := pr_getf (N := 10) (T := TX3) (Cn := RX3) C hk (by decide) rfl pr_uw3 3 (by decide) hw rfl hdg k
theorem pr_g_3_4 (C : pr_C E Y Rm cc own nL c0) {c z idx : Nat} (hk : (pr_L E)[c]? = some (3, z)) (hw : Cond.fieldLink own idx "PrintRegister$Press" "time" "I" ∈ pr_AL) (hdg : decode cc pc = .ok (.getfield idx, 3)) (k : pr_W E Y Rm nL f (pc + 3) lv (.int (f c 4) :: st)) : pr_W E Y Rm nL f pc lv (.ref (pr_ad E c) :: st) := pr_getf (N := 10) (T := TX3) (Cn := RX3) C hk (by decide) rfl pr_uw3 4 (by decide) hw rfl hdg k
theorem pr_g_3_5 (C : pr_C E Y Rm cc own nL c0) {c z idx : Nat} (hk : (pr_L E)[c]? = some (3, z)) (hw : Cond.fieldLink own idx "PrintRegister$Press" "speedNow" "I" ∈ pr_AL) (hdg : decode cc pc = .ok (.getfield idx, 3)) (k : pr_W E Y Rm nL f (pc + 3) lv (.int (f c 5) :: st)) : pr_W E Y Rm nL f pc lv (.ref (pr_ad E c) :: st) := pr_getf (N := 10) (T := TX3) (Cn := RX3) C hk (by decide) rfl pr_uw3 5 (by decide) hw rfl hdg k
theorem pr_g_3_6 (C : pr_C E Y Rm cc own nL c0) {c z idx : Nat} (hk : (pr_L E)[c]? = some (3, z)) (hw : Cond.fieldLink own idx "PrintRegister$Press" "speedBefore" "I" ∈ pr_AL) (hdg : decode cc pc = .ok (.getfield idx, 3)) (k : pr_W E Y Rm nL f (pc + 3) lv (.int (f c 6) :: st)) : pr_W E Y Rm nL f pc lv (.ref (pr_ad E c) :: st) := pr_getf (N := 10) (T := TX3) (Cn := RX3) C hk (by decide) rfl pr_uw3 6 (by decide) hw rfl hdg k
theorem pr_g_3_7 (C : pr_C E Y Rm cc own nL c0) {c z idx : Nat} (hk : (pr_L E)[c]? = some (3, z)) (hw : Cond.fieldLink own idx "PrintRegister$Press" "spliceStart" "I" ∈ pr_AL) (hdg : decode cc pc = .ok (.getfield idx, 3)) (k : pr_W E Y Rm nL f (pc + 3) lv (.int (f c 7) :: st)) : pr_W E Y Rm nL f pc lv (.ref (pr_ad E c) :: st) := pr_getf (N := 10) (T := TX3) (Cn := RX3) C hk (by decide) rfl pr_uw3 7 (by decide) hw rfl hdg k
theorem pr_g_3_8 (C : pr_C E Y Rm cc own nL c0) {c z idx : Nat} (hk : (pr_L E)[c]? = some (3, z)) (hw : Cond.fieldLink own idx "PrintRegister$Press" "spliceAmount" "I" ∈ pr_AL) (hdg : decode cc pc = .ok (.getfield idx, 3)) (k : pr_W E Y Rm nL f (pc + 3) lv (.int (f c 8) :: st)) : pr_W E Y Rm nL f pc lv (.ref (pr_ad E c) :: st) := pr_getf (N := 10) (T := TX3) (Cn := RX3) C hk (by decide) rfl pr_uw3 8 (by decide) hw rfl hdg k
theorem pr_g_3_9 (C : pr_C E Y Rm cc own nL c0) {c z idx : Nat} (hk : (pr_L E)[c]? = some (3, z)) (hw : Cond.fieldLink own idx "PrintRegister$Press" "spliceDuration" "I" ∈ pr_AL) (hdg : decode cc pc = .ok (.getfield idx, 3)) (k : pr_W E Y Rm nL f (pc + 3) lv (.int (f c 9) :: st)) : pr_W E Y Rm nL f pc lv (.ref (pr_ad E c) :: st) := pr_getf (N := 10) (T := TX3) (Cn := RX3) C hk (by decide) rfl pr_uw3 9 (by decide) hw rfl hdg k
theorem pr_g_4_0 (C : pr_C E Y Rm cc own nL c0) {c z idx : Nat} (hk : (pr_L E)[c]? = some (4, z)) (hw : Cond.fieldLink own idx "PrintRegister$Printer" "offsets" "[I" ∈ pr_AL) (hdg : decode cc pc = .ok (.getfield idx, 3)) (k : pr_W E Y Rm nL f (pc + 3) lv (.ref (pr_ad E (c + 1)) :: st)) : pr_W E Y Rm nL f pc lv (.ref (pr_ad E c) :: st) := pr_getf (N := 8) (T := TX4) (Cn := RX4) C hk (by decide) rfl pr_uw4 0 (by decide) hw rfl hdg k
theorem pr_g_4_1 (C : pr_C E Y Rm cc own nL c0) {c z idx : Nat} (hk : (pr_L E)[c]? = some (4, z)) (hw : Cond.fieldLink own idx "PrintRegister$Printer" "skews" "[I" ∈ pr_AL) (hdg : decode cc pc = .ok (.getfield idx, 3)) (k : pr_W E Y Rm nL f (pc + 3) lv (.ref (pr_ad E (c + 2)) :: st)) : pr_W E Y Rm nL f pc lv (.ref (pr_ad E c) :: st) := pr_getf (N := 8) (T := TX4) (Cn := RX4) C hk (by decide) rfl pr_uw4 1 (by decide) hw rfl hdg k
theorem pr_g_4_2 (C : pr_C E Y Rm cc own nL c0) {c z idx : Nat} (hk : (pr_L E)[c]? = some (4, z)) (hw : Cond.fieldLink own idx "PrintRegister$Printer" "phase" "I" ∈ pr_AL) (hdg : decode cc pc = .ok (.getfield idx, 3)) (k : pr_W E Y Rm nL f (pc + 3) lv (.int (f c 2) :: st)) : pr_W E Y Rm nL f pc lv (.ref (pr_ad E c) :: st) := pr_getf (N := 8) (T := TX4) (Cn := RX4) C hk (by decide) rfl pr_uw4 2 (by decide) hw rfl hdg k
theorem pr_g_4_3 (C : pr_C E Y Rm cc own nL c0) {c z idx : Nat} (hk : (pr_L E)[c]? = some (4, z)) (hw : Cond.fieldLink own idx "PrintRegister$Printer" "skewSetting" "I" ∈ pr_AL) (hdg : decode cc pc = .ok (.getfield idx, 3)) (k : pr_W E Y Rm nL f (pc + 3) lv (.int (f c 3) :: st)) : pr_W E Y Rm nL f pc lv (.ref (pr_ad E c) :: st) := pr_getf (N := 8) (T := TX4) (Cn := RX4) C hk (by decide) rfl pr_uw4 3 (by decide) hw rfl hdg k
theorem pr_g_4_4 (C : pr_C E Y Rm cc own nL c0) {c z idx : Nat} (hk : (pr_L E)[c]? = some (4, z)) (hw : Cond.fieldLink own idx "PrintRegister$Printer" "tilt" "I" ∈ pr_AL) (hdg : decode cc pc = .ok (.getfield idx, 3)) (k : pr_W E Y Rm nL f (pc + 3) lv (.int (f c 4) :: st)) : pr_W E Y Rm nL f pc lv (.ref (pr_ad E c) :: st) := pr_getf (N := 8) (T := TX4) (Cn := RX4) C hk (by decide) rfl pr_uw4 4 (by decide) hw rfl hdg k
theorem pr_g_4_5 (C : pr_C E Y Rm cc own nL c0) {c z idx : Nat} (hk : (pr_L E)[c]? = some (4, z)) (hw : Cond.fieldLink own idx "PrintRegister$Printer" "disturbanceAmount" "I" ∈ pr_AL) (hdg : decode cc pc = .ok (.getfield idx, 3)) (k : pr_W E Y Rm nL f (pc + 3) lv (.int (f c 5) :: st)) : pr_W E Y Rm nL f pc lv (.ref (pr_ad E c) :: st) := pr_getf (N := 8) (T := TX4) (Cn := RX4) C hk (by decide) rfl pr_uw4 5 (by decide) hw rfl hdg k
theorem pr_g_4_6 (C : pr_C E Y Rm cc own nL c0) {c z idx : Nat} (hk : (pr_L E)[c]? = some (4, z)) (hw : Cond.fieldLink own idx "PrintRegister$Printer" "disturbanceDuration" "I" ∈ pr_AL) (hdg : decode cc pc = .ok (.getfield idx, 3)) (k : pr_W E Y Rm nL f (pc + 3) lv (.int (f c 6) :: st)) : pr_W E Y Rm nL f pc lv (.ref (pr_ad E c) :: st) := pr_getf (N := 8) (T := TX4) (Cn := RX4) C hk (by decide) rfl pr_uw4 6 (by decide) hw rfl hdg k
theorem pr_g_4_7 (C : pr_C E Y Rm cc own nL c0) {c z idx : Nat} (hk : (pr_L E)[c]? = some (4, z)) (hw : Cond.fieldLink own idx "PrintRegister$Printer" "disturbanceLeft" "I" ∈ pr_AL) (hdg : decode cc pc = .ok (.getfield idx, 3)) (k : pr_W E Y Rm nL f (pc + 3) lv (.int (f c 7) :: st)) : pr_W E Y Rm nL f pc lv (.ref (pr_ad E c) :: st) := pr_getf (N := 8) (T := TX4) (Cn := RX4) C hk (by decide) rfl pr_uw4 7 (by decide) hw rfl hdg k
theorem pr_g_5_0 (C : pr_C E Y Rm cc own nL c0) {c z idx : Nat} (hk : (pr_L E)[c]? = some (5, z)) (hw : Cond.fieldLink own idx "PrintRegister$Sensor" "log" "LPrintRegister$ErrorLog;" ∈ pr_AL) (hdg : decode cc pc = .ok (.getfield idx, 3)) (k : pr_W E Y Rm nL f (pc + 3) lv (.ref (pr_ad E (c + 1)) :: st)) : pr_W E Y Rm nL f pc lv (.ref (pr_ad E c) :: st) := pr_getf (N := 10) (T := TX5) (Cn := RX5) C hk (by decide) rfl pr_uw5 0 (by decide) hw rfl hdg k
theorem pr_g_5_1 (C : pr_C E Y Rm cc own nL c0) {c z idx : Nat} (hk : (pr_L E)[c]? = some (5, z)) (hw : Cond.fieldLink own idx "PrintRegister$Sensor" "hiddenLeft" "I" ∈ pr_AL) (hdg : decode cc pc = .ok (.getfield idx, 3)) (k : pr_W E Y Rm nL f (pc + 3) lv (.int (f c 1) :: st)) : pr_W E Y Rm nL f pc lv (.ref (pr_ad E c) :: st) := pr_getf (N := 10) (T := TX5) (Cn := RX5) C hk (by decide) rfl pr_uw5 1 (by decide) hw rfl hdg k
theorem pr_g_5_2 (C : pr_C E Y Rm cc own nL c0) {c z idx : Nat} (hk : (pr_L E)[c]? = some (5, z)) (hw : Cond.fieldLink own idx "PrintRegister$Sensor" "falseOffset" "I" ∈ pr_AL) (hdg : decode cc pc = .ok (.getfield idx, 3)) (k : pr_W E Y Rm nL f (pc + 3) lv (.int (f c 2) :: st)) : pr_W E Y Rm nL f pc lv (.ref (pr_ad E c) :: st) := pr_getf (N := 10) (T := TX5) (Cn := RX5) C hk (by decide) rfl pr_uw5 2 (by decide) hw rfl hdg k
theorem pr_g_5_3 (C : pr_C E Y Rm cc own nL c0) {c z idx : Nat} (hk : (pr_L E)[c]? = some (5, z)) (hw : Cond.fieldLink own idx "PrintRegister$Sensor" "falseLeft" "I" ∈ pr_AL) (hdg : decode cc pc = .ok (.getfield idx, 3)) (k : pr_W E Y Rm nL f (pc + 3) lv (.int (f c 3) :: st)) : pr_W E Y Rm nL f pc lv (.ref (pr_ad E c) :: st) := pr_getf (N := 10) (T := TX5) (Cn := RX5) C hk (by decide) rfl pr_uw5 3 (by decide) hw rfl hdg k
theorem pr_g_5_4 (C : pr_C E Y Rm cc own nL c0) {c z idx : Nat} (hk : (pr_L E)[c]? = some (5, z)) (hw : Cond.fieldLink own idx "PrintRegister$Sensor" "sawPiece" "Z" ∈ pr_AL) (hdg : decode cc pc = .ok (.getfield idx, 3)) (k : pr_W E Y Rm nL f (pc + 3) lv (.int (f c 4) :: st)) : pr_W E Y Rm nL f pc lv (.ref (pr_ad E c) :: st) := pr_getf (N := 10) (T := TX5) (Cn := RX5) C hk (by decide) rfl pr_uw5 4 (by decide) hw rfl hdg k
theorem pr_g_5_5 (C : pr_C E Y Rm cc own nL c0) {c z idx : Nat} (hk : (pr_L E)[c]? = some (5, z)) (hw : Cond.fieldLink own idx "PrintRegister$Sensor" "trueError" "I" ∈ pr_AL) (hdg : decode cc pc = .ok (.getfield idx, 3)) (k : pr_W E Y Rm nL f (pc + 3) lv (.int (f c 5) :: st)) : pr_W E Y Rm nL f pc lv (.ref (pr_ad E c) :: st) := pr_getf (N := 10) (T := TX5) (Cn := RX5) C hk (by decide) rfl pr_uw5 5 (by decide) hw rfl hdg k
theorem pr_g_5_6 (C : pr_C E Y Rm cc own nL c0) {c z idx : Nat} (hk : (pr_L E)[c]? = some (5, z)) (hw : Cond.fieldLink own idx "PrintRegister$Sensor" "trueSkew" "I" ∈ pr_AL) (hdg : decode cc pc = .ok (.getfield idx, 3)) (k : pr_W E Y Rm nL f (pc + 3) lv (.int (f c 6) :: st)) : pr_W E Y Rm nL f pc lv (.ref (pr_ad E c) :: st) := pr_getf (N := 10) (T := TX5) (Cn := RX5) C hk (by decide) rfl pr_uw5 6 (by decide) hw rfl hdg k
theorem pr_g_5_7 (C : pr_C E Y Rm cc own nL c0) {c z idx : Nat} (hk : (pr_L E)[c]? = some (5, z)) (hw : Cond.fieldLink own idx "PrintRegister$Sensor" "recognized" "I" ∈ pr_AL) (hdg : decode cc pc = .ok (.getfield idx, 3)) (k : pr_W E Y Rm nL f (pc + 3) lv (.int (f c 7) :: st)) : pr_W E Y Rm nL f pc lv (.ref (pr_ad E c) :: st) := pr_getf (N := 10) (T := TX5) (Cn := RX5) C hk (by decide) rfl pr_uw5 7 (by decide) hw rfl hdg k
theorem pr_g_5_8 (C : pr_C E Y Rm cc own nL c0) {c z idx : Nat} (hk : (pr_L E)[c]? = some (5, z)) (hw : Cond.fieldLink own idx "PrintRegister$Sensor" "offset" "I" ∈ pr_AL) (hdg : decode cc pc = .ok (.getfield idx, 3)) (k : pr_W E Y Rm nL f (pc + 3) lv (.int (f c 8) :: st)) : pr_W E Y Rm nL f pc lv (.ref (pr_ad E c) :: st) := pr_getf (N := 10) (T := TX5) (Cn := RX5) C hk (by decide) rfl pr_uw5 8 (by decide) hw rfl hdg k
theorem pr_g_5_9 (C : pr_C E Y Rm cc own nL c0) {c z idx : Nat} (hk : (pr_L E)[c]? = some (5, z)) (hw : Cond.fieldLink own idx "PrintRegister$Sensor" "skew" "I" ∈ pr_AL) (hdg : decode cc pc = .ok (.getfield idx, 3)) (k : pr_W E Y Rm nL f (pc + 3) lv (.int (f c 9) :: st)) : pr_W E Y Rm nL f pc lv (.ref (pr_ad E c) :: st) := pr_getf (N := 10) (T := TX5) (Cn := RX5) C hk (by decide) rfl pr_uw5 9 (by decide) hw rfl hdg k
theorem pr_g_7_0 (C : pr_C E Y Rm cc own nL c0) {c z idx : Nat} (hk : (pr_L E)[c]? = some (7, z)) (hw : Cond.fieldLink own idx "PrintRegister$Unit" "settings" "[I" ∈ pr_AL) (hdg : decode cc pc = .ok (.getfield idx, 3)) (k : pr_W E Y Rm nL f (pc + 3) lv (.ref (pr_ad E (c + 1)) :: st)) : pr_W E Y Rm nL f pc lv (.ref (pr_ad E c) :: st) := pr_getf (N := 4) (T := TX7) (Cn := RX7) C hk (by decide) rfl pr_uw7 0 (by decide) hw rfl hdg k
theorem pr_g_7_1 (C : pr_C E Y Rm cc own nL c0) {c z idx : Nat} (hk : (pr_L E)[c]? = some (7, z)) (hw : Cond.fieldLink own idx "PrintRegister$Unit" "printer" "LPrintRegister$Printer;" ∈ pr_AL) (hdg : decode cc pc = .ok (.getfield idx, 3)) (k : pr_W E Y Rm nL f (pc + 3) lv (.ref (pr_ad E (c + 2)) :: st)) : pr_W E Y Rm nL f pc lv (.ref (pr_ad E c) :: st) := pr_getf (N := 4) (T := TX7) (Cn := RX7) C hk (by decide) rfl pr_uw7 1 (by decide) hw rfl hdg k
theorem pr_g_7_2 (C : pr_C E Y Rm cc own nL c0) {c z idx : Nat} (hk : (pr_L E)[c]? = some (7, z)) (hw : Cond.fieldLink own idx "PrintRegister$Unit" "controller" "LPrintRegister$Controller;" ∈ pr_AL) (hdg : decode cc pc = .ok (.getfield idx, 3)) (k : pr_W E Y Rm nL f (pc + 3) lv (.ref (pr_ad E (c + 5)) :: st)) : pr_W E Y Rm nL f pc lv (.ref (pr_ad E c) :: st) := pr_getf (N := 4) (T := TX7) (Cn := RX7) C hk (by decide) rfl pr_uw7 2 (by decide) hw rfl hdg k
theorem pr_g_7_3 (C : pr_C E Y Rm cc own nL c0) {c z idx : Nat} (hk : (pr_L E)[c]? = some (7, z)) (hw : Cond.fieldLink own idx "PrintRegister$Unit" "sensor" "LPrintRegister$Sensor;" ∈ pr_AL) (hdg : decode cc pc = .ok (.getfield idx, 3)) (k : pr_W E Y Rm nL f (pc + 3) lv (.ref (pr_ad E (c + 6)) :: st)) : pr_W E Y Rm nL f pc lv (.ref (pr_ad E c) :: st) := pr_getf (N := 4) (T := TX7) (Cn := RX7) C hk (by decide) rfl pr_uw7 3 (by decide) hw rfl hdg k
theorem pr_g_8_0 (C : pr_C E Y Rm cc own nL c0) {c z idx : Nat} (hk : (pr_L E)[c]? = some (8, z)) (hw : Cond.fieldLink own idx "PrintRegister" "press" "LPrintRegister$Press;" ∈ pr_AL) (hdg : decode cc pc = .ok (.getfield idx, 3)) (k : pr_W E Y Rm nL f (pc + 3) lv (.ref (pr_ad E (c + 1)) :: st)) : pr_W E Y Rm nL f pc lv (.ref (pr_ad E c) :: st) := pr_getf (N := 5) (T := TX8) (Cn := RX8) C hk (by decide) rfl pr_uw8 0 (by decide) hw rfl hdg k
theorem pr_g_8_1 (C : pr_C E Y Rm cc own nL c0) {c z idx : Nat} (hk : (pr_L E)[c]? = some (8, z)) (hw : Cond.fieldLink own idx "PrintRegister" "copy" "LPrintRegister$Press;" ∈ pr_AL) (hdg : decode cc pc = .ok (.getfield idx, 3)) (k : pr_W E Y Rm nL f (pc + 3) lv (.ref (pr_ad E (c + 50)) :: st)) : pr_W E Y Rm nL f pc lv (.ref (pr_ad E c) :: st) := pr_getf (N := 5) (T := TX8) (Cn := RX8) C hk (by decide) rfl pr_uw8 1 (by decide) hw rfl hdg k
theorem pr_g_8_2 (C : pr_C E Y Rm cc own nL c0) {c z idx : Nat} (hk : (pr_L E)[c]? = some (8, z)) (hw : Cond.fieldLink own idx "PrintRegister" "slot0" "LPrintRegister$Slot;" ∈ pr_AL) (hdg : decode cc pc = .ok (.getfield idx, 3)) (k : pr_W E Y Rm nL f (pc + 3) lv (.ref (pr_ad E (c + 99)) :: st)) : pr_W E Y Rm nL f pc lv (.ref (pr_ad E c) :: st) := pr_getf (N := 5) (T := TX8) (Cn := RX8) C hk (by decide) rfl pr_uw8 2 (by decide) hw rfl hdg k
theorem pr_g_8_3 (C : pr_C E Y Rm cc own nL c0) {c z idx : Nat} (hk : (pr_L E)[c]? = some (8, z)) (hw : Cond.fieldLink own idx "PrintRegister" "slot1" "LPrintRegister$Slot;" ∈ pr_AL) (hdg : decode cc pc = .ok (.getfield idx, 3)) (k : pr_W E Y Rm nL f (pc + 3) lv (.ref (pr_ad E (c + 149)) :: st)) : pr_W E Y Rm nL f pc lv (.ref (pr_ad E c) :: st) := pr_getf (N := 5) (T := TX8) (Cn := RX8) C hk (by decide) rfl pr_uw8 3 (by decide) hw rfl hdg k
theorem pr_g_8_4 (C : pr_C E Y Rm cc own nL c0) {c z idx : Nat} (hk : (pr_L E)[c]? = some (8, z)) (hw : Cond.fieldLink own idx "PrintRegister" "pad" "LPrintRegister$Pad;" ∈ pr_AL) (hdg : decode cc pc = .ok (.getfield idx, 3)) (k : pr_W E Y Rm nL f (pc + 3) lv (.ref (pr_ad E (c + 199)) :: st)) : pr_W E Y Rm nL f pc lv (.ref (pr_ad E c) :: st) := pr_getf (N := 5) (T := TX8) (Cn := RX8) C hk (by decide) rfl pr_uw8 4 (by decide) hw rfl hdg k
theorem pr_g_9_0 (C : pr_C E Y Rm cc own nL c0) {c z idx : Nat} (hk : (pr_L E)[c]? = some (9, z)) (hw : Cond.fieldLink own idx "PrintRegisterModel" "at" "[I" ∈ pr_AL) (hdg : decode cc pc = .ok (.getfield idx, 3)) (k : pr_W E Y Rm nL f (pc + 3) lv (.ref (pr_ad E (c + 1)) :: st)) : pr_W E Y Rm nL f pc lv (.ref (pr_ad E c) :: st) := pr_getf (N := 10) (T := TX9) (Cn := RX9) C hk (by decide) rfl pr_uw9 0 (by decide) hw rfl hdg k
theorem pr_g_9_1 (C : pr_C E Y Rm cc own nL c0) {c z idx : Nat} (hk : (pr_L E)[c]? = some (9, z)) (hw : Cond.fieldLink own idx "PrintRegisterModel" "aside" "[I" ∈ pr_AL) (hdg : decode cc pc = .ok (.getfield idx, 3)) (k : pr_W E Y Rm nL f (pc + 3) lv (.ref (pr_ad E (c + 2)) :: st)) : pr_W E Y Rm nL f pc lv (.ref (pr_ad E c) :: st) := pr_getf (N := 10) (T := TX9) (Cn := RX9) C hk (by decide) rfl pr_uw9 1 (by decide) hw rfl hdg k
theorem pr_g_9_2 (C : pr_C E Y Rm cc own nL c0) {c z idx : Nat} (hk : (pr_L E)[c]? = some (9, z)) (hw : Cond.fieldLink own idx "PrintRegisterModel" "slots" "[I" ∈ pr_AL) (hdg : decode cc pc = .ok (.getfield idx, 3)) (k : pr_W E Y Rm nL f (pc + 3) lv (.ref (pr_ad E (c + 3)) :: st)) : pr_W E Y Rm nL f pc lv (.ref (pr_ad E c) :: st) := pr_getf (N := 10) (T := TX9) (Cn := RX9) C hk (by decide) rfl pr_uw9 2 (by decide) hw rfl hdg k
theorem pr_g_9_3 (C : pr_C E Y Rm cc own nL c0) {c z idx : Nat} (hk : (pr_L E)[c]? = some (9, z)) (hw : Cond.fieldLink own idx "PrintRegisterModel" "isSaved" "[Z" ∈ pr_AL) (hdg : decode cc pc = .ok (.getfield idx, 3)) (k : pr_W E Y Rm nL f (pc + 3) lv (.ref (pr_ad E (c + 4)) :: st)) : pr_W E Y Rm nL f pc lv (.ref (pr_ad E c) :: st) := pr_getf (N := 10) (T := TX9) (Cn := RX9) C hk (by decide) rfl pr_uw9 3 (by decide) hw rfl hdg k
theorem pr_g_9_4 (C : pr_C E Y Rm cc own nL c0) {c z idx : Nat} (hk : (pr_L E)[c]? = some (9, z)) (hw : Cond.fieldLink own idx "PrintRegisterModel" "pad" "[I" ∈ pr_AL) (hdg : decode cc pc = .ok (.getfield idx, 3)) (k : pr_W E Y Rm nL f (pc + 3) lv (.ref (pr_ad E (c + 5)) :: st)) : pr_W E Y Rm nL f pc lv (.ref (pr_ad E c) :: st) := pr_getf (N := 10) (T := TX9) (Cn := RX9) C hk (by decide) rfl pr_uw9 4 (by decide) hw rfl hdg k
theorem pr_g_9_5 (C : pr_C E Y Rm cc own nL c0) {c z idx : Nat} (hk : (pr_L E)[c]? = some (9, z)) (hw : Cond.fieldLink own idx "PrintRegisterModel" "padMany" "I" ∈ pr_AL) (hdg : decode cc pc = .ok (.getfield idx, 3)) (k : pr_W E Y Rm nL f (pc + 3) lv (.int (f c 5) :: st)) : pr_W E Y Rm nL f pc lv (.ref (pr_ad E c) :: st) := pr_getf (N := 10) (T := TX9) (Cn := RX9) C hk (by decide) rfl pr_uw9 5 (by decide) hw rfl hdg k
theorem pr_g_9_6 (C : pr_C E Y Rm cc own nL c0) {c z idx : Nat} (hk : (pr_L E)[c]? = some (9, z)) (hw : Cond.fieldLink own idx "PrintRegisterModel" "spot" "I" ∈ pr_AL) (hdg : decode cc pc = .ok (.getfield idx, 3)) (k : pr_W E Y Rm nL f (pc + 3) lv (.int (f c 6) :: st)) : pr_W E Y Rm nL f pc lv (.ref (pr_ad E c) :: st) := pr_getf (N := 10) (T := TX9) (Cn := RX9) C hk (by decide) rfl pr_uw9 6 (by decide) hw rfl hdg k
theorem pr_g_9_7 (C : pr_C E Y Rm cc own nL c0) {c z idx : Nat} (hk : (pr_L E)[c]? = some (9, z)) (hw : Cond.fieldLink own idx "PrintRegisterModel" "isWrong" "Z" ∈ pr_AL) (hdg : decode cc pc = .ok (.getfield idx, 3)) (k : pr_W E Y Rm nL f (pc + 3) lv (.int (f c 7) :: st)) : pr_W E Y Rm nL f pc lv (.ref (pr_ad E c) :: st) := pr_getf (N := 10) (T := TX9) (Cn := RX9) C hk (by decide) rfl pr_uw9 7 (by decide) hw rfl hdg k
theorem pr_g_9_8 (C : pr_C E Y Rm cc own nL c0) {c z idx : Nat} (hk : (pr_L E)[c]? = some (9, z)) (hw : Cond.fieldLink own idx "PrintRegisterModel" "steps" "[I" ∈ pr_AL) (hdg : decode cc pc = .ok (.getfield idx, 3)) (k : pr_W E Y Rm nL f (pc + 3) lv (.ref (pr_ad E (c + 6)) :: st)) : pr_W E Y Rm nL f pc lv (.ref (pr_ad E c) :: st) := pr_getf (N := 10) (T := TX9) (Cn := RX9) C hk (by decide) rfl pr_uw9 8 (by decide) hw rfl hdg k
theorem pr_g_9_9 (C : pr_C E Y Rm cc own nL c0) {c z idx : Nat} (hk : (pr_L E)[c]? = some (9, z)) (hw : Cond.fieldLink own idx "PrintRegisterModel" "stepMany" "I" ∈ pr_AL) (hdg : decode cc pc = .ok (.getfield idx, 3)) (k : pr_W E Y Rm nL f (pc + 3) lv (.int (f c 9) :: st)) : pr_W E Y Rm nL f pc lv (.ref (pr_ad E c) :: st) := pr_getf (N := 10) (T := TX9) (Cn := RX9) C hk (by decide) rfl pr_uw9 9 (by decide) hw rfl hdg k
theorem pr_gN_0_0 (C : pr_C E Y Rm cc own nL c0) {c z idx : Nat} (hk : (pr_L E)[c]? = some (0, z)) (hw : Cond.fieldLinkNest own idx "PrintRegister$Controller" "feed" "I" "PrintRegister" ∈ pr_NW) (hdg : decode cc pc = .ok (.getfield idx, 3)) (k : pr_W E Y Rm nL f (pc + 3) lv (.int (f c 0) :: st)) : pr_W E Y Rm nL f pc lv (.ref (pr_ad E c) :: st) := pr_getN (N := 9) (T := TX0) (Cn := RX0) C hk (by decide) rfl pr_uw0 0 (by decide) hw rfl hdg k
theorem pr_gN_0_1 (C : pr_C E Y Rm cc own nL c0) {c z idx : Nat} (hk : (pr_L E)[c]? = some (0, z)) (hw : Cond.fieldLinkNest own idx "PrintRegister$Controller" "sum" "I" "PrintRegister" ∈ pr_NW) (hdg : decode cc pc = .ok (.getfield idx, 3)) (k : pr_W E Y Rm nL f (pc + 3) lv (.int (f c 1) :: st)) : pr_W E Y Rm nL f pc lv (.ref (pr_ad E c) :: st) := pr_getN (N := 9) (T := TX0) (Cn := RX0) C hk (by decide) rfl pr_uw0 1 (by decide) hw rfl hdg k
theorem pr_gN_0_2 (C : pr_C E Y Rm cc own nL c0) {c z idx : Nat} (hk : (pr_L E)[c]? = some (0, z)) (hw : Cond.fieldLinkNest own idx "PrintRegister$Controller" "wait" "I" "PrintRegister" ∈ pr_NW) (hdg : decode cc pc = .ok (.getfield idx, 3)) (k : pr_W E Y Rm nL f (pc + 3) lv (.int (f c 2) :: st)) : pr_W E Y Rm nL f pc lv (.ref (pr_ad E c) :: st) := pr_getN (N := 9) (T := TX0) (Cn := RX0) C hk (by decide) rfl pr_uw0 2 (by decide) hw rfl hdg k
theorem pr_gN_0_3 (C : pr_C E Y Rm cc own nL c0) {c z idx : Nat} (hk : (pr_L E)[c]? = some (0, z)) (hw : Cond.fieldLinkNest own idx "PrintRegister$Controller" "misses" "I" "PrintRegister" ∈ pr_NW) (hdg : decode cc pc = .ok (.getfield idx, 3)) (k : pr_W E Y Rm nL f (pc + 3) lv (.int (f c 3) :: st)) : pr_W E Y Rm nL f pc lv (.ref (pr_ad E c) :: st) := pr_getN (N := 9) (T := TX0) (Cn := RX0) C hk (by decide) rfl pr_uw0 3 (by decide) hw rfl hdg k
theorem pr_gN_0_4 (C : pr_C E Y Rm cc own nL c0) {c z idx : Nat} (hk : (pr_L E)[c]? = some (0, z)) (hw : Cond.fieldLinkNest own idx "PrintRegister$Controller" "readyTime" "I" "PrintRegister" ∈ pr_NW) (hdg : decode cc pc = .ok (.getfield idx, 3)) (k : pr_W E Y Rm nL f (pc + 3) lv (.int (f c 4) :: st)) : pr_W E Y Rm nL f pc lv (.ref (pr_ad E c) :: st) := pr_getN (N := 9) (T := TX0) (Cn := RX0) C hk (by decide) rfl pr_uw0 4 (by decide) hw rfl hdg k
theorem pr_gN_0_5 (C : pr_C E Y Rm cc own nL c0) {c z idx : Nat} (hk : (pr_L E)[c]? = some (0, z)) (hw : Cond.fieldLinkNest own idx "PrintRegister$Controller" "expectedError" "I" "PrintRegister" ∈ pr_NW) (hdg : decode cc pc = .ok (.getfield idx, 3)) (k : pr_W E Y Rm nL f (pc + 3) lv (.int (f c 5) :: st)) : pr_W E Y Rm nL f pc lv (.ref (pr_ad E c) :: st) := pr_getN (N := 9) (T := TX0) (Cn := RX0) C hk (by decide) rfl pr_uw0 5 (by decide) hw rfl hdg k
theorem pr_gN_0_6 (C : pr_C E Y Rm cc own nL c0) {c z idx : Nat} (hk : (pr_L E)[c]? = some (0, z)) (hw : Cond.fieldLinkNest own idx "PrintRegister$Controller" "expectedSkew" "I" "PrintRegister" ∈ pr_NW) (hdg : decode cc pc = .ok (.getfield idx, 3)) (k : pr_W E Y Rm nL f (pc + 3) lv (.int (f c 6) :: st)) : pr_W E Y Rm nL f pc lv (.ref (pr_ad E c) :: st) := pr_getN (N := 9) (T := TX0) (Cn := RX0) C hk (by decide) rfl pr_uw0 6 (by decide) hw rfl hdg k
theorem pr_gN_2_1 (C : pr_C E Y Rm cc own nL c0) {c z idx : Nat} (hk : (pr_L E)[c]? = some (2, z)) (hw : Cond.fieldLinkNest own idx "PrintRegister$Pad" "length" "I" "PrintRegister" ∈ pr_NW) (hdg : decode cc pc = .ok (.getfield idx, 3)) (k : pr_W E Y Rm nL f (pc + 3) lv (.int (f c 1) :: st)) : pr_W E Y Rm nL f pc lv (.ref (pr_ad E c) :: st) := pr_getN (N := 10) (T := TX2) (Cn := RX2) C hk (by decide) rfl pr_uw2 1 (by decide) hw rfl hdg k
theorem pr_gN_2_2 (C : pr_C E Y Rm cc own nL c0) {c z idx : Nat} (hk : (pr_L E)[c]? = some (2, z)) (hw : Cond.fieldLinkNest own idx "PrintRegister$Pad" "at" "I" "PrintRegister" ∈ pr_NW) (hdg : decode cc pc = .ok (.getfield idx, 3)) (k : pr_W E Y Rm nL f (pc + 3) lv (.int (f c 2) :: st)) : pr_W E Y Rm nL f pc lv (.ref (pr_ad E c) :: st) := pr_getN (N := 10) (T := TX2) (Cn := RX2) C hk (by decide) rfl pr_uw2 2 (by decide) hw rfl hdg k
theorem pr_gN_2_3 (C : pr_C E Y Rm cc own nL c0) {c z idx : Nat} (hk : (pr_L E)[c]? = some (2, z)) (hw : Cond.fieldLinkNest own idx "PrintRegister$Pad" "failed" "Z" "PrintRegister" ∈ pr_NW) (hdg : decode cc pc = .ok (.getfield idx, 3)) (k : pr_W E Y Rm nL f (pc + 3) lv (.int (f c 3) :: st)) : pr_W E Y Rm nL f pc lv (.ref (pr_ad E c) :: st) := pr_getN (N := 10) (T := TX2) (Cn := RX2) C hk (by decide) rfl pr_uw2 3 (by decide) hw rfl hdg k
theorem pr_gN_2_4 (C : pr_C E Y Rm cc own nL c0) {c z idx : Nat} (hk : (pr_L E)[c]? = some (2, z)) (hw : Cond.fieldLinkNest own idx "PrintRegister$Pad" "kind" "I" "PrintRegister" ∈ pr_NW) (hdg : decode cc pc = .ok (.getfield idx, 3)) (k : pr_W E Y Rm nL f (pc + 3) lv (.int (f c 4) :: st)) : pr_W E Y Rm nL f pc lv (.ref (pr_ad E c) :: st) := pr_getN (N := 10) (T := TX2) (Cn := RX2) C hk (by decide) rfl pr_uw2 4 (by decide) hw rfl hdg k
theorem pr_gN_2_5 (C : pr_C E Y Rm cc own nL c0) {c z idx : Nat} (hk : (pr_L E)[c]? = some (2, z)) (hw : Cond.fieldLinkNest own idx "PrintRegister$Pad" "unit" "I" "PrintRegister" ∈ pr_NW) (hdg : decode cc pc = .ok (.getfield idx, 3)) (k : pr_W E Y Rm nL f (pc + 3) lv (.int (f c 5) :: st)) : pr_W E Y Rm nL f pc lv (.ref (pr_ad E c) :: st) := pr_getN (N := 10) (T := TX2) (Cn := RX2) C hk (by decide) rfl pr_uw2 5 (by decide) hw rfl hdg k
theorem pr_gN_2_6 (C : pr_C E Y Rm cc own nL c0) {c z idx : Nat} (hk : (pr_L E)[c]? = some (2, z)) (hw : Cond.fieldLinkNest own idx "PrintRegister$Pad" "number" "I" "PrintRegister" ∈ pr_NW) (hdg : decode cc pc = .ok (.getfield idx, 3)) (k : pr_W E Y Rm nL f (pc + 3) lv (.int (f c 6) :: st)) : pr_W E Y Rm nL f pc lv (.ref (pr_ad E c) :: st) := pr_getN (N := 10) (T := TX2) (Cn := RX2) C hk (by decide) rfl pr_uw2 6 (by decide) hw rfl hdg k
theorem pr_gN_2_7 (C : pr_C E Y Rm cc own nL c0) {c z idx : Nat} (hk : (pr_L E)[c]? = some (2, z)) (hw : Cond.fieldLinkNest own idx "PrintRegister$Pad" "duration" "I" "PrintRegister" ∈ pr_NW) (hdg : decode cc pc = .ok (.getfield idx, 3)) (k : pr_W E Y Rm nL f (pc + 3) lv (.int (f c 7) :: st)) : pr_W E Y Rm nL f pc lv (.ref (pr_ad E c) :: st) := pr_getN (N := 10) (T := TX2) (Cn := RX2) C hk (by decide) rfl pr_uw2 7 (by decide) hw rfl hdg k
theorem pr_gN_2_8 (C : pr_C E Y Rm cc own nL c0) {c z idx : Nat} (hk : (pr_L E)[c]? = some (2, z)) (hw : Cond.fieldLinkNest own idx "PrintRegister$Pad" "repeats" "I" "PrintRegister" ∈ pr_NW) (hdg : decode cc pc = .ok (.getfield idx, 3)) (k : pr_W E Y Rm nL f (pc + 3) lv (.int (f c 8) :: st)) : pr_W E Y Rm nL f pc lv (.ref (pr_ad E c) :: st) := pr_getN (N := 10) (T := TX2) (Cn := RX2) C hk (by decide) rfl pr_uw2 8 (by decide) hw rfl hdg k
theorem pr_gN_2_9 (C : pr_C E Y Rm cc own nL c0) {c z idx : Nat} (hk : (pr_L E)[c]? = some (2, z)) (hw : Cond.fieldLinkNest own idx "PrintRegister$Pad" "greatestUnit" "I" "PrintRegister" ∈ pr_NW) (hdg : decode cc pc = .ok (.getfield idx, 3)) (k : pr_W E Y Rm nL f (pc + 3) lv (.int (f c 9) :: st)) : pr_W E Y Rm nL f pc lv (.ref (pr_ad E c) :: st) := pr_getN (N := 10) (T := TX2) (Cn := RX2) C hk (by decide) rfl pr_uw2 9 (by decide) hw rfl hdg k
theorem pr_gN_3_2 (C : pr_C E Y Rm cc own nL c0) {c z idx : Nat} (hk : (pr_L E)[c]? = some (3, z)) (hw : Cond.fieldLinkNest own idx "PrintRegister$Press" "totals" "[I" "PrintRegister" ∈ pr_NW) (hdg : decode cc pc = .ok (.getfield idx, 3)) (k : pr_W E Y Rm nL f (pc + 3) lv (.ref (pr_ad E (c + 3)) :: st)) : pr_W E Y Rm nL f pc lv (.ref (pr_ad E c) :: st) := pr_getN (N := 10) (T := TX3) (Cn := RX3) C hk (by decide) rfl pr_uw3 2 (by decide) hw rfl hdg k
theorem pr_gN_3_3 (C : pr_C E Y Rm cc own nL c0) {c z idx : Nat} (hk : (pr_L E)[c]? = some (3, z)) (hw : Cond.fieldLinkNest own idx "PrintRegister$Press" "unitCount" "I" "PrintRegister" ∈ pr_NW) (hdg : decode cc pc = .ok (.getfield idx, 3)) (k : pr_W E Y Rm nL f (pc + 3) lv (.int (f c 3) :: st)) : pr_W E Y Rm nL f pc lv (.ref (pr_ad E c) :: st) := pr_getN (N := 10) (T := TX3) (Cn := RX3) C hk (by decide) rfl pr_uw3 3 (by decide) hw rfl hdg k
theorem pr_gN_3_4 (C : pr_C E Y Rm cc own nL c0) {c z idx : Nat} (hk : (pr_L E)[c]? = some (3, z)) (hw : Cond.fieldLinkNest own idx "PrintRegister$Press" "time" "I" "PrintRegister" ∈ pr_NW) (hdg : decode cc pc = .ok (.getfield idx, 3)) (k : pr_W E Y Rm nL f (pc + 3) lv (.int (f c 4) :: st)) : pr_W E Y Rm nL f pc lv (.ref (pr_ad E c) :: st) := pr_getN (N := 10) (T := TX3) (Cn := RX3) C hk (by decide) rfl pr_uw3 4 (by decide) hw rfl hdg k
theorem pr_gN_3_5 (C : pr_C E Y Rm cc own nL c0) {c z idx : Nat} (hk : (pr_L E)[c]? = some (3, z)) (hw : Cond.fieldLinkNest own idx "PrintRegister$Press" "speedNow" "I" "PrintRegister" ∈ pr_NW) (hdg : decode cc pc = .ok (.getfield idx, 3)) (k : pr_W E Y Rm nL f (pc + 3) lv (.int (f c 5) :: st)) : pr_W E Y Rm nL f pc lv (.ref (pr_ad E c) :: st) := pr_getN (N := 10) (T := TX3) (Cn := RX3) C hk (by decide) rfl pr_uw3 5 (by decide) hw rfl hdg k
theorem pr_gN_4_2 (C : pr_C E Y Rm cc own nL c0) {c z idx : Nat} (hk : (pr_L E)[c]? = some (4, z)) (hw : Cond.fieldLinkNest own idx "PrintRegister$Printer" "phase" "I" "PrintRegister" ∈ pr_NW) (hdg : decode cc pc = .ok (.getfield idx, 3)) (k : pr_W E Y Rm nL f (pc + 3) lv (.int (f c 2) :: st)) : pr_W E Y Rm nL f pc lv (.ref (pr_ad E c) :: st) := pr_getN (N := 8) (T := TX4) (Cn := RX4) C hk (by decide) rfl pr_uw4 2 (by decide) hw rfl hdg k
theorem pr_gN_4_3 (C : pr_C E Y Rm cc own nL c0) {c z idx : Nat} (hk : (pr_L E)[c]? = some (4, z)) (hw : Cond.fieldLinkNest own idx "PrintRegister$Printer" "skewSetting" "I" "PrintRegister" ∈ pr_NW) (hdg : decode cc pc = .ok (.getfield idx, 3)) (k : pr_W E Y Rm nL f (pc + 3) lv (.int (f c 3) :: st)) : pr_W E Y Rm nL f pc lv (.ref (pr_ad E c) :: st) := pr_getN (N := 8) (T := TX4) (Cn := RX4) C hk (by decide) rfl pr_uw4 3 (by decide) hw rfl hdg k
theorem pr_gN_4_7 (C : pr_C E Y Rm cc own nL c0) {c z idx : Nat} (hk : (pr_L E)[c]? = some (4, z)) (hw : Cond.fieldLinkNest own idx "PrintRegister$Printer" "disturbanceLeft" "I" "PrintRegister" ∈ pr_NW) (hdg : decode cc pc = .ok (.getfield idx, 3)) (k : pr_W E Y Rm nL f (pc + 3) lv (.int (f c 7) :: st)) : pr_W E Y Rm nL f pc lv (.ref (pr_ad E c) :: st) := pr_getN (N := 8) (T := TX4) (Cn := RX4) C hk (by decide) rfl pr_uw4 7 (by decide) hw rfl hdg k
theorem pr_gN_5_0 (C : pr_C E Y Rm cc own nL c0) {c z idx : Nat} (hk : (pr_L E)[c]? = some (5, z)) (hw : Cond.fieldLinkNest own idx "PrintRegister$Sensor" "log" "LPrintRegister$ErrorLog;" "PrintRegister" ∈ pr_NW) (hdg : decode cc pc = .ok (.getfield idx, 3)) (k : pr_W E Y Rm nL f (pc + 3) lv (.ref (pr_ad E (c + 1)) :: st)) : pr_W E Y Rm nL f pc lv (.ref (pr_ad E c) :: st) := pr_getN (N := 10) (T := TX5) (Cn := RX5) C hk (by decide) rfl pr_uw5 0 (by decide) hw rfl hdg k
theorem pr_gN_5_1 (C : pr_C E Y Rm cc own nL c0) {c z idx : Nat} (hk : (pr_L E)[c]? = some (5, z)) (hw : Cond.fieldLinkNest own idx "PrintRegister$Sensor" "hiddenLeft" "I" "PrintRegister" ∈ pr_NW) (hdg : decode cc pc = .ok (.getfield idx, 3)) (k : pr_W E Y Rm nL f (pc + 3) lv (.int (f c 1) :: st)) : pr_W E Y Rm nL f pc lv (.ref (pr_ad E c) :: st) := pr_getN (N := 10) (T := TX5) (Cn := RX5) C hk (by decide) rfl pr_uw5 1 (by decide) hw rfl hdg k
theorem pr_gN_5_3 (C : pr_C E Y Rm cc own nL c0) {c z idx : Nat} (hk : (pr_L E)[c]? = some (5, z)) (hw : Cond.fieldLinkNest own idx "PrintRegister$Sensor" "falseLeft" "I" "PrintRegister" ∈ pr_NW) (hdg : decode cc pc = .ok (.getfield idx, 3)) (k : pr_W E Y Rm nL f (pc + 3) lv (.int (f c 3) :: st)) : pr_W E Y Rm nL f pc lv (.ref (pr_ad E c) :: st) := pr_getN (N := 10) (T := TX5) (Cn := RX5) C hk (by decide) rfl pr_uw5 3 (by decide) hw rfl hdg k
theorem pr_gN_5_4 (C : pr_C E Y Rm cc own nL c0) {c z idx : Nat} (hk : (pr_L E)[c]? = some (5, z)) (hw : Cond.fieldLinkNest own idx "PrintRegister$Sensor" "sawPiece" "Z" "PrintRegister" ∈ pr_NW) (hdg : decode cc pc = .ok (.getfield idx, 3)) (k : pr_W E Y Rm nL f (pc + 3) lv (.int (f c 4) :: st)) : pr_W E Y Rm nL f pc lv (.ref (pr_ad E c) :: st) := pr_getN (N := 10) (T := TX5) (Cn := RX5) C hk (by decide) rfl pr_uw5 4 (by decide) hw rfl hdg k
theorem pr_gN_5_5 (C : pr_C E Y Rm cc own nL c0) {c z idx : Nat} (hk : (pr_L E)[c]? = some (5, z)) (hw : Cond.fieldLinkNest own idx "PrintRegister$Sensor" "trueError" "I" "PrintRegister" ∈ pr_NW) (hdg : decode cc pc = .ok (.getfield idx, 3)) (k : pr_W E Y Rm nL f (pc + 3) lv (.int (f c 5) :: st)) : pr_W E Y Rm nL f pc lv (.ref (pr_ad E c) :: st) := pr_getN (N := 10) (T := TX5) (Cn := RX5) C hk (by decide) rfl pr_uw5 5 (by decide) hw rfl hdg k
theorem pr_gN_5_7 (C : pr_C E Y Rm cc own nL c0) {c z idx : Nat} (hk : (pr_L E)[c]? = some (5, z)) (hw : Cond.fieldLinkNest own idx "PrintRegister$Sensor" "recognized" "I" "PrintRegister" ∈ pr_NW) (hdg : decode cc pc = .ok (.getfield idx, 3)) (k : pr_W E Y Rm nL f (pc + 3) lv (.int (f c 7) :: st)) : pr_W E Y Rm nL f pc lv (.ref (pr_ad E c) :: st) := pr_getN (N := 10) (T := TX5) (Cn := RX5) C hk (by decide) rfl pr_uw5 7 (by decide) hw rfl hdg k
theorem pr_gN_5_8 (C : pr_C E Y Rm cc own nL c0) {c z idx : Nat} (hk : (pr_L E)[c]? = some (5, z)) (hw : Cond.fieldLinkNest own idx "PrintRegister$Sensor" "offset" "I" "PrintRegister" ∈ pr_NW) (hdg : decode cc pc = .ok (.getfield idx, 3)) (k : pr_W E Y Rm nL f (pc + 3) lv (.int (f c 8) :: st)) : pr_W E Y Rm nL f pc lv (.ref (pr_ad E c) :: st) := pr_getN (N := 10) (T := TX5) (Cn := RX5) C hk (by decide) rfl pr_uw5 8 (by decide) hw rfl hdg k
theorem pr_gN_5_9 (C : pr_C E Y Rm cc own nL c0) {c z idx : Nat} (hk : (pr_L E)[c]? = some (5, z)) (hw : Cond.fieldLinkNest own idx "PrintRegister$Sensor" "skew" "I" "PrintRegister" ∈ pr_NW) (hdg : decode cc pc = .ok (.getfield idx, 3)) (k : pr_W E Y Rm nL f (pc + 3) lv (.int (f c 9) :: st)) : pr_W E Y Rm nL f pc lv (.ref (pr_ad E c) :: st) := pr_getN (N := 10) (T := TX5) (Cn := RX5) C hk (by decide) rfl pr_uw5 9 (by decide) hw rfl hdg k
theorem pr_gN_6_0 (C : pr_C E Y Rm cc own nL c0) {c z idx : Nat} (hk : (pr_L E)[c]? = some (6, z)) (hw : Cond.fieldLinkNest own idx "PrintRegister$Slot" "saved" "LPrintRegister$Press;" "PrintRegister" ∈ pr_NW) (hdg : decode cc pc = .ok (.getfield idx, 3)) (k : pr_W E Y Rm nL f (pc + 3) lv (.ref (pr_ad E (c + 1)) :: st)) : pr_W E Y Rm nL f pc lv (.ref (pr_ad E c) :: st) := pr_getN (N := 2) (T := TX6) (Cn := RX6) C hk (by decide) rfl pr_uw6 0 (by decide) hw rfl hdg k
theorem pr_gN_6_1 (C : pr_C E Y Rm cc own nL c0) {c z idx : Nat} (hk : (pr_L E)[c]? = some (6, z)) (hw : Cond.fieldLinkNest own idx "PrintRegister$Slot" "isUsed" "Z" "PrintRegister" ∈ pr_NW) (hdg : decode cc pc = .ok (.getfield idx, 3)) (k : pr_W E Y Rm nL f (pc + 3) lv (.int (f c 1) :: st)) : pr_W E Y Rm nL f pc lv (.ref (pr_ad E c) :: st) := pr_getN (N := 2) (T := TX6) (Cn := RX6) C hk (by decide) rfl pr_uw6 1 (by decide) hw rfl hdg k
theorem pr_gN_7_1 (C : pr_C E Y Rm cc own nL c0) {c z idx : Nat} (hk : (pr_L E)[c]? = some (7, z)) (hw : Cond.fieldLinkNest own idx "PrintRegister$Unit" "printer" "LPrintRegister$Printer;" "PrintRegister" ∈ pr_NW) (hdg : decode cc pc = .ok (.getfield idx, 3)) (k : pr_W E Y Rm nL f (pc + 3) lv (.ref (pr_ad E (c + 2)) :: st)) : pr_W E Y Rm nL f pc lv (.ref (pr_ad E c) :: st) := pr_getN (N := 4) (T := TX7) (Cn := RX7) C hk (by decide) rfl pr_uw7 1 (by decide) hw rfl hdg k
theorem pr_gN_7_2 (C : pr_C E Y Rm cc own nL c0) {c z idx : Nat} (hk : (pr_L E)[c]? = some (7, z)) (hw : Cond.fieldLinkNest own idx "PrintRegister$Unit" "controller" "LPrintRegister$Controller;" "PrintRegister" ∈ pr_NW) (hdg : decode cc pc = .ok (.getfield idx, 3)) (k : pr_W E Y Rm nL f (pc + 3) lv (.ref (pr_ad E (c + 5)) :: st)) : pr_W E Y Rm nL f pc lv (.ref (pr_ad E c) :: st) := pr_getN (N := 4) (T := TX7) (Cn := RX7) C hk (by decide) rfl pr_uw7 2 (by decide) hw rfl hdg k
theorem pr_gN_7_3 (C : pr_C E Y Rm cc own nL c0) {c z idx : Nat} (hk : (pr_L E)[c]? = some (7, z)) (hw : Cond.fieldLinkNest own idx "PrintRegister$Unit" "sensor" "LPrintRegister$Sensor;" "PrintRegister" ∈ pr_NW) (hdg : decode cc pc = .ok (.getfield idx, 3)) (k : pr_W E Y Rm nL f (pc + 3) lv (.ref (pr_ad E (c + 6)) :: st)) : pr_W E Y Rm nL f pc lv (.ref (pr_ad E c) :: st) := pr_getN (N := 4) (T := TX7) (Cn := RX7) C hk (by decide) rfl pr_uw7 3 (by decide) hw rfl hdg k
theorem pr_p_0_0 (C : pr_C E Y Rm cc own nL c0) {c z idx : Nat} {v : Int32} (hk : (pr_L E)[c]? = some (0, z)) (hw : Cond.fieldLink own idx "PrintRegister$Controller" "feed" "I" ∈ pr_AL) (hdg : decode cc pc = .ok (.putfield idx, 3)) (k : ∀ g, g = pr_up f c 0 v → pr_W E Y Rm nL g (pc + 3) lv st) : pr_W E Y Rm nL f pc lv (.int v :: .ref (pr_ad E c) :: st) := pr_putf (N := 9) (T := TX0) (Cn := RX0) C hk (by decide) rfl pr_uw0 tyX0 tyX0_ok nmX0 0 (by decide) hw rfl rfl rfl rfl hdg k
theorem pr_p_0_1 (C : pr_C E Y Rm cc own nL c0) {c z idx : Nat} {v : Int32} (hk : (pr_L E)[c]? = some (0, z)) (hw : Cond.fieldLink own idx "PrintRegister$Controller" "sum" "I" ∈ pr_AL) (hdg : decode cc pc = .ok (.putfield idx, 3)) (k : ∀ g, g = pr_up f c 1 v → pr_W E Y Rm nL g (pc + 3) lv st) : pr_W E Y Rm nL f pc lv (.int v :: .ref (pr_ad E c) :: st) := pr_putf (N := 9) (T := TX0) (Cn := RX0) C hk (by decide) rfl pr_uw0 tyX0 tyX0_ok nmX0 1 (by decide) hw rfl rfl rfl rfl hdg k
theorem pr_p_0_2 (C : pr_C E Y Rm cc own nL c0) {c z idx : Nat} {v : Int32} (hk : (pr_L E)[c]? = some (0, z)) (hw : Cond.fieldLink own idx "PrintRegister$Controller" "wait" "I" ∈ pr_AL) (hdg : decode cc pc = .ok (.putfield idx, 3)) (k : ∀ g, g = pr_up f c 2 v → pr_W E Y Rm nL g (pc + 3) lv st) : pr_W E Y Rm nL f pc lv (.int v :: .ref (pr_ad E c) :: st) := pr_putf (N := 9) (T := TX0) (Cn := RX0) C hk (by decide) rfl pr_uw0 tyX0 tyX0_ok nmX0 2 (by decide) hw rfl rfl rfl rfl hdg k
theorem pr_p_0_3 (C : pr_C E Y Rm cc own nL c0) {c z idx : Nat} {v : Int32} (hk : (pr_L E)[c]? = some (0, z)) (hw : Cond.fieldLink own idx "PrintRegister$Controller" "misses" "I" ∈ pr_AL) (hdg : decode cc pc = .ok (.putfield idx, 3)) (k : ∀ g, g = pr_up f c 3 v → pr_W E Y Rm nL g (pc + 3) lv st) : pr_W E Y Rm nL f pc lv (.int v :: .ref (pr_ad E c) :: st) := pr_putf (N := 9) (T := TX0) (Cn := RX0) C hk (by decide) rfl pr_uw0 tyX0 tyX0_ok nmX0 3 (by decide) hw rfl rfl rfl rfl hdg k
theorem pr_p_0_4 (C : pr_C E Y Rm cc own nL c0) {c z idx : Nat} {v : Int32} (hk : (pr_L E)[c]? = some (0, z)) (hw : Cond.fieldLink own idx "PrintRegister$Controller" "readyTime" "I" ∈ pr_AL) (hdg : decode cc pc = .ok (.putfield idx, 3)) (k : ∀ g, g = pr_up f c 4 v → pr_W E Y Rm nL g (pc + 3) lv st) : pr_W E Y Rm nL f pc lv (.int v :: .ref (pr_ad E c) :: st) := pr_putf (N := 9) (T := TX0) (Cn := RX0) C hk (by decide) rfl pr_uw0 tyX0 tyX0_ok nmX0 4 (by decide) hw rfl rfl rfl rfl hdg k
theorem pr_p_0_5 (C : pr_C E Y Rm cc own nL c0) {c z idx : Nat} {v : Int32} (hk : (pr_L E)[c]? = some (0, z)) (hw : Cond.fieldLink own idx "PrintRegister$Controller" "expectedError" "I" ∈ pr_AL) (hdg : decode cc pc = .ok (.putfield idx, 3)) (k : ∀ g, g = pr_up f c 5 v → pr_W E Y Rm nL g (pc + 3) lv st) : pr_W E Y Rm nL f pc lv (.int v :: .ref (pr_ad E c) :: st) := pr_putf (N := 9) (T := TX0) (Cn := RX0) C hk (by decide) rfl pr_uw0 tyX0 tyX0_ok nmX0 5 (by decide) hw rfl rfl rfl rfl hdg k
theorem pr_p_0_6 (C : pr_C E Y Rm cc own nL c0) {c z idx : Nat} {v : Int32} (hk : (pr_L E)[c]? = some (0, z)) (hw : Cond.fieldLink own idx "PrintRegister$Controller" "expectedSkew" "I" ∈ pr_AL) (hdg : decode cc pc = .ok (.putfield idx, 3)) (k : ∀ g, g = pr_up f c 6 v → pr_W E Y Rm nL g (pc + 3) lv st) : pr_W E Y Rm nL f pc lv (.int v :: .ref (pr_ad E c) :: st) := pr_putf (N := 9) (T := TX0) (Cn := RX0) C hk (by decide) rfl pr_uw0 tyX0 tyX0_ok nmX0 6 (by decide) hw rfl rfl rfl rfl hdg k
theorem pr_p_0_7 (C : pr_C E Y Rm cc own nL c0) {c z idx : Nat} {v : Int32} (hk : (pr_L E)[c]? = some (0, z)) (hw : Cond.fieldLink own idx "PrintRegister$Controller" "addedPhase" "I" ∈ pr_AL) (hdg : decode cc pc = .ok (.putfield idx, 3)) (k : ∀ g, g = pr_up f c 7 v → pr_W E Y Rm nL g (pc + 3) lv st) : pr_W E Y Rm nL f pc lv (.int v :: .ref (pr_ad E c) :: st) := pr_putf (N := 9) (T := TX0) (Cn := RX0) C hk (by decide) rfl pr_uw0 tyX0 tyX0_ok nmX0 7 (by decide) hw rfl rfl rfl rfl hdg k
theorem pr_p_0_8 (C : pr_C E Y Rm cc own nL c0) {c z idx : Nat} {v : Int32} (hk : (pr_L E)[c]? = some (0, z)) (hw : Cond.fieldLink own idx "PrintRegister$Controller" "addedSkew" "I" ∈ pr_AL) (hdg : decode cc pc = .ok (.putfield idx, 3)) (k : ∀ g, g = pr_up f c 8 v → pr_W E Y Rm nL g (pc + 3) lv st) : pr_W E Y Rm nL f pc lv (.int v :: .ref (pr_ad E c) :: st) := pr_putf (N := 9) (T := TX0) (Cn := RX0) C hk (by decide) rfl pr_uw0 tyX0 tyX0_ok nmX0 8 (by decide) hw rfl rfl rfl rfl hdg k
theorem pr_p_1_1 (C : pr_C E Y Rm cc own nL c0) {c z idx : Nat} {v : Int32} (hk : (pr_L E)[c]? = some (1, z)) (hw : Cond.fieldLink own idx "PrintRegister$ErrorLog" "added" "I" ∈ pr_AL) (hdg : decode cc pc = .ok (.putfield idx, 3)) (k : ∀ g, g = pr_up f c 1 v → pr_W E Y Rm nL g (pc + 3) lv st) : pr_W E Y Rm nL f pc lv (.int v :: .ref (pr_ad E c) :: st) := pr_putf (N := 2) (T := TX1) (Cn := RX1) C hk (by decide) rfl pr_uw1 tyX1 tyX1_ok nmX1 1 (by decide) hw rfl rfl rfl rfl hdg k
theorem pr_p_2_1 (C : pr_C E Y Rm cc own nL c0) {c z idx : Nat} {v : Int32} (hk : (pr_L E)[c]? = some (2, z)) (hw : Cond.fieldLink own idx "PrintRegister$Pad" "length" "I" ∈ pr_AL) (hdg : decode cc pc = .ok (.putfield idx, 3)) (k : ∀ g, g = pr_up f c 1 v → pr_W E Y Rm nL g (pc + 3) lv st) : pr_W E Y Rm nL f pc lv (.int v :: .ref (pr_ad E c) :: st) := pr_putf (N := 10) (T := TX2) (Cn := RX2) C hk (by decide) rfl pr_uw2 tyX2 tyX2_ok nmX2 1 (by decide) hw rfl rfl rfl rfl hdg k
theorem pr_p_2_2 (C : pr_C E Y Rm cc own nL c0) {c z idx : Nat} {v : Int32} (hk : (pr_L E)[c]? = some (2, z)) (hw : Cond.fieldLink own idx "PrintRegister$Pad" "at" "I" ∈ pr_AL) (hdg : decode cc pc = .ok (.putfield idx, 3)) (k : ∀ g, g = pr_up f c 2 v → pr_W E Y Rm nL g (pc + 3) lv st) : pr_W E Y Rm nL f pc lv (.int v :: .ref (pr_ad E c) :: st) := pr_putf (N := 10) (T := TX2) (Cn := RX2) C hk (by decide) rfl pr_uw2 tyX2 tyX2_ok nmX2 2 (by decide) hw rfl rfl rfl rfl hdg k
theorem pr_p_2_3 (C : pr_C E Y Rm cc own nL c0) {c z idx : Nat} {v : Int32} (hk : (pr_L E)[c]? = some (2, z)) (hw : Cond.fieldLink own idx "PrintRegister$Pad" "failed" "Z" ∈ pr_AL) (hb : v = 0 ∨ v = 1) (hdg : decode cc pc = .ok (.putfield idx, 3)) (k : ∀ g, g = pr_up f c 3 v → pr_W E Y Rm nL g (pc + 3) lv st) : pr_W E Y Rm nL f pc lv (.int v :: .ref (pr_ad E c) :: st) := pr_putf (N := 10) (T := TX2) (Cn := RX2) C hk (by decide) rfl pr_uw2 tyX2 tyX2_ok nmX2 3 (by decide) hw rfl rfl (pr_b01 hb).1 (pr_b01 hb).2 hdg k
theorem pr_p_2_4 (C : pr_C E Y Rm cc own nL c0) {c z idx : Nat} {v : Int32} (hk : (pr_L E)[c]? = some (2, z)) (hw : Cond.fieldLink own idx "PrintRegister$Pad" "kind" "I" ∈ pr_AL) (hdg : decode cc pc = .ok (.putfield idx, 3)) (k : ∀ g, g = pr_up f c 4 v → pr_W E Y Rm nL g (pc + 3) lv st) : pr_W E Y Rm nL f pc lv (.int v :: .ref (pr_ad E c) :: st) := pr_putf (N := 10) (T := TX2) (Cn := RX2) C hk (by decide) rfl pr_uw2 tyX2 tyX2_ok nmX2 4 (by decide) hw rfl rfl rfl rfl hdg k
theorem pr_p_2_5 (C : pr_C E Y Rm cc own nL c0) {c z idx : Nat} {v : Int32} (hk : (pr_L E)[c]? = some (2, z)) (hw : Cond.fieldLink own idx "PrintRegister$Pad" "unit" "I" ∈ pr_AL) (hdg : decode cc pc = .ok (.putfield idx, 3)) (k : ∀ g, g = pr_up f c 5 v → pr_W E Y Rm nL g (pc + 3) lv st) : pr_W E Y Rm nL f pc lv (.int v :: .ref (pr_ad E c) :: st) := pr_putf (N := 10) (T := TX2) (Cn := RX2) C hk (by decide) rfl pr_uw2 tyX2 tyX2_ok nmX2 5 (by decide) hw rfl rfl rfl rfl hdg k
theorem pr_p_2_6 (C : pr_C E Y Rm cc own nL c0) {c z idx : Nat} {v : Int32} (hk : (pr_L E)[c]? = some (2, z)) (hw : Cond.fieldLink own idx "PrintRegister$Pad" "number" "I" ∈ pr_AL) (hdg : decode cc pc = .ok (.putfield idx, 3)) (k : ∀ g, g = pr_up f c 6 v → pr_W E Y Rm nL g (pc + 3) lv st) : pr_W E Y Rm nL f pc lv (.int v :: .ref (pr_ad E c) :: st) := pr_putf (N := 10) (T := TX2) (Cn := RX2) C hk (by decide) rfl pr_uw2 tyX2 tyX2_ok nmX2 6 (by decide) hw rfl rfl rfl rfl hdg k
theorem pr_p_2_7 (C : pr_C E Y Rm cc own nL c0) {c z idx : Nat} {v : Int32} (hk : (pr_L E)[c]? = some (2, z)) (hw : Cond.fieldLink own idx "PrintRegister$Pad" "duration" "I" ∈ pr_AL) (hdg : decode cc pc = .ok (.putfield idx, 3)) (k : ∀ g, g = pr_up f c 7 v → pr_W E Y Rm nL g (pc + 3) lv st) : pr_W E Y Rm nL f pc lv (.int v :: .ref (pr_ad E c) :: st) := pr_putf (N := 10) (T := TX2) (Cn := RX2) C hk (by decide) rfl pr_uw2 tyX2 tyX2_ok nmX2 7 (by decide) hw rfl rfl rfl rfl hdg k
theorem pr_p_2_8 (C : pr_C E Y Rm cc own nL c0) {c z idx : Nat} {v : Int32} (hk : (pr_L E)[c]? = some (2, z)) (hw : Cond.fieldLink own idx "PrintRegister$Pad" "repeats" "I" ∈ pr_AL) (hdg : decode cc pc = .ok (.putfield idx, 3)) (k : ∀ g, g = pr_up f c 8 v → pr_W E Y Rm nL g (pc + 3) lv st) : pr_W E Y Rm nL f pc lv (.int v :: .ref (pr_ad E c) :: st) := pr_putf (N := 10) (T := TX2) (Cn := RX2) C hk (by decide) rfl pr_uw2 tyX2 tyX2_ok nmX2 8 (by decide) hw rfl rfl rfl rfl hdg k
theorem pr_p_2_9 (C : pr_C E Y Rm cc own nL c0) {c z idx : Nat} {v : Int32} (hk : (pr_L E)[c]? = some (2, z)) (hw : Cond.fieldLink own idx "PrintRegister$Pad" "greatestUnit" "I" ∈ pr_AL) (hdg : decode cc pc = .ok (.putfield idx, 3)) (k : ∀ g, g = pr_up f c 9 v → pr_W E Y Rm nL g (pc + 3) lv st) : pr_W E Y Rm nL f pc lv (.int v :: .ref (pr_ad E c) :: st) := pr_putf (N := 10) (T := TX2) (Cn := RX2) C hk (by decide) rfl pr_uw2 tyX2 tyX2_ok nmX2 9 (by decide) hw rfl rfl rfl rfl hdg k
theorem pr_p_3_3 (C : pr_C E Y Rm cc own nL c0) {c z idx : Nat} {v : Int32} (hk : (pr_L E)[c]? = some (3, z)) (hw : Cond.fieldLink own idx "PrintRegister$Press" "unitCount" "I" ∈ pr_AL) (hdg : decode cc pc = .ok (.putfield idx, 3)) (k : ∀ g, g = pr_up f c 3 v → pr_W E Y Rm nL g (pc + 3) lv st) : pr_W E Y Rm nL f pc lv (.int v :: .ref (pr_ad E c) :: st) := pr_putf (N := 10) (T := TX3) (Cn := RX3) C hk (by decide) rfl pr_uw3 tyX3 tyX3_ok nmX3 3 (by decide) hw rfl rfl rfl rfl hdg k
theorem pr_p_3_4 (C : pr_C E Y Rm cc own nL c0) {c z idx : Nat} {v : Int32} (hk : (pr_L E)[c]? = some (3, z)) (hw : Cond.fieldLink own idx "PrintRegister$Press" "time" "I" ∈ pr_AL) (hdg : decode cc pc = .ok (.putfield idx, 3)) (k : ∀ g, g = pr_up f c 4 v → pr_W E Y Rm nL g (pc + 3) lv st) : pr_W E Y Rm nL f pc lv (.int v :: .ref (pr_ad E c) :: st) := pr_putf (N := 10) (T := TX3) (Cn := RX3) C hk (by decide) rfl pr_uw3 tyX3 tyX3_ok nmX3 4 (by decide) hw rfl rfl rfl rfl hdg k
theorem pr_p_3_5 (C : pr_C E Y Rm cc own nL c0) {c z idx : Nat} {v : Int32} (hk : (pr_L E)[c]? = some (3, z)) (hw : Cond.fieldLink own idx "PrintRegister$Press" "speedNow" "I" ∈ pr_AL) (hdg : decode cc pc = .ok (.putfield idx, 3)) (k : ∀ g, g = pr_up f c 5 v → pr_W E Y Rm nL g (pc + 3) lv st) : pr_W E Y Rm nL f pc lv (.int v :: .ref (pr_ad E c) :: st) := pr_putf (N := 10) (T := TX3) (Cn := RX3) C hk (by decide) rfl pr_uw3 tyX3 tyX3_ok nmX3 5 (by decide) hw rfl rfl rfl rfl hdg k
theorem pr_p_3_6 (C : pr_C E Y Rm cc own nL c0) {c z idx : Nat} {v : Int32} (hk : (pr_L E)[c]? = some (3, z)) (hw : Cond.fieldLink own idx "PrintRegister$Press" "speedBefore" "I" ∈ pr_AL) (hdg : decode cc pc = .ok (.putfield idx, 3)) (k : ∀ g, g = pr_up f c 6 v → pr_W E Y Rm nL g (pc + 3) lv st) : pr_W E Y Rm nL f pc lv (.int v :: .ref (pr_ad E c) :: st) := pr_putf (N := 10) (T := TX3) (Cn := RX3) C hk (by decide) rfl pr_uw3 tyX3 tyX3_ok nmX3 6 (by decide) hw rfl rfl rfl rfl hdg k
theorem pr_p_3_7 (C : pr_C E Y Rm cc own nL c0) {c z idx : Nat} {v : Int32} (hk : (pr_L E)[c]? = some (3, z)) (hw : Cond.fieldLink own idx "PrintRegister$Press" "spliceStart" "I" ∈ pr_AL) (hdg : decode cc pc = .ok (.putfield idx, 3)) (k : ∀ g, g = pr_up f c 7 v → pr_W E Y Rm nL g (pc + 3) lv st) : pr_W E Y Rm nL f pc lv (.int v :: .ref (pr_ad E c) :: st) := pr_putf (N := 10) (T := TX3) (Cn := RX3) C hk (by decide) rfl pr_uw3 tyX3 tyX3_ok nmX3 7 (by decide) hw rfl rfl rfl rfl hdg k
theorem pr_p_3_8 (C : pr_C E Y Rm cc own nL c0) {c z idx : Nat} {v : Int32} (hk : (pr_L E)[c]? = some (3, z)) (hw : Cond.fieldLink own idx "PrintRegister$Press" "spliceAmount" "I" ∈ pr_AL) (hdg : decode cc pc = .ok (.putfield idx, 3)) (k : ∀ g, g = pr_up f c 8 v → pr_W E Y Rm nL g (pc + 3) lv st) : pr_W E Y Rm nL f pc lv (.int v :: .ref (pr_ad E c) :: st) := pr_putf (N := 10) (T := TX3) (Cn := RX3) C hk (by decide) rfl pr_uw3 tyX3 tyX3_ok nmX3 8 (by decide) hw rfl rfl rfl rfl hdg k
theorem pr_p_3_9 (C : pr_C E Y Rm cc own nL c0) {c z idx : Nat} {v : Int32} (hk : (pr_L E)[c]? = some (3, z)) (hw : Cond.fieldLink own idx "PrintRegister$Press" "spliceDuration" "I" ∈ pr_AL) (hdg : decode cc pc = .ok (.putfield idx, 3)) (k : ∀ g, g = pr_up f c 9 v → pr_W E Y Rm nL g (pc + 3) lv st) : pr_W E Y Rm nL f pc lv (.int v :: .ref (pr_ad E c) :: st) := pr_putf (N := 10) (T := TX3) (Cn := RX3) C hk (by decide) rfl pr_uw3 tyX3 tyX3_ok nmX3 9 (by decide) hw rfl rfl rfl rfl hdg k
theorem pr_p_4_2 (C : pr_C E Y Rm cc own nL c0) {c z idx : Nat} {v : Int32} (hk : (pr_L E)[c]? = some (4, z)) (hw : Cond.fieldLink own idx "PrintRegister$Printer" "phase" "I" ∈ pr_AL) (hdg : decode cc pc = .ok (.putfield idx, 3)) (k : ∀ g, g = pr_up f c 2 v → pr_W E Y Rm nL g (pc + 3) lv st) : pr_W E Y Rm nL f pc lv (.int v :: .ref (pr_ad E c) :: st) := pr_putf (N := 8) (T := TX4) (Cn := RX4) C hk (by decide) rfl pr_uw4 tyX4 tyX4_ok nmX4 2 (by decide) hw rfl rfl rfl rfl hdg k
theorem pr_p_4_3 (C : pr_C E Y Rm cc own nL c0) {c z idx : Nat} {v : Int32} (hk : (pr_L E)[c]? = some (4, z)) (hw : Cond.fieldLink own idx "PrintRegister$Printer" "skewSetting" "I" ∈ pr_AL) (hdg : decode cc pc = .ok (.putfield idx, 3)) (k : ∀ g, g = pr_up f c 3 v → pr_W E Y Rm nL g (pc + 3) lv st) : pr_W E Y Rm nL f pc lv (.int v :: .ref (pr_ad E c) :: st) := pr_putf (N := 8) (T := TX4) (Cn := RX4) C hk (by decide) rfl pr_uw4 tyX4 tyX4_ok nmX4 3 (by decide) hw rfl rfl rfl rfl hdg k
theorem pr_p_4_4 (C : pr_C E Y Rm cc own nL c0) {c z idx : Nat} {v : Int32} (hk : (pr_L E)[c]? = some (4, z)) (hw : Cond.fieldLink own idx "PrintRegister$Printer" "tilt" "I" ∈ pr_AL) (hdg : decode cc pc = .ok (.putfield idx, 3)) (k : ∀ g, g = pr_up f c 4 v → pr_W E Y Rm nL g (pc + 3) lv st) : pr_W E Y Rm nL f pc lv (.int v :: .ref (pr_ad E c) :: st) := pr_putf (N := 8) (T := TX4) (Cn := RX4) C hk (by decide) rfl pr_uw4 tyX4 tyX4_ok nmX4 4 (by decide) hw rfl rfl rfl rfl hdg k
theorem pr_p_4_5 (C : pr_C E Y Rm cc own nL c0) {c z idx : Nat} {v : Int32} (hk : (pr_L E)[c]? = some (4, z)) (hw : Cond.fieldLink own idx "PrintRegister$Printer" "disturbanceAmount" "I" ∈ pr_AL) (hdg : decode cc pc = .ok (.putfield idx, 3)) (k : ∀ g, g = pr_up f c 5 v → pr_W E Y Rm nL g (pc + 3) lv st) : pr_W E Y Rm nL f pc lv (.int v :: .ref (pr_ad E c) :: st) := pr_putf (N := 8) (T := TX4) (Cn := RX4) C hk (by decide) rfl pr_uw4 tyX4 tyX4_ok nmX4 5 (by decide) hw rfl rfl rfl rfl hdg k
theorem pr_p_4_6 (C : pr_C E Y Rm cc own nL c0) {c z idx : Nat} {v : Int32} (hk : (pr_L E)[c]? = some (4, z)) (hw : Cond.fieldLink own idx "PrintRegister$Printer" "disturbanceDuration" "I" ∈ pr_AL) (hdg : decode cc pc = .ok (.putfield idx, 3)) (k : ∀ g, g = pr_up f c 6 v → pr_W E Y Rm nL g (pc + 3) lv st) : pr_W E Y Rm nL f pc lv (.int v :: .ref (pr_ad E c) :: st) := pr_putf (N := 8) (T := TX4) (Cn := RX4) C hk (by decide) rfl pr_uw4 tyX4 tyX4_ok nmX4 6 (by decide) hw rfl rfl rfl rfl hdg k
theorem pr_p_4_7 (C : pr_C E Y Rm cc own nL c0) {c z idx : Nat} {v : Int32} (hk : (pr_L E)[c]? = some (4, z)) (hw : Cond.fieldLink own idx "PrintRegister$Printer" "disturbanceLeft" "I" ∈ pr_AL) (hdg : decode cc pc = .ok (.putfield idx, 3)) (k : ∀ g, g = pr_up f c 7 v → pr_W E Y Rm nL g (pc + 3) lv st) : pr_W E Y Rm nL f pc lv (.int v :: .ref (pr_ad E c) :: st) := pr_putf (N := 8) (T := TX4) (Cn := RX4) C hk (by decide) rfl pr_uw4 tyX4 tyX4_ok nmX4 7 (by decide) hw rfl rfl rfl rfl hdg k
theorem pr_p_5_1 (C : pr_C E Y Rm cc own nL c0) {c z idx : Nat} {v : Int32} (hk : (pr_L E)[c]? = some (5, z)) (hw : Cond.fieldLink own idx "PrintRegister$Sensor" "hiddenLeft" "I" ∈ pr_AL) (hdg : decode cc pc = .ok (.putfield idx, 3)) (k : ∀ g, g = pr_up f c 1 v → pr_W E Y Rm nL g (pc + 3) lv st) : pr_W E Y Rm nL f pc lv (.int v :: .ref (pr_ad E c) :: st) := pr_putf (N := 10) (T := TX5) (Cn := RX5) C hk (by decide) rfl pr_uw5 tyX5 tyX5_ok nmX5 1 (by decide) hw rfl rfl rfl rfl hdg k
theorem pr_p_5_2 (C : pr_C E Y Rm cc own nL c0) {c z idx : Nat} {v : Int32} (hk : (pr_L E)[c]? = some (5, z)) (hw : Cond.fieldLink own idx "PrintRegister$Sensor" "falseOffset" "I" ∈ pr_AL) (hdg : decode cc pc = .ok (.putfield idx, 3)) (k : ∀ g, g = pr_up f c 2 v → pr_W E Y Rm nL g (pc + 3) lv st) : pr_W E Y Rm nL f pc lv (.int v :: .ref (pr_ad E c) :: st) := pr_putf (N := 10) (T := TX5) (Cn := RX5) C hk (by decide) rfl pr_uw5 tyX5 tyX5_ok nmX5 2 (by decide) hw rfl rfl rfl rfl hdg k
theorem pr_p_5_3 (C : pr_C E Y Rm cc own nL c0) {c z idx : Nat} {v : Int32} (hk : (pr_L E)[c]? = some (5, z)) (hw : Cond.fieldLink own idx "PrintRegister$Sensor" "falseLeft" "I" ∈ pr_AL) (hdg : decode cc pc = .ok (.putfield idx, 3)) (k : ∀ g, g = pr_up f c 3 v → pr_W E Y Rm nL g (pc + 3) lv st) : pr_W E Y Rm nL f pc lv (.int v :: .ref (pr_ad E c) :: st) := pr_putf (N := 10) (T := TX5) (Cn := RX5) C hk (by decide) rfl pr_uw5 tyX5 tyX5_ok nmX5 3 (by decide) hw rfl rfl rfl rfl hdg k
theorem pr_p_5_4 (C : pr_C E Y Rm cc own nL c0) {c z idx : Nat} {v : Int32} (hk : (pr_L E)[c]? = some (5, z)) (hw : Cond.fieldLink own idx "PrintRegister$Sensor" "sawPiece" "Z" ∈ pr_AL) (hb : v = 0 ∨ v = 1) (hdg : decode cc pc = .ok (.putfield idx, 3)) (k : ∀ g, g = pr_up f c 4 v → pr_W E Y Rm nL g (pc + 3) lv st) : pr_W E Y Rm nL f pc lv (.int v :: .ref (pr_ad E c) :: st) := pr_putf (N := 10) (T := TX5) (Cn := RX5) C hk (by decide) rfl pr_uw5 tyX5 tyX5_ok nmX5 4 (by decide) hw rfl rfl (pr_b01 hb).1 (pr_b01 hb).2 hdg k
theorem pr_p_5_5 (C : pr_C E Y Rm cc own nL c0) {c z idx : Nat} {v : Int32} (hk : (pr_L E)[c]? = some (5, z)) (hw : Cond.fieldLink own idx "PrintRegister$Sensor" "trueError" "I" ∈ pr_AL) (hdg : decode cc pc = .ok (.putfield idx, 3)) (k : ∀ g, g = pr_up f c 5 v → pr_W E Y Rm nL g (pc + 3) lv st) : pr_W E Y Rm nL f pc lv (.int v :: .ref (pr_ad E c) :: st) := pr_putf (N := 10) (T := TX5) (Cn := RX5) C hk (by decide) rfl pr_uw5 tyX5 tyX5_ok nmX5 5 (by decide) hw rfl rfl rfl rfl hdg k
theorem pr_p_5_6 (C : pr_C E Y Rm cc own nL c0) {c z idx : Nat} {v : Int32} (hk : (pr_L E)[c]? = some (5, z)) (hw : Cond.fieldLink own idx "PrintRegister$Sensor" "trueSkew" "I" ∈ pr_AL) (hdg : decode cc pc = .ok (.putfield idx, 3)) (k : ∀ g, g = pr_up f c 6 v → pr_W E Y Rm nL g (pc + 3) lv st) : pr_W E Y Rm nL f pc lv (.int v :: .ref (pr_ad E c) :: st) := pr_putf (N := 10) (T := TX5) (Cn := RX5) C hk (by decide) rfl pr_uw5 tyX5 tyX5_ok nmX5 6 (by decide) hw rfl rfl rfl rfl hdg k
theorem pr_p_5_7 (C : pr_C E Y Rm cc own nL c0) {c z idx : Nat} {v : Int32} (hk : (pr_L E)[c]? = some (5, z)) (hw : Cond.fieldLink own idx "PrintRegister$Sensor" "recognized" "I" ∈ pr_AL) (hdg : decode cc pc = .ok (.putfield idx, 3)) (k : ∀ g, g = pr_up f c 7 v → pr_W E Y Rm nL g (pc + 3) lv st) : pr_W E Y Rm nL f pc lv (.int v :: .ref (pr_ad E c) :: st) := pr_putf (N := 10) (T := TX5) (Cn := RX5) C hk (by decide) rfl pr_uw5 tyX5 tyX5_ok nmX5 7 (by decide) hw rfl rfl rfl rfl hdg k
theorem pr_p_5_8 (C : pr_C E Y Rm cc own nL c0) {c z idx : Nat} {v : Int32} (hk : (pr_L E)[c]? = some (5, z)) (hw : Cond.fieldLink own idx "PrintRegister$Sensor" "offset" "I" ∈ pr_AL) (hdg : decode cc pc = .ok (.putfield idx, 3)) (k : ∀ g, g = pr_up f c 8 v → pr_W E Y Rm nL g (pc + 3) lv st) : pr_W E Y Rm nL f pc lv (.int v :: .ref (pr_ad E c) :: st) := pr_putf (N := 10) (T := TX5) (Cn := RX5) C hk (by decide) rfl pr_uw5 tyX5 tyX5_ok nmX5 8 (by decide) hw rfl rfl rfl rfl hdg k
theorem pr_p_5_9 (C : pr_C E Y Rm cc own nL c0) {c z idx : Nat} {v : Int32} (hk : (pr_L E)[c]? = some (5, z)) (hw : Cond.fieldLink own idx "PrintRegister$Sensor" "skew" "I" ∈ pr_AL) (hdg : decode cc pc = .ok (.putfield idx, 3)) (k : ∀ g, g = pr_up f c 9 v → pr_W E Y Rm nL g (pc + 3) lv st) : pr_W E Y Rm nL f pc lv (.int v :: .ref (pr_ad E c) :: st) := pr_putf (N := 10) (T := TX5) (Cn := RX5) C hk (by decide) rfl pr_uw5 tyX5 tyX5_ok nmX5 9 (by decide) hw rfl rfl rfl rfl hdg k
theorem pr_p_9_5 (C : pr_C E Y Rm cc own nL c0) {c z idx : Nat} {v : Int32} (hk : (pr_L E)[c]? = some (9, z)) (hw : Cond.fieldLink own idx "PrintRegisterModel" "padMany" "I" ∈ pr_AL) (hdg : decode cc pc = .ok (.putfield idx, 3)) (k : ∀ g, g = pr_up f c 5 v → pr_W E Y Rm nL g (pc + 3) lv st) : pr_W E Y Rm nL f pc lv (.int v :: .ref (pr_ad E c) :: st) := pr_putf (N := 10) (T := TX9) (Cn := RX9) C hk (by decide) rfl pr_uw9 tyX9 tyX9_ok nmX9 5 (by decide) hw rfl rfl rfl rfl hdg k
theorem pr_p_9_6 (C : pr_C E Y Rm cc own nL c0) {c z idx : Nat} {v : Int32} (hk : (pr_L E)[c]? = some (9, z)) (hw : Cond.fieldLink own idx "PrintRegisterModel" "spot" "I" ∈ pr_AL) (hdg : decode cc pc = .ok (.putfield idx, 3)) (k : ∀ g, g = pr_up f c 6 v → pr_W E Y Rm nL g (pc + 3) lv st) : pr_W E Y Rm nL f pc lv (.int v :: .ref (pr_ad E c) :: st) := pr_putf (N := 10) (T := TX9) (Cn := RX9) C hk (by decide) rfl pr_uw9 tyX9 tyX9_ok nmX9 6 (by decide) hw rfl rfl rfl rfl hdg k
theorem pr_p_9_7 (C : pr_C E Y Rm cc own nL c0) {c z idx : Nat} {v : Int32} (hk : (pr_L E)[c]? = some (9, z)) (hw : Cond.fieldLink own idx "PrintRegisterModel" "isWrong" "Z" ∈ pr_AL) (hb : v = 0 ∨ v = 1) (hdg : decode cc pc = .ok (.putfield idx, 3)) (k : ∀ g, g = pr_up f c 7 v → pr_W E Y Rm nL g (pc + 3) lv st) : pr_W E Y Rm nL f pc lv (.int v :: .ref (pr_ad E c) :: st) := pr_putf (N := 10) (T := TX9) (Cn := RX9) C hk (by decide) rfl pr_uw9 tyX9 tyX9_ok nmX9 7 (by decide) hw rfl rfl (pr_b01 hb).1 (pr_b01 hb).2 hdg k
theorem pr_p_9_9 (C : pr_C E Y Rm cc own nL c0) {c z idx : Nat} {v : Int32} (hk : (pr_L E)[c]? = some (9, z)) (hw : Cond.fieldLink own idx "PrintRegisterModel" "stepMany" "I" ∈ pr_AL) (hdg : decode cc pc = .ok (.putfield idx, 3)) (k : ∀ g, g = pr_up f c 9 v → pr_W E Y Rm nL g (pc + 3) lv st) : pr_W E Y Rm nL f pc lv (.int v :: .ref (pr_ad E c) :: st) := pr_putf (N := 10) (T := TX9) (Cn := RX9) C hk (by decide) rfl pr_uw9 tyX9 tyX9_ok nmX9 9 (by decide) hw rfl rfl rfl rfl hdg k
theorem pr_pN_0_0 (C : pr_C E Y Rm cc own nL c0) {c z idx : Nat} {v : Int32} (hk : (pr_L E)[c]? = some (0, z)) (hw : Cond.fieldLinkNest own idx "PrintRegister$Controller" "feed" "I" "PrintRegister" ∈ pr_NW) (hdg : decode cc pc = .ok (.putfield idx, 3)) (k : ∀ g, g = pr_up f c 0 v → pr_W E Y Rm nL g (pc + 3) lv st) : pr_W E Y Rm nL f pc lv (.int v :: .ref (pr_ad E c) :: st) := pr_putN (N := 9) (T := TX0) (Cn := RX0) C hk (by decide) rfl pr_uw0 tyX0 tyX0_ok nmX0 0 (by decide) hw rfl rfl rfl rfl hdg k
theorem pr_pN_0_1 (C : pr_C E Y Rm cc own nL c0) {c z idx : Nat} {v : Int32} (hk : (pr_L E)[c]? = some (0, z)) (hw : Cond.fieldLinkNest own idx "PrintRegister$Controller" "sum" "I" "PrintRegister" ∈ pr_NW) (hdg : decode cc pc = .ok (.putfield idx, 3)) (k : ∀ g, g = pr_up f c 1 v → pr_W E Y Rm nL g (pc + 3) lv st) : pr_W E Y Rm nL f pc lv (.int v :: .ref (pr_ad E c) :: st) := pr_putN (N := 9) (T := TX0) (Cn := RX0) C hk (by decide) rfl pr_uw0 tyX0 tyX0_ok nmX0 1 (by decide) hw rfl rfl rfl rfl hdg k
theorem pr_pN_0_2 (C : pr_C E Y Rm cc own nL c0) {c z idx : Nat} {v : Int32} (hk : (pr_L E)[c]? = some (0, z)) (hw : Cond.fieldLinkNest own idx "PrintRegister$Controller" "wait" "I" "PrintRegister" ∈ pr_NW) (hdg : decode cc pc = .ok (.putfield idx, 3)) (k : ∀ g, g = pr_up f c 2 v → pr_W E Y Rm nL g (pc + 3) lv st) : pr_W E Y Rm nL f pc lv (.int v :: .ref (pr_ad E c) :: st) := pr_putN (N := 9) (T := TX0) (Cn := RX0) C hk (by decide) rfl pr_uw0 tyX0 tyX0_ok nmX0 2 (by decide) hw rfl rfl rfl rfl hdg k
theorem pr_pN_0_3 (C : pr_C E Y Rm cc own nL c0) {c z idx : Nat} {v : Int32} (hk : (pr_L E)[c]? = some (0, z)) (hw : Cond.fieldLinkNest own idx "PrintRegister$Controller" "misses" "I" "PrintRegister" ∈ pr_NW) (hdg : decode cc pc = .ok (.putfield idx, 3)) (k : ∀ g, g = pr_up f c 3 v → pr_W E Y Rm nL g (pc + 3) lv st) : pr_W E Y Rm nL f pc lv (.int v :: .ref (pr_ad E c) :: st) := pr_putN (N := 9) (T := TX0) (Cn := RX0) C hk (by decide) rfl pr_uw0 tyX0 tyX0_ok nmX0 3 (by decide) hw rfl rfl rfl rfl hdg k
theorem pr_pN_0_4 (C : pr_C E Y Rm cc own nL c0) {c z idx : Nat} {v : Int32} (hk : (pr_L E)[c]? = some (0, z)) (hw : Cond.fieldLinkNest own idx "PrintRegister$Controller" "readyTime" "I" "PrintRegister" ∈ pr_NW) (hdg : decode cc pc = .ok (.putfield idx, 3)) (k : ∀ g, g = pr_up f c 4 v → pr_W E Y Rm nL g (pc + 3) lv st) : pr_W E Y Rm nL f pc lv (.int v :: .ref (pr_ad E c) :: st) := pr_putN (N := 9) (T := TX0) (Cn := RX0) C hk (by decide) rfl pr_uw0 tyX0 tyX0_ok nmX0 4 (by decide) hw rfl rfl rfl rfl hdg k
theorem pr_pN_0_5 (C : pr_C E Y Rm cc own nL c0) {c z idx : Nat} {v : Int32} (hk : (pr_L E)[c]? = some (0, z)) (hw : Cond.fieldLinkNest own idx "PrintRegister$Controller" "expectedError" "I" "PrintRegister" ∈ pr_NW) (hdg : decode cc pc = .ok (.putfield idx, 3)) (k : ∀ g, g = pr_up f c 5 v → pr_W E Y Rm nL g (pc + 3) lv st) : pr_W E Y Rm nL f pc lv (.int v :: .ref (pr_ad E c) :: st) := pr_putN (N := 9) (T := TX0) (Cn := RX0) C hk (by decide) rfl pr_uw0 tyX0 tyX0_ok nmX0 5 (by decide) hw rfl rfl rfl rfl hdg k
theorem pr_pN_0_6 (C : pr_C E Y Rm cc own nL c0) {c z idx : Nat} {v : Int32} (hk : (pr_L E)[c]? = some (0, z)) (hw : Cond.fieldLinkNest own idx "PrintRegister$Controller" "expectedSkew" "I" "PrintRegister" ∈ pr_NW) (hdg : decode cc pc = .ok (.putfield idx, 3)) (k : ∀ g, g = pr_up f c 6 v → pr_W E Y Rm nL g (pc + 3) lv st) : pr_W E Y Rm nL f pc lv (.int v :: .ref (pr_ad E c) :: st) := pr_putN (N := 9) (T := TX0) (Cn := RX0) C hk (by decide) rfl pr_uw0 tyX0 tyX0_ok nmX0 6 (by decide) hw rfl rfl rfl rfl hdg k
theorem pr_pN_0_7 (C : pr_C E Y Rm cc own nL c0) {c z idx : Nat} {v : Int32} (hk : (pr_L E)[c]? = some (0, z)) (hw : Cond.fieldLinkNest own idx "PrintRegister$Controller" "addedPhase" "I" "PrintRegister" ∈ pr_NW) (hdg : decode cc pc = .ok (.putfield idx, 3)) (k : ∀ g, g = pr_up f c 7 v → pr_W E Y Rm nL g (pc + 3) lv st) : pr_W E Y Rm nL f pc lv (.int v :: .ref (pr_ad E c) :: st) := pr_putN (N := 9) (T := TX0) (Cn := RX0) C hk (by decide) rfl pr_uw0 tyX0 tyX0_ok nmX0 7 (by decide) hw rfl rfl rfl rfl hdg k
theorem pr_pN_0_8 (C : pr_C E Y Rm cc own nL c0) {c z idx : Nat} {v : Int32} (hk : (pr_L E)[c]? = some (0, z)) (hw : Cond.fieldLinkNest own idx "PrintRegister$Controller" "addedSkew" "I" "PrintRegister" ∈ pr_NW) (hdg : decode cc pc = .ok (.putfield idx, 3)) (k : ∀ g, g = pr_up f c 8 v → pr_W E Y Rm nL g (pc + 3) lv st) : pr_W E Y Rm nL f pc lv (.int v :: .ref (pr_ad E c) :: st) := pr_putN (N := 9) (T := TX0) (Cn := RX0) C hk (by decide) rfl pr_uw0 tyX0 tyX0_ok nmX0 8 (by decide) hw rfl rfl rfl rfl hdg k
theorem pr_pN_2_1 (C : pr_C E Y Rm cc own nL c0) {c z idx : Nat} {v : Int32} (hk : (pr_L E)[c]? = some (2, z)) (hw : Cond.fieldLinkNest own idx "PrintRegister$Pad" "length" "I" "PrintRegister" ∈ pr_NW) (hdg : decode cc pc = .ok (.putfield idx, 3)) (k : ∀ g, g = pr_up f c 1 v → pr_W E Y Rm nL g (pc + 3) lv st) : pr_W E Y Rm nL f pc lv (.int v :: .ref (pr_ad E c) :: st) := pr_putN (N := 10) (T := TX2) (Cn := RX2) C hk (by decide) rfl pr_uw2 tyX2 tyX2_ok nmX2 1 (by decide) hw rfl rfl rfl rfl hdg k
theorem pr_pN_3_5 (C : pr_C E Y Rm cc own nL c0) {c z idx : Nat} {v : Int32} (hk : (pr_L E)[c]? = some (3, z)) (hw : Cond.fieldLinkNest own idx "PrintRegister$Press" "speedNow" "I" "PrintRegister" ∈ pr_NW) (hdg : decode cc pc = .ok (.putfield idx, 3)) (k : ∀ g, g = pr_up f c 5 v → pr_W E Y Rm nL g (pc + 3) lv st) : pr_W E Y Rm nL f pc lv (.int v :: .ref (pr_ad E c) :: st) := pr_putN (N := 10) (T := TX3) (Cn := RX3) C hk (by decide) rfl pr_uw3 tyX3 tyX3_ok nmX3 5 (by decide) hw rfl rfl rfl rfl hdg k
theorem pr_pN_4_2 (C : pr_C E Y Rm cc own nL c0) {c z idx : Nat} {v : Int32} (hk : (pr_L E)[c]? = some (4, z)) (hw : Cond.fieldLinkNest own idx "PrintRegister$Printer" "phase" "I" "PrintRegister" ∈ pr_NW) (hdg : decode cc pc = .ok (.putfield idx, 3)) (k : ∀ g, g = pr_up f c 2 v → pr_W E Y Rm nL g (pc + 3) lv st) : pr_W E Y Rm nL f pc lv (.int v :: .ref (pr_ad E c) :: st) := pr_putN (N := 8) (T := TX4) (Cn := RX4) C hk (by decide) rfl pr_uw4 tyX4 tyX4_ok nmX4 2 (by decide) hw rfl rfl rfl rfl hdg k
theorem pr_pN_4_3 (C : pr_C E Y Rm cc own nL c0) {c z idx : Nat} {v : Int32} (hk : (pr_L E)[c]? = some (4, z)) (hw : Cond.fieldLinkNest own idx "PrintRegister$Printer" "skewSetting" "I" "PrintRegister" ∈ pr_NW) (hdg : decode cc pc = .ok (.putfield idx, 3)) (k : ∀ g, g = pr_up f c 3 v → pr_W E Y Rm nL g (pc + 3) lv st) : pr_W E Y Rm nL f pc lv (.int v :: .ref (pr_ad E c) :: st) := pr_putN (N := 8) (T := TX4) (Cn := RX4) C hk (by decide) rfl pr_uw4 tyX4 tyX4_ok nmX4 3 (by decide) hw rfl rfl rfl rfl hdg k
theorem pr_pN_4_7 (C : pr_C E Y Rm cc own nL c0) {c z idx : Nat} {v : Int32} (hk : (pr_L E)[c]? = some (4, z)) (hw : Cond.fieldLinkNest own idx "PrintRegister$Printer" "disturbanceLeft" "I" "PrintRegister" ∈ pr_NW) (hdg : decode cc pc = .ok (.putfield idx, 3)) (k : ∀ g, g = pr_up f c 7 v → pr_W E Y Rm nL g (pc + 3) lv st) : pr_W E Y Rm nL f pc lv (.int v :: .ref (pr_ad E c) :: st) := pr_putN (N := 8) (T := TX4) (Cn := RX4) C hk (by decide) rfl pr_uw4 tyX4 tyX4_ok nmX4 7 (by decide) hw rfl rfl rfl rfl hdg k
theorem pr_pN_5_1 (C : pr_C E Y Rm cc own nL c0) {c z idx : Nat} {v : Int32} (hk : (pr_L E)[c]? = some (5, z)) (hw : Cond.fieldLinkNest own idx "PrintRegister$Sensor" "hiddenLeft" "I" "PrintRegister" ∈ pr_NW) (hdg : decode cc pc = .ok (.putfield idx, 3)) (k : ∀ g, g = pr_up f c 1 v → pr_W E Y Rm nL g (pc + 3) lv st) : pr_W E Y Rm nL f pc lv (.int v :: .ref (pr_ad E c) :: st) := pr_putN (N := 10) (T := TX5) (Cn := RX5) C hk (by decide) rfl pr_uw5 tyX5 tyX5_ok nmX5 1 (by decide) hw rfl rfl rfl rfl hdg k
theorem pr_pN_5_2 (C : pr_C E Y Rm cc own nL c0) {c z idx : Nat} {v : Int32} (hk : (pr_L E)[c]? = some (5, z)) (hw : Cond.fieldLinkNest own idx "PrintRegister$Sensor" "falseOffset" "I" "PrintRegister" ∈ pr_NW) (hdg : decode cc pc = .ok (.putfield idx, 3)) (k : ∀ g, g = pr_up f c 2 v → pr_W E Y Rm nL g (pc + 3) lv st) : pr_W E Y Rm nL f pc lv (.int v :: .ref (pr_ad E c) :: st) := pr_putN (N := 10) (T := TX5) (Cn := RX5) C hk (by decide) rfl pr_uw5 tyX5 tyX5_ok nmX5 2 (by decide) hw rfl rfl rfl rfl hdg k
theorem pr_pN_5_3 (C : pr_C E Y Rm cc own nL c0) {c z idx : Nat} {v : Int32} (hk : (pr_L E)[c]? = some (5, z)) (hw : Cond.fieldLinkNest own idx "PrintRegister$Sensor" "falseLeft" "I" "PrintRegister" ∈ pr_NW) (hdg : decode cc pc = .ok (.putfield idx, 3)) (k : ∀ g, g = pr_up f c 3 v → pr_W E Y Rm nL g (pc + 3) lv st) : pr_W E Y Rm nL f pc lv (.int v :: .ref (pr_ad E c) :: st) := pr_putN (N := 10) (T := TX5) (Cn := RX5) C hk (by decide) rfl pr_uw5 tyX5 tyX5_ok nmX5 3 (by decide) hw rfl rfl rfl rfl hdg k
theorem pr_pN_6_1 (C : pr_C E Y Rm cc own nL c0) {c z idx : Nat} {v : Int32} (hk : (pr_L E)[c]? = some (6, z)) (hw : Cond.fieldLinkNest own idx "PrintRegister$Slot" "isUsed" "Z" "PrintRegister" ∈ pr_NW) (hb : v = 0 ∨ v = 1) (hdg : decode cc pc = .ok (.putfield idx, 3)) (k : ∀ g, g = pr_up f c 1 v → pr_W E Y Rm nL g (pc + 3) lv st) : pr_W E Y Rm nL f pc lv (.int v :: .ref (pr_ad E c) :: st) := pr_putN (N := 2) (T := TX6) (Cn := RX6) C hk (by decide) rfl pr_uw6 tyX6 tyX6_ok nmX6 1 (by decide) hw rfl rfl (pr_b01 hb).1 (pr_b01 hb).2 hdg k
end FR
end
