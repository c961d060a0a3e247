section
def RX0 : String := "PrintRegister$Controller"
def TX0 : u_T := fun k => match k with
  | 0 => ("PrintRegister$Controller", "feed", "I", false)
  | 1 => ("PrintRegister$Controller", "sum", "I", false)
  | 2 => ("PrintRegister$Controller", "wait", "I", false)
  | 3 => ("PrintRegister$Controller", "misses", "I", false)
  | 4 => ("PrintRegister$Controller", "readyTime", "I", false)
  | 5 => ("PrintRegister$Controller", "expectedError", "I", false)
  | 6 => ("PrintRegister$Controller", "expectedSkew", "I", false)
  | 7 => ("PrintRegister$Controller", "addedPhase", "I", false)
  | _ => ("PrintRegister$Controller", "addedSkew", "I", false)
def tyX0 : Nat → FieldType := fun k => match k with
  | 0 => .int
  | 1 => .int
  | 2 => .int
  | 3 => .int
  | 4 => .int
  | 5 => .int
  | 6 => .int
  | 7 => .int
  | _ => .int
abbrev wsX00 : List Cond := u_ws RX0 TX0 9
theorem nmX0 : ∀ a, a < 9 → ∀ b, b < 9 → a ≠ b → (TX0 a).2.1 ≠ (TX0 b).2.1 := by decide +kernel
theorem tyX0_ok : ∀ k, k < 9 → parseFieldDescriptor (TX0 k).2.2.1 = some (tyX0 k) := by decide +kernel
abbrev cX0_init : ByteArray := prog_2_method_1_code
def yX0_init : MethodName := ⟨RX0, "<init>", "()V"⟩
abbrev cX0_clear : ByteArray := prog_2_method_2_code
def yX0_clear : MethodName := ⟨RX0, "clear", "()V"⟩
abbrev cX0_endRepeat : ByteArray := prog_2_method_4_code
def yX0_endRepeat : MethodName := ⟨RX0, "endRepeat", "()V"⟩
def RX1 : String := "PrintRegister$ErrorLog"
def TX1 : u_T := fun k => match k with
  | 0 => ("PrintRegister$ErrorLog", "places", "[I", true)
  | _ => ("PrintRegister$ErrorLog", "added", "I", false)
def tyX1 : Nat → FieldType := fun k => match k with
  | 0 => .array .int
  | _ => .int
abbrev wsX10 : List Cond := u_ws RX1 TX1 2
theorem nmX1 : ∀ a, a < 2 → ∀ b, b < 2 → a ≠ b → (TX1 a).2.1 ≠ (TX1 b).2.1 := by decide +kernel
theorem tyX1_ok : ∀ k, k < 2 → parseFieldDescriptor (TX1 k).2.2.1 = some (tyX1 k) := by decide +kernel
abbrev cX1_init : ByteArray := prog_3_method_1_code
def yX1_init : MethodName := ⟨RX1, "<init>", "()V"⟩
abbrev cX1_begin : ByteArray := prog_3_method_2_code
def yX1_begin : MethodName := ⟨RX1, "begin", "()V"⟩
abbrev cX1_add : ByteArray := prog_3_method_4_code
def yX1_add : MethodName := ⟨RX1, "add", "(I)V"⟩
abbrev cX1_kept : ByteArray := prog_3_method_5_code
def yX1_kept : MethodName := ⟨RX1, "kept", "(I)I"⟩
abbrev cX1_sizeOf : ByteArray := prog_3_method_6_code
def yX1_sizeOf : MethodName := ⟨RX1, "sizeOf", "(I)I"⟩
abbrev cX1_greatest : ByteArray := prog_3_method_7_code
def yX1_greatest : MethodName := ⟨RX1, "greatest", "(I)I"⟩
abbrev cX1_sumOf : ByteArray := prog_3_method_8_code
def yX1_sumOf : MethodName := ⟨RX1, "sumOf", "(I)I"⟩
abbrev cX1_greaterThan : ByteArray := prog_3_method_9_code
def yX1_greaterThan : MethodName := ⟨RX1, "greaterThan", "(II)I"⟩
def RX2 : String := "PrintRegister$Pad"
def TX2 : u_T := fun k => match k with
  | 0 => ("PrintRegister$Pad", "codes", "[I", true)
  | 1 => ("PrintRegister$Pad", "length", "I", false)
  | 2 => ("PrintRegister$Pad", "at", "I", false)
  | 3 => ("PrintRegister$Pad", "failed", "Z", false)
  | 4 => ("PrintRegister$Pad", "kind", "I", false)
  | 5 => ("PrintRegister$Pad", "unit", "I", false)
  | 6 => ("PrintRegister$Pad", "number", "I", false)
  | 7 => ("PrintRegister$Pad", "duration", "I", false)
  | 8 => ("PrintRegister$Pad", "repeats", "I", false)
  | _ => ("PrintRegister$Pad", "greatestUnit", "I", false)
def tyX2 : Nat → FieldType := fun k => match k with
  | 0 => .array .int
  | 1 => .int
  | 2 => .int
  | 3 => .boolean
  | 4 => .int
  | 5 => .int
  | 6 => .int
  | 7 => .int
  | 8 => .int
  | _ => .int
abbrev wsX20 : List Cond := u_ws RX2 TX2 10
theorem nmX2 : ∀ a, a < 10 → ∀ b, b < 10 → a ≠ b → (TX2 a).2.1 ≠ (TX2 b).2.1 := by decide +kernel
theorem tyX2_ok : ∀ k, k < 10 → parseFieldDescriptor (TX2 k).2.2.1 = some (tyX2 k) := by decide +kernel
abbrev cX2_init : ByteArray := prog_4_method_1_code
def yX2_init : MethodName := ⟨RX2, "<init>", "()V"⟩
def RX3 : String := "PrintRegister$Press"
def TX3 : u_T := fun k => match k with
  | 0 => ("PrintRegister$Press", "units", "[LPrintRegister$Unit;", true)
  | 1 => ("PrintRegister$Press", "changes", "[I", true)
  | 2 => ("PrintRegister$Press", "totals", "[I", true)
  | 3 => ("PrintRegister$Press", "unitCount", "I", false)
  | 4 => ("PrintRegister$Press", "time", "I", false)
  | 5 => ("PrintRegister$Press", "speedNow", "I", false)
  | 6 => ("PrintRegister$Press", "speedBefore", "I", false)
  | 7 => ("PrintRegister$Press", "spliceStart", "I", false)
  | 8 => ("PrintRegister$Press", "spliceAmount", "I", false)
  | _ => ("PrintRegister$Press", "spliceDuration", "I", false)
def tyX3 : Nat → FieldType := fun k => match k with
  | 0 => .array (.object "PrintRegister$Unit")
  | 1 => .array .int
  | 2 => .array .int
  | 3 => .int
  | 4 => .int
  | 5 => .int
  | 6 => .int
  | 7 => .int
  | 8 => .int
  | _ => .int
abbrev wsX30 : List Cond := u_ws RX3 TX3 10
theorem nmX3 : ∀ a, a < 10 → ∀ b, b < 10 → a ≠ b → (TX3 a).2.1 ≠ (TX3 b).2.1 := by decide +kernel
theorem tyX3_ok : ∀ k, k < 10 → parseFieldDescriptor (TX3 k).2.2.1 = some (tyX3 k) := by decide +kernel
abbrev cX3_init : ByteArray := prog_5_method_1_code
def yX3_init : MethodName := ⟨RX3, "<init>", "()V"⟩
abbrev cX3_begin : ByteArray := prog_5_method_2_code
def yX3_begin : MethodName := ⟨RX3, "begin", "(I)V"⟩
abbrev cX3_unitAt : ByteArray := prog_5_method_4_code
def yX3_unitAt : MethodName := ⟨RX3, "unitAt", "(I)LPrintRegister$Unit;"⟩
abbrev cX3_controlledUnitAt : ByteArray := prog_5_method_5_code
def yX3_controlledUnitAt : MethodName := ⟨RX3, "controlledUnitAt", "(I)LPrintRegister$Unit;"⟩
abbrev cX3_wayOf : ByteArray := prog_5_method_6_code
def yX3_wayOf : MethodName := ⟨RX3, "wayOf", "(I)I"⟩
abbrev cX3_startSplice : ByteArray := prog_5_method_7_code
def yX3_startSplice : MethodName := ⟨RX3, "startSplice", "(II)V"⟩
abbrev cX3_repeatsToLastUnit : ByteArray := prog_5_method_8_code
def yX3_repeatsToLastUnit : MethodName := ⟨RX3, "repeatsToLastUnit", "()I"⟩
abbrev cX3_makeRepeat : ByteArray := prog_5_method_11_code
def yX3_makeRepeat : MethodName := ⟨RX3, "makeRepeat", "()V"⟩
abbrev cX3_bringSplice : ByteArray := prog_5_method_12_code
def yX3_bringSplice : MethodName := ⟨RX3, "bringSplice", "()V"⟩
abbrev cX3_watchUnit : ByteArray := prog_5_method_13_code
def yX3_watchUnit : MethodName := ⟨RX3, "watchUnit", "(LPrintRegister$Unit;I)V"⟩
abbrev cX3_control : ByteArray := prog_5_method_14_code
def yX3_control : MethodName := ⟨RX3, "control", "(LPrintRegister$Unit;I)V"⟩
def RX4 : String := "PrintRegister$Printer"
def TX4 : u_T := fun k => match k with
  | 0 => ("PrintRegister$Printer", "offsets", "[I", true)
  | 1 => ("PrintRegister$Printer", "skews", "[I", true)
  | 2 => ("PrintRegister$Printer", "phase", "I", false)
  | 3 => ("PrintRegister$Printer", "skewSetting", "I", false)
  | 4 => ("PrintRegister$Printer", "tilt", "I", false)
  | 5 => ("PrintRegister$Printer", "disturbanceAmount", "I", false)
  | 6 => ("PrintRegister$Printer", "disturbanceDuration", "I", false)
  | _ => ("PrintRegister$Printer", "disturbanceLeft", "I", false)
def tyX4 : Nat → FieldType := fun k => match k with
  | 0 => .array .int
  | 1 => .array .int
  | 2 => .int
  | 3 => .int
  | 4 => .int
  | 5 => .int
  | 6 => .int
  | _ => .int
abbrev wsX40 : List Cond := u_ws RX4 TX4 8
theorem nmX4 : ∀ a, a < 8 → ∀ b, b < 8 → a ≠ b → (TX4 a).2.1 ≠ (TX4 b).2.1 := by decide +kernel
theorem tyX4_ok : ∀ k, k < 8 → parseFieldDescriptor (TX4 k).2.2.1 = some (tyX4 k) := by decide +kernel
abbrev cX4_init : ByteArray := prog_6_method_1_code
def yX4_init : MethodName := ⟨RX4, "<init>", "()V"⟩
abbrev cX4_begin : ByteArray := prog_6_method_2_code
def yX4_begin : MethodName := ⟨RX4, "begin", "()V"⟩
abbrev cX4_byHand : ByteArray := prog_6_method_4_code
def yX4_byHand : MethodName := ⟨RX4, "byHand", "(I)I"⟩
abbrev cX4_changeByHand : ByteArray := prog_6_method_5_code
def yX4_changeByHand : MethodName := ⟨RX4, "changeByHand", "(II)V"⟩
abbrev cX4_beDisturbed : ByteArray := prog_6_method_6_code
def yX4_beDisturbed : MethodName := ⟨RX4, "beDisturbed", "(II)V"⟩
abbrev cX4_disturbance : ByteArray := prog_6_method_7_code
def yX4_disturbance : MethodName := ⟨RX4, "disturbance", "()I"⟩
abbrev cX4_printPiece : ByteArray := prog_6_method_8_code
def yX4_printPiece : MethodName := ⟨RX4, "printPiece", "(II)V"⟩
abbrev cX4_offsetAt : ByteArray := prog_6_method_9_code
def yX4_offsetAt : MethodName := ⟨RX4, "offsetAt", "(I)I"⟩
abbrev cX4_skewAt : ByteArray := prog_6_method_10_code
def yX4_skewAt : MethodName := ⟨RX4, "skewAt", "(I)I"⟩
def RX5 : String := "PrintRegister$Sensor"
def TX5 : u_T := fun k => match k with
  | 0 => ("PrintRegister$Sensor", "log", "LPrintRegister$ErrorLog;", true)
  | 1 => ("PrintRegister$Sensor", "hiddenLeft", "I", false)
  | 2 => ("PrintRegister$Sensor", "falseOffset", "I", false)
  | 3 => ("PrintRegister$Sensor", "falseLeft", "I", false)
  | 4 => ("PrintRegister$Sensor", "sawPiece", "Z", false)
  | 5 => ("PrintRegister$Sensor", "trueError", "I", false)
  | 6 => ("PrintRegister$Sensor", "trueSkew", "I", false)
  | 7 => ("PrintRegister$Sensor", "recognized", "I", false)
  | 8 => ("PrintRegister$Sensor", "offset", "I", false)
  | _ => ("PrintRegister$Sensor", "skew", "I", false)
def tyX5 : Nat → FieldType := fun k => match k with
  | 0 => .object "PrintRegister$ErrorLog"
  | 1 => .int
  | 2 => .int
  | 3 => .int
  | 4 => .boolean
  | 5 => .int
  | 6 => .int
  | 7 => .int
  | 8 => .int
  | _ => .int
abbrev wsX50 : List Cond := u_ws RX5 TX5 10
theorem nmX5 : ∀ a, a < 10 → ∀ b, b < 10 → a ≠ b → (TX5 a).2.1 ≠ (TX5 b).2.1 := by decide +kernel
theorem tyX5_ok : ∀ k, k < 10 → parseFieldDescriptor (TX5 k).2.2.1 = some (tyX5 k) := by decide +kernel
abbrev cX5_init : ByteArray := prog_7_method_1_code
def yX5_init : MethodName := ⟨RX5, "<init>", "()V"⟩
abbrev cX5_begin : ByteArray := prog_7_method_2_code
def yX5_begin : MethodName := ⟨RX5, "begin", "()V"⟩
abbrev cX5_seeNothing : ByteArray := prog_7_method_4_code
def yX5_seeNothing : MethodName := ⟨RX5, "seeNothing", "()V"⟩
abbrev cX5_seePiece : ByteArray := prog_7_method_5_code
def yX5_seePiece : MethodName := ⟨RX5, "seePiece", "(II)V"⟩
abbrev cX5_recognizeNear : ByteArray := prog_7_method_6_code
def yX5_recognizeNear : MethodName := ⟨RX5, "recognizeNear", "(III)V"⟩
abbrev cX5_sight : ByteArray := prog_7_method_7_code
def yX5_sight : MethodName := ⟨RX5, "sight", "(I)I"⟩
def RX6 : String := "PrintRegister$Slot"
def TX6 : u_T := fun k => match k with
  | 0 => ("PrintRegister$Slot", "saved", "LPrintRegister$Press;", true)
  | _ => ("PrintRegister$Slot", "isUsed", "Z", false)
def tyX6 : Nat → FieldType := fun k => match k with
  | 0 => .object "PrintRegister$Press"
  | _ => .boolean
abbrev wsX60 : List Cond := u_ws RX6 TX6 2
theorem nmX6 : ∀ a, a < 2 → ∀ b, b < 2 → a ≠ b → (TX6 a).2.1 ≠ (TX6 b).2.1 := by decide +kernel
theorem tyX6_ok : ∀ k, k < 2 → parseFieldDescriptor (TX6 k).2.2.1 = some (tyX6 k) := by decide +kernel
abbrev cX6_init : ByteArray := prog_8_method_1_code
def yX6_init : MethodName := ⟨RX6, "<init>", "()V"⟩
def RX7 : String := "PrintRegister$Unit"
def TX7 : u_T := fun k => match k with
  | 0 => ("PrintRegister$Unit", "settings", "[I", true)
  | 1 => ("PrintRegister$Unit", "printer", "LPrintRegister$Printer;", true)
  | 2 => ("PrintRegister$Unit", "controller", "LPrintRegister$Controller;", true)
  | _ => ("PrintRegister$Unit", "sensor", "LPrintRegister$Sensor;", true)
def tyX7 : Nat → FieldType := fun k => match k with
  | 0 => .array .int
  | 1 => .object "PrintRegister$Printer"
  | 2 => .object "PrintRegister$Controller"
  | _ => .object "PrintRegister$Sensor"
abbrev wsX70 : List Cond := u_ws RX7 TX7 4
theorem nmX7 : ∀ a, a < 4 → ∀ b, b < 4 → a ≠ b → (TX7 a).2.1 ≠ (TX7 b).2.1 := by decide +kernel
theorem tyX7_ok : ∀ k, k < 4 → parseFieldDescriptor (TX7 k).2.2.1 = some (tyX7 k) := by decide +kernel
abbrev cX7_init : ByteArray := prog_9_method_1_code
def yX7_init : MethodName := ⟨RX7, "<init>", "()V"⟩
abbrev cX7_begin : ByteArray := prog_9_method_2_code
def yX7_begin : MethodName := ⟨RX7, "begin", "()V"⟩
abbrev cX7_setting : ByteArray := prog_9_method_4_code
def yX7_setting : MethodName := ⟨RX7, "setting", "(I)I"⟩
abbrev cX7_changeSetting : ByteArray := prog_9_method_5_code
def yX7_changeSetting : MethodName := ⟨RX7, "changeSetting", "(II)V"⟩
abbrev cX7_beSpliced : ByteArray := prog_9_method_6_code
def yX7_beSpliced : MethodName := ⟨RX7, "beSpliced", "(II)V"⟩
abbrev cX7_printPiece : ByteArray := prog_9_method_7_code
def yX7_printPiece : MethodName := ⟨RX7, "printPiece", "(II)V"⟩
abbrev cX7_recognizeMark : ByteArray := prog_9_method_8_code
def yX7_recognizeMark : MethodName := ⟨RX7, "recognizeMark", "()Z"⟩
abbrev cX7_window : ByteArray := prog_9_method_9_code
def yX7_window : MethodName := ⟨RX7, "window", "()I"⟩
abbrev cX7_learnFrom : ByteArray := prog_9_method_10_code
def yX7_learnFrom : MethodName := ⟨RX7, "learnFrom", "(I)Z"⟩
abbrev cX7_expectAsMeasured : ByteArray := prog_9_method_11_code
def yX7_expectAsMeasured : MethodName := ⟨RX7, "expectAsMeasured", "()V"⟩
abbrev cX7_isOff : ByteArray := prog_9_method_12_code
def yX7_isOff : MethodName := ⟨RX7, "isOff", "(I)Z"⟩
abbrev cX7_correctPhase : ByteArray := prog_9_method_13_code
def yX7_correctPhase : MethodName := ⟨RX7, "correctPhase", "()I"⟩
abbrev cX7_correctSkew : ByteArray := prog_9_method_14_code
def yX7_correctSkew : MethodName := ⟨RX7, "correctSkew", "()I"⟩
abbrev cX7_endRepeat : ByteArray := prog_9_method_15_code
def yX7_endRepeat : MethodName := ⟨RX7, "endRepeat", "()V"⟩
def RX8 : String := "PrintRegister"
def TX8 : u_T := fun k => match k with
  | 0 => ("PrintRegister", "press", "LPrintRegister$Press;", true)
  | 1 => ("PrintRegister", "copy", "LPrintRegister$Press;", true)
  | 2 => ("PrintRegister", "slot0", "LPrintRegister$Slot;", true)
  | 3 => ("PrintRegister", "slot1", "LPrintRegister$Slot;", true)
  | _ => ("PrintRegister", "pad", "LPrintRegister$Pad;", true)
def tyX8 : Nat → FieldType := fun k => match k with
  | 0 => .object "PrintRegister$Press"
  | 1 => .object "PrintRegister$Press"
  | 2 => .object "PrintRegister$Slot"
  | 3 => .object "PrintRegister$Slot"
  | _ => .object "PrintRegister$Pad"
abbrev wsX80 : List Cond := u_ws RX8 TX8 5
theorem nmX8 : ∀ a, a < 5 → ∀ b, b < 5 → a ≠ b → (TX8 a).2.1 ≠ (TX8 b).2.1 := by decide +kernel
theorem tyX8_ok : ∀ k, k < 5 → parseFieldDescriptor (TX8 k).2.2.1 = some (tyX8 k) := by decide +kernel
abbrev cX8_init : ByteArray := prog_1_method_1_code
def yX8_init : MethodName := ⟨RX8, "<init>", "()V"⟩
abbrev cX8_setUp : ByteArray := prog_1_method_2_code
def yX8_setUp : MethodName := ⟨RX8, "setUp", "(I)I"⟩
abbrev cX8_set : ByteArray := prog_1_method_3_code
def yX8_set : MethodName := ⟨RX8, "set", "(III)I"⟩
abbrev cX8_get : ByteArray := prog_1_method_4_code
def yX8_get : MethodName := ⟨RX8, "get", "(II)I"⟩
abbrev cX8_adjust : ByteArray := prog_1_method_5_code
def yX8_adjust : MethodName := ⟨RX8, "adjust", "(III)I"⟩
abbrev cX8_speed : ByteArray := prog_1_method_7_code
def yX8_speed : MethodName := ⟨RX8, "speed", "(I)I"⟩
abbrev cX8_disturb : ByteArray := prog_1_method_8_code
def yX8_disturb : MethodName := ⟨RX8, "disturb", "(III)I"⟩
abbrev cX8_hide : ByteArray := prog_1_method_9_code
def yX8_hide : MethodName := ⟨RX8, "hide", "(II)I"⟩
abbrev cX8_falseMark : ByteArray := prog_1_method_10_code
def yX8_falseMark : MethodName := ⟨RX8, "falseMark", "(III)I"⟩
abbrev cX8_splice : ByteArray := prog_1_method_11_code
def yX8_splice : MethodName := ⟨RX8, "splice", "(II)I"⟩
abbrev cX8_run : ByteArray := prog_1_method_12_code
def yX8_run : MethodName := ⟨RX8, "run", "(I)I"⟩
abbrev cX8_seen : ByteArray := prog_1_method_13_code
def yX8_seen : MethodName := ⟨RX8, "seen", "(II)I"⟩
abbrev cX8_state : ByteArray := prog_1_method_14_code
def yX8_state : MethodName := ⟨RX8, "state", "(II)I"⟩
abbrev cX8_errors : ByteArray := prog_1_method_15_code
def yX8_errors : MethodName := ⟨RX8, "errors", "(III)I"⟩
abbrev cX8_total : ByteArray := prog_1_method_16_code
def yX8_total : MethodName := ⟨RX8, "total", "(I)I"⟩
abbrev cX8_count : ByteArray := prog_1_method_24_code
def yX8_count : MethodName := ⟨RX8, "count", "(I)I"⟩
abbrev cX8_isOutside : ByteArray := prog_1_method_30_code
def yX8_isOutside : MethodName := ⟨RX8, "isOutside", "(III)Z"⟩
abbrev cX8_isSettingValue : ByteArray := prog_1_method_31_code
def yX8_isSettingValue : MethodName := ⟨RX8, "isSettingValue", "(II)Z"⟩
abbrev cX8_isPlace : ByteArray := prog_1_method_32_code
def yX8_isPlace : MethodName := ⟨RX8, "isPlace", "(I)Z"⟩
abbrev cX8_isDisturbance : ByteArray := prog_1_method_33_code
def yX8_isDisturbance : MethodName := ⟨RX8, "isDisturbance", "(II)Z"⟩
abbrev cX8_limited : ByteArray := prog_1_method_34_code
def yX8_limited : MethodName := ⟨RX8, "limited", "(II)I"⟩
abbrev cX8_lessOne : ByteArray := prog_1_method_35_code
def yX8_lessOne : MethodName := ⟨RX8, "lessOne", "(I)I"⟩
def RX9 : String := "PrintRegisterModel"
def TX9 : u_T := fun k => match k with
  | _ => ("", "", "", false)
def tyX9 : Nat → FieldType := fun k => match k with
  | _ => .int
abbrev wsX90 : List Cond := u_ws RX9 TX9 0
theorem nmX9 : ∀ a, a < 0 → ∀ b, b < 0 → a ≠ b → (TX9 a).2.1 ≠ (TX9 b).2.1 := by decide +kernel
theorem tyX9_ok : ∀ k, k < 0 → parseFieldDescriptor (TX9 k).2.2.1 = some (tyX9 k) := by decide +kernel
def RJ9 : String := "java/lang/Math"
def TJ9 : u_T := fun k => match k with
  | _ => ("", "", "", false)
def tyJ9 : Nat → FieldType := fun k => match k with
  | _ => .int
abbrev wsJ90 : List Cond := u_ws RJ9 TJ9 0
theorem nmJ9 : ∀ a, a < 0 → ∀ b, b < 0 → a ≠ b → (TJ9 a).2.1 ≠ (TJ9 b).2.1 := by decide +kernel
theorem tyJ9_ok : ∀ k, k < 0 → parseFieldDescriptor (TJ9 k).2.2.1 = some (tyJ9 k) := by decide +kernel
abbrev cJ9_abs_0f7a4 : ByteArray := prog_12_method_59_code
def yJ9_abs_0f7a4 : MethodName := ⟨RJ9, "abs", "(I)I"⟩
abbrev cJ9_max_7cf53 : ByteArray := prog_12_method_65_code
def yJ9_max_7cf53 : MethodName := ⟨RJ9, "max", "(II)I"⟩
abbrev cJ9_min_7cf53 : ByteArray := prog_12_method_69_code
def yJ9_min_7cf53 : MethodName := ⟨RJ9, "min", "(II)I"⟩
def RL : String := "PrintRegisterLaw"
abbrev cL_cell : ByteArray := method_2_code
def yL_cell : MethodName := ⟨RL, "cell", "([III)I"⟩
abbrev cL_limited : ByteArray := method_3_code
def yL_limited : MethodName := ⟨RL, "limited", "(II)I"⟩
abbrev cL_size : ByteArray := method_4_code
def yL_size : MethodName := ⟨RL, "size", "(I)I"⟩
abbrev cL_lay : ByteArray := method_5_code
def yL_lay : MethodName := ⟨RL, "lay", "(LPrintRegister;I[I)V"⟩
abbrev cL_value : ByteArray := method_6_code
def yL_value : MethodName := ⟨RL, "value", "([I[I)I"⟩
abbrev cL_isPrinted : ByteArray := method_7_code
def yL_isPrinted : MethodName := ⟨RL, "isPrinted", "(LPrintRegister;I[I[I[I[III)Z"⟩
abbrev cL_isSeen : ByteArray := method_8_code
def yL_isSeen : MethodName := ⟨RL, "isSeen", "(LPrintRegister;I[I[IIII)Z"⟩
abbrev cL_isPassed : ByteArray := method_9_code
def yL_isPassed : MethodName := ⟨RL, "isPassed", "(LPrintRegister;I[I[I)Z"⟩
abbrev cL_settings : ByteArray := method_10_code
def yL_settings : MethodName := ⟨RL, "settings", "(LPrintRegister;[III)V"⟩
abbrev cL_law : ByteArray := code
def yL_law : MethodName := ⟨RL, "law", "([I)Z"⟩
abbrev cL_comes : ByteArray := method_12_code
def yL_comes : MethodName := ⟨RL, "comes", "(LPrintRegister;I[I[III)V"⟩
-- ===== the words of the tables, in one list; a row for each =====
def pr_A0 : List Cond := [.code yX0_init cX0_init 1 none, .methodLink RX0 1 objectInit, .instanceMethod objectInit, .code objectInit ⟨#[0xb1]⟩ 1 none, .code yX0_clear cX0_clear 1 none, .fieldLink RX0 7 "PrintRegister$Controller" "feed" "I", .fieldLink RX0 13 "PrintRegister$Controller" "sum" "I", .fieldLink RX0 16 "PrintRegister$Controller" "wait" "I", .fieldLink RX0 19 "PrintRegister$Controller" "misses" "I", .fieldLink RX0 22 "PrintRegister$Controller" "readyTime" "I", .fieldLink RX0 25 "PrintRegister$Controller" "expectedError" "I", .fieldLink RX0 28 "PrintRegister$Controller" "expectedSkew" "I", .fieldLink RX0 31 "PrintRegister$Controller" "addedPhase" "I", .fieldLink RX0 34 "PrintRegister$Controller" "addedSkew" "I", .code yX8_lessOne cX8_lessOne 1 (some .int), .code yX0_endRepeat cX0_endRepeat 1 none, .static yX8_lessOne, .initialized RX8, .code yX1_init cX1_init 1 none, .methodLink RX1 3 objectInit, .arrayClass .int, .fieldLink RX1 9 "PrintRegister$ErrorLog" "places" "[I", .code yX1_begin cX1_begin 1 none, .fieldLink RX1 15 "PrintRegister$ErrorLog" "added" "I", .code yX1_add cX1_add 2 none, .code yX1_kept cX1_kept 2 (some .int), .methodLink RX1 25 Lib.Math.min.name, .static Lib.Math.min.name, .initialized "java/lang/Math", .code Lib.Math.min.name Lib.Math.min.code 2 (some .int), .code yX1_sizeOf cX1_sizeOf 2 (some .int), .methodLink RX1 31 Lib.Math.abs.name, .static Lib.Math.abs.name, .code Lib.Math.abs.name Lib.Math.abs.code 1 (some .int), .code yX1_greatest cX1_greatest 4 (some .int), .methodLink RX1 41 Lib.Math.max.name, .static Lib.Math.max.name, .code Lib.Math.max.name Lib.Math.max.code 2 (some .int), .methodLink RX1 35 yX1_kept, .instanceMethod yX1_kept]
def pr_A1 : List Cond := [.selects RX1 yX1_kept yX1_kept, .initialized RX1, .methodLink RX1 38 yX1_sizeOf, .instanceMethod yX1_sizeOf, .selects RX1 yX1_sizeOf yX1_sizeOf, .code yX1_sumOf cX1_sumOf 4 (some .int), .code yX1_greaterThan cX1_greaterThan 5 (some .int), .code yX2_init cX2_init 1 none, .methodLink RX2 3 objectInit, .fieldLink RX2 9 "PrintRegister$Pad" "codes" "[I", .code yX4_init cX4_init 1 none, .methodLink RX4 3 objectInit, .fieldLink RX4 9 "PrintRegister$Printer" "offsets" "[I", .fieldLink RX4 15 "PrintRegister$Printer" "skews" "[I", .code yX5_init cX5_init 1 none, .methodLink RX5 3 objectInit, .classLink RX5 9 RX1, .instantiable RX1 2, .fieldLink RX5 12 "PrintRegister$Sensor" "log" "LPrintRegister$ErrorLog;", .instanceMethod yX1_init, .methodLink RX7 3 objectInit, .fieldLink RX7 9 "PrintRegister$Unit" "settings" "[I", .classLink RX7 15 RX4, .instantiable RX4 8, .initialized RX4, .fieldLink RX7 18 "PrintRegister$Unit" "printer" "LPrintRegister$Printer;", .classLink RX7 22 RX0, .instantiable RX0 9, .initialized RX0, .fieldLink RX7 25 "PrintRegister$Unit" "controller" "LPrintRegister$Controller;", .classLink RX7 29 RX5, .instantiable RX5 10, .initialized RX5, .fieldLink RX7 32 "PrintRegister$Unit" "sensor" "LPrintRegister$Sensor;", .instanceMethod yX4_init, .instanceMethod yX0_init, .instanceMethod yX5_init, .code yX7_init cX7_init 1 none, .methodLink RX3 3 objectInit, .classLink RX3 9 RX7]
def pr_A2 : List Cond := [.fieldLink RX3 11 "PrintRegister$Press" "units" "[LPrintRegister$Unit;", .fieldLink RX3 17 "PrintRegister$Press" "changes" "[I", .fieldLink RX3 21 "PrintRegister$Press" "totals" "[I", .instantiable RX7 4, .initialized RX7, .instanceMethod yX7_init, .code yX3_init cX3_init 2 none, .code yX4_begin cX4_begin 1 none, .fieldLink RX4 18 "PrintRegister$Printer" "phase" "I", .fieldLink RX4 22 "PrintRegister$Printer" "skewSetting" "I", .fieldLink RX4 25 "PrintRegister$Printer" "tilt" "I", .fieldLink RX4 28 "PrintRegister$Printer" "disturbanceAmount" "I", .fieldLink RX4 31 "PrintRegister$Printer" "disturbanceDuration" "I", .fieldLink RX4 34 "PrintRegister$Printer" "disturbanceLeft" "I", .code yX5_seeNothing cX5_seeNothing 1 none, .fieldLink RX5 50 "PrintRegister$Sensor" "sawPiece" "Z", .fieldLink RX5 54 "PrintRegister$Sensor" "recognized" "I", .code yX5_begin cX5_begin 1 none, .fieldLink RX5 21 "PrintRegister$Sensor" "hiddenLeft" "I", .fieldLink RX5 25 "PrintRegister$Sensor" "falseOffset" "I", .fieldLink RX5 28 "PrintRegister$Sensor" "falseLeft" "I", .fieldLink RX5 34 "PrintRegister$Sensor" "trueError" "I", .fieldLink RX5 37 "PrintRegister$Sensor" "trueSkew" "I", .fieldLink RX5 40 "PrintRegister$Sensor" "offset" "I", .fieldLink RX5 43 "PrintRegister$Sensor" "skew" "I", .methodLink RX5 18 yX1_begin, .instanceMethod yX1_begin, .selects RX1 yX1_begin yX1_begin, .methodLink RX5 31 yX5_seeNothing, .instanceMethod yX5_seeNothing, .selects RX5 yX5_seeNothing yX5_seeNothing, .methodLink RX7 39 yX4_begin, .instanceMethod yX4_begin, .selects RX4 yX4_begin yX4_begin, .methodLink RX7 42 yX0_clear, .instanceMethod yX0_clear, .selects RX0 yX0_clear yX0_clear, .methodLink RX7 45 yX5_begin, .instanceMethod yX5_begin, .selects RX5 yX5_begin yX5_begin]
def pr_A3 : List Cond := [.code yX7_begin cX7_begin 2 none, .fieldLink RX3 25 "PrintRegister$Press" "unitCount" "I", .fieldLink RX3 29 "PrintRegister$Press" "time" "I", .fieldLink RX3 32 "PrintRegister$Press" "speedNow" "I", .fieldLink RX3 35 "PrintRegister$Press" "speedBefore" "I", .fieldLink RX3 38 "PrintRegister$Press" "spliceStart" "I", .fieldLink RX3 41 "PrintRegister$Press" "spliceAmount" "I", .fieldLink RX3 44 "PrintRegister$Press" "spliceDuration" "I", .methodLink RX3 47 yX7_begin, .instanceMethod yX7_begin, .selects RX7 yX7_begin yX7_begin, .code yX3_begin cX3_begin 3 none, .code yX3_unitAt cX3_unitAt 2 (some (.object "PrintRegister$Unit")), .code yX3_controlledUnitAt cX3_controlledUnitAt 2 (some (.object "PrintRegister$Unit")), .methodLink RX3 60 yX3_unitAt, .instanceMethod yX3_unitAt, .selects RX3 yX3_unitAt yX3_unitAt, .initialized RX3, .code yX7_setting cX7_setting 2 (some .int), .code yX3_wayOf cX3_wayOf 4 (some .int), .methodLink RX3 64 yX7_setting, .instanceMethod yX7_setting, .selects RX7 yX7_setting yX7_setting, .code yX3_startSplice cX3_startSplice 3 none, .code yX3_repeatsToLastUnit cX3_repeatsToLastUnit 1 (some .int), .methodLink RX3 71 Lib.Math.max.name, .methodLink RX3 68 yX3_wayOf, .instanceMethod yX3_wayOf, .selects RX3 yX3_wayOf yX3_wayOf, .code yX4_beDisturbed cX4_beDisturbed 3 none, .code yX7_beSpliced cX7_beSpliced 3 none, .methodLink RX7 62 yX4_beDisturbed, .instanceMethod yX4_beDisturbed, .selects RX4 yX4_beDisturbed yX4_beDisturbed, .methodLink RX7 70 yX7_setting, .methodLink RX3 116 yX7_beSpliced, .instanceMethod yX7_beSpliced, .selects RX7 yX7_beSpliced yX7_beSpliced, .code yX3_bringSplice cX3_bringSplice 3 none, .code yX4_disturbance cX4_disturbance 1 (some .int)]
def pr_A4 : List Cond := [.code yX4_printPiece cX4_printPiece 3 none, .methodLink RX4 43 yX4_disturbance, .instanceMethod yX4_disturbance, .selects RX4 yX4_disturbance yX4_disturbance, .methodLink RX7 80 yX4_printPiece, .instanceMethod yX4_printPiece, .selects RX4 yX4_printPiece yX4_printPiece, .code yX7_printPiece cX7_printPiece 3 none, .code yX4_offsetAt cX4_offsetAt 2 (some .int), .code yX4_skewAt cX4_skewAt 2 (some .int), .code yX5_seePiece cX5_seePiece 3 none, .methodLink RX5 57 yX1_add, .instanceMethod yX1_add, .selects RX1 yX1_add yX1_add, .code yX7_window cX7_window 2 (some .int), .code yX5_recognizeNear cX5_recognizeNear 8 none, .methodLink RX5 61 Lib.Math.abs.name, .methodLink RX7 89 yX7_window, .instanceMethod yX7_window, .selects RX7 yX7_window yX7_window, .methodLink RX7 93 yX5_recognizeNear, .instanceMethod yX5_recognizeNear, .selects RX5 yX5_recognizeNear yX5_recognizeNear, .code yX7_recognizeMark cX7_recognizeMark 2 (some .boolean), .code yX8_limited cX8_limited 2 (some .int), .code yX7_learnFrom cX7_learnFrom 4 (some .boolean), .methodLink RX7 103 Lib.Math.abs.name, .static yX8_limited, .code yX7_expectAsMeasured cX7_expectAsMeasured 1 none, .code yX7_isOff cX7_isOff 2 (some .boolean), .code yX7_correctPhase cX7_correctPhase 4 (some .int), .code yX7_correctSkew cX7_correctSkew 3 (some .int), .methodLink RX3 147 yX7_learnFrom, .instanceMethod yX7_learnFrom, .selects RX7 yX7_learnFrom yX7_learnFrom, .methodLink RX3 151 yX7_expectAsMeasured, .instanceMethod yX7_expectAsMeasured, .selects RX7 yX7_expectAsMeasured yX7_expectAsMeasured, .methodLink RX3 166 yX7_isOff, .instanceMethod yX7_isOff]
def pr_A5 : List Cond := [.selects RX7 yX7_isOff yX7_isOff, .methodLink RX3 172 yX7_correctPhase, .instanceMethod yX7_correctPhase, .selects RX7 yX7_correctPhase yX7_correctPhase, .methodLink RX3 179 yX7_correctSkew, .instanceMethod yX7_correctSkew, .selects RX7 yX7_correctSkew yX7_correctSkew, .code yX3_control cX3_control 5 none, .methodLink RX3 119 yX5_seeNothing, .methodLink RX3 126 yX4_offsetAt, .instanceMethod yX4_offsetAt, .selects RX4 yX4_offsetAt yX4_offsetAt, .methodLink RX3 131 yX4_skewAt, .instanceMethod yX4_skewAt, .selects RX4 yX4_skewAt yX4_skewAt, .methodLink RX3 134 yX5_seePiece, .instanceMethod yX5_seePiece, .selects RX5 yX5_seePiece yX5_seePiece, .methodLink RX3 137 yX7_recognizeMark, .instanceMethod yX7_recognizeMark, .selects RX7 yX7_recognizeMark yX7_recognizeMark, .methodLink RX3 144 yX3_control, .instanceMethod yX3_control, .selects RX3 yX3_control yX3_control, .code yX3_watchUnit cX3_watchUnit 6 none, .code yX7_endRepeat cX7_endRepeat 1 none, .methodLink RX7 124 yX0_endRepeat, .instanceMethod yX0_endRepeat, .selects RX0 yX0_endRepeat yX0_endRepeat, .methodLink RX3 103 yX3_bringSplice, .instanceMethod yX3_bringSplice, .selects RX3 yX3_bringSplice yX3_bringSplice, .methodLink RX3 106 yX7_printPiece, .instanceMethod yX7_printPiece, .selects RX7 yX7_printPiece yX7_printPiece, .methodLink RX3 109 yX3_watchUnit, .instanceMethod yX3_watchUnit, .selects RX3 yX3_watchUnit yX3_watchUnit, .methodLink RX3 113 yX7_endRepeat, .instanceMethod yX7_endRepeat]
def pr_A6 : List Cond := [.selects RX7 yX7_endRepeat yX7_endRepeat, .code yX3_makeRepeat cX3_makeRepeat 4 none, .code yX4_byHand cX4_byHand 2 (some .int), .code yX4_changeByHand cX4_changeByHand 3 none, .code yX5_sight cX5_sight 2 (some .int), .methodLink RX6 1 objectInit, .classLink RX6 7 RX3, .instantiable RX3 10, .fieldLink RX6 10 "PrintRegister$Slot" "saved" "LPrintRegister$Press;", .methodLink RX6 9 yX3_init, .instanceMethod yX3_init, .code yX6_init cX6_init 1 none, .code yX7_changeSetting cX7_changeSetting 3 none, .methodLink RX8 1 objectInit, .classLink RX8 7 RX3, .fieldLink RX8 10 "PrintRegister" "press" "LPrintRegister$Press;", .fieldLink RX8 16 "PrintRegister" "copy" "LPrintRegister$Press;", .classLink RX8 19 RX6, .instantiable RX6 2, .initialized RX6, .fieldLink RX8 22 "PrintRegister" "slot0" "LPrintRegister$Slot;", .fieldLink RX8 26 "PrintRegister" "slot1" "LPrintRegister$Slot;", .classLink RX8 29 RX2, .instantiable RX2 10, .initialized RX2, .fieldLink RX8 32 "PrintRegister" "pad" "LPrintRegister$Pad;", .methodLink RX8 9 yX3_init, .instanceMethod yX6_init, .instanceMethod yX2_init, .methodLink RX8 36 yX3_begin, .instanceMethod yX3_begin, .selects RX3 yX3_begin yX3_begin, .code yX8_init cX8_init 1 none, .code yX8_isOutside cX8_isOutside 3 (some .boolean), .constant RX8 44 (-1000000002), .methodLink RX8 40 yX8_isOutside, .static yX8_isOutside, .code yX8_setUp cX8_setUp 3 (some .int), .code yX8_isSettingValue cX8_isSettingValue 2 (some .boolean), .fieldLink RX8 280 "PrintRegister" "LEAST_SETTINGS" "[I"]
def pr_A7 : List Cond := [.fieldLink RX8 283 "PrintRegister" "GREATEST_SETTINGS" "[I", .code yX8_isPlace cX8_isPlace 1 (some .boolean), .constant RX8 53 (-1000000001), .constant RX8 62 (-1000000005), .methodLink RX8 49 yX3_unitAt, .methodLink RX8 54 yX8_isSettingValue, .static yX8_isSettingValue, .methodLink RX8 58 yX8_isPlace, .static yX8_isPlace, .methodLink RX8 63 yX7_setting, .methodLink RX8 69 yX7_changeSetting, .instanceMethod yX7_changeSetting, .selects RX7 yX7_changeSetting yX7_changeSetting, .code yX8_set cX8_set 6 (some .int), .code yX8_get cX8_get 4 (some .int), .fieldLink RX8 73 "PrintRegister" "MOST_BY_HAND" "[I", .methodLink RX8 81 yX4_byHand, .instanceMethod yX4_byHand, .selects RX4 yX4_byHand yX4_byHand, .methodLink RX8 86 yX4_changeByHand, .instanceMethod yX4_changeByHand, .selects RX4 yX4_changeByHand yX4_changeByHand, .code yX8_adjust cX8_adjust 6 (some .int), .code yX8_speed cX8_speed 3 (some .int), .code yX8_isDisturbance cX8_isDisturbance 2 (some .boolean), .methodLink RX8 104 yX8_isDisturbance, .static yX8_isDisturbance, .methodLink RX8 107 yX4_beDisturbed, .code yX8_disturb cX8_disturb 5 (some .int), .code yX8_hide cX8_hide 5 (some .int), .code yX8_falseMark cX8_falseMark 6 (some .int), .methodLink RX8 125 yX3_startSplice, .instanceMethod yX3_startSplice, .selects RX3 yX3_startSplice yX3_startSplice, .methodLink RX8 128 yX3_repeatsToLastUnit, .instanceMethod yX3_repeatsToLastUnit, .selects RX3 yX3_repeatsToLastUnit yX3_repeatsToLastUnit, .code yX8_splice cX8_splice 3 (some .int), .constant RX8 132 (100000), .methodLink RX8 133 yX3_makeRepeat]
def pr_A8 : List Cond := [.instanceMethod yX3_makeRepeat, .selects RX3 yX3_makeRepeat yX3_makeRepeat, .code yX8_run cX8_run 3 (some .int), .constant RX8 152 (-1000000006), .methodLink RX8 136 yX4_offsetAt, .methodLink RX8 139 yX4_skewAt, .methodLink RX8 149 yX5_sight, .instanceMethod yX5_sight, .selects RX5 yX5_sight yX5_sight, .code yX8_seen cX8_seen 6 (some .int), .methodLink RX8 174 yX3_wayOf, .code yX8_state cX8_state 4 (some .int), .methodLink RX8 177 yX3_controlledUnitAt, .instanceMethod yX3_controlledUnitAt, .selects RX3 yX3_controlledUnitAt yX3_controlledUnitAt, .methodLink RX8 184 yX1_greatest, .instanceMethod yX1_greatest, .selects RX1 yX1_greatest yX1_greatest, .methodLink RX8 189 yX1_sumOf, .instanceMethod yX1_sumOf, .selects RX1 yX1_sumOf yX1_sumOf, .methodLink RX8 192 yX1_kept, .methodLink RX8 195 yX1_greaterThan, .instanceMethod yX1_greaterThan, .selects RX1 yX1_greaterThan yX1_greaterThan, .code yX8_errors cX8_errors 6 (some .int), .code yX8_total cX8_total 2 (some .int), .code yX8_count cX8_count 2 (some .int), .code yJ9_abs_0f7a4 cJ9_abs_0f7a4 1 (some .int), .code yJ9_max_7cf53 cJ9_max_7cf53 2 (some .int), .code yJ9_min_7cf53 cJ9_min_7cf53 2 (some .int), .code yL_cell cL_cell 3 (some .int), .constant RL 7 (4194303), .code yL_limited cL_limited 2 (some .int), .code yL_size cL_size 1 (some .int), .methodLink RL 8 yX8_state, .instanceMethod yX8_state, .selects RX8 yX8_state yX8_state, .code yL_lay cL_lay 4 none, .code yL_value cL_value 2 (some .int)]
def pr_A9 : List Cond := [.methodLink RL 16 yL_value, .static yL_value, .initialized RL, .methodLink RL 20 yX8_get, .instanceMethod yX8_get, .selects RX8 yX8_get yX8_get, .methodLink RL 23 yX8_seen, .instanceMethod yX8_seen, .selects RX8 yX8_seen yX8_seen, .code yL_isPrinted cL_isPrinted 8 (some .boolean), .constant RL 30 (-1000000006), .methodLink RL 26 yL_size, .static yL_size, .methodLink RL 31 yL_limited, .static yL_limited, .code yL_isSeen cL_isSeen 21 (some .boolean), .code yL_isPassed cL_isPassed 5 (some .boolean), .methodLink RL 34 yL_cell, .static yL_cell, .methodLink RL 38 yX8_set, .instanceMethod yX8_set, .selects RX8 yX8_set yX8_set, .methodLink RL 42 yX8_adjust, .instanceMethod yX8_adjust, .selects RX8 yX8_adjust yX8_adjust, .code yL_settings cL_settings 4 none, .code yL_comes cL_comes 6 none, .classLink RL 9 RX8, .instantiable RX8 5, .constant RL 100 (-1000000001), .methodLink RL 45 yX8_init, .instanceMethod yX8_init, .methodLink RL 46 yX8_setUp, .instanceMethod yX8_setUp, .selects RX8 yX8_setUp yX8_setUp, .methodLink RL 49 yL_settings, .static yL_settings, .methodLink RL 53 yX8_speed, .instanceMethod yX8_speed, .selects RX8 yX8_speed yX8_speed]
def pr_A10 : List Cond := [.methodLink RL 56 yX8_disturb, .instanceMethod yX8_disturb, .selects RX8 yX8_disturb yX8_disturb, .methodLink RL 59 yX8_hide, .instanceMethod yX8_hide, .selects RX8 yX8_hide yX8_hide, .methodLink RL 62 yX8_falseMark, .instanceMethod yX8_falseMark, .selects RX8 yX8_falseMark yX8_falseMark, .methodLink RL 65 yX8_splice, .instanceMethod yX8_splice, .selects RX8 yX8_splice yX8_splice, .methodLink RL 68 yL_lay, .static yL_lay, .methodLink RL 72 yX8_count, .instanceMethod yX8_count, .selects RX8 yX8_count yX8_count, .methodLink RL 75 yL_comes, .static yL_comes, .methodLink RL 79 yX8_run, .instanceMethod yX8_run, .selects RX8 yX8_run yX8_run, .methodLink RL 82 yL_isPrinted, .static yL_isPrinted, .methodLink RL 86 yL_isSeen, .static yL_isSeen, .methodLink RL 90 yL_isPassed, .static yL_isPassed, .methodLink RL 94 yX8_errors, .instanceMethod yX8_errors, .selects RX8 yX8_errors yX8_errors, .methodLink RL 97 yX8_total, .instanceMethod yX8_total, .selects RX8 yX8_total yX8_total]
def pr_AL : List Cond := pr_A0 ++ (pr_A1 ++ (pr_A2 ++ (pr_A3 ++ (pr_A4 ++ (pr_A5 ++ (pr_A6 ++ (pr_A7 ++ (pr_A8 ++ (pr_A9 ++ (pr_A10 ++ (wsX00 ++ (wsX10 ++ (wsX20 ++ (wsX30 ++ (wsX40 ++ (wsX50 ++ (wsX60 ++ (wsX70 ++ (wsX80)))))))))))))))))))
theorem pr_in_pr_A0 : ∀ w ∈ pr_A0, w ∈ pr_AL := fun _ h => List.mem_append_left _ h
theorem pr_in_pr_A1 : ∀ w ∈ pr_A1, w ∈ pr_AL := fun _ h => List.mem_append_right _ (List.mem_append_left _ h)
theorem pr_in_pr_A2 : ∀ w ∈ pr_A2, w ∈ pr_AL := fun _ h => List.mem_append_right _ (List.mem_append_right _ (List.mem_append_left _ h))
theorem pr_in_pr_A3 : ∀ w ∈ pr_A3, w ∈ pr_AL := fun _ h => List.mem_append_right _ (List.mem_append_right _ (List.mem_append_right _ (List.mem_append_left _ h)))
theorem pr_in_pr_A4 : ∀ w ∈ pr_A4, w ∈ pr_AL := fun _ h => List.mem_append_right _ (List.mem_append_right _ (List.mem_append_right _ (List.mem_append_right _ (List.mem_append_left _ h))))
theorem pr_in_pr_A5 : ∀ w ∈ pr_A5, w ∈ pr_AL := fun _ h => List.mem_append_right _ (List.mem_append_right _ (List.mem_append_right _ (List.mem_append_right _ (List.mem_append_right _ (List.mem_append_left _ h)))))
theorem pr_in_pr_A6 : ∀ w ∈ pr_A6, w ∈ pr_AL := fun _ h => List.mem_append_right _ (List.mem_append_right _ (List.mem_append_right _ (List.mem_append_right _ (List.mem_append_right _ (List.mem_append_right _ (List.mem_append_left _ h))))))
theorem pr_in_pr_A7 : ∀ w ∈ pr_A7, w ∈ pr_AL := fun _ h => List.mem_append_right _ (List.mem_append_right _ (List.mem_append_right _ (List.mem_append_right _ (List.mem_append_right _ (List.mem_append_right _ (List.mem_append_right _ (List.mem_append_left _ h)))))))
theorem pr_in_pr_A8 : ∀ w ∈ pr_A8, w ∈ pr_AL := fun _ h => List.mem_append_right _ (List.mem_append_right _ (List.mem_append_right _ (List.mem_append_right _ (List.mem_append_right _ (List.mem_append_right _ (List.mem_append_right _ (List.mem_append_right _ (List.mem_append_left _ h))))))))
theorem pr_in_pr_A9 : ∀ w ∈ pr_A9, w ∈ pr_AL := fun _ h => List.mem_append_right _ (List.mem_append_right _ (List.mem_append_right _ (List.mem_append_right _ (List.mem_append_right _ (List.mem_append_right _ (List.mem_append_right _ (List.mem_append_right _ (List.mem_append_right _ (List.mem_append_left _ h)))))))))
theorem pr_in_pr_A10 : ∀ w ∈ pr_A10, w ∈ pr_AL := fun _ h => List.mem_append_right _ (List.mem_append_right _ (List.mem_append_right _ (List.mem_append_right _ (List.mem_append_right _ (List.mem_append_right _ (List.mem_append_right _ (List.mem_append_right _ (List.mem_append_right _ (List.mem_append_right _ (List.mem_append_left _ h))))))))))
theorem pr_in_wsX00 : ∀ w ∈ wsX00, w ∈ pr_AL := fun _ h => List.mem_append_right _ (List.mem_append_right _ (List.mem_append_right _ (List.mem_append_right _ (List.mem_append_right _ (List.mem_append_right _ (List.mem_append_right _ (List.mem_append_right _ (List.mem_append_right _ (List.mem_append_right _ (List.mem_append_right _ (List.mem_append_left _ h)))))))))))
theorem pr_in_wsX10 : ∀ w ∈ wsX10, w ∈ pr_AL := fun _ h => List.mem_append_right _ (List.mem_append_right _ (List.mem_append_right _ (List.mem_append_right _ (List.mem_append_right _ (List.mem_append_right _ (List.mem_append_right _ (List.mem_append_right _ (List.mem_append_right _ (List.mem_append_right _ (List.mem_append_right _ (List.mem_append_right _ (List.mem_append_left _ h))))))))))))
theorem pr_in_wsX20 : ∀ w ∈ wsX20, w ∈ pr_AL := fun _ h => List.mem_append_right _ (List.mem_append_right _ (List.mem_append_right _ (List.mem_append_right _ (List.mem_append_right _ (List.mem_append_right _ (List.mem_append_right _ (List.mem_append_right _ (List.mem_append_right _ (List.mem_append_right _ (List.mem_append_right _ (List.mem_append_right _ (List.mem_append_right _ (List.mem_append_left _ h)))))))))))))
theorem pr_in_wsX30 : ∀ w ∈ wsX30, w ∈ pr_AL := fun _ h => List.mem_append_right _ (List.mem_append_right _ (List.mem_append_right _ (List.mem_append_right _ (List.mem_append_right _ (List.mem_append_right _ (List.mem_append_right _ (List.mem_append_right _ (List.mem_append_right _ (List.mem_append_right _ (List.mem_append_right _ (List.mem_append_right _ (List.mem_append_right _ (List.mem_append_right _ (List.mem_append_left _ h))))))))))))))
theorem pr_in_wsX40 : ∀ w ∈ wsX40, w ∈ pr_AL := fun _ h => List.mem_append_right _ (List.mem_append_right _ (List.mem_append_right _ (List.mem_append_right _ (List.mem_append_right _ (List.mem_append_right _ (List.mem_append_right _ (List.mem_append_right _ (List.mem_append_right _ (List.mem_append_right _ (List.mem_append_right _ (List.mem_append_right _ (List.mem_append_right _ (List.mem_append_right _ (List.mem_append_right _ (List.mem_append_left _ h)))))))))))))))
theorem pr_in_wsX50 : ∀ w ∈ wsX50, w ∈ pr_AL := fun _ h => List.mem_append_right _ (List.mem_append_right _ (List.mem_append_right _ (List.mem_append_right _ (List.mem_append_right _ (List.mem_append_right _ (List.mem_append_right _ (List.mem_append_right _ (List.mem_append_right _ (List.mem_append_right _ (List.mem_append_right _ (List.mem_append_right _ (List.mem_append_right _ (List.mem_append_right _ (List.mem_append_right _ (List.mem_append_right _ (List.mem_append_left _ h))))))))))))))))
theorem pr_in_wsX60 : ∀ w ∈ wsX60, w ∈ pr_AL := fun _ h => List.mem_append_right _ (List.mem_append_right _ (List.mem_append_right _ (List.mem_append_right _ (List.mem_append_right _ (List.mem_append_right _ (List.mem_append_right _ (List.mem_append_right _ (List.mem_append_right _ (List.mem_append_right _ (List.mem_append_right _ (List.mem_append_right _ (List.mem_append_right _ (List.mem_append_right _ (List.mem_append_right _ (List.mem_append_right _ (List.mem_append_right _ (List.mem_append_left _ h)))))))))))))))))
theorem pr_in_wsX70 : ∀ w ∈ wsX70, w ∈ pr_AL := fun _ h => List.mem_append_right _ (List.mem_append_right _ (List.mem_append_right _ (List.mem_append_right _ (List.mem_append_right _ (List.mem_append_right _ (List.mem_append_right _ (List.mem_append_right _ (List.mem_append_right _ (List.mem_append_right _ (List.mem_append_right _ (List.mem_append_right _ (List.mem_append_right _ (List.mem_append_right _ (List.mem_append_right _ (List.mem_append_right _ (List.mem_append_right _ (List.mem_append_right _ (List.mem_append_left _ h))))))))))))))))))
theorem pr_in_wsX80 : ∀ w ∈ wsX80, w ∈ pr_AL := fun _ h => List.mem_append_right _ (List.mem_append_right _ (List.mem_append_right _ (List.mem_append_right _ (List.mem_append_right _ (List.mem_append_right _ (List.mem_append_right _ (List.mem_append_right _ (List.mem_append_right _ (List.mem_append_right _ (List.mem_append_right _ (List.mem_append_right _ (List.mem_append_right _ (List.mem_append_right _ (List.mem_append_right _ (List.mem_append_right _ (List.mem_append_right _ (List.mem_append_right _ (List.mem_append_right _ (h)))))))))))))))))))
theorem pr_w0 : Cond.code yX0_init cX0_init 1 none ∈ pr_AL := pr_in_pr_A0 _ (List.mem_of_getElem? (i := 0) (by decide +kernel))
theorem pr_w1 : Cond.methodLink RX0 1 objectInit ∈ pr_AL := pr_in_pr_A0 _ (List.mem_of_getElem? (i := 1) (by decide +kernel))
theorem pr_w2 : Cond.instanceMethod objectInit ∈ pr_AL := pr_in_pr_A0 _ (List.mem_of_getElem? (i := 2) (by decide +kernel))
theorem pr_w3 : Cond.code objectInit ⟨#[0xb1]⟩ 1 none ∈ pr_AL := pr_in_pr_A0 _ (List.mem_of_getElem? (i := 3) (by decide +kernel))
theorem pr_w4 : Cond.code yX0_clear cX0_clear 1 none ∈ pr_AL := pr_in_pr_A0 _ (List.mem_of_getElem? (i := 4) (by decide +kernel))
theorem pr_w5 : Cond.fieldLink RX0 7 "PrintRegister$Controller" "feed" "I" ∈ pr_AL := pr_in_pr_A0 _ (List.mem_of_getElem? (i := 5) (by decide +kernel))
theorem pr_w6 : Cond.fieldLink RX0 13 "PrintRegister$Controller" "sum" "I" ∈ pr_AL := pr_in_pr_A0 _ (List.mem_of_getElem? (i := 6) (by decide +kernel))
theorem pr_w7 : Cond.fieldLink RX0 16 "PrintRegister$Controller" "wait" "I" ∈ pr_AL := pr_in_pr_A0 _ (List.mem_of_getElem? (i := 7) (by decide +kernel))
theorem pr_w8 : Cond.fieldLink RX0 19 "PrintRegister$Controller" "misses" "I" ∈ pr_AL := pr_in_pr_A0 _ (List.mem_of_getElem? (i := 8) (by decide +kernel))
theorem pr_w9 : Cond.fieldLink RX0 22 "PrintRegister$Controller" "readyTime" "I" ∈ pr_AL := pr_in_pr_A0 _ (List.mem_of_getElem? (i := 9) (by decide +kernel))
theorem pr_w10 : Cond.fieldLink RX0 25 "PrintRegister$Controller" "expectedError" "I" ∈ pr_AL := pr_in_pr_A0 _ (List.mem_of_getElem? (i := 10) (by decide +kernel))
theorem pr_w11 : Cond.fieldLink RX0 28 "PrintRegister$Controller" "expectedSkew" "I" ∈ pr_AL := pr_in_pr_A0 _ (List.mem_of_getElem? (i := 11) (by decide +kernel))
theorem pr_w12 : Cond.fieldLink RX0 31 "PrintRegister$Controller" "addedPhase" "I" ∈ pr_AL := pr_in_pr_A0 _ (List.mem_of_getElem? (i := 12) (by decide +kernel))
theorem pr_w13 : Cond.fieldLink RX0 34 "PrintRegister$Controller" "addedSkew" "I" ∈ pr_AL := pr_in_pr_A0 _ (List.mem_of_getElem? (i := 13) (by decide +kernel))
theorem pr_w14 : Cond.code yX8_lessOne cX8_lessOne 1 (some .int) ∈ pr_AL := pr_in_pr_A0 _ (List.mem_of_getElem? (i := 14) (by decide +kernel))
theorem pr_w15 : Cond.code yX0_endRepeat cX0_endRepeat 1 none ∈ pr_AL := pr_in_pr_A0 _ (List.mem_of_getElem? (i := 15) (by decide +kernel))
theorem pr_w16 : Cond.static yX8_lessOne ∈ pr_AL := pr_in_pr_A0 _ (List.mem_of_getElem? (i := 16) (by decide +kernel))
theorem pr_w17 : Cond.initialized RX8 ∈ pr_AL := pr_in_pr_A0 _ (List.mem_of_getElem? (i := 17) (by decide +kernel))
theorem pr_w18 : Cond.code yX1_init cX1_init 1 none ∈ pr_AL := pr_in_pr_A0 _ (List.mem_of_getElem? (i := 18) (by decide +kernel))
theorem pr_w19 : Cond.methodLink RX1 3 objectInit ∈ pr_AL := pr_in_pr_A0 _ (List.mem_of_getElem? (i := 19) (by decide +kernel))
theorem pr_w20 : Cond.arrayClass .int ∈ pr_AL := pr_in_pr_A0 _ (List.mem_of_getElem? (i := 20) (by decide +kernel))
theorem pr_w21 : Cond.fieldLink RX1 9 "PrintRegister$ErrorLog" "places" "[I" ∈ pr_AL := pr_in_pr_A0 _ (List.mem_of_getElem? (i := 21) (by decide +kernel))
theorem pr_w22 : Cond.code yX1_begin cX1_begin 1 none ∈ pr_AL := pr_in_pr_A0 _ (List.mem_of_getElem? (i := 22) (by decide +kernel))
theorem pr_w23 : Cond.fieldLink RX1 15 "PrintRegister$ErrorLog" "added" "I" ∈ pr_AL := pr_in_pr_A0 _ (List.mem_of_getElem? (i := 23) (by decide +kernel))
theorem pr_w24 : Cond.code yX1_add cX1_add 2 none ∈ pr_AL := pr_in_pr_A0 _ (List.mem_of_getElem? (i := 24) (by decide +kernel))
theorem pr_w25 : Cond.code yX1_kept cX1_kept 2 (some .int) ∈ pr_AL := pr_in_pr_A0 _ (List.mem_of_getElem? (i := 25) (by decide +kernel))
theorem pr_w26 : Cond.methodLink RX1 25 Lib.Math.min.name ∈ pr_AL := pr_in_pr_A0 _ (List.mem_of_getElem? (i := 26) (by decide +kernel))
theorem pr_w27 : Cond.static Lib.Math.min.name ∈ pr_AL := pr_in_pr_A0 _ (List.mem_of_getElem? (i := 27) (by decide +kernel))
theorem pr_w28 : Cond.initialized "java/lang/Math" ∈ pr_AL := pr_in_pr_A0 _ (List.mem_of_getElem? (i := 28) (by decide +kernel))
theorem pr_w29 : Cond.code Lib.Math.min.name Lib.Math.min.code 2 (some .int) ∈ pr_AL := pr_in_pr_A0 _ (List.mem_of_getElem? (i := 29) (by decide +kernel))
theorem pr_w30 : Cond.code yX1_sizeOf cX1_sizeOf 2 (some .int) ∈ pr_AL := pr_in_pr_A0 _ (List.mem_of_getElem? (i := 30) (by decide +kernel))
theorem pr_w31 : Cond.methodLink RX1 31 Lib.Math.abs.name ∈ pr_AL := pr_in_pr_A0 _ (List.mem_of_getElem? (i := 31) (by decide +kernel))
theorem pr_w32 : Cond.static Lib.Math.abs.name ∈ pr_AL := pr_in_pr_A0 _ (List.mem_of_getElem? (i := 32) (by decide +kernel))
theorem pr_w33 : Cond.code Lib.Math.abs.name Lib.Math.abs.code 1 (some .int) ∈ pr_AL := pr_in_pr_A0 _ (List.mem_of_getElem? (i := 33) (by decide +kernel))
theorem pr_w34 : Cond.code yX1_greatest cX1_greatest 4 (some .int) ∈ pr_AL := pr_in_pr_A0 _ (List.mem_of_getElem? (i := 34) (by decide +kernel))
theorem pr_w35 : Cond.methodLink RX1 41 Lib.Math.max.name ∈ pr_AL := pr_in_pr_A0 _ (List.mem_of_getElem? (i := 35) (by decide +kernel))
theorem pr_w36 : Cond.static Lib.Math.max.name ∈ pr_AL := pr_in_pr_A0 _ (List.mem_of_getElem? (i := 36) (by decide +kernel))
theorem pr_w37 : Cond.code Lib.Math.max.name Lib.Math.max.code 2 (some .int) ∈ pr_AL := pr_in_pr_A0 _ (List.mem_of_getElem? (i := 37) (by decide +kernel))
theorem pr_w38 : Cond.methodLink RX1 35 yX1_kept ∈ pr_AL := pr_in_pr_A0 _ (List.mem_of_getElem? (i := 38) (by decide +kernel))
theorem pr_w39 : Cond.instanceMethod yX1_kept ∈ pr_AL := pr_in_pr_A0 _ (List.mem_of_getElem? (i := 39) (by decide +kernel))
theorem pr_w40 : Cond.selects RX1 yX1_kept yX1_kept ∈ pr_AL := pr_in_pr_A1 _ (List.mem_of_getElem? (i := 0) (by decide +kernel))
theorem pr_w41 : Cond.initialized RX1 ∈ pr_AL := pr_in_pr_A1 _ (List.mem_of_getElem? (i := 1) (by decide +kernel))
theorem pr_w42 : Cond.methodLink RX1 38 yX1_sizeOf ∈ pr_AL := pr_in_pr_A1 _ (List.mem_of_getElem? (i := 2) (by decide +kernel))
theorem pr_w43 : Cond.instanceMethod yX1_sizeOf ∈ pr_AL := pr_in_pr_A1 _ (List.mem_of_getElem? (i := 3) (by decide +kernel))
theorem pr_w44 : Cond.selects RX1 yX1_sizeOf yX1_sizeOf ∈ pr_AL := pr_in_pr_A1 _ (List.mem_of_getElem? (i := 4) (by decide +kernel))
theorem pr_w45 : Cond.code yX1_sumOf cX1_sumOf 4 (some .int) ∈ pr_AL := pr_in_pr_A1 _ (List.mem_of_getElem? (i := 5) (by decide +kernel))
theorem pr_w46 : Cond.code yX1_greaterThan cX1_greaterThan 5 (some .int) ∈ pr_AL := pr_in_pr_A1 _ (List.mem_of_getElem? (i := 6) (by decide +kernel))
theorem pr_w47 : Cond.code yX2_init cX2_init 1 none ∈ pr_AL := pr_in_pr_A1 _ (List.mem_of_getElem? (i := 7) (by decide +kernel))
theorem pr_w48 : Cond.methodLink RX2 3 objectInit ∈ pr_AL := pr_in_pr_A1 _ (List.mem_of_getElem? (i := 8) (by decide +kernel))
theorem pr_w49 : Cond.fieldLink RX2 9 "PrintRegister$Pad" "codes" "[I" ∈ pr_AL := pr_in_pr_A1 _ (List.mem_of_getElem? (i := 9) (by decide +kernel))
theorem pr_w50 : Cond.code yX4_init cX4_init 1 none ∈ pr_AL := pr_in_pr_A1 _ (List.mem_of_getElem? (i := 10) (by decide +kernel))
theorem pr_w51 : Cond.methodLink RX4 3 objectInit ∈ pr_AL := pr_in_pr_A1 _ (List.mem_of_getElem? (i := 11) (by decide +kernel))
theorem pr_w52 : Cond.fieldLink RX4 9 "PrintRegister$Printer" "offsets" "[I" ∈ pr_AL := pr_in_pr_A1 _ (List.mem_of_getElem? (i := 12) (by decide +kernel))
theorem pr_w53 : Cond.fieldLink RX4 15 "PrintRegister$Printer" "skews" "[I" ∈ pr_AL := pr_in_pr_A1 _ (List.mem_of_getElem? (i := 13) (by decide +kernel))
theorem pr_w54 : Cond.code yX5_init cX5_init 1 none ∈ pr_AL := pr_in_pr_A1 _ (List.mem_of_getElem? (i := 14) (by decide +kernel))
theorem pr_w55 : Cond.methodLink RX5 3 objectInit ∈ pr_AL := pr_in_pr_A1 _ (List.mem_of_getElem? (i := 15) (by decide +kernel))
theorem pr_w56 : Cond.classLink RX5 9 RX1 ∈ pr_AL := pr_in_pr_A1 _ (List.mem_of_getElem? (i := 16) (by decide +kernel))
theorem pr_w57 : Cond.instantiable RX1 2 ∈ pr_AL := pr_in_pr_A1 _ (List.mem_of_getElem? (i := 17) (by decide +kernel))
theorem pr_w58 : Cond.fieldLink RX5 12 "PrintRegister$Sensor" "log" "LPrintRegister$ErrorLog;" ∈ pr_AL := pr_in_pr_A1 _ (List.mem_of_getElem? (i := 18) (by decide +kernel))
theorem pr_w59 : Cond.instanceMethod yX1_init ∈ pr_AL := pr_in_pr_A1 _ (List.mem_of_getElem? (i := 19) (by decide +kernel))
theorem pr_w60 : Cond.methodLink RX7 3 objectInit ∈ pr_AL := pr_in_pr_A1 _ (List.mem_of_getElem? (i := 20) (by decide +kernel))
theorem pr_w61 : Cond.fieldLink RX7 9 "PrintRegister$Unit" "settings" "[I" ∈ pr_AL := pr_in_pr_A1 _ (List.mem_of_getElem? (i := 21) (by decide +kernel))
theorem pr_w62 : Cond.classLink RX7 15 RX4 ∈ pr_AL := pr_in_pr_A1 _ (List.mem_of_getElem? (i := 22) (by decide +kernel))
theorem pr_w63 : Cond.instantiable RX4 8 ∈ pr_AL := pr_in_pr_A1 _ (List.mem_of_getElem? (i := 23) (by decide +kernel))
theorem pr_w64 : Cond.initialized RX4 ∈ pr_AL := pr_in_pr_A1 _ (List.mem_of_getElem? (i := 24) (by decide +kernel))
theorem pr_w65 : Cond.fieldLink RX7 18 "PrintRegister$Unit" "printer" "LPrintRegister$Printer;" ∈ pr_AL := pr_in_pr_A1 _ (List.mem_of_getElem? (i := 25) (by decide +kernel))
theorem pr_w66 : Cond.classLink RX7 22 RX0 ∈ pr_AL := pr_in_pr_A1 _ (List.mem_of_getElem? (i := 26) (by decide +kernel))
theorem pr_w67 : Cond.instantiable RX0 9 ∈ pr_AL := pr_in_pr_A1 _ (List.mem_of_getElem? (i := 27) (by decide +kernel))
theorem pr_w68 : Cond.initialized RX0 ∈ pr_AL := pr_in_pr_A1 _ (List.mem_of_getElem? (i := 28) (by decide +kernel))
theorem pr_w69 : Cond.fieldLink RX7 25 "PrintRegister$Unit" "controller" "LPrintRegister$Controller;" ∈ pr_AL := pr_in_pr_A1 _ (List.mem_of_getElem? (i := 29) (by decide +kernel))
theorem pr_w70 : Cond.classLink RX7 29 RX5 ∈ pr_AL := pr_in_pr_A1 _ (List.mem_of_getElem? (i := 30) (by decide +kernel))
theorem pr_w71 : Cond.instantiable RX5 10 ∈ pr_AL := pr_in_pr_A1 _ (List.mem_of_getElem? (i := 31) (by decide +kernel))
theorem pr_w72 : Cond.initialized RX5 ∈ pr_AL := pr_in_pr_A1 _ (List.mem_of_getElem? (i := 32) (by decide +kernel))
theorem pr_w73 : Cond.fieldLink RX7 32 "PrintRegister$Unit" "sensor" "LPrintRegister$Sensor;" ∈ pr_AL := pr_in_pr_A1 _ (List.mem_of_getElem? (i := 33) (by decide +kernel))
theorem pr_w74 : Cond.instanceMethod yX4_init ∈ pr_AL := pr_in_pr_A1 _ (List.mem_of_getElem? (i := 34) (by decide +kernel))
theorem pr_w75 : Cond.instanceMethod yX0_init ∈ pr_AL := pr_in_pr_A1 _ (List.mem_of_getElem? (i := 35) (by decide +kernel))
theorem pr_w76 : Cond.instanceMethod yX5_init ∈ pr_AL := pr_in_pr_A1 _ (List.mem_of_getElem? (i := 36) (by decide +kernel))
theorem pr_w77 : Cond.code yX7_init cX7_init 1 none ∈ pr_AL := pr_in_pr_A1 _ (List.mem_of_getElem? (i := 37) (by decide +kernel))
theorem pr_w78 : Cond.methodLink RX3 3 objectInit ∈ pr_AL := pr_in_pr_A1 _ (List.mem_of_getElem? (i := 38) (by decide +kernel))
theorem pr_w79 : Cond.classLink RX3 9 RX7 ∈ pr_AL := pr_in_pr_A1 _ (List.mem_of_getElem? (i := 39) (by decide +kernel))
theorem pr_w80 : Cond.fieldLink RX3 11 "PrintRegister$Press" "units" "[LPrintRegister$Unit;" ∈ pr_AL := pr_in_pr_A2 _ (List.mem_of_getElem? (i := 0) (by decide +kernel))
theorem pr_w81 : Cond.fieldLink RX3 17 "PrintRegister$Press" "changes" "[I" ∈ pr_AL := pr_in_pr_A2 _ (List.mem_of_getElem? (i := 1) (by decide +kernel))
theorem pr_w82 : Cond.fieldLink RX3 21 "PrintRegister$Press" "totals" "[I" ∈ pr_AL := pr_in_pr_A2 _ (List.mem_of_getElem? (i := 2) (by decide +kernel))
theorem pr_w83 : Cond.instantiable RX7 4 ∈ pr_AL := pr_in_pr_A2 _ (List.mem_of_getElem? (i := 3) (by decide +kernel))
theorem pr_w84 : Cond.initialized RX7 ∈ pr_AL := pr_in_pr_A2 _ (List.mem_of_getElem? (i := 4) (by decide +kernel))
theorem pr_w85 : Cond.instanceMethod yX7_init ∈ pr_AL := pr_in_pr_A2 _ (List.mem_of_getElem? (i := 5) (by decide +kernel))
theorem pr_w86 : Cond.code yX3_init cX3_init 2 none ∈ pr_AL := pr_in_pr_A2 _ (List.mem_of_getElem? (i := 6) (by decide +kernel))
theorem pr_w87 : Cond.code yX4_begin cX4_begin 1 none ∈ pr_AL := pr_in_pr_A2 _ (List.mem_of_getElem? (i := 7) (by decide +kernel))
theorem pr_w88 : Cond.fieldLink RX4 18 "PrintRegister$Printer" "phase" "I" ∈ pr_AL := pr_in_pr_A2 _ (List.mem_of_getElem? (i := 8) (by decide +kernel))
theorem pr_w89 : Cond.fieldLink RX4 22 "PrintRegister$Printer" "skewSetting" "I" ∈ pr_AL := pr_in_pr_A2 _ (List.mem_of_getElem? (i := 9) (by decide +kernel))
theorem pr_w90 : Cond.fieldLink RX4 25 "PrintRegister$Printer" "tilt" "I" ∈ pr_AL := pr_in_pr_A2 _ (List.mem_of_getElem? (i := 10) (by decide +kernel))
theorem pr_w91 : Cond.fieldLink RX4 28 "PrintRegister$Printer" "disturbanceAmount" "I" ∈ pr_AL := pr_in_pr_A2 _ (List.mem_of_getElem? (i := 11) (by decide +kernel))
theorem pr_w92 : Cond.fieldLink RX4 31 "PrintRegister$Printer" "disturbanceDuration" "I" ∈ pr_AL := pr_in_pr_A2 _ (List.mem_of_getElem? (i := 12) (by decide +kernel))
theorem pr_w93 : Cond.fieldLink RX4 34 "PrintRegister$Printer" "disturbanceLeft" "I" ∈ pr_AL := pr_in_pr_A2 _ (List.mem_of_getElem? (i := 13) (by decide +kernel))
theorem pr_w94 : Cond.code yX5_seeNothing cX5_seeNothing 1 none ∈ pr_AL := pr_in_pr_A2 _ (List.mem_of_getElem? (i := 14) (by decide +kernel))
theorem pr_w95 : Cond.fieldLink RX5 50 "PrintRegister$Sensor" "sawPiece" "Z" ∈ pr_AL := pr_in_pr_A2 _ (List.mem_of_getElem? (i := 15) (by decide +kernel))
theorem pr_w96 : Cond.fieldLink RX5 54 "PrintRegister$Sensor" "recognized" "I" ∈ pr_AL := pr_in_pr_A2 _ (List.mem_of_getElem? (i := 16) (by decide +kernel))
theorem pr_w97 : Cond.code yX5_begin cX5_begin 1 none ∈ pr_AL := pr_in_pr_A2 _ (List.mem_of_getElem? (i := 17) (by decide +kernel))
theorem pr_w98 : Cond.fieldLink RX5 21 "PrintRegister$Sensor" "hiddenLeft" "I" ∈ pr_AL := pr_in_pr_A2 _ (List.mem_of_getElem? (i := 18) (by decide +kernel))
theorem pr_w99 : Cond.fieldLink RX5 25 "PrintRegister$Sensor" "falseOffset" "I" ∈ pr_AL := pr_in_pr_A2 _ (List.mem_of_getElem? (i := 19) (by decide +kernel))
theorem pr_w100 : Cond.fieldLink RX5 28 "PrintRegister$Sensor" "falseLeft" "I" ∈ pr_AL := pr_in_pr_A2 _ (List.mem_of_getElem? (i := 20) (by decide +kernel))
theorem pr_w101 : Cond.fieldLink RX5 34 "PrintRegister$Sensor" "trueError" "I" ∈ pr_AL := pr_in_pr_A2 _ (List.mem_of_getElem? (i := 21) (by decide +kernel))
theorem pr_w102 : Cond.fieldLink RX5 37 "PrintRegister$Sensor" "trueSkew" "I" ∈ pr_AL := pr_in_pr_A2 _ (List.mem_of_getElem? (i := 22) (by decide +kernel))
theorem pr_w103 : Cond.fieldLink RX5 40 "PrintRegister$Sensor" "offset" "I" ∈ pr_AL := pr_in_pr_A2 _ (List.mem_of_getElem? (i := 23) (by decide +kernel))
theorem pr_w104 : Cond.fieldLink RX5 43 "PrintRegister$Sensor" "skew" "I" ∈ pr_AL := pr_in_pr_A2 _ (List.mem_of_getElem? (i := 24) (by decide +kernel))
theorem pr_w105 : Cond.methodLink RX5 18 yX1_begin ∈ pr_AL := pr_in_pr_A2 _ (List.mem_of_getElem? (i := 25) (by decide +kernel))
theorem pr_w106 : Cond.instanceMethod yX1_begin ∈ pr_AL := pr_in_pr_A2 _ (List.mem_of_getElem? (i := 26) (by decide +kernel))
theorem pr_w107 : Cond.selects RX1 yX1_begin yX1_begin ∈ pr_AL := pr_in_pr_A2 _ (List.mem_of_getElem? (i := 27) (by decide +kernel))
theorem pr_w108 : Cond.methodLink RX5 31 yX5_seeNothing ∈ pr_AL := pr_in_pr_A2 _ (List.mem_of_getElem? (i := 28) (by decide +kernel))
theorem pr_w109 : Cond.instanceMethod yX5_seeNothing ∈ pr_AL := pr_in_pr_A2 _ (List.mem_of_getElem? (i := 29) (by decide +kernel))
theorem pr_w110 : Cond.selects RX5 yX5_seeNothing yX5_seeNothing ∈ pr_AL := pr_in_pr_A2 _ (List.mem_of_getElem? (i := 30) (by decide +kernel))
theorem pr_w111 : Cond.methodLink RX7 39 yX4_begin ∈ pr_AL := pr_in_pr_A2 _ (List.mem_of_getElem? (i := 31) (by decide +kernel))
theorem pr_w112 : Cond.instanceMethod yX4_begin ∈ pr_AL := pr_in_pr_A2 _ (List.mem_of_getElem? (i := 32) (by decide +kernel))
theorem pr_w113 : Cond.selects RX4 yX4_begin yX4_begin ∈ pr_AL := pr_in_pr_A2 _ (List.mem_of_getElem? (i := 33) (by decide +kernel))
theorem pr_w114 : Cond.methodLink RX7 42 yX0_clear ∈ pr_AL := pr_in_pr_A2 _ (List.mem_of_getElem? (i := 34) (by decide +kernel))
theorem pr_w115 : Cond.instanceMethod yX0_clear ∈ pr_AL := pr_in_pr_A2 _ (List.mem_of_getElem? (i := 35) (by decide +kernel))
theorem pr_w116 : Cond.selects RX0 yX0_clear yX0_clear ∈ pr_AL := pr_in_pr_A2 _ (List.mem_of_getElem? (i := 36) (by decide +kernel))
theorem pr_w117 : Cond.methodLink RX7 45 yX5_begin ∈ pr_AL := pr_in_pr_A2 _ (List.mem_of_getElem? (i := 37) (by decide +kernel))
theorem pr_w118 : Cond.instanceMethod yX5_begin ∈ pr_AL := pr_in_pr_A2 _ (List.mem_of_getElem? (i := 38) (by decide +kernel))
theorem pr_w119 : Cond.selects RX5 yX5_begin yX5_begin ∈ pr_AL := pr_in_pr_A2 _ (List.mem_of_getElem? (i := 39) (by decide +kernel))
theorem pr_w120 : Cond.code yX7_begin cX7_begin 2 none ∈ pr_AL := pr_in_pr_A3 _ (List.mem_of_getElem? (i := 0) (by decide +kernel))
theorem pr_w121 : Cond.fieldLink RX3 25 "PrintRegister$Press" "unitCount" "I" ∈ pr_AL := pr_in_pr_A3 _ (List.mem_of_getElem? (i := 1) (by decide +kernel))
theorem pr_w122 : Cond.fieldLink RX3 29 "PrintRegister$Press" "time" "I" ∈ pr_AL := pr_in_pr_A3 _ (List.mem_of_getElem? (i := 2) (by decide +kernel))
theorem pr_w123 : Cond.fieldLink RX3 32 "PrintRegister$Press" "speedNow" "I" ∈ pr_AL := pr_in_pr_A3 _ (List.mem_of_getElem? (i := 3) (by decide +kernel))
theorem pr_w124 : Cond.fieldLink RX3 35 "PrintRegister$Press" "speedBefore" "I" ∈ pr_AL := pr_in_pr_A3 _ (List.mem_of_getElem? (i := 4) (by decide +kernel))
theorem pr_w125 : Cond.fieldLink RX3 38 "PrintRegister$Press" "spliceStart" "I" ∈ pr_AL := pr_in_pr_A3 _ (List.mem_of_getElem? (i := 5) (by decide +kernel))
theorem pr_w126 : Cond.fieldLink RX3 41 "PrintRegister$Press" "spliceAmount" "I" ∈ pr_AL := pr_in_pr_A3 _ (List.mem_of_getElem? (i := 6) (by decide +kernel))
theorem pr_w127 : Cond.fieldLink RX3 44 "PrintRegister$Press" "spliceDuration" "I" ∈ pr_AL := pr_in_pr_A3 _ (List.mem_of_getElem? (i := 7) (by decide +kernel))
theorem pr_w128 : Cond.methodLink RX3 47 yX7_begin ∈ pr_AL := pr_in_pr_A3 _ (List.mem_of_getElem? (i := 8) (by decide +kernel))
theorem pr_w129 : Cond.instanceMethod yX7_begin ∈ pr_AL := pr_in_pr_A3 _ (List.mem_of_getElem? (i := 9) (by decide +kernel))
theorem pr_w130 : Cond.selects RX7 yX7_begin yX7_begin ∈ pr_AL := pr_in_pr_A3 _ (List.mem_of_getElem? (i := 10) (by decide +kernel))
theorem pr_w131 : Cond.code yX3_begin cX3_begin 3 none ∈ pr_AL := pr_in_pr_A3 _ (List.mem_of_getElem? (i := 11) (by decide +kernel))
theorem pr_w132 : Cond.code yX3_unitAt cX3_unitAt 2 (some (.object "PrintRegister$Unit")) ∈ pr_AL := pr_in_pr_A3 _ (List.mem_of_getElem? (i := 12) (by decide +kernel))
theorem pr_w133 : Cond.code yX3_controlledUnitAt cX3_controlledUnitAt 2 (some (.object "PrintRegister$Unit")) ∈ pr_AL := pr_in_pr_A3 _ (List.mem_of_getElem? (i := 13) (by decide +kernel))
theorem pr_w134 : Cond.methodLink RX3 60 yX3_unitAt ∈ pr_AL := pr_in_pr_A3 _ (List.mem_of_getElem? (i := 14) (by decide +kernel))
theorem pr_w135 : Cond.instanceMethod yX3_unitAt ∈ pr_AL := pr_in_pr_A3 _ (List.mem_of_getElem? (i := 15) (by decide +kernel))
theorem pr_w136 : Cond.selects RX3 yX3_unitAt yX3_unitAt ∈ pr_AL := pr_in_pr_A3 _ (List.mem_of_getElem? (i := 16) (by decide +kernel))
theorem pr_w137 : Cond.initialized RX3 ∈ pr_AL := pr_in_pr_A3 _ (List.mem_of_getElem? (i := 17) (by decide +kernel))
theorem pr_w138 : Cond.code yX7_setting cX7_setting 2 (some .int) ∈ pr_AL := pr_in_pr_A3 _ (List.mem_of_getElem? (i := 18) (by decide +kernel))
theorem pr_w139 : Cond.code yX3_wayOf cX3_wayOf 4 (some .int) ∈ pr_AL := pr_in_pr_A3 _ (List.mem_of_getElem? (i := 19) (by decide +kernel))
theorem pr_w140 : Cond.methodLink RX3 64 yX7_setting ∈ pr_AL := pr_in_pr_A3 _ (List.mem_of_getElem? (i := 20) (by decide +kernel))
theorem pr_w141 : Cond.instanceMethod yX7_setting ∈ pr_AL := pr_in_pr_A3 _ (List.mem_of_getElem? (i := 21) (by decide +kernel))
theorem pr_w142 : Cond.selects RX7 yX7_setting yX7_setting ∈ pr_AL := pr_in_pr_A3 _ (List.mem_of_getElem? (i := 22) (by decide +kernel))
theorem pr_w143 : Cond.code yX3_startSplice cX3_startSplice 3 none ∈ pr_AL := pr_in_pr_A3 _ (List.mem_of_getElem? (i := 23) (by decide +kernel))
theorem pr_w144 : Cond.code yX3_repeatsToLastUnit cX3_repeatsToLastUnit 1 (some .int) ∈ pr_AL := pr_in_pr_A3 _ (List.mem_of_getElem? (i := 24) (by decide +kernel))
theorem pr_w145 : Cond.methodLink RX3 71 Lib.Math.max.name ∈ pr_AL := pr_in_pr_A3 _ (List.mem_of_getElem? (i := 25) (by decide +kernel))
theorem pr_w146 : Cond.methodLink RX3 68 yX3_wayOf ∈ pr_AL := pr_in_pr_A3 _ (List.mem_of_getElem? (i := 26) (by decide +kernel))
theorem pr_w147 : Cond.instanceMethod yX3_wayOf ∈ pr_AL := pr_in_pr_A3 _ (List.mem_of_getElem? (i := 27) (by decide +kernel))
theorem pr_w148 : Cond.selects RX3 yX3_wayOf yX3_wayOf ∈ pr_AL := pr_in_pr_A3 _ (List.mem_of_getElem? (i := 28) (by decide +kernel))
theorem pr_w149 : Cond.code yX4_beDisturbed cX4_beDisturbed 3 none ∈ pr_AL := pr_in_pr_A3 _ (List.mem_of_getElem? (i := 29) (by decide +kernel))
theorem pr_w150 : Cond.code yX7_beSpliced cX7_beSpliced 3 none ∈ pr_AL := pr_in_pr_A3 _ (List.mem_of_getElem? (i := 30) (by decide +kernel))
theorem pr_w151 : Cond.methodLink RX7 62 yX4_beDisturbed ∈ pr_AL := pr_in_pr_A3 _ (List.mem_of_getElem? (i := 31) (by decide +kernel))
theorem pr_w152 : Cond.instanceMethod yX4_beDisturbed ∈ pr_AL := pr_in_pr_A3 _ (List.mem_of_getElem? (i := 32) (by decide +kernel))
theorem pr_w153 : Cond.selects RX4 yX4_beDisturbed yX4_beDisturbed ∈ pr_AL := pr_in_pr_A3 _ (List.mem_of_getElem? (i := 33) (by decide +kernel))
theorem pr_w154 : Cond.methodLink RX7 70 yX7_setting ∈ pr_AL := pr_in_pr_A3 _ (List.mem_of_getElem? (i := 34) (by decide +kernel))
theorem pr_w155 : Cond.methodLink RX3 116 yX7_beSpliced ∈ pr_AL := pr_in_pr_A3 _ (List.mem_of_getElem? (i := 35) (by decide +kernel))
theorem pr_w156 : Cond.instanceMethod yX7_beSpliced ∈ pr_AL := pr_in_pr_A3 _ (List.mem_of_getElem? (i := 36) (by decide +kernel))
theorem pr_w157 : Cond.selects RX7 yX7_beSpliced yX7_beSpliced ∈ pr_AL := pr_in_pr_A3 _ (List.mem_of_getElem? (i := 37) (by decide +kernel))
theorem pr_w158 : Cond.code yX3_bringSplice cX3_bringSplice 3 none ∈ pr_AL := pr_in_pr_A3 _ (List.mem_of_getElem? (i := 38) (by decide +kernel))
theorem pr_w159 : Cond.code yX4_disturbance cX4_disturbance 1 (some .int) ∈ pr_AL := pr_in_pr_A3 _ (List.mem_of_getElem? (i := 39) (by decide +kernel))
theorem pr_w160 : Cond.code yX4_printPiece cX4_printPiece 3 none ∈ pr_AL := pr_in_pr_A4 _ (List.mem_of_getElem? (i := 0) (by decide +kernel))
theorem pr_w161 : Cond.methodLink RX4 43 yX4_disturbance ∈ pr_AL := pr_in_pr_A4 _ (List.mem_of_getElem? (i := 1) (by decide +kernel))
theorem pr_w162 : Cond.instanceMethod yX4_disturbance ∈ pr_AL := pr_in_pr_A4 _ (List.mem_of_getElem? (i := 2) (by decide +kernel))
theorem pr_w163 : Cond.selects RX4 yX4_disturbance yX4_disturbance ∈ pr_AL := pr_in_pr_A4 _ (List.mem_of_getElem? (i := 3) (by decide +kernel))
theorem pr_w164 : Cond.methodLink RX7 80 yX4_printPiece ∈ pr_AL := pr_in_pr_A4 _ (List.mem_of_getElem? (i := 4) (by decide +kernel))
theorem pr_w165 : Cond.instanceMethod yX4_printPiece ∈ pr_AL := pr_in_pr_A4 _ (List.mem_of_getElem? (i := 5) (by decide +kernel))
theorem pr_w166 : Cond.selects RX4 yX4_printPiece yX4_printPiece ∈ pr_AL := pr_in_pr_A4 _ (List.mem_of_getElem? (i := 6) (by decide +kernel))
theorem pr_w167 : Cond.code yX7_printPiece cX7_printPiece 3 none ∈ pr_AL := pr_in_pr_A4 _ (List.mem_of_getElem? (i := 7) (by decide +kernel))
theorem pr_w168 : Cond.code yX4_offsetAt cX4_offsetAt 2 (some .int) ∈ pr_AL := pr_in_pr_A4 _ (List.mem_of_getElem? (i := 8) (by decide +kernel))
theorem pr_w169 : Cond.code yX4_skewAt cX4_skewAt 2 (some .int) ∈ pr_AL := pr_in_pr_A4 _ (List.mem_of_getElem? (i := 9) (by decide +kernel))
theorem pr_w170 : Cond.code yX5_seePiece cX5_seePiece 3 none ∈ pr_AL := pr_in_pr_A4 _ (List.mem_of_getElem? (i := 10) (by decide +kernel))
theorem pr_w171 : Cond.methodLink RX5 57 yX1_add ∈ pr_AL := pr_in_pr_A4 _ (List.mem_of_getElem? (i := 11) (by decide +kernel))
theorem pr_w172 : Cond.instanceMethod yX1_add ∈ pr_AL := pr_in_pr_A4 _ (List.mem_of_getElem? (i := 12) (by decide +kernel))
theorem pr_w173 : Cond.selects RX1 yX1_add yX1_add ∈ pr_AL := pr_in_pr_A4 _ (List.mem_of_getElem? (i := 13) (by decide +kernel))
theorem pr_w174 : Cond.code yX7_window cX7_window 2 (some .int) ∈ pr_AL := pr_in_pr_A4 _ (List.mem_of_getElem? (i := 14) (by decide +kernel))
theorem pr_w175 : Cond.code yX5_recognizeNear cX5_recognizeNear 8 none ∈ pr_AL := pr_in_pr_A4 _ (List.mem_of_getElem? (i := 15) (by decide +kernel))
theorem pr_w176 : Cond.methodLink RX5 61 Lib.Math.abs.name ∈ pr_AL := pr_in_pr_A4 _ (List.mem_of_getElem? (i := 16) (by decide +kernel))
theorem pr_w177 : Cond.methodLink RX7 89 yX7_window ∈ pr_AL := pr_in_pr_A4 _ (List.mem_of_getElem? (i := 17) (by decide +kernel))
theorem pr_w178 : Cond.instanceMethod yX7_window ∈ pr_AL := pr_in_pr_A4 _ (List.mem_of_getElem? (i := 18) (by decide +kernel))
theorem pr_w179 : Cond.selects RX7 yX7_window yX7_window ∈ pr_AL := pr_in_pr_A4 _ (List.mem_of_getElem? (i := 19) (by decide +kernel))
theorem pr_w180 : Cond.methodLink RX7 93 yX5_recognizeNear ∈ pr_AL := pr_in_pr_A4 _ (List.mem_of_getElem? (i := 20) (by decide +kernel))
theorem pr_w181 : Cond.instanceMethod yX5_recognizeNear ∈ pr_AL := pr_in_pr_A4 _ (List.mem_of_getElem? (i := 21) (by decide +kernel))
theorem pr_w182 : Cond.selects RX5 yX5_recognizeNear yX5_recognizeNear ∈ pr_AL := pr_in_pr_A4 _ (List.mem_of_getElem? (i := 22) (by decide +kernel))
theorem pr_w183 : Cond.code yX7_recognizeMark cX7_recognizeMark 2 (some .boolean) ∈ pr_AL := pr_in_pr_A4 _ (List.mem_of_getElem? (i := 23) (by decide +kernel))
theorem pr_w184 : Cond.code yX8_limited cX8_limited 2 (some .int) ∈ pr_AL := pr_in_pr_A4 _ (List.mem_of_getElem? (i := 24) (by decide +kernel))
theorem pr_w185 : Cond.code yX7_learnFrom cX7_learnFrom 4 (some .boolean) ∈ pr_AL := pr_in_pr_A4 _ (List.mem_of_getElem? (i := 25) (by decide +kernel))
theorem pr_w186 : Cond.methodLink RX7 103 Lib.Math.abs.name ∈ pr_AL := pr_in_pr_A4 _ (List.mem_of_getElem? (i := 26) (by decide +kernel))
theorem pr_w187 : Cond.static yX8_limited ∈ pr_AL := pr_in_pr_A4 _ (List.mem_of_getElem? (i := 27) (by decide +kernel))
theorem pr_w188 : Cond.code yX7_expectAsMeasured cX7_expectAsMeasured 1 none ∈ pr_AL := pr_in_pr_A4 _ (List.mem_of_getElem? (i := 28) (by decide +kernel))
theorem pr_w189 : Cond.code yX7_isOff cX7_isOff 2 (some .boolean) ∈ pr_AL := pr_in_pr_A4 _ (List.mem_of_getElem? (i := 29) (by decide +kernel))
theorem pr_w190 : Cond.code yX7_correctPhase cX7_correctPhase 4 (some .int) ∈ pr_AL := pr_in_pr_A4 _ (List.mem_of_getElem? (i := 30) (by decide +kernel))
theorem pr_w191 : Cond.code yX7_correctSkew cX7_correctSkew 3 (some .int) ∈ pr_AL := pr_in_pr_A4 _ (List.mem_of_getElem? (i := 31) (by decide +kernel))
theorem pr_w192 : Cond.methodLink RX3 147 yX7_learnFrom ∈ pr_AL := pr_in_pr_A4 _ (List.mem_of_getElem? (i := 32) (by decide +kernel))
theorem pr_w193 : Cond.instanceMethod yX7_learnFrom ∈ pr_AL := pr_in_pr_A4 _ (List.mem_of_getElem? (i := 33) (by decide +kernel))
theorem pr_w194 : Cond.selects RX7 yX7_learnFrom yX7_learnFrom ∈ pr_AL := pr_in_pr_A4 _ (List.mem_of_getElem? (i := 34) (by decide +kernel))
theorem pr_w195 : Cond.methodLink RX3 151 yX7_expectAsMeasured ∈ pr_AL := pr_in_pr_A4 _ (List.mem_of_getElem? (i := 35) (by decide +kernel))
theorem pr_w196 : Cond.instanceMethod yX7_expectAsMeasured ∈ pr_AL := pr_in_pr_A4 _ (List.mem_of_getElem? (i := 36) (by decide +kernel))
theorem pr_w197 : Cond.selects RX7 yX7_expectAsMeasured yX7_expectAsMeasured ∈ pr_AL := pr_in_pr_A4 _ (List.mem_of_getElem? (i := 37) (by decide +kernel))
theorem pr_w198 : Cond.methodLink RX3 166 yX7_isOff ∈ pr_AL := pr_in_pr_A4 _ (List.mem_of_getElem? (i := 38) (by decide +kernel))
theorem pr_w199 : Cond.instanceMethod yX7_isOff ∈ pr_AL := pr_in_pr_A4 _ (List.mem_of_getElem? (i := 39) (by decide +kernel))
theorem pr_w200 : Cond.selects RX7 yX7_isOff yX7_isOff ∈ pr_AL := pr_in_pr_A5 _ (List.mem_of_getElem? (i := 0) (by decide +kernel))
theorem pr_w201 : Cond.methodLink RX3 172 yX7_correctPhase ∈ pr_AL := pr_in_pr_A5 _ (List.mem_of_getElem? (i := 1) (by decide +kernel))
theorem pr_w202 : Cond.instanceMethod yX7_correctPhase ∈ pr_AL := pr_in_pr_A5 _ (List.mem_of_getElem? (i := 2) (by decide +kernel))
theorem pr_w203 : Cond.selects RX7 yX7_correctPhase yX7_correctPhase ∈ pr_AL := pr_in_pr_A5 _ (List.mem_of_getElem? (i := 3) (by decide +kernel))
theorem pr_w204 : Cond.methodLink RX3 179 yX7_correctSkew ∈ pr_AL := pr_in_pr_A5 _ (List.mem_of_getElem? (i := 4) (by decide +kernel))
theorem pr_w205 : Cond.instanceMethod yX7_correctSkew ∈ pr_AL := pr_in_pr_A5 _ (List.mem_of_getElem? (i := 5) (by decide +kernel))
theorem pr_w206 : Cond.selects RX7 yX7_correctSkew yX7_correctSkew ∈ pr_AL := pr_in_pr_A5 _ (List.mem_of_getElem? (i := 6) (by decide +kernel))
theorem pr_w207 : Cond.code yX3_control cX3_control 5 none ∈ pr_AL := pr_in_pr_A5 _ (List.mem_of_getElem? (i := 7) (by decide +kernel))
theorem pr_w208 : Cond.methodLink RX3 119 yX5_seeNothing ∈ pr_AL := pr_in_pr_A5 _ (List.mem_of_getElem? (i := 8) (by decide +kernel))
theorem pr_w209 : Cond.methodLink RX3 126 yX4_offsetAt ∈ pr_AL := pr_in_pr_A5 _ (List.mem_of_getElem? (i := 9) (by decide +kernel))
theorem pr_w210 : Cond.instanceMethod yX4_offsetAt ∈ pr_AL := pr_in_pr_A5 _ (List.mem_of_getElem? (i := 10) (by decide +kernel))
theorem pr_w211 : Cond.selects RX4 yX4_offsetAt yX4_offsetAt ∈ pr_AL := pr_in_pr_A5 _ (List.mem_of_getElem? (i := 11) (by decide +kernel))
theorem pr_w212 : Cond.methodLink RX3 131 yX4_skewAt ∈ pr_AL := pr_in_pr_A5 _ (List.mem_of_getElem? (i := 12) (by decide +kernel))
theorem pr_w213 : Cond.instanceMethod yX4_skewAt ∈ pr_AL := pr_in_pr_A5 _ (List.mem_of_getElem? (i := 13) (by decide +kernel))
theorem pr_w214 : Cond.selects RX4 yX4_skewAt yX4_skewAt ∈ pr_AL := pr_in_pr_A5 _ (List.mem_of_getElem? (i := 14) (by decide +kernel))
theorem pr_w215 : Cond.methodLink RX3 134 yX5_seePiece ∈ pr_AL := pr_in_pr_A5 _ (List.mem_of_getElem? (i := 15) (by decide +kernel))
theorem pr_w216 : Cond.instanceMethod yX5_seePiece ∈ pr_AL := pr_in_pr_A5 _ (List.mem_of_getElem? (i := 16) (by decide +kernel))
theorem pr_w217 : Cond.selects RX5 yX5_seePiece yX5_seePiece ∈ pr_AL := pr_in_pr_A5 _ (List.mem_of_getElem? (i := 17) (by decide +kernel))
theorem pr_w218 : Cond.methodLink RX3 137 yX7_recognizeMark ∈ pr_AL := pr_in_pr_A5 _ (List.mem_of_getElem? (i := 18) (by decide +kernel))
theorem pr_w219 : Cond.instanceMethod yX7_recognizeMark ∈ pr_AL := pr_in_pr_A5 _ (List.mem_of_getElem? (i := 19) (by decide +kernel))
theorem pr_w220 : Cond.selects RX7 yX7_recognizeMark yX7_recognizeMark ∈ pr_AL := pr_in_pr_A5 _ (List.mem_of_getElem? (i := 20) (by decide +kernel))
theorem pr_w221 : Cond.methodLink RX3 144 yX3_control ∈ pr_AL := pr_in_pr_A5 _ (List.mem_of_getElem? (i := 21) (by decide +kernel))
theorem pr_w222 : Cond.instanceMethod yX3_control ∈ pr_AL := pr_in_pr_A5 _ (List.mem_of_getElem? (i := 22) (by decide +kernel))
theorem pr_w223 : Cond.selects RX3 yX3_control yX3_control ∈ pr_AL := pr_in_pr_A5 _ (List.mem_of_getElem? (i := 23) (by decide +kernel))
theorem pr_w224 : Cond.code yX3_watchUnit cX3_watchUnit 6 none ∈ pr_AL := pr_in_pr_A5 _ (List.mem_of_getElem? (i := 24) (by decide +kernel))
theorem pr_w225 : Cond.code yX7_endRepeat cX7_endRepeat 1 none ∈ pr_AL := pr_in_pr_A5 _ (List.mem_of_getElem? (i := 25) (by decide +kernel))
theorem pr_w226 : Cond.methodLink RX7 124 yX0_endRepeat ∈ pr_AL := pr_in_pr_A5 _ (List.mem_of_getElem? (i := 26) (by decide +kernel))
theorem pr_w227 : Cond.instanceMethod yX0_endRepeat ∈ pr_AL := pr_in_pr_A5 _ (List.mem_of_getElem? (i := 27) (by decide +kernel))
theorem pr_w228 : Cond.selects RX0 yX0_endRepeat yX0_endRepeat ∈ pr_AL := pr_in_pr_A5 _ (List.mem_of_getElem? (i := 28) (by decide +kernel))
theorem pr_w229 : Cond.methodLink RX3 103 yX3_bringSplice ∈ pr_AL := pr_in_pr_A5 _ (List.mem_of_getElem? (i := 29) (by decide +kernel))
theorem pr_w230 : Cond.instanceMethod yX3_bringSplice ∈ pr_AL := pr_in_pr_A5 _ (List.mem_of_getElem? (i := 30) (by decide +kernel))
theorem pr_w231 : Cond.selects RX3 yX3_bringSplice yX3_bringSplice ∈ pr_AL := pr_in_pr_A5 _ (List.mem_of_getElem? (i := 31) (by decide +kernel))
theorem pr_w232 : Cond.methodLink RX3 106 yX7_printPiece ∈ pr_AL := pr_in_pr_A5 _ (List.mem_of_getElem? (i := 32) (by decide +kernel))
theorem pr_w233 : Cond.instanceMethod yX7_printPiece ∈ pr_AL := pr_in_pr_A5 _ (List.mem_of_getElem? (i := 33) (by decide +kernel))
theorem pr_w234 : Cond.selects RX7 yX7_printPiece yX7_printPiece ∈ pr_AL := pr_in_pr_A5 _ (List.mem_of_getElem? (i := 34) (by decide +kernel))
theorem pr_w235 : Cond.methodLink RX3 109 yX3_watchUnit ∈ pr_AL := pr_in_pr_A5 _ (List.mem_of_getElem? (i := 35) (by decide +kernel))
theorem pr_w236 : Cond.instanceMethod yX3_watchUnit ∈ pr_AL := pr_in_pr_A5 _ (List.mem_of_getElem? (i := 36) (by decide +kernel))
theorem pr_w237 : Cond.selects RX3 yX3_watchUnit yX3_watchUnit ∈ pr_AL := pr_in_pr_A5 _ (List.mem_of_getElem? (i := 37) (by decide +kernel))
theorem pr_w238 : Cond.methodLink RX3 113 yX7_endRepeat ∈ pr_AL := pr_in_pr_A5 _ (List.mem_of_getElem? (i := 38) (by decide +kernel))
theorem pr_w239 : Cond.instanceMethod yX7_endRepeat ∈ pr_AL := pr_in_pr_A5 _ (List.mem_of_getElem? (i := 39) (by decide +kernel))
theorem pr_w240 : Cond.selects RX7 yX7_endRepeat yX7_endRepeat ∈ pr_AL := pr_in_pr_A6 _ (List.mem_of_getElem? (i := 0) (by decide +kernel))
theorem pr_w241 : Cond.code yX3_makeRepeat cX3_makeRepeat 4 none ∈ pr_AL := pr_in_pr_A6 _ (List.mem_of_getElem? (i := 1) (by decide +kernel))
theorem pr_w242 : Cond.code yX4_byHand cX4_byHand 2 (some .int) ∈ pr_AL := pr_in_pr_A6 _ (List.mem_of_getElem? (i := 2) (by decide +kernel))
theorem pr_w243 : Cond.code yX4_changeByHand cX4_changeByHand 3 none ∈ pr_AL := pr_in_pr_A6 _ (List.mem_of_getElem? (i := 3) (by decide +kernel))
theorem pr_w244 : Cond.code yX5_sight cX5_sight 2 (some .int) ∈ pr_AL := pr_in_pr_A6 _ (List.mem_of_getElem? (i := 4) (by decide +kernel))
theorem pr_w245 : Cond.methodLink RX6 1 objectInit ∈ pr_AL := pr_in_pr_A6 _ (List.mem_of_getElem? (i := 5) (by decide +kernel))
theorem pr_w246 : Cond.classLink RX6 7 RX3 ∈ pr_AL := pr_in_pr_A6 _ (List.mem_of_getElem? (i := 6) (by decide +kernel))
theorem pr_w247 : Cond.instantiable RX3 10 ∈ pr_AL := pr_in_pr_A6 _ (List.mem_of_getElem? (i := 7) (by decide +kernel))
theorem pr_w248 : Cond.fieldLink RX6 10 "PrintRegister$Slot" "saved" "LPrintRegister$Press;" ∈ pr_AL := pr_in_pr_A6 _ (List.mem_of_getElem? (i := 8) (by decide +kernel))
theorem pr_w249 : Cond.methodLink RX6 9 yX3_init ∈ pr_AL := pr_in_pr_A6 _ (List.mem_of_getElem? (i := 9) (by decide +kernel))
theorem pr_w250 : Cond.instanceMethod yX3_init ∈ pr_AL := pr_in_pr_A6 _ (List.mem_of_getElem? (i := 10) (by decide +kernel))
theorem pr_w251 : Cond.code yX6_init cX6_init 1 none ∈ pr_AL := pr_in_pr_A6 _ (List.mem_of_getElem? (i := 11) (by decide +kernel))
theorem pr_w252 : Cond.code yX7_changeSetting cX7_changeSetting 3 none ∈ pr_AL := pr_in_pr_A6 _ (List.mem_of_getElem? (i := 12) (by decide +kernel))
theorem pr_w253 : Cond.methodLink RX8 1 objectInit ∈ pr_AL := pr_in_pr_A6 _ (List.mem_of_getElem? (i := 13) (by decide +kernel))
theorem pr_w254 : Cond.classLink RX8 7 RX3 ∈ pr_AL := pr_in_pr_A6 _ (List.mem_of_getElem? (i := 14) (by decide +kernel))
theorem pr_w255 : Cond.fieldLink RX8 10 "PrintRegister" "press" "LPrintRegister$Press;" ∈ pr_AL := pr_in_pr_A6 _ (List.mem_of_getElem? (i := 15) (by decide +kernel))
theorem pr_w256 : Cond.fieldLink RX8 16 "PrintRegister" "copy" "LPrintRegister$Press;" ∈ pr_AL := pr_in_pr_A6 _ (List.mem_of_getElem? (i := 16) (by decide +kernel))
theorem pr_w257 : Cond.classLink RX8 19 RX6 ∈ pr_AL := pr_in_pr_A6 _ (List.mem_of_getElem? (i := 17) (by decide +kernel))
theorem pr_w258 : Cond.instantiable RX6 2 ∈ pr_AL := pr_in_pr_A6 _ (List.mem_of_getElem? (i := 18) (by decide +kernel))
theorem pr_w259 : Cond.initialized RX6 ∈ pr_AL := pr_in_pr_A6 _ (List.mem_of_getElem? (i := 19) (by decide +kernel))
theorem pr_w260 : Cond.fieldLink RX8 22 "PrintRegister" "slot0" "LPrintRegister$Slot;" ∈ pr_AL := pr_in_pr_A6 _ (List.mem_of_getElem? (i := 20) (by decide +kernel))
theorem pr_w261 : Cond.fieldLink RX8 26 "PrintRegister" "slot1" "LPrintRegister$Slot;" ∈ pr_AL := pr_in_pr_A6 _ (List.mem_of_getElem? (i := 21) (by decide +kernel))
theorem pr_w262 : Cond.classLink RX8 29 RX2 ∈ pr_AL := pr_in_pr_A6 _ (List.mem_of_getElem? (i := 22) (by decide +kernel))
theorem pr_w263 : Cond.instantiable RX2 10 ∈ pr_AL := pr_in_pr_A6 _ (List.mem_of_getElem? (i := 23) (by decide +kernel))
theorem pr_w264 : Cond.initialized RX2 ∈ pr_AL := pr_in_pr_A6 _ (List.mem_of_getElem? (i := 24) (by decide +kernel))
theorem pr_w265 : Cond.fieldLink RX8 32 "PrintRegister" "pad" "LPrintRegister$Pad;" ∈ pr_AL := pr_in_pr_A6 _ (List.mem_of_getElem? (i := 25) (by decide +kernel))
theorem pr_w266 : Cond.methodLink RX8 9 yX3_init ∈ pr_AL := pr_in_pr_A6 _ (List.mem_of_getElem? (i := 26) (by decide +kernel))
theorem pr_w267 : Cond.instanceMethod yX6_init ∈ pr_AL := pr_in_pr_A6 _ (List.mem_of_getElem? (i := 27) (by decide +kernel))
theorem pr_w268 : Cond.instanceMethod yX2_init ∈ pr_AL := pr_in_pr_A6 _ (List.mem_of_getElem? (i := 28) (by decide +kernel))
theorem pr_w269 : Cond.methodLink RX8 36 yX3_begin ∈ pr_AL := pr_in_pr_A6 _ (List.mem_of_getElem? (i := 29) (by decide +kernel))
theorem pr_w270 : Cond.instanceMethod yX3_begin ∈ pr_AL := pr_in_pr_A6 _ (List.mem_of_getElem? (i := 30) (by decide +kernel))
theorem pr_w271 : Cond.selects RX3 yX3_begin yX3_begin ∈ pr_AL := pr_in_pr_A6 _ (List.mem_of_getElem? (i := 31) (by decide +kernel))
theorem pr_w272 : Cond.code yX8_init cX8_init 1 none ∈ pr_AL := pr_in_pr_A6 _ (List.mem_of_getElem? (i := 32) (by decide +kernel))
theorem pr_w273 : Cond.code yX8_isOutside cX8_isOutside 3 (some .boolean) ∈ pr_AL := pr_in_pr_A6 _ (List.mem_of_getElem? (i := 33) (by decide +kernel))
theorem pr_w274 : Cond.constant RX8 44 (-1000000002) ∈ pr_AL := pr_in_pr_A6 _ (List.mem_of_getElem? (i := 34) (by decide +kernel))
theorem pr_w275 : Cond.methodLink RX8 40 yX8_isOutside ∈ pr_AL := pr_in_pr_A6 _ (List.mem_of_getElem? (i := 35) (by decide +kernel))
theorem pr_w276 : Cond.static yX8_isOutside ∈ pr_AL := pr_in_pr_A6 _ (List.mem_of_getElem? (i := 36) (by decide +kernel))
theorem pr_w277 : Cond.code yX8_setUp cX8_setUp 3 (some .int) ∈ pr_AL := pr_in_pr_A6 _ (List.mem_of_getElem? (i := 37) (by decide +kernel))
theorem pr_w278 : Cond.code yX8_isSettingValue cX8_isSettingValue 2 (some .boolean) ∈ pr_AL := pr_in_pr_A6 _ (List.mem_of_getElem? (i := 38) (by decide +kernel))
theorem pr_w279 : Cond.fieldLink RX8 280 "PrintRegister" "LEAST_SETTINGS" "[I" ∈ pr_AL := pr_in_pr_A6 _ (List.mem_of_getElem? (i := 39) (by decide +kernel))
theorem pr_w280 : Cond.fieldLink RX8 283 "PrintRegister" "GREATEST_SETTINGS" "[I" ∈ pr_AL := pr_in_pr_A7 _ (List.mem_of_getElem? (i := 0) (by decide +kernel))
theorem pr_w281 : Cond.code yX8_isPlace cX8_isPlace 1 (some .boolean) ∈ pr_AL := pr_in_pr_A7 _ (List.mem_of_getElem? (i := 1) (by decide +kernel))
theorem pr_w282 : Cond.constant RX8 53 (-1000000001) ∈ pr_AL := pr_in_pr_A7 _ (List.mem_of_getElem? (i := 2) (by decide +kernel))
theorem pr_w283 : Cond.constant RX8 62 (-1000000005) ∈ pr_AL := pr_in_pr_A7 _ (List.mem_of_getElem? (i := 3) (by decide +kernel))
theorem pr_w284 : Cond.methodLink RX8 49 yX3_unitAt ∈ pr_AL := pr_in_pr_A7 _ (List.mem_of_getElem? (i := 4) (by decide +kernel))
theorem pr_w285 : Cond.methodLink RX8 54 yX8_isSettingValue ∈ pr_AL := pr_in_pr_A7 _ (List.mem_of_getElem? (i := 5) (by decide +kernel))
theorem pr_w286 : Cond.static yX8_isSettingValue ∈ pr_AL := pr_in_pr_A7 _ (List.mem_of_getElem? (i := 6) (by decide +kernel))
theorem pr_w287 : Cond.methodLink RX8 58 yX8_isPlace ∈ pr_AL := pr_in_pr_A7 _ (List.mem_of_getElem? (i := 7) (by decide +kernel))
theorem pr_w288 : Cond.static yX8_isPlace ∈ pr_AL := pr_in_pr_A7 _ (List.mem_of_getElem? (i := 8) (by decide +kernel))
theorem pr_w289 : Cond.methodLink RX8 63 yX7_setting ∈ pr_AL := pr_in_pr_A7 _ (List.mem_of_getElem? (i := 9) (by decide +kernel))
theorem pr_w290 : Cond.methodLink RX8 69 yX7_changeSetting ∈ pr_AL := pr_in_pr_A7 _ (List.mem_of_getElem? (i := 10) (by decide +kernel))
theorem pr_w291 : Cond.instanceMethod yX7_changeSetting ∈ pr_AL := pr_in_pr_A7 _ (List.mem_of_getElem? (i := 11) (by decide +kernel))
theorem pr_w292 : Cond.selects RX7 yX7_changeSetting yX7_changeSetting ∈ pr_AL := pr_in_pr_A7 _ (List.mem_of_getElem? (i := 12) (by decide +kernel))
theorem pr_w293 : Cond.code yX8_set cX8_set 6 (some .int) ∈ pr_AL := pr_in_pr_A7 _ (List.mem_of_getElem? (i := 13) (by decide +kernel))
theorem pr_w294 : Cond.code yX8_get cX8_get 4 (some .int) ∈ pr_AL := pr_in_pr_A7 _ (List.mem_of_getElem? (i := 14) (by decide +kernel))
theorem pr_w295 : Cond.fieldLink RX8 73 "PrintRegister" "MOST_BY_HAND" "[I" ∈ pr_AL := pr_in_pr_A7 _ (List.mem_of_getElem? (i := 15) (by decide +kernel))
theorem pr_w296 : Cond.methodLink RX8 81 yX4_byHand ∈ pr_AL := pr_in_pr_A7 _ (List.mem_of_getElem? (i := 16) (by decide +kernel))
theorem pr_w297 : Cond.instanceMethod yX4_byHand ∈ pr_AL := pr_in_pr_A7 _ (List.mem_of_getElem? (i := 17) (by decide +kernel))
theorem pr_w298 : Cond.selects RX4 yX4_byHand yX4_byHand ∈ pr_AL := pr_in_pr_A7 _ (List.mem_of_getElem? (i := 18) (by decide +kernel))
theorem pr_w299 : Cond.methodLink RX8 86 yX4_changeByHand ∈ pr_AL := pr_in_pr_A7 _ (List.mem_of_getElem? (i := 19) (by decide +kernel))
theorem pr_w300 : Cond.instanceMethod yX4_changeByHand ∈ pr_AL := pr_in_pr_A7 _ (List.mem_of_getElem? (i := 20) (by decide +kernel))
theorem pr_w301 : Cond.selects RX4 yX4_changeByHand yX4_changeByHand ∈ pr_AL := pr_in_pr_A7 _ (List.mem_of_getElem? (i := 21) (by decide +kernel))
theorem pr_w302 : Cond.code yX8_adjust cX8_adjust 6 (some .int) ∈ pr_AL := pr_in_pr_A7 _ (List.mem_of_getElem? (i := 22) (by decide +kernel))
theorem pr_w303 : Cond.code yX8_speed cX8_speed 3 (some .int) ∈ pr_AL := pr_in_pr_A7 _ (List.mem_of_getElem? (i := 23) (by decide +kernel))
theorem pr_w304 : Cond.code yX8_isDisturbance cX8_isDisturbance 2 (some .boolean) ∈ pr_AL := pr_in_pr_A7 _ (List.mem_of_getElem? (i := 24) (by decide +kernel))
theorem pr_w305 : Cond.methodLink RX8 104 yX8_isDisturbance ∈ pr_AL := pr_in_pr_A7 _ (List.mem_of_getElem? (i := 25) (by decide +kernel))
theorem pr_w306 : Cond.static yX8_isDisturbance ∈ pr_AL := pr_in_pr_A7 _ (List.mem_of_getElem? (i := 26) (by decide +kernel))
theorem pr_w307 : Cond.methodLink RX8 107 yX4_beDisturbed ∈ pr_AL := pr_in_pr_A7 _ (List.mem_of_getElem? (i := 27) (by decide +kernel))
theorem pr_w308 : Cond.code yX8_disturb cX8_disturb 5 (some .int) ∈ pr_AL := pr_in_pr_A7 _ (List.mem_of_getElem? (i := 28) (by decide +kernel))
theorem pr_w309 : Cond.code yX8_hide cX8_hide 5 (some .int) ∈ pr_AL := pr_in_pr_A7 _ (List.mem_of_getElem? (i := 29) (by decide +kernel))
theorem pr_w310 : Cond.code yX8_falseMark cX8_falseMark 6 (some .int) ∈ pr_AL := pr_in_pr_A7 _ (List.mem_of_getElem? (i := 30) (by decide +kernel))
theorem pr_w311 : Cond.methodLink RX8 125 yX3_startSplice ∈ pr_AL := pr_in_pr_A7 _ (List.mem_of_getElem? (i := 31) (by decide +kernel))
theorem pr_w312 : Cond.instanceMethod yX3_startSplice ∈ pr_AL := pr_in_pr_A7 _ (List.mem_of_getElem? (i := 32) (by decide +kernel))
theorem pr_w313 : Cond.selects RX3 yX3_startSplice yX3_startSplice ∈ pr_AL := pr_in_pr_A7 _ (List.mem_of_getElem? (i := 33) (by decide +kernel))
theorem pr_w314 : Cond.methodLink RX8 128 yX3_repeatsToLastUnit ∈ pr_AL := pr_in_pr_A7 _ (List.mem_of_getElem? (i := 34) (by decide +kernel))
theorem pr_w315 : Cond.instanceMethod yX3_repeatsToLastUnit ∈ pr_AL := pr_in_pr_A7 _ (List.mem_of_getElem? (i := 35) (by decide +kernel))
theorem pr_w316 : Cond.selects RX3 yX3_repeatsToLastUnit yX3_repeatsToLastUnit ∈ pr_AL := pr_in_pr_A7 _ (List.mem_of_getElem? (i := 36) (by decide +kernel))
theorem pr_w317 : Cond.code yX8_splice cX8_splice 3 (some .int) ∈ pr_AL := pr_in_pr_A7 _ (List.mem_of_getElem? (i := 37) (by decide +kernel))
theorem pr_w318 : Cond.constant RX8 132 (100000) ∈ pr_AL := pr_in_pr_A7 _ (List.mem_of_getElem? (i := 38) (by decide +kernel))
theorem pr_w319 : Cond.methodLink RX8 133 yX3_makeRepeat ∈ pr_AL := pr_in_pr_A7 _ (List.mem_of_getElem? (i := 39) (by decide +kernel))
theorem pr_w320 : Cond.instanceMethod yX3_makeRepeat ∈ pr_AL := pr_in_pr_A8 _ (List.mem_of_getElem? (i := 0) (by decide +kernel))
theorem pr_w321 : Cond.selects RX3 yX3_makeRepeat yX3_makeRepeat ∈ pr_AL := pr_in_pr_A8 _ (List.mem_of_getElem? (i := 1) (by decide +kernel))
theorem pr_w322 : Cond.code yX8_run cX8_run 3 (some .int) ∈ pr_AL := pr_in_pr_A8 _ (List.mem_of_getElem? (i := 2) (by decide +kernel))
theorem pr_w323 : Cond.constant RX8 152 (-1000000006) ∈ pr_AL := pr_in_pr_A8 _ (List.mem_of_getElem? (i := 3) (by decide +kernel))
theorem pr_w324 : Cond.methodLink RX8 136 yX4_offsetAt ∈ pr_AL := pr_in_pr_A8 _ (List.mem_of_getElem? (i := 4) (by decide +kernel))
theorem pr_w325 : Cond.methodLink RX8 139 yX4_skewAt ∈ pr_AL := pr_in_pr_A8 _ (List.mem_of_getElem? (i := 5) (by decide +kernel))
theorem pr_w326 : Cond.methodLink RX8 149 yX5_sight ∈ pr_AL := pr_in_pr_A8 _ (List.mem_of_getElem? (i := 6) (by decide +kernel))
theorem pr_w327 : Cond.instanceMethod yX5_sight ∈ pr_AL := pr_in_pr_A8 _ (List.mem_of_getElem? (i := 7) (by decide +kernel))
theorem pr_w328 : Cond.selects RX5 yX5_sight yX5_sight ∈ pr_AL := pr_in_pr_A8 _ (List.mem_of_getElem? (i := 8) (by decide +kernel))
theorem pr_w329 : Cond.code yX8_seen cX8_seen 6 (some .int) ∈ pr_AL := pr_in_pr_A8 _ (List.mem_of_getElem? (i := 9) (by decide +kernel))
theorem pr_w330 : Cond.methodLink RX8 174 yX3_wayOf ∈ pr_AL := pr_in_pr_A8 _ (List.mem_of_getElem? (i := 10) (by decide +kernel))
theorem pr_w331 : Cond.code yX8_state cX8_state 4 (some .int) ∈ pr_AL := pr_in_pr_A8 _ (List.mem_of_getElem? (i := 11) (by decide +kernel))
theorem pr_w332 : Cond.methodLink RX8 177 yX3_controlledUnitAt ∈ pr_AL := pr_in_pr_A8 _ (List.mem_of_getElem? (i := 12) (by decide +kernel))
theorem pr_w333 : Cond.instanceMethod yX3_controlledUnitAt ∈ pr_AL := pr_in_pr_A8 _ (List.mem_of_getElem? (i := 13) (by decide +kernel))
theorem pr_w334 : Cond.selects RX3 yX3_controlledUnitAt yX3_controlledUnitAt ∈ pr_AL := pr_in_pr_A8 _ (List.mem_of_getElem? (i := 14) (by decide +kernel))
theorem pr_w335 : Cond.methodLink RX8 184 yX1_greatest ∈ pr_AL := pr_in_pr_A8 _ (List.mem_of_getElem? (i := 15) (by decide +kernel))
theorem pr_w336 : Cond.instanceMethod yX1_greatest ∈ pr_AL := pr_in_pr_A8 _ (List.mem_of_getElem? (i := 16) (by decide +kernel))
theorem pr_w337 : Cond.selects RX1 yX1_greatest yX1_greatest ∈ pr_AL := pr_in_pr_A8 _ (List.mem_of_getElem? (i := 17) (by decide +kernel))
theorem pr_w338 : Cond.methodLink RX8 189 yX1_sumOf ∈ pr_AL := pr_in_pr_A8 _ (List.mem_of_getElem? (i := 18) (by decide +kernel))
theorem pr_w339 : Cond.instanceMethod yX1_sumOf ∈ pr_AL := pr_in_pr_A8 _ (List.mem_of_getElem? (i := 19) (by decide +kernel))
theorem pr_w340 : Cond.selects RX1 yX1_sumOf yX1_sumOf ∈ pr_AL := pr_in_pr_A8 _ (List.mem_of_getElem? (i := 20) (by decide +kernel))
theorem pr_w341 : Cond.methodLink RX8 192 yX1_kept ∈ pr_AL := pr_in_pr_A8 _ (List.mem_of_getElem? (i := 21) (by decide +kernel))
theorem pr_w342 : Cond.methodLink RX8 195 yX1_greaterThan ∈ pr_AL := pr_in_pr_A8 _ (List.mem_of_getElem? (i := 22) (by decide +kernel))
theorem pr_w343 : Cond.instanceMethod yX1_greaterThan ∈ pr_AL := pr_in_pr_A8 _ (List.mem_of_getElem? (i := 23) (by decide +kernel))
theorem pr_w344 : Cond.selects RX1 yX1_greaterThan yX1_greaterThan ∈ pr_AL := pr_in_pr_A8 _ (List.mem_of_getElem? (i := 24) (by decide +kernel))
theorem pr_w345 : Cond.code yX8_errors cX8_errors 6 (some .int) ∈ pr_AL := pr_in_pr_A8 _ (List.mem_of_getElem? (i := 25) (by decide +kernel))
theorem pr_w346 : Cond.code yX8_total cX8_total 2 (some .int) ∈ pr_AL := pr_in_pr_A8 _ (List.mem_of_getElem? (i := 26) (by decide +kernel))
theorem pr_w347 : Cond.code yX8_count cX8_count 2 (some .int) ∈ pr_AL := pr_in_pr_A8 _ (List.mem_of_getElem? (i := 27) (by decide +kernel))
theorem pr_w348 : Cond.code yJ9_abs_0f7a4 cJ9_abs_0f7a4 1 (some .int) ∈ pr_AL := pr_in_pr_A8 _ (List.mem_of_getElem? (i := 28) (by decide +kernel))
theorem pr_w349 : Cond.code yJ9_max_7cf53 cJ9_max_7cf53 2 (some .int) ∈ pr_AL := pr_in_pr_A8 _ (List.mem_of_getElem? (i := 29) (by decide +kernel))
theorem pr_w350 : Cond.code yJ9_min_7cf53 cJ9_min_7cf53 2 (some .int) ∈ pr_AL := pr_in_pr_A8 _ (List.mem_of_getElem? (i := 30) (by decide +kernel))
theorem pr_w351 : Cond.code yL_cell cL_cell 3 (some .int) ∈ pr_AL := pr_in_pr_A8 _ (List.mem_of_getElem? (i := 31) (by decide +kernel))
theorem pr_w352 : Cond.constant RL 7 (4194303) ∈ pr_AL := pr_in_pr_A8 _ (List.mem_of_getElem? (i := 32) (by decide +kernel))
theorem pr_w353 : Cond.code yL_limited cL_limited 2 (some .int) ∈ pr_AL := pr_in_pr_A8 _ (List.mem_of_getElem? (i := 33) (by decide +kernel))
theorem pr_w354 : Cond.code yL_size cL_size 1 (some .int) ∈ pr_AL := pr_in_pr_A8 _ (List.mem_of_getElem? (i := 34) (by decide +kernel))
theorem pr_w355 : Cond.methodLink RL 8 yX8_state ∈ pr_AL := pr_in_pr_A8 _ (List.mem_of_getElem? (i := 35) (by decide +kernel))
theorem pr_w356 : Cond.instanceMethod yX8_state ∈ pr_AL := pr_in_pr_A8 _ (List.mem_of_getElem? (i := 36) (by decide +kernel))
theorem pr_w357 : Cond.selects RX8 yX8_state yX8_state ∈ pr_AL := pr_in_pr_A8 _ (List.mem_of_getElem? (i := 37) (by decide +kernel))
theorem pr_w358 : Cond.code yL_lay cL_lay 4 none ∈ pr_AL := pr_in_pr_A8 _ (List.mem_of_getElem? (i := 38) (by decide +kernel))
theorem pr_w359 : Cond.code yL_value cL_value 2 (some .int) ∈ pr_AL := pr_in_pr_A8 _ (List.mem_of_getElem? (i := 39) (by decide +kernel))
theorem pr_w360 : Cond.methodLink RL 16 yL_value ∈ pr_AL := pr_in_pr_A9 _ (List.mem_of_getElem? (i := 0) (by decide +kernel))
theorem pr_w361 : Cond.static yL_value ∈ pr_AL := pr_in_pr_A9 _ (List.mem_of_getElem? (i := 1) (by decide +kernel))
theorem pr_w362 : Cond.initialized RL ∈ pr_AL := pr_in_pr_A9 _ (List.mem_of_getElem? (i := 2) (by decide +kernel))
theorem pr_w363 : Cond.methodLink RL 20 yX8_get ∈ pr_AL := pr_in_pr_A9 _ (List.mem_of_getElem? (i := 3) (by decide +kernel))
theorem pr_w364 : Cond.instanceMethod yX8_get ∈ pr_AL := pr_in_pr_A9 _ (List.mem_of_getElem? (i := 4) (by decide +kernel))
theorem pr_w365 : Cond.selects RX8 yX8_get yX8_get ∈ pr_AL := pr_in_pr_A9 _ (List.mem_of_getElem? (i := 5) (by decide +kernel))
theorem pr_w366 : Cond.methodLink RL 23 yX8_seen ∈ pr_AL := pr_in_pr_A9 _ (List.mem_of_getElem? (i := 6) (by decide +kernel))
theorem pr_w367 : Cond.instanceMethod yX8_seen ∈ pr_AL := pr_in_pr_A9 _ (List.mem_of_getElem? (i := 7) (by decide +kernel))
theorem pr_w368 : Cond.selects RX8 yX8_seen yX8_seen ∈ pr_AL := pr_in_pr_A9 _ (List.mem_of_getElem? (i := 8) (by decide +kernel))
theorem pr_w369 : Cond.code yL_isPrinted cL_isPrinted 8 (some .boolean) ∈ pr_AL := pr_in_pr_A9 _ (List.mem_of_getElem? (i := 9) (by decide +kernel))
theorem pr_w370 : Cond.constant RL 30 (-1000000006) ∈ pr_AL := pr_in_pr_A9 _ (List.mem_of_getElem? (i := 10) (by decide +kernel))
theorem pr_w371 : Cond.methodLink RL 26 yL_size ∈ pr_AL := pr_in_pr_A9 _ (List.mem_of_getElem? (i := 11) (by decide +kernel))
theorem pr_w372 : Cond.static yL_size ∈ pr_AL := pr_in_pr_A9 _ (List.mem_of_getElem? (i := 12) (by decide +kernel))
theorem pr_w373 : Cond.methodLink RL 31 yL_limited ∈ pr_AL := pr_in_pr_A9 _ (List.mem_of_getElem? (i := 13) (by decide +kernel))
theorem pr_w374 : Cond.static yL_limited ∈ pr_AL := pr_in_pr_A9 _ (List.mem_of_getElem? (i := 14) (by decide +kernel))
theorem pr_w375 : Cond.code yL_isSeen cL_isSeen 21 (some .boolean) ∈ pr_AL := pr_in_pr_A9 _ (List.mem_of_getElem? (i := 15) (by decide +kernel))
theorem pr_w376 : Cond.code yL_isPassed cL_isPassed 5 (some .boolean) ∈ pr_AL := pr_in_pr_A9 _ (List.mem_of_getElem? (i := 16) (by decide +kernel))
theorem pr_w377 : Cond.methodLink RL 34 yL_cell ∈ pr_AL := pr_in_pr_A9 _ (List.mem_of_getElem? (i := 17) (by decide +kernel))
theorem pr_w378 : Cond.static yL_cell ∈ pr_AL := pr_in_pr_A9 _ (List.mem_of_getElem? (i := 18) (by decide +kernel))
theorem pr_w379 : Cond.methodLink RL 38 yX8_set ∈ pr_AL := pr_in_pr_A9 _ (List.mem_of_getElem? (i := 19) (by decide +kernel))
theorem pr_w380 : Cond.instanceMethod yX8_set ∈ pr_AL := pr_in_pr_A9 _ (List.mem_of_getElem? (i := 20) (by decide +kernel))
theorem pr_w381 : Cond.selects RX8 yX8_set yX8_set ∈ pr_AL := pr_in_pr_A9 _ (List.mem_of_getElem? (i := 21) (by decide +kernel))
theorem pr_w382 : Cond.methodLink RL 42 yX8_adjust ∈ pr_AL := pr_in_pr_A9 _ (List.mem_of_getElem? (i := 22) (by decide +kernel))
theorem pr_w383 : Cond.instanceMethod yX8_adjust ∈ pr_AL := pr_in_pr_A9 _ (List.mem_of_getElem? (i := 23) (by decide +kernel))
theorem pr_w384 : Cond.selects RX8 yX8_adjust yX8_adjust ∈ pr_AL := pr_in_pr_A9 _ (List.mem_of_getElem? (i := 24) (by decide +kernel))
theorem pr_w385 : Cond.code yL_settings cL_settings 4 none ∈ pr_AL := pr_in_pr_A9 _ (List.mem_of_getElem? (i := 25) (by decide +kernel))
theorem pr_w386 : Cond.code yL_comes cL_comes 6 none ∈ pr_AL := pr_in_pr_A9 _ (List.mem_of_getElem? (i := 26) (by decide +kernel))
theorem pr_w387 : Cond.classLink RL 9 RX8 ∈ pr_AL := pr_in_pr_A9 _ (List.mem_of_getElem? (i := 27) (by decide +kernel))
theorem pr_w388 : Cond.instantiable RX8 5 ∈ pr_AL := pr_in_pr_A9 _ (List.mem_of_getElem? (i := 28) (by decide +kernel))
theorem pr_w389 : Cond.constant RL 100 (-1000000001) ∈ pr_AL := pr_in_pr_A9 _ (List.mem_of_getElem? (i := 29) (by decide +kernel))
theorem pr_w390 : Cond.methodLink RL 45 yX8_init ∈ pr_AL := pr_in_pr_A9 _ (List.mem_of_getElem? (i := 30) (by decide +kernel))
theorem pr_w391 : Cond.instanceMethod yX8_init ∈ pr_AL := pr_in_pr_A9 _ (List.mem_of_getElem? (i := 31) (by decide +kernel))
theorem pr_w392 : Cond.methodLink RL 46 yX8_setUp ∈ pr_AL := pr_in_pr_A9 _ (List.mem_of_getElem? (i := 32) (by decide +kernel))
theorem pr_w393 : Cond.instanceMethod yX8_setUp ∈ pr_AL := pr_in_pr_A9 _ (List.mem_of_getElem? (i := 33) (by decide +kernel))
theorem pr_w394 : Cond.selects RX8 yX8_setUp yX8_setUp ∈ pr_AL := pr_in_pr_A9 _ (List.mem_of_getElem? (i := 34) (by decide +kernel))
theorem pr_w395 : Cond.methodLink RL 49 yL_settings ∈ pr_AL := pr_in_pr_A9 _ (List.mem_of_getElem? (i := 35) (by decide +kernel))
theorem pr_w396 : Cond.static yL_settings ∈ pr_AL := pr_in_pr_A9 _ (List.mem_of_getElem? (i := 36) (by decide +kernel))
theorem pr_w397 : Cond.methodLink RL 53 yX8_speed ∈ pr_AL := pr_in_pr_A9 _ (List.mem_of_getElem? (i := 37) (by decide +kernel))
theorem pr_w398 : Cond.instanceMethod yX8_speed ∈ pr_AL := pr_in_pr_A9 _ (List.mem_of_getElem? (i := 38) (by decide +kernel))
theorem pr_w399 : Cond.selects RX8 yX8_speed yX8_speed ∈ pr_AL := pr_in_pr_A9 _ (List.mem_of_getElem? (i := 39) (by decide +kernel))
theorem pr_w400 : Cond.methodLink RL 56 yX8_disturb ∈ pr_AL := pr_in_pr_A10 _ (List.mem_of_getElem? (i := 0) (by decide +kernel))
theorem pr_w401 : Cond.instanceMethod yX8_disturb ∈ pr_AL := pr_in_pr_A10 _ (List.mem_of_getElem? (i := 1) (by decide +kernel))
theorem pr_w402 : Cond.selects RX8 yX8_disturb yX8_disturb ∈ pr_AL := pr_in_pr_A10 _ (List.mem_of_getElem? (i := 2) (by decide +kernel))
theorem pr_w403 : Cond.methodLink RL 59 yX8_hide ∈ pr_AL := pr_in_pr_A10 _ (List.mem_of_getElem? (i := 3) (by decide +kernel))
theorem pr_w404 : Cond.instanceMethod yX8_hide ∈ pr_AL := pr_in_pr_A10 _ (List.mem_of_getElem? (i := 4) (by decide +kernel))
theorem pr_w405 : Cond.selects RX8 yX8_hide yX8_hide ∈ pr_AL := pr_in_pr_A10 _ (List.mem_of_getElem? (i := 5) (by decide +kernel))
theorem pr_w406 : Cond.methodLink RL 62 yX8_falseMark ∈ pr_AL := pr_in_pr_A10 _ (List.mem_of_getElem? (i := 6) (by decide +kernel))
theorem pr_w407 : Cond.instanceMethod yX8_falseMark ∈ pr_AL := pr_in_pr_A10 _ (List.mem_of_getElem? (i := 7) (by decide +kernel))
theorem pr_w408 : Cond.selects RX8 yX8_falseMark yX8_falseMark ∈ pr_AL := pr_in_pr_A10 _ (List.mem_of_getElem? (i := 8) (by decide +kernel))
theorem pr_w409 : Cond.methodLink RL 65 yX8_splice ∈ pr_AL := pr_in_pr_A10 _ (List.mem_of_getElem? (i := 9) (by decide +kernel))
theorem pr_w410 : Cond.instanceMethod yX8_splice ∈ pr_AL := pr_in_pr_A10 _ (List.mem_of_getElem? (i := 10) (by decide +kernel))
theorem pr_w411 : Cond.selects RX8 yX8_splice yX8_splice ∈ pr_AL := pr_in_pr_A10 _ (List.mem_of_getElem? (i := 11) (by decide +kernel))
theorem pr_w412 : Cond.methodLink RL 68 yL_lay ∈ pr_AL := pr_in_pr_A10 _ (List.mem_of_getElem? (i := 12) (by decide +kernel))
theorem pr_w413 : Cond.static yL_lay ∈ pr_AL := pr_in_pr_A10 _ (List.mem_of_getElem? (i := 13) (by decide +kernel))
theorem pr_w414 : Cond.methodLink RL 72 yX8_count ∈ pr_AL := pr_in_pr_A10 _ (List.mem_of_getElem? (i := 14) (by decide +kernel))
theorem pr_w415 : Cond.instanceMethod yX8_count ∈ pr_AL := pr_in_pr_A10 _ (List.mem_of_getElem? (i := 15) (by decide +kernel))
theorem pr_w416 : Cond.selects RX8 yX8_count yX8_count ∈ pr_AL := pr_in_pr_A10 _ (List.mem_of_getElem? (i := 16) (by decide +kernel))
theorem pr_w417 : Cond.methodLink RL 75 yL_comes ∈ pr_AL := pr_in_pr_A10 _ (List.mem_of_getElem? (i := 17) (by decide +kernel))
theorem pr_w418 : Cond.static yL_comes ∈ pr_AL := pr_in_pr_A10 _ (List.mem_of_getElem? (i := 18) (by decide +kernel))
theorem pr_w419 : Cond.methodLink RL 79 yX8_run ∈ pr_AL := pr_in_pr_A10 _ (List.mem_of_getElem? (i := 19) (by decide +kernel))
theorem pr_w420 : Cond.instanceMethod yX8_run ∈ pr_AL := pr_in_pr_A10 _ (List.mem_of_getElem? (i := 20) (by decide +kernel))
theorem pr_w421 : Cond.selects RX8 yX8_run yX8_run ∈ pr_AL := pr_in_pr_A10 _ (List.mem_of_getElem? (i := 21) (by decide +kernel))
theorem pr_w422 : Cond.methodLink RL 82 yL_isPrinted ∈ pr_AL := pr_in_pr_A10 _ (List.mem_of_getElem? (i := 22) (by decide +kernel))
theorem pr_w423 : Cond.static yL_isPrinted ∈ pr_AL := pr_in_pr_A10 _ (List.mem_of_getElem? (i := 23) (by decide +kernel))
theorem pr_w424 : Cond.methodLink RL 86 yL_isSeen ∈ pr_AL := pr_in_pr_A10 _ (List.mem_of_getElem? (i := 24) (by decide +kernel))
theorem pr_w425 : Cond.static yL_isSeen ∈ pr_AL := pr_in_pr_A10 _ (List.mem_of_getElem? (i := 25) (by decide +kernel))
theorem pr_w426 : Cond.methodLink RL 90 yL_isPassed ∈ pr_AL := pr_in_pr_A10 _ (List.mem_of_getElem? (i := 26) (by decide +kernel))
theorem pr_w427 : Cond.static yL_isPassed ∈ pr_AL := pr_in_pr_A10 _ (List.mem_of_getElem? (i := 27) (by decide +kernel))
theorem pr_w428 : Cond.methodLink RL 94 yX8_errors ∈ pr_AL := pr_in_pr_A10 _ (List.mem_of_getElem? (i := 28) (by decide +kernel))
theorem pr_w429 : Cond.instanceMethod yX8_errors ∈ pr_AL := pr_in_pr_A10 _ (List.mem_of_getElem? (i := 29) (by decide +kernel))
theorem pr_w430 : Cond.selects RX8 yX8_errors yX8_errors ∈ pr_AL := pr_in_pr_A10 _ (List.mem_of_getElem? (i := 30) (by decide +kernel))
theorem pr_w431 : Cond.methodLink RL 97 yX8_total ∈ pr_AL := pr_in_pr_A10 _ (List.mem_of_getElem? (i := 31) (by decide +kernel))
theorem pr_w432 : Cond.instanceMethod yX8_total ∈ pr_AL := pr_in_pr_A10 _ (List.mem_of_getElem? (i := 32) (by decide +kernel))
theorem pr_w433 : Cond.selects RX8 yX8_total yX8_total ∈ pr_AL := pr_in_pr_A10 _ (List.mem_of_getElem? (i := 33) (by decide +kernel))
def pr_NF : List (String × Nat × String × String × String) := [("PrintRegister$Unit", 118, "PrintRegister$Printer", "phase", "I"), ("PrintRegister$Unit", 121, "PrintRegister$Printer", "skewSetting", "I"), ("PrintRegister", 171, "PrintRegister$Printer", "disturbanceLeft", "I"), ("PrintRegister$Unit", 127, "PrintRegister$Printer", "disturbanceLeft", "I"), ("PrintRegister$Unit", 77, "PrintRegister$Controller", "feed", "I"), ("PrintRegister", 93, "PrintRegister$Controller", "feed", "I"), ("PrintRegister$Unit", 66, "PrintRegister$Controller", "sum", "I"), ("PrintRegister", 153, "PrintRegister$Controller", "sum", "I"), ("PrintRegister$Press", 158, "PrintRegister$Controller", "wait", "I"), ("PrintRegister", 156, "PrintRegister$Controller", "wait", "I"), ("PrintRegister$Unit", 100, "PrintRegister$Controller", "misses", "I"), ("PrintRegister", 159, "PrintRegister$Controller", "misses", "I"), ("PrintRegister$Unit", 74, "PrintRegister$Controller", "readyTime", "I"), ("PrintRegister", 162, "PrintRegister$Controller", "readyTime", "I"), ("PrintRegister$Unit", 83, "PrintRegister$Controller", "expectedError", "I"), ("PrintRegister", 165, "PrintRegister$Controller", "expectedError", "I"), ("PrintRegister$Unit", 86, "PrintRegister$Controller", "expectedSkew", "I"), ("PrintRegister", 168, "PrintRegister$Controller", "expectedSkew", "I"), ("PrintRegister$Press", 176, "PrintRegister$Controller", "addedPhase", "I"), ("PrintRegister$Press", 182, "PrintRegister$Controller", "addedSkew", "I"), ("PrintRegister", 180, "PrintRegister$Sensor", "log", "LPrintRegister$ErrorLog;"), ("PrintRegister", 114, "PrintRegister$Sensor", "hiddenLeft", "I"), ("PrintRegister$Unit", 133, "PrintRegister$Sensor", "hiddenLeft", "I"), ("PrintRegister", 122, "PrintRegister$Sensor", "falseOffset", "I"), ("PrintRegister", 119, "PrintRegister$Sensor", "falseLeft", "I"), ("PrintRegister$Unit", 136, "PrintRegister$Sensor", "falseLeft", "I"), ("PrintRegister", 142, "PrintRegister$Sensor", "sawPiece", "Z"), ("PrintRegister$Unit", 97, "PrintRegister$Sensor", "recognized", "I"), ("PrintRegister$Press", 141, "PrintRegister$Sensor", "recognized", "I"), ("PrintRegister", 146, "PrintRegister$Sensor", "recognized", "I"), ("PrintRegister$Unit", 108, "PrintRegister$Sensor", "offset", "I"), ("PrintRegister$Press", 163, "PrintRegister$Sensor", "offset", "I"), ("PrintRegister$Unit", 115, "PrintRegister$Sensor", "skew", "I"), ("PrintRegister$Press", 169, "PrintRegister$Sensor", "skew", "I"), ("PrintRegister", 77, "PrintRegister$Unit", "printer", "LPrintRegister$Printer;"), ("PrintRegister$Press", 122, "PrintRegister$Unit", "printer", "LPrintRegister$Printer;"), ("PrintRegister$Press", 154, "PrintRegister$Unit", "controller", "LPrintRegister$Controller;"), ("PrintRegister", 89, "PrintRegister$Unit", "controller", "LPrintRegister$Controller;"), ("PrintRegister", 110, "PrintRegister$Unit", "sensor", "LPrintRegister$Sensor;"), ("PrintRegister$Press", 77, "PrintRegister$Unit", "sensor", "LPrintRegister$Sensor;"), ("PrintRegister", 199, "PrintRegister$Press", "totals", "[I"), ("PrintRegister", 240, "PrintRegister$Press", "unitCount", "I"), ("PrintRegister", 45, "PrintRegister$Press", "time", "I"), ("PrintRegister", 101, "PrintRegister$Press", "speedNow", "I"), ("PrintRegister", 217, "PrintRegister$Pad", "length", "I"), ("PrintRegister$Unit", 36, "PrintRegister", "FIRST_SETTINGS", "[I")]
def pr_NM : List (String × Nat × MethodName) := [("PrintRegister$Press", 24, ⟨"PrintRegister$Unit", "<init>", "()V"⟩), ("PrintRegister$Unit", 17, ⟨"PrintRegister$Printer", "<init>", "()V"⟩), ("PrintRegister$Unit", 24, ⟨"PrintRegister$Controller", "<init>", "()V"⟩), ("PrintRegister$Unit", 31, ⟨"PrintRegister$Sensor", "<init>", "()V"⟩), ("PrintRegister$Sensor", 11, ⟨"PrintRegister$ErrorLog", "<init>", "()V"⟩), ("PrintRegister", 21, ⟨"PrintRegister$Slot", "<init>", "()V"⟩), ("PrintRegister", 31, ⟨"PrintRegister$Pad", "<init>", "()V"⟩), ("PrintRegister$Unit", 111, ⟨"PrintRegister", "limited", "(II)I"⟩), ("PrintRegister$Controller", 37, ⟨"PrintRegister", "lessOne", "(I)I"⟩), ("PrintRegister$Unit", 130, ⟨"PrintRegister", "lessOne", "(I)I"⟩)]
def pr_NW : List Cond := pr_NF.map (fun q => .fieldLinkNest q.1 q.2.1 q.2.2.1 q.2.2.2.1 q.2.2.2.2 "PrintRegister") ++ pr_NM.map (fun q => .methodLinkNest q.1 q.2.1 q.2.2 "PrintRegister")
theorem pr_nf0 : Cond.fieldLinkNest RX7 118 "PrintRegister$Printer" "phase" "I" "PrintRegister" ∈ pr_NW := List.mem_append_left _ (List.mem_map.mpr ⟨("PrintRegister$Unit", 118, "PrintRegister$Printer", "phase", "I"), List.mem_of_getElem? (i := 0) (by decide +kernel), rfl⟩)
theorem pr_nf1 : Cond.fieldLinkNest RX7 121 "PrintRegister$Printer" "skewSetting" "I" "PrintRegister" ∈ pr_NW := List.mem_append_left _ (List.mem_map.mpr ⟨("PrintRegister$Unit", 121, "PrintRegister$Printer", "skewSetting", "I"), List.mem_of_getElem? (i := 1) (by decide +kernel), rfl⟩)
theorem pr_nf2 : Cond.fieldLinkNest RX8 171 "PrintRegister$Printer" "disturbanceLeft" "I" "PrintRegister" ∈ pr_NW := List.mem_append_left _ (List.mem_map.mpr ⟨("PrintRegister", 171, "PrintRegister$Printer", "disturbanceLeft", "I"), List.mem_of_getElem? (i := 2) (by decide +kernel), rfl⟩)
theorem pr_nf3 : Cond.fieldLinkNest RX7 127 "PrintRegister$Printer" "disturbanceLeft" "I" "PrintRegister" ∈ pr_NW := List.mem_append_left _ (List.mem_map.mpr ⟨("PrintRegister$Unit", 127, "PrintRegister$Printer", "disturbanceLeft", "I"), List.mem_of_getElem? (i := 3) (by decide +kernel), rfl⟩)
theorem pr_nf4 : Cond.fieldLinkNest RX7 77 "PrintRegister$Controller" "feed" "I" "PrintRegister" ∈ pr_NW := List.mem_append_left _ (List.mem_map.mpr ⟨("PrintRegister$Unit", 77, "PrintRegister$Controller", "feed", "I"), List.mem_of_getElem? (i := 4) (by decide +kernel), rfl⟩)
theorem pr_nf5 : Cond.fieldLinkNest RX8 93 "PrintRegister$Controller" "feed" "I" "PrintRegister" ∈ pr_NW := List.mem_append_left _ (List.mem_map.mpr ⟨("PrintRegister", 93, "PrintRegister$Controller", "feed", "I"), List.mem_of_getElem? (i := 5) (by decide +kernel), rfl⟩)
theorem pr_nf6 : Cond.fieldLinkNest RX7 66 "PrintRegister$Controller" "sum" "I" "PrintRegister" ∈ pr_NW := List.mem_append_left _ (List.mem_map.mpr ⟨("PrintRegister$Unit", 66, "PrintRegister$Controller", "sum", "I"), List.mem_of_getElem? (i := 6) (by decide +kernel), rfl⟩)
theorem pr_nf7 : Cond.fieldLinkNest RX8 153 "PrintRegister$Controller" "sum" "I" "PrintRegister" ∈ pr_NW := List.mem_append_left _ (List.mem_map.mpr ⟨("PrintRegister", 153, "PrintRegister$Controller", "sum", "I"), List.mem_of_getElem? (i := 7) (by decide +kernel), rfl⟩)
theorem pr_nf8 : Cond.fieldLinkNest RX3 158 "PrintRegister$Controller" "wait" "I" "PrintRegister" ∈ pr_NW := List.mem_append_left _ (List.mem_map.mpr ⟨("PrintRegister$Press", 158, "PrintRegister$Controller", "wait", "I"), List.mem_of_getElem? (i := 8) (by decide +kernel), rfl⟩)
theorem pr_nf9 : Cond.fieldLinkNest RX8 156 "PrintRegister$Controller" "wait" "I" "PrintRegister" ∈ pr_NW := List.mem_append_left _ (List.mem_map.mpr ⟨("PrintRegister", 156, "PrintRegister$Controller", "wait", "I"), List.mem_of_getElem? (i := 9) (by decide +kernel), rfl⟩)
theorem pr_nf10 : Cond.fieldLinkNest RX7 100 "PrintRegister$Controller" "misses" "I" "PrintRegister" ∈ pr_NW := List.mem_append_left _ (List.mem_map.mpr ⟨("PrintRegister$Unit", 100, "PrintRegister$Controller", "misses", "I"), List.mem_of_getElem? (i := 10) (by decide +kernel), rfl⟩)
theorem pr_nf11 : Cond.fieldLinkNest RX8 159 "PrintRegister$Controller" "misses" "I" "PrintRegister" ∈ pr_NW := List.mem_append_left _ (List.mem_map.mpr ⟨("PrintRegister", 159, "PrintRegister$Controller", "misses", "I"), List.mem_of_getElem? (i := 11) (by decide +kernel), rfl⟩)
theorem pr_nf12 : Cond.fieldLinkNest RX7 74 "PrintRegister$Controller" "readyTime" "I" "PrintRegister" ∈ pr_NW := List.mem_append_left _ (List.mem_map.mpr ⟨("PrintRegister$Unit", 74, "PrintRegister$Controller", "readyTime", "I"), List.mem_of_getElem? (i := 12) (by decide +kernel), rfl⟩)
theorem pr_nf13 : Cond.fieldLinkNest RX8 162 "PrintRegister$Controller" "readyTime" "I" "PrintRegister" ∈ pr_NW := List.mem_append_left _ (List.mem_map.mpr ⟨("PrintRegister", 162, "PrintRegister$Controller", "readyTime", "I"), List.mem_of_getElem? (i := 13) (by decide +kernel), rfl⟩)
theorem pr_nf14 : Cond.fieldLinkNest RX7 83 "PrintRegister$Controller" "expectedError" "I" "PrintRegister" ∈ pr_NW := List.mem_append_left _ (List.mem_map.mpr ⟨("PrintRegister$Unit", 83, "PrintRegister$Controller", "expectedError", "I"), List.mem_of_getElem? (i := 14) (by decide +kernel), rfl⟩)
theorem pr_nf15 : Cond.fieldLinkNest RX8 165 "PrintRegister$Controller" "expectedError" "I" "PrintRegister" ∈ pr_NW := List.mem_append_left _ (List.mem_map.mpr ⟨("PrintRegister", 165, "PrintRegister$Controller", "expectedError", "I"), List.mem_of_getElem? (i := 15) (by decide +kernel), rfl⟩)
theorem pr_nf16 : Cond.fieldLinkNest RX7 86 "PrintRegister$Controller" "expectedSkew" "I" "PrintRegister" ∈ pr_NW := List.mem_append_left _ (List.mem_map.mpr ⟨("PrintRegister$Unit", 86, "PrintRegister$Controller", "expectedSkew", "I"), List.mem_of_getElem? (i := 16) (by decide +kernel), rfl⟩)
theorem pr_nf17 : Cond.fieldLinkNest RX8 168 "PrintRegister$Controller" "expectedSkew" "I" "PrintRegister" ∈ pr_NW := List.mem_append_left _ (List.mem_map.mpr ⟨("PrintRegister", 168, "PrintRegister$Controller", "expectedSkew", "I"), List.mem_of_getElem? (i := 17) (by decide +kernel), rfl⟩)
theorem pr_nf18 : Cond.fieldLinkNest RX3 176 "PrintRegister$Controller" "addedPhase" "I" "PrintRegister" ∈ pr_NW := List.mem_append_left _ (List.mem_map.mpr ⟨("PrintRegister$Press", 176, "PrintRegister$Controller", "addedPhase", "I"), List.mem_of_getElem? (i := 18) (by decide +kernel), rfl⟩)
theorem pr_nf19 : Cond.fieldLinkNest RX3 182 "PrintRegister$Controller" "addedSkew" "I" "PrintRegister" ∈ pr_NW := List.mem_append_left _ (List.mem_map.mpr ⟨("PrintRegister$Press", 182, "PrintRegister$Controller", "addedSkew", "I"), List.mem_of_getElem? (i := 19) (by decide +kernel), rfl⟩)
theorem pr_nf20 : Cond.fieldLinkNest RX8 180 "PrintRegister$Sensor" "log" "LPrintRegister$ErrorLog;" "PrintRegister" ∈ pr_NW := List.mem_append_left _ (List.mem_map.mpr ⟨("PrintRegister", 180, "PrintRegister$Sensor", "log", "LPrintRegister$ErrorLog;"), List.mem_of_getElem? (i := 20) (by decide +kernel), rfl⟩)
theorem pr_nf21 : Cond.fieldLinkNest RX8 114 "PrintRegister$Sensor" "hiddenLeft" "I" "PrintRegister" ∈ pr_NW := List.mem_append_left _ (List.mem_map.mpr ⟨("PrintRegister", 114, "PrintRegister$Sensor", "hiddenLeft", "I"), List.mem_of_getElem? (i := 21) (by decide +kernel), rfl⟩)
theorem pr_nf22 : Cond.fieldLinkNest RX7 133 "PrintRegister$Sensor" "hiddenLeft" "I" "PrintRegister" ∈ pr_NW := List.mem_append_left _ (List.mem_map.mpr ⟨("PrintRegister$Unit", 133, "PrintRegister$Sensor", "hiddenLeft", "I"), List.mem_of_getElem? (i := 22) (by decide +kernel), rfl⟩)
theorem pr_nf23 : Cond.fieldLinkNest RX8 122 "PrintRegister$Sensor" "falseOffset" "I" "PrintRegister" ∈ pr_NW := List.mem_append_left _ (List.mem_map.mpr ⟨("PrintRegister", 122, "PrintRegister$Sensor", "falseOffset", "I"), List.mem_of_getElem? (i := 23) (by decide +kernel), rfl⟩)
theorem pr_nf24 : Cond.fieldLinkNest RX8 119 "PrintRegister$Sensor" "falseLeft" "I" "PrintRegister" ∈ pr_NW := List.mem_append_left _ (List.mem_map.mpr ⟨("PrintRegister", 119, "PrintRegister$Sensor", "falseLeft", "I"), List.mem_of_getElem? (i := 24) (by decide +kernel), rfl⟩)
theorem pr_nf25 : Cond.fieldLinkNest RX7 136 "PrintRegister$Sensor" "falseLeft" "I" "PrintRegister" ∈ pr_NW := List.mem_append_left _ (List.mem_map.mpr ⟨("PrintRegister$Unit", 136, "PrintRegister$Sensor", "falseLeft", "I"), List.mem_of_getElem? (i := 25) (by decide +kernel), rfl⟩)
theorem pr_nf26 : Cond.fieldLinkNest RX8 142 "PrintRegister$Sensor" "sawPiece" "Z" "PrintRegister" ∈ pr_NW := List.mem_append_left _ (List.mem_map.mpr ⟨("PrintRegister", 142, "PrintRegister$Sensor", "sawPiece", "Z"), List.mem_of_getElem? (i := 26) (by decide +kernel), rfl⟩)
theorem pr_nf27 : Cond.fieldLinkNest RX7 97 "PrintRegister$Sensor" "recognized" "I" "PrintRegister" ∈ pr_NW := List.mem_append_left _ (List.mem_map.mpr ⟨("PrintRegister$Unit", 97, "PrintRegister$Sensor", "recognized", "I"), List.mem_of_getElem? (i := 27) (by decide +kernel), rfl⟩)
theorem pr_nf28 : Cond.fieldLinkNest RX3 141 "PrintRegister$Sensor" "recognized" "I" "PrintRegister" ∈ pr_NW := List.mem_append_left _ (List.mem_map.mpr ⟨("PrintRegister$Press", 141, "PrintRegister$Sensor", "recognized", "I"), List.mem_of_getElem? (i := 28) (by decide +kernel), rfl⟩)
theorem pr_nf29 : Cond.fieldLinkNest RX8 146 "PrintRegister$Sensor" "recognized" "I" "PrintRegister" ∈ pr_NW := List.mem_append_left _ (List.mem_map.mpr ⟨("PrintRegister", 146, "PrintRegister$Sensor", "recognized", "I"), List.mem_of_getElem? (i := 29) (by decide +kernel), rfl⟩)
theorem pr_nf30 : Cond.fieldLinkNest RX7 108 "PrintRegister$Sensor" "offset" "I" "PrintRegister" ∈ pr_NW := List.mem_append_left _ (List.mem_map.mpr ⟨("PrintRegister$Unit", 108, "PrintRegister$Sensor", "offset", "I"), List.mem_of_getElem? (i := 30) (by decide +kernel), rfl⟩)
theorem pr_nf31 : Cond.fieldLinkNest RX3 163 "PrintRegister$Sensor" "offset" "I" "PrintRegister" ∈ pr_NW := List.mem_append_left _ (List.mem_map.mpr ⟨("PrintRegister$Press", 163, "PrintRegister$Sensor", "offset", "I"), List.mem_of_getElem? (i := 31) (by decide +kernel), rfl⟩)
theorem pr_nf32 : Cond.fieldLinkNest RX7 115 "PrintRegister$Sensor" "skew" "I" "PrintRegister" ∈ pr_NW := List.mem_append_left _ (List.mem_map.mpr ⟨("PrintRegister$Unit", 115, "PrintRegister$Sensor", "skew", "I"), List.mem_of_getElem? (i := 32) (by decide +kernel), rfl⟩)
theorem pr_nf33 : Cond.fieldLinkNest RX3 169 "PrintRegister$Sensor" "skew" "I" "PrintRegister" ∈ pr_NW := List.mem_append_left _ (List.mem_map.mpr ⟨("PrintRegister$Press", 169, "PrintRegister$Sensor", "skew", "I"), List.mem_of_getElem? (i := 33) (by decide +kernel), rfl⟩)
theorem pr_nf34 : Cond.fieldLinkNest RX8 77 "PrintRegister$Unit" "printer" "LPrintRegister$Printer;" "PrintRegister" ∈ pr_NW := List.mem_append_left _ (List.mem_map.mpr ⟨("PrintRegister", 77, "PrintRegister$Unit", "printer", "LPrintRegister$Printer;"), List.mem_of_getElem? (i := 34) (by decide +kernel), rfl⟩)
theorem pr_nf35 : Cond.fieldLinkNest RX3 122 "PrintRegister$Unit" "printer" "LPrintRegister$Printer;" "PrintRegister" ∈ pr_NW := List.mem_append_left _ (List.mem_map.mpr ⟨("PrintRegister$Press", 122, "PrintRegister$Unit", "printer", "LPrintRegister$Printer;"), List.mem_of_getElem? (i := 35) (by decide +kernel), rfl⟩)
theorem pr_nf36 : Cond.fieldLinkNest RX3 154 "PrintRegister$Unit" "controller" "LPrintRegister$Controller;" "PrintRegister" ∈ pr_NW := List.mem_append_left _ (List.mem_map.mpr ⟨("PrintRegister$Press", 154, "PrintRegister$Unit", "controller", "LPrintRegister$Controller;"), List.mem_of_getElem? (i := 36) (by decide +kernel), rfl⟩)
theorem pr_nf37 : Cond.fieldLinkNest RX8 89 "PrintRegister$Unit" "controller" "LPrintRegister$Controller;" "PrintRegister" ∈ pr_NW := List.mem_append_left _ (List.mem_map.mpr ⟨("PrintRegister", 89, "PrintRegister$Unit", "controller", "LPrintRegister$Controller;"), List.mem_of_getElem? (i := 37) (by decide +kernel), rfl⟩)
theorem pr_nf38 : Cond.fieldLinkNest RX8 110 "PrintRegister$Unit" "sensor" "LPrintRegister$Sensor;" "PrintRegister" ∈ pr_NW := List.mem_append_left _ (List.mem_map.mpr ⟨("PrintRegister", 110, "PrintRegister$Unit", "sensor", "LPrintRegister$Sensor;"), List.mem_of_getElem? (i := 38) (by decide +kernel), rfl⟩)
theorem pr_nf39 : Cond.fieldLinkNest RX3 77 "PrintRegister$Unit" "sensor" "LPrintRegister$Sensor;" "PrintRegister" ∈ pr_NW := List.mem_append_left _ (List.mem_map.mpr ⟨("PrintRegister$Press", 77, "PrintRegister$Unit", "sensor", "LPrintRegister$Sensor;"), List.mem_of_getElem? (i := 39) (by decide +kernel), rfl⟩)
theorem pr_nf40 : Cond.fieldLinkNest RX8 199 "PrintRegister$Press" "totals" "[I" "PrintRegister" ∈ pr_NW := List.mem_append_left _ (List.mem_map.mpr ⟨("PrintRegister", 199, "PrintRegister$Press", "totals", "[I"), List.mem_of_getElem? (i := 40) (by decide +kernel), rfl⟩)
theorem pr_nf41 : Cond.fieldLinkNest RX8 240 "PrintRegister$Press" "unitCount" "I" "PrintRegister" ∈ pr_NW := List.mem_append_left _ (List.mem_map.mpr ⟨("PrintRegister", 240, "PrintRegister$Press", "unitCount", "I"), List.mem_of_getElem? (i := 41) (by decide +kernel), rfl⟩)
theorem pr_nf42 : Cond.fieldLinkNest RX8 45 "PrintRegister$Press" "time" "I" "PrintRegister" ∈ pr_NW := List.mem_append_left _ (List.mem_map.mpr ⟨("PrintRegister", 45, "PrintRegister$Press", "time", "I"), List.mem_of_getElem? (i := 42) (by decide +kernel), rfl⟩)
theorem pr_nf43 : Cond.fieldLinkNest RX8 101 "PrintRegister$Press" "speedNow" "I" "PrintRegister" ∈ pr_NW := List.mem_append_left _ (List.mem_map.mpr ⟨("PrintRegister", 101, "PrintRegister$Press", "speedNow", "I"), List.mem_of_getElem? (i := 43) (by decide +kernel), rfl⟩)
theorem pr_nf44 : Cond.fieldLinkNest RX8 217 "PrintRegister$Pad" "length" "I" "PrintRegister" ∈ pr_NW := List.mem_append_left _ (List.mem_map.mpr ⟨("PrintRegister", 217, "PrintRegister$Pad", "length", "I"), List.mem_of_getElem? (i := 44) (by decide +kernel), rfl⟩)
theorem pr_nf45 : Cond.fieldLinkNest RX7 36 "PrintRegister" "FIRST_SETTINGS" "[I" "PrintRegister" ∈ pr_NW := List.mem_append_left _ (List.mem_map.mpr ⟨("PrintRegister$Unit", 36, "PrintRegister", "FIRST_SETTINGS", "[I"), List.mem_of_getElem? (i := 45) (by decide +kernel), rfl⟩)
theorem pr_nm0 : Cond.methodLinkNest RX3 24 ⟨"PrintRegister$Unit", "<init>", "()V"⟩ "PrintRegister" ∈ pr_NW := List.mem_append_right _ (List.mem_map.mpr ⟨("PrintRegister$Press", 24, ⟨"PrintRegister$Unit", "<init>", "()V"⟩), List.mem_of_getElem? (i := 0) (by decide +kernel), rfl⟩)
theorem pr_nm1 : Cond.methodLinkNest RX7 17 ⟨"PrintRegister$Printer", "<init>", "()V"⟩ "PrintRegister" ∈ pr_NW := List.mem_append_right _ (List.mem_map.mpr ⟨("PrintRegister$Unit", 17, ⟨"PrintRegister$Printer", "<init>", "()V"⟩), List.mem_of_getElem? (i := 1) (by decide +kernel), rfl⟩)
theorem pr_nm2 : Cond.methodLinkNest RX7 24 ⟨"PrintRegister$Controller", "<init>", "()V"⟩ "PrintRegister" ∈ pr_NW := List.mem_append_right _ (List.mem_map.mpr ⟨("PrintRegister$Unit", 24, ⟨"PrintRegister$Controller", "<init>", "()V"⟩), List.mem_of_getElem? (i := 2) (by decide +kernel), rfl⟩)
theorem pr_nm3 : Cond.methodLinkNest RX7 31 ⟨"PrintRegister$Sensor", "<init>", "()V"⟩ "PrintRegister" ∈ pr_NW := List.mem_append_right _ (List.mem_map.mpr ⟨("PrintRegister$Unit", 31, ⟨"PrintRegister$Sensor", "<init>", "()V"⟩), List.mem_of_getElem? (i := 3) (by decide +kernel), rfl⟩)
theorem pr_nm4 : Cond.methodLinkNest RX5 11 ⟨"PrintRegister$ErrorLog", "<init>", "()V"⟩ "PrintRegister" ∈ pr_NW := List.mem_append_right _ (List.mem_map.mpr ⟨("PrintRegister$Sensor", 11, ⟨"PrintRegister$ErrorLog", "<init>", "()V"⟩), List.mem_of_getElem? (i := 4) (by decide +kernel), rfl⟩)
theorem pr_nm5 : Cond.methodLinkNest RX8 21 ⟨"PrintRegister$Slot", "<init>", "()V"⟩ "PrintRegister" ∈ pr_NW := List.mem_append_right _ (List.mem_map.mpr ⟨("PrintRegister", 21, ⟨"PrintRegister$Slot", "<init>", "()V"⟩), List.mem_of_getElem? (i := 5) (by decide +kernel), rfl⟩)
theorem pr_nm6 : Cond.methodLinkNest RX8 31 ⟨"PrintRegister$Pad", "<init>", "()V"⟩ "PrintRegister" ∈ pr_NW := List.mem_append_right _ (List.mem_map.mpr ⟨("PrintRegister", 31, ⟨"PrintRegister$Pad", "<init>", "()V"⟩), List.mem_of_getElem? (i := 6) (by decide +kernel), rfl⟩)
theorem pr_nm7 : Cond.methodLinkNest RX7 111 ⟨"PrintRegister", "limited", "(II)I"⟩ "PrintRegister" ∈ pr_NW := List.mem_append_right _ (List.mem_map.mpr ⟨("PrintRegister$Unit", 111, ⟨"PrintRegister", "limited", "(II)I"⟩), List.mem_of_getElem? (i := 7) (by decide +kernel), rfl⟩)
theorem pr_nm8 : Cond.methodLinkNest RX0 37 ⟨"PrintRegister", "lessOne", "(I)I"⟩ "PrintRegister" ∈ pr_NW := List.mem_append_right _ (List.mem_map.mpr ⟨("PrintRegister$Controller", 37, ⟨"PrintRegister", "lessOne", "(I)I"⟩), List.mem_of_getElem? (i := 8) (by decide +kernel), rfl⟩)
theorem pr_nm9 : Cond.methodLinkNest RX7 130 ⟨"PrintRegister", "lessOne", "(I)I"⟩ "PrintRegister" ∈ pr_NW := List.mem_append_right _ (List.mem_map.mpr ⟨("PrintRegister$Unit", 130, ⟨"PrintRegister", "lessOne", "(I)I"⟩), List.mem_of_getElem? (i := 9) (by decide +kernel), rfl⟩)
end
section
/-! ===== one flat memory for a fixed set of cells: places, pictures, judgement ===== -/
abbrev pr_M : Type := Nat → Nat → Int32
/-- one number of one cell -/
def pr_up (f : pr_M) (c j : Nat) (v : Int32) : pr_M := fun a b => if a = c ∧ b = j then v else f a b
/-- a whole row of one cell -/
def pr_rw (f : pr_M) (c : Nat) (g : Nat → Int32) : pr_M := fun a b => if a = c then g b else f a b
theorem pr_up_ne {f : pr_M} {c j a : Nat} {v : Int32} (h : a ≠ c) : pr_up f c j v a = f a := by
  funext b; simp [pr_up, h]
theorem pr_rw_ne {f : pr_M} {c a : Nat} {g : Nat → Int32} (h : a ≠ c) : pr_rw f c g a = f a := by
  funext b; simp [pr_rw, h]
theorem pr_rw_eq {f : pr_M} {c : Nat} {g : Nat → Int32} : pr_rw f c g c = g := by
  funext b; simp [pr_rw]
theorem pr_up_eq {f : pr_M} {c j : Nat} {v : Int32} : pr_up f c j v c = upd (f c) j v := by
  funext b; by_cases h : b = j <;> simp [pr_up, upd, h]
abbrev pr_CL : List vw_C := [(RX0, TX0, 9), (RX1, TX1, 2), (RX2, TX2, 10), (RX3, TX3, 10), (RX4, TX4, 8), (RX5, TX5, 10), (RX6, TX6, 2), (RX7, TX7, 4), (RX8, TX8, 5)]
/-- what a class's slots hold: 0 a number, d a reference to the cell d places on -/
def pr_sh : Nat → List Nat
  | 0 => [0, 0, 0, 0, 0, 0, 0, 0, 0]
  | 1 => [1, 0]
  | 2 => [1, 0, 0, 0, 0, 0, 0, 0, 0, 0]
  | 3 => [1, 2, 3, 0, 0, 0, 0, 0, 0, 0]
  | 4 => [1, 2, 0, 0, 0, 0, 0, 0]
  | 5 => [1, 0, 0, 0, 0, 0, 0, 0, 0, 0]
  | 6 => [1, 0]
  | 7 => [1, 2, 5, 6]
  | 8 => [1, 50, 99, 149, 199]
  | _ => []
def pr_fv (ad : Nat → Nat) (f : pr_M) (c j d : Nat) : Value := if d = 0 then .int (f c j) else .ref (ad (c + d))
def pr_fs (ad : Nat → Nat) (f : pr_M) (c : Nat) : Nat → List Nat → List Value
  | _, [] => []
  | j, d :: ds => pr_fv ad f c j d :: pr_fs ad f c (j + 1) ds
theorem pr_fs_len (ad : Nat → Nat) (f : pr_M) (c : Nat) : ∀ (ds : List Nat) (j : Nat), (pr_fs ad f c j ds).length = ds.length
  | [], _ => rfl
  | _ :: ds, j => by simp [pr_fs, pr_fs_len ad f c ds (j + 1)]
theorem pr_fs_get (ad : Nat → Nat) (f : pr_M) (c : Nat) : ∀ (ds : List Nat) (j k d : Nat), ds[k]? = some d → (pr_fs ad f c j ds)[k]? = some (pr_fv ad f c (j + k) d)
  | [], _, _, _, h => by simp at h
  | d0 :: ds, j, 0, d, h => by
    simp at h
    subst h
    simp [pr_fs]
  | d0 :: ds, j, k + 1, d, h => by
    have h1 := pr_fs_get ad f c ds (j + 1) k d (by simpa using h)
    simp only [pr_fs, List.getElem?_cons_succ, h1]
    rw [show j + 1 + k = j + (k + 1) by omega]
theorem pr_fs_same (ad : Nat → Nat) (f g : pr_M) (c : Nat) : ∀ (ds : List Nat) (j : Nat), (∀ k, j ≤ k → g c k = f c k) → pr_fs ad g c j ds = pr_fs ad f c j ds
  | [], _, _ => rfl
  | d :: ds, j, h => by
    have h1 := pr_fs_same ad f g c ds (j + 1) (fun k hk => h k (by omega))
    simp only [pr_fs, pr_fv, h j (Nat.le_refl j), h1]
theorem pr_fs_set (ad : Nat → Nat) (f : pr_M) (c : Nat) (v : Int32) : ∀ (ds : List Nat) (j k : Nat), ds[k]? = some 0 → (pr_fs ad f c j ds).set k (.int v) = pr_fs ad (pr_up f c (j + k) v) c j ds
  | [], _, _, h => by simp at h
  | d0 :: ds, j, 0, h => by
    simp at h
    subst h
    have h1 := pr_fs_same ad f (pr_up f c (j + 0) v) c ds (j + 1) (fun k hk => by simp [pr_up]; omega)
    simp only [pr_fs, List.set_cons_zero, h1]
    simp [pr_fv, pr_up]
  | d0 :: ds, j, k + 1, h => by
    have h1 := pr_fs_set ad f c v ds (j + 1) k (by simpa using h)
    rw [show j + 1 + k = j + (k + 1) by omega] at h1
    simp only [pr_fs, List.set_cons_succ, h1]
    congr 1
    have hne : ¬ j = j + (k + 1) := by omega
    simp only [pr_fv, pr_up, hne, and_false, if_false]
/-- the classes of the three kinds of arrays -/
abbrev pr_T : Type := ClassId × ClassId × ClassId
def pr_ce (T : pr_T) (ad : Nat → Nat) (f : pr_M) (k : Nat × Nat) (c : Nat) : va_E :=
  if k.1 < 10 then .inr (k.1, pr_fs ad f c 0 (pr_sh k.1))
  else if k.1 = 10 then .inl (T.1, k.2, .inl (f c))
  else if k.1 = 11 then .inl (T.2.1, k.2, .inl (f c))
  else .inl (T.2.2, k.2, .inr (.inr (.inr (.inr (fun i => some (ad (c + 3 + 9 * i)))))))
theorem pr_ce_same (T : pr_T) (ad : Nat → Nat) {f g : pr_M} (k : Nat × Nat) {c : Nat} (h : g c = f c) : pr_ce T ad g k c = pr_ce T ad f k c := by
  have h1 := pr_fs_same ad f g c (pr_sh k.1) 0 (fun k _ => by rw [h])
  simp only [pr_ce, h, h1]
def pr_me (T : pr_T) (L : List (Nat × Nat)) (ad : Nat → Nat) (f : pr_M) : va_W := (List.range L.length).map (fun c => (ad c, pr_ce T ad f (L.getD c (0, 0)) c))
theorem pr_me_at {T : pr_T} {L : List (Nat × Nat)} {ad : Nat → Nat} {f : pr_M} {R : va_W} {c : Nat} {k : Nat × Nat} (h : L[c]? = some k) : (pr_me T L ad f ++ R)[c]? = some (ad c, pr_ce T ad f k c) := by
  have hl : c < L.length := (List.getElem?_eq_some_iff.mp h).1
  rw [List.getElem?_append_left (by simpa [pr_me] using hl)]
  simp [pr_me, List.getElem?_range hl, List.getD_eq_getElem?_getD, h]
theorem pr_me_set {T : pr_T} {L : List (Nat × Nat)} {ad : Nat → Nat} {f g : pr_M} {R : va_W} {c : Nat} {k : Nat × Nat} (h : L[c]? = some k) (hg : ∀ a, a ≠ c → g a = f a) : (pr_me T L ad f ++ R).set c (ad c, pr_ce T ad g k c) = pr_me T L ad g ++ R := by
  have hl : c < L.length := (List.getElem?_eq_some_iff.mp h).1
  have hlen : c < (pr_me T L ad f ++ R).length := by simp [pr_me]; omega
  apply List.ext_getElem?
  intro i
  by_cases hi : i = c
  · subst hi
    rw [List.getElem?_set_self hlen, pr_me_at h]
  · rw [List.getElem?_set_ne (Ne.symm hi)]
    by_cases hil : i < L.length
    · rw [List.getElem?_append_left (by simpa [pr_me] using hil), List.getElem?_append_left (by simpa [pr_me] using hil)]
      simp [pr_me, List.getElem?_range hil, pr_ce_same T ad _ (hg i hi)]
    · rw [List.getElem?_append_right (by simp [pr_me]; omega), List.getElem?_append_right (by simp [pr_me]; omega)]
      simp [pr_me]
/-- the script: where it lies, how long it is, its ints -/
abbrev pr_SC : Type := Nat × Nat × (Nat → Int32)
/-- what stays through a walk: launch, classes, layout, addresses, the other cells, the border of the old heap, the script -/
abbrev pr_E : Type := Launch × va_G × pr_T × List (Nat × Nat) × (Nat → Nat) × va_W × Nat × pr_SC
abbrev pr_l (E : pr_E) : Launch := E.1
abbrev pr_D (E : pr_E) : va_G := E.2.1
abbrev pr_t (E : pr_E) : pr_T := E.2.2.1
abbrev pr_L (E : pr_E) : List (Nat × Nat) := E.2.2.2.1
abbrev pr_ad (E : pr_E) : Nat → Nat := E.2.2.2.2.1
abbrev pr_R (E : pr_E) : va_W := E.2.2.2.2.2.1
abbrev pr_B (E : pr_E) : Nat := E.2.2.2.2.2.2.1
abbrev pr_sc (E : pr_E) : pr_SC := E.2.2.2.2.2.2.2
abbrev pr_A (E : pr_E) : Nat → Prop := fun q => pr_B E ≤ q
abbrev pr_m (E : pr_E) (f : pr_M) : va_W := pr_me (pr_t E) (pr_L E) (pr_ad E) f ++ pr_R E
/-- the frame that is walked -/
abbrev pr_Y : Type := Program × Env × State × MethodId × Array Value × List Frame × Method × Code × Nat × Nat × (State → Prop)
abbrev pr_yp (Y : pr_Y) : Program := Y.1
abbrev pr_ye (Y : pr_Y) : Env := Y.2.1
abbrev pr_ys (Y : pr_Y) : State := Y.2.2.1
abbrev pr_ym (Y : pr_Y) : MethodId := Y.2.2.2.1
abbrev pr_ya (Y : pr_Y) : Array Value := Y.2.2.2.2.1
abbrev pr_yb (Y : pr_Y) : List Frame := Y.2.2.2.2.2.1
abbrev pr_yh (Y : pr_Y) : Method := Y.2.2.2.2.2.2.1
abbrev pr_yc (Y : pr_Y) : Code := Y.2.2.2.2.2.2.2.1
abbrev pr_yk (Y : pr_Y) : Nat := Y.2.2.2.2.2.2.2.2.1
abbrev pr_yn (Y : pr_Y) : Nat := Y.2.2.2.2.2.2.2.2.2.1
abbrev pr_yQ (Y : pr_Y) : State → Prop := Y.2.2.2.2.2.2.2.2.2.2
abbrev pr_ty (T : pr_T) : List (ClassId × FieldType) := [(T.1, .int), (T.1, .int), (T.2.2, .object "PrintRegister$Unit")]
/-- the tables of the class that nobody writes -/
def pr_x0 : List Int32 := [1, 1, 5, 1, 0, 0, 0, 1, 0, 0, -500]
def pr_x1 : List Int32 := [20, 10, 2000, 20, 256, 256, 500, 2000, 256, 30, 500]
def pr_x2 : List Int32 := [5, 3, 200, 4, 128, 16, 5, 300, 64, 8, 0]
def pr_x3 : List Int32 := [5000, 3000, 2000]
def pr_ST : List (String × Nat × List Int32) := [("LEAST_SETTINGS", 11, pr_x0), ("GREATEST_SETTINGS", 11, pr_x1), ("FIRST_SETTINGS", 11, pr_x2), ("MOST_BY_HAND", 3, pr_x3)]
def pr_S (sc : pr_SC) (A : Nat → Prop) (U : State) (H : Heap) : Prop := (∀ q ∈ pr_ST, ∃ t : Nat, va_Z "PrintRegister" q.1 "[I" (.ref t) A U H ∧ va_T .int t q.2.1 (fun j => .int (q.2.2.getD j 0)) A U H) ∧ va_T .int sc.1 sc.2.1 (fun j => .int (sc.2.2 j)) A U H
theorem pr_S.moved {sc : pr_SC} {A : Nat → Prop} {u U : State} {H : Heap} (hvm : u.vm.Alike U.vm) (h : pr_S sc A u H) : pr_S sc A U H := ⟨fun q hq => by
  obtain ⟨t, h1, h2⟩ := h.1 q hq
  exact ⟨t, h1.moved hvm, h2.moved hvm⟩, h.2.moved hvm⟩
theorem pr_S.kept {sc : pr_SC} {A : Nat → Prop} {U : State} {H H1 : Heap} (h : pr_S sc A U H) (hq : ∀ a : Nat, a < H.size → ¬ A a → H1[a]? = H[a]?) : pr_S sc A U H1 := ⟨fun q hm => by
  obtain ⟨t, h1, h2⟩ := h.1 q hm
  exact ⟨t, h1.kept hq, h2.kept hq⟩, h.2.kept hq⟩
def pr_N (U : State) : Prop := ∀ w ∈ pr_NW, va_Nw w U
theorem pr_N.warm {s U : State} (hW : s.WarmedH U.vm) (h : pr_N s) : pr_N U := by
  intro w hw
  have h1 := h w hw
  rcases List.mem_append.mp hw with a | a
  · obtain ⟨q, -, rfl⟩ := List.mem_map.mp a
    exact va_Nw.warmF hW h1
  · obtain ⟨q, -, rfl⟩ := List.mem_map.mp a
    exact va_Nw.warmM hW h1
theorem pr_N.same {s U : State} (hvm : s.vm = U.vm) (h : pr_N s) : pr_N U := by
  intro w hw
  have h1 := h w hw
  rcases List.mem_append.mp hw with a | a
  · obtain ⟨q, -, rfl⟩ := List.mem_map.mp a
    exact va_Nw.same rfl hvm h1
  · obtain ⟨q, -, rfl⟩ := List.mem_map.mp a
    exact va_Nw.same rfl hvm h1
theorem pr_AL_good : pr_AL.all goodWord = true := by decide +kernel
theorem pr_goodIn {c0 w : Cond} (h : w ∈ pr_AL) : GoodIn (c0 :: pr_AL) (w :: pr_AL) := fun x hx => by
  have hm : x ∈ pr_AL := by
    rcases List.mem_cons.mp hx with e | e
    · rw [e]; exact h
    · exact e
  exact ⟨List.mem_cons_of_mem _ hm, good_of_word (List.all_eq_true.mp pr_AL_good x hm)⟩
/-- what holds of a frame throughout -/
def pr_C (E : pr_E) (Y : pr_Y) (Rm : Room) (cc : ByteArray) (own : String) (nL : Nat) (c0 : Cond) : Prop :=
  (pr_yp Y).tables.exec = Jvm.exec ∧ (pr_yc Y).code = cc ∧ (pr_yc Y).maxLocals = nL ∧ (pr_ys Y).vm.findClass own = some (pr_ym Y).cls ∧ (∀ w ∈ c0 :: pr_AL, w.before (pr_ya Y) (pr_ys Y) = true) ∧
  (pr_yh Y).locks = false ∧ va_K (pr_D E) pr_CL (pr_ty (pr_t E)) (pr_ys Y) ∧ (∀ f, va_D (pr_A E) (pr_m E f)) ∧ pr_S (pr_sc E) (pr_A E) (pr_ys Y) (pr_ys Y).heap ∧ pr_N (pr_ys Y) ∧ pr_B E ≤ (pr_ys Y).heap.size ∧ pr_yk Y ≤ Rm.cells ∧ pr_yn Y ≤ Rm.slots
def pr_W (E : pr_E) (Y : pr_Y) (Rm : Room) (nL : Nat) (f : pr_M) (pc : Nat) (lv : List (Nat × Value)) (st : List Value) : Prop :=
  ∀ (H : Heap) (locs : List Loc) (ls : Array Slot), va_P (pr_D E) pr_CL (pr_m E f) H → va_S (pr_A E) (pr_ys Y).heap H locs → lv_has ls nL lv →
    W (pr_yp Y) (pr_l E) (pr_ye Y) Rm (pr_ys Y) (pr_ym Y) (pr_ya Y) (pr_yb Y) (pr_yh Y) (pr_yc Y) H locs (pr_yk Y) (pr_yn Y) (pr_yQ Y) (F0 (pr_ym Y) pc ls st)
def pr_Po (E : pr_E) (r : Option Value) (f : pr_M) : Array Value → State → Outcome → State → Prop := fun _ st o t => o = .returned r ∧ va_P (pr_D E) pr_CL (pr_m E f) t.heap ∧ va_F (pr_A E) st t
def pr_Pr (E : pr_E) (av : List Value) (f : pr_M) : Array Value → State → Prop := va_Pc av (fun U => pr_B E ≤ U.heap.size ∧ va_P (pr_D E) pr_CL (pr_m E f) U.heap ∧ va_K (pr_D E) pr_CL (pr_ty (pr_t E)) U ∧ pr_S (pr_sc E) (pr_A E) U U.heap ∧ pr_N U)
/-- a method's contract: from memory f it returns r and leaves memory g -/
def pr_Met (E : pr_E) (y : MethodName) (cc : ByteArray) (nL : Nat) (ret : Option FieldType) (rm : Room) (av : List Value) (f : pr_M) (r : Option Value) (g : pr_M) : Prop :=
  (∀ f, va_D (pr_A E) (pr_m E f)) → Met (pr_l E) y (.code y cc nL ret :: pr_AL) rm (pr_Pr E av f) (pr_Po E r g) 0 0 (pr_A E)
def pr_Z (E : pr_E) (Y : pr_Y) (ret : Option FieldType) (r : Option Value) (f : pr_M) : Prop :=
  (pr_yh Y).sig.returnType = ret ∧ pr_yQ Y = MQ (pr_yb Y) (pr_Po E r f) (pr_ya Y) (pr_ys Y) (pr_yk Y) (pr_yn Y) (pr_A E)
/-- a method's walk, from its entry -/
theorem pr_enter {E : pr_E} {y : MethodName} {cc : ByteArray} {nL : Nat} {ret : Option FieldType} {rm : Room} {av : List Value} {f : pr_M} {r : Option Value} {g : pr_M}
    (hy : plainName y.cls = true) (hn : (lg_sl av).length ≤ nL)
    (body : ∀ Y : pr_Y, pr_C E Y rm cc y.cls nL (.code y cc nL ret) → pr_Z E Y ret r g → pr_W E Y rm nL f 0 (lv_args 0 av) []) : pr_Met E y cc nL ret rm av f r g := by
  intro hD
  refine Met.ofW (cc := cc) (maxL := nL) (ret := ret) hy rfl ?_
  intro p e s m args below meth c s₁ B hml hv
  obtain ⟨rfl, hB, hP, hK, hSt, hN⟩ := hv
  have hl := lv_entry av hn
  rw [lg_entry_eq]
  exact body (p, e, s, m, av.toArray, below, meth, c, 0, 0, MQ below (pr_Po E r g) av.toArray s 0 0 (pr_A E))
    ⟨B.exec, B.bytes, hml, findClass_of_methodNamed B.named, atoms_spec (ws := .code y cc nL ret :: pr_AL) B.pre, B.notSynchronized, hK, hD, hSt, hN, hB, Nat.zero_le _, Nat.zero_le _⟩
    ⟨B.returns, rfl⟩ s.heap [] _ hP va_S.rf hl
end
section
/-! ===== a row an instruction, over the flat memory ===== -/
section RW
variable {E : pr_E} {Y : pr_Y} {Rm : Room} {cc : ByteArray} {own : String} {nL : Nat} {c0 : Cond} {f : pr_M} {pc : Nat} {lv lv' : List (Nat × Value)} {st : List Value}
theorem pr_hts (C : pr_C E Y Rm cc own nL c0) {w : Cond} (h : w ∈ pr_AL) : w.before (pr_ya Y) (pr_ys Y) = true := C.2.2.2.2.1 w (List.mem_cons_of_mem _ h)
theorem pr_nts (C : pr_C E Y Rm cc own nL c0) {w : Cond} (h : w ∈ pr_NW) : va_Nw w (pr_ys Y) := C.2.2.2.2.2.2.2.2.2.1 w h
theorem pr_K (C : pr_C E Y Rm cc own nL c0) : va_K (pr_D E) pr_CL (pr_ty (pr_t E)) (pr_ys Y) := C.2.2.2.2.2.2.1
theorem pr_Ds (C : pr_C E Y Rm cc own nL c0) (f : pr_M) : va_D (pr_A E) (pr_m E f) := C.2.2.2.2.2.2.2.1 f
theorem pr_eq {f g : pr_M} (h : g = f) (k : pr_W E Y Rm nL g pc lv st) : pr_W E Y Rm nL f pc lv st := h ▸ k
theorem pr_eqs {st' : List Value} (h : st' = st) (k : pr_W E Y Rm nL f pc lv st') : pr_W E Y Rm nL f pc lv st := h ▸ k
theorem pr_pick (ks : List Nat) (h : lv_pick lv ks = lv') (k : pr_W E Y Rm nL f pc lv' st) : pr_W E Y Rm nL f pc lv st := fun H locs ls hP hS hl => k H locs ls hP hS (lv_sub hl ks h)

theorem pr_iconst (C : pr_C E Y Rm cc own nL c0) {n : Int} {v : Int32} (hd : decode cc pc = .ok (.iconst n, 1)) (hv : Int32.ofInt n = v) (k : pr_W E Y Rm nL f (pc + 1) lv (.int v :: st)) : pr_W E Y Rm nL f pc lv st := fun H locs ls hP hS hl => lv_iconst C.1 C.2.1 hd hv (k H locs ls hP hS hl)
theorem pr_bipush (C : pr_C E Y Rm cc own nL c0) {n : Int} {v : Int32} (hd : decode cc pc = .ok (.bipush n, 2)) (hv : (Int8.ofInt n).toInt32 = v) (k : pr_W E Y Rm nL f (pc + 2) lv (.int v :: st)) : pr_W E Y Rm nL f pc lv st := fun H locs ls hP hS hl => lv_bipush C.1 C.2.1 hd hv (k H locs ls hP hS hl)
theorem pr_sipush (C : pr_C E Y Rm cc own nL c0) {n : Int} {v : Int32} (hd : decode cc pc = .ok (.sipush n, 3)) (hv : (Int16.ofInt n).toInt32 = v) (k : pr_W E Y Rm nL f (pc + 3) lv (.int v :: st)) : pr_W E Y Rm nL f pc lv st := fun H locs ls hP hS hl => lv_sipush C.1 C.2.1 hd hv (k H locs ls hP hS hl)
theorem pr_lconst (C : pr_C E Y Rm cc own nL c0) {n : Fin 2} {v : Int64} (hd : decode cc pc = .ok (.lconst n, 1)) (hv : Int64.ofNat (n : Nat) = v) (k : pr_W E Y Rm nL f (pc + 1) lv (.long v :: st)) : pr_W E Y Rm nL f pc lv st := fun H locs ls hP hS hl => lv_lconst C.1 C.2.1 hd hv (k H locs ls hP hS hl)
theorem pr_ldc (C : pr_C E Y Rm cc own nL c0) {n : Nat} {v : Int32} (hd : decode cc pc = .ok (.ldc n, 2)) (hw : Cond.constant own n v ∈ pr_AL) (k : pr_W E Y Rm nL f (pc + 2) lv (.int v :: st)) : pr_W E Y Rm nL f pc lv st := fun H locs ls hP hS hl => lv_ldc C.1 C.2.1 C.2.2.2.1 (pr_hts C hw) hd (k H locs ls hP hS hl)
theorem pr_ldc2 (C : pr_C E Y Rm cc own nL c0) {n : Nat} {v : Int64} (hd : decode cc pc = .ok (.ldc2_w n, 3)) (hw : Cond.constantLong own n v ∈ pr_AL) (k : pr_W E Y Rm nL f (pc + 3) lv (.long v :: st)) : pr_W E Y Rm nL f pc lv st := fun H locs ls hP hS hl => lv_ldc2 C.1 C.2.1 C.2.2.2.1 (pr_hts C hw) hd (k H locs ls hP hS hl)
theorem pr_null (C : pr_C E Y Rm cc own nL c0) (hd : decode cc pc = .ok (.aconst_null, 1)) (k : pr_W E Y Rm nL f (pc + 1) lv (.null :: st)) : pr_W E Y Rm nL f pc lv st := fun H locs ls hP hS hl => lv_null C.1 C.2.1 hd (k H locs ls hP hS hl)
theorem pr_iload_n (C : pr_C E Y Rm cc own nL c0) {j : Fin 4} {i : Nat} {x : Int32} (hd : decode cc pc = .ok (.iload_n j, 1)) (hi : (j : Nat) = i) (q : Nat) (hl : lv[q]? = some (i, .int x)) (k : pr_W E Y Rm nL f (pc + 1) lv (.int x :: st)) : pr_W E Y Rm nL f pc lv st := fun H locs ls hP hS h => lv_iload_n C.1 C.2.1 hd hi (lv_at h q hl) (k H locs ls hP hS h)
theorem pr_iload (C : pr_C E Y Rm cc own nL c0) {i : Nat} {x : Int32} (hd : decode cc pc = .ok (.iload i, 2)) (q : Nat) (hl : lv[q]? = some (i, .int x)) (k : pr_W E Y Rm nL f (pc + 2) lv (.int x :: st)) : pr_W E Y Rm nL f pc lv st := fun H locs ls hP hS h => lv_iload C.1 C.2.1 hd (lv_at h q hl) (k H locs ls hP hS h)
theorem pr_istore_n (C : pr_C E Y Rm cc own nL c0) {j : Fin 4} {i : Nat} {x : Int32} (hd : decode cc pc = .ok (.istore_n j, 1)) (hi : (j : Nat) = i) (hn : i < nL) (hl : (i, Value.int x) :: lv.filter (fun q => !(q.1 == i) && !(q.1 + 1 == i && q.2.category == 2)) = lv') (k : pr_W E Y Rm nL f (pc + 1) lv' st) : pr_W E Y Rm nL f pc lv (.int x :: st) := fun H locs ls hP hS h => lv_istore_n C.1 C.2.1 hd hi h hn hl (fun ls h => k H locs ls hP hS h)
theorem pr_istore (C : pr_C E Y Rm cc own nL c0) {i : Nat} {x : Int32} (hd : decode cc pc = .ok (.istore i, 2)) (hn : i < nL) (hl : (i, Value.int x) :: lv.filter (fun q => !(q.1 == i) && !(q.1 + 1 == i && q.2.category == 2)) = lv') (k : pr_W E Y Rm nL f (pc + 2) lv' st) : pr_W E Y Rm nL f pc lv (.int x :: st) := fun H locs ls hP hS h => lv_istore C.1 C.2.1 hd h hn hl (fun ls h => k H locs ls hP hS h)
theorem pr_lload_n (C : pr_C E Y Rm cc own nL c0) {j : Fin 4} {i : Nat} {x : Int64} (hd : decode cc pc = .ok (.lload_n j, 1)) (hi : (j : Nat) = i) (q : Nat) (hl : lv[q]? = some (i, .long x)) (k : pr_W E Y Rm nL f (pc + 1) lv (.long x :: st)) : pr_W E Y Rm nL f pc lv st := fun H locs ls hP hS h => lv_lload_n C.1 C.2.1 hd hi (lv_at h q hl) (k H locs ls hP hS h)
theorem pr_lload (C : pr_C E Y Rm cc own nL c0) {i : Nat} {x : Int64} (hd : decode cc pc = .ok (.lload i, 2)) (q : Nat) (hl : lv[q]? = some (i, .long x)) (k : pr_W E Y Rm nL f (pc + 2) lv (.long x :: st)) : pr_W E Y Rm nL f pc lv st := fun H locs ls hP hS h => lv_lload C.1 C.2.1 hd (lv_at h q hl) (k H locs ls hP hS h)
theorem pr_lstore_n (C : pr_C E Y Rm cc own nL c0) {j : Fin 4} {i : Nat} {x : Int64} (hd : decode cc pc = .ok (.lstore_n j, 1)) (hi : (j : Nat) = i) (hn : i + 1 < nL) (hl : (i, Value.long x) :: lv.filter (fun q => !(q.1 == i) && (!(q.1 == i + 1) && !(q.1 + 1 == i && q.2.category == 2))) = lv') (k : pr_W E Y Rm nL f (pc + 1) lv' st) : pr_W E Y Rm nL f pc lv (.long x :: st) := fun H locs ls hP hS h => lv_lstore_n C.1 C.2.1 hd hi h hn hl (fun ls h => k H locs ls hP hS h)
theorem pr_lstore (C : pr_C E Y Rm cc own nL c0) {i : Nat} {x : Int64} (hd : decode cc pc = .ok (.lstore i, 2)) (hn : i + 1 < nL) (hl : (i, Value.long x) :: lv.filter (fun q => !(q.1 == i) && (!(q.1 == i + 1) && !(q.1 + 1 == i && q.2.category == 2))) = lv') (k : pr_W E Y Rm nL f (pc + 2) lv' st) : pr_W E Y Rm nL f pc lv (.long x :: st) := fun H locs ls hP hS h => lv_lstore C.1 C.2.1 hd h hn hl (fun ls h => k H locs ls hP hS h)
theorem pr_aload_n (C : pr_C E Y Rm cc own nL c0) {j : Fin 4} {i : Nat} {x : Nat} (hd : decode cc pc = .ok (.aload_n j, 1)) (hi : (j : Nat) = i) (q : Nat) (hl : lv[q]? = some (i, .ref x)) (k : pr_W E Y Rm nL f (pc + 1) lv (.ref x :: st)) : pr_W E Y Rm nL f pc lv st := fun H locs ls hP hS h => lv_aload_n C.1 C.2.1 hd hi (lv_at h q hl) (k H locs ls hP hS h)
theorem pr_aload (C : pr_C E Y Rm cc own nL c0) {i : Nat} {x : Nat} (hd : decode cc pc = .ok (.aload i, 2)) (q : Nat) (hl : lv[q]? = some (i, .ref x)) (k : pr_W E Y Rm nL f (pc + 2) lv (.ref x :: st)) : pr_W E Y Rm nL f pc lv st := fun H locs ls hP hS h => lv_aload C.1 C.2.1 hd (lv_at h q hl) (k H locs ls hP hS h)
theorem pr_astore_n (C : pr_C E Y Rm cc own nL c0) {j : Fin 4} {i : Nat} {x : Nat} (hd : decode cc pc = .ok (.astore_n j, 1)) (hi : (j : Nat) = i) (hn : i < nL) (hl : (i, Value.ref x) :: lv.filter (fun q => !(q.1 == i) && !(q.1 + 1 == i && q.2.category == 2)) = lv') (k : pr_W E Y Rm nL f (pc + 1) lv' st) : pr_W E Y Rm nL f pc lv (.ref x :: st) := fun H locs ls hP hS h => lv_astore_n C.1 C.2.1 hd hi h hn hl (fun ls h => k H locs ls hP hS h)
theorem pr_astore (C : pr_C E Y Rm cc own nL c0) {i : Nat} {x : Nat} (hd : decode cc pc = .ok (.astore i, 2)) (hn : i < nL) (hl : (i, Value.ref x) :: lv.filter (fun q => !(q.1 == i) && !(q.1 + 1 == i && q.2.category == 2)) = lv') (k : pr_W E Y Rm nL f (pc + 2) lv' st) : pr_W E Y Rm nL f pc lv (.ref x :: st) := fun H locs ls hP hS h => lv_astore C.1 C.2.1 hd h hn hl (fun ls h => k H locs ls hP hS h)
theorem pr_astore_nN (C : pr_C E Y Rm cc own nL c0) {j : Fin 4} {i : Nat} (hd : decode cc pc = .ok (.astore_n j, 1)) (hi : (j : Nat) = i) (hn : i < nL) (hl : (i, Value.null) :: lv.filter (fun q => !(q.1 == i) && !(q.1 + 1 == i && q.2.category == 2)) = lv') (k : pr_W E Y Rm nL f (pc + 1) lv' st) : pr_W E Y Rm nL f pc lv (.null :: st) := fun H locs ls hP hS h => lv_astore_nN C.1 C.2.1 hd hi h hn hl (fun ls h => k H locs ls hP hS h)
theorem pr_astoreN (C : pr_C E Y Rm cc own nL c0) {i : Nat} (hd : decode cc pc = .ok (.astore i, 2)) (hn : i < nL) (hl : (i, Value.null) :: lv.filter (fun q => !(q.1 == i) && !(q.1 + 1 == i && q.2.category == 2)) = lv') (k : pr_W E Y Rm nL f (pc + 2) lv' st) : pr_W E Y Rm nL f pc lv (.null :: st) := fun H locs ls hP hS h => lv_astoreN C.1 C.2.1 hd h hn hl (fun ls h => k H locs ls hP hS h)
theorem pr_aload_nN (C : pr_C E Y Rm cc own nL c0) {j : Fin 4} {i : Nat} (hd : decode cc pc = .ok (.aload_n j, 1)) (hi : (j : Nat) = i) (q : Nat) (hl : lv[q]? = some (i, .null)) (k : pr_W E Y Rm nL f (pc + 1) lv (.null :: st)) : pr_W E Y Rm nL f pc lv st := fun H locs ls hP hS h => lv_aload_nN C.1 C.2.1 hd hi (lv_at h q hl) (k H locs ls hP hS h)
theorem pr_aloadN (C : pr_C E Y Rm cc own nL c0) {i : Nat} (hd : decode cc pc = .ok (.aload i, 2)) (q : Nat) (hl : lv[q]? = some (i, .null)) (k : pr_W E Y Rm nL f (pc + 2) lv (.null :: st)) : pr_W E Y Rm nL f pc lv st := fun H locs ls hP hS h => lv_aloadN C.1 C.2.1 hd (lv_at h q hl) (k H locs ls hP hS h)
theorem pr_iinc (C : pr_C E Y Rm cc own nL c0) {i : Nat} {n : Int} {x v : Int32} (hd : decode cc pc = .ok (.iinc i n, 3)) (q : Nat) (hq : lv[q]? = some (i, .int x)) (hv : x + Int32.ofInt n = v) (hn : i < nL) (hl : (i, Value.int v) :: lv.filter (fun q => !(q.1 == i) && !(q.1 + 1 == i && q.2.category == 2)) = lv') (k : pr_W E Y Rm nL f (pc + 3) lv' st) : pr_W E Y Rm nL f pc lv st := fun H locs ls hP hS h => lv_iinc C.1 C.2.1 hd h hq hv hn hl (fun ls h => k H locs ls hP hS h)
theorem pr_iadd (C : pr_C E Y Rm cc own nL c0) {x y : Int32} (hd : decode cc pc = .ok (.iadd, 1)) (k : pr_W E Y Rm nL f (pc + 1) lv (.int (x + y) :: st)) : pr_W E Y Rm nL f pc lv (.int y :: .int x :: st) := fun H locs ls hP hS hl => lv_iadd C.1 C.2.1 hd (k H locs ls hP hS hl)
theorem pr_isub (C : pr_C E Y Rm cc own nL c0) {x y : Int32} (hd : decode cc pc = .ok (.isub, 1)) (k : pr_W E Y Rm nL f (pc + 1) lv (.int (x - y) :: st)) : pr_W E Y Rm nL f pc lv (.int y :: .int x :: st) := fun H locs ls hP hS hl => lv_isub C.1 C.2.1 hd (k H locs ls hP hS hl)
theorem pr_imul (C : pr_C E Y Rm cc own nL c0) {x y : Int32} (hd : decode cc pc = .ok (.imul, 1)) (k : pr_W E Y Rm nL f (pc + 1) lv (.int (x * y) :: st)) : pr_W E Y Rm nL f pc lv (.int y :: .int x :: st) := fun H locs ls hP hS hl => lv_imul C.1 C.2.1 hd (k H locs ls hP hS hl)
theorem pr_iand (C : pr_C E Y Rm cc own nL c0) {x y : Int32} (hd : decode cc pc = .ok (.iand, 1)) (k : pr_W E Y Rm nL f (pc + 1) lv (.int (x &&& y) :: st)) : pr_W E Y Rm nL f pc lv (.int y :: .int x :: st) := fun H locs ls hP hS hl => lv_iand C.1 C.2.1 hd (k H locs ls hP hS hl)
theorem pr_ishl (C : pr_C E Y Rm cc own nL c0) {x y : Int32} (hd : decode cc pc = .ok (.ishl, 1)) (k : pr_W E Y Rm nL f (pc + 1) lv (.int (x <<< (y &&& 31)) :: st)) : pr_W E Y Rm nL f pc lv (.int y :: .int x :: st) := fun H locs ls hP hS hl => lv_ishl C.1 C.2.1 hd (k H locs ls hP hS hl)
theorem pr_ishr (C : pr_C E Y Rm cc own nL c0) {x y : Int32} (hd : decode cc pc = .ok (.ishr, 1)) (k : pr_W E Y Rm nL f (pc + 1) lv (.int (x >>> (y &&& 31)) :: st)) : pr_W E Y Rm nL f pc lv (.int y :: .int x :: st) := fun H locs ls hP hS hl => lv_ishr C.1 C.2.1 hd (k H locs ls hP hS hl)
theorem pr_idiv (C : pr_C E Y Rm cc own nL c0) {x y : Int32} (hd : decode cc pc = .ok (.idiv, 1)) (hne : ¬ y = 0) (k : pr_W E Y Rm nL f (pc + 1) lv (.int (x / y) :: st)) : pr_W E Y Rm nL f pc lv (.int y :: .int x :: st) := fun H locs ls hP hS hl => lv_idiv C.1 C.2.1 hd hne (k H locs ls hP hS hl)
theorem pr_irem (C : pr_C E Y Rm cc own nL c0) {x y : Int32} (hd : decode cc pc = .ok (.irem, 1)) (hne : ¬ y = 0) (k : pr_W E Y Rm nL f (pc + 1) lv (.int (x - x / y * y) :: st)) : pr_W E Y Rm nL f pc lv (.int y :: .int x :: st) := fun H locs ls hP hS hl => lv_irem C.1 C.2.1 hd hne (k H locs ls hP hS hl)
theorem pr_ineg (C : pr_C E Y Rm cc own nL c0) {x : Int32} (hd : decode cc pc = .ok (.ineg, 1)) (k : pr_W E Y Rm nL f (pc + 1) lv (.int (-x) :: st)) : pr_W E Y Rm nL f pc lv (.int x :: st) := fun H locs ls hP hS hl => lv_ineg C.1 C.2.1 hd (k H locs ls hP hS hl)
theorem pr_land (C : pr_C E Y Rm cc own nL c0) {x y : Int64} (hd : decode cc pc = .ok (.land, 1)) (k : pr_W E Y Rm nL f (pc + 1) lv (.long (x &&& y) :: st)) : pr_W E Y Rm nL f pc lv (.long y :: .long x :: st) := fun H locs ls hP hS hl => lv_land C.1 C.2.1 hd (k H locs ls hP hS hl)
theorem pr_lor (C : pr_C E Y Rm cc own nL c0) {x y : Int64} (hd : decode cc pc = .ok (.lor, 1)) (k : pr_W E Y Rm nL f (pc + 1) lv (.long (x ||| y) :: st)) : pr_W E Y Rm nL f pc lv (.long y :: .long x :: st) := fun H locs ls hP hS hl => lv_lor C.1 C.2.1 hd (k H locs ls hP hS hl)
theorem pr_lushr (C : pr_C E Y Rm cc own nL c0) {x : Int64} {y : Int32} (hd : decode cc pc = .ok (.lushr, 1)) (k : pr_W E Y Rm nL f (pc + 1) lv (.long ((x.toUInt64 >>> (y.toInt64.toUInt64 &&& Int64.toUInt64 63)).toInt64) :: st)) : pr_W E Y Rm nL f pc lv (.int y :: .long x :: st) := fun H locs ls hP hS hl => lv_lushr C.1 C.2.1 hd rfl (k H locs ls hP hS hl)
theorem pr_lshl (C : pr_C E Y Rm cc own nL c0) {x : Int64} {y : Int32} (hd : decode cc pc = .ok (.lshl, 1)) (k : pr_W E Y Rm nL f (pc + 1) lv (.long (x <<< (y.toInt64 &&& 63)) :: st)) : pr_W E Y Rm nL f pc lv (.int y :: .long x :: st) := fun H locs ls hP hS hl => lv_lshl C.1 C.2.1 hd rfl (k H locs ls hP hS hl)
theorem pr_lshr (C : pr_C E Y Rm cc own nL c0) {x : Int64} {y : Int32} (hd : decode cc pc = .ok (.lshr, 1)) (k : pr_W E Y Rm nL f (pc + 1) lv (.long (x >>> (y.toInt64 &&& 63)) :: st)) : pr_W E Y Rm nL f pc lv (.int y :: .long x :: st) := fun H locs ls hP hS hl => lv_lshr C.1 C.2.1 hd rfl (k H locs ls hP hS hl)
theorem pr_i2l (C : pr_C E Y Rm cc own nL c0) {x : Int32} (hd : decode cc pc = .ok (.i2l, 1)) (k : pr_W E Y Rm nL f (pc + 1) lv (.long x.toInt64 :: st)) : pr_W E Y Rm nL f pc lv (.int x :: st) := fun H locs ls hP hS hl => lv_i2l C.1 C.2.1 hd rfl (k H locs ls hP hS hl)
theorem pr_l2i (C : pr_C E Y Rm cc own nL c0) {x : Int64} (hd : decode cc pc = .ok (.l2i, 1)) (k : pr_W E Y Rm nL f (pc + 1) lv (.int x.toInt32 :: st)) : pr_W E Y Rm nL f pc lv (.long x :: st) := fun H locs ls hP hS hl => lv_l2i C.1 C.2.1 hd rfl (k H locs ls hP hS hl)
theorem pr_dup (C : pr_C E Y Rm cc own nL c0) {v : Value} (hd : decode cc pc = .ok (.dup, 1)) (hv : v.category = 1) (k : pr_W E Y Rm nL f (pc + 1) lv (v :: v :: st)) : pr_W E Y Rm nL f pc lv (v :: st) := fun H locs ls hP hS hl => lv_dup C.1 C.2.1 hd hv (k H locs ls hP hS hl)
theorem pr_dup2 (C : pr_C E Y Rm cc own nL c0) {v w : Value} (hd : decode cc pc = .ok (.dup2, 1)) (hv : v.category = 1) (hw : w.category = 1) (k : pr_W E Y Rm nL f (pc + 1) lv (v :: w :: v :: w :: st)) : pr_W E Y Rm nL f pc lv (v :: w :: st) := fun H locs ls hP hS hl => lv_dup2_11 C.1 C.2.1 hd hv hw (k H locs ls hP hS hl)
theorem pr_pop (C : pr_C E Y Rm cc own nL c0) {v : Value} (hd : decode cc pc = .ok (.pop, 1)) (hv : v.category = 1) (k : pr_W E Y Rm nL f (pc + 1) lv st) : pr_W E Y Rm nL f pc lv (v :: st) := fun H locs ls hP hS hl => lv_pop C.1 C.2.1 hd hv (k H locs ls hP hS hl)
theorem pr_goto (C : pr_C E Y Rm cc own nL c0) {off : Int} {tgt : Nat} (hd : decode cc pc = .ok (.goto off, 3)) (ht : (pc : Int) + off = (tgt : Int)) (k : pr_W E Y Rm nL f tgt lv st) : pr_W E Y Rm nL f pc lv st := fun H locs ls hP hS hl => lv_goto C.1 C.2.1 hd ht (k H locs ls hP hS hl)
theorem pr_if_eq (C : pr_C E Y Rm cc own nL c0) {x : Int32} {off : Int} {tgt : Nat} (hd : decode cc pc = .ok (.ifCond .eq off, 3)) (ht : (pc : Int) + off = (tgt : Int)) (kt : x = 0 → pr_W E Y Rm nL f tgt lv st) (kf : ¬ x = 0 → pr_W E Y Rm nL f (pc + 3) lv st) : pr_W E Y Rm nL f pc lv (.int x :: st) := fun H locs ls hP hS hl => lv_if_eq C.1 C.2.1 hd ht (fun c => kt c H locs ls hP hS hl) (fun c => kf c H locs ls hP hS hl)
theorem pr_if_ne (C : pr_C E Y Rm cc own nL c0) {x : Int32} {off : Int} {tgt : Nat} (hd : decode cc pc = .ok (.ifCond .ne off, 3)) (ht : (pc : Int) + off = (tgt : Int)) (kt : ¬ x = 0 → pr_W E Y Rm nL f tgt lv st) (kf : x = 0 → pr_W E Y Rm nL f (pc + 3) lv st) : pr_W E Y Rm nL f pc lv (.int x :: st) := fun H locs ls hP hS hl => lv_if_ne C.1 C.2.1 hd ht (fun c => kt c H locs ls hP hS hl) (fun c => kf c H locs ls hP hS hl)
theorem pr_if_lt (C : pr_C E Y Rm cc own nL c0) {x : Int32} {off : Int} {tgt : Nat} (hd : decode cc pc = .ok (.ifCond .lt off, 3)) (ht : (pc : Int) + off = (tgt : Int)) (kt : x < 0 → pr_W E Y Rm nL f tgt lv st) (kf : ¬ x < 0 → pr_W E Y Rm nL f (pc + 3) lv st) : pr_W E Y Rm nL f pc lv (.int x :: st) := fun H locs ls hP hS hl => lv_if_lt C.1 C.2.1 hd ht (fun c => kt c H locs ls hP hS hl) (fun c => kf c H locs ls hP hS hl)
theorem pr_if_ge (C : pr_C E Y Rm cc own nL c0) {x : Int32} {off : Int} {tgt : Nat} (hd : decode cc pc = .ok (.ifCond .ge off, 3)) (ht : (pc : Int) + off = (tgt : Int)) (kt : 0 ≤ x → pr_W E Y Rm nL f tgt lv st) (kf : ¬ 0 ≤ x → pr_W E Y Rm nL f (pc + 3) lv st) : pr_W E Y Rm nL f pc lv (.int x :: st) := fun H locs ls hP hS hl => lv_if_ge C.1 C.2.1 hd ht (fun c => kt c H locs ls hP hS hl) (fun c => kf c H locs ls hP hS hl)
theorem pr_if_gt (C : pr_C E Y Rm cc own nL c0) {x : Int32} {off : Int} {tgt : Nat} (hd : decode cc pc = .ok (.ifCond .gt off, 3)) (ht : (pc : Int) + off = (tgt : Int)) (kt : 0 < x → pr_W E Y Rm nL f tgt lv st) (kf : ¬ 0 < x → pr_W E Y Rm nL f (pc + 3) lv st) : pr_W E Y Rm nL f pc lv (.int x :: st) := fun H locs ls hP hS hl => lv_if_gt C.1 C.2.1 hd ht (fun c => kt c H locs ls hP hS hl) (fun c => kf c H locs ls hP hS hl)
theorem pr_if_le (C : pr_C E Y Rm cc own nL c0) {x : Int32} {off : Int} {tgt : Nat} (hd : decode cc pc = .ok (.ifCond .le off, 3)) (ht : (pc : Int) + off = (tgt : Int)) (kt : x ≤ 0 → pr_W E Y Rm nL f tgt lv st) (kf : ¬ x ≤ 0 → pr_W E Y Rm nL f (pc + 3) lv st) : pr_W E Y Rm nL f pc lv (.int x :: st) := fun H locs ls hP hS hl => lv_if_le C.1 C.2.1 hd ht (fun c => kt c H locs ls hP hS hl) (fun c => kf c H locs ls hP hS hl)
theorem pr_icmp_eq (C : pr_C E Y Rm cc own nL c0) {x y : Int32} {off : Int} {tgt : Nat} (hd : decode cc pc = .ok (.if_icmp .eq off, 3)) (ht : (pc : Int) + off = (tgt : Int)) (kt : x = y → pr_W E Y Rm nL f tgt lv st) (kf : ¬ x = y → pr_W E Y Rm nL f (pc + 3) lv st) : pr_W E Y Rm nL f pc lv (.int y :: .int x :: st) := fun H locs ls hP hS hl => lv_icmp_eq C.1 C.2.1 hd ht (fun c => kt c H locs ls hP hS hl) (fun c => kf c H locs ls hP hS hl)
theorem pr_icmp_ne (C : pr_C E Y Rm cc own nL c0) {x y : Int32} {off : Int} {tgt : Nat} (hd : decode cc pc = .ok (.if_icmp .ne off, 3)) (ht : (pc : Int) + off = (tgt : Int)) (kt : ¬ x = y → pr_W E Y Rm nL f tgt lv st) (kf : x = y → pr_W E Y Rm nL f (pc + 3) lv st) : pr_W E Y Rm nL f pc lv (.int y :: .int x :: st) := fun H locs ls hP hS hl => lv_icmp_ne C.1 C.2.1 hd ht (fun c => kt c H locs ls hP hS hl) (fun c => kf c H locs ls hP hS hl)
theorem pr_icmp_lt (C : pr_C E Y Rm cc own nL c0) {x y : Int32} {off : Int} {tgt : Nat} (hd : decode cc pc = .ok (.if_icmp .lt off, 3)) (ht : (pc : Int) + off = (tgt : Int)) (kt : x < y → pr_W E Y Rm nL f tgt lv st) (kf : ¬ x < y → pr_W E Y Rm nL f (pc + 3) lv st) : pr_W E Y Rm nL f pc lv (.int y :: .int x :: st) := fun H locs ls hP hS hl => lv_icmp_lt C.1 C.2.1 hd ht (fun c => kt c H locs ls hP hS hl) (fun c => kf c H locs ls hP hS hl)
theorem pr_icmp_ge (C : pr_C E Y Rm cc own nL c0) {x y : Int32} {off : Int} {tgt : Nat} (hd : decode cc pc = .ok (.if_icmp .ge off, 3)) (ht : (pc : Int) + off = (tgt : Int)) (kt : y ≤ x → pr_W E Y Rm nL f tgt lv st) (kf : ¬ y ≤ x → pr_W E Y Rm nL f (pc + 3) lv st) : pr_W E Y Rm nL f pc lv (.int y :: .int x :: st) := fun H locs ls hP hS hl => lv_icmp_ge C.1 C.2.1 hd ht (fun c => kt c H locs ls hP hS hl) (fun c => kf c H locs ls hP hS hl)
theorem pr_icmp_gt (C : pr_C E Y Rm cc own nL c0) {x y : Int32} {off : Int} {tgt : Nat} (hd : decode cc pc = .ok (.if_icmp .gt off, 3)) (ht : (pc : Int) + off = (tgt : Int)) (kt : y < x → pr_W E Y Rm nL f tgt lv st) (kf : ¬ y < x → pr_W E Y Rm nL f (pc + 3) lv st) : pr_W E Y Rm nL f pc lv (.int y :: .int x :: st) := fun H locs ls hP hS hl => lv_icmp_gt C.1 C.2.1 hd ht (fun c => kt c H locs ls hP hS hl) (fun c => kf c H locs ls hP hS hl)
theorem pr_icmp_le (C : pr_C E Y Rm cc own nL c0) {x y : Int32} {off : Int} {tgt : Nat} (hd : decode cc pc = .ok (.if_icmp .le off, 3)) (ht : (pc : Int) + off = (tgt : Int)) (kt : x ≤ y → pr_W E Y Rm nL f tgt lv st) (kf : ¬ x ≤ y → pr_W E Y Rm nL f (pc + 3) lv st) : pr_W E Y Rm nL f pc lv (.int y :: .int x :: st) := fun H locs ls hP hS hl => lv_icmp_le C.1 C.2.1 hd ht (fun c => kt c H locs ls hP hS hl) (fun c => kf c H locs ls hP hS hl)
theorem pr_ifnonnull (C : pr_C E Y Rm cc own nL c0) {x : Nat} {off : Int} {tgt : Nat} (hd : decode cc pc = .ok (.ifnonnull off, 3)) (ht : (pc : Int) + off = (tgt : Int)) (k : pr_W E Y Rm nL f tgt lv st) : pr_W E Y Rm nL f pc lv (.ref x :: st) := fun H locs ls hP hS hl => lv_ifnonnull C.1 C.2.1 hd ht (k H locs ls hP hS hl)
theorem pr_ifnull (C : pr_C E Y Rm cc own nL c0) {x : Nat} {off : Int} (hd : decode cc pc = .ok (.ifnull off, 3)) (k : pr_W E Y Rm nL f (pc + 3) lv st) : pr_W E Y Rm nL f pc lv (.ref x :: st) := fun H locs ls hP hS hl => lv_ifnull C.1 C.2.1 hd (k H locs ls hP hS hl)
theorem pr_ifnullN (C : pr_C E Y Rm cc own nL c0) {off : Int} {tgt : Nat} (hd : decode cc pc = .ok (.ifnull off, 3)) (ht : (pc : Int) + off = (tgt : Int)) (k : pr_W E Y Rm nL f tgt lv st) : pr_W E Y Rm nL f pc lv (.null :: st) := fun H locs ls hP hS hl => lv_ifnullN C.1 C.2.1 hd ht (k H locs ls hP hS hl)
theorem pr_ifnonnullN (C : pr_C E Y Rm cc own nL c0) {off : Int} (hd : decode cc pc = .ok (.ifnonnull off, 3)) (k : pr_W E Y Rm nL f (pc + 3) lv st) : pr_W E Y Rm nL f pc lv (.null :: st) := fun H locs ls hP hS hl => lv_ifnonnullN C.1 C.2.1 hd (k H locs ls hP hS hl)
theorem pr_lcmp (C : pr_C E Y Rm cc own nL c0) {x y : Int64} (hd : decode cc pc = .ok (.lcmp, 1)) (k : pr_W E Y Rm nL f (pc + 1) lv (.int (lg_cmp x y) :: st)) : pr_W E Y Rm nL f pc lv (.long y :: .long x :: st) := fun H locs ls hP hS hl => W.lcmp C.1 C.2.1 hd (k H locs ls hP hS hl)
theorem pr_tableIn (C : pr_C E Y Rm cc own nL c0) {dflt lo hi : Int} {offs : Array Int} {len : Nat} {x v : Int32} {off : Int} {tgt : Nat} (hd : decode cc pc = .ok (.tableswitch dflt lo hi offs, len)) (hx : x = v) (h1 : ¬ v.toInt < lo) (h2 : ¬ hi < v.toInt) (ho : offs[(v.toInt - lo).toNat]? = some off) (ht : (pc : Int) + off = (tgt : Int)) (k : pr_W E Y Rm nL f tgt lv st) : pr_W E Y Rm nL f pc lv (.int x :: st) := by
  subst hx
  exact fun H locs ls hP hS hl => lv_tableIn C.1 C.2.1 hd h1 h2 ho ht (k H locs ls hP hS hl)
theorem pr_tableOut (C : pr_C E Y Rm cc own nL c0) {dflt lo hi : Int} {offs : Array Int} {len : Nat} {x : Int32} {tgt : Nat} (hd : decode cc pc = .ok (.tableswitch dflt lo hi offs, len)) (h : x.toInt < lo ∨ hi < x.toInt) (ht : (pc : Int) + dflt = (tgt : Int)) (k : pr_W E Y Rm nL f tgt lv st) : pr_W E Y Rm nL f pc lv (.int x :: st) := fun H locs ls hP hS hl => lv_tableOut C.1 C.2.1 hd h ht (k H locs ls hP hS hl)
theorem pr_lookup (C : pr_C E Y Rm cc own nL c0) {dflt : Int} {ps : Array (Int × Int)} {len : Nat} {x v : Int32} {off : Int} {tgt : Nat} (hd : decode cc pc = .ok (.lookupswitch dflt ps, len)) (hx : x = v) (hp : (ps.toList.zip (ps.toList.drop 1)).all (fun (a, next) => a.1 < next.1) = true) (ho : Op.lookupswitch.offset ps.toList dflt v.toInt = off) (ht : (pc : Int) + off = (tgt : Int)) (k : pr_W E Y Rm nL f tgt lv st) : pr_W E Y Rm nL f pc lv (.int x :: st) := by
  subst hx
  exact fun H locs ls hP hS hl => lv_lookup C.1 C.2.1 hd hp ho ht (k H locs ls hP hS hl)
theorem pr_getf (C : pr_C E Y Rm cc own nL c0) {ci N c z : Nat} {Cn : String} {T : u_T} (hk : (pr_L E)[c]? = some (ci, z)) (hci : ci < 10) (hcl : pr_CL[ci]? = some (Cn, T, N)) (hin : ∀ w ∈ u_ws Cn T N, w ∈ pr_AL) (j : Nat) (hj : j < N) {idx d : Nat} (hw : Cond.fieldLink own idx (T j).1 (T j).2.1 (T j).2.2.1 ∈ pr_AL) (hd : (pr_sh ci)[j]? = some d) (hdg : decode cc pc = .ok (.getfield idx, 3)) (k : pr_W E Y Rm nL f (pc + 3) lv (pr_fv (pr_ad E) f c j d :: st)) : pr_W E Y Rm nL f pc lv (.ref (pr_ad E c) :: st) := fun H locs ls hP hS hl =>
  va_get (D := pr_D E) (ci := ci) (fs := pr_fs (pr_ad E) f c 0 (pr_sh ci)) C.1 C.2.1 (Ts := c0 :: pr_AL) C.2.2.2.2.1 (fun w h => List.mem_cons_of_mem _ (hin w h)) C.2.2.2.1 (pr_K C) hP c (by rw [pr_me_at hk]; simp [pr_ce, hci]) hcl j hj (pr_hts C hw) (fun _ h => h) (by rw [pr_fs_get _ _ _ _ _ _ _ hd, Nat.zero_add]) hdg (k H locs ls hP hS hl)
theorem pr_getN (C : pr_C E Y Rm cc own nL c0) {ci N c z : Nat} {Cn : String} {T : u_T} (hk : (pr_L E)[c]? = some (ci, z)) (hci : ci < 10) (hcl : pr_CL[ci]? = some (Cn, T, N)) (hin : ∀ w ∈ u_ws Cn T N, w ∈ pr_AL) (j : Nat) (hj : j < N) {idx d : Nat} (hw : Cond.fieldLinkNest own idx (T j).1 (T j).2.1 (T j).2.2.1 "PrintRegister" ∈ pr_NW) (hd : (pr_sh ci)[j]? = some d) (hdg : decode cc pc = .ok (.getfield idx, 3)) (k : pr_W E Y Rm nL f (pc + 3) lv (pr_fv (pr_ad E) f c j d :: st)) : pr_W E Y Rm nL f pc lv (.ref (pr_ad E c) :: st) := fun H locs ls hP hS hl =>
  va_getN (D := pr_D E) (ci := ci) (fs := pr_fs (pr_ad E) f c 0 (pr_sh ci)) C.1 C.2.1 (Ts := c0 :: pr_AL) C.2.2.2.2.1 (fun w h => List.mem_cons_of_mem _ (hin w h)) C.2.2.2.1 (pr_K C) hP c (by rw [pr_me_at hk]; simp [pr_ce, hci]) hcl j hj (va_Nw.use rfl (pr_nts C hw)) (fun _ h => h) (by rw [pr_fs_get _ _ _ _ _ _ _ hd, Nat.zero_add]) hdg (k H locs ls hP hS hl)
theorem pr_set_o {ci c z j : Nat} {v : Int32} (hk : (pr_L E)[c]? = some (ci, z)) (hci : ci < 10) (hd : (pr_sh ci)[j]? = some 0) : (pr_m E f).set c (pr_ad E c, .inr (ci, (pr_fs (pr_ad E) f c 0 (pr_sh ci)).set j (.int v))) = pr_m E (pr_up f c j v) := by
  rw [pr_fs_set _ _ _ _ _ _ _ hd, Nat.zero_add]
  have h := pr_me_set (T := pr_t E) (ad := pr_ad E) (R := pr_R E) (f := f) (g := pr_up f c j v) hk (fun a h => pr_up_ne h)
  simp only [pr_ce, hci, if_true] at h
  exact h
theorem pr_putf (C : pr_C E Y Rm cc own nL c0) {ci N c z : Nat} {Cn : String} {T : u_T} (hk : (pr_L E)[c]? = some (ci, z)) (hci : ci < 10) (hcl : pr_CL[ci]? = some (Cn, T, N)) (hin : ∀ w ∈ u_ws Cn T N, w ∈ pr_AL) (ty0 : Nat → FieldType) (hty : ∀ k, k < N → parseFieldDescriptor (T k).2.2.1 = some (ty0 k)) (hnm : ∀ a, a < N → ∀ b, b < N → a ≠ b → (T a).2.1 ≠ (T b).2.1) (j : Nat) (hj : j < N) {idx : Nat} (hw : Cond.fieldLink own idx (T j).1 (T j).2.1 (T j).2.2.1 ∈ pr_AL) (hd : (pr_sh ci)[j]? = some 0) (hfin : (T j).2.2.2 = false) {v : Int32} (hn : narrow (ty0 j) (.int v) = .int v) (hfit : fits (ty0 j) (.int v) = true) (hdg : decode cc pc = .ok (.putfield idx, 3)) (k : ∀ g, g = pr_up f c j v → pr_W E Y Rm nL g (pc + 3) lv st) : pr_W E Y Rm nL f pc lv (.int v :: .ref (pr_ad E c) :: st) := fun H locs ls hP hS hl =>
  va_put (D := pr_D E) (ci := ci) (fs := pr_fs (pr_ad E) f c 0 (pr_sh ci)) C.1 C.2.1 (Ts := c0 :: pr_AL) C.2.2.2.2.1 (fun w h => List.mem_cons_of_mem _ (hin w h)) ty0 hty hnm C.2.2.2.1 (pr_K C) hP (pr_Ds C f) hS c (by rw [pr_me_at hk]; simp [pr_ce, hci]) hcl j hj (pr_hts C hw) (fun _ h => h) hfin (hty j hj) hn hfit (by rw [pr_fs_len]; exact (List.getElem?_eq_some_iff.mp hd).1) hdg (fun H1 locs1 hP1 _ hS1 => k _ rfl H1 locs1 ls (by rw [← pr_set_o hk hci hd]; exact hP1) hS1 hl)
theorem pr_putN (C : pr_C E Y Rm cc own nL c0) {ci N c z : Nat} {Cn : String} {T : u_T} (hk : (pr_L E)[c]? = some (ci, z)) (hci : ci < 10) (hcl : pr_CL[ci]? = some (Cn, T, N)) (hin : ∀ w ∈ u_ws Cn T N, w ∈ pr_AL) (ty0 : Nat → FieldType) (hty : ∀ k, k < N → parseFieldDescriptor (T k).2.2.1 = some (ty0 k)) (hnm : ∀ a, a < N → ∀ b, b < N → a ≠ b → (T a).2.1 ≠ (T b).2.1) (j : Nat) (hj : j < N) {idx : Nat} (hw : Cond.fieldLinkNest own idx (T j).1 (T j).2.1 (T j).2.2.1 "PrintRegister" ∈ pr_NW) (hd : (pr_sh ci)[j]? = some 0) (hfin : (T j).2.2.2 = false) {v : Int32} (hn : narrow (ty0 j) (.int v) = .int v) (hfit : fits (ty0 j) (.int v) = true) (hdg : decode cc pc = .ok (.putfield idx, 3)) (k : ∀ g, g = pr_up f c j v → pr_W E Y Rm nL g (pc + 3) lv st) : pr_W E Y Rm nL f pc lv (.int v :: .ref (pr_ad E c) :: st) := fun H locs ls hP hS hl =>
  va_putN (D := pr_D E) (ci := ci) (fs := pr_fs (pr_ad E) f c 0 (pr_sh ci)) C.1 C.2.1 (Ts := c0 :: pr_AL) C.2.2.2.2.1 (fun w h => List.mem_cons_of_mem _ (hin w h)) ty0 hty hnm C.2.2.2.1 (pr_K C) hP (pr_Ds C f) hS c (by rw [pr_me_at hk]; simp [pr_ce, hci]) hcl j hj (va_Nw.use rfl (pr_nts C hw)) (fun _ h => h) hfin (hty j hj) hn hfit (by rw [pr_fs_len]; exact (List.getElem?_eq_some_iff.mp hd).1) hdg (fun H1 locs1 hP1 _ hS1 => k _ rfl H1 locs1 ls (by rw [← pr_set_o hk hci hd]; exact hP1) hS1 hl)
theorem pr_at_i {c z : Nat} (hk : (pr_L E)[c]? = some (10, z)) : (pr_m E f)[c]? = some (pr_ad E c, .inl ((pr_t E).1, z, .inl (f c))) := by rw [pr_me_at hk]; simp [pr_ce]
theorem pr_at_u {c z : Nat} (hk : (pr_L E)[c]? = some (12, z)) : (pr_m E f)[c]? = some (pr_ad E c, .inl ((pr_t E).2.2, z, .inr (.inr (.inr (.inr (fun i => some (pr_ad E (c + 3 + 9 * i)))))))) := by rw [pr_me_at hk]; simp [pr_ce]
theorem pr_set_i {c z j : Nat} {v : Int32} (hk : (pr_L E)[c]? = some (10, z)) : (pr_m E f).set c (pr_ad E c, .inl ((pr_t E).1, z, .inl (upd (f c) j v))) = pr_m E (pr_up f c j v) := by
  have h := pr_me_set (T := pr_t E) (ad := pr_ad E) (R := pr_R E) (f := f) (g := pr_up f c j v) hk (fun a h => pr_up_ne h)
  simp only [pr_ce, pr_up_eq] at h
  exact h
theorem pr_set_r {c z : Nat} {g : Nat → Int32} (hk : (pr_L E)[c]? = some (10, z)) : (pr_m E f).set c (pr_ad E c, .inl ((pr_t E).1, z, .inl g)) = pr_m E (pr_rw f c g) := by
  have h := pr_me_set (T := pr_t E) (ad := pr_ad E) (R := pr_R E) (f := f) (g := pr_rw f c g) hk (fun a h => pr_rw_ne h)
  simp only [pr_ce, pr_rw_eq] at h
  exact h
theorem pr_iaload (C : pr_C E Y Rm cc own nL c0) {c z : Nat} {i : Int32} (hk : (pr_L E)[c]? = some (10, z)) (hin : vp_in i z) (hdg : decode cc pc = .ok (.iaload, 1)) (k : pr_W E Y Rm nL f (pc + 1) lv (.int (f c i.toNatClampNeg) :: st)) : pr_W E Y Rm nL f pc lv (.int i :: .ref (pr_ad E c) :: st) := fun H locs ls hP hS hl =>
  va_iald C.1 C.2.1 (pr_K C) hP c 0 (pr_at_i hk) rfl hin hdg (k H locs ls hP hS hl)
theorem pr_iastore (C : pr_C E Y Rm cc own nL c0) {c z : Nat} {i v : Int32} (hk : (pr_L E)[c]? = some (10, z)) (hin : vp_in i z) (hdg : decode cc pc = .ok (.iastore, 1)) (k : ∀ g, g = pr_up f c i.toNatClampNeg v → pr_W E Y Rm nL g (pc + 1) lv st) : pr_W E Y Rm nL f pc lv (.int v :: .int i :: .ref (pr_ad E c) :: st) := fun H locs ls hP hS hl =>
  va_iast C.1 C.2.1 (pr_K C) hP (pr_Ds C f) hS c 0 (pr_at_i hk) rfl hin hdg (fun H1 locs1 hP1 _ hS1 => k _ rfl H1 locs1 ls (by rw [← pr_set_i hk]; exact hP1) hS1 hl)
theorem pr_aaload (C : pr_C E Y Rm cc own nL c0) {c z : Nat} {i : Int32} (hk : (pr_L E)[c]? = some (12, z)) (hin : vp_in i z) (hdg : decode cc pc = .ok (.aaload, 1)) (k : pr_W E Y Rm nL f (pc + 1) lv (.ref (pr_ad E (c + 3 + 9 * i.toNatClampNeg)) :: st)) : pr_W E Y Rm nL f pc lv (.int i :: .ref (pr_ad E c) :: st) := fun H locs ls hP hS hl =>
  va_aldq C.1 C.2.1 (pr_K C) hP c 2 (pr_at_u hk) rfl hin hdg (k H locs ls hP hS hl)
theorem pr_cell_lt {c : Nat} {k : Nat × Nat} {H : Heap} (hP : va_P (pr_D E) pr_CL (pr_m E f) H) (hk : (pr_L E)[c]? = some k) : pr_ad E c < H.size := (hP c _ (pr_me_at hk)).lt

theorem pr_mabs (C : pr_C E Y Rm cc own nL c0) {x : Int32} {idx : Nat} (w1 : Cond.methodLink own idx Lib.Math.abs.name ∈ pr_AL) (w2 : Cond.static Lib.Math.abs.name ∈ pr_AL) (w3 : Cond.initialized "java/lang/Math" ∈ pr_AL) (w4 : Cond.code Lib.Math.abs.name Lib.Math.abs.code 1 (some .int) ∈ pr_AL) (hfr : 1 ≤ Rm.frames) (hlo : (st.map fun v => v.category).sum + 13 ≤ Rm.locals) (hdg : decode cc pc = .ok (.invokestatic idx, 3)) (k : pr_W E Y Rm nL f (pc + 3) lv (.int (if 0 ≤ x then x else 0 - x) :: st)) : pr_W E Y Rm nL f pc lv (.int x :: st) := fun H locs ls hP hS hl =>
  va_mabs C.1 C.2.1 (by rw [C.2.2.1]; exact hl.1.symm) C.2.2.2.1 (pr_hts C w1) (pr_hts C w2) (pr_hts C w3) (pr_hts C w4) hfr hlo C.2.2.2.2.2.2.2.2.2.2.2.1 C.2.2.2.2.2.2.2.2.2.2.2.2 hdg (k H locs ls hP hS hl)
theorem pr_mmax (C : pr_C E Y Rm cc own nL c0) {x y : Int32} {idx : Nat} (w1 : Cond.methodLink own idx Lib.Math.max.name ∈ pr_AL) (w2 : Cond.static Lib.Math.max.name ∈ pr_AL) (w3 : Cond.initialized "java/lang/Math" ∈ pr_AL) (w4 : Cond.code Lib.Math.max.name Lib.Math.max.code 2 (some .int) ∈ pr_AL) (hfr : 1 ≤ Rm.frames) (hlo : (st.map fun v => v.category).sum + 13 ≤ Rm.locals) (hdg : decode cc pc = .ok (.invokestatic idx, 3)) (k : pr_W E Y Rm nL f (pc + 3) lv (.int (if x < y then y else x) :: st)) : pr_W E Y Rm nL f pc lv (.int y :: .int x :: st) := fun H locs ls hP hS hl =>
  va_mmax C.1 C.2.1 (by rw [C.2.2.1]; exact hl.1.symm) C.2.2.2.1 (pr_hts C w1) (pr_hts C w2) (pr_hts C w3) (pr_hts C w4) hfr hlo C.2.2.2.2.2.2.2.2.2.2.2.1 C.2.2.2.2.2.2.2.2.2.2.2.2 hdg (k H locs ls hP hS hl)
theorem pr_mmin (C : pr_C E Y Rm cc own nL c0) {x y : Int32} {idx : Nat} (w1 : Cond.methodLink own idx Lib.Math.min.name ∈ pr_AL) (w2 : Cond.static Lib.Math.min.name ∈ pr_AL) (w3 : Cond.initialized "java/lang/Math" ∈ pr_AL) (w4 : Cond.code Lib.Math.min.name Lib.Math.min.code 2 (some .int) ∈ pr_AL) (hfr : 1 ≤ Rm.frames) (hlo : (st.map fun v => v.category).sum + 13 ≤ Rm.locals) (hdg : decode cc pc = .ok (.invokestatic idx, 3)) (k : pr_W E Y Rm nL f (pc + 3) lv (.int (if y < x then y else x) :: st)) : pr_W E Y Rm nL f pc lv (.int y :: .int x :: st) := fun H locs ls hP hS hl =>
  va_mmin C.1 C.2.1 (by rw [C.2.2.1]; exact hl.1.symm) C.2.2.2.1 (pr_hts C w1) (pr_hts C w2) (pr_hts C w3) (pr_hts C w4) hfr hlo C.2.2.2.2.2.2.2.2.2.2.2.1 C.2.2.2.2.2.2.2.2.2.2.2.2 hdg (k H locs ls hP hS hl)
theorem pr_sget (C : pr_C E Y Rm cc own nL c0) {idx N : Nat} {nm : String} {xs : List Int32} (hq : (nm, N, xs) ∈ pr_ST) (hw : Cond.fieldLink own idx "PrintRegister" nm "[I" ∈ pr_AL) (hdg : decode cc pc = .ok (.getstatic idx, 3)) (k : ∀ t : Nat, va_T .int t N (fun j => .int (xs.getD j 0)) (pr_A E) (pr_ys Y) (pr_ys Y).heap → pr_W E Y Rm nL f (pc + 3) lv (.ref t :: st)) : pr_W E Y Rm nL f pc lv st := fun H locs ls hP hS hl => by
  obtain ⟨t, h1, h2⟩ := C.2.2.2.2.2.2.2.2.1.1 _ hq
  exact va_gets C.1 C.2.1 h1 hS C.2.2.2.1 (pr_hts C hw) (fun _ h => h) hdg (k t h2 H locs ls hP hS hl)
theorem pr_sgetN (C : pr_C E Y Rm cc own nL c0) {idx N : Nat} {nm : String} {xs : List Int32} (hq : (nm, N, xs) ∈ pr_ST) (hw : Cond.fieldLinkNest own idx "PrintRegister" nm "[I" "PrintRegister" ∈ pr_NW) (hdg : decode cc pc = .ok (.getstatic idx, 3)) (k : ∀ t : Nat, va_T .int t N (fun j => .int (xs.getD j 0)) (pr_A E) (pr_ys Y) (pr_ys Y).heap → pr_W E Y Rm nL f (pc + 3) lv (.ref t :: st)) : pr_W E Y Rm nL f pc lv st := fun H locs ls hP hS hl => by
  obtain ⟨t, h1, h2⟩ := C.2.2.2.2.2.2.2.2.1.1 _ hq
  exact va_getsN C.1 C.2.1 h1 hS C.2.2.2.1 (va_Nw.use rfl (pr_nts C hw)) (fun _ h => h) hdg (k t h2 H locs ls hP hS hl)
theorem pr_saload (C : pr_C E Y Rm cc own nL c0) {t N : Nat} {xs : List Int32} {i : Int32} (hT : va_T .int t N (fun j => .int (xs.getD j 0)) (pr_A E) (pr_ys Y) (pr_ys Y).heap) (hin : vp_in i N) (hdg : decode cc pc = .ok (.iaload, 1)) (k : pr_W E Y Rm nL f (pc + 1) lv (.int (xs.getD i.toNatClampNeg 0) :: st)) : pr_W E Y Rm nL f pc lv (.int i :: .ref t :: st) := fun H locs ls hP hS hl =>
  va_ti C.1 C.2.1 hT hS hin rfl hdg (k H locs ls hP hS hl)
theorem pr_scld (C : pr_C E Y Rm cc own nL c0) {sb sL : Nat} {sx : Nat → Int32} (hsc : pr_sc E = (sb, sL, sx)) {i : Int32} (hin : vp_in i sL) (hdg : decode cc pc = .ok (.iaload, 1)) (k : pr_W E Y Rm nL f (pc + 1) lv (.int (sx i.toNatClampNeg) :: st)) : pr_W E Y Rm nL f pc lv (.int i :: .ref sb :: st) := fun H locs ls hP hS hl => by
  have h := C.2.2.2.2.2.2.2.2.1.2
  rw [hsc] at h
  exact va_ti C.1 C.2.1 h hS hin rfl hdg (k H locs ls hP hS hl)
theorem pr_sclen (C : pr_C E Y Rm cc own nL c0) {sb sL : Nat} {sx : Nat → Int32} (hsc : pr_sc E = (sb, sL, sx)) (hdg : decode cc pc = .ok (.arraylength, 1)) (k : pr_W E Y Rm nL f (pc + 1) lv (.int (nI sL) :: st)) : pr_W E Y Rm nL f pc lv (.ref sb :: st) := fun H locs ls hP hS hl => by
  have h := C.2.2.2.2.2.2.2.2.1.2
  rw [hsc] at h
  exact va_tlen C.1 C.2.1 h hS rfl hdg (k H locs ls hP hS hl)
theorem pr_iret (C : pr_C E Y Rm cc own nL c0) {v : Int32} (Z : pr_Z E Y (some .int) (some (.int v)) f) (hdg : decode cc pc = .ok (.ireturn, 1)) : pr_W E Y Rm nL f pc lv [.int v] := fun H locs ls hP hS hl => by
  rw [Z.2]
  exact W.iret C.1 C.2.1 Z.1 (fun t ht hW => ⟨rfl, by rw [ht]; exact hP, hS.F ht⟩) hS.2.2 hdg C.2.2.2.2.2.1
theorem pr_zret (C : pr_C E Y Rm cc own nL c0) {v : Int32} (hn : narrow .boolean (.int v) = .int v) (Z : pr_Z E Y (some .boolean) (some (.int v)) f) (hdg : decode cc pc = .ok (.ireturn, 1)) : pr_W E Y Rm nL f pc lv [.int v] := fun H locs ls hP hS hl => by
  rw [Z.2]
  exact W.zret C.1 C.2.1 Z.1 hn (fun t ht hW => ⟨rfl, by rw [ht]; exact hP, hS.F ht⟩) hS.2.2 hdg C.2.2.2.2.2.1
theorem pr_vret (C : pr_C E Y Rm cc own nL c0) (Z : pr_Z E Y none none f) (hdg : decode cc pc = .ok (.return_, 1)) : pr_W E Y Rm nL f pc lv [] := fun H locs ls hP hS hl => by
  rw [Z.2]
  exact W.vret C.1 C.2.1 Z.1 (fun t ht hW => ⟨rfl, by rw [ht]; exact hP, hS.F ht⟩) hS.2.2 hdg C.2.2.2.2.2.1
theorem pr_aret (C : pr_C E Y Rm cc own nL c0) {v : Value} {n : String} (hv : v = .null ∨ ∃ a, v = .ref a) (Z : pr_Z E Y (some (.object n)) (some v) f) (hdg : decode cc pc = .ok (.areturn, 1)) : pr_W E Y Rm nL f pc lv [v] := fun H locs ls hP hS hl => by
  rw [Z.2]
  exact W.aret C.1 C.2.1 Z.1 (Or.inl ⟨n, rfl⟩) hv (fun t ht hW => ⟨rfl, by rw [ht]; exact hP, hS.F ht⟩) hS.2.2 hdg C.2.2.2.2.2.1
theorem pr_blind {av : List Value} : FrameBlind (pr_Pr E av f) := fun a U g mk q => ⟨q.1, q.2.1, q.2.2.1, va_K.moved (u := U) (U := U.calling g mk a) (Vm.Alike.refl U.vm) q.2.2.2.1, q.2.2.2.2.1.moved (u := U) (U := U.calling g mk a) (Vm.Alike.refl U.vm), q.2.2.2.2.2.same (s := U) (U := U.calling g mk a) rfl⟩
theorem pr_pre (C : pr_C E Y Rm cc own nL c0) {av : List Value} {H : Heap} {locs : List Loc} (hP : va_P (pr_D E) pr_CL (pr_m E f) H) (hS : va_S (pr_A E) (pr_ys Y).heap H locs) : ∀ U : State, U.heap = H → (pr_ys Y).WarmedH U.vm → pr_Pr E av f av.toArray U := fun U hU hW => by
  subst hU
  exact ⟨rfl, Nat.le_trans C.2.2.2.2.2.2.2.2.2.2.1 hS.1, hP, (pr_K C).moved hW.alike, (C.2.2.2.2.2.2.2.2.1.moved hW.alike).kept (fun a h1 h2 => hS.2.1 a h1 h2), C.2.2.2.2.2.2.2.2.2.1.warm hW⟩
theorem pr_after {r : Option Value} {g : pr_M} {H : Heap} {locs : List Loc} {rest stk : List Value} {ls : Array Slot} {y : MethodName} {av : Array Value} (hB : pr_B E ≤ (pr_ys Y).heap.size)
    (hr : va_Run (pr_yp Y) (pr_l E) (pr_ye Y) Rm (pr_ys Y) (pr_ym Y) (pr_ya Y) (pr_yb Y) (pr_yh Y) (pr_yc Y) H locs (pr_yk Y) (pr_yn Y) 0 0 (F0 (pr_ym Y) pc ls stk) rest (pr_Po E r g av) (pr_A E))
    (hS : va_S (pr_A E) (pr_ys Y).heap H locs) (hl : lv_has ls nL lv) (k : pr_W E Y Rm nL g (pc + 3) lv (r.toList ++ rest)) :
    W (pr_yp Y) (pr_l E) (pr_ye Y) Rm (pr_ys Y) (pr_ym Y) (pr_ya Y) (pr_yb Y) (pr_yh Y) (pr_yc Y) H locs (pr_yk Y) (pr_yn Y) (pr_yQ Y) (F0 (pr_ym Y) pc ls stk) := by
  intro T hT X
  obtain ⟨v, st₀, t, T', L, h0, X', hL, e1, e2, ⟨hv, hP1, hz, hk⟩, go⟩ := hr T hT X
  cases hv
  rw [h0] at hz hk
  obtain ⟨t2, a1, b1⟩ := k T'.heap (locs ++ L) ls (by rw [e1]; exact hP1)
    ⟨Nat.le_trans hS.1 (by rw [e1]; exact hz), fun q h1 h2 => by rw [e1, hk q (Nat.lt_of_lt_of_le h1 hS.1) h2]; exact hS.2.1 q h1 h2, fun q hq => by
      rcases List.mem_append.mp hq with h | h
      · exact hS.2.2 q h
      · exact hL q h⟩ hl T' rfl X'
  exact ⟨t2, go t2 a1, b1⟩
theorem pr_callV (C : pr_C E Y Rm cc own nL c0) {y : MethodName} {bytes : ByteArray} {maxL ci z c N idx n : Nat} {Cn : String} {T : u_T} {ret : Option FieldType} {rm : Room} {As stk : List Value} {r : Option Value} {g : pr_M} (hM : pr_Met E y bytes maxL ret rm (.ref (pr_ad E c) :: As) f r g) (hk : (pr_L E)[c]? = some (ci, z)) (hci : ci < 10) (hcl : pr_CL[ci]? = some (Cn, T, N))
    (w1 : Cond.methodLink own idx y ∈ pr_AL) (w2 : Cond.instanceMethod y ∈ pr_AL) (w3 : Cond.selects Cn y y ∈ pr_AL) (w4 : Cond.initialized Cn ∈ pr_AL) (w5 : Cond.code y bytes maxL ret ∈ pr_AL) (hrc : rm.cells = 0) (hrs : rm.slots = 0)
    (hy : y.cls = Cn ∧ y.cls ≠ "java/lang/invoke/MethodHandle" ∧ y.cls ≠ "java/lang/invoke/VarHandle" ∧ (parseMethodDescriptor y.desc).map (fun d => d.parameters.length) = some n) (hn : As.length = n) (hR : rm.frames + 1 ≤ Rm.frames ∧ 8 + (maxL + 11) + rm.locals ≤ Rm.locals)
    (hst : stk = As.reverse ++ .ref (pr_ad E c) :: st) (hcat : (st.map fun v => v.category).sum ≤ 8) (hdg : decode cc pc = .ok (.invokevirtual idx, 3)) (k : pr_W E Y Rm nL g (pc + 3) lv (r.toList ++ st)) : pr_W E Y Rm nL f pc lv stk := fun H locs ls hP hS hl => by
  have hG : GoodIn (c0 :: pr_AL) (wsV own idx Cn y (.code y bytes maxL ret :: pr_AL)) := by
    intro w hw
    rcases List.mem_append.mp hw with h | h
    · have hm : w ∈ pr_AL := by
        simp only [List.mem_cons, List.not_mem_nil, or_false] at h
        rcases h with rfl | rfl | rfl | rfl <;> assumption
      exact ⟨List.mem_cons_of_mem _ hm, good_of_word (List.all_eq_true.mp pr_AL_good w hm)⟩
    · exact pr_goodIn w5 w h
  have he : (pr_m E f)[c]? = some (pr_ad E c, .inr (ci, pr_fs (pr_ad E) f c 0 (pr_sh ci))) := by rw [pr_me_at hk]; simp [pr_ce, hci]
  exact pr_after (y := y) C.2.2.2.2.2.2.2.2.2.2.1 (va_runV (As := As) (rest := st) (g := F0 (pr_ym Y) pc ls stk) ⟨C.1, C.2.1, C.2.2.1, C.2.2.2.1, C.2.2.2.2.1⟩ (hM C.2.2.2.2.2.2.2.1) (cwV n C.2.2.2.2.1 hG rfl hrc hrs hy hR) ⟨pr_blind, va_recv (pr_K C) hP hcl he, pr_pre C hP hS⟩ rfl hn hl.1 hst (lv_room hcat) hdg ⟨C.2.2.2.2.2.2.2.2.2.2.2.1, C.2.2.2.2.2.2.2.2.2.2.2.2⟩) hS hl k
theorem pr_callS (C : pr_C E Y Rm cc own nL c0) {y : MethodName} {bytes : ByteArray} {maxL idx n : Nat} {ret : Option FieldType} {rm : Room} {As stk : List Value} {r : Option Value} {g : pr_M} (hM : pr_Met E y bytes maxL ret rm As f r g)
    (w1 : Cond.methodLink own idx y ∈ pr_AL) (w2 : Cond.static y ∈ pr_AL) (w4 : Cond.initialized y.cls ∈ pr_AL) (w5 : Cond.code y bytes maxL ret ∈ pr_AL) (hrc : rm.cells = 0) (hrs : rm.slots = 0)
    (hy : y.cls ≠ "java/lang/invoke/MethodHandle" ∧ y.cls ≠ "java/lang/invoke/VarHandle" ∧ (parseMethodDescriptor y.desc).map (fun d => d.parameters.length) = some n) (hn : As.length = n) (hR : rm.frames + 1 ≤ Rm.frames ∧ 8 + (maxL + 11) + rm.locals ≤ Rm.locals)
    (hst : stk = As.reverse ++ st) (hcat : (st.map fun v => v.category).sum ≤ 8) (hdg : decode cc pc = .ok (.invokestatic idx, 3)) (k : pr_W E Y Rm nL g (pc + 3) lv (r.toList ++ st)) : pr_W E Y Rm nL f pc lv stk := fun H locs ls hP hS hl => by
  have hG : GoodIn (c0 :: pr_AL) (va_wsS own idx y (.code y bytes maxL ret :: pr_AL)) := by
    intro w hw
    rcases List.mem_append.mp hw with h | h
    · have hm : w ∈ pr_AL := by
        simp only [List.mem_cons, List.not_mem_nil, or_false] at h
        rcases h with rfl | rfl | rfl <;> assumption
      exact ⟨List.mem_cons_of_mem _ hm, good_of_word (List.all_eq_true.mp pr_AL_good w hm)⟩
    · exact pr_goodIn w5 w h
  exact pr_after (y := y) C.2.2.2.2.2.2.2.2.2.2.1 (va_runS (As := As) (rest := st) (g := F0 (pr_ym Y) pc ls stk) ⟨C.1, C.2.1, C.2.2.1, C.2.2.2.1, C.2.2.2.2.1⟩ (hM C.2.2.2.2.2.2.2.1) (va_cwS n C.2.2.2.2.1 hG rfl hrc hrs hy hR) ⟨pr_blind, pr_pre C hP hS⟩ rfl hn hl.1 hst (lv_room hcat) hdg ⟨C.2.2.2.2.2.2.2.2.2.2.2.1, C.2.2.2.2.2.2.2.2.2.2.2.2⟩) hS hl k
theorem pr_callSN (C : pr_C E Y Rm cc own nL c0) {y : MethodName} {bytes : ByteArray} {maxL idx n : Nat} {ret : Option FieldType} {rm : Room} {As stk : List Value} {r : Option Value} {g : pr_M} (hM : pr_Met E y bytes maxL ret rm As f r g)
    (w1 : Cond.methodLinkNest own idx y "PrintRegister" ∈ pr_NW) (w2 : Cond.static y ∈ pr_AL) (w4 : Cond.initialized y.cls ∈ pr_AL) (w5 : Cond.code y bytes maxL ret ∈ pr_AL) (hrc : rm.cells = 0) (hrs : rm.slots = 0)
    (hy : y.cls ≠ "java/lang/invoke/MethodHandle" ∧ y.cls ≠ "java/lang/invoke/VarHandle" ∧ (parseMethodDescriptor y.desc).map (fun d => d.parameters.length) = some n) (hn : As.length = n) (hR : rm.frames + 1 ≤ Rm.frames ∧ 8 + (maxL + 11) + rm.locals ≤ Rm.locals)
    (hst : stk = As.reverse ++ st) (hcat : (st.map fun v => v.category).sum ≤ 8) (hdg : decode cc pc = .ok (.invokestatic idx, 3)) (k : pr_W E Y Rm nL g (pc + 3) lv (r.toList ++ st)) : pr_W E Y Rm nL f pc lv stk := fun H locs ls hP hS hl =>
  pr_after (y := y) C.2.2.2.2.2.2.2.2.2.2.1 (va_runSN (As := As) (rest := st) (g := F0 (pr_ym Y) pc ls stk) ⟨C.1, C.2.1, C.2.2.1, C.2.2.2.1, C.2.2.2.2.1⟩ (hM C.2.2.2.2.2.2.2.1) ⟨va_cnB n C.2.2.2.2.1 (pr_goodIn w5) rfl hrc hrs (pr_nts C w1) (pr_hts C w4) hy hR, pr_hts C w2, trivial⟩ ⟨pr_blind, pr_pre C hP hS⟩ rfl hn hl.1 hst (lv_room hcat) hdg ⟨C.2.2.2.2.2.2.2.2.2.2.2.1, C.2.2.2.2.2.2.2.2.2.2.2.2⟩) hS hl k
end RW
/-! ===== the words of a picture's answer ===== -/
def pr_bd {α β : Type} (x : Option (α × pr_M)) (k : α → pr_M → Option β) : Option β := match x with
  | none => none
  | some (a, g) => k a g
theorem pr_bd_some {α β : Type} {x : Option (α × pr_M)} {k : α → pr_M → Option β} {z : β} (h : pr_bd x k = some z) : ∃ (a : α) (g : pr_M), x = some (a, g) ∧ k a g = some z := by
  cases x with
  | none => cases h
  | some q => exact ⟨q.1, q.2, rfl, h⟩
def pr_gd {β : Type} (p : Prop) [Decidable p] (x : Option β) : Option β := if p then x else none
theorem pr_gd_some {β : Type} {p : Prop} [Decidable p] {x : Option β} {z : β} (h : pr_gd p x = some z) : p ∧ x = some z := by
  by_cases c : p
  · exact ⟨c, by simpa [pr_gd, c] using h⟩
  · simp [pr_gd, c] at h
def pr_lt {α β : Type} (v : α) (k : α → β) : β := k v
theorem pr_lt_at {α β : Type} {v : α} {k : α → β} {z : β} (h : pr_lt v k = z) {a : α} (e : a = v) : k a = z := by subst e; exact h
theorem pr_ifT {α : Type} {p : Prop} [Decidable p] {a b z : α} (h : (if p then a else b) = z) (c : p) : a = z := by rw [if_pos c] at h; exact h
theorem pr_ifF {α : Type} {p : Prop} [Decidable p] {a b z : α} (h : (if p then a else b) = z) (c : ¬ p) : b = z := by rw [if_neg c] at h; exact h
def pr_op {β : Type} (x : Option Nat) (n : Option β) (k : Nat → Option β) : Option β := match x with
  | none => n
  | some a => k a
theorem pr_inj {α β : Type} {a c : α} {b d : β} (h : some (a, b) = some (c, d)) : c = a ∧ d = b := by cases h; exact ⟨rfl, rfl⟩
end
