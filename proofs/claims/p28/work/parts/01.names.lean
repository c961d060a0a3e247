def RX0 : String := "PrintRegister$Controller"
def TX0 : u_T := fun k => match k with
  | 0 => ("PrintRegister$Controller", "feed", "I", false)
  | 1 => ("PrintRegister$Controller", "sum", "I", false)
  | 2 => ("PrintRegister$Controller", "wait", "I", false)
  | 3 => ("PrintRegister$Controller", "misses", "I", false)
  | 4 => ("PrintRegister$Controller", "readyTime", "I", false)
  | 5 => ("PrintRegister$Controller", "expectedError", "I", false)
  | 6 => ("PrintRegister$Controller", "expectedSkew", "I", false)
  | 7 => ("PrintRegister$Controller", "addedPhase", "I", false)
  | _ => ("PrintRegister$Controller", "addedSkew", "I", false)
def tyX0 : Nat → FieldType := fun k => match k with
  | 0 => .int
  | 1 => .int
  | 2 => .int
  | 3 => .int
  | 4 => .int
  | 5 => .int
  | 6 => .int
  | 7 => .int
  | _ => .int
abbrev wsX00 : List Cond := u_ws RX0 TX0 9
theorem nmX0 : ∀ a, a < 9 → ∀ b, b < 9 → a ≠ b → (TX0 a).2.1 ≠ (TX0 b).2.1 := by decide +kernel
theorem tyX0_ok : ∀ k, k < 9 → parseFieldDescriptor (TX0 k).2.2.1 = some (tyX0 k) := by decide +kernel
abbrev cX0_init : ByteArray := prog_2_method_1_code
def yX0_init : MethodName := ⟨RX0, "<init>", "()V"⟩
abbrev cX0_clear : ByteArray := prog_2_method_2_code
def yX0_clear : MethodName := ⟨RX0, "clear", "()V"⟩
abbrev cX0_endRepeat : ByteArray := prog_2_method_4_code
def yX0_endRepeat : MethodName := ⟨RX0, "endRepeat", "()V"⟩
def RX1 : String := "PrintRegister$ErrorLog"
def TX1 : u_T := fun k => match k with
  | 0 => ("PrintRegister$ErrorLog", "places", "[I", true)
  | _ => ("PrintRegister$ErrorLog", "added", "I", false)
def tyX1 : Nat → FieldType := fun k => match k with
  | 0 => .array .int
  | _ => .int
abbrev wsX10 : List Cond := u_ws RX1 TX1 2
theorem nmX1 : ∀ a, a < 2 → ∀ b, b < 2 → a ≠ b → (TX1 a).2.1 ≠ (TX1 b).2.1 := by decide +kernel
theorem tyX1_ok : ∀ k, k < 2 → parseFieldDescriptor (TX1 k).2.2.1 = some (tyX1 k) := by decide +kernel
abbrev cX1_init : ByteArray := prog_3_method_1_code
def yX1_init : MethodName := ⟨RX1, "<init>", "()V"⟩
abbrev cX1_begin : ByteArray := prog_3_method_2_code
def yX1_begin : MethodName := ⟨RX1, "begin", "()V"⟩
abbrev cX1_add : ByteArray := prog_3_method_4_code
def yX1_add : MethodName := ⟨RX1, "add", "(I)V"⟩
abbrev cX1_kept : ByteArray := prog_3_method_5_code
def yX1_kept : MethodName := ⟨RX1, "kept", "(I)I"⟩
abbrev cX1_sizeOf : ByteArray := prog_3_method_6_code
def yX1_sizeOf : MethodName := ⟨RX1, "sizeOf", "(I)I"⟩
abbrev cX1_greatest : ByteArray := prog_3_method_7_code
def yX1_greatest : MethodName := ⟨RX1, "greatest", "(I)I"⟩
abbrev cX1_sumOf : ByteArray := prog_3_method_8_code
def yX1_sumOf : MethodName := ⟨RX1, "sumOf", "(I)I"⟩
abbrev cX1_greaterThan : ByteArray := prog_3_method_9_code
def yX1_greaterThan : MethodName := ⟨RX1, "greaterThan", "(II)I"⟩
def RX2 : String := "PrintRegister$Pad"
def TX2 : u_T := fun k => match k with
  | 0 => ("PrintRegister$Pad", "codes", "[I", true)
  | 1 => ("PrintRegister$Pad", "length", "I", false)
  | 2 => ("PrintRegister$Pad", "at", "I", false)
  | 3 => ("PrintRegister$Pad", "failed", "Z", false)
  | 4 => ("PrintRegister$Pad", "kind", "I", false)
  | 5 => ("PrintRegister$Pad", "unit", "I", false)
  | 6 => ("PrintRegister$Pad", "number", "I", false)
  | 7 => ("PrintRegister$Pad", "duration", "I", false)
  | 8 => ("PrintRegister$Pad", "repeats", "I", false)
  | _ => ("PrintRegister$Pad", "greatestUnit", "I", false)
def tyX2 : Nat → FieldType := fun k => match k with
  | 0 => .array .int
  | 1 => .int
  | 2 => .int
  | 3 => .boolean
  | 4 => .int
  | 5 => .int
  | 6 => .int
  | 7 => .int
  | 8 => .int
  | _ => .int
abbrev wsX20 : List Cond := u_ws RX2 TX2 10
theorem nmX2 : ∀ a, a < 10 → ∀ b, b < 10 → a ≠ b → (TX2 a).2.1 ≠ (TX2 b).2.1 := by decide +kernel
theorem tyX2_ok : ∀ k, k < 10 → parseFieldDescriptor (TX2 k).2.2.1 = some (tyX2 k) := by decide +kernel
abbrev cX2_init : ByteArray := prog_4_method_1_code
def yX2_init : MethodName := ⟨RX2, "<init>", "()V"⟩
def RX3 : String := "PrintRegister$Press"
def TX3 : u_T := fun k => match k with
  | 0 => ("PrintRegister$Press", "units", "[LPrintRegister$Unit;", true)
  | 1 => ("PrintRegister$Press", "changes", "[I", true)
  | 2 => ("PrintRegister$Press", "totals", "[I", true)
  | 3 => ("PrintRegister$Press", "unitCount", "I", false)
  | 4 => ("PrintRegister$Press", "time", "I", false)
  | 5 => ("PrintRegister$Press", "speedNow", "I", false)
  | 6 => ("PrintRegister$Press", "speedBefore", "I", false)
  | 7 => ("PrintRegister$Press", "spliceStart", "I", false)
  | 8 => ("PrintRegister$Press", "spliceAmount", "I", false)
  | _ => ("PrintRegister$Press", "spliceDuration", "I", false)
def tyX3 : Nat → FieldType := fun k => match k with
  | 0 => .array (.object "PrintRegister$Unit")
  | 1 => .array .int
  | 2 => .array .int
  | 3 => .int
  | 4 => .int
  | 5 => .int
  | 6 => .int
  | 7 => .int
  | 8 => .int
  | _ => .int
abbrev wsX30 : List Cond := u_ws RX3 TX3 10
theorem nmX3 : ∀ a, a < 10 → ∀ b, b < 10 → a ≠ b → (TX3 a).2.1 ≠ (TX3 b).2.1 := by decide +kernel
theorem tyX3_ok : ∀ k, k < 10 → parseFieldDescriptor (TX3 k).2.2.1 = some (tyX3 k) := by decide +kernel
abbrev cX3_init : ByteArray := prog_5_method_1_code
def yX3_init : MethodName := ⟨RX3, "<init>", "()V"⟩
abbrev cX3_begin : ByteArray := prog_5_method_2_code
def yX3_begin : MethodName := ⟨RX3, "begin", "(I)V"⟩
abbrev cX3_unitAt : ByteArray := prog_5_method_4_code
def yX3_unitAt : MethodName := ⟨RX3, "unitAt", "(I)LPrintRegister$Unit;"⟩
abbrev cX3_controlledUnitAt : ByteArray := prog_5_method_5_code
def yX3_controlledUnitAt : MethodName := ⟨RX3, "controlledUnitAt", "(I)LPrintRegister$Unit;"⟩
abbrev cX3_wayOf : ByteArray := prog_5_method_6_code
def yX3_wayOf : MethodName := ⟨RX3, "wayOf", "(I)I"⟩
abbrev cX3_startSplice : ByteArray := prog_5_method_7_code
def yX3_startSplice : MethodName := ⟨RX3, "startSplice", "(II)V"⟩
abbrev cX3_repeatsToLastUnit : ByteArray := prog_5_method_8_code
def yX3_repeatsToLastUnit : MethodName := ⟨RX3, "repeatsToLastUnit", "()I"⟩
abbrev cX3_makeRepeat : ByteArray := prog_5_method_11_code
def yX3_makeRepeat : MethodName := ⟨RX3, "makeRepeat", "()V"⟩
abbrev cX3_bringSplice : ByteArray := prog_5_method_12_code
def yX3_bringSplice : MethodName := ⟨RX3, "bringSplice", "()V"⟩
abbrev cX3_watchUnit : ByteArray := prog_5_method_13_code
def yX3_watchUnit : MethodName := ⟨RX3, "watchUnit", "(LPrintRegister$Unit;I)V"⟩
abbrev cX3_control : ByteArray := prog_5_method_14_code
def yX3_control : MethodName := ⟨RX3, "control", "(LPrintRegister$Unit;I)V"⟩
def RX4 : String := "PrintRegister$Printer"
def TX4 : u_T := fun k => match k with
  | 0 => ("PrintRegister$Printer", "offsets", "[I", true)
  | 1 => ("PrintRegister$Printer", "skews", "[I", true)
  | 2 => ("PrintRegister$Printer", "phase", "I", false)
  | 3 => ("PrintRegister$Printer", "skewSetting", "I", false)
  | 4 => ("PrintRegister$Printer", "tilt", "I", false)
  | 5 => ("PrintRegister$Printer", "disturbanceAmount", "I", false)
  | 6 => ("PrintRegister$Printer", "disturbanceDuration", "I", false)
  | _ => ("PrintRegister$Printer", "disturbanceLeft", "I", false)
def tyX4 : Nat → FieldType := fun k => match k with
  | 0 => .array .int
  | 1 => .array .int
  | 2 => .int
  | 3 => .int
  | 4 => .int
  | 5 => .int
  | 6 => .int
  | _ => .int
abbrev wsX40 : List Cond := u_ws RX4 TX4 8
theorem nmX4 : ∀ a, a < 8 → ∀ b, b < 8 → a ≠ b → (TX4 a).2.1 ≠ (TX4 b).2.1 := by decide +kernel
theorem tyX4_ok : ∀ k, k < 8 → parseFieldDescriptor (TX4 k).2.2.1 = some (tyX4 k) := by decide +kernel
abbrev cX4_init : ByteArray := prog_6_method_1_code
def yX4_init : MethodName := ⟨RX4, "<init>", "()V"⟩
abbrev cX4_begin : ByteArray := prog_6_method_2_code
def yX4_begin : MethodName := ⟨RX4, "begin", "()V"⟩
abbrev cX4_byHand : ByteArray := prog_6_method_4_code
def yX4_byHand : MethodName := ⟨RX4, "byHand", "(I)I"⟩
abbrev cX4_changeByHand : ByteArray := prog_6_method_5_code
def yX4_changeByHand : MethodName := ⟨RX4, "changeByHand", "(II)V"⟩
abbrev cX4_beDisturbed : ByteArray := prog_6_method_6_code
def yX4_beDisturbed : MethodName := ⟨RX4, "beDisturbed", "(II)V"⟩
abbrev cX4_disturbance : ByteArray := prog_6_method_7_code
def yX4_disturbance : MethodName := ⟨RX4, "disturbance", "()I"⟩
abbrev cX4_printPiece : ByteArray := prog_6_method_8_code
def yX4_printPiece : MethodName := ⟨RX4, "printPiece", "(II)V"⟩
abbrev cX4_offsetAt : ByteArray := prog_6_method_9_code
def yX4_offsetAt : MethodName := ⟨RX4, "offsetAt", "(I)I"⟩
abbrev cX4_skewAt : ByteArray := prog_6_method_10_code
def yX4_skewAt : MethodName := ⟨RX4, "skewAt", "(I)I"⟩
def RX5 : String := "PrintRegister$Sensor"
def TX5 : u_T := fun k => match k with
  | 0 => ("PrintRegister$Sensor", "log", "LPrintRegister$ErrorLog;", true)
  | 1 => ("PrintRegister$Sensor", "hiddenLeft", "I", false)
  | 2 => ("PrintRegister$Sensor", "falseOffset", "I", false)
  | 3 => ("PrintRegister$Sensor", "falseLeft", "I", false)
  | 4 => ("PrintRegister$Sensor", "sawPiece", "Z", false)
  | 5 => ("PrintRegister$Sensor", "trueError", "I", false)
  | 6 => ("PrintRegister$Sensor", "trueSkew", "I", false)
  | 7 => ("PrintRegister$Sensor", "recognized", "I", false)
  | 8 => ("PrintRegister$Sensor", "offset", "I", false)
  | _ => ("PrintRegister$Sensor", "skew", "I", false)
def tyX5 : Nat → FieldType := fun k => match k with
  | 0 => .object "PrintRegister$ErrorLog"
  | 1 => .int
  | 2 => .int
  | 3 => .int
  | 4 => .boolean
  | 5 => .int
  | 6 => .int
  | 7 => .int
  | 8 => .int
  | _ => .int
abbrev wsX50 : List Cond := u_ws RX5 TX5 10
theorem nmX5 : ∀ a, a < 10 → ∀ b, b < 10 → a ≠ b → (TX5 a).2.1 ≠ (TX5 b).2.1 := by decide +kernel
theorem tyX5_ok : ∀ k, k < 10 → parseFieldDescriptor (TX5 k).2.2.1 = some (tyX5 k) := by decide +kernel
abbrev cX5_init : ByteArray := prog_7_method_1_code
def yX5_init : MethodName := ⟨RX5, "<init>", "()V"⟩
abbrev cX5_begin : ByteArray := prog_7_method_2_code
def yX5_begin : MethodName := ⟨RX5, "begin", "()V"⟩
abbrev cX5_seeNothing : ByteArray := prog_7_method_4_code
def yX5_seeNothing : MethodName := ⟨RX5, "seeNothing", "()V"⟩
abbrev cX5_seePiece : ByteArray := prog_7_method_5_code
def yX5_seePiece : MethodName := ⟨RX5, "seePiece", "(II)V"⟩
abbrev cX5_recognizeNear : ByteArray := prog_7_method_6_code
def yX5_recognizeNear : MethodName := ⟨RX5, "recognizeNear", "(III)V"⟩
abbrev cX5_sight : ByteArray := prog_7_method_7_code
def yX5_sight : MethodName := ⟨RX5, "sight", "(I)I"⟩
def RX6 : String := "PrintRegister$Slot"
def TX6 : u_T := fun k => match k with
  | 0 => ("PrintRegister$Slot", "saved", "LPrintRegister$Press;", true)
  | _ => ("PrintRegister$Slot", "isUsed", "Z", false)
def tyX6 : Nat → FieldType := fun k => match k with
  | 0 => .object "PrintRegister$Press"
  | _ => .boolean
abbrev wsX60 : List Cond := u_ws RX6 TX6 2
theorem nmX6 : ∀ a, a < 2 → ∀ b, b < 2 → a ≠ b → (TX6 a).2.1 ≠ (TX6 b).2.1 := by decide +kernel
theorem tyX6_ok : ∀ k, k < 2 → parseFieldDescriptor (TX6 k).2.2.1 = some (tyX6 k) := by decide +kernel
abbrev cX6_init : ByteArray := prog_8_method_1_code
def yX6_init : MethodName := ⟨RX6, "<init>", "()V"⟩
def RX7 : String := "PrintRegister$Unit"
def TX7 : u_T := fun k => match k with
  | 0 => ("PrintRegister$Unit", "settings", "[I", true)
  | 1 => ("PrintRegister$Unit", "printer", "LPrintRegister$Printer;", true)
  | 2 => ("PrintRegister$Unit", "controller", "LPrintRegister$Controller;", true)
  | _ => ("PrintRegister$Unit", "sensor", "LPrintRegister$Sensor;", true)
def tyX7 : Nat → FieldType := fun k => match k with
  | 0 => .array .int
  | 1 => .object "PrintRegister$Printer"
  | 2 => .object "PrintRegister$Controller"
  | _ => .object "PrintRegister$Sensor"
abbrev wsX70 : List Cond := u_ws RX7 TX7 4
theorem nmX7 : ∀ a, a < 4 → ∀ b, b < 4 → a ≠ b → (TX7 a).2.1 ≠ (TX7 b).2.1 := by decide +kernel
theorem tyX7_ok : ∀ k, k < 4 → parseFieldDescriptor (TX7 k).2.2.1 = some (tyX7 k) := by decide +kernel
abbrev cX7_init : ByteArray := prog_9_method_1_code
def yX7_init : MethodName := ⟨RX7, "<init>", "()V"⟩
abbrev cX7_begin : ByteArray := prog_9_method_2_code
def yX7_begin : MethodName := ⟨RX7, "begin", "()V"⟩
abbrev cX7_setting : ByteArray := prog_9_method_4_code
def yX7_setting : MethodName := ⟨RX7, "setting", "(I)I"⟩
abbrev cX7_changeSetting : ByteArray := prog_9_method_5_code
def yX7_changeSetting : MethodName := ⟨RX7, "changeSetting", "(II)V"⟩
abbrev cX7_beSpliced : ByteArray := prog_9_method_6_code
def yX7_beSpliced : MethodName := ⟨RX7, "beSpliced", "(II)V"⟩
abbrev cX7_printPiece : ByteArray := prog_9_method_7_code
def yX7_printPiece : MethodName := ⟨RX7, "printPiece", "(II)V"⟩
abbrev cX7_recognizeMark : ByteArray := prog_9_method_8_code
def yX7_recognizeMark : MethodName := ⟨RX7, "recognizeMark", "()Z"⟩
abbrev cX7_window : ByteArray := prog_9_method_9_code
def yX7_window : MethodName := ⟨RX7, "window", "()I"⟩
abbrev cX7_learnFrom : ByteArray := prog_9_method_10_code
def yX7_learnFrom : MethodName := ⟨RX7, "learnFrom", "(I)Z"⟩
abbrev cX7_expectAsMeasured : ByteArray := prog_9_method_11_code
def yX7_expectAsMeasured : MethodName := ⟨RX7, "expectAsMeasured", "()V"⟩
abbrev cX7_isOff : ByteArray := prog_9_method_12_code
def yX7_isOff : MethodName := ⟨RX7, "isOff", "(I)Z"⟩
abbrev cX7_correctPhase : ByteArray := prog_9_method_13_code
def yX7_correctPhase : MethodName := ⟨RX7, "correctPhase", "()I"⟩
abbrev cX7_correctSkew : ByteArray := prog_9_method_14_code
def yX7_correctSkew : MethodName := ⟨RX7, "correctSkew", "()I"⟩
abbrev cX7_endRepeat : ByteArray := prog_9_method_15_code
def yX7_endRepeat : MethodName := ⟨RX7, "endRepeat", "()V"⟩
def RX8 : String := "PrintRegister"
def TX8 : u_T := fun k => match k with
  | 0 => ("PrintRegister", "press", "LPrintRegister$Press;", true)
  | 1 => ("PrintRegister", "copy", "LPrintRegister$Press;", true)
  | 2 => ("PrintRegister", "slot0", "LPrintRegister$Slot;", true)
  | 3 => ("PrintRegister", "slot1", "LPrintRegister$Slot;", true)
  | _ => ("PrintRegister", "pad", "LPrintRegister$Pad;", true)
def tyX8 : Nat → FieldType := fun k => match k with
  | 0 => .object "PrintRegister$Press"
  | 1 => .object "PrintRegister$Press"
  | 2 => .object "PrintRegister$Slot"
  | 3 => .object "PrintRegister$Slot"
  | _ => .object "PrintRegister$Pad"
abbrev wsX80 : List Cond := u_ws RX8 TX8 5
theorem nmX8 : ∀ a, a < 5 → ∀ b, b < 5 → a ≠ b → (TX8 a).2.1 ≠ (TX8 b).2.1 := by decide +kernel
theorem tyX8_ok : ∀ k, k < 5 → parseFieldDescriptor (TX8 k).2.2.1 = some (tyX8 k) := by decide +kernel
abbrev cX8_init : ByteArray := prog_1_method_1_code
def yX8_init : MethodName := ⟨RX8, "<init>", "()V"⟩
abbrev cX8_setUp : ByteArray := prog_1_method_2_code
def yX8_setUp : MethodName := ⟨RX8, "setUp", "(I)I"⟩
abbrev cX8_set : ByteArray := prog_1_method_3_code
def yX8_set : MethodName := ⟨RX8, "set", "(III)I"⟩
abbrev cX8_get : ByteArray := prog_1_method_4_code
def yX8_get : MethodName := ⟨RX8, "get", "(II)I"⟩
abbrev cX8_adjust : ByteArray := prog_1_method_5_code
def yX8_adjust : MethodName := ⟨RX8, "adjust", "(III)I"⟩
abbrev cX8_speed : ByteArray := prog_1_method_7_code
def yX8_speed : MethodName := ⟨RX8, "speed", "(I)I"⟩
abbrev cX8_disturb : ByteArray := prog_1_method_8_code
def yX8_disturb : MethodName := ⟨RX8, "disturb", "(III)I"⟩
abbrev cX8_hide : ByteArray := prog_1_method_9_code
def yX8_hide : MethodName := ⟨RX8, "hide", "(II)I"⟩
abbrev cX8_falseMark : ByteArray := prog_1_method_10_code
def yX8_falseMark : MethodName := ⟨RX8, "falseMark", "(III)I"⟩
abbrev cX8_splice : ByteArray := prog_1_method_11_code
def yX8_splice : MethodName := ⟨RX8, "splice", "(II)I"⟩
abbrev cX8_run : ByteArray := prog_1_method_12_code
def yX8_run : MethodName := ⟨RX8, "run", "(I)I"⟩
abbrev cX8_seen : ByteArray := prog_1_method_13_code
def yX8_seen : MethodName := ⟨RX8, "seen", "(II)I"⟩
abbrev cX8_state : ByteArray := prog_1_method_14_code
def yX8_state : MethodName := ⟨RX8, "state", "(II)I"⟩
abbrev cX8_errors : ByteArray := prog_1_method_15_code
def yX8_errors : MethodName := ⟨RX8, "errors", "(III)I"⟩
abbrev cX8_total : ByteArray := prog_1_method_16_code
def yX8_total : MethodName := ⟨RX8, "total", "(I)I"⟩
abbrev cX8_count : ByteArray := prog_1_method_24_code
def yX8_count : MethodName := ⟨RX8, "count", "(I)I"⟩
abbrev cX8_isOutside : ByteArray := prog_1_method_30_code
def yX8_isOutside : MethodName := ⟨RX8, "isOutside", "(III)Z"⟩
abbrev cX8_isSettingValue : ByteArray := prog_1_method_31_code
def yX8_isSettingValue : MethodName := ⟨RX8, "isSettingValue", "(II)Z"⟩
abbrev cX8_isPlace : ByteArray := prog_1_method_32_code
def yX8_isPlace : MethodName := ⟨RX8, "isPlace", "(I)Z"⟩
abbrev cX8_isDisturbance : ByteArray := prog_1_method_33_code
def yX8_isDisturbance : MethodName := ⟨RX8, "isDisturbance", "(II)Z"⟩
abbrev cX8_limited : ByteArray := prog_1_method_34_code
def yX8_limited : MethodName := ⟨RX8, "limited", "(II)I"⟩
abbrev cX8_lessOne : ByteArray := prog_1_method_35_code
def yX8_lessOne : MethodName := ⟨RX8, "lessOne", "(I)I"⟩
def RX9 : String := "PrintRegisterModel"
def TX9 : u_T := fun k => match k with
  | _ => ("", "", "", false)
def tyX9 : Nat → FieldType := fun k => match k with
  | _ => .int
abbrev wsX90 : List Cond := u_ws RX9 TX9 0
theorem nmX9 : ∀ a, a < 0 → ∀ b, b < 0 → a ≠ b → (TX9 a).2.1 ≠ (TX9 b).2.1 := by decide +kernel
theorem tyX9_ok : ∀ k, k < 0 → parseFieldDescriptor (TX9 k).2.2.1 = some (tyX9 k) := by decide +kernel
def RJ9 : String := "java/lang/Math"
def TJ9 : u_T := fun k => match k with
  | _ => ("", "", "", false)
def tyJ9 : Nat → FieldType := fun k => match k with
  | _ => .int
abbrev wsJ90 : List Cond := u_ws RJ9 TJ9 0
theorem nmJ9 : ∀ a, a < 0 → ∀ b, b < 0 → a ≠ b → (TJ9 a).2.1 ≠ (TJ9 b).2.1 := by decide +kernel
theorem tyJ9_ok : ∀ k, k < 0 → parseFieldDescriptor (TJ9 k).2.2.1 = some (tyJ9 k) := by decide +kernel
abbrev cJ9_abs_0f7a4 : ByteArray := prog_12_method_59_code
def yJ9_abs_0f7a4 : MethodName := ⟨RJ9, "abs", "(I)I"⟩
abbrev cJ9_max_7cf53 : ByteArray := prog_12_method_65_code
def yJ9_max_7cf53 : MethodName := ⟨RJ9, "max", "(II)I"⟩
abbrev cJ9_min_7cf53 : ByteArray := prog_12_method_69_code
def yJ9_min_7cf53 : MethodName := ⟨RJ9, "min", "(II)I"⟩
def RL : String := "PrintRegisterLaw"
abbrev cL_cell : ByteArray := method_2_code
def yL_cell : MethodName := ⟨RL, "cell", "([III)I"⟩
abbrev cL_limited : ByteArray := method_3_code
def yL_limited : MethodName := ⟨RL, "limited", "(II)I"⟩
abbrev cL_size : ByteArray := method_4_code
def yL_size : MethodName := ⟨RL, "size", "(I)I"⟩
abbrev cL_lay : ByteArray := method_5_code
def yL_lay : MethodName := ⟨RL, "lay", "(LPrintRegister;I[I)V"⟩
abbrev cL_value : ByteArray := method_6_code
def yL_value : MethodName := ⟨RL, "value", "([I[I)I"⟩
abbrev cL_isPrinted : ByteArray := method_7_code
def yL_isPrinted : MethodName := ⟨RL, "isPrinted", "(LPrintRegister;I[I[I[I[III)Z"⟩
abbrev cL_isSeen : ByteArray := method_8_code
def yL_isSeen : MethodName := ⟨RL, "isSeen", "(LPrintRegister;I[I[IIII)Z"⟩
abbrev cL_isPassed : ByteArray := method_9_code
def yL_isPassed : MethodName := ⟨RL, "isPassed", "(LPrintRegister;I[I[I)Z"⟩
abbrev cL_settings : ByteArray := method_10_code
def yL_settings : MethodName := ⟨RL, "settings", "(LPrintRegister;[III)V"⟩
abbrev cL_law : ByteArray := code
def yL_law : MethodName := ⟨RL, "law", "([I)Z"⟩
abbrev cL_comes : ByteArray := method_12_code
def yL_comes : MethodName := ⟨RL, "comes", "(LPrintRegister;I[I[III)V"⟩
-- ===== the words of the tables, in one list; a row for each =====
def pr_A0 : List Cond := [.code yX0_init cX0_init 1 none, .methodLink RX0 1 objectInit, .instanceMethod objectInit, .code objectInit ⟨#[0xb1]⟩ 1 none, .code yX0_clear cX0_clear 1 none, .fieldLink RX0 7 "PrintRegister$Controller" "feed" "I", .fieldLink RX0 13 "PrintRegister$Controller" "sum" "I", .fieldLink RX0 16 "PrintRegister$Controller" "wait" "I", .fieldLink RX0 19 "PrintRegister$Controller" "misses" "I", .fieldLink RX0 22 "PrintRegister$Controller" "readyTime" "I", .fieldLink RX0 25 "PrintRegister$Controller" "expectedError" "I", .fieldLink RX0 28 "PrintRegister$Controller" "expectedSkew" "I", .fieldLink RX0 31 "PrintRegister$Controller" "addedPhase" "I", .fieldLink RX0 34 "PrintRegister$Controller" "addedSkew" "I", .code yX8_lessOne cX8_lessOne 1 (some .int), .code yX0_endRepeat cX0_endRepeat 1 none, .static yX8_lessOne, .initialized RX8, .code yX1_init cX1_init 1 none, .methodLink RX1 3 objectInit, .arrayClass .int, .fieldLink RX1 9 "PrintRegister$ErrorLog" "places" "[I", .code yX1_begin cX1_begin 1 none, .fieldLink RX1 15 "PrintRegister$ErrorLog" "added" "I", .code yX1_add cX1_add 2 none, .code yX1_kept cX1_kept 2 (some .int), .methodLink RX1 25 Lib.Math.min.name, .static Lib.Math.min.name, .initialized "java/lang/Math", .code Lib.Math.min.name Lib.Math.min.code 2 (some .int), .code yX1_sizeOf cX1_sizeOf 2 (some .int), .methodLink RX1 31 Lib.Math.abs.name, .static Lib.Math.abs.name, .code Lib.Math.abs.name Lib.Math.abs.code 1 (some .int), .code yX1_greatest cX1_greatest 4 (some .int), .methodLink RX1 41 Lib.Math.max.name, .static Lib.Math.max.name, .code Lib.Math.max.name Lib.Math.max.code 2 (some .int), .methodLink RX1 35 yX1_kept, .instanceMethod yX1_kept]
def pr_A1 : List Cond := [.selects RX1 yX1_kept yX1_kept, .initialized RX1, .methodLink RX1 38 yX1_sizeOf, .instanceMethod yX1_sizeOf, .selects RX1 yX1_sizeOf yX1_sizeOf, .code yX1_sumOf cX1_sumOf 4 (some .int), .code yX1_greaterThan cX1_greaterThan 5 (some .int), .code yX2_init cX2_init 1 none, .methodLink RX2 3 objectInit, .fieldLink RX2 9 "PrintRegister$Pad" "codes" "[I", .code yX4_init cX4_init 1 none, .methodLink RX4 3 objectInit, .fieldLink RX4 9 "PrintRegister$Printer" "offsets" "[I", .fieldLink RX4 15 "PrintRegister$Printer" "skews" "[I", .code yX5_init cX5_init 1 none, .methodLink RX5 3 objectInit, .classLink RX5 9 RX1, .instantiable RX1 2, .fieldLink RX5 12 "PrintRegister$Sensor" "log" "LPrintRegister$ErrorLog;", .instanceMethod yX1_init, .methodLink RX7 3 objectInit, .fieldLink RX7 9 "PrintRegister$Unit" "settings" "[I", .classLink RX7 15 RX4, .instantiable RX4 8, .initialized RX4, .fieldLink RX7 18 "PrintRegister$Unit" "printer" "LPrintRegister$Printer;", .classLink RX7 22 RX0, .instantiable RX0 9, .initialized RX0, .fieldLink RX7 25 "PrintRegister$Unit" "controller" "LPrintRegister$Controller;", .classLink RX7 29 RX5, .instantiable RX5 10, .initialized RX5, .fieldLink RX7 32 "PrintRegister$Unit" "sensor" "LPrintRegister$Sensor;", .instanceMethod yX4_init, .instanceMethod yX0_init, .instanceMethod yX5_init, .code yX7_init cX7_init 1 none, .methodLink RX3 3 objectInit, .classLink RX3 9 RX7]
def pr_A2 : List Cond := [.fieldLink RX3 11 "PrintRegister$Press" "units" "[LPrintRegister$Unit;", .fieldLink RX3 17 "PrintRegister$Press" "changes" "[I", .fieldLink RX3 21 "PrintRegister$Press" "totals" "[I", .instantiable RX7 4, .initialized RX7, .instanceMethod yX7_init, .code yX3_init cX3_init 2 none, .code yX4_begin cX4_begin 1 none, .fieldLink RX4 18 "PrintRegister$Printer" "phase" "I", .fieldLink RX4 22 "PrintRegister$Printer" "skewSetting" "I", .fieldLink RX4 25 "PrintRegister$Printer" "tilt" "I", .fieldLink RX4 28 "PrintRegister$Printer" "disturbanceAmount" "I", .fieldLink RX4 31 "PrintRegister$Printer" "disturbanceDuration" "I", .fieldLink RX4 34 "PrintRegister$Printer" "disturbanceLeft" "I", .code yX5_seeNothing cX5_seeNothing 1 none, .fieldLink RX5 50 "PrintRegister$Sensor" "sawPiece" "Z", .fieldLink RX5 54 "PrintRegister$Sensor" "recognized" "I", .code yX5_begin cX5_begin 1 none, .fieldLink RX5 21 "PrintRegister$Sensor" "hiddenLeft" "I", .fieldLink RX5 25 "PrintRegister$Sensor" "falseOffset" "I", .fieldLink RX5 28 "PrintRegister$Sensor" "falseLeft" "I", .fieldLink RX5 34 "PrintRegister$Sensor" "trueError" "I", .fieldLink RX5 37 "PrintRegister$Sensor" "trueSkew" "I", .fieldLink RX5 40 "PrintRegister$Sensor" "offset" "I", .fieldLink RX5 43 "PrintRegister$Sensor" "skew" "I", .methodLink RX5 18 yX1_begin, .instanceMethod yX1_begin, .selects RX1 yX1_begin yX1_begin, .methodLink RX5 31 yX5_seeNothing, .instanceMethod yX5_seeNothing, .selects RX5 yX5_seeNothing yX5_seeNothing, .methodLink RX7 39 yX4_begin, .instanceMethod yX4_begin, .selects RX4 yX4_begin yX4_begin, .methodLink RX7 42 yX0_clear, .instanceMethod yX0_clear, .selects RX0 yX0_clear yX0_clear, .methodLink RX7 45 yX5_begin, .instanceMethod yX5_begin, .selects RX5 yX5_begin yX5_begin]
def pr_A3 : List Cond := [.code yX7_begin cX7_begin 2 none, .fieldLink RX3 25 "PrintRegister$Press" "unitCount" "I", .fieldLink RX3 29 "PrintRegister$Press" "time" "I", .fieldLink RX3 32 "PrintRegister$Press" "speedNow" "I", .fieldLink RX3 35 "PrintRegister$Press" "speedBefore" "I", .fieldLink RX3 38 "PrintRegister$Press" "spliceStart" "I", .fieldLink RX3 41 "PrintRegister$Press" "spliceAmount" "I", .fieldLink RX3 44 "PrintRegister$Press" "spliceDuration" "I", .methodLink RX3 47 yX7_begin, .instanceMethod yX7_begin, .selects RX7 yX7_begin yX7_begin, .code yX3_begin cX3_begin 3 none, .code yX3_unitAt cX3_unitAt 2 (some (.object "PrintRegister$Unit")), .code yX3_controlledUnitAt cX3_controlledUnitAt 2 (some (.object "PrintRegister$Unit")), .methodLink RX3 60 yX3_unitAt, .instanceMethod yX3_unitAt, .selects RX3 yX3_unitAt yX3_unitAt, .initialized RX3, .code yX7_setting cX7_setting 2 (some .int), .code yX3_wayOf cX3_wayOf 4 (some .int), .methodLink RX3 64 yX7_setting, .instanceMethod yX7_setting, .selects RX7 yX7_setting yX7_setting, .code yX3_startSplice cX3_startSplice 3 none, .code yX3_repeatsToLastUnit cX3_repeatsToLastUnit 1 (some .int), .methodLink RX3 71 Lib.Math.max.name, .methodLink RX3 68 yX3_wayOf, .instanceMethod yX3_wayOf, .selects RX3 yX3_wayOf yX3_wayOf, .code yX4_beDisturbed cX4_beDisturbed 3 none, .code yX7_beSpliced cX7_beSpliced 3 none, .methodLink RX7 62 yX4_beDisturbed, .instanceMethod yX4_beDisturbed, .selects RX4 yX4_beDisturbed yX4_beDisturbed, .methodLink RX7 70 yX7_setting, .methodLink RX3 116 yX7_beSpliced, .instanceMethod yX7_beSpliced, .selects RX7 yX7_beSpliced yX7_beSpliced, .code yX3_bringSplice cX3_bringSplice 3 none, .code yX4_disturbance cX4_disturbance 1 (some .int)]
def pr_A4 : List Cond := [.code yX4_printPiece cX4_printPiece 3 none, .methodLink RX4 43 yX4_disturbance, .instanceMethod yX4_disturbance, .selects RX4 yX4_disturbance yX4_disturbance, .methodLink RX7 80 yX4_printPiece, .instanceMethod yX4_printPiece, .selects RX4 yX4_printPiece yX4_printPiece, .code yX7_printPiece cX7_printPiece 3 none, .code yX4_offsetAt cX4_offsetAt 2 (some .int), .code yX4_skewAt cX4_skewAt 2 (some .int), .code yX5_seePiece cX5_seePiece 3 none, .methodLink RX5 57 yX1_add, .instanceMethod yX1_add, .selects RX1 yX1_add yX1_add, .code yX7_window cX7_window 2 (some .int), .code yX5_recognizeNear cX5_recognizeNear 8 none, .methodLink RX5 61 Lib.Math.abs.name, .methodLink RX7 89 yX7_window, .instanceMethod yX7_window, .selects RX7 yX7_window yX7_window, .methodLink RX7 93 yX5_recognizeNear, .instanceMethod yX5_recognizeNear, .selects RX5 yX5_recognizeNear yX5_recognizeNear, .code yX7_recognizeMark cX7_recognizeMark 2 (some .boolean), .code yX8_limited cX8_limited 2 (some .int), .code yX7_learnFrom cX7_learnFrom 4 (some .boolean), .methodLink RX7 103 Lib.Math.abs.name, .static yX8_limited, .code yX7_expectAsMeasured cX7_expectAsMeasured 1 none, .code yX7_isOff cX7_isOff 2 (some .boolean), .code yX7_correctPhase cX7_correctPhase 4 (some .int), .code yX7_correctSkew cX7_correctSkew 3 (some .int), .methodLink RX3 147 yX7_learnFrom, .instanceMethod yX7_learnFrom, .selects RX7 yX7_learnFrom yX7_learnFrom, .methodLink RX3 151 yX7_expectAsMeasured, .instanceMethod yX7_expectAsMeasured, .selects RX7 yX7_expectAsMeasured yX7_expectAsMeasured, .methodLink RX3 166 yX7_isOff, .instanceMethod yX7_isOff]
def pr_A5 : List Cond := [.selects RX7 yX7_isOff yX7_isOff, .methodLink RX3 172 yX7_correctPhase, .instanceMethod yX7_correctPhase, .selects RX7 yX7_correctPhase yX7_correctPhase, .methodLink RX3 179 yX7_correctSkew, .instanceMethod yX7_correctSkew, .selects RX7 yX7_correctSkew yX7_correctSkew, .code yX3_control cX3_control 5 none, .methodLink RX3 119 yX5_seeNothing, .methodLink RX3 126 yX4_offsetAt, .instanceMethod yX4_offsetAt, .selects RX4 yX4_offsetAt yX4_offsetAt, .methodLink RX3 131 yX4_skewAt, .instanceMethod yX4_skewAt, .selects RX4 yX4_skewAt yX4_skewAt, .methodLink RX3 134 yX5_seePiece, .instanceMethod yX5_seePiece, .selects RX5 yX5_seePiece yX5_seePiece, .methodLink RX3 137 yX7_recognizeMark, .instanceMethod yX7_recognizeMark, .selects RX7 yX7_recognizeMark yX7_recognizeMark, .methodLink RX3 144 yX3_control, .instanceMethod yX3_control, .selects RX3 yX3_control yX3_control, .code yX3_watchUnit cX3_watchUnit 6 none, .code yX7_endRepeat cX7_endRepeat 1 none, .methodLink RX7 124 yX0_endRepeat, .instanceMethod yX0_endRepeat, .selects RX0 yX0_endRepeat yX0_endRepeat, .methodLink RX3 103 yX3_bringSplice, .instanceMethod yX3_bringSplice, .selects RX3 yX3_bringSplice yX3_bringSplice, .methodLink RX3 106 yX7_printPiece, .instanceMethod yX7_printPiece, .selects RX7 yX7_printPiece yX7_printPiece, .methodLink RX3 109 yX3_watchUnit, .instanceMethod yX3_watchUnit, .selects RX3 yX3_watchUnit yX3_watchUnit, .methodLink RX3 113 yX7_endRepeat, .instanceMethod yX7_endRepeat]
def pr_A6 : List Cond := [.selects RX7 yX7_endRepeat yX7_endRepeat, .code yX3_makeRepeat cX3_makeRepeat 4 none, .code yX4_byHand cX4_byHand 2 (some .int), .code yX4_changeByHand cX4_changeByHand 3 none, .code yX5_sight cX5_sight 2 (some .int), .methodLink RX6 1 objectInit, .classLink RX6 7 RX3, .instantiable RX3 10, .fieldLink RX6 10 "PrintRegister$Slot" "saved" "LPrintRegister$Press;", .methodLink RX6 9 yX3_init, .instanceMethod yX3_init, .code yX6_init cX6_init 1 none, .code yX7_changeSetting cX7_changeSetting 3 none, .methodLink RX8 1 objectInit, .classLink RX8 7 RX3, .fieldLink RX8 10 "PrintRegister" "press" "LPrintRegister$Press;", .fieldLink RX8 16 "PrintRegister" "copy" "LPrintRegister$Press;", .classLink RX8 19 RX6, .instantiable RX6 2, .initialized RX6, .fieldLink RX8 22 "PrintRegister" "slot0" "LPrintRegister$Slot;", .fieldLink RX8 26 "PrintRegister" "slot1" "LPrintRegister$Slot;", .classLink RX8 29 RX2, .instantiable RX2 10, .initialized RX2, .fieldLink RX8 32 "PrintRegister" "pad" "LPrintRegister$Pad;", .methodLink RX8 9 yX3_init, .instanceMethod yX6_init, .instanceMethod yX2_init, .methodLink RX8 36 yX3_begin, .instanceMethod yX3_begin, .selects RX3 yX3_begin yX3_begin, .code yX8_init cX8_init 1 none, .code yX8_isOutside cX8_isOutside 3 (some .boolean), .constant RX8 44 (-1000000002), .methodLink RX8 40 yX8_isOutside, .static yX8_isOutside, .code yX8_setUp cX8_setUp 3 (some .int), .code yX8_isSettingValue cX8_isSettingValue 2 (some .boolean), .fieldLink RX8 280 "PrintRegister" "LEAST_SETTINGS" "[I"]
def pr_A7 : List Cond := [.fieldLink RX8 283 "PrintRegister" "GREATEST_SETTINGS" "[I", .code yX8_isPlace cX8_isPlace 1 (some .boolean), .constant RX8 53 (-1000000001), .constant RX8 62 (-1000000005), .methodLink RX8 49 yX3_unitAt, .methodLink RX8 54 yX8_isSettingValue, .static yX8_isSettingValue, .methodLink RX8 58 yX8_isPlace, .static yX8_isPlace, .methodLink RX8 63 yX7_setting, .methodLink RX8 69 yX7_changeSetting, .instanceMethod yX7_changeSetting, .selects RX7 yX7_changeSetting yX7_changeSetting, .code yX8_set cX8_set 6 (some .int), .code yX8_get cX8_get 4 (some .int), .fieldLink RX8 73 "PrintRegister" "MOST_BY_HAND" "[I", .methodLink RX8 81 yX4_byHand, .instanceMethod yX4_byHand, .selects RX4 yX4_byHand yX4_byHand, .methodLink RX8 86 yX4_changeByHand, .instanceMethod yX4_changeByHand, .selects RX4 yX4_changeByHand yX4_changeByHand, .code yX8_adjust cX8_adjust 6 (some .int), .code yX8_speed cX8_speed 3 (some .int), .code yX8_isDisturbance cX8_isDisturbance 2 (some .boolean), .methodLink RX8 104 yX8_isDisturbance, .static yX8_isDisturbance, .methodLink RX8 107 yX4_beDisturbed, .code yX8_disturb cX8_disturb 5 (some .int), .code yX8_hide cX8_hide 5 (some .int), .code yX8_falseMark cX8_falseMark 6 (some .int), .methodLink RX8 125 yX3_startSplice, .instanceMethod yX3_startSplice, .selects RX3 yX3_startSplice yX3_startSplice, .methodLink RX8 128 yX3_repeatsToLastUnit, .instanceMethod yX3_repeatsToLastUnit, .selects RX3 yX3_repeatsToLastUnit yX3_repeatsToLastUnit, .code yX8_splice cX8_splice 3 (some .int), .constant RX8 132 (100000), .methodLink RX8 133 yX3_makeRepeat]
def pr_A8 : List Cond := [.instanceMethod yX3_makeRepeat, .selects RX3 yX3_makeRepeat yX3_makeRepeat, .code yX8_run cX8_run 3 (some .int), .constant RX8 152 (-1000000006), .methodLink RX8 136 yX4_offsetAt, .methodLink RX8 139 yX4_skewAt, .methodLink RX8 149 yX5_sight, .instanceMethod yX5_sight, .selects RX5 yX5_sight yX5_sight, .code yX8_seen cX8_seen 6 (some .int), .methodLink RX8 174 yX3_wayOf, .code yX8_state cX8_state 4 (some .int), .methodLink RX8 177 yX3_controlledUnitAt, .instanceMethod yX3_controlledUnitAt, .selects RX3 yX3_controlledUnitAt yX3_controlledUnitAt, .methodLink RX8 184 yX1_greatest, .instanceMethod yX1_greatest, .selects RX1 yX1_greatest yX1_greatest, .methodLink RX8 189 yX1_sumOf, .instanceMethod yX1_sumOf, .selects RX1 yX1_sumOf yX1_sumOf, .methodLink RX8 192 yX1_kept, .methodLink RX8 195 yX1_greaterThan, .instanceMethod yX1_greaterThan, .selects RX1 yX1_greaterThan yX1_greaterThan, .code yX8_errors cX8_errors 6 (some .int), .code yX8_total cX8_total 2 (some .int), .code yX8_count cX8_count 2 (some .int), .code yJ9_abs_0f7a4 cJ9_abs_0f7a4 1 (some .int), .code yJ9_max_7cf53 cJ9_max_7cf53 2 (some .int), .code yJ9_min_7cf53 cJ9_min_7cf53 2 (some .int), .code yL_cell cL_cell 3 (some .int), .constant RL 7 (4194303), .code yL_limited cL_limited 2 (some .int), .code yL_size cL_size 1 (some .int), .methodLink RL 8 yX8_state, .instanceMethod yX8_state, .selects RX8 yX8_state yX8_state, .code yL_lay cL_lay 4 none, .code yL_value cL_value 2 (some .int)]
def pr_A9 : List Cond := [.methodLink RL 16 yL_value, .static yL_value, .initialized RL, .methodLink RL 20 yX8_get, .instanceMethod yX8_get, .selects RX8 yX8_get yX8_get, .methodLink RL 23 yX8_seen, .instanceMethod yX8_seen, .selects RX8 yX8_seen yX8_seen, .code yL_isPrinted cL_isPrinted 8 (some .boolean), .constant RL 30 (-1000000006), .methodLink RL 26 yL_size, .static yL_size, .methodLink RL 31 yL_limited, .static yL_limited, .code yL_isSeen cL_isSeen 21 (some .boolean), .code yL_isPassed cL_isPassed 5 (some .boolean), .methodLink RL 34 yL_cell, .static yL_cell, .methodLink RL 38 yX8_set, .instanceMethod yX8_set, .selects RX8 yX8_set yX8_set, .methodLink RL 42 yX8_adjust, .instanceMethod yX8_adjust, .selects RX8 yX8_adjust yX8_adjust, .code yL_settings cL_settings 4 none, .code yL_comes cL_comes 6 none, .classLink RL 9 RX8, .instantiable RX8 5, .constant RL 100 (-1000000001), .methodLink RL 45 yX8_init, .instanceMethod yX8_init, .methodLink RL 46 yX8_setUp, .instanceMethod yX8_setUp, .selects RX8 yX8_setUp yX8_setUp, .methodLink RL 49 yL_settings, .static yL_settings, .methodLink RL 53 yX8_speed, .instanceMethod yX8_speed, .selects RX8 yX8_speed yX8_speed]
def pr_A10 : List Cond := [.methodLink RL 56 yX8_disturb, .instanceMethod yX8_disturb, .selects RX8 yX8_disturb yX8_disturb, .methodLink RL 59 yX8_hide, .instanceMethod yX8_hide, .selects RX8 yX8_hide yX8_hide, .methodLink RL 62 yX8_falseMark, .instanceMethod yX8_falseMark, .selects RX8 yX8_falseMark yX8_falseMark, .methodLink RL 65 yX8_splice, .instanceMethod yX8_splice, .selects RX8 yX8_splice yX8_splice, .methodLink RL 68 yL_lay, .static yL_lay, .methodLink RL 72 yX8_count, .instanceMethod yX8_count, .selects RX8 yX8_count yX8_count, .methodLink RL 75 yL_comes, .static yL_comes, .methodLink RL 79 yX8_run, .instanceMethod yX8_run, .selects RX8 yX8_run yX8_run, .methodLink RL 82 yL_isPrinted, .static yL_isPrinted, .methodLink RL 86 yL_isSeen, .static yL_isSeen, .methodLink RL 90 yL_isPassed, .static yL_isPassed, .methodLink RL 94 yX8_errors, .instanceMethod yX8_errors, .selects RX8 yX8_errors yX8_errors, .methodLink RL 97 yX8_total, .instanceMethod yX8_total, .selects RX8 yX8_total yX8_total]
def pr_AL : List Cond := pr_A0 ++ (pr_A1 ++ (pr_A2 ++ (pr_A3 ++ (pr_A4 ++ (pr_A5 ++ (pr_A6 ++ (pr_A7 ++ (pr_A8 ++ (pr_A9 ++ (pr_A10 ++ (wsX00 ++ (wsX10 ++ (wsX20 ++ (wsX30 ++ (wsX40 ++ (wsX50 ++ (wsX60 ++ (wsX70 ++ (wsX80)))))))))))))))))))
theorem pr_in_pr_A0 : ∀ w ∈ pr_A0, w ∈ pr_AL := fun _ h => List.mem_append_left _ h
theorem pr_in_pr_A1 : ∀ w ∈ pr_A1, w ∈ pr_AL := fun _ h => List.mem_append_right _ (List.mem_append_left _ h)
theorem pr_in_pr_A2 : ∀ w ∈ pr_A2, w ∈ pr_AL := fun _ h => List.mem_append_right _ (List.mem_append_right _ (List.mem_append_left _ h))
theorem pr_in_pr_A3 : ∀ w ∈ pr_A3, w ∈ pr_AL := fun _ h => List.mem_append_right _ (List.mem_append_right _ (List.mem_append_right _ (List.mem_append_left _ h)))
theorem pr_in_pr_A4 : ∀ w ∈ pr_A4, w ∈ pr_AL := fun _ h => List.mem_append_right _ (List.mem_append_right _ (List.mem_append_right _ (List.mem_append_right _ (List.mem_append_left _ h))))
theorem pr_in_pr_A5 : ∀ w ∈ pr_A5, w ∈ pr_AL := fun _ h => List.mem_append_right _ (List.mem_append_right _ (List.mem_append_right _ (List.mem_append_right _ (List.mem_append_right _ (List.mem_append_left _ h)))))
theorem pr_in_pr_A6 : ∀ w ∈ pr_A6, w ∈ pr_AL := fun _ h => List.mem_append_right _ (List.mem_append_right _ (List.mem_append_right _ (List.mem_append_right _ (List.mem_append_right _ (List.mem_append_right _ (List.mem_append_left _ h))))))
theorem pr_in_pr_A7 : ∀ w ∈ pr_A7, w ∈ pr_AL := fun _ h => List.mem_append_right _ (List.mem_append_right _ (List.mem_append_right _ (List.mem_append_right _ (List.mem_append_right _ (List.mem_append_right _ (List.mem_append_right _ (List.mem_append_left _ h)))))))
theorem pr_in_pr_A8 : ∀ w ∈ pr_A8, w ∈ pr_AL := fun _ h => List.mem_append_right _ (List.mem_append_right _ (List.mem_append_right _ (List.mem_append_right _ (List.mem_append_right _ (List.mem_append_right _ (List.mem_append_right _ (List.mem_append_right _ (List.mem_append_left _ h))))))))
theorem pr_in_pr_A9 : ∀ w ∈ pr_A9, w ∈ pr_AL := fun _ h => List.mem_append_right _ (List.mem_append_right _ (List.mem_append_right _ (List.mem_append_right _ (List.mem_append_right _ (List.mem_append_right _ (List.mem_append_right _ (List.mem_append_right _ (List.mem_append_right _ (List.mem_append_left _ h)))))))))
theorem pr_in_pr_A10 : ∀ w ∈ pr_A10, w ∈ pr_AL := fun _ h => List.mem_append_right _ (List.mem_append_right _ (List.mem_append_right _ (List.mem_append_right _ (List.mem_append_right _ (List.mem_append_right _ (List.mem_append_right _ (List.mem_append_right _ (List.mem_append_right _ (List.mem_append_right _ (List.mem_append_left _ h))))))))))
theorem pr_in_wsX00 : ∀ w ∈ wsX00, w ∈ pr_AL := fun _ h => List.mem_append_right _ (List.mem_append_right _ (List.mem_append_right _ (List.mem_append_right _ (List.mem_append_right _ (List.mem_append_right _ (List.mem_append_right _ (List.mem_append_right _ (List.mem_append_right _ (List.mem_append_right _ (List.mem_append_right _ (List.mem_append_left _ h)))))))))))
theorem pr_in_wsX10 : ∀ w ∈ wsX10, w ∈ pr_AL := fun _ h => List.mem_append_right _ (List.mem_append_right _ (List.mem_append_right _ (List.mem_append_right _ (List.mem_append_right _ (List.mem_append_right _ (List.mem_append_right _ (List.mem_append_right _ (List.mem_append_right _ (List.mem_append_right _ (List.mem_append_right _ (List.mem_append_right _ (List.mem_append_left _ h))))))))))))
theorem pr_in_wsX20 : ∀ w ∈ wsX20, w ∈ pr_AL := fun _ h => List.mem_append_right _ (List.mem_append_right _ (List.mem_append_right _ (List.mem_append_right _ (List.mem_append_right _ (List.mem_append_right _ (List.mem_append_right _ (List.mem_append_right _ (List.mem_append_right _ (List.mem_append_right _ (List.mem_append_right _ (List.mem_append_right _ (List.mem_append_right _ (List.mem_append_left _ h)))))))))))))
theorem pr_in_wsX30 : ∀ w ∈ wsX30, w ∈ pr_AL := fun _ h => List.mem_append_right _ (List.mem_append_right _ (List.mem_append_right _ (List.mem_append_right _ (List.mem_append_right _ (List.mem_append_right _ (List.mem_append_right _ (List.mem_append_right _ (List.mem_append_right _ (List.mem_append_right _ (List.mem_append_right _ (List.mem_append_right _ (List.mem_append_right _ (List.mem_append_right _ (List.mem_append_left _ h))))))))))))))
theorem pr_in_wsX40 : ∀ w ∈ wsX40, w ∈ pr_AL := fun _ h => List.mem_append_right _ (List.mem_append_right _ (List.mem_append_right _ (List.mem_append_right _ (List.mem_append_right _ (List.mem_append_right _ (List.mem_append_right _ (List.mem_append_right _ (List.mem_append_right _ (List.mem_append_right _ (List.mem_append_right _ (List.mem_append_right _ (List.mem_append_right _ (List.mem_append_right _ (List.mem_append_right _ (List.mem_append_left _ h)))))))))))))))
theorem pr_in_wsX50 : ∀ w ∈ wsX50, w ∈ pr_AL := fun _ h => List.mem_append_right _ (List.mem_append_right _ (List.mem_append_right _ (List.mem_append_right _ (List.mem_append_right _ (List.mem_append_right _ (List.mem_append_right _ (List.mem_append_right _ (List.mem_append_right _ (List.mem_append_right _ (List.mem_append_right _ (List.mem_append_right _ (List.mem_append_right _ (List.mem_append_right _ (List.mem_append_right _ (List.mem_append_right _ (List.mem_append_left _ h))))))))))))))))
theorem pr_in_wsX60 : ∀ w ∈ wsX60, w ∈ pr_AL := fun _ h => List.mem_append_right _ (List.mem_append_right _ (List.mem_append_right _ (List.mem_append_right _ (List.mem_append_right _ (List.mem_append_right _ (List.mem_append_right _ (List.mem_append_right _ (List.mem_append_right _ (List.mem_append_right _ (List.mem_append_right _ (List.mem_append_right _ (List.mem_append_right _ (List.mem_append_right _ (List.mem_append_right _ (List.mem_append_right _ (List.mem_append_right _ (List.mem_append_left _ h)))))))))))))))))
theorem pr_in_wsX70 : ∀ w ∈ wsX70, w ∈ pr_AL := fun _ h => List.mem_append_right _ (List.mem_append_right _ (List.mem_append_right _ (List.mem_append_right _ (List.mem_append_right _ (List.mem_append_right _ (List.mem_append_right _ (List.mem_append_right _ (List.mem_append_right _ (List.mem_append_right _ (List.mem_append_right _ (List.mem_append_right _ (List.mem_append_right _ (List.mem_append_right _ (List.mem_append_right _ (List.mem_append_right _ (List.mem_append_right _ (List.mem_append_right _ (List.mem_append_left _ h))))))))))))))))))
theorem pr_in_wsX80 : ∀ w ∈ wsX80, w ∈ pr_AL := fun _ h => List.mem_append_right _ (List.mem_append_right _ (List.mem_append_right _ (List.mem_append_right _ (List.mem_append_right _ (List.mem_append_right _ (List.mem_append_right _ (List.mem_append_right _ (List.mem_append_right _ (List.mem_append_right _ (List.mem_append_right _ (List.mem_append_right _ (List.mem_append_right _ (List.mem_append_right _ (List.mem_append_right _ (List.mem_append_right _ (List.mem_append_right _ (List.mem_append_right _ (List.mem_append_right _ (h)))))))))))))))))))
theorem pr_w0 : Cond.code yX0_init cX0_init 1 none ∈ pr_AL := pr_in_pr_A0 _ (List.mem_of_getElem? (i := 0) (by decide +kernel))
theorem pr_w1 : Cond.methodLink RX0 1 objectInit ∈ pr_AL := pr_in_pr_A0 _ (List.mem_of_getElem? (i := 1) (by decide +kernel))
theorem pr_w2 : Cond.instanceMethod objectInit ∈ pr_AL := pr_in_pr_A0 _ (List.mem_of_getElem? (i := 2) (by decide +kernel))
theorem pr_w3 : Cond.code objectInit ⟨#[0xb1]⟩ 1 none ∈ pr_AL := pr_in_pr_A0 _ (List.mem_of_getElem? (i := 3) (by decide +kernel))
theorem pr_w4 : Cond.code yX0_clear cX0_clear 1 none ∈ pr_AL := pr_in_pr_A0 _ (List.mem_of_getElem? (i := 4) (by decide +kernel))
theorem pr_w5 : Cond.fieldLink RX0 7 "PrintRegister$Controller" "feed" "I" ∈ pr_AL := pr_in_pr_A0 _ (List.mem_of_getElem? (i := 5) (by decide +kernel))
theorem pr_w6 : Cond.fieldLink RX0 13 "PrintRegister$Controller" "sum" "I" ∈ pr_AL := pr_in_pr_A0 _ (List.mem_of_getElem? (i := 6) (by decide +kernel))
theorem pr_w7 : Cond.fieldLink RX0 16 "PrintRegister$Controller" "wait" "I" ∈ pr_AL := pr_in_pr_A0 _ (List.mem_of_getElem? (i := 7) (by decide +kernel))
theorem pr_w8 : Cond.fieldLink RX0 19 "PrintRegister$Controller" "misses" "I" ∈ pr_AL := pr_in_pr_A0 _ (List.mem_of_getElem? (i := 8) (by decide +kernel))
theorem pr_w9 : Cond.fieldLink RX0 22 "PrintRegister$Controller" "readyTime" "I" ∈ pr_AL := pr_in_pr_A0 _ (List.mem_of_getElem? (i := 9) (by decide +kernel))
theorem pr_w10 : Cond.fieldLink RX0 25 "PrintRegister$Controller" "expectedError" "I" ∈ pr_AL := pr_in_pr_A0 _ (List.mem_of_getElem? (i := 10) (by decide +kernel))
theorem pr_w11 : Cond.fieldLink RX0 28 "PrintRegister$Controller" "expectedSkew" "I" ∈ pr_AL := pr_in_pr_A0 _ (List.mem_of_getElem? (i := 11) (by decide +kernel))
theorem pr_w12 : Cond.fieldLink RX0 31 "PrintRegister$Controller" "addedPhase" "I" ∈ pr_AL := pr_in_pr_A0 _ (List.mem_of_getElem? (i := 12) (by decide +kernel))
theorem pr_w13 : Cond.fieldLink RX0 34 "PrintRegister$Controller" "addedSkew" "I" ∈ pr_AL := pr_in_pr_A0 _ (List.mem_of_getElem? (i := 13) (by decide +kernel))
theorem pr_w14 : Cond.code yX8_lessOne cX8_lessOne 1 (some .int) ∈ pr_AL := pr_in_pr_A0 _ (List.mem_of_getElem? (i := 14) (by decide +kernel))
theorem pr_w15 : Cond.code yX0_endRepeat cX0_endRepeat 1 none ∈ pr_AL := pr_in_pr_A0 _ (List.mem_of_getElem? (i := 15) (by decide +kernel))
theorem pr_w16 : Cond.static yX8_lessOne ∈ pr_AL := pr_in_pr_A0 _ (List.mem_of_getElem? (i := 16) (by decide +kernel))
theorem pr_w17 : Cond.initialized RX8 ∈ pr_AL := pr_in_pr_A0 _ (List.mem_of_getElem? (i := 17) (by decide +kernel))
theorem pr_w18 : Cond.code yX1_init cX1_init 1 none ∈ pr_AL := pr_in_pr_A0 _ (List.mem_of_getElem? (i := 18) (by decide +kernel))
theorem pr_w19 : Cond.methodLink RX1 3 objectInit ∈ pr_AL := pr_in_pr_A0 _ (List.mem_of_getElem? (i := 19) (by decide +kernel))
theorem pr_w20 : Cond.arrayClass .int ∈ pr_AL := pr_in_pr_A0 _ (List.mem_of_getElem? (i := 20) (by decide +kernel))
theorem pr_w21 : Cond.fieldLink RX1 9 "PrintRegister$ErrorLog" "places" "[I" ∈ pr_AL := pr_in_pr_A0 _ (List.mem_of_getElem? (i := 21) (by decide +kernel))
theorem pr_w22 : Cond.code yX1_begin cX1_begin 1 none ∈ pr_AL := pr_in_pr_A0 _ (List.mem_of_getElem? (i := 22) (by decide +kernel))
theorem pr_w23 : Cond.fieldLink RX1 15 "PrintRegister$ErrorLog" "added" "I" ∈ pr_AL := pr_in_pr_A0 _ (List.mem_of_getElem? (i := 23) (by decide +kernel))
theorem pr_w24 : Cond.code yX1_add cX1_add 2 none ∈ pr_AL := pr_in_pr_A0 _ (List.mem_of_getElem? (i := 24) (by decide +kernel))
theorem pr_w25 : Cond.code yX1_kept cX1_kept 2 (some .int) ∈ pr_AL := pr_in_pr_A0 _ (List.mem_of_getElem? (i := 25) (by decide +kernel))
theorem pr_w26 : Cond.methodLink RX1 25 Lib.Math.min.name ∈ pr_AL := pr_in_pr_A0 _ (List.mem_of_getElem? (i := 26) (by decide +kernel))
theorem pr_w27 : Cond.static Lib.Math.min.name ∈ pr_AL := pr_in_pr_A0 _ (List.mem_of_getElem? (i := 27) (by decide +kernel))
theorem pr_w28 : Cond.initialized "java/lang/Math" ∈ pr_AL := pr_in_pr_A0 _ (List.mem_of_getElem? (i := 28) (by decide +kernel))
theorem pr_w29 : Cond.code Lib.Math.min.name Lib.Math.min.code 2 (some .int) ∈ pr_AL := pr_in_pr_A0 _ (List.mem_of_getElem? (i := 29) (by decide +kernel))
theorem pr_w30 : Cond.code yX1_sizeOf cX1_sizeOf 2 (some .int) ∈ pr_AL := pr_in_pr_A0 _ (List.mem_of_getElem? (i := 30) (by decide +kernel))
theorem pr_w31 : Cond.methodLink RX1 31 Lib.Math.abs.name ∈ pr_AL := pr_in_pr_A0 _ (List.mem_of_getElem? (i := 31) (by decide +kernel))
theorem pr_w32 : Cond.static Lib.Math.abs.name ∈ pr_AL := pr_in_pr_A0 _ (List.mem_of_getElem? (i := 32) (by decide +kernel))
theorem pr_w33 : Cond.code Lib.Math.abs.name Lib.Math.abs.code 1 (some .int) ∈ pr_AL := pr_in_pr_A0 _ (List.mem_of_getElem? (i := 33) (by decide +kernel))
theorem pr_w34 : Cond.code yX1_greatest cX1_greatest 4 (some .int) ∈ pr_AL := pr_in_pr_A0 _ (List.mem_of_getElem? (i := 34) (by decide +kernel))
theorem pr_w35 : Cond.methodLink RX1 41 Lib.Math.max.name ∈ pr_AL := pr_in_pr_A0 _ (List.mem_of_getElem? (i := 35) (by decide +kernel))
theorem pr_w36 : Cond.static Lib.Math.max.name ∈ pr_AL := pr_in_pr_A0 _ (List.mem_of_getElem? (i := 36) (by decide +kernel))
theorem pr_w37 : Cond.code Lib.Math.max.name Lib.Math.max.code 2 (some .int) ∈ pr_AL := pr_in_pr_A0 _ (List.mem_of_getElem? (i := 37) (by decide +kernel))
theorem pr_w38 : Cond.methodLink RX1 35 yX1_kept ∈ pr_AL := pr_in_pr_A0 _ (List.mem_of_getElem? (i := 38) (by decide +kernel))
theorem pr_w39 : Cond.instanceMethod yX1_kept ∈ pr_AL := pr_in_pr_A0 _ (List.mem_of_getElem? (i := 39) (by decide +kernel))
theorem pr_w40 : Cond.selects RX1 yX1_kept yX1_kept ∈ pr_AL := pr_in_pr_A1 _ (List.mem_of_getElem? (i := 0) (by decide +kernel))
theorem pr_w41 : Cond.initialized RX1 ∈ pr_AL := pr_in_pr_A1 _ (List.mem_of_getElem? (i := 1) (by decide +kernel))
theorem pr_w42 : Cond.methodLink RX1 38 yX1_sizeOf ∈ pr_AL := pr_in_pr_A1 _ (List.mem_of_getElem? (i := 2) (by decide +kernel))
theorem pr_w43 : Cond.instanceMethod yX1_sizeOf ∈ pr_AL := pr_in_pr_A1 _ (List.mem_of_getElem? (i := 3) (by decide +kernel))
theorem pr_w44 : Cond.selects RX1 yX1_sizeOf yX1_sizeOf ∈ pr_AL := pr_in_pr_A1 _ (List.mem_of_getElem? (i := 4) (by decide +kernel))
theorem pr_w45 : Cond.code yX1_sumOf cX1_sumOf 4 (some .int) ∈ pr_AL := pr_in_pr_A1 _ (List.mem_of_getElem? (i := 5) (by decide +kernel))
theorem pr_w46 : Cond.code yX1_greaterThan cX1_greaterThan 5 (some .int) ∈ pr_AL := pr_in_pr_A1 _ (List.mem_of_getElem? (i := 6) (by decide +kernel))
theorem pr_w47 : Cond.code yX2_init cX2_init 1 none ∈ pr_AL := pr_in_pr_A1 _ (List.mem_of_getElem? (i := 7) (by decide +kernel))
theorem pr_w48 : Cond.methodLink RX2 3 objectInit ∈ pr_AL := pr_in_pr_A1 _ (List.mem_of_getElem? (i := 8) (by decide +kernel))
theorem pr_w49 : Cond.fieldLink RX2 9 "PrintRegister$Pad" "codes" "[I" ∈ pr_AL := pr_in_pr_A1 _ (List.mem_of_getElem? (i := 9) (by decide +kernel))
theorem pr_w50 : Cond.code yX4_init cX4_init 1 none ∈ pr_AL := pr_in_pr_A1 _ (List.mem_of_getElem? (i := 10) (by decide +kernel))
theorem pr_w51 : Cond.methodLink RX4 3 objectInit ∈ pr_AL := pr_in_pr_A1 _ (List.mem_of_getElem? (i := 11) (by decide +kernel))
theorem pr_w52 : Cond.fieldLink RX4 9 "PrintRegister$Printer" "offsets" "[I" ∈ pr_AL := pr_in_pr_A1 _ (List.mem_of_getElem? (i := 12) (by decide +kernel))
theorem pr_w53 : Cond.fieldLink RX4 15 "PrintRegister$Printer" "skews" "[I" ∈ pr_AL := pr_in_pr_A1 _ (List.mem_of_getElem? (i := 13) (by decide +kernel))
theorem pr_w54 : Cond.code yX5_init cX5_init 1 none ∈ pr_AL := pr_in_pr_A1 _ (List.mem_of_getElem? (i := 14) (by decide +kernel))
theorem pr_w55 : Cond.methodLink RX5 3 objectInit ∈ pr_AL := pr_in_pr_A1 _ (List.mem_of_getElem? (i := 15) (by decide +kernel))
theorem pr_w56 : Cond.classLink RX5 9 RX1 ∈ pr_AL := pr_in_pr_A1 _ (List.mem_of_getElem? (i := 16) (by decide +kernel))
theorem pr_w57 : Cond.instantiable RX1 2 ∈ pr_AL := pr_in_pr_A1 _ (List.mem_of_getElem? (i := 17) (by decide +kernel))
theorem pr_w58 : Cond.fieldLink RX5 12 "PrintRegister$Sensor" "log" "LPrintRegister$ErrorLog;" ∈ pr_AL := pr_in_pr_A1 _ (List.mem_of_getElem? (i := 18) (by decide +kernel))
theorem pr_w59 : Cond.instanceMethod yX1_init ∈ pr_AL := pr_in_pr_A1 _ (List.mem_of_getElem? (i := 19) (by decide +kernel))
theorem pr_w60 : Cond.methodLink RX7 3 objectInit ∈ pr_AL := pr_in_pr_A1 _ (List.mem_of_getElem? (i := 20) (by decide +kernel))
theorem pr_w61 : Cond.fieldLink RX7 9 "PrintRegister$Unit" "settings" "[I" ∈ pr_AL := pr_in_pr_A1 _ (List.mem_of_getElem? (i := 21) (by decide +kernel))
theorem pr_w62 : Cond.classLink RX7 15 RX4 ∈ pr_AL := pr_in_pr_A1 _ (List.mem_of_getElem? (i := 22) (by decide +kernel))
theorem pr_w63 : Cond.instantiable RX4 8 ∈ pr_AL := pr_in_pr_A1 _ (List.mem_of_getElem? (i := 23) (by decide +kernel))
theorem pr_w64 : Cond.initialized RX4 ∈ pr_AL := pr_in_pr_A1 _ (List.mem_of_getElem? (i := 24) (by decide +kernel))
theorem pr_w65 : Cond.fieldLink RX7 18 "PrintRegister$Unit" "printer" "LPrintRegister$Printer;" ∈ pr_AL := pr_in_pr_A1 _ (List.mem_of_getElem? (i := 25) (by decide +kernel))
theorem pr_w66 : Cond.classLink RX7 22 RX0 ∈ pr_AL := pr_in_pr_A1 _ (List.mem_of_getElem? (i := 26) (by decide +kernel))
theorem pr_w67 : Cond.instantiable RX0 9 ∈ pr_AL := pr_in_pr_A1 _ (List.mem_of_getElem? (i := 27) (by decide +kernel))
theorem pr_w68 : Cond.initialized RX0 ∈ pr_AL := pr_in_pr_A1 _ (List.mem_of_getElem? (i := 28) (by decide +kernel))
theorem pr_w69 : Cond.fieldLink RX7 25 "PrintRegister$Unit" "controller" "LPrintRegister$Controller;" ∈ pr_AL := pr_in_pr_A1 _ (List.mem_of_getElem? (i := 29) (by decide +kernel))
theorem pr_w70 : Cond.classLink RX7 29 RX5 ∈ pr_AL := pr_in_pr_A1 _ (List.mem_of_getElem? (i := 30) (by decide +kernel))
theorem pr_w71 : Cond.instantiable RX5 10 ∈ pr_AL := pr_in_pr_A1 _ (List.mem_of_getElem? (i := 31) (by decide +kernel))
theorem pr_w72 : Cond.initialized RX5 ∈ pr_AL := pr_in_pr_A1 _ (List.mem_of_getElem? (i := 32) (by decide +kernel))
theorem pr_w73 : Cond.fieldLink RX7 32 "PrintRegister$Unit" "sensor" "LPrintRegister$Sensor;" ∈ pr_AL := pr_in_pr_A1 _ (List.mem_of_getElem? (i := 33) (by decide +kernel))
theorem pr_w74 : Cond.instanceMethod yX4_init ∈ pr_AL := pr_in_pr_A1 _ (List.mem_of_getElem? (i := 34) (by decide +kernel))
theorem pr_w75 : Cond.instanceMethod yX0_init ∈ pr_AL := pr_in_pr_A1 _ (List.mem_of_getElem? (i := 35) (by decide +kernel))
theorem pr_w76 : Cond.instanceMethod yX5_init ∈ pr_AL := pr_in_pr_A1 _ (List.mem_of_getElem? (i := 36) (by decide +kernel))
theorem pr_w77 : Cond.code yX7_init cX7_init 1 none ∈ pr_AL := pr_in_pr_A1 _ (List.mem_of_getElem? (i := 37) (by decide +kernel))
theorem pr_w78 : Cond.methodLink RX3 3 objectInit ∈ pr_AL := pr_in_pr_A1 _ (List.mem_of_getElem? (i := 38) (by decide +kernel))
theorem pr_w79 : Cond.classLink RX3 9 RX7 ∈ pr_AL := pr_in_pr_A1 _ (List.mem_of_getElem? (i := 39) (by decide +kernel))
theorem pr_w80 : Cond.fieldLink RX3 11 "PrintRegister$Press" "units" "[LPrintRegister$Unit;" ∈ pr_AL := pr_in_pr_A2 _ (List.mem_of_getElem? (i := 0) (by decide +kernel))
theorem pr_w81 : Cond.fieldLink RX3 17 "PrintRegister$Press" "changes" "[I" ∈ pr_AL := pr_in_pr_A2 _ (List.mem_of_getElem? (i := 1) (by decide +kernel))
theorem pr_w82 : Cond.fieldLink RX3 21 "PrintRegister$Press" "totals" "[I" ∈ pr_AL := pr_in_pr_A2 _ (List.mem_of_getElem? (i := 2) (by decide +kernel))
theorem pr_w83 : Cond.instantiable RX7 4 ∈ pr_AL := pr_in_pr_A2 _ (List.mem_of_getElem? (i := 3) (by decide +kernel))
theorem pr_w84 : Cond.initialized RX7 ∈ pr_AL := pr_in_pr_A2 _ (List.mem_of_getElem? (i := 4) (by decide +kernel))
theorem pr_w85 : Cond.instanceMethod yX7_init ∈ pr_AL := pr_in_pr_A2 _ (List.mem_of_getElem? (i := 5) (by decide +kernel))
theorem pr_w86 : Cond.code yX3_init cX3_init 2 none ∈ pr_AL := pr_in_pr_A2 _ (List.mem_of_getElem? (i := 6) (by decide +kernel))
theorem pr_w87 : Cond.code yX4_begin cX4_begin 1 none ∈ pr_AL := pr_in_pr_A2 _ (List.mem_of_getElem? (i := 7) (by decide +kernel))
theorem pr_w88 : Cond.fieldLink RX4 18 "PrintRegister$Printer" "phase" "I" ∈ pr_AL := pr_in_pr_A2 _ (List.mem_of_getElem? (i := 8) (by decide +kernel))
theorem pr_w89 : Cond.fieldLink RX4 22 "PrintRegister$Printer" "skewSetting" "I" ∈ pr_AL := pr_in_pr_A2 _ (List.mem_of_getElem? (i := 9) (by decide +kernel))
theorem pr_w90 : Cond.fieldLink RX4 25 "PrintRegister$Printer" "tilt" "I" ∈ pr_AL := pr_in_pr_A2 _ (List.mem_of_getElem? (i := 10) (by decide +kernel))
theorem pr_w91 : Cond.fieldLink RX4 28 "PrintRegister$Printer" "disturbanceAmount" "I" ∈ pr_AL := pr_in_pr_A2 _ (List.mem_of_getElem? (i := 11) (by decide +kernel))
theorem pr_w92 : Cond.fieldLink RX4 31 "PrintRegister$Printer" "disturbanceDuration" "I" ∈ pr_AL := pr_in_pr_A2 _ (List.mem_of_getElem? (i := 12) (by decide +kernel))
theorem pr_w93 : Cond.fieldLink RX4 34 "PrintRegister$Printer" "disturbanceLeft" "I" ∈ pr_AL := pr_in_pr_A2 _ (List.mem_of_getElem? (i := 13) (by decide +kernel))
theorem pr_w94 : Cond.code yX5_seeNothing cX5_seeNothing 1 none ∈ pr_AL := pr_in_pr_A2 _ (List.mem_of_getElem? (i := 14) (by decide +kernel))
theorem pr_w95 : Cond.fieldLink RX5 50 "PrintRegister$Sensor" "sawPiece" "Z" ∈ pr_AL := pr_in_pr_A2 _ (List.mem_of_getElem? (i := 15) (by decide +kernel))
theorem pr_w96 : Cond.fieldLink RX5 54 "PrintRegister$Sensor" "recognized" "I" ∈ pr_AL := pr_in_pr_A2 _ (List.mem_of_getElem? (i := 16) (by decide +kernel))
theorem pr_w97 : Cond.code yX5_begin cX5_begin 1 none ∈ pr_AL := pr_in_pr_A2 _ (List.mem_of_getElem? (i := 17) (by decide +kernel))
theorem pr_w98 : Cond.fieldLink RX5 21 "PrintRegister$Sensor" "hiddenLeft" "I" ∈ pr_AL := pr_in_pr_A2 _ (List.mem_of_getElem? (i := 18) (by decide +kernel))
theorem pr_w99 : Cond.fieldLink RX5 25 "PrintRegister$Sensor" "falseOffset" "I" ∈ pr_AL := pr_in_pr_A2 _ (List.mem_of_getElem? (i := 19) (by decide +kernel))
theorem pr_w100 : Cond.fieldLink RX5 28 "PrintRegister$Sensor" "falseLeft" "I" ∈ pr_AL := pr_in_pr_A2 _ (List.mem_of_getElem? (i := 20) (by decide +kernel))
theorem pr_w101 : Cond.fieldLink RX5 34 "PrintRegister$Sensor" "trueError" "I" ∈ pr_AL := pr_in_pr_A2 _ (List.mem_of_getElem? (i := 21) (by decide +kernel))
theorem pr_w102 : Cond.fieldLink RX5 37 "PrintRegister$Sensor" "trueSkew" "I" ∈ pr_AL := pr_in_pr_A2 _ (List.mem_of_getElem? (i := 22) (by decide +kernel))
theorem pr_w103 : Cond.fieldLink RX5 40 "PrintRegister$Sensor" "offset" "I" ∈ pr_AL := pr_in_pr_A2 _ (List.mem_of_getElem? (i := 23) (by decide +kernel))
theorem pr_w104 : Cond.fieldLink RX5 43 "PrintRegister$Sensor" "skew" "I" ∈ pr_AL := pr_in_pr_A2 _ (List.mem_of_getElem? (i := 24) (by decide +kernel))
theorem pr_w105 : Cond.methodLink RX5 18 yX1_begin ∈ pr_AL := pr_in_pr_A2 _ (List.mem_of_getElem? (i := 25) (by decide +kernel))
theorem pr_w106 : Cond.instanceMethod yX1_begin ∈ pr_AL := pr_in_pr_A2 _ (List.mem_of_getElem? (i := 26) (by decide +kernel))
theorem pr_w107 : Cond.selects RX1 yX1_begin yX1_begin ∈ pr_AL := pr_in_pr_A2 _ (List.mem_of_getElem? (i := 27) (by decide +kernel))
theorem pr_w108 : Cond.methodLink RX5 31 yX5_seeNothing ∈ pr_AL := pr_in_pr_A2 _ (List.mem_of_getElem? (i := 28) (by decide +kernel))
theorem pr_w109 : Cond.instanceMethod yX5_seeNothing ∈ pr_AL := pr_in_pr_A2 _ (List.mem_of_getElem? (i := 29) (by decide +kernel))
theorem pr_w110 : Cond.selects RX5 yX5_seeNothing yX5_seeNothing ∈ pr_AL := pr_in_pr_A2 _ (List.mem_of_getElem? (i := 30) (by decide +kernel))
theorem pr_w111 : Cond.methodLink RX7 39 yX4_begin ∈ pr_AL := pr_in_pr_A2 _ (List.mem_of_getElem? (i := 31) (by decide +kernel))
theorem pr_w112 : Cond.instanceMethod yX4_begin ∈ pr_AL := pr_in_pr_A2 _ (List.mem_of_getElem? (i := 32) (by decide +kernel))
theorem pr_w113 : Cond.selects RX4 yX4_begin yX4_begin ∈ pr_AL := pr_in_pr_A2 _ (List.mem_of_getElem? (i := 33) (by decide +kernel))
theorem pr_w114 : Cond.methodLink RX7 42 yX0_clear ∈ pr_AL := pr_in_pr_A2 _ (List.mem_of_getElem? (i := 34) (by decide +kernel))
theorem pr_w115 : Cond.instanceMethod yX0_clear ∈ pr_AL := pr_in_pr_A2 _ (List.mem_of_getElem? (i := 35) (by decide +kernel))
theorem pr_w116 : Cond.selects RX0 yX0_clear yX0_clear ∈ pr_AL := pr_in_pr_A2 _ (List.mem_of_getElem? (i := 36) (by decide +kernel))
theorem pr_w117 : Cond.methodLink RX7 45 yX5_begin ∈ pr_AL := pr_in_pr_A2 _ (List.mem_of_getElem? (i := 37) (by decide +kernel))
theorem pr_w118 : Cond.instanceMethod yX5_begin ∈ pr_AL := pr_in_pr_A2 _ (List.mem_of_getElem? (i := 38) (by decide +kernel))
theorem pr_w119 : Cond.selects RX5 yX5_begin yX5_begin ∈ pr_AL := pr_in_pr_A2 _ (List.mem_of_getElem? (i := 39) (by decide +kernel))
theorem pr_w120 : Cond.code yX7_begin cX7_begin 2 none ∈ pr_AL := pr_in_pr_A3 _ (List.mem_of_getElem? (i := 0) (by decide +kernel))
theorem pr_w121 : Cond.fieldLink RX3 25 "PrintRegister$Press" "unitCount" "I" ∈ pr_AL := pr_in_pr_A3 _ (List.mem_of_getElem? (i := 1) (by decide +kernel))
theorem pr_w122 : Cond.fieldLink RX3 29 "PrintRegister$Press" "time" "I" ∈ pr_AL := pr_in_pr_A3 _ (List.mem_of_getElem? (i := 2) (by decide +kernel))
theorem pr_w123 : Cond.fieldLink RX3 32 "PrintRegister$Press" "speedNow" "I" ∈ pr_AL := pr_in_pr_A3 _ (List.mem_of_getElem? (i := 3) (by decide +kernel))
theorem pr_w124 : Cond.fieldLink RX3 35 "PrintRegister$Press" "speedBefore" "I" ∈ pr_AL := pr_in_pr_A3 _ (List.mem_of_getElem? (i := 4) (by decide +kernel))
theorem pr_w125 : Cond.fieldLink RX3 38 "PrintRegister$Press" "spliceStart" "I" ∈ pr_AL := pr_in_pr_A3 _ (List.mem_of_getElem? (i := 5) (by decide +kernel))
theorem pr_w126 : Cond.fieldLink RX3 41 "PrintRegister$Press" "spliceAmount" "I" ∈ pr_AL := pr_in_pr_A3 _ (List.mem_of_getElem? (i := 6) (by decide +kernel))
theorem pr_w127 : Cond.fieldLink RX3 44 "PrintRegister$Press" "spliceDuration" "I" ∈ pr_AL := pr_in_pr_A3 _ (List.mem_of_getElem? (i := 7) (by decide +kernel))
theorem pr_w128 : Cond.methodLink RX3 47 yX7_begin ∈ pr_AL := pr_in_pr_A3 _ (List.mem_of_getElem? (i := 8) (by decide +kernel))
theorem pr_w129 : Cond.instanceMethod yX7_begin ∈ pr_AL := pr_in_pr_A3 _ (List.mem_of_getElem? (i := 9) (by decide +kernel))
theorem pr_w130 : Cond.selects RX7 yX7_begin yX7_begin ∈ pr_AL := pr_in_pr_A3 _ (List.mem_of_getElem? (i := 10) (by decide +kernel))
theorem pr_w131 : Cond.code yX3_begin cX3_begin 3 none ∈ pr_AL := pr_in_pr_A3 _ (List.mem_of_getElem? (i := 11) (by decide +kernel))
theorem pr_w132 : Cond.code yX3_unitAt cX3_unitAt 2 (some (.object "PrintRegister$Unit")) ∈ pr_AL := pr_in_pr_A3 _ (List.mem_of_getElem? (i := 12) (by decide +kernel))
theorem pr_w133 : Cond.code yX3_controlledUnitAt cX3_controlledUnitAt 2 (some (.object "PrintRegister$Unit")) ∈ pr_AL := pr_in_pr_A3 _ (List.mem_of_getElem? (i := 13) (by decide +kernel))
theorem pr_w134 : Cond.methodLink RX3 60 yX3_unitAt ∈ pr_AL := pr_in_pr_A3 _ (List.mem_of_getElem? (i := 14) (by decide +kernel))
theorem pr_w135 : Cond.instanceMethod yX3_unitAt ∈ pr_AL := pr_in_pr_A3 _ (List.mem_of_getElem? (i := 15) (by decide +kernel))
theorem pr_w136 : Cond.selects RX3 yX3_unitAt yX3_unitAt ∈ pr_AL := pr_in_pr_A3 _ (List.mem_of_getElem? (i := 16) (by decide +kernel))
theorem pr_w137 : Cond.initialized RX3 ∈ pr_AL := pr_in_pr_A3 _ (List.mem_of_getElem? (i := 17) (by decide +kernel))
theorem pr_w138 : Cond.code yX7_setting cX7_setting 2 (some .int) ∈ pr_AL := pr_in_pr_A3 _ (List.mem_of_getElem? (i := 18) (by decide +kernel))
theorem pr_w139 : Cond.code yX3_wayOf cX3_wayOf 4 (some .int) ∈ pr_AL := pr_in_pr_A3 _ (List.mem_of_getElem? (i := 19) (by decide +kernel))
theorem pr_w140 : Cond.methodLink RX3 64 yX7_setting ∈ pr_AL := pr_in_pr_A3 _ (List.mem_of_getElem? (i := 20) (by decide +kernel))
theorem pr_w141 : Cond.instanceMethod yX7_setting ∈ pr_AL := pr_in_pr_A3 _ (List.mem_of_getElem? (i := 21) (by decide +kernel))
theorem pr_w142 : Cond.selects RX7 yX7_setting yX7_setting ∈ pr_AL := pr_in_pr_A3 _ (List.mem_of_getElem? (i := 22) (by decide +kernel))
theorem pr_w143 : Cond.code yX3_startSplice cX3_startSplice 3 none ∈ pr_AL := pr_in_pr_A3 _ (List.mem_of_getElem? (i := 23) (by decide +kernel))
theorem pr_w144 : Cond.code yX3_repeatsToLastUnit cX3_repeatsToLastUnit 1 (some .int) ∈ pr_AL := pr_in_pr_A3 _ (List.mem_of_getElem? (i := 24) (by decide +kernel))
theorem pr_w145 : Cond.methodLink RX3 71 Lib.Math.max.name ∈ pr_AL := pr_in_pr_A3 _ (List.mem_of_getElem? (i := 25) (by decide +kernel))
theorem pr_w146 : Cond.methodLink RX3 68 yX3_wayOf ∈ pr_AL := pr_in_pr_A3 _ (List.mem_of_getElem? (i := 26) (by decide +kernel))
theorem pr_w147 : Cond.instanceMethod yX3_wayOf ∈ pr_AL := pr_in_pr_A3 _ (List.mem_of_getElem? (i := 27) (by decide +kernel))
theorem pr_w148 : Cond.selects RX3 yX3_wayOf yX3_wayOf ∈ pr_AL := pr_in_pr_A3 _ (List.mem_of_getElem? (i := 28) (by decide +kernel))
theorem pr_w149 : Cond.code yX4_beDisturbed cX4_beDisturbed 3 none ∈ pr_AL := pr_in_pr_A3 _ (List.mem_of_getElem? (i := 29) (by decide +kernel))
theorem pr_w150 : Cond.code yX7_beSpliced cX7_beSpliced 3 none ∈ pr_AL := pr_in_pr_A3 _ (List.mem_of_getElem? (i := 30) (by decide +kernel))
theorem pr_w151 : Cond.methodLink RX7 62 yX4_beDisturbed ∈ pr_AL := pr_in_pr_A3 _ (List.mem_of_getElem? (i := 31) (by decide +kernel))
theorem pr_w152 : Cond.instanceMethod yX4_beDisturbed ∈ pr_AL := pr_in_pr_A3 _ (List.mem_of_getElem? (i := 32) (by decide +kernel))
theorem pr_w153 : Cond.selects RX4 yX4_beDisturbed yX4_beDisturbed ∈ pr_AL := pr_in_pr_A3 _ (List.mem_of_getElem? (i := 33) (by decide +kernel))
theorem pr_w154 : Cond.methodLink RX7 70 yX7_setting ∈ pr_AL := pr_in_pr_A3 _ (List.mem_of_getElem? (i := 34) (by decide +kernel))
theorem pr_w155 : Cond.methodLink RX3 116 yX7_beSpliced ∈ pr_AL := pr_in_pr_A3 _ (List.mem_of_getElem? (i := 35) (by decide +kernel))
theorem pr_w156 : Cond.instanceMethod yX7_beSpliced ∈ pr_AL := pr_in_pr_A3 _ (List.mem_of_getElem? (i := 36) (by decide +kernel))
theorem pr_w157 : Cond.selects RX7 yX7_beSpliced yX7_beSpliced ∈ pr_AL := pr_in_pr_A3 _ (List.mem_of_getElem? (i := 37) (by decide +kernel))
theorem pr_w158 : Cond.code yX3_bringSplice cX3_bringSplice 3 none ∈ pr_AL := pr_in_pr_A3 _ (List.mem_of_getElem? (i := 38) (by decide +kernel))
theorem pr_w159 : Cond.code yX4_disturbance cX4_disturbance 1 (some .int) ∈ pr_AL := pr_in_pr_A3 _ (List.mem_of_getElem? (i := 39) (by decide +kernel))
theorem pr_w160 : Cond.code yX4_printPiece cX4_printPiece 3 none ∈ pr_AL := pr_in_pr_A4 _ (List.mem_of_getElem? (i := 0) (by decide +kernel))
theorem pr_w161 : Cond.methodLink RX4 43 yX4_disturbance ∈ pr_AL := pr_in_pr_A4 _ (List.mem_of_getElem? (i := 1) (by decide +kernel))
theorem pr_w162 : Cond.instanceMethod yX4_disturbance ∈ pr_AL := pr_in_pr_A4 _ (List.mem_of_getElem? (i := 2) (by decide +kernel))
theorem pr_w163 : Cond.selects RX4 yX4_disturbance yX4_disturbance ∈ pr_AL := pr_in_pr_A4 _ (List.mem_of_getElem? (i := 3) (by decide +kernel))
theorem pr_w164 : Cond.methodLink RX7 80 yX4_printPiece ∈ pr_AL := pr_in_pr_A4 _ (List.mem_of_getElem? (i := 4) (by decide +kernel))
theorem pr_w165 : Cond.instanceMethod yX4_printPiece ∈ pr_AL := pr_in_pr_A4 _ (List.mem_of_getElem? (i := 5) (by decide +kernel))
theorem pr_w166 : Cond.selects RX4 yX4_printPiece yX4_printPiece ∈ pr_AL := pr_in_pr_A4 _ (List.mem_of_getElem? (i := 6) (by decide +kernel))
theorem pr_w167 : Cond.code yX7_printPiece cX7_printPiece 3 none ∈ pr_AL := pr_in_pr_A4 _ (List.mem_of_getElem? (i := 7) (by decide +kernel))
theorem pr_w168 : Cond.code yX4_offsetAt cX4_offsetAt 2 (some .int) ∈ pr_AL := pr_in_pr_A4 _ (List.mem_of_getElem? (i := 8) (by decide +kernel))
theorem pr_w169 : Cond.code yX4_skewAt cX4_skewAt 2 (some .int) ∈ pr_AL := pr_in_pr_A4 _ (List.mem_of_getElem? (i := 9) (by decide +kernel))
theorem pr_w170 : Cond.code yX5_seePiece cX5_seePiece 3 none ∈ pr_AL := pr_in_pr_A4 _ (List.mem_of_getElem? (i := 10) (by decide +kernel))
theorem pr_w171 : Cond.methodLink RX5 57 yX1_add ∈ pr_AL := pr_in_pr_A4 _ (List.mem_of_getElem? (i := 11) (by decide +kernel))
theorem pr_w172 : Cond.instanceMethod yX1_add ∈ pr_AL := pr_in_pr_A4 _ (List.mem_of_getElem? (i := 12) (by decide +kernel))
theorem pr_w173 : Cond.selects RX1 yX1_add yX1_add ∈ pr_AL := pr_in_pr_A4 _ (List.mem_of_getElem? (i := 13) (by decide +kernel))
theorem pr_w174 : Cond.code yX7_window cX7_window 2 (some .int) ∈ pr_AL := pr_in_pr_A4 _ (List.mem_of_getElem? (i := 14) (by decide +kernel))
theorem pr_w175 : Cond.code yX5_recognizeNear cX5_recognizeNear 8 none ∈ pr_AL := pr_in_pr_A4 _ (List.mem_of_getElem? (i := 15) (by decide +kernel))
theorem pr_w176 : Cond.methodLink RX5 61 Lib.Math.abs.name ∈ pr_AL := pr_in_pr_A4 _ (List.mem_of_getElem? (i := 16) (by decide +kernel))
theorem pr_w177 : Cond.methodLink RX7 89 yX7_window ∈ pr_AL := pr_in_pr_A4 _ (List.mem_of_getElem? (i := 17) (by decide +kernel))
theorem pr_w178 : Cond.instanceMethod yX7_window ∈ pr_AL := pr_in_pr_A4 _ (List.mem_of_getElem? (i := 18) (by decide +kernel))
theorem pr_w179 : Cond.selects RX7 yX7_window yX7_window ∈ pr_AL := pr_in_pr_A4 _ (List.mem_of_getElem? (i := 19) (by decide +kernel))
theorem pr_w180 : Cond.methodLink RX7 93 yX5_recognizeNear ∈ pr_AL := pr_in_pr_A4 _ (List.mem_of_getElem? (i := 20) (by decide +kernel))
theorem pr_w181 : Cond.instanceMethod yX5_recognizeNear ∈ pr_AL := pr_in_pr_A4 _ (List.mem_of_getElem? (i := 21) (by decide +kernel))
theorem pr_w182 : Cond.selects RX5 yX5_recognizeNear yX5_recognizeNear ∈ pr_AL := pr_in_pr_A4 _ (List.mem_of_getElem? (i := 22) (by decide +kernel))
theorem pr_w183 : Cond.code yX7_recognizeMark cX7_recognizeMark 2 (some .boolean) ∈ pr_AL := pr_in_pr_A4 _ (List.mem_of_getElem? (i := 23) (by decide +kernel))
theorem pr_w184 : Cond.code yX8_limited cX8_limited 2 (some .int) ∈ pr_AL := pr_in_pr_A4 _ (List.mem_of_getElem? (i := 24) (by decide +kernel))
theorem pr_w185 : Cond.code yX7_learnFrom cX7_learnFrom 4 (some .boolean) ∈ pr_AL := pr_in_pr_A4 _ (List.mem_of_getElem? (i := 25) (by decide +kernel))
theorem pr_w186 : Cond.methodLink RX7 103 Lib.Math.abs.name ∈ pr_AL := pr_in_pr_A4 _ (List.mem_of_getElem? (i := 26) (by decide +kernel))
theorem pr_w187 : Cond.static yX8_limited ∈ pr_AL := pr_in_pr_A4 _ (List.mem_of_getElem? (i := 27) (by decide +kernel))
theorem pr_w188 : Cond.code yX7_expectAsMeasured cX7_expectAsMeasured 1 none ∈ pr_AL := pr_in_pr_A4 _ (List.mem_of_getElem? (i := 28) (by decide +kernel))
theorem pr_w189 : Cond.code yX7_isOff cX7_isOff 2 (some .boolean) ∈ pr_AL := pr_in_pr_A4 _ (List.mem_of_getElem? (i := 29) (by decide +kernel))
theorem pr_w190 : Cond.code yX7_correctPhase cX7_correctPhase 4 (some .int) ∈ pr_AL := pr_in_pr_A4 _ (List.mem_of_getElem? (i := 30) (by decide +kernel))
theorem pr_w191 : Cond.code yX7_correctSkew cX7_correctSkew 3 (some .int) ∈ pr_AL := pr_in_pr_A4 _ (List.mem_of_getElem? (i := 31) (by decide +kernel))
theorem pr_w192 : Cond.methodLink RX3 147 yX7_learnFrom ∈ pr_AL := pr_in_pr_A4 _ (List.mem_of_getElem? (i := 32) (by decide +kernel))
theorem pr_w193 : Cond.instanceMethod yX7_learnFrom ∈ pr_AL := pr_in_pr_A4 _ (List.mem_of_getElem? (i := 33) (by decide +kernel))
theorem pr_w194 : Cond.selects RX7 yX7_learnFrom yX7_learnFrom ∈ pr_AL := pr_in_pr_A4 _ (List.mem_of_getElem? (i := 34) (by decide +kernel))
theorem pr_w195 : Cond.methodLink RX3 151 yX7_expectAsMeasured ∈ pr_AL := pr_in_pr_A4 _ (List.mem_of_getElem? (i := 35) (by decide +kernel))
theorem pr_w196 : Cond.instanceMethod yX7_expectAsMeasured ∈ pr_AL := pr_in_pr_A4 _ (List.mem_of_getElem? (i := 36) (by decide +kernel))
theorem pr_w197 : Cond.selects RX7 yX7_expectAsMeasured yX7_expectAsMeasured ∈ pr_AL := pr_in_pr_A4 _ (List.mem_of_getElem? (i := 37) (by decide +kernel))
theorem pr_w198 : Cond.methodLink RX3 166 yX7_isOff ∈ pr_AL := pr_in_pr_A4 _ (List.mem_of_getElem? (i := 38) (by decide +kernel))
theorem pr_w199 : Cond.instanceMethod yX7_isOff ∈ pr_AL := pr_in_pr_A4 _ (List.mem_of_getElem? (i := 39) (by decide +kernel))
theorem pr_w200 : Cond.selects RX7 yX7_isOff yX7_isOff ∈ pr_AL := pr_in_pr_A5 _ (List.mem_of_getElem? (i := 0) (by decide +kernel))
theorem pr_w201 : Cond.methodLink RX3 172 yX7_correctPhase ∈ pr_AL := pr_in_pr_A5 _ (List.mem_of_getElem? (i := 1) (by decide +kernel))
theorem pr_w202 : Cond.instanceMethod yX7_correctPhase ∈ pr_AL := pr_in_pr_A5 _ (List.mem_of_getElem? (i := 2) (by decide +kernel))
theorem pr_w203 : Cond.selects RX7 yX7_correctPhase yX7_correctPhase ∈ pr_AL := pr_in_pr_A5 _ (List.mem_of_getElem? (i := 3) (by decide +kernel))
theorem pr_w204 : Cond.methodLink RX3 179 yX7_correctSkew ∈ pr_AL := pr_in_pr_A5 _ (List.mem_of_getElem? (i := 4) (by decide +kernel))
theorem pr_w205 : Cond.instanceMethod yX7_correctSkew ∈ pr_AL := pr_in_pr_A5 _ (List.mem_of_getElem? (i := 5) (by decide +kernel))
theorem pr_w206 : Cond.selects RX7 yX7_correctSkew yX7_correctSkew ∈ pr_AL := pr_in_pr_A5 _ (List.mem_of_getElem? (i := 6) (by decide +kernel))
theorem pr_w207 : Cond.code yX3_control cX3_control 5 none ∈ pr_AL := pr_in_pr_A5 _ (List.mem_of_getElem? (i := 7) (by decide +kernel))
theorem pr_w208 : Cond.methodLink RX3 119 yX5_seeNothing ∈ pr_AL := pr_in_pr_A5 _ (List.mem_of_getElem? (i := 8) (by decide +kernel))
theorem pr_w209 : Cond.methodLink RX3 126 yX4_offsetAt ∈ pr_AL := pr_in_pr_A5 _ (List.mem_of_getElem? (i := 9) (by decide +kernel))
theorem pr_w210 : Cond.instanceMethod yX4_offsetAt ∈ pr_AL := pr_in_pr_A5 _ (List.mem_of_getElem? (i := 10) (by decide +kernel))
theorem pr_w211 : Cond.selects RX4 yX4_offsetAt yX4_offsetAt ∈ pr_AL := pr_in_pr_A5 _ (List.mem_of_getElem? (i := 11) (by decide +kernel))
theorem pr_w212 : Cond.methodLink RX3 131 yX4_skewAt ∈ pr_AL := pr_in_pr_A5 _ (List.mem_of_getElem? (i := 12) (by decide +kernel))
theorem pr_w213 : Cond.instanceMethod yX4_skewAt ∈ pr_AL := pr_in_pr_A5 _ (List.mem_of_getElem? (i := 13) (by decide +kernel))
theorem pr_w214 : Cond.selects RX4 yX4_skewAt yX4_skewAt ∈ pr_AL := pr_in_pr_A5 _ (List.mem_of_getElem? (i := 14) (by decide +kernel))
theorem pr_w215 : Cond.methodLink RX3 134 yX5_seePiece ∈ pr_AL := pr_in_pr_A5 _ (List.mem_of_getElem? (i := 15) (by decide +kernel))
theorem pr_w216 : Cond.instanceMethod yX5_seePiece ∈ pr_AL := pr_in_pr_A5 _ (List.mem_of_getElem? (i := 16) (by decide +kernel))
theorem pr_w217 : Cond.selects RX5 yX5_seePiece yX5_seePiece ∈ pr_AL := pr_in_pr_A5 _ (List.mem_of_getElem? (i := 17) (by decide +kernel))
theorem pr_w218 : Cond.methodLink RX3 137 yX7_recognizeMark ∈ pr_AL := pr_in_pr_A5 _ (List.mem_of_getElem? (i := 18) (by decide +kernel))
theorem pr_w219 : Cond.instanceMethod yX7_recognizeMark ∈ pr_AL := pr_in_pr_A5 _ (List.mem_of_getElem? (i := 19) (by decide +kernel))
theorem pr_w220 : Cond.selects RX7 yX7_recognizeMark yX7_recognizeMark ∈ pr_AL := pr_in_pr_A5 _ (List.mem_of_getElem? (i := 20) (by decide +kernel))
theorem pr_w221 : Cond.methodLink RX3 144 yX3_control ∈ pr_AL := pr_in_pr_A5 _ (List.mem_of_getElem? (i := 21) (by decide +kernel))
theorem pr_w222 : Cond.instanceMethod yX3_control ∈ pr_AL := pr_in_pr_A5 _ (List.mem_of_getElem? (i := 22) (by decide +kernel))
theorem pr_w223 : Cond.selects RX3 yX3_control yX3_control ∈ pr_AL := pr_in_pr_A5 _ (List.mem_of_getElem? (i := 23) (by decide +kernel))
theorem pr_w224 : Cond.code yX3_watchUnit cX3_watchUnit 6 none ∈ pr_AL := pr_in_pr_A5 _ (List.mem_of_getElem? (i := 24) (by decide +kernel))
theorem pr_w225 : Cond.code yX7_endRepeat cX7_endRepeat 1 none ∈ pr_AL := pr_in_pr_A5 _ (List.mem_of_getElem? (i := 25) (by decide +kernel))
theorem pr_w226 : Cond.methodLink RX7 124 yX0_endRepeat ∈ pr_AL := pr_in_pr_A5 _ (List.mem_of_getElem? (i := 26) (by decide +kernel))
theorem pr_w227 : Cond.instanceMethod yX0_endRepeat ∈ pr_AL := pr_in_pr_A5 _ (List.mem_of_getElem? (i := 27) (by decide +kernel))
theorem pr_w228 : Cond.selects RX0 yX0_endRepeat yX0_endRepeat ∈ pr_AL := pr_in_pr_A5 _ (List.mem_of_getElem? (i := 28) (by decide +kernel))
theorem pr_w229 : Cond.methodLink RX3 103 yX3_bringSplice ∈ pr_AL := pr_in_pr_A5 _ (List.mem_of_getElem? (i := 29) (by decide +kernel))
theorem pr_w230 : Cond.instanceMethod yX3_bringSplice ∈ pr_AL := pr_in_pr_A5 _ (List.mem_of_getElem? (i := 30) (by decide +kernel))
theorem pr_w231 : Cond.selects RX3 yX3_bringSplice yX3_bringSplice ∈ pr_AL := pr_in_pr_A5 _ (List.mem_of_getElem? (i := 31) (by decide +kernel))
theorem pr_w232 : Cond.methodLink RX3 106 yX7_printPiece ∈ pr_AL := pr_in_pr_A5 _ (List.mem_of_getElem? (i := 32) (by decide +kernel))
theorem pr_w233 : Cond.instanceMethod yX7_printPiece ∈ pr_AL := pr_in_pr_A5 _ (List.mem_of_getElem? (i := 33) (by decide +kernel))
theorem pr_w234 : Cond.selects RX7 yX7_printPiece yX7_printPiece ∈ pr_AL := pr_in_pr_A5 _ (List.mem_of_getElem? (i := 34) (by decide +kernel))
theorem pr_w235 : Cond.methodLink RX3 109 yX3_watchUnit ∈ pr_AL := pr_in_pr_A5 _ (List.mem_of_getElem? (i := 35) (by decide +kernel))
theorem pr_w236 : Cond.instanceMethod yX3_watchUnit ∈ pr_AL := pr_in_pr_A5 _ (List.mem_of_getElem? (i := 36) (by decide +kernel))
theorem pr_w237 : Cond.selects RX3 yX3_watchUnit yX3_watchUnit ∈ pr_AL := pr_in_pr_A5 _ (List.mem_of_getElem? (i := 37) (by decide +kernel))
theorem pr_w238 : Cond.methodLink RX3 113 yX7_endRepeat ∈ pr_AL := pr_in_pr_A5 _ (List.mem_of_getElem? (i := 38) (by decide +kernel))
theorem pr_w239 : Cond.instanceMethod yX7_endRepeat ∈ pr_AL := pr_in_pr_A5 _ (List.mem_of_getElem? (i := 39) (by decide +kernel))
theorem pr_w240 : Cond.selects RX7 yX7_endRepeat yX7_endRepeat ∈ pr_AL := pr_in_pr_A6 _ (List.mem_of_getElem? (i := 0) (by decide +kernel))
theorem pr_w241 : Cond.code yX3_makeRepeat cX3_makeRepeat 4 none ∈ pr_AL := pr_in_pr_A6 _ (List.mem_of_getElem? (i := 1) (by decide +kernel))
theorem pr_w242 : Cond.code yX4_byHand cX4_byHand 2 (some .int) ∈ pr_AL := pr_in_pr_A6 _ (List.mem_of_getElem? (i := 2) (by decide +kernel))
theorem pr_w243 : Cond.code yX4_changeByHand cX4_changeByHand 3 none ∈ pr_AL := pr_in_pr_A6 _ (List.mem_of_getElem? (i := 3) (by decide +kernel))
theorem pr_w244 : Cond.code yX5_sight cX5_sight 2 (some .int) ∈ pr_AL := pr_in_pr_A6 _ (List.mem_of_getElem? (i := 4) (by decide +kernel))
theorem pr_w245 : Cond.methodLink RX6 1 objectInit ∈ pr_AL := pr_in_pr_A6 _ (List.mem_of_getElem? (i := 5) (by decide +kernel))
theorem pr_w246 : Cond.classLink RX6 7 RX3 ∈ pr_AL := pr_in_pr_A6 _ (List.mem_of_getElem? (i := 6) (by decide +kernel))
theorem pr_w247 : Cond.instantiable RX3 10 ∈ pr_AL := pr_in_pr_A6 _ (List.mem_of_getElem? (i := 7) (by decide +kernel))
theorem pr_w248 : Cond.fieldLink RX6 10 "PrintRegister$Slot" "saved" "LPrintRegister$Press;" ∈ pr_AL := pr_in_pr_A6 _ (List.mem_of_getElem? (i := 8) (by decide +kernel))
theorem pr_w249 : Cond.methodLink RX6 9 yX3_init ∈ pr_AL := pr_in_pr_A6 _ (List.mem_of_getElem? (i := 9) (by decide +kernel))
theorem pr_w250 : Cond.instanceMethod yX3_init ∈ pr_AL := pr_in_pr_A6 _ (List.mem_of_getElem? (i := 10) (by decide +kernel))
theorem pr_w251 : Cond.code yX6_init cX6_init 1 none ∈ pr_AL := pr_in_pr_A6 _ (List.mem_of_getElem? (i := 11) (by decide +kernel))
theorem pr_w252 : Cond.code yX7_changeSetting cX7_changeSetting 3 none ∈ pr_AL := pr_in_pr_A6 _ (List.mem_of_getElem? (i := 12) (by decide +kernel))
theorem pr_w253 : Cond.methodLink RX8 1 objectInit ∈ pr_AL := pr_in_pr_A6 _ (List.mem_of_getElem? (i := 13) (by decide +kernel))
theorem pr_w254 : Cond.classLink RX8 7 RX3 ∈ pr_AL := pr_in_pr_A6 _ (List.mem_of_getElem? (i := 14) (by decide +kernel))
theorem pr_w255 : Cond.fieldLink RX8 10 "PrintRegister" "press" "LPrintRegister$Press;" ∈ pr_AL := pr_in_pr_A6 _ (List.mem_of_getElem? (i := 15) (by decide +kernel))
theorem pr_w256 : Cond.fieldLink RX8 16 "PrintRegister" "copy" "LPrintRegister$Press;" ∈ pr_AL := pr_in_pr_A6 _ (List.mem_of_getElem? (i := 16) (by decide +kernel))
theorem pr_w257 : Cond.classLink RX8 19 RX6 ∈ pr_AL := pr_in_pr_A6 _ (List.mem_of_getElem? (i := 17) (by decide +kernel))
theorem pr_w258 : Cond.instantiable RX6 2 ∈ pr_AL := pr_in_pr_A6 _ (List.mem_of_getElem? (i := 18) (by decide +kernel))
theorem pr_w259 : Cond.initialized RX6 ∈ pr_AL := pr_in_pr_A6 _ (List.mem_of_getElem? (i := 19) (by decide +kernel))
theorem pr_w260 : Cond.fieldLink RX8 22 "PrintRegister" "slot0" "LPrintRegister$Slot;" ∈ pr_AL := pr_in_pr_A6 _ (List.mem_of_getElem? (i := 20) (by decide +kernel))
theorem pr_w261 : Cond.fieldLink RX8 26 "PrintRegister" "slot1" "LPrintRegister$Slot;" ∈ pr_AL := pr_in_pr_A6 _ (List.mem_of_getElem? (i := 21) (by decide +kernel))
theorem pr_w262 : Cond.classLink RX8 29 RX2 ∈ pr_AL := pr_in_pr_A6 _ (List.mem_of_getElem? (i := 22) (by decide +kernel))
theorem pr_w263 : Cond.instantiable RX2 10 ∈ pr_AL := pr_in_pr_A6 _ (List.mem_of_getElem? (i := 23) (by decide +kernel))
theorem pr_w264 : Cond.initialized RX2 ∈ pr_AL := pr_in_pr_A6 _ (List.mem_of_getElem? (i := 24) (by decide +kernel))
theorem pr_w265 : Cond.fieldLink RX8 32 "PrintRegister" "pad" "LPrintRegister$Pad;" ∈ pr_AL := pr_in_pr_A6 _ (List.mem_of_getElem? (i := 25) (by decide +kernel))
theorem pr_w266 : Cond.methodLink RX8 9 yX3_init ∈ pr_AL := pr_in_pr_A6 _ (List.mem_of_getElem? (i := 26) (by decide +kernel))
theorem pr_w267 : Cond.instanceMethod yX6_init ∈ pr_AL := pr_in_pr_A6 _ (List.mem_of_getElem? (i := 27) (by decide +kernel))
theorem pr_w268 : Cond.instanceMethod yX2_init ∈ pr_AL := pr_in_pr_A6 _ (List.mem_of_getElem? (i := 28) (by decide +kernel))
theorem pr_w269 : Cond.methodLink RX8 36 yX3_begin ∈ pr_AL := pr_in_pr_A6 _ (List.mem_of_getElem? (i := 29) (by decide +kernel))
theorem pr_w270 : Cond.instanceMethod yX3_begin ∈ pr_AL := pr_in_pr_A6 _ (List.mem_of_getElem? (i := 30) (by decide +kernel))
theorem pr_w271 : Cond.selects RX3 yX3_begin yX3_begin ∈ pr_AL := pr_in_pr_A6 _ (List.mem_of_getElem? (i := 31) (by decide +kernel))
theorem pr_w272 : Cond.code yX8_init cX8_init 1 none ∈ pr_AL := pr_in_pr_A6 _ (List.mem_of_getElem? (i := 32) (by decide +kernel))
theorem pr_w273 : Cond.code yX8_isOutside cX8_isOutside 3 (some .boolean) ∈ pr_AL := pr_in_pr_A6 _ (List.mem_of_getElem? (i := 33) (by decide +kernel))
theorem pr_w274 : Cond.constant RX8 44 (-1000000002) ∈ pr_AL := pr_in_pr_A6 _ (List.mem_of_getElem? (i := 34) (by decide +kernel))
theorem pr_w275 : Cond.methodLink RX8 40 yX8_isOutside ∈ pr_AL := pr_in_pr_A6 _ (List.mem_of_getElem? (i := 35) (by decide +kernel))
theorem pr_w276 : Cond.static yX8_isOutside ∈ pr_AL := pr_in_pr_A6 _ (List.mem_of_getElem? (i := 36) (by decide +kernel))
theorem pr_w277 : Cond.code yX8_setUp cX8_setUp 3 (some .int) ∈ pr_AL := pr_in_pr_A6 _ (List.mem_of_getElem? (i := 37) (by decide +kernel))
theorem pr_w278 : Cond.code yX8_isSettingValue cX8_isSettingValue 2 (some .boolean) ∈ pr_AL := pr_in_pr_A6 _ (List.mem_of_getElem? (i := 38) (by decide +kernel))
theorem pr_w279 : Cond.fieldLink RX8 280 "PrintRegister" "LEAST_SETTINGS" "[I" ∈ pr_AL := pr_in_pr_A6 _ (List.mem_of_getElem? (i := 39) (by decide +kernel))
theorem pr_w280 : Cond.fieldLink RX8 283 "PrintRegister" "GREATEST_SETTINGS" "[I" ∈ pr_AL := pr_in_pr_A7 _ (List.mem_of_getElem? (i := 0) (by decide +kernel))
theorem pr_w281 : Cond.code yX8_isPlace cX8_isPlace 1 (some .boolean) ∈ pr_AL := pr_in_pr_A7 _ (List.mem_of_getElem? (i := 1) (by decide +kernel))
theorem pr_w282 : Cond.constant RX8 53 (-1000000001) ∈ pr_AL := pr_in_pr_A7 _ (List.mem_of_getElem? (i := 2) (by decide +kernel))
theorem pr_w283 : Cond.constant RX8 62 (-1000000005) ∈ pr_AL := pr_in_pr_A7 _ (List.mem_of_getElem? (i := 3) (by decide +kernel))
theorem pr_w284 : Cond.methodLink RX8 49 yX3_unitAt ∈ pr_AL := pr_in_pr_A7 _ (List.mem_of_getElem? (i := 4) (by decide +kernel))
theorem pr_w285 : Cond.methodLink RX8 54 yX8_isSettingValue ∈ pr_AL := pr_in_pr_A7 _ (List.mem_of_getElem? (i := 5) (by decide +kernel))
theorem pr_w286 : Cond.static yX8_isSettingValue ∈ pr_AL := pr_in_pr_A7 _ (List.mem_of_getElem? (i := 6) (by decide +kernel))
theorem pr_w287 : Cond.methodLink RX8 58 yX8_isPlace ∈ pr_AL := pr_in_pr_A7 _ (List.mem_of_getElem? (i := 7) (by decide +kernel))
theorem pr_w288 : Cond.static yX8_isPlace ∈ pr_AL := pr_in_pr_A7 _ (List.mem_of_getElem? (i := 8) (by decide +kernel))
theorem pr_w289 : Cond.methodLink RX8 63 yX7_setting ∈ pr_AL := pr_in_pr_A7 _ (List.mem_of_getElem? (i := 9) (by decide +kernel))
theorem pr_w290 : Cond.methodLink RX8 69 yX7_changeSetting ∈ pr_AL := pr_in_pr_A7 _ (List.mem_of_getElem? (i := 10) (by decide +kernel))
theorem pr_w291 : Cond.instanceMethod yX7_changeSetting ∈ pr_AL := pr_in_pr_A7 _ (List.mem_of_getElem? (i := 11) (by decide +kernel))
theorem pr_w292 : Cond.selects RX7 yX7_changeSetting yX7_changeSetting ∈ pr_AL := pr_in_pr_A7 _ (List.mem_of_getElem? (i := 12) (by decide +kernel))
theorem pr_w293 : Cond.code yX8_set cX8_set 6 (some .int) ∈ pr_AL := pr_in_pr_A7 _ (List.mem_of_getElem? (i := 13) (by decide +kernel))
theorem pr_w294 : Cond.code yX8_get cX8_get 4 (some .int) ∈ pr_AL := pr_in_pr_A7 _ (List.mem_of_getElem? (i := 14) (by decide +kernel))
theorem pr_w295 : Cond.fieldLink RX8 73 "PrintRegister" "MOST_BY_HAND" "[I" ∈ pr_AL := pr_in_pr_A7 _ (List.mem_of_getElem? (i := 15) (by decide +kernel))
theorem pr_w296 : Cond.methodLink RX8 81 yX4_byHand ∈ pr_AL := pr_in_pr_A7 _ (List.mem_of_getElem? (i := 16) (by decide +kernel))
theorem pr_w297 : Cond.instanceMethod yX4_byHand ∈ pr_AL := pr_in_pr_A7 _ (List.mem_of_getElem? (i := 17) (by decide +kernel))
theorem pr_w298 : Cond.selects RX4 yX4_byHand yX4_byHand ∈ pr_AL := pr_in_pr_A7 _ (List.mem_of_getElem? (i := 18) (by decide +kernel))
theorem pr_w299 : Cond.methodLink RX8 86 yX4_changeByHand ∈ pr_AL := pr_in_pr_A7 _ (List.mem_of_getElem? (i := 19) (by decide +kernel))
theorem pr_w300 : Cond.instanceMethod yX4_changeByHand ∈ pr_AL := pr_in_pr_A7 _ (List.mem_of_getElem? (i := 20) (by decide +kernel))
theorem pr_w301 : Cond.selects RX4 yX4_changeByHand yX4_changeByHand ∈ pr_AL := pr_in_pr_A7 _ (List.mem_of_getElem? (i := 21) (by decide +kernel))
theorem pr_w302 : Cond.code yX8_adjust cX8_adjust 6 (some .int) ∈ pr_AL := pr_in_pr_A7 _ (List.mem_of_getElem? (i := 22) (by decide +kernel))
theorem pr_w303 : Cond.code yX8_speed cX8_speed 3 (some .int) ∈ pr_AL := pr_in_pr_A7 _ (List.mem_of_getElem? (i := 23) (by decide +kernel))
theorem pr_w304 : Cond.code yX8_isDisturbance cX8_isDisturbance 2 (some .boolean) ∈ pr_AL := pr_in_pr_A7 _ (List.mem_of_getElem? (i := 24) (by decide +kernel))
theorem pr_w305 : Cond.methodLink RX8 104 yX8_isDisturbance ∈ pr_AL := pr_in_pr_A7 _ (List.mem_of_getElem? (i := 25) (by decide +kernel))
theorem pr_w306 : Cond.static yX8_isDisturbance ∈ pr_AL := pr_in_pr_A7 _ (List.mem_of_getElem? (i := 26) (by decide +kernel))
theorem pr_w307 : Cond.methodLink RX8 107 yX4_beDisturbed ∈ pr_AL := pr_in_pr_A7 _ (List.mem_of_getElem? (i := 27) (by decide +kernel))
theorem pr_w308 : Cond.code yX8_disturb cX8_disturb 5 (some .int) ∈ pr_AL := pr_in_pr_A7 _ (List.mem_of_getElem? (i := 28) (by decide +kernel))
theorem pr_w309 : Cond.code yX8_hide cX8_hide 5 (some .int) ∈ pr_AL := pr_in_pr_A7 _ (List.mem_of_getElem? (i := 29) (by decide +kernel))
theorem pr_w310 : Cond.code yX8_falseMark cX8_falseMark 6 (some .int) ∈ pr_AL := pr_in_pr_A7 _ (List.mem_of_getElem? (i := 30) (by decide +kernel))
theorem pr_w311 : Cond.methodLink RX8 125 yX3_startSplice ∈ pr_AL := pr_in_pr_A7 _ (List.mem_of_getElem? (i := 31) (by decide +kernel))
theorem pr_w312 : Cond.instanceMethod yX3_startSplice ∈ pr_AL := pr_in_pr_A7 _ (List.mem_of_getElem? (i := 32) (by decide +kernel))
theorem pr_w313 : Cond.selects RX3 yX3_startSplice yX3_startSplice ∈ pr_AL := pr_in_pr_A7 _ (List.mem_of_getElem? (i := 33) (by decide +kernel))
theorem pr_w314 : Cond.methodLink RX8 128 yX3_repeatsToLastUnit ∈ pr_AL := pr_in_pr_A7 _ (List.mem_of_getElem? (i := 34) (by decide +kernel))
theorem pr_w315 : Cond.instanceMethod yX3_repeatsToLastUnit ∈ pr_AL := pr_in_pr_A7 _ (List.mem_of_getElem? (i := 35) (by decide +kernel))
theorem pr_w316 : Cond.selects RX3 yX3_repeatsToLastUnit yX3_repeatsToLastUnit ∈ pr_AL := pr_in_pr_A7 _ (List.mem_of_getElem? (i := 36) (by decide +kernel))
theorem pr_w317 : Cond.code yX8_splice cX8_splice 3 (some .int) ∈ pr_AL := pr_in_pr_A7 _ (List.mem_of_getElem? (i := 37) (by decide +kernel))
theorem pr_w318 : Cond.constant RX8 132 (100000) ∈ pr_AL := pr_in_pr_A7 _ (List.mem_of_getElem? (i := 38) (by decide +kernel))
theorem pr_w319 : Cond.methodLink RX8 133 yX3_makeRepeat ∈ pr_AL := pr_in_pr_A7 _ (List.mem_of_getElem? (i := 39) (by decide +kernel))
theorem pr_w320 : Cond.instanceMethod yX3_makeRepeat ∈ pr_AL := pr_in_pr_A8 _ (List.mem_of_getElem? (i := 0) (by decide +kernel))
theorem pr_w321 : Cond.selects RX3 yX3_makeRepeat yX3_makeRepeat ∈ pr_AL := pr_in_pr_A8 _ (List.mem_of_getElem? (i := 1) (by decide +kernel))
theorem pr_w322 : Cond.code yX8_run cX8_run 3 (some .int) ∈ pr_AL := pr_in_pr_A8 _ (List.mem_of_getElem? (i := 2) (by decide +kernel))
theorem pr_w323 : Cond.constant RX8 152 (-1000000006) ∈ pr_AL := pr_in_pr_A8 _ (List.mem_of_getElem? (i := 3) (by decide +kernel))
theorem pr_w324 : Cond.methodLink RX8 136 yX4_offsetAt ∈ pr_AL := pr_in_pr_A8 _ (List.mem_of_getElem? (i := 4) (by decide +kernel))
theorem pr_w325 : Cond.methodLink RX8 139 yX4_skewAt ∈ pr_AL := pr_in_pr_A8 _ (List.mem_of_getElem? (i := 5) (by decide +kernel))
theorem pr_w326 : Cond.methodLink RX8 149 yX5_sight ∈ pr_AL := pr_in_pr_A8 _ (List.mem_of_getElem? (i := 6) (by decide +kernel))
theorem pr_w327 : Cond.instanceMethod yX5_sight ∈ pr_AL := pr_in_pr_A8 _ (List.mem_of_getElem? (i := 7) (by decide +kernel))
theorem pr_w328 : Cond.selects RX5 yX5_sight yX5_sight ∈ pr_AL := pr_in_pr_A8 _ (List.mem_of_getElem? (i := 8) (by decide +kernel))
theorem pr_w329 : Cond.code yX8_seen cX8_seen 6 (some .int) ∈ pr_AL := pr_in_pr_A8 _ (List.mem_of_getElem? (i := 9) (by decide +kernel))
theorem pr_w330 : Cond.methodLink RX8 174 yX3_wayOf ∈ pr_AL := pr_in_pr_A8 _ (List.mem_of_getElem? (i := 10) (by decide +kernel))
theorem pr_w331 : Cond.code yX8_state cX8_state 4 (some .int) ∈ pr_AL := pr_in_pr_A8 _ (List.mem_of_getElem? (i := 11) (by decide +kernel))
theorem pr_w332 : Cond.methodLink RX8 177 yX3_controlledUnitAt ∈ pr_AL := pr_in_pr_A8 _ (List.mem_of_getElem? (i := 12) (by decide +kernel))
theorem pr_w333 : Cond.instanceMethod yX3_controlledUnitAt ∈ pr_AL := pr_in_pr_A8 _ (List.mem_of_getElem? (i := 13) (by decide +kernel))
theorem pr_w334 : Cond.selects RX3 yX3_controlledUnitAt yX3_controlledUnitAt ∈ pr_AL := pr_in_pr_A8 _ (List.mem_of_getElem? (i := 14) (by decide +kernel))
theorem pr_w335 : Cond.methodLink RX8 184 yX1_greatest ∈ pr_AL := pr_in_pr_A8 _ (List.mem_of_getElem? (i := 15) (by decide +kernel))
theorem pr_w336 : Cond.instanceMethod yX1_greatest ∈ pr_AL := pr_in_pr_A8 _ (List.mem_of_getElem? (i := 16) (by decide +kernel))
theorem pr_w337 : Cond.selects RX1 yX1_greatest yX1_greatest ∈ pr_AL := pr_in_pr_A8 _ (List.mem_of_getElem? (i := 17) (by decide +kernel))
theorem pr_w338 : Cond.methodLink RX8 189 yX1_sumOf ∈ pr_AL := pr_in_pr_A8 _ (List.mem_of_getElem? (i := 18) (by decide +kernel))
theorem pr_w339 : Cond.instanceMethod yX1_sumOf ∈ pr_AL := pr_in_pr_A8 _ (List.mem_of_getElem? (i := 19) (by decide +kernel))
theorem pr_w340 : Cond.selects RX1 yX1_sumOf yX1_sumOf ∈ pr_AL := pr_in_pr_A8 _ (List.mem_of_getElem? (i := 20) (by decide +kernel))
theorem pr_w341 : Cond.methodLink RX8 192 yX1_kept ∈ pr_AL := pr_in_pr_A8 _ (List.mem_of_getElem? (i := 21) (by decide +kernel))
theorem pr_w342 : Cond.methodLink RX8 195 yX1_greaterThan ∈ pr_AL := pr_in_pr_A8 _ (List.mem_of_getElem? (i := 22) (by decide +kernel))
theorem pr_w343 : Cond.instanceMethod yX1_greaterThan ∈ pr_AL := pr_in_pr_A8 _ (List.mem_of_getElem? (i := 23) (by decide +kernel))
theorem pr_w344 : Cond.selects RX1 yX1_greaterThan yX1_greaterThan ∈ pr_AL := pr_in_pr_A8 _ (List.mem_of_getElem? (i := 24) (by decide +kernel))
theorem pr_w345 : Cond.code yX8_errors cX8_errors 6 (some .int) ∈ pr_AL := pr_in_pr_A8 _ (List.mem_of_getElem? (i := 25) (by decide +kernel))
theorem pr_w346 : Cond.code yX8_total cX8_total 2 (some .int) ∈ pr_AL := pr_in_pr_A8 _ (List.mem_of_getElem? (i := 26) (by decide +kernel))
theorem pr_w347 : Cond.code yX8_count cX8_count 2 (some .int) ∈ pr_AL := pr_in_pr_A8 _ (List.mem_of_getElem? (i := 27) (by decide +kernel))
theorem pr_w348 : Cond.code yJ9_abs_0f7a4 cJ9_abs_0f7a4 1 (some .int) ∈ pr_AL := pr_in_pr_A8 _ (List.mem_of_getElem? (i := 28) (by decide +kernel))
theorem pr_w349 : Cond.code yJ9_max_7cf53 cJ9_max_7cf53 2 (some .int) ∈ pr_AL := pr_in_pr_A8 _ (List.mem_of_getElem? (i := 29) (by decide +kernel))
theorem pr_w350 : Cond.code yJ9_min_7cf53 cJ9_min_7cf53 2 (some .int) ∈ pr_AL := pr_in_pr_A8 _ (List.mem_of_getElem? (i := 30) (by decide +kernel))
theorem pr_w351 : Cond.code yL_cell cL_cell 3 (some .int) ∈ pr_AL := pr_in_pr_A8 _ (List.mem_of_getElem? (i := 31) (by decide +kernel))
theorem pr_w352 : Cond.constant RL 7 (4194303) ∈ pr_AL := pr_in_pr_A8 _ (List.mem_of_getElem? (i := 32) (by decide +kernel))
theorem pr_w353 : Cond.code yL_limited cL_limited 2 (some .int) ∈ pr_AL := pr_in_pr_A8 _ (List.mem_of_getElem? (i := 33) (by decide +kernel))
theorem pr_w354 : Cond.code yL_size cL_size 1 (some .int) ∈ pr_AL := pr_in_pr_A8 _ (List.mem_of_getElem? (i := 34) (by decide +kernel))
theorem pr_w355 : Cond.methodLink RL 8 yX8_state ∈ pr_AL := pr_in_pr_A8 _ (List.mem_of_getElem? (i := 35) (by decide +kernel))
theorem pr_w356 : Cond.instanceMethod yX8_state ∈ pr_AL := pr_in_pr_A8 _ (List.mem_of_getElem? (i := 36) (by decide +kernel))
theorem pr_w357 : Cond.selects RX8 yX8_state yX8_state ∈ pr_AL := pr_in_pr_A8 _ (List.mem_of_getElem? (i := 37) (by decide +kernel))
theorem pr_w358 : Cond.code yL_lay cL_lay 4 none ∈ pr_AL := pr_in_pr_A8 _ (List.mem_of_getElem? (i := 38) (by decide +kernel))
theorem pr_w359 : Cond.code yL_value cL_value 2 (some .int) ∈ pr_AL := pr_in_pr_A8 _ (List.mem_of_getElem? (i := 39) (by decide +kernel))
theorem pr_w360 : Cond.methodLink RL 16 yL_value ∈ pr_AL := pr_in_pr_A9 _ (List.mem_of_getElem? (i := 0) (by decide +kernel))
theorem pr_w361 : Cond.static yL_value ∈ pr_AL := pr_in_pr_A9 _ (List.mem_of_getElem? (i := 1) (by decide +kernel))
theorem pr_w362 : Cond.initialized RL ∈ pr_AL := pr_in_pr_A9 _ (List.mem_of_getElem? (i := 2) (by decide +kernel))
theorem pr_w363 : Cond.methodLink RL 20 yX8_get ∈ pr_AL := pr_in_pr_A9 _ (List.mem_of_getElem? (i := 3) (by decide +kernel))
theorem pr_w364 : Cond.instanceMethod yX8_get ∈ pr_AL := pr_in_pr_A9 _ (List.mem_of_getElem? (i := 4) (by decide +kernel))
theorem pr_w365 : Cond.selects RX8 yX8_get yX8_get ∈ pr_AL := pr_in_pr_A9 _ (List.mem_of_getElem? (i := 5) (by decide +kernel))
theorem pr_w366 : Cond.methodLink RL 23 yX8_seen ∈ pr_AL := pr_in_pr_A9 _ (List.mem_of_getElem? (i := 6) (by decide +kernel))
theorem pr_w367 : Cond.instanceMethod yX8_seen ∈ pr_AL := pr_in_pr_A9 _ (List.mem_of_getElem? (i := 7) (by decide +kernel))
theorem pr_w368 : Cond.selects RX8 yX8_seen yX8_seen ∈ pr_AL := pr_in_pr_A9 _ (List.mem_of_getElem? (i := 8) (by decide +kernel))
theorem pr_w369 : Cond.code yL_isPrinted cL_isPrinted 8 (some .boolean) ∈ pr_AL := pr_in_pr_A9 _ (List.mem_of_getElem? (i := 9) (by decide +kernel))
theorem pr_w370 : Cond.constant RL 30 (-1000000006) ∈ pr_AL := pr_in_pr_A9 _ (List.mem_of_getElem? (i := 10) (by decide +kernel))
theorem pr_w371 : Cond.methodLink RL 26 yL_size ∈ pr_AL := pr_in_pr_A9 _ (List.mem_of_getElem? (i := 11) (by decide +kernel))
theorem pr_w372 : Cond.static yL_size ∈ pr_AL := pr_in_pr_A9 _ (List.mem_of_getElem? (i := 12) (by decide +kernel))
theorem pr_w373 : Cond.methodLink RL 31 yL_limited ∈ pr_AL := pr_in_pr_A9 _ (List.mem_of_getElem? (i := 13) (by decide +kernel))
theorem pr_w374 : Cond.static yL_limited ∈ pr_AL := pr_in_pr_A9 _ (List.mem_of_getElem? (i := 14) (by decide +kernel))
theorem pr_w375 : Cond.code yL_isSeen cL_isSeen 21 (some .boolean) ∈ pr_AL := pr_in_pr_A9 _ (List.mem_of_getElem? (i := 15) (by decide +kernel))
theorem pr_w376 : Cond.code yL_isPassed cL_isPassed 5 (some .boolean) ∈ pr_AL := pr_in_pr_A9 _ (List.mem_of_getElem? (i := 16) (by decide +kernel))
theorem pr_w377 : Cond.methodLink RL 34 yL_cell ∈ pr_AL := pr_in_pr_A9 _ (List.mem_of_getElem? (i := 17) (by decide +kernel))
theorem pr_w378 : Cond.static yL_cell ∈ pr_AL := pr_in_pr_A9 _ (List.mem_of_getElem? (i := 18) (by decide +kernel))
theorem pr_w379 : Cond.methodLink RL 38 yX8_set ∈ pr_AL := pr_in_pr_A9 _ (List.mem_of_getElem? (i := 19) (by decide +kernel))
theorem pr_w380 : Cond.instanceMethod yX8_set ∈ pr_AL := pr_in_pr_A9 _ (List.mem_of_getElem? (i := 20) (by decide +kernel))
theorem pr_w381 : Cond.selects RX8 yX8_set yX8_set ∈ pr_AL := pr_in_pr_A9 _ (List.mem_of_getElem? (i := 21) (by decide +kernel))
theorem pr_w382 : Cond.methodLink RL 42 yX8_adjust ∈ pr_AL := pr_in_pr_A9 _ (List.mem_of_getElem? (i := 22) (by decide +kernel))
theorem pr_w383 : Cond.instanceMethod yX8_adjust ∈ pr_AL := pr_in_pr_A9 _ (List.mem_of_getElem? (i := 23) (by decide +kernel))
theorem pr_w384 : Cond.selects RX8 yX8_adjust yX8_adjust ∈ pr_AL := pr_in_pr_A9 _ (List.mem_of_getElem? (i := 24) (by decide +kernel))
theorem pr_w385 : Cond.code yL_settings cL_settings 4 none ∈ pr_AL := pr_in_pr_A9 _ (List.mem_of_getElem? (i := 25) (by decide +kernel))
theorem pr_w386 : Cond.code yL_comes cL_comes 6 none ∈ pr_AL := pr_in_pr_A9 _ (List.mem_of_getElem? (i := 26) (by decide +kernel))
theorem pr_w387 : Cond.classLink RL 9 RX8 ∈ pr_AL := pr_in_pr_A9 _ (List.mem_of_getElem? (i := 27) (by decide +kernel))
theorem pr_w388 : Cond.instantiable RX8 5 ∈ pr_AL := pr_in_pr_A9 _ (List.mem_of_getElem? (i := 28) (by decide +kernel))
theorem pr_w389 : Cond.constant RL 100 (-1000000001) ∈ pr_AL := pr_in_pr_A9 _ (List.mem_of_getElem? (i := 29) (by decide +kernel))
theorem pr_w390 : Cond.methodLink RL 45 yX8_init ∈ pr_AL := pr_in_pr_A9 _ (List.mem_of_getElem? (i := 30) (by decide +kernel))
theorem pr_w391 : Cond.instanceMethod yX8_init ∈ pr_AL := pr_in_pr_A9 _ (List.mem_of_getElem? (i := 31) (by decide +kernel))
theorem pr_w392 : Cond.methodLink RL 46 yX8_setUp ∈ pr_AL := pr_in_pr_A9 _ (List.mem_of_getElem? (i := 32) (by decide +kernel))
theorem pr_w393 : Cond.instanceMethod yX8_setUp ∈ pr_AL := pr_in_pr_A9 _ (List.mem_of_getElem? (i := 33) (by decide +kernel))
theorem pr_w394 : Cond.selects RX8 yX8_setUp yX8_setUp ∈ pr_AL := pr_in_pr_A9 _ (List.mem_of_getElem? (i := 34) (by decide +kernel))
theorem pr_w395 : Cond.methodLink RL 49 yL_settings ∈ pr_AL := pr_in_pr_A9 _ (List.mem_of_getElem? (i := 35) (by decide +kernel))
theorem pr_w396 : Cond.static yL_settings ∈ pr_AL := pr_in_pr_A9 _ (List.mem_of_getElem? (i := 36) (by decide +kernel))
theorem pr_w397 : Cond.methodLink RL 53 yX8_speed ∈ pr_AL := pr_in_pr_A9 _ (List.mem_of_getElem? (i := 37) (by decide +kernel))
theorem pr_w398 : Cond.instanceMethod yX8_speed ∈ pr_AL := pr_in_pr_A9 _ (List.mem_of_getElem? (i := 38) (by decide +kernel))
theorem pr_w399 : Cond.selects RX8 yX8_speed yX8_speed ∈ pr_AL := pr_in_pr_A9 _ (List.mem_of_getElem? (i := 39) (by decide +kernel))
theorem pr_w400 : Cond.methodLink RL 56 yX8_disturb ∈ pr_AL := pr_in_pr_A10 _ (List.mem_of_getElem? (i := 0) (by decide +kernel))
theorem pr_w401 : Cond.instanceMethod yX8_disturb ∈ pr_AL := pr_in_pr_A10 _ (List.mem_of_getElem? (i := 1) (by decide +kernel))
theorem pr_w402 : Cond.selects RX8 yX8_disturb yX8_disturb ∈ pr_AL := pr_in_pr_A10 _ (List.mem_of_getElem? (i := 2) (by decide +kernel))
theorem pr_w403 : Cond.methodLink RL 59 yX8_hide ∈ pr_AL := pr_in_pr_A10 _ (List.mem_of_getElem? (i := 3) (by decide +kernel))
theorem pr_w404 : Cond.instanceMethod yX8_hide ∈ pr_AL := pr_in_pr_A10 _ (List.mem_of_getElem? (i := 4) (by decide +kernel))
theorem pr_w405 : Cond.selects RX8 yX8_hide yX8_hide ∈ pr_AL := pr_in_pr_A10 _ (List.mem_of_getElem? (i := 5) (by decide +kernel))
theorem pr_w406 : Cond.methodLink RL 62 yX8_falseMark ∈ pr_AL := pr_in_pr_A10 _ (List.mem_of_getElem? (i := 6) (by decide +kernel))
theorem pr_w407 : Cond.instanceMethod yX8_falseMark ∈ pr_AL := pr_in_pr_A10 _ (List.mem_of_getElem? (i := 7) (by decide +kernel))
theorem pr_w408 : Cond.selects RX8 yX8_falseMark yX8_falseMark ∈ pr_AL := pr_in_pr_A10 _ (List.mem_of_getElem? (i := 8) (by decide +kernel))
theorem pr_w409 : Cond.methodLink RL 65 yX8_splice ∈ pr_AL := pr_in_pr_A10 _ (List.mem_of_getElem? (i := 9) (by decide +kernel))
theorem pr_w410 : Cond.instanceMethod yX8_splice ∈ pr_AL := pr_in_pr_A10 _ (List.mem_of_getElem? (i := 10) (by decide +kernel))
theorem pr_w411 : Cond.selects RX8 yX8_splice yX8_splice ∈ pr_AL := pr_in_pr_A10 _ (List.mem_of_getElem? (i := 11) (by decide +kernel))
theorem pr_w412 : Cond.methodLink RL 68 yL_lay ∈ pr_AL := pr_in_pr_A10 _ (List.mem_of_getElem? (i := 12) (by decide +kernel))
theorem pr_w413 : Cond.static yL_lay ∈ pr_AL := pr_in_pr_A10 _ (List.mem_of_getElem? (i := 13) (by decide +kernel))
theorem pr_w414 : Cond.methodLink RL 72 yX8_count ∈ pr_AL := pr_in_pr_A10 _ (List.mem_of_getElem? (i := 14) (by decide +kernel))
theorem pr_w415 : Cond.instanceMethod yX8_count ∈ pr_AL := pr_in_pr_A10 _ (List.mem_of_getElem? (i := 15) (by decide +kernel))
theorem pr_w416 : Cond.selects RX8 yX8_count yX8_count ∈ pr_AL := pr_in_pr_A10 _ (List.mem_of_getElem? (i := 16) (by decide +kernel))
theorem pr_w417 : Cond.methodLink RL 75 yL_comes ∈ pr_AL := pr_in_pr_A10 _ (List.mem_of_getElem? (i := 17) (by decide +kernel))
theorem pr_w418 : Cond.static yL_comes ∈ pr_AL := pr_in_pr_A10 _ (List.mem_of_getElem? (i := 18) (by decide +kernel))
theorem pr_w419 : Cond.methodLink RL 79 yX8_run ∈ pr_AL := pr_in_pr_A10 _ (List.mem_of_getElem? (i := 19) (by decide +kernel))
theorem pr_w420 : Cond.instanceMethod yX8_run ∈ pr_AL := pr_in_pr_A10 _ (List.mem_of_getElem? (i := 20) (by decide +kernel))
theorem pr_w421 : Cond.selects RX8 yX8_run yX8_run ∈ pr_AL := pr_in_pr_A10 _ (List.mem_of_getElem? (i := 21) (by decide +kernel))
theorem pr_w422 : Cond.methodLink RL 82 yL_isPrinted ∈ pr_AL := pr_in_pr_A10 _ (List.mem_of_getElem? (i := 22) (by decide +kernel))
theorem pr_w423 : Cond.static yL_isPrinted ∈ pr_AL := pr_in_pr_A10 _ (List.mem_of_getElem? (i := 23) (by decide +kernel))
theorem pr_w424 : Cond.methodLink RL 86 yL_isSeen ∈ pr_AL := pr_in_pr_A10 _ (List.mem_of_getElem? (i := 24) (by decide +kernel))
theorem pr_w425 : Cond.static yL_isSeen ∈ pr_AL := pr_in_pr_A10 _ (List.mem_of_getElem? (i := 25) (by decide +kernel))
theorem pr_w426 : Cond.methodLink RL 90 yL_isPassed ∈ pr_AL := pr_in_pr_A10 _ (List.mem_of_getElem? (i := 26) (by decide +kernel))
theorem pr_w427 : Cond.static yL_isPassed ∈ pr_AL := pr_in_pr_A10 _ (List.mem_of_getElem? (i := 27) (by decide +kernel))
theorem pr_w428 : Cond.methodLink RL 94 yX8_errors ∈ pr_AL := pr_in_pr_A10 _ (List.mem_of_getElem? (i := 28) (by decide +kernel))
theorem pr_w429 : Cond.instanceMethod yX8_errors ∈ pr_AL := pr_in_pr_A10 _ (List.mem_of_getElem? (i := 29) (by decide +kernel))
theorem pr_w430 : Cond.selects RX8 yX8_errors yX8_errors ∈ pr_AL := pr_in_pr_A10 _ (List.mem_of_getElem? (i := 30) (by decide +kernel))
theorem pr_w431 : Cond.methodLink RL 97 yX8_total ∈ pr_AL := pr_in_pr_A10 _ (List.mem_of_getElem? (i := 31) (by decide +kernel))
theorem pr_w432 : Cond.instanceMethod yX8_total ∈ pr_AL := pr_in_pr_A10 _ (List.mem_of_getElem? (i := 32) (by decide +kernel))
theorem pr_w433 : Cond.selects RX8 yX8_total yX8_total ∈ pr_AL := pr_in_pr_A10 _ (List.mem_of_getElem? (i := 33) (by decide +kernel))
def pr_NF : List (String × Nat × String × String × String) := [("PrintRegister$Unit", 118, "PrintRegister$Printer", "phase", "I"), ("PrintRegister$Unit", 121, "PrintRegister$Printer", "skewSetting", "I"), ("PrintRegister", 171, "PrintRegister$Printer", "disturbanceLeft", "I"), ("PrintRegister$Unit", 127, "PrintRegister$Printer", "disturbanceLeft", "I"), ("PrintRegister$Unit", 77, "PrintRegister$Controller", "feed", "I"), ("PrintRegister", 93, "PrintRegister$Controller", "feed", "I"), ("PrintRegister$Unit", 66, "PrintRegister$Controller", "sum", "I"), ("PrintRegister", 153, "PrintRegister$Controller", "sum", "I"), ("PrintRegister$Press", 158, "PrintRegister$Controller", "wait", "I"), ("PrintRegister", 156, "PrintRegister$Controller", "wait", "I"), ("PrintRegister$Unit", 100, "PrintRegister$Controller", "misses", "I"), ("PrintRegister", 159, "PrintRegister$Controller", "misses", "I"), ("PrintRegister$Unit", 74, "PrintRegister$Controller", "readyTime", "I"), ("PrintRegister", 162, "PrintRegister$Controller", "readyTime", "I"), ("PrintRegister$Unit", 83, "PrintRegister$Controller", "expectedError", "I"), ("PrintRegister", 165, "PrintRegister$Controller", "expectedError", "I"), ("PrintRegister$Unit", 86, "PrintRegister$Controller", "expectedSkew", "I"), ("PrintRegister", 168, "PrintRegister$Controller", "expectedSkew", "I"), ("PrintRegister$Press", 176, "PrintRegister$Controller", "addedPhase", "I"), ("PrintRegister$Press", 182, "PrintRegister$Controller", "addedSkew", "I"), ("PrintRegister", 180, "PrintRegister$Sensor", "log", "LPrintRegister$ErrorLog;"), ("PrintRegister", 114, "PrintRegister$Sensor", "hiddenLeft", "I"), ("PrintRegister$Unit", 133, "PrintRegister$Sensor", "hiddenLeft", "I"), ("PrintRegister", 122, "PrintRegister$Sensor", "falseOffset", "I"), ("PrintRegister", 119, "PrintRegister$Sensor", "falseLeft", "I"), ("PrintRegister$Unit", 136, "PrintRegister$Sensor", "falseLeft", "I"), ("PrintRegister", 142, "PrintRegister$Sensor", "sawPiece", "Z"), ("PrintRegister$Unit", 97, "PrintRegister$Sensor", "recognized", "I"), ("PrintRegister$Press", 141, "PrintRegister$Sensor", "recognized", "I"), ("PrintRegister", 146, "PrintRegister$Sensor", "recognized", "I"), ("PrintRegister$Unit", 108, "PrintRegister$Sensor", "offset", "I"), ("PrintRegister$Press", 163, "PrintRegister$Sensor", "offset", "I"), ("PrintRegister$Unit", 115, "PrintRegister$Sensor", "skew", "I"), ("PrintRegister$Press", 169, "PrintRegister$Sensor", "skew", "I"), ("PrintRegister", 77, "PrintRegister$Unit", "printer", "LPrintRegister$Printer;"), ("PrintRegister$Press", 122, "PrintRegister$Unit", "printer", "LPrintRegister$Printer;"), ("PrintRegister$Press", 154, "PrintRegister$Unit", "controller", "LPrintRegister$Controller;"), ("PrintRegister", 89, "PrintRegister$Unit", "controller", "LPrintRegister$Controller;"), ("PrintRegister", 110, "PrintRegister$Unit", "sensor", "LPrintRegister$Sensor;"), ("PrintRegister$Press", 77, "PrintRegister$Unit", "sensor", "LPrintRegister$Sensor;"), ("PrintRegister", 199, "PrintRegister$Press", "totals", "[I"), ("PrintRegister", 240, "PrintRegister$Press", "unitCount", "I"), ("PrintRegister", 45, "PrintRegister$Press", "time", "I"), ("PrintRegister", 101, "PrintRegister$Press", "speedNow", "I"), ("PrintRegister", 217, "PrintRegister$Pad", "length", "I"), ("PrintRegister$Unit", 36, "PrintRegister", "FIRST_SETTINGS", "[I")]
def pr_NM : List (String × Nat × MethodName) := [("PrintRegister$Press", 24, ⟨"PrintRegister$Unit", "<init>", "()V"⟩), ("PrintRegister$Unit", 17, ⟨"PrintRegister$Printer", "<init>", "()V"⟩), ("PrintRegister$Unit", 24, ⟨"PrintRegister$Controller", "<init>", "()V"⟩), ("PrintRegister$Unit", 31, ⟨"PrintRegister$Sensor", "<init>", "()V"⟩), ("PrintRegister$Sensor", 11, ⟨"PrintRegister$ErrorLog", "<init>", "()V"⟩), ("PrintRegister", 21, ⟨"PrintRegister$Slot", "<init>", "()V"⟩), ("PrintRegister", 31, ⟨"PrintRegister$Pad", "<init>", "()V"⟩), ("PrintRegister$Unit", 111, ⟨"PrintRegister", "limited", "(II)I"⟩), ("PrintRegister$Controller", 37, ⟨"PrintRegister", "lessOne", "(I)I"⟩), ("PrintRegister$Unit", 130, ⟨"PrintRegister", "lessOne", "(I)I"⟩)]
def pr_NW : List Cond := pr_NF.map (fun q => .fieldLinkNest q.1 q.2.1 q.2.2.1 q.2.2.2.1 q.2.2.2.2 "PrintRegister") ++ pr_NM.map (fun q => .methodLinkNest q.1 q.2.1 q.2.2 "PrintRegister")
theorem pr_nf0 : Cond.fieldLinkNest RX7 118 "PrintRegister$Printer" "phase" "I" "PrintRegister" ∈ pr_NW := List.mem_append_left _ (List.mem_map.mpr ⟨("PrintRegister$Unit", 118, "PrintRegister$Printer", "phase", "I"), List.mem_of_getElem? (i := 0) (by decide +kernel), rfl⟩)
theorem pr_nf1 : Cond.fieldLinkNest RX7 121 "PrintRegister$Printer" "skewSetting" "I" "PrintRegister" ∈ pr_NW := List.mem_append_left _ (List.mem_map.mpr ⟨("PrintRegister$Unit", 121, "PrintRegister$Printer", "skewSetting", "I"), List.mem_of_getElem? (i := 1) (by decide +kernel), rfl⟩)
theorem pr_nf2 : Cond.fieldLinkNest RX8 171 "PrintRegister$Printer" "disturbanceLeft" "I" "PrintRegister" ∈ pr_NW := List.mem_append_left _ (List.mem_map.mpr ⟨("PrintRegister", 171, "PrintRegister$Printer", "disturbanceLeft", "I"), List.mem_of_getElem? (i := 2) (by decide +kernel), rfl⟩)
theorem pr_nf3 : Cond.fieldLinkNest RX7 127 "PrintRegister$Printer" "disturbanceLeft" "I" "PrintRegister" ∈ pr_NW := List.mem_append_left _ (List.mem_map.mpr ⟨("PrintRegister$Unit", 127, "PrintRegister$Printer", "disturbanceLeft", "I"), List.mem_of_getElem? (i := 3) (by decide +kernel), rfl⟩)
theorem pr_nf4 : Cond.fieldLinkNest RX7 77 "PrintRegister$Controller" "feed" "I" "PrintRegister" ∈ pr_NW := List.mem_append_left _ (List.mem_map.mpr ⟨("PrintRegister$Unit", 77, "PrintRegister$Controller", "feed", "I"), List.mem_of_getElem? (i := 4) (by decide +kernel), rfl⟩)
theorem pr_nf5 : Cond.fieldLinkNest RX8 93 "PrintRegister$Controller" "feed" "I" "PrintRegister" ∈ pr_NW := List.mem_append_left _ (List.mem_map.mpr ⟨("PrintRegister", 93, "PrintRegister$Controller", "feed", "I"), List.mem_of_getElem? (i := 5) (by decide +kernel), rfl⟩)
theorem pr_nf6 : Cond.fieldLinkNest RX7 66 "PrintRegister$Controller" "sum" "I" "PrintRegister" ∈ pr_NW := List.mem_append_left _ (List.mem_map.mpr ⟨("PrintRegister$Unit", 66, "PrintRegister$Controller", "sum", "I"), List.mem_of_getElem? (i := 6) (by decide +kernel), rfl⟩)
theorem pr_nf7 : Cond.fieldLinkNest RX8 153 "PrintRegister$Controller" "sum" "I" "PrintRegister" ∈ pr_NW := List.mem_append_left _ (List.mem_map.mpr ⟨("PrintRegister", 153, "PrintRegister$Controller", "sum", "I"), List.mem_of_getElem? (i := 7) (by decide +kernel), rfl⟩)
theorem pr_nf8 : Cond.fieldLinkNest RX3 158 "PrintRegister$Controller" "wait" "I" "PrintRegister" ∈ pr_NW := List.mem_append_left _ (List.mem_map.mpr ⟨("PrintRegister$Press", 158, "PrintRegister$Controller", "wait", "I"), List.mem_of_getElem? (i := 8) (by decide +kernel), rfl⟩)
theorem pr_nf9 : Cond.fieldLinkNest RX8 156 "PrintRegister$Controller" "wait" "I" "PrintRegister" ∈ pr_NW := List.mem_append_left _ (List.mem_map.mpr ⟨("PrintRegister", 156, "PrintRegister$Controller", "wait", "I"), List.mem_of_getElem? (i := 9) (by decide +kernel), rfl⟩)
theorem pr_nf10 : Cond.fieldLinkNest RX7 100 "PrintRegister$Controller" "misses" "I" "PrintRegister" ∈ pr_NW := List.mem_append_left _ (List.mem_map.mpr ⟨("PrintRegister$Unit", 100, "PrintRegister$Controller", "misses", "I"), List.mem_of_getElem? (i := 10) (by decide +kernel), rfl⟩)
theorem pr_nf11 : Cond.fieldLinkNest RX8 159 "PrintRegister$Controller" "misses" "I" "PrintRegister" ∈ pr_NW := List.mem_append_left _ (List.mem_map.mpr ⟨("PrintRegister", 159, "PrintRegister$Controller", "misses", "I"), List.mem_of_getElem? (i := 11) (by decide +kernel), rfl⟩)
theorem pr_nf12 : Cond.fieldLinkNest RX7 74 "PrintRegister$Controller" "readyTime" "I" "PrintRegister" ∈ pr_NW := List.mem_append_left _ (List.mem_map.mpr ⟨("PrintRegister$Unit", 74, "PrintRegister$Controller", "readyTime", "I"), List.mem_of_getElem? (i := 12) (by decide +kernel), rfl⟩)
theorem pr_nf13 : Cond.fieldLinkNest RX8 162 "PrintRegister$Controller" "readyTime" "I" "PrintRegister" ∈ pr_NW := List.mem_append_left _ (List.mem_map.mpr ⟨("PrintRegister", 162, "PrintRegister$Controller", "readyTime", "I"), List.mem_of_getElem? (i := 13) (by decide +kernel), rfl⟩)
theorem pr_nf14 : Cond.fieldLinkNest RX7 83 "PrintRegister$Controller" "expectedError" "I" "PrintRegister" ∈ pr_NW := List.mem_append_left _ (List.mem_map.mpr ⟨("PrintRegister$Unit", 83, "PrintRegister$Controller", "expectedError", "I"), List.mem_of_getElem? (i := 14) (by decide +kernel), rfl⟩)
theorem pr_nf15 : Cond.fieldLinkNest RX8 165 "PrintRegister$Controller" "expectedError" "I" "PrintRegister" ∈ pr_NW := List.mem_append_left _ (List.mem_map.mpr ⟨("PrintRegister", 165, "PrintRegister$Controller", "expectedError", "I"), List.mem_of_getElem? (i := 15) (by decide +kernel), rfl⟩)
theorem pr_nf16 : Cond.fieldLinkNest RX7 86 "PrintRegister$Controller" "expectedSkew" "I" "PrintRegister" ∈ pr_NW := List.mem_append_left _ (List.mem_map.mpr ⟨("PrintRegister$Unit", 86, "PrintRegister$Controller", "expectedSkew", "I"), List.mem_of_getElem? (i := 16) (by decide +kernel), rfl⟩)
theorem pr_nf17 : Cond.fieldLinkNest RX8 168 "PrintRegister$Controller" "expectedSkew" "I" "PrintRegister" ∈ pr_NW := List.mem_append_left _ (List.mem_map.mpr ⟨("PrintRegister", 168, "PrintRegister$Controller", "expectedSkew", "I"), List.mem_of_getElem? (i := 17) (by decide +kernel), rfl⟩)
theorem pr_nf18 : Cond.fieldLinkNest RX3 176 "PrintRegister$Controller" "addedPhase" "I" "PrintRegister" ∈ pr_NW := List.mem_append_left _ (List.mem_map.mpr ⟨("PrintRegister$Press", 176, "PrintRegister$Controller", "addedPhase", "I"), List.mem_of_getElem? (i := 18) (by decide +kernel), rfl⟩)
theorem pr_nf19 : Cond.fieldLinkNest RX3 182 "PrintRegister$Controller" "addedSkew" "I" "PrintRegister" ∈ pr_NW := List.mem_append_left _ (List.mem_map.mpr ⟨("PrintRegister$Press", 182, "PrintRegister$Controller", "addedSkew", "I"), List.mem_of_getElem? (i := 19) (by decide +kernel), rfl⟩)
theorem pr_nf20 : Cond.fieldLinkNest RX8 180 "PrintRegister$Sensor" "log" "LPrintRegister$ErrorLog;" "PrintRegister" ∈ pr_NW := List.mem_append_left _ (List.mem_map.mpr ⟨("PrintRegister", 180, "PrintRegister$Sensor", "log", "LPrintRegister$ErrorLog;"), List.mem_of_getElem? (i := 20) (by decide +kernel), rfl⟩)
theorem pr_nf21 : Cond.fieldLinkNest RX8 114 "PrintRegister$Sensor" "hiddenLeft" "I" "PrintRegister" ∈ pr_NW := List.mem_append_left _ (List.mem_map.mpr ⟨("PrintRegister", 114, "PrintRegister$Sensor", "hiddenLeft", "I"), List.mem_of_getElem? (i := 21) (by decide +kernel), rfl⟩)
theorem pr_nf22 : Cond.fieldLinkNest RX7 133 "PrintRegister$Sensor" "hiddenLeft" "I" "PrintRegister" ∈ pr_NW := List.mem_append_left _ (List.mem_map.mpr ⟨("PrintRegister$Unit", 133, "PrintRegister$Sensor", "hiddenLeft", "I"), List.mem_of_getElem? (i := 22) (by decide +kernel), rfl⟩)
theorem pr_nf23 : Cond.fieldLinkNest RX8 122 "PrintRegister$Sensor" "falseOffset" "I" "PrintRegister" ∈ pr_NW := List.mem_append_left _ (List.mem_map.mpr ⟨("PrintRegister", 122, "PrintRegister$Sensor", "falseOffset", "I"), List.mem_of_getElem? (i := 23) (by decide +kernel), rfl⟩)
theorem pr_nf24 : Cond.fieldLinkNest RX8 119 "PrintRegister$Sensor" "falseLeft" "I" "PrintRegister" ∈ pr_NW := List.mem_append_left _ (List.mem_map.mpr ⟨("PrintRegister", 119, "PrintRegister$Sensor", "falseLeft", "I"), List.mem_of_getElem? (i := 24) (by decide +kernel), rfl⟩)
theorem pr_nf25 : Cond.fieldLinkNest RX7 136 "PrintRegister$Sensor" "falseLeft" "I" "PrintRegister" ∈ pr_NW := List.mem_append_left _ (List.mem_map.mpr ⟨("PrintRegister$Unit", 136, "PrintRegister$Sensor", "falseLeft", "I"), List.mem_of_getElem? (i := 25) (by decide +kernel), rfl⟩)
theorem pr_nf26 : Cond.fieldLinkNest RX8 142 "PrintRegister$Sensor" "sawPiece" "Z" "PrintRegister" ∈ pr_NW := List.mem_append_left _ (List.mem_map.mpr ⟨("PrintRegister", 142, "PrintRegister$Sensor", "sawPiece", "Z"), List.mem_of_getElem? (i := 26) (by decide +kernel), rfl⟩)
theorem pr_nf27 : Cond.fieldLinkNest RX7 97 "PrintRegister$Sensor" "recognized" "I" "PrintRegister" ∈ pr_NW := List.mem_append_left _ (List.mem_map.mpr ⟨("PrintRegister$Unit", 97, "PrintRegister$Sensor", "recognized", "I"), List.mem_of_getElem? (i := 27) (by decide +kernel), rfl⟩)
theorem pr_nf28 : Cond.fieldLinkNest RX3 141 "PrintRegister$Sensor" "recognized" "I" "PrintRegister" ∈ pr_NW := List.mem_append_left _ (List.mem_map.mpr ⟨("PrintRegister$Press", 141, "PrintRegister$Sensor", "recognized", "I"), List.mem_of_getElem? (i := 28) (by decide +kernel), rfl⟩)
theorem pr_nf29 : Cond.fieldLinkNest RX8 146 "PrintRegister$Sensor" "recognized" "I" "PrintRegister" ∈ pr_NW := List.mem_append_left _ (List.mem_map.mpr ⟨("PrintRegister", 146, "PrintRegister$Sensor", "recognized", "I"), List.mem_of_getElem? (i := 29) (by decide +kernel), rfl⟩)
theorem pr_nf30 : Cond.fieldLinkNest RX7 108 "PrintRegister$Sensor" "offset" "I" "PrintRegister" ∈ pr_NW := List.mem_append_left _ (List.mem_map.mpr ⟨("PrintRegister$Unit", 108, "PrintRegister$Sensor", "offset", "I"), List.mem_of_getElem? (i := 30) (by decide +kernel), rfl⟩)
theorem pr_nf31 : Cond.fieldLinkNest RX3 163 "PrintRegister$Sensor" "offset" "I" "PrintRegister" ∈ pr_NW := List.mem_append_left _ (List.mem_map.mpr ⟨("PrintRegister$Press", 163, "PrintRegister$Sensor", "offset", "I"), List.mem_of_getElem? (i := 31) (by decide +kernel), rfl⟩)
theorem pr_nf32 : Cond.fieldLinkNest RX7 115 "PrintRegister$Sensor" "skew" "I" "PrintRegister" ∈ pr_NW := List.mem_append_left _ (List.mem_map.mpr ⟨("PrintRegister$Unit", 115, "PrintRegister$Sensor", "skew", "I"), List.mem_of_getElem? (i := 32) (by decide +kernel), rfl⟩)
theorem pr_nf33 : Cond.fieldLinkNest RX3 169 "PrintRegister$Sensor" "skew" "I" "PrintRegister" ∈ pr_NW := List.mem_append_left _ (List.mem_map.mpr ⟨("PrintRegister$Press", 169, "PrintRegister$Sensor", "skew", "I"), List.mem_of_getElem? (i := 33) (by decide +kernel), rfl⟩)
theorem pr_nf34 : Cond.fieldLinkNest RX8 77 "PrintRegister$Unit" "printer" "LPrintRegister$Printer;" "PrintRegister" ∈ pr_NW := List.mem_append_left _ (List.mem_map.mpr ⟨("PrintRegister", 77, "PrintRegister$Unit", "printer", "LPrintRegister$Printer;"), List.mem_of_getElem? (i := 34) (by decide +kernel), rfl⟩)
theorem pr_nf35 : Cond.fieldLinkNest RX3 122 "PrintRegister$Unit" "printer" "LPrintRegister$Printer;" "PrintRegister" ∈ pr_NW := List.mem_append_left _ (List.mem_map.mpr ⟨("PrintRegister$Press", 122, "PrintRegister$Unit", "printer", "LPrintRegister$Printer;"), List.mem_of_getElem? (i := 35) (by decide +kernel), rfl⟩)
theorem pr_nf36 : Cond.fieldLinkNest RX3 154 "PrintRegister$Unit" "controller" "LPrintRegister$Controller;" "PrintRegister" ∈ pr_NW := List.mem_append_left _ (List.mem_map.mpr ⟨("PrintRegister$Press", 154, "PrintRegister$Unit", "controller", "LPrintRegister$Controller;"), List.mem_of_getElem? (i := 36) (by decide +kernel), rfl⟩)
theorem pr_nf37 : Cond.fieldLinkNest RX8 89 "PrintRegister$Unit" "controller" "LPrintRegister$Controller;" "PrintRegister" ∈ pr_NW := List.mem_append_left _ (List.mem_map.mpr ⟨("PrintRegister", 89, "PrintRegister$Unit", "controller", "LPrintRegister$Controller;"), List.mem_of_getElem? (i := 37) (by decide +kernel), rfl⟩)
theorem pr_nf38 : Cond.fieldLinkNest RX8 110 "PrintRegister$Unit" "sensor" "LPrintRegister$Sensor;" "PrintRegister" ∈ pr_NW := List.mem_append_left _ (List.mem_map.mpr ⟨("PrintRegister", 110, "PrintRegister$Unit", "sensor", "LPrintRegister$Sensor;"), List.mem_of_getElem? (i := 38) (by decide +kernel), rfl⟩)
theorem pr_nf39 : Cond.fieldLinkNest RX3 77 "PrintRegister$Unit" "sensor" "LPrintRegister$Sensor;" "PrintRegister" ∈ pr_NW := List.mem_append_left _ (List.mem_map.mpr ⟨("PrintRegister$Press", 77, "PrintRegister$Unit", "sensor", "LPrintRegister$Sensor;"), List.mem_of_getElem? (i := 39) (by decide +kernel), rfl⟩)
theorem pr_nf40 : Cond.fieldLinkNest RX8 199 "PrintRegister$Press" "totals" "[I" "PrintRegister" ∈ pr_NW := List.mem_append_left _ (List.mem_map.mpr ⟨("PrintRegister", 199, "PrintRegister$Press", "totals", "[I"), List.mem_of_getElem? (i := 40) (by decide +kernel), rfl⟩)
theorem pr_nf41 : Cond.fieldLinkNest RX8 240 "PrintRegister$Press" "unitCount" "I" "PrintRegister" ∈ pr_NW := List.mem_append_left _ (List.mem_map.mpr ⟨("PrintRegister", 240, "PrintRegister$Press", "unitCount", "I"), List.mem_of_getElem? (i := 41) (by decide +kernel), rfl⟩)
theorem pr_nf42 : Cond.fieldLinkNest RX8 45 "PrintRegister$Press" "time" "I" "PrintRegister" ∈ pr_NW := List.mem_append_left _ (List.mem_map.mpr ⟨("PrintRegister", 45, "PrintRegister$Press", "time", "I"), List.mem_of_getElem? (i := 42) (by decide +kernel), rfl⟩)
theorem pr_nf43 : Cond.fieldLinkNest RX8 101 "PrintRegister$Press" "speedNow" "I" "PrintRegister" ∈ pr_NW := List.mem_append_left _ (List.mem_map.mpr ⟨("PrintRegister", 101, "PrintRegister$Press", "speedNow", "I"), List.mem_of_getElem? (i := 43) (by decide +kernel), rfl⟩)
theorem pr_nf44 : Cond.fieldLinkNest RX8 217 "PrintRegister$Pad" "length" "I" "PrintRegister" ∈ pr_NW := List.mem_append_left _ (List.mem_map.mpr ⟨("PrintRegister", 217, "PrintRegister$Pad", "length", "I"), List.mem_of_getElem? (i := 44) (by decide +kernel), rfl⟩)
theorem pr_nf45 : Cond.fieldLinkNest RX7 36 "PrintRegister" "FIRST_SETTINGS" "[I" "PrintRegister" ∈ pr_NW := List.mem_append_left _ (List.mem_map.mpr ⟨("PrintRegister$Unit", 36, "PrintRegister", "FIRST_SETTINGS", "[I"), List.mem_of_getElem? (i := 45) (by decide +kernel), rfl⟩)
theorem pr_nm0 : Cond.methodLinkNest RX3 24 ⟨"PrintRegister$Unit", "<init>", "()V"⟩ "PrintRegister" ∈ pr_NW := List.mem_append_right _ (List.mem_map.mpr ⟨("PrintRegister$Press", 24, ⟨"PrintRegister$Unit", "<init>", "()V"⟩), List.mem_of_getElem? (i := 0) (by decide +kernel), rfl⟩)
theorem pr_nm1 : Cond.methodLinkNest RX7 17 ⟨"PrintRegister$Printer", "<init>", "()V"⟩ "PrintRegister" ∈ pr_NW := List.mem_append_right _ (List.mem_map.mpr ⟨("PrintRegister$Unit", 17, ⟨"PrintRegister$Printer", "<init>", "()V"⟩), List.mem_of_getElem? (i := 1) (by decide +kernel), rfl⟩)
theorem pr_nm2 : Cond.methodLinkNest RX7 24 ⟨"PrintRegister$Controller", "<init>", "()V"⟩ "PrintRegister" ∈ pr_NW := List.mem_append_right _ (List.mem_map.mpr ⟨("PrintRegister$Unit", 24, ⟨"PrintRegister$Controller", "<init>", "()V"⟩), List.mem_of_getElem? (i := 2) (by decide +kernel), rfl⟩)
theorem pr_nm3 : Cond.methodLinkNest RX7 31 ⟨"PrintRegister$Sensor", "<init>", "()V"⟩ "PrintRegister" ∈ pr_NW := List.mem_append_right _ (List.mem_map.mpr ⟨("PrintRegister$Unit", 31, ⟨"PrintRegister$Sensor", "<init>", "()V"⟩), List.mem_of_getElem? (i := 3) (by decide +kernel), rfl⟩)
theorem pr_nm4 : Cond.methodLinkNest RX5 11 ⟨"PrintRegister$ErrorLog", "<init>", "()V"⟩ "PrintRegister" ∈ pr_NW := List.mem_append_right _ (List.mem_map.mpr ⟨("PrintRegister$Sensor", 11, ⟨"PrintRegister$ErrorLog", "<init>", "()V"⟩), List.mem_of_getElem? (i := 4) (by decide +kernel), rfl⟩)
theorem pr_nm5 : Cond.methodLinkNest RX8 21 ⟨"PrintRegister$Slot", "<init>", "()V"⟩ "PrintRegister" ∈ pr_NW := List.mem_append_right _ (List.mem_map.mpr ⟨("PrintRegister", 21, ⟨"PrintRegister$Slot", "<init>", "()V"⟩), List.mem_of_getElem? (i := 5) (by decide +kernel), rfl⟩)
theorem pr_nm6 : Cond.methodLinkNest RX8 31 ⟨"PrintRegister$Pad", "<init>", "()V"⟩ "PrintRegister" ∈ pr_NW := List.mem_append_right _ (List.mem_map.mpr ⟨("PrintRegister", 31, ⟨"PrintRegister$Pad", "<init>", "()V"⟩), List.mem_of_getElem? (i := 6) (by decide +kernel), rfl⟩)
theorem pr_nm7 : Cond.methodLinkNest RX7 111 ⟨"PrintRegister", "limited", "(II)I"⟩ "PrintRegister" ∈ pr_NW := List.mem_append_right _ (List.mem_map.mpr ⟨("PrintRegister$Unit", 111, ⟨"PrintRegister", "limited", "(II)I"⟩), List.mem_of_getElem? (i := 7) (by decide +kernel), rfl⟩)
theorem pr_nm8 : Cond.methodLinkNest RX0 37 ⟨"PrintRegister", "lessOne", "(I)I"⟩ "PrintRegister" ∈ pr_NW := List.mem_append_right _ (List.mem_map.mpr ⟨("PrintRegister$Controller", 37, ⟨"PrintRegister", "lessOne", "(I)I"⟩), List.mem_of_getElem? (i := 8) (by decide +kernel), rfl⟩)
theorem pr_nm9 : Cond.methodLinkNest RX7 130 ⟨"PrintRegister", "lessOne", "(I)I"⟩ "PrintRegister" ∈ pr_NW := List.mem_append_right _ (List.mem_map.mpr ⟨("PrintRegister$Unit", 130, ⟨"PrintRegister", "lessOne", "(I)I"⟩), List.mem_of_getElem? (i := 9) (by decide +kernel), rfl⟩)
