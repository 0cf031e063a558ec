/-! ===== BEGIN printed: names, fields, word lists, decode rows ===== -/
def RX0 : String := "ValveTwins$1"
def TX0 : u_T := fun k => match k with
  | _ => ("", "", "", false)
def tyX0 : Nat → FieldType := fun k => match k with
  | _ => .int
abbrev wsX00 : List Cond := u_ws RX0 TX0 0
theorem nmX0 : ∀ a, a < 0 → ∀ b, b < 0 → a ≠ b → (TX0 a).2.1 ≠ (TX0 b).2.1 := by decide +kernel
theorem tyX0_ok : ∀ k, k < 0 → parseFieldDescriptor (TX0 k).2.2.1 = some (tyX0 k) := by decide +kernel
def RX1 : String := "ValveTwins$Book"
def TX1 : u_T := fun k => match k with
  | 0 => ("ValveTwins$Book", "cells", "[I", true)
  | _ => ("ValveTwins$Book", "rows", "I", false)
def tyX1 : Nat → FieldType := fun k => match k with
  | 0 => .array .int
  | _ => .int
abbrev wsX10 : List Cond := u_ws RX1 TX1 2
theorem nmX1 : ∀ a, a < 2 → ∀ b, b < 2 → a ≠ b → (TX1 a).2.1 ≠ (TX1 b).2.1 := by decide +kernel
theorem tyX1_ok : ∀ k, k < 2 → parseFieldDescriptor (TX1 k).2.2.1 = some (tyX1 k) := by decide +kernel
abbrev cX1_init : ByteArray := prog_3_method_1_code
def yX1_init : MethodName := ⟨RX1, "<init>", "()V"⟩
abbrev cX1_copy : ByteArray := prog_3_method_2_code
def yX1_copy : MethodName := ⟨RX1, "copy", "(LValveTwins$Book;)V"⟩
abbrev cX1_cell : ByteArray := prog_3_method_3_code
def yX1_cell : MethodName := ⟨RX1, "cell", "(II)I"⟩
abbrev cX1_sum : ByteArray := prog_3_method_4_code
def yX1_sum : MethodName := ⟨RX1, "sum", "(II)I"⟩
abbrev cX1_add : ByteArray := prog_3_method_5_code
def yX1_add : MethodName := ⟨RX1, "add", "(IIIII)V"⟩
abbrev cX1_find : ByteArray := prog_3_method_6_code
def yX1_find : MethodName := ⟨RX1, "find", "(II)I"⟩
abbrev cX1_make : ByteArray := prog_3_method_7_code
def yX1_make : MethodName := ⟨RX1, "make", "(II)I"⟩
def RX2 : String := "ValveTwins$History"
def TX2 : u_T := fun k => match k with
  | 0 => ("ValveTwins$History", "states", "[LValveTwins$Twins;", true)
  | 1 => ("ValveTwins$History", "latest", "I", false)
  | _ => ("ValveTwins$History", "count", "I", false)
def tyX2 : Nat → FieldType := fun k => match k with
  | 0 => .array (.object "ValveTwins$Twins")
  | 1 => .int
  | _ => .int
abbrev wsX20 : List Cond := u_ws RX2 TX2 3
theorem nmX2 : ∀ a, a < 3 → ∀ b, b < 3 → a ≠ b → (TX2 a).2.1 ≠ (TX2 b).2.1 := by decide +kernel
theorem tyX2_ok : ∀ k, k < 3 → parseFieldDescriptor (TX2 k).2.2.1 = some (tyX2 k) := by decide +kernel
abbrev cX2_init : ByteArray := prog_4_method_1_code
def yX2_init : MethodName := ⟨RX2, "<init>", "()V"⟩
abbrev cX2_save : ByteArray := prog_4_method_2_code
def yX2_save : MethodName := ⟨RX2, "save", "(LValveTwins$Twins;)V"⟩
def RX3 : String := "ValveTwins$Script"
def TX3 : u_T := fun k => match k with
  | 0 => ("ValveTwins$Script", "bytes", "[I", true)
  | 1 => ("ValveTwins$Script", "numbers", "[I", true)
  | 2 => ("ValveTwins$Script", "length", "I", false)
  | 3 => ("ValveTwins$Script", "at", "I", false)
  | 4 => ("ValveTwins$Script", "fault", "I", false)
  | _ => ("ValveTwins$Script", "word", "LValveTwins$Word;", false)
def tyX3 : Nat → FieldType := fun k => match k with
  | 0 => .array .int
  | 1 => .array .int
  | 2 => .int
  | 3 => .int
  | 4 => .int
  | _ => .object "ValveTwins$Word"
abbrev wsX30 : List Cond := u_ws RX3 TX3 6
theorem nmX3 : ∀ a, a < 6 → ∀ b, b < 6 → a ≠ b → (TX3 a).2.1 ≠ (TX3 b).2.1 := by decide +kernel
theorem tyX3_ok : ∀ k, k < 6 → parseFieldDescriptor (TX3 k).2.2.1 = some (tyX3 k) := by decide +kernel
abbrev cX3_init : ByteArray := prog_5_method_1_code
def yX3_init : MethodName := ⟨RX3, "<init>", "()V"⟩
def RX4 : String := "ValveTwins$Twins"
def TX4 : u_T := fun k => match k with
  | 0 => ("ValveTwins$Twins", "first", "LValveTwins$Valve;", true)
  | 1 => ("ValveTwins$Twins", "second", "LValveTwins$Valve;", true)
  | 2 => ("ValveTwins$Twins", "book", "LValveTwins$Book;", true)
  | 3 => ("ValveTwins$Twins", "signal", "I", false)
  | 4 => ("ValveTwins$Twins", "on", "I", false)
  | 5 => ("ValveTwins$Twins", "gain", "I", false)
  | 6 => ("ValveTwins$Twins", "wanted", "I", false)
  | 7 => ("ValveTwins$Twins", "rate", "I", false)
  | 8 => ("ValveTwins$Twins", "time", "I", false)
  | 9 => ("ValveTwins$Twins", "volume", "I", false)
  | 10 => ("ValveTwins$Twins", "missed", "I", false)
  | _ => ("ValveTwins$Twins", "leaked", "I", false)
def tyX4 : Nat → FieldType := fun k => match k with
  | 0 => .object "ValveTwins$Valve"
  | 1 => .object "ValveTwins$Valve"
  | 2 => .object "ValveTwins$Book"
  | 3 => .int
  | 4 => .int
  | 5 => .int
  | 6 => .int
  | 7 => .int
  | 8 => .int
  | 9 => .int
  | 10 => .int
  | _ => .int
abbrev wsX40 : List Cond := u_ws RX4 TX4 12
theorem nmX4 : ∀ a, a < 12 → ∀ b, b < 12 → a ≠ b → (TX4 a).2.1 ≠ (TX4 b).2.1 := by decide +kernel
theorem tyX4_ok : ∀ k, k < 12 → parseFieldDescriptor (TX4 k).2.2.1 = some (tyX4 k) := by decide +kernel
abbrev cX4_init : ByteArray := prog_6_method_1_code
def yX4_init : MethodName := ⟨RX4, "<init>", "()V"⟩
abbrev cX4_copy : ByteArray := prog_6_method_2_code
def yX4_copy : MethodName := ⟨RX4, "copy", "(LValveTwins$Twins;)V"⟩
abbrev cX4_at : ByteArray := prog_6_method_3_code
def yX4_at : MethodName := ⟨RX4, "at", "(I)LValveTwins$Valve;"⟩
abbrev cX4_value : ByteArray := prog_6_method_4_code
def yX4_value : MethodName := ⟨RX4, "value", "(I)I"⟩
abbrev cX4_changeSignal : ByteArray := prog_6_method_5_code
def yX4_changeSignal : MethodName := ⟨RX4, "changeSignal", "(I)I"⟩
abbrev cX4_changeSetting : ByteArray := prog_6_method_6_code
def yX4_changeSetting : MethodName := ⟨RX4, "changeSetting", "(II)I"⟩
abbrev cX4_flow : ByteArray := prog_6_method_7_code
def yX4_flow : MethodName := ⟨RX4, "flow", "()I"⟩
abbrev cX4_idealFor : ByteArray := prog_6_method_8_code
def yX4_idealFor : MethodName := ⟨RX4, "idealFor", "(I)I"⟩
abbrev cX4_pass : ByteArray := prog_6_method_12_code
def yX4_pass : MethodName := ⟨RX4, "pass", "(I)I"⟩
abbrev cX4_tick : ByteArray := prog_6_method_13_code
def yX4_tick : MethodName := ⟨RX4, "tick", "()Z"⟩
abbrev cX4_steer : ByteArray := prog_6_method_14_code
def yX4_steer : MethodName := ⟨RX4, "steer", "(I)V"⟩
def RX5 : String := "ValveTwins$Valve"
def TX5 : u_T := fun k => match k with
  | 0 => ("ValveTwins$Valve", "from", "I", false)
  | 1 => ("ValveTwins$Valve", "to", "I", false)
  | 2 => ("ValveTwins$Valve", "falling", "Z", false)
  | 3 => ("ValveTwins$Valve", "speed", "I", false)
  | 4 => ("ValveTwins$Valve", "stick", "I", false)
  | 5 => ("ValveTwins$Valve", "extraStick", "I", false)
  | 6 => ("ValveTwins$Valve", "size", "I", false)
  | 7 => ("ValveTwins$Valve", "characteristic", "I", false)
  | 8 => ("ValveTwins$Valve", "position", "I", false)
  | 9 => ("ValveTwins$Valve", "lastWay", "I", false)
  | 10 => ("ValveTwins$Valve", "running", "Z", false)
  | 11 => ("ValveTwins$Valve", "travel", "I", false)
  | 12 => ("ValveTwins$Valve", "reversals", "I", false)
  | 13 => ("ValveTwins$Valve", "travelInAll", "I", false)
  | 14 => ("ValveTwins$Valve", "reversalsInAll", "I", false)
  | _ => ("ValveTwins$Valve", "services", "I", false)
def tyX5 : Nat → FieldType := fun k => match k with
  | 0 => .int
  | 1 => .int
  | 2 => .boolean
  | 3 => .int
  | 4 => .int
  | 5 => .int
  | 6 => .int
  | 7 => .int
  | 8 => .int
  | 9 => .int
  | 10 => .boolean
  | 11 => .int
  | 12 => .int
  | 13 => .int
  | 14 => .int
  | _ => .int
abbrev wsX50 : List Cond := u_ws RX5 TX5 16
theorem nmX5 : ∀ a, a < 16 → ∀ b, b < 16 → a ≠ b → (TX5 a).2.1 ≠ (TX5 b).2.1 := by decide +kernel
theorem tyX5_ok : ∀ k, k < 16 → parseFieldDescriptor (TX5 k).2.2.1 = some (tyX5 k) := by decide +kernel
abbrev cX5_init : ByteArray := prog_7_method_1_code
def yX5_init : MethodName := ⟨RX5, "<init>", "(II)V"⟩
abbrev cX5_copy : ByteArray := prog_7_method_2_code
def yX5_copy : MethodName := ⟨RX5, "copy", "(LValveTwins$Valve;)V"⟩
abbrev cX5_value : ByteArray := prog_7_method_3_code
def yX5_value : MethodName := ⟨RX5, "value", "(II)I"⟩
abbrev cX5_changeSetting : ByteArray := prog_7_method_4_code
def yX5_changeSetting : MethodName := ⟨RX5, "changeSetting", "(II)I"⟩
abbrev cX5_changeRange : ByteArray := prog_7_method_5_code
def yX5_changeRange : MethodName := ⟨RX5, "changeRange", "(IIZ)I"⟩
abbrev cX5_renew : ByteArray := prog_7_method_6_code
def yX5_renew : MethodName := ⟨RX5, "renew", "()I"⟩
abbrev cX5_putAt : ByteArray := prog_7_method_7_code
def yX5_putAt : MethodName := ⟨RX5, "putAt", "(I)I"⟩
abbrev cX5_demandFor : ByteArray := prog_7_method_8_code
def yX5_demandFor : MethodName := ⟨RX5, "demandFor", "(I)I"⟩
abbrev cX5_wear : ByteArray := prog_7_method_9_code
def yX5_wear : MethodName := ⟨RX5, "wear", "()I"⟩
abbrev cX5_threshold : ByteArray := prog_7_method_10_code
def yX5_threshold : MethodName := ⟨RX5, "threshold", "(I)I"⟩
abbrev cX5_moveTowards : ByteArray := prog_7_method_11_code
def yX5_moveTowards : MethodName := ⟨RX5, "moveTowards", "(I)I"⟩
abbrev cX5_shift : ByteArray := prog_7_method_12_code
def yX5_shift : MethodName := ⟨RX5, "shift", "(I)I"⟩
abbrev cX5_flow : ByteArray := prog_7_method_13_code
def yX5_flow : MethodName := ⟨RX5, "flow", "()I"⟩
abbrev cX5_idealFor : ByteArray := prog_7_method_14_code
def yX5_idealFor : MethodName := ⟨RX5, "idealFor", "(I)I"⟩
abbrev cX5_through : ByteArray := prog_7_method_15_code
def yX5_through : MethodName := ⟨RX5, "through", "(I)I"⟩
def RX6 : String := "ValveTwins$Word"
def TX6 : u_T := fun k => match k with
  | _ => ("", "", "", false)
def tyX6 : Nat → FieldType := fun k => match k with
  | _ => .int
abbrev wsX60 : List Cond := u_ws RX6 TX6 0
theorem nmX6 : ∀ a, a < 0 → ∀ b, b < 0 → a ≠ b → (TX6 a).2.1 ≠ (TX6 b).2.1 := by decide +kernel
theorem tyX6_ok : ∀ k, k < 0 → parseFieldDescriptor (TX6 k).2.2.1 = some (tyX6 k) := by decide +kernel
def RX7 : String := "ValveTwins"
def TX7 : u_T := fun k => match k with
  | 0 => ("ValveTwins", "now", "LValveTwins$Twins;", true)
  | 1 => ("ValveTwins", "guess", "LValveTwins$Twins;", true)
  | 2 => ("ValveTwins", "history", "LValveTwins$History;", true)
  | _ => ("ValveTwins", "script", "LValveTwins$Script;", true)
def tyX7 : Nat → FieldType := fun k => match k with
  | 0 => .object "ValveTwins$Twins"
  | 1 => .object "ValveTwins$Twins"
  | 2 => .object "ValveTwins$History"
  | _ => .object "ValveTwins$Script"
abbrev wsX70 : List Cond := u_ws RX7 TX7 4
theorem nmX7 : ∀ a, a < 4 → ∀ b, b < 4 → a ≠ b → (TX7 a).2.1 ≠ (TX7 b).2.1 := by decide +kernel
theorem tyX7_ok : ∀ k, k < 4 → parseFieldDescriptor (TX7 k).2.2.1 = some (tyX7 k) := by decide +kernel
abbrev cX7_init : ByteArray := prog_1_method_1_code
def yX7_init : MethodName := ⟨RX7, "<init>", "()V"⟩
abbrev cX7_setRange : ByteArray := prog_1_method_2_code
def yX7_setRange : MethodName := ⟨RX7, "setRange", "(IIIZ)I"⟩
abbrev cX7_setValve : ByteArray := prog_1_method_3_code
def yX7_setValve : MethodName := ⟨RX7, "setValve", "(III)I"⟩
abbrev cX7_setSignal : ByteArray := prog_1_method_4_code
def yX7_setSignal : MethodName := ⟨RX7, "setSignal", "(I)I"⟩
abbrev cX7_tune : ByteArray := prog_1_method_5_code
def yX7_tune : MethodName := ⟨RX7, "tune", "(II)I"⟩
abbrev cX7_service : ByteArray := prog_1_method_6_code
def yX7_service : MethodName := ⟨RX7, "service", "(I)I"⟩
abbrev cX7_putStem : ByteArray := prog_1_method_7_code
def yX7_putStem : MethodName := ⟨RX7, "putStem", "(II)I"⟩
abbrev cX7_run : ByteArray := prog_1_method_8_code
def yX7_run : MethodName := ⟨RX7, "run", "(I)I"⟩
abbrev cX7_valve : ByteArray := prog_1_method_9_code
def yX7_valve : MethodName := ⟨RX7, "valve", "(II)I"⟩
abbrev cX7_pair : ByteArray := prog_1_method_10_code
def yX7_pair : MethodName := ⟨RX7, "pair", "(I)I"⟩
abbrev cX7_ledger : ByteArray := prog_1_method_11_code
def yX7_ledger : MethodName := ⟨RX7, "ledger", "(II)I"⟩
abbrev cX7_ledgerSum : ByteArray := prog_1_method_12_code
def yX7_ledgerSum : MethodName := ⟨RX7, "ledgerSum", "(II)I"⟩
abbrev cX7_meanFlow : ByteArray := prog_1_method_13_code
def yX7_meanFlow : MethodName := ⟨RX7, "meanFlow", "()D"⟩
abbrev cX7_refuseUnlessValve : ByteArray := prog_1_method_28_code
def yX7_refuseUnlessValve : MethodName := ⟨RX7, "refuseUnlessValve", "(I)V"⟩
abbrev cX7_refuseUnless : ByteArray := prog_1_method_29_code
def yX7_refuseUnless : MethodName := ⟨RX7, "refuseUnless", "(Z)V"⟩
abbrev cX7_within : ByteArray := prog_1_method_30_code
def yX7_within : MethodName := ⟨RX7, "within", "(III)Z"⟩
abbrev cX7_isValve : ByteArray := prog_1_method_31_code
def yX7_isValve : MethodName := ⟨RX7, "isValve", "(I)Z"⟩
abbrev cX7_isRange : ByteArray := prog_1_method_32_code
def yX7_isRange : MethodName := ⟨RX7, "isRange", "(II)Z"⟩
abbrev cX7_isSignal : ByteArray := prog_1_method_33_code
def yX7_isSignal : MethodName := ⟨RX7, "isSignal", "(I)Z"⟩
abbrev cX7_isTicks : ByteArray := prog_1_method_34_code
def yX7_isTicks : MethodName := ⟨RX7, "isTicks", "(I)Z"⟩
abbrev cX7_isTimeLeft : ByteArray := prog_1_method_35_code
def yX7_isTimeLeft : MethodName := ⟨RX7, "isTimeLeft", "(I)Z"⟩
abbrev cX7_isValveSetting : ByteArray := prog_1_method_36_code
def yX7_isValveSetting : MethodName := ⟨RX7, "isValveSetting", "(II)Z"⟩
abbrev cX7_isControllerSetting : ByteArray := prog_1_method_37_code
def yX7_isControllerSetting : MethodName := ⟨RX7, "isControllerSetting", "(II)Z"⟩
def RX8 : String := "ValveTwinsModel"
def TX8 : u_T := fun k => match k with
  | _ => ("", "", "", false)
def tyX8 : Nat → FieldType := fun k => match k with
  | _ => .int
abbrev wsX80 : List Cond := u_ws RX8 TX8 0
theorem nmX8 : ∀ a, a < 0 → ∀ b, b < 0 → a ≠ b → (TX8 a).2.1 ≠ (TX8 b).2.1 := by decide +kernel
theorem tyX8_ok : ∀ k, k < 0 → parseFieldDescriptor (TX8 k).2.2.1 = some (tyX8 k) := by decide +kernel
def RJ9 : String := "java/lang/Math"
def TJ9 : u_T := fun k => match k with
  | _ => ("", "", "", false)
def tyJ9 : Nat → FieldType := fun k => match k with
  | _ => .int
abbrev wsJ90 : List Cond := u_ws RJ9 TJ9 0
theorem nmJ9 : ∀ a, a < 0 → ∀ b, b < 0 → a ≠ b → (TJ9 a).2.1 ≠ (TJ9 b).2.1 := by decide +kernel
theorem tyJ9_ok : ∀ k, k < 0 → parseFieldDescriptor (TJ9 k).2.2.1 = some (tyJ9 k) := by decide +kernel
abbrev cJ9_floorDiv_7cf53 : ByteArray := prog_15_method_47_code
def yJ9_floorDiv_7cf53 : MethodName := ⟨RJ9, "floorDiv", "(II)I"⟩
abbrev cJ9_floorMod_7cf53 : ByteArray := prog_15_method_50_code
def yJ9_floorMod_7cf53 : MethodName := ⟨RJ9, "floorMod", "(II)I"⟩
abbrev cJ9_abs_0f7a4 : ByteArray := prog_15_method_59_code
def yJ9_abs_0f7a4 : MethodName := ⟨RJ9, "abs", "(I)I"⟩
abbrev cJ9_max_7cf53 : ByteArray := prog_15_method_65_code
def yJ9_max_7cf53 : MethodName := ⟨RJ9, "max", "(II)I"⟩
abbrev cJ9_min_7cf53 : ByteArray := prog_15_method_69_code
def yJ9_min_7cf53 : MethodName := ⟨RJ9, "min", "(II)I"⟩
def RJ0 : String := "java/lang/String"
def TJ0 : u_T := fun k => match k with
  | _ => ("", "", "", false)
def tyJ0 : Nat → FieldType := fun k => match k with
  | _ => .int
abbrev wsJ00 : List Cond := u_ws RJ0 TJ0 0
theorem nmJ0 : ∀ a, a < 0 → ∀ b, b < 0 → a ≠ b → (TJ0 a).2.1 ≠ (TJ0 b).2.1 := by decide +kernel
theorem tyJ0_ok : ∀ k, k < 0 → parseFieldDescriptor (TJ0 k).2.2.1 = some (tyJ0 k) := by decide +kernel
def RJ10 : String := "java/lang/System"
def TJ10 : u_T := fun k => match k with
  | _ => ("", "", "", false)
def tyJ10 : Nat → FieldType := fun k => match k with
  | _ => .int
abbrev wsJ100 : List Cond := u_ws RJ10 TJ10 0
theorem nmJ10 : ∀ a, a < 0 → ∀ b, b < 0 → a ≠ b → (TJ10 a).2.1 ≠ (TJ10 b).2.1 := by decide +kernel
theorem tyJ10_ok : ∀ k, k < 0 → parseFieldDescriptor (TJ10 k).2.2.1 = some (tyJ10 k) := by decide +kernel
def RL : String := "ValveTwinsLaw"
abbrev cL_cell : ByteArray := method_2_code
def yL_cell : MethodName := ⟨RL, "cell", "([II)I"⟩
abbrev cL_low : ByteArray := method_3_code
def yL_low : MethodName := ⟨RL, "low", "(II)I"⟩
abbrev cL_down : ByteArray := method_4_code
def yL_down : MethodName := ⟨RL, "down", "(II)I"⟩
abbrev cL_near : ByteArray := method_5_code
def yL_near : MethodName := ⟨RL, "near", "(III)I"⟩
abbrev cL_demand : ByteArray := method_6_code
def yL_demand : MethodName := ⟨RL, "demand", "([III)I"⟩
abbrev cL_wear : ByteArray := method_7_code
def yL_wear : MethodName := ⟨RL, "wear", "([II)I"⟩
abbrev cL_hurdle : ByteArray := method_8_code
def yL_hurdle : MethodName := ⟨RL, "hurdle", "([III)I"⟩
abbrev cL_step : ByteArray := method_9_code
def yL_step : MethodName := ⟨RL, "step", "([III)I"⟩
abbrev cL_open : ByteArray := method_10_code
def yL_open : MethodName := ⟨RL, "open", "([III)I"⟩
abbrev cL_flow : ByteArray := method_11_code
def yL_flow : MethodName := ⟨RL, "flow", "([II)I"⟩
abbrev cL_ideal : ByteArray := method_12_code
def yL_ideal : MethodName := ⟨RL, "ideal", "([II)I"⟩
abbrev cL_entry : ByteArray := method_13_code
def yL_entry : MethodName := ⟨RL, "entry", "([I[III)I"⟩
abbrev cL_tick : ByteArray := method_14_code
def yL_tick : MethodName := ⟨RL, "tick", "([I[I[I)Z"⟩
abbrev cL_acts : ByteArray := method_15_code
def yL_acts : MethodName := ⟨RL, "acts", "(LValveTwins;[I[I[II)Z"⟩
abbrev cL_starts : ByteArray := method_16_code
def yL_starts : MethodName := ⟨RL, "starts", "([I[I)V"⟩
abbrev cL_ranges : ByteArray := method_17_code
def yL_ranges : MethodName := ⟨RL, "ranges", "(LValveTwins;IIIZ)I"⟩
abbrev cL_sets : ByteArray := method_18_code
def yL_sets : MethodName := ⟨RL, "sets", "(LValveTwins;III)I"⟩
abbrev cL_signals : ByteArray := method_19_code
def yL_signals : MethodName := ⟨RL, "signals", "(LValveTwins;I)I"⟩
abbrev cL_tunes : ByteArray := method_20_code
def yL_tunes : MethodName := ⟨RL, "tunes", "(LValveTwins;II)I"⟩
abbrev cL_serves : ByteArray := method_21_code
def yL_serves : MethodName := ⟨RL, "serves", "(LValveTwins;I)I"⟩
abbrev cL_stems : ByteArray := method_22_code
def yL_stems : MethodName := ⟨RL, "stems", "(LValveTwins;II)I"⟩
abbrev cL_runs : ByteArray := method_23_code
def yL_runs : MethodName := ⟨RL, "runs", "(LValveTwins;I)I"⟩
abbrev cL_valveOf : ByteArray := method_24_code
def yL_valveOf : MethodName := ⟨RL, "valveOf", "(LValveTwins;II)I"⟩
abbrev cL_pairOf : ByteArray := method_25_code
def yL_pairOf : MethodName := ⟨RL, "pairOf", "(LValveTwins;I)I"⟩
abbrev cL_ledgerOf : ByteArray := method_26_code
def yL_ledgerOf : MethodName := ⟨RL, "ledgerOf", "(LValveTwins;II)I"⟩
abbrev cL_sumOf : ByteArray := method_27_code
def yL_sumOf : MethodName := ⟨RL, "sumOf", "(LValveTwins;II)I"⟩
abbrev cL_isSo : ByteArray := method_28_code
def yL_isSo : MethodName := ⟨RL, "isSo", "(LValveTwins;[I[I[I)Z"⟩
abbrev cL_law : ByteArray := code
def yL_law : MethodName := ⟨RL, "law", "([I)Z"⟩
abbrev vwCl : List vw_C := [(RX1, TX1, 2), (RX2, TX2, 3), (RX3, TX3, 6), (RX4, TX4, 12), (RX5, TX5, 16), (RX7, TX7, 4)]
