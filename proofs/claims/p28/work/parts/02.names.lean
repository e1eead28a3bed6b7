/-! names, fields, words: printed by program (claim/NAMES.whole); the pool, the lists of words and what stands on them left out -/
def RX0 : String := "JetWaltz$Air"
def TX0 : u_T := fun k => match k with
  | 0 => ("JetWaltz$Air", "basin", "[I", true)
  | 1 => ("JetWaltz$Air", "crowd", "[I", true)
  | _ => ("JetWaltz$Air", "beyond", "[I", true)
def tyX0 : Nat → FieldType := fun k => match k with
  | 0 => .array .int
  | 1 => .array .int
  | _ => .array .int
abbrev wsX00 : List Cond := u_ws RX0 TX0 3
theorem nmX0 : ∀ a, a < 3 → ∀ b, b < 3 → a ≠ b → (TX0 a).2.1 ≠ (TX0 b).2.1 := by decide +kernel
theorem tyX0_ok : ∀ k, k < 3 → parseFieldDescriptor (TX0 k).2.2.1 = some (tyX0 k) := by decide +kernel
abbrev cX0_init : ByteArray := prog_2_method_1_code
def yX0_init : MethodName := ⟨RX0, "<init>", "()V"⟩
abbrev cX0_slotOf : ByteArray := prog_2_method_2_code
def yX0_slotOf : MethodName := ⟨RX0, "slotOf", "(I)I"⟩
abbrev cX0_put : ByteArray := prog_2_method_3_code
def yX0_put : MethodName := ⟨RX0, "put", "(III)V"⟩
abbrev cX0_fallingIn : ByteArray := prog_2_method_4_code
def yX0_fallingIn : MethodName := ⟨RX0, "fallingIn", "(I)I"⟩
abbrev cX0_fallingOnBasin : ByteArray := prog_2_method_5_code
def yX0_fallingOnBasin : MethodName := ⟨RX0, "fallingOnBasin", "(I)I"⟩
abbrev cX0_fallingOnCrowd : ByteArray := prog_2_method_6_code
def yX0_fallingOnCrowd : MethodName := ⟨RX0, "fallingOnCrowd", "(I)I"⟩
abbrev cX0_clear : ByteArray := prog_2_method_7_code
def yX0_clear : MethodName := ⟨RX0, "clear", "(I)V"⟩
abbrev cX0_all : ByteArray := prog_2_method_8_code
def yX0_all : MethodName := ⟨RX0, "all", "()I"⟩
abbrev cX0_becomeLike : ByteArray := prog_2_method_9_code
def yX0_becomeLike : MethodName := ⟨RX0, "becomeLike", "(LJetWaltz$Air;)V"⟩
def RX1 : String := "JetWaltz$Call"
def TX1 : u_T := fun k => match k with
  | 0 => ("JetWaltz$Call", "steps", "Ljava/util/ArrayList;", true)
  | 1 => ("JetWaltz$Call", "shift", "I", true)
  | _ => ("JetWaltz$Call", "calledAt", "I", true)
def tyX1 : Nat → FieldType := fun k => match k with
  | 0 => .object "java/util/ArrayList"
  | 1 => .int
  | _ => .int
abbrev wsX10 : List Cond := u_ws RX1 TX1 3
theorem nmX1 : ∀ a, a < 3 → ∀ b, b < 3 → a ≠ b → (TX1 a).2.1 ≠ (TX1 b).2.1 := by decide +kernel
theorem tyX1_ok : ∀ k, k < 3 → parseFieldDescriptor (TX1 k).2.2.1 = some (tyX1 k) := by decide +kernel
abbrev cX1_init : ByteArray := prog_3_method_1_code
def yX1_init : MethodName := ⟨RX1, "<init>", "(Ljava/util/ArrayList;II)V"⟩
abbrev cX1_dueOf : ByteArray := prog_3_method_2_code
def yX1_dueOf : MethodName := ⟨RX1, "dueOf", "(LJetWaltz$Step;)I"⟩
abbrev cX1_stepsDueAfter : ByteArray := prog_3_method_3_code
def yX1_stepsDueAfter : MethodName := ⟨RX1, "stepsDueAfter", "(I)I"⟩
def RX2 : String := "JetWaltz$Figure"
def TX2 : u_T := fun k => match k with
  | _ => ("JetWaltz$Figure", "steps", "Ljava/util/ArrayList;", true)
def tyX2 : Nat → FieldType := fun k => match k with
  | _ => .object "java/util/ArrayList"
abbrev wsX20 : List Cond := u_ws RX2 TX2 1
theorem nmX2 : ∀ a, a < 1 → ∀ b, b < 1 → a ≠ b → (TX2 a).2.1 ≠ (TX2 b).2.1 := by decide +kernel
theorem tyX2_ok : ∀ k, k < 1 → parseFieldDescriptor (TX2 k).2.2.1 = some (tyX2 k) := by decide +kernel
abbrev cX2_init : ByteArray := prog_4_method_1_code
def yX2_init : MethodName := ⟨RX2, "<init>", "()V"⟩
abbrev cX2_stepsNow : ByteArray := prog_4_method_2_code
def yX2_stepsNow : MethodName := ⟨RX2, "stepsNow", "()Ljava/util/ArrayList;"⟩
def RX3 : String := "JetWaltz$Jet"
def TX3 : u_T := fun k => match k with
  | 0 => ("JetWaltz$Jet", "pump", "LJetWaltz$Pump;", true)
  | 1 => ("JetWaltz$Jet", "place", "I", true)
  | 2 => ("JetWaltz$Jet", "nozzle", "I", true)
  | 3 => ("JetWaltz$Jet", "slant", "I", true)
  | 4 => ("JetWaltz$Jet", "valveSet", "I", false)
  | 5 => ("JetWaltz$Jet", "valve", "I", false)
  | 6 => ("JetWaltz$Jet", "isStuck", "Z", false)
  | 7 => ("JetWaltz$Jet", "isLampOn", "Z", false)
  | 8 => ("JetWaltz$Jet", "leaks", "Z", false)
  | _ => ("JetWaltz$Jet", "thrown", "I", false)
def tyX3 : Nat → FieldType := fun k => match k with
  | 0 => .object "JetWaltz$Pump"
  | 1 => .int
  | 2 => .int
  | 3 => .int
  | 4 => .int
  | 5 => .int
  | 6 => .boolean
  | 7 => .boolean
  | 8 => .boolean
  | _ => .int
abbrev wsX30 : List Cond := u_ws RX3 TX3 10
theorem nmX3 : ∀ a, a < 10 → ∀ b, b < 10 → a ≠ b → (TX3 a).2.1 ≠ (TX3 b).2.1 := by decide +kernel
theorem tyX3_ok : ∀ k, k < 10 → parseFieldDescriptor (TX3 k).2.2.1 = some (tyX3 k) := by decide +kernel
abbrev cX3_init : ByteArray := prog_5_method_1_code
def yX3_init : MethodName := ⟨RX3, "<init>", "(LJetWaltz$Pump;III)V"⟩
abbrev cX3_flow : ByteArray := prog_5_method_2_code
def yX3_flow : MethodName := ⟨RX3, "flow", "()I"⟩
abbrev cX3_turn : ByteArray := prog_5_method_3_code
def yX3_turn : MethodName := ⟨RX3, "turn", "()V"⟩
abbrev cX3_isShorted : ByteArray := prog_5_method_4_code
def yX3_isShorted : MethodName := ⟨RX3, "isShorted", "()Z"⟩
abbrev cX3_obey : ByteArray := prog_5_method_5_code
def yX3_obey : MethodName := ⟨RX3, "obey", "(I)V"⟩
abbrev cX3_becomeLike : ByteArray := prog_5_method_6_code
def yX3_becomeLike : MethodName := ⟨RX3, "becomeLike", "(LJetWaltz$Jet;)V"⟩
def RX4 : String := "JetWaltz$Pump"
def TX4 : u_T := fun k => match k with
  | 0 => ("JetWaltz$Pump", "number", "I", true)
  | 1 => ("JetWaltz$Pump", "power", "I", true)
  | 2 => ("JetWaltz$Pump", "setting", "I", false)
  | 3 => ("JetWaltz$Pump", "drive", "I", false)
  | 4 => ("JetWaltz$Pump", "isTripped", "Z", false)
  | _ => ("JetWaltz$Pump", "trips", "I", false)
def tyX4 : Nat → FieldType := fun k => match k with
  | 0 => .int
  | 1 => .int
  | 2 => .int
  | 3 => .int
  | 4 => .boolean
  | _ => .int
abbrev wsX40 : List Cond := u_ws RX4 TX4 6
theorem nmX4 : ∀ a, a < 6 → ∀ b, b < 6 → a ≠ b → (TX4 a).2.1 ≠ (TX4 b).2.1 := by decide +kernel
theorem tyX4_ok : ∀ k, k < 6 → parseFieldDescriptor (TX4 k).2.2.1 = some (tyX4 k) := by decide +kernel
abbrev cX4_init : ByteArray := prog_6_method_1_code
def yX4_init : MethodName := ⟨RX4, "<init>", "(II)V"⟩
abbrev cX4_setTo : ByteArray := prog_6_method_2_code
def yX4_setTo : MethodName := ⟨RX4, "setTo", "(I)V"⟩
abbrev cX4_turn : ByteArray := prog_6_method_3_code
def yX4_turn : MethodName := ⟨RX4, "turn", "()V"⟩
abbrev cX4_trip : ByteArray := prog_6_method_4_code
def yX4_trip : MethodName := ⟨RX4, "trip", "()V"⟩
abbrev cX4_becomeLike : ByteArray := prog_6_method_5_code
def yX4_becomeLike : MethodName := ⟨RX4, "becomeLike", "(LJetWaltz$Pump;)V"⟩
def RX5 : String := "JetWaltz$Show"
def TX5 : u_T := fun k => match k with
  | 0 => ("JetWaltz$Show", "pumps", "Ljava/util/ArrayList;", true)
  | 1 => ("JetWaltz$Show", "jets", "Ljava/util/ArrayList;", true)
  | 2 => ("JetWaltz$Show", "calls", "Ljava/util/ArrayList;", true)
  | 3 => ("JetWaltz$Show", "air", "LJetWaltz$Air;", true)
  | 4 => ("JetWaltz$Show", "now", "I", false)
  | 5 => ("JetWaltz$Show", "water", "I", false)
  | 6 => ("JetWaltz$Show", "spilt", "I", false)
  | 7 => ("JetWaltz$Show", "lost", "I", false)
  | 8 => ("JetWaltz$Show", "wet", "I", false)
  | 9 => ("JetWaltz$Show", "energy", "I", false)
  | 10 => ("JetWaltz$Show", "faults", "I", false)
  | 11 => ("JetWaltz$Show", "dangers", "I", false)
  | 12 => ("JetWaltz$Show", "wind", "I", false)
  | 13 => ("JetWaltz$Show", "gust", "I", false)
  | _ => ("JetWaltz$Show", "isSwum", "Z", false)
def tyX5 : Nat → FieldType := fun k => match k with
  | 0 => .object "java/util/ArrayList"
  | 1 => .object "java/util/ArrayList"
  | 2 => .object "java/util/ArrayList"
  | 3 => .object "JetWaltz$Air"
  | 4 => .int
  | 5 => .int
  | 6 => .int
  | 7 => .int
  | 8 => .int
  | 9 => .int
  | 10 => .int
  | 11 => .int
  | 12 => .int
  | 13 => .int
  | _ => .boolean
abbrev wsX50 : List Cond := u_ws RX5 TX5 15
theorem nmX5 : ∀ a, a < 15 → ∀ b, b < 15 → a ≠ b → (TX5 a).2.1 ≠ (TX5 b).2.1 := by decide +kernel
theorem tyX5_ok : ∀ k, k < 15 → parseFieldDescriptor (TX5 k).2.2.1 = some (tyX5 k) := by decide +kernel
abbrev cX5_init : ByteArray := prog_7_method_1_code
def yX5_init : MethodName := ⟨RX5, "<init>", "()V"⟩
abbrev cX5_addJet : ByteArray := prog_7_method_2_code
def yX5_addJet : MethodName := ⟨RX5, "addJet", "(IIII)V"⟩
abbrev cX5_setPumpOfNumber : ByteArray := prog_7_method_3_code
def yX5_setPumpOfNumber : MethodName := ⟨RX5, "setPumpOfNumber", "(II)V"⟩
abbrev cX5_heightOfNumber : ByteArray := prog_7_method_4_code
def yX5_heightOfNumber : MethodName := ⟨RX5, "heightOfNumber", "(I)I"⟩
abbrev cX5_tick : ByteArray := prog_7_method_5_code
def yX5_tick : MethodName := ⟨RX5, "tick", "()I"⟩
abbrev cX5_doStepsDue : ByteArray := prog_7_method_6_code
def yX5_doStepsDue : MethodName := ⟨RX5, "doStepsDue", "()V"⟩
abbrev cX5_doStep : ByteArray := prog_7_method_7_code
def yX5_doStep : MethodName := ⟨RX5, "doStep", "(LJetWaltz$Step;I)V"⟩
abbrev cX5_turnDrivesAndValves : ByteArray := prog_7_method_8_code
def yX5_turnDrivesAndValves : MethodName := ⟨RX5, "turnDrivesAndValves", "()V"⟩
abbrev cX5_letFall : ByteArray := prog_7_method_9_code
def yX5_letFall : MethodName := ⟨RX5, "letFall", "()I"⟩
abbrev cX5_throwWater : ByteArray := prog_7_method_10_code
def yX5_throwWater : MethodName := ⟨RX5, "throwWater", "()V"⟩
abbrev cX5_useEnergy : ByteArray := prog_7_method_11_code
def yX5_useEnergy : MethodName := ⟨RX5, "useEnergy", "()V"⟩
abbrev cX5_tripPumpsRunningDry : ByteArray := prog_7_method_12_code
def yX5_tripPumpsRunningDry : MethodName := ⟨RX5, "tripPumpsRunningDry", "()V"⟩
abbrev cX5_shortLamps : ByteArray := prog_7_method_13_code
def yX5_shortLamps : MethodName := ⟨RX5, "shortLamps", "()V"⟩
abbrev cX5_lampsOff : ByteArray := prog_7_method_14_code
def yX5_lampsOff : MethodName := ⟨RX5, "lampsOff", "()V"⟩
abbrev cX5_shutAll : ByteArray := prog_7_method_15_code
def yX5_shutAll : MethodName := ⟨RX5, "shutAll", "()V"⟩
abbrev cX5_pour : ByteArray := prog_7_method_16_code
def yX5_pour : MethodName := ⟨RX5, "pour", "(I)V"⟩
abbrev cX5_pressureOf : ByteArray := prog_7_method_17_code
def yX5_pressureOf : MethodName := ⟨RX5, "pressureOf", "(LJetWaltz$Pump;)I"⟩
abbrev cX5_flowsAsSet : ByteArray := prog_7_method_18_code
def yX5_flowsAsSet : MethodName := ⟨RX5, "flowsAsSet", "(LJetWaltz$Pump;)I"⟩
abbrev cX5_jetsOf : ByteArray := prog_7_method_19_code
def yX5_jetsOf : MethodName := ⟨RX5, "jetsOf", "(LJetWaltz$Pump;)I"⟩
abbrev cX5_lampsOn : ByteArray := prog_7_method_20_code
def yX5_lampsOn : MethodName := ⟨RX5, "lampsOn", "()I"⟩
abbrev cX5_heightOf : ByteArray := prog_7_method_21_code
def yX5_heightOf : MethodName := ⟨RX5, "heightOf", "(LJetWaltz$Jet;)I"⟩
abbrev cX5_greatestHeight : ByteArray := prog_7_method_22_code
def yX5_greatestHeight : MethodName := ⟨RX5, "greatestHeight", "()I"⟩
abbrev cX5_sumOfHeights : ByteArray := prog_7_method_23_code
def yX5_sumOfHeights : MethodName := ⟨RX5, "sumOfHeights", "()I"⟩
abbrev cX5_placeOfFall : ByteArray := prog_7_method_24_code
def yX5_placeOfFall : MethodName := ⟨RX5, "placeOfFall", "(LJetWaltz$Jet;I)I"⟩
abbrev cX5_windWithGust : ByteArray := prog_7_method_25_code
def yX5_windWithGust : MethodName := ⟨RX5, "windWithGust", "()I"⟩
abbrev cX5_becomeLike : ByteArray := prog_7_method_26_code
def yX5_becomeLike : MethodName := ⟨RX5, "becomeLike", "(LJetWaltz$Show;)V"⟩
def RX6 : String := "JetWaltz$Step"
def TX6 : u_T := fun k => match k with
  | 0 => ("JetWaltz$Step", "tick", "I", true)
  | 1 => ("JetWaltz$Step", "jets", "I", true)
  | _ => ("JetWaltz$Step", "value", "I", true)
def tyX6 : Nat → FieldType := fun k => match k with
  | 0 => .int
  | 1 => .int
  | _ => .int
abbrev wsX60 : List Cond := u_ws RX6 TX6 3
theorem nmX6 : ∀ a, a < 3 → ∀ b, b < 3 → a ≠ b → (TX6 a).2.1 ≠ (TX6 b).2.1 := by decide +kernel
theorem tyX6_ok : ∀ k, k < 3 → parseFieldDescriptor (TX6 k).2.2.1 = some (tyX6 k) := by decide +kernel
abbrev cX6_init : ByteArray := prog_8_method_1_code
def yX6_init : MethodName := ⟨RX6, "<init>", "(III)V"⟩
abbrev cX6_names : ByteArray := prog_8_method_2_code
def yX6_names : MethodName := ⟨RX6, "names", "(I)Z"⟩
def RX7 : String := "JetWaltz"
def TX7 : u_T := fun k => match k with
  | 0 => ("JetWaltz", "figures", "Ljava/util/ArrayList;", true)
  | 1 => ("JetWaltz", "show", "LJetWaltz$Show;", true)
  | _ => ("JetWaltz", "trial", "LJetWaltz$Show;", true)
def tyX7 : Nat → FieldType := fun k => match k with
  | 0 => .object "java/util/ArrayList"
  | 1 => .object "JetWaltz$Show"
  | _ => .object "JetWaltz$Show"
abbrev wsX70 : List Cond := u_ws RX7 TX7 3
theorem nmX7 : ∀ a, a < 3 → ∀ b, b < 3 → a ≠ b → (TX7 a).2.1 ≠ (TX7 b).2.1 := by decide +kernel
theorem tyX7_ok : ∀ k, k < 3 → parseFieldDescriptor (TX7 k).2.2.1 = some (tyX7 k) := by decide +kernel
abbrev cX7_init : ByteArray := prog_1_method_1_code
def yX7_init : MethodName := ⟨RX7, "<init>", "()V"⟩
abbrev cX7_pump : ByteArray := prog_1_method_2_code
def yX7_pump : MethodName := ⟨RX7, "pump", "(I)I"⟩
abbrev cX7_jet : ByteArray := prog_1_method_3_code
def yX7_jet : MethodName := ⟨RX7, "jet", "(IIII)I"⟩
abbrev cX7_figure : ByteArray := prog_1_method_4_code
def yX7_figure : MethodName := ⟨RX7, "figure", "()I"⟩
abbrev cX7_step : ByteArray := prog_1_method_5_code
def yX7_step : MethodName := ⟨RX7, "step", "(IIII)I"⟩
abbrev cX7_wind : ByteArray := prog_1_method_6_code
def yX7_wind : MethodName := ⟨RX7, "wind", "(II)I"⟩
abbrev cX7_valve : ByteArray := prog_1_method_7_code
def yX7_valve : MethodName := ⟨RX7, "valve", "(II)I"⟩
abbrev cX7_setting : ByteArray := prog_1_method_8_code
def yX7_setting : MethodName := ⟨RX7, "setting", "(II)I"⟩
abbrev cX7_reset : ByteArray := prog_1_method_9_code
def yX7_reset : MethodName := ⟨RX7, "reset", "(I)I"⟩
abbrev cX7_lamp : ByteArray := prog_1_method_10_code
def yX7_lamp : MethodName := ⟨RX7, "lamp", "(IZ)Z"⟩
abbrev cX7_fault : ByteArray := prog_1_method_11_code
def yX7_fault : MethodName := ⟨RX7, "fault", "(IZZ)Z"⟩
abbrev cX7_swim : ByteArray := prog_1_method_12_code
def yX7_swim : MethodName := ⟨RX7, "swim", "(Z)Z"⟩
abbrev cX7_fill : ByteArray := prog_1_method_13_code
def yX7_fill : MethodName := ⟨RX7, "fill", "(I)I"⟩
abbrev cX7_call : ByteArray := prog_1_method_14_code
def yX7_call : MethodName := ⟨RX7, "call", "(II)I"⟩
abbrev cX7_pass : ByteArray := prog_1_method_15_code
def yX7_pass : MethodName := ⟨RX7, "pass", "(I)I"⟩
abbrev cX7_ofPump : ByteArray := prog_1_method_16_code
def yX7_ofPump : MethodName := ⟨RX7, "ofPump", "(II)I"⟩
abbrev cX7_ofJet : ByteArray := prog_1_method_17_code
def yX7_ofJet : MethodName := ⟨RX7, "ofJet", "(II)I"⟩
abbrev cX7_falls : ByteArray := prog_1_method_18_code
def yX7_falls : MethodName := ⟨RX7, "falls", "(I)I"⟩
abbrev cX7_open : ByteArray := prog_1_method_19_code
def yX7_open : MethodName := ⟨RX7, "open", "(I)I"⟩
abbrev cX7_many : ByteArray := prog_1_method_20_code
def yX7_many : MethodName := ⟨RX7, "many", "(I)I"⟩
abbrev cX7_meanHeight : ByteArray := prog_1_method_21_code
def yX7_meanHeight : MethodName := ⟨RX7, "meanHeight", "()D"⟩
abbrev cX7_heightIn : ByteArray := prog_1_method_22_code
def yX7_heightIn : MethodName := ⟨RX7, "heightIn", "(II)I"⟩
abbrev cX7_settingFor : ByteArray := prog_1_method_23_code
def yX7_settingFor : MethodName := ⟨RX7, "settingFor", "(II)I"⟩
abbrev cX7_leadFor : ByteArray := prog_1_method_24_code
def yX7_leadFor : MethodName := ⟨RX7, "leadFor", "(II)I"⟩
abbrev cX7_would : ByteArray := prog_1_method_25_code
def yX7_would : MethodName := ⟨RX7, "would", "(II)I"⟩
abbrev cX7_digest : ByteArray := prog_1_method_26_code
def yX7_digest : MethodName := ⟨RX7, "digest", "()J"⟩
abbrev cX7_pumpNumbered : ByteArray := prog_1_method_27_code
def yX7_pumpNumbered : MethodName := ⟨RX7, "pumpNumbered", "(I)LJetWaltz$Pump;"⟩
abbrev cX7_jetNumbered : ByteArray := prog_1_method_28_code
def yX7_jetNumbered : MethodName := ⟨RX7, "jetNumbered", "(I)LJetWaltz$Jet;"⟩
abbrev cX7_figureNumbered : ByteArray := prog_1_method_29_code
def yX7_figureNumbered : MethodName := ⟨RX7, "figureNumbered", "(I)LJetWaltz$Figure;"⟩
abbrev cX7_isValue : ByteArray := prog_1_method_30_code
def yX7_isValue : MethodName := ⟨RX7, "isValue", "(I)Z"⟩
abbrev cX7_pressureBy : ByteArray := prog_1_method_31_code
def yX7_pressureBy : MethodName := ⟨RX7, "pressureBy", "(III)I"⟩
abbrev cX7_heightBy : ByteArray := prog_1_method_32_code
def yX7_heightBy : MethodName := ⟨RX7, "heightBy", "(II)I"⟩
abbrev cX7_airTime : ByteArray := prog_1_method_33_code
def yX7_airTime : MethodName := ⟨RX7, "airTime", "(I)I"⟩
abbrev cX7_nearer : ByteArray := prog_1_method_34_code
def yX7_nearer : MethodName := ⟨RX7, "nearer", "(II)I"⟩
def RX8 : String := "JetWaltzModel$Basin"
def TX8 : u_T := fun k => match k with
  | _ => ("", "", "", false)
def tyX8 : Nat → FieldType := fun k => match k with
  | _ => .int
abbrev wsX80 : List Cond := u_ws RX8 TX8 0
theorem nmX8 : ∀ a, a < 0 → ∀ b, b < 0 → a ≠ b → (TX8 a).2.1 ≠ (TX8 b).2.1 := by decide +kernel
theorem tyX8_ok : ∀ k, k < 0 → parseFieldDescriptor (TX8 k).2.2.1 = some (tyX8 k) := by decide +kernel
def RX9 : String := "JetWaltzModel$Call"
def TX9 : u_T := fun k => match k with
  | _ => ("", "", "", false)
def tyX9 : Nat → FieldType := fun k => match k with
  | _ => .int
abbrev wsX90 : List Cond := u_ws RX9 TX9 0
theorem nmX9 : ∀ a, a < 0 → ∀ b, b < 0 → a ≠ b → (TX9 a).2.1 ≠ (TX9 b).2.1 := by decide +kernel
theorem tyX9_ok : ∀ k, k < 0 → parseFieldDescriptor (TX9 k).2.2.1 = some (tyX9 k) := by decide +kernel
def RX10 : String := "JetWaltzModel$Jet"
def TX10 : u_T := fun k => match k with
  | _ => ("", "", "", false)
def tyX10 : Nat → FieldType := fun k => match k with
  | _ => .int
abbrev wsX100 : List Cond := u_ws RX10 TX10 0
theorem nmX10 : ∀ a, a < 0 → ∀ b, b < 0 → a ≠ b → (TX10 a).2.1 ≠ (TX10 b).2.1 := by decide +kernel
theorem tyX10_ok : ∀ k, k < 0 → parseFieldDescriptor (TX10 k).2.2.1 = some (tyX10 k) := by decide +kernel
def RX11 : String := "JetWaltzModel$Pump"
def TX11 : u_T := fun k => match k with
  | _ => ("", "", "", false)
def tyX11 : Nat → FieldType := fun k => match k with
  | _ => .int
abbrev wsX110 : List Cond := u_ws RX11 TX11 0
theorem nmX11 : ∀ a, a < 0 → ∀ b, b < 0 → a ≠ b → (TX11 a).2.1 ≠ (TX11 b).2.1 := by decide +kernel
theorem tyX11_ok : ∀ k, k < 0 → parseFieldDescriptor (TX11 k).2.2.1 = some (tyX11 k) := by decide +kernel
def RX12 : String := "JetWaltzModel"
def TX12 : u_T := fun k => match k with
  | _ => ("", "", "", false)
def tyX12 : Nat → FieldType := fun k => match k with
  | _ => .int
abbrev wsX120 : List Cond := u_ws RX12 TX12 0
theorem nmX12 : ∀ a, a < 0 → ∀ b, b < 0 → a ≠ b → (TX12 a).2.1 ≠ (TX12 b).2.1 := by decide +kernel
theorem tyX12_ok : ∀ k, k < 0 → parseFieldDescriptor (TX12 k).2.2.1 = some (tyX12 k) := by decide +kernel
def RJx145de : String := "java/io/Serializable"
def TJx145de : u_T := fun k => match k with
  | _ => ("", "", "", false)
def tyJx145de : Nat → FieldType := fun k => match k with
  | _ => .int
abbrev wsJx145de0 : List Cond := u_ws RJx145de TJx145de 0
theorem nmJx145de : ∀ a, a < 0 → ∀ b, b < 0 → a ≠ b → (TJx145de a).2.1 ≠ (TJx145de b).2.1 := by decide +kernel
theorem tyJx145de_ok : ∀ k, k < 0 → parseFieldDescriptor (TJx145de k).2.2.1 = some (tyJx145de k) := by decide +kernel
def RJx8e188 : String := "java/lang/Cloneable"
def TJx8e188 : u_T := fun k => match k with
  | _ => ("", "", "", false)
def tyJx8e188 : Nat → FieldType := fun k => match k with
  | _ => .int
abbrev wsJx8e1880 : List Cond := u_ws RJx8e188 TJx8e188 0
theorem nmJx8e188 : ∀ a, a < 0 → ∀ b, b < 0 → a ≠ b → (TJx8e188 a).2.1 ≠ (TJx8e188 b).2.1 := by decide +kernel
theorem tyJx8e188_ok : ∀ k, k < 0 → parseFieldDescriptor (TJx8e188 k).2.2.1 = some (tyJx8e188 k) := by decide +kernel
def RJ6 : String := "java/lang/Integer"
def TJ6 : u_T := fun k => match k with
  | _ => ("", "", "", false)
def tyJ6 : Nat → FieldType := fun k => match k with
  | _ => .int
abbrev wsJ60 : List Cond := u_ws RJ6 TJ6 0
theorem nmJ6 : ∀ a, a < 0 → ∀ b, b < 0 → a ≠ b → (TJ6 a).2.1 ≠ (TJ6 b).2.1 := by decide +kernel
theorem tyJ6_ok : ∀ k, k < 0 → parseFieldDescriptor (TJ6 k).2.2.1 = some (tyJ6 k) := by decide +kernel
abbrev cJ6_bitCount_0f7a4 : ByteArray := prog_21_method_49_code
def yJ6_bitCount_0f7a4 : MethodName := ⟨RJ6, "bitCount", "(I)I"⟩
def RJxab1ab : String := "java/lang/Iterable"
def TJxab1ab : u_T := fun k => match k with
  | _ => ("", "", "", false)
def tyJxab1ab : Nat → FieldType := fun k => match k with
  | _ => .int
abbrev wsJxab1ab0 : List Cond := u_ws RJxab1ab TJxab1ab 0
theorem nmJxab1ab : ∀ a, a < 0 → ∀ b, b < 0 → a ≠ b → (TJxab1ab a).2.1 ≠ (TJxab1ab b).2.1 := by decide +kernel
theorem tyJxab1ab_ok : ∀ k, k < 0 → parseFieldDescriptor (TJxab1ab k).2.2.1 = some (tyJxab1ab k) := by decide +kernel
def RJ9 : String := "java/lang/Math"
def TJ9 : u_T := fun k => match k with
  | _ => ("", "", "", false)
def tyJ9 : Nat → FieldType := fun k => match k with
  | _ => .int
abbrev wsJ90 : List Cond := u_ws RJ9 TJ9 0
theorem nmJ9 : ∀ a, a < 0 → ∀ b, b < 0 → a ≠ b → (TJ9 a).2.1 ≠ (TJ9 b).2.1 := by decide +kernel
theorem tyJ9_ok : ∀ k, k < 0 → parseFieldDescriptor (TJ9 k).2.2.1 = some (tyJ9 k) := by decide +kernel
abbrev cJ9_floorDiv_7cf53 : ByteArray := prog_23_method_47_code
def yJ9_floorDiv_7cf53 : MethodName := ⟨RJ9, "floorDiv", "(II)I"⟩
abbrev cJ9_floorMod_7cf53 : ByteArray := prog_23_method_50_code
def yJ9_floorMod_7cf53 : MethodName := ⟨RJ9, "floorMod", "(II)I"⟩
abbrev cJ9_abs_0f7a4 : ByteArray := prog_23_method_59_code
def yJ9_abs_0f7a4 : MethodName := ⟨RJ9, "abs", "(I)I"⟩
abbrev cJ9_max_7cf53 : ByteArray := prog_23_method_65_code
def yJ9_max_7cf53 : MethodName := ⟨RJ9, "max", "(II)I"⟩
abbrev cJ9_min_7cf53 : ByteArray := prog_23_method_69_code
def yJ9_min_7cf53 : MethodName := ⟨RJ9, "min", "(II)I"⟩
def RJ0 : String := "java/lang/String"
def TJ0 : u_T := fun k => match k with
  | _ => ("", "", "", false)
def tyJ0 : Nat → FieldType := fun k => match k with
  | _ => .int
abbrev wsJ00 : List Cond := u_ws RJ0 TJ0 0
theorem nmJ0 : ∀ a, a < 0 → ∀ b, b < 0 → a ≠ b → (TJ0 a).2.1 ≠ (TJ0 b).2.1 := by decide +kernel
theorem tyJ0_ok : ∀ k, k < 0 → parseFieldDescriptor (TJ0 k).2.2.1 = some (tyJ0 k) := by decide +kernel
def RJ10 : String := "java/lang/System"
def TJ10 : u_T := fun k => match k with
  | _ => ("", "", "", false)
def tyJ10 : Nat → FieldType := fun k => match k with
  | _ => .int
abbrev wsJ100 : List Cond := u_ws RJ10 TJ10 0
theorem nmJ10 : ∀ a, a < 0 → ∀ b, b < 0 → a ≠ b → (TJ10 a).2.1 ≠ (TJ10 b).2.1 := by decide +kernel
theorem tyJ10_ok : ∀ k, k < 0 → parseFieldDescriptor (TJ10 k).2.2.1 = some (tyJ10 k) := by decide +kernel
def RJxa1e45 : String := "java/util/AbstractCollection"
def TJxa1e45 : u_T := fun k => match k with
  | _ => ("", "", "", false)
def tyJxa1e45 : Nat → FieldType := fun k => match k with
  | _ => .int
abbrev wsJxa1e450 : List Cond := u_ws RJxa1e45 TJxa1e45 0
theorem nmJxa1e45 : ∀ a, a < 0 → ∀ b, b < 0 → a ≠ b → (TJxa1e45 a).2.1 ≠ (TJxa1e45 b).2.1 := by decide +kernel
theorem tyJxa1e45_ok : ∀ k, k < 0 → parseFieldDescriptor (TJxa1e45 k).2.2.1 = some (tyJxa1e45 k) := by decide +kernel
abbrev cJxa1e45_init_da8c8 : ByteArray := prog_28_method_1_code
def yJxa1e45_init_da8c8 : MethodName := ⟨RJxa1e45, "<init>", "()V"⟩
def RJxc12de : String := "java/util/AbstractList"
def TJxc12de : u_T := fun k => match k with
  | _ => ("", "", "", false)
def tyJxc12de : Nat → FieldType := fun k => match k with
  | _ => .int
abbrev wsJxc12de0 : List Cond := u_ws RJxc12de TJxc12de 0
theorem nmJxc12de : ∀ a, a < 0 → ∀ b, b < 0 → a ≠ b → (TJxc12de a).2.1 ≠ (TJxc12de b).2.1 := by decide +kernel
theorem tyJxc12de_ok : ∀ k, k < 0 → parseFieldDescriptor (TJxc12de k).2.2.1 = some (tyJxc12de k) := by decide +kernel
abbrev cJxc12de_init_da8c8 : ByteArray := prog_29_method_1_code
def yJxc12de_init_da8c8 : MethodName := ⟨RJxc12de, "<init>", "()V"⟩
def RJx4a65c : String := "java/util/ArrayList"
def TJx4a65c : u_T := fun k => match k with
  | 0 => ("java/util/AbstractList", "modCount", "I", false)
  | 1 => ("java/util/ArrayList", "elementData", "[Ljava/lang/Object;", false)
  | _ => ("java/util/ArrayList", "size", "I", false)
def tyJx4a65c : Nat → FieldType := fun k => match k with
  | 0 => .int
  | 1 => .array (.object "java/lang/Object")
  | _ => .int
abbrev wsJx4a65c0 : List Cond := u_ws RJx4a65c TJx4a65c 3
theorem nmJx4a65c : ∀ a, a < 3 → ∀ b, b < 3 → a ≠ b → (TJx4a65c a).2.1 ≠ (TJx4a65c b).2.1 := by decide +kernel
theorem tyJx4a65c_ok : ∀ k, k < 3 → parseFieldDescriptor (TJx4a65c k).2.2.1 = some (tyJx4a65c k) := by decide +kernel
abbrev cJx4a65c_init_da8c8 : ByteArray := prog_30_method_2_code
def yJx4a65c_init_da8c8 : MethodName := ⟨RJx4a65c, "<init>", "()V"⟩
abbrev cJx4a65c_grow_92f84 : ByteArray := prog_30_method_6_code
def yJx4a65c_grow_92f84 : MethodName := ⟨RJx4a65c, "grow", "(I)[Ljava/lang/Object;"⟩
abbrev cJx4a65c_grow_d5877 : ByteArray := prog_30_method_7_code
def yJx4a65c_grow_d5877 : MethodName := ⟨RJx4a65c, "grow", "()[Ljava/lang/Object;"⟩
abbrev cJx4a65c_size_8abf5 : ByteArray := prog_30_method_8_code
def yJx4a65c_size_8abf5 : MethodName := ⟨RJx4a65c, "size", "()I"⟩
abbrev cJx4a65c_elementData_915e3 : ByteArray := prog_30_method_18_code
def yJx4a65c_elementData_915e3 : MethodName := ⟨RJx4a65c, "elementData", "(I)Ljava/lang/Object;"⟩
abbrev cJx4a65c_get_915e3 : ByteArray := prog_30_method_20_code
def yJx4a65c_get_915e3 : MethodName := ⟨RJx4a65c, "get", "(I)Ljava/lang/Object;"⟩
abbrev cJx4a65c_add_72be8 : ByteArray := prog_30_method_24_code
def yJx4a65c_add_72be8 : MethodName := ⟨RJx4a65c, "add", "(Ljava/lang/Object;[Ljava/lang/Object;I)V"⟩
abbrev cJx4a65c_add_9ea2d : ByteArray := prog_30_method_25_code
def yJx4a65c_add_9ea2d : MethodName := ⟨RJx4a65c, "add", "(Ljava/lang/Object;)Z"⟩
def RJ7 : String := "java/util/Arrays"
def TJ7 : u_T := fun k => match k with
  | _ => ("", "", "", false)
def tyJ7 : Nat → FieldType := fun k => match k with
  | _ => .int
abbrev wsJ70 : List Cond := u_ws RJ7 TJ7 0
theorem nmJ7 : ∀ a, a < 0 → ∀ b, b < 0 → a ≠ b → (TJ7 a).2.1 ≠ (TJ7 b).2.1 := by decide +kernel
theorem tyJ7_ok : ∀ k, k < 0 → parseFieldDescriptor (TJ7 k).2.2.1 = some (tyJ7 k) := by decide +kernel
abbrev cJ7_copyOf_1904c : ByteArray := prog_31_method_119_code
def yJ7_copyOf_1904c : MethodName := ⟨RJ7, "copyOf", "([Ljava/lang/Object;I)[Ljava/lang/Object;"⟩
abbrev cJ7_copyOf_6403c : ByteArray := prog_31_method_120_code
def yJ7_copyOf_6403c : MethodName := ⟨RJ7, "copyOf", "([Ljava/lang/Object;ILjava/lang/Class;)[Ljava/lang/Object;"⟩
def RJx5ef63 : String := "java/util/Collection"
def TJx5ef63 : u_T := fun k => match k with
  | _ => ("", "", "", false)
def tyJx5ef63 : Nat → FieldType := fun k => match k with
  | _ => .int
abbrev wsJx5ef630 : List Cond := u_ws RJx5ef63 TJx5ef63 0
theorem nmJx5ef63 : ∀ a, a < 0 → ∀ b, b < 0 → a ≠ b → (TJx5ef63 a).2.1 ≠ (TJx5ef63 b).2.1 := by decide +kernel
theorem tyJx5ef63_ok : ∀ k, k < 0 → parseFieldDescriptor (TJx5ef63 k).2.2.1 = some (tyJx5ef63 k) := by decide +kernel
def RJxbd725 : String := "java/util/List"
def TJxbd725 : u_T := fun k => match k with
  | _ => ("", "", "", false)
def tyJxbd725 : Nat → FieldType := fun k => match k with
  | _ => .int
abbrev wsJxbd7250 : List Cond := u_ws RJxbd725 TJxbd725 0
theorem nmJxbd725 : ∀ a, a < 0 → ∀ b, b < 0 → a ≠ b → (TJxbd725 a).2.1 ≠ (TJxbd725 b).2.1 := by decide +kernel
theorem tyJxbd725_ok : ∀ k, k < 0 → parseFieldDescriptor (TJxbd725 k).2.2.1 = some (tyJxbd725 k) := by decide +kernel
def RJ15 : String := "java/util/Objects"
def TJ15 : u_T := fun k => match k with
  | _ => ("", "", "", false)
def tyJ15 : Nat → FieldType := fun k => match k with
  | _ => .int
abbrev wsJ150 : List Cond := u_ws RJ15 TJ15 0
theorem nmJ15 : ∀ a, a < 0 → ∀ b, b < 0 → a ≠ b → (TJ15 a).2.1 ≠ (TJ15 b).2.1 := by decide +kernel
theorem tyJ15_ok : ∀ k, k < 0 → parseFieldDescriptor (TJ15 k).2.2.1 = some (tyJ15 k) := by decide +kernel
abbrev cJ15_checkIndex_7cf53 : ByteArray := prog_34_method_17_code
def yJ15_checkIndex_7cf53 : MethodName := ⟨RJ15, "checkIndex", "(II)I"⟩
def RJxf0a74 : String := "java/util/RandomAccess"
def TJxf0a74 : u_T := fun k => match k with
  | _ => ("", "", "", false)
def tyJxf0a74 : Nat → FieldType := fun k => match k with
  | _ => .int
abbrev wsJxf0a740 : List Cond := u_ws RJxf0a74 TJxf0a74 0
theorem nmJxf0a74 : ∀ a, a < 0 → ∀ b, b < 0 → a ≠ b → (TJxf0a74 a).2.1 ≠ (TJxf0a74 b).2.1 := by decide +kernel
theorem tyJxf0a74_ok : ∀ k, k < 0 → parseFieldDescriptor (TJxf0a74 k).2.2.1 = some (tyJxf0a74 k) := by decide +kernel
def RJxa66e6 : String := "java/util/SequencedCollection"
def TJxa66e6 : u_T := fun k => match k with
  | _ => ("", "", "", false)
def tyJxa66e6 : Nat → FieldType := fun k => match k with
  | _ => .int
abbrev wsJxa66e60 : List Cond := u_ws RJxa66e6 TJxa66e6 0
theorem nmJxa66e6 : ∀ a, a < 0 → ∀ b, b < 0 → a ≠ b → (TJxa66e6 a).2.1 ≠ (TJxa66e6 b).2.1 := by decide +kernel
theorem tyJxa66e6_ok : ∀ k, k < 0 → parseFieldDescriptor (TJxa66e6 k).2.2.1 = some (tyJxa66e6 k) := by decide +kernel
def RJ8 : String := "jdk/internal/util/ArraysSupport"
def TJ8 : u_T := fun k => match k with
  | _ => ("", "", "", false)
def tyJ8 : Nat → FieldType := fun k => match k with
  | _ => .int
abbrev wsJ80 : List Cond := u_ws RJ8 TJ8 0
theorem nmJ8 : ∀ a, a < 0 → ∀ b, b < 0 → a ≠ b → (TJ8 a).2.1 ≠ (TJ8 b).2.1 := by decide +kernel
theorem tyJ8_ok : ∀ k, k < 0 → parseFieldDescriptor (TJ8 k).2.2.1 = some (tyJ8 k) := by decide +kernel
abbrev cJ8_newLength_cabcc : ByteArray := prog_37_method_27_code
def yJ8_newLength_cabcc : MethodName := ⟨RJ8, "newLength", "(III)I"⟩
abbrev cJ8_hugeLength_7cf53 : ByteArray := prog_37_method_28_code
def yJ8_hugeLength_7cf53 : MethodName := ⟨RJ8, "hugeLength", "(II)I"⟩
def RJ3 : String := "jdk/internal/util/Preconditions"
def TJ3 : u_T := fun k => match k with
  | _ => ("", "", "", false)
def tyJ3 : Nat → FieldType := fun k => match k with
  | _ => .int
abbrev wsJ30 : List Cond := u_ws RJ3 TJ3 0
theorem nmJ3 : ∀ a, a < 0 → ∀ b, b < 0 → a ≠ b → (TJ3 a).2.1 ≠ (TJ3 b).2.1 := by decide +kernel
theorem tyJ3_ok : ∀ k, k < 0 → parseFieldDescriptor (TJ3 k).2.2.1 = some (tyJ3 k) := by decide +kernel
abbrev cJ3_checkIndex_8e157 : ByteArray := prog_38_method_11_code
def yJ3_checkIndex_8e157 : MethodName := ⟨RJ3, "checkIndex", "(IILjava/util/function/BiFunction;)I"⟩
def RL : String := "JetWaltzLaw"
abbrev cL_below : ByteArray := method_2_code
def yL_below : MethodName := ⟨RL, "below", "(II)I"⟩
abbrev cL_cell : ByteArray := method_3_code
def yL_cell : MethodName := ⟨RL, "cell", "([II)I"⟩
abbrev cL_law : ByteArray := code
def yL_law : MethodName := ⟨RL, "law", "([I)Z"⟩
abbrev cL_isLeast : ByteArray := method_5_code
def yL_isLeast : MethodName := ⟨RL, "isLeast", "(LJetWaltz;III)Z"⟩
abbrev cL_isPassed : ByteArray := method_6_code
def yL_isPassed : MethodName := ⟨RL, "isPassed", "(LJetWaltz;I[ZI)Z"⟩
abbrev vwCl : List vw_C := [(RJx4a65c, TJx4a65c, 3), (RX0, TX0, 3), (RX1, TX1, 3), (RX2, TX2, 1), (RX3, TX3, 10), (RX4, TX4, 6), (RX5, TX5, 15), (RX6, TX6, 3), (RX7, TX7, 3)]
