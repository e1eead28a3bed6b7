section
-- ===== PART A: goes FIRST, ahead of the names: the tables' words, and 'selects' of the private methods out of them =====
/-- a private method of a class that the tables say can be made, by its rows of tables_1 -/
def lw_okq (q : MethodName × Nat) : Prop := (q.1.cls ≠ "java/lang/invoke/MethodHandle" ∧ q.1.cls ≠ "java/lang/invoke/VarHandle") ∧ Cond.instantiable q.1.cls q.2 ∈ tables_1 ∧ Cond.privateMethod q.1 ∈ tables_1 ∧ Cond.instanceMethod q.1 ∈ tables_1
theorem lw_p0 : lw_okq (⟨"java/lang/Throwable", "fillInStackTrace", "(I)Ljava/lang/Throwable;"⟩, 6) := ⟨⟨by decide +kernel, by decide +kernel⟩, List.mem_of_getElem? (i := 198) (by decide +kernel), List.mem_of_getElem? (i := 196) (by decide +kernel), List.mem_of_getElem? (i := 197) (by decide +kernel)⟩
theorem lw_p1 : lw_okq (⟨"java/util/ArrayList", "add", "(Ljava/lang/Object;[Ljava/lang/Object;I)V"⟩, 3) := ⟨⟨by decide +kernel, by decide +kernel⟩, List.mem_of_getElem? (i := 34) (by decide +kernel), List.mem_of_getElem? (i := 285) (by decide +kernel), List.mem_of_getElem? (i := 286) (by decide +kernel)⟩
theorem lw_p2 : lw_okq (⟨"java/util/ArrayList", "grow", "()[Ljava/lang/Object;"⟩, 3) := ⟨⟨by decide +kernel, by decide +kernel⟩, List.mem_of_getElem? (i := 34) (by decide +kernel), List.mem_of_getElem? (i := 289) (by decide +kernel), List.mem_of_getElem? (i := 290) (by decide +kernel)⟩
theorem lw_p3 : lw_okq (⟨"java/util/ArrayList", "grow", "(I)[Ljava/lang/Object;"⟩, 3) := ⟨⟨by decide +kernel, by decide +kernel⟩, List.mem_of_getElem? (i := 34) (by decide +kernel), List.mem_of_getElem? (i := 293) (by decide +kernel), List.mem_of_getElem? (i := 294) (by decide +kernel)⟩
theorem lw_p4 : lw_okq (⟨"JetWaltz", "pumpNumbered", "(I)LJetWaltz$Pump;"⟩, 3) := ⟨⟨by decide +kernel, by decide +kernel⟩, List.mem_of_getElem? (i := 26) (by decide +kernel), List.mem_of_getElem? (i := 344) (by decide +kernel), List.mem_of_getElem? (i := 345) (by decide +kernel)⟩
theorem lw_p5 : lw_okq (⟨"JetWaltz", "figureNumbered", "(I)LJetWaltz$Figure;"⟩, 3) := ⟨⟨by decide +kernel, by decide +kernel⟩, List.mem_of_getElem? (i := 26) (by decide +kernel), List.mem_of_getElem? (i := 465) (by decide +kernel), List.mem_of_getElem? (i := 466) (by decide +kernel)⟩
theorem lw_p6 : lw_okq (⟨"JetWaltz", "jetNumbered", "(I)LJetWaltz$Jet;"⟩, 3) := ⟨⟨by decide +kernel, by decide +kernel⟩, List.mem_of_getElem? (i := 26) (by decide +kernel), List.mem_of_getElem? (i := 502) (by decide +kernel), List.mem_of_getElem? (i := 503) (by decide +kernel)⟩
theorem lw_p7 : lw_okq (⟨"JetWaltz$Show", "lampsOff", "()V"⟩, 15) := ⟨⟨by decide +kernel, by decide +kernel⟩, List.mem_of_getElem? (i := 60) (by decide +kernel), List.mem_of_getElem? (i := 542) (by decide +kernel), List.mem_of_getElem? (i := 543) (by decide +kernel)⟩
theorem lw_p8 : lw_okq (⟨"JetWaltz$Show", "windWithGust", "()I"⟩, 15) := ⟨⟨by decide +kernel, by decide +kernel⟩, List.mem_of_getElem? (i := 60) (by decide +kernel), List.mem_of_getElem? (i := 628) (by decide +kernel), List.mem_of_getElem? (i := 629) (by decide +kernel)⟩
theorem lw_p9 : lw_okq (⟨"JetWaltz$Show", "doStepsDue", "()V"⟩, 15) := ⟨⟨by decide +kernel, by decide +kernel⟩, List.mem_of_getElem? (i := 60) (by decide +kernel), List.mem_of_getElem? (i := 705) (by decide +kernel), List.mem_of_getElem? (i := 706) (by decide +kernel)⟩
theorem lw_p10 : lw_okq (⟨"JetWaltz$Show", "doStep", "(LJetWaltz$Step;I)V"⟩, 15) := ⟨⟨by decide +kernel, by decide +kernel⟩, List.mem_of_getElem? (i := 60) (by decide +kernel), List.mem_of_getElem? (i := 712) (by decide +kernel), List.mem_of_getElem? (i := 713) (by decide +kernel)⟩
theorem lw_p11 : lw_okq (⟨"JetWaltz$Show", "turnDrivesAndValves", "()V"⟩, 15) := ⟨⟨by decide +kernel, by decide +kernel⟩, List.mem_of_getElem? (i := 60) (by decide +kernel), List.mem_of_getElem? (i := 728) (by decide +kernel), List.mem_of_getElem? (i := 729) (by decide +kernel)⟩
theorem lw_p12 : lw_okq (⟨"JetWaltz$Show", "letFall", "()I"⟩, 15) := ⟨⟨by decide +kernel, by decide +kernel⟩, List.mem_of_getElem? (i := 60) (by decide +kernel), List.mem_of_getElem? (i := 744) (by decide +kernel), List.mem_of_getElem? (i := 745) (by decide +kernel)⟩
theorem lw_p13 : lw_okq (⟨"JetWaltz$Show", "throwWater", "()V"⟩, 15) := ⟨⟨by decide +kernel, by decide +kernel⟩, List.mem_of_getElem? (i := 60) (by decide +kernel), List.mem_of_getElem? (i := 769) (by decide +kernel), List.mem_of_getElem? (i := 770) (by decide +kernel)⟩
theorem lw_p14 : lw_okq (⟨"JetWaltz$Show", "useEnergy", "()V"⟩, 15) := ⟨⟨by decide +kernel, by decide +kernel⟩, List.mem_of_getElem? (i := 60) (by decide +kernel), List.mem_of_getElem? (i := 779) (by decide +kernel), List.mem_of_getElem? (i := 780) (by decide +kernel)⟩
theorem lw_p15 : lw_okq (⟨"JetWaltz$Show", "tripPumpsRunningDry", "()V"⟩, 15) := ⟨⟨by decide +kernel, by decide +kernel⟩, List.mem_of_getElem? (i := 60) (by decide +kernel), List.mem_of_getElem? (i := 790) (by decide +kernel), List.mem_of_getElem? (i := 791) (by decide +kernel)⟩
def lw_privs_1 : List (MethodName × Nat) := [(⟨"java/lang/Throwable", "fillInStackTrace", "(I)Ljava/lang/Throwable;"⟩, 6), (⟨"java/util/ArrayList", "add", "(Ljava/lang/Object;[Ljava/lang/Object;I)V"⟩, 3), (⟨"java/util/ArrayList", "grow", "()[Ljava/lang/Object;"⟩, 3), (⟨"java/util/ArrayList", "grow", "(I)[Ljava/lang/Object;"⟩, 3), (⟨"JetWaltz", "pumpNumbered", "(I)LJetWaltz$Pump;"⟩, 3), (⟨"JetWaltz", "figureNumbered", "(I)LJetWaltz$Figure;"⟩, 3), (⟨"JetWaltz", "jetNumbered", "(I)LJetWaltz$Jet;"⟩, 3), (⟨"JetWaltz$Show", "lampsOff", "()V"⟩, 15), (⟨"JetWaltz$Show", "windWithGust", "()I"⟩, 15), (⟨"JetWaltz$Show", "doStepsDue", "()V"⟩, 15), (⟨"JetWaltz$Show", "doStep", "(LJetWaltz$Step;I)V"⟩, 15), (⟨"JetWaltz$Show", "turnDrivesAndValves", "()V"⟩, 15), (⟨"JetWaltz$Show", "letFall", "()I"⟩, 15), (⟨"JetWaltz$Show", "throwWater", "()V"⟩, 15), (⟨"JetWaltz$Show", "useEnergy", "()V"⟩, 15), (⟨"JetWaltz$Show", "tripPumpsRunningDry", "()V"⟩, 15)]
theorem lw_r1 : ∀ q ∈ lw_privs_1, lw_okq q := List.forall_mem_cons.mpr ⟨lw_p0, List.forall_mem_cons.mpr ⟨lw_p1, List.forall_mem_cons.mpr ⟨lw_p2, List.forall_mem_cons.mpr ⟨lw_p3, List.forall_mem_cons.mpr ⟨lw_p4, List.forall_mem_cons.mpr ⟨lw_p5, List.forall_mem_cons.mpr ⟨lw_p6, List.forall_mem_cons.mpr ⟨lw_p7, List.forall_mem_cons.mpr ⟨lw_p8, List.forall_mem_cons.mpr ⟨lw_p9, List.forall_mem_cons.mpr ⟨lw_p10, List.forall_mem_cons.mpr ⟨lw_p11, List.forall_mem_cons.mpr ⟨lw_p12, List.forall_mem_cons.mpr ⟨lw_p13, List.forall_mem_cons.mpr ⟨lw_p14, List.forall_mem_cons.mpr ⟨lw_p15, fun _ h => absurd h List.not_mem_nil⟩⟩⟩⟩⟩⟩⟩⟩⟩⟩⟩⟩⟩⟩⟩⟩
theorem lw_p16 : lw_okq (⟨"JetWaltz$Show", "shortLamps", "()V"⟩, 15) := ⟨⟨by decide +kernel, by decide +kernel⟩, List.mem_of_getElem? (i := 60) (by decide +kernel), List.mem_of_getElem? (i := 798) (by decide +kernel), List.mem_of_getElem? (i := 799) (by decide +kernel)⟩
def lw_privs_2 : List (MethodName × Nat) := [(⟨"JetWaltz$Show", "shortLamps", "()V"⟩, 15)]
theorem lw_r2 : ∀ q ∈ lw_privs_2, lw_okq q := List.forall_mem_cons.mpr ⟨lw_p16, fun _ h => absurd h List.not_mem_nil⟩
def lw_privs : List (MethodName × Nat) := lw_privs_1 ++ (lw_privs_2)
def lw_tbl : List Cond := k2_sels lw_privs ++ tables_1
theorem lw_privs_ok : ∀ q ∈ lw_privs, lw_okq q := by
  show ∀ q ∈ lw_privs_1 ++ (lw_privs_2), lw_okq q
  exact List.forall_mem_append.mpr ⟨lw_r1, lw_r2⟩
/-- the streams that the claim lets the run draw from -/
abbrev lw_cs : List Choice := [Jvm.Choice.named "NaN.bits"]
theorem lw_bits : nanBits ∈ lw_cs := by first | decide | exact List.mem_cons_self | simp [lw_cs, nanBits]
/-! ===== BEGIN words of one list among another's, by their places ===== -/
theorem goodIn_r {big : List Cond} (ws : List Cond) (ps : List Nat) (hp : ws = ps.filterMap (fun i => big[i]?)) (h : ws.all goodWord = true) : GoodIn big ws := by
  intro w hw
  have h1 := List.all_eq_true.mp h w hw
  rw [hp] at hw
  obtain ⟨i, -, hi⟩ := List.mem_filterMap.mp hw
  have hm : w ∈ big := by first | exact List.mem_of_getElem? hi | exact List.getElem?_mem hi
  exact ⟨hm, good_of_word h1⟩
theorem goodIn_app {big a b : List Cond} (ha : GoodIn big a) (hb : GoodIn big b) : GoodIn big (a ++ b) := fun w h => (List.mem_append.mp h).elim (ha w) (hb w)
theorem goodIn_ca {big a b : List Cond} {c : Cond} (ha : GoodIn big (c :: a)) (hb : GoodIn big b) : GoodIn big (c :: (a ++ b)) := fun w h => (List.mem_cons.mp h).elim (fun e => ha w (List.mem_cons.mpr (Or.inl e))) (fun h => (List.mem_append.mp h).elim (fun h => ha w (List.mem_cons.mpr (Or.inr h))) (hb w))
theorem goodIn_sub {big ws : List Cond} (hm : ∀ w ∈ ws, w ∈ big) (h : ws.all goodWord = true) : GoodIn big ws := fun w hw => ⟨hm w hw, good_of_word (List.all_eq_true.mp h w hw)⟩
/-! ===== END ===== -/
end
section
/-! names, fields, words: printed by program (claim/NAMES.whole); the pool, the lists of words and what stands on them left out -/
def RX0 : String := "JetWaltz$Air"
def TX0 : u_T := fun k => match k with
  | 0 => ("JetWaltz$Air", "basin", "[I", true)
  | 1 => ("JetWaltz$Air", "crowd", "[I", true)
  | _ => ("JetWaltz$Air", "beyond", "[I", true)
def tyX0 : Nat → FieldType := fun k => match k with
  | 0 => .array .int
  | 1 => .array .int
  | _ => .array .int
abbrev wsX00 : List Cond := u_ws RX0 TX0 3
theorem nmX0 : ∀ a, a < 3 → ∀ b, b < 3 → a ≠ b → (TX0 a).2.1 ≠ (TX0 b).2.1 := by decide +kernel
theorem tyX0_ok : ∀ k, k < 3 → parseFieldDescriptor (TX0 k).2.2.1 = some (tyX0 k) := by decide +kernel
abbrev cX0_init : ByteArray := prog_2_method_1_code
def yX0_init : MethodName := ⟨RX0, "<init>", "()V"⟩
abbrev cX0_slotOf : ByteArray := prog_2_method_2_code
def yX0_slotOf : MethodName := ⟨RX0, "slotOf", "(I)I"⟩
abbrev cX0_put : ByteArray := prog_2_method_3_code
def yX0_put : MethodName := ⟨RX0, "put", "(III)V"⟩
abbrev cX0_fallingIn : ByteArray := prog_2_method_4_code
def yX0_fallingIn : MethodName := ⟨RX0, "fallingIn", "(I)I"⟩
abbrev cX0_fallingOnBasin : ByteArray := prog_2_method_5_code
def yX0_fallingOnBasin : MethodName := ⟨RX0, "fallingOnBasin", "(I)I"⟩
abbrev cX0_fallingOnCrowd : ByteArray := prog_2_method_6_code
def yX0_fallingOnCrowd : MethodName := ⟨RX0, "fallingOnCrowd", "(I)I"⟩
abbrev cX0_clear : ByteArray := prog_2_method_7_code
def yX0_clear : MethodName := ⟨RX0, "clear", "(I)V"⟩
abbrev cX0_all : ByteArray := prog_2_method_8_code
def yX0_all : MethodName := ⟨RX0, "all", "()I"⟩
abbrev cX0_becomeLike : ByteArray := prog_2_method_9_code
def yX0_becomeLike : MethodName := ⟨RX0, "becomeLike", "(LJetWaltz$Air;)V"⟩
def RX1 : String := "JetWaltz$Call"
def TX1 : u_T := fun k => match k with
  | 0 => ("JetWaltz$Call", "steps", "Ljava/util/ArrayList;", true)
  | 1 => ("JetWaltz$Call", "shift", "I", true)
  | _ => ("JetWaltz$Call", "calledAt", "I", true)
def tyX1 : Nat → FieldType := fun k => match k with
  | 0 => .object "java/util/ArrayList"
  | 1 => .int
  | _ => .int
abbrev wsX10 : List Cond := u_ws RX1 TX1 3
theorem nmX1 : ∀ a, a < 3 → ∀ b, b < 3 → a ≠ b → (TX1 a).2.1 ≠ (TX1 b).2.1 := by decide +kernel
theorem tyX1_ok : ∀ k, k < 3 → parseFieldDescriptor (TX1 k).2.2.1 = some (tyX1 k) := by decide +kernel
abbrev cX1_init : ByteArray := prog_3_method_1_code
def yX1_init : MethodName := ⟨RX1, "<init>", "(Ljava/util/ArrayList;II)V"⟩
abbrev cX1_dueOf : ByteArray := prog_3_method_2_code
def yX1_dueOf : MethodName := ⟨RX1, "dueOf", "(LJetWaltz$Step;)I"⟩
abbrev cX1_stepsDueAfter : ByteArray := prog_3_method_3_code
def yX1_stepsDueAfter : MethodName := ⟨RX1, "stepsDueAfter", "(I)I"⟩
def RX2 : String := "JetWaltz$Figure"
def TX2 : u_T := fun k => match k with
  | _ => ("JetWaltz$Figure", "steps", "Ljava/util/ArrayList;", true)
def tyX2 : Nat → FieldType := fun k => match k with
  | _ => .object "java/util/ArrayList"
abbrev wsX20 : List Cond := u_ws RX2 TX2 1
theorem nmX2 : ∀ a, a < 1 → ∀ b, b < 1 → a ≠ b → (TX2 a).2.1 ≠ (TX2 b).2.1 := by decide +kernel
theorem tyX2_ok : ∀ k, k < 1 → parseFieldDescriptor (TX2 k).2.2.1 = some (tyX2 k) := by decide +kernel
abbrev cX2_init : ByteArray := prog_4_method_1_code
def yX2_init : MethodName := ⟨RX2, "<init>", "()V"⟩
abbrev cX2_stepsNow : ByteArray := prog_4_method_2_code
def yX2_stepsNow : MethodName := ⟨RX2, "stepsNow", "()Ljava/util/ArrayList;"⟩
def RX3 : String := "JetWaltz$Jet"
def TX3 : u_T := fun k => match k with
  | 0 => ("JetWaltz$Jet", "pump", "LJetWaltz$Pump;", true)
  | 1 => ("JetWaltz$Jet", "place", "I", true)
  | 2 => ("JetWaltz$Jet", "nozzle", "I", true)
  | 3 => ("JetWaltz$Jet", "slant", "I", true)
  | 4 => ("JetWaltz$Jet", "valveSet", "I", false)
  | 5 => ("JetWaltz$Jet", "valve", "I", false)
  | 6 => ("JetWaltz$Jet", "isStuck", "Z", false)
  | 7 => ("JetWaltz$Jet", "isLampOn", "Z", false)
  | 8 => ("JetWaltz$Jet", "leaks", "Z", false)
  | _ => ("JetWaltz$Jet", "thrown", "I", false)
def tyX3 : Nat → FieldType := fun k => match k with
  | 0 => .object "JetWaltz$Pump"
  | 1 => .int
  | 2 => .int
  | 3 => .int
  | 4 => .int
  | 5 => .int
  | 6 => .boolean
  | 7 => .boolean
  | 8 => .boolean
  | _ => .int
abbrev wsX30 : List Cond := u_ws RX3 TX3 10
theorem nmX3 : ∀ a, a < 10 → ∀ b, b < 10 → a ≠ b → (TX3 a).2.1 ≠ (TX3 b).2.1 := by decide +kernel
theorem tyX3_ok : ∀ k, k < 10 → parseFieldDescriptor (TX3 k).2.2.1 = some (tyX3 k) := by decide +kernel
abbrev cX3_init : ByteArray := prog_5_method_1_code
def yX3_init : MethodName := ⟨RX3, "<init>", "(LJetWaltz$Pump;III)V"⟩
abbrev cX3_flow : ByteArray := prog_5_method_2_code
def yX3_flow : MethodName := ⟨RX3, "flow", "()I"⟩
abbrev cX3_turn : ByteArray := prog_5_method_3_code
def yX3_turn : MethodName := ⟨RX3, "turn", "()V"⟩
abbrev cX3_isShorted : ByteArray := prog_5_method_4_code
def yX3_isShorted : MethodName := ⟨RX3, "isShorted", "()Z"⟩
abbrev cX3_obey : ByteArray := prog_5_method_5_code
def yX3_obey : MethodName := ⟨RX3, "obey", "(I)V"⟩
abbrev cX3_becomeLike : ByteArray := prog_5_method_6_code
def yX3_becomeLike : MethodName := ⟨RX3, "becomeLike", "(LJetWaltz$Jet;)V"⟩
def RX4 : String := "JetWaltz$Pump"
def TX4 : u_T := fun k => match k with
  | 0 => ("JetWaltz$Pump", "number", "I", true)
  | 1 => ("JetWaltz$Pump", "power", "I", true)
  | 2 => ("JetWaltz$Pump", "setting", "I", false)
  | 3 => ("JetWaltz$Pump", "drive", "I", false)
  | 4 => ("JetWaltz$Pump", "isTripped", "Z", false)
  | _ => ("JetWaltz$Pump", "trips", "I", false)
def tyX4 : Nat → FieldType := fun k => match k with
  | 0 => .int
  | 1 => .int
  | 2 => .int
  | 3 => .int
  | 4 => .boolean
  | _ => .int
abbrev wsX40 : List Cond := u_ws RX4 TX4 6
theorem nmX4 : ∀ a, a < 6 → ∀ b, b < 6 → a ≠ b → (TX4 a).2.1 ≠ (TX4 b).2.1 := by decide +kernel
theorem tyX4_ok : ∀ k, k < 6 → parseFieldDescriptor (TX4 k).2.2.1 = some (tyX4 k) := by decide +kernel
abbrev cX4_init : ByteArray := prog_6_method_1_code
def yX4_init : MethodName := ⟨RX4, "<init>", "(II)V"⟩
abbrev cX4_setTo : ByteArray := prog_6_method_2_code
def yX4_setTo : MethodName := ⟨RX4, "setTo", "(I)V"⟩
abbrev cX4_turn : ByteArray := prog_6_method_3_code
def yX4_turn : MethodName := ⟨RX4, "turn", "()V"⟩
abbrev cX4_trip : ByteArray := prog_6_method_4_code
def yX4_trip : MethodName := ⟨RX4, "trip", "()V"⟩
abbrev cX4_becomeLike : ByteArray := prog_6_method_5_code
def yX4_becomeLike : MethodName := ⟨RX4, "becomeLike", "(LJetWaltz$Pump;)V"⟩
def RX5 : String := "JetWaltz$Show"
def TX5 : u_T := fun k => match k with
  | 0 => ("JetWaltz$Show", "pumps", "Ljava/util/ArrayList;", true)
  | 1 => ("JetWaltz$Show", "jets", "Ljava/util/ArrayList;", true)
  | 2 => ("JetWaltz$Show", "calls", "Ljava/util/ArrayList;", true)
  | 3 => ("JetWaltz$Show", "air", "LJetWaltz$Air;", true)
  | 4 => ("JetWaltz$Show", "now", "I", false)
  | 5 => ("JetWaltz$Show", "water", "I", false)
  | 6 => ("JetWaltz$Show", "spilt", "I", false)
  | 7 => ("JetWaltz$Show", "lost", "I", false)
  | 8 => ("JetWaltz$Show", "wet", "I", false)
  | 9 => ("JetWaltz$Show", "energy", "I", false)
  | 10 => ("JetWaltz$Show", "faults", "I", false)
  | 11 => ("JetWaltz$Show", "dangers", "I", false)
  | 12 => ("JetWaltz$Show", "wind", "I", false)
  | 13 => ("JetWaltz$Show", "gust", "I", false)
  | _ => ("JetWaltz$Show", "isSwum", "Z", false)
def tyX5 : Nat → FieldType := fun k => match k with
  | 0 => .object "java/util/ArrayList"
  | 1 => .object "java/util/ArrayList"
  | 2 => .object "java/util/ArrayList"
  | 3 => .object "JetWaltz$Air"
  | 4 => .int
  | 5 => .int
  | 6 => .int
  | 7 => .int
  | 8 => .int
  | 9 => .int
  | 10 => .int
  | 11 => .int
  | 12 => .int
  | 13 => .int
  | _ => .boolean
abbrev wsX50 : List Cond := u_ws RX5 TX5 15
theorem nmX5 : ∀ a, a < 15 → ∀ b, b < 15 → a ≠ b → (TX5 a).2.1 ≠ (TX5 b).2.1 := by decide +kernel
theorem tyX5_ok : ∀ k, k < 15 → parseFieldDescriptor (TX5 k).2.2.1 = some (tyX5 k) := by decide +kernel
abbrev cX5_init : ByteArray := prog_7_method_1_code
def yX5_init : MethodName := ⟨RX5, "<init>", "()V"⟩
abbrev cX5_addJet : ByteArray := prog_7_method_2_code
def yX5_addJet : MethodName := ⟨RX5, "addJet", "(IIII)V"⟩
abbrev cX5_setPumpOfNumber : ByteArray := prog_7_method_3_code
def yX5_setPumpOfNumber : MethodName := ⟨RX5, "setPumpOfNumber", "(II)V"⟩
abbrev cX5_heightOfNumber : ByteArray := prog_7_method_4_code
def yX5_heightOfNumber : MethodName := ⟨RX5, "heightOfNumber", "(I)I"⟩
abbrev cX5_tick : ByteArray := prog_7_method_5_code
def yX5_tick : MethodName := ⟨RX5, "tick", "()I"⟩
abbrev cX5_doStepsDue : ByteArray := prog_7_method_6_code
def yX5_doStepsDue : MethodName := ⟨RX5, "doStepsDue", "()V"⟩
abbrev cX5_doStep : ByteArray := prog_7_method_7_code
def yX5_doStep : MethodName := ⟨RX5, "doStep", "(LJetWaltz$Step;I)V"⟩
abbrev cX5_turnDrivesAndValves : ByteArray := prog_7_method_8_code
def yX5_turnDrivesAndValves : MethodName := ⟨RX5, "turnDrivesAndValves", "()V"⟩
abbrev cX5_letFall : ByteArray := prog_7_method_9_code
def yX5_letFall : MethodName := ⟨RX5, "letFall", "()I"⟩
abbrev cX5_throwWater : ByteArray := prog_7_method_10_code
def yX5_throwWater : MethodName := ⟨RX5, "throwWater", "()V"⟩
abbrev cX5_useEnergy : ByteArray := prog_7_method_11_code
def yX5_useEnergy : MethodName := ⟨RX5, "useEnergy", "()V"⟩
abbrev cX5_tripPumpsRunningDry : ByteArray := prog_7_method_12_code
def yX5_tripPumpsRunningDry : MethodName := ⟨RX5, "tripPumpsRunningDry", "()V"⟩
abbrev cX5_shortLamps : ByteArray := prog_7_method_13_code
def yX5_shortLamps : MethodName := ⟨RX5, "shortLamps", "()V"⟩
abbrev cX5_lampsOff : ByteArray := prog_7_method_14_code
def yX5_lampsOff : MethodName := ⟨RX5, "lampsOff", "()V"⟩
abbrev cX5_shutAll : ByteArray := prog_7_method_15_code
def yX5_shutAll : MethodName := ⟨RX5, "shutAll", "()V"⟩
abbrev cX5_pour : ByteArray := prog_7_method_16_code
def yX5_pour : MethodName := ⟨RX5, "pour", "(I)V"⟩
abbrev cX5_pressureOf : ByteArray := prog_7_method_17_code
def yX5_pressureOf : MethodName := ⟨RX5, "pressureOf", "(LJetWaltz$Pump;)I"⟩
abbrev cX5_flowsAsSet : ByteArray := prog_7_method_18_code
def yX5_flowsAsSet : MethodName := ⟨RX5, "flowsAsSet", "(LJetWaltz$Pump;)I"⟩
abbrev cX5_jetsOf : ByteArray := prog_7_method_19_code
def yX5_jetsOf : MethodName := ⟨RX5, "jetsOf", "(LJetWaltz$Pump;)I"⟩
abbrev cX5_lampsOn : ByteArray := prog_7_method_20_code
def yX5_lampsOn : MethodName := ⟨RX5, "lampsOn", "()I"⟩
abbrev cX5_heightOf : ByteArray := prog_7_method_21_code
def yX5_heightOf : MethodName := ⟨RX5, "heightOf", "(LJetWaltz$Jet;)I"⟩
abbrev cX5_greatestHeight : ByteArray := prog_7_method_22_code
def yX5_greatestHeight : MethodName := ⟨RX5, "greatestHeight", "()I"⟩
abbrev cX5_sumOfHeights : ByteArray := prog_7_method_23_code
def yX5_sumOfHeights : MethodName := ⟨RX5, "sumOfHeights", "()I"⟩
abbrev cX5_placeOfFall : ByteArray := prog_7_method_24_code
def yX5_placeOfFall : MethodName := ⟨RX5, "placeOfFall", "(LJetWaltz$Jet;I)I"⟩
abbrev cX5_windWithGust : ByteArray := prog_7_method_25_code
def yX5_windWithGust : MethodName := ⟨RX5, "windWithGust", "()I"⟩
abbrev cX5_becomeLike : ByteArray := prog_7_method_26_code
def yX5_becomeLike : MethodName := ⟨RX5, "becomeLike", "(LJetWaltz$Show;)V"⟩
def RX6 : String := "JetWaltz$Step"
def TX6 : u_T := fun k => match k with
  | 0 => ("JetWaltz$Step", "tick", "I", true)
  | 1 => ("JetWaltz$Step", "jets", "I", true)
  | _ => ("JetWaltz$Step", "value", "I", true)
def tyX6 : Nat → FieldType := fun k => match k with
  | 0 => .int
  | 1 => .int
  | _ => .int
abbrev wsX60 : List Cond := u_ws RX6 TX6 3
theorem nmX6 : ∀ a, a < 3 → ∀ b, b < 3 → a ≠ b → (TX6 a).2.1 ≠ (TX6 b).2.1 := by decide +kernel
theorem tyX6_ok : ∀ k, k < 3 → parseFieldDescriptor (TX6 k).2.2.1 = some (tyX6 k) := by decide +kernel
abbrev cX6_init : ByteArray := prog_8_method_1_code
def yX6_init : MethodName := ⟨RX6, "<init>", "(III)V"⟩
abbrev cX6_names : ByteArray := prog_8_method_2_code
def yX6_names : MethodName := ⟨RX6, "names", "(I)Z"⟩
def RX7 : String := "JetWaltz"
def TX7 : u_T := fun k => match k with
  | 0 => ("JetWaltz", "figures", "Ljava/util/ArrayList;", true)
  | 1 => ("JetWaltz", "show", "LJetWaltz$Show;", true)
  | _ => ("JetWaltz", "trial", "LJetWaltz$Show;", true)
def tyX7 : Nat → FieldType := fun k => match k with
  | 0 => .object "java/util/ArrayList"
  | 1 => .object "JetWaltz$Show"
  | _ => .object "JetWaltz$Show"
abbrev wsX70 : List Cond := u_ws RX7 TX7 3
theorem nmX7 : ∀ a, a < 3 → ∀ b, b < 3 → a ≠ b → (TX7 a).2.1 ≠ (TX7 b).2.1 := by decide +kernel
theorem tyX7_ok : ∀ k, k < 3 → parseFieldDescriptor (TX7 k).2.2.1 = some (tyX7 k) := by decide +kernel
abbrev cX7_init : ByteArray := prog_1_method_1_code
def yX7_init : MethodName := ⟨RX7, "<init>", "()V"⟩
abbrev cX7_pump : ByteArray := prog_1_method_2_code
def yX7_pump : MethodName := ⟨RX7, "pump", "(I)I"⟩
abbrev cX7_jet : ByteArray := prog_1_method_3_code
def yX7_jet : MethodName := ⟨RX7, "jet", "(IIII)I"⟩
abbrev cX7_figure : ByteArray := prog_1_method_4_code
def yX7_figure : MethodName := ⟨RX7, "figure", "()I"⟩
abbrev cX7_step : ByteArray := prog_1_method_5_code
def yX7_step : MethodName := ⟨RX7, "step", "(IIII)I"⟩
abbrev cX7_wind : ByteArray := prog_1_method_6_code
def yX7_wind : MethodName := ⟨RX7, "wind", "(II)I"⟩
abbrev cX7_valve : ByteArray := prog_1_method_7_code
def yX7_valve : MethodName := ⟨RX7, "valve", "(II)I"⟩
abbrev cX7_setting : ByteArray := prog_1_method_8_code
def yX7_setting : MethodName := ⟨RX7, "setting", "(II)I"⟩
abbrev cX7_reset : ByteArray := prog_1_method_9_code
def yX7_reset : MethodName := ⟨RX7, "reset", "(I)I"⟩
abbrev cX7_lamp : ByteArray := prog_1_method_10_code
def yX7_lamp : MethodName := ⟨RX7, "lamp", "(IZ)Z"⟩
abbrev cX7_fault : ByteArray := prog_1_method_11_code
def yX7_fault : MethodName := ⟨RX7, "fault", "(IZZ)Z"⟩
abbrev cX7_swim : ByteArray := prog_1_method_12_code
def yX7_swim : MethodName := ⟨RX7, "swim", "(Z)Z"⟩
abbrev cX7_fill : ByteArray := prog_1_method_13_code
def yX7_fill : MethodName := ⟨RX7, "fill", "(I)I"⟩
abbrev cX7_call : ByteArray := prog_1_method_14_code
def yX7_call : MethodName := ⟨RX7, "call", "(II)I"⟩
abbrev cX7_pass : ByteArray := prog_1_method_15_code
def yX7_pass : MethodName := ⟨RX7, "pass", "(I)I"⟩
abbrev cX7_ofPump : ByteArray := prog_1_method_16_code
def yX7_ofPump : MethodName := ⟨RX7, "ofPump", "(II)I"⟩
abbrev cX7_ofJet : ByteArray := prog_1_method_17_code
def yX7_ofJet : MethodName := ⟨RX7, "ofJet", "(II)I"⟩
abbrev cX7_falls : ByteArray := prog_1_method_18_code
def yX7_falls : MethodName := ⟨RX7, "falls", "(I)I"⟩
abbrev cX7_open : ByteArray := prog_1_method_19_code
def yX7_open : MethodName := ⟨RX7, "open", "(I)I"⟩
abbrev cX7_many : ByteArray := prog_1_method_20_code
def yX7_many : MethodName := ⟨RX7, "many", "(I)I"⟩
abbrev cX7_meanHeight : ByteArray := prog_1_method_21_code
def yX7_meanHeight : MethodName := ⟨RX7, "meanHeight", "()D"⟩
abbrev cX7_heightIn : ByteArray := prog_1_method_22_code
def yX7_heightIn : MethodName := ⟨RX7, "heightIn", "(II)I"⟩
abbrev cX7_settingFor : ByteArray := prog_1_method_23_code
def yX7_settingFor : MethodName := ⟨RX7, "settingFor", "(II)I"⟩
abbrev cX7_leadFor : ByteArray := prog_1_method_24_code
def yX7_leadFor : MethodName := ⟨RX7, "leadFor", "(II)I"⟩
abbrev cX7_would : ByteArray := prog_1_method_25_code
def yX7_would : MethodName := ⟨RX7, "would", "(II)I"⟩
abbrev cX7_digest : ByteArray := prog_1_method_26_code
def yX7_digest : MethodName := ⟨RX7, "digest", "()J"⟩
abbrev cX7_pumpNumbered : ByteArray := prog_1_method_27_code
def yX7_pumpNumbered : MethodName := ⟨RX7, "pumpNumbered", "(I)LJetWaltz$Pump;"⟩
abbrev cX7_jetNumbered : ByteArray := prog_1_method_28_code
def yX7_jetNumbered : MethodName := ⟨RX7, "jetNumbered", "(I)LJetWaltz$Jet;"⟩
abbrev cX7_figureNumbered : ByteArray := prog_1_method_29_code
def yX7_figureNumbered : MethodName := ⟨RX7, "figureNumbered", "(I)LJetWaltz$Figure;"⟩
abbrev cX7_isValue : ByteArray := prog_1_method_30_code
def yX7_isValue : MethodName := ⟨RX7, "isValue", "(I)Z"⟩
abbrev cX7_pressureBy : ByteArray := prog_1_method_31_code
def yX7_pressureBy : MethodName := ⟨RX7, "pressureBy", "(III)I"⟩
abbrev cX7_heightBy : ByteArray := prog_1_method_32_code
def yX7_heightBy : MethodName := ⟨RX7, "heightBy", "(II)I"⟩
abbrev cX7_airTime : ByteArray := prog_1_method_33_code
def yX7_airTime : MethodName := ⟨RX7, "airTime", "(I)I"⟩
abbrev cX7_nearer : ByteArray := prog_1_method_34_code
def yX7_nearer : MethodName := ⟨RX7, "nearer", "(II)I"⟩
def RX8 : String := "JetWaltzModel$Basin"
def TX8 : u_T := fun k => match k with
  | _ => ("", "", "", false)
def tyX8 : Nat → FieldType := fun k => match k with
  | _ => .int
abbrev wsX80 : List Cond := u_ws RX8 TX8 0
theorem nmX8 : ∀ a, a < 0 → ∀ b, b < 0 → a ≠ b → (TX8 a).2.1 ≠ (TX8 b).2.1 := by decide +kernel
theorem tyX8_ok : ∀ k, k < 0 → parseFieldDescriptor (TX8 k).2.2.1 = some (tyX8 k) := by decide +kernel
def RX9 : String := "JetWaltzModel$Call"
def TX9 : u_T := fun k => match k with
  | _ => ("", "", "", false)
def tyX9 : Nat → FieldType := fun k => match k with
  | _ => .int
abbrev wsX90 : List Cond := u_ws RX9 TX9 0
theorem nmX9 : ∀ a, a < 0 → ∀ b, b < 0 → a ≠ b → (TX9 a).2.1 ≠ (TX9 b).2.1 := by decide +kernel
theorem tyX9_ok : ∀ k, k < 0 → parseFieldDescriptor (TX9 k).2.2.1 = some (tyX9 k) := by decide +kernel
def RX10 : String := "JetWaltzModel$Jet"
def TX10 : u_T := fun k => match k with
  | _ => ("", "", "", false)
def tyX10 : Nat → FieldType := fun k => match k with
  | _ => .int
abbrev wsX100 : List Cond := u_ws RX10 TX10 0
theorem nmX10 : ∀ a, a < 0 → ∀ b, b < 0 → a ≠ b → (TX10 a).2.1 ≠ (TX10 b).2.1 := by decide +kernel
theorem tyX10_ok : ∀ k, k < 0 → parseFieldDescriptor (TX10 k).2.2.1 = some (tyX10 k) := by decide +kernel
def RX11 : String := "JetWaltzModel$Pump"
def TX11 : u_T := fun k => match k with
  | _ => ("", "", "", false)
def tyX11 : Nat → FieldType := fun k => match k with
  | _ => .int
abbrev wsX110 : List Cond := u_ws RX11 TX11 0
theorem nmX11 : ∀ a, a < 0 → ∀ b, b < 0 → a ≠ b → (TX11 a).2.1 ≠ (TX11 b).2.1 := by decide +kernel
theorem tyX11_ok : ∀ k, k < 0 → parseFieldDescriptor (TX11 k).2.2.1 = some (tyX11 k) := by decide +kernel
def RX12 : String := "JetWaltzModel"
def TX12 : u_T := fun k => match k with
  | _ => ("", "", "", false)
def tyX12 : Nat → FieldType := fun k => match k with
  | _ => .int
abbrev wsX120 : List Cond := u_ws RX12 TX12 0
theorem nmX12 : ∀ a, a < 0 → ∀ b, b < 0 → a ≠ b → (TX12 a).2.1 ≠ (TX12 b).2.1 := by decide +kernel
theorem tyX12_ok : ∀ k, k < 0 → parseFieldDescriptor (TX12 k).2.2.1 = some (tyX12 k) := by decide +kernel
def RJx145de : String := "java/io/Serializable"
def TJx145de : u_T := fun k => match k with
  | _ => ("", "", "", false)
def tyJx145de : Nat → FieldType := fun k => match k with
  | _ => .int
abbrev wsJx145de0 : List Cond := u_ws RJx145de TJx145de 0
theorem nmJx145de : ∀ a, a < 0 → ∀ b, b < 0 → a ≠ b → (TJx145de a).2.1 ≠ (TJx145de b).2.1 := by decide +kernel
theorem tyJx145de_ok : ∀ k, k < 0 → parseFieldDescriptor (TJx145de k).2.2.1 = some (tyJx145de k) := by decide +kernel
def RJx8e188 : String := "java/lang/Cloneable"
def TJx8e188 : u_T := fun k => match k with
  | _ => ("", "", "", false)
def tyJx8e188 : Nat → FieldType := fun k => match k with
  | _ => .int
abbrev wsJx8e1880 : List Cond := u_ws RJx8e188 TJx8e188 0
theorem nmJx8e188 : ∀ a, a < 0 → ∀ b, b < 0 → a ≠ b → (TJx8e188 a).2.1 ≠ (TJx8e188 b).2.1 := by decide +kernel
theorem tyJx8e188_ok : ∀ k, k < 0 → parseFieldDescriptor (TJx8e188 k).2.2.1 = some (tyJx8e188 k) := by decide +kernel
def RJ6 : String := "java/lang/Integer"
def TJ6 : u_T := fun k => match k with
  | _ => ("", "", "", false)
def tyJ6 : Nat → FieldType := fun k => match k with
  | _ => .int
abbrev wsJ60 : List Cond := u_ws RJ6 TJ6 0
theorem nmJ6 : ∀ a, a < 0 → ∀ b, b < 0 → a ≠ b → (TJ6 a).2.1 ≠ (TJ6 b).2.1 := by decide +kernel
theorem tyJ6_ok : ∀ k, k < 0 → parseFieldDescriptor (TJ6 k).2.2.1 = some (tyJ6 k) := by decide +kernel
abbrev cJ6_bitCount_0f7a4 : ByteArray := prog_21_method_49_code
def yJ6_bitCount_0f7a4 : MethodName := ⟨RJ6, "bitCount", "(I)I"⟩
def RJxab1ab : String := "java/lang/Iterable"
def TJxab1ab : u_T := fun k => match k with
  | _ => ("", "", "", false)
def tyJxab1ab : Nat → FieldType := fun k => match k with
  | _ => .int
abbrev wsJxab1ab0 : List Cond := u_ws RJxab1ab TJxab1ab 0
theorem nmJxab1ab : ∀ a, a < 0 → ∀ b, b < 0 → a ≠ b → (TJxab1ab a).2.1 ≠ (TJxab1ab b).2.1 := by decide +kernel
theorem tyJxab1ab_ok : ∀ k, k < 0 → parseFieldDescriptor (TJxab1ab k).2.2.1 = some (tyJxab1ab k) := by decide +kernel
def RJ9 : String := "java/lang/Math"
def TJ9 : u_T := fun k => match k with
  | _ => ("", "", "", false)
def tyJ9 : Nat → FieldType := fun k => match k with
  | _ => .int
abbrev wsJ90 : List Cond := u_ws RJ9 TJ9 0
theorem nmJ9 : ∀ a, a < 0 → ∀ b, b < 0 → a ≠ b → (TJ9 a).2.1 ≠ (TJ9 b).2.1 := by decide +kernel
theorem tyJ9_ok : ∀ k, k < 0 → parseFieldDescriptor (TJ9 k).2.2.1 = some (tyJ9 k) := by decide +kernel
abbrev cJ9_floorDiv_7cf53 : ByteArray := prog_23_method_47_code
def yJ9_floorDiv_7cf53 : MethodName := ⟨RJ9, "floorDiv", "(II)I"⟩
abbrev cJ9_floorMod_7cf53 : ByteArray := prog_23_method_50_code
def yJ9_floorMod_7cf53 : MethodName := ⟨RJ9, "floorMod", "(II)I"⟩
abbrev cJ9_abs_0f7a4 : ByteArray := prog_23_method_59_code
def yJ9_abs_0f7a4 : MethodName := ⟨RJ9, "abs", "(I)I"⟩
abbrev cJ9_max_7cf53 : ByteArray := prog_23_method_65_code
def yJ9_max_7cf53 : MethodName := ⟨RJ9, "max", "(II)I"⟩
abbrev cJ9_min_7cf53 : ByteArray := prog_23_method_69_code
def yJ9_min_7cf53 : MethodName := ⟨RJ9, "min", "(II)I"⟩
def RJ0 : String := "java/lang/String"
def TJ0 : u_T := fun k => match k with
  | _ => ("", "", "", false)
def tyJ0 : Nat → FieldType := fun k => match k with
  | _ => .int
abbrev wsJ00 : List Cond := u_ws RJ0 TJ0 0
theorem nmJ0 : ∀ a, a < 0 → ∀ b, b < 0 → a ≠ b → (TJ0 a).2.1 ≠ (TJ0 b).2.1 := by decide +kernel
theorem tyJ0_ok : ∀ k, k < 0 → parseFieldDescriptor (TJ0 k).2.2.1 = some (tyJ0 k) := by decide +kernel
def RJ10 : String := "java/lang/System"
def TJ10 : u_T := fun k => match k with
  | _ => ("", "", "", false)
def tyJ10 : Nat → FieldType := fun k => match k with
  | _ => .int
abbrev wsJ100 : List Cond := u_ws RJ10 TJ10 0
theorem nmJ10 : ∀ a, a < 0 → ∀ b, b < 0 → a ≠ b → (TJ10 a).2.1 ≠ (TJ10 b).2.1 := by decide +kernel
theorem tyJ10_ok : ∀ k, k < 0 → parseFieldDescriptor (TJ10 k).2.2.1 = some (tyJ10 k) := by decide +kernel
def RJxa1e45 : String := "java/util/AbstractCollection"
def TJxa1e45 : u_T := fun k => match k with
  | _ => ("", "", "", false)
def tyJxa1e45 : Nat → FieldType := fun k => match k with
  | _ => .int
abbrev wsJxa1e450 : List Cond := u_ws RJxa1e45 TJxa1e45 0
theorem nmJxa1e45 : ∀ a, a < 0 → ∀ b, b < 0 → a ≠ b → (TJxa1e45 a).2.1 ≠ (TJxa1e45 b).2.1 := by decide +kernel
theorem tyJxa1e45_ok : ∀ k, k < 0 → parseFieldDescriptor (TJxa1e45 k).2.2.1 = some (tyJxa1e45 k) := by decide +kernel
abbrev cJxa1e45_init_da8c8 : ByteArray := prog_28_method_1_code
def yJxa1e45_init_da8c8 : MethodName := ⟨RJxa1e45, "<init>", "()V"⟩
def RJxc12de : String := "java/util/AbstractList"
def TJxc12de : u_T := fun k => match k with
  | _ => ("", "", "", false)
def tyJxc12de : Nat → FieldType := fun k => match k with
  | _ => .int
abbrev wsJxc12de0 : List Cond := u_ws RJxc12de TJxc12de 0
theorem nmJxc12de : ∀ a, a < 0 → ∀ b, b < 0 → a ≠ b → (TJxc12de a).2.1 ≠ (TJxc12de b).2.1 := by decide +kernel
theorem tyJxc12de_ok : ∀ k, k < 0 → parseFieldDescriptor (TJxc12de k).2.2.1 = some (tyJxc12de k) := by decide +kernel
abbrev cJxc12de_init_da8c8 : ByteArray := prog_29_method_1_code
def yJxc12de_init_da8c8 : MethodName := ⟨RJxc12de, "<init>", "()V"⟩
def RJx4a65c : String := "java/util/ArrayList"
def TJx4a65c : u_T := fun k => match k with
  | 0 => ("java/util/AbstractList", "modCount", "I", false)
  | 1 => ("java/util/ArrayList", "elementData", "[Ljava/lang/Object;", false)
  | _ => ("java/util/ArrayList", "size", "I", false)
def tyJx4a65c : Nat → FieldType := fun k => match k with
  | 0 => .int
  | 1 => .array (.object "java/lang/Object")
  | _ => .int
abbrev wsJx4a65c0 : List Cond := u_ws RJx4a65c TJx4a65c 3
theorem nmJx4a65c : ∀ a, a < 3 → ∀ b, b < 3 → a ≠ b → (TJx4a65c a).2.1 ≠ (TJx4a65c b).2.1 := by decide +kernel
theorem tyJx4a65c_ok : ∀ k, k < 3 → parseFieldDescriptor (TJx4a65c k).2.2.1 = some (tyJx4a65c k) := by decide +kernel
abbrev cJx4a65c_init_da8c8 : ByteArray := prog_30_method_2_code
def yJx4a65c_init_da8c8 : MethodName := ⟨RJx4a65c, "<init>", "()V"⟩
abbrev cJx4a65c_grow_92f84 : ByteArray := prog_30_method_6_code
def yJx4a65c_grow_92f84 : MethodName := ⟨RJx4a65c, "grow", "(I)[Ljava/lang/Object;"⟩
abbrev cJx4a65c_grow_d5877 : ByteArray := prog_30_method_7_code
def yJx4a65c_grow_d5877 : MethodName := ⟨RJx4a65c, "grow", "()[Ljava/lang/Object;"⟩
abbrev cJx4a65c_size_8abf5 : ByteArray := prog_30_method_8_code
def yJx4a65c_size_8abf5 : MethodName := ⟨RJx4a65c, "size", "()I"⟩
abbrev cJx4a65c_elementData_915e3 : ByteArray := prog_30_method_18_code
def yJx4a65c_elementData_915e3 : MethodName := ⟨RJx4a65c, "elementData", "(I)Ljava/lang/Object;"⟩
abbrev cJx4a65c_get_915e3 : ByteArray := prog_30_method_20_code
def yJx4a65c_get_915e3 : MethodName := ⟨RJx4a65c, "get", "(I)Ljava/lang/Object;"⟩
abbrev cJx4a65c_add_72be8 : ByteArray := prog_30_method_24_code
def yJx4a65c_add_72be8 : MethodName := ⟨RJx4a65c, "add", "(Ljava/lang/Object;[Ljava/lang/Object;I)V"⟩
abbrev cJx4a65c_add_9ea2d : ByteArray := prog_30_method_25_code
def yJx4a65c_add_9ea2d : MethodName := ⟨RJx4a65c, "add", "(Ljava/lang/Object;)Z"⟩
def RJ7 : String := "java/util/Arrays"
def TJ7 : u_T := fun k => match k with
  | _ => ("", "", "", false)
def tyJ7 : Nat → FieldType := fun k => match k with
  | _ => .int
abbrev wsJ70 : List Cond := u_ws RJ7 TJ7 0
theorem nmJ7 : ∀ a, a < 0 → ∀ b, b < 0 → a ≠ b → (TJ7 a).2.1 ≠ (TJ7 b).2.1 := by decide +kernel
theorem tyJ7_ok : ∀ k, k < 0 → parseFieldDescriptor (TJ7 k).2.2.1 = some (tyJ7 k) := by decide +kernel
abbrev cJ7_copyOf_1904c : ByteArray := prog_31_method_119_code
def yJ7_copyOf_1904c : MethodName := ⟨RJ7, "copyOf", "([Ljava/lang/Object;I)[Ljava/lang/Object;"⟩
abbrev cJ7_copyOf_6403c : ByteArray := prog_31_method_120_code
def yJ7_copyOf_6403c : MethodName := ⟨RJ7, "copyOf", "([Ljava/lang/Object;ILjava/lang/Class;)[Ljava/lang/Object;"⟩
def RJx5ef63 : String := "java/util/Collection"
def TJx5ef63 : u_T := fun k => match k with
  | _ => ("", "", "", false)
def tyJx5ef63 : Nat → FieldType := fun k => match k with
  | _ => .int
abbrev wsJx5ef630 : List Cond := u_ws RJx5ef63 TJx5ef63 0
theorem nmJx5ef63 : ∀ a, a < 0 → ∀ b, b < 0 → a ≠ b → (TJx5ef63 a).2.1 ≠ (TJx5ef63 b).2.1 := by decide +kernel
theorem tyJx5ef63_ok : ∀ k, k < 0 → parseFieldDescriptor (TJx5ef63 k).2.2.1 = some (tyJx5ef63 k) := by decide +kernel
def RJxbd725 : String := "java/util/List"
def TJxbd725 : u_T := fun k => match k with
  | _ => ("", "", "", false)
def tyJxbd725 : Nat → FieldType := fun k => match k with
  | _ => .int
abbrev wsJxbd7250 : List Cond := u_ws RJxbd725 TJxbd725 0
theorem nmJxbd725 : ∀ a, a < 0 → ∀ b, b < 0 → a ≠ b → (TJxbd725 a).2.1 ≠ (TJxbd725 b).2.1 := by decide +kernel
theorem tyJxbd725_ok : ∀ k, k < 0 → parseFieldDescriptor (TJxbd725 k).2.2.1 = some (tyJxbd725 k) := by decide +kernel
def RJ15 : String := "java/util/Objects"
def TJ15 : u_T := fun k => match k with
  | _ => ("", "", "", false)
def tyJ15 : Nat → FieldType := fun k => match k with
  | _ => .int
abbrev wsJ150 : List Cond := u_ws RJ15 TJ15 0
theorem nmJ15 : ∀ a, a < 0 → ∀ b, b < 0 → a ≠ b → (TJ15 a).2.1 ≠ (TJ15 b).2.1 := by decide +kernel
theorem tyJ15_ok : ∀ k, k < 0 → parseFieldDescriptor (TJ15 k).2.2.1 = some (tyJ15 k) := by decide +kernel
abbrev cJ15_checkIndex_7cf53 : ByteArray := prog_34_method_17_code
def yJ15_checkIndex_7cf53 : MethodName := ⟨RJ15, "checkIndex", "(II)I"⟩
def RJxf0a74 : String := "java/util/RandomAccess"
def TJxf0a74 : u_T := fun k => match k with
  | _ => ("", "", "", false)
def tyJxf0a74 : Nat → FieldType := fun k => match k with
  | _ => .int
abbrev wsJxf0a740 : List Cond := u_ws RJxf0a74 TJxf0a74 0
theorem nmJxf0a74 : ∀ a, a < 0 → ∀ b, b < 0 → a ≠ b → (TJxf0a74 a).2.1 ≠ (TJxf0a74 b).2.1 := by decide +kernel
theorem tyJxf0a74_ok : ∀ k, k < 0 → parseFieldDescriptor (TJxf0a74 k).2.2.1 = some (tyJxf0a74 k) := by decide +kernel
def RJxa66e6 : String := "java/util/SequencedCollection"
def TJxa66e6 : u_T := fun k => match k with
  | _ => ("", "", "", false)
def tyJxa66e6 : Nat → FieldType := fun k => match k with
  | _ => .int
abbrev wsJxa66e60 : List Cond := u_ws RJxa66e6 TJxa66e6 0
theorem nmJxa66e6 : ∀ a, a < 0 → ∀ b, b < 0 → a ≠ b → (TJxa66e6 a).2.1 ≠ (TJxa66e6 b).2.1 := by decide +kernel
theorem tyJxa66e6_ok : ∀ k, k < 0 → parseFieldDescriptor (TJxa66e6 k).2.2.1 = some (tyJxa66e6 k) := by decide +kernel
def RJ8 : String := "jdk/internal/util/ArraysSupport"
def TJ8 : u_T := fun k => match k with
  | _ => ("", "", "", false)
def tyJ8 : Nat → FieldType := fun k => match k with
  | _ => .int
abbrev wsJ80 : List Cond := u_ws RJ8 TJ8 0
theorem nmJ8 : ∀ a, a < 0 → ∀ b, b < 0 → a ≠ b → (TJ8 a).2.1 ≠ (TJ8 b).2.1 := by decide +kernel
theorem tyJ8_ok : ∀ k, k < 0 → parseFieldDescriptor (TJ8 k).2.2.1 = some (tyJ8 k) := by decide +kernel
abbrev cJ8_newLength_cabcc : ByteArray := prog_37_method_27_code
def yJ8_newLength_cabcc : MethodName := ⟨RJ8, "newLength", "(III)I"⟩
abbrev cJ8_hugeLength_7cf53 : ByteArray := prog_37_method_28_code
def yJ8_hugeLength_7cf53 : MethodName := ⟨RJ8, "hugeLength", "(II)I"⟩
def RJ3 : String := "jdk/internal/util/Preconditions"
def TJ3 : u_T := fun k => match k with
  | _ => ("", "", "", false)
def tyJ3 : Nat → FieldType := fun k => match k with
  | _ => .int
abbrev wsJ30 : List Cond := u_ws RJ3 TJ3 0
theorem nmJ3 : ∀ a, a < 0 → ∀ b, b < 0 → a ≠ b → (TJ3 a).2.1 ≠ (TJ3 b).2.1 := by decide +kernel
theorem tyJ3_ok : ∀ k, k < 0 → parseFieldDescriptor (TJ3 k).2.2.1 = some (tyJ3 k) := by decide +kernel
abbrev cJ3_checkIndex_8e157 : ByteArray := prog_38_method_11_code
def yJ3_checkIndex_8e157 : MethodName := ⟨RJ3, "checkIndex", "(IILjava/util/function/BiFunction;)I"⟩
def RL : String := "JetWaltzLaw"
abbrev cL_below : ByteArray := method_2_code
def yL_below : MethodName := ⟨RL, "below", "(II)I"⟩
abbrev cL_cell : ByteArray := method_3_code
def yL_cell : MethodName := ⟨RL, "cell", "([II)I"⟩
abbrev cL_law : ByteArray := code
def yL_law : MethodName := ⟨RL, "law", "([I)Z"⟩
abbrev cL_isLeast : ByteArray := method_5_code
def yL_isLeast : MethodName := ⟨RL, "isLeast", "(LJetWaltz;III)Z"⟩
abbrev cL_isPassed : ByteArray := method_6_code
def yL_isPassed : MethodName := ⟨RL, "isPassed", "(LJetWaltz;I[ZI)Z"⟩
abbrev vwCl : List vw_C := [(RJx4a65c, TJx4a65c, 3), (RX0, TX0, 3), (RX1, TX1, 3), (RX2, TX2, 1), (RX3, TX3, 10), (RX4, TX4, 6), (RX5, TX5, 15), (RX6, TX6, 3), (RX7, TX7, 3)]
end
section
theorem dJ6_bitCount_0f7a4_0 : decode cJ6_bitCount_0f7a4 0 = .ok (.iload_n 0, 1) := by decide +kernel
theorem dJ6_bitCount_0f7a4_1 : decode cJ6_bitCount_0f7a4 1 = .ok (.iload_n 0, 1) := by decide +kernel
theorem dJ6_bitCount_0f7a4_2 : decode cJ6_bitCount_0f7a4 2 = .ok (.iconst 1, 1) := by decide +kernel
theorem dJ6_bitCount_0f7a4_3 : decode cJ6_bitCount_0f7a4 3 = .ok (.iushr, 1) := by decide +kernel
theorem dJ6_bitCount_0f7a4_4 : decode cJ6_bitCount_0f7a4 4 = .ok (.ldc_w 265, 3) := by decide +kernel
theorem dJ6_bitCount_0f7a4_7 : decode cJ6_bitCount_0f7a4 7 = .ok (.iand, 1) := by decide +kernel
theorem dJ6_bitCount_0f7a4_8 : decode cJ6_bitCount_0f7a4 8 = .ok (.isub, 1) := by decide +kernel
theorem dJ6_bitCount_0f7a4_9 : decode cJ6_bitCount_0f7a4 9 = .ok (.istore_n 0, 1) := by decide +kernel
theorem dJ6_bitCount_0f7a4_10 : decode cJ6_bitCount_0f7a4 10 = .ok (.iload_n 0, 1) := by decide +kernel
theorem dJ6_bitCount_0f7a4_11 : decode cJ6_bitCount_0f7a4 11 = .ok (.ldc_w 266, 3) := by decide +kernel
theorem dJ6_bitCount_0f7a4_14 : decode cJ6_bitCount_0f7a4 14 = .ok (.iand, 1) := by decide +kernel
theorem dJ6_bitCount_0f7a4_15 : decode cJ6_bitCount_0f7a4 15 = .ok (.iload_n 0, 1) := by decide +kernel
theorem dJ6_bitCount_0f7a4_16 : decode cJ6_bitCount_0f7a4 16 = .ok (.iconst 2, 1) := by decide +kernel
theorem dJ6_bitCount_0f7a4_17 : decode cJ6_bitCount_0f7a4 17 = .ok (.iushr, 1) := by decide +kernel
theorem dJ6_bitCount_0f7a4_18 : decode cJ6_bitCount_0f7a4 18 = .ok (.ldc_w 266, 3) := by decide +kernel
theorem dJ6_bitCount_0f7a4_21 : decode cJ6_bitCount_0f7a4 21 = .ok (.iand, 1) := by decide +kernel
theorem dJ6_bitCount_0f7a4_22 : decode cJ6_bitCount_0f7a4 22 = .ok (.iadd, 1) := by decide +kernel
theorem dJ6_bitCount_0f7a4_23 : decode cJ6_bitCount_0f7a4 23 = .ok (.istore_n 0, 1) := by decide +kernel
theorem dJ6_bitCount_0f7a4_24 : decode cJ6_bitCount_0f7a4 24 = .ok (.iload_n 0, 1) := by decide +kernel
theorem dJ6_bitCount_0f7a4_25 : decode cJ6_bitCount_0f7a4 25 = .ok (.iload_n 0, 1) := by decide +kernel
theorem dJ6_bitCount_0f7a4_26 : decode cJ6_bitCount_0f7a4 26 = .ok (.iconst 4, 1) := by decide +kernel
theorem dJ6_bitCount_0f7a4_27 : decode cJ6_bitCount_0f7a4 27 = .ok (.iushr, 1) := by decide +kernel
theorem dJ6_bitCount_0f7a4_28 : decode cJ6_bitCount_0f7a4 28 = .ok (.iadd, 1) := by decide +kernel
theorem dJ6_bitCount_0f7a4_29 : decode cJ6_bitCount_0f7a4 29 = .ok (.ldc_w 267, 3) := by decide +kernel
theorem dJ6_bitCount_0f7a4_32 : decode cJ6_bitCount_0f7a4 32 = .ok (.iand, 1) := by decide +kernel
theorem dJ6_bitCount_0f7a4_33 : decode cJ6_bitCount_0f7a4 33 = .ok (.istore_n 0, 1) := by decide +kernel
theorem dJ6_bitCount_0f7a4_34 : decode cJ6_bitCount_0f7a4 34 = .ok (.iload_n 0, 1) := by decide +kernel
theorem dJ6_bitCount_0f7a4_35 : decode cJ6_bitCount_0f7a4 35 = .ok (.iload_n 0, 1) := by decide +kernel
theorem dJ6_bitCount_0f7a4_36 : decode cJ6_bitCount_0f7a4 36 = .ok (.bipush 8, 2) := by decide +kernel
theorem dJ6_bitCount_0f7a4_38 : decode cJ6_bitCount_0f7a4 38 = .ok (.iushr, 1) := by decide +kernel
theorem dJ6_bitCount_0f7a4_39 : decode cJ6_bitCount_0f7a4 39 = .ok (.iadd, 1) := by decide +kernel
theorem dJ6_bitCount_0f7a4_40 : decode cJ6_bitCount_0f7a4 40 = .ok (.istore_n 0, 1) := by decide +kernel
theorem dJ6_bitCount_0f7a4_41 : decode cJ6_bitCount_0f7a4 41 = .ok (.iload_n 0, 1) := by decide +kernel
theorem dJ6_bitCount_0f7a4_42 : decode cJ6_bitCount_0f7a4 42 = .ok (.iload_n 0, 1) := by decide +kernel
theorem dJ6_bitCount_0f7a4_43 : decode cJ6_bitCount_0f7a4 43 = .ok (.bipush 16, 2) := by decide +kernel
theorem dJ6_bitCount_0f7a4_45 : decode cJ6_bitCount_0f7a4 45 = .ok (.iushr, 1) := by decide +kernel
theorem dJ6_bitCount_0f7a4_46 : decode cJ6_bitCount_0f7a4 46 = .ok (.iadd, 1) := by decide +kernel
theorem dJ6_bitCount_0f7a4_47 : decode cJ6_bitCount_0f7a4 47 = .ok (.istore_n 0, 1) := by decide +kernel
theorem dJ6_bitCount_0f7a4_48 : decode cJ6_bitCount_0f7a4 48 = .ok (.iload_n 0, 1) := by decide +kernel
theorem dJ6_bitCount_0f7a4_49 : decode cJ6_bitCount_0f7a4 49 = .ok (.bipush 63, 2) := by decide +kernel
theorem dJ6_bitCount_0f7a4_51 : decode cJ6_bitCount_0f7a4 51 = .ok (.iand, 1) := by decide +kernel
theorem dJ6_bitCount_0f7a4_52 : decode cJ6_bitCount_0f7a4 52 = .ok (.ireturn, 1) := by decide +kernel
theorem dJ9_floorDiv_7cf53_0 : decode cJ9_floorDiv_7cf53 0 = .ok (.iload_n 0, 1) := by decide +kernel
theorem dJ9_floorDiv_7cf53_1 : decode cJ9_floorDiv_7cf53 1 = .ok (.iload_n 1, 1) := by decide +kernel
theorem dJ9_floorDiv_7cf53_2 : decode cJ9_floorDiv_7cf53 2 = .ok (.idiv, 1) := by decide +kernel
theorem dJ9_floorDiv_7cf53_3 : decode cJ9_floorDiv_7cf53 3 = .ok (.istore_n 2, 1) := by decide +kernel
theorem dJ9_floorDiv_7cf53_4 : decode cJ9_floorDiv_7cf53 4 = .ok (.iload_n 0, 1) := by decide +kernel
theorem dJ9_floorDiv_7cf53_5 : decode cJ9_floorDiv_7cf53 5 = .ok (.iload_n 1, 1) := by decide +kernel
theorem dJ9_floorDiv_7cf53_6 : decode cJ9_floorDiv_7cf53 6 = .ok (.ixor, 1) := by decide +kernel
theorem dJ9_floorDiv_7cf53_7 : decode cJ9_floorDiv_7cf53 7 = .ok (.ifCond .ge 14, 3) := by decide +kernel
theorem dJ9_floorDiv_7cf53_10 : decode cJ9_floorDiv_7cf53 10 = .ok (.iload_n 2, 1) := by decide +kernel
theorem dJ9_floorDiv_7cf53_11 : decode cJ9_floorDiv_7cf53 11 = .ok (.iload_n 1, 1) := by decide +kernel
theorem dJ9_floorDiv_7cf53_12 : decode cJ9_floorDiv_7cf53 12 = .ok (.imul, 1) := by decide +kernel
theorem dJ9_floorDiv_7cf53_13 : decode cJ9_floorDiv_7cf53 13 = .ok (.iload_n 0, 1) := by decide +kernel
theorem dJ9_floorDiv_7cf53_14 : decode cJ9_floorDiv_7cf53 14 = .ok (.if_icmp .eq 7, 3) := by decide +kernel
theorem dJ9_floorDiv_7cf53_17 : decode cJ9_floorDiv_7cf53 17 = .ok (.iload_n 2, 1) := by decide +kernel
theorem dJ9_floorDiv_7cf53_18 : decode cJ9_floorDiv_7cf53 18 = .ok (.iconst 1, 1) := by decide +kernel
theorem dJ9_floorDiv_7cf53_19 : decode cJ9_floorDiv_7cf53 19 = .ok (.isub, 1) := by decide +kernel
theorem dJ9_floorDiv_7cf53_20 : decode cJ9_floorDiv_7cf53 20 = .ok (.ireturn, 1) := by decide +kernel
theorem dJ9_floorDiv_7cf53_21 : decode cJ9_floorDiv_7cf53 21 = .ok (.iload_n 2, 1) := by decide +kernel
theorem dJ9_floorDiv_7cf53_22 : decode cJ9_floorDiv_7cf53 22 = .ok (.ireturn, 1) := by decide +kernel
theorem dJ9_floorMod_7cf53_0 : decode cJ9_floorMod_7cf53 0 = .ok (.iload_n 0, 1) := by decide +kernel
theorem dJ9_floorMod_7cf53_1 : decode cJ9_floorMod_7cf53 1 = .ok (.iload_n 1, 1) := by decide +kernel
theorem dJ9_floorMod_7cf53_2 : decode cJ9_floorMod_7cf53 2 = .ok (.irem, 1) := by decide +kernel
theorem dJ9_floorMod_7cf53_3 : decode cJ9_floorMod_7cf53 3 = .ok (.istore_n 2, 1) := by decide +kernel
theorem dJ9_floorMod_7cf53_4 : decode cJ9_floorMod_7cf53 4 = .ok (.iload_n 0, 1) := by decide +kernel
theorem dJ9_floorMod_7cf53_5 : decode cJ9_floorMod_7cf53 5 = .ok (.iload_n 1, 1) := by decide +kernel
theorem dJ9_floorMod_7cf53_6 : decode cJ9_floorMod_7cf53 6 = .ok (.ixor, 1) := by decide +kernel
theorem dJ9_floorMod_7cf53_7 : decode cJ9_floorMod_7cf53 7 = .ok (.ifCond .ge 11, 3) := by decide +kernel
theorem dJ9_floorMod_7cf53_10 : decode cJ9_floorMod_7cf53 10 = .ok (.iload_n 2, 1) := by decide +kernel
theorem dJ9_floorMod_7cf53_11 : decode cJ9_floorMod_7cf53 11 = .ok (.ifCond .eq 7, 3) := by decide +kernel
theorem dJ9_floorMod_7cf53_14 : decode cJ9_floorMod_7cf53 14 = .ok (.iload_n 2, 1) := by decide +kernel
theorem dJ9_floorMod_7cf53_15 : decode cJ9_floorMod_7cf53 15 = .ok (.iload_n 1, 1) := by decide +kernel
theorem dJ9_floorMod_7cf53_16 : decode cJ9_floorMod_7cf53 16 = .ok (.iadd, 1) := by decide +kernel
theorem dJ9_floorMod_7cf53_17 : decode cJ9_floorMod_7cf53 17 = .ok (.ireturn, 1) := by decide +kernel
theorem dJ9_floorMod_7cf53_18 : decode cJ9_floorMod_7cf53 18 = .ok (.iload_n 2, 1) := by decide +kernel
theorem dJ9_floorMod_7cf53_19 : decode cJ9_floorMod_7cf53 19 = .ok (.ireturn, 1) := by decide +kernel
theorem dJ9_abs_0f7a4_0 : decode cJ9_abs_0f7a4 0 = .ok (.iload_n 0, 1) := by decide +kernel
theorem dJ9_abs_0f7a4_1 : decode cJ9_abs_0f7a4 1 = .ok (.ifCond .ge 8, 3) := by decide +kernel
theorem dJ9_abs_0f7a4_4 : decode cJ9_abs_0f7a4 4 = .ok (.iload_n 0, 1) := by decide +kernel
theorem dJ9_abs_0f7a4_5 : decode cJ9_abs_0f7a4 5 = .ok (.ineg, 1) := by decide +kernel
theorem dJ9_abs_0f7a4_6 : decode cJ9_abs_0f7a4 6 = .ok (.goto 4, 3) := by decide +kernel
theorem dJ9_abs_0f7a4_9 : decode cJ9_abs_0f7a4 9 = .ok (.iload_n 0, 1) := by decide +kernel
theorem dJ9_abs_0f7a4_10 : decode cJ9_abs_0f7a4 10 = .ok (.ireturn, 1) := by decide +kernel
theorem dJ9_max_7cf53_0 : decode cJ9_max_7cf53 0 = .ok (.iload_n 0, 1) := by decide +kernel
theorem dJ9_max_7cf53_1 : decode cJ9_max_7cf53 1 = .ok (.iload_n 1, 1) := by decide +kernel
theorem dJ9_max_7cf53_2 : decode cJ9_max_7cf53 2 = .ok (.if_icmp .lt 7, 3) := by decide +kernel
theorem dJ9_max_7cf53_5 : decode cJ9_max_7cf53 5 = .ok (.iload_n 0, 1) := by decide +kernel
theorem dJ9_max_7cf53_6 : decode cJ9_max_7cf53 6 = .ok (.goto 4, 3) := by decide +kernel
theorem dJ9_max_7cf53_9 : decode cJ9_max_7cf53 9 = .ok (.iload_n 1, 1) := by decide +kernel
theorem dJ9_max_7cf53_10 : decode cJ9_max_7cf53 10 = .ok (.ireturn, 1) := by decide +kernel
theorem dJ9_min_7cf53_0 : decode cJ9_min_7cf53 0 = .ok (.iload_n 0, 1) := by decide +kernel
theorem dJ9_min_7cf53_1 : decode cJ9_min_7cf53 1 = .ok (.iload_n 1, 1) := by decide +kernel
theorem dJ9_min_7cf53_2 : decode cJ9_min_7cf53 2 = .ok (.if_icmp .gt 7, 3) := by decide +kernel
theorem dJ9_min_7cf53_5 : decode cJ9_min_7cf53 5 = .ok (.iload_n 0, 1) := by decide +kernel
theorem dJ9_min_7cf53_6 : decode cJ9_min_7cf53 6 = .ok (.goto 4, 3) := by decide +kernel
theorem dJ9_min_7cf53_9 : decode cJ9_min_7cf53 9 = .ok (.iload_n 1, 1) := by decide +kernel
theorem dJ9_min_7cf53_10 : decode cJ9_min_7cf53 10 = .ok (.ireturn, 1) := by decide +kernel
theorem dJxa1e45_init_da8c8_0 : decode cJxa1e45_init_da8c8 0 = .ok (.aload_n 0, 1) := by decide +kernel
theorem dJxa1e45_init_da8c8_1 : decode cJxa1e45_init_da8c8 1 = .ok (.invokespecial 1, 3) := by decide +kernel
theorem dJxa1e45_init_da8c8_4 : decode cJxa1e45_init_da8c8 4 = .ok (.return_, 1) := by decide +kernel
theorem dJxc12de_init_da8c8_0 : decode cJxc12de_init_da8c8 0 = .ok (.aload_n 0, 1) := by decide +kernel
theorem dJxc12de_init_da8c8_1 : decode cJxc12de_init_da8c8 1 = .ok (.invokespecial 1, 3) := by decide +kernel
theorem dJxc12de_init_da8c8_4 : decode cJxc12de_init_da8c8 4 = .ok (.aload_n 0, 1) := by decide +kernel
theorem dJxc12de_init_da8c8_5 : decode cJxc12de_init_da8c8 5 = .ok (.iconst 0, 1) := by decide +kernel
theorem dJxc12de_init_da8c8_6 : decode cJxc12de_init_da8c8 6 = .ok (.putfield 7, 3) := by decide +kernel
theorem dJxc12de_init_da8c8_9 : decode cJxc12de_init_da8c8 9 = .ok (.return_, 1) := by decide +kernel
theorem dJx4a65c_init_da8c8_0 : decode cJx4a65c_init_da8c8 0 = .ok (.aload_n 0, 1) := by decide +kernel
theorem dJx4a65c_init_da8c8_1 : decode cJx4a65c_init_da8c8 1 = .ok (.invokespecial 1, 3) := by decide +kernel
theorem dJx4a65c_init_da8c8_4 : decode cJx4a65c_init_da8c8 4 = .ok (.aload_n 0, 1) := by decide +kernel
theorem dJx4a65c_init_da8c8_5 : decode cJx4a65c_init_da8c8 5 = .ok (.getstatic 39, 3) := by decide +kernel
theorem dJx4a65c_init_da8c8_8 : decode cJx4a65c_init_da8c8 8 = .ok (.putfield 9, 3) := by decide +kernel
theorem dJx4a65c_init_da8c8_11 : decode cJx4a65c_init_da8c8 11 = .ok (.return_, 1) := by decide +kernel
theorem dJx4a65c_grow_92f84_0 : decode cJx4a65c_grow_92f84 0 = .ok (.aload_n 0, 1) := by decide +kernel
theorem dJx4a65c_grow_92f84_1 : decode cJx4a65c_grow_92f84 1 = .ok (.getfield 9, 3) := by decide +kernel
theorem dJx4a65c_grow_92f84_4 : decode cJx4a65c_grow_92f84 4 = .ok (.arraylength, 1) := by decide +kernel
theorem dJx4a65c_grow_92f84_5 : decode cJx4a65c_grow_92f84 5 = .ok (.istore_n 2, 1) := by decide +kernel
theorem dJx4a65c_grow_92f84_6 : decode cJx4a65c_grow_92f84 6 = .ok (.iload_n 2, 1) := by decide +kernel
theorem dJx4a65c_grow_92f84_7 : decode cJx4a65c_grow_92f84 7 = .ok (.ifCond .gt 13, 3) := by decide +kernel
theorem dJx4a65c_grow_92f84_10 : decode cJx4a65c_grow_92f84 10 = .ok (.aload_n 0, 1) := by decide +kernel
theorem dJx4a65c_grow_92f84_11 : decode cJx4a65c_grow_92f84 11 = .ok (.getfield 9, 3) := by decide +kernel
theorem dJx4a65c_grow_92f84_14 : decode cJx4a65c_grow_92f84 14 = .ok (.getstatic 39, 3) := by decide +kernel
theorem dJx4a65c_grow_92f84_17 : decode cJx4a65c_grow_92f84 17 = .ok (.if_acmp .eq 28, 3) := by decide +kernel
theorem dJx4a65c_grow_92f84_20 : decode cJx4a65c_grow_92f84 20 = .ok (.iload_n 2, 1) := by decide +kernel
theorem dJx4a65c_grow_92f84_21 : decode cJx4a65c_grow_92f84 21 = .ok (.iload_n 1, 1) := by decide +kernel
theorem dJx4a65c_grow_92f84_22 : decode cJx4a65c_grow_92f84 22 = .ok (.iload_n 2, 1) := by decide +kernel
theorem dJx4a65c_grow_92f84_23 : decode cJx4a65c_grow_92f84 23 = .ok (.isub, 1) := by decide +kernel
theorem dJx4a65c_grow_92f84_24 : decode cJx4a65c_grow_92f84 24 = .ok (.iload_n 2, 1) := by decide +kernel
theorem dJx4a65c_grow_92f84_25 : decode cJx4a65c_grow_92f84 25 = .ok (.iconst 1, 1) := by decide +kernel
theorem dJx4a65c_grow_92f84_26 : decode cJx4a65c_grow_92f84 26 = .ok (.ishr, 1) := by decide +kernel
theorem dJx4a65c_grow_92f84_27 : decode cJx4a65c_grow_92f84 27 = .ok (.invokestatic 73, 3) := by decide +kernel
theorem dJx4a65c_grow_92f84_30 : decode cJx4a65c_grow_92f84 30 = .ok (.istore_n 3, 1) := by decide +kernel
theorem dJx4a65c_grow_92f84_31 : decode cJx4a65c_grow_92f84 31 = .ok (.aload_n 0, 1) := by decide +kernel
theorem dJx4a65c_grow_92f84_32 : decode cJx4a65c_grow_92f84 32 = .ok (.aload_n 0, 1) := by decide +kernel
theorem dJx4a65c_grow_92f84_33 : decode cJx4a65c_grow_92f84 33 = .ok (.getfield 9, 3) := by decide +kernel
theorem dJx4a65c_grow_92f84_36 : decode cJx4a65c_grow_92f84 36 = .ok (.iload_n 3, 1) := by decide +kernel
theorem dJx4a65c_grow_92f84_37 : decode cJx4a65c_grow_92f84 37 = .ok (.invokestatic 66, 3) := by decide +kernel
theorem dJx4a65c_grow_92f84_40 : decode cJx4a65c_grow_92f84 40 = .ok (.dup_x1, 1) := by decide +kernel
theorem dJx4a65c_grow_92f84_41 : decode cJx4a65c_grow_92f84 41 = .ok (.putfield 9, 3) := by decide +kernel
theorem dJx4a65c_grow_92f84_44 : decode cJx4a65c_grow_92f84 44 = .ok (.areturn, 1) := by decide +kernel
theorem dJx4a65c_grow_92f84_45 : decode cJx4a65c_grow_92f84 45 = .ok (.aload_n 0, 1) := by decide +kernel
theorem dJx4a65c_grow_92f84_46 : decode cJx4a65c_grow_92f84 46 = .ok (.bipush 10, 2) := by decide +kernel
theorem dJx4a65c_grow_92f84_48 : decode cJx4a65c_grow_92f84 48 = .ok (.iload_n 1, 1) := by decide +kernel
theorem dJx4a65c_grow_92f84_49 : decode cJx4a65c_grow_92f84 49 = .ok (.invokestatic 79, 3) := by decide +kernel
theorem dJx4a65c_grow_92f84_52 : decode cJx4a65c_grow_92f84 52 = .ok (.anewarray 7, 3) := by decide +kernel
theorem dJx4a65c_grow_92f84_55 : decode cJx4a65c_grow_92f84 55 = .ok (.dup_x1, 1) := by decide +kernel
theorem dJx4a65c_grow_92f84_56 : decode cJx4a65c_grow_92f84 56 = .ok (.putfield 9, 3) := by decide +kernel
theorem dJx4a65c_grow_92f84_59 : decode cJx4a65c_grow_92f84 59 = .ok (.areturn, 1) := by decide +kernel
theorem dJx4a65c_grow_d5877_0 : decode cJx4a65c_grow_d5877 0 = .ok (.aload_n 0, 1) := by decide +kernel
theorem dJx4a65c_grow_d5877_1 : decode cJx4a65c_grow_d5877 1 = .ok (.aload_n 0, 1) := by decide +kernel
theorem dJx4a65c_grow_d5877_2 : decode cJx4a65c_grow_d5877 2 = .ok (.getfield 48, 3) := by decide +kernel
theorem dJx4a65c_grow_d5877_5 : decode cJx4a65c_grow_d5877 5 = .ok (.iconst 1, 1) := by decide +kernel
theorem dJx4a65c_grow_d5877_6 : decode cJx4a65c_grow_d5877 6 = .ok (.iadd, 1) := by decide +kernel
theorem dJx4a65c_grow_d5877_7 : decode cJx4a65c_grow_d5877 7 = .ok (.invokevirtual 69, 3) := by decide +kernel
theorem dJx4a65c_grow_d5877_10 : decode cJx4a65c_grow_d5877 10 = .ok (.areturn, 1) := by decide +kernel
theorem dJx4a65c_size_8abf5_0 : decode cJx4a65c_size_8abf5 0 = .ok (.aload_n 0, 1) := by decide +kernel
theorem dJx4a65c_size_8abf5_1 : decode cJx4a65c_size_8abf5 1 = .ok (.getfield 48, 3) := by decide +kernel
theorem dJx4a65c_size_8abf5_4 : decode cJx4a65c_size_8abf5 4 = .ok (.ireturn, 1) := by decide +kernel
theorem dJx4a65c_elementData_915e3_0 : decode cJx4a65c_elementData_915e3 0 = .ok (.aload_n 0, 1) := by decide +kernel
theorem dJx4a65c_elementData_915e3_1 : decode cJx4a65c_elementData_915e3 1 = .ok (.getfield 9, 3) := by decide +kernel
theorem dJx4a65c_elementData_915e3_4 : decode cJx4a65c_elementData_915e3 4 = .ok (.iload_n 1, 1) := by decide +kernel
theorem dJx4a65c_elementData_915e3_5 : decode cJx4a65c_elementData_915e3 5 = .ok (.aaload, 1) := by decide +kernel
theorem dJx4a65c_elementData_915e3_6 : decode cJx4a65c_elementData_915e3 6 = .ok (.areturn, 1) := by decide +kernel
theorem dJx4a65c_get_915e3_0 : decode cJx4a65c_get_915e3 0 = .ok (.iload_n 1, 1) := by decide +kernel
theorem dJx4a65c_get_915e3_1 : decode cJx4a65c_get_915e3 1 = .ok (.aload_n 0, 1) := by decide +kernel
theorem dJx4a65c_get_915e3_2 : decode cJx4a65c_get_915e3 2 = .ok (.getfield 48, 3) := by decide +kernel
theorem dJx4a65c_get_915e3_5 : decode cJx4a65c_get_915e3 5 = .ok (.invokestatic 118, 3) := by decide +kernel
theorem dJx4a65c_get_915e3_8 : decode cJx4a65c_get_915e3 8 = .ok (.pop, 1) := by decide +kernel
theorem dJx4a65c_get_915e3_9 : decode cJx4a65c_get_915e3 9 = .ok (.aload_n 0, 1) := by decide +kernel
theorem dJx4a65c_get_915e3_10 : decode cJx4a65c_get_915e3 10 = .ok (.iload_n 1, 1) := by decide +kernel
theorem dJx4a65c_get_915e3_11 : decode cJx4a65c_get_915e3 11 = .ok (.invokevirtual 123, 3) := by decide +kernel
theorem dJx4a65c_get_915e3_14 : decode cJx4a65c_get_915e3 14 = .ok (.areturn, 1) := by decide +kernel
theorem dJx4a65c_add_72be8_0 : decode cJx4a65c_add_72be8 0 = .ok (.iload_n 3, 1) := by decide +kernel
theorem dJx4a65c_add_72be8_1 : decode cJx4a65c_add_72be8 1 = .ok (.aload_n 2, 1) := by decide +kernel
theorem dJx4a65c_add_72be8_2 : decode cJx4a65c_add_72be8 2 = .ok (.arraylength, 1) := by decide +kernel
theorem dJx4a65c_add_72be8_3 : decode cJx4a65c_add_72be8 3 = .ok (.if_icmp .ne 8, 3) := by decide +kernel
theorem dJx4a65c_add_72be8_6 : decode cJx4a65c_add_72be8 6 = .ok (.aload_n 0, 1) := by decide +kernel
theorem dJx4a65c_add_72be8_7 : decode cJx4a65c_add_72be8 7 = .ok (.invokevirtual 129, 3) := by decide +kernel
theorem dJx4a65c_add_72be8_10 : decode cJx4a65c_add_72be8 10 = .ok (.astore_n 2, 1) := by decide +kernel
theorem dJx4a65c_add_72be8_11 : decode cJx4a65c_add_72be8 11 = .ok (.aload_n 2, 1) := by decide +kernel
theorem dJx4a65c_add_72be8_12 : decode cJx4a65c_add_72be8 12 = .ok (.iload_n 3, 1) := by decide +kernel
theorem dJx4a65c_add_72be8_13 : decode cJx4a65c_add_72be8 13 = .ok (.aload_n 1, 1) := by decide +kernel
theorem dJx4a65c_add_72be8_14 : decode cJx4a65c_add_72be8 14 = .ok (.aastore, 1) := by decide +kernel
theorem dJx4a65c_add_72be8_15 : decode cJx4a65c_add_72be8 15 = .ok (.aload_n 0, 1) := by decide +kernel
theorem dJx4a65c_add_72be8_16 : decode cJx4a65c_add_72be8 16 = .ok (.iload_n 3, 1) := by decide +kernel
theorem dJx4a65c_add_72be8_17 : decode cJx4a65c_add_72be8 17 = .ok (.iconst 1, 1) := by decide +kernel
theorem dJx4a65c_add_72be8_18 : decode cJx4a65c_add_72be8 18 = .ok (.iadd, 1) := by decide +kernel
theorem dJx4a65c_add_72be8_19 : decode cJx4a65c_add_72be8 19 = .ok (.putfield 48, 3) := by decide +kernel
theorem dJx4a65c_add_72be8_22 : decode cJx4a65c_add_72be8 22 = .ok (.return_, 1) := by decide +kernel
theorem dJx4a65c_add_9ea2d_0 : decode cJx4a65c_add_9ea2d 0 = .ok (.aload_n 0, 1) := by decide +kernel
theorem dJx4a65c_add_9ea2d_1 : decode cJx4a65c_add_9ea2d 1 = .ok (.dup, 1) := by decide +kernel
theorem dJx4a65c_add_9ea2d_2 : decode cJx4a65c_add_9ea2d 2 = .ok (.getfield 63, 3) := by decide +kernel
theorem dJx4a65c_add_9ea2d_5 : decode cJx4a65c_add_9ea2d 5 = .ok (.iconst 1, 1) := by decide +kernel
theorem dJx4a65c_add_9ea2d_6 : decode cJx4a65c_add_9ea2d 6 = .ok (.iadd, 1) := by decide +kernel
theorem dJx4a65c_add_9ea2d_7 : decode cJx4a65c_add_9ea2d 7 = .ok (.putfield 63, 3) := by decide +kernel
theorem dJx4a65c_add_9ea2d_10 : decode cJx4a65c_add_9ea2d 10 = .ok (.aload_n 0, 1) := by decide +kernel
theorem dJx4a65c_add_9ea2d_11 : decode cJx4a65c_add_9ea2d 11 = .ok (.aload_n 1, 1) := by decide +kernel
theorem dJx4a65c_add_9ea2d_12 : decode cJx4a65c_add_9ea2d 12 = .ok (.aload_n 0, 1) := by decide +kernel
theorem dJx4a65c_add_9ea2d_13 : decode cJx4a65c_add_9ea2d 13 = .ok (.getfield 9, 3) := by decide +kernel
theorem dJx4a65c_add_9ea2d_16 : decode cJx4a65c_add_9ea2d 16 = .ok (.aload_n 0, 1) := by decide +kernel
theorem dJx4a65c_add_9ea2d_17 : decode cJx4a65c_add_9ea2d 17 = .ok (.getfield 48, 3) := by decide +kernel
theorem dJx4a65c_add_9ea2d_20 : decode cJx4a65c_add_9ea2d 20 = .ok (.invokevirtual 131, 3) := by decide +kernel
theorem dJx4a65c_add_9ea2d_23 : decode cJx4a65c_add_9ea2d 23 = .ok (.iconst 1, 1) := by decide +kernel
theorem dJx4a65c_add_9ea2d_24 : decode cJx4a65c_add_9ea2d 24 = .ok (.ireturn, 1) := by decide +kernel
theorem dJ7_copyOf_1904c_0 : decode cJ7_copyOf_1904c 0 = .ok (.aload_n 0, 1) := by decide +kernel
theorem dJ7_copyOf_1904c_1 : decode cJ7_copyOf_1904c 1 = .ok (.iload_n 1, 1) := by decide +kernel
theorem dJ7_copyOf_1904c_2 : decode cJ7_copyOf_1904c 2 = .ok (.aload_n 0, 1) := by decide +kernel
theorem dJ7_copyOf_1904c_3 : decode cJ7_copyOf_1904c 3 = .ok (.invokevirtual 86, 3) := by decide +kernel
theorem dJ7_copyOf_1904c_6 : decode cJ7_copyOf_1904c 6 = .ok (.invokestatic 300, 3) := by decide +kernel
theorem dJ7_copyOf_1904c_9 : decode cJ7_copyOf_1904c 9 = .ok (.areturn, 1) := by decide +kernel
theorem dJ7_copyOf_6403c_0 : decode cJ7_copyOf_6403c 0 = .ok (.aload_n 2, 1) := by decide +kernel
theorem dJ7_copyOf_6403c_1 : decode cJ7_copyOf_6403c 1 = .ok (.ldc 110, 2) := by decide +kernel
theorem dJ7_copyOf_6403c_3 : decode cJ7_copyOf_6403c 3 = .ok (.if_acmp .ne 10, 3) := by decide +kernel
theorem dJ7_copyOf_6403c_6 : decode cJ7_copyOf_6403c 6 = .ok (.iload_n 1, 1) := by decide +kernel
theorem dJ7_copyOf_6403c_7 : decode cJ7_copyOf_6403c 7 = .ok (.anewarray 2, 3) := by decide +kernel
theorem dJ7_copyOf_6403c_10 : decode cJ7_copyOf_6403c 10 = .ok (.goto 14, 3) := by decide +kernel
theorem dJ7_copyOf_6403c_13 : decode cJ7_copyOf_6403c 13 = .ok (.aload_n 2, 1) := by decide +kernel
theorem dJ7_copyOf_6403c_14 : decode cJ7_copyOf_6403c 14 = .ok (.invokevirtual 90, 3) := by decide +kernel
theorem dJ7_copyOf_6403c_17 : decode cJ7_copyOf_6403c 17 = .ok (.iload_n 1, 1) := by decide +kernel
theorem dJ7_copyOf_6403c_18 : decode cJ7_copyOf_6403c 18 = .ok (.invokestatic 95, 3) := by decide +kernel
theorem dJ7_copyOf_6403c_21 : decode cJ7_copyOf_6403c 21 = .ok (.checkcast 110, 3) := by decide +kernel
theorem dJ7_copyOf_6403c_24 : decode cJ7_copyOf_6403c 24 = .ok (.astore_n 3, 1) := by decide +kernel
theorem dJ7_copyOf_6403c_25 : decode cJ7_copyOf_6403c 25 = .ok (.aload_n 0, 1) := by decide +kernel
theorem dJ7_copyOf_6403c_26 : decode cJ7_copyOf_6403c 26 = .ok (.iconst 0, 1) := by decide +kernel
theorem dJ7_copyOf_6403c_27 : decode cJ7_copyOf_6403c 27 = .ok (.aload_n 3, 1) := by decide +kernel
theorem dJ7_copyOf_6403c_28 : decode cJ7_copyOf_6403c 28 = .ok (.iconst 0, 1) := by decide +kernel
theorem dJ7_copyOf_6403c_29 : decode cJ7_copyOf_6403c 29 = .ok (.aload_n 0, 1) := by decide +kernel
theorem dJ7_copyOf_6403c_30 : decode cJ7_copyOf_6403c 30 = .ok (.arraylength, 1) := by decide +kernel
theorem dJ7_copyOf_6403c_31 : decode cJ7_copyOf_6403c 31 = .ok (.iload_n 1, 1) := by decide +kernel
theorem dJ7_copyOf_6403c_32 : decode cJ7_copyOf_6403c 32 = .ok (.invokestatic 304, 3) := by decide +kernel
theorem dJ7_copyOf_6403c_35 : decode cJ7_copyOf_6403c 35 = .ok (.invokestatic 150, 3) := by decide +kernel
theorem dJ7_copyOf_6403c_38 : decode cJ7_copyOf_6403c 38 = .ok (.aload_n 3, 1) := by decide +kernel
theorem dJ7_copyOf_6403c_39 : decode cJ7_copyOf_6403c 39 = .ok (.areturn, 1) := by decide +kernel
theorem dJ15_checkIndex_7cf53_0 : decode cJ15_checkIndex_7cf53 0 = .ok (.iload_n 0, 1) := by decide +kernel
theorem dJ15_checkIndex_7cf53_1 : decode cJ15_checkIndex_7cf53 1 = .ok (.iload_n 1, 1) := by decide +kernel
theorem dJ15_checkIndex_7cf53_2 : decode cJ15_checkIndex_7cf53 2 = .ok (.aconst_null, 1) := by decide +kernel
theorem dJ15_checkIndex_7cf53_3 : decode cJ15_checkIndex_7cf53 3 = .ok (.invokestatic 105, 3) := by decide +kernel
theorem dJ15_checkIndex_7cf53_6 : decode cJ15_checkIndex_7cf53 6 = .ok (.ireturn, 1) := by decide +kernel
theorem dJ8_newLength_cabcc_0 : decode cJ8_newLength_cabcc 0 = .ok (.iload_n 0, 1) := by decide +kernel
theorem dJ8_newLength_cabcc_1 : decode cJ8_newLength_cabcc 1 = .ok (.iload_n 1, 1) := by decide +kernel
theorem dJ8_newLength_cabcc_2 : decode cJ8_newLength_cabcc 2 = .ok (.iload_n 2, 1) := by decide +kernel
theorem dJ8_newLength_cabcc_3 : decode cJ8_newLength_cabcc 3 = .ok (.invokestatic 194, 3) := by decide +kernel
theorem dJ8_newLength_cabcc_6 : decode cJ8_newLength_cabcc 6 = .ok (.iadd, 1) := by decide +kernel
theorem dJ8_newLength_cabcc_7 : decode cJ8_newLength_cabcc 7 = .ok (.istore_n 3, 1) := by decide +kernel
theorem dJ8_newLength_cabcc_8 : decode cJ8_newLength_cabcc 8 = .ok (.iconst 0, 1) := by decide +kernel
theorem dJ8_newLength_cabcc_9 : decode cJ8_newLength_cabcc 9 = .ok (.iload_n 3, 1) := by decide +kernel
theorem dJ8_newLength_cabcc_10 : decode cJ8_newLength_cabcc 10 = .ok (.if_icmp .ge 11, 3) := by decide +kernel
theorem dJ8_newLength_cabcc_13 : decode cJ8_newLength_cabcc 13 = .ok (.iload_n 3, 1) := by decide +kernel
theorem dJ8_newLength_cabcc_14 : decode cJ8_newLength_cabcc 14 = .ok (.ldc 200, 2) := by decide +kernel
theorem dJ8_newLength_cabcc_16 : decode cJ8_newLength_cabcc 16 = .ok (.if_icmp .gt 5, 3) := by decide +kernel
theorem dJ8_newLength_cabcc_19 : decode cJ8_newLength_cabcc 19 = .ok (.iload_n 3, 1) := by decide +kernel
theorem dJ8_newLength_cabcc_20 : decode cJ8_newLength_cabcc 20 = .ok (.ireturn, 1) := by decide +kernel
theorem dJ8_newLength_cabcc_21 : decode cJ8_newLength_cabcc 21 = .ok (.iload_n 0, 1) := by decide +kernel
theorem dJ8_newLength_cabcc_22 : decode cJ8_newLength_cabcc 22 = .ok (.iload_n 1, 1) := by decide +kernel
theorem dJ8_newLength_cabcc_23 : decode cJ8_newLength_cabcc 23 = .ok (.invokestatic 201, 3) := by decide +kernel
theorem dJ8_newLength_cabcc_26 : decode cJ8_newLength_cabcc 26 = .ok (.ireturn, 1) := by decide +kernel
theorem dJ8_hugeLength_7cf53_0 : decode cJ8_hugeLength_7cf53 0 = .ok (.iload_n 0, 1) := by decide +kernel
theorem dJ8_hugeLength_7cf53_1 : decode cJ8_hugeLength_7cf53 1 = .ok (.iload_n 1, 1) := by decide +kernel
theorem dJ8_hugeLength_7cf53_2 : decode cJ8_hugeLength_7cf53 2 = .ok (.iadd, 1) := by decide +kernel
theorem dJ8_hugeLength_7cf53_3 : decode cJ8_hugeLength_7cf53 3 = .ok (.istore_n 2, 1) := by decide +kernel
theorem dJ8_hugeLength_7cf53_4 : decode cJ8_hugeLength_7cf53 4 = .ok (.iload_n 2, 1) := by decide +kernel
theorem dJ8_hugeLength_7cf53_5 : decode cJ8_hugeLength_7cf53 5 = .ok (.ifCond .ge 44, 3) := by decide +kernel
theorem dJ8_hugeLength_7cf53_8 : decode cJ8_hugeLength_7cf53 8 = .ok (.new 204, 3) := by decide +kernel
theorem dJ8_hugeLength_7cf53_11 : decode cJ8_hugeLength_7cf53 11 = .ok (.dup, 1) := by decide +kernel
theorem dJ8_hugeLength_7cf53_12 : decode cJ8_hugeLength_7cf53 12 = .ok (.new 89, 3) := by decide +kernel
theorem dJ8_hugeLength_7cf53_15 : decode cJ8_hugeLength_7cf53 15 = .ok (.dup, 1) := by decide +kernel
theorem dJ8_hugeLength_7cf53_16 : decode cJ8_hugeLength_7cf53 16 = .ok (.invokespecial 91, 3) := by decide +kernel
theorem dJ8_hugeLength_7cf53_19 : decode cJ8_hugeLength_7cf53 19 = .ok (.ldc 206, 2) := by decide +kernel
theorem dJ8_hugeLength_7cf53_21 : decode cJ8_hugeLength_7cf53 21 = .ok (.invokevirtual 94, 3) := by decide +kernel
theorem dJ8_hugeLength_7cf53_24 : decode cJ8_hugeLength_7cf53 24 = .ok (.iload_n 0, 1) := by decide +kernel
theorem dJ8_hugeLength_7cf53_25 : decode cJ8_hugeLength_7cf53 25 = .ok (.invokevirtual 98, 3) := by decide +kernel
theorem dJ8_hugeLength_7cf53_28 : decode cJ8_hugeLength_7cf53 28 = .ok (.ldc 208, 2) := by decide +kernel
theorem dJ8_hugeLength_7cf53_30 : decode cJ8_hugeLength_7cf53 30 = .ok (.invokevirtual 94, 3) := by decide +kernel
theorem dJ8_hugeLength_7cf53_33 : decode cJ8_hugeLength_7cf53 33 = .ok (.iload_n 1, 1) := by decide +kernel
theorem dJ8_hugeLength_7cf53_34 : decode cJ8_hugeLength_7cf53 34 = .ok (.invokevirtual 98, 3) := by decide +kernel
theorem dJ8_hugeLength_7cf53_37 : decode cJ8_hugeLength_7cf53 37 = .ok (.ldc 210, 2) := by decide +kernel
theorem dJ8_hugeLength_7cf53_39 : decode cJ8_hugeLength_7cf53 39 = .ok (.invokevirtual 94, 3) := by decide +kernel
theorem dJ8_hugeLength_7cf53_42 : decode cJ8_hugeLength_7cf53 42 = .ok (.invokevirtual 101, 3) := by decide +kernel
theorem dJ8_hugeLength_7cf53_45 : decode cJ8_hugeLength_7cf53 45 = .ok (.invokespecial 212, 3) := by decide +kernel
theorem dJ8_hugeLength_7cf53_48 : decode cJ8_hugeLength_7cf53 48 = .ok (.athrow, 1) := by decide +kernel
theorem dJ8_hugeLength_7cf53_49 : decode cJ8_hugeLength_7cf53 49 = .ok (.iload_n 2, 1) := by decide +kernel
theorem dJ8_hugeLength_7cf53_50 : decode cJ8_hugeLength_7cf53 50 = .ok (.ldc 200, 2) := by decide +kernel
theorem dJ8_hugeLength_7cf53_52 : decode cJ8_hugeLength_7cf53 52 = .ok (.if_icmp .gt 6, 3) := by decide +kernel
theorem dJ8_hugeLength_7cf53_55 : decode cJ8_hugeLength_7cf53 55 = .ok (.ldc 200, 2) := by decide +kernel
theorem dJ8_hugeLength_7cf53_57 : decode cJ8_hugeLength_7cf53 57 = .ok (.ireturn, 1) := by decide +kernel
theorem dJ8_hugeLength_7cf53_58 : decode cJ8_hugeLength_7cf53 58 = .ok (.iload_n 2, 1) := by decide +kernel
theorem dJ8_hugeLength_7cf53_59 : decode cJ8_hugeLength_7cf53 59 = .ok (.ireturn, 1) := by decide +kernel
theorem dJ3_checkIndex_8e157_0 : decode cJ3_checkIndex_8e157 0 = .ok (.iload_n 0, 1) := by decide +kernel
theorem dJ3_checkIndex_8e157_1 : decode cJ3_checkIndex_8e157 1 = .ok (.ifCond .lt 8, 3) := by decide +kernel
theorem dJ3_checkIndex_8e157_4 : decode cJ3_checkIndex_8e157 4 = .ok (.iload_n 0, 1) := by decide +kernel
theorem dJ3_checkIndex_8e157_5 : decode cJ3_checkIndex_8e157 5 = .ok (.iload_n 1, 1) := by decide +kernel
theorem dJ3_checkIndex_8e157_6 : decode cJ3_checkIndex_8e157 6 = .ok (.if_icmp .lt 10, 3) := by decide +kernel
theorem dJ3_checkIndex_8e157_9 : decode cJ3_checkIndex_8e157 9 = .ok (.aload_n 2, 1) := by decide +kernel
theorem dJ3_checkIndex_8e157_10 : decode cJ3_checkIndex_8e157 10 = .ok (.iload_n 0, 1) := by decide +kernel
theorem dJ3_checkIndex_8e157_11 : decode cJ3_checkIndex_8e157 11 = .ok (.iload_n 1, 1) := by decide +kernel
theorem dJ3_checkIndex_8e157_12 : decode cJ3_checkIndex_8e157 12 = .ok (.invokestatic 95, 3) := by decide +kernel
theorem dJ3_checkIndex_8e157_15 : decode cJ3_checkIndex_8e157 15 = .ok (.athrow, 1) := by decide +kernel
theorem dJ3_checkIndex_8e157_16 : decode cJ3_checkIndex_8e157 16 = .ok (.iload_n 0, 1) := by decide +kernel
theorem dJ3_checkIndex_8e157_17 : decode cJ3_checkIndex_8e157 17 = .ok (.ireturn, 1) := by decide +kernel
end
section
theorem dL_below_0 : decode cL_below 0 = .ok (.iload_n 0, 1) := by decide +kernel
theorem dL_below_1 : decode cL_below 1 = .ok (.ldc 7, 2) := by decide +kernel
theorem dL_below_3 : decode cL_below 3 = .ok (.iand, 1) := by decide +kernel
theorem dL_below_4 : decode cL_below 4 = .ok (.iload_n 1, 1) := by decide +kernel
theorem dL_below_5 : decode cL_below 5 = .ok (.irem, 1) := by decide +kernel
theorem dL_below_6 : decode cL_below 6 = .ok (.ireturn, 1) := by decide +kernel
theorem dL_cell_0 : decode cL_cell 0 = .ok (.iload_n 1, 1) := by decide +kernel
theorem dL_cell_1 : decode cL_cell 1 = .ok (.aload_n 0, 1) := by decide +kernel
theorem dL_cell_2 : decode cL_cell 2 = .ok (.arraylength, 1) := by decide +kernel
theorem dL_cell_3 : decode cL_cell 3 = .ok (.if_icmp .ge 9, 3) := by decide +kernel
theorem dL_cell_6 : decode cL_cell 6 = .ok (.aload_n 0, 1) := by decide +kernel
theorem dL_cell_7 : decode cL_cell 7 = .ok (.iload_n 1, 1) := by decide +kernel
theorem dL_cell_8 : decode cL_cell 8 = .ok (.iaload, 1) := by decide +kernel
theorem dL_cell_9 : decode cL_cell 9 = .ok (.goto 9, 3) := by decide +kernel
theorem dL_cell_12 : decode cL_cell 12 = .ok (.ldc 8, 2) := by decide +kernel
theorem dL_cell_14 : decode cL_cell 14 = .ok (.iload_n 1, 1) := by decide +kernel
theorem dL_cell_15 : decode cL_cell 15 = .ok (.iconst 3, 1) := by decide +kernel
theorem dL_cell_16 : decode cL_cell 16 = .ok (.iadd, 1) := by decide +kernel
theorem dL_cell_17 : decode cL_cell 17 = .ok (.imul, 1) := by decide +kernel
theorem dL_cell_18 : decode cL_cell 18 = .ok (.ireturn, 1) := by decide +kernel
theorem dL_law_0 : decode cL_law 0 = .ok (.new 9, 3) := by decide +kernel
theorem dL_law_3 : decode cL_law 3 = .ok (.dup, 1) := by decide +kernel
theorem dL_law_4 : decode cL_law 4 = .ok (.invokespecial 11, 3) := by decide +kernel
theorem dL_law_7 : decode cL_law 7 = .ok (.astore_n 1, 1) := by decide +kernel
theorem dL_law_8 : decode cL_law 8 = .ok (.iconst 0, 1) := by decide +kernel
theorem dL_law_9 : decode cL_law 9 = .ok (.istore_n 2, 1) := by decide +kernel
theorem dL_law_10 : decode cL_law 10 = .ok (.iload_n 2, 1) := by decide +kernel
theorem dL_law_11 : decode cL_law 11 = .ok (.iconst 2, 1) := by decide +kernel
theorem dL_law_12 : decode cL_law 12 = .ok (.if_icmp .ge 40, 3) := by decide +kernel
theorem dL_law_15 : decode cL_law 15 = .ok (.aload_n 1, 1) := by decide +kernel
theorem dL_law_16 : decode cL_law 16 = .ok (.bipush 10, 2) := by decide +kernel
theorem dL_law_18 : decode cL_law 18 = .ok (.aload_n 0, 1) := by decide +kernel
theorem dL_law_19 : decode cL_law 19 = .ok (.iload_n 2, 1) := by decide +kernel
theorem dL_law_20 : decode cL_law 20 = .ok (.invokestatic 12, 3) := by decide +kernel
theorem dL_law_23 : decode cL_law 23 = .ok (.bipush 51, 2) := by decide +kernel
theorem dL_law_25 : decode cL_law 25 = .ok (.invokestatic 18, 3) := by decide +kernel
theorem dL_law_28 : decode cL_law 28 = .ok (.iadd, 1) := by decide +kernel
theorem dL_law_29 : decode cL_law 29 = .ok (.invokevirtual 22, 3) := by decide +kernel
theorem dL_law_32 : decode cL_law 32 = .ok (.iload_n 2, 1) := by decide +kernel
theorem dL_law_33 : decode cL_law 33 = .ok (.if_icmp .ne 11, 3) := by decide +kernel
theorem dL_law_36 : decode cL_law 36 = .ok (.aload_n 1, 1) := by decide +kernel
theorem dL_law_37 : decode cL_law 37 = .ok (.invokevirtual 26, 3) := by decide +kernel
theorem dL_law_40 : decode cL_law 40 = .ok (.iload_n 2, 1) := by decide +kernel
theorem dL_law_41 : decode cL_law 41 = .ok (.if_icmp .eq 5, 3) := by decide +kernel
theorem dL_law_44 : decode cL_law 44 = .ok (.iconst 0, 1) := by decide +kernel
theorem dL_law_45 : decode cL_law 45 = .ok (.ireturn, 1) := by decide +kernel
theorem dL_law_46 : decode cL_law 46 = .ok (.iinc 2 1, 3) := by decide +kernel
theorem dL_law_49 : decode cL_law 49 = .ok (.goto (-39), 3) := by decide +kernel
theorem dL_law_52 : decode cL_law 52 = .ok (.iconst 2, 1) := by decide +kernel
theorem dL_law_53 : decode cL_law 53 = .ok (.aload_n 0, 1) := by decide +kernel
theorem dL_law_54 : decode cL_law 54 = .ok (.iconst 2, 1) := by decide +kernel
theorem dL_law_55 : decode cL_law 55 = .ok (.invokestatic 12, 3) := by decide +kernel
theorem dL_law_58 : decode cL_law 58 = .ok (.bipush 7, 2) := by decide +kernel
theorem dL_law_60 : decode cL_law 60 = .ok (.invokestatic 18, 3) := by decide +kernel
theorem dL_law_63 : decode cL_law 63 = .ok (.iadd, 1) := by decide +kernel
theorem dL_law_64 : decode cL_law 64 = .ok (.istore_n 2, 1) := by decide +kernel
theorem dL_law_65 : decode cL_law 65 = .ok (.iconst 0, 1) := by decide +kernel
theorem dL_law_66 : decode cL_law 66 = .ok (.istore_n 3, 1) := by decide +kernel
theorem dL_law_67 : decode cL_law 67 = .ok (.iload_n 3, 1) := by decide +kernel
theorem dL_law_68 : decode cL_law 68 = .ok (.iload_n 2, 1) := by decide +kernel
theorem dL_law_69 : decode cL_law 69 = .ok (.if_icmp .ge 64, 3) := by decide +kernel
theorem dL_law_72 : decode cL_law 72 = .ok (.aload_n 0, 1) := by decide +kernel
theorem dL_law_73 : decode cL_law 73 = .ok (.iload_n 3, 1) := by decide +kernel
theorem dL_law_74 : decode cL_law 74 = .ok (.iconst 3, 1) := by decide +kernel
theorem dL_law_75 : decode cL_law 75 = .ok (.iadd, 1) := by decide +kernel
theorem dL_law_76 : decode cL_law 76 = .ok (.invokestatic 12, 3) := by decide +kernel
theorem dL_law_79 : decode cL_law 79 = .ok (.istore 4, 2) := by decide +kernel
theorem dL_law_81 : decode cL_law 81 = .ok (.aload_n 1, 1) := by decide +kernel
theorem dL_law_82 : decode cL_law 82 = .ok (.iload 4, 2) := by decide +kernel
theorem dL_law_84 : decode cL_law 84 = .ok (.iconst 2, 1) := by decide +kernel
theorem dL_law_85 : decode cL_law 85 = .ok (.invokestatic 18, 3) := by decide +kernel
theorem dL_law_88 : decode cL_law 88 = .ok (.iload 4, 2) := by decide +kernel
theorem dL_law_90 : decode cL_law 90 = .ok (.iconst 2, 1) := by decide +kernel
theorem dL_law_91 : decode cL_law 91 = .ok (.ishr, 1) := by decide +kernel
theorem dL_law_92 : decode cL_law 92 = .ok (.bipush 20, 2) := by decide +kernel
theorem dL_law_94 : decode cL_law 94 = .ok (.invokestatic 18, 3) := by decide +kernel
theorem dL_law_97 : decode cL_law 97 = .ok (.iconst 1, 1) := by decide +kernel
theorem dL_law_98 : decode cL_law 98 = .ok (.iload 4, 2) := by decide +kernel
theorem dL_law_100 : decode cL_law 100 = .ok (.iconst 4, 1) := by decide +kernel
theorem dL_law_101 : decode cL_law 101 = .ok (.ishr, 1) := by decide +kernel
theorem dL_law_102 : decode cL_law 102 = .ok (.iconst 5, 1) := by decide +kernel
theorem dL_law_103 : decode cL_law 103 = .ok (.invokestatic 18, 3) := by decide +kernel
theorem dL_law_106 : decode cL_law 106 = .ok (.iadd, 1) := by decide +kernel
theorem dL_law_107 : decode cL_law 107 = .ok (.iload 4, 2) := by decide +kernel
theorem dL_law_109 : decode cL_law 109 = .ok (.iconst 5, 1) := by decide +kernel
theorem dL_law_110 : decode cL_law 110 = .ok (.ishr, 1) := by decide +kernel
theorem dL_law_111 : decode cL_law 111 = .ok (.bipush 7, 2) := by decide +kernel
theorem dL_law_113 : decode cL_law 113 = .ok (.invokestatic 18, 3) := by decide +kernel
theorem dL_law_116 : decode cL_law 116 = .ok (.iconst 3, 1) := by decide +kernel
theorem dL_law_117 : decode cL_law 117 = .ok (.isub, 1) := by decide +kernel
theorem dL_law_118 : decode cL_law 118 = .ok (.invokevirtual 30, 3) := by decide +kernel
theorem dL_law_121 : decode cL_law 121 = .ok (.iload_n 3, 1) := by decide +kernel
theorem dL_law_122 : decode cL_law 122 = .ok (.if_icmp .eq 5, 3) := by decide +kernel
theorem dL_law_125 : decode cL_law 125 = .ok (.iconst 0, 1) := by decide +kernel
theorem dL_law_126 : decode cL_law 126 = .ok (.ireturn, 1) := by decide +kernel
theorem dL_law_127 : decode cL_law 127 = .ok (.iinc 3 1, 3) := by decide +kernel
theorem dL_law_130 : decode cL_law 130 = .ok (.goto (-63), 3) := by decide +kernel
theorem dL_law_133 : decode cL_law 133 = .ok (.iconst 0, 1) := by decide +kernel
theorem dL_law_134 : decode cL_law 134 = .ok (.istore_n 3, 1) := by decide +kernel
theorem dL_law_135 : decode cL_law 135 = .ok (.iload_n 3, 1) := by decide +kernel
theorem dL_law_136 : decode cL_law 136 = .ok (.iconst 2, 1) := by decide +kernel
theorem dL_law_137 : decode cL_law 137 = .ok (.if_icmp .ge 97, 3) := by decide +kernel
theorem dL_law_140 : decode cL_law 140 = .ok (.iconst 0, 1) := by decide +kernel
theorem dL_law_141 : decode cL_law 141 = .ok (.istore 4, 2) := by decide +kernel
theorem dL_law_143 : decode cL_law 143 = .ok (.iload 4, 2) := by decide +kernel
theorem dL_law_145 : decode cL_law 145 = .ok (.iconst 3, 1) := by decide +kernel
theorem dL_law_146 : decode cL_law 146 = .ok (.if_icmp .ge 82, 3) := by decide +kernel
theorem dL_law_149 : decode cL_law 149 = .ok (.aload_n 0, 1) := by decide +kernel
theorem dL_law_150 : decode cL_law 150 = .ok (.iconst 3, 1) := by decide +kernel
theorem dL_law_151 : decode cL_law 151 = .ok (.iload_n 3, 1) := by decide +kernel
theorem dL_law_152 : decode cL_law 152 = .ok (.imul, 1) := by decide +kernel
theorem dL_law_153 : decode cL_law 153 = .ok (.iload 4, 2) := by decide +kernel
theorem dL_law_155 : decode cL_law 155 = .ok (.iadd, 1) := by decide +kernel
theorem dL_law_156 : decode cL_law 156 = .ok (.invokestatic 12, 3) := by decide +kernel
theorem dL_law_159 : decode cL_law 159 = .ok (.istore 5, 2) := by decide +kernel
theorem dL_law_161 : decode cL_law 161 = .ok (.aload_n 1, 1) := by decide +kernel
theorem dL_law_162 : decode cL_law 162 = .ok (.iload_n 3, 1) := by decide +kernel
theorem dL_law_163 : decode cL_law 163 = .ok (.iload 5, 2) := by decide +kernel
theorem dL_law_165 : decode cL_law 165 = .ok (.bipush 8, 2) := by decide +kernel
theorem dL_law_167 : decode cL_law 167 = .ok (.invokestatic 18, 3) := by decide +kernel
theorem dL_law_170 : decode cL_law 170 = .ok (.iconst 1, 1) := by decide +kernel
theorem dL_law_171 : decode cL_law 171 = .ok (.iload 5, 2) := by decide +kernel
theorem dL_law_173 : decode cL_law 173 = .ok (.iconst 3, 1) := by decide +kernel
theorem dL_law_174 : decode cL_law 174 = .ok (.ishr, 1) := by decide +kernel
theorem dL_law_175 : decode cL_law 175 = .ok (.sipush 1023, 3) := by decide +kernel
theorem dL_law_178 : decode cL_law 178 = .ok (.invokestatic 18, 3) := by decide +kernel
theorem dL_law_181 : decode cL_law 181 = .ok (.iadd, 1) := by decide +kernel
theorem dL_law_182 : decode cL_law 182 = .ok (.iload 4, 2) := by decide +kernel
theorem dL_law_184 : decode cL_law 184 = .ok (.ifCond .ne 17, 3) := by decide +kernel
theorem dL_law_187 : decode cL_law 187 = .ok (.bipush 16, 2) := by decide +kernel
theorem dL_law_189 : decode cL_law 189 = .ok (.iload 5, 2) := by decide +kernel
theorem dL_law_191 : decode cL_law 191 = .ok (.iconst 4, 1) := by decide +kernel
theorem dL_law_192 : decode cL_law 192 = .ok (.ishr, 1) := by decide +kernel
theorem dL_law_193 : decode cL_law 193 = .ok (.iconst 5, 1) := by decide +kernel
theorem dL_law_194 : decode cL_law 194 = .ok (.invokestatic 18, 3) := by decide +kernel
theorem dL_law_197 : decode cL_law 197 = .ok (.iadd, 1) := by decide +kernel
theorem dL_law_198 : decode cL_law 198 = .ok (.goto 12, 3) := by decide +kernel
theorem dL_law_201 : decode cL_law 201 = .ok (.iload 5, 2) := by decide +kernel
theorem dL_law_203 : decode cL_law 203 = .ok (.iconst 5, 1) := by decide +kernel
theorem dL_law_204 : decode cL_law 204 = .ok (.ishr, 1) := by decide +kernel
theorem dL_law_205 : decode cL_law 205 = .ok (.bipush 7, 2) := by decide +kernel
theorem dL_law_207 : decode cL_law 207 = .ok (.invokestatic 18, 3) := by decide +kernel
theorem dL_law_210 : decode cL_law 210 = .ok (.invokevirtual 34, 3) := by decide +kernel
theorem dL_law_213 : decode cL_law 213 = .ok (.iload 4, 2) := by decide +kernel
theorem dL_law_215 : decode cL_law 215 = .ok (.iconst 1, 1) := by decide +kernel
theorem dL_law_216 : decode cL_law 216 = .ok (.iadd, 1) := by decide +kernel
theorem dL_law_217 : decode cL_law 217 = .ok (.if_icmp .eq 5, 3) := by decide +kernel
theorem dL_law_220 : decode cL_law 220 = .ok (.iconst 0, 1) := by decide +kernel
theorem dL_law_221 : decode cL_law 221 = .ok (.ireturn, 1) := by decide +kernel
theorem dL_law_222 : decode cL_law 222 = .ok (.iinc 4 1, 3) := by decide +kernel
theorem dL_law_225 : decode cL_law 225 = .ok (.goto (-82), 3) := by decide +kernel
theorem dL_law_228 : decode cL_law 228 = .ok (.iinc 3 1, 3) := by decide +kernel
theorem dL_law_231 : decode cL_law 231 = .ok (.goto (-96), 3) := by decide +kernel
theorem dL_law_234 : decode cL_law 234 = .ok (.bipush 10, 2) := by decide +kernel
theorem dL_law_236 : decode cL_law 236 = .ok (.newarray .boolean, 2) := by decide +kernel
theorem dL_law_238 : decode cL_law 238 = .ok (.astore_n 3, 1) := by decide +kernel
theorem dL_law_239 : decode cL_law 239 = .ok (.sipush 3000, 3) := by decide +kernel
theorem dL_law_242 : decode cL_law 242 = .ok (.istore 4, 2) := by decide +kernel
theorem dL_law_244 : decode cL_law 244 = .ok (.iconst 0, 1) := by decide +kernel
theorem dL_law_245 : decode cL_law 245 = .ok (.istore 5, 2) := by decide +kernel
theorem dL_law_247 : decode cL_law 247 = .ok (.iload 5, 2) := by decide +kernel
theorem dL_law_249 : decode cL_law 249 = .ok (.bipush 60, 2) := by decide +kernel
theorem dL_law_251 : decode cL_law 251 = .ok (.if_icmp .ge 686, 3) := by decide +kernel
theorem dL_law_254 : decode cL_law 254 = .ok (.aload_n 0, 1) := by decide +kernel
theorem dL_law_255 : decode cL_law 255 = .ok (.iload 5, 2) := by decide +kernel
theorem dL_law_257 : decode cL_law 257 = .ok (.bipush 16, 2) := by decide +kernel
theorem dL_law_259 : decode cL_law 259 = .ok (.irem, 1) := by decide +kernel
theorem dL_law_260 : decode cL_law 260 = .ok (.invokestatic 12, 3) := by decide +kernel
theorem dL_law_263 : decode cL_law 263 = .ok (.bipush 31, 2) := by decide +kernel
theorem dL_law_265 : decode cL_law 265 = .ok (.iload 5, 2) := by decide +kernel
theorem dL_law_267 : decode cL_law 267 = .ok (.imul, 1) := by decide +kernel
theorem dL_law_268 : decode cL_law 268 = .ok (.iadd, 1) := by decide +kernel
theorem dL_law_269 : decode cL_law 269 = .ok (.istore 6, 2) := by decide +kernel
theorem dL_law_271 : decode cL_law 271 = .ok (.aload_n 0, 1) := by decide +kernel
theorem dL_law_272 : decode cL_law 272 = .ok (.bipush 7, 2) := by decide +kernel
theorem dL_law_274 : decode cL_law 274 = .ok (.iload 5, 2) := by decide +kernel
theorem dL_law_276 : decode cL_law 276 = .ok (.imul, 1) := by decide +kernel
theorem dL_law_277 : decode cL_law 277 = .ok (.iconst 3, 1) := by decide +kernel
theorem dL_law_278 : decode cL_law 278 = .ok (.iadd, 1) := by decide +kernel
theorem dL_law_279 : decode cL_law 279 = .ok (.bipush 16, 2) := by decide +kernel
theorem dL_law_281 : decode cL_law 281 = .ok (.irem, 1) := by decide +kernel
theorem dL_law_282 : decode cL_law 282 = .ok (.invokestatic 12, 3) := by decide +kernel
theorem dL_law_285 : decode cL_law 285 = .ok (.iconst 5, 1) := by decide +kernel
theorem dL_law_286 : decode cL_law 286 = .ok (.iload 5, 2) := by decide +kernel
theorem dL_law_288 : decode cL_law 288 = .ok (.imul, 1) := by decide +kernel
theorem dL_law_289 : decode cL_law 289 = .ok (.iadd, 1) := by decide +kernel
theorem dL_law_290 : decode cL_law 290 = .ok (.istore 7, 2) := by decide +kernel
theorem dL_law_292 : decode cL_law 292 = .ok (.iload 7, 2) := by decide +kernel
theorem dL_law_294 : decode cL_law 294 = .ok (.iload_n 2, 1) := by decide +kernel
theorem dL_law_295 : decode cL_law 295 = .ok (.invokestatic 18, 3) := by decide +kernel
theorem dL_law_298 : decode cL_law 298 = .ok (.istore 8, 2) := by decide +kernel
theorem dL_law_300 : decode cL_law 300 = .ok (.iload 7, 2) := by decide +kernel
theorem dL_law_302 : decode cL_law 302 = .ok (.iconst 2, 1) := by decide +kernel
theorem dL_law_303 : decode cL_law 303 = .ok (.ishr, 1) := by decide +kernel
theorem dL_law_304 : decode cL_law 304 = .ok (.iconst 2, 1) := by decide +kernel
theorem dL_law_305 : decode cL_law 305 = .ok (.invokestatic 18, 3) := by decide +kernel
theorem dL_law_308 : decode cL_law 308 = .ok (.istore 9, 2) := by decide +kernel
theorem dL_law_310 : decode cL_law 310 = .ok (.aload_n 1, 1) := by decide +kernel
theorem dL_law_311 : decode cL_law 311 = .ok (.bipush 15, 2) := by decide +kernel
theorem dL_law_313 : decode cL_law 313 = .ok (.invokevirtual 37, 3) := by decide +kernel
theorem dL_law_316 : decode cL_law 316 = .ok (.iconst 1, 1) := by decide +kernel
theorem dL_law_317 : decode cL_law 317 = .ok (.if_icmp .ne 7, 3) := by decide +kernel
theorem dL_law_320 : decode cL_law 320 = .ok (.iconst 1, 1) := by decide +kernel
theorem dL_law_321 : decode cL_law 321 = .ok (.goto 4, 3) := by decide +kernel
theorem dL_law_324 : decode cL_law 324 = .ok (.iconst 0, 1) := by decide +kernel
theorem dL_law_325 : decode cL_law 325 = .ok (.istore 10, 2) := by decide +kernel
theorem dL_law_327 : decode cL_law 327 = .ok (.iload 6, 2) := by decide +kernel
theorem dL_law_329 : decode cL_law 329 = .ok (.bipush 17, 2) := by decide +kernel
theorem dL_law_331 : decode cL_law 331 = .ok (.invokestatic 18, 3) := by decide +kernel
theorem dL_law_334 : decode cL_law 334 = .ok (.tableswitch 528 0 12 #[66, 66, 109, 109, 165, 216, 239, 311, 376, 425, 425, 477, 504], 66) := by decide +kernel
theorem dL_law_400 : decode cL_law 400 = .ok (.iload 10, 2) := by decide +kernel
theorem dL_law_402 : decode cL_law 402 = .ok (.ifCond .ne 481, 3) := by decide +kernel
theorem dL_law_405 : decode cL_law 405 = .ok (.aload_n 1, 1) := by decide +kernel
theorem dL_law_406 : decode cL_law 406 = .ok (.iload 8, 2) := by decide +kernel
theorem dL_law_408 : decode cL_law 408 = .ok (.iload 6, 2) := by decide +kernel
theorem dL_law_410 : decode cL_law 410 = .ok (.iconst 4, 1) := by decide +kernel
theorem dL_law_411 : decode cL_law 411 = .ok (.ishr, 1) := by decide +kernel
theorem dL_law_412 : decode cL_law 412 = .ok (.iconst 5, 1) := by decide +kernel
theorem dL_law_413 : decode cL_law 413 = .ok (.invokestatic 18, 3) := by decide +kernel
theorem dL_law_416 : decode cL_law 416 = .ok (.invokevirtual 40, 3) := by decide +kernel
theorem dL_law_419 : decode cL_law 419 = .ok (.iconst 4, 1) := by decide +kernel
theorem dL_law_420 : decode cL_law 420 = .ok (.if_icmp .gt 21, 3) := by decide +kernel
theorem dL_law_423 : decode cL_law 423 = .ok (.aload_n 1, 1) := by decide +kernel
theorem dL_law_424 : decode cL_law 424 = .ok (.iload 8, 2) := by decide +kernel
theorem dL_law_426 : decode cL_law 426 = .ok (.iconst 4, 1) := by decide +kernel
theorem dL_law_427 : decode cL_law 427 = .ok (.invokevirtual 43, 3) := by decide +kernel
theorem dL_law_430 : decode cL_law 430 = .ok (.iload 6, 2) := by decide +kernel
theorem dL_law_432 : decode cL_law 432 = .ok (.iconst 4, 1) := by decide +kernel
theorem dL_law_433 : decode cL_law 433 = .ok (.ishr, 1) := by decide +kernel
theorem dL_law_434 : decode cL_law 434 = .ok (.iconst 5, 1) := by decide +kernel
theorem dL_law_435 : decode cL_law 435 = .ok (.invokestatic 18, 3) := by decide +kernel
theorem dL_law_438 : decode cL_law 438 = .ok (.if_icmp .eq 445, 3) := by decide +kernel
theorem dL_law_441 : decode cL_law 441 = .ok (.iconst 0, 1) := by decide +kernel
theorem dL_law_442 : decode cL_law 442 = .ok (.ireturn, 1) := by decide +kernel
theorem dL_law_443 : decode cL_law 443 = .ok (.iload 10, 2) := by decide +kernel
theorem dL_law_445 : decode cL_law 445 = .ok (.ifCond .ne 438, 3) := by decide +kernel
theorem dL_law_448 : decode cL_law 448 = .ok (.aload_n 1, 1) := by decide +kernel
theorem dL_law_449 : decode cL_law 449 = .ok (.iload 9, 2) := by decide +kernel
theorem dL_law_451 : decode cL_law 451 = .ok (.iconst 4, 1) := by decide +kernel
theorem dL_law_452 : decode cL_law 452 = .ok (.invokevirtual 46, 3) := by decide +kernel
theorem dL_law_455 : decode cL_law 455 = .ok (.ifCond .ne 428, 3) := by decide +kernel
theorem dL_law_458 : decode cL_law 458 = .ok (.aload_n 1, 1) := by decide +kernel
theorem dL_law_459 : decode cL_law 459 = .ok (.iload 9, 2) := by decide +kernel
theorem dL_law_461 : decode cL_law 461 = .ok (.iload 6, 2) := by decide +kernel
theorem dL_law_463 : decode cL_law 463 = .ok (.iconst 4, 1) := by decide +kernel
theorem dL_law_464 : decode cL_law 464 = .ok (.ishr, 1) := by decide +kernel
theorem dL_law_465 : decode cL_law 465 = .ok (.bipush 11, 2) := by decide +kernel
theorem dL_law_467 : decode cL_law 467 = .ok (.invokestatic 18, 3) := by decide +kernel
theorem dL_law_470 : decode cL_law 470 = .ok (.invokevirtual 49, 3) := by decide +kernel
theorem dL_law_473 : decode cL_law 473 = .ok (.bipush 10, 2) := by decide +kernel
theorem dL_law_475 : decode cL_law 475 = .ok (.if_icmp .gt 22, 3) := by decide +kernel
theorem dL_law_478 : decode cL_law 478 = .ok (.aload_n 1, 1) := by decide +kernel
theorem dL_law_479 : decode cL_law 479 = .ok (.iload 9, 2) := by decide +kernel
theorem dL_law_481 : decode cL_law 481 = .ok (.iconst 1, 1) := by decide +kernel
theorem dL_law_482 : decode cL_law 482 = .ok (.invokevirtual 46, 3) := by decide +kernel
theorem dL_law_485 : decode cL_law 485 = .ok (.iload 6, 2) := by decide +kernel
theorem dL_law_487 : decode cL_law 487 = .ok (.iconst 4, 1) := by decide +kernel
theorem dL_law_488 : decode cL_law 488 = .ok (.ishr, 1) := by decide +kernel
theorem dL_law_489 : decode cL_law 489 = .ok (.bipush 11, 2) := by decide +kernel
theorem dL_law_491 : decode cL_law 491 = .ok (.invokestatic 18, 3) := by decide +kernel
theorem dL_law_494 : decode cL_law 494 = .ok (.if_icmp .eq 389, 3) := by decide +kernel
theorem dL_law_497 : decode cL_law 497 = .ok (.iconst 0, 1) := by decide +kernel
theorem dL_law_498 : decode cL_law 498 = .ok (.ireturn, 1) := by decide +kernel
theorem dL_law_499 : decode cL_law 499 = .ok (.aload_n 1, 1) := by decide +kernel
theorem dL_law_500 : decode cL_law 500 = .ok (.iload 9, 2) := by decide +kernel
theorem dL_law_502 : decode cL_law 502 = .ok (.iconst 4, 1) := by decide +kernel
theorem dL_law_503 : decode cL_law 503 = .ok (.invokevirtual 46, 3) := by decide +kernel
theorem dL_law_506 : decode cL_law 506 = .ok (.iconst 1, 1) := by decide +kernel
theorem dL_law_507 : decode cL_law 507 = .ok (.if_icmp .ne 376, 3) := by decide +kernel
theorem dL_law_510 : decode cL_law 510 = .ok (.aload_n 1, 1) := by decide +kernel
theorem dL_law_511 : decode cL_law 511 = .ok (.iconst 5, 1) := by decide +kernel
theorem dL_law_512 : decode cL_law 512 = .ok (.invokevirtual 37, 3) := by decide +kernel
theorem dL_law_515 : decode cL_law 515 = .ok (.sipush 300, 3) := by decide +kernel
theorem dL_law_518 : decode cL_law 518 = .ok (.if_icmp .lt 365, 3) := by decide +kernel
theorem dL_law_521 : decode cL_law 521 = .ok (.aload_n 1, 1) := by decide +kernel
theorem dL_law_522 : decode cL_law 522 = .ok (.iload 9, 2) := by decide +kernel
theorem dL_law_524 : decode cL_law 524 = .ok (.invokevirtual 52, 3) := by decide +kernel
theorem dL_law_527 : decode cL_law 527 = .ok (.aload_n 1, 1) := by decide +kernel
theorem dL_law_528 : decode cL_law 528 = .ok (.iload 9, 2) := by decide +kernel
theorem dL_law_530 : decode cL_law 530 = .ok (.bipush 6, 2) := by decide +kernel
theorem dL_law_532 : decode cL_law 532 = .ok (.invokevirtual 46, 3) := by decide +kernel
theorem dL_law_535 : decode cL_law 535 = .ok (.if_icmp .ne 13, 3) := by decide +kernel
theorem dL_law_538 : decode cL_law 538 = .ok (.aload_n 1, 1) := by decide +kernel
theorem dL_law_539 : decode cL_law 539 = .ok (.iload 9, 2) := by decide +kernel
theorem dL_law_541 : decode cL_law 541 = .ok (.iconst 4, 1) := by decide +kernel
theorem dL_law_542 : decode cL_law 542 = .ok (.invokevirtual 46, 3) := by decide +kernel
theorem dL_law_545 : decode cL_law 545 = .ok (.ifCond .eq 338, 3) := by decide +kernel
theorem dL_law_548 : decode cL_law 548 = .ok (.iconst 0, 1) := by decide +kernel
theorem dL_law_549 : decode cL_law 549 = .ok (.ireturn, 1) := by decide +kernel
theorem dL_law_550 : decode cL_law 550 = .ok (.aload_n 1, 1) := by decide +kernel
theorem dL_law_551 : decode cL_law 551 = .ok (.iload 8, 2) := by decide +kernel
theorem dL_law_553 : decode cL_law 553 = .ok (.iconst 1, 1) := by decide +kernel
theorem dL_law_554 : decode cL_law 554 = .ok (.invokevirtual 55, 3) := by decide +kernel
theorem dL_law_557 : decode cL_law 557 = .ok (.ifCond .eq 326, 3) := by decide +kernel
theorem dL_law_560 : decode cL_law 560 = .ok (.aload_n 1, 1) := by decide +kernel
theorem dL_law_561 : decode cL_law 561 = .ok (.iload 8, 2) := by decide +kernel
theorem dL_law_563 : decode cL_law 563 = .ok (.bipush 9, 2) := by decide +kernel
theorem dL_law_565 : decode cL_law 565 = .ok (.invokevirtual 43, 3) := by decide +kernel
theorem dL_law_568 : decode cL_law 568 = .ok (.ifCond .ne 315, 3) := by decide +kernel
theorem dL_law_571 : decode cL_law 571 = .ok (.iconst 0, 1) := by decide +kernel
theorem dL_law_572 : decode cL_law 572 = .ok (.ireturn, 1) := by decide +kernel
theorem dL_law_573 : decode cL_law 573 = .ok (.aload_n 3, 1) := by decide +kernel
theorem dL_law_574 : decode cL_law 574 = .ok (.iload 8, 2) := by decide +kernel
theorem dL_law_576 : decode cL_law 576 = .ok (.iload 6, 2) := by decide +kernel
theorem dL_law_578 : decode cL_law 578 = .ok (.iconst 5, 1) := by decide +kernel
theorem dL_law_579 : decode cL_law 579 = .ok (.ishr, 1) := by decide +kernel
theorem dL_law_580 : decode cL_law 580 = .ok (.iconst 2, 1) := by decide +kernel
theorem dL_law_581 : decode cL_law 581 = .ok (.invokestatic 18, 3) := by decide +kernel
theorem dL_law_584 : decode cL_law 584 = .ok (.ifCond .ne 7, 3) := by decide +kernel
theorem dL_law_587 : decode cL_law 587 = .ok (.iconst 1, 1) := by decide +kernel
theorem dL_law_588 : decode cL_law 588 = .ok (.goto 4, 3) := by decide +kernel
theorem dL_law_591 : decode cL_law 591 = .ok (.iconst 0, 1) := by decide +kernel
theorem dL_law_592 : decode cL_law 592 = .ok (.bastore, 1) := by decide +kernel
theorem dL_law_593 : decode cL_law 593 = .ok (.aload_n 1, 1) := by decide +kernel
theorem dL_law_594 : decode cL_law 594 = .ok (.iload 8, 2) := by decide +kernel
theorem dL_law_596 : decode cL_law 596 = .ok (.bipush 6, 2) := by decide +kernel
theorem dL_law_598 : decode cL_law 598 = .ok (.invokevirtual 43, 3) := by decide +kernel
theorem dL_law_601 : decode cL_law 601 = .ok (.iconst 1, 1) := by decide +kernel
theorem dL_law_602 : decode cL_law 602 = .ok (.if_icmp .ne 7, 3) := by decide +kernel
theorem dL_law_605 : decode cL_law 605 = .ok (.iconst 1, 1) := by decide +kernel
theorem dL_law_606 : decode cL_law 606 = .ok (.goto 4, 3) := by decide +kernel
theorem dL_law_609 : decode cL_law 609 = .ok (.iconst 0, 1) := by decide +kernel
theorem dL_law_610 : decode cL_law 610 = .ok (.istore 11, 2) := by decide +kernel
theorem dL_law_612 : decode cL_law 612 = .ok (.aload_n 1, 1) := by decide +kernel
theorem dL_law_613 : decode cL_law 613 = .ok (.iload 8, 2) := by decide +kernel
theorem dL_law_615 : decode cL_law 615 = .ok (.iload 6, 2) := by decide +kernel
theorem dL_law_617 : decode cL_law 617 = .ok (.iconst 4, 1) := by decide +kernel
theorem dL_law_618 : decode cL_law 618 = .ok (.ishr, 1) := by decide +kernel
theorem dL_law_619 : decode cL_law 619 = .ok (.iconst 4, 1) := by decide +kernel
theorem dL_law_620 : decode cL_law 620 = .ok (.invokestatic 18, 3) := by decide +kernel
theorem dL_law_623 : decode cL_law 623 = .ok (.ifCond .ne 7, 3) := by decide +kernel
theorem dL_law_626 : decode cL_law 626 = .ok (.iconst 1, 1) := by decide +kernel
theorem dL_law_627 : decode cL_law 627 = .ok (.goto 4, 3) := by decide +kernel
theorem dL_law_630 : decode cL_law 630 = .ok (.iconst 0, 1) := by decide +kernel
theorem dL_law_631 : decode cL_law 631 = .ok (.aload_n 3, 1) := by decide +kernel
theorem dL_law_632 : decode cL_law 632 = .ok (.iload 8, 2) := by decide +kernel
theorem dL_law_634 : decode cL_law 634 = .ok (.baload, 1) := by decide +kernel
theorem dL_law_635 : decode cL_law 635 = .ok (.invokevirtual 59, 3) := by decide +kernel
theorem dL_law_638 : decode cL_law 638 = .ok (.iload 11, 2) := by decide +kernel
theorem dL_law_640 : decode cL_law 640 = .ok (.if_icmp .eq 243, 3) := by decide +kernel
theorem dL_law_643 : decode cL_law 643 = .ok (.iconst 0, 1) := by decide +kernel
theorem dL_law_644 : decode cL_law 644 = .ok (.ireturn, 1) := by decide +kernel
theorem dL_law_645 : decode cL_law 645 = .ok (.iload 7, 2) := by decide +kernel
theorem dL_law_647 : decode cL_law 647 = .ok (.iconst 4, 1) := by decide +kernel
theorem dL_law_648 : decode cL_law 648 = .ok (.ishr, 1) := by decide +kernel
theorem dL_law_649 : decode cL_law 649 = .ok (.iconst 3, 1) := by decide +kernel
theorem dL_law_650 : decode cL_law 650 = .ok (.invokestatic 18, 3) := by decide +kernel
theorem dL_law_653 : decode cL_law 653 = .ok (.ifCond .ne 7, 3) := by decide +kernel
theorem dL_law_656 : decode cL_law 656 = .ok (.iconst 1, 1) := by decide +kernel
theorem dL_law_657 : decode cL_law 657 = .ok (.goto 4, 3) := by decide +kernel
theorem dL_law_660 : decode cL_law 660 = .ok (.iconst 0, 1) := by decide +kernel
theorem dL_law_661 : decode cL_law 661 = .ok (.istore 12, 2) := by decide +kernel
theorem dL_law_663 : decode cL_law 663 = .ok (.aload_n 1, 1) := by decide +kernel
theorem dL_law_664 : decode cL_law 664 = .ok (.iload 12, 2) := by decide +kernel
theorem dL_law_666 : decode cL_law 666 = .ok (.invokevirtual 63, 3) := by decide +kernel
theorem dL_law_669 : decode cL_law 669 = .ok (.iload 10, 2) := by decide +kernel
theorem dL_law_671 : decode cL_law 671 = .ok (.if_icmp .ne 37, 3) := by decide +kernel
theorem dL_law_674 : decode cL_law 674 = .ok (.iload 12, 2) := by decide +kernel
theorem dL_law_676 : decode cL_law 676 = .ok (.ifCond .eq 207, 3) := by decide +kernel
theorem dL_law_679 : decode cL_law 679 = .ok (.aload_n 1, 1) := by decide +kernel
theorem dL_law_680 : decode cL_law 680 = .ok (.bipush 14, 2) := by decide +kernel
theorem dL_law_682 : decode cL_law 682 = .ok (.invokevirtual 37, 3) := by decide +kernel
theorem dL_law_685 : decode cL_law 685 = .ok (.ifCond .ne 23, 3) := by decide +kernel
theorem dL_law_688 : decode cL_law 688 = .ok (.aload_n 1, 1) := by decide +kernel
theorem dL_law_689 : decode cL_law 689 = .ok (.iload 8, 2) := by decide +kernel
theorem dL_law_691 : decode cL_law 691 = .ok (.iconst 4, 1) := by decide +kernel
theorem dL_law_692 : decode cL_law 692 = .ok (.invokevirtual 43, 3) := by decide +kernel
theorem dL_law_695 : decode cL_law 695 = .ok (.ifCond .ne 13, 3) := by decide +kernel
theorem dL_law_698 : decode cL_law 698 = .ok (.aload_n 1, 1) := by decide +kernel
theorem dL_law_699 : decode cL_law 699 = .ok (.iload 9, 2) := by decide +kernel
theorem dL_law_701 : decode cL_law 701 = .ok (.iconst 1, 1) := by decide +kernel
theorem dL_law_702 : decode cL_law 702 = .ok (.invokevirtual 46, 3) := by decide +kernel
theorem dL_law_705 : decode cL_law 705 = .ok (.ifCond .eq 178, 3) := by decide +kernel
theorem dL_law_708 : decode cL_law 708 = .ok (.iconst 0, 1) := by decide +kernel
theorem dL_law_709 : decode cL_law 709 = .ok (.ireturn, 1) := by decide +kernel
theorem dL_law_710 : decode cL_law 710 = .ok (.iload 4, 2) := by decide +kernel
theorem dL_law_712 : decode cL_law 712 = .ok (.iconst 1, 1) := by decide +kernel
theorem dL_law_713 : decode cL_law 713 = .ok (.iload 7, 2) := by decide +kernel
theorem dL_law_715 : decode cL_law 715 = .ok (.iconst 5, 1) := by decide +kernel
theorem dL_law_716 : decode cL_law 716 = .ok (.imul, 1) := by decide +kernel
theorem dL_law_717 : decode cL_law 717 = .ok (.iload 6, 2) := by decide +kernel
theorem dL_law_719 : decode cL_law 719 = .ok (.iadd, 1) := by decide +kernel
theorem dL_law_720 : decode cL_law 720 = .ok (.sipush 2000, 3) := by decide +kernel
theorem dL_law_723 : decode cL_law 723 = .ok (.invokestatic 18, 3) := by decide +kernel
theorem dL_law_726 : decode cL_law 726 = .ok (.iadd, 1) := by decide +kernel
theorem dL_law_727 : decode cL_law 727 = .ok (.iadd, 1) := by decide +kernel
theorem dL_law_728 : decode cL_law 728 = .ok (.istore 4, 2) := by decide +kernel
theorem dL_law_730 : decode cL_law 730 = .ok (.aload_n 1, 1) := by decide +kernel
theorem dL_law_731 : decode cL_law 731 = .ok (.iconst 1, 1) := by decide +kernel
theorem dL_law_732 : decode cL_law 732 = .ok (.iload 7, 2) := by decide +kernel
theorem dL_law_734 : decode cL_law 734 = .ok (.iconst 5, 1) := by decide +kernel
theorem dL_law_735 : decode cL_law 735 = .ok (.imul, 1) := by decide +kernel
theorem dL_law_736 : decode cL_law 736 = .ok (.iload 6, 2) := by decide +kernel
theorem dL_law_738 : decode cL_law 738 = .ok (.iadd, 1) := by decide +kernel
theorem dL_law_739 : decode cL_law 739 = .ok (.sipush 2000, 3) := by decide +kernel
theorem dL_law_742 : decode cL_law 742 = .ok (.invokestatic 18, 3) := by decide +kernel
theorem dL_law_745 : decode cL_law 745 = .ok (.iadd, 1) := by decide +kernel
theorem dL_law_746 : decode cL_law 746 = .ok (.invokevirtual 67, 3) := by decide +kernel
theorem dL_law_749 : decode cL_law 749 = .ok (.aload_n 1, 1) := by decide +kernel
theorem dL_law_750 : decode cL_law 750 = .ok (.iconst 5, 1) := by decide +kernel
theorem dL_law_751 : decode cL_law 751 = .ok (.invokevirtual 37, 3) := by decide +kernel
theorem dL_law_754 : decode cL_law 754 = .ok (.if_icmp .eq 129, 3) := by decide +kernel
theorem dL_law_757 : decode cL_law 757 = .ok (.iconst 0, 1) := by decide +kernel
theorem dL_law_758 : decode cL_law 758 = .ok (.ireturn, 1) := by decide +kernel
theorem dL_law_759 : decode cL_law 759 = .ok (.aload_n 1, 1) := by decide +kernel
theorem dL_law_760 : decode cL_law 760 = .ok (.iconst 4, 1) := by decide +kernel
theorem dL_law_761 : decode cL_law 761 = .ok (.invokevirtual 37, 3) := by decide +kernel
theorem dL_law_764 : decode cL_law 764 = .ok (.bipush 20, 2) := by decide +kernel
theorem dL_law_766 : decode cL_law 766 = .ok (.if_icmp .ge 117, 3) := by decide +kernel
theorem dL_law_769 : decode cL_law 769 = .ok (.aload_n 1, 1) := by decide +kernel
theorem dL_law_770 : decode cL_law 770 = .ok (.iload 9, 2) := by decide +kernel
theorem dL_law_772 : decode cL_law 772 = .ok (.iload 6, 2) := by decide +kernel
theorem dL_law_774 : decode cL_law 774 = .ok (.iconst 4, 1) := by decide +kernel
theorem dL_law_775 : decode cL_law 775 = .ok (.ishr, 1) := by decide +kernel
theorem dL_law_776 : decode cL_law 776 = .ok (.bipush 10, 2) := by decide +kernel
theorem dL_law_778 : decode cL_law 778 = .ok (.invokestatic 18, 3) := by decide +kernel
theorem dL_law_781 : decode cL_law 781 = .ok (.invokevirtual 70, 3) := by decide +kernel
theorem dL_law_784 : decode cL_law 784 = .ok (.aload_n 1, 1) := by decide +kernel
theorem dL_law_785 : decode cL_law 785 = .ok (.iconst 4, 1) := by decide +kernel
theorem dL_law_786 : decode cL_law 786 = .ok (.invokevirtual 37, 3) := by decide +kernel
theorem dL_law_789 : decode cL_law 789 = .ok (.iconst 1, 1) := by decide +kernel
theorem dL_law_790 : decode cL_law 790 = .ok (.isub, 1) := by decide +kernel
theorem dL_law_791 : decode cL_law 791 = .ok (.if_icmp .ne 18, 3) := by decide +kernel
theorem dL_law_794 : decode cL_law 794 = .ok (.aload_n 1, 1) := by decide +kernel
theorem dL_law_795 : decode cL_law 795 = .ok (.aload_n 1, 1) := by decide +kernel
theorem dL_law_796 : decode cL_law 796 = .ok (.iconst 4, 1) := by decide +kernel
theorem dL_law_797 : decode cL_law 797 = .ok (.invokevirtual 37, 3) := by decide +kernel
theorem dL_law_800 : decode cL_law 800 = .ok (.iconst 1, 1) := by decide +kernel
theorem dL_law_801 : decode cL_law 801 = .ok (.isub, 1) := by decide +kernel
theorem dL_law_802 : decode cL_law 802 = .ok (.invokevirtual 73, 3) := by decide +kernel
theorem dL_law_805 : decode cL_law 805 = .ok (.iconst 3, 1) := by decide +kernel
theorem dL_law_806 : decode cL_law 806 = .ok (.if_icmp .eq 77, 3) := by decide +kernel
theorem dL_law_809 : decode cL_law 809 = .ok (.iconst 0, 1) := by decide +kernel
theorem dL_law_810 : decode cL_law 810 = .ok (.ireturn, 1) := by decide +kernel
theorem dL_law_811 : decode cL_law 811 = .ok (.aload_n 1, 1) := by decide +kernel
theorem dL_law_812 : decode cL_law 812 = .ok (.iload 6, 2) := by decide +kernel
theorem dL_law_814 : decode cL_law 814 = .ok (.iconst 4, 1) := by decide +kernel
theorem dL_law_815 : decode cL_law 815 = .ok (.ishr, 1) := by decide +kernel
theorem dL_law_816 : decode cL_law 816 = .ok (.bipush 9, 2) := by decide +kernel
theorem dL_law_818 : decode cL_law 818 = .ok (.invokestatic 18, 3) := by decide +kernel
theorem dL_law_821 : decode cL_law 821 = .ok (.iconst 4, 1) := by decide +kernel
theorem dL_law_822 : decode cL_law 822 = .ok (.isub, 1) := by decide +kernel
theorem dL_law_823 : decode cL_law 823 = .ok (.iload 7, 2) := by decide +kernel
theorem dL_law_825 : decode cL_law 825 = .ok (.iconst 3, 1) := by decide +kernel
theorem dL_law_826 : decode cL_law 826 = .ok (.invokestatic 18, 3) := by decide +kernel
theorem dL_law_829 : decode cL_law 829 = .ok (.invokevirtual 76, 3) := by decide +kernel
theorem dL_law_832 : decode cL_law 832 = .ok (.iconst 4, 1) := by decide +kernel
theorem dL_law_833 : decode cL_law 833 = .ok (.if_icmp .le 50, 3) := by decide +kernel
theorem dL_law_836 : decode cL_law 836 = .ok (.iconst 0, 1) := by decide +kernel
theorem dL_law_837 : decode cL_law 837 = .ok (.ireturn, 1) := by decide +kernel
theorem dL_law_838 : decode cL_law 838 = .ok (.aload_n 1, 1) := by decide +kernel
theorem dL_law_839 : decode cL_law 839 = .ok (.iload 8, 2) := by decide +kernel
theorem dL_law_841 : decode cL_law 841 = .ok (.iload 9, 2) := by decide +kernel
theorem dL_law_843 : decode cL_law 843 = .ok (.iconst 1, 1) := by decide +kernel
theorem dL_law_844 : decode cL_law 844 = .ok (.iload 6, 2) := by decide +kernel
theorem dL_law_846 : decode cL_law 846 = .ok (.iconst 4, 1) := by decide +kernel
theorem dL_law_847 : decode cL_law 847 = .ok (.ishr, 1) := by decide +kernel
theorem dL_law_848 : decode cL_law 848 = .ok (.bipush 60, 2) := by decide +kernel
theorem dL_law_850 : decode cL_law 850 = .ok (.invokestatic 18, 3) := by decide +kernel
theorem dL_law_853 : decode cL_law 853 = .ok (.iadd, 1) := by decide +kernel
theorem dL_law_854 : decode cL_law 854 = .ok (.invokestatic 79, 3) := by decide +kernel
theorem dL_law_857 : decode cL_law 857 = .ok (.ifCond .ne 26, 3) := by decide +kernel
theorem dL_law_860 : decode cL_law 860 = .ok (.iconst 0, 1) := by decide +kernel
theorem dL_law_861 : decode cL_law 861 = .ok (.ireturn, 1) := by decide +kernel
theorem dL_law_862 : decode cL_law 862 = .ok (.aload_n 1, 1) := by decide +kernel
theorem dL_law_863 : decode cL_law 863 = .ok (.iload_n 2, 1) := by decide +kernel
theorem dL_law_864 : decode cL_law 864 = .ok (.aload_n 3, 1) := by decide +kernel
theorem dL_law_865 : decode cL_law 865 = .ok (.iconst 1, 1) := by decide +kernel
theorem dL_law_866 : decode cL_law 866 = .ok (.iload 6, 2) := by decide +kernel
theorem dL_law_868 : decode cL_law 868 = .ok (.iconst 4, 1) := by decide +kernel
theorem dL_law_869 : decode cL_law 869 = .ok (.ishr, 1) := by decide +kernel
theorem dL_law_870 : decode cL_law 870 = .ok (.iconst 5, 1) := by decide +kernel
theorem dL_law_871 : decode cL_law 871 = .ok (.invokestatic 18, 3) := by decide +kernel
theorem dL_law_874 : decode cL_law 874 = .ok (.iadd, 1) := by decide +kernel
theorem dL_law_875 : decode cL_law 875 = .ok (.invokestatic 83, 3) := by decide +kernel
theorem dL_law_878 : decode cL_law 878 = .ok (.ifCond .ne 5, 3) := by decide +kernel
theorem dL_law_881 : decode cL_law 881 = .ok (.iconst 0, 1) := by decide +kernel
theorem dL_law_882 : decode cL_law 882 = .ok (.ireturn, 1) := by decide +kernel
theorem dL_law_883 : decode cL_law 883 = .ok (.aload_n 1, 1) := by decide +kernel
theorem dL_law_884 : decode cL_law 884 = .ok (.iconst 5, 1) := by decide +kernel
theorem dL_law_885 : decode cL_law 885 = .ok (.invokevirtual 37, 3) := by decide +kernel
theorem dL_law_888 : decode cL_law 888 = .ok (.aload_n 1, 1) := by decide +kernel
theorem dL_law_889 : decode cL_law 889 = .ok (.bipush 6, 2) := by decide +kernel
theorem dL_law_891 : decode cL_law 891 = .ok (.invokevirtual 37, 3) := by decide +kernel
theorem dL_law_894 : decode cL_law 894 = .ok (.iadd, 1) := by decide +kernel
theorem dL_law_895 : decode cL_law 895 = .ok (.aload_n 1, 1) := by decide +kernel
theorem dL_law_896 : decode cL_law 896 = .ok (.bipush 7, 2) := by decide +kernel
theorem dL_law_898 : decode cL_law 898 = .ok (.invokevirtual 37, 3) := by decide +kernel
theorem dL_law_901 : decode cL_law 901 = .ok (.iadd, 1) := by decide +kernel
theorem dL_law_902 : decode cL_law 902 = .ok (.aload_n 1, 1) := by decide +kernel
theorem dL_law_903 : decode cL_law 903 = .ok (.bipush 8, 2) := by decide +kernel
theorem dL_law_905 : decode cL_law 905 = .ok (.invokevirtual 37, 3) := by decide +kernel
theorem dL_law_908 : decode cL_law 908 = .ok (.iadd, 1) := by decide +kernel
theorem dL_law_909 : decode cL_law 909 = .ok (.iload 4, 2) := by decide +kernel
theorem dL_law_911 : decode cL_law 911 = .ok (.if_icmp .ne 18, 3) := by decide +kernel
theorem dL_law_914 : decode cL_law 914 = .ok (.aload_n 1, 1) := by decide +kernel
theorem dL_law_915 : decode cL_law 915 = .ok (.bipush 9, 2) := by decide +kernel
theorem dL_law_917 : decode cL_law 917 = .ok (.invokevirtual 37, 3) := by decide +kernel
theorem dL_law_920 : decode cL_law 920 = .ok (.aload_n 1, 1) := by decide +kernel
theorem dL_law_921 : decode cL_law 921 = .ok (.bipush 7, 2) := by decide +kernel
theorem dL_law_923 : decode cL_law 923 = .ok (.invokevirtual 37, 3) := by decide +kernel
theorem dL_law_926 : decode cL_law 926 = .ok (.if_icmp .le 5, 3) := by decide +kernel
theorem dL_law_929 : decode cL_law 929 = .ok (.iconst 0, 1) := by decide +kernel
theorem dL_law_930 : decode cL_law 930 = .ok (.ireturn, 1) := by decide +kernel
theorem dL_law_931 : decode cL_law 931 = .ok (.iinc 5 1, 3) := by decide +kernel
theorem dL_law_934 : decode cL_law 934 = .ok (.goto (-687), 3) := by decide +kernel
theorem dL_law_937 : decode cL_law 937 = .ok (.aload_n 1, 1) := by decide +kernel
theorem dL_law_938 : decode cL_law 938 = .ok (.invokevirtual 87, 3) := by decide +kernel
theorem dL_law_941 : decode cL_law 941 = .ok (.lstore 5, 2) := by decide +kernel
theorem dL_law_943 : decode cL_law 943 = .ok (.aload_n 1, 1) := by decide +kernel
theorem dL_law_944 : decode cL_law 944 = .ok (.iconst 0, 1) := by decide +kernel
theorem dL_law_945 : decode cL_law 945 = .ok (.bipush 9, 2) := by decide +kernel
theorem dL_law_947 : decode cL_law 947 = .ok (.invokevirtual 91, 3) := by decide +kernel
theorem dL_law_950 : decode cL_law 950 = .ok (.bipush 60, 2) := by decide +kernel
theorem dL_law_952 : decode cL_law 952 = .ok (.if_icmp .gt 39, 3) := by decide +kernel
theorem dL_law_955 : decode cL_law 955 = .ok (.aload_n 1, 1) := by decide +kernel
theorem dL_law_956 : decode cL_law 956 = .ok (.iconst 0, 1) := by decide +kernel
theorem dL_law_957 : decode cL_law 957 = .ok (.bipush 9, 2) := by decide +kernel
theorem dL_law_959 : decode cL_law 959 = .ok (.invokevirtual 94, 3) := by decide +kernel
theorem dL_law_962 : decode cL_law 962 = .ok (.bipush 30, 2) := by decide +kernel
theorem dL_law_964 : decode cL_law 964 = .ok (.if_icmp .gt 27, 3) := by decide +kernel
theorem dL_law_967 : decode cL_law 967 = .ok (.aload_n 1, 1) := by decide +kernel
theorem dL_law_968 : decode cL_law 968 = .ok (.bipush 60, 2) := by decide +kernel
theorem dL_law_970 : decode cL_law 970 = .ok (.iconst 1, 1) := by decide +kernel
theorem dL_law_971 : decode cL_law 971 = .ok (.invokevirtual 97, 3) := by decide +kernel
theorem dL_law_974 : decode cL_law 974 = .ok (.sipush 9000, 3) := by decide +kernel
theorem dL_law_977 : decode cL_law 977 = .ok (.if_icmp .gt 14, 3) := by decide +kernel
theorem dL_law_980 : decode cL_law 980 = .ok (.aload_n 1, 1) := by decide +kernel
theorem dL_law_981 : decode cL_law 981 = .ok (.invokevirtual 100, 3) := by decide +kernel
theorem dL_law_984 : decode cL_law 984 = .ok (.ldc2_w 104, 3) := by decide +kernel
theorem dL_law_987 : decode cL_law 987 = .ok (.dcmp .l, 1) := by decide +kernel
theorem dL_law_988 : decode cL_law 988 = .ok (.ifCond .le 5, 3) := by decide +kernel
theorem dL_law_991 : decode cL_law 991 = .ok (.iconst 0, 1) := by decide +kernel
theorem dL_law_992 : decode cL_law 992 = .ok (.ireturn, 1) := by decide +kernel
theorem dL_law_993 : decode cL_law 993 = .ok (.aload_n 1, 1) := by decide +kernel
theorem dL_law_994 : decode cL_law 994 = .ok (.invokevirtual 87, 3) := by decide +kernel
theorem dL_law_997 : decode cL_law 997 = .ok (.lload 5, 2) := by decide +kernel
theorem dL_law_999 : decode cL_law 999 = .ok (.lcmp, 1) := by decide +kernel
theorem dL_law_1000 : decode cL_law 1000 = .ok (.ifCond .ne 7, 3) := by decide +kernel
theorem dL_law_1003 : decode cL_law 1003 = .ok (.iconst 1, 1) := by decide +kernel
theorem dL_law_1004 : decode cL_law 1004 = .ok (.goto 4, 3) := by decide +kernel
theorem dL_law_1007 : decode cL_law 1007 = .ok (.iconst 0, 1) := by decide +kernel
theorem dL_law_1008 : decode cL_law 1008 = .ok (.ireturn, 1) := by decide +kernel
theorem dL_isLeast_0 : decode cL_isLeast 0 = .ok (.aload_n 0, 1) := by decide +kernel
theorem dL_isLeast_1 : decode cL_isLeast 1 = .ok (.iload_n 1, 1) := by decide +kernel
theorem dL_isLeast_2 : decode cL_isLeast 2 = .ok (.iload_n 3, 1) := by decide +kernel
theorem dL_isLeast_3 : decode cL_isLeast 3 = .ok (.invokevirtual 106, 3) := by decide +kernel
theorem dL_isLeast_6 : decode cL_isLeast 6 = .ok (.istore 4, 2) := by decide +kernel
theorem dL_isLeast_8 : decode cL_isLeast 8 = .ok (.aload_n 0, 1) := by decide +kernel
theorem dL_isLeast_9 : decode cL_isLeast 9 = .ok (.iload_n 1, 1) := by decide +kernel
theorem dL_isLeast_10 : decode cL_isLeast 10 = .ok (.iconst 0, 1) := by decide +kernel
theorem dL_isLeast_11 : decode cL_isLeast 11 = .ok (.invokevirtual 43, 3) := by decide +kernel
theorem dL_isLeast_14 : decode cL_isLeast 14 = .ok (.istore 5, 2) := by decide +kernel
theorem dL_isLeast_16 : decode cL_isLeast 16 = .ok (.iload 4, 2) := by decide +kernel
theorem dL_isLeast_18 : decode cL_isLeast 18 = .ok (.ifCond .ge 19, 3) := by decide +kernel
theorem dL_isLeast_21 : decode cL_isLeast 21 = .ok (.aload_n 0, 1) := by decide +kernel
theorem dL_isLeast_22 : decode cL_isLeast 22 = .ok (.iload_n 1, 1) := by decide +kernel
theorem dL_isLeast_23 : decode cL_isLeast 23 = .ok (.iload_n 3, 1) := by decide +kernel
theorem dL_isLeast_24 : decode cL_isLeast 24 = .ok (.invokevirtual 94, 3) := by decide +kernel
theorem dL_isLeast_27 : decode cL_isLeast 27 = .ok (.iconst (-1), 1) := by decide +kernel
theorem dL_isLeast_28 : decode cL_isLeast 28 = .ok (.if_icmp .ne 7, 3) := by decide +kernel
theorem dL_isLeast_31 : decode cL_isLeast 31 = .ok (.iconst 1, 1) := by decide +kernel
theorem dL_isLeast_32 : decode cL_isLeast 32 = .ok (.goto 4, 3) := by decide +kernel
theorem dL_isLeast_35 : decode cL_isLeast 35 = .ok (.iconst 0, 1) := by decide +kernel
theorem dL_isLeast_36 : decode cL_isLeast 36 = .ok (.ireturn, 1) := by decide +kernel
theorem dL_isLeast_37 : decode cL_isLeast 37 = .ok (.bipush 20, 2) := by decide +kernel
theorem dL_isLeast_39 : decode cL_isLeast 39 = .ok (.istore 6, 2) := by decide +kernel
theorem dL_isLeast_41 : decode cL_isLeast 41 = .ok (.iconst 0, 1) := by decide +kernel
theorem dL_isLeast_42 : decode cL_isLeast 42 = .ok (.istore 7, 2) := by decide +kernel
theorem dL_isLeast_44 : decode cL_isLeast 44 = .ok (.iload 7, 2) := by decide +kernel
theorem dL_isLeast_46 : decode cL_isLeast 46 = .ok (.aload_n 0, 1) := by decide +kernel
theorem dL_isLeast_47 : decode cL_isLeast 47 = .ok (.iconst 2, 1) := by decide +kernel
theorem dL_isLeast_48 : decode cL_isLeast 48 = .ok (.invokevirtual 37, 3) := by decide +kernel
theorem dL_isLeast_51 : decode cL_isLeast 51 = .ok (.if_icmp .ge 45, 3) := by decide +kernel
theorem dL_isLeast_54 : decode cL_isLeast 54 = .ok (.iload 6, 2) := by decide +kernel
theorem dL_isLeast_56 : decode cL_isLeast 56 = .ok (.aload_n 0, 1) := by decide +kernel
theorem dL_isLeast_57 : decode cL_isLeast 57 = .ok (.iload 7, 2) := by decide +kernel
theorem dL_isLeast_59 : decode cL_isLeast 59 = .ok (.iconst 0, 1) := by decide +kernel
theorem dL_isLeast_60 : decode cL_isLeast 60 = .ok (.invokevirtual 43, 3) := by decide +kernel
theorem dL_isLeast_63 : decode cL_isLeast 63 = .ok (.iload 5, 2) := by decide +kernel
theorem dL_isLeast_65 : decode cL_isLeast 65 = .ok (.if_icmp .ne 21, 3) := by decide +kernel
theorem dL_isLeast_68 : decode cL_isLeast 68 = .ok (.aload_n 0, 1) := by decide +kernel
theorem dL_isLeast_69 : decode cL_isLeast 69 = .ok (.iload 7, 2) := by decide +kernel
theorem dL_isLeast_71 : decode cL_isLeast 71 = .ok (.iconst 2, 1) := by decide +kernel
theorem dL_isLeast_72 : decode cL_isLeast 72 = .ok (.invokevirtual 43, 3) := by decide +kernel
theorem dL_isLeast_75 : decode cL_isLeast 75 = .ok (.aload_n 0, 1) := by decide +kernel
theorem dL_isLeast_76 : decode cL_isLeast 76 = .ok (.iload 7, 2) := by decide +kernel
theorem dL_isLeast_78 : decode cL_isLeast 78 = .ok (.iconst 4, 1) := by decide +kernel
theorem dL_isLeast_79 : decode cL_isLeast 79 = .ok (.invokevirtual 43, 3) := by decide +kernel
theorem dL_isLeast_82 : decode cL_isLeast 82 = .ok (.imul, 1) := by decide +kernel
theorem dL_isLeast_83 : decode cL_isLeast 83 = .ok (.goto 4, 3) := by decide +kernel
theorem dL_isLeast_86 : decode cL_isLeast 86 = .ok (.iconst 0, 1) := by decide +kernel
theorem dL_isLeast_87 : decode cL_isLeast 87 = .ok (.iadd, 1) := by decide +kernel
theorem dL_isLeast_88 : decode cL_isLeast 88 = .ok (.istore 6, 2) := by decide +kernel
theorem dL_isLeast_90 : decode cL_isLeast 90 = .ok (.iinc 7 1, 3) := by decide +kernel
theorem dL_isLeast_93 : decode cL_isLeast 93 = .ok (.goto (-49), 3) := by decide +kernel
theorem dL_isLeast_96 : decode cL_isLeast 96 = .ok (.aload_n 0, 1) := by decide +kernel
theorem dL_isLeast_97 : decode cL_isLeast 97 = .ok (.iload_n 1, 1) := by decide +kernel
theorem dL_isLeast_98 : decode cL_isLeast 98 = .ok (.bipush 8, 2) := by decide +kernel
theorem dL_isLeast_100 : decode cL_isLeast 100 = .ok (.invokevirtual 43, 3) := by decide +kernel
theorem dL_isLeast_103 : decode cL_isLeast 103 = .ok (.iload_n 3, 1) := by decide +kernel
theorem dL_isLeast_104 : decode cL_isLeast 104 = .ok (.if_icmp .lt 7, 3) := by decide +kernel
theorem dL_isLeast_107 : decode cL_isLeast 107 = .ok (.iconst 1, 1) := by decide +kernel
theorem dL_isLeast_108 : decode cL_isLeast 108 = .ok (.goto 4, 3) := by decide +kernel
theorem dL_isLeast_111 : decode cL_isLeast 111 = .ok (.iconst 0, 1) := by decide +kernel
theorem dL_isLeast_112 : decode cL_isLeast 112 = .ok (.istore 7, 2) := by decide +kernel
theorem dL_isLeast_114 : decode cL_isLeast 114 = .ok (.aload_n 0, 1) := by decide +kernel
theorem dL_isLeast_115 : decode cL_isLeast 115 = .ok (.iload 5, 2) := by decide +kernel
theorem dL_isLeast_117 : decode cL_isLeast 117 = .ok (.iconst 4, 1) := by decide +kernel
theorem dL_isLeast_118 : decode cL_isLeast 118 = .ok (.invokevirtual 46, 3) := by decide +kernel
theorem dL_isLeast_121 : decode cL_isLeast 121 = .ok (.iconst 1, 1) := by decide +kernel
theorem dL_isLeast_122 : decode cL_isLeast 122 = .ok (.if_icmp .ne 7, 3) := by decide +kernel
theorem dL_isLeast_125 : decode cL_isLeast 125 = .ok (.iconst 1, 1) := by decide +kernel
theorem dL_isLeast_126 : decode cL_isLeast 126 = .ok (.goto 4, 3) := by decide +kernel
theorem dL_isLeast_129 : decode cL_isLeast 129 = .ok (.iconst 0, 1) := by decide +kernel
theorem dL_isLeast_130 : decode cL_isLeast 130 = .ok (.istore 8, 2) := by decide +kernel
theorem dL_isLeast_132 : decode cL_isLeast 132 = .ok (.iload 4, 2) := by decide +kernel
theorem dL_isLeast_134 : decode cL_isLeast 134 = .ok (.ifCond .le 103, 3) := by decide +kernel
theorem dL_isLeast_137 : decode cL_isLeast 137 = .ok (.aload_n 0, 1) := by decide +kernel
theorem dL_isLeast_138 : decode cL_isLeast 138 = .ok (.iload 5, 2) := by decide +kernel
theorem dL_isLeast_140 : decode cL_isLeast 140 = .ok (.iconst 0, 1) := by decide +kernel
theorem dL_isLeast_141 : decode cL_isLeast 141 = .ok (.invokevirtual 46, 3) := by decide +kernel
theorem dL_isLeast_144 : decode cL_isLeast 144 = .ok (.bipush 10, 2) := by decide +kernel
theorem dL_isLeast_146 : decode cL_isLeast 146 = .ok (.imul, 1) := by decide +kernel
theorem dL_isLeast_147 : decode cL_isLeast 147 = .ok (.iload 4, 2) := by decide +kernel
theorem dL_isLeast_149 : decode cL_isLeast 149 = .ok (.imul, 1) := by decide +kernel
theorem dL_isLeast_150 : decode cL_isLeast 150 = .ok (.iload 6, 2) := by decide +kernel
theorem dL_isLeast_152 : decode cL_isLeast 152 = .ok (.idiv, 1) := by decide +kernel
theorem dL_isLeast_153 : decode cL_isLeast 153 = .ok (.aload_n 0, 1) := by decide +kernel
theorem dL_isLeast_154 : decode cL_isLeast 154 = .ok (.iload_n 1, 1) := by decide +kernel
theorem dL_isLeast_155 : decode cL_isLeast 155 = .ok (.iconst 4, 1) := by decide +kernel
theorem dL_isLeast_156 : decode cL_isLeast 156 = .ok (.invokevirtual 43, 3) := by decide +kernel
theorem dL_isLeast_159 : decode cL_isLeast 159 = .ok (.imul, 1) := by decide +kernel
theorem dL_isLeast_160 : decode cL_isLeast 160 = .ok (.iconst 4, 1) := by decide +kernel
theorem dL_isLeast_161 : decode cL_isLeast 161 = .ok (.idiv, 1) := by decide +kernel
theorem dL_isLeast_162 : decode cL_isLeast 162 = .ok (.iload_n 3, 1) := by decide +kernel
theorem dL_isLeast_163 : decode cL_isLeast 163 = .ok (.if_icmp .lt 74, 3) := by decide +kernel
theorem dL_isLeast_166 : decode cL_isLeast 166 = .ok (.aload_n 0, 1) := by decide +kernel
theorem dL_isLeast_167 : decode cL_isLeast 167 = .ok (.iload 5, 2) := by decide +kernel
theorem dL_isLeast_169 : decode cL_isLeast 169 = .ok (.iconst 0, 1) := by decide +kernel
theorem dL_isLeast_170 : decode cL_isLeast 170 = .ok (.invokevirtual 46, 3) := by decide +kernel
theorem dL_isLeast_173 : decode cL_isLeast 173 = .ok (.bipush 10, 2) := by decide +kernel
theorem dL_isLeast_175 : decode cL_isLeast 175 = .ok (.imul, 1) := by decide +kernel
theorem dL_isLeast_176 : decode cL_isLeast 176 = .ok (.iload 4, 2) := by decide +kernel
theorem dL_isLeast_178 : decode cL_isLeast 178 = .ok (.iconst 1, 1) := by decide +kernel
theorem dL_isLeast_179 : decode cL_isLeast 179 = .ok (.isub, 1) := by decide +kernel
theorem dL_isLeast_180 : decode cL_isLeast 180 = .ok (.imul, 1) := by decide +kernel
theorem dL_isLeast_181 : decode cL_isLeast 181 = .ok (.iload 6, 2) := by decide +kernel
theorem dL_isLeast_183 : decode cL_isLeast 183 = .ok (.idiv, 1) := by decide +kernel
theorem dL_isLeast_184 : decode cL_isLeast 184 = .ok (.aload_n 0, 1) := by decide +kernel
theorem dL_isLeast_185 : decode cL_isLeast 185 = .ok (.iload_n 1, 1) := by decide +kernel
theorem dL_isLeast_186 : decode cL_isLeast 186 = .ok (.iconst 4, 1) := by decide +kernel
theorem dL_isLeast_187 : decode cL_isLeast 187 = .ok (.invokevirtual 43, 3) := by decide +kernel
theorem dL_isLeast_190 : decode cL_isLeast 190 = .ok (.imul, 1) := by decide +kernel
theorem dL_isLeast_191 : decode cL_isLeast 191 = .ok (.iconst 4, 1) := by decide +kernel
theorem dL_isLeast_192 : decode cL_isLeast 192 = .ok (.idiv, 1) := by decide +kernel
theorem dL_isLeast_193 : decode cL_isLeast 193 = .ok (.iload_n 3, 1) := by decide +kernel
theorem dL_isLeast_194 : decode cL_isLeast 194 = .ok (.if_icmp .ge 43, 3) := by decide +kernel
theorem dL_isLeast_197 : decode cL_isLeast 197 = .ok (.aload_n 0, 1) := by decide +kernel
theorem dL_isLeast_198 : decode cL_isLeast 198 = .ok (.iload_n 1, 1) := by decide +kernel
theorem dL_isLeast_199 : decode cL_isLeast 199 = .ok (.iload_n 3, 1) := by decide +kernel
theorem dL_isLeast_200 : decode cL_isLeast 200 = .ok (.invokevirtual 94, 3) := by decide +kernel
theorem dL_isLeast_203 : decode cL_isLeast 203 = .ok (.ifCond .ne 7, 3) := by decide +kernel
theorem dL_isLeast_206 : decode cL_isLeast 206 = .ok (.iconst 1, 1) := by decide +kernel
theorem dL_isLeast_207 : decode cL_isLeast 207 = .ok (.goto 4, 3) := by decide +kernel
theorem dL_isLeast_210 : decode cL_isLeast 210 = .ok (.iconst 0, 1) := by decide +kernel
theorem dL_isLeast_211 : decode cL_isLeast 211 = .ok (.iload 7, 2) := by decide +kernel
theorem dL_isLeast_213 : decode cL_isLeast 213 = .ok (.ifCond .eq 12, 3) := by decide +kernel
theorem dL_isLeast_216 : decode cL_isLeast 216 = .ok (.iload 8, 2) := by decide +kernel
theorem dL_isLeast_218 : decode cL_isLeast 218 = .ok (.ifCond .ne 7, 3) := by decide +kernel
theorem dL_isLeast_221 : decode cL_isLeast 221 = .ok (.iconst 1, 1) := by decide +kernel
theorem dL_isLeast_222 : decode cL_isLeast 222 = .ok (.goto 4, 3) := by decide +kernel
theorem dL_isLeast_225 : decode cL_isLeast 225 = .ok (.iconst 0, 1) := by decide +kernel
theorem dL_isLeast_226 : decode cL_isLeast 226 = .ok (.if_icmp .ne 11, 3) := by decide +kernel
theorem dL_isLeast_229 : decode cL_isLeast 229 = .ok (.iload_n 2, 1) := by decide +kernel
theorem dL_isLeast_230 : decode cL_isLeast 230 = .ok (.ifCond .lt 7, 3) := by decide +kernel
theorem dL_isLeast_233 : decode cL_isLeast 233 = .ok (.iconst 1, 1) := by decide +kernel
theorem dL_isLeast_234 : decode cL_isLeast 234 = .ok (.goto 4, 3) := by decide +kernel
theorem dL_isLeast_237 : decode cL_isLeast 237 = .ok (.iconst 0, 1) := by decide +kernel
theorem dL_isLeast_238 : decode cL_isLeast 238 = .ok (.ireturn, 1) := by decide +kernel
theorem dL_isPassed_0 : decode cL_isPassed 0 = .ok (.aload_n 0, 1) := by decide +kernel
theorem dL_isPassed_1 : decode cL_isPassed 1 = .ok (.bipush 9, 2) := by decide +kernel
theorem dL_isPassed_3 : decode cL_isPassed 3 = .ok (.invokevirtual 37, 3) := by decide +kernel
theorem dL_isPassed_6 : decode cL_isPassed 6 = .ok (.istore 4, 2) := by decide +kernel
theorem dL_isPassed_8 : decode cL_isPassed 8 = .ok (.aload_n 0, 1) := by decide +kernel
theorem dL_isPassed_9 : decode cL_isPassed 9 = .ok (.iload_n 3, 1) := by decide +kernel
theorem dL_isPassed_10 : decode cL_isPassed 10 = .ok (.iconst 0, 1) := by decide +kernel
theorem dL_isPassed_11 : decode cL_isPassed 11 = .ok (.invokevirtual 97, 3) := by decide +kernel
theorem dL_isPassed_14 : decode cL_isPassed 14 = .ok (.istore 5, 2) := by decide +kernel
theorem dL_isPassed_16 : decode cL_isPassed 16 = .ok (.aload_n 0, 1) := by decide +kernel
theorem dL_isPassed_17 : decode cL_isPassed 17 = .ok (.iload_n 3, 1) := by decide +kernel
theorem dL_isPassed_18 : decode cL_isPassed 18 = .ok (.iconst 1, 1) := by decide +kernel
theorem dL_isPassed_19 : decode cL_isPassed 19 = .ok (.invokevirtual 97, 3) := by decide +kernel
theorem dL_isPassed_22 : decode cL_isPassed 22 = .ok (.istore 6, 2) := by decide +kernel
theorem dL_isPassed_24 : decode cL_isPassed 24 = .ok (.iload_n 1, 1) := by decide +kernel
theorem dL_isPassed_25 : decode cL_isPassed 25 = .ok (.newarray .int, 2) := by decide +kernel
theorem dL_isPassed_27 : decode cL_isPassed 27 = .ok (.astore 7, 2) := by decide +kernel
theorem dL_isPassed_29 : decode cL_isPassed 29 = .ok (.iconst 0, 1) := by decide +kernel
theorem dL_isPassed_30 : decode cL_isPassed 30 = .ok (.istore 8, 2) := by decide +kernel
theorem dL_isPassed_32 : decode cL_isPassed 32 = .ok (.iload 8, 2) := by decide +kernel
theorem dL_isPassed_34 : decode cL_isPassed 34 = .ok (.iload_n 1, 1) := by decide +kernel
theorem dL_isPassed_35 : decode cL_isPassed 35 = .ok (.if_icmp .ge 21, 3) := by decide +kernel
theorem dL_isPassed_38 : decode cL_isPassed 38 = .ok (.aload 7, 2) := by decide +kernel
theorem dL_isPassed_40 : decode cL_isPassed 40 = .ok (.iload 8, 2) := by decide +kernel
theorem dL_isPassed_42 : decode cL_isPassed 42 = .ok (.aload_n 0, 1) := by decide +kernel
theorem dL_isPassed_43 : decode cL_isPassed 43 = .ok (.iload 8, 2) := by decide +kernel
theorem dL_isPassed_45 : decode cL_isPassed 45 = .ok (.iload_n 3, 1) := by decide +kernel
theorem dL_isPassed_46 : decode cL_isPassed 46 = .ok (.invokevirtual 91, 3) := by decide +kernel
theorem dL_isPassed_49 : decode cL_isPassed 49 = .ok (.iastore, 1) := by decide +kernel
theorem dL_isPassed_50 : decode cL_isPassed 50 = .ok (.iinc 8 1, 3) := by decide +kernel
theorem dL_isPassed_53 : decode cL_isPassed 53 = .ok (.goto (-21), 3) := by decide +kernel
theorem dL_isPassed_56 : decode cL_isPassed 56 = .ok (.sipush 9000, 3) := by decide +kernel
theorem dL_isPassed_59 : decode cL_isPassed 59 = .ok (.istore 8, 2) := by decide +kernel
theorem dL_isPassed_61 : decode cL_isPassed 61 = .ok (.iconst 0, 1) := by decide +kernel
theorem dL_isPassed_62 : decode cL_isPassed 62 = .ok (.istore 9, 2) := by decide +kernel
theorem dL_isPassed_64 : decode cL_isPassed 64 = .ok (.iload 9, 2) := by decide +kernel
theorem dL_isPassed_66 : decode cL_isPassed 66 = .ok (.iload_n 3, 1) := by decide +kernel
theorem dL_isPassed_67 : decode cL_isPassed 67 = .ok (.if_icmp .ge 587, 3) := by decide +kernel
theorem dL_isPassed_70 : decode cL_isPassed 70 = .ok (.iload_n 1, 1) := by decide +kernel
theorem dL_isPassed_71 : decode cL_isPassed 71 = .ok (.newarray .int, 2) := by decide +kernel
theorem dL_isPassed_73 : decode cL_isPassed 73 = .ok (.astore 10, 2) := by decide +kernel
theorem dL_isPassed_75 : decode cL_isPassed 75 = .ok (.iload_n 1, 1) := by decide +kernel
theorem dL_isPassed_76 : decode cL_isPassed 76 = .ok (.newarray .int, 2) := by decide +kernel
theorem dL_isPassed_78 : decode cL_isPassed 78 = .ok (.astore 11, 2) := by decide +kernel
theorem dL_isPassed_80 : decode cL_isPassed 80 = .ok (.iconst 2, 1) := by decide +kernel
theorem dL_isPassed_81 : decode cL_isPassed 81 = .ok (.newarray .int, 2) := by decide +kernel
theorem dL_isPassed_83 : decode cL_isPassed 83 = .ok (.dup, 1) := by decide +kernel
theorem dL_isPassed_84 : decode cL_isPassed 84 = .ok (.iconst 0, 1) := by decide +kernel
theorem dL_isPassed_85 : decode cL_isPassed 85 = .ok (.aload_n 0, 1) := by decide +kernel
theorem dL_isPassed_86 : decode cL_isPassed 86 = .ok (.iconst 0, 1) := by decide +kernel
theorem dL_isPassed_87 : decode cL_isPassed 87 = .ok (.iconst 2, 1) := by decide +kernel
theorem dL_isPassed_88 : decode cL_isPassed 88 = .ok (.invokevirtual 46, 3) := by decide +kernel
theorem dL_isPassed_91 : decode cL_isPassed 91 = .ok (.iastore, 1) := by decide +kernel
theorem dL_isPassed_92 : decode cL_isPassed 92 = .ok (.dup, 1) := by decide +kernel
theorem dL_isPassed_93 : decode cL_isPassed 93 = .ok (.iconst 1, 1) := by decide +kernel
theorem dL_isPassed_94 : decode cL_isPassed 94 = .ok (.aload_n 0, 1) := by decide +kernel
theorem dL_isPassed_95 : decode cL_isPassed 95 = .ok (.iconst 1, 1) := by decide +kernel
theorem dL_isPassed_96 : decode cL_isPassed 96 = .ok (.iconst 2, 1) := by decide +kernel
theorem dL_isPassed_97 : decode cL_isPassed 97 = .ok (.invokevirtual 46, 3) := by decide +kernel
theorem dL_isPassed_100 : decode cL_isPassed 100 = .ok (.iastore, 1) := by decide +kernel
theorem dL_isPassed_101 : decode cL_isPassed 101 = .ok (.astore 12, 2) := by decide +kernel
theorem dL_isPassed_103 : decode cL_isPassed 103 = .ok (.iconst 0, 1) := by decide +kernel
theorem dL_isPassed_104 : decode cL_isPassed 104 = .ok (.istore 13, 2) := by decide +kernel
theorem dL_isPassed_106 : decode cL_isPassed 106 = .ok (.iload 13, 2) := by decide +kernel
theorem dL_isPassed_108 : decode cL_isPassed 108 = .ok (.iload_n 1, 1) := by decide +kernel
theorem dL_isPassed_109 : decode cL_isPassed 109 = .ok (.if_icmp .ge 34, 3) := by decide +kernel
theorem dL_isPassed_112 : decode cL_isPassed 112 = .ok (.aload 10, 2) := by decide +kernel
theorem dL_isPassed_114 : decode cL_isPassed 114 = .ok (.iload 13, 2) := by decide +kernel
theorem dL_isPassed_116 : decode cL_isPassed 116 = .ok (.aload_n 0, 1) := by decide +kernel
theorem dL_isPassed_117 : decode cL_isPassed 117 = .ok (.iload 13, 2) := by decide +kernel
theorem dL_isPassed_119 : decode cL_isPassed 119 = .ok (.iconst 5, 1) := by decide +kernel
theorem dL_isPassed_120 : decode cL_isPassed 120 = .ok (.invokevirtual 43, 3) := by decide +kernel
theorem dL_isPassed_123 : decode cL_isPassed 123 = .ok (.iastore, 1) := by decide +kernel
theorem dL_isPassed_124 : decode cL_isPassed 124 = .ok (.aload 11, 2) := by decide +kernel
theorem dL_isPassed_126 : decode cL_isPassed 126 = .ok (.iload 13, 2) := by decide +kernel
theorem dL_isPassed_128 : decode cL_isPassed 128 = .ok (.aload_n 0, 1) := by decide +kernel
theorem dL_isPassed_129 : decode cL_isPassed 129 = .ok (.iload 13, 2) := by decide +kernel
theorem dL_isPassed_131 : decode cL_isPassed 131 = .ok (.bipush 10, 2) := by decide +kernel
theorem dL_isPassed_133 : decode cL_isPassed 133 = .ok (.invokevirtual 43, 3) := by decide +kernel
theorem dL_isPassed_136 : decode cL_isPassed 136 = .ok (.iastore, 1) := by decide +kernel
theorem dL_isPassed_137 : decode cL_isPassed 137 = .ok (.iinc 13 1, 3) := by decide +kernel
theorem dL_isPassed_140 : decode cL_isPassed 140 = .ok (.goto (-34), 3) := by decide +kernel
theorem dL_isPassed_143 : decode cL_isPassed 143 = .ok (.bipush 10, 2) := by decide +kernel
theorem dL_isPassed_145 : decode cL_isPassed 145 = .ok (.newarray .int, 2) := by decide +kernel
theorem dL_isPassed_147 : decode cL_isPassed 147 = .ok (.astore 13, 2) := by decide +kernel
theorem dL_isPassed_149 : decode cL_isPassed 149 = .ok (.iconst 1, 1) := by decide +kernel
theorem dL_isPassed_150 : decode cL_isPassed 150 = .ok (.istore 14, 2) := by decide +kernel
theorem dL_isPassed_152 : decode cL_isPassed 152 = .ok (.iload 14, 2) := by decide +kernel
theorem dL_isPassed_154 : decode cL_isPassed 154 = .ok (.bipush 9, 2) := by decide +kernel
theorem dL_isPassed_156 : decode cL_isPassed 156 = .ok (.if_icmp .ge 20, 3) := by decide +kernel
theorem dL_isPassed_159 : decode cL_isPassed 159 = .ok (.aload 13, 2) := by decide +kernel
theorem dL_isPassed_161 : decode cL_isPassed 161 = .ok (.iload 14, 2) := by decide +kernel
theorem dL_isPassed_163 : decode cL_isPassed 163 = .ok (.aload_n 0, 1) := by decide +kernel
theorem dL_isPassed_164 : decode cL_isPassed 164 = .ok (.iload 14, 2) := by decide +kernel
theorem dL_isPassed_166 : decode cL_isPassed 166 = .ok (.invokevirtual 109, 3) := by decide +kernel
theorem dL_isPassed_169 : decode cL_isPassed 169 = .ok (.iastore, 1) := by decide +kernel
theorem dL_isPassed_170 : decode cL_isPassed 170 = .ok (.iinc 14 1, 3) := by decide +kernel
theorem dL_isPassed_173 : decode cL_isPassed 173 = .ok (.goto (-21), 3) := by decide +kernel
theorem dL_isPassed_176 : decode cL_isPassed 176 = .ok (.aload_n 0, 1) := by decide +kernel
theorem dL_isPassed_177 : decode cL_isPassed 177 = .ok (.bipush 10, 2) := by decide +kernel
theorem dL_isPassed_179 : decode cL_isPassed 179 = .ok (.invokevirtual 37, 3) := by decide +kernel
theorem dL_isPassed_182 : decode cL_isPassed 182 = .ok (.istore 14, 2) := by decide +kernel
theorem dL_isPassed_184 : decode cL_isPassed 184 = .ok (.aload_n 0, 1) := by decide +kernel
theorem dL_isPassed_185 : decode cL_isPassed 185 = .ok (.iconst 1, 1) := by decide +kernel
theorem dL_isPassed_186 : decode cL_isPassed 186 = .ok (.invokevirtual 112, 3) := by decide +kernel
theorem dL_isPassed_189 : decode cL_isPassed 189 = .ok (.aload 13, 2) := by decide +kernel
theorem dL_isPassed_191 : decode cL_isPassed 191 = .ok (.iconst 1, 1) := by decide +kernel
theorem dL_isPassed_192 : decode cL_isPassed 192 = .ok (.iaload, 1) := by decide +kernel
theorem dL_isPassed_193 : decode cL_isPassed 193 = .ok (.if_icmp .eq 5, 3) := by decide +kernel
theorem dL_isPassed_196 : decode cL_isPassed 196 = .ok (.iconst 0, 1) := by decide +kernel
theorem dL_isPassed_197 : decode cL_isPassed 197 = .ok (.ireturn, 1) := by decide +kernel
theorem dL_isPassed_198 : decode cL_isPassed 198 = .ok (.iload 8, 2) := by decide +kernel
theorem dL_isPassed_200 : decode cL_isPassed 200 = .ok (.aload_n 0, 1) := by decide +kernel
theorem dL_isPassed_201 : decode cL_isPassed 201 = .ok (.iconst 5, 1) := by decide +kernel
theorem dL_isPassed_202 : decode cL_isPassed 202 = .ok (.invokevirtual 37, 3) := by decide +kernel
theorem dL_isPassed_205 : decode cL_isPassed 205 = .ok (.invokestatic 115, 3) := by decide +kernel
theorem dL_isPassed_208 : decode cL_isPassed 208 = .ok (.istore 8, 2) := by decide +kernel
theorem dL_isPassed_210 : decode cL_isPassed 210 = .ok (.iconst 1, 1) := by decide +kernel
theorem dL_isPassed_211 : decode cL_isPassed 211 = .ok (.istore 15, 2) := by decide +kernel
theorem dL_isPassed_213 : decode cL_isPassed 213 = .ok (.iconst 0, 1) := by decide +kernel
theorem dL_isPassed_214 : decode cL_isPassed 214 = .ok (.istore 16, 2) := by decide +kernel
theorem dL_isPassed_216 : decode cL_isPassed 216 = .ok (.iload 16, 2) := by decide +kernel
theorem dL_isPassed_218 : decode cL_isPassed 218 = .ok (.iload_n 1, 1) := by decide +kernel
theorem dL_isPassed_219 : decode cL_isPassed 219 = .ok (.if_icmp .ge 209, 3) := by decide +kernel
theorem dL_isPassed_222 : decode cL_isPassed 222 = .ok (.aload_n 0, 1) := by decide +kernel
theorem dL_isPassed_223 : decode cL_isPassed 223 = .ok (.iload 16, 2) := by decide +kernel
theorem dL_isPassed_225 : decode cL_isPassed 225 = .ok (.bipush 10, 2) := by decide +kernel
theorem dL_isPassed_227 : decode cL_isPassed 227 = .ok (.invokevirtual 43, 3) := by decide +kernel
theorem dL_isPassed_230 : decode cL_isPassed 230 = .ok (.aload 11, 2) := by decide +kernel
theorem dL_isPassed_232 : decode cL_isPassed 232 = .ok (.iload 16, 2) := by decide +kernel
theorem dL_isPassed_234 : decode cL_isPassed 234 = .ok (.iaload, 1) := by decide +kernel
theorem dL_isPassed_235 : decode cL_isPassed 235 = .ok (.isub, 1) := by decide +kernel
theorem dL_isPassed_236 : decode cL_isPassed 236 = .ok (.istore 17, 2) := by decide +kernel
theorem dL_isPassed_238 : decode cL_isPassed 238 = .ok (.aload_n 0, 1) := by decide +kernel
theorem dL_isPassed_239 : decode cL_isPassed 239 = .ok (.iload 16, 2) := by decide +kernel
theorem dL_isPassed_241 : decode cL_isPassed 241 = .ok (.bipush 6, 2) := by decide +kernel
theorem dL_isPassed_243 : decode cL_isPassed 243 = .ok (.invokevirtual 43, 3) := by decide +kernel
theorem dL_isPassed_246 : decode cL_isPassed 246 = .ok (.iconst 1, 1) := by decide +kernel
theorem dL_isPassed_247 : decode cL_isPassed 247 = .ok (.if_icmp .ne 7, 3) := by decide +kernel
theorem dL_isPassed_250 : decode cL_isPassed 250 = .ok (.iconst 1, 1) := by decide +kernel
theorem dL_isPassed_251 : decode cL_isPassed 251 = .ok (.goto 4, 3) := by decide +kernel
theorem dL_isPassed_254 : decode cL_isPassed 254 = .ok (.iconst 0, 1) := by decide +kernel
theorem dL_isPassed_255 : decode cL_isPassed 255 = .ok (.istore 18, 2) := by decide +kernel
theorem dL_isPassed_257 : decode cL_isPassed 257 = .ok (.aload_n 0, 1) := by decide +kernel
theorem dL_isPassed_258 : decode cL_isPassed 258 = .ok (.iload 16, 2) := by decide +kernel
theorem dL_isPassed_260 : decode cL_isPassed 260 = .ok (.iconst 5, 1) := by decide +kernel
theorem dL_isPassed_261 : decode cL_isPassed 261 = .ok (.invokevirtual 43, 3) := by decide +kernel
theorem dL_isPassed_264 : decode cL_isPassed 264 = .ok (.aload 10, 2) := by decide +kernel
theorem dL_isPassed_266 : decode cL_isPassed 266 = .ok (.iload 16, 2) := by decide +kernel
theorem dL_isPassed_268 : decode cL_isPassed 268 = .ok (.iaload, 1) := by decide +kernel
theorem dL_isPassed_269 : decode cL_isPassed 269 = .ok (.isub, 1) := by decide +kernel
theorem dL_isPassed_270 : decode cL_isPassed 270 = .ok (.invokestatic 120, 3) := by decide +kernel
theorem dL_isPassed_273 : decode cL_isPassed 273 = .ok (.iload 18, 2) := by decide +kernel
theorem dL_isPassed_275 : decode cL_isPassed 275 = .ok (.ifCond .eq 7, 3) := by decide +kernel
theorem dL_isPassed_278 : decode cL_isPassed 278 = .ok (.iconst 0, 1) := by decide +kernel
theorem dL_isPassed_279 : decode cL_isPassed 279 = .ok (.goto 4, 3) := by decide +kernel
theorem dL_isPassed_282 : decode cL_isPassed 282 = .ok (.iconst 1, 1) := by decide +kernel
theorem dL_isPassed_283 : decode cL_isPassed 283 = .ok (.if_icmp .gt 83, 3) := by decide +kernel
theorem dL_isPassed_286 : decode cL_isPassed 286 = .ok (.iload 18, 2) := by decide +kernel
theorem dL_isPassed_288 : decode cL_isPassed 288 = .ok (.ifCond .ne 33, 3) := by decide +kernel
theorem dL_isPassed_291 : decode cL_isPassed 291 = .ok (.aload 10, 2) := by decide +kernel
theorem dL_isPassed_293 : decode cL_isPassed 293 = .ok (.iload 16, 2) := by decide +kernel
theorem dL_isPassed_295 : decode cL_isPassed 295 = .ok (.iaload, 1) := by decide +kernel
theorem dL_isPassed_296 : decode cL_isPassed 296 = .ok (.aload_n 0, 1) := by decide +kernel
theorem dL_isPassed_297 : decode cL_isPassed 297 = .ok (.iload 16, 2) := by decide +kernel
theorem dL_isPassed_299 : decode cL_isPassed 299 = .ok (.iconst 4, 1) := by decide +kernel
theorem dL_isPassed_300 : decode cL_isPassed 300 = .ok (.invokevirtual 43, 3) := by decide +kernel
theorem dL_isPassed_303 : decode cL_isPassed 303 = .ok (.if_icmp .ne 18, 3) := by decide +kernel
theorem dL_isPassed_306 : decode cL_isPassed 306 = .ok (.aload_n 0, 1) := by decide +kernel
theorem dL_isPassed_307 : decode cL_isPassed 307 = .ok (.iload 16, 2) := by decide +kernel
theorem dL_isPassed_309 : decode cL_isPassed 309 = .ok (.iconst 5, 1) := by decide +kernel
theorem dL_isPassed_310 : decode cL_isPassed 310 = .ok (.invokevirtual 43, 3) := by decide +kernel
theorem dL_isPassed_313 : decode cL_isPassed 313 = .ok (.aload 10, 2) := by decide +kernel
theorem dL_isPassed_315 : decode cL_isPassed 315 = .ok (.iload 16, 2) := by decide +kernel
theorem dL_isPassed_317 : decode cL_isPassed 317 = .ok (.iaload, 1) := by decide +kernel
theorem dL_isPassed_318 : decode cL_isPassed 318 = .ok (.if_icmp .ne 48, 3) := by decide +kernel
theorem dL_isPassed_321 : decode cL_isPassed 321 = .ok (.aload_n 0, 1) := by decide +kernel
theorem dL_isPassed_322 : decode cL_isPassed 322 = .ok (.iload 16, 2) := by decide +kernel
theorem dL_isPassed_324 : decode cL_isPassed 324 = .ok (.bipush 8, 2) := by decide +kernel
theorem dL_isPassed_326 : decode cL_isPassed 326 = .ok (.invokevirtual 43, 3) := by decide +kernel
theorem dL_isPassed_329 : decode cL_isPassed 329 = .ok (.bipush 60, 2) := by decide +kernel
theorem dL_isPassed_331 : decode cL_isPassed 331 = .ok (.if_icmp .gt 35, 3) := by decide +kernel
theorem dL_isPassed_334 : decode cL_isPassed 334 = .ok (.iload 17, 2) := by decide +kernel
theorem dL_isPassed_336 : decode cL_isPassed 336 = .ok (.aload_n 0, 1) := by decide +kernel
theorem dL_isPassed_337 : decode cL_isPassed 337 = .ok (.iload 16, 2) := by decide +kernel
theorem dL_isPassed_339 : decode cL_isPassed 339 = .ok (.bipush 7, 2) := by decide +kernel
theorem dL_isPassed_341 : decode cL_isPassed 341 = .ok (.invokevirtual 43, 3) := by decide +kernel
theorem dL_isPassed_344 : decode cL_isPassed 344 = .ok (.if_icmp .gt 22, 3) := by decide +kernel
theorem dL_isPassed_347 : decode cL_isPassed 347 = .ok (.aload_n 0, 1) := by decide +kernel
theorem dL_isPassed_348 : decode cL_isPassed 348 = .ok (.iload 16, 2) := by decide +kernel
theorem dL_isPassed_350 : decode cL_isPassed 350 = .ok (.bipush 9, 2) := by decide +kernel
theorem dL_isPassed_352 : decode cL_isPassed 352 = .ok (.invokevirtual 43, 3) := by decide +kernel
theorem dL_isPassed_355 : decode cL_isPassed 355 = .ok (.iconst 1, 1) := by decide +kernel
theorem dL_isPassed_356 : decode cL_isPassed 356 = .ok (.if_icmp .ne 12, 3) := by decide +kernel
theorem dL_isPassed_359 : decode cL_isPassed 359 = .ok (.aload_n 2, 1) := by decide +kernel
theorem dL_isPassed_360 : decode cL_isPassed 360 = .ok (.iload 16, 2) := by decide +kernel
theorem dL_isPassed_362 : decode cL_isPassed 362 = .ok (.baload, 1) := by decide +kernel
theorem dL_isPassed_363 : decode cL_isPassed 363 = .ok (.ifCond .eq 5, 3) := by decide +kernel
theorem dL_isPassed_366 : decode cL_isPassed 366 = .ok (.iconst 0, 1) := by decide +kernel
theorem dL_isPassed_367 : decode cL_isPassed 367 = .ok (.ireturn, 1) := by decide +kernel
theorem dL_isPassed_368 : decode cL_isPassed 368 = .ok (.aload_n 0, 1) := by decide +kernel
theorem dL_isPassed_369 : decode cL_isPassed 369 = .ok (.aload_n 0, 1) := by decide +kernel
theorem dL_isPassed_370 : decode cL_isPassed 370 = .ok (.iload 16, 2) := by decide +kernel
theorem dL_isPassed_372 : decode cL_isPassed 372 = .ok (.iconst 0, 1) := by decide +kernel
theorem dL_isPassed_373 : decode cL_isPassed 373 = .ok (.invokevirtual 43, 3) := by decide +kernel
theorem dL_isPassed_376 : decode cL_isPassed 376 = .ok (.iconst 4, 1) := by decide +kernel
theorem dL_isPassed_377 : decode cL_isPassed 377 = .ok (.invokevirtual 46, 3) := by decide +kernel
theorem dL_isPassed_380 : decode cL_isPassed 380 = .ok (.ifCond .ne 27, 3) := by decide +kernel
theorem dL_isPassed_383 : decode cL_isPassed 383 = .ok (.aload 13, 2) := by decide +kernel
theorem dL_isPassed_385 : decode cL_isPassed 385 = .ok (.iconst 3, 1) := by decide +kernel
theorem dL_isPassed_386 : decode cL_isPassed 386 = .ok (.aload_n 0, 1) := by decide +kernel
theorem dL_isPassed_387 : decode cL_isPassed 387 = .ok (.iload 16, 2) := by decide +kernel
theorem dL_isPassed_389 : decode cL_isPassed 389 = .ok (.bipush 8, 2) := by decide +kernel
theorem dL_isPassed_391 : decode cL_isPassed 391 = .ok (.invokevirtual 43, 3) := by decide +kernel
theorem dL_isPassed_394 : decode cL_isPassed 394 = .ok (.bipush 10, 2) := by decide +kernel
theorem dL_isPassed_396 : decode cL_isPassed 396 = .ok (.idiv, 1) := by decide +kernel
theorem dL_isPassed_397 : decode cL_isPassed 397 = .ok (.iadd, 1) := by decide +kernel
theorem dL_isPassed_398 : decode cL_isPassed 398 = .ok (.dup2, 1) := by decide +kernel
theorem dL_isPassed_399 : decode cL_isPassed 399 = .ok (.iaload, 1) := by decide +kernel
theorem dL_isPassed_400 : decode cL_isPassed 400 = .ok (.iload 17, 2) := by decide +kernel
theorem dL_isPassed_402 : decode cL_isPassed 402 = .ok (.iadd, 1) := by decide +kernel
theorem dL_isPassed_403 : decode cL_isPassed 403 = .ok (.iastore, 1) := by decide +kernel
theorem dL_isPassed_404 : decode cL_isPassed 404 = .ok (.goto 18, 3) := by decide +kernel
theorem dL_isPassed_407 : decode cL_isPassed 407 = .ok (.iload 15, 2) := by decide +kernel
theorem dL_isPassed_409 : decode cL_isPassed 409 = .ok (.iload 17, 2) := by decide +kernel
theorem dL_isPassed_411 : decode cL_isPassed 411 = .ok (.ifCond .ne 7, 3) := by decide +kernel
theorem dL_isPassed_414 : decode cL_isPassed 414 = .ok (.iconst 1, 1) := by decide +kernel
theorem dL_isPassed_415 : decode cL_isPassed 415 = .ok (.goto 4, 3) := by decide +kernel
theorem dL_isPassed_418 : decode cL_isPassed 418 = .ok (.iconst 0, 1) := by decide +kernel
theorem dL_isPassed_419 : decode cL_isPassed 419 = .ok (.iand, 1) := by decide +kernel
theorem dL_isPassed_420 : decode cL_isPassed 420 = .ok (.istore 15, 2) := by decide +kernel
theorem dL_isPassed_422 : decode cL_isPassed 422 = .ok (.iinc 16 1, 3) := by decide +kernel
theorem dL_isPassed_425 : decode cL_isPassed 425 = .ok (.goto (-209), 3) := by decide +kernel
theorem dL_isPassed_428 : decode cL_isPassed 428 = .ok (.iconst 0, 1) := by decide +kernel
theorem dL_isPassed_429 : decode cL_isPassed 429 = .ok (.istore 16, 2) := by decide +kernel
theorem dL_isPassed_431 : decode cL_isPassed 431 = .ok (.iconst 1, 1) := by decide +kernel
theorem dL_isPassed_432 : decode cL_isPassed 432 = .ok (.istore 17, 2) := by decide +kernel
theorem dL_isPassed_434 : decode cL_isPassed 434 = .ok (.iload 17, 2) := by decide +kernel
theorem dL_isPassed_436 : decode cL_isPassed 436 = .ok (.bipush 9, 2) := by decide +kernel
theorem dL_isPassed_438 : decode cL_isPassed 438 = .ok (.if_icmp .ge 43, 3) := by decide +kernel
theorem dL_isPassed_441 : decode cL_isPassed 441 = .ok (.iload 16, 2) := by decide +kernel
theorem dL_isPassed_443 : decode cL_isPassed 443 = .ok (.aload_n 0, 1) := by decide +kernel
theorem dL_isPassed_444 : decode cL_isPassed 444 = .ok (.iload 17, 2) := by decide +kernel
theorem dL_isPassed_446 : decode cL_isPassed 446 = .ok (.invokevirtual 109, 3) := by decide +kernel
theorem dL_isPassed_449 : decode cL_isPassed 449 = .ok (.iadd, 1) := by decide +kernel
theorem dL_isPassed_450 : decode cL_isPassed 450 = .ok (.istore 16, 2) := by decide +kernel
theorem dL_isPassed_452 : decode cL_isPassed 452 = .ok (.iload 15, 2) := by decide +kernel
theorem dL_isPassed_454 : decode cL_isPassed 454 = .ok (.ifCond .eq 21, 3) := by decide +kernel
theorem dL_isPassed_457 : decode cL_isPassed 457 = .ok (.aload_n 0, 1) := by decide +kernel
theorem dL_isPassed_458 : decode cL_isPassed 458 = .ok (.iload 17, 2) := by decide +kernel
theorem dL_isPassed_460 : decode cL_isPassed 460 = .ok (.invokevirtual 109, 3) := by decide +kernel
theorem dL_isPassed_463 : decode cL_isPassed 463 = .ok (.aload 13, 2) := by decide +kernel
theorem dL_isPassed_465 : decode cL_isPassed 465 = .ok (.iload 17, 2) := by decide +kernel
theorem dL_isPassed_467 : decode cL_isPassed 467 = .ok (.iconst 1, 1) := by decide +kernel
theorem dL_isPassed_468 : decode cL_isPassed 468 = .ok (.iadd, 1) := by decide +kernel
theorem dL_isPassed_469 : decode cL_isPassed 469 = .ok (.iaload, 1) := by decide +kernel
theorem dL_isPassed_470 : decode cL_isPassed 470 = .ok (.if_icmp .eq 5, 3) := by decide +kernel
theorem dL_isPassed_473 : decode cL_isPassed 473 = .ok (.iconst 0, 1) := by decide +kernel
theorem dL_isPassed_474 : decode cL_isPassed 474 = .ok (.ireturn, 1) := by decide +kernel
theorem dL_isPassed_475 : decode cL_isPassed 475 = .ok (.iinc 17 1, 3) := by decide +kernel
theorem dL_isPassed_478 : decode cL_isPassed 478 = .ok (.goto (-44), 3) := by decide +kernel
theorem dL_isPassed_481 : decode cL_isPassed 481 = .ok (.iload 16, 2) := by decide +kernel
theorem dL_isPassed_483 : decode cL_isPassed 483 = .ok (.aload_n 0, 1) := by decide +kernel
theorem dL_isPassed_484 : decode cL_isPassed 484 = .ok (.bipush 6, 2) := by decide +kernel
theorem dL_isPassed_486 : decode cL_isPassed 486 = .ok (.invokevirtual 37, 3) := by decide +kernel
theorem dL_isPassed_489 : decode cL_isPassed 489 = .ok (.if_icmp .eq 5, 3) := by decide +kernel
theorem dL_isPassed_492 : decode cL_isPassed 492 = .ok (.iconst 0, 1) := by decide +kernel
theorem dL_isPassed_493 : decode cL_isPassed 493 = .ok (.ireturn, 1) := by decide +kernel
theorem dL_isPassed_494 : decode cL_isPassed 494 = .ok (.iconst 0, 1) := by decide +kernel
theorem dL_isPassed_495 : decode cL_isPassed 495 = .ok (.istore 17, 2) := by decide +kernel
theorem dL_isPassed_497 : decode cL_isPassed 497 = .ok (.iload 17, 2) := by decide +kernel
theorem dL_isPassed_499 : decode cL_isPassed 499 = .ok (.iconst 2, 1) := by decide +kernel
theorem dL_isPassed_500 : decode cL_isPassed 500 = .ok (.if_icmp .ge 135, 3) := by decide +kernel
theorem dL_isPassed_503 : decode cL_isPassed 503 = .ok (.aload_n 0, 1) := by decide +kernel
theorem dL_isPassed_504 : decode cL_isPassed 504 = .ok (.iload 17, 2) := by decide +kernel
theorem dL_isPassed_506 : decode cL_isPassed 506 = .ok (.iconst 4, 1) := by decide +kernel
theorem dL_isPassed_507 : decode cL_isPassed 507 = .ok (.invokevirtual 46, 3) := by decide +kernel
theorem dL_isPassed_510 : decode cL_isPassed 510 = .ok (.iconst 1, 1) := by decide +kernel
theorem dL_isPassed_511 : decode cL_isPassed 511 = .ok (.if_icmp .ne 7, 3) := by decide +kernel
theorem dL_isPassed_514 : decode cL_isPassed 514 = .ok (.iconst 1, 1) := by decide +kernel
theorem dL_isPassed_515 : decode cL_isPassed 515 = .ok (.goto 4, 3) := by decide +kernel
theorem dL_isPassed_518 : decode cL_isPassed 518 = .ok (.iconst 0, 1) := by decide +kernel
theorem dL_isPassed_519 : decode cL_isPassed 519 = .ok (.istore 18, 2) := by decide +kernel
theorem dL_isPassed_521 : decode cL_isPassed 521 = .ok (.iload 18, 2) := by decide +kernel
theorem dL_isPassed_523 : decode cL_isPassed 523 = .ok (.ifCond .eq 29, 3) := by decide +kernel
theorem dL_isPassed_526 : decode cL_isPassed 526 = .ok (.aload_n 0, 1) := by decide +kernel
theorem dL_isPassed_527 : decode cL_isPassed 527 = .ok (.iload 17, 2) := by decide +kernel
theorem dL_isPassed_529 : decode cL_isPassed 529 = .ok (.iconst 1, 1) := by decide +kernel
theorem dL_isPassed_530 : decode cL_isPassed 530 = .ok (.invokevirtual 46, 3) := by decide +kernel
theorem dL_isPassed_533 : decode cL_isPassed 533 = .ok (.aload_n 0, 1) := by decide +kernel
theorem dL_isPassed_534 : decode cL_isPassed 534 = .ok (.iload 17, 2) := by decide +kernel
theorem dL_isPassed_536 : decode cL_isPassed 536 = .ok (.iconst 2, 1) := by decide +kernel
theorem dL_isPassed_537 : decode cL_isPassed 537 = .ok (.invokevirtual 46, 3) := by decide +kernel
theorem dL_isPassed_540 : decode cL_isPassed 540 = .ok (.iadd, 1) := by decide +kernel
theorem dL_isPassed_541 : decode cL_isPassed 541 = .ok (.aload_n 0, 1) := by decide +kernel
theorem dL_isPassed_542 : decode cL_isPassed 542 = .ok (.iload 17, 2) := by decide +kernel
theorem dL_isPassed_544 : decode cL_isPassed 544 = .ok (.iconst 3, 1) := by decide +kernel
theorem dL_isPassed_545 : decode cL_isPassed 545 = .ok (.invokevirtual 46, 3) := by decide +kernel
theorem dL_isPassed_548 : decode cL_isPassed 548 = .ok (.iadd, 1) := by decide +kernel
theorem dL_isPassed_549 : decode cL_isPassed 549 = .ok (.ifCond .gt 49, 3) := by decide +kernel
theorem dL_isPassed_552 : decode cL_isPassed 552 = .ok (.iload 18, 2) := by decide +kernel
theorem dL_isPassed_554 : decode cL_isPassed 554 = .ok (.ifCond .ne 23, 3) := by decide +kernel
theorem dL_isPassed_557 : decode cL_isPassed 557 = .ok (.aload_n 0, 1) := by decide +kernel
theorem dL_isPassed_558 : decode cL_isPassed 558 = .ok (.iload 17, 2) := by decide +kernel
theorem dL_isPassed_560 : decode cL_isPassed 560 = .ok (.iconst 2, 1) := by decide +kernel
theorem dL_isPassed_561 : decode cL_isPassed 561 = .ok (.invokevirtual 46, 3) := by decide +kernel
theorem dL_isPassed_564 : decode cL_isPassed 564 = .ok (.aload 12, 2) := by decide +kernel
theorem dL_isPassed_566 : decode cL_isPassed 566 = .ok (.iload 17, 2) := by decide +kernel
theorem dL_isPassed_568 : decode cL_isPassed 568 = .ok (.iaload, 1) := by decide +kernel
theorem dL_isPassed_569 : decode cL_isPassed 569 = .ok (.isub, 1) := by decide +kernel
theorem dL_isPassed_570 : decode cL_isPassed 570 = .ok (.invokestatic 120, 3) := by decide +kernel
theorem dL_isPassed_573 : decode cL_isPassed 573 = .ok (.iconst 1, 1) := by decide +kernel
theorem dL_isPassed_574 : decode cL_isPassed 574 = .ok (.if_icmp .gt 24, 3) := by decide +kernel
theorem dL_isPassed_577 : decode cL_isPassed 577 = .ok (.aload_n 0, 1) := by decide +kernel
theorem dL_isPassed_578 : decode cL_isPassed 578 = .ok (.iconst 5, 1) := by decide +kernel
theorem dL_isPassed_579 : decode cL_isPassed 579 = .ok (.invokevirtual 37, 3) := by decide +kernel
theorem dL_isPassed_582 : decode cL_isPassed 582 = .ok (.sipush 300, 3) := by decide +kernel
theorem dL_isPassed_585 : decode cL_isPassed 585 = .ok (.if_icmp .ge 15, 3) := by decide +kernel
theorem dL_isPassed_588 : decode cL_isPassed 588 = .ok (.aload_n 0, 1) := by decide +kernel
theorem dL_isPassed_589 : decode cL_isPassed 589 = .ok (.iload 17, 2) := by decide +kernel
theorem dL_isPassed_591 : decode cL_isPassed 591 = .ok (.iconst 2, 1) := by decide +kernel
theorem dL_isPassed_592 : decode cL_isPassed 592 = .ok (.invokevirtual 46, 3) := by decide +kernel
theorem dL_isPassed_595 : decode cL_isPassed 595 = .ok (.ifCond .le 5, 3) := by decide +kernel
theorem dL_isPassed_598 : decode cL_isPassed 598 = .ok (.iconst 0, 1) := by decide +kernel
theorem dL_isPassed_599 : decode cL_isPassed 599 = .ok (.ireturn, 1) := by decide +kernel
theorem dL_isPassed_600 : decode cL_isPassed 600 = .ok (.iload 14, 2) := by decide +kernel
theorem dL_isPassed_602 : decode cL_isPassed 602 = .ok (.iload 18, 2) := by decide +kernel
theorem dL_isPassed_604 : decode cL_isPassed 604 = .ok (.ifCond .eq 7, 3) := by decide +kernel
theorem dL_isPassed_607 : decode cL_isPassed 607 = .ok (.iconst 0, 1) := by decide +kernel
theorem dL_isPassed_608 : decode cL_isPassed 608 = .ok (.goto 18, 3) := by decide +kernel
theorem dL_isPassed_611 : decode cL_isPassed 611 = .ok (.aload_n 0, 1) := by decide +kernel
theorem dL_isPassed_612 : decode cL_isPassed 612 = .ok (.iload 17, 2) := by decide +kernel
theorem dL_isPassed_614 : decode cL_isPassed 614 = .ok (.iconst 2, 1) := by decide +kernel
theorem dL_isPassed_615 : decode cL_isPassed 615 = .ok (.invokevirtual 46, 3) := by decide +kernel
theorem dL_isPassed_618 : decode cL_isPassed 618 = .ok (.aload_n 0, 1) := by decide +kernel
theorem dL_isPassed_619 : decode cL_isPassed 619 = .ok (.iload 17, 2) := by decide +kernel
theorem dL_isPassed_621 : decode cL_isPassed 621 = .ok (.iconst 2, 1) := by decide +kernel
theorem dL_isPassed_622 : decode cL_isPassed 622 = .ok (.invokevirtual 46, 3) := by decide +kernel
theorem dL_isPassed_625 : decode cL_isPassed 625 = .ok (.imul, 1) := by decide +kernel
theorem dL_isPassed_626 : decode cL_isPassed 626 = .ok (.iadd, 1) := by decide +kernel
theorem dL_isPassed_627 : decode cL_isPassed 627 = .ok (.istore 14, 2) := by decide +kernel
theorem dL_isPassed_629 : decode cL_isPassed 629 = .ok (.iinc 17 1, 3) := by decide +kernel
theorem dL_isPassed_632 : decode cL_isPassed 632 = .ok (.goto (-135), 3) := by decide +kernel
theorem dL_isPassed_635 : decode cL_isPassed 635 = .ok (.aload_n 0, 1) := by decide +kernel
theorem dL_isPassed_636 : decode cL_isPassed 636 = .ok (.bipush 10, 2) := by decide +kernel
theorem dL_isPassed_638 : decode cL_isPassed 638 = .ok (.invokevirtual 37, 3) := by decide +kernel
theorem dL_isPassed_641 : decode cL_isPassed 641 = .ok (.iload 14, 2) := by decide +kernel
theorem dL_isPassed_643 : decode cL_isPassed 643 = .ok (.if_icmp .ge 5, 3) := by decide +kernel
theorem dL_isPassed_646 : decode cL_isPassed 646 = .ok (.iconst 0, 1) := by decide +kernel
theorem dL_isPassed_647 : decode cL_isPassed 647 = .ok (.ireturn, 1) := by decide +kernel
theorem dL_isPassed_648 : decode cL_isPassed 648 = .ok (.iinc 9 1, 3) := by decide +kernel
theorem dL_isPassed_651 : decode cL_isPassed 651 = .ok (.goto (-587), 3) := by decide +kernel
theorem dL_isPassed_654 : decode cL_isPassed 654 = .ok (.iconst 0, 1) := by decide +kernel
theorem dL_isPassed_655 : decode cL_isPassed 655 = .ok (.istore 9, 2) := by decide +kernel
theorem dL_isPassed_657 : decode cL_isPassed 657 = .ok (.iload 9, 2) := by decide +kernel
theorem dL_isPassed_659 : decode cL_isPassed 659 = .ok (.iload_n 1, 1) := by decide +kernel
theorem dL_isPassed_660 : decode cL_isPassed 660 = .ok (.if_icmp .ge 27, 3) := by decide +kernel
theorem dL_isPassed_663 : decode cL_isPassed 663 = .ok (.aload_n 0, 1) := by decide +kernel
theorem dL_isPassed_664 : decode cL_isPassed 664 = .ok (.iload 9, 2) := by decide +kernel
theorem dL_isPassed_666 : decode cL_isPassed 666 = .ok (.bipush 8, 2) := by decide +kernel
theorem dL_isPassed_668 : decode cL_isPassed 668 = .ok (.invokevirtual 43, 3) := by decide +kernel
theorem dL_isPassed_671 : decode cL_isPassed 671 = .ok (.aload 7, 2) := by decide +kernel
theorem dL_isPassed_673 : decode cL_isPassed 673 = .ok (.iload 9, 2) := by decide +kernel
theorem dL_isPassed_675 : decode cL_isPassed 675 = .ok (.iaload, 1) := by decide +kernel
theorem dL_isPassed_676 : decode cL_isPassed 676 = .ok (.if_icmp .eq 5, 3) := by decide +kernel
theorem dL_isPassed_679 : decode cL_isPassed 679 = .ok (.iconst 0, 1) := by decide +kernel
theorem dL_isPassed_680 : decode cL_isPassed 680 = .ok (.ireturn, 1) := by decide +kernel
theorem dL_isPassed_681 : decode cL_isPassed 681 = .ok (.iinc 9 1, 3) := by decide +kernel
theorem dL_isPassed_684 : decode cL_isPassed 684 = .ok (.goto (-27), 3) := by decide +kernel
theorem dL_isPassed_687 : decode cL_isPassed 687 = .ok (.aload_n 0, 1) := by decide +kernel
theorem dL_isPassed_688 : decode cL_isPassed 688 = .ok (.bipush 9, 2) := by decide +kernel
theorem dL_isPassed_690 : decode cL_isPassed 690 = .ok (.invokevirtual 37, 3) := by decide +kernel
theorem dL_isPassed_693 : decode cL_isPassed 693 = .ok (.iload 4, 2) := by decide +kernel
theorem dL_isPassed_695 : decode cL_isPassed 695 = .ok (.isub, 1) := by decide +kernel
theorem dL_isPassed_696 : decode cL_isPassed 696 = .ok (.iload 5, 2) := by decide +kernel
theorem dL_isPassed_698 : decode cL_isPassed 698 = .ok (.if_icmp .ne 14, 3) := by decide +kernel
theorem dL_isPassed_701 : decode cL_isPassed 701 = .ok (.iload 8, 2) := by decide +kernel
theorem dL_isPassed_703 : decode cL_isPassed 703 = .ok (.iload 6, 2) := by decide +kernel
theorem dL_isPassed_705 : decode cL_isPassed 705 = .ok (.if_icmp .ne 7, 3) := by decide +kernel
theorem dL_isPassed_708 : decode cL_isPassed 708 = .ok (.iconst 1, 1) := by decide +kernel
theorem dL_isPassed_709 : decode cL_isPassed 709 = .ok (.goto 4, 3) := by decide +kernel
theorem dL_isPassed_712 : decode cL_isPassed 712 = .ok (.iconst 0, 1) := by decide +kernel
theorem dL_isPassed_713 : decode cL_isPassed 713 = .ok (.ireturn, 1) := by decide +kernel
end
section
theorem dX0_init_0 : decode cX0_init 0 = .ok (.aload_n 0, 1) := by decide +kernel
theorem dX0_init_1 : decode cX0_init 1 = .ok (.invokespecial 3, 3) := by decide +kernel
theorem dX0_init_4 : decode cX0_init 4 = .ok (.aload_n 0, 1) := by decide +kernel
theorem dX0_init_5 : decode cX0_init 5 = .ok (.bipush 9, 2) := by decide +kernel
theorem dX0_init_7 : decode cX0_init 7 = .ok (.newarray .int, 2) := by decide +kernel
theorem dX0_init_9 : decode cX0_init 9 = .ok (.putfield 11, 3) := by decide +kernel
theorem dX0_init_12 : decode cX0_init 12 = .ok (.aload_n 0, 1) := by decide +kernel
theorem dX0_init_13 : decode cX0_init 13 = .ok (.bipush 9, 2) := by decide +kernel
theorem dX0_init_15 : decode cX0_init 15 = .ok (.newarray .int, 2) := by decide +kernel
theorem dX0_init_17 : decode cX0_init 17 = .ok (.putfield 15, 3) := by decide +kernel
theorem dX0_init_20 : decode cX0_init 20 = .ok (.aload_n 0, 1) := by decide +kernel
theorem dX0_init_21 : decode cX0_init 21 = .ok (.bipush 9, 2) := by decide +kernel
theorem dX0_init_23 : decode cX0_init 23 = .ok (.newarray .int, 2) := by decide +kernel
theorem dX0_init_25 : decode cX0_init 25 = .ok (.putfield 18, 3) := by decide +kernel
theorem dX0_init_28 : decode cX0_init 28 = .ok (.return_, 1) := by decide +kernel
theorem dX0_slotOf_0 : decode cX0_slotOf 0 = .ok (.iload_n 0, 1) := by decide +kernel
theorem dX0_slotOf_1 : decode cX0_slotOf 1 = .ok (.bipush 9, 2) := by decide +kernel
theorem dX0_slotOf_3 : decode cX0_slotOf 3 = .ok (.invokestatic 21, 3) := by decide +kernel
theorem dX0_slotOf_6 : decode cX0_slotOf 6 = .ok (.ireturn, 1) := by decide +kernel
theorem dX0_put_0 : decode cX0_put 0 = .ok (.iload_n 1, 1) := by decide +kernel
theorem dX0_put_1 : decode cX0_put 1 = .ok (.invokestatic 27, 3) := by decide +kernel
theorem dX0_put_4 : decode cX0_put 4 = .ok (.istore 4, 2) := by decide +kernel
theorem dX0_put_6 : decode cX0_put 6 = .ok (.iload_n 2, 1) := by decide +kernel
theorem dX0_put_7 : decode cX0_put 7 = .ok (.ifCond .lt 23, 3) := by decide +kernel
theorem dX0_put_10 : decode cX0_put 10 = .ok (.iload_n 2, 1) := by decide +kernel
theorem dX0_put_11 : decode cX0_put 11 = .ok (.bipush 19, 2) := by decide +kernel
theorem dX0_put_13 : decode cX0_put 13 = .ok (.if_icmp .gt 17, 3) := by decide +kernel
theorem dX0_put_16 : decode cX0_put 16 = .ok (.aload_n 0, 1) := by decide +kernel
theorem dX0_put_17 : decode cX0_put 17 = .ok (.getfield 11, 3) := by decide +kernel
theorem dX0_put_20 : decode cX0_put 20 = .ok (.iload 4, 2) := by decide +kernel
theorem dX0_put_22 : decode cX0_put 22 = .ok (.dup2, 1) := by decide +kernel
theorem dX0_put_23 : decode cX0_put 23 = .ok (.iaload, 1) := by decide +kernel
theorem dX0_put_24 : decode cX0_put 24 = .ok (.iload_n 3, 1) := by decide +kernel
theorem dX0_put_25 : decode cX0_put 25 = .ok (.iadd, 1) := by decide +kernel
theorem dX0_put_26 : decode cX0_put 26 = .ok (.iastore, 1) := by decide +kernel
theorem dX0_put_27 : decode cX0_put 27 = .ok (.goto 40, 3) := by decide +kernel
theorem dX0_put_30 : decode cX0_put 30 = .ok (.iload_n 2, 1) := by decide +kernel
theorem dX0_put_31 : decode cX0_put 31 = .ok (.bipush (-4), 2) := by decide +kernel
theorem dX0_put_33 : decode cX0_put 33 = .ok (.if_icmp .lt 23, 3) := by decide +kernel
theorem dX0_put_36 : decode cX0_put 36 = .ok (.iload_n 2, 1) := by decide +kernel
theorem dX0_put_37 : decode cX0_put 37 = .ok (.bipush 23, 2) := by decide +kernel
theorem dX0_put_39 : decode cX0_put 39 = .ok (.if_icmp .gt 17, 3) := by decide +kernel
theorem dX0_put_42 : decode cX0_put 42 = .ok (.aload_n 0, 1) := by decide +kernel
theorem dX0_put_43 : decode cX0_put 43 = .ok (.getfield 15, 3) := by decide +kernel
theorem dX0_put_46 : decode cX0_put 46 = .ok (.iload 4, 2) := by decide +kernel
theorem dX0_put_48 : decode cX0_put 48 = .ok (.dup2, 1) := by decide +kernel
theorem dX0_put_49 : decode cX0_put 49 = .ok (.iaload, 1) := by decide +kernel
theorem dX0_put_50 : decode cX0_put 50 = .ok (.iload_n 3, 1) := by decide +kernel
theorem dX0_put_51 : decode cX0_put 51 = .ok (.iadd, 1) := by decide +kernel
theorem dX0_put_52 : decode cX0_put 52 = .ok (.iastore, 1) := by decide +kernel
theorem dX0_put_53 : decode cX0_put 53 = .ok (.goto 14, 3) := by decide +kernel
theorem dX0_put_56 : decode cX0_put 56 = .ok (.aload_n 0, 1) := by decide +kernel
theorem dX0_put_57 : decode cX0_put 57 = .ok (.getfield 18, 3) := by decide +kernel
theorem dX0_put_60 : decode cX0_put 60 = .ok (.iload 4, 2) := by decide +kernel
theorem dX0_put_62 : decode cX0_put 62 = .ok (.dup2, 1) := by decide +kernel
theorem dX0_put_63 : decode cX0_put 63 = .ok (.iaload, 1) := by decide +kernel
theorem dX0_put_64 : decode cX0_put 64 = .ok (.iload_n 3, 1) := by decide +kernel
theorem dX0_put_65 : decode cX0_put 65 = .ok (.iadd, 1) := by decide +kernel
theorem dX0_put_66 : decode cX0_put 66 = .ok (.iastore, 1) := by decide +kernel
theorem dX0_put_67 : decode cX0_put 67 = .ok (.return_, 1) := by decide +kernel
theorem dX0_fallingIn_0 : decode cX0_fallingIn 0 = .ok (.iload_n 1, 1) := by decide +kernel
theorem dX0_fallingIn_1 : decode cX0_fallingIn 1 = .ok (.invokestatic 27, 3) := by decide +kernel
theorem dX0_fallingIn_4 : decode cX0_fallingIn 4 = .ok (.istore_n 2, 1) := by decide +kernel
theorem dX0_fallingIn_5 : decode cX0_fallingIn 5 = .ok (.aload_n 0, 1) := by decide +kernel
theorem dX0_fallingIn_6 : decode cX0_fallingIn 6 = .ok (.getfield 11, 3) := by decide +kernel
theorem dX0_fallingIn_9 : decode cX0_fallingIn 9 = .ok (.iload_n 2, 1) := by decide +kernel
theorem dX0_fallingIn_10 : decode cX0_fallingIn 10 = .ok (.iaload, 1) := by decide +kernel
theorem dX0_fallingIn_11 : decode cX0_fallingIn 11 = .ok (.aload_n 0, 1) := by decide +kernel
theorem dX0_fallingIn_12 : decode cX0_fallingIn 12 = .ok (.getfield 15, 3) := by decide +kernel
theorem dX0_fallingIn_15 : decode cX0_fallingIn 15 = .ok (.iload_n 2, 1) := by decide +kernel
theorem dX0_fallingIn_16 : decode cX0_fallingIn 16 = .ok (.iaload, 1) := by decide +kernel
theorem dX0_fallingIn_17 : decode cX0_fallingIn 17 = .ok (.iadd, 1) := by decide +kernel
theorem dX0_fallingIn_18 : decode cX0_fallingIn 18 = .ok (.aload_n 0, 1) := by decide +kernel
theorem dX0_fallingIn_19 : decode cX0_fallingIn 19 = .ok (.getfield 18, 3) := by decide +kernel
theorem dX0_fallingIn_22 : decode cX0_fallingIn 22 = .ok (.iload_n 2, 1) := by decide +kernel
theorem dX0_fallingIn_23 : decode cX0_fallingIn 23 = .ok (.iaload, 1) := by decide +kernel
theorem dX0_fallingIn_24 : decode cX0_fallingIn 24 = .ok (.iadd, 1) := by decide +kernel
theorem dX0_fallingIn_25 : decode cX0_fallingIn 25 = .ok (.ireturn, 1) := by decide +kernel
theorem dX0_fallingOnBasin_0 : decode cX0_fallingOnBasin 0 = .ok (.aload_n 0, 1) := by decide +kernel
theorem dX0_fallingOnBasin_1 : decode cX0_fallingOnBasin 1 = .ok (.getfield 11, 3) := by decide +kernel
theorem dX0_fallingOnBasin_4 : decode cX0_fallingOnBasin 4 = .ok (.iload_n 1, 1) := by decide +kernel
theorem dX0_fallingOnBasin_5 : decode cX0_fallingOnBasin 5 = .ok (.invokestatic 27, 3) := by decide +kernel
theorem dX0_fallingOnBasin_8 : decode cX0_fallingOnBasin 8 = .ok (.iaload, 1) := by decide +kernel
theorem dX0_fallingOnBasin_9 : decode cX0_fallingOnBasin 9 = .ok (.ireturn, 1) := by decide +kernel
theorem dX0_fallingOnCrowd_0 : decode cX0_fallingOnCrowd 0 = .ok (.aload_n 0, 1) := by decide +kernel
theorem dX0_fallingOnCrowd_1 : decode cX0_fallingOnCrowd 1 = .ok (.getfield 15, 3) := by decide +kernel
theorem dX0_fallingOnCrowd_4 : decode cX0_fallingOnCrowd 4 = .ok (.iload_n 1, 1) := by decide +kernel
theorem dX0_fallingOnCrowd_5 : decode cX0_fallingOnCrowd 5 = .ok (.invokestatic 27, 3) := by decide +kernel
theorem dX0_fallingOnCrowd_8 : decode cX0_fallingOnCrowd 8 = .ok (.iaload, 1) := by decide +kernel
theorem dX0_fallingOnCrowd_9 : decode cX0_fallingOnCrowd 9 = .ok (.ireturn, 1) := by decide +kernel
theorem dX0_clear_0 : decode cX0_clear 0 = .ok (.iload_n 1, 1) := by decide +kernel
theorem dX0_clear_1 : decode cX0_clear 1 = .ok (.invokestatic 27, 3) := by decide +kernel
theorem dX0_clear_4 : decode cX0_clear 4 = .ok (.istore_n 2, 1) := by decide +kernel
theorem dX0_clear_5 : decode cX0_clear 5 = .ok (.aload_n 0, 1) := by decide +kernel
theorem dX0_clear_6 : decode cX0_clear 6 = .ok (.getfield 11, 3) := by decide +kernel
theorem dX0_clear_9 : decode cX0_clear 9 = .ok (.iload_n 2, 1) := by decide +kernel
theorem dX0_clear_10 : decode cX0_clear 10 = .ok (.iconst 0, 1) := by decide +kernel
theorem dX0_clear_11 : decode cX0_clear 11 = .ok (.iastore, 1) := by decide +kernel
theorem dX0_clear_12 : decode cX0_clear 12 = .ok (.aload_n 0, 1) := by decide +kernel
theorem dX0_clear_13 : decode cX0_clear 13 = .ok (.getfield 15, 3) := by decide +kernel
theorem dX0_clear_16 : decode cX0_clear 16 = .ok (.iload_n 2, 1) := by decide +kernel
theorem dX0_clear_17 : decode cX0_clear 17 = .ok (.iconst 0, 1) := by decide +kernel
theorem dX0_clear_18 : decode cX0_clear 18 = .ok (.iastore, 1) := by decide +kernel
theorem dX0_clear_19 : decode cX0_clear 19 = .ok (.aload_n 0, 1) := by decide +kernel
theorem dX0_clear_20 : decode cX0_clear 20 = .ok (.getfield 18, 3) := by decide +kernel
theorem dX0_clear_23 : decode cX0_clear 23 = .ok (.iload_n 2, 1) := by decide +kernel
theorem dX0_clear_24 : decode cX0_clear 24 = .ok (.iconst 0, 1) := by decide +kernel
theorem dX0_clear_25 : decode cX0_clear 25 = .ok (.iastore, 1) := by decide +kernel
theorem dX0_clear_26 : decode cX0_clear 26 = .ok (.return_, 1) := by decide +kernel
theorem dX0_all_0 : decode cX0_all 0 = .ok (.iconst 0, 1) := by decide +kernel
theorem dX0_all_1 : decode cX0_all 1 = .ok (.istore_n 1, 1) := by decide +kernel
theorem dX0_all_2 : decode cX0_all 2 = .ok (.iconst 0, 1) := by decide +kernel
theorem dX0_all_3 : decode cX0_all 3 = .ok (.istore_n 2, 1) := by decide +kernel
theorem dX0_all_4 : decode cX0_all 4 = .ok (.iload_n 2, 1) := by decide +kernel
theorem dX0_all_5 : decode cX0_all 5 = .ok (.bipush 9, 2) := by decide +kernel
theorem dX0_all_7 : decode cX0_all 7 = .ok (.if_icmp .ge 32, 3) := by decide +kernel
theorem dX0_all_10 : decode cX0_all 10 = .ok (.iload_n 1, 1) := by decide +kernel
theorem dX0_all_11 : decode cX0_all 11 = .ok (.aload_n 0, 1) := by decide +kernel
theorem dX0_all_12 : decode cX0_all 12 = .ok (.getfield 11, 3) := by decide +kernel
theorem dX0_all_15 : decode cX0_all 15 = .ok (.iload_n 2, 1) := by decide +kernel
theorem dX0_all_16 : decode cX0_all 16 = .ok (.iaload, 1) := by decide +kernel
theorem dX0_all_17 : decode cX0_all 17 = .ok (.aload_n 0, 1) := by decide +kernel
theorem dX0_all_18 : decode cX0_all 18 = .ok (.getfield 15, 3) := by decide +kernel
theorem dX0_all_21 : decode cX0_all 21 = .ok (.iload_n 2, 1) := by decide +kernel
theorem dX0_all_22 : decode cX0_all 22 = .ok (.iaload, 1) := by decide +kernel
theorem dX0_all_23 : decode cX0_all 23 = .ok (.iadd, 1) := by decide +kernel
theorem dX0_all_24 : decode cX0_all 24 = .ok (.aload_n 0, 1) := by decide +kernel
theorem dX0_all_25 : decode cX0_all 25 = .ok (.getfield 18, 3) := by decide +kernel
theorem dX0_all_28 : decode cX0_all 28 = .ok (.iload_n 2, 1) := by decide +kernel
theorem dX0_all_29 : decode cX0_all 29 = .ok (.iaload, 1) := by decide +kernel
theorem dX0_all_30 : decode cX0_all 30 = .ok (.iadd, 1) := by decide +kernel
theorem dX0_all_31 : decode cX0_all 31 = .ok (.iadd, 1) := by decide +kernel
theorem dX0_all_32 : decode cX0_all 32 = .ok (.istore_n 1, 1) := by decide +kernel
theorem dX0_all_33 : decode cX0_all 33 = .ok (.iinc 2 1, 3) := by decide +kernel
theorem dX0_all_36 : decode cX0_all 36 = .ok (.goto (-32), 3) := by decide +kernel
theorem dX0_all_39 : decode cX0_all 39 = .ok (.iload_n 1, 1) := by decide +kernel
theorem dX0_all_40 : decode cX0_all 40 = .ok (.ireturn, 1) := by decide +kernel
theorem dX0_becomeLike_0 : decode cX0_becomeLike 0 = .ok (.aload_n 1, 1) := by decide +kernel
theorem dX0_becomeLike_1 : decode cX0_becomeLike 1 = .ok (.getfield 11, 3) := by decide +kernel
theorem dX0_becomeLike_4 : decode cX0_becomeLike 4 = .ok (.iconst 0, 1) := by decide +kernel
theorem dX0_becomeLike_5 : decode cX0_becomeLike 5 = .ok (.aload_n 0, 1) := by decide +kernel
theorem dX0_becomeLike_6 : decode cX0_becomeLike 6 = .ok (.getfield 11, 3) := by decide +kernel
theorem dX0_becomeLike_9 : decode cX0_becomeLike 9 = .ok (.iconst 0, 1) := by decide +kernel
theorem dX0_becomeLike_10 : decode cX0_becomeLike 10 = .ok (.bipush 9, 2) := by decide +kernel
theorem dX0_becomeLike_12 : decode cX0_becomeLike 12 = .ok (.invokestatic 31, 3) := by decide +kernel
theorem dX0_becomeLike_15 : decode cX0_becomeLike 15 = .ok (.aload_n 1, 1) := by decide +kernel
theorem dX0_becomeLike_16 : decode cX0_becomeLike 16 = .ok (.getfield 15, 3) := by decide +kernel
theorem dX0_becomeLike_19 : decode cX0_becomeLike 19 = .ok (.iconst 0, 1) := by decide +kernel
theorem dX0_becomeLike_20 : decode cX0_becomeLike 20 = .ok (.aload_n 0, 1) := by decide +kernel
theorem dX0_becomeLike_21 : decode cX0_becomeLike 21 = .ok (.getfield 15, 3) := by decide +kernel
theorem dX0_becomeLike_24 : decode cX0_becomeLike 24 = .ok (.iconst 0, 1) := by decide +kernel
theorem dX0_becomeLike_25 : decode cX0_becomeLike 25 = .ok (.bipush 9, 2) := by decide +kernel
theorem dX0_becomeLike_27 : decode cX0_becomeLike 27 = .ok (.invokestatic 31, 3) := by decide +kernel
theorem dX0_becomeLike_30 : decode cX0_becomeLike 30 = .ok (.aload_n 1, 1) := by decide +kernel
theorem dX0_becomeLike_31 : decode cX0_becomeLike 31 = .ok (.getfield 18, 3) := by decide +kernel
theorem dX0_becomeLike_34 : decode cX0_becomeLike 34 = .ok (.iconst 0, 1) := by decide +kernel
theorem dX0_becomeLike_35 : decode cX0_becomeLike 35 = .ok (.aload_n 0, 1) := by decide +kernel
theorem dX0_becomeLike_36 : decode cX0_becomeLike 36 = .ok (.getfield 18, 3) := by decide +kernel
theorem dX0_becomeLike_39 : decode cX0_becomeLike 39 = .ok (.iconst 0, 1) := by decide +kernel
theorem dX0_becomeLike_40 : decode cX0_becomeLike 40 = .ok (.bipush 9, 2) := by decide +kernel
theorem dX0_becomeLike_42 : decode cX0_becomeLike 42 = .ok (.invokestatic 31, 3) := by decide +kernel
theorem dX0_becomeLike_45 : decode cX0_becomeLike 45 = .ok (.return_, 1) := by decide +kernel
theorem dX1_init_0 : decode cX1_init 0 = .ok (.aload_n 0, 1) := by decide +kernel
theorem dX1_init_1 : decode cX1_init 1 = .ok (.invokespecial 1, 3) := by decide +kernel
theorem dX1_init_4 : decode cX1_init 4 = .ok (.aload_n 0, 1) := by decide +kernel
theorem dX1_init_5 : decode cX1_init 5 = .ok (.aload_n 1, 1) := by decide +kernel
theorem dX1_init_6 : decode cX1_init 6 = .ok (.putfield 7, 3) := by decide +kernel
theorem dX1_init_9 : decode cX1_init 9 = .ok (.aload_n 0, 1) := by decide +kernel
theorem dX1_init_10 : decode cX1_init 10 = .ok (.iload_n 2, 1) := by decide +kernel
theorem dX1_init_11 : decode cX1_init 11 = .ok (.putfield 13, 3) := by decide +kernel
theorem dX1_init_14 : decode cX1_init 14 = .ok (.aload_n 0, 1) := by decide +kernel
theorem dX1_init_15 : decode cX1_init 15 = .ok (.iload_n 3, 1) := by decide +kernel
theorem dX1_init_16 : decode cX1_init 16 = .ok (.putfield 17, 3) := by decide +kernel
theorem dX1_init_19 : decode cX1_init 19 = .ok (.return_, 1) := by decide +kernel
theorem dX1_dueOf_0 : decode cX1_dueOf 0 = .ok (.aload_n 0, 1) := by decide +kernel
theorem dX1_dueOf_1 : decode cX1_dueOf 1 = .ok (.getfield 17, 3) := by decide +kernel
theorem dX1_dueOf_4 : decode cX1_dueOf 4 = .ok (.aload_n 1, 1) := by decide +kernel
theorem dX1_dueOf_5 : decode cX1_dueOf 5 = .ok (.getfield 20, 3) := by decide +kernel
theorem dX1_dueOf_8 : decode cX1_dueOf 8 = .ok (.iadd, 1) := by decide +kernel
theorem dX1_dueOf_9 : decode cX1_dueOf 9 = .ok (.iconst 1, 1) := by decide +kernel
theorem dX1_dueOf_10 : decode cX1_dueOf 10 = .ok (.iadd, 1) := by decide +kernel
theorem dX1_dueOf_11 : decode cX1_dueOf 11 = .ok (.ireturn, 1) := by decide +kernel
theorem dX1_stepsDueAfter_0 : decode cX1_stepsDueAfter 0 = .ok (.iconst 0, 1) := by decide +kernel
theorem dX1_stepsDueAfter_1 : decode cX1_stepsDueAfter 1 = .ok (.istore_n 2, 1) := by decide +kernel
theorem dX1_stepsDueAfter_2 : decode cX1_stepsDueAfter 2 = .ok (.iconst 0, 1) := by decide +kernel
theorem dX1_stepsDueAfter_3 : decode cX1_stepsDueAfter 3 = .ok (.istore_n 3, 1) := by decide +kernel
theorem dX1_stepsDueAfter_4 : decode cX1_stepsDueAfter 4 = .ok (.iload_n 3, 1) := by decide +kernel
theorem dX1_stepsDueAfter_5 : decode cX1_stepsDueAfter 5 = .ok (.aload_n 0, 1) := by decide +kernel
theorem dX1_stepsDueAfter_6 : decode cX1_stepsDueAfter 6 = .ok (.getfield 7, 3) := by decide +kernel
theorem dX1_stepsDueAfter_9 : decode cX1_stepsDueAfter 9 = .ok (.invokevirtual 25, 3) := by decide +kernel
theorem dX1_stepsDueAfter_12 : decode cX1_stepsDueAfter 12 = .ok (.if_icmp .ge 31, 3) := by decide +kernel
theorem dX1_stepsDueAfter_15 : decode cX1_stepsDueAfter 15 = .ok (.aload_n 0, 1) := by decide +kernel
theorem dX1_stepsDueAfter_16 : decode cX1_stepsDueAfter 16 = .ok (.aload_n 0, 1) := by decide +kernel
theorem dX1_stepsDueAfter_17 : decode cX1_stepsDueAfter 17 = .ok (.getfield 7, 3) := by decide +kernel
theorem dX1_stepsDueAfter_20 : decode cX1_stepsDueAfter 20 = .ok (.iload_n 3, 1) := by decide +kernel
theorem dX1_stepsDueAfter_21 : decode cX1_stepsDueAfter 21 = .ok (.invokevirtual 31, 3) := by decide +kernel
theorem dX1_stepsDueAfter_24 : decode cX1_stepsDueAfter 24 = .ok (.checkcast 21, 3) := by decide +kernel
theorem dX1_stepsDueAfter_27 : decode cX1_stepsDueAfter 27 = .ok (.invokevirtual 35, 3) := by decide +kernel
theorem dX1_stepsDueAfter_30 : decode cX1_stepsDueAfter 30 = .ok (.iload_n 1, 1) := by decide +kernel
theorem dX1_stepsDueAfter_31 : decode cX1_stepsDueAfter 31 = .ok (.if_icmp .le 6, 3) := by decide +kernel
theorem dX1_stepsDueAfter_34 : decode cX1_stepsDueAfter 34 = .ok (.iinc 2 1, 3) := by decide +kernel
theorem dX1_stepsDueAfter_37 : decode cX1_stepsDueAfter 37 = .ok (.iinc 3 1, 3) := by decide +kernel
theorem dX1_stepsDueAfter_40 : decode cX1_stepsDueAfter 40 = .ok (.goto (-36), 3) := by decide +kernel
theorem dX1_stepsDueAfter_43 : decode cX1_stepsDueAfter 43 = .ok (.iload_n 2, 1) := by decide +kernel
theorem dX1_stepsDueAfter_44 : decode cX1_stepsDueAfter 44 = .ok (.ireturn, 1) := by decide +kernel
theorem dX2_init_0 : decode cX2_init 0 = .ok (.aload_n 0, 1) := by decide +kernel
theorem dX2_init_1 : decode cX2_init 1 = .ok (.invokespecial 1, 3) := by decide +kernel
theorem dX2_init_4 : decode cX2_init 4 = .ok (.aload_n 0, 1) := by decide +kernel
theorem dX2_init_5 : decode cX2_init 5 = .ok (.new 7, 3) := by decide +kernel
theorem dX2_init_8 : decode cX2_init 8 = .ok (.dup, 1) := by decide +kernel
theorem dX2_init_9 : decode cX2_init 9 = .ok (.invokespecial 9, 3) := by decide +kernel
theorem dX2_init_12 : decode cX2_init 12 = .ok (.putfield 10, 3) := by decide +kernel
theorem dX2_init_15 : decode cX2_init 15 = .ok (.return_, 1) := by decide +kernel
theorem dX2_stepsNow_0 : decode cX2_stepsNow 0 = .ok (.new 7, 3) := by decide +kernel
theorem dX2_stepsNow_3 : decode cX2_stepsNow 3 = .ok (.dup, 1) := by decide +kernel
theorem dX2_stepsNow_4 : decode cX2_stepsNow 4 = .ok (.invokespecial 9, 3) := by decide +kernel
theorem dX2_stepsNow_7 : decode cX2_stepsNow 7 = .ok (.astore_n 1, 1) := by decide +kernel
theorem dX2_stepsNow_8 : decode cX2_stepsNow 8 = .ok (.iconst 0, 1) := by decide +kernel
theorem dX2_stepsNow_9 : decode cX2_stepsNow 9 = .ok (.istore_n 2, 1) := by decide +kernel
theorem dX2_stepsNow_10 : decode cX2_stepsNow 10 = .ok (.iload_n 2, 1) := by decide +kernel
theorem dX2_stepsNow_11 : decode cX2_stepsNow 11 = .ok (.aload_n 0, 1) := by decide +kernel
theorem dX2_stepsNow_12 : decode cX2_stepsNow 12 = .ok (.getfield 10, 3) := by decide +kernel
theorem dX2_stepsNow_15 : decode cX2_stepsNow 15 = .ok (.invokevirtual 16, 3) := by decide +kernel
theorem dX2_stepsNow_18 : decode cX2_stepsNow 18 = .ok (.if_icmp .ge 25, 3) := by decide +kernel
theorem dX2_stepsNow_21 : decode cX2_stepsNow 21 = .ok (.aload_n 1, 1) := by decide +kernel
theorem dX2_stepsNow_22 : decode cX2_stepsNow 22 = .ok (.aload_n 0, 1) := by decide +kernel
theorem dX2_stepsNow_23 : decode cX2_stepsNow 23 = .ok (.getfield 10, 3) := by decide +kernel
theorem dX2_stepsNow_26 : decode cX2_stepsNow 26 = .ok (.iload_n 2, 1) := by decide +kernel
theorem dX2_stepsNow_27 : decode cX2_stepsNow 27 = .ok (.invokevirtual 20, 3) := by decide +kernel
theorem dX2_stepsNow_30 : decode cX2_stepsNow 30 = .ok (.checkcast 24, 3) := by decide +kernel
theorem dX2_stepsNow_33 : decode cX2_stepsNow 33 = .ok (.invokevirtual 26, 3) := by decide +kernel
theorem dX2_stepsNow_36 : decode cX2_stepsNow 36 = .ok (.pop, 1) := by decide +kernel
theorem dX2_stepsNow_37 : decode cX2_stepsNow 37 = .ok (.iinc 2 1, 3) := by decide +kernel
theorem dX2_stepsNow_40 : decode cX2_stepsNow 40 = .ok (.goto (-30), 3) := by decide +kernel
theorem dX2_stepsNow_43 : decode cX2_stepsNow 43 = .ok (.aload_n 1, 1) := by decide +kernel
theorem dX2_stepsNow_44 : decode cX2_stepsNow 44 = .ok (.areturn, 1) := by decide +kernel
theorem dX3_init_0 : decode cX3_init 0 = .ok (.aload_n 0, 1) := by decide +kernel
theorem dX3_init_1 : decode cX3_init 1 = .ok (.invokespecial 3, 3) := by decide +kernel
theorem dX3_init_4 : decode cX3_init 4 = .ok (.aload_n 0, 1) := by decide +kernel
theorem dX3_init_5 : decode cX3_init 5 = .ok (.aload_n 1, 1) := by decide +kernel
theorem dX3_init_6 : decode cX3_init 6 = .ok (.putfield 9, 3) := by decide +kernel
theorem dX3_init_9 : decode cX3_init 9 = .ok (.aload_n 0, 1) := by decide +kernel
theorem dX3_init_10 : decode cX3_init 10 = .ok (.iload_n 2, 1) := by decide +kernel
theorem dX3_init_11 : decode cX3_init 11 = .ok (.putfield 15, 3) := by decide +kernel
theorem dX3_init_14 : decode cX3_init 14 = .ok (.aload_n 0, 1) := by decide +kernel
theorem dX3_init_15 : decode cX3_init 15 = .ok (.iload_n 3, 1) := by decide +kernel
theorem dX3_init_16 : decode cX3_init 16 = .ok (.putfield 19, 3) := by decide +kernel
theorem dX3_init_19 : decode cX3_init 19 = .ok (.aload_n 0, 1) := by decide +kernel
theorem dX3_init_20 : decode cX3_init 20 = .ok (.iload 4, 2) := by decide +kernel
theorem dX3_init_22 : decode cX3_init 22 = .ok (.putfield 22, 3) := by decide +kernel
theorem dX3_init_25 : decode cX3_init 25 = .ok (.return_, 1) := by decide +kernel
theorem dX3_flow_0 : decode cX3_flow 0 = .ok (.aload_n 0, 1) := by decide +kernel
theorem dX3_flow_1 : decode cX3_flow 1 = .ok (.getfield 19, 3) := by decide +kernel
theorem dX3_flow_4 : decode cX3_flow 4 = .ok (.aload_n 0, 1) := by decide +kernel
theorem dX3_flow_5 : decode cX3_flow 5 = .ok (.getfield 25, 3) := by decide +kernel
theorem dX3_flow_8 : decode cX3_flow 8 = .ok (.imul, 1) := by decide +kernel
theorem dX3_flow_9 : decode cX3_flow 9 = .ok (.ireturn, 1) := by decide +kernel
theorem dX3_turn_0 : decode cX3_turn 0 = .ok (.aload_n 0, 1) := by decide +kernel
theorem dX3_turn_1 : decode cX3_turn 1 = .ok (.getfield 28, 3) := by decide +kernel
theorem dX3_turn_4 : decode cX3_turn 4 = .ok (.ifCond .ne 18, 3) := by decide +kernel
theorem dX3_turn_7 : decode cX3_turn 7 = .ok (.aload_n 0, 1) := by decide +kernel
theorem dX3_turn_8 : decode cX3_turn 8 = .ok (.aload_n 0, 1) := by decide +kernel
theorem dX3_turn_9 : decode cX3_turn 9 = .ok (.getfield 25, 3) := by decide +kernel
theorem dX3_turn_12 : decode cX3_turn 12 = .ok (.aload_n 0, 1) := by decide +kernel
theorem dX3_turn_13 : decode cX3_turn 13 = .ok (.getfield 32, 3) := by decide +kernel
theorem dX3_turn_16 : decode cX3_turn 16 = .ok (.invokestatic 35, 3) := by decide +kernel
theorem dX3_turn_19 : decode cX3_turn 19 = .ok (.putfield 25, 3) := by decide +kernel
theorem dX3_turn_22 : decode cX3_turn 22 = .ok (.return_, 1) := by decide +kernel
theorem dX3_isShorted_0 : decode cX3_isShorted 0 = .ok (.aload_n 0, 1) := by decide +kernel
theorem dX3_isShorted_1 : decode cX3_isShorted 1 = .ok (.getfield 39, 3) := by decide +kernel
theorem dX3_isShorted_4 : decode cX3_isShorted 4 = .ok (.ifCond .eq 14, 3) := by decide +kernel
theorem dX3_isShorted_7 : decode cX3_isShorted 7 = .ok (.aload_n 0, 1) := by decide +kernel
theorem dX3_isShorted_8 : decode cX3_isShorted 8 = .ok (.getfield 42, 3) := by decide +kernel
theorem dX3_isShorted_11 : decode cX3_isShorted 11 = .ok (.ifCond .eq 7, 3) := by decide +kernel
theorem dX3_isShorted_14 : decode cX3_isShorted 14 = .ok (.iconst 1, 1) := by decide +kernel
theorem dX3_isShorted_15 : decode cX3_isShorted 15 = .ok (.goto 4, 3) := by decide +kernel
theorem dX3_isShorted_18 : decode cX3_isShorted 18 = .ok (.iconst 0, 1) := by decide +kernel
theorem dX3_isShorted_19 : decode cX3_isShorted 19 = .ok (.ireturn, 1) := by decide +kernel
theorem dX3_obey_0 : decode cX3_obey 0 = .ok (.iload_n 1, 1) := by decide +kernel
theorem dX3_obey_1 : decode cX3_obey 1 = .ok (.bipush 10, 2) := by decide +kernel
theorem dX3_obey_3 : decode cX3_obey 3 = .ok (.if_icmp .lt 17, 3) := by decide +kernel
theorem dX3_obey_6 : decode cX3_obey 6 = .ok (.aload_n 0, 1) := by decide +kernel
theorem dX3_obey_7 : decode cX3_obey 7 = .ok (.getfield 9, 3) := by decide +kernel
theorem dX3_obey_10 : decode cX3_obey 10 = .ok (.iload_n 1, 1) := by decide +kernel
theorem dX3_obey_11 : decode cX3_obey 11 = .ok (.bipush 10, 2) := by decide +kernel
theorem dX3_obey_13 : decode cX3_obey 13 = .ok (.isub, 1) := by decide +kernel
theorem dX3_obey_14 : decode cX3_obey 14 = .ok (.invokevirtual 45, 3) := by decide +kernel
theorem dX3_obey_17 : decode cX3_obey 17 = .ok (.goto 30, 3) := by decide +kernel
theorem dX3_obey_20 : decode cX3_obey 20 = .ok (.iload_n 1, 1) := by decide +kernel
theorem dX3_obey_21 : decode cX3_obey 21 = .ok (.iconst 5, 1) := by decide +kernel
theorem dX3_obey_22 : decode cX3_obey 22 = .ok (.if_icmp .lt 20, 3) := by decide +kernel
theorem dX3_obey_25 : decode cX3_obey 25 = .ok (.aload_n 0, 1) := by decide +kernel
theorem dX3_obey_26 : decode cX3_obey 26 = .ok (.iload_n 1, 1) := by decide +kernel
theorem dX3_obey_27 : decode cX3_obey 27 = .ok (.iconst 5, 1) := by decide +kernel
theorem dX3_obey_28 : decode cX3_obey 28 = .ok (.if_icmp .ne 7, 3) := by decide +kernel
theorem dX3_obey_31 : decode cX3_obey 31 = .ok (.iconst 1, 1) := by decide +kernel
theorem dX3_obey_32 : decode cX3_obey 32 = .ok (.goto 4, 3) := by decide +kernel
theorem dX3_obey_35 : decode cX3_obey 35 = .ok (.iconst 0, 1) := by decide +kernel
theorem dX3_obey_36 : decode cX3_obey 36 = .ok (.putfield 39, 3) := by decide +kernel
theorem dX3_obey_39 : decode cX3_obey 39 = .ok (.goto 8, 3) := by decide +kernel
theorem dX3_obey_42 : decode cX3_obey 42 = .ok (.aload_n 0, 1) := by decide +kernel
theorem dX3_obey_43 : decode cX3_obey 43 = .ok (.iload_n 1, 1) := by decide +kernel
theorem dX3_obey_44 : decode cX3_obey 44 = .ok (.putfield 32, 3) := by decide +kernel
theorem dX3_obey_47 : decode cX3_obey 47 = .ok (.return_, 1) := by decide +kernel
theorem dX3_becomeLike_0 : decode cX3_becomeLike 0 = .ok (.aload_n 0, 1) := by decide +kernel
theorem dX3_becomeLike_1 : decode cX3_becomeLike 1 = .ok (.aload_n 1, 1) := by decide +kernel
theorem dX3_becomeLike_2 : decode cX3_becomeLike 2 = .ok (.getfield 32, 3) := by decide +kernel
theorem dX3_becomeLike_5 : decode cX3_becomeLike 5 = .ok (.putfield 32, 3) := by decide +kernel
theorem dX3_becomeLike_8 : decode cX3_becomeLike 8 = .ok (.aload_n 0, 1) := by decide +kernel
theorem dX3_becomeLike_9 : decode cX3_becomeLike 9 = .ok (.aload_n 1, 1) := by decide +kernel
theorem dX3_becomeLike_10 : decode cX3_becomeLike 10 = .ok (.getfield 25, 3) := by decide +kernel
theorem dX3_becomeLike_13 : decode cX3_becomeLike 13 = .ok (.putfield 25, 3) := by decide +kernel
theorem dX3_becomeLike_16 : decode cX3_becomeLike 16 = .ok (.aload_n 0, 1) := by decide +kernel
theorem dX3_becomeLike_17 : decode cX3_becomeLike 17 = .ok (.aload_n 1, 1) := by decide +kernel
theorem dX3_becomeLike_18 : decode cX3_becomeLike 18 = .ok (.getfield 28, 3) := by decide +kernel
theorem dX3_becomeLike_21 : decode cX3_becomeLike 21 = .ok (.putfield 28, 3) := by decide +kernel
theorem dX3_becomeLike_24 : decode cX3_becomeLike 24 = .ok (.aload_n 0, 1) := by decide +kernel
theorem dX3_becomeLike_25 : decode cX3_becomeLike 25 = .ok (.aload_n 1, 1) := by decide +kernel
theorem dX3_becomeLike_26 : decode cX3_becomeLike 26 = .ok (.getfield 39, 3) := by decide +kernel
theorem dX3_becomeLike_29 : decode cX3_becomeLike 29 = .ok (.putfield 39, 3) := by decide +kernel
theorem dX3_becomeLike_32 : decode cX3_becomeLike 32 = .ok (.aload_n 0, 1) := by decide +kernel
theorem dX3_becomeLike_33 : decode cX3_becomeLike 33 = .ok (.aload_n 1, 1) := by decide +kernel
theorem dX3_becomeLike_34 : decode cX3_becomeLike 34 = .ok (.getfield 42, 3) := by decide +kernel
theorem dX3_becomeLike_37 : decode cX3_becomeLike 37 = .ok (.putfield 42, 3) := by decide +kernel
theorem dX3_becomeLike_40 : decode cX3_becomeLike 40 = .ok (.aload_n 0, 1) := by decide +kernel
theorem dX3_becomeLike_41 : decode cX3_becomeLike 41 = .ok (.aload_n 1, 1) := by decide +kernel
theorem dX3_becomeLike_42 : decode cX3_becomeLike 42 = .ok (.getfield 51, 3) := by decide +kernel
theorem dX3_becomeLike_45 : decode cX3_becomeLike 45 = .ok (.putfield 51, 3) := by decide +kernel
theorem dX3_becomeLike_48 : decode cX3_becomeLike 48 = .ok (.return_, 1) := by decide +kernel
theorem dX4_init_0 : decode cX4_init 0 = .ok (.aload_n 0, 1) := by decide +kernel
theorem dX4_init_1 : decode cX4_init 1 = .ok (.invokespecial 1, 3) := by decide +kernel
theorem dX4_init_4 : decode cX4_init 4 = .ok (.aload_n 0, 1) := by decide +kernel
theorem dX4_init_5 : decode cX4_init 5 = .ok (.iload_n 1, 1) := by decide +kernel
theorem dX4_init_6 : decode cX4_init 6 = .ok (.putfield 7, 3) := by decide +kernel
theorem dX4_init_9 : decode cX4_init 9 = .ok (.aload_n 0, 1) := by decide +kernel
theorem dX4_init_10 : decode cX4_init 10 = .ok (.iload_n 2, 1) := by decide +kernel
theorem dX4_init_11 : decode cX4_init 11 = .ok (.putfield 13, 3) := by decide +kernel
theorem dX4_init_14 : decode cX4_init 14 = .ok (.return_, 1) := by decide +kernel
theorem dX4_setTo_0 : decode cX4_setTo 0 = .ok (.aload_n 0, 1) := by decide +kernel
theorem dX4_setTo_1 : decode cX4_setTo 1 = .ok (.getfield 16, 3) := by decide +kernel
theorem dX4_setTo_4 : decode cX4_setTo 4 = .ok (.ifCond .ne 8, 3) := by decide +kernel
theorem dX4_setTo_7 : decode cX4_setTo 7 = .ok (.aload_n 0, 1) := by decide +kernel
theorem dX4_setTo_8 : decode cX4_setTo 8 = .ok (.iload_n 1, 1) := by decide +kernel
theorem dX4_setTo_9 : decode cX4_setTo 9 = .ok (.putfield 20, 3) := by decide +kernel
theorem dX4_setTo_12 : decode cX4_setTo 12 = .ok (.return_, 1) := by decide +kernel
theorem dX4_turn_0 : decode cX4_turn 0 = .ok (.aload_n 0, 1) := by decide +kernel
theorem dX4_turn_1 : decode cX4_turn 1 = .ok (.getfield 16, 3) := by decide +kernel
theorem dX4_turn_4 : decode cX4_turn 4 = .ok (.ifCond .ne 18, 3) := by decide +kernel
theorem dX4_turn_7 : decode cX4_turn 7 = .ok (.aload_n 0, 1) := by decide +kernel
theorem dX4_turn_8 : decode cX4_turn 8 = .ok (.aload_n 0, 1) := by decide +kernel
theorem dX4_turn_9 : decode cX4_turn 9 = .ok (.getfield 23, 3) := by decide +kernel
theorem dX4_turn_12 : decode cX4_turn 12 = .ok (.aload_n 0, 1) := by decide +kernel
theorem dX4_turn_13 : decode cX4_turn 13 = .ok (.getfield 20, 3) := by decide +kernel
theorem dX4_turn_16 : decode cX4_turn 16 = .ok (.invokestatic 26, 3) := by decide +kernel
theorem dX4_turn_19 : decode cX4_turn 19 = .ok (.putfield 23, 3) := by decide +kernel
theorem dX4_turn_22 : decode cX4_turn 22 = .ok (.return_, 1) := by decide +kernel
theorem dX4_trip_0 : decode cX4_trip 0 = .ok (.aload_n 0, 1) := by decide +kernel
theorem dX4_trip_1 : decode cX4_trip 1 = .ok (.iconst 1, 1) := by decide +kernel
theorem dX4_trip_2 : decode cX4_trip 2 = .ok (.putfield 16, 3) := by decide +kernel
theorem dX4_trip_5 : decode cX4_trip 5 = .ok (.aload_n 0, 1) := by decide +kernel
theorem dX4_trip_6 : decode cX4_trip 6 = .ok (.dup, 1) := by decide +kernel
theorem dX4_trip_7 : decode cX4_trip 7 = .ok (.getfield 32, 3) := by decide +kernel
theorem dX4_trip_10 : decode cX4_trip 10 = .ok (.iconst 1, 1) := by decide +kernel
theorem dX4_trip_11 : decode cX4_trip 11 = .ok (.iadd, 1) := by decide +kernel
theorem dX4_trip_12 : decode cX4_trip 12 = .ok (.putfield 32, 3) := by decide +kernel
theorem dX4_trip_15 : decode cX4_trip 15 = .ok (.aload_n 0, 1) := by decide +kernel
theorem dX4_trip_16 : decode cX4_trip 16 = .ok (.iconst 0, 1) := by decide +kernel
theorem dX4_trip_17 : decode cX4_trip 17 = .ok (.putfield 23, 3) := by decide +kernel
theorem dX4_trip_20 : decode cX4_trip 20 = .ok (.aload_n 0, 1) := by decide +kernel
theorem dX4_trip_21 : decode cX4_trip 21 = .ok (.iconst 0, 1) := by decide +kernel
theorem dX4_trip_22 : decode cX4_trip 22 = .ok (.putfield 20, 3) := by decide +kernel
theorem dX4_trip_25 : decode cX4_trip 25 = .ok (.return_, 1) := by decide +kernel
theorem dX4_becomeLike_0 : decode cX4_becomeLike 0 = .ok (.aload_n 0, 1) := by decide +kernel
theorem dX4_becomeLike_1 : decode cX4_becomeLike 1 = .ok (.aload_n 1, 1) := by decide +kernel
theorem dX4_becomeLike_2 : decode cX4_becomeLike 2 = .ok (.getfield 20, 3) := by decide +kernel
theorem dX4_becomeLike_5 : decode cX4_becomeLike 5 = .ok (.putfield 20, 3) := by decide +kernel
theorem dX4_becomeLike_8 : decode cX4_becomeLike 8 = .ok (.aload_n 0, 1) := by decide +kernel
theorem dX4_becomeLike_9 : decode cX4_becomeLike 9 = .ok (.aload_n 1, 1) := by decide +kernel
theorem dX4_becomeLike_10 : decode cX4_becomeLike 10 = .ok (.getfield 23, 3) := by decide +kernel
theorem dX4_becomeLike_13 : decode cX4_becomeLike 13 = .ok (.putfield 23, 3) := by decide +kernel
theorem dX4_becomeLike_16 : decode cX4_becomeLike 16 = .ok (.aload_n 0, 1) := by decide +kernel
theorem dX4_becomeLike_17 : decode cX4_becomeLike 17 = .ok (.aload_n 1, 1) := by decide +kernel
theorem dX4_becomeLike_18 : decode cX4_becomeLike 18 = .ok (.getfield 16, 3) := by decide +kernel
theorem dX4_becomeLike_21 : decode cX4_becomeLike 21 = .ok (.putfield 16, 3) := by decide +kernel
theorem dX4_becomeLike_24 : decode cX4_becomeLike 24 = .ok (.aload_n 0, 1) := by decide +kernel
theorem dX4_becomeLike_25 : decode cX4_becomeLike 25 = .ok (.aload_n 1, 1) := by decide +kernel
theorem dX4_becomeLike_26 : decode cX4_becomeLike 26 = .ok (.getfield 32, 3) := by decide +kernel
theorem dX4_becomeLike_29 : decode cX4_becomeLike 29 = .ok (.putfield 32, 3) := by decide +kernel
theorem dX4_becomeLike_32 : decode cX4_becomeLike 32 = .ok (.return_, 1) := by decide +kernel
theorem dX5_init_0 : decode cX5_init 0 = .ok (.aload_n 0, 1) := by decide +kernel
theorem dX5_init_1 : decode cX5_init 1 = .ok (.invokespecial 3, 3) := by decide +kernel
theorem dX5_init_4 : decode cX5_init 4 = .ok (.aload_n 0, 1) := by decide +kernel
theorem dX5_init_5 : decode cX5_init 5 = .ok (.new 9, 3) := by decide +kernel
theorem dX5_init_8 : decode cX5_init 8 = .ok (.dup, 1) := by decide +kernel
theorem dX5_init_9 : decode cX5_init 9 = .ok (.invokespecial 11, 3) := by decide +kernel
theorem dX5_init_12 : decode cX5_init 12 = .ok (.putfield 12, 3) := by decide +kernel
theorem dX5_init_15 : decode cX5_init 15 = .ok (.aload_n 0, 1) := by decide +kernel
theorem dX5_init_16 : decode cX5_init 16 = .ok (.new 9, 3) := by decide +kernel
theorem dX5_init_19 : decode cX5_init 19 = .ok (.dup, 1) := by decide +kernel
theorem dX5_init_20 : decode cX5_init 20 = .ok (.invokespecial 11, 3) := by decide +kernel
theorem dX5_init_23 : decode cX5_init 23 = .ok (.putfield 18, 3) := by decide +kernel
theorem dX5_init_26 : decode cX5_init 26 = .ok (.aload_n 0, 1) := by decide +kernel
theorem dX5_init_27 : decode cX5_init 27 = .ok (.new 9, 3) := by decide +kernel
theorem dX5_init_30 : decode cX5_init 30 = .ok (.dup, 1) := by decide +kernel
theorem dX5_init_31 : decode cX5_init 31 = .ok (.invokespecial 11, 3) := by decide +kernel
theorem dX5_init_34 : decode cX5_init 34 = .ok (.putfield 21, 3) := by decide +kernel
theorem dX5_init_37 : decode cX5_init 37 = .ok (.aload_n 0, 1) := by decide +kernel
theorem dX5_init_38 : decode cX5_init 38 = .ok (.new 24, 3) := by decide +kernel
theorem dX5_init_41 : decode cX5_init 41 = .ok (.dup, 1) := by decide +kernel
theorem dX5_init_42 : decode cX5_init 42 = .ok (.invokespecial 26, 3) := by decide +kernel
theorem dX5_init_45 : decode cX5_init 45 = .ok (.putfield 27, 3) := by decide +kernel
theorem dX5_init_48 : decode cX5_init 48 = .ok (.aload_n 0, 1) := by decide +kernel
theorem dX5_init_49 : decode cX5_init 49 = .ok (.sipush 3000, 3) := by decide +kernel
theorem dX5_init_52 : decode cX5_init 52 = .ok (.putfield 31, 3) := by decide +kernel
theorem dX5_init_55 : decode cX5_init 55 = .ok (.return_, 1) := by decide +kernel
theorem dX5_addJet_0 : decode cX5_addJet 0 = .ok (.iload_n 1, 1) := by decide +kernel
theorem dX5_addJet_1 : decode cX5_addJet 1 = .ok (.ifCond .lt 44, 3) := by decide +kernel
theorem dX5_addJet_4 : decode cX5_addJet 4 = .ok (.iload_n 1, 1) := by decide +kernel
theorem dX5_addJet_5 : decode cX5_addJet 5 = .ok (.aload_n 0, 1) := by decide +kernel
theorem dX5_addJet_6 : decode cX5_addJet 6 = .ok (.getfield 12, 3) := by decide +kernel
theorem dX5_addJet_9 : decode cX5_addJet 9 = .ok (.invokevirtual 35, 3) := by decide +kernel
theorem dX5_addJet_12 : decode cX5_addJet 12 = .ok (.if_icmp .ge 33, 3) := by decide +kernel
theorem dX5_addJet_15 : decode cX5_addJet 15 = .ok (.aload_n 0, 1) := by decide +kernel
theorem dX5_addJet_16 : decode cX5_addJet 16 = .ok (.getfield 18, 3) := by decide +kernel
theorem dX5_addJet_19 : decode cX5_addJet 19 = .ok (.new 39, 3) := by decide +kernel
theorem dX5_addJet_22 : decode cX5_addJet 22 = .ok (.dup, 1) := by decide +kernel
theorem dX5_addJet_23 : decode cX5_addJet 23 = .ok (.aload_n 0, 1) := by decide +kernel
theorem dX5_addJet_24 : decode cX5_addJet 24 = .ok (.getfield 12, 3) := by decide +kernel
theorem dX5_addJet_27 : decode cX5_addJet 27 = .ok (.iload_n 1, 1) := by decide +kernel
theorem dX5_addJet_28 : decode cX5_addJet 28 = .ok (.invokevirtual 41, 3) := by decide +kernel
theorem dX5_addJet_31 : decode cX5_addJet 31 = .ok (.checkcast 45, 3) := by decide +kernel
theorem dX5_addJet_34 : decode cX5_addJet 34 = .ok (.iload_n 2, 1) := by decide +kernel
theorem dX5_addJet_35 : decode cX5_addJet 35 = .ok (.iload_n 3, 1) := by decide +kernel
theorem dX5_addJet_36 : decode cX5_addJet 36 = .ok (.iload 4, 2) := by decide +kernel
theorem dX5_addJet_38 : decode cX5_addJet 38 = .ok (.invokespecial 47, 3) := by decide +kernel
theorem dX5_addJet_41 : decode cX5_addJet 41 = .ok (.invokevirtual 50, 3) := by decide +kernel
theorem dX5_addJet_44 : decode cX5_addJet 44 = .ok (.pop, 1) := by decide +kernel
theorem dX5_addJet_45 : decode cX5_addJet 45 = .ok (.return_, 1) := by decide +kernel
theorem dX5_setPumpOfNumber_0 : decode cX5_setPumpOfNumber 0 = .ok (.iload_n 1, 1) := by decide +kernel
theorem dX5_setPumpOfNumber_1 : decode cX5_setPumpOfNumber 1 = .ok (.ifCond .lt 29, 3) := by decide +kernel
theorem dX5_setPumpOfNumber_4 : decode cX5_setPumpOfNumber 4 = .ok (.iload_n 1, 1) := by decide +kernel
theorem dX5_setPumpOfNumber_5 : decode cX5_setPumpOfNumber 5 = .ok (.aload_n 0, 1) := by decide +kernel
theorem dX5_setPumpOfNumber_6 : decode cX5_setPumpOfNumber 6 = .ok (.getfield 12, 3) := by decide +kernel
theorem dX5_setPumpOfNumber_9 : decode cX5_setPumpOfNumber 9 = .ok (.invokevirtual 35, 3) := by decide +kernel
theorem dX5_setPumpOfNumber_12 : decode cX5_setPumpOfNumber 12 = .ok (.if_icmp .ge 18, 3) := by decide +kernel
theorem dX5_setPumpOfNumber_15 : decode cX5_setPumpOfNumber 15 = .ok (.aload_n 0, 1) := by decide +kernel
theorem dX5_setPumpOfNumber_16 : decode cX5_setPumpOfNumber 16 = .ok (.getfield 12, 3) := by decide +kernel
theorem dX5_setPumpOfNumber_19 : decode cX5_setPumpOfNumber 19 = .ok (.iload_n 1, 1) := by decide +kernel
theorem dX5_setPumpOfNumber_20 : decode cX5_setPumpOfNumber 20 = .ok (.invokevirtual 41, 3) := by decide +kernel
theorem dX5_setPumpOfNumber_23 : decode cX5_setPumpOfNumber 23 = .ok (.checkcast 45, 3) := by decide +kernel
theorem dX5_setPumpOfNumber_26 : decode cX5_setPumpOfNumber 26 = .ok (.iload_n 2, 1) := by decide +kernel
theorem dX5_setPumpOfNumber_27 : decode cX5_setPumpOfNumber 27 = .ok (.invokevirtual 54, 3) := by decide +kernel
theorem dX5_setPumpOfNumber_30 : decode cX5_setPumpOfNumber 30 = .ok (.return_, 1) := by decide +kernel
theorem dX5_heightOfNumber_0 : decode cX5_heightOfNumber 0 = .ok (.iload_n 1, 1) := by decide +kernel
theorem dX5_heightOfNumber_1 : decode cX5_heightOfNumber 1 = .ok (.ifCond .lt 32, 3) := by decide +kernel
theorem dX5_heightOfNumber_4 : decode cX5_heightOfNumber 4 = .ok (.iload_n 1, 1) := by decide +kernel
theorem dX5_heightOfNumber_5 : decode cX5_heightOfNumber 5 = .ok (.aload_n 0, 1) := by decide +kernel
theorem dX5_heightOfNumber_6 : decode cX5_heightOfNumber 6 = .ok (.getfield 18, 3) := by decide +kernel
theorem dX5_heightOfNumber_9 : decode cX5_heightOfNumber 9 = .ok (.invokevirtual 35, 3) := by decide +kernel
theorem dX5_heightOfNumber_12 : decode cX5_heightOfNumber 12 = .ok (.if_icmp .ge 21, 3) := by decide +kernel
theorem dX5_heightOfNumber_15 : decode cX5_heightOfNumber 15 = .ok (.aload_n 0, 1) := by decide +kernel
theorem dX5_heightOfNumber_16 : decode cX5_heightOfNumber 16 = .ok (.aload_n 0, 1) := by decide +kernel
theorem dX5_heightOfNumber_17 : decode cX5_heightOfNumber 17 = .ok (.getfield 18, 3) := by decide +kernel
theorem dX5_heightOfNumber_20 : decode cX5_heightOfNumber 20 = .ok (.iload_n 1, 1) := by decide +kernel
theorem dX5_heightOfNumber_21 : decode cX5_heightOfNumber 21 = .ok (.invokevirtual 41, 3) := by decide +kernel
theorem dX5_heightOfNumber_24 : decode cX5_heightOfNumber 24 = .ok (.checkcast 39, 3) := by decide +kernel
theorem dX5_heightOfNumber_27 : decode cX5_heightOfNumber 27 = .ok (.invokevirtual 58, 3) := by decide +kernel
theorem dX5_heightOfNumber_30 : decode cX5_heightOfNumber 30 = .ok (.goto 4, 3) := by decide +kernel
theorem dX5_heightOfNumber_33 : decode cX5_heightOfNumber 33 = .ok (.iconst 0, 1) := by decide +kernel
theorem dX5_heightOfNumber_34 : decode cX5_heightOfNumber 34 = .ok (.ireturn, 1) := by decide +kernel
theorem dX5_tick_0 : decode cX5_tick 0 = .ok (.aload_n 0, 1) := by decide +kernel
theorem dX5_tick_1 : decode cX5_tick 1 = .ok (.dup, 1) := by decide +kernel
theorem dX5_tick_2 : decode cX5_tick 2 = .ok (.getfield 62, 3) := by decide +kernel
theorem dX5_tick_5 : decode cX5_tick 5 = .ok (.iconst 1, 1) := by decide +kernel
theorem dX5_tick_6 : decode cX5_tick 6 = .ok (.iadd, 1) := by decide +kernel
theorem dX5_tick_7 : decode cX5_tick 7 = .ok (.putfield 62, 3) := by decide +kernel
theorem dX5_tick_10 : decode cX5_tick 10 = .ok (.aload_n 0, 1) := by decide +kernel
theorem dX5_tick_11 : decode cX5_tick 11 = .ok (.getfield 65, 3) := by decide +kernel
theorem dX5_tick_14 : decode cX5_tick 14 = .ok (.ifCond .ne 7, 3) := by decide +kernel
theorem dX5_tick_17 : decode cX5_tick 17 = .ok (.aload_n 0, 1) := by decide +kernel
theorem dX5_tick_18 : decode cX5_tick 18 = .ok (.invokevirtual 69, 3) := by decide +kernel
theorem dX5_tick_21 : decode cX5_tick 21 = .ok (.aload_n 0, 1) := by decide +kernel
theorem dX5_tick_22 : decode cX5_tick 22 = .ok (.invokevirtual 72, 3) := by decide +kernel
theorem dX5_tick_25 : decode cX5_tick 25 = .ok (.aload_n 0, 1) := by decide +kernel
theorem dX5_tick_26 : decode cX5_tick 26 = .ok (.invokevirtual 75, 3) := by decide +kernel
theorem dX5_tick_29 : decode cX5_tick 29 = .ok (.istore_n 1, 1) := by decide +kernel
theorem dX5_tick_30 : decode cX5_tick 30 = .ok (.aload_n 0, 1) := by decide +kernel
theorem dX5_tick_31 : decode cX5_tick 31 = .ok (.invokevirtual 78, 3) := by decide +kernel
theorem dX5_tick_34 : decode cX5_tick 34 = .ok (.aload_n 0, 1) := by decide +kernel
theorem dX5_tick_35 : decode cX5_tick 35 = .ok (.invokevirtual 81, 3) := by decide +kernel
theorem dX5_tick_38 : decode cX5_tick 38 = .ok (.aload_n 0, 1) := by decide +kernel
theorem dX5_tick_39 : decode cX5_tick 39 = .ok (.invokevirtual 84, 3) := by decide +kernel
theorem dX5_tick_42 : decode cX5_tick 42 = .ok (.aload_n 0, 1) := by decide +kernel
theorem dX5_tick_43 : decode cX5_tick 43 = .ok (.invokevirtual 87, 3) := by decide +kernel
theorem dX5_tick_46 : decode cX5_tick 46 = .ok (.iload_n 1, 1) := by decide +kernel
theorem dX5_tick_47 : decode cX5_tick 47 = .ok (.ireturn, 1) := by decide +kernel
theorem dX5_doStepsDue_0 : decode cX5_doStepsDue 0 = .ok (.iconst 0, 1) := by decide +kernel
theorem dX5_doStepsDue_1 : decode cX5_doStepsDue 1 = .ok (.istore_n 1, 1) := by decide +kernel
theorem dX5_doStepsDue_2 : decode cX5_doStepsDue 2 = .ok (.iload_n 1, 1) := by decide +kernel
theorem dX5_doStepsDue_3 : decode cX5_doStepsDue 3 = .ok (.aload_n 0, 1) := by decide +kernel
theorem dX5_doStepsDue_4 : decode cX5_doStepsDue 4 = .ok (.getfield 21, 3) := by decide +kernel
theorem dX5_doStepsDue_7 : decode cX5_doStepsDue 7 = .ok (.invokevirtual 35, 3) := by decide +kernel
theorem dX5_doStepsDue_10 : decode cX5_doStepsDue 10 = .ok (.if_icmp .ge 76, 3) := by decide +kernel
theorem dX5_doStepsDue_13 : decode cX5_doStepsDue 13 = .ok (.aload_n 0, 1) := by decide +kernel
theorem dX5_doStepsDue_14 : decode cX5_doStepsDue 14 = .ok (.getfield 21, 3) := by decide +kernel
theorem dX5_doStepsDue_17 : decode cX5_doStepsDue 17 = .ok (.iload_n 1, 1) := by decide +kernel
theorem dX5_doStepsDue_18 : decode cX5_doStepsDue 18 = .ok (.invokevirtual 41, 3) := by decide +kernel
theorem dX5_doStepsDue_21 : decode cX5_doStepsDue 21 = .ok (.checkcast 90, 3) := by decide +kernel
theorem dX5_doStepsDue_24 : decode cX5_doStepsDue 24 = .ok (.astore_n 2, 1) := by decide +kernel
theorem dX5_doStepsDue_25 : decode cX5_doStepsDue 25 = .ok (.iconst 0, 1) := by decide +kernel
theorem dX5_doStepsDue_26 : decode cX5_doStepsDue 26 = .ok (.istore_n 3, 1) := by decide +kernel
theorem dX5_doStepsDue_27 : decode cX5_doStepsDue 27 = .ok (.iload_n 3, 1) := by decide +kernel
theorem dX5_doStepsDue_28 : decode cX5_doStepsDue 28 = .ok (.aload_n 2, 1) := by decide +kernel
theorem dX5_doStepsDue_29 : decode cX5_doStepsDue 29 = .ok (.getfield 92, 3) := by decide +kernel
theorem dX5_doStepsDue_32 : decode cX5_doStepsDue 32 = .ok (.invokevirtual 35, 3) := by decide +kernel
theorem dX5_doStepsDue_35 : decode cX5_doStepsDue 35 = .ok (.if_icmp .ge 45, 3) := by decide +kernel
theorem dX5_doStepsDue_38 : decode cX5_doStepsDue 38 = .ok (.aload_n 2, 1) := by decide +kernel
theorem dX5_doStepsDue_39 : decode cX5_doStepsDue 39 = .ok (.getfield 92, 3) := by decide +kernel
theorem dX5_doStepsDue_42 : decode cX5_doStepsDue 42 = .ok (.iload_n 3, 1) := by decide +kernel
theorem dX5_doStepsDue_43 : decode cX5_doStepsDue 43 = .ok (.invokevirtual 41, 3) := by decide +kernel
theorem dX5_doStepsDue_46 : decode cX5_doStepsDue 46 = .ok (.checkcast 95, 3) := by decide +kernel
theorem dX5_doStepsDue_49 : decode cX5_doStepsDue 49 = .ok (.astore 4, 2) := by decide +kernel
theorem dX5_doStepsDue_51 : decode cX5_doStepsDue 51 = .ok (.aload_n 2, 1) := by decide +kernel
theorem dX5_doStepsDue_52 : decode cX5_doStepsDue 52 = .ok (.aload 4, 2) := by decide +kernel
theorem dX5_doStepsDue_54 : decode cX5_doStepsDue 54 = .ok (.invokevirtual 97, 3) := by decide +kernel
theorem dX5_doStepsDue_57 : decode cX5_doStepsDue 57 = .ok (.aload_n 0, 1) := by decide +kernel
theorem dX5_doStepsDue_58 : decode cX5_doStepsDue 58 = .ok (.getfield 62, 3) := by decide +kernel
theorem dX5_doStepsDue_61 : decode cX5_doStepsDue 61 = .ok (.if_icmp .ne 13, 3) := by decide +kernel
theorem dX5_doStepsDue_64 : decode cX5_doStepsDue 64 = .ok (.aload_n 0, 1) := by decide +kernel
theorem dX5_doStepsDue_65 : decode cX5_doStepsDue 65 = .ok (.aload 4, 2) := by decide +kernel
theorem dX5_doStepsDue_67 : decode cX5_doStepsDue 67 = .ok (.aload_n 2, 1) := by decide +kernel
theorem dX5_doStepsDue_68 : decode cX5_doStepsDue 68 = .ok (.getfield 101, 3) := by decide +kernel
theorem dX5_doStepsDue_71 : decode cX5_doStepsDue 71 = .ok (.invokevirtual 104, 3) := by decide +kernel
theorem dX5_doStepsDue_74 : decode cX5_doStepsDue 74 = .ok (.iinc 3 1, 3) := by decide +kernel
theorem dX5_doStepsDue_77 : decode cX5_doStepsDue 77 = .ok (.goto (-50), 3) := by decide +kernel
theorem dX5_doStepsDue_80 : decode cX5_doStepsDue 80 = .ok (.iinc 1 1, 3) := by decide +kernel
theorem dX5_doStepsDue_83 : decode cX5_doStepsDue 83 = .ok (.goto (-81), 3) := by decide +kernel
theorem dX5_doStepsDue_86 : decode cX5_doStepsDue 86 = .ok (.return_, 1) := by decide +kernel
theorem dX5_doStep_0 : decode cX5_doStep 0 = .ok (.aload_n 0, 1) := by decide +kernel
theorem dX5_doStep_1 : decode cX5_doStep 1 = .ok (.getfield 18, 3) := by decide +kernel
theorem dX5_doStep_4 : decode cX5_doStep 4 = .ok (.invokevirtual 35, 3) := by decide +kernel
theorem dX5_doStep_7 : decode cX5_doStep 7 = .ok (.istore_n 3, 1) := by decide +kernel
theorem dX5_doStep_8 : decode cX5_doStep 8 = .ok (.iconst 0, 1) := by decide +kernel
theorem dX5_doStep_9 : decode cX5_doStep 9 = .ok (.istore 4, 2) := by decide +kernel
theorem dX5_doStep_11 : decode cX5_doStep 11 = .ok (.iload 4, 2) := by decide +kernel
theorem dX5_doStep_13 : decode cX5_doStep 13 = .ok (.iload_n 3, 1) := by decide +kernel
theorem dX5_doStep_14 : decode cX5_doStep 14 = .ok (.if_icmp .ge 43, 3) := by decide +kernel
theorem dX5_doStep_17 : decode cX5_doStep 17 = .ok (.aload_n 1, 1) := by decide +kernel
theorem dX5_doStep_18 : decode cX5_doStep 18 = .ok (.iload 4, 2) := by decide +kernel
theorem dX5_doStep_20 : decode cX5_doStep 20 = .ok (.invokevirtual 108, 3) := by decide +kernel
theorem dX5_doStep_23 : decode cX5_doStep 23 = .ok (.ifCond .eq 28, 3) := by decide +kernel
theorem dX5_doStep_26 : decode cX5_doStep 26 = .ok (.aload_n 0, 1) := by decide +kernel
theorem dX5_doStep_27 : decode cX5_doStep 27 = .ok (.getfield 18, 3) := by decide +kernel
theorem dX5_doStep_30 : decode cX5_doStep 30 = .ok (.iload 4, 2) := by decide +kernel
theorem dX5_doStep_32 : decode cX5_doStep 32 = .ok (.iload_n 2, 1) := by decide +kernel
theorem dX5_doStep_33 : decode cX5_doStep 33 = .ok (.iadd, 1) := by decide +kernel
theorem dX5_doStep_34 : decode cX5_doStep 34 = .ok (.iload_n 3, 1) := by decide +kernel
theorem dX5_doStep_35 : decode cX5_doStep 35 = .ok (.invokestatic 112, 3) := by decide +kernel
theorem dX5_doStep_38 : decode cX5_doStep 38 = .ok (.invokevirtual 41, 3) := by decide +kernel
theorem dX5_doStep_41 : decode cX5_doStep 41 = .ok (.checkcast 39, 3) := by decide +kernel
theorem dX5_doStep_44 : decode cX5_doStep 44 = .ok (.aload_n 1, 1) := by decide +kernel
theorem dX5_doStep_45 : decode cX5_doStep 45 = .ok (.getfield 118, 3) := by decide +kernel
theorem dX5_doStep_48 : decode cX5_doStep 48 = .ok (.invokevirtual 121, 3) := by decide +kernel
theorem dX5_doStep_51 : decode cX5_doStep 51 = .ok (.iinc 4 1, 3) := by decide +kernel
theorem dX5_doStep_54 : decode cX5_doStep 54 = .ok (.goto (-43), 3) := by decide +kernel
theorem dX5_doStep_57 : decode cX5_doStep 57 = .ok (.return_, 1) := by decide +kernel
theorem dX5_turnDrivesAndValves_0 : decode cX5_turnDrivesAndValves 0 = .ok (.iconst 0, 1) := by decide +kernel
theorem dX5_turnDrivesAndValves_1 : decode cX5_turnDrivesAndValves 1 = .ok (.istore_n 1, 1) := by decide +kernel
theorem dX5_turnDrivesAndValves_2 : decode cX5_turnDrivesAndValves 2 = .ok (.iload_n 1, 1) := by decide +kernel
theorem dX5_turnDrivesAndValves_3 : decode cX5_turnDrivesAndValves 3 = .ok (.aload_n 0, 1) := by decide +kernel
theorem dX5_turnDrivesAndValves_4 : decode cX5_turnDrivesAndValves 4 = .ok (.getfield 12, 3) := by decide +kernel
theorem dX5_turnDrivesAndValves_7 : decode cX5_turnDrivesAndValves 7 = .ok (.invokevirtual 35, 3) := by decide +kernel
theorem dX5_turnDrivesAndValves_10 : decode cX5_turnDrivesAndValves 10 = .ok (.if_icmp .ge 23, 3) := by decide +kernel
theorem dX5_turnDrivesAndValves_13 : decode cX5_turnDrivesAndValves 13 = .ok (.aload_n 0, 1) := by decide +kernel
theorem dX5_turnDrivesAndValves_14 : decode cX5_turnDrivesAndValves 14 = .ok (.getfield 12, 3) := by decide +kernel
theorem dX5_turnDrivesAndValves_17 : decode cX5_turnDrivesAndValves 17 = .ok (.iload_n 1, 1) := by decide +kernel
theorem dX5_turnDrivesAndValves_18 : decode cX5_turnDrivesAndValves 18 = .ok (.invokevirtual 41, 3) := by decide +kernel
theorem dX5_turnDrivesAndValves_21 : decode cX5_turnDrivesAndValves 21 = .ok (.checkcast 45, 3) := by decide +kernel
theorem dX5_turnDrivesAndValves_24 : decode cX5_turnDrivesAndValves 24 = .ok (.invokevirtual 124, 3) := by decide +kernel
theorem dX5_turnDrivesAndValves_27 : decode cX5_turnDrivesAndValves 27 = .ok (.iinc 1 1, 3) := by decide +kernel
theorem dX5_turnDrivesAndValves_30 : decode cX5_turnDrivesAndValves 30 = .ok (.goto (-28), 3) := by decide +kernel
theorem dX5_turnDrivesAndValves_33 : decode cX5_turnDrivesAndValves 33 = .ok (.iconst 0, 1) := by decide +kernel
theorem dX5_turnDrivesAndValves_34 : decode cX5_turnDrivesAndValves 34 = .ok (.istore_n 1, 1) := by decide +kernel
theorem dX5_turnDrivesAndValves_35 : decode cX5_turnDrivesAndValves 35 = .ok (.iload_n 1, 1) := by decide +kernel
theorem dX5_turnDrivesAndValves_36 : decode cX5_turnDrivesAndValves 36 = .ok (.aload_n 0, 1) := by decide +kernel
theorem dX5_turnDrivesAndValves_37 : decode cX5_turnDrivesAndValves 37 = .ok (.getfield 18, 3) := by decide +kernel
theorem dX5_turnDrivesAndValves_40 : decode cX5_turnDrivesAndValves 40 = .ok (.invokevirtual 35, 3) := by decide +kernel
theorem dX5_turnDrivesAndValves_43 : decode cX5_turnDrivesAndValves 43 = .ok (.if_icmp .ge 23, 3) := by decide +kernel
theorem dX5_turnDrivesAndValves_46 : decode cX5_turnDrivesAndValves 46 = .ok (.aload_n 0, 1) := by decide +kernel
theorem dX5_turnDrivesAndValves_47 : decode cX5_turnDrivesAndValves 47 = .ok (.getfield 18, 3) := by decide +kernel
theorem dX5_turnDrivesAndValves_50 : decode cX5_turnDrivesAndValves 50 = .ok (.iload_n 1, 1) := by decide +kernel
theorem dX5_turnDrivesAndValves_51 : decode cX5_turnDrivesAndValves 51 = .ok (.invokevirtual 41, 3) := by decide +kernel
theorem dX5_turnDrivesAndValves_54 : decode cX5_turnDrivesAndValves 54 = .ok (.checkcast 39, 3) := by decide +kernel
theorem dX5_turnDrivesAndValves_57 : decode cX5_turnDrivesAndValves 57 = .ok (.invokevirtual 127, 3) := by decide +kernel
theorem dX5_turnDrivesAndValves_60 : decode cX5_turnDrivesAndValves 60 = .ok (.iinc 1 1, 3) := by decide +kernel
theorem dX5_turnDrivesAndValves_63 : decode cX5_turnDrivesAndValves 63 = .ok (.goto (-28), 3) := by decide +kernel
theorem dX5_turnDrivesAndValves_66 : decode cX5_turnDrivesAndValves 66 = .ok (.return_, 1) := by decide +kernel
theorem dX5_letFall_0 : decode cX5_letFall 0 = .ok (.aload_n 0, 1) := by decide +kernel
theorem dX5_letFall_1 : decode cX5_letFall 1 = .ok (.getfield 27, 3) := by decide +kernel
theorem dX5_letFall_4 : decode cX5_letFall 4 = .ok (.aload_n 0, 1) := by decide +kernel
theorem dX5_letFall_5 : decode cX5_letFall 5 = .ok (.getfield 62, 3) := by decide +kernel
theorem dX5_letFall_8 : decode cX5_letFall 8 = .ok (.invokevirtual 128, 3) := by decide +kernel
theorem dX5_letFall_11 : decode cX5_letFall 11 = .ok (.istore_n 1, 1) := by decide +kernel
theorem dX5_letFall_12 : decode cX5_letFall 12 = .ok (.aload_n 0, 1) := by decide +kernel
theorem dX5_letFall_13 : decode cX5_letFall 13 = .ok (.getfield 27, 3) := by decide +kernel
theorem dX5_letFall_16 : decode cX5_letFall 16 = .ok (.aload_n 0, 1) := by decide +kernel
theorem dX5_letFall_17 : decode cX5_letFall 17 = .ok (.getfield 62, 3) := by decide +kernel
theorem dX5_letFall_20 : decode cX5_letFall 20 = .ok (.invokevirtual 132, 3) := by decide +kernel
theorem dX5_letFall_23 : decode cX5_letFall 23 = .ok (.istore_n 2, 1) := by decide +kernel
theorem dX5_letFall_24 : decode cX5_letFall 24 = .ok (.aload_n 0, 1) := by decide +kernel
theorem dX5_letFall_25 : decode cX5_letFall 25 = .ok (.iload_n 2, 1) := by decide +kernel
theorem dX5_letFall_26 : decode cX5_letFall 26 = .ok (.invokevirtual 135, 3) := by decide +kernel
theorem dX5_letFall_29 : decode cX5_letFall 29 = .ok (.aload_n 0, 1) := by decide +kernel
theorem dX5_letFall_30 : decode cX5_letFall 30 = .ok (.dup, 1) := by decide +kernel
theorem dX5_letFall_31 : decode cX5_letFall 31 = .ok (.getfield 138, 3) := by decide +kernel
theorem dX5_letFall_34 : decode cX5_letFall 34 = .ok (.aload_n 0, 1) := by decide +kernel
theorem dX5_letFall_35 : decode cX5_letFall 35 = .ok (.getfield 27, 3) := by decide +kernel
theorem dX5_letFall_38 : decode cX5_letFall 38 = .ok (.aload_n 0, 1) := by decide +kernel
theorem dX5_letFall_39 : decode cX5_letFall 39 = .ok (.getfield 62, 3) := by decide +kernel
theorem dX5_letFall_42 : decode cX5_letFall 42 = .ok (.invokevirtual 141, 3) := by decide +kernel
theorem dX5_letFall_45 : decode cX5_letFall 45 = .ok (.iadd, 1) := by decide +kernel
theorem dX5_letFall_46 : decode cX5_letFall 46 = .ok (.putfield 138, 3) := by decide +kernel
theorem dX5_letFall_49 : decode cX5_letFall 49 = .ok (.aload_n 0, 1) := by decide +kernel
theorem dX5_letFall_50 : decode cX5_letFall 50 = .ok (.dup, 1) := by decide +kernel
theorem dX5_letFall_51 : decode cX5_letFall 51 = .ok (.getfield 144, 3) := by decide +kernel
theorem dX5_letFall_54 : decode cX5_letFall 54 = .ok (.iload_n 1, 1) := by decide +kernel
theorem dX5_letFall_55 : decode cX5_letFall 55 = .ok (.iload_n 2, 1) := by decide +kernel
theorem dX5_letFall_56 : decode cX5_letFall 56 = .ok (.isub, 1) := by decide +kernel
theorem dX5_letFall_57 : decode cX5_letFall 57 = .ok (.iadd, 1) := by decide +kernel
theorem dX5_letFall_58 : decode cX5_letFall 58 = .ok (.putfield 144, 3) := by decide +kernel
theorem dX5_letFall_61 : decode cX5_letFall 61 = .ok (.aload_n 0, 1) := by decide +kernel
theorem dX5_letFall_62 : decode cX5_letFall 62 = .ok (.getfield 27, 3) := by decide +kernel
theorem dX5_letFall_65 : decode cX5_letFall 65 = .ok (.aload_n 0, 1) := by decide +kernel
theorem dX5_letFall_66 : decode cX5_letFall 66 = .ok (.getfield 62, 3) := by decide +kernel
theorem dX5_letFall_69 : decode cX5_letFall 69 = .ok (.invokevirtual 147, 3) := by decide +kernel
theorem dX5_letFall_72 : decode cX5_letFall 72 = .ok (.iload_n 1, 1) := by decide +kernel
theorem dX5_letFall_73 : decode cX5_letFall 73 = .ok (.ireturn, 1) := by decide +kernel
theorem dX5_throwWater_0 : decode cX5_throwWater 0 = .ok (.iconst 0, 1) := by decide +kernel
theorem dX5_throwWater_1 : decode cX5_throwWater 1 = .ok (.istore_n 1, 1) := by decide +kernel
theorem dX5_throwWater_2 : decode cX5_throwWater 2 = .ok (.iload_n 1, 1) := by decide +kernel
theorem dX5_throwWater_3 : decode cX5_throwWater 3 = .ok (.aload_n 0, 1) := by decide +kernel
theorem dX5_throwWater_4 : decode cX5_throwWater 4 = .ok (.getfield 18, 3) := by decide +kernel
theorem dX5_throwWater_7 : decode cX5_throwWater 7 = .ok (.invokevirtual 35, 3) := by decide +kernel
theorem dX5_throwWater_10 : decode cX5_throwWater 10 = .ok (.if_icmp .ge 90, 3) := by decide +kernel
theorem dX5_throwWater_13 : decode cX5_throwWater 13 = .ok (.aload_n 0, 1) := by decide +kernel
theorem dX5_throwWater_14 : decode cX5_throwWater 14 = .ok (.getfield 18, 3) := by decide +kernel
theorem dX5_throwWater_17 : decode cX5_throwWater 17 = .ok (.iload_n 1, 1) := by decide +kernel
theorem dX5_throwWater_18 : decode cX5_throwWater 18 = .ok (.invokevirtual 41, 3) := by decide +kernel
theorem dX5_throwWater_21 : decode cX5_throwWater 21 = .ok (.checkcast 39, 3) := by decide +kernel
theorem dX5_throwWater_24 : decode cX5_throwWater 24 = .ok (.astore_n 2, 1) := by decide +kernel
theorem dX5_throwWater_25 : decode cX5_throwWater 25 = .ok (.aload_n 0, 1) := by decide +kernel
theorem dX5_throwWater_26 : decode cX5_throwWater 26 = .ok (.aload_n 2, 1) := by decide +kernel
theorem dX5_throwWater_27 : decode cX5_throwWater 27 = .ok (.invokevirtual 58, 3) := by decide +kernel
theorem dX5_throwWater_30 : decode cX5_throwWater 30 = .ok (.istore_n 3, 1) := by decide +kernel
theorem dX5_throwWater_31 : decode cX5_throwWater 31 = .ok (.iload_n 3, 1) := by decide +kernel
theorem dX5_throwWater_32 : decode cX5_throwWater 32 = .ok (.ifCond .le 62, 3) := by decide +kernel
theorem dX5_throwWater_35 : decode cX5_throwWater 35 = .ok (.aload_n 2, 1) := by decide +kernel
theorem dX5_throwWater_36 : decode cX5_throwWater 36 = .ok (.invokevirtual 150, 3) := by decide +kernel
theorem dX5_throwWater_39 : decode cX5_throwWater 39 = .ok (.aload_n 0, 1) := by decide +kernel
theorem dX5_throwWater_40 : decode cX5_throwWater 40 = .ok (.getfield 31, 3) := by decide +kernel
theorem dX5_throwWater_43 : decode cX5_throwWater 43 = .ok (.invokestatic 153, 3) := by decide +kernel
theorem dX5_throwWater_46 : decode cX5_throwWater 46 = .ok (.istore 4, 2) := by decide +kernel
theorem dX5_throwWater_48 : decode cX5_throwWater 48 = .ok (.aload_n 0, 1) := by decide +kernel
theorem dX5_throwWater_49 : decode cX5_throwWater 49 = .ok (.dup, 1) := by decide +kernel
theorem dX5_throwWater_50 : decode cX5_throwWater 50 = .ok (.getfield 31, 3) := by decide +kernel
theorem dX5_throwWater_53 : decode cX5_throwWater 53 = .ok (.iload 4, 2) := by decide +kernel
theorem dX5_throwWater_55 : decode cX5_throwWater 55 = .ok (.isub, 1) := by decide +kernel
theorem dX5_throwWater_56 : decode cX5_throwWater 56 = .ok (.putfield 31, 3) := by decide +kernel
theorem dX5_throwWater_59 : decode cX5_throwWater 59 = .ok (.aload_n 2, 1) := by decide +kernel
theorem dX5_throwWater_60 : decode cX5_throwWater 60 = .ok (.dup, 1) := by decide +kernel
theorem dX5_throwWater_61 : decode cX5_throwWater 61 = .ok (.getfield 156, 3) := by decide +kernel
theorem dX5_throwWater_64 : decode cX5_throwWater 64 = .ok (.iload 4, 2) := by decide +kernel
theorem dX5_throwWater_66 : decode cX5_throwWater 66 = .ok (.iadd, 1) := by decide +kernel
theorem dX5_throwWater_67 : decode cX5_throwWater 67 = .ok (.putfield 156, 3) := by decide +kernel
theorem dX5_throwWater_70 : decode cX5_throwWater 70 = .ok (.aload_n 0, 1) := by decide +kernel
theorem dX5_throwWater_71 : decode cX5_throwWater 71 = .ok (.getfield 27, 3) := by decide +kernel
theorem dX5_throwWater_74 : decode cX5_throwWater 74 = .ok (.aload_n 0, 1) := by decide +kernel
theorem dX5_throwWater_75 : decode cX5_throwWater 75 = .ok (.getfield 62, 3) := by decide +kernel
theorem dX5_throwWater_78 : decode cX5_throwWater 78 = .ok (.iload_n 3, 1) := by decide +kernel
theorem dX5_throwWater_79 : decode cX5_throwWater 79 = .ok (.invokestatic 159, 3) := by decide +kernel
theorem dX5_throwWater_82 : decode cX5_throwWater 82 = .ok (.iadd, 1) := by decide +kernel
theorem dX5_throwWater_83 : decode cX5_throwWater 83 = .ok (.aload_n 0, 1) := by decide +kernel
theorem dX5_throwWater_84 : decode cX5_throwWater 84 = .ok (.aload_n 2, 1) := by decide +kernel
theorem dX5_throwWater_85 : decode cX5_throwWater 85 = .ok (.iload_n 3, 1) := by decide +kernel
theorem dX5_throwWater_86 : decode cX5_throwWater 86 = .ok (.invokevirtual 162, 3) := by decide +kernel
theorem dX5_throwWater_89 : decode cX5_throwWater 89 = .ok (.iload 4, 2) := by decide +kernel
theorem dX5_throwWater_91 : decode cX5_throwWater 91 = .ok (.invokevirtual 166, 3) := by decide +kernel
theorem dX5_throwWater_94 : decode cX5_throwWater 94 = .ok (.iinc 1 1, 3) := by decide +kernel
theorem dX5_throwWater_97 : decode cX5_throwWater 97 = .ok (.goto (-95), 3) := by decide +kernel
theorem dX5_throwWater_100 : decode cX5_throwWater 100 = .ok (.return_, 1) := by decide +kernel
theorem dX5_useEnergy_0 : decode cX5_useEnergy 0 = .ok (.iconst 0, 1) := by decide +kernel
theorem dX5_useEnergy_1 : decode cX5_useEnergy 1 = .ok (.istore_n 1, 1) := by decide +kernel
theorem dX5_useEnergy_2 : decode cX5_useEnergy 2 = .ok (.iload_n 1, 1) := by decide +kernel
theorem dX5_useEnergy_3 : decode cX5_useEnergy 3 = .ok (.aload_n 0, 1) := by decide +kernel
theorem dX5_useEnergy_4 : decode cX5_useEnergy 4 = .ok (.getfield 12, 3) := by decide +kernel
theorem dX5_useEnergy_7 : decode cX5_useEnergy 7 = .ok (.invokevirtual 35, 3) := by decide +kernel
theorem dX5_useEnergy_10 : decode cX5_useEnergy 10 = .ok (.if_icmp .ge 36, 3) := by decide +kernel
theorem dX5_useEnergy_13 : decode cX5_useEnergy 13 = .ok (.aload_n 0, 1) := by decide +kernel
theorem dX5_useEnergy_14 : decode cX5_useEnergy 14 = .ok (.getfield 12, 3) := by decide +kernel
theorem dX5_useEnergy_17 : decode cX5_useEnergy 17 = .ok (.iload_n 1, 1) := by decide +kernel
theorem dX5_useEnergy_18 : decode cX5_useEnergy 18 = .ok (.invokevirtual 41, 3) := by decide +kernel
theorem dX5_useEnergy_21 : decode cX5_useEnergy 21 = .ok (.checkcast 45, 3) := by decide +kernel
theorem dX5_useEnergy_24 : decode cX5_useEnergy 24 = .ok (.getfield 170, 3) := by decide +kernel
theorem dX5_useEnergy_27 : decode cX5_useEnergy 27 = .ok (.istore_n 2, 1) := by decide +kernel
theorem dX5_useEnergy_28 : decode cX5_useEnergy 28 = .ok (.aload_n 0, 1) := by decide +kernel
theorem dX5_useEnergy_29 : decode cX5_useEnergy 29 = .ok (.dup, 1) := by decide +kernel
theorem dX5_useEnergy_30 : decode cX5_useEnergy 30 = .ok (.getfield 173, 3) := by decide +kernel
theorem dX5_useEnergy_33 : decode cX5_useEnergy 33 = .ok (.iload_n 2, 1) := by decide +kernel
theorem dX5_useEnergy_34 : decode cX5_useEnergy 34 = .ok (.iload_n 2, 1) := by decide +kernel
theorem dX5_useEnergy_35 : decode cX5_useEnergy 35 = .ok (.imul, 1) := by decide +kernel
theorem dX5_useEnergy_36 : decode cX5_useEnergy 36 = .ok (.iadd, 1) := by decide +kernel
theorem dX5_useEnergy_37 : decode cX5_useEnergy 37 = .ok (.putfield 173, 3) := by decide +kernel
theorem dX5_useEnergy_40 : decode cX5_useEnergy 40 = .ok (.iinc 1 1, 3) := by decide +kernel
theorem dX5_useEnergy_43 : decode cX5_useEnergy 43 = .ok (.goto (-41), 3) := by decide +kernel
theorem dX5_useEnergy_46 : decode cX5_useEnergy 46 = .ok (.aload_n 0, 1) := by decide +kernel
theorem dX5_useEnergy_47 : decode cX5_useEnergy 47 = .ok (.dup, 1) := by decide +kernel
theorem dX5_useEnergy_48 : decode cX5_useEnergy 48 = .ok (.getfield 173, 3) := by decide +kernel
theorem dX5_useEnergy_51 : decode cX5_useEnergy 51 = .ok (.aload_n 0, 1) := by decide +kernel
theorem dX5_useEnergy_52 : decode cX5_useEnergy 52 = .ok (.invokevirtual 176, 3) := by decide +kernel
theorem dX5_useEnergy_55 : decode cX5_useEnergy 55 = .ok (.invokestatic 179, 3) := by decide +kernel
theorem dX5_useEnergy_58 : decode cX5_useEnergy 58 = .ok (.iadd, 1) := by decide +kernel
theorem dX5_useEnergy_59 : decode cX5_useEnergy 59 = .ok (.putfield 173, 3) := by decide +kernel
theorem dX5_useEnergy_62 : decode cX5_useEnergy 62 = .ok (.return_, 1) := by decide +kernel
theorem dX5_tripPumpsRunningDry_0 : decode cX5_tripPumpsRunningDry 0 = .ok (.aload_n 0, 1) := by decide +kernel
theorem dX5_tripPumpsRunningDry_1 : decode cX5_tripPumpsRunningDry 1 = .ok (.getfield 31, 3) := by decide +kernel
theorem dX5_tripPumpsRunningDry_4 : decode cX5_tripPumpsRunningDry 4 = .ok (.sipush 300, 3) := by decide +kernel
theorem dX5_tripPumpsRunningDry_7 : decode cX5_tripPumpsRunningDry 7 = .ok (.if_icmp .lt 4, 3) := by decide +kernel
theorem dX5_tripPumpsRunningDry_10 : decode cX5_tripPumpsRunningDry 10 = .ok (.return_, 1) := by decide +kernel
theorem dX5_tripPumpsRunningDry_11 : decode cX5_tripPumpsRunningDry 11 = .ok (.iconst 0, 1) := by decide +kernel
theorem dX5_tripPumpsRunningDry_12 : decode cX5_tripPumpsRunningDry 12 = .ok (.istore_n 1, 1) := by decide +kernel
theorem dX5_tripPumpsRunningDry_13 : decode cX5_tripPumpsRunningDry 13 = .ok (.iload_n 1, 1) := by decide +kernel
theorem dX5_tripPumpsRunningDry_14 : decode cX5_tripPumpsRunningDry 14 = .ok (.aload_n 0, 1) := by decide +kernel
theorem dX5_tripPumpsRunningDry_15 : decode cX5_tripPumpsRunningDry 15 = .ok (.getfield 12, 3) := by decide +kernel
theorem dX5_tripPumpsRunningDry_18 : decode cX5_tripPumpsRunningDry 18 = .ok (.invokevirtual 35, 3) := by decide +kernel
theorem dX5_tripPumpsRunningDry_21 : decode cX5_tripPumpsRunningDry 21 = .ok (.if_icmp .ge 40, 3) := by decide +kernel
theorem dX5_tripPumpsRunningDry_24 : decode cX5_tripPumpsRunningDry 24 = .ok (.aload_n 0, 1) := by decide +kernel
theorem dX5_tripPumpsRunningDry_25 : decode cX5_tripPumpsRunningDry 25 = .ok (.getfield 12, 3) := by decide +kernel
theorem dX5_tripPumpsRunningDry_28 : decode cX5_tripPumpsRunningDry 28 = .ok (.iload_n 1, 1) := by decide +kernel
theorem dX5_tripPumpsRunningDry_29 : decode cX5_tripPumpsRunningDry 29 = .ok (.invokevirtual 41, 3) := by decide +kernel
theorem dX5_tripPumpsRunningDry_32 : decode cX5_tripPumpsRunningDry 32 = .ok (.checkcast 45, 3) := by decide +kernel
theorem dX5_tripPumpsRunningDry_35 : decode cX5_tripPumpsRunningDry 35 = .ok (.getfield 170, 3) := by decide +kernel
theorem dX5_tripPumpsRunningDry_38 : decode cX5_tripPumpsRunningDry 38 = .ok (.ifCond .le 17, 3) := by decide +kernel
theorem dX5_tripPumpsRunningDry_41 : decode cX5_tripPumpsRunningDry 41 = .ok (.aload_n 0, 1) := by decide +kernel
theorem dX5_tripPumpsRunningDry_42 : decode cX5_tripPumpsRunningDry 42 = .ok (.getfield 12, 3) := by decide +kernel
theorem dX5_tripPumpsRunningDry_45 : decode cX5_tripPumpsRunningDry 45 = .ok (.iload_n 1, 1) := by decide +kernel
theorem dX5_tripPumpsRunningDry_46 : decode cX5_tripPumpsRunningDry 46 = .ok (.invokevirtual 41, 3) := by decide +kernel
theorem dX5_tripPumpsRunningDry_49 : decode cX5_tripPumpsRunningDry 49 = .ok (.checkcast 45, 3) := by decide +kernel
theorem dX5_tripPumpsRunningDry_52 : decode cX5_tripPumpsRunningDry 52 = .ok (.invokevirtual 184, 3) := by decide +kernel
theorem dX5_tripPumpsRunningDry_55 : decode cX5_tripPumpsRunningDry 55 = .ok (.iinc 1 1, 3) := by decide +kernel
theorem dX5_tripPumpsRunningDry_58 : decode cX5_tripPumpsRunningDry 58 = .ok (.goto (-45), 3) := by decide +kernel
theorem dX5_tripPumpsRunningDry_61 : decode cX5_tripPumpsRunningDry 61 = .ok (.return_, 1) := by decide +kernel
theorem dX5_shortLamps_0 : decode cX5_shortLamps 0 = .ok (.iconst 0, 1) := by decide +kernel
theorem dX5_shortLamps_1 : decode cX5_shortLamps 1 = .ok (.istore_n 1, 1) := by decide +kernel
theorem dX5_shortLamps_2 : decode cX5_shortLamps 2 = .ok (.iconst 0, 1) := by decide +kernel
theorem dX5_shortLamps_3 : decode cX5_shortLamps 3 = .ok (.istore_n 2, 1) := by decide +kernel
theorem dX5_shortLamps_4 : decode cX5_shortLamps 4 = .ok (.iload_n 2, 1) := by decide +kernel
theorem dX5_shortLamps_5 : decode cX5_shortLamps 5 = .ok (.aload_n 0, 1) := by decide +kernel
theorem dX5_shortLamps_6 : decode cX5_shortLamps 6 = .ok (.getfield 18, 3) := by decide +kernel
theorem dX5_shortLamps_9 : decode cX5_shortLamps 9 = .ok (.invokevirtual 35, 3) := by decide +kernel
theorem dX5_shortLamps_12 : decode cX5_shortLamps 12 = .ok (.if_icmp .ge 29, 3) := by decide +kernel
theorem dX5_shortLamps_15 : decode cX5_shortLamps 15 = .ok (.aload_n 0, 1) := by decide +kernel
theorem dX5_shortLamps_16 : decode cX5_shortLamps 16 = .ok (.getfield 18, 3) := by decide +kernel
theorem dX5_shortLamps_19 : decode cX5_shortLamps 19 = .ok (.iload_n 2, 1) := by decide +kernel
theorem dX5_shortLamps_20 : decode cX5_shortLamps 20 = .ok (.invokevirtual 41, 3) := by decide +kernel
theorem dX5_shortLamps_23 : decode cX5_shortLamps 23 = .ok (.checkcast 39, 3) := by decide +kernel
theorem dX5_shortLamps_26 : decode cX5_shortLamps 26 = .ok (.invokevirtual 187, 3) := by decide +kernel
theorem dX5_shortLamps_29 : decode cX5_shortLamps 29 = .ok (.ifCond .eq 6, 3) := by decide +kernel
theorem dX5_shortLamps_32 : decode cX5_shortLamps 32 = .ok (.iinc 1 1, 3) := by decide +kernel
theorem dX5_shortLamps_35 : decode cX5_shortLamps 35 = .ok (.iinc 2 1, 3) := by decide +kernel
theorem dX5_shortLamps_38 : decode cX5_shortLamps 38 = .ok (.goto (-34), 3) := by decide +kernel
theorem dX5_shortLamps_41 : decode cX5_shortLamps 41 = .ok (.iload_n 1, 1) := by decide +kernel
theorem dX5_shortLamps_42 : decode cX5_shortLamps 42 = .ok (.ifCond .ne 4, 3) := by decide +kernel
theorem dX5_shortLamps_45 : decode cX5_shortLamps 45 = .ok (.return_, 1) := by decide +kernel
theorem dX5_shortLamps_46 : decode cX5_shortLamps 46 = .ok (.aload_n 0, 1) := by decide +kernel
theorem dX5_shortLamps_47 : decode cX5_shortLamps 47 = .ok (.dup, 1) := by decide +kernel
theorem dX5_shortLamps_48 : decode cX5_shortLamps 48 = .ok (.getfield 191, 3) := by decide +kernel
theorem dX5_shortLamps_51 : decode cX5_shortLamps 51 = .ok (.iload_n 1, 1) := by decide +kernel
theorem dX5_shortLamps_52 : decode cX5_shortLamps 52 = .ok (.iadd, 1) := by decide +kernel
theorem dX5_shortLamps_53 : decode cX5_shortLamps 53 = .ok (.putfield 191, 3) := by decide +kernel
theorem dX5_shortLamps_56 : decode cX5_shortLamps 56 = .ok (.aload_n 0, 1) := by decide +kernel
theorem dX5_shortLamps_57 : decode cX5_shortLamps 57 = .ok (.getfield 65, 3) := by decide +kernel
theorem dX5_shortLamps_60 : decode cX5_shortLamps 60 = .ok (.ifCond .eq 13, 3) := by decide +kernel
theorem dX5_shortLamps_63 : decode cX5_shortLamps 63 = .ok (.aload_n 0, 1) := by decide +kernel
theorem dX5_shortLamps_64 : decode cX5_shortLamps 64 = .ok (.dup, 1) := by decide +kernel
theorem dX5_shortLamps_65 : decode cX5_shortLamps 65 = .ok (.getfield 194, 3) := by decide +kernel
theorem dX5_shortLamps_68 : decode cX5_shortLamps 68 = .ok (.iconst 1, 1) := by decide +kernel
theorem dX5_shortLamps_69 : decode cX5_shortLamps 69 = .ok (.iadd, 1) := by decide +kernel
theorem dX5_shortLamps_70 : decode cX5_shortLamps 70 = .ok (.putfield 194, 3) := by decide +kernel
theorem dX5_shortLamps_73 : decode cX5_shortLamps 73 = .ok (.aload_n 0, 1) := by decide +kernel
theorem dX5_shortLamps_74 : decode cX5_shortLamps 74 = .ok (.invokevirtual 197, 3) := by decide +kernel
theorem dX5_shortLamps_77 : decode cX5_shortLamps 77 = .ok (.return_, 1) := by decide +kernel
theorem dX5_lampsOff_0 : decode cX5_lampsOff 0 = .ok (.iconst 0, 1) := by decide +kernel
theorem dX5_lampsOff_1 : decode cX5_lampsOff 1 = .ok (.istore_n 1, 1) := by decide +kernel
theorem dX5_lampsOff_2 : decode cX5_lampsOff 2 = .ok (.iload_n 1, 1) := by decide +kernel
theorem dX5_lampsOff_3 : decode cX5_lampsOff 3 = .ok (.aload_n 0, 1) := by decide +kernel
theorem dX5_lampsOff_4 : decode cX5_lampsOff 4 = .ok (.getfield 18, 3) := by decide +kernel
theorem dX5_lampsOff_7 : decode cX5_lampsOff 7 = .ok (.invokevirtual 35, 3) := by decide +kernel
theorem dX5_lampsOff_10 : decode cX5_lampsOff 10 = .ok (.if_icmp .ge 24, 3) := by decide +kernel
theorem dX5_lampsOff_13 : decode cX5_lampsOff 13 = .ok (.aload_n 0, 1) := by decide +kernel
theorem dX5_lampsOff_14 : decode cX5_lampsOff 14 = .ok (.getfield 18, 3) := by decide +kernel
theorem dX5_lampsOff_17 : decode cX5_lampsOff 17 = .ok (.iload_n 1, 1) := by decide +kernel
theorem dX5_lampsOff_18 : decode cX5_lampsOff 18 = .ok (.invokevirtual 41, 3) := by decide +kernel
theorem dX5_lampsOff_21 : decode cX5_lampsOff 21 = .ok (.checkcast 39, 3) := by decide +kernel
theorem dX5_lampsOff_24 : decode cX5_lampsOff 24 = .ok (.iconst 0, 1) := by decide +kernel
theorem dX5_lampsOff_25 : decode cX5_lampsOff 25 = .ok (.putfield 200, 3) := by decide +kernel
theorem dX5_lampsOff_28 : decode cX5_lampsOff 28 = .ok (.iinc 1 1, 3) := by decide +kernel
theorem dX5_lampsOff_31 : decode cX5_lampsOff 31 = .ok (.goto (-29), 3) := by decide +kernel
theorem dX5_lampsOff_34 : decode cX5_lampsOff 34 = .ok (.return_, 1) := by decide +kernel
theorem dX5_shutAll_0 : decode cX5_shutAll 0 = .ok (.iconst 0, 1) := by decide +kernel
theorem dX5_shutAll_1 : decode cX5_shutAll 1 = .ok (.istore_n 1, 1) := by decide +kernel
theorem dX5_shutAll_2 : decode cX5_shutAll 2 = .ok (.iload_n 1, 1) := by decide +kernel
theorem dX5_shutAll_3 : decode cX5_shutAll 3 = .ok (.aload_n 0, 1) := by decide +kernel
theorem dX5_shutAll_4 : decode cX5_shutAll 4 = .ok (.getfield 12, 3) := by decide +kernel
theorem dX5_shutAll_7 : decode cX5_shutAll 7 = .ok (.invokevirtual 35, 3) := by decide +kernel
theorem dX5_shutAll_10 : decode cX5_shutAll 10 = .ok (.if_icmp .ge 24, 3) := by decide +kernel
theorem dX5_shutAll_13 : decode cX5_shutAll 13 = .ok (.aload_n 0, 1) := by decide +kernel
theorem dX5_shutAll_14 : decode cX5_shutAll 14 = .ok (.getfield 12, 3) := by decide +kernel
theorem dX5_shutAll_17 : decode cX5_shutAll 17 = .ok (.iload_n 1, 1) := by decide +kernel
theorem dX5_shutAll_18 : decode cX5_shutAll 18 = .ok (.invokevirtual 41, 3) := by decide +kernel
theorem dX5_shutAll_21 : decode cX5_shutAll 21 = .ok (.checkcast 45, 3) := by decide +kernel
theorem dX5_shutAll_24 : decode cX5_shutAll 24 = .ok (.iconst 0, 1) := by decide +kernel
theorem dX5_shutAll_25 : decode cX5_shutAll 25 = .ok (.invokevirtual 54, 3) := by decide +kernel
theorem dX5_shutAll_28 : decode cX5_shutAll 28 = .ok (.iinc 1 1, 3) := by decide +kernel
theorem dX5_shutAll_31 : decode cX5_shutAll 31 = .ok (.goto (-29), 3) := by decide +kernel
theorem dX5_shutAll_34 : decode cX5_shutAll 34 = .ok (.iconst 0, 1) := by decide +kernel
theorem dX5_shutAll_35 : decode cX5_shutAll 35 = .ok (.istore_n 1, 1) := by decide +kernel
theorem dX5_shutAll_36 : decode cX5_shutAll 36 = .ok (.iload_n 1, 1) := by decide +kernel
theorem dX5_shutAll_37 : decode cX5_shutAll 37 = .ok (.aload_n 0, 1) := by decide +kernel
theorem dX5_shutAll_38 : decode cX5_shutAll 38 = .ok (.getfield 18, 3) := by decide +kernel
theorem dX5_shutAll_41 : decode cX5_shutAll 41 = .ok (.invokevirtual 35, 3) := by decide +kernel
theorem dX5_shutAll_44 : decode cX5_shutAll 44 = .ok (.if_icmp .ge 24, 3) := by decide +kernel
theorem dX5_shutAll_47 : decode cX5_shutAll 47 = .ok (.aload_n 0, 1) := by decide +kernel
theorem dX5_shutAll_48 : decode cX5_shutAll 48 = .ok (.getfield 18, 3) := by decide +kernel
theorem dX5_shutAll_51 : decode cX5_shutAll 51 = .ok (.iload_n 1, 1) := by decide +kernel
theorem dX5_shutAll_52 : decode cX5_shutAll 52 = .ok (.invokevirtual 41, 3) := by decide +kernel
theorem dX5_shutAll_55 : decode cX5_shutAll 55 = .ok (.checkcast 39, 3) := by decide +kernel
theorem dX5_shutAll_58 : decode cX5_shutAll 58 = .ok (.iconst 0, 1) := by decide +kernel
theorem dX5_shutAll_59 : decode cX5_shutAll 59 = .ok (.putfield 203, 3) := by decide +kernel
theorem dX5_shutAll_62 : decode cX5_shutAll 62 = .ok (.iinc 1 1, 3) := by decide +kernel
theorem dX5_shutAll_65 : decode cX5_shutAll 65 = .ok (.goto (-29), 3) := by decide +kernel
theorem dX5_shutAll_68 : decode cX5_shutAll 68 = .ok (.aload_n 0, 1) := by decide +kernel
theorem dX5_shutAll_69 : decode cX5_shutAll 69 = .ok (.invokevirtual 197, 3) := by decide +kernel
theorem dX5_shutAll_72 : decode cX5_shutAll 72 = .ok (.return_, 1) := by decide +kernel
theorem dX5_pour_0 : decode cX5_pour 0 = .ok (.aload_n 0, 1) := by decide +kernel
theorem dX5_pour_1 : decode cX5_pour 1 = .ok (.dup, 1) := by decide +kernel
theorem dX5_pour_2 : decode cX5_pour 2 = .ok (.getfield 31, 3) := by decide +kernel
theorem dX5_pour_5 : decode cX5_pour 5 = .ok (.iload_n 1, 1) := by decide +kernel
theorem dX5_pour_6 : decode cX5_pour 6 = .ok (.iadd, 1) := by decide +kernel
theorem dX5_pour_7 : decode cX5_pour 7 = .ok (.putfield 31, 3) := by decide +kernel
theorem dX5_pour_10 : decode cX5_pour 10 = .ok (.aload_n 0, 1) := by decide +kernel
theorem dX5_pour_11 : decode cX5_pour 11 = .ok (.getfield 31, 3) := by decide +kernel
theorem dX5_pour_14 : decode cX5_pour 14 = .ok (.sipush 9000, 3) := by decide +kernel
theorem dX5_pour_17 : decode cX5_pour 17 = .ok (.if_icmp .le 27, 3) := by decide +kernel
theorem dX5_pour_20 : decode cX5_pour 20 = .ok (.aload_n 0, 1) := by decide +kernel
theorem dX5_pour_21 : decode cX5_pour 21 = .ok (.dup, 1) := by decide +kernel
theorem dX5_pour_22 : decode cX5_pour 22 = .ok (.getfield 206, 3) := by decide +kernel
theorem dX5_pour_25 : decode cX5_pour 25 = .ok (.aload_n 0, 1) := by decide +kernel
theorem dX5_pour_26 : decode cX5_pour 26 = .ok (.getfield 31, 3) := by decide +kernel
theorem dX5_pour_29 : decode cX5_pour 29 = .ok (.sipush 9000, 3) := by decide +kernel
theorem dX5_pour_32 : decode cX5_pour 32 = .ok (.isub, 1) := by decide +kernel
theorem dX5_pour_33 : decode cX5_pour 33 = .ok (.iadd, 1) := by decide +kernel
theorem dX5_pour_34 : decode cX5_pour 34 = .ok (.putfield 206, 3) := by decide +kernel
theorem dX5_pour_37 : decode cX5_pour 37 = .ok (.aload_n 0, 1) := by decide +kernel
theorem dX5_pour_38 : decode cX5_pour 38 = .ok (.sipush 9000, 3) := by decide +kernel
theorem dX5_pour_41 : decode cX5_pour 41 = .ok (.putfield 31, 3) := by decide +kernel
theorem dX5_pour_44 : decode cX5_pour 44 = .ok (.return_, 1) := by decide +kernel
theorem dX5_pressureOf_0 : decode cX5_pressureOf 0 = .ok (.iconst 0, 1) := by decide +kernel
theorem dX5_pressureOf_1 : decode cX5_pressureOf 1 = .ok (.istore_n 2, 1) := by decide +kernel
theorem dX5_pressureOf_2 : decode cX5_pressureOf 2 = .ok (.iconst 0, 1) := by decide +kernel
theorem dX5_pressureOf_3 : decode cX5_pressureOf 3 = .ok (.istore_n 3, 1) := by decide +kernel
theorem dX5_pressureOf_4 : decode cX5_pressureOf 4 = .ok (.iload_n 3, 1) := by decide +kernel
theorem dX5_pressureOf_5 : decode cX5_pressureOf 5 = .ok (.aload_n 0, 1) := by decide +kernel
theorem dX5_pressureOf_6 : decode cX5_pressureOf 6 = .ok (.getfield 18, 3) := by decide +kernel
theorem dX5_pressureOf_9 : decode cX5_pressureOf 9 = .ok (.invokevirtual 35, 3) := by decide +kernel
theorem dX5_pressureOf_12 : decode cX5_pressureOf 12 = .ok (.if_icmp .ge 39, 3) := by decide +kernel
theorem dX5_pressureOf_15 : decode cX5_pressureOf 15 = .ok (.aload_n 0, 1) := by decide +kernel
theorem dX5_pressureOf_16 : decode cX5_pressureOf 16 = .ok (.getfield 18, 3) := by decide +kernel
theorem dX5_pressureOf_19 : decode cX5_pressureOf 19 = .ok (.iload_n 3, 1) := by decide +kernel
theorem dX5_pressureOf_20 : decode cX5_pressureOf 20 = .ok (.invokevirtual 41, 3) := by decide +kernel
theorem dX5_pressureOf_23 : decode cX5_pressureOf 23 = .ok (.checkcast 39, 3) := by decide +kernel
theorem dX5_pressureOf_26 : decode cX5_pressureOf 26 = .ok (.astore 4, 2) := by decide +kernel
theorem dX5_pressureOf_28 : decode cX5_pressureOf 28 = .ok (.aload 4, 2) := by decide +kernel
theorem dX5_pressureOf_30 : decode cX5_pressureOf 30 = .ok (.getfield 209, 3) := by decide +kernel
theorem dX5_pressureOf_33 : decode cX5_pressureOf 33 = .ok (.aload_n 1, 1) := by decide +kernel
theorem dX5_pressureOf_34 : decode cX5_pressureOf 34 = .ok (.if_acmp .ne 11, 3) := by decide +kernel
theorem dX5_pressureOf_37 : decode cX5_pressureOf 37 = .ok (.iload_n 2, 1) := by decide +kernel
theorem dX5_pressureOf_38 : decode cX5_pressureOf 38 = .ok (.aload 4, 2) := by decide +kernel
theorem dX5_pressureOf_40 : decode cX5_pressureOf 40 = .ok (.invokevirtual 150, 3) := by decide +kernel
theorem dX5_pressureOf_43 : decode cX5_pressureOf 43 = .ok (.iadd, 1) := by decide +kernel
theorem dX5_pressureOf_44 : decode cX5_pressureOf 44 = .ok (.istore_n 2, 1) := by decide +kernel
theorem dX5_pressureOf_45 : decode cX5_pressureOf 45 = .ok (.iinc 3 1, 3) := by decide +kernel
theorem dX5_pressureOf_48 : decode cX5_pressureOf 48 = .ok (.goto (-44), 3) := by decide +kernel
theorem dX5_pressureOf_51 : decode cX5_pressureOf 51 = .ok (.aload_n 1, 1) := by decide +kernel
theorem dX5_pressureOf_52 : decode cX5_pressureOf 52 = .ok (.getfield 170, 3) := by decide +kernel
theorem dX5_pressureOf_55 : decode cX5_pressureOf 55 = .ok (.aload_n 1, 1) := by decide +kernel
theorem dX5_pressureOf_56 : decode cX5_pressureOf 56 = .ok (.getfield 213, 3) := by decide +kernel
theorem dX5_pressureOf_59 : decode cX5_pressureOf 59 = .ok (.iload_n 2, 1) := by decide +kernel
theorem dX5_pressureOf_60 : decode cX5_pressureOf 60 = .ok (.invokestatic 216, 3) := by decide +kernel
theorem dX5_pressureOf_63 : decode cX5_pressureOf 63 = .ok (.ireturn, 1) := by decide +kernel
theorem dX5_flowsAsSet_0 : decode cX5_flowsAsSet 0 = .ok (.iconst 0, 1) := by decide +kernel
theorem dX5_flowsAsSet_1 : decode cX5_flowsAsSet 1 = .ok (.istore_n 2, 1) := by decide +kernel
theorem dX5_flowsAsSet_2 : decode cX5_flowsAsSet 2 = .ok (.iconst 0, 1) := by decide +kernel
theorem dX5_flowsAsSet_3 : decode cX5_flowsAsSet 3 = .ok (.istore_n 3, 1) := by decide +kernel
theorem dX5_flowsAsSet_4 : decode cX5_flowsAsSet 4 = .ok (.iload_n 3, 1) := by decide +kernel
theorem dX5_flowsAsSet_5 : decode cX5_flowsAsSet 5 = .ok (.aload_n 0, 1) := by decide +kernel
theorem dX5_flowsAsSet_6 : decode cX5_flowsAsSet 6 = .ok (.getfield 18, 3) := by decide +kernel
theorem dX5_flowsAsSet_9 : decode cX5_flowsAsSet 9 = .ok (.invokevirtual 35, 3) := by decide +kernel
theorem dX5_flowsAsSet_12 : decode cX5_flowsAsSet 12 = .ok (.if_icmp .ge 45, 3) := by decide +kernel
theorem dX5_flowsAsSet_15 : decode cX5_flowsAsSet 15 = .ok (.aload_n 0, 1) := by decide +kernel
theorem dX5_flowsAsSet_16 : decode cX5_flowsAsSet 16 = .ok (.getfield 18, 3) := by decide +kernel
theorem dX5_flowsAsSet_19 : decode cX5_flowsAsSet 19 = .ok (.iload_n 3, 1) := by decide +kernel
theorem dX5_flowsAsSet_20 : decode cX5_flowsAsSet 20 = .ok (.invokevirtual 41, 3) := by decide +kernel
theorem dX5_flowsAsSet_23 : decode cX5_flowsAsSet 23 = .ok (.checkcast 39, 3) := by decide +kernel
theorem dX5_flowsAsSet_26 : decode cX5_flowsAsSet 26 = .ok (.astore 4, 2) := by decide +kernel
theorem dX5_flowsAsSet_28 : decode cX5_flowsAsSet 28 = .ok (.aload 4, 2) := by decide +kernel
theorem dX5_flowsAsSet_30 : decode cX5_flowsAsSet 30 = .ok (.getfield 209, 3) := by decide +kernel
theorem dX5_flowsAsSet_33 : decode cX5_flowsAsSet 33 = .ok (.aload_n 1, 1) := by decide +kernel
theorem dX5_flowsAsSet_34 : decode cX5_flowsAsSet 34 = .ok (.if_acmp .ne 17, 3) := by decide +kernel
theorem dX5_flowsAsSet_37 : decode cX5_flowsAsSet 37 = .ok (.iload_n 2, 1) := by decide +kernel
theorem dX5_flowsAsSet_38 : decode cX5_flowsAsSet 38 = .ok (.aload 4, 2) := by decide +kernel
theorem dX5_flowsAsSet_40 : decode cX5_flowsAsSet 40 = .ok (.getfield 220, 3) := by decide +kernel
theorem dX5_flowsAsSet_43 : decode cX5_flowsAsSet 43 = .ok (.aload 4, 2) := by decide +kernel
theorem dX5_flowsAsSet_45 : decode cX5_flowsAsSet 45 = .ok (.getfield 203, 3) := by decide +kernel
theorem dX5_flowsAsSet_48 : decode cX5_flowsAsSet 48 = .ok (.imul, 1) := by decide +kernel
theorem dX5_flowsAsSet_49 : decode cX5_flowsAsSet 49 = .ok (.iadd, 1) := by decide +kernel
theorem dX5_flowsAsSet_50 : decode cX5_flowsAsSet 50 = .ok (.istore_n 2, 1) := by decide +kernel
theorem dX5_flowsAsSet_51 : decode cX5_flowsAsSet 51 = .ok (.iinc 3 1, 3) := by decide +kernel
theorem dX5_flowsAsSet_54 : decode cX5_flowsAsSet 54 = .ok (.goto (-50), 3) := by decide +kernel
theorem dX5_flowsAsSet_57 : decode cX5_flowsAsSet 57 = .ok (.iload_n 2, 1) := by decide +kernel
theorem dX5_flowsAsSet_58 : decode cX5_flowsAsSet 58 = .ok (.ireturn, 1) := by decide +kernel
theorem dX5_jetsOf_0 : decode cX5_jetsOf 0 = .ok (.iconst 0, 1) := by decide +kernel
theorem dX5_jetsOf_1 : decode cX5_jetsOf 1 = .ok (.istore_n 2, 1) := by decide +kernel
theorem dX5_jetsOf_2 : decode cX5_jetsOf 2 = .ok (.iconst 0, 1) := by decide +kernel
theorem dX5_jetsOf_3 : decode cX5_jetsOf 3 = .ok (.istore_n 3, 1) := by decide +kernel
theorem dX5_jetsOf_4 : decode cX5_jetsOf 4 = .ok (.iload_n 3, 1) := by decide +kernel
theorem dX5_jetsOf_5 : decode cX5_jetsOf 5 = .ok (.aload_n 0, 1) := by decide +kernel
theorem dX5_jetsOf_6 : decode cX5_jetsOf 6 = .ok (.getfield 18, 3) := by decide +kernel
theorem dX5_jetsOf_9 : decode cX5_jetsOf 9 = .ok (.invokevirtual 35, 3) := by decide +kernel
theorem dX5_jetsOf_12 : decode cX5_jetsOf 12 = .ok (.if_icmp .ge 33, 3) := by decide +kernel
theorem dX5_jetsOf_15 : decode cX5_jetsOf 15 = .ok (.aload_n 0, 1) := by decide +kernel
theorem dX5_jetsOf_16 : decode cX5_jetsOf 16 = .ok (.getfield 18, 3) := by decide +kernel
theorem dX5_jetsOf_19 : decode cX5_jetsOf 19 = .ok (.iload_n 3, 1) := by decide +kernel
theorem dX5_jetsOf_20 : decode cX5_jetsOf 20 = .ok (.invokevirtual 41, 3) := by decide +kernel
theorem dX5_jetsOf_23 : decode cX5_jetsOf 23 = .ok (.checkcast 39, 3) := by decide +kernel
theorem dX5_jetsOf_26 : decode cX5_jetsOf 26 = .ok (.getfield 209, 3) := by decide +kernel
theorem dX5_jetsOf_29 : decode cX5_jetsOf 29 = .ok (.aload_n 1, 1) := by decide +kernel
theorem dX5_jetsOf_30 : decode cX5_jetsOf 30 = .ok (.if_acmp .ne 9, 3) := by decide +kernel
theorem dX5_jetsOf_33 : decode cX5_jetsOf 33 = .ok (.iload_n 2, 1) := by decide +kernel
theorem dX5_jetsOf_34 : decode cX5_jetsOf 34 = .ok (.iconst 1, 1) := by decide +kernel
theorem dX5_jetsOf_35 : decode cX5_jetsOf 35 = .ok (.iload_n 3, 1) := by decide +kernel
theorem dX5_jetsOf_36 : decode cX5_jetsOf 36 = .ok (.ishl, 1) := by decide +kernel
theorem dX5_jetsOf_37 : decode cX5_jetsOf 37 = .ok (.ior, 1) := by decide +kernel
theorem dX5_jetsOf_38 : decode cX5_jetsOf 38 = .ok (.istore_n 2, 1) := by decide +kernel
theorem dX5_jetsOf_39 : decode cX5_jetsOf 39 = .ok (.iinc 3 1, 3) := by decide +kernel
theorem dX5_jetsOf_42 : decode cX5_jetsOf 42 = .ok (.goto (-38), 3) := by decide +kernel
theorem dX5_jetsOf_45 : decode cX5_jetsOf 45 = .ok (.iload_n 2, 1) := by decide +kernel
theorem dX5_jetsOf_46 : decode cX5_jetsOf 46 = .ok (.ireturn, 1) := by decide +kernel
theorem dX5_lampsOn_0 : decode cX5_lampsOn 0 = .ok (.iconst 0, 1) := by decide +kernel
theorem dX5_lampsOn_1 : decode cX5_lampsOn 1 = .ok (.istore_n 1, 1) := by decide +kernel
theorem dX5_lampsOn_2 : decode cX5_lampsOn 2 = .ok (.iconst 0, 1) := by decide +kernel
theorem dX5_lampsOn_3 : decode cX5_lampsOn 3 = .ok (.istore_n 2, 1) := by decide +kernel
theorem dX5_lampsOn_4 : decode cX5_lampsOn 4 = .ok (.iload_n 2, 1) := by decide +kernel
theorem dX5_lampsOn_5 : decode cX5_lampsOn 5 = .ok (.aload_n 0, 1) := by decide +kernel
theorem dX5_lampsOn_6 : decode cX5_lampsOn 6 = .ok (.getfield 18, 3) := by decide +kernel
theorem dX5_lampsOn_9 : decode cX5_lampsOn 9 = .ok (.invokevirtual 35, 3) := by decide +kernel
theorem dX5_lampsOn_12 : decode cX5_lampsOn 12 = .ok (.if_icmp .ge 32, 3) := by decide +kernel
theorem dX5_lampsOn_15 : decode cX5_lampsOn 15 = .ok (.aload_n 0, 1) := by decide +kernel
theorem dX5_lampsOn_16 : decode cX5_lampsOn 16 = .ok (.getfield 18, 3) := by decide +kernel
theorem dX5_lampsOn_19 : decode cX5_lampsOn 19 = .ok (.iload_n 2, 1) := by decide +kernel
theorem dX5_lampsOn_20 : decode cX5_lampsOn 20 = .ok (.invokevirtual 41, 3) := by decide +kernel
theorem dX5_lampsOn_23 : decode cX5_lampsOn 23 = .ok (.checkcast 39, 3) := by decide +kernel
theorem dX5_lampsOn_26 : decode cX5_lampsOn 26 = .ok (.getfield 200, 3) := by decide +kernel
theorem dX5_lampsOn_29 : decode cX5_lampsOn 29 = .ok (.ifCond .eq 9, 3) := by decide +kernel
theorem dX5_lampsOn_32 : decode cX5_lampsOn 32 = .ok (.iload_n 1, 1) := by decide +kernel
theorem dX5_lampsOn_33 : decode cX5_lampsOn 33 = .ok (.iconst 1, 1) := by decide +kernel
theorem dX5_lampsOn_34 : decode cX5_lampsOn 34 = .ok (.iload_n 2, 1) := by decide +kernel
theorem dX5_lampsOn_35 : decode cX5_lampsOn 35 = .ok (.ishl, 1) := by decide +kernel
theorem dX5_lampsOn_36 : decode cX5_lampsOn 36 = .ok (.ior, 1) := by decide +kernel
theorem dX5_lampsOn_37 : decode cX5_lampsOn 37 = .ok (.istore_n 1, 1) := by decide +kernel
theorem dX5_lampsOn_38 : decode cX5_lampsOn 38 = .ok (.iinc 2 1, 3) := by decide +kernel
theorem dX5_lampsOn_41 : decode cX5_lampsOn 41 = .ok (.goto (-37), 3) := by decide +kernel
theorem dX5_lampsOn_44 : decode cX5_lampsOn 44 = .ok (.iload_n 1, 1) := by decide +kernel
theorem dX5_lampsOn_45 : decode cX5_lampsOn 45 = .ok (.ireturn, 1) := by decide +kernel
theorem dX5_heightOf_0 : decode cX5_heightOf 0 = .ok (.aload_n 0, 1) := by decide +kernel
theorem dX5_heightOf_1 : decode cX5_heightOf 1 = .ok (.aload_n 1, 1) := by decide +kernel
theorem dX5_heightOf_2 : decode cX5_heightOf 2 = .ok (.getfield 209, 3) := by decide +kernel
theorem dX5_heightOf_5 : decode cX5_heightOf 5 = .ok (.invokevirtual 223, 3) := by decide +kernel
theorem dX5_heightOf_8 : decode cX5_heightOf 8 = .ok (.aload_n 1, 1) := by decide +kernel
theorem dX5_heightOf_9 : decode cX5_heightOf 9 = .ok (.getfield 227, 3) := by decide +kernel
theorem dX5_heightOf_12 : decode cX5_heightOf 12 = .ok (.invokestatic 230, 3) := by decide +kernel
theorem dX5_heightOf_15 : decode cX5_heightOf 15 = .ok (.ireturn, 1) := by decide +kernel
theorem dX5_greatestHeight_0 : decode cX5_greatestHeight 0 = .ok (.iconst 0, 1) := by decide +kernel
theorem dX5_greatestHeight_1 : decode cX5_greatestHeight 1 = .ok (.istore_n 1, 1) := by decide +kernel
theorem dX5_greatestHeight_2 : decode cX5_greatestHeight 2 = .ok (.iconst 0, 1) := by decide +kernel
theorem dX5_greatestHeight_3 : decode cX5_greatestHeight 3 = .ok (.istore_n 2, 1) := by decide +kernel
theorem dX5_greatestHeight_4 : decode cX5_greatestHeight 4 = .ok (.iload_n 2, 1) := by decide +kernel
theorem dX5_greatestHeight_5 : decode cX5_greatestHeight 5 = .ok (.aload_n 0, 1) := by decide +kernel
theorem dX5_greatestHeight_6 : decode cX5_greatestHeight 6 = .ok (.getfield 18, 3) := by decide +kernel
theorem dX5_greatestHeight_9 : decode cX5_greatestHeight 9 = .ok (.invokevirtual 35, 3) := by decide +kernel
theorem dX5_greatestHeight_12 : decode cX5_greatestHeight 12 = .ok (.if_icmp .ge 29, 3) := by decide +kernel
theorem dX5_greatestHeight_15 : decode cX5_greatestHeight 15 = .ok (.iload_n 1, 1) := by decide +kernel
theorem dX5_greatestHeight_16 : decode cX5_greatestHeight 16 = .ok (.aload_n 0, 1) := by decide +kernel
theorem dX5_greatestHeight_17 : decode cX5_greatestHeight 17 = .ok (.aload_n 0, 1) := by decide +kernel
theorem dX5_greatestHeight_18 : decode cX5_greatestHeight 18 = .ok (.getfield 18, 3) := by decide +kernel
theorem dX5_greatestHeight_21 : decode cX5_greatestHeight 21 = .ok (.iload_n 2, 1) := by decide +kernel
theorem dX5_greatestHeight_22 : decode cX5_greatestHeight 22 = .ok (.invokevirtual 41, 3) := by decide +kernel
theorem dX5_greatestHeight_25 : decode cX5_greatestHeight 25 = .ok (.checkcast 39, 3) := by decide +kernel
theorem dX5_greatestHeight_28 : decode cX5_greatestHeight 28 = .ok (.invokevirtual 58, 3) := by decide +kernel
theorem dX5_greatestHeight_31 : decode cX5_greatestHeight 31 = .ok (.invokestatic 233, 3) := by decide +kernel
theorem dX5_greatestHeight_34 : decode cX5_greatestHeight 34 = .ok (.istore_n 1, 1) := by decide +kernel
theorem dX5_greatestHeight_35 : decode cX5_greatestHeight 35 = .ok (.iinc 2 1, 3) := by decide +kernel
theorem dX5_greatestHeight_38 : decode cX5_greatestHeight 38 = .ok (.goto (-34), 3) := by decide +kernel
theorem dX5_greatestHeight_41 : decode cX5_greatestHeight 41 = .ok (.iload_n 1, 1) := by decide +kernel
theorem dX5_greatestHeight_42 : decode cX5_greatestHeight 42 = .ok (.ireturn, 1) := by decide +kernel
theorem dX5_sumOfHeights_0 : decode cX5_sumOfHeights 0 = .ok (.iconst 0, 1) := by decide +kernel
theorem dX5_sumOfHeights_1 : decode cX5_sumOfHeights 1 = .ok (.istore_n 1, 1) := by decide +kernel
theorem dX5_sumOfHeights_2 : decode cX5_sumOfHeights 2 = .ok (.iconst 0, 1) := by decide +kernel
theorem dX5_sumOfHeights_3 : decode cX5_sumOfHeights 3 = .ok (.istore_n 2, 1) := by decide +kernel
theorem dX5_sumOfHeights_4 : decode cX5_sumOfHeights 4 = .ok (.iload_n 2, 1) := by decide +kernel
theorem dX5_sumOfHeights_5 : decode cX5_sumOfHeights 5 = .ok (.aload_n 0, 1) := by decide +kernel
theorem dX5_sumOfHeights_6 : decode cX5_sumOfHeights 6 = .ok (.getfield 18, 3) := by decide +kernel
theorem dX5_sumOfHeights_9 : decode cX5_sumOfHeights 9 = .ok (.invokevirtual 35, 3) := by decide +kernel
theorem dX5_sumOfHeights_12 : decode cX5_sumOfHeights 12 = .ok (.if_icmp .ge 27, 3) := by decide +kernel
theorem dX5_sumOfHeights_15 : decode cX5_sumOfHeights 15 = .ok (.iload_n 1, 1) := by decide +kernel
theorem dX5_sumOfHeights_16 : decode cX5_sumOfHeights 16 = .ok (.aload_n 0, 1) := by decide +kernel
theorem dX5_sumOfHeights_17 : decode cX5_sumOfHeights 17 = .ok (.aload_n 0, 1) := by decide +kernel
theorem dX5_sumOfHeights_18 : decode cX5_sumOfHeights 18 = .ok (.getfield 18, 3) := by decide +kernel
theorem dX5_sumOfHeights_21 : decode cX5_sumOfHeights 21 = .ok (.iload_n 2, 1) := by decide +kernel
theorem dX5_sumOfHeights_22 : decode cX5_sumOfHeights 22 = .ok (.invokevirtual 41, 3) := by decide +kernel
theorem dX5_sumOfHeights_25 : decode cX5_sumOfHeights 25 = .ok (.checkcast 39, 3) := by decide +kernel
theorem dX5_sumOfHeights_28 : decode cX5_sumOfHeights 28 = .ok (.invokevirtual 58, 3) := by decide +kernel
theorem dX5_sumOfHeights_31 : decode cX5_sumOfHeights 31 = .ok (.iadd, 1) := by decide +kernel
theorem dX5_sumOfHeights_32 : decode cX5_sumOfHeights 32 = .ok (.istore_n 1, 1) := by decide +kernel
theorem dX5_sumOfHeights_33 : decode cX5_sumOfHeights 33 = .ok (.iinc 2 1, 3) := by decide +kernel
theorem dX5_sumOfHeights_36 : decode cX5_sumOfHeights 36 = .ok (.goto (-32), 3) := by decide +kernel
theorem dX5_sumOfHeights_39 : decode cX5_sumOfHeights 39 = .ok (.iload_n 1, 1) := by decide +kernel
theorem dX5_sumOfHeights_40 : decode cX5_sumOfHeights 40 = .ok (.ireturn, 1) := by decide +kernel
theorem dX5_placeOfFall_0 : decode cX5_placeOfFall 0 = .ok (.aload_n 1, 1) := by decide +kernel
theorem dX5_placeOfFall_1 : decode cX5_placeOfFall 1 = .ok (.getfield 236, 3) := by decide +kernel
theorem dX5_placeOfFall_4 : decode cX5_placeOfFall 4 = .ok (.iload_n 2, 1) := by decide +kernel
theorem dX5_placeOfFall_5 : decode cX5_placeOfFall 5 = .ok (.imul, 1) := by decide +kernel
theorem dX5_placeOfFall_6 : decode cX5_placeOfFall 6 = .ok (.bipush 10, 2) := by decide +kernel
theorem dX5_placeOfFall_8 : decode cX5_placeOfFall 8 = .ok (.invokestatic 239, 3) := by decide +kernel
theorem dX5_placeOfFall_11 : decode cX5_placeOfFall 11 = .ok (.istore_n 3, 1) := by decide +kernel
theorem dX5_placeOfFall_12 : decode cX5_placeOfFall 12 = .ok (.aload_n 0, 1) := by decide +kernel
theorem dX5_placeOfFall_13 : decode cX5_placeOfFall 13 = .ok (.invokevirtual 242, 3) := by decide +kernel
theorem dX5_placeOfFall_16 : decode cX5_placeOfFall 16 = .ok (.iload_n 2, 1) := by decide +kernel
theorem dX5_placeOfFall_17 : decode cX5_placeOfFall 17 = .ok (.invokestatic 159, 3) := by decide +kernel
theorem dX5_placeOfFall_20 : decode cX5_placeOfFall 20 = .ok (.imul, 1) := by decide +kernel
theorem dX5_placeOfFall_21 : decode cX5_placeOfFall 21 = .ok (.iconst 2, 1) := by decide +kernel
theorem dX5_placeOfFall_22 : decode cX5_placeOfFall 22 = .ok (.invokestatic 239, 3) := by decide +kernel
theorem dX5_placeOfFall_25 : decode cX5_placeOfFall 25 = .ok (.istore 4, 2) := by decide +kernel
theorem dX5_placeOfFall_27 : decode cX5_placeOfFall 27 = .ok (.aload_n 1, 1) := by decide +kernel
theorem dX5_placeOfFall_28 : decode cX5_placeOfFall 28 = .ok (.getfield 245, 3) := by decide +kernel
theorem dX5_placeOfFall_31 : decode cX5_placeOfFall 31 = .ok (.iload_n 3, 1) := by decide +kernel
theorem dX5_placeOfFall_32 : decode cX5_placeOfFall 32 = .ok (.iadd, 1) := by decide +kernel
theorem dX5_placeOfFall_33 : decode cX5_placeOfFall 33 = .ok (.iload 4, 2) := by decide +kernel
theorem dX5_placeOfFall_35 : decode cX5_placeOfFall 35 = .ok (.iadd, 1) := by decide +kernel
theorem dX5_placeOfFall_36 : decode cX5_placeOfFall 36 = .ok (.ireturn, 1) := by decide +kernel
theorem dX5_windWithGust_0 : decode cX5_windWithGust 0 = .ok (.aload_n 0, 1) := by decide +kernel
theorem dX5_windWithGust_1 : decode cX5_windWithGust 1 = .ok (.getfield 248, 3) := by decide +kernel
theorem dX5_windWithGust_4 : decode cX5_windWithGust 4 = .ok (.ifCond .le 15, 3) := by decide +kernel
theorem dX5_windWithGust_7 : decode cX5_windWithGust 7 = .ok (.aload_n 0, 1) := by decide +kernel
theorem dX5_windWithGust_8 : decode cX5_windWithGust 8 = .ok (.getfield 248, 3) := by decide +kernel
theorem dX5_windWithGust_11 : decode cX5_windWithGust 11 = .ok (.aload_n 0, 1) := by decide +kernel
theorem dX5_windWithGust_12 : decode cX5_windWithGust 12 = .ok (.getfield 251, 3) := by decide +kernel
theorem dX5_windWithGust_15 : decode cX5_windWithGust 15 = .ok (.iadd, 1) := by decide +kernel
theorem dX5_windWithGust_16 : decode cX5_windWithGust 16 = .ok (.goto 23, 3) := by decide +kernel
theorem dX5_windWithGust_19 : decode cX5_windWithGust 19 = .ok (.aload_n 0, 1) := by decide +kernel
theorem dX5_windWithGust_20 : decode cX5_windWithGust 20 = .ok (.getfield 248, 3) := by decide +kernel
theorem dX5_windWithGust_23 : decode cX5_windWithGust 23 = .ok (.ifCond .ge 15, 3) := by decide +kernel
theorem dX5_windWithGust_26 : decode cX5_windWithGust 26 = .ok (.aload_n 0, 1) := by decide +kernel
theorem dX5_windWithGust_27 : decode cX5_windWithGust 27 = .ok (.getfield 248, 3) := by decide +kernel
theorem dX5_windWithGust_30 : decode cX5_windWithGust 30 = .ok (.aload_n 0, 1) := by decide +kernel
theorem dX5_windWithGust_31 : decode cX5_windWithGust 31 = .ok (.getfield 251, 3) := by decide +kernel
theorem dX5_windWithGust_34 : decode cX5_windWithGust 34 = .ok (.isub, 1) := by decide +kernel
theorem dX5_windWithGust_35 : decode cX5_windWithGust 35 = .ok (.goto 4, 3) := by decide +kernel
theorem dX5_windWithGust_38 : decode cX5_windWithGust 38 = .ok (.iconst 0, 1) := by decide +kernel
theorem dX5_windWithGust_39 : decode cX5_windWithGust 39 = .ok (.ireturn, 1) := by decide +kernel
theorem dX5_becomeLike_0 : decode cX5_becomeLike 0 = .ok (.iconst 0, 1) := by decide +kernel
theorem dX5_becomeLike_1 : decode cX5_becomeLike 1 = .ok (.istore_n 2, 1) := by decide +kernel
theorem dX5_becomeLike_2 : decode cX5_becomeLike 2 = .ok (.iload_n 2, 1) := by decide +kernel
theorem dX5_becomeLike_3 : decode cX5_becomeLike 3 = .ok (.aload_n 0, 1) := by decide +kernel
theorem dX5_becomeLike_4 : decode cX5_becomeLike 4 = .ok (.getfield 12, 3) := by decide +kernel
theorem dX5_becomeLike_7 : decode cX5_becomeLike 7 = .ok (.invokevirtual 35, 3) := by decide +kernel
theorem dX5_becomeLike_10 : decode cX5_becomeLike 10 = .ok (.if_icmp .ge 45, 3) := by decide +kernel
theorem dX5_becomeLike_13 : decode cX5_becomeLike 13 = .ok (.iload_n 2, 1) := by decide +kernel
theorem dX5_becomeLike_14 : decode cX5_becomeLike 14 = .ok (.aload_n 1, 1) := by decide +kernel
theorem dX5_becomeLike_15 : decode cX5_becomeLike 15 = .ok (.getfield 12, 3) := by decide +kernel
theorem dX5_becomeLike_18 : decode cX5_becomeLike 18 = .ok (.invokevirtual 35, 3) := by decide +kernel
theorem dX5_becomeLike_21 : decode cX5_becomeLike 21 = .ok (.if_icmp .ge 34, 3) := by decide +kernel
theorem dX5_becomeLike_24 : decode cX5_becomeLike 24 = .ok (.aload_n 0, 1) := by decide +kernel
theorem dX5_becomeLike_25 : decode cX5_becomeLike 25 = .ok (.getfield 12, 3) := by decide +kernel
theorem dX5_becomeLike_28 : decode cX5_becomeLike 28 = .ok (.iload_n 2, 1) := by decide +kernel
theorem dX5_becomeLike_29 : decode cX5_becomeLike 29 = .ok (.invokevirtual 41, 3) := by decide +kernel
theorem dX5_becomeLike_32 : decode cX5_becomeLike 32 = .ok (.checkcast 45, 3) := by decide +kernel
theorem dX5_becomeLike_35 : decode cX5_becomeLike 35 = .ok (.aload_n 1, 1) := by decide +kernel
theorem dX5_becomeLike_36 : decode cX5_becomeLike 36 = .ok (.getfield 12, 3) := by decide +kernel
theorem dX5_becomeLike_39 : decode cX5_becomeLike 39 = .ok (.iload_n 2, 1) := by decide +kernel
theorem dX5_becomeLike_40 : decode cX5_becomeLike 40 = .ok (.invokevirtual 41, 3) := by decide +kernel
theorem dX5_becomeLike_43 : decode cX5_becomeLike 43 = .ok (.checkcast 45, 3) := by decide +kernel
theorem dX5_becomeLike_46 : decode cX5_becomeLike 46 = .ok (.invokevirtual 254, 3) := by decide +kernel
theorem dX5_becomeLike_49 : decode cX5_becomeLike 49 = .ok (.iinc 2 1, 3) := by decide +kernel
theorem dX5_becomeLike_52 : decode cX5_becomeLike 52 = .ok (.goto (-50), 3) := by decide +kernel
theorem dX5_becomeLike_55 : decode cX5_becomeLike 55 = .ok (.iconst 0, 1) := by decide +kernel
theorem dX5_becomeLike_56 : decode cX5_becomeLike 56 = .ok (.istore_n 2, 1) := by decide +kernel
theorem dX5_becomeLike_57 : decode cX5_becomeLike 57 = .ok (.iload_n 2, 1) := by decide +kernel
theorem dX5_becomeLike_58 : decode cX5_becomeLike 58 = .ok (.aload_n 0, 1) := by decide +kernel
theorem dX5_becomeLike_59 : decode cX5_becomeLike 59 = .ok (.getfield 18, 3) := by decide +kernel
theorem dX5_becomeLike_62 : decode cX5_becomeLike 62 = .ok (.invokevirtual 35, 3) := by decide +kernel
theorem dX5_becomeLike_65 : decode cX5_becomeLike 65 = .ok (.if_icmp .ge 45, 3) := by decide +kernel
theorem dX5_becomeLike_68 : decode cX5_becomeLike 68 = .ok (.iload_n 2, 1) := by decide +kernel
theorem dX5_becomeLike_69 : decode cX5_becomeLike 69 = .ok (.aload_n 1, 1) := by decide +kernel
theorem dX5_becomeLike_70 : decode cX5_becomeLike 70 = .ok (.getfield 18, 3) := by decide +kernel
theorem dX5_becomeLike_73 : decode cX5_becomeLike 73 = .ok (.invokevirtual 35, 3) := by decide +kernel
theorem dX5_becomeLike_76 : decode cX5_becomeLike 76 = .ok (.if_icmp .ge 34, 3) := by decide +kernel
theorem dX5_becomeLike_79 : decode cX5_becomeLike 79 = .ok (.aload_n 0, 1) := by decide +kernel
theorem dX5_becomeLike_80 : decode cX5_becomeLike 80 = .ok (.getfield 18, 3) := by decide +kernel
theorem dX5_becomeLike_83 : decode cX5_becomeLike 83 = .ok (.iload_n 2, 1) := by decide +kernel
theorem dX5_becomeLike_84 : decode cX5_becomeLike 84 = .ok (.invokevirtual 41, 3) := by decide +kernel
theorem dX5_becomeLike_87 : decode cX5_becomeLike 87 = .ok (.checkcast 39, 3) := by decide +kernel
theorem dX5_becomeLike_90 : decode cX5_becomeLike 90 = .ok (.aload_n 1, 1) := by decide +kernel
theorem dX5_becomeLike_91 : decode cX5_becomeLike 91 = .ok (.getfield 18, 3) := by decide +kernel
theorem dX5_becomeLike_94 : decode cX5_becomeLike 94 = .ok (.iload_n 2, 1) := by decide +kernel
theorem dX5_becomeLike_95 : decode cX5_becomeLike 95 = .ok (.invokevirtual 41, 3) := by decide +kernel
theorem dX5_becomeLike_98 : decode cX5_becomeLike 98 = .ok (.checkcast 39, 3) := by decide +kernel
theorem dX5_becomeLike_101 : decode cX5_becomeLike 101 = .ok (.invokevirtual 258, 3) := by decide +kernel
theorem dX5_becomeLike_104 : decode cX5_becomeLike 104 = .ok (.iinc 2 1, 3) := by decide +kernel
theorem dX5_becomeLike_107 : decode cX5_becomeLike 107 = .ok (.goto (-50), 3) := by decide +kernel
theorem dX5_becomeLike_110 : decode cX5_becomeLike 110 = .ok (.aload_n 0, 1) := by decide +kernel
theorem dX5_becomeLike_111 : decode cX5_becomeLike 111 = .ok (.getfield 27, 3) := by decide +kernel
theorem dX5_becomeLike_114 : decode cX5_becomeLike 114 = .ok (.aload_n 1, 1) := by decide +kernel
theorem dX5_becomeLike_115 : decode cX5_becomeLike 115 = .ok (.getfield 27, 3) := by decide +kernel
theorem dX5_becomeLike_118 : decode cX5_becomeLike 118 = .ok (.invokevirtual 261, 3) := by decide +kernel
theorem dX5_becomeLike_121 : decode cX5_becomeLike 121 = .ok (.aload_n 0, 1) := by decide +kernel
theorem dX5_becomeLike_122 : decode cX5_becomeLike 122 = .ok (.aload_n 1, 1) := by decide +kernel
theorem dX5_becomeLike_123 : decode cX5_becomeLike 123 = .ok (.getfield 62, 3) := by decide +kernel
theorem dX5_becomeLike_126 : decode cX5_becomeLike 126 = .ok (.putfield 62, 3) := by decide +kernel
theorem dX5_becomeLike_129 : decode cX5_becomeLike 129 = .ok (.aload_n 0, 1) := by decide +kernel
theorem dX5_becomeLike_130 : decode cX5_becomeLike 130 = .ok (.aload_n 1, 1) := by decide +kernel
theorem dX5_becomeLike_131 : decode cX5_becomeLike 131 = .ok (.getfield 31, 3) := by decide +kernel
theorem dX5_becomeLike_134 : decode cX5_becomeLike 134 = .ok (.putfield 31, 3) := by decide +kernel
theorem dX5_becomeLike_137 : decode cX5_becomeLike 137 = .ok (.aload_n 0, 1) := by decide +kernel
theorem dX5_becomeLike_138 : decode cX5_becomeLike 138 = .ok (.aload_n 1, 1) := by decide +kernel
theorem dX5_becomeLike_139 : decode cX5_becomeLike 139 = .ok (.getfield 206, 3) := by decide +kernel
theorem dX5_becomeLike_142 : decode cX5_becomeLike 142 = .ok (.putfield 206, 3) := by decide +kernel
theorem dX5_becomeLike_145 : decode cX5_becomeLike 145 = .ok (.aload_n 0, 1) := by decide +kernel
theorem dX5_becomeLike_146 : decode cX5_becomeLike 146 = .ok (.aload_n 1, 1) := by decide +kernel
theorem dX5_becomeLike_147 : decode cX5_becomeLike 147 = .ok (.getfield 144, 3) := by decide +kernel
theorem dX5_becomeLike_150 : decode cX5_becomeLike 150 = .ok (.putfield 144, 3) := by decide +kernel
theorem dX5_becomeLike_153 : decode cX5_becomeLike 153 = .ok (.aload_n 0, 1) := by decide +kernel
theorem dX5_becomeLike_154 : decode cX5_becomeLike 154 = .ok (.aload_n 1, 1) := by decide +kernel
theorem dX5_becomeLike_155 : decode cX5_becomeLike 155 = .ok (.getfield 138, 3) := by decide +kernel
theorem dX5_becomeLike_158 : decode cX5_becomeLike 158 = .ok (.putfield 138, 3) := by decide +kernel
theorem dX5_becomeLike_161 : decode cX5_becomeLike 161 = .ok (.aload_n 0, 1) := by decide +kernel
theorem dX5_becomeLike_162 : decode cX5_becomeLike 162 = .ok (.aload_n 1, 1) := by decide +kernel
theorem dX5_becomeLike_163 : decode cX5_becomeLike 163 = .ok (.getfield 173, 3) := by decide +kernel
theorem dX5_becomeLike_166 : decode cX5_becomeLike 166 = .ok (.putfield 173, 3) := by decide +kernel
theorem dX5_becomeLike_169 : decode cX5_becomeLike 169 = .ok (.aload_n 0, 1) := by decide +kernel
theorem dX5_becomeLike_170 : decode cX5_becomeLike 170 = .ok (.aload_n 1, 1) := by decide +kernel
theorem dX5_becomeLike_171 : decode cX5_becomeLike 171 = .ok (.getfield 191, 3) := by decide +kernel
theorem dX5_becomeLike_174 : decode cX5_becomeLike 174 = .ok (.putfield 191, 3) := by decide +kernel
theorem dX5_becomeLike_177 : decode cX5_becomeLike 177 = .ok (.aload_n 0, 1) := by decide +kernel
theorem dX5_becomeLike_178 : decode cX5_becomeLike 178 = .ok (.aload_n 1, 1) := by decide +kernel
theorem dX5_becomeLike_179 : decode cX5_becomeLike 179 = .ok (.getfield 194, 3) := by decide +kernel
theorem dX5_becomeLike_182 : decode cX5_becomeLike 182 = .ok (.putfield 194, 3) := by decide +kernel
theorem dX5_becomeLike_185 : decode cX5_becomeLike 185 = .ok (.aload_n 0, 1) := by decide +kernel
theorem dX5_becomeLike_186 : decode cX5_becomeLike 186 = .ok (.aload_n 1, 1) := by decide +kernel
theorem dX5_becomeLike_187 : decode cX5_becomeLike 187 = .ok (.getfield 248, 3) := by decide +kernel
theorem dX5_becomeLike_190 : decode cX5_becomeLike 190 = .ok (.putfield 248, 3) := by decide +kernel
theorem dX5_becomeLike_193 : decode cX5_becomeLike 193 = .ok (.aload_n 0, 1) := by decide +kernel
theorem dX5_becomeLike_194 : decode cX5_becomeLike 194 = .ok (.aload_n 1, 1) := by decide +kernel
theorem dX5_becomeLike_195 : decode cX5_becomeLike 195 = .ok (.getfield 251, 3) := by decide +kernel
theorem dX5_becomeLike_198 : decode cX5_becomeLike 198 = .ok (.putfield 251, 3) := by decide +kernel
theorem dX5_becomeLike_201 : decode cX5_becomeLike 201 = .ok (.aload_n 0, 1) := by decide +kernel
theorem dX5_becomeLike_202 : decode cX5_becomeLike 202 = .ok (.aload_n 1, 1) := by decide +kernel
theorem dX5_becomeLike_203 : decode cX5_becomeLike 203 = .ok (.getfield 65, 3) := by decide +kernel
theorem dX5_becomeLike_206 : decode cX5_becomeLike 206 = .ok (.putfield 65, 3) := by decide +kernel
theorem dX5_becomeLike_209 : decode cX5_becomeLike 209 = .ok (.return_, 1) := by decide +kernel
theorem dX6_init_0 : decode cX6_init 0 = .ok (.aload_n 0, 1) := by decide +kernel
theorem dX6_init_1 : decode cX6_init 1 = .ok (.invokespecial 1, 3) := by decide +kernel
theorem dX6_init_4 : decode cX6_init 4 = .ok (.aload_n 0, 1) := by decide +kernel
theorem dX6_init_5 : decode cX6_init 5 = .ok (.iload_n 1, 1) := by decide +kernel
theorem dX6_init_6 : decode cX6_init 6 = .ok (.putfield 7, 3) := by decide +kernel
theorem dX6_init_9 : decode cX6_init 9 = .ok (.aload_n 0, 1) := by decide +kernel
theorem dX6_init_10 : decode cX6_init 10 = .ok (.iload_n 2, 1) := by decide +kernel
theorem dX6_init_11 : decode cX6_init 11 = .ok (.putfield 13, 3) := by decide +kernel
theorem dX6_init_14 : decode cX6_init 14 = .ok (.aload_n 0, 1) := by decide +kernel
theorem dX6_init_15 : decode cX6_init 15 = .ok (.iload_n 3, 1) := by decide +kernel
theorem dX6_init_16 : decode cX6_init 16 = .ok (.putfield 16, 3) := by decide +kernel
theorem dX6_init_19 : decode cX6_init 19 = .ok (.return_, 1) := by decide +kernel
theorem dX6_names_0 : decode cX6_names 0 = .ok (.aload_n 0, 1) := by decide +kernel
theorem dX6_names_1 : decode cX6_names 1 = .ok (.getfield 13, 3) := by decide +kernel
theorem dX6_names_4 : decode cX6_names 4 = .ok (.iload_n 1, 1) := by decide +kernel
theorem dX6_names_5 : decode cX6_names 5 = .ok (.ishr, 1) := by decide +kernel
theorem dX6_names_6 : decode cX6_names 6 = .ok (.iconst 1, 1) := by decide +kernel
theorem dX6_names_7 : decode cX6_names 7 = .ok (.iand, 1) := by decide +kernel
theorem dX6_names_8 : decode cX6_names 8 = .ok (.iconst 1, 1) := by decide +kernel
theorem dX6_names_9 : decode cX6_names 9 = .ok (.if_icmp .ne 7, 3) := by decide +kernel
theorem dX6_names_12 : decode cX6_names 12 = .ok (.iconst 1, 1) := by decide +kernel
theorem dX6_names_13 : decode cX6_names 13 = .ok (.goto 4, 3) := by decide +kernel
theorem dX6_names_16 : decode cX6_names 16 = .ok (.iconst 0, 1) := by decide +kernel
theorem dX6_names_17 : decode cX6_names 17 = .ok (.ireturn, 1) := by decide +kernel
theorem dX7_init_0 : decode cX7_init 0 = .ok (.aload_n 0, 1) := by decide +kernel
theorem dX7_init_1 : decode cX7_init 1 = .ok (.invokespecial 1, 3) := by decide +kernel
theorem dX7_init_4 : decode cX7_init 4 = .ok (.aload_n 0, 1) := by decide +kernel
theorem dX7_init_5 : decode cX7_init 5 = .ok (.new 7, 3) := by decide +kernel
theorem dX7_init_8 : decode cX7_init 8 = .ok (.dup, 1) := by decide +kernel
theorem dX7_init_9 : decode cX7_init 9 = .ok (.invokespecial 9, 3) := by decide +kernel
theorem dX7_init_12 : decode cX7_init 12 = .ok (.putfield 10, 3) := by decide +kernel
theorem dX7_init_15 : decode cX7_init 15 = .ok (.aload_n 0, 1) := by decide +kernel
theorem dX7_init_16 : decode cX7_init 16 = .ok (.new 16, 3) := by decide +kernel
theorem dX7_init_19 : decode cX7_init 19 = .ok (.dup, 1) := by decide +kernel
theorem dX7_init_20 : decode cX7_init 20 = .ok (.invokespecial 18, 3) := by decide +kernel
theorem dX7_init_23 : decode cX7_init 23 = .ok (.putfield 19, 3) := by decide +kernel
theorem dX7_init_26 : decode cX7_init 26 = .ok (.aload_n 0, 1) := by decide +kernel
theorem dX7_init_27 : decode cX7_init 27 = .ok (.new 16, 3) := by decide +kernel
theorem dX7_init_30 : decode cX7_init 30 = .ok (.dup, 1) := by decide +kernel
theorem dX7_init_31 : decode cX7_init 31 = .ok (.invokespecial 18, 3) := by decide +kernel
theorem dX7_init_34 : decode cX7_init 34 = .ok (.putfield 23, 3) := by decide +kernel
theorem dX7_init_37 : decode cX7_init 37 = .ok (.return_, 1) := by decide +kernel
theorem dX7_pump_0 : decode cX7_pump 0 = .ok (.iload_n 1, 1) := by decide +kernel
theorem dX7_pump_1 : decode cX7_pump 1 = .ok (.bipush 10, 2) := by decide +kernel
theorem dX7_pump_3 : decode cX7_pump 3 = .ok (.if_icmp .lt 9, 3) := by decide +kernel
theorem dX7_pump_6 : decode cX7_pump 6 = .ok (.iload_n 1, 1) := by decide +kernel
theorem dX7_pump_7 : decode cX7_pump 7 = .ok (.bipush 60, 2) := by decide +kernel
theorem dX7_pump_9 : decode cX7_pump 9 = .ok (.if_icmp .le 13, 3) := by decide +kernel
theorem dX7_pump_12 : decode cX7_pump 12 = .ok (.new 26, 3) := by decide +kernel
theorem dX7_pump_15 : decode cX7_pump 15 = .ok (.dup, 1) := by decide +kernel
theorem dX7_pump_16 : decode cX7_pump 16 = .ok (.ldc 28, 2) := by decide +kernel
theorem dX7_pump_18 : decode cX7_pump 18 = .ok (.invokespecial 30, 3) := by decide +kernel
theorem dX7_pump_21 : decode cX7_pump 21 = .ok (.athrow, 1) := by decide +kernel
theorem dX7_pump_22 : decode cX7_pump 22 = .ok (.aload_n 0, 1) := by decide +kernel
theorem dX7_pump_23 : decode cX7_pump 23 = .ok (.getfield 19, 3) := by decide +kernel
theorem dX7_pump_26 : decode cX7_pump 26 = .ok (.getfield 33, 3) := by decide +kernel
theorem dX7_pump_29 : decode cX7_pump 29 = .ok (.invokevirtual 36, 3) := by decide +kernel
theorem dX7_pump_32 : decode cX7_pump 32 = .ok (.istore_n 2, 1) := by decide +kernel
theorem dX7_pump_33 : decode cX7_pump 33 = .ok (.iload_n 2, 1) := by decide +kernel
theorem dX7_pump_34 : decode cX7_pump 34 = .ok (.iconst 3, 1) := by decide +kernel
theorem dX7_pump_35 : decode cX7_pump 35 = .ok (.if_icmp .lt 13, 3) := by decide +kernel
theorem dX7_pump_38 : decode cX7_pump 38 = .ok (.new 40, 3) := by decide +kernel
theorem dX7_pump_41 : decode cX7_pump 41 = .ok (.dup, 1) := by decide +kernel
theorem dX7_pump_42 : decode cX7_pump 42 = .ok (.ldc 42, 2) := by decide +kernel
theorem dX7_pump_44 : decode cX7_pump 44 = .ok (.invokespecial 44, 3) := by decide +kernel
theorem dX7_pump_47 : decode cX7_pump 47 = .ok (.athrow, 1) := by decide +kernel
theorem dX7_pump_48 : decode cX7_pump 48 = .ok (.aload_n 0, 1) := by decide +kernel
theorem dX7_pump_49 : decode cX7_pump 49 = .ok (.getfield 19, 3) := by decide +kernel
theorem dX7_pump_52 : decode cX7_pump 52 = .ok (.getfield 33, 3) := by decide +kernel
theorem dX7_pump_55 : decode cX7_pump 55 = .ok (.new 45, 3) := by decide +kernel
theorem dX7_pump_58 : decode cX7_pump 58 = .ok (.dup, 1) := by decide +kernel
theorem dX7_pump_59 : decode cX7_pump 59 = .ok (.iload_n 2, 1) := by decide +kernel
theorem dX7_pump_60 : decode cX7_pump 60 = .ok (.iload_n 1, 1) := by decide +kernel
theorem dX7_pump_61 : decode cX7_pump 61 = .ok (.invokespecial 47, 3) := by decide +kernel
theorem dX7_pump_64 : decode cX7_pump 64 = .ok (.invokevirtual 50, 3) := by decide +kernel
theorem dX7_pump_67 : decode cX7_pump 67 = .ok (.pop, 1) := by decide +kernel
theorem dX7_pump_68 : decode cX7_pump 68 = .ok (.aload_n 0, 1) := by decide +kernel
theorem dX7_pump_69 : decode cX7_pump 69 = .ok (.getfield 23, 3) := by decide +kernel
theorem dX7_pump_72 : decode cX7_pump 72 = .ok (.getfield 33, 3) := by decide +kernel
theorem dX7_pump_75 : decode cX7_pump 75 = .ok (.new 45, 3) := by decide +kernel
theorem dX7_pump_78 : decode cX7_pump 78 = .ok (.dup, 1) := by decide +kernel
theorem dX7_pump_79 : decode cX7_pump 79 = .ok (.iload_n 2, 1) := by decide +kernel
theorem dX7_pump_80 : decode cX7_pump 80 = .ok (.iload_n 1, 1) := by decide +kernel
theorem dX7_pump_81 : decode cX7_pump 81 = .ok (.invokespecial 47, 3) := by decide +kernel
theorem dX7_pump_84 : decode cX7_pump 84 = .ok (.invokevirtual 50, 3) := by decide +kernel
theorem dX7_pump_87 : decode cX7_pump 87 = .ok (.pop, 1) := by decide +kernel
theorem dX7_pump_88 : decode cX7_pump 88 = .ok (.iload_n 2, 1) := by decide +kernel
theorem dX7_pump_89 : decode cX7_pump 89 = .ok (.ireturn, 1) := by decide +kernel
theorem dX7_jet_0 : decode cX7_jet 0 = .ok (.aload_n 0, 1) := by decide +kernel
theorem dX7_jet_1 : decode cX7_jet 1 = .ok (.iload_n 1, 1) := by decide +kernel
theorem dX7_jet_2 : decode cX7_jet 2 = .ok (.invokevirtual 54, 3) := by decide +kernel
theorem dX7_jet_5 : decode cX7_jet 5 = .ok (.pop, 1) := by decide +kernel
theorem dX7_jet_6 : decode cX7_jet 6 = .ok (.iload_n 2, 1) := by decide +kernel
theorem dX7_jet_7 : decode cX7_jet 7 = .ok (.ifCond .lt 32, 3) := by decide +kernel
theorem dX7_jet_10 : decode cX7_jet 10 = .ok (.iload_n 2, 1) := by decide +kernel
theorem dX7_jet_11 : decode cX7_jet 11 = .ok (.bipush 19, 2) := by decide +kernel
theorem dX7_jet_13 : decode cX7_jet 13 = .ok (.if_icmp .gt 26, 3) := by decide +kernel
theorem dX7_jet_16 : decode cX7_jet 16 = .ok (.iload_n 3, 1) := by decide +kernel
theorem dX7_jet_17 : decode cX7_jet 17 = .ok (.iconst 1, 1) := by decide +kernel
theorem dX7_jet_18 : decode cX7_jet 18 = .ok (.if_icmp .lt 21, 3) := by decide +kernel
theorem dX7_jet_21 : decode cX7_jet 21 = .ok (.iload_n 3, 1) := by decide +kernel
theorem dX7_jet_22 : decode cX7_jet 22 = .ok (.iconst 5, 1) := by decide +kernel
theorem dX7_jet_23 : decode cX7_jet 23 = .ok (.if_icmp .gt 16, 3) := by decide +kernel
theorem dX7_jet_26 : decode cX7_jet 26 = .ok (.iload 4, 2) := by decide +kernel
theorem dX7_jet_28 : decode cX7_jet 28 = .ok (.bipush (-3), 2) := by decide +kernel
theorem dX7_jet_30 : decode cX7_jet 30 = .ok (.if_icmp .lt 9, 3) := by decide +kernel
theorem dX7_jet_33 : decode cX7_jet 33 = .ok (.iload 4, 2) := by decide +kernel
theorem dX7_jet_35 : decode cX7_jet 35 = .ok (.iconst 3, 1) := by decide +kernel
theorem dX7_jet_36 : decode cX7_jet 36 = .ok (.if_icmp .le 13, 3) := by decide +kernel
theorem dX7_jet_39 : decode cX7_jet 39 = .ok (.new 26, 3) := by decide +kernel
theorem dX7_jet_42 : decode cX7_jet 42 = .ok (.dup, 1) := by decide +kernel
theorem dX7_jet_43 : decode cX7_jet 43 = .ok (.ldc 58, 2) := by decide +kernel
theorem dX7_jet_45 : decode cX7_jet 45 = .ok (.invokespecial 30, 3) := by decide +kernel
theorem dX7_jet_48 : decode cX7_jet 48 = .ok (.athrow, 1) := by decide +kernel
theorem dX7_jet_49 : decode cX7_jet 49 = .ok (.aload_n 0, 1) := by decide +kernel
theorem dX7_jet_50 : decode cX7_jet 50 = .ok (.getfield 19, 3) := by decide +kernel
theorem dX7_jet_53 : decode cX7_jet 53 = .ok (.getfield 60, 3) := by decide +kernel
theorem dX7_jet_56 : decode cX7_jet 56 = .ok (.invokevirtual 36, 3) := by decide +kernel
theorem dX7_jet_59 : decode cX7_jet 59 = .ok (.istore 5, 2) := by decide +kernel
theorem dX7_jet_61 : decode cX7_jet 61 = .ok (.iload 5, 2) := by decide +kernel
theorem dX7_jet_63 : decode cX7_jet 63 = .ok (.bipush 10, 2) := by decide +kernel
theorem dX7_jet_65 : decode cX7_jet 65 = .ok (.if_icmp .lt 13, 3) := by decide +kernel
theorem dX7_jet_68 : decode cX7_jet 68 = .ok (.new 40, 3) := by decide +kernel
theorem dX7_jet_71 : decode cX7_jet 71 = .ok (.dup, 1) := by decide +kernel
theorem dX7_jet_72 : decode cX7_jet 72 = .ok (.ldc 63, 2) := by decide +kernel
theorem dX7_jet_74 : decode cX7_jet 74 = .ok (.invokespecial 44, 3) := by decide +kernel
theorem dX7_jet_77 : decode cX7_jet 77 = .ok (.athrow, 1) := by decide +kernel
theorem dX7_jet_78 : decode cX7_jet 78 = .ok (.aload_n 0, 1) := by decide +kernel
theorem dX7_jet_79 : decode cX7_jet 79 = .ok (.getfield 19, 3) := by decide +kernel
theorem dX7_jet_82 : decode cX7_jet 82 = .ok (.iload_n 1, 1) := by decide +kernel
theorem dX7_jet_83 : decode cX7_jet 83 = .ok (.iload_n 2, 1) := by decide +kernel
theorem dX7_jet_84 : decode cX7_jet 84 = .ok (.iload_n 3, 1) := by decide +kernel
theorem dX7_jet_85 : decode cX7_jet 85 = .ok (.iload 4, 2) := by decide +kernel
theorem dX7_jet_87 : decode cX7_jet 87 = .ok (.invokevirtual 65, 3) := by decide +kernel
theorem dX7_jet_90 : decode cX7_jet 90 = .ok (.aload_n 0, 1) := by decide +kernel
theorem dX7_jet_91 : decode cX7_jet 91 = .ok (.getfield 23, 3) := by decide +kernel
theorem dX7_jet_94 : decode cX7_jet 94 = .ok (.iload_n 1, 1) := by decide +kernel
theorem dX7_jet_95 : decode cX7_jet 95 = .ok (.iload_n 2, 1) := by decide +kernel
theorem dX7_jet_96 : decode cX7_jet 96 = .ok (.iload_n 3, 1) := by decide +kernel
theorem dX7_jet_97 : decode cX7_jet 97 = .ok (.iload 4, 2) := by decide +kernel
theorem dX7_jet_99 : decode cX7_jet 99 = .ok (.invokevirtual 65, 3) := by decide +kernel
theorem dX7_jet_102 : decode cX7_jet 102 = .ok (.iload 5, 2) := by decide +kernel
theorem dX7_jet_104 : decode cX7_jet 104 = .ok (.ireturn, 1) := by decide +kernel
theorem dX7_figure_0 : decode cX7_figure 0 = .ok (.aload_n 0, 1) := by decide +kernel
theorem dX7_figure_1 : decode cX7_figure 1 = .ok (.getfield 10, 3) := by decide +kernel
theorem dX7_figure_4 : decode cX7_figure 4 = .ok (.invokevirtual 36, 3) := by decide +kernel
theorem dX7_figure_7 : decode cX7_figure 7 = .ok (.istore_n 1, 1) := by decide +kernel
theorem dX7_figure_8 : decode cX7_figure 8 = .ok (.iload_n 1, 1) := by decide +kernel
theorem dX7_figure_9 : decode cX7_figure 9 = .ok (.iconst 5, 1) := by decide +kernel
theorem dX7_figure_10 : decode cX7_figure 10 = .ok (.if_icmp .lt 13, 3) := by decide +kernel
theorem dX7_figure_13 : decode cX7_figure 13 = .ok (.new 40, 3) := by decide +kernel
theorem dX7_figure_16 : decode cX7_figure 16 = .ok (.dup, 1) := by decide +kernel
theorem dX7_figure_17 : decode cX7_figure 17 = .ok (.ldc 69, 2) := by decide +kernel
theorem dX7_figure_19 : decode cX7_figure 19 = .ok (.invokespecial 44, 3) := by decide +kernel
theorem dX7_figure_22 : decode cX7_figure 22 = .ok (.athrow, 1) := by decide +kernel
theorem dX7_figure_23 : decode cX7_figure 23 = .ok (.aload_n 0, 1) := by decide +kernel
theorem dX7_figure_24 : decode cX7_figure 24 = .ok (.getfield 10, 3) := by decide +kernel
theorem dX7_figure_27 : decode cX7_figure 27 = .ok (.new 71, 3) := by decide +kernel
theorem dX7_figure_30 : decode cX7_figure 30 = .ok (.dup, 1) := by decide +kernel
theorem dX7_figure_31 : decode cX7_figure 31 = .ok (.invokespecial 73, 3) := by decide +kernel
theorem dX7_figure_34 : decode cX7_figure 34 = .ok (.invokevirtual 50, 3) := by decide +kernel
theorem dX7_figure_37 : decode cX7_figure 37 = .ok (.pop, 1) := by decide +kernel
theorem dX7_figure_38 : decode cX7_figure 38 = .ok (.iload_n 1, 1) := by decide +kernel
theorem dX7_figure_39 : decode cX7_figure 39 = .ok (.ireturn, 1) := by decide +kernel
theorem dX7_step_0 : decode cX7_step 0 = .ok (.aload_n 0, 1) := by decide +kernel
theorem dX7_step_1 : decode cX7_step 1 = .ok (.iload_n 1, 1) := by decide +kernel
theorem dX7_step_2 : decode cX7_step 2 = .ok (.invokevirtual 74, 3) := by decide +kernel
theorem dX7_step_5 : decode cX7_step 5 = .ok (.astore 5, 2) := by decide +kernel
theorem dX7_step_7 : decode cX7_step 7 = .ok (.iload_n 2, 1) := by decide +kernel
theorem dX7_step_8 : decode cX7_step 8 = .ok (.ifCond .lt 29, 3) := by decide +kernel
theorem dX7_step_11 : decode cX7_step 11 = .ok (.iload_n 2, 1) := by decide +kernel
theorem dX7_step_12 : decode cX7_step 12 = .ok (.bipush 99, 2) := by decide +kernel
theorem dX7_step_14 : decode cX7_step 14 = .ok (.if_icmp .gt 23, 3) := by decide +kernel
theorem dX7_step_17 : decode cX7_step 17 = .ok (.iload_n 3, 1) := by decide +kernel
theorem dX7_step_18 : decode cX7_step 18 = .ok (.iconst 1, 1) := by decide +kernel
theorem dX7_step_19 : decode cX7_step 19 = .ok (.if_icmp .lt 18, 3) := by decide +kernel
theorem dX7_step_22 : decode cX7_step 22 = .ok (.iload_n 3, 1) := by decide +kernel
theorem dX7_step_23 : decode cX7_step 23 = .ok (.sipush 1023, 3) := by decide +kernel
theorem dX7_step_26 : decode cX7_step 26 = .ok (.if_icmp .gt 11, 3) := by decide +kernel
theorem dX7_step_29 : decode cX7_step 29 = .ok (.iload 4, 2) := by decide +kernel
theorem dX7_step_31 : decode cX7_step 31 = .ok (.invokestatic 78, 3) := by decide +kernel
theorem dX7_step_34 : decode cX7_step 34 = .ok (.ifCond .ne 13, 3) := by decide +kernel
theorem dX7_step_37 : decode cX7_step 37 = .ok (.new 26, 3) := by decide +kernel
theorem dX7_step_40 : decode cX7_step 40 = .ok (.dup, 1) := by decide +kernel
theorem dX7_step_41 : decode cX7_step 41 = .ok (.ldc 82, 2) := by decide +kernel
theorem dX7_step_43 : decode cX7_step 43 = .ok (.invokespecial 30, 3) := by decide +kernel
theorem dX7_step_46 : decode cX7_step 46 = .ok (.athrow, 1) := by decide +kernel
theorem dX7_step_47 : decode cX7_step 47 = .ok (.aload 5, 2) := by decide +kernel
theorem dX7_step_49 : decode cX7_step 49 = .ok (.getfield 84, 3) := by decide +kernel
theorem dX7_step_52 : decode cX7_step 52 = .ok (.invokevirtual 36, 3) := by decide +kernel
theorem dX7_step_55 : decode cX7_step 55 = .ok (.bipush 8, 2) := by decide +kernel
theorem dX7_step_57 : decode cX7_step 57 = .ok (.if_icmp .lt 13, 3) := by decide +kernel
theorem dX7_step_60 : decode cX7_step 60 = .ok (.new 40, 3) := by decide +kernel
theorem dX7_step_63 : decode cX7_step 63 = .ok (.dup, 1) := by decide +kernel
theorem dX7_step_64 : decode cX7_step 64 = .ok (.ldc 87, 2) := by decide +kernel
theorem dX7_step_66 : decode cX7_step 66 = .ok (.invokespecial 44, 3) := by decide +kernel
theorem dX7_step_69 : decode cX7_step 69 = .ok (.athrow, 1) := by decide +kernel
theorem dX7_step_70 : decode cX7_step 70 = .ok (.aload 5, 2) := by decide +kernel
theorem dX7_step_72 : decode cX7_step 72 = .ok (.getfield 84, 3) := by decide +kernel
theorem dX7_step_75 : decode cX7_step 75 = .ok (.new 89, 3) := by decide +kernel
theorem dX7_step_78 : decode cX7_step 78 = .ok (.dup, 1) := by decide +kernel
theorem dX7_step_79 : decode cX7_step 79 = .ok (.iload_n 2, 1) := by decide +kernel
theorem dX7_step_80 : decode cX7_step 80 = .ok (.iload_n 3, 1) := by decide +kernel
theorem dX7_step_81 : decode cX7_step 81 = .ok (.iload 4, 2) := by decide +kernel
theorem dX7_step_83 : decode cX7_step 83 = .ok (.invokespecial 91, 3) := by decide +kernel
theorem dX7_step_86 : decode cX7_step 86 = .ok (.invokevirtual 50, 3) := by decide +kernel
theorem dX7_step_89 : decode cX7_step 89 = .ok (.pop, 1) := by decide +kernel
theorem dX7_step_90 : decode cX7_step 90 = .ok (.aload 5, 2) := by decide +kernel
theorem dX7_step_92 : decode cX7_step 92 = .ok (.getfield 84, 3) := by decide +kernel
theorem dX7_step_95 : decode cX7_step 95 = .ok (.invokevirtual 36, 3) := by decide +kernel
theorem dX7_step_98 : decode cX7_step 98 = .ok (.ireturn, 1) := by decide +kernel
theorem dX7_wind_0 : decode cX7_wind 0 = .ok (.iload_n 1, 1) := by decide +kernel
theorem dX7_wind_1 : decode cX7_wind 1 = .ok (.bipush (-4), 2) := by decide +kernel
theorem dX7_wind_3 : decode cX7_wind 3 = .ok (.if_icmp .lt 17, 3) := by decide +kernel
theorem dX7_wind_6 : decode cX7_wind 6 = .ok (.iload_n 1, 1) := by decide +kernel
theorem dX7_wind_7 : decode cX7_wind 7 = .ok (.iconst 4, 1) := by decide +kernel
theorem dX7_wind_8 : decode cX7_wind 8 = .ok (.if_icmp .gt 12, 3) := by decide +kernel
theorem dX7_wind_11 : decode cX7_wind 11 = .ok (.iload_n 2, 1) := by decide +kernel
theorem dX7_wind_12 : decode cX7_wind 12 = .ok (.ifCond .lt 8, 3) := by decide +kernel
theorem dX7_wind_15 : decode cX7_wind 15 = .ok (.iload_n 2, 1) := by decide +kernel
theorem dX7_wind_16 : decode cX7_wind 16 = .ok (.iconst 2, 1) := by decide +kernel
theorem dX7_wind_17 : decode cX7_wind 17 = .ok (.if_icmp .le 13, 3) := by decide +kernel
theorem dX7_wind_20 : decode cX7_wind 20 = .ok (.new 26, 3) := by decide +kernel
theorem dX7_wind_23 : decode cX7_wind 23 = .ok (.dup, 1) := by decide +kernel
theorem dX7_wind_24 : decode cX7_wind 24 = .ok (.ldc 94, 2) := by decide +kernel
theorem dX7_wind_26 : decode cX7_wind 26 = .ok (.invokespecial 30, 3) := by decide +kernel
theorem dX7_wind_29 : decode cX7_wind 29 = .ok (.athrow, 1) := by decide +kernel
theorem dX7_wind_30 : decode cX7_wind 30 = .ok (.aload_n 0, 1) := by decide +kernel
theorem dX7_wind_31 : decode cX7_wind 31 = .ok (.getfield 19, 3) := by decide +kernel
theorem dX7_wind_34 : decode cX7_wind 34 = .ok (.getfield 96, 3) := by decide +kernel
theorem dX7_wind_37 : decode cX7_wind 37 = .ok (.istore_n 3, 1) := by decide +kernel
theorem dX7_wind_38 : decode cX7_wind 38 = .ok (.aload_n 0, 1) := by decide +kernel
theorem dX7_wind_39 : decode cX7_wind 39 = .ok (.getfield 19, 3) := by decide +kernel
theorem dX7_wind_42 : decode cX7_wind 42 = .ok (.iload_n 1, 1) := by decide +kernel
theorem dX7_wind_43 : decode cX7_wind 43 = .ok (.putfield 96, 3) := by decide +kernel
theorem dX7_wind_46 : decode cX7_wind 46 = .ok (.aload_n 0, 1) := by decide +kernel
theorem dX7_wind_47 : decode cX7_wind 47 = .ok (.getfield 19, 3) := by decide +kernel
theorem dX7_wind_50 : decode cX7_wind 50 = .ok (.iload_n 2, 1) := by decide +kernel
theorem dX7_wind_51 : decode cX7_wind 51 = .ok (.putfield 100, 3) := by decide +kernel
theorem dX7_wind_54 : decode cX7_wind 54 = .ok (.iload_n 3, 1) := by decide +kernel
theorem dX7_wind_55 : decode cX7_wind 55 = .ok (.ireturn, 1) := by decide +kernel
theorem dX7_valve_0 : decode cX7_valve 0 = .ok (.aload_n 0, 1) := by decide +kernel
theorem dX7_valve_1 : decode cX7_valve 1 = .ok (.iload_n 1, 1) := by decide +kernel
theorem dX7_valve_2 : decode cX7_valve 2 = .ok (.invokevirtual 103, 3) := by decide +kernel
theorem dX7_valve_5 : decode cX7_valve 5 = .ok (.astore_n 3, 1) := by decide +kernel
theorem dX7_valve_6 : decode cX7_valve 6 = .ok (.iload_n 2, 1) := by decide +kernel
theorem dX7_valve_7 : decode cX7_valve 7 = .ok (.ifCond .lt 8, 3) := by decide +kernel
theorem dX7_valve_10 : decode cX7_valve 10 = .ok (.iload_n 2, 1) := by decide +kernel
theorem dX7_valve_11 : decode cX7_valve 11 = .ok (.iconst 4, 1) := by decide +kernel
theorem dX7_valve_12 : decode cX7_valve 12 = .ok (.if_icmp .le 13, 3) := by decide +kernel
theorem dX7_valve_15 : decode cX7_valve 15 = .ok (.new 26, 3) := by decide +kernel
theorem dX7_valve_18 : decode cX7_valve 18 = .ok (.dup, 1) := by decide +kernel
theorem dX7_valve_19 : decode cX7_valve 19 = .ok (.ldc 107, 2) := by decide +kernel
theorem dX7_valve_21 : decode cX7_valve 21 = .ok (.invokespecial 30, 3) := by decide +kernel
theorem dX7_valve_24 : decode cX7_valve 24 = .ok (.athrow, 1) := by decide +kernel
theorem dX7_valve_25 : decode cX7_valve 25 = .ok (.aload_n 0, 1) := by decide +kernel
theorem dX7_valve_26 : decode cX7_valve 26 = .ok (.getfield 19, 3) := by decide +kernel
theorem dX7_valve_29 : decode cX7_valve 29 = .ok (.getfield 109, 3) := by decide +kernel
theorem dX7_valve_32 : decode cX7_valve 32 = .ok (.ifCond .eq 13, 3) := by decide +kernel
theorem dX7_valve_35 : decode cX7_valve 35 = .ok (.new 40, 3) := by decide +kernel
theorem dX7_valve_38 : decode cX7_valve 38 = .ok (.dup, 1) := by decide +kernel
theorem dX7_valve_39 : decode cX7_valve 39 = .ok (.ldc 113, 2) := by decide +kernel
theorem dX7_valve_41 : decode cX7_valve 41 = .ok (.invokespecial 44, 3) := by decide +kernel
theorem dX7_valve_44 : decode cX7_valve 44 = .ok (.athrow, 1) := by decide +kernel
theorem dX7_valve_45 : decode cX7_valve 45 = .ok (.aload_n 3, 1) := by decide +kernel
theorem dX7_valve_46 : decode cX7_valve 46 = .ok (.getfield 115, 3) := by decide +kernel
theorem dX7_valve_49 : decode cX7_valve 49 = .ok (.istore 4, 2) := by decide +kernel
theorem dX7_valve_51 : decode cX7_valve 51 = .ok (.aload_n 3, 1) := by decide +kernel
theorem dX7_valve_52 : decode cX7_valve 52 = .ok (.iload_n 2, 1) := by decide +kernel
theorem dX7_valve_53 : decode cX7_valve 53 = .ok (.putfield 115, 3) := by decide +kernel
theorem dX7_valve_56 : decode cX7_valve 56 = .ok (.iload 4, 2) := by decide +kernel
theorem dX7_valve_58 : decode cX7_valve 58 = .ok (.ireturn, 1) := by decide +kernel
theorem dX7_setting_0 : decode cX7_setting 0 = .ok (.aload_n 0, 1) := by decide +kernel
theorem dX7_setting_1 : decode cX7_setting 1 = .ok (.iload_n 1, 1) := by decide +kernel
theorem dX7_setting_2 : decode cX7_setting 2 = .ok (.invokevirtual 54, 3) := by decide +kernel
theorem dX7_setting_5 : decode cX7_setting 5 = .ok (.astore_n 3, 1) := by decide +kernel
theorem dX7_setting_6 : decode cX7_setting 6 = .ok (.iload_n 2, 1) := by decide +kernel
theorem dX7_setting_7 : decode cX7_setting 7 = .ok (.ifCond .lt 9, 3) := by decide +kernel
theorem dX7_setting_10 : decode cX7_setting 10 = .ok (.iload_n 2, 1) := by decide +kernel
theorem dX7_setting_11 : decode cX7_setting 11 = .ok (.bipush 10, 2) := by decide +kernel
theorem dX7_setting_13 : decode cX7_setting 13 = .ok (.if_icmp .le 13, 3) := by decide +kernel
theorem dX7_setting_16 : decode cX7_setting 16 = .ok (.new 26, 3) := by decide +kernel
theorem dX7_setting_19 : decode cX7_setting 19 = .ok (.dup, 1) := by decide +kernel
theorem dX7_setting_20 : decode cX7_setting 20 = .ok (.ldc 120, 2) := by decide +kernel
theorem dX7_setting_22 : decode cX7_setting 22 = .ok (.invokespecial 30, 3) := by decide +kernel
theorem dX7_setting_25 : decode cX7_setting 25 = .ok (.athrow, 1) := by decide +kernel
theorem dX7_setting_26 : decode cX7_setting 26 = .ok (.aload_n 0, 1) := by decide +kernel
theorem dX7_setting_27 : decode cX7_setting 27 = .ok (.getfield 19, 3) := by decide +kernel
theorem dX7_setting_30 : decode cX7_setting 30 = .ok (.getfield 109, 3) := by decide +kernel
theorem dX7_setting_33 : decode cX7_setting 33 = .ok (.ifCond .ne 10, 3) := by decide +kernel
theorem dX7_setting_36 : decode cX7_setting 36 = .ok (.aload_n 3, 1) := by decide +kernel
theorem dX7_setting_37 : decode cX7_setting 37 = .ok (.getfield 122, 3) := by decide +kernel
theorem dX7_setting_40 : decode cX7_setting 40 = .ok (.ifCond .eq 13, 3) := by decide +kernel
theorem dX7_setting_43 : decode cX7_setting 43 = .ok (.new 40, 3) := by decide +kernel
theorem dX7_setting_46 : decode cX7_setting 46 = .ok (.dup, 1) := by decide +kernel
theorem dX7_setting_47 : decode cX7_setting 47 = .ok (.ldc 125, 2) := by decide +kernel
theorem dX7_setting_49 : decode cX7_setting 49 = .ok (.invokespecial 44, 3) := by decide +kernel
theorem dX7_setting_52 : decode cX7_setting 52 = .ok (.athrow, 1) := by decide +kernel
theorem dX7_setting_53 : decode cX7_setting 53 = .ok (.aload_n 3, 1) := by decide +kernel
theorem dX7_setting_54 : decode cX7_setting 54 = .ok (.getfield 127, 3) := by decide +kernel
theorem dX7_setting_57 : decode cX7_setting 57 = .ok (.istore 4, 2) := by decide +kernel
theorem dX7_setting_59 : decode cX7_setting 59 = .ok (.aload_n 3, 1) := by decide +kernel
theorem dX7_setting_60 : decode cX7_setting 60 = .ok (.iload_n 2, 1) := by decide +kernel
theorem dX7_setting_61 : decode cX7_setting 61 = .ok (.invokevirtual 130, 3) := by decide +kernel
theorem dX7_setting_64 : decode cX7_setting 64 = .ok (.iload 4, 2) := by decide +kernel
theorem dX7_setting_66 : decode cX7_setting 66 = .ok (.ireturn, 1) := by decide +kernel
theorem dX7_reset_0 : decode cX7_reset 0 = .ok (.aload_n 0, 1) := by decide +kernel
theorem dX7_reset_1 : decode cX7_reset 1 = .ok (.iload_n 1, 1) := by decide +kernel
theorem dX7_reset_2 : decode cX7_reset 2 = .ok (.invokevirtual 54, 3) := by decide +kernel
theorem dX7_reset_5 : decode cX7_reset 5 = .ok (.astore_n 2, 1) := by decide +kernel
theorem dX7_reset_6 : decode cX7_reset 6 = .ok (.aload_n 2, 1) := by decide +kernel
theorem dX7_reset_7 : decode cX7_reset 7 = .ok (.getfield 122, 3) := by decide +kernel
theorem dX7_reset_10 : decode cX7_reset 10 = .ok (.ifCond .eq 16, 3) := by decide +kernel
theorem dX7_reset_13 : decode cX7_reset 13 = .ok (.aload_n 0, 1) := by decide +kernel
theorem dX7_reset_14 : decode cX7_reset 14 = .ok (.getfield 19, 3) := by decide +kernel
theorem dX7_reset_17 : decode cX7_reset 17 = .ok (.getfield 134, 3) := by decide +kernel
theorem dX7_reset_20 : decode cX7_reset 20 = .ok (.sipush 300, 3) := by decide +kernel
theorem dX7_reset_23 : decode cX7_reset 23 = .ok (.if_icmp .ge 13, 3) := by decide +kernel
theorem dX7_reset_26 : decode cX7_reset 26 = .ok (.new 40, 3) := by decide +kernel
theorem dX7_reset_29 : decode cX7_reset 29 = .ok (.dup, 1) := by decide +kernel
theorem dX7_reset_30 : decode cX7_reset 30 = .ok (.ldc 137, 2) := by decide +kernel
theorem dX7_reset_32 : decode cX7_reset 32 = .ok (.invokespecial 44, 3) := by decide +kernel
theorem dX7_reset_35 : decode cX7_reset 35 = .ok (.athrow, 1) := by decide +kernel
theorem dX7_reset_36 : decode cX7_reset 36 = .ok (.aload_n 2, 1) := by decide +kernel
theorem dX7_reset_37 : decode cX7_reset 37 = .ok (.iconst 0, 1) := by decide +kernel
theorem dX7_reset_38 : decode cX7_reset 38 = .ok (.putfield 122, 3) := by decide +kernel
theorem dX7_reset_41 : decode cX7_reset 41 = .ok (.aload_n 2, 1) := by decide +kernel
theorem dX7_reset_42 : decode cX7_reset 42 = .ok (.getfield 139, 3) := by decide +kernel
theorem dX7_reset_45 : decode cX7_reset 45 = .ok (.ireturn, 1) := by decide +kernel
theorem dX7_lamp_0 : decode cX7_lamp 0 = .ok (.aload_n 0, 1) := by decide +kernel
theorem dX7_lamp_1 : decode cX7_lamp 1 = .ok (.iload_n 1, 1) := by decide +kernel
theorem dX7_lamp_2 : decode cX7_lamp 2 = .ok (.invokevirtual 103, 3) := by decide +kernel
theorem dX7_lamp_5 : decode cX7_lamp 5 = .ok (.astore_n 3, 1) := by decide +kernel
theorem dX7_lamp_6 : decode cX7_lamp 6 = .ok (.aload_n 3, 1) := by decide +kernel
theorem dX7_lamp_7 : decode cX7_lamp 7 = .ok (.getfield 142, 3) := by decide +kernel
theorem dX7_lamp_10 : decode cX7_lamp 10 = .ok (.istore 4, 2) := by decide +kernel
theorem dX7_lamp_12 : decode cX7_lamp 12 = .ok (.aload_n 3, 1) := by decide +kernel
theorem dX7_lamp_13 : decode cX7_lamp 13 = .ok (.iload_n 2, 1) := by decide +kernel
theorem dX7_lamp_14 : decode cX7_lamp 14 = .ok (.putfield 142, 3) := by decide +kernel
theorem dX7_lamp_17 : decode cX7_lamp 17 = .ok (.iload 4, 2) := by decide +kernel
theorem dX7_lamp_19 : decode cX7_lamp 19 = .ok (.ireturn, 1) := by decide +kernel
theorem dX7_fault_0 : decode cX7_fault 0 = .ok (.aload_n 0, 1) := by decide +kernel
theorem dX7_fault_1 : decode cX7_fault 1 = .ok (.iload_n 1, 1) := by decide +kernel
theorem dX7_fault_2 : decode cX7_fault 2 = .ok (.invokevirtual 103, 3) := by decide +kernel
theorem dX7_fault_5 : decode cX7_fault 5 = .ok (.astore 4, 2) := by decide +kernel
theorem dX7_fault_7 : decode cX7_fault 7 = .ok (.aload 4, 2) := by decide +kernel
theorem dX7_fault_9 : decode cX7_fault 9 = .ok (.getfield 145, 3) := by decide +kernel
theorem dX7_fault_12 : decode cX7_fault 12 = .ok (.istore 5, 2) := by decide +kernel
theorem dX7_fault_14 : decode cX7_fault 14 = .ok (.aload 4, 2) := by decide +kernel
theorem dX7_fault_16 : decode cX7_fault 16 = .ok (.iload_n 2, 1) := by decide +kernel
theorem dX7_fault_17 : decode cX7_fault 17 = .ok (.putfield 145, 3) := by decide +kernel
theorem dX7_fault_20 : decode cX7_fault 20 = .ok (.aload 4, 2) := by decide +kernel
theorem dX7_fault_22 : decode cX7_fault 22 = .ok (.iload_n 3, 1) := by decide +kernel
theorem dX7_fault_23 : decode cX7_fault 23 = .ok (.putfield 148, 3) := by decide +kernel
theorem dX7_fault_26 : decode cX7_fault 26 = .ok (.iload 5, 2) := by decide +kernel
theorem dX7_fault_28 : decode cX7_fault 28 = .ok (.ireturn, 1) := by decide +kernel
theorem dX7_swim_0 : decode cX7_swim 0 = .ok (.aload_n 0, 1) := by decide +kernel
theorem dX7_swim_1 : decode cX7_swim 1 = .ok (.getfield 19, 3) := by decide +kernel
theorem dX7_swim_4 : decode cX7_swim 4 = .ok (.getfield 109, 3) := by decide +kernel
theorem dX7_swim_7 : decode cX7_swim 7 = .ok (.istore_n 2, 1) := by decide +kernel
theorem dX7_swim_8 : decode cX7_swim 8 = .ok (.aload_n 0, 1) := by decide +kernel
theorem dX7_swim_9 : decode cX7_swim 9 = .ok (.getfield 19, 3) := by decide +kernel
theorem dX7_swim_12 : decode cX7_swim 12 = .ok (.iload_n 1, 1) := by decide +kernel
theorem dX7_swim_13 : decode cX7_swim 13 = .ok (.putfield 109, 3) := by decide +kernel
theorem dX7_swim_16 : decode cX7_swim 16 = .ok (.iload_n 1, 1) := by decide +kernel
theorem dX7_swim_17 : decode cX7_swim 17 = .ok (.ifCond .eq 10, 3) := by decide +kernel
theorem dX7_swim_20 : decode cX7_swim 20 = .ok (.aload_n 0, 1) := by decide +kernel
theorem dX7_swim_21 : decode cX7_swim 21 = .ok (.getfield 19, 3) := by decide +kernel
theorem dX7_swim_24 : decode cX7_swim 24 = .ok (.invokevirtual 151, 3) := by decide +kernel
theorem dX7_swim_27 : decode cX7_swim 27 = .ok (.iload_n 2, 1) := by decide +kernel
theorem dX7_swim_28 : decode cX7_swim 28 = .ok (.ireturn, 1) := by decide +kernel
theorem dX7_fill_0 : decode cX7_fill 0 = .ok (.iload_n 1, 1) := by decide +kernel
theorem dX7_fill_1 : decode cX7_fill 1 = .ok (.iconst 1, 1) := by decide +kernel
theorem dX7_fill_2 : decode cX7_fill 2 = .ok (.if_icmp .lt 10, 3) := by decide +kernel
theorem dX7_fill_5 : decode cX7_fill 5 = .ok (.iload_n 1, 1) := by decide +kernel
theorem dX7_fill_6 : decode cX7_fill 6 = .ok (.sipush 5000, 3) := by decide +kernel
theorem dX7_fill_9 : decode cX7_fill 9 = .ok (.if_icmp .le 13, 3) := by decide +kernel
theorem dX7_fill_12 : decode cX7_fill 12 = .ok (.new 26, 3) := by decide +kernel
theorem dX7_fill_15 : decode cX7_fill 15 = .ok (.dup, 1) := by decide +kernel
theorem dX7_fill_16 : decode cX7_fill 16 = .ok (.ldc 154, 2) := by decide +kernel
theorem dX7_fill_18 : decode cX7_fill 18 = .ok (.invokespecial 30, 3) := by decide +kernel
theorem dX7_fill_21 : decode cX7_fill 21 = .ok (.athrow, 1) := by decide +kernel
theorem dX7_fill_22 : decode cX7_fill 22 = .ok (.aload_n 0, 1) := by decide +kernel
theorem dX7_fill_23 : decode cX7_fill 23 = .ok (.getfield 19, 3) := by decide +kernel
theorem dX7_fill_26 : decode cX7_fill 26 = .ok (.iload_n 1, 1) := by decide +kernel
theorem dX7_fill_27 : decode cX7_fill 27 = .ok (.invokevirtual 156, 3) := by decide +kernel
theorem dX7_fill_30 : decode cX7_fill 30 = .ok (.aload_n 0, 1) := by decide +kernel
theorem dX7_fill_31 : decode cX7_fill 31 = .ok (.getfield 19, 3) := by decide +kernel
theorem dX7_fill_34 : decode cX7_fill 34 = .ok (.getfield 134, 3) := by decide +kernel
theorem dX7_fill_37 : decode cX7_fill 37 = .ok (.ireturn, 1) := by decide +kernel
theorem dX7_call_0 : decode cX7_call 0 = .ok (.aload_n 0, 1) := by decide +kernel
theorem dX7_call_1 : decode cX7_call 1 = .ok (.iload_n 1, 1) := by decide +kernel
theorem dX7_call_2 : decode cX7_call 2 = .ok (.invokevirtual 74, 3) := by decide +kernel
theorem dX7_call_5 : decode cX7_call 5 = .ok (.astore_n 3, 1) := by decide +kernel
theorem dX7_call_6 : decode cX7_call 6 = .ok (.iload_n 2, 1) := by decide +kernel
theorem dX7_call_7 : decode cX7_call 7 = .ok (.ifCond .lt 9, 3) := by decide +kernel
theorem dX7_call_10 : decode cX7_call 10 = .ok (.iload_n 2, 1) := by decide +kernel
theorem dX7_call_11 : decode cX7_call 11 = .ok (.bipush 9, 2) := by decide +kernel
theorem dX7_call_13 : decode cX7_call 13 = .ok (.if_icmp .le 13, 3) := by decide +kernel
theorem dX7_call_16 : decode cX7_call 16 = .ok (.new 26, 3) := by decide +kernel
theorem dX7_call_19 : decode cX7_call 19 = .ok (.dup, 1) := by decide +kernel
theorem dX7_call_20 : decode cX7_call 20 = .ok (.ldc 159, 2) := by decide +kernel
theorem dX7_call_22 : decode cX7_call 22 = .ok (.invokespecial 30, 3) := by decide +kernel
theorem dX7_call_25 : decode cX7_call 25 = .ok (.athrow, 1) := by decide +kernel
theorem dX7_call_26 : decode cX7_call 26 = .ok (.aload_n 0, 1) := by decide +kernel
theorem dX7_call_27 : decode cX7_call 27 = .ok (.getfield 19, 3) := by decide +kernel
theorem dX7_call_30 : decode cX7_call 30 = .ok (.getfield 161, 3) := by decide +kernel
theorem dX7_call_33 : decode cX7_call 33 = .ok (.invokevirtual 36, 3) := by decide +kernel
theorem dX7_call_36 : decode cX7_call 36 = .ok (.istore 4, 2) := by decide +kernel
theorem dX7_call_38 : decode cX7_call 38 = .ok (.iload 4, 2) := by decide +kernel
theorem dX7_call_40 : decode cX7_call 40 = .ok (.bipush 20, 2) := by decide +kernel
theorem dX7_call_42 : decode cX7_call 42 = .ok (.if_icmp .lt 13, 3) := by decide +kernel
theorem dX7_call_45 : decode cX7_call 45 = .ok (.new 40, 3) := by decide +kernel
theorem dX7_call_48 : decode cX7_call 48 = .ok (.dup, 1) := by decide +kernel
theorem dX7_call_49 : decode cX7_call 49 = .ok (.ldc 164, 2) := by decide +kernel
theorem dX7_call_51 : decode cX7_call 51 = .ok (.invokespecial 44, 3) := by decide +kernel
theorem dX7_call_54 : decode cX7_call 54 = .ok (.athrow, 1) := by decide +kernel
theorem dX7_call_55 : decode cX7_call 55 = .ok (.new 166, 3) := by decide +kernel
theorem dX7_call_58 : decode cX7_call 58 = .ok (.dup, 1) := by decide +kernel
theorem dX7_call_59 : decode cX7_call 59 = .ok (.aload_n 3, 1) := by decide +kernel
theorem dX7_call_60 : decode cX7_call 60 = .ok (.invokevirtual 168, 3) := by decide +kernel
theorem dX7_call_63 : decode cX7_call 63 = .ok (.iload_n 2, 1) := by decide +kernel
theorem dX7_call_64 : decode cX7_call 64 = .ok (.aload_n 0, 1) := by decide +kernel
theorem dX7_call_65 : decode cX7_call 65 = .ok (.getfield 19, 3) := by decide +kernel
theorem dX7_call_68 : decode cX7_call 68 = .ok (.getfield 172, 3) := by decide +kernel
theorem dX7_call_71 : decode cX7_call 71 = .ok (.invokespecial 175, 3) := by decide +kernel
theorem dX7_call_74 : decode cX7_call 74 = .ok (.astore 5, 2) := by decide +kernel
theorem dX7_call_76 : decode cX7_call 76 = .ok (.aload_n 0, 1) := by decide +kernel
theorem dX7_call_77 : decode cX7_call 77 = .ok (.getfield 19, 3) := by decide +kernel
theorem dX7_call_80 : decode cX7_call 80 = .ok (.getfield 161, 3) := by decide +kernel
theorem dX7_call_83 : decode cX7_call 83 = .ok (.aload 5, 2) := by decide +kernel
theorem dX7_call_85 : decode cX7_call 85 = .ok (.invokevirtual 50, 3) := by decide +kernel
theorem dX7_call_88 : decode cX7_call 88 = .ok (.pop, 1) := by decide +kernel
theorem dX7_call_89 : decode cX7_call 89 = .ok (.aload_n 0, 1) := by decide +kernel
theorem dX7_call_90 : decode cX7_call 90 = .ok (.getfield 23, 3) := by decide +kernel
theorem dX7_call_93 : decode cX7_call 93 = .ok (.getfield 161, 3) := by decide +kernel
theorem dX7_call_96 : decode cX7_call 96 = .ok (.aload 5, 2) := by decide +kernel
theorem dX7_call_98 : decode cX7_call 98 = .ok (.invokevirtual 50, 3) := by decide +kernel
theorem dX7_call_101 : decode cX7_call 101 = .ok (.pop, 1) := by decide +kernel
theorem dX7_call_102 : decode cX7_call 102 = .ok (.iload 4, 2) := by decide +kernel
theorem dX7_call_104 : decode cX7_call 104 = .ok (.ireturn, 1) := by decide +kernel
theorem dX7_pass_0 : decode cX7_pass 0 = .ok (.iload_n 1, 1) := by decide +kernel
theorem dX7_pass_1 : decode cX7_pass 1 = .ok (.iconst 1, 1) := by decide +kernel
theorem dX7_pass_2 : decode cX7_pass 2 = .ok (.if_icmp .lt 9, 3) := by decide +kernel
theorem dX7_pass_5 : decode cX7_pass 5 = .ok (.iload_n 1, 1) := by decide +kernel
theorem dX7_pass_6 : decode cX7_pass 6 = .ok (.bipush 100, 2) := by decide +kernel
theorem dX7_pass_8 : decode cX7_pass 8 = .ok (.if_icmp .le 13, 3) := by decide +kernel
theorem dX7_pass_11 : decode cX7_pass 11 = .ok (.new 26, 3) := by decide +kernel
theorem dX7_pass_14 : decode cX7_pass 14 = .ok (.dup, 1) := by decide +kernel
theorem dX7_pass_15 : decode cX7_pass 15 = .ok (.ldc 178, 2) := by decide +kernel
theorem dX7_pass_17 : decode cX7_pass 17 = .ok (.invokespecial 30, 3) := by decide +kernel
theorem dX7_pass_20 : decode cX7_pass 20 = .ok (.athrow, 1) := by decide +kernel
theorem dX7_pass_21 : decode cX7_pass 21 = .ok (.aload_n 0, 1) := by decide +kernel
theorem dX7_pass_22 : decode cX7_pass 22 = .ok (.getfield 19, 3) := by decide +kernel
theorem dX7_pass_25 : decode cX7_pass 25 = .ok (.getfield 172, 3) := by decide +kernel
theorem dX7_pass_28 : decode cX7_pass 28 = .ok (.iload_n 1, 1) := by decide +kernel
theorem dX7_pass_29 : decode cX7_pass 29 = .ok (.iadd, 1) := by decide +kernel
theorem dX7_pass_30 : decode cX7_pass 30 = .ok (.sipush 5000, 3) := by decide +kernel
theorem dX7_pass_33 : decode cX7_pass 33 = .ok (.if_icmp .le 13, 3) := by decide +kernel
theorem dX7_pass_36 : decode cX7_pass 36 = .ok (.new 40, 3) := by decide +kernel
theorem dX7_pass_39 : decode cX7_pass 39 = .ok (.dup, 1) := by decide +kernel
theorem dX7_pass_40 : decode cX7_pass 40 = .ok (.ldc 180, 2) := by decide +kernel
theorem dX7_pass_42 : decode cX7_pass 42 = .ok (.invokespecial 44, 3) := by decide +kernel
theorem dX7_pass_45 : decode cX7_pass 45 = .ok (.athrow, 1) := by decide +kernel
theorem dX7_pass_46 : decode cX7_pass 46 = .ok (.iconst 0, 1) := by decide +kernel
theorem dX7_pass_47 : decode cX7_pass 47 = .ok (.istore_n 2, 1) := by decide +kernel
theorem dX7_pass_48 : decode cX7_pass 48 = .ok (.iconst 0, 1) := by decide +kernel
theorem dX7_pass_49 : decode cX7_pass 49 = .ok (.istore_n 3, 1) := by decide +kernel
theorem dX7_pass_50 : decode cX7_pass 50 = .ok (.iload_n 3, 1) := by decide +kernel
theorem dX7_pass_51 : decode cX7_pass 51 = .ok (.iload_n 1, 1) := by decide +kernel
theorem dX7_pass_52 : decode cX7_pass 52 = .ok (.if_icmp .ge 19, 3) := by decide +kernel
theorem dX7_pass_55 : decode cX7_pass 55 = .ok (.iload_n 2, 1) := by decide +kernel
theorem dX7_pass_56 : decode cX7_pass 56 = .ok (.aload_n 0, 1) := by decide +kernel
theorem dX7_pass_57 : decode cX7_pass 57 = .ok (.getfield 19, 3) := by decide +kernel
theorem dX7_pass_60 : decode cX7_pass 60 = .ok (.invokevirtual 182, 3) := by decide +kernel
theorem dX7_pass_63 : decode cX7_pass 63 = .ok (.iadd, 1) := by decide +kernel
theorem dX7_pass_64 : decode cX7_pass 64 = .ok (.istore_n 2, 1) := by decide +kernel
theorem dX7_pass_65 : decode cX7_pass 65 = .ok (.iinc 3 1, 3) := by decide +kernel
theorem dX7_pass_68 : decode cX7_pass 68 = .ok (.goto (-18), 3) := by decide +kernel
theorem dX7_pass_71 : decode cX7_pass 71 = .ok (.iload_n 2, 1) := by decide +kernel
theorem dX7_pass_72 : decode cX7_pass 72 = .ok (.ireturn, 1) := by decide +kernel
theorem dX7_ofPump_0 : decode cX7_ofPump 0 = .ok (.aload_n 0, 1) := by decide +kernel
theorem dX7_ofPump_1 : decode cX7_ofPump 1 = .ok (.iload_n 1, 1) := by decide +kernel
theorem dX7_ofPump_2 : decode cX7_ofPump 2 = .ok (.invokevirtual 54, 3) := by decide +kernel
theorem dX7_ofPump_5 : decode cX7_ofPump 5 = .ok (.astore_n 3, 1) := by decide +kernel
theorem dX7_ofPump_6 : decode cX7_ofPump 6 = .ok (.iload_n 2, 1) := by decide +kernel
theorem dX7_ofPump_7 : decode cX7_ofPump 7 = .ok (.tableswitch 92 0 6 #[41, 46, 51, 56, 65, 78, 87], 41) := by decide +kernel
theorem dX7_ofPump_48 : decode cX7_ofPump 48 = .ok (.aload_n 3, 1) := by decide +kernel
theorem dX7_ofPump_49 : decode cX7_ofPump 49 = .ok (.getfield 185, 3) := by decide +kernel
theorem dX7_ofPump_52 : decode cX7_ofPump 52 = .ok (.ireturn, 1) := by decide +kernel
theorem dX7_ofPump_53 : decode cX7_ofPump 53 = .ok (.aload_n 3, 1) := by decide +kernel
theorem dX7_ofPump_54 : decode cX7_ofPump 54 = .ok (.getfield 127, 3) := by decide +kernel
theorem dX7_ofPump_57 : decode cX7_ofPump 57 = .ok (.ireturn, 1) := by decide +kernel
theorem dX7_ofPump_58 : decode cX7_ofPump 58 = .ok (.aload_n 3, 1) := by decide +kernel
theorem dX7_ofPump_59 : decode cX7_ofPump 59 = .ok (.getfield 188, 3) := by decide +kernel
theorem dX7_ofPump_62 : decode cX7_ofPump 62 = .ok (.ireturn, 1) := by decide +kernel
theorem dX7_ofPump_63 : decode cX7_ofPump 63 = .ok (.aload_n 0, 1) := by decide +kernel
theorem dX7_ofPump_64 : decode cX7_ofPump 64 = .ok (.getfield 19, 3) := by decide +kernel
theorem dX7_ofPump_67 : decode cX7_ofPump 67 = .ok (.aload_n 3, 1) := by decide +kernel
theorem dX7_ofPump_68 : decode cX7_ofPump 68 = .ok (.invokevirtual 191, 3) := by decide +kernel
theorem dX7_ofPump_71 : decode cX7_ofPump 71 = .ok (.ireturn, 1) := by decide +kernel
theorem dX7_ofPump_72 : decode cX7_ofPump 72 = .ok (.aload_n 3, 1) := by decide +kernel
theorem dX7_ofPump_73 : decode cX7_ofPump 73 = .ok (.getfield 122, 3) := by decide +kernel
theorem dX7_ofPump_76 : decode cX7_ofPump 76 = .ok (.ifCond .eq 7, 3) := by decide +kernel
theorem dX7_ofPump_79 : decode cX7_ofPump 79 = .ok (.iconst 1, 1) := by decide +kernel
theorem dX7_ofPump_80 : decode cX7_ofPump 80 = .ok (.goto 4, 3) := by decide +kernel
theorem dX7_ofPump_83 : decode cX7_ofPump 83 = .ok (.iconst 0, 1) := by decide +kernel
theorem dX7_ofPump_84 : decode cX7_ofPump 84 = .ok (.ireturn, 1) := by decide +kernel
theorem dX7_ofPump_85 : decode cX7_ofPump 85 = .ok (.aload_n 0, 1) := by decide +kernel
theorem dX7_ofPump_86 : decode cX7_ofPump 86 = .ok (.getfield 19, 3) := by decide +kernel
theorem dX7_ofPump_89 : decode cX7_ofPump 89 = .ok (.aload_n 3, 1) := by decide +kernel
theorem dX7_ofPump_90 : decode cX7_ofPump 90 = .ok (.invokevirtual 195, 3) := by decide +kernel
theorem dX7_ofPump_93 : decode cX7_ofPump 93 = .ok (.ireturn, 1) := by decide +kernel
theorem dX7_ofPump_94 : decode cX7_ofPump 94 = .ok (.aload_n 3, 1) := by decide +kernel
theorem dX7_ofPump_95 : decode cX7_ofPump 95 = .ok (.getfield 139, 3) := by decide +kernel
theorem dX7_ofPump_98 : decode cX7_ofPump 98 = .ok (.ireturn, 1) := by decide +kernel
theorem dX7_ofPump_99 : decode cX7_ofPump 99 = .ok (.new 26, 3) := by decide +kernel
theorem dX7_ofPump_102 : decode cX7_ofPump 102 = .ok (.dup, 1) := by decide +kernel
theorem dX7_ofPump_103 : decode cX7_ofPump 103 = .ok (.ldc 198, 2) := by decide +kernel
theorem dX7_ofPump_105 : decode cX7_ofPump 105 = .ok (.invokespecial 30, 3) := by decide +kernel
theorem dX7_ofPump_108 : decode cX7_ofPump 108 = .ok (.athrow, 1) := by decide +kernel
theorem dX7_ofJet_0 : decode cX7_ofJet 0 = .ok (.aload_n 0, 1) := by decide +kernel
theorem dX7_ofJet_1 : decode cX7_ofJet 1 = .ok (.iload_n 1, 1) := by decide +kernel
theorem dX7_ofJet_2 : decode cX7_ofJet 2 = .ok (.invokevirtual 103, 3) := by decide +kernel
theorem dX7_ofJet_5 : decode cX7_ofJet 5 = .ok (.astore_n 3, 1) := by decide +kernel
theorem dX7_ofJet_6 : decode cX7_ofJet 6 = .ok (.iload_n 2, 1) := by decide +kernel
theorem dX7_ofJet_7 : decode cX7_ofJet 7 = .ok (.tableswitch 156 0 11 #[61, 69, 74, 79, 84, 89, 94, 107, 112, 121, 134, 139], 61) := by decide +kernel
theorem dX7_ofJet_68 : decode cX7_ofJet 68 = .ok (.aload_n 3, 1) := by decide +kernel
theorem dX7_ofJet_69 : decode cX7_ofJet 69 = .ok (.getfield 200, 3) := by decide +kernel
theorem dX7_ofJet_72 : decode cX7_ofJet 72 = .ok (.getfield 204, 3) := by decide +kernel
theorem dX7_ofJet_75 : decode cX7_ofJet 75 = .ok (.ireturn, 1) := by decide +kernel
theorem dX7_ofJet_76 : decode cX7_ofJet 76 = .ok (.aload_n 3, 1) := by decide +kernel
theorem dX7_ofJet_77 : decode cX7_ofJet 77 = .ok (.getfield 207, 3) := by decide +kernel
theorem dX7_ofJet_80 : decode cX7_ofJet 80 = .ok (.ireturn, 1) := by decide +kernel
theorem dX7_ofJet_81 : decode cX7_ofJet 81 = .ok (.aload_n 3, 1) := by decide +kernel
theorem dX7_ofJet_82 : decode cX7_ofJet 82 = .ok (.getfield 210, 3) := by decide +kernel
theorem dX7_ofJet_85 : decode cX7_ofJet 85 = .ok (.ireturn, 1) := by decide +kernel
theorem dX7_ofJet_86 : decode cX7_ofJet 86 = .ok (.aload_n 3, 1) := by decide +kernel
theorem dX7_ofJet_87 : decode cX7_ofJet 87 = .ok (.getfield 213, 3) := by decide +kernel
theorem dX7_ofJet_90 : decode cX7_ofJet 90 = .ok (.ireturn, 1) := by decide +kernel
theorem dX7_ofJet_91 : decode cX7_ofJet 91 = .ok (.aload_n 3, 1) := by decide +kernel
theorem dX7_ofJet_92 : decode cX7_ofJet 92 = .ok (.getfield 115, 3) := by decide +kernel
theorem dX7_ofJet_95 : decode cX7_ofJet 95 = .ok (.ireturn, 1) := by decide +kernel
theorem dX7_ofJet_96 : decode cX7_ofJet 96 = .ok (.aload_n 3, 1) := by decide +kernel
theorem dX7_ofJet_97 : decode cX7_ofJet 97 = .ok (.getfield 216, 3) := by decide +kernel
theorem dX7_ofJet_100 : decode cX7_ofJet 100 = .ok (.ireturn, 1) := by decide +kernel
theorem dX7_ofJet_101 : decode cX7_ofJet 101 = .ok (.aload_n 3, 1) := by decide +kernel
theorem dX7_ofJet_102 : decode cX7_ofJet 102 = .ok (.getfield 145, 3) := by decide +kernel
theorem dX7_ofJet_105 : decode cX7_ofJet 105 = .ok (.ifCond .eq 7, 3) := by decide +kernel
theorem dX7_ofJet_108 : decode cX7_ofJet 108 = .ok (.iconst 1, 1) := by decide +kernel
theorem dX7_ofJet_109 : decode cX7_ofJet 109 = .ok (.goto 4, 3) := by decide +kernel
theorem dX7_ofJet_112 : decode cX7_ofJet 112 = .ok (.iconst 0, 1) := by decide +kernel
theorem dX7_ofJet_113 : decode cX7_ofJet 113 = .ok (.ireturn, 1) := by decide +kernel
theorem dX7_ofJet_114 : decode cX7_ofJet 114 = .ok (.aload_n 3, 1) := by decide +kernel
theorem dX7_ofJet_115 : decode cX7_ofJet 115 = .ok (.invokevirtual 219, 3) := by decide +kernel
theorem dX7_ofJet_118 : decode cX7_ofJet 118 = .ok (.ireturn, 1) := by decide +kernel
theorem dX7_ofJet_119 : decode cX7_ofJet 119 = .ok (.aload_n 0, 1) := by decide +kernel
theorem dX7_ofJet_120 : decode cX7_ofJet 120 = .ok (.getfield 19, 3) := by decide +kernel
theorem dX7_ofJet_123 : decode cX7_ofJet 123 = .ok (.aload_n 3, 1) := by decide +kernel
theorem dX7_ofJet_124 : decode cX7_ofJet 124 = .ok (.invokevirtual 222, 3) := by decide +kernel
theorem dX7_ofJet_127 : decode cX7_ofJet 127 = .ok (.ireturn, 1) := by decide +kernel
theorem dX7_ofJet_128 : decode cX7_ofJet 128 = .ok (.aload_n 3, 1) := by decide +kernel
theorem dX7_ofJet_129 : decode cX7_ofJet 129 = .ok (.getfield 142, 3) := by decide +kernel
theorem dX7_ofJet_132 : decode cX7_ofJet 132 = .ok (.ifCond .eq 7, 3) := by decide +kernel
theorem dX7_ofJet_135 : decode cX7_ofJet 135 = .ok (.iconst 1, 1) := by decide +kernel
theorem dX7_ofJet_136 : decode cX7_ofJet 136 = .ok (.goto 4, 3) := by decide +kernel
theorem dX7_ofJet_139 : decode cX7_ofJet 139 = .ok (.iconst 0, 1) := by decide +kernel
theorem dX7_ofJet_140 : decode cX7_ofJet 140 = .ok (.ireturn, 1) := by decide +kernel
theorem dX7_ofJet_141 : decode cX7_ofJet 141 = .ok (.aload_n 3, 1) := by decide +kernel
theorem dX7_ofJet_142 : decode cX7_ofJet 142 = .ok (.getfield 226, 3) := by decide +kernel
theorem dX7_ofJet_145 : decode cX7_ofJet 145 = .ok (.ireturn, 1) := by decide +kernel
theorem dX7_ofJet_146 : decode cX7_ofJet 146 = .ok (.aload_n 0, 1) := by decide +kernel
theorem dX7_ofJet_147 : decode cX7_ofJet 147 = .ok (.getfield 19, 3) := by decide +kernel
theorem dX7_ofJet_150 : decode cX7_ofJet 150 = .ok (.aload_n 3, 1) := by decide +kernel
theorem dX7_ofJet_151 : decode cX7_ofJet 151 = .ok (.aload_n 0, 1) := by decide +kernel
theorem dX7_ofJet_152 : decode cX7_ofJet 152 = .ok (.getfield 19, 3) := by decide +kernel
theorem dX7_ofJet_155 : decode cX7_ofJet 155 = .ok (.aload_n 3, 1) := by decide +kernel
theorem dX7_ofJet_156 : decode cX7_ofJet 156 = .ok (.invokevirtual 222, 3) := by decide +kernel
theorem dX7_ofJet_159 : decode cX7_ofJet 159 = .ok (.invokevirtual 229, 3) := by decide +kernel
theorem dX7_ofJet_162 : decode cX7_ofJet 162 = .ok (.ireturn, 1) := by decide +kernel
theorem dX7_ofJet_163 : decode cX7_ofJet 163 = .ok (.new 26, 3) := by decide +kernel
theorem dX7_ofJet_166 : decode cX7_ofJet 166 = .ok (.dup, 1) := by decide +kernel
theorem dX7_ofJet_167 : decode cX7_ofJet 167 = .ok (.ldc 233, 2) := by decide +kernel
theorem dX7_ofJet_169 : decode cX7_ofJet 169 = .ok (.invokespecial 30, 3) := by decide +kernel
theorem dX7_ofJet_172 : decode cX7_ofJet 172 = .ok (.athrow, 1) := by decide +kernel
theorem dX7_falls_0 : decode cX7_falls 0 = .ok (.iload_n 1, 1) := by decide +kernel
theorem dX7_falls_1 : decode cX7_falls 1 = .ok (.iconst 1, 1) := by decide +kernel
theorem dX7_falls_2 : decode cX7_falls 2 = .ok (.if_icmp .lt 9, 3) := by decide +kernel
theorem dX7_falls_5 : decode cX7_falls 5 = .ok (.iload_n 1, 1) := by decide +kernel
theorem dX7_falls_6 : decode cX7_falls 6 = .ok (.bipush 8, 2) := by decide +kernel
theorem dX7_falls_8 : decode cX7_falls 8 = .ok (.if_icmp .le 13, 3) := by decide +kernel
theorem dX7_falls_11 : decode cX7_falls 11 = .ok (.new 26, 3) := by decide +kernel
theorem dX7_falls_14 : decode cX7_falls 14 = .ok (.dup, 1) := by decide +kernel
theorem dX7_falls_15 : decode cX7_falls 15 = .ok (.ldc 235, 2) := by decide +kernel
theorem dX7_falls_17 : decode cX7_falls 17 = .ok (.invokespecial 30, 3) := by decide +kernel
theorem dX7_falls_20 : decode cX7_falls 20 = .ok (.athrow, 1) := by decide +kernel
theorem dX7_falls_21 : decode cX7_falls 21 = .ok (.aload_n 0, 1) := by decide +kernel
theorem dX7_falls_22 : decode cX7_falls 22 = .ok (.getfield 19, 3) := by decide +kernel
theorem dX7_falls_25 : decode cX7_falls 25 = .ok (.getfield 237, 3) := by decide +kernel
theorem dX7_falls_28 : decode cX7_falls 28 = .ok (.aload_n 0, 1) := by decide +kernel
theorem dX7_falls_29 : decode cX7_falls 29 = .ok (.getfield 19, 3) := by decide +kernel
theorem dX7_falls_32 : decode cX7_falls 32 = .ok (.getfield 172, 3) := by decide +kernel
theorem dX7_falls_35 : decode cX7_falls 35 = .ok (.iload_n 1, 1) := by decide +kernel
theorem dX7_falls_36 : decode cX7_falls 36 = .ok (.iadd, 1) := by decide +kernel
theorem dX7_falls_37 : decode cX7_falls 37 = .ok (.invokevirtual 241, 3) := by decide +kernel
theorem dX7_falls_40 : decode cX7_falls 40 = .ok (.ireturn, 1) := by decide +kernel
theorem dX7_open_0 : decode cX7_open 0 = .ok (.iload_n 1, 1) := by decide +kernel
theorem dX7_open_1 : decode cX7_open 1 = .ok (.ifCond .lt 17, 3) := by decide +kernel
theorem dX7_open_4 : decode cX7_open 4 = .ok (.iload_n 1, 1) := by decide +kernel
theorem dX7_open_5 : decode cX7_open 5 = .ok (.aload_n 0, 1) := by decide +kernel
theorem dX7_open_6 : decode cX7_open 6 = .ok (.getfield 19, 3) := by decide +kernel
theorem dX7_open_9 : decode cX7_open 9 = .ok (.getfield 161, 3) := by decide +kernel
theorem dX7_open_12 : decode cX7_open 12 = .ok (.invokevirtual 36, 3) := by decide +kernel
theorem dX7_open_15 : decode cX7_open 15 = .ok (.if_icmp .lt 13, 3) := by decide +kernel
theorem dX7_open_18 : decode cX7_open 18 = .ok (.new 247, 3) := by decide +kernel
theorem dX7_open_21 : decode cX7_open 21 = .ok (.dup, 1) := by decide +kernel
theorem dX7_open_22 : decode cX7_open 22 = .ok (.ldc 249, 2) := by decide +kernel
theorem dX7_open_24 : decode cX7_open 24 = .ok (.invokespecial 251, 3) := by decide +kernel
theorem dX7_open_27 : decode cX7_open 27 = .ok (.athrow, 1) := by decide +kernel
theorem dX7_open_28 : decode cX7_open 28 = .ok (.aload_n 0, 1) := by decide +kernel
theorem dX7_open_29 : decode cX7_open 29 = .ok (.getfield 19, 3) := by decide +kernel
theorem dX7_open_32 : decode cX7_open 32 = .ok (.getfield 161, 3) := by decide +kernel
theorem dX7_open_35 : decode cX7_open 35 = .ok (.iload_n 1, 1) := by decide +kernel
theorem dX7_open_36 : decode cX7_open 36 = .ok (.invokevirtual 252, 3) := by decide +kernel
theorem dX7_open_39 : decode cX7_open 39 = .ok (.checkcast 166, 3) := by decide +kernel
theorem dX7_open_42 : decode cX7_open 42 = .ok (.aload_n 0, 1) := by decide +kernel
theorem dX7_open_43 : decode cX7_open 43 = .ok (.getfield 19, 3) := by decide +kernel
theorem dX7_open_46 : decode cX7_open 46 = .ok (.getfield 172, 3) := by decide +kernel
theorem dX7_open_49 : decode cX7_open 49 = .ok (.invokevirtual 256, 3) := by decide +kernel
theorem dX7_open_52 : decode cX7_open 52 = .ok (.ireturn, 1) := by decide +kernel
theorem dX7_many_0 : decode cX7_many 0 = .ok (.iload_n 1, 1) := by decide +kernel
theorem dX7_many_1 : decode cX7_many 1 = .ok (.tableswitch 227 0 15 #[79, 87, 98, 109, 117, 128, 136, 147, 155, 163, 171, 179, 187, 195, 203, 211], 79) := by decide +kernel
theorem dX7_many_80 : decode cX7_many 80 = .ok (.aload_n 0, 1) := by decide +kernel
theorem dX7_many_81 : decode cX7_many 81 = .ok (.getfield 19, 3) := by decide +kernel
theorem dX7_many_84 : decode cX7_many 84 = .ok (.getfield 172, 3) := by decide +kernel
theorem dX7_many_87 : decode cX7_many 87 = .ok (.ireturn, 1) := by decide +kernel
theorem dX7_many_88 : decode cX7_many 88 = .ok (.aload_n 0, 1) := by decide +kernel
theorem dX7_many_89 : decode cX7_many 89 = .ok (.getfield 19, 3) := by decide +kernel
theorem dX7_many_92 : decode cX7_many 92 = .ok (.getfield 33, 3) := by decide +kernel
theorem dX7_many_95 : decode cX7_many 95 = .ok (.invokevirtual 36, 3) := by decide +kernel
theorem dX7_many_98 : decode cX7_many 98 = .ok (.ireturn, 1) := by decide +kernel
theorem dX7_many_99 : decode cX7_many 99 = .ok (.aload_n 0, 1) := by decide +kernel
theorem dX7_many_100 : decode cX7_many 100 = .ok (.getfield 19, 3) := by decide +kernel
theorem dX7_many_103 : decode cX7_many 103 = .ok (.getfield 60, 3) := by decide +kernel
theorem dX7_many_106 : decode cX7_many 106 = .ok (.invokevirtual 36, 3) := by decide +kernel
theorem dX7_many_109 : decode cX7_many 109 = .ok (.ireturn, 1) := by decide +kernel
theorem dX7_many_110 : decode cX7_many 110 = .ok (.aload_n 0, 1) := by decide +kernel
theorem dX7_many_111 : decode cX7_many 111 = .ok (.getfield 10, 3) := by decide +kernel
theorem dX7_many_114 : decode cX7_many 114 = .ok (.invokevirtual 36, 3) := by decide +kernel
theorem dX7_many_117 : decode cX7_many 117 = .ok (.ireturn, 1) := by decide +kernel
theorem dX7_many_118 : decode cX7_many 118 = .ok (.aload_n 0, 1) := by decide +kernel
theorem dX7_many_119 : decode cX7_many 119 = .ok (.getfield 19, 3) := by decide +kernel
theorem dX7_many_122 : decode cX7_many 122 = .ok (.getfield 161, 3) := by decide +kernel
theorem dX7_many_125 : decode cX7_many 125 = .ok (.invokevirtual 36, 3) := by decide +kernel
theorem dX7_many_128 : decode cX7_many 128 = .ok (.ireturn, 1) := by decide +kernel
theorem dX7_many_129 : decode cX7_many 129 = .ok (.aload_n 0, 1) := by decide +kernel
theorem dX7_many_130 : decode cX7_many 130 = .ok (.getfield 19, 3) := by decide +kernel
theorem dX7_many_133 : decode cX7_many 133 = .ok (.getfield 134, 3) := by decide +kernel
theorem dX7_many_136 : decode cX7_many 136 = .ok (.ireturn, 1) := by decide +kernel
theorem dX7_many_137 : decode cX7_many 137 = .ok (.aload_n 0, 1) := by decide +kernel
theorem dX7_many_138 : decode cX7_many 138 = .ok (.getfield 19, 3) := by decide +kernel
theorem dX7_many_141 : decode cX7_many 141 = .ok (.getfield 237, 3) := by decide +kernel
theorem dX7_many_144 : decode cX7_many 144 = .ok (.invokevirtual 259, 3) := by decide +kernel
theorem dX7_many_147 : decode cX7_many 147 = .ok (.ireturn, 1) := by decide +kernel
theorem dX7_many_148 : decode cX7_many 148 = .ok (.aload_n 0, 1) := by decide +kernel
theorem dX7_many_149 : decode cX7_many 149 = .ok (.getfield 19, 3) := by decide +kernel
theorem dX7_many_152 : decode cX7_many 152 = .ok (.getfield 262, 3) := by decide +kernel
theorem dX7_many_155 : decode cX7_many 155 = .ok (.ireturn, 1) := by decide +kernel
theorem dX7_many_156 : decode cX7_many 156 = .ok (.aload_n 0, 1) := by decide +kernel
theorem dX7_many_157 : decode cX7_many 157 = .ok (.getfield 19, 3) := by decide +kernel
theorem dX7_many_160 : decode cX7_many 160 = .ok (.getfield 265, 3) := by decide +kernel
theorem dX7_many_163 : decode cX7_many 163 = .ok (.ireturn, 1) := by decide +kernel
theorem dX7_many_164 : decode cX7_many 164 = .ok (.aload_n 0, 1) := by decide +kernel
theorem dX7_many_165 : decode cX7_many 165 = .ok (.getfield 19, 3) := by decide +kernel
theorem dX7_many_168 : decode cX7_many 168 = .ok (.getfield 268, 3) := by decide +kernel
theorem dX7_many_171 : decode cX7_many 171 = .ok (.ireturn, 1) := by decide +kernel
theorem dX7_many_172 : decode cX7_many 172 = .ok (.aload_n 0, 1) := by decide +kernel
theorem dX7_many_173 : decode cX7_many 173 = .ok (.getfield 19, 3) := by decide +kernel
theorem dX7_many_176 : decode cX7_many 176 = .ok (.getfield 271, 3) := by decide +kernel
theorem dX7_many_179 : decode cX7_many 179 = .ok (.ireturn, 1) := by decide +kernel
theorem dX7_many_180 : decode cX7_many 180 = .ok (.aload_n 0, 1) := by decide +kernel
theorem dX7_many_181 : decode cX7_many 181 = .ok (.getfield 19, 3) := by decide +kernel
theorem dX7_many_184 : decode cX7_many 184 = .ok (.getfield 274, 3) := by decide +kernel
theorem dX7_many_187 : decode cX7_many 187 = .ok (.ireturn, 1) := by decide +kernel
theorem dX7_many_188 : decode cX7_many 188 = .ok (.aload_n 0, 1) := by decide +kernel
theorem dX7_many_189 : decode cX7_many 189 = .ok (.getfield 19, 3) := by decide +kernel
theorem dX7_many_192 : decode cX7_many 192 = .ok (.getfield 277, 3) := by decide +kernel
theorem dX7_many_195 : decode cX7_many 195 = .ok (.ireturn, 1) := by decide +kernel
theorem dX7_many_196 : decode cX7_many 196 = .ok (.aload_n 0, 1) := by decide +kernel
theorem dX7_many_197 : decode cX7_many 197 = .ok (.getfield 19, 3) := by decide +kernel
theorem dX7_many_200 : decode cX7_many 200 = .ok (.invokevirtual 280, 3) := by decide +kernel
theorem dX7_many_203 : decode cX7_many 203 = .ok (.ireturn, 1) := by decide +kernel
theorem dX7_many_204 : decode cX7_many 204 = .ok (.aload_n 0, 1) := by decide +kernel
theorem dX7_many_205 : decode cX7_many 205 = .ok (.getfield 19, 3) := by decide +kernel
theorem dX7_many_208 : decode cX7_many 208 = .ok (.invokevirtual 283, 3) := by decide +kernel
theorem dX7_many_211 : decode cX7_many 211 = .ok (.ireturn, 1) := by decide +kernel
theorem dX7_many_212 : decode cX7_many 212 = .ok (.aload_n 0, 1) := by decide +kernel
theorem dX7_many_213 : decode cX7_many 213 = .ok (.getfield 19, 3) := by decide +kernel
theorem dX7_many_216 : decode cX7_many 216 = .ok (.getfield 109, 3) := by decide +kernel
theorem dX7_many_219 : decode cX7_many 219 = .ok (.ifCond .eq 7, 3) := by decide +kernel
theorem dX7_many_222 : decode cX7_many 222 = .ok (.iconst 1, 1) := by decide +kernel
theorem dX7_many_223 : decode cX7_many 223 = .ok (.goto 4, 3) := by decide +kernel
theorem dX7_many_226 : decode cX7_many 226 = .ok (.iconst 0, 1) := by decide +kernel
theorem dX7_many_227 : decode cX7_many 227 = .ok (.ireturn, 1) := by decide +kernel
theorem dX7_many_228 : decode cX7_many 228 = .ok (.new 26, 3) := by decide +kernel
theorem dX7_many_231 : decode cX7_many 231 = .ok (.dup, 1) := by decide +kernel
theorem dX7_many_232 : decode cX7_many 232 = .ok (.ldc_w 286, 3) := by decide +kernel
theorem dX7_many_235 : decode cX7_many 235 = .ok (.invokespecial 30, 3) := by decide +kernel
theorem dX7_many_238 : decode cX7_many 238 = .ok (.athrow, 1) := by decide +kernel
theorem dX7_meanHeight_0 : decode cX7_meanHeight 0 = .ok (.aload_n 0, 1) := by decide +kernel
theorem dX7_meanHeight_1 : decode cX7_meanHeight 1 = .ok (.getfield 19, 3) := by decide +kernel
theorem dX7_meanHeight_4 : decode cX7_meanHeight 4 = .ok (.getfield 60, 3) := by decide +kernel
theorem dX7_meanHeight_7 : decode cX7_meanHeight 7 = .ok (.invokevirtual 36, 3) := by decide +kernel
theorem dX7_meanHeight_10 : decode cX7_meanHeight 10 = .ok (.istore_n 1, 1) := by decide +kernel
theorem dX7_meanHeight_11 : decode cX7_meanHeight 11 = .ok (.iload_n 1, 1) := by decide +kernel
theorem dX7_meanHeight_12 : decode cX7_meanHeight 12 = .ok (.ifCond .ne 5, 3) := by decide +kernel
theorem dX7_meanHeight_15 : decode cX7_meanHeight 15 = .ok (.dconst 0, 1) := by decide +kernel
theorem dX7_meanHeight_16 : decode cX7_meanHeight 16 = .ok (.dreturn, 1) := by decide +kernel
theorem dX7_meanHeight_17 : decode cX7_meanHeight 17 = .ok (.aload_n 0, 1) := by decide +kernel
theorem dX7_meanHeight_18 : decode cX7_meanHeight 18 = .ok (.getfield 19, 3) := by decide +kernel
theorem dX7_meanHeight_21 : decode cX7_meanHeight 21 = .ok (.invokevirtual 288, 3) := by decide +kernel
theorem dX7_meanHeight_24 : decode cX7_meanHeight 24 = .ok (.i2d, 1) := by decide +kernel
theorem dX7_meanHeight_25 : decode cX7_meanHeight 25 = .ok (.iload_n 1, 1) := by decide +kernel
theorem dX7_meanHeight_26 : decode cX7_meanHeight 26 = .ok (.i2d, 1) := by decide +kernel
theorem dX7_meanHeight_27 : decode cX7_meanHeight 27 = .ok (.ddiv, 1) := by decide +kernel
theorem dX7_meanHeight_28 : decode cX7_meanHeight 28 = .ok (.dreturn, 1) := by decide +kernel
theorem dX7_heightIn_0 : decode cX7_heightIn 0 = .ok (.aload_n 0, 1) := by decide +kernel
theorem dX7_heightIn_1 : decode cX7_heightIn 1 = .ok (.iload_n 1, 1) := by decide +kernel
theorem dX7_heightIn_2 : decode cX7_heightIn 2 = .ok (.invokevirtual 103, 3) := by decide +kernel
theorem dX7_heightIn_5 : decode cX7_heightIn 5 = .ok (.pop, 1) := by decide +kernel
theorem dX7_heightIn_6 : decode cX7_heightIn 6 = .ok (.iload_n 2, 1) := by decide +kernel
theorem dX7_heightIn_7 : decode cX7_heightIn 7 = .ok (.iconst 1, 1) := by decide +kernel
theorem dX7_heightIn_8 : decode cX7_heightIn 8 = .ok (.if_icmp .lt 9, 3) := by decide +kernel
theorem dX7_heightIn_11 : decode cX7_heightIn 11 = .ok (.iload_n 2, 1) := by decide +kernel
theorem dX7_heightIn_12 : decode cX7_heightIn 12 = .ok (.bipush 40, 2) := by decide +kernel
theorem dX7_heightIn_14 : decode cX7_heightIn 14 = .ok (.if_icmp .le 14, 3) := by decide +kernel
theorem dX7_heightIn_17 : decode cX7_heightIn 17 = .ok (.new 26, 3) := by decide +kernel
theorem dX7_heightIn_20 : decode cX7_heightIn 20 = .ok (.dup, 1) := by decide +kernel
theorem dX7_heightIn_21 : decode cX7_heightIn 21 = .ok (.ldc_w 291, 3) := by decide +kernel
theorem dX7_heightIn_24 : decode cX7_heightIn 24 = .ok (.invokespecial 30, 3) := by decide +kernel
theorem dX7_heightIn_27 : decode cX7_heightIn 27 = .ok (.athrow, 1) := by decide +kernel
theorem dX7_heightIn_28 : decode cX7_heightIn 28 = .ok (.aload_n 0, 1) := by decide +kernel
theorem dX7_heightIn_29 : decode cX7_heightIn 29 = .ok (.getfield 23, 3) := by decide +kernel
theorem dX7_heightIn_32 : decode cX7_heightIn 32 = .ok (.aload_n 0, 1) := by decide +kernel
theorem dX7_heightIn_33 : decode cX7_heightIn 33 = .ok (.getfield 19, 3) := by decide +kernel
theorem dX7_heightIn_36 : decode cX7_heightIn 36 = .ok (.invokevirtual 293, 3) := by decide +kernel
theorem dX7_heightIn_39 : decode cX7_heightIn 39 = .ok (.iconst 0, 1) := by decide +kernel
theorem dX7_heightIn_40 : decode cX7_heightIn 40 = .ok (.istore_n 3, 1) := by decide +kernel
theorem dX7_heightIn_41 : decode cX7_heightIn 41 = .ok (.iload_n 3, 1) := by decide +kernel
theorem dX7_heightIn_42 : decode cX7_heightIn 42 = .ok (.iload_n 2, 1) := by decide +kernel
theorem dX7_heightIn_43 : decode cX7_heightIn 43 = .ok (.if_icmp .ge 17, 3) := by decide +kernel
theorem dX7_heightIn_46 : decode cX7_heightIn 46 = .ok (.aload_n 0, 1) := by decide +kernel
theorem dX7_heightIn_47 : decode cX7_heightIn 47 = .ok (.getfield 23, 3) := by decide +kernel
theorem dX7_heightIn_50 : decode cX7_heightIn 50 = .ok (.invokevirtual 182, 3) := by decide +kernel
theorem dX7_heightIn_53 : decode cX7_heightIn 53 = .ok (.pop, 1) := by decide +kernel
theorem dX7_heightIn_54 : decode cX7_heightIn 54 = .ok (.iinc 3 1, 3) := by decide +kernel
theorem dX7_heightIn_57 : decode cX7_heightIn 57 = .ok (.goto (-16), 3) := by decide +kernel
theorem dX7_heightIn_60 : decode cX7_heightIn 60 = .ok (.aload_n 0, 1) := by decide +kernel
theorem dX7_heightIn_61 : decode cX7_heightIn 61 = .ok (.getfield 23, 3) := by decide +kernel
theorem dX7_heightIn_64 : decode cX7_heightIn 64 = .ok (.iload_n 1, 1) := by decide +kernel
theorem dX7_heightIn_65 : decode cX7_heightIn 65 = .ok (.invokevirtual 297, 3) := by decide +kernel
theorem dX7_heightIn_68 : decode cX7_heightIn 68 = .ok (.ireturn, 1) := by decide +kernel
theorem dX7_settingFor_0 : decode cX7_settingFor 0 = .ok (.aload_n 0, 1) := by decide +kernel
theorem dX7_settingFor_1 : decode cX7_settingFor 1 = .ok (.iload_n 1, 1) := by decide +kernel
theorem dX7_settingFor_2 : decode cX7_settingFor 2 = .ok (.invokevirtual 103, 3) := by decide +kernel
theorem dX7_settingFor_5 : decode cX7_settingFor 5 = .ok (.astore_n 3, 1) := by decide +kernel
theorem dX7_settingFor_6 : decode cX7_settingFor 6 = .ok (.iload_n 2, 1) := by decide +kernel
theorem dX7_settingFor_7 : decode cX7_settingFor 7 = .ok (.iconst 1, 1) := by decide +kernel
theorem dX7_settingFor_8 : decode cX7_settingFor 8 = .ok (.if_icmp .lt 9, 3) := by decide +kernel
theorem dX7_settingFor_11 : decode cX7_settingFor 11 = .ok (.iload_n 2, 1) := by decide +kernel
theorem dX7_settingFor_12 : decode cX7_settingFor 12 = .ok (.bipush 60, 2) := by decide +kernel
theorem dX7_settingFor_14 : decode cX7_settingFor 14 = .ok (.if_icmp .le 14, 3) := by decide +kernel
theorem dX7_settingFor_17 : decode cX7_settingFor 17 = .ok (.new 26, 3) := by decide +kernel
theorem dX7_settingFor_20 : decode cX7_settingFor 20 = .ok (.dup, 1) := by decide +kernel
theorem dX7_settingFor_21 : decode cX7_settingFor 21 = .ok (.ldc_w 300, 3) := by decide +kernel
theorem dX7_settingFor_24 : decode cX7_settingFor 24 = .ok (.invokespecial 30, 3) := by decide +kernel
theorem dX7_settingFor_27 : decode cX7_settingFor 27 = .ok (.athrow, 1) := by decide +kernel
theorem dX7_settingFor_28 : decode cX7_settingFor 28 = .ok (.aload_n 0, 1) := by decide +kernel
theorem dX7_settingFor_29 : decode cX7_settingFor 29 = .ok (.getfield 19, 3) := by decide +kernel
theorem dX7_settingFor_32 : decode cX7_settingFor 32 = .ok (.aload_n 3, 1) := by decide +kernel
theorem dX7_settingFor_33 : decode cX7_settingFor 33 = .ok (.getfield 200, 3) := by decide +kernel
theorem dX7_settingFor_36 : decode cX7_settingFor 36 = .ok (.invokevirtual 302, 3) := by decide +kernel
theorem dX7_settingFor_39 : decode cX7_settingFor 39 = .ok (.istore 4, 2) := by decide +kernel
theorem dX7_settingFor_41 : decode cX7_settingFor 41 = .ok (.iconst 0, 1) := by decide +kernel
theorem dX7_settingFor_42 : decode cX7_settingFor 42 = .ok (.istore 5, 2) := by decide +kernel
theorem dX7_settingFor_44 : decode cX7_settingFor 44 = .ok (.iload 5, 2) := by decide +kernel
theorem dX7_settingFor_46 : decode cX7_settingFor 46 = .ok (.bipush 10, 2) := by decide +kernel
theorem dX7_settingFor_48 : decode cX7_settingFor 48 = .ok (.if_icmp .gt 41, 3) := by decide +kernel
theorem dX7_settingFor_51 : decode cX7_settingFor 51 = .ok (.iload 5, 2) := by decide +kernel
theorem dX7_settingFor_53 : decode cX7_settingFor 53 = .ok (.aload_n 3, 1) := by decide +kernel
theorem dX7_settingFor_54 : decode cX7_settingFor 54 = .ok (.getfield 200, 3) := by decide +kernel
theorem dX7_settingFor_57 : decode cX7_settingFor 57 = .ok (.getfield 185, 3) := by decide +kernel
theorem dX7_settingFor_60 : decode cX7_settingFor 60 = .ok (.iload 4, 2) := by decide +kernel
theorem dX7_settingFor_62 : decode cX7_settingFor 62 = .ok (.invokestatic 305, 3) := by decide +kernel
theorem dX7_settingFor_65 : decode cX7_settingFor 65 = .ok (.istore 6, 2) := by decide +kernel
theorem dX7_settingFor_67 : decode cX7_settingFor 67 = .ok (.iload 6, 2) := by decide +kernel
theorem dX7_settingFor_69 : decode cX7_settingFor 69 = .ok (.aload_n 3, 1) := by decide +kernel
theorem dX7_settingFor_70 : decode cX7_settingFor 70 = .ok (.getfield 115, 3) := by decide +kernel
theorem dX7_settingFor_73 : decode cX7_settingFor 73 = .ok (.invokestatic 309, 3) := by decide +kernel
theorem dX7_settingFor_76 : decode cX7_settingFor 76 = .ok (.iload_n 2, 1) := by decide +kernel
theorem dX7_settingFor_77 : decode cX7_settingFor 77 = .ok (.if_icmp .lt 6, 3) := by decide +kernel
theorem dX7_settingFor_80 : decode cX7_settingFor 80 = .ok (.iload 5, 2) := by decide +kernel
theorem dX7_settingFor_82 : decode cX7_settingFor 82 = .ok (.ireturn, 1) := by decide +kernel
theorem dX7_settingFor_83 : decode cX7_settingFor 83 = .ok (.iinc 5 1, 3) := by decide +kernel
theorem dX7_settingFor_86 : decode cX7_settingFor 86 = .ok (.goto (-42), 3) := by decide +kernel
theorem dX7_settingFor_89 : decode cX7_settingFor 89 = .ok (.iconst (-1), 1) := by decide +kernel
theorem dX7_settingFor_90 : decode cX7_settingFor 90 = .ok (.ireturn, 1) := by decide +kernel
theorem dX7_leadFor_0 : decode cX7_leadFor 0 = .ok (.aload_n 0, 1) := by decide +kernel
theorem dX7_leadFor_1 : decode cX7_leadFor 1 = .ok (.iload_n 1, 1) := by decide +kernel
theorem dX7_leadFor_2 : decode cX7_leadFor 2 = .ok (.invokevirtual 103, 3) := by decide +kernel
theorem dX7_leadFor_5 : decode cX7_leadFor 5 = .ok (.getfield 200, 3) := by decide +kernel
theorem dX7_leadFor_8 : decode cX7_leadFor 8 = .ok (.astore_n 3, 1) := by decide +kernel
theorem dX7_leadFor_9 : decode cX7_leadFor 9 = .ok (.aload_n 0, 1) := by decide +kernel
theorem dX7_leadFor_10 : decode cX7_leadFor 10 = .ok (.iload_n 1, 1) := by decide +kernel
theorem dX7_leadFor_11 : decode cX7_leadFor 11 = .ok (.iload_n 2, 1) := by decide +kernel
theorem dX7_leadFor_12 : decode cX7_leadFor 12 = .ok (.invokevirtual 313, 3) := by decide +kernel
theorem dX7_leadFor_15 : decode cX7_leadFor 15 = .ok (.istore 4, 2) := by decide +kernel
theorem dX7_leadFor_17 : decode cX7_leadFor 17 = .ok (.iload 4, 2) := by decide +kernel
theorem dX7_leadFor_19 : decode cX7_leadFor 19 = .ok (.iconst (-1), 1) := by decide +kernel
theorem dX7_leadFor_20 : decode cX7_leadFor 20 = .ok (.if_icmp .eq 10, 3) := by decide +kernel
theorem dX7_leadFor_23 : decode cX7_leadFor 23 = .ok (.aload_n 3, 1) := by decide +kernel
theorem dX7_leadFor_24 : decode cX7_leadFor 24 = .ok (.getfield 122, 3) := by decide +kernel
theorem dX7_leadFor_27 : decode cX7_leadFor 27 = .ok (.ifCond .eq 5, 3) := by decide +kernel
theorem dX7_leadFor_30 : decode cX7_leadFor 30 = .ok (.iconst (-1), 1) := by decide +kernel
theorem dX7_leadFor_31 : decode cX7_leadFor 31 = .ok (.ireturn, 1) := by decide +kernel
theorem dX7_leadFor_32 : decode cX7_leadFor 32 = .ok (.aload_n 0, 1) := by decide +kernel
theorem dX7_leadFor_33 : decode cX7_leadFor 33 = .ok (.getfield 23, 3) := by decide +kernel
theorem dX7_leadFor_36 : decode cX7_leadFor 36 = .ok (.aload_n 0, 1) := by decide +kernel
theorem dX7_leadFor_37 : decode cX7_leadFor 37 = .ok (.getfield 19, 3) := by decide +kernel
theorem dX7_leadFor_40 : decode cX7_leadFor 40 = .ok (.invokevirtual 293, 3) := by decide +kernel
theorem dX7_leadFor_43 : decode cX7_leadFor 43 = .ok (.aload_n 0, 1) := by decide +kernel
theorem dX7_leadFor_44 : decode cX7_leadFor 44 = .ok (.getfield 23, 3) := by decide +kernel
theorem dX7_leadFor_47 : decode cX7_leadFor 47 = .ok (.aload_n 3, 1) := by decide +kernel
theorem dX7_leadFor_48 : decode cX7_leadFor 48 = .ok (.getfield 204, 3) := by decide +kernel
theorem dX7_leadFor_51 : decode cX7_leadFor 51 = .ok (.iload 4, 2) := by decide +kernel
theorem dX7_leadFor_53 : decode cX7_leadFor 53 = .ok (.invokevirtual 316, 3) := by decide +kernel
theorem dX7_leadFor_56 : decode cX7_leadFor 56 = .ok (.iconst 0, 1) := by decide +kernel
theorem dX7_leadFor_57 : decode cX7_leadFor 57 = .ok (.istore 5, 2) := by decide +kernel
theorem dX7_leadFor_59 : decode cX7_leadFor 59 = .ok (.iload 5, 2) := by decide +kernel
theorem dX7_leadFor_61 : decode cX7_leadFor 61 = .ok (.bipush 30, 2) := by decide +kernel
theorem dX7_leadFor_63 : decode cX7_leadFor 63 = .ok (.if_icmp .gt 32, 3) := by decide +kernel
theorem dX7_leadFor_66 : decode cX7_leadFor 66 = .ok (.aload_n 0, 1) := by decide +kernel
theorem dX7_leadFor_67 : decode cX7_leadFor 67 = .ok (.getfield 23, 3) := by decide +kernel
theorem dX7_leadFor_70 : decode cX7_leadFor 70 = .ok (.iload_n 1, 1) := by decide +kernel
theorem dX7_leadFor_71 : decode cX7_leadFor 71 = .ok (.invokevirtual 297, 3) := by decide +kernel
theorem dX7_leadFor_74 : decode cX7_leadFor 74 = .ok (.iload_n 2, 1) := by decide +kernel
theorem dX7_leadFor_75 : decode cX7_leadFor 75 = .ok (.if_icmp .lt 6, 3) := by decide +kernel
theorem dX7_leadFor_78 : decode cX7_leadFor 78 = .ok (.iload 5, 2) := by decide +kernel
theorem dX7_leadFor_80 : decode cX7_leadFor 80 = .ok (.ireturn, 1) := by decide +kernel
theorem dX7_leadFor_81 : decode cX7_leadFor 81 = .ok (.aload_n 0, 1) := by decide +kernel
theorem dX7_leadFor_82 : decode cX7_leadFor 82 = .ok (.getfield 23, 3) := by decide +kernel
theorem dX7_leadFor_85 : decode cX7_leadFor 85 = .ok (.invokevirtual 182, 3) := by decide +kernel
theorem dX7_leadFor_88 : decode cX7_leadFor 88 = .ok (.pop, 1) := by decide +kernel
theorem dX7_leadFor_89 : decode cX7_leadFor 89 = .ok (.iinc 5 1, 3) := by decide +kernel
theorem dX7_leadFor_92 : decode cX7_leadFor 92 = .ok (.goto (-33), 3) := by decide +kernel
theorem dX7_leadFor_95 : decode cX7_leadFor 95 = .ok (.iconst (-1), 1) := by decide +kernel
theorem dX7_leadFor_96 : decode cX7_leadFor 96 = .ok (.ireturn, 1) := by decide +kernel
theorem dX7_would_0 : decode cX7_would 0 = .ok (.iload_n 1, 1) := by decide +kernel
theorem dX7_would_1 : decode cX7_would 1 = .ok (.iconst 1, 1) := by decide +kernel
theorem dX7_would_2 : decode cX7_would 2 = .ok (.if_icmp .lt 18, 3) := by decide +kernel
theorem dX7_would_5 : decode cX7_would 5 = .ok (.iload_n 1, 1) := by decide +kernel
theorem dX7_would_6 : decode cX7_would 6 = .ok (.bipush 60, 2) := by decide +kernel
theorem dX7_would_8 : decode cX7_would 8 = .ok (.if_icmp .gt 12, 3) := by decide +kernel
theorem dX7_would_11 : decode cX7_would 11 = .ok (.iload_n 2, 1) := by decide +kernel
theorem dX7_would_12 : decode cX7_would 12 = .ok (.ifCond .lt 8, 3) := by decide +kernel
theorem dX7_would_15 : decode cX7_would 15 = .ok (.iload_n 2, 1) := by decide +kernel
theorem dX7_would_16 : decode cX7_would 16 = .ok (.iconst 1, 1) := by decide +kernel
theorem dX7_would_17 : decode cX7_would 17 = .ok (.if_icmp .le 14, 3) := by decide +kernel
theorem dX7_would_20 : decode cX7_would 20 = .ok (.new 26, 3) := by decide +kernel
theorem dX7_would_23 : decode cX7_would 23 = .ok (.dup, 1) := by decide +kernel
theorem dX7_would_24 : decode cX7_would 24 = .ok (.ldc_w 319, 3) := by decide +kernel
theorem dX7_would_27 : decode cX7_would 27 = .ok (.invokespecial 30, 3) := by decide +kernel
theorem dX7_would_30 : decode cX7_would 30 = .ok (.athrow, 1) := by decide +kernel
theorem dX7_would_31 : decode cX7_would 31 = .ok (.aload_n 0, 1) := by decide +kernel
theorem dX7_would_32 : decode cX7_would 32 = .ok (.getfield 23, 3) := by decide +kernel
theorem dX7_would_35 : decode cX7_would 35 = .ok (.aload_n 0, 1) := by decide +kernel
theorem dX7_would_36 : decode cX7_would 36 = .ok (.getfield 19, 3) := by decide +kernel
theorem dX7_would_39 : decode cX7_would 39 = .ok (.invokevirtual 293, 3) := by decide +kernel
theorem dX7_would_42 : decode cX7_would 42 = .ok (.sipush 9000, 3) := by decide +kernel
theorem dX7_would_45 : decode cX7_would 45 = .ok (.istore_n 3, 1) := by decide +kernel
theorem dX7_would_46 : decode cX7_would 46 = .ok (.iconst 0, 1) := by decide +kernel
theorem dX7_would_47 : decode cX7_would 47 = .ok (.istore 4, 2) := by decide +kernel
theorem dX7_would_49 : decode cX7_would 49 = .ok (.iload 4, 2) := by decide +kernel
theorem dX7_would_51 : decode cX7_would 51 = .ok (.iload_n 1, 1) := by decide +kernel
theorem dX7_would_52 : decode cX7_would 52 = .ok (.if_icmp .ge 29, 3) := by decide +kernel
theorem dX7_would_55 : decode cX7_would 55 = .ok (.aload_n 0, 1) := by decide +kernel
theorem dX7_would_56 : decode cX7_would 56 = .ok (.getfield 23, 3) := by decide +kernel
theorem dX7_would_59 : decode cX7_would 59 = .ok (.invokevirtual 182, 3) := by decide +kernel
theorem dX7_would_62 : decode cX7_would 62 = .ok (.pop, 1) := by decide +kernel
theorem dX7_would_63 : decode cX7_would 63 = .ok (.iload_n 3, 1) := by decide +kernel
theorem dX7_would_64 : decode cX7_would 64 = .ok (.aload_n 0, 1) := by decide +kernel
theorem dX7_would_65 : decode cX7_would 65 = .ok (.getfield 23, 3) := by decide +kernel
theorem dX7_would_68 : decode cX7_would 68 = .ok (.getfield 134, 3) := by decide +kernel
theorem dX7_would_71 : decode cX7_would 71 = .ok (.invokestatic 321, 3) := by decide +kernel
theorem dX7_would_74 : decode cX7_would 74 = .ok (.istore_n 3, 1) := by decide +kernel
theorem dX7_would_75 : decode cX7_would 75 = .ok (.iinc 4 1, 3) := by decide +kernel
theorem dX7_would_78 : decode cX7_would 78 = .ok (.goto (-29), 3) := by decide +kernel
theorem dX7_would_81 : decode cX7_would 81 = .ok (.iload_n 2, 1) := by decide +kernel
theorem dX7_would_82 : decode cX7_would 82 = .ok (.ifCond .ne 21, 3) := by decide +kernel
theorem dX7_would_85 : decode cX7_would 85 = .ok (.aload_n 0, 1) := by decide +kernel
theorem dX7_would_86 : decode cX7_would 86 = .ok (.getfield 23, 3) := by decide +kernel
theorem dX7_would_89 : decode cX7_would 89 = .ok (.getfield 268, 3) := by decide +kernel
theorem dX7_would_92 : decode cX7_would 92 = .ok (.aload_n 0, 1) := by decide +kernel
theorem dX7_would_93 : decode cX7_would 93 = .ok (.getfield 19, 3) := by decide +kernel
theorem dX7_would_96 : decode cX7_would 96 = .ok (.getfield 268, 3) := by decide +kernel
theorem dX7_would_99 : decode cX7_would 99 = .ok (.isub, 1) := by decide +kernel
theorem dX7_would_100 : decode cX7_would 100 = .ok (.goto 4, 3) := by decide +kernel
theorem dX7_would_103 : decode cX7_would 103 = .ok (.iload_n 3, 1) := by decide +kernel
theorem dX7_would_104 : decode cX7_would 104 = .ok (.ireturn, 1) := by decide +kernel
theorem dX7_digest_0 : decode cX7_digest 0 = .ok (.ldc2_w 326, 3) := by decide +kernel
theorem dX7_digest_3 : decode cX7_digest 3 = .ok (.lstore_n 1, 1) := by decide +kernel
theorem dX7_digest_4 : decode cX7_digest 4 = .ok (.iconst 0, 1) := by decide +kernel
theorem dX7_digest_5 : decode cX7_digest 5 = .ok (.istore_n 3, 1) := by decide +kernel
theorem dX7_digest_6 : decode cX7_digest 6 = .ok (.iload_n 3, 1) := by decide +kernel
theorem dX7_digest_7 : decode cX7_digest 7 = .ok (.bipush 15, 2) := by decide +kernel
theorem dX7_digest_9 : decode cX7_digest 9 = .ok (.if_icmp .gt 22, 3) := by decide +kernel
theorem dX7_digest_12 : decode cX7_digest 12 = .ok (.lload_n 1, 1) := by decide +kernel
theorem dX7_digest_13 : decode cX7_digest 13 = .ok (.ldc2_w 328, 3) := by decide +kernel
theorem dX7_digest_16 : decode cX7_digest 16 = .ok (.lmul, 1) := by decide +kernel
theorem dX7_digest_17 : decode cX7_digest 17 = .ok (.aload_n 0, 1) := by decide +kernel
theorem dX7_digest_18 : decode cX7_digest 18 = .ok (.iload_n 3, 1) := by decide +kernel
theorem dX7_digest_19 : decode cX7_digest 19 = .ok (.invokevirtual 330, 3) := by decide +kernel
theorem dX7_digest_22 : decode cX7_digest 22 = .ok (.i2l, 1) := by decide +kernel
theorem dX7_digest_23 : decode cX7_digest 23 = .ok (.ladd, 1) := by decide +kernel
theorem dX7_digest_24 : decode cX7_digest 24 = .ok (.lstore_n 1, 1) := by decide +kernel
theorem dX7_digest_25 : decode cX7_digest 25 = .ok (.iinc 3 1, 3) := by decide +kernel
theorem dX7_digest_28 : decode cX7_digest 28 = .ok (.goto (-22), 3) := by decide +kernel
theorem dX7_digest_31 : decode cX7_digest 31 = .ok (.iconst 0, 1) := by decide +kernel
theorem dX7_digest_32 : decode cX7_digest 32 = .ok (.istore_n 3, 1) := by decide +kernel
theorem dX7_digest_33 : decode cX7_digest 33 = .ok (.iload_n 3, 1) := by decide +kernel
theorem dX7_digest_34 : decode cX7_digest 34 = .ok (.aload_n 0, 1) := by decide +kernel
theorem dX7_digest_35 : decode cX7_digest 35 = .ok (.getfield 19, 3) := by decide +kernel
theorem dX7_digest_38 : decode cX7_digest 38 = .ok (.getfield 33, 3) := by decide +kernel
theorem dX7_digest_41 : decode cX7_digest 41 = .ok (.invokevirtual 36, 3) := by decide +kernel
theorem dX7_digest_44 : decode cX7_digest 44 = .ok (.if_icmp .ge 40, 3) := by decide +kernel
theorem dX7_digest_47 : decode cX7_digest 47 = .ok (.iconst 0, 1) := by decide +kernel
theorem dX7_digest_48 : decode cX7_digest 48 = .ok (.istore 4, 2) := by decide +kernel
theorem dX7_digest_50 : decode cX7_digest 50 = .ok (.iload 4, 2) := by decide +kernel
theorem dX7_digest_52 : decode cX7_digest 52 = .ok (.bipush 6, 2) := by decide +kernel
theorem dX7_digest_54 : decode cX7_digest 54 = .ok (.if_icmp .gt 24, 3) := by decide +kernel
theorem dX7_digest_57 : decode cX7_digest 57 = .ok (.lload_n 1, 1) := by decide +kernel
theorem dX7_digest_58 : decode cX7_digest 58 = .ok (.ldc2_w 328, 3) := by decide +kernel
theorem dX7_digest_61 : decode cX7_digest 61 = .ok (.lmul, 1) := by decide +kernel
theorem dX7_digest_62 : decode cX7_digest 62 = .ok (.aload_n 0, 1) := by decide +kernel
theorem dX7_digest_63 : decode cX7_digest 63 = .ok (.iload_n 3, 1) := by decide +kernel
theorem dX7_digest_64 : decode cX7_digest 64 = .ok (.iload 4, 2) := by decide +kernel
theorem dX7_digest_66 : decode cX7_digest 66 = .ok (.invokevirtual 333, 3) := by decide +kernel
theorem dX7_digest_69 : decode cX7_digest 69 = .ok (.i2l, 1) := by decide +kernel
theorem dX7_digest_70 : decode cX7_digest 70 = .ok (.ladd, 1) := by decide +kernel
theorem dX7_digest_71 : decode cX7_digest 71 = .ok (.lstore_n 1, 1) := by decide +kernel
theorem dX7_digest_72 : decode cX7_digest 72 = .ok (.iinc 4 1, 3) := by decide +kernel
theorem dX7_digest_75 : decode cX7_digest 75 = .ok (.goto (-25), 3) := by decide +kernel
theorem dX7_digest_78 : decode cX7_digest 78 = .ok (.iinc 3 1, 3) := by decide +kernel
theorem dX7_digest_81 : decode cX7_digest 81 = .ok (.goto (-48), 3) := by decide +kernel
theorem dX7_digest_84 : decode cX7_digest 84 = .ok (.iconst 0, 1) := by decide +kernel
theorem dX7_digest_85 : decode cX7_digest 85 = .ok (.istore_n 3, 1) := by decide +kernel
theorem dX7_digest_86 : decode cX7_digest 86 = .ok (.iload_n 3, 1) := by decide +kernel
theorem dX7_digest_87 : decode cX7_digest 87 = .ok (.aload_n 0, 1) := by decide +kernel
theorem dX7_digest_88 : decode cX7_digest 88 = .ok (.getfield 19, 3) := by decide +kernel
theorem dX7_digest_91 : decode cX7_digest 91 = .ok (.getfield 60, 3) := by decide +kernel
theorem dX7_digest_94 : decode cX7_digest 94 = .ok (.invokevirtual 36, 3) := by decide +kernel
theorem dX7_digest_97 : decode cX7_digest 97 = .ok (.if_icmp .ge 84, 3) := by decide +kernel
theorem dX7_digest_100 : decode cX7_digest 100 = .ok (.iconst 0, 1) := by decide +kernel
theorem dX7_digest_101 : decode cX7_digest 101 = .ok (.istore 4, 2) := by decide +kernel
theorem dX7_digest_103 : decode cX7_digest 103 = .ok (.iload 4, 2) := by decide +kernel
theorem dX7_digest_105 : decode cX7_digest 105 = .ok (.bipush 11, 2) := by decide +kernel
theorem dX7_digest_107 : decode cX7_digest 107 = .ok (.if_icmp .gt 24, 3) := by decide +kernel
theorem dX7_digest_110 : decode cX7_digest 110 = .ok (.lload_n 1, 1) := by decide +kernel
theorem dX7_digest_111 : decode cX7_digest 111 = .ok (.ldc2_w 328, 3) := by decide +kernel
theorem dX7_digest_114 : decode cX7_digest 114 = .ok (.lmul, 1) := by decide +kernel
theorem dX7_digest_115 : decode cX7_digest 115 = .ok (.aload_n 0, 1) := by decide +kernel
theorem dX7_digest_116 : decode cX7_digest 116 = .ok (.iload_n 3, 1) := by decide +kernel
theorem dX7_digest_117 : decode cX7_digest 117 = .ok (.iload 4, 2) := by decide +kernel
theorem dX7_digest_119 : decode cX7_digest 119 = .ok (.invokevirtual 336, 3) := by decide +kernel
theorem dX7_digest_122 : decode cX7_digest 122 = .ok (.i2l, 1) := by decide +kernel
theorem dX7_digest_123 : decode cX7_digest 123 = .ok (.ladd, 1) := by decide +kernel
theorem dX7_digest_124 : decode cX7_digest 124 = .ok (.lstore_n 1, 1) := by decide +kernel
theorem dX7_digest_125 : decode cX7_digest 125 = .ok (.iinc 4 1, 3) := by decide +kernel
theorem dX7_digest_128 : decode cX7_digest 128 = .ok (.goto (-25), 3) := by decide +kernel
theorem dX7_digest_131 : decode cX7_digest 131 = .ok (.lload_n 1, 1) := by decide +kernel
theorem dX7_digest_132 : decode cX7_digest 132 = .ok (.ldc2_w 328, 3) := by decide +kernel
theorem dX7_digest_135 : decode cX7_digest 135 = .ok (.lmul, 1) := by decide +kernel
theorem dX7_digest_136 : decode cX7_digest 136 = .ok (.aload_n 0, 1) := by decide +kernel
theorem dX7_digest_137 : decode cX7_digest 137 = .ok (.iload_n 3, 1) := by decide +kernel
theorem dX7_digest_138 : decode cX7_digest 138 = .ok (.iconst 5, 1) := by decide +kernel
theorem dX7_digest_139 : decode cX7_digest 139 = .ok (.invokevirtual 339, 3) := by decide +kernel
theorem dX7_digest_142 : decode cX7_digest 142 = .ok (.i2l, 1) := by decide +kernel
theorem dX7_digest_143 : decode cX7_digest 143 = .ok (.ladd, 1) := by decide +kernel
theorem dX7_digest_144 : decode cX7_digest 144 = .ok (.lstore_n 1, 1) := by decide +kernel
theorem dX7_digest_145 : decode cX7_digest 145 = .ok (.lload_n 1, 1) := by decide +kernel
theorem dX7_digest_146 : decode cX7_digest 146 = .ok (.ldc2_w 328, 3) := by decide +kernel
theorem dX7_digest_149 : decode cX7_digest 149 = .ok (.lmul, 1) := by decide +kernel
theorem dX7_digest_150 : decode cX7_digest 150 = .ok (.aload_n 0, 1) := by decide +kernel
theorem dX7_digest_151 : decode cX7_digest 151 = .ok (.iload_n 3, 1) := by decide +kernel
theorem dX7_digest_152 : decode cX7_digest 152 = .ok (.bipush 20, 2) := by decide +kernel
theorem dX7_digest_154 : decode cX7_digest 154 = .ok (.invokevirtual 313, 3) := by decide +kernel
theorem dX7_digest_157 : decode cX7_digest 157 = .ok (.i2l, 1) := by decide +kernel
theorem dX7_digest_158 : decode cX7_digest 158 = .ok (.ladd, 1) := by decide +kernel
theorem dX7_digest_159 : decode cX7_digest 159 = .ok (.lstore_n 1, 1) := by decide +kernel
theorem dX7_digest_160 : decode cX7_digest 160 = .ok (.lload_n 1, 1) := by decide +kernel
theorem dX7_digest_161 : decode cX7_digest 161 = .ok (.ldc2_w 328, 3) := by decide +kernel
theorem dX7_digest_164 : decode cX7_digest 164 = .ok (.lmul, 1) := by decide +kernel
theorem dX7_digest_165 : decode cX7_digest 165 = .ok (.aload_n 0, 1) := by decide +kernel
theorem dX7_digest_166 : decode cX7_digest 166 = .ok (.iload_n 3, 1) := by decide +kernel
theorem dX7_digest_167 : decode cX7_digest 167 = .ok (.bipush 20, 2) := by decide +kernel
theorem dX7_digest_169 : decode cX7_digest 169 = .ok (.invokevirtual 342, 3) := by decide +kernel
theorem dX7_digest_172 : decode cX7_digest 172 = .ok (.i2l, 1) := by decide +kernel
theorem dX7_digest_173 : decode cX7_digest 173 = .ok (.ladd, 1) := by decide +kernel
theorem dX7_digest_174 : decode cX7_digest 174 = .ok (.lstore_n 1, 1) := by decide +kernel
theorem dX7_digest_175 : decode cX7_digest 175 = .ok (.iinc 3 1, 3) := by decide +kernel
theorem dX7_digest_178 : decode cX7_digest 178 = .ok (.goto (-92), 3) := by decide +kernel
theorem dX7_digest_181 : decode cX7_digest 181 = .ok (.iconst 1, 1) := by decide +kernel
theorem dX7_digest_182 : decode cX7_digest 182 = .ok (.istore_n 3, 1) := by decide +kernel
theorem dX7_digest_183 : decode cX7_digest 183 = .ok (.iload_n 3, 1) := by decide +kernel
theorem dX7_digest_184 : decode cX7_digest 184 = .ok (.bipush 8, 2) := by decide +kernel
theorem dX7_digest_186 : decode cX7_digest 186 = .ok (.if_icmp .gt 22, 3) := by decide +kernel
theorem dX7_digest_189 : decode cX7_digest 189 = .ok (.lload_n 1, 1) := by decide +kernel
theorem dX7_digest_190 : decode cX7_digest 190 = .ok (.ldc2_w 328, 3) := by decide +kernel
theorem dX7_digest_193 : decode cX7_digest 193 = .ok (.lmul, 1) := by decide +kernel
theorem dX7_digest_194 : decode cX7_digest 194 = .ok (.aload_n 0, 1) := by decide +kernel
theorem dX7_digest_195 : decode cX7_digest 195 = .ok (.iload_n 3, 1) := by decide +kernel
theorem dX7_digest_196 : decode cX7_digest 196 = .ok (.invokevirtual 345, 3) := by decide +kernel
theorem dX7_digest_199 : decode cX7_digest 199 = .ok (.i2l, 1) := by decide +kernel
theorem dX7_digest_200 : decode cX7_digest 200 = .ok (.ladd, 1) := by decide +kernel
theorem dX7_digest_201 : decode cX7_digest 201 = .ok (.lstore_n 1, 1) := by decide +kernel
theorem dX7_digest_202 : decode cX7_digest 202 = .ok (.iinc 3 1, 3) := by decide +kernel
theorem dX7_digest_205 : decode cX7_digest 205 = .ok (.goto (-22), 3) := by decide +kernel
theorem dX7_digest_208 : decode cX7_digest 208 = .ok (.iconst 0, 1) := by decide +kernel
theorem dX7_digest_209 : decode cX7_digest 209 = .ok (.istore_n 3, 1) := by decide +kernel
theorem dX7_digest_210 : decode cX7_digest 210 = .ok (.iload_n 3, 1) := by decide +kernel
theorem dX7_digest_211 : decode cX7_digest 211 = .ok (.aload_n 0, 1) := by decide +kernel
theorem dX7_digest_212 : decode cX7_digest 212 = .ok (.getfield 19, 3) := by decide +kernel
theorem dX7_digest_215 : decode cX7_digest 215 = .ok (.getfield 161, 3) := by decide +kernel
theorem dX7_digest_218 : decode cX7_digest 218 = .ok (.invokevirtual 36, 3) := by decide +kernel
theorem dX7_digest_221 : decode cX7_digest 221 = .ok (.if_icmp .ge 22, 3) := by decide +kernel
theorem dX7_digest_224 : decode cX7_digest 224 = .ok (.lload_n 1, 1) := by decide +kernel
theorem dX7_digest_225 : decode cX7_digest 225 = .ok (.ldc2_w 328, 3) := by decide +kernel
theorem dX7_digest_228 : decode cX7_digest 228 = .ok (.lmul, 1) := by decide +kernel
theorem dX7_digest_229 : decode cX7_digest 229 = .ok (.aload_n 0, 1) := by decide +kernel
theorem dX7_digest_230 : decode cX7_digest 230 = .ok (.iload_n 3, 1) := by decide +kernel
theorem dX7_digest_231 : decode cX7_digest 231 = .ok (.invokevirtual 348, 3) := by decide +kernel
theorem dX7_digest_234 : decode cX7_digest 234 = .ok (.i2l, 1) := by decide +kernel
theorem dX7_digest_235 : decode cX7_digest 235 = .ok (.ladd, 1) := by decide +kernel
theorem dX7_digest_236 : decode cX7_digest 236 = .ok (.lstore_n 1, 1) := by decide +kernel
theorem dX7_digest_237 : decode cX7_digest 237 = .ok (.iinc 3 1, 3) := by decide +kernel
theorem dX7_digest_240 : decode cX7_digest 240 = .ok (.goto (-30), 3) := by decide +kernel
theorem dX7_digest_243 : decode cX7_digest 243 = .ok (.lload_n 1, 1) := by decide +kernel
theorem dX7_digest_244 : decode cX7_digest 244 = .ok (.ldc2_w 328, 3) := by decide +kernel
theorem dX7_digest_247 : decode cX7_digest 247 = .ok (.lmul, 1) := by decide +kernel
theorem dX7_digest_248 : decode cX7_digest 248 = .ok (.aload_n 0, 1) := by decide +kernel
theorem dX7_digest_249 : decode cX7_digest 249 = .ok (.bipush 12, 2) := by decide +kernel
theorem dX7_digest_251 : decode cX7_digest 251 = .ok (.iconst 0, 1) := by decide +kernel
theorem dX7_digest_252 : decode cX7_digest 252 = .ok (.invokevirtual 351, 3) := by decide +kernel
theorem dX7_digest_255 : decode cX7_digest 255 = .ok (.i2l, 1) := by decide +kernel
theorem dX7_digest_256 : decode cX7_digest 256 = .ok (.ladd, 1) := by decide +kernel
theorem dX7_digest_257 : decode cX7_digest 257 = .ok (.lstore_n 1, 1) := by decide +kernel
theorem dX7_digest_258 : decode cX7_digest 258 = .ok (.lload_n 1, 1) := by decide +kernel
theorem dX7_digest_259 : decode cX7_digest 259 = .ok (.ldc2_w 328, 3) := by decide +kernel
theorem dX7_digest_262 : decode cX7_digest 262 = .ok (.lmul, 1) := by decide +kernel
theorem dX7_digest_263 : decode cX7_digest 263 = .ok (.aload_n 0, 1) := by decide +kernel
theorem dX7_digest_264 : decode cX7_digest 264 = .ok (.bipush 12, 2) := by decide +kernel
theorem dX7_digest_266 : decode cX7_digest 266 = .ok (.iconst 1, 1) := by decide +kernel
theorem dX7_digest_267 : decode cX7_digest 267 = .ok (.invokevirtual 351, 3) := by decide +kernel
theorem dX7_digest_270 : decode cX7_digest 270 = .ok (.i2l, 1) := by decide +kernel
theorem dX7_digest_271 : decode cX7_digest 271 = .ok (.ladd, 1) := by decide +kernel
theorem dX7_digest_272 : decode cX7_digest 272 = .ok (.lstore_n 1, 1) := by decide +kernel
theorem dX7_digest_273 : decode cX7_digest 273 = .ok (.lload_n 1, 1) := by decide +kernel
theorem dX7_digest_274 : decode cX7_digest 274 = .ok (.lreturn, 1) := by decide +kernel
theorem dX7_pumpNumbered_0 : decode cX7_pumpNumbered 0 = .ok (.iload_n 1, 1) := by decide +kernel
theorem dX7_pumpNumbered_1 : decode cX7_pumpNumbered 1 = .ok (.ifCond .lt 17, 3) := by decide +kernel
theorem dX7_pumpNumbered_4 : decode cX7_pumpNumbered 4 = .ok (.iload_n 1, 1) := by decide +kernel
theorem dX7_pumpNumbered_5 : decode cX7_pumpNumbered 5 = .ok (.aload_n 0, 1) := by decide +kernel
theorem dX7_pumpNumbered_6 : decode cX7_pumpNumbered 6 = .ok (.getfield 19, 3) := by decide +kernel
theorem dX7_pumpNumbered_9 : decode cX7_pumpNumbered 9 = .ok (.getfield 33, 3) := by decide +kernel
theorem dX7_pumpNumbered_12 : decode cX7_pumpNumbered 12 = .ok (.invokevirtual 36, 3) := by decide +kernel
theorem dX7_pumpNumbered_15 : decode cX7_pumpNumbered 15 = .ok (.if_icmp .lt 14, 3) := by decide +kernel
theorem dX7_pumpNumbered_18 : decode cX7_pumpNumbered 18 = .ok (.new 247, 3) := by decide +kernel
theorem dX7_pumpNumbered_21 : decode cX7_pumpNumbered 21 = .ok (.dup, 1) := by decide +kernel
theorem dX7_pumpNumbered_22 : decode cX7_pumpNumbered 22 = .ok (.ldc_w 354, 3) := by decide +kernel
theorem dX7_pumpNumbered_25 : decode cX7_pumpNumbered 25 = .ok (.invokespecial 251, 3) := by decide +kernel
theorem dX7_pumpNumbered_28 : decode cX7_pumpNumbered 28 = .ok (.athrow, 1) := by decide +kernel
theorem dX7_pumpNumbered_29 : decode cX7_pumpNumbered 29 = .ok (.aload_n 0, 1) := by decide +kernel
theorem dX7_pumpNumbered_30 : decode cX7_pumpNumbered 30 = .ok (.getfield 19, 3) := by decide +kernel
theorem dX7_pumpNumbered_33 : decode cX7_pumpNumbered 33 = .ok (.getfield 33, 3) := by decide +kernel
theorem dX7_pumpNumbered_36 : decode cX7_pumpNumbered 36 = .ok (.iload_n 1, 1) := by decide +kernel
theorem dX7_pumpNumbered_37 : decode cX7_pumpNumbered 37 = .ok (.invokevirtual 252, 3) := by decide +kernel
theorem dX7_pumpNumbered_40 : decode cX7_pumpNumbered 40 = .ok (.checkcast 45, 3) := by decide +kernel
theorem dX7_pumpNumbered_43 : decode cX7_pumpNumbered 43 = .ok (.areturn, 1) := by decide +kernel
theorem dX7_jetNumbered_0 : decode cX7_jetNumbered 0 = .ok (.iload_n 1, 1) := by decide +kernel
theorem dX7_jetNumbered_1 : decode cX7_jetNumbered 1 = .ok (.ifCond .lt 17, 3) := by decide +kernel
theorem dX7_jetNumbered_4 : decode cX7_jetNumbered 4 = .ok (.iload_n 1, 1) := by decide +kernel
theorem dX7_jetNumbered_5 : decode cX7_jetNumbered 5 = .ok (.aload_n 0, 1) := by decide +kernel
theorem dX7_jetNumbered_6 : decode cX7_jetNumbered 6 = .ok (.getfield 19, 3) := by decide +kernel
theorem dX7_jetNumbered_9 : decode cX7_jetNumbered 9 = .ok (.getfield 60, 3) := by decide +kernel
theorem dX7_jetNumbered_12 : decode cX7_jetNumbered 12 = .ok (.invokevirtual 36, 3) := by decide +kernel
theorem dX7_jetNumbered_15 : decode cX7_jetNumbered 15 = .ok (.if_icmp .lt 14, 3) := by decide +kernel
theorem dX7_jetNumbered_18 : decode cX7_jetNumbered 18 = .ok (.new 247, 3) := by decide +kernel
theorem dX7_jetNumbered_21 : decode cX7_jetNumbered 21 = .ok (.dup, 1) := by decide +kernel
theorem dX7_jetNumbered_22 : decode cX7_jetNumbered 22 = .ok (.ldc_w 356, 3) := by decide +kernel
theorem dX7_jetNumbered_25 : decode cX7_jetNumbered 25 = .ok (.invokespecial 251, 3) := by decide +kernel
theorem dX7_jetNumbered_28 : decode cX7_jetNumbered 28 = .ok (.athrow, 1) := by decide +kernel
theorem dX7_jetNumbered_29 : decode cX7_jetNumbered 29 = .ok (.aload_n 0, 1) := by decide +kernel
theorem dX7_jetNumbered_30 : decode cX7_jetNumbered 30 = .ok (.getfield 19, 3) := by decide +kernel
theorem dX7_jetNumbered_33 : decode cX7_jetNumbered 33 = .ok (.getfield 60, 3) := by decide +kernel
theorem dX7_jetNumbered_36 : decode cX7_jetNumbered 36 = .ok (.iload_n 1, 1) := by decide +kernel
theorem dX7_jetNumbered_37 : decode cX7_jetNumbered 37 = .ok (.invokevirtual 252, 3) := by decide +kernel
theorem dX7_jetNumbered_40 : decode cX7_jetNumbered 40 = .ok (.checkcast 116, 3) := by decide +kernel
theorem dX7_jetNumbered_43 : decode cX7_jetNumbered 43 = .ok (.areturn, 1) := by decide +kernel
theorem dX7_figureNumbered_0 : decode cX7_figureNumbered 0 = .ok (.iload_n 1, 1) := by decide +kernel
theorem dX7_figureNumbered_1 : decode cX7_figureNumbered 1 = .ok (.ifCond .lt 14, 3) := by decide +kernel
theorem dX7_figureNumbered_4 : decode cX7_figureNumbered 4 = .ok (.iload_n 1, 1) := by decide +kernel
theorem dX7_figureNumbered_5 : decode cX7_figureNumbered 5 = .ok (.aload_n 0, 1) := by decide +kernel
theorem dX7_figureNumbered_6 : decode cX7_figureNumbered 6 = .ok (.getfield 10, 3) := by decide +kernel
theorem dX7_figureNumbered_9 : decode cX7_figureNumbered 9 = .ok (.invokevirtual 36, 3) := by decide +kernel
theorem dX7_figureNumbered_12 : decode cX7_figureNumbered 12 = .ok (.if_icmp .lt 14, 3) := by decide +kernel
theorem dX7_figureNumbered_15 : decode cX7_figureNumbered 15 = .ok (.new 247, 3) := by decide +kernel
theorem dX7_figureNumbered_18 : decode cX7_figureNumbered 18 = .ok (.dup, 1) := by decide +kernel
theorem dX7_figureNumbered_19 : decode cX7_figureNumbered 19 = .ok (.ldc_w 358, 3) := by decide +kernel
theorem dX7_figureNumbered_22 : decode cX7_figureNumbered 22 = .ok (.invokespecial 251, 3) := by decide +kernel
theorem dX7_figureNumbered_25 : decode cX7_figureNumbered 25 = .ok (.athrow, 1) := by decide +kernel
theorem dX7_figureNumbered_26 : decode cX7_figureNumbered 26 = .ok (.aload_n 0, 1) := by decide +kernel
theorem dX7_figureNumbered_27 : decode cX7_figureNumbered 27 = .ok (.getfield 10, 3) := by decide +kernel
theorem dX7_figureNumbered_30 : decode cX7_figureNumbered 30 = .ok (.iload_n 1, 1) := by decide +kernel
theorem dX7_figureNumbered_31 : decode cX7_figureNumbered 31 = .ok (.invokevirtual 252, 3) := by decide +kernel
theorem dX7_figureNumbered_34 : decode cX7_figureNumbered 34 = .ok (.checkcast 71, 3) := by decide +kernel
theorem dX7_figureNumbered_37 : decode cX7_figureNumbered 37 = .ok (.areturn, 1) := by decide +kernel
theorem dX7_isValue_0 : decode cX7_isValue 0 = .ok (.iload_n 0, 1) := by decide +kernel
theorem dX7_isValue_1 : decode cX7_isValue 1 = .ok (.ifCond .lt 9, 3) := by decide +kernel
theorem dX7_isValue_4 : decode cX7_isValue 4 = .ok (.iload_n 0, 1) := by decide +kernel
theorem dX7_isValue_5 : decode cX7_isValue 5 = .ok (.bipush 6, 2) := by decide +kernel
theorem dX7_isValue_7 : decode cX7_isValue 7 = .ok (.if_icmp .le 15, 3) := by decide +kernel
theorem dX7_isValue_10 : decode cX7_isValue 10 = .ok (.iload_n 0, 1) := by decide +kernel
theorem dX7_isValue_11 : decode cX7_isValue 11 = .ok (.bipush 10, 2) := by decide +kernel
theorem dX7_isValue_13 : decode cX7_isValue 13 = .ok (.if_icmp .lt 13, 3) := by decide +kernel
theorem dX7_isValue_16 : decode cX7_isValue 16 = .ok (.iload_n 0, 1) := by decide +kernel
theorem dX7_isValue_17 : decode cX7_isValue 17 = .ok (.bipush 20, 2) := by decide +kernel
theorem dX7_isValue_19 : decode cX7_isValue 19 = .ok (.if_icmp .gt 7, 3) := by decide +kernel
theorem dX7_isValue_22 : decode cX7_isValue 22 = .ok (.iconst 1, 1) := by decide +kernel
theorem dX7_isValue_23 : decode cX7_isValue 23 = .ok (.goto 4, 3) := by decide +kernel
theorem dX7_isValue_26 : decode cX7_isValue 26 = .ok (.iconst 0, 1) := by decide +kernel
theorem dX7_isValue_27 : decode cX7_isValue 27 = .ok (.ireturn, 1) := by decide +kernel
theorem dX7_pressureBy_0 : decode cX7_pressureBy 0 = .ok (.bipush 20, 2) := by decide +kernel
theorem dX7_pressureBy_2 : decode cX7_pressureBy 2 = .ok (.iload_n 2, 1) := by decide +kernel
theorem dX7_pressureBy_3 : decode cX7_pressureBy 3 = .ok (.iadd, 1) := by decide +kernel
theorem dX7_pressureBy_4 : decode cX7_pressureBy 4 = .ok (.istore_n 3, 1) := by decide +kernel
theorem dX7_pressureBy_5 : decode cX7_pressureBy 5 = .ok (.iload_n 3, 1) := by decide +kernel
theorem dX7_pressureBy_6 : decode cX7_pressureBy 6 = .ok (.ifCond .le 14, 3) := by decide +kernel
theorem dX7_pressureBy_9 : decode cX7_pressureBy 9 = .ok (.bipush 10, 2) := by decide +kernel
theorem dX7_pressureBy_11 : decode cX7_pressureBy 11 = .ok (.iload_n 0, 1) := by decide +kernel
theorem dX7_pressureBy_12 : decode cX7_pressureBy 12 = .ok (.imul, 1) := by decide +kernel
theorem dX7_pressureBy_13 : decode cX7_pressureBy 13 = .ok (.iload_n 1, 1) := by decide +kernel
theorem dX7_pressureBy_14 : decode cX7_pressureBy 14 = .ok (.imul, 1) := by decide +kernel
theorem dX7_pressureBy_15 : decode cX7_pressureBy 15 = .ok (.iload_n 3, 1) := by decide +kernel
theorem dX7_pressureBy_16 : decode cX7_pressureBy 16 = .ok (.idiv, 1) := by decide +kernel
theorem dX7_pressureBy_17 : decode cX7_pressureBy 17 = .ok (.goto 4, 3) := by decide +kernel
theorem dX7_pressureBy_20 : decode cX7_pressureBy 20 = .ok (.iconst 0, 1) := by decide +kernel
theorem dX7_pressureBy_21 : decode cX7_pressureBy 21 = .ok (.ireturn, 1) := by decide +kernel
theorem dX7_heightBy_0 : decode cX7_heightBy 0 = .ok (.bipush 60, 2) := by decide +kernel
theorem dX7_heightBy_2 : decode cX7_heightBy 2 = .ok (.iload_n 0, 1) := by decide +kernel
theorem dX7_heightBy_3 : decode cX7_heightBy 3 = .ok (.iload_n 1, 1) := by decide +kernel
theorem dX7_heightBy_4 : decode cX7_heightBy 4 = .ok (.imul, 1) := by decide +kernel
theorem dX7_heightBy_5 : decode cX7_heightBy 5 = .ok (.iconst 4, 1) := by decide +kernel
theorem dX7_heightBy_6 : decode cX7_heightBy 6 = .ok (.idiv, 1) := by decide +kernel
theorem dX7_heightBy_7 : decode cX7_heightBy 7 = .ok (.invokestatic 321, 3) := by decide +kernel
theorem dX7_heightBy_10 : decode cX7_heightBy 10 = .ok (.ireturn, 1) := by decide +kernel
theorem dX7_airTime_0 : decode cX7_airTime 0 = .ok (.iconst 2, 1) := by decide +kernel
theorem dX7_airTime_1 : decode cX7_airTime 1 = .ok (.iload_n 0, 1) := by decide +kernel
theorem dX7_airTime_2 : decode cX7_airTime 2 = .ok (.bipush 10, 2) := by decide +kernel
theorem dX7_airTime_4 : decode cX7_airTime 4 = .ok (.idiv, 1) := by decide +kernel
theorem dX7_airTime_5 : decode cX7_airTime 5 = .ok (.iadd, 1) := by decide +kernel
theorem dX7_airTime_6 : decode cX7_airTime 6 = .ok (.ireturn, 1) := by decide +kernel
theorem dX7_nearer_0 : decode cX7_nearer 0 = .ok (.iload_n 0, 1) := by decide +kernel
theorem dX7_nearer_1 : decode cX7_nearer 1 = .ok (.iload_n 1, 1) := by decide +kernel
theorem dX7_nearer_2 : decode cX7_nearer 2 = .ok (.if_icmp .ge 9, 3) := by decide +kernel
theorem dX7_nearer_5 : decode cX7_nearer 5 = .ok (.iload_n 0, 1) := by decide +kernel
theorem dX7_nearer_6 : decode cX7_nearer 6 = .ok (.iconst 1, 1) := by decide +kernel
theorem dX7_nearer_7 : decode cX7_nearer 7 = .ok (.iadd, 1) := by decide +kernel
theorem dX7_nearer_8 : decode cX7_nearer 8 = .ok (.goto 15, 3) := by decide +kernel
theorem dX7_nearer_11 : decode cX7_nearer 11 = .ok (.iload_n 0, 1) := by decide +kernel
theorem dX7_nearer_12 : decode cX7_nearer 12 = .ok (.iload_n 1, 1) := by decide +kernel
theorem dX7_nearer_13 : decode cX7_nearer 13 = .ok (.if_icmp .le 9, 3) := by decide +kernel
theorem dX7_nearer_16 : decode cX7_nearer 16 = .ok (.iload_n 0, 1) := by decide +kernel
theorem dX7_nearer_17 : decode cX7_nearer 17 = .ok (.iconst 1, 1) := by decide +kernel
theorem dX7_nearer_18 : decode cX7_nearer 18 = .ok (.isub, 1) := by decide +kernel
theorem dX7_nearer_19 : decode cX7_nearer 19 = .ok (.goto 4, 3) := by decide +kernel
theorem dX7_nearer_22 : decode cX7_nearer 22 = .ok (.iload_n 1, 1) := by decide +kernel
theorem dX7_nearer_23 : decode cX7_nearer 23 = .ok (.ireturn, 1) := by decide +kernel
end
section
/-! ONE LIST OF WORDS for all methods: the tables' good words; each word by its place -/
def fA : List Cond := lw_tbl.filter goodWord
theorem fA_tbl : ∀ w ∈ fA, w ∈ lw_tbl := fun w h => (List.mem_filter.mp h).1
theorem f_good {w : Cond} (h : w ∈ fA) : goodWord w = true := (List.mem_filter.mp h).2
theorem f_memT {w : Cond} (h : w ∈ tables_1) (g : goodWord w = true) : w ∈ fA := List.mem_filter.mpr ⟨List.mem_append_right _ h, g⟩
theorem f_memP {w : Cond} (h : w ∈ k2_sels lw_privs) (g : goodWord w = true) : w ∈ fA := List.mem_filter.mpr ⟨List.mem_append_left _ h, g⟩
theorem f_uws {C : String} {T : u_T} {N : Nat} (is : List Nat) (h : (List.range N).map (u_lay C T) = is.filterMap (fun i => tables_1[i]?)) (g : ((List.range N).map (u_lay C T)).all goodWord = true) : ∀ w ∈ u_ws C T N, w ∈ fA := by
  intro w hw
  have hg := List.all_eq_true.mp g w hw
  unfold u_ws at hw
  rw [h] at hw
  obtain ⟨i, -, hi⟩ := List.mem_filterMap.mp hw
  exact f_memT (List.mem_of_getElem? hi) hg
theorem q0 : Cond.code yX0_init cX0_init 1 none ∈ fA := f_memT (List.mem_of_getElem? (i := 71) (by decide +kernel)) (by decide +kernel)
theorem q1 : Cond.methodLink RX0 3 objectInit ∈ fA := f_memT (List.mem_of_getElem? (i := 72) (by decide +kernel)) (by decide +kernel)
theorem q2 : Cond.instanceMethod objectInit ∈ fA := f_memT (List.mem_of_getElem? (i := 31) (by decide +kernel)) (by decide +kernel)
theorem q3 : Cond.code objectInit ⟨#[0xb1]⟩ 1 none ∈ fA := f_memT (List.mem_of_getElem? (i := 32) (by decide +kernel)) (by decide +kernel)
theorem q4 : Cond.arrayClass .int ∈ fA := f_memT (List.mem_of_getElem? (i := 83) (by decide +kernel)) (by decide +kernel)
theorem q5 : Cond.fieldLink RX0 11 "JetWaltz$Air" "basin" "[I" ∈ fA := f_memT (List.mem_of_getElem? (i := 73) (by decide +kernel)) (by decide +kernel)
theorem q6 : Cond.fieldLink RX0 15 "JetWaltz$Air" "crowd" "[I" ∈ fA := f_memT (List.mem_of_getElem? (i := 74) (by decide +kernel)) (by decide +kernel)
theorem q7 : Cond.fieldLink RX0 18 "JetWaltz$Air" "beyond" "[I" ∈ fA := f_memT (List.mem_of_getElem? (i := 75) (by decide +kernel)) (by decide +kernel)
theorem q8 : Cond.code yJ9_floorMod_7cf53 cJ9_floorMod_7cf53 3 (some .int) ∈ fA := f_memT (List.mem_of_getElem? (i := 721) (by decide +kernel)) (by decide +kernel)
theorem q9 : Cond.code yX0_slotOf cX0_slotOf 1 (some .int) ∈ fA := f_memT (List.mem_of_getElem? (i := 753) (by decide +kernel)) (by decide +kernel)
theorem q10 : Cond.methodLink RX0 21 yJ9_floorMod_7cf53 ∈ fA := f_memT (List.mem_of_getElem? (i := 754) (by decide +kernel)) (by decide +kernel)
theorem q11 : Cond.static yJ9_floorMod_7cf53 ∈ fA := f_memT (List.mem_of_getElem? (i := 720) (by decide +kernel)) (by decide +kernel)
theorem q12 : Cond.initialized RJ9 ∈ fA := f_memT (List.mem_of_getElem? (i := 14) (by decide +kernel)) (by decide +kernel)
theorem q13 : Cond.code yX0_put cX0_put 5 none ∈ fA := f_memT (List.mem_of_getElem? (i := 777) (by decide +kernel)) (by decide +kernel)
theorem q14 : Cond.methodLink RX0 27 yX0_slotOf ∈ fA := f_memT (List.mem_of_getElem? (i := 751) (by decide +kernel)) (by decide +kernel)
theorem q15 : Cond.static yX0_slotOf ∈ fA := f_memT (List.mem_of_getElem? (i := 752) (by decide +kernel)) (by decide +kernel)
theorem q16 : Cond.initialized RX0 ∈ fA := f_memT (List.mem_of_getElem? (i := 6) (by decide +kernel)) (by decide +kernel)
theorem q17 : Cond.code yX0_fallingIn cX0_fallingIn 3 (some .int) ∈ fA := f_memT (List.mem_of_getElem? (i := 750) (by decide +kernel)) (by decide +kernel)
theorem q18 : Cond.code yX0_fallingOnBasin cX0_fallingOnBasin 2 (some .int) ∈ fA := f_memT (List.mem_of_getElem? (i := 758) (by decide +kernel)) (by decide +kernel)
theorem q19 : Cond.code yX0_fallingOnCrowd cX0_fallingOnCrowd 2 (some .int) ∈ fA := f_memT (List.mem_of_getElem? (i := 763) (by decide +kernel)) (by decide +kernel)
theorem q20 : Cond.code yX0_clear cX0_clear 3 none ∈ fA := f_memT (List.mem_of_getElem? (i := 767) (by decide +kernel)) (by decide +kernel)
theorem q21 : Cond.code yX0_all cX0_all 3 (some .int) ∈ fA := f_memT (List.mem_of_getElem? (i := 658) (by decide +kernel)) (by decide +kernel)
theorem q22 : Cond.code yX0_becomeLike cX0_becomeLike 2 none ∈ fA := f_memT (List.mem_of_getElem? (i := 698) (by decide +kernel)) (by decide +kernel)
theorem q23 : Cond.methodLink RX0 31 arraycopyName ∈ fA := f_memT (List.mem_of_getElem? (i := 699) (by decide +kernel)) (by decide +kernel)
theorem q24 : Cond.native arraycopyName ∈ fA := f_memT (List.mem_of_getElem? (i := 336) (by decide +kernel)) (by decide +kernel)
theorem q25 : Cond.static arraycopyName ∈ fA := f_memT (List.mem_of_getElem? (i := 335) (by decide +kernel)) (by decide +kernel)
theorem q26 : Cond.initialized "java/lang/System" ∈ fA := f_memT (List.mem_of_getElem? (i := 16) (by decide +kernel)) (by decide +kernel)
theorem q27 : Cond.code yX1_init cX1_init 4 none ∈ fA := f_memT (List.mem_of_getElem? (i := 572) (by decide +kernel)) (by decide +kernel)
theorem q28 : Cond.methodLink RX1 1 objectInit ∈ fA := f_memT (List.mem_of_getElem? (i := 573) (by decide +kernel)) (by decide +kernel)
theorem q29 : Cond.fieldLink RX1 7 "JetWaltz$Call" "steps" "Ljava/util/ArrayList;" ∈ fA := f_memT (List.mem_of_getElem? (i := 574) (by decide +kernel)) (by decide +kernel)
theorem q30 : Cond.fieldLink RX1 13 "JetWaltz$Call" "shift" "I" ∈ fA := f_memT (List.mem_of_getElem? (i := 576) (by decide +kernel)) (by decide +kernel)
theorem q31 : Cond.fieldLink RX1 17 "JetWaltz$Call" "calledAt" "I" ∈ fA := f_memT (List.mem_of_getElem? (i := 578) (by decide +kernel)) (by decide +kernel)
theorem q32 : Cond.code yX1_dueOf cX1_dueOf 2 (some .int) ∈ fA := f_memT (List.mem_of_getElem? (i := 650) (by decide +kernel)) (by decide +kernel)
theorem q33 : Cond.fieldLink RX1 20 "JetWaltz$Step" "tick" "I" ∈ fA := f_memT (List.mem_of_getElem? (i := 481) (by decide +kernel)) (by decide +kernel)
theorem q34 : Cond.code yJx4a65c_size_8abf5 cJx4a65c_size_8abf5 1 (some .int) ∈ fA := f_memT (List.mem_of_getElem? (i := 230) (by decide +kernel)) (by decide +kernel)
theorem q35 : Cond.fieldLink RJx4a65c 48 "java/util/ArrayList" "size" "I" ∈ fA := f_memT (List.mem_of_getElem? (i := 48) (by decide +kernel)) (by decide +kernel)
theorem q36 : Cond.code yJ3_checkIndex_8e157 cJ3_checkIndex_8e157 3 (some .int) ∈ fA := f_memT (List.mem_of_getElem? (i := 372) (by decide +kernel)) (by decide +kernel)
theorem q37 : Cond.code yJ15_checkIndex_7cf53 cJ15_checkIndex_7cf53 2 (some .int) ∈ fA := f_memT (List.mem_of_getElem? (i := 369) (by decide +kernel)) (by decide +kernel)
theorem q38 : Cond.methodLink RJ15 105 yJ3_checkIndex_8e157 ∈ fA := f_memT (List.mem_of_getElem? (i := 370) (by decide +kernel)) (by decide +kernel)
theorem q39 : Cond.static yJ3_checkIndex_8e157 ∈ fA := f_memT (List.mem_of_getElem? (i := 371) (by decide +kernel)) (by decide +kernel)
theorem q40 : Cond.initialized RJ3 ∈ fA := f_memT (List.mem_of_getElem? (i := 20) (by decide +kernel)) (by decide +kernel)
theorem q41 : Cond.code yJx4a65c_elementData_915e3 cJx4a65c_elementData_915e3 2 (some (.object "java/lang/Object")) ∈ fA := f_memT (List.mem_of_getElem? (i := 376) (by decide +kernel)) (by decide +kernel)
theorem q42 : Cond.fieldLink RJx4a65c 9 "java/util/ArrayList" "elementData" "[Ljava/lang/Object;" ∈ fA := f_memT (List.mem_of_getElem? (i := 47) (by decide +kernel)) (by decide +kernel)
theorem q43 : Cond.code yJx4a65c_get_915e3 cJx4a65c_get_915e3 2 (some (.object "java/lang/Object")) ∈ fA := f_memT (List.mem_of_getElem? (i := 366) (by decide +kernel)) (by decide +kernel)
theorem q44 : Cond.methodLink RJx4a65c 118 yJ15_checkIndex_7cf53 ∈ fA := f_memT (List.mem_of_getElem? (i := 367) (by decide +kernel)) (by decide +kernel)
theorem q45 : Cond.static yJ15_checkIndex_7cf53 ∈ fA := f_memT (List.mem_of_getElem? (i := 368) (by decide +kernel)) (by decide +kernel)
theorem q46 : Cond.initialized RJ15 ∈ fA := f_memT (List.mem_of_getElem? (i := 19) (by decide +kernel)) (by decide +kernel)
theorem q47 : Cond.methodLink RJx4a65c 123 yJx4a65c_elementData_915e3 ∈ fA := f_memT (List.mem_of_getElem? (i := 373) (by decide +kernel)) (by decide +kernel)
theorem q48 : Cond.instanceMethod yJx4a65c_elementData_915e3 ∈ fA := f_memT (List.mem_of_getElem? (i := 374) (by decide +kernel)) (by decide +kernel)
theorem q49 : Cond.selects RJx4a65c yJx4a65c_elementData_915e3 yJx4a65c_elementData_915e3 ∈ fA := f_memT (List.mem_of_getElem? (i := 375) (by decide +kernel)) (by decide +kernel)
theorem q50 : Cond.initialized RJx4a65c ∈ fA := f_memT (List.mem_of_getElem? (i := 4) (by decide +kernel)) (by decide +kernel)
theorem q51 : Cond.classLink RX1 21 "JetWaltz$Step" ∈ fA := f_memT (List.mem_of_getElem? (i := 646) (by decide +kernel)) (by decide +kernel)
theorem q52 : Cond.methodLink RX1 25 yJx4a65c_size_8abf5 ∈ fA := f_memT (List.mem_of_getElem? (i := 644) (by decide +kernel)) (by decide +kernel)
theorem q53 : Cond.instanceMethod yJx4a65c_size_8abf5 ∈ fA := f_memT (List.mem_of_getElem? (i := 228) (by decide +kernel)) (by decide +kernel)
theorem q54 : Cond.selects RJx4a65c yJx4a65c_size_8abf5 yJx4a65c_size_8abf5 ∈ fA := f_memT (List.mem_of_getElem? (i := 229) (by decide +kernel)) (by decide +kernel)
theorem q55 : Cond.methodLink RX1 31 yJx4a65c_get_915e3 ∈ fA := f_memT (List.mem_of_getElem? (i := 645) (by decide +kernel)) (by decide +kernel)
theorem q56 : Cond.instanceMethod yJx4a65c_get_915e3 ∈ fA := f_memT (List.mem_of_getElem? (i := 364) (by decide +kernel)) (by decide +kernel)
theorem q57 : Cond.selects RJx4a65c yJx4a65c_get_915e3 yJx4a65c_get_915e3 ∈ fA := f_memT (List.mem_of_getElem? (i := 365) (by decide +kernel)) (by decide +kernel)
theorem q58 : Cond.methodLink RX1 35 yX1_dueOf ∈ fA := f_memT (List.mem_of_getElem? (i := 647) (by decide +kernel)) (by decide +kernel)
theorem q59 : Cond.instanceMethod yX1_dueOf ∈ fA := f_memT (List.mem_of_getElem? (i := 648) (by decide +kernel)) (by decide +kernel)
theorem q60 : Cond.selects RX1 yX1_dueOf yX1_dueOf ∈ fA := f_memT (List.mem_of_getElem? (i := 649) (by decide +kernel)) (by decide +kernel)
theorem q61 : Cond.initialized RX1 ∈ fA := f_memT (List.mem_of_getElem? (i := 23) (by decide +kernel)) (by decide +kernel)
theorem q62 : Cond.code yX1_stepsDueAfter cX1_stepsDueAfter 4 (some .int) ∈ fA := f_memT (List.mem_of_getElem? (i := 643) (by decide +kernel)) (by decide +kernel)
theorem q63 : Cond.code yJxa1e45_init_da8c8 cJxa1e45_init_da8c8 1 none ∈ fA := f_memT (List.mem_of_getElem? (i := 43) (by decide +kernel)) (by decide +kernel)
theorem q64 : Cond.methodLink RJxa1e45 1 objectInit ∈ fA := f_memT (List.mem_of_getElem? (i := 44) (by decide +kernel)) (by decide +kernel)
theorem q65 : Cond.code yJxc12de_init_da8c8 cJxc12de_init_da8c8 1 none ∈ fA := f_memT (List.mem_of_getElem? (i := 40) (by decide +kernel)) (by decide +kernel)
theorem q66 : Cond.fieldLink RJxc12de 7 "java/util/AbstractList" "modCount" "I" ∈ fA := f_memT (List.mem_of_getElem? (i := 49) (by decide +kernel)) (by decide +kernel)
theorem q67 : Cond.methodLink RJxc12de 1 yJxa1e45_init_da8c8 ∈ fA := f_memT (List.mem_of_getElem? (i := 41) (by decide +kernel)) (by decide +kernel)
theorem q68 : Cond.instanceMethod yJxa1e45_init_da8c8 ∈ fA := f_memT (List.mem_of_getElem? (i := 42) (by decide +kernel)) (by decide +kernel)
theorem q69 : Cond.initialized RJxa1e45 ∈ fA := f_memT (List.mem_of_getElem? (i := 2) (by decide +kernel)) (by decide +kernel)
theorem q70 : Cond.code yJx4a65c_init_da8c8 cJx4a65c_init_da8c8 1 none ∈ fA := f_memT (List.mem_of_getElem? (i := 37) (by decide +kernel)) (by decide +kernel)
theorem q71 : Cond.fieldLink RJx4a65c 39 "java/util/ArrayList" "DEFAULTCAPACITY_EMPTY_ELEMENTDATA" "[Ljava/lang/Object;" ∈ fA := f_memT (List.mem_of_getElem? (i := 45) (by decide +kernel)) (by decide +kernel)
theorem q72 : Cond.methodLink RJx4a65c 1 yJxc12de_init_da8c8 ∈ fA := f_memT (List.mem_of_getElem? (i := 38) (by decide +kernel)) (by decide +kernel)
theorem q73 : Cond.instanceMethod yJxc12de_init_da8c8 ∈ fA := f_memT (List.mem_of_getElem? (i := 39) (by decide +kernel)) (by decide +kernel)
theorem q74 : Cond.initialized RJxc12de ∈ fA := f_memT (List.mem_of_getElem? (i := 3) (by decide +kernel)) (by decide +kernel)
theorem q75 : Cond.code yX2_init cX2_init 1 none ∈ fA := f_memT (List.mem_of_getElem? (i := 451) (by decide +kernel)) (by decide +kernel)
theorem q76 : Cond.methodLink RX2 1 objectInit ∈ fA := f_memT (List.mem_of_getElem? (i := 452) (by decide +kernel)) (by decide +kernel)
theorem q77 : Cond.classLink RX2 7 RJx4a65c ∈ fA := f_memT (List.mem_of_getElem? (i := 453) (by decide +kernel)) (by decide +kernel)
theorem q78 : Cond.instantiable RJx4a65c 3 ∈ fA := f_memT (List.mem_of_getElem? (i := 34) (by decide +kernel)) (by decide +kernel)
theorem q79 : Cond.fieldLink RX2 10 "JetWaltz$Figure" "steps" "Ljava/util/ArrayList;" ∈ fA := f_memT (List.mem_of_getElem? (i := 455) (by decide +kernel)) (by decide +kernel)
theorem q80 : Cond.methodLink RX2 9 yJx4a65c_init_da8c8 ∈ fA := f_memT (List.mem_of_getElem? (i := 454) (by decide +kernel)) (by decide +kernel)
theorem q81 : Cond.instanceMethod yJx4a65c_init_da8c8 ∈ fA := f_memT (List.mem_of_getElem? (i := 36) (by decide +kernel)) (by decide +kernel)
theorem q82 : Cond.code yJ8_hugeLength_7cf53 cJ8_hugeLength_7cf53 3 (some .int) ∈ fA := f_memT (List.mem_of_getElem? (i := 305) (by decide +kernel)) (by decide +kernel)
theorem q83 : Cond.constant RJ8 200 (2147483639) ∈ fA := f_memT (List.mem_of_getElem? (i := 302) (by decide +kernel)) (by decide +kernel)
theorem q84 : Cond.code yJ8_newLength_cabcc cJ8_newLength_cabcc 4 (some .int) ∈ fA := f_memT (List.mem_of_getElem? (i := 298) (by decide +kernel)) (by decide +kernel)
theorem q85 : Cond.methodLink RJ8 194 Lib.Math.max.name ∈ fA := f_memT (List.mem_of_getElem? (i := 299) (by decide +kernel)) (by decide +kernel)
theorem q86 : Cond.static Lib.Math.max.name ∈ fA := f_memT (List.mem_of_getElem? (i := 300) (by decide +kernel)) (by decide +kernel)
theorem q87 : Cond.initialized "java/lang/Math" ∈ fA := f_memT (List.mem_of_getElem? (i := 14) (by decide +kernel)) (by decide +kernel)
theorem q88 : Cond.code Lib.Math.max.name Lib.Math.max.code 2 (some .int) ∈ fA := f_memT (List.mem_of_getElem? (i := 301) (by decide +kernel)) (by decide +kernel)
theorem q89 : Cond.methodLink RJ8 201 yJ8_hugeLength_7cf53 ∈ fA := f_memT (List.mem_of_getElem? (i := 303) (by decide +kernel)) (by decide +kernel)
theorem q90 : Cond.static yJ8_hugeLength_7cf53 ∈ fA := f_memT (List.mem_of_getElem? (i := 304) (by decide +kernel)) (by decide +kernel)
theorem q91 : Cond.initialized RJ8 ∈ fA := f_memT (List.mem_of_getElem? (i := 13) (by decide +kernel)) (by decide +kernel)
theorem q92 : Cond.classLink RJ7 110 "[Ljava/lang/Object;" ∈ fA := f_memT (List.mem_of_getElem? (i := 328) (by decide +kernel)) (by decide +kernel)
theorem q93 : Cond.classLink RJ7 2 "java/lang/Object" ∈ fA := f_memT (List.mem_of_getElem? (i := 330) (by decide +kernel)) (by decide +kernel)
theorem q94 : Cond.methodLink RJ7 304 Lib.Math.min.name ∈ fA := f_memT (List.mem_of_getElem? (i := 331) (by decide +kernel)) (by decide +kernel)
theorem q95 : Cond.static Lib.Math.min.name ∈ fA := f_memT (List.mem_of_getElem? (i := 332) (by decide +kernel)) (by decide +kernel)
theorem q96 : Cond.code Lib.Math.min.name Lib.Math.min.code 2 (some .int) ∈ fA := f_memT (List.mem_of_getElem? (i := 333) (by decide +kernel)) (by decide +kernel)
theorem q97 : Cond.methodLink RJ7 150 arraycopyName ∈ fA := f_memT (List.mem_of_getElem? (i := 334) (by decide +kernel)) (by decide +kernel)
theorem q98 : Cond.methodLink RJ7 86 ⟨"java/lang/Object", "getClass", "()Ljava/lang/Class;"⟩ ∈ fA := f_memT (List.mem_of_getElem? (i := 309) (by decide +kernel)) (by decide +kernel)
theorem q99 : Cond.selects "[Ljava/lang/Object;" ⟨"java/lang/Object", "getClass", "()Ljava/lang/Class;"⟩ ⟨"java/lang/Object", "getClass", "()Ljava/lang/Class;"⟩ ∈ fA := f_memT (List.mem_of_getElem? (i := 896) (by decide +kernel)) (by decide +kernel)
theorem q100 : Cond.instanceMethod ⟨"java/lang/Object", "getClass", "()Ljava/lang/Class;"⟩ ∈ fA := f_memT (List.mem_of_getElem? (i := 310) (by decide +kernel)) (by decide +kernel)
theorem q101 : Cond.native ⟨"java/lang/Object", "getClass", "()Ljava/lang/Class;"⟩ ∈ fA := f_memT (List.mem_of_getElem? (i := 324) (by decide +kernel)) (by decide +kernel)
theorem q102 : Cond.methodLink RJ7 300 yJ7_copyOf_6403c ∈ fA := f_memT (List.mem_of_getElem? (i := 325) (by decide +kernel)) (by decide +kernel)
theorem q103 : Cond.static yJ7_copyOf_6403c ∈ fA := f_memT (List.mem_of_getElem? (i := 326) (by decide +kernel)) (by decide +kernel)
theorem q104 : Cond.initialized RJ7 ∈ fA := f_memT (List.mem_of_getElem? (i := 15) (by decide +kernel)) (by decide +kernel)
theorem q105 : Cond.code yJ7_copyOf_6403c cJ7_copyOf_6403c 4 (some (.array (.object "java/lang/Object"))) ∈ fA := f_memT (List.mem_of_getElem? (i := 327) (by decide +kernel)) (by decide +kernel)
theorem q106 : Cond.methodLink RJx4a65c 79 Lib.Math.max.name ∈ fA := f_memT (List.mem_of_getElem? (i := 337) (by decide +kernel)) (by decide +kernel)
theorem q107 : Cond.classLink RJx4a65c 7 "java/lang/Object" ∈ fA := f_memT (List.mem_of_getElem? (i := 338) (by decide +kernel)) (by decide +kernel)
theorem q108 : Cond.methodLink RJx4a65c 73 yJ8_newLength_cabcc ∈ fA := f_memT (List.mem_of_getElem? (i := 296) (by decide +kernel)) (by decide +kernel)
theorem q109 : Cond.static yJ8_newLength_cabcc ∈ fA := f_memT (List.mem_of_getElem? (i := 297) (by decide +kernel)) (by decide +kernel)
theorem q110 : Cond.methodLink RJx4a65c 66 yJ7_copyOf_1904c ∈ fA := f_memT (List.mem_of_getElem? (i := 306) (by decide +kernel)) (by decide +kernel)
theorem q111 : Cond.static yJ7_copyOf_1904c ∈ fA := f_memT (List.mem_of_getElem? (i := 307) (by decide +kernel)) (by decide +kernel)
theorem q112 : Cond.code yJ7_copyOf_1904c cJ7_copyOf_1904c 2 (some (.array (.object "java/lang/Object"))) ∈ fA := f_memT (List.mem_of_getElem? (i := 308) (by decide +kernel)) (by decide +kernel)
theorem q113 : Cond.methodLink RJx4a65c 69 yJx4a65c_grow_92f84 ∈ fA := f_memT (List.mem_of_getElem? (i := 292) (by decide +kernel)) (by decide +kernel)
theorem q114 : Cond.instanceMethod yJx4a65c_grow_92f84 ∈ fA := f_memT (List.mem_of_getElem? (i := 294) (by decide +kernel)) (by decide +kernel)
theorem q115 : Cond.selects RJx4a65c yJx4a65c_grow_92f84 yJx4a65c_grow_92f84 ∈ fA := f_memP (List.mem_of_getElem? (i := 3) (by decide +kernel)) (by decide +kernel)
theorem q116 : Cond.code yJx4a65c_grow_92f84 cJx4a65c_grow_92f84 4 (some (.array (.object "java/lang/Object"))) ∈ fA := f_memT (List.mem_of_getElem? (i := 295) (by decide +kernel)) (by decide +kernel)
theorem q117 : Cond.methodLink RJx4a65c 129 yJx4a65c_grow_d5877 ∈ fA := f_memT (List.mem_of_getElem? (i := 288) (by decide +kernel)) (by decide +kernel)
theorem q118 : Cond.instanceMethod yJx4a65c_grow_d5877 ∈ fA := f_memT (List.mem_of_getElem? (i := 290) (by decide +kernel)) (by decide +kernel)
theorem q119 : Cond.selects RJx4a65c yJx4a65c_grow_d5877 yJx4a65c_grow_d5877 ∈ fA := f_memP (List.mem_of_getElem? (i := 2) (by decide +kernel)) (by decide +kernel)
theorem q120 : Cond.code yJx4a65c_grow_d5877 cJx4a65c_grow_d5877 1 (some (.array (.object "java/lang/Object"))) ∈ fA := f_memT (List.mem_of_getElem? (i := 291) (by decide +kernel)) (by decide +kernel)
theorem q121 : Cond.code yJx4a65c_add_72be8 cJx4a65c_add_72be8 4 none ∈ fA := f_memT (List.mem_of_getElem? (i := 287) (by decide +kernel)) (by decide +kernel)
theorem q122 : Cond.fieldLink RJx4a65c 63 "java/util/ArrayList" "modCount" "I" ∈ fA := f_memT (List.mem_of_getElem? (i := 50) (by decide +kernel)) (by decide +kernel)
theorem q123 : Cond.sameField "java/util/ArrayList" "java/util/AbstractList" "modCount" "I" ∈ fA := f_memT (List.mem_of_getElem? (i := 51) (by decide +kernel)) (by decide +kernel)
theorem q124 : Cond.methodLink RJx4a65c 131 yJx4a65c_add_72be8 ∈ fA := f_memT (List.mem_of_getElem? (i := 284) (by decide +kernel)) (by decide +kernel)
theorem q125 : Cond.instanceMethod yJx4a65c_add_72be8 ∈ fA := f_memT (List.mem_of_getElem? (i := 286) (by decide +kernel)) (by decide +kernel)
theorem q126 : Cond.selects RJx4a65c yJx4a65c_add_72be8 yJx4a65c_add_72be8 ∈ fA := f_memP (List.mem_of_getElem? (i := 1) (by decide +kernel)) (by decide +kernel)
theorem q127 : Cond.code yJx4a65c_add_9ea2d cJx4a65c_add_9ea2d 2 (some .boolean) ∈ fA := f_memT (List.mem_of_getElem? (i := 283) (by decide +kernel)) (by decide +kernel)
theorem q128 : Cond.classLink RX2 24 "JetWaltz$Step" ∈ fA := f_memT (List.mem_of_getElem? (i := 568) (by decide +kernel)) (by decide +kernel)
theorem q129 : Cond.methodLink RX2 16 yJx4a65c_size_8abf5 ∈ fA := f_memT (List.mem_of_getElem? (i := 566) (by decide +kernel)) (by decide +kernel)
theorem q130 : Cond.methodLink RX2 20 yJx4a65c_get_915e3 ∈ fA := f_memT (List.mem_of_getElem? (i := 567) (by decide +kernel)) (by decide +kernel)
theorem q131 : Cond.methodLink RX2 26 yJx4a65c_add_9ea2d ∈ fA := f_memT (List.mem_of_getElem? (i := 569) (by decide +kernel)) (by decide +kernel)
theorem q132 : Cond.instanceMethod yJx4a65c_add_9ea2d ∈ fA := f_memT (List.mem_of_getElem? (i := 281) (by decide +kernel)) (by decide +kernel)
theorem q133 : Cond.selects RJx4a65c yJx4a65c_add_9ea2d yJx4a65c_add_9ea2d ∈ fA := f_memT (List.mem_of_getElem? (i := 282) (by decide +kernel)) (by decide +kernel)
theorem q134 : Cond.code yX2_stepsNow cX2_stepsNow 3 (some (.object "java/util/ArrayList")) ∈ fA := f_memT (List.mem_of_getElem? (i := 565) (by decide +kernel)) (by decide +kernel)
theorem q135 : Cond.code yX3_init cX3_init 5 none ∈ fA := f_memT (List.mem_of_getElem? (i := 390) (by decide +kernel)) (by decide +kernel)
theorem q136 : Cond.methodLink RX3 3 objectInit ∈ fA := f_memT (List.mem_of_getElem? (i := 391) (by decide +kernel)) (by decide +kernel)
theorem q137 : Cond.fieldLink RX3 9 "JetWaltz$Jet" "pump" "LJetWaltz$Pump;" ∈ fA := f_memT (List.mem_of_getElem? (i := 392) (by decide +kernel)) (by decide +kernel)
theorem q138 : Cond.fieldLink RX3 15 "JetWaltz$Jet" "place" "I" ∈ fA := f_memT (List.mem_of_getElem? (i := 395) (by decide +kernel)) (by decide +kernel)
theorem q139 : Cond.fieldLink RX3 19 "JetWaltz$Jet" "nozzle" "I" ∈ fA := f_memT (List.mem_of_getElem? (i := 398) (by decide +kernel)) (by decide +kernel)
theorem q140 : Cond.fieldLink RX3 22 "JetWaltz$Jet" "slant" "I" ∈ fA := f_memT (List.mem_of_getElem? (i := 401) (by decide +kernel)) (by decide +kernel)
theorem q141 : Cond.code yX3_flow cX3_flow 1 (some .int) ∈ fA := f_memT (List.mem_of_getElem? (i := 597) (by decide +kernel)) (by decide +kernel)
theorem q142 : Cond.fieldLink RX3 25 "JetWaltz$Jet" "valve" "I" ∈ fA := f_memT (List.mem_of_getElem? (i := 407) (by decide +kernel)) (by decide +kernel)
theorem q143 : Cond.code yX7_nearer cX7_nearer 2 (some .int) ∈ fA := f_memT (List.mem_of_getElem? (i := 737) (by decide +kernel)) (by decide +kernel)
theorem q144 : Cond.code yX3_turn cX3_turn 1 none ∈ fA := f_memT (List.mem_of_getElem? (i := 741) (by decide +kernel)) (by decide +kernel)
theorem q145 : Cond.fieldLink RX3 28 "JetWaltz$Jet" "isStuck" "Z" ∈ fA := f_memT (List.mem_of_getElem? (i := 410) (by decide +kernel)) (by decide +kernel)
theorem q146 : Cond.fieldLink RX3 32 "JetWaltz$Jet" "valveSet" "I" ∈ fA := f_memT (List.mem_of_getElem? (i := 404) (by decide +kernel)) (by decide +kernel)
theorem q147 : Cond.static yX7_nearer ∈ fA := f_memT (List.mem_of_getElem? (i := 736) (by decide +kernel)) (by decide +kernel)
theorem q148 : Cond.initialized RX7 ∈ fA := f_memT (List.mem_of_getElem? (i := 1) (by decide +kernel)) (by decide +kernel)
theorem q149 : Cond.code yX3_isShorted cX3_isShorted 1 (some .boolean) ∈ fA := f_memT (List.mem_of_getElem? (i := 804) (by decide +kernel)) (by decide +kernel)
theorem q150 : Cond.fieldLink RX3 39 "JetWaltz$Jet" "isLampOn" "Z" ∈ fA := f_memT (List.mem_of_getElem? (i := 412) (by decide +kernel)) (by decide +kernel)
theorem q151 : Cond.fieldLink RX3 42 "JetWaltz$Jet" "leaks" "Z" ∈ fA := f_memT (List.mem_of_getElem? (i := 415) (by decide +kernel)) (by decide +kernel)
theorem q152 : Cond.code yX4_setTo cX4_setTo 2 none ∈ fA := f_memT (List.mem_of_getElem? (i := 518) (by decide +kernel)) (by decide +kernel)
theorem q153 : Cond.fieldLink RX4 16 "JetWaltz$Pump" "isTripped" "Z" ∈ fA := f_memT (List.mem_of_getElem? (i := 263) (by decide +kernel)) (by decide +kernel)
theorem q154 : Cond.fieldLink RX4 20 "JetWaltz$Pump" "setting" "I" ∈ fA := f_memT (List.mem_of_getElem? (i := 258) (by decide +kernel)) (by decide +kernel)
theorem q155 : Cond.code yX3_obey cX3_obey 2 none ∈ fA := f_memT (List.mem_of_getElem? (i := 725) (by decide +kernel)) (by decide +kernel)
theorem q156 : Cond.methodLink RX3 45 yX4_setTo ∈ fA := f_memT (List.mem_of_getElem? (i := 726) (by decide +kernel)) (by decide +kernel)
theorem q157 : Cond.instanceMethod yX4_setTo ∈ fA := f_memT (List.mem_of_getElem? (i := 516) (by decide +kernel)) (by decide +kernel)
theorem q158 : Cond.selects RX4 yX4_setTo yX4_setTo ∈ fA := f_memT (List.mem_of_getElem? (i := 517) (by decide +kernel)) (by decide +kernel)
theorem q159 : Cond.initialized RX4 ∈ fA := f_memT (List.mem_of_getElem? (i := 12) (by decide +kernel)) (by decide +kernel)
theorem q160 : Cond.code yX3_becomeLike cX3_becomeLike 2 none ∈ fA := f_memT (List.mem_of_getElem? (i := 694) (by decide +kernel)) (by decide +kernel)
theorem q161 : Cond.fieldLink RX3 51 "JetWaltz$Jet" "thrown" "I" ∈ fA := f_memT (List.mem_of_getElem? (i := 417) (by decide +kernel)) (by decide +kernel)
end
section
theorem q162 : Cond.code yX4_init cX4_init 3 none ∈ fA := f_memT (List.mem_of_getElem? (i := 251) (by decide +kernel)) (by decide +kernel)
theorem q163 : Cond.methodLink RX4 1 objectInit ∈ fA := f_memT (List.mem_of_getElem? (i := 252) (by decide +kernel)) (by decide +kernel)
theorem q164 : Cond.fieldLink RX4 7 "JetWaltz$Pump" "number" "I" ∈ fA := f_memT (List.mem_of_getElem? (i := 253) (by decide +kernel)) (by decide +kernel)
theorem q165 : Cond.fieldLink RX4 13 "JetWaltz$Pump" "power" "I" ∈ fA := f_memT (List.mem_of_getElem? (i := 255) (by decide +kernel)) (by decide +kernel)
theorem q166 : Cond.code yX4_turn cX4_turn 1 none ∈ fA := f_memT (List.mem_of_getElem? (i := 734) (by decide +kernel)) (by decide +kernel)
theorem q167 : Cond.fieldLink RX4 23 "JetWaltz$Pump" "drive" "I" ∈ fA := f_memT (List.mem_of_getElem? (i := 260) (by decide +kernel)) (by decide +kernel)
theorem q168 : Cond.code yX4_trip cX4_trip 1 none ∈ fA := f_memT (List.mem_of_getElem? (i := 796) (by decide +kernel)) (by decide +kernel)
theorem q169 : Cond.fieldLink RX4 32 "JetWaltz$Pump" "trips" "I" ∈ fA := f_memT (List.mem_of_getElem? (i := 265) (by decide +kernel)) (by decide +kernel)
theorem q170 : Cond.code yX4_becomeLike cX4_becomeLike 2 none ∈ fA := f_memT (List.mem_of_getElem? (i := 690) (by decide +kernel)) (by decide +kernel)
theorem q171 : Cond.methodLink RX5 3 objectInit ∈ fA := f_memT (List.mem_of_getElem? (i := 64) (by decide +kernel)) (by decide +kernel)
theorem q172 : Cond.classLink RX5 9 RJx4a65c ∈ fA := f_memT (List.mem_of_getElem? (i := 65) (by decide +kernel)) (by decide +kernel)
theorem q173 : Cond.fieldLink RX5 12 "JetWaltz$Show" "pumps" "Ljava/util/ArrayList;" ∈ fA := f_memT (List.mem_of_getElem? (i := 84) (by decide +kernel)) (by decide +kernel)
theorem q174 : Cond.fieldLink RX5 18 "JetWaltz$Show" "jets" "Ljava/util/ArrayList;" ∈ fA := f_memT (List.mem_of_getElem? (i := 86) (by decide +kernel)) (by decide +kernel)
theorem q175 : Cond.fieldLink RX5 21 "JetWaltz$Show" "calls" "Ljava/util/ArrayList;" ∈ fA := f_memT (List.mem_of_getElem? (i := 88) (by decide +kernel)) (by decide +kernel)
theorem q176 : Cond.classLink RX5 24 RX0 ∈ fA := f_memT (List.mem_of_getElem? (i := 67) (by decide +kernel)) (by decide +kernel)
theorem q177 : Cond.instantiable RX0 3 ∈ fA := f_memT (List.mem_of_getElem? (i := 68) (by decide +kernel)) (by decide +kernel)
theorem q178 : Cond.fieldLink RX5 27 "JetWaltz$Show" "air" "LJetWaltz$Air;" ∈ fA := f_memT (List.mem_of_getElem? (i := 90) (by decide +kernel)) (by decide +kernel)
theorem q179 : Cond.fieldLink RX5 31 "JetWaltz$Show" "water" "I" ∈ fA := f_memT (List.mem_of_getElem? (i := 94) (by decide +kernel)) (by decide +kernel)
theorem q180 : Cond.methodLink RX5 11 yJx4a65c_init_da8c8 ∈ fA := f_memT (List.mem_of_getElem? (i := 66) (by decide +kernel)) (by decide +kernel)
theorem q181 : Cond.instanceMethod yX0_init ∈ fA := f_memT (List.mem_of_getElem? (i := 70) (by decide +kernel)) (by decide +kernel)
theorem q182 : Cond.code yX5_init cX5_init 1 none ∈ fA := f_memT (List.mem_of_getElem? (i := 63) (by decide +kernel)) (by decide +kernel)
theorem q183 : Cond.classLink RX5 39 RX3 ∈ fA := f_memT (List.mem_of_getElem? (i := 384) (by decide +kernel)) (by decide +kernel)
theorem q184 : Cond.instantiable RX3 10 ∈ fA := f_memT (List.mem_of_getElem? (i := 385) (by decide +kernel)) (by decide +kernel)
theorem q185 : Cond.initialized RX3 ∈ fA := f_memT (List.mem_of_getElem? (i := 21) (by decide +kernel)) (by decide +kernel)
theorem q186 : Cond.classLink RX5 45 "JetWaltz$Pump" ∈ fA := f_memT (List.mem_of_getElem? (i := 387) (by decide +kernel)) (by decide +kernel)
theorem q187 : Cond.methodLink RX5 35 yJx4a65c_size_8abf5 ∈ fA := f_memT (List.mem_of_getElem? (i := 383) (by decide +kernel)) (by decide +kernel)
theorem q188 : Cond.methodLink RX5 41 yJx4a65c_get_915e3 ∈ fA := f_memT (List.mem_of_getElem? (i := 386) (by decide +kernel)) (by decide +kernel)
theorem q189 : Cond.methodLink RX5 47 yX3_init ∈ fA := f_memT (List.mem_of_getElem? (i := 388) (by decide +kernel)) (by decide +kernel)
theorem q190 : Cond.instanceMethod yX3_init ∈ fA := f_memT (List.mem_of_getElem? (i := 389) (by decide +kernel)) (by decide +kernel)
theorem q191 : Cond.methodLink RX5 50 yJx4a65c_add_9ea2d ∈ fA := f_memT (List.mem_of_getElem? (i := 441) (by decide +kernel)) (by decide +kernel)
theorem q192 : Cond.code yX5_addJet cX5_addJet 5 none ∈ fA := f_memT (List.mem_of_getElem? (i := 382) (by decide +kernel)) (by decide +kernel)
theorem q193 : Cond.methodLink RX5 54 yX4_setTo ∈ fA := f_memT (List.mem_of_getElem? (i := 540) (by decide +kernel)) (by decide +kernel)
theorem q194 : Cond.code yX5_setPumpOfNumber cX5_setPumpOfNumber 3 none ∈ fA := f_memT (List.mem_of_getElem? (i := 827) (by decide +kernel)) (by decide +kernel)
theorem q195 : Cond.code yX7_pressureBy cX7_pressureBy 4 (some .int) ∈ fA := f_memT (List.mem_of_getElem? (i := 600) (by decide +kernel)) (by decide +kernel)
theorem q196 : Cond.classLink RX5 39 "JetWaltz$Jet" ∈ fA := f_memT (List.mem_of_getElem? (i := 384) (by decide +kernel)) (by decide +kernel)
theorem q197 : Cond.fieldLink RX5 209 "JetWaltz$Jet" "pump" "LJetWaltz$Pump;" ∈ fA := f_memT (List.mem_of_getElem? (i := 393) (by decide +kernel)) (by decide +kernel)
theorem q198 : Cond.fieldLink RX5 170 "JetWaltz$Pump" "drive" "I" ∈ fA := f_memT (List.mem_of_getElem? (i := 261) (by decide +kernel)) (by decide +kernel)
theorem q199 : Cond.fieldLink RX5 213 "JetWaltz$Pump" "power" "I" ∈ fA := f_memT (List.mem_of_getElem? (i := 257) (by decide +kernel)) (by decide +kernel)
theorem q200 : Cond.methodLink RX5 150 yX3_flow ∈ fA := f_memT (List.mem_of_getElem? (i := 594) (by decide +kernel)) (by decide +kernel)
theorem q201 : Cond.instanceMethod yX3_flow ∈ fA := f_memT (List.mem_of_getElem? (i := 595) (by decide +kernel)) (by decide +kernel)
theorem q202 : Cond.selects RX3 yX3_flow yX3_flow ∈ fA := f_memT (List.mem_of_getElem? (i := 596) (by decide +kernel)) (by decide +kernel)
theorem q203 : Cond.static yX7_pressureBy ∈ fA := f_memT (List.mem_of_getElem? (i := 599) (by decide +kernel)) (by decide +kernel)
theorem q204 : Cond.code yX5_pressureOf cX5_pressureOf 5 (some .int) ∈ fA := f_memT (List.mem_of_getElem? (i := 593) (by decide +kernel)) (by decide +kernel)
theorem q205 : Cond.code yX7_heightBy cX7_heightBy 2 (some .int) ∈ fA := f_memT (List.mem_of_getElem? (i := 618) (by decide +kernel)) (by decide +kernel)
theorem q206 : Cond.methodLink RX7 321 Lib.Math.min.name ∈ fA := f_memT (List.mem_of_getElem? (i := 619) (by decide +kernel)) (by decide +kernel)
theorem q207 : Cond.fieldLink RX5 227 "JetWaltz$Jet" "valve" "I" ∈ fA := f_memT (List.mem_of_getElem? (i := 409) (by decide +kernel)) (by decide +kernel)
theorem q208 : Cond.methodLink RX5 223 yX5_pressureOf ∈ fA := f_memT (List.mem_of_getElem? (i := 615) (by decide +kernel)) (by decide +kernel)
theorem q209 : Cond.instanceMethod yX5_pressureOf ∈ fA := f_memT (List.mem_of_getElem? (i := 591) (by decide +kernel)) (by decide +kernel)
theorem q210 : Cond.selects RX5 yX5_pressureOf yX5_pressureOf ∈ fA := f_memT (List.mem_of_getElem? (i := 592) (by decide +kernel)) (by decide +kernel)
theorem q211 : Cond.initialized RX5 ∈ fA := f_memT (List.mem_of_getElem? (i := 5) (by decide +kernel)) (by decide +kernel)
theorem q212 : Cond.static yX7_heightBy ∈ fA := f_memT (List.mem_of_getElem? (i := 617) (by decide +kernel)) (by decide +kernel)
theorem q213 : Cond.code yX5_heightOf cX5_heightOf 2 (some .int) ∈ fA := f_memT (List.mem_of_getElem? (i := 614) (by decide +kernel)) (by decide +kernel)
theorem q214 : Cond.methodLink RX5 58 yX5_heightOf ∈ fA := f_memT (List.mem_of_getElem? (i := 663) (by decide +kernel)) (by decide +kernel)
theorem q215 : Cond.instanceMethod yX5_heightOf ∈ fA := f_memT (List.mem_of_getElem? (i := 612) (by decide +kernel)) (by decide +kernel)
theorem q216 : Cond.selects RX5 yX5_heightOf yX5_heightOf ∈ fA := f_memT (List.mem_of_getElem? (i := 613) (by decide +kernel)) (by decide +kernel)
theorem q217 : Cond.code yX5_heightOfNumber cX5_heightOfNumber 2 (some .int) ∈ fA := f_memT (List.mem_of_getElem? (i := 808) (by decide +kernel)) (by decide +kernel)
theorem q218 : Cond.code yX6_names cX6_names 2 (some .boolean) ∈ fA := f_memT (List.mem_of_getElem? (i := 718) (by decide +kernel)) (by decide +kernel)
theorem q219 : Cond.fieldLink RX6 13 "JetWaltz$Step" "jets" "I" ∈ fA := f_memT (List.mem_of_getElem? (i := 482) (by decide +kernel)) (by decide +kernel)
theorem q220 : Cond.fieldLink RX5 118 "JetWaltz$Step" "value" "I" ∈ fA := f_memT (List.mem_of_getElem? (i := 484) (by decide +kernel)) (by decide +kernel)
theorem q221 : Cond.methodLink RX5 108 yX6_names ∈ fA := f_memT (List.mem_of_getElem? (i := 715) (by decide +kernel)) (by decide +kernel)
theorem q222 : Cond.instanceMethod yX6_names ∈ fA := f_memT (List.mem_of_getElem? (i := 716) (by decide +kernel)) (by decide +kernel)
theorem q223 : Cond.selects RX6 yX6_names yX6_names ∈ fA := f_memT (List.mem_of_getElem? (i := 717) (by decide +kernel)) (by decide +kernel)
theorem q224 : Cond.initialized RX6 ∈ fA := f_memT (List.mem_of_getElem? (i := 22) (by decide +kernel)) (by decide +kernel)
theorem q225 : Cond.methodLink RX5 112 yJ9_floorMod_7cf53 ∈ fA := f_memT (List.mem_of_getElem? (i := 719) (by decide +kernel)) (by decide +kernel)
theorem q226 : Cond.methodLink RX5 121 yX3_obey ∈ fA := f_memT (List.mem_of_getElem? (i := 722) (by decide +kernel)) (by decide +kernel)
theorem q227 : Cond.instanceMethod yX3_obey ∈ fA := f_memT (List.mem_of_getElem? (i := 723) (by decide +kernel)) (by decide +kernel)
theorem q228 : Cond.selects RX3 yX3_obey yX3_obey ∈ fA := f_memT (List.mem_of_getElem? (i := 724) (by decide +kernel)) (by decide +kernel)
theorem q229 : Cond.code yX5_doStep cX5_doStep 5 none ∈ fA := f_memT (List.mem_of_getElem? (i := 714) (by decide +kernel)) (by decide +kernel)
theorem q230 : Cond.classLink RX5 90 "JetWaltz$Call" ∈ fA := f_memT (List.mem_of_getElem? (i := 708) (by decide +kernel)) (by decide +kernel)
theorem q231 : Cond.fieldLink RX5 92 "JetWaltz$Call" "steps" "Ljava/util/ArrayList;" ∈ fA := f_memT (List.mem_of_getElem? (i := 575) (by decide +kernel)) (by decide +kernel)
theorem q232 : Cond.classLink RX5 95 "JetWaltz$Step" ∈ fA := f_memT (List.mem_of_getElem? (i := 709) (by decide +kernel)) (by decide +kernel)
theorem q233 : Cond.fieldLink RX5 62 "JetWaltz$Show" "now" "I" ∈ fA := f_memT (List.mem_of_getElem? (i := 92) (by decide +kernel)) (by decide +kernel)
theorem q234 : Cond.fieldLink RX5 101 "JetWaltz$Call" "shift" "I" ∈ fA := f_memT (List.mem_of_getElem? (i := 577) (by decide +kernel)) (by decide +kernel)
theorem q235 : Cond.methodLink RX5 97 yX1_dueOf ∈ fA := f_memT (List.mem_of_getElem? (i := 710) (by decide +kernel)) (by decide +kernel)
theorem q236 : Cond.methodLink RX5 104 yX5_doStep ∈ fA := f_memT (List.mem_of_getElem? (i := 711) (by decide +kernel)) (by decide +kernel)
theorem q237 : Cond.instanceMethod yX5_doStep ∈ fA := f_memT (List.mem_of_getElem? (i := 713) (by decide +kernel)) (by decide +kernel)
theorem q238 : Cond.selects RX5 yX5_doStep yX5_doStep ∈ fA := f_memP (List.mem_of_getElem? (i := 10) (by decide +kernel)) (by decide +kernel)
theorem q239 : Cond.code yX5_doStepsDue cX5_doStepsDue 5 none ∈ fA := f_memT (List.mem_of_getElem? (i := 707) (by decide +kernel)) (by decide +kernel)
theorem q240 : Cond.methodLink RX5 124 yX4_turn ∈ fA := f_memT (List.mem_of_getElem? (i := 731) (by decide +kernel)) (by decide +kernel)
theorem q241 : Cond.instanceMethod yX4_turn ∈ fA := f_memT (List.mem_of_getElem? (i := 732) (by decide +kernel)) (by decide +kernel)
theorem q242 : Cond.selects RX4 yX4_turn yX4_turn ∈ fA := f_memT (List.mem_of_getElem? (i := 733) (by decide +kernel)) (by decide +kernel)
theorem q243 : Cond.methodLink RX5 127 yX3_turn ∈ fA := f_memT (List.mem_of_getElem? (i := 738) (by decide +kernel)) (by decide +kernel)
theorem q244 : Cond.instanceMethod yX3_turn ∈ fA := f_memT (List.mem_of_getElem? (i := 739) (by decide +kernel)) (by decide +kernel)
theorem q245 : Cond.selects RX3 yX3_turn yX3_turn ∈ fA := f_memT (List.mem_of_getElem? (i := 740) (by decide +kernel)) (by decide +kernel)
theorem q246 : Cond.code yX5_turnDrivesAndValves cX5_turnDrivesAndValves 2 none ∈ fA := f_memT (List.mem_of_getElem? (i := 730) (by decide +kernel)) (by decide +kernel)
theorem q247 : Cond.code yX5_pour cX5_pour 2 none ∈ fA := f_memT (List.mem_of_getElem? (i := 553) (by decide +kernel)) (by decide +kernel)
theorem q248 : Cond.fieldLink RX5 206 "JetWaltz$Show" "spilt" "I" ∈ fA := f_memT (List.mem_of_getElem? (i := 96) (by decide +kernel)) (by decide +kernel)
theorem q249 : Cond.fieldLink RX5 138 "JetWaltz$Show" "wet" "I" ∈ fA := f_memT (List.mem_of_getElem? (i := 100) (by decide +kernel)) (by decide +kernel)
theorem q250 : Cond.fieldLink RX5 144 "JetWaltz$Show" "lost" "I" ∈ fA := f_memT (List.mem_of_getElem? (i := 98) (by decide +kernel)) (by decide +kernel)
theorem q251 : Cond.methodLink RX5 128 yX0_fallingIn ∈ fA := f_memT (List.mem_of_getElem? (i := 747) (by decide +kernel)) (by decide +kernel)
theorem q252 : Cond.instanceMethod yX0_fallingIn ∈ fA := f_memT (List.mem_of_getElem? (i := 748) (by decide +kernel)) (by decide +kernel)
theorem q253 : Cond.selects RX0 yX0_fallingIn yX0_fallingIn ∈ fA := f_memT (List.mem_of_getElem? (i := 749) (by decide +kernel)) (by decide +kernel)
theorem q254 : Cond.methodLink RX5 132 yX0_fallingOnBasin ∈ fA := f_memT (List.mem_of_getElem? (i := 755) (by decide +kernel)) (by decide +kernel)
theorem q255 : Cond.instanceMethod yX0_fallingOnBasin ∈ fA := f_memT (List.mem_of_getElem? (i := 756) (by decide +kernel)) (by decide +kernel)
theorem q256 : Cond.selects RX0 yX0_fallingOnBasin yX0_fallingOnBasin ∈ fA := f_memT (List.mem_of_getElem? (i := 757) (by decide +kernel)) (by decide +kernel)
theorem q257 : Cond.methodLink RX5 135 yX5_pour ∈ fA := f_memT (List.mem_of_getElem? (i := 759) (by decide +kernel)) (by decide +kernel)
theorem q258 : Cond.instanceMethod yX5_pour ∈ fA := f_memT (List.mem_of_getElem? (i := 551) (by decide +kernel)) (by decide +kernel)
theorem q259 : Cond.selects RX5 yX5_pour yX5_pour ∈ fA := f_memT (List.mem_of_getElem? (i := 552) (by decide +kernel)) (by decide +kernel)
theorem q260 : Cond.methodLink RX5 141 yX0_fallingOnCrowd ∈ fA := f_memT (List.mem_of_getElem? (i := 760) (by decide +kernel)) (by decide +kernel)
theorem q261 : Cond.instanceMethod yX0_fallingOnCrowd ∈ fA := f_memT (List.mem_of_getElem? (i := 761) (by decide +kernel)) (by decide +kernel)
theorem q262 : Cond.selects RX0 yX0_fallingOnCrowd yX0_fallingOnCrowd ∈ fA := f_memT (List.mem_of_getElem? (i := 762) (by decide +kernel)) (by decide +kernel)
theorem q263 : Cond.methodLink RX5 147 yX0_clear ∈ fA := f_memT (List.mem_of_getElem? (i := 764) (by decide +kernel)) (by decide +kernel)
theorem q264 : Cond.instanceMethod yX0_clear ∈ fA := f_memT (List.mem_of_getElem? (i := 765) (by decide +kernel)) (by decide +kernel)
theorem q265 : Cond.selects RX0 yX0_clear yX0_clear ∈ fA := f_memT (List.mem_of_getElem? (i := 766) (by decide +kernel)) (by decide +kernel)
theorem q266 : Cond.code yX5_letFall cX5_letFall 3 (some .int) ∈ fA := f_memT (List.mem_of_getElem? (i := 746) (by decide +kernel)) (by decide +kernel)
theorem q267 : Cond.code yX7_airTime cX7_airTime 1 (some .int) ∈ fA := f_memT (List.mem_of_getElem? (i := 633) (by decide +kernel)) (by decide +kernel)
theorem q268 : Cond.code yJ9_floorDiv_7cf53 cJ9_floorDiv_7cf53 3 (some .int) ∈ fA := f_memT (List.mem_of_getElem? (i := 626) (by decide +kernel)) (by decide +kernel)
theorem q269 : Cond.code yX5_windWithGust cX5_windWithGust 1 (some .int) ∈ fA := f_memT (List.mem_of_getElem? (i := 630) (by decide +kernel)) (by decide +kernel)
theorem q270 : Cond.fieldLink RX5 248 "JetWaltz$Show" "wind" "I" ∈ fA := f_memT (List.mem_of_getElem? (i := 109) (by decide +kernel)) (by decide +kernel)
theorem q271 : Cond.fieldLink RX5 251 "JetWaltz$Show" "gust" "I" ∈ fA := f_memT (List.mem_of_getElem? (i := 111) (by decide +kernel)) (by decide +kernel)
theorem q272 : Cond.code yX5_placeOfFall cX5_placeOfFall 5 (some .int) ∈ fA := f_memT (List.mem_of_getElem? (i := 623) (by decide +kernel)) (by decide +kernel)
theorem q273 : Cond.fieldLink RX5 236 "JetWaltz$Jet" "slant" "I" ∈ fA := f_memT (List.mem_of_getElem? (i := 403) (by decide +kernel)) (by decide +kernel)
theorem q274 : Cond.fieldLink RX5 245 "JetWaltz$Jet" "place" "I" ∈ fA := f_memT (List.mem_of_getElem? (i := 397) (by decide +kernel)) (by decide +kernel)
theorem q275 : Cond.methodLink RX5 239 yJ9_floorDiv_7cf53 ∈ fA := f_memT (List.mem_of_getElem? (i := 624) (by decide +kernel)) (by decide +kernel)
theorem q276 : Cond.static yJ9_floorDiv_7cf53 ∈ fA := f_memT (List.mem_of_getElem? (i := 625) (by decide +kernel)) (by decide +kernel)
theorem q277 : Cond.methodLink RX5 242 yX5_windWithGust ∈ fA := f_memT (List.mem_of_getElem? (i := 627) (by decide +kernel)) (by decide +kernel)
theorem q278 : Cond.instanceMethod yX5_windWithGust ∈ fA := f_memT (List.mem_of_getElem? (i := 629) (by decide +kernel)) (by decide +kernel)
theorem q279 : Cond.selects RX5 yX5_windWithGust yX5_windWithGust ∈ fA := f_memP (List.mem_of_getElem? (i := 8) (by decide +kernel)) (by decide +kernel)
theorem q280 : Cond.static yX7_airTime ∈ fA := f_memT (List.mem_of_getElem? (i := 632) (by decide +kernel)) (by decide +kernel)
theorem q281 : Cond.methodLink RX5 153 Lib.Math.min.name ∈ fA := f_memT (List.mem_of_getElem? (i := 772) (by decide +kernel)) (by decide +kernel)
theorem q282 : Cond.fieldLink RX5 156 "JetWaltz$Jet" "thrown" "I" ∈ fA := f_memT (List.mem_of_getElem? (i := 418) (by decide +kernel)) (by decide +kernel)
theorem q283 : Cond.methodLink RX5 162 yX5_placeOfFall ∈ fA := f_memT (List.mem_of_getElem? (i := 773) (by decide +kernel)) (by decide +kernel)
theorem q284 : Cond.instanceMethod yX5_placeOfFall ∈ fA := f_memT (List.mem_of_getElem? (i := 621) (by decide +kernel)) (by decide +kernel)
theorem q285 : Cond.selects RX5 yX5_placeOfFall yX5_placeOfFall ∈ fA := f_memT (List.mem_of_getElem? (i := 622) (by decide +kernel)) (by decide +kernel)
theorem q286 : Cond.methodLink RX5 166 yX0_put ∈ fA := f_memT (List.mem_of_getElem? (i := 774) (by decide +kernel)) (by decide +kernel)
theorem q287 : Cond.instanceMethod yX0_put ∈ fA := f_memT (List.mem_of_getElem? (i := 775) (by decide +kernel)) (by decide +kernel)
theorem q288 : Cond.selects RX0 yX0_put yX0_put ∈ fA := f_memT (List.mem_of_getElem? (i := 776) (by decide +kernel)) (by decide +kernel)
theorem q289 : Cond.code yX5_throwWater cX5_throwWater 5 none ∈ fA := f_memT (List.mem_of_getElem? (i := 771) (by decide +kernel)) (by decide +kernel)
theorem q290 : Cond.fieldLink RX5 200 "JetWaltz$Jet" "isLampOn" "Z" ∈ fA := f_memT (List.mem_of_getElem? (i := 414) (by decide +kernel)) (by decide +kernel)
theorem q291 : Cond.code yX5_lampsOn cX5_lampsOn 3 (some .int) ∈ fA := f_memT (List.mem_of_getElem? (i := 668) (by decide +kernel)) (by decide +kernel)
theorem q292 : Cond.code yJ6_bitCount_0f7a4 cJ6_bitCount_0f7a4 1 (some .int) ∈ fA := f_memT (List.mem_of_getElem? (i := 785) (by decide +kernel)) (by decide +kernel)
theorem q293 : Cond.constant RJ6 265 (1431655765) ∈ fA := f_memT (List.mem_of_getElem? (i := 786) (by decide +kernel)) (by decide +kernel)
theorem q294 : Cond.constant RJ6 266 (858993459) ∈ fA := f_memT (List.mem_of_getElem? (i := 787) (by decide +kernel)) (by decide +kernel)
theorem q295 : Cond.constant RJ6 267 (252645135) ∈ fA := f_memT (List.mem_of_getElem? (i := 788) (by decide +kernel)) (by decide +kernel)
theorem q296 : Cond.fieldLink RX5 173 "JetWaltz$Show" "energy" "I" ∈ fA := f_memT (List.mem_of_getElem? (i := 102) (by decide +kernel)) (by decide +kernel)
theorem q297 : Cond.methodLink RX5 176 yX5_lampsOn ∈ fA := f_memT (List.mem_of_getElem? (i := 782) (by decide +kernel)) (by decide +kernel)
theorem q298 : Cond.instanceMethod yX5_lampsOn ∈ fA := f_memT (List.mem_of_getElem? (i := 666) (by decide +kernel)) (by decide +kernel)
theorem q299 : Cond.selects RX5 yX5_lampsOn yX5_lampsOn ∈ fA := f_memT (List.mem_of_getElem? (i := 667) (by decide +kernel)) (by decide +kernel)
theorem q300 : Cond.methodLink RX5 179 yJ6_bitCount_0f7a4 ∈ fA := f_memT (List.mem_of_getElem? (i := 783) (by decide +kernel)) (by decide +kernel)
theorem q301 : Cond.static yJ6_bitCount_0f7a4 ∈ fA := f_memT (List.mem_of_getElem? (i := 784) (by decide +kernel)) (by decide +kernel)
theorem q302 : Cond.initialized RJ6 ∈ fA := f_memT (List.mem_of_getElem? (i := 24) (by decide +kernel)) (by decide +kernel)
theorem q303 : Cond.code yX5_useEnergy cX5_useEnergy 3 none ∈ fA := f_memT (List.mem_of_getElem? (i := 781) (by decide +kernel)) (by decide +kernel)
theorem q304 : Cond.methodLink RX5 184 yX4_trip ∈ fA := f_memT (List.mem_of_getElem? (i := 793) (by decide +kernel)) (by decide +kernel)
theorem q305 : Cond.instanceMethod yX4_trip ∈ fA := f_memT (List.mem_of_getElem? (i := 794) (by decide +kernel)) (by decide +kernel)
theorem q306 : Cond.selects RX4 yX4_trip yX4_trip ∈ fA := f_memT (List.mem_of_getElem? (i := 795) (by decide +kernel)) (by decide +kernel)
theorem q307 : Cond.code yX5_tripPumpsRunningDry cX5_tripPumpsRunningDry 2 none ∈ fA := f_memT (List.mem_of_getElem? (i := 792) (by decide +kernel)) (by decide +kernel)
theorem q308 : Cond.code yX5_lampsOff cX5_lampsOff 2 none ∈ fA := f_memT (List.mem_of_getElem? (i := 544) (by decide +kernel)) (by decide +kernel)
theorem q309 : Cond.fieldLink RX5 191 "JetWaltz$Show" "faults" "I" ∈ fA := f_memT (List.mem_of_getElem? (i := 104) (by decide +kernel)) (by decide +kernel)
theorem q310 : Cond.fieldLink RX5 65 "JetWaltz$Show" "isSwum" "Z" ∈ fA := f_memT (List.mem_of_getElem? (i := 112) (by decide +kernel)) (by decide +kernel)
theorem q311 : Cond.fieldLink RX5 194 "JetWaltz$Show" "dangers" "I" ∈ fA := f_memT (List.mem_of_getElem? (i := 106) (by decide +kernel)) (by decide +kernel)
theorem q312 : Cond.methodLink RX5 187 yX3_isShorted ∈ fA := f_memT (List.mem_of_getElem? (i := 801) (by decide +kernel)) (by decide +kernel)
theorem q313 : Cond.instanceMethod yX3_isShorted ∈ fA := f_memT (List.mem_of_getElem? (i := 802) (by decide +kernel)) (by decide +kernel)
theorem q314 : Cond.selects RX3 yX3_isShorted yX3_isShorted ∈ fA := f_memT (List.mem_of_getElem? (i := 803) (by decide +kernel)) (by decide +kernel)
theorem q315 : Cond.methodLink RX5 197 yX5_lampsOff ∈ fA := f_memT (List.mem_of_getElem? (i := 541) (by decide +kernel)) (by decide +kernel)
theorem q316 : Cond.instanceMethod yX5_lampsOff ∈ fA := f_memT (List.mem_of_getElem? (i := 543) (by decide +kernel)) (by decide +kernel)
theorem q317 : Cond.selects RX5 yX5_lampsOff yX5_lampsOff ∈ fA := f_memP (List.mem_of_getElem? (i := 7) (by decide +kernel)) (by decide +kernel)
theorem q318 : Cond.code yX5_shortLamps cX5_shortLamps 3 none ∈ fA := f_memT (List.mem_of_getElem? (i := 800) (by decide +kernel)) (by decide +kernel)
theorem q319 : Cond.methodLink RX5 69 yX5_doStepsDue ∈ fA := f_memT (List.mem_of_getElem? (i := 704) (by decide +kernel)) (by decide +kernel)
theorem q320 : Cond.instanceMethod yX5_doStepsDue ∈ fA := f_memT (List.mem_of_getElem? (i := 706) (by decide +kernel)) (by decide +kernel)
theorem q321 : Cond.selects RX5 yX5_doStepsDue yX5_doStepsDue ∈ fA := f_memP (List.mem_of_getElem? (i := 9) (by decide +kernel)) (by decide +kernel)
theorem q322 : Cond.methodLink RX5 72 yX5_turnDrivesAndValves ∈ fA := f_memT (List.mem_of_getElem? (i := 727) (by decide +kernel)) (by decide +kernel)
theorem q323 : Cond.instanceMethod yX5_turnDrivesAndValves ∈ fA := f_memT (List.mem_of_getElem? (i := 729) (by decide +kernel)) (by decide +kernel)
end
section
theorem q324 : Cond.selects RX5 yX5_turnDrivesAndValves yX5_turnDrivesAndValves ∈ fA := f_memP (List.mem_of_getElem? (i := 11) (by decide +kernel)) (by decide +kernel)
theorem q325 : Cond.methodLink RX5 75 yX5_letFall ∈ fA := f_memT (List.mem_of_getElem? (i := 743) (by decide +kernel)) (by decide +kernel)
theorem q326 : Cond.instanceMethod yX5_letFall ∈ fA := f_memT (List.mem_of_getElem? (i := 745) (by decide +kernel)) (by decide +kernel)
theorem q327 : Cond.selects RX5 yX5_letFall yX5_letFall ∈ fA := f_memP (List.mem_of_getElem? (i := 12) (by decide +kernel)) (by decide +kernel)
theorem q328 : Cond.methodLink RX5 78 yX5_throwWater ∈ fA := f_memT (List.mem_of_getElem? (i := 768) (by decide +kernel)) (by decide +kernel)
theorem q329 : Cond.instanceMethod yX5_throwWater ∈ fA := f_memT (List.mem_of_getElem? (i := 770) (by decide +kernel)) (by decide +kernel)
theorem q330 : Cond.selects RX5 yX5_throwWater yX5_throwWater ∈ fA := f_memP (List.mem_of_getElem? (i := 13) (by decide +kernel)) (by decide +kernel)
theorem q331 : Cond.methodLink RX5 81 yX5_useEnergy ∈ fA := f_memT (List.mem_of_getElem? (i := 778) (by decide +kernel)) (by decide +kernel)
theorem q332 : Cond.instanceMethod yX5_useEnergy ∈ fA := f_memT (List.mem_of_getElem? (i := 780) (by decide +kernel)) (by decide +kernel)
theorem q333 : Cond.selects RX5 yX5_useEnergy yX5_useEnergy ∈ fA := f_memP (List.mem_of_getElem? (i := 14) (by decide +kernel)) (by decide +kernel)
theorem q334 : Cond.methodLink RX5 84 yX5_tripPumpsRunningDry ∈ fA := f_memT (List.mem_of_getElem? (i := 789) (by decide +kernel)) (by decide +kernel)
theorem q335 : Cond.instanceMethod yX5_tripPumpsRunningDry ∈ fA := f_memT (List.mem_of_getElem? (i := 791) (by decide +kernel)) (by decide +kernel)
theorem q336 : Cond.selects RX5 yX5_tripPumpsRunningDry yX5_tripPumpsRunningDry ∈ fA := f_memP (List.mem_of_getElem? (i := 15) (by decide +kernel)) (by decide +kernel)
theorem q337 : Cond.methodLink RX5 87 yX5_shortLamps ∈ fA := f_memT (List.mem_of_getElem? (i := 797) (by decide +kernel)) (by decide +kernel)
theorem q338 : Cond.instanceMethod yX5_shortLamps ∈ fA := f_memT (List.mem_of_getElem? (i := 799) (by decide +kernel)) (by decide +kernel)
theorem q339 : Cond.selects RX5 yX5_shortLamps yX5_shortLamps ∈ fA := f_memP (List.mem_of_getElem? (i := 16) (by decide +kernel)) (by decide +kernel)
theorem q340 : Cond.code yX5_tick cX5_tick 2 (some .int) ∈ fA := f_memT (List.mem_of_getElem? (i := 703) (by decide +kernel)) (by decide +kernel)
theorem q341 : Cond.fieldLink RX5 203 "JetWaltz$Jet" "valveSet" "I" ∈ fA := f_memT (List.mem_of_getElem? (i := 406) (by decide +kernel)) (by decide +kernel)
theorem q342 : Cond.code yX5_shutAll cX5_shutAll 2 none ∈ fA := f_memT (List.mem_of_getElem? (i := 539) (by decide +kernel)) (by decide +kernel)
theorem q343 : Cond.fieldLink RX5 220 "JetWaltz$Jet" "nozzle" "I" ∈ fA := f_memT (List.mem_of_getElem? (i := 400) (by decide +kernel)) (by decide +kernel)
theorem q344 : Cond.code yX5_flowsAsSet cX5_flowsAsSet 5 (some .int) ∈ fA := f_memT (List.mem_of_getElem? (i := 821) (by decide +kernel)) (by decide +kernel)
theorem q345 : Cond.code yX5_jetsOf cX5_jetsOf 4 (some .int) ∈ fA := f_memT (List.mem_of_getElem? (i := 604) (by decide +kernel)) (by decide +kernel)
theorem q346 : Cond.methodLink RX5 233 Lib.Math.max.name ∈ fA := f_memT (List.mem_of_getElem? (i := 664) (by decide +kernel)) (by decide +kernel)
theorem q347 : Cond.code yX5_greatestHeight cX5_greatestHeight 3 (some .int) ∈ fA := f_memT (List.mem_of_getElem? (i := 662) (by decide +kernel)) (by decide +kernel)
theorem q348 : Cond.code yX5_sumOfHeights cX5_sumOfHeights 3 (some .int) ∈ fA := f_memT (List.mem_of_getElem? (i := 677) (by decide +kernel)) (by decide +kernel)
theorem q349 : Cond.methodLink RX5 254 yX4_becomeLike ∈ fA := f_memT (List.mem_of_getElem? (i := 687) (by decide +kernel)) (by decide +kernel)
theorem q350 : Cond.instanceMethod yX4_becomeLike ∈ fA := f_memT (List.mem_of_getElem? (i := 688) (by decide +kernel)) (by decide +kernel)
theorem q351 : Cond.selects RX4 yX4_becomeLike yX4_becomeLike ∈ fA := f_memT (List.mem_of_getElem? (i := 689) (by decide +kernel)) (by decide +kernel)
theorem q352 : Cond.methodLink RX5 258 yX3_becomeLike ∈ fA := f_memT (List.mem_of_getElem? (i := 691) (by decide +kernel)) (by decide +kernel)
theorem q353 : Cond.instanceMethod yX3_becomeLike ∈ fA := f_memT (List.mem_of_getElem? (i := 692) (by decide +kernel)) (by decide +kernel)
theorem q354 : Cond.selects RX3 yX3_becomeLike yX3_becomeLike ∈ fA := f_memT (List.mem_of_getElem? (i := 693) (by decide +kernel)) (by decide +kernel)
theorem q355 : Cond.methodLink RX5 261 yX0_becomeLike ∈ fA := f_memT (List.mem_of_getElem? (i := 695) (by decide +kernel)) (by decide +kernel)
theorem q356 : Cond.instanceMethod yX0_becomeLike ∈ fA := f_memT (List.mem_of_getElem? (i := 696) (by decide +kernel)) (by decide +kernel)
theorem q357 : Cond.selects RX0 yX0_becomeLike yX0_becomeLike ∈ fA := f_memT (List.mem_of_getElem? (i := 697) (by decide +kernel)) (by decide +kernel)
theorem q358 : Cond.code yX5_becomeLike cX5_becomeLike 3 none ∈ fA := f_memT (List.mem_of_getElem? (i := 686) (by decide +kernel)) (by decide +kernel)
theorem q359 : Cond.code yX6_init cX6_init 4 none ∈ fA := f_memT (List.mem_of_getElem? (i := 478) (by decide +kernel)) (by decide +kernel)
theorem q360 : Cond.methodLink RX6 1 objectInit ∈ fA := f_memT (List.mem_of_getElem? (i := 479) (by decide +kernel)) (by decide +kernel)
theorem q361 : Cond.fieldLink RX6 7 "JetWaltz$Step" "tick" "I" ∈ fA := f_memT (List.mem_of_getElem? (i := 480) (by decide +kernel)) (by decide +kernel)
theorem q362 : Cond.fieldLink RX6 16 "JetWaltz$Step" "value" "I" ∈ fA := f_memT (List.mem_of_getElem? (i := 483) (by decide +kernel)) (by decide +kernel)
theorem q363 : Cond.methodLink RX7 1 objectInit ∈ fA := f_memT (List.mem_of_getElem? (i := 30) (by decide +kernel)) (by decide +kernel)
theorem q364 : Cond.classLink RX7 7 RJx4a65c ∈ fA := f_memT (List.mem_of_getElem? (i := 33) (by decide +kernel)) (by decide +kernel)
theorem q365 : Cond.fieldLink RX7 10 "JetWaltz" "figures" "Ljava/util/ArrayList;" ∈ fA := f_memT (List.mem_of_getElem? (i := 145) (by decide +kernel)) (by decide +kernel)
theorem q366 : Cond.classLink RX7 16 RX5 ∈ fA := f_memT (List.mem_of_getElem? (i := 59) (by decide +kernel)) (by decide +kernel)
theorem q367 : Cond.instantiable RX5 15 ∈ fA := f_memT (List.mem_of_getElem? (i := 60) (by decide +kernel)) (by decide +kernel)
theorem q368 : Cond.fieldLink RX7 19 "JetWaltz" "show" "LJetWaltz$Show;" ∈ fA := f_memT (List.mem_of_getElem? (i := 146) (by decide +kernel)) (by decide +kernel)
theorem q369 : Cond.fieldLink RX7 23 "JetWaltz" "trial" "LJetWaltz$Show;" ∈ fA := f_memT (List.mem_of_getElem? (i := 147) (by decide +kernel)) (by decide +kernel)
theorem q370 : Cond.methodLink RX7 9 yJx4a65c_init_da8c8 ∈ fA := f_memT (List.mem_of_getElem? (i := 35) (by decide +kernel)) (by decide +kernel)
theorem q371 : Cond.instanceMethod yX5_init ∈ fA := f_memT (List.mem_of_getElem? (i := 62) (by decide +kernel)) (by decide +kernel)
theorem q372 : Cond.code yX7_init cX7_init 1 none ∈ fA := f_memT (List.mem_of_getElem? (i := 29) (by decide +kernel)) (by decide +kernel)
theorem q373 : Cond.classLink RX7 26 "java/lang/IllegalArgumentException" ∈ fA := f_memT (List.mem_of_getElem? (i := 159) (by decide +kernel)) (by decide +kernel)
theorem q374 : Cond.initialized "java/lang/IllegalArgumentException" ∈ fA := f_memT (List.mem_of_getElem? (i := 10) (by decide +kernel)) (by decide +kernel)
theorem q375 : Cond.classLink RX7 40 "java/lang/IllegalStateException" ∈ fA := f_memT (List.mem_of_getElem? (i := 231) (by decide +kernel)) (by decide +kernel)
theorem q376 : Cond.initialized "java/lang/IllegalStateException" ∈ fA := f_memT (List.mem_of_getElem? (i := 11) (by decide +kernel)) (by decide +kernel)
theorem q377 : Cond.fieldLink RX7 33 "JetWaltz$Show" "pumps" "Ljava/util/ArrayList;" ∈ fA := f_memT (List.mem_of_getElem? (i := 85) (by decide +kernel)) (by decide +kernel)
theorem q378 : Cond.classLink RX7 45 RX4 ∈ fA := f_memT (List.mem_of_getElem? (i := 247) (by decide +kernel)) (by decide +kernel)
theorem q379 : Cond.instantiable RX4 6 ∈ fA := f_memT (List.mem_of_getElem? (i := 248) (by decide +kernel)) (by decide +kernel)
theorem q380 : Cond.methodLink RX7 36 yJx4a65c_size_8abf5 ∈ fA := f_memT (List.mem_of_getElem? (i := 227) (by decide +kernel)) (by decide +kernel)
theorem q381 : Cond.methodLink RX7 47 yX4_init ∈ fA := f_memT (List.mem_of_getElem? (i := 249) (by decide +kernel)) (by decide +kernel)
theorem q382 : Cond.instanceMethod yX4_init ∈ fA := f_memT (List.mem_of_getElem? (i := 250) (by decide +kernel)) (by decide +kernel)
theorem q383 : Cond.methodLink RX7 50 yJx4a65c_add_9ea2d ∈ fA := f_memT (List.mem_of_getElem? (i := 280) (by decide +kernel)) (by decide +kernel)
theorem q384 : Cond.code yX7_pump cX7_pump 3 (some .int) ∈ fA := f_memT (List.mem_of_getElem? (i := 158) (by decide +kernel)) (by decide +kernel)
theorem q385 : Cond.classLink RX7 247 "java/lang/IndexOutOfBoundsException" ∈ fA := f_memT (List.mem_of_getElem? (i := 347) (by decide +kernel)) (by decide +kernel)
theorem q386 : Cond.initialized "java/lang/IndexOutOfBoundsException" ∈ fA := f_memT (List.mem_of_getElem? (i := 18) (by decide +kernel)) (by decide +kernel)
theorem q387 : Cond.classLink RX7 45 "JetWaltz$Pump" ∈ fA := f_memT (List.mem_of_getElem? (i := 247) (by decide +kernel)) (by decide +kernel)
theorem q388 : Cond.methodLink RX7 252 yJx4a65c_get_915e3 ∈ fA := f_memT (List.mem_of_getElem? (i := 363) (by decide +kernel)) (by decide +kernel)
theorem q389 : Cond.code yX7_pumpNumbered cX7_pumpNumbered 2 (some (.object "JetWaltz$Pump")) ∈ fA := f_memT (List.mem_of_getElem? (i := 346) (by decide +kernel)) (by decide +kernel)
theorem q390 : Cond.fieldLink RX7 60 "JetWaltz$Show" "jets" "Ljava/util/ArrayList;" ∈ fA := f_memT (List.mem_of_getElem? (i := 87) (by decide +kernel)) (by decide +kernel)
theorem q391 : Cond.methodLink RX7 54 yX7_pumpNumbered ∈ fA := f_memT (List.mem_of_getElem? (i := 343) (by decide +kernel)) (by decide +kernel)
theorem q392 : Cond.instanceMethod yX7_pumpNumbered ∈ fA := f_memT (List.mem_of_getElem? (i := 345) (by decide +kernel)) (by decide +kernel)
theorem q393 : Cond.selects RX7 yX7_pumpNumbered yX7_pumpNumbered ∈ fA := f_memP (List.mem_of_getElem? (i := 4) (by decide +kernel)) (by decide +kernel)
theorem q394 : Cond.methodLink RX7 65 yX5_addJet ∈ fA := f_memT (List.mem_of_getElem? (i := 379) (by decide +kernel)) (by decide +kernel)
theorem q395 : Cond.instanceMethod yX5_addJet ∈ fA := f_memT (List.mem_of_getElem? (i := 380) (by decide +kernel)) (by decide +kernel)
theorem q396 : Cond.selects RX5 yX5_addJet yX5_addJet ∈ fA := f_memT (List.mem_of_getElem? (i := 381) (by decide +kernel)) (by decide +kernel)
theorem q397 : Cond.code yX7_jet cX7_jet 6 (some .int) ∈ fA := f_memT (List.mem_of_getElem? (i := 342) (by decide +kernel)) (by decide +kernel)
theorem q398 : Cond.classLink RX7 71 RX2 ∈ fA := f_memT (List.mem_of_getElem? (i := 447) (by decide +kernel)) (by decide +kernel)
theorem q399 : Cond.instantiable RX2 1 ∈ fA := f_memT (List.mem_of_getElem? (i := 448) (by decide +kernel)) (by decide +kernel)
theorem q400 : Cond.initialized RX2 ∈ fA := f_memT (List.mem_of_getElem? (i := 17) (by decide +kernel)) (by decide +kernel)
theorem q401 : Cond.instanceMethod yX2_init ∈ fA := f_memT (List.mem_of_getElem? (i := 450) (by decide +kernel)) (by decide +kernel)
theorem q402 : Cond.code yX7_figure cX7_figure 2 (some .int) ∈ fA := f_memT (List.mem_of_getElem? (i := 445) (by decide +kernel)) (by decide +kernel)
theorem q403 : Cond.classLink RX7 71 "JetWaltz$Figure" ∈ fA := f_memT (List.mem_of_getElem? (i := 447) (by decide +kernel)) (by decide +kernel)
theorem q404 : Cond.code yX7_figureNumbered cX7_figureNumbered 2 (some (.object "JetWaltz$Figure")) ∈ fA := f_memT (List.mem_of_getElem? (i := 467) (by decide +kernel)) (by decide +kernel)
theorem q405 : Cond.code yX7_isValue cX7_isValue 1 (some .boolean) ∈ fA := f_memT (List.mem_of_getElem? (i := 471) (by decide +kernel)) (by decide +kernel)
theorem q406 : Cond.fieldLink RX7 84 "JetWaltz$Figure" "steps" "Ljava/util/ArrayList;" ∈ fA := f_memT (List.mem_of_getElem? (i := 456) (by decide +kernel)) (by decide +kernel)
theorem q407 : Cond.classLink RX7 89 RX6 ∈ fA := f_memT (List.mem_of_getElem? (i := 474) (by decide +kernel)) (by decide +kernel)
theorem q408 : Cond.instantiable RX6 3 ∈ fA := f_memT (List.mem_of_getElem? (i := 475) (by decide +kernel)) (by decide +kernel)
theorem q409 : Cond.methodLink RX7 74 yX7_figureNumbered ∈ fA := f_memT (List.mem_of_getElem? (i := 464) (by decide +kernel)) (by decide +kernel)
theorem q410 : Cond.instanceMethod yX7_figureNumbered ∈ fA := f_memT (List.mem_of_getElem? (i := 466) (by decide +kernel)) (by decide +kernel)
theorem q411 : Cond.selects RX7 yX7_figureNumbered yX7_figureNumbered ∈ fA := f_memP (List.mem_of_getElem? (i := 5) (by decide +kernel)) (by decide +kernel)
theorem q412 : Cond.methodLink RX7 78 yX7_isValue ∈ fA := f_memT (List.mem_of_getElem? (i := 469) (by decide +kernel)) (by decide +kernel)
theorem q413 : Cond.static yX7_isValue ∈ fA := f_memT (List.mem_of_getElem? (i := 470) (by decide +kernel)) (by decide +kernel)
theorem q414 : Cond.methodLink RX7 91 yX6_init ∈ fA := f_memT (List.mem_of_getElem? (i := 476) (by decide +kernel)) (by decide +kernel)
theorem q415 : Cond.instanceMethod yX6_init ∈ fA := f_memT (List.mem_of_getElem? (i := 477) (by decide +kernel)) (by decide +kernel)
theorem q416 : Cond.code yX7_step cX7_step 6 (some .int) ∈ fA := f_memT (List.mem_of_getElem? (i := 463) (by decide +kernel)) (by decide +kernel)
theorem q417 : Cond.code yX7_wind cX7_wind 4 (some .int) ∈ fA := f_memT (List.mem_of_getElem? (i := 495) (by decide +kernel)) (by decide +kernel)
theorem q418 : Cond.fieldLink RX7 96 "JetWaltz$Show" "wind" "I" ∈ fA := f_memT (List.mem_of_getElem? (i := 108) (by decide +kernel)) (by decide +kernel)
theorem q419 : Cond.fieldLink RX7 100 "JetWaltz$Show" "gust" "I" ∈ fA := f_memT (List.mem_of_getElem? (i := 110) (by decide +kernel)) (by decide +kernel)
theorem q420 : Cond.classLink RX7 116 "JetWaltz$Jet" ∈ fA := f_memT (List.mem_of_getElem? (i := 506) (by decide +kernel)) (by decide +kernel)
theorem q421 : Cond.code yX7_jetNumbered cX7_jetNumbered 2 (some (.object "JetWaltz$Jet")) ∈ fA := f_memT (List.mem_of_getElem? (i := 504) (by decide +kernel)) (by decide +kernel)
theorem q422 : Cond.fieldLink RX7 109 "JetWaltz$Show" "isSwum" "Z" ∈ fA := f_memT (List.mem_of_getElem? (i := 113) (by decide +kernel)) (by decide +kernel)
theorem q423 : Cond.fieldLink RX7 115 "JetWaltz$Jet" "valveSet" "I" ∈ fA := f_memT (List.mem_of_getElem? (i := 405) (by decide +kernel)) (by decide +kernel)
theorem q424 : Cond.methodLink RX7 103 yX7_jetNumbered ∈ fA := f_memT (List.mem_of_getElem? (i := 501) (by decide +kernel)) (by decide +kernel)
theorem q425 : Cond.instanceMethod yX7_jetNumbered ∈ fA := f_memT (List.mem_of_getElem? (i := 503) (by decide +kernel)) (by decide +kernel)
theorem q426 : Cond.selects RX7 yX7_jetNumbered yX7_jetNumbered ∈ fA := f_memP (List.mem_of_getElem? (i := 6) (by decide +kernel)) (by decide +kernel)
theorem q427 : Cond.code yX7_valve cX7_valve 5 (some .int) ∈ fA := f_memT (List.mem_of_getElem? (i := 500) (by decide +kernel)) (by decide +kernel)
theorem q428 : Cond.fieldLink RX7 122 "JetWaltz$Pump" "isTripped" "Z" ∈ fA := f_memT (List.mem_of_getElem? (i := 264) (by decide +kernel)) (by decide +kernel)
theorem q429 : Cond.fieldLink RX7 127 "JetWaltz$Pump" "setting" "I" ∈ fA := f_memT (List.mem_of_getElem? (i := 259) (by decide +kernel)) (by decide +kernel)
theorem q430 : Cond.methodLink RX7 130 yX4_setTo ∈ fA := f_memT (List.mem_of_getElem? (i := 515) (by decide +kernel)) (by decide +kernel)
theorem q431 : Cond.code yX7_setting cX7_setting 5 (some .int) ∈ fA := f_memT (List.mem_of_getElem? (i := 512) (by decide +kernel)) (by decide +kernel)
theorem q432 : Cond.fieldLink RX7 134 "JetWaltz$Show" "water" "I" ∈ fA := f_memT (List.mem_of_getElem? (i := 95) (by decide +kernel)) (by decide +kernel)
theorem q433 : Cond.fieldLink RX7 139 "JetWaltz$Pump" "trips" "I" ∈ fA := f_memT (List.mem_of_getElem? (i := 266) (by decide +kernel)) (by decide +kernel)
theorem q434 : Cond.code yX7_reset cX7_reset 3 (some .int) ∈ fA := f_memT (List.mem_of_getElem? (i := 522) (by decide +kernel)) (by decide +kernel)
theorem q435 : Cond.fieldLink RX7 142 "JetWaltz$Jet" "isLampOn" "Z" ∈ fA := f_memT (List.mem_of_getElem? (i := 413) (by decide +kernel)) (by decide +kernel)
theorem q436 : Cond.code yX7_lamp cX7_lamp 5 (some .boolean) ∈ fA := f_memT (List.mem_of_getElem? (i := 527) (by decide +kernel)) (by decide +kernel)
theorem q437 : Cond.fieldLink RX7 145 "JetWaltz$Jet" "isStuck" "Z" ∈ fA := f_memT (List.mem_of_getElem? (i := 411) (by decide +kernel)) (by decide +kernel)
theorem q438 : Cond.fieldLink RX7 148 "JetWaltz$Jet" "leaks" "Z" ∈ fA := f_memT (List.mem_of_getElem? (i := 416) (by decide +kernel)) (by decide +kernel)
theorem q439 : Cond.code yX7_fault cX7_fault 6 (some .boolean) ∈ fA := f_memT (List.mem_of_getElem? (i := 531) (by decide +kernel)) (by decide +kernel)
theorem q440 : Cond.methodLink RX7 151 yX5_shutAll ∈ fA := f_memT (List.mem_of_getElem? (i := 536) (by decide +kernel)) (by decide +kernel)
theorem q441 : Cond.instanceMethod yX5_shutAll ∈ fA := f_memT (List.mem_of_getElem? (i := 537) (by decide +kernel)) (by decide +kernel)
theorem q442 : Cond.selects RX5 yX5_shutAll yX5_shutAll ∈ fA := f_memT (List.mem_of_getElem? (i := 538) (by decide +kernel)) (by decide +kernel)
theorem q443 : Cond.code yX7_swim cX7_swim 3 (some .boolean) ∈ fA := f_memT (List.mem_of_getElem? (i := 535) (by decide +kernel)) (by decide +kernel)
theorem q444 : Cond.code yX7_fill cX7_fill 2 (some .int) ∈ fA := f_memT (List.mem_of_getElem? (i := 548) (by decide +kernel)) (by decide +kernel)
theorem q445 : Cond.methodLink RX7 156 yX5_pour ∈ fA := f_memT (List.mem_of_getElem? (i := 550) (by decide +kernel)) (by decide +kernel)
theorem q446 : Cond.fieldLink RX7 161 "JetWaltz$Show" "calls" "Ljava/util/ArrayList;" ∈ fA := f_memT (List.mem_of_getElem? (i := 89) (by decide +kernel)) (by decide +kernel)
theorem q447 : Cond.classLink RX7 166 RX1 ∈ fA := f_memT (List.mem_of_getElem? (i := 560) (by decide +kernel)) (by decide +kernel)
theorem q448 : Cond.instantiable RX1 3 ∈ fA := f_memT (List.mem_of_getElem? (i := 561) (by decide +kernel)) (by decide +kernel)
theorem q449 : Cond.fieldLink RX7 172 "JetWaltz$Show" "now" "I" ∈ fA := f_memT (List.mem_of_getElem? (i := 93) (by decide +kernel)) (by decide +kernel)
theorem q450 : Cond.methodLink RX7 168 yX2_stepsNow ∈ fA := f_memT (List.mem_of_getElem? (i := 562) (by decide +kernel)) (by decide +kernel)
theorem q451 : Cond.instanceMethod yX2_stepsNow ∈ fA := f_memT (List.mem_of_getElem? (i := 563) (by decide +kernel)) (by decide +kernel)
theorem q452 : Cond.selects RX2 yX2_stepsNow yX2_stepsNow ∈ fA := f_memT (List.mem_of_getElem? (i := 564) (by decide +kernel)) (by decide +kernel)
theorem q453 : Cond.methodLink RX7 175 yX1_init ∈ fA := f_memT (List.mem_of_getElem? (i := 570) (by decide +kernel)) (by decide +kernel)
theorem q454 : Cond.instanceMethod yX1_init ∈ fA := f_memT (List.mem_of_getElem? (i := 571) (by decide +kernel)) (by decide +kernel)
theorem q455 : Cond.code yX7_call cX7_call 6 (some .int) ∈ fA := f_memT (List.mem_of_getElem? (i := 557) (by decide +kernel)) (by decide +kernel)
theorem q456 : Cond.methodLink RX7 182 yX5_tick ∈ fA := f_memT (List.mem_of_getElem? (i := 700) (by decide +kernel)) (by decide +kernel)
theorem q457 : Cond.instanceMethod yX5_tick ∈ fA := f_memT (List.mem_of_getElem? (i := 701) (by decide +kernel)) (by decide +kernel)
theorem q458 : Cond.selects RX5 yX5_tick yX5_tick ∈ fA := f_memT (List.mem_of_getElem? (i := 702) (by decide +kernel)) (by decide +kernel)
theorem q459 : Cond.code yX7_pass cX7_pass 4 (some .int) ∈ fA := f_memT (List.mem_of_getElem? (i := 871) (by decide +kernel)) (by decide +kernel)
theorem q460 : Cond.fieldLink RX7 185 "JetWaltz$Pump" "power" "I" ∈ fA := f_memT (List.mem_of_getElem? (i := 256) (by decide +kernel)) (by decide +kernel)
theorem q461 : Cond.fieldLink RX7 188 "JetWaltz$Pump" "drive" "I" ∈ fA := f_memT (List.mem_of_getElem? (i := 262) (by decide +kernel)) (by decide +kernel)
theorem q462 : Cond.methodLink RX7 191 yX5_pressureOf ∈ fA := f_memT (List.mem_of_getElem? (i := 590) (by decide +kernel)) (by decide +kernel)
theorem q463 : Cond.methodLink RX7 195 yX5_jetsOf ∈ fA := f_memT (List.mem_of_getElem? (i := 601) (by decide +kernel)) (by decide +kernel)
theorem q464 : Cond.instanceMethod yX5_jetsOf ∈ fA := f_memT (List.mem_of_getElem? (i := 602) (by decide +kernel)) (by decide +kernel)
theorem q465 : Cond.selects RX5 yX5_jetsOf yX5_jetsOf ∈ fA := f_memT (List.mem_of_getElem? (i := 603) (by decide +kernel)) (by decide +kernel)
theorem q466 : Cond.code yX7_ofPump cX7_ofPump 4 (some .int) ∈ fA := f_memT (List.mem_of_getElem? (i := 589) (by decide +kernel)) (by decide +kernel)
theorem q467 : Cond.fieldLink RX7 200 "JetWaltz$Jet" "pump" "LJetWaltz$Pump;" ∈ fA := f_memT (List.mem_of_getElem? (i := 394) (by decide +kernel)) (by decide +kernel)
theorem q468 : Cond.fieldLink RX7 204 "JetWaltz$Pump" "number" "I" ∈ fA := f_memT (List.mem_of_getElem? (i := 254) (by decide +kernel)) (by decide +kernel)
theorem q469 : Cond.fieldLink RX7 207 "JetWaltz$Jet" "place" "I" ∈ fA := f_memT (List.mem_of_getElem? (i := 396) (by decide +kernel)) (by decide +kernel)
theorem q470 : Cond.fieldLink RX7 210 "JetWaltz$Jet" "nozzle" "I" ∈ fA := f_memT (List.mem_of_getElem? (i := 399) (by decide +kernel)) (by decide +kernel)
theorem q471 : Cond.fieldLink RX7 213 "JetWaltz$Jet" "slant" "I" ∈ fA := f_memT (List.mem_of_getElem? (i := 402) (by decide +kernel)) (by decide +kernel)
theorem q472 : Cond.fieldLink RX7 216 "JetWaltz$Jet" "valve" "I" ∈ fA := f_memT (List.mem_of_getElem? (i := 408) (by decide +kernel)) (by decide +kernel)
theorem q473 : Cond.fieldLink RX7 226 "JetWaltz$Jet" "thrown" "I" ∈ fA := f_memT (List.mem_of_getElem? (i := 419) (by decide +kernel)) (by decide +kernel)
theorem q474 : Cond.methodLink RX7 219 yX3_flow ∈ fA := f_memT (List.mem_of_getElem? (i := 610) (by decide +kernel)) (by decide +kernel)
theorem q475 : Cond.methodLink RX7 222 yX5_heightOf ∈ fA := f_memT (List.mem_of_getElem? (i := 611) (by decide +kernel)) (by decide +kernel)
theorem q476 : Cond.methodLink RX7 229 yX5_placeOfFall ∈ fA := f_memT (List.mem_of_getElem? (i := 620) (by decide +kernel)) (by decide +kernel)
theorem q477 : Cond.code yX7_ofJet cX7_ofJet 4 (some .int) ∈ fA := f_memT (List.mem_of_getElem? (i := 609) (by decide +kernel)) (by decide +kernel)
theorem q478 : Cond.code yX7_falls cX7_falls 2 (some .int) ∈ fA := f_memT (List.mem_of_getElem? (i := 847) (by decide +kernel)) (by decide +kernel)
theorem q479 : Cond.fieldLink RX7 237 "JetWaltz$Show" "air" "LJetWaltz$Air;" ∈ fA := f_memT (List.mem_of_getElem? (i := 91) (by decide +kernel)) (by decide +kernel)
theorem q480 : Cond.methodLink RX7 241 yX0_fallingIn ∈ fA := f_memT (List.mem_of_getElem? (i := 849) (by decide +kernel)) (by decide +kernel)
theorem q481 : Cond.classLink RX7 166 "JetWaltz$Call" ∈ fA := f_memT (List.mem_of_getElem? (i := 560) (by decide +kernel)) (by decide +kernel)
theorem q482 : Cond.methodLink RX7 256 yX1_stepsDueAfter ∈ fA := f_memT (List.mem_of_getElem? (i := 640) (by decide +kernel)) (by decide +kernel)
theorem q483 : Cond.instanceMethod yX1_stepsDueAfter ∈ fA := f_memT (List.mem_of_getElem? (i := 641) (by decide +kernel)) (by decide +kernel)
theorem q484 : Cond.selects RX1 yX1_stepsDueAfter yX1_stepsDueAfter ∈ fA := f_memT (List.mem_of_getElem? (i := 642) (by decide +kernel)) (by decide +kernel)
theorem q485 : Cond.code yX7_open cX7_open 2 (some .int) ∈ fA := f_memT (List.mem_of_getElem? (i := 638) (by decide +kernel)) (by decide +kernel)
end
section
theorem q486 : Cond.fieldLink RX7 262 "JetWaltz$Show" "lost" "I" ∈ fA := f_memT (List.mem_of_getElem? (i := 99) (by decide +kernel)) (by decide +kernel)
theorem q487 : Cond.fieldLink RX7 265 "JetWaltz$Show" "spilt" "I" ∈ fA := f_memT (List.mem_of_getElem? (i := 97) (by decide +kernel)) (by decide +kernel)
theorem q488 : Cond.fieldLink RX7 268 "JetWaltz$Show" "wet" "I" ∈ fA := f_memT (List.mem_of_getElem? (i := 101) (by decide +kernel)) (by decide +kernel)
theorem q489 : Cond.fieldLink RX7 271 "JetWaltz$Show" "energy" "I" ∈ fA := f_memT (List.mem_of_getElem? (i := 103) (by decide +kernel)) (by decide +kernel)
theorem q490 : Cond.fieldLink RX7 274 "JetWaltz$Show" "faults" "I" ∈ fA := f_memT (List.mem_of_getElem? (i := 105) (by decide +kernel)) (by decide +kernel)
theorem q491 : Cond.fieldLink RX7 277 "JetWaltz$Show" "dangers" "I" ∈ fA := f_memT (List.mem_of_getElem? (i := 107) (by decide +kernel)) (by decide +kernel)
theorem q492 : Cond.methodLink RX7 259 yX0_all ∈ fA := f_memT (List.mem_of_getElem? (i := 655) (by decide +kernel)) (by decide +kernel)
theorem q493 : Cond.instanceMethod yX0_all ∈ fA := f_memT (List.mem_of_getElem? (i := 656) (by decide +kernel)) (by decide +kernel)
theorem q494 : Cond.selects RX0 yX0_all yX0_all ∈ fA := f_memT (List.mem_of_getElem? (i := 657) (by decide +kernel)) (by decide +kernel)
theorem q495 : Cond.methodLink RX7 280 yX5_greatestHeight ∈ fA := f_memT (List.mem_of_getElem? (i := 659) (by decide +kernel)) (by decide +kernel)
theorem q496 : Cond.instanceMethod yX5_greatestHeight ∈ fA := f_memT (List.mem_of_getElem? (i := 660) (by decide +kernel)) (by decide +kernel)
theorem q497 : Cond.selects RX5 yX5_greatestHeight yX5_greatestHeight ∈ fA := f_memT (List.mem_of_getElem? (i := 661) (by decide +kernel)) (by decide +kernel)
theorem q498 : Cond.methodLink RX7 283 yX5_lampsOn ∈ fA := f_memT (List.mem_of_getElem? (i := 665) (by decide +kernel)) (by decide +kernel)
theorem q499 : Cond.code yX7_many cX7_many 2 (some .int) ∈ fA := f_memT (List.mem_of_getElem? (i := 654) (by decide +kernel)) (by decide +kernel)
theorem q500 : Cond.methodLink RX7 288 yX5_sumOfHeights ∈ fA := f_memT (List.mem_of_getElem? (i := 674) (by decide +kernel)) (by decide +kernel)
theorem q501 : Cond.instanceMethod yX5_sumOfHeights ∈ fA := f_memT (List.mem_of_getElem? (i := 675) (by decide +kernel)) (by decide +kernel)
theorem q502 : Cond.selects RX5 yX5_sumOfHeights yX5_sumOfHeights ∈ fA := f_memT (List.mem_of_getElem? (i := 676) (by decide +kernel)) (by decide +kernel)
theorem q503 : Cond.code yX7_meanHeight cX7_meanHeight 2 (some .double) ∈ fA := f_memT (List.mem_of_getElem? (i := 673) (by decide +kernel)) (by decide +kernel)
theorem q504 : Cond.methodLink RX7 293 yX5_becomeLike ∈ fA := f_memT (List.mem_of_getElem? (i := 683) (by decide +kernel)) (by decide +kernel)
theorem q505 : Cond.instanceMethod yX5_becomeLike ∈ fA := f_memT (List.mem_of_getElem? (i := 684) (by decide +kernel)) (by decide +kernel)
theorem q506 : Cond.selects RX5 yX5_becomeLike yX5_becomeLike ∈ fA := f_memT (List.mem_of_getElem? (i := 685) (by decide +kernel)) (by decide +kernel)
theorem q507 : Cond.methodLink RX7 297 yX5_heightOfNumber ∈ fA := f_memT (List.mem_of_getElem? (i := 805) (by decide +kernel)) (by decide +kernel)
theorem q508 : Cond.instanceMethod yX5_heightOfNumber ∈ fA := f_memT (List.mem_of_getElem? (i := 806) (by decide +kernel)) (by decide +kernel)
theorem q509 : Cond.selects RX5 yX5_heightOfNumber yX5_heightOfNumber ∈ fA := f_memT (List.mem_of_getElem? (i := 807) (by decide +kernel)) (by decide +kernel)
theorem q510 : Cond.code yX7_heightIn cX7_heightIn 4 (some .int) ∈ fA := f_memT (List.mem_of_getElem? (i := 681) (by decide +kernel)) (by decide +kernel)
theorem q511 : Cond.methodLink RX7 302 yX5_flowsAsSet ∈ fA := f_memT (List.mem_of_getElem? (i := 818) (by decide +kernel)) (by decide +kernel)
theorem q512 : Cond.instanceMethod yX5_flowsAsSet ∈ fA := f_memT (List.mem_of_getElem? (i := 819) (by decide +kernel)) (by decide +kernel)
theorem q513 : Cond.selects RX5 yX5_flowsAsSet yX5_flowsAsSet ∈ fA := f_memT (List.mem_of_getElem? (i := 820) (by decide +kernel)) (by decide +kernel)
theorem q514 : Cond.methodLink RX7 305 yX7_pressureBy ∈ fA := f_memT (List.mem_of_getElem? (i := 822) (by decide +kernel)) (by decide +kernel)
theorem q515 : Cond.methodLink RX7 309 yX7_heightBy ∈ fA := f_memT (List.mem_of_getElem? (i := 823) (by decide +kernel)) (by decide +kernel)
theorem q516 : Cond.code yX7_settingFor cX7_settingFor 7 (some .int) ∈ fA := f_memT (List.mem_of_getElem? (i := 816) (by decide +kernel)) (by decide +kernel)
theorem q517 : Cond.methodLink RX7 313 yX7_settingFor ∈ fA := f_memT (List.mem_of_getElem? (i := 813) (by decide +kernel)) (by decide +kernel)
theorem q518 : Cond.instanceMethod yX7_settingFor ∈ fA := f_memT (List.mem_of_getElem? (i := 814) (by decide +kernel)) (by decide +kernel)
theorem q519 : Cond.selects RX7 yX7_settingFor yX7_settingFor ∈ fA := f_memT (List.mem_of_getElem? (i := 815) (by decide +kernel)) (by decide +kernel)
theorem q520 : Cond.methodLink RX7 316 yX5_setPumpOfNumber ∈ fA := f_memT (List.mem_of_getElem? (i := 824) (by decide +kernel)) (by decide +kernel)
theorem q521 : Cond.instanceMethod yX5_setPumpOfNumber ∈ fA := f_memT (List.mem_of_getElem? (i := 825) (by decide +kernel)) (by decide +kernel)
theorem q522 : Cond.selects RX5 yX5_setPumpOfNumber yX5_setPumpOfNumber ∈ fA := f_memT (List.mem_of_getElem? (i := 826) (by decide +kernel)) (by decide +kernel)
theorem q523 : Cond.code yX7_leadFor cX7_leadFor 6 (some .int) ∈ fA := f_memT (List.mem_of_getElem? (i := 812) (by decide +kernel)) (by decide +kernel)
theorem q524 : Cond.code yX7_would cX7_would 5 (some .int) ∈ fA := f_memT (List.mem_of_getElem? (i := 831) (by decide +kernel)) (by decide +kernel)
theorem q525 : Cond.constantLong RX7 326 (9115) ∈ fA := f_memT (List.mem_of_getElem? (i := 837) (by decide +kernel)) (by decide +kernel)
theorem q526 : Cond.constantLong RX7 328 (31) ∈ fA := f_memT (List.mem_of_getElem? (i := 838) (by decide +kernel)) (by decide +kernel)
theorem q527 : Cond.methodLink RX7 330 yX7_many ∈ fA := f_memT (List.mem_of_getElem? (i := 839) (by decide +kernel)) (by decide +kernel)
theorem q528 : Cond.instanceMethod yX7_many ∈ fA := f_memT (List.mem_of_getElem? (i := 652) (by decide +kernel)) (by decide +kernel)
theorem q529 : Cond.selects RX7 yX7_many yX7_many ∈ fA := f_memT (List.mem_of_getElem? (i := 653) (by decide +kernel)) (by decide +kernel)
theorem q530 : Cond.methodLink RX7 333 yX7_ofPump ∈ fA := f_memT (List.mem_of_getElem? (i := 840) (by decide +kernel)) (by decide +kernel)
theorem q531 : Cond.instanceMethod yX7_ofPump ∈ fA := f_memT (List.mem_of_getElem? (i := 587) (by decide +kernel)) (by decide +kernel)
theorem q532 : Cond.selects RX7 yX7_ofPump yX7_ofPump ∈ fA := f_memT (List.mem_of_getElem? (i := 588) (by decide +kernel)) (by decide +kernel)
theorem q533 : Cond.methodLink RX7 336 yX7_ofJet ∈ fA := f_memT (List.mem_of_getElem? (i := 841) (by decide +kernel)) (by decide +kernel)
theorem q534 : Cond.instanceMethod yX7_ofJet ∈ fA := f_memT (List.mem_of_getElem? (i := 607) (by decide +kernel)) (by decide +kernel)
theorem q535 : Cond.selects RX7 yX7_ofJet yX7_ofJet ∈ fA := f_memT (List.mem_of_getElem? (i := 608) (by decide +kernel)) (by decide +kernel)
theorem q536 : Cond.methodLink RX7 339 yX7_heightIn ∈ fA := f_memT (List.mem_of_getElem? (i := 842) (by decide +kernel)) (by decide +kernel)
theorem q537 : Cond.instanceMethod yX7_heightIn ∈ fA := f_memT (List.mem_of_getElem? (i := 679) (by decide +kernel)) (by decide +kernel)
theorem q538 : Cond.selects RX7 yX7_heightIn yX7_heightIn ∈ fA := f_memT (List.mem_of_getElem? (i := 680) (by decide +kernel)) (by decide +kernel)
theorem q539 : Cond.methodLink RX7 342 yX7_leadFor ∈ fA := f_memT (List.mem_of_getElem? (i := 843) (by decide +kernel)) (by decide +kernel)
theorem q540 : Cond.instanceMethod yX7_leadFor ∈ fA := f_memT (List.mem_of_getElem? (i := 810) (by decide +kernel)) (by decide +kernel)
theorem q541 : Cond.selects RX7 yX7_leadFor yX7_leadFor ∈ fA := f_memT (List.mem_of_getElem? (i := 811) (by decide +kernel)) (by decide +kernel)
theorem q542 : Cond.methodLink RX7 345 yX7_falls ∈ fA := f_memT (List.mem_of_getElem? (i := 844) (by decide +kernel)) (by decide +kernel)
theorem q543 : Cond.instanceMethod yX7_falls ∈ fA := f_memT (List.mem_of_getElem? (i := 845) (by decide +kernel)) (by decide +kernel)
theorem q544 : Cond.selects RX7 yX7_falls yX7_falls ∈ fA := f_memT (List.mem_of_getElem? (i := 846) (by decide +kernel)) (by decide +kernel)
theorem q545 : Cond.methodLink RX7 348 yX7_open ∈ fA := f_memT (List.mem_of_getElem? (i := 850) (by decide +kernel)) (by decide +kernel)
theorem q546 : Cond.instanceMethod yX7_open ∈ fA := f_memT (List.mem_of_getElem? (i := 636) (by decide +kernel)) (by decide +kernel)
theorem q547 : Cond.selects RX7 yX7_open yX7_open ∈ fA := f_memT (List.mem_of_getElem? (i := 637) (by decide +kernel)) (by decide +kernel)
theorem q548 : Cond.methodLink RX7 351 yX7_would ∈ fA := f_memT (List.mem_of_getElem? (i := 851) (by decide +kernel)) (by decide +kernel)
theorem q549 : Cond.instanceMethod yX7_would ∈ fA := f_memT (List.mem_of_getElem? (i := 829) (by decide +kernel)) (by decide +kernel)
theorem q550 : Cond.selects RX7 yX7_would yX7_would ∈ fA := f_memT (List.mem_of_getElem? (i := 830) (by decide +kernel)) (by decide +kernel)
theorem q551 : Cond.code yX7_digest cX7_digest 5 (some .long) ∈ fA := f_memT (List.mem_of_getElem? (i := 836) (by decide +kernel)) (by decide +kernel)
theorem q552 : Cond.code yJ9_abs_0f7a4 cJ9_abs_0f7a4 1 (some .int) ∈ fA := f_memT (List.mem_of_getElem? (i := 877) (by decide +kernel)) (by decide +kernel)
theorem q553 : Cond.code yJ9_max_7cf53 cJ9_max_7cf53 2 (some .int) ∈ fA := f_memT (List.mem_of_getElem? (i := 301) (by decide +kernel)) (by decide +kernel)
theorem q554 : Cond.code yJ9_min_7cf53 cJ9_min_7cf53 2 (some .int) ∈ fA := f_memT (List.mem_of_getElem? (i := 333) (by decide +kernel)) (by decide +kernel)
theorem q555 : Cond.code yL_below cL_below 2 (some .int) ∈ fA := f_memT (List.mem_of_getElem? (i := 854) (by decide +kernel)) (by decide +kernel)
theorem q556 : Cond.constant RL 7 (2147483647) ∈ fA := f_memT (List.mem_of_getElem? (i := 855) (by decide +kernel)) (by decide +kernel)
theorem q557 : Cond.code yL_cell cL_cell 2 (some .int) ∈ fA := f_memT (List.mem_of_getElem? (i := 858) (by decide +kernel)) (by decide +kernel)
theorem q558 : Cond.constant RL 8 (790386105) ∈ fA := f_memT (List.mem_of_getElem? (i := 859) (by decide +kernel)) (by decide +kernel)
theorem q559 : Cond.methodLink RL 106 yX7_settingFor ∈ fA := f_memT (List.mem_of_getElem? (i := 863) (by decide +kernel)) (by decide +kernel)
theorem q560 : Cond.methodLink RL 43 yX7_ofJet ∈ fA := f_memT (List.mem_of_getElem? (i := 606) (by decide +kernel)) (by decide +kernel)
theorem q561 : Cond.methodLink RL 94 yX7_leadFor ∈ fA := f_memT (List.mem_of_getElem? (i := 809) (by decide +kernel)) (by decide +kernel)
theorem q562 : Cond.methodLink RL 37 yX7_many ∈ fA := f_memT (List.mem_of_getElem? (i := 651) (by decide +kernel)) (by decide +kernel)
theorem q563 : Cond.methodLink RL 46 yX7_ofPump ∈ fA := f_memT (List.mem_of_getElem? (i := 586) (by decide +kernel)) (by decide +kernel)
theorem q564 : Cond.code yL_isLeast cL_isLeast 9 (some .boolean) ∈ fA := f_memT (List.mem_of_getElem? (i := 862) (by decide +kernel)) (by decide +kernel)
theorem q565 : Cond.methodLink RL 115 Lib.Math.min.name ∈ fA := f_memT (List.mem_of_getElem? (i := 874) (by decide +kernel)) (by decide +kernel)
theorem q566 : Cond.methodLink RL 120 Lib.Math.abs.name ∈ fA := f_memT (List.mem_of_getElem? (i := 875) (by decide +kernel)) (by decide +kernel)
theorem q567 : Cond.static Lib.Math.abs.name ∈ fA := f_memT (List.mem_of_getElem? (i := 876) (by decide +kernel)) (by decide +kernel)
theorem q568 : Cond.code Lib.Math.abs.name Lib.Math.abs.code 1 (some .int) ∈ fA := f_memT (List.mem_of_getElem? (i := 877) (by decide +kernel)) (by decide +kernel)
theorem q569 : Cond.methodLink RL 97 yX7_would ∈ fA := f_memT (List.mem_of_getElem? (i := 828) (by decide +kernel)) (by decide +kernel)
theorem q570 : Cond.methodLink RL 91 yX7_heightIn ∈ fA := f_memT (List.mem_of_getElem? (i := 678) (by decide +kernel)) (by decide +kernel)
theorem q571 : Cond.methodLink RL 109 yX7_falls ∈ fA := f_memT (List.mem_of_getElem? (i := 867) (by decide +kernel)) (by decide +kernel)
theorem q572 : Cond.methodLink RL 112 yX7_pass ∈ fA := f_memT (List.mem_of_getElem? (i := 868) (by decide +kernel)) (by decide +kernel)
theorem q573 : Cond.instanceMethod yX7_pass ∈ fA := f_memT (List.mem_of_getElem? (i := 869) (by decide +kernel)) (by decide +kernel)
theorem q574 : Cond.selects RX7 yX7_pass yX7_pass ∈ fA := f_memT (List.mem_of_getElem? (i := 870) (by decide +kernel)) (by decide +kernel)
set_option maxRecDepth 100000 in
theorem q575 : Cond.code yL_isPassed cL_isPassed 19 (some .boolean) ∈ fA := f_memT (List.mem_append_right _ (List.mem_append_right _ (List.mem_append_right _ (List.mem_of_getElem? (i := 146) rfl)))) (by decide +kernel)
theorem q576 : Cond.classLink RL 9 RX7 ∈ fA := f_memT (List.mem_of_getElem? (i := 25) (by decide +kernel)) (by decide +kernel)
theorem q577 : Cond.instantiable RX7 3 ∈ fA := f_memT (List.mem_of_getElem? (i := 26) (by decide +kernel)) (by decide +kernel)
theorem q578 : Cond.arrayClass .boolean ∈ fA := f_memT (List.mem_of_getElem? (i := 879) (by decide +kernel)) (by decide +kernel)
theorem q579 : Cond.constantDouble RL 104 (4633641066610819072) ∈ fA := f_memT (List.mem_of_getElem? (i := 878) (by decide +kernel)) (by decide +kernel)
theorem q580 : Cond.methodLink RL 11 yX7_init ∈ fA := f_memT (List.mem_of_getElem? (i := 27) (by decide +kernel)) (by decide +kernel)
theorem q581 : Cond.instanceMethod yX7_init ∈ fA := f_memT (List.mem_of_getElem? (i := 28) (by decide +kernel)) (by decide +kernel)
theorem q582 : Cond.methodLink RL 12 yL_cell ∈ fA := f_memT (List.mem_of_getElem? (i := 856) (by decide +kernel)) (by decide +kernel)
theorem q583 : Cond.static yL_cell ∈ fA := f_memT (List.mem_of_getElem? (i := 857) (by decide +kernel)) (by decide +kernel)
theorem q584 : Cond.initialized RL ∈ fA := f_memT (List.mem_of_getElem? (i := 0) (by decide +kernel)) (by decide +kernel)
theorem q585 : Cond.methodLink RL 18 yL_below ∈ fA := f_memT (List.mem_of_getElem? (i := 852) (by decide +kernel)) (by decide +kernel)
theorem q586 : Cond.static yL_below ∈ fA := f_memT (List.mem_of_getElem? (i := 853) (by decide +kernel)) (by decide +kernel)
theorem q587 : Cond.methodLink RL 22 yX7_pump ∈ fA := f_memT (List.mem_of_getElem? (i := 155) (by decide +kernel)) (by decide +kernel)
theorem q588 : Cond.instanceMethod yX7_pump ∈ fA := f_memT (List.mem_of_getElem? (i := 156) (by decide +kernel)) (by decide +kernel)
theorem q589 : Cond.selects RX7 yX7_pump yX7_pump ∈ fA := f_memT (List.mem_of_getElem? (i := 157) (by decide +kernel)) (by decide +kernel)
theorem q590 : Cond.methodLink RL 26 yX7_figure ∈ fA := f_memT (List.mem_of_getElem? (i := 442) (by decide +kernel)) (by decide +kernel)
theorem q591 : Cond.instanceMethod yX7_figure ∈ fA := f_memT (List.mem_of_getElem? (i := 443) (by decide +kernel)) (by decide +kernel)
theorem q592 : Cond.selects RX7 yX7_figure yX7_figure ∈ fA := f_memT (List.mem_of_getElem? (i := 444) (by decide +kernel)) (by decide +kernel)
theorem q593 : Cond.methodLink RL 30 yX7_jet ∈ fA := f_memT (List.mem_of_getElem? (i := 339) (by decide +kernel)) (by decide +kernel)
theorem q594 : Cond.instanceMethod yX7_jet ∈ fA := f_memT (List.mem_of_getElem? (i := 340) (by decide +kernel)) (by decide +kernel)
theorem q595 : Cond.selects RX7 yX7_jet yX7_jet ∈ fA := f_memT (List.mem_of_getElem? (i := 341) (by decide +kernel)) (by decide +kernel)
theorem q596 : Cond.methodLink RL 34 yX7_step ∈ fA := f_memT (List.mem_of_getElem? (i := 460) (by decide +kernel)) (by decide +kernel)
theorem q597 : Cond.instanceMethod yX7_step ∈ fA := f_memT (List.mem_of_getElem? (i := 461) (by decide +kernel)) (by decide +kernel)
theorem q598 : Cond.selects RX7 yX7_step yX7_step ∈ fA := f_memT (List.mem_of_getElem? (i := 462) (by decide +kernel)) (by decide +kernel)
theorem q599 : Cond.methodLink RL 40 yX7_valve ∈ fA := f_memT (List.mem_of_getElem? (i := 497) (by decide +kernel)) (by decide +kernel)
theorem q600 : Cond.instanceMethod yX7_valve ∈ fA := f_memT (List.mem_of_getElem? (i := 498) (by decide +kernel)) (by decide +kernel)
theorem q601 : Cond.selects RX7 yX7_valve yX7_valve ∈ fA := f_memT (List.mem_of_getElem? (i := 499) (by decide +kernel)) (by decide +kernel)
theorem q602 : Cond.methodLink RL 49 yX7_setting ∈ fA := f_memT (List.mem_of_getElem? (i := 509) (by decide +kernel)) (by decide +kernel)
theorem q603 : Cond.instanceMethod yX7_setting ∈ fA := f_memT (List.mem_of_getElem? (i := 510) (by decide +kernel)) (by decide +kernel)
theorem q604 : Cond.selects RX7 yX7_setting yX7_setting ∈ fA := f_memT (List.mem_of_getElem? (i := 511) (by decide +kernel)) (by decide +kernel)
theorem q605 : Cond.methodLink RL 52 yX7_reset ∈ fA := f_memT (List.mem_of_getElem? (i := 519) (by decide +kernel)) (by decide +kernel)
theorem q606 : Cond.instanceMethod yX7_reset ∈ fA := f_memT (List.mem_of_getElem? (i := 520) (by decide +kernel)) (by decide +kernel)
theorem q607 : Cond.selects RX7 yX7_reset yX7_reset ∈ fA := f_memT (List.mem_of_getElem? (i := 521) (by decide +kernel)) (by decide +kernel)
theorem q608 : Cond.methodLink RL 55 yX7_lamp ∈ fA := f_memT (List.mem_of_getElem? (i := 524) (by decide +kernel)) (by decide +kernel)
theorem q609 : Cond.instanceMethod yX7_lamp ∈ fA := f_memT (List.mem_of_getElem? (i := 525) (by decide +kernel)) (by decide +kernel)
theorem q610 : Cond.selects RX7 yX7_lamp yX7_lamp ∈ fA := f_memT (List.mem_of_getElem? (i := 526) (by decide +kernel)) (by decide +kernel)
theorem q611 : Cond.methodLink RL 59 yX7_fault ∈ fA := f_memT (List.mem_of_getElem? (i := 528) (by decide +kernel)) (by decide +kernel)
theorem q612 : Cond.instanceMethod yX7_fault ∈ fA := f_memT (List.mem_of_getElem? (i := 529) (by decide +kernel)) (by decide +kernel)
theorem q613 : Cond.selects RX7 yX7_fault yX7_fault ∈ fA := f_memT (List.mem_of_getElem? (i := 530) (by decide +kernel)) (by decide +kernel)
theorem q614 : Cond.methodLink RL 63 yX7_swim ∈ fA := f_memT (List.mem_of_getElem? (i := 532) (by decide +kernel)) (by decide +kernel)
theorem q615 : Cond.instanceMethod yX7_swim ∈ fA := f_memT (List.mem_of_getElem? (i := 533) (by decide +kernel)) (by decide +kernel)
theorem q616 : Cond.selects RX7 yX7_swim yX7_swim ∈ fA := f_memT (List.mem_of_getElem? (i := 534) (by decide +kernel)) (by decide +kernel)
theorem q617 : Cond.methodLink RL 67 yX7_fill ∈ fA := f_memT (List.mem_of_getElem? (i := 545) (by decide +kernel)) (by decide +kernel)
theorem q618 : Cond.instanceMethod yX7_fill ∈ fA := f_memT (List.mem_of_getElem? (i := 546) (by decide +kernel)) (by decide +kernel)
theorem q619 : Cond.selects RX7 yX7_fill yX7_fill ∈ fA := f_memT (List.mem_of_getElem? (i := 547) (by decide +kernel)) (by decide +kernel)
theorem q620 : Cond.methodLink RL 70 yX7_call ∈ fA := f_memT (List.mem_of_getElem? (i := 554) (by decide +kernel)) (by decide +kernel)
theorem q621 : Cond.instanceMethod yX7_call ∈ fA := f_memT (List.mem_of_getElem? (i := 555) (by decide +kernel)) (by decide +kernel)
theorem q622 : Cond.selects RX7 yX7_call yX7_call ∈ fA := f_memT (List.mem_of_getElem? (i := 556) (by decide +kernel)) (by decide +kernel)
theorem q623 : Cond.methodLink RL 73 yX7_open ∈ fA := f_memT (List.mem_of_getElem? (i := 635) (by decide +kernel)) (by decide +kernel)
theorem q624 : Cond.methodLink RL 76 yX7_wind ∈ fA := f_memT (List.mem_of_getElem? (i := 492) (by decide +kernel)) (by decide +kernel)
theorem q625 : Cond.instanceMethod yX7_wind ∈ fA := f_memT (List.mem_of_getElem? (i := 493) (by decide +kernel)) (by decide +kernel)
theorem q626 : Cond.selects RX7 yX7_wind yX7_wind ∈ fA := f_memT (List.mem_of_getElem? (i := 494) (by decide +kernel)) (by decide +kernel)
theorem q627 : Cond.methodLink RL 79 yL_isLeast ∈ fA := f_memT (List.mem_of_getElem? (i := 860) (by decide +kernel)) (by decide +kernel)
theorem q628 : Cond.static yL_isLeast ∈ fA := f_memT (List.mem_of_getElem? (i := 861) (by decide +kernel)) (by decide +kernel)
theorem q629 : Cond.methodLink RL 83 yL_isPassed ∈ fA := f_memT (List.mem_of_getElem? (i := 864) (by decide +kernel)) (by decide +kernel)
theorem q630 : Cond.static yL_isPassed ∈ fA := f_memT (List.mem_of_getElem? (i := 865) (by decide +kernel)) (by decide +kernel)
theorem q631 : Cond.methodLink RL 87 yX7_digest ∈ fA := f_memT (List.mem_of_getElem? (i := 833) (by decide +kernel)) (by decide +kernel)
theorem q632 : Cond.instanceMethod yX7_digest ∈ fA := f_memT (List.mem_of_getElem? (i := 834) (by decide +kernel)) (by decide +kernel)
theorem q633 : Cond.selects RX7 yX7_digest yX7_digest ∈ fA := f_memT (List.mem_of_getElem? (i := 835) (by decide +kernel)) (by decide +kernel)
theorem q634 : Cond.methodLink RL 100 yX7_meanHeight ∈ fA := f_memT (List.mem_of_getElem? (i := 670) (by decide +kernel)) (by decide +kernel)
theorem q635 : Cond.instanceMethod yX7_meanHeight ∈ fA := f_memT (List.mem_of_getElem? (i := 671) (by decide +kernel)) (by decide +kernel)
theorem q636 : Cond.selects RX7 yX7_meanHeight yX7_meanHeight ∈ fA := f_memT (List.mem_of_getElem? (i := 672) (by decide +kernel)) (by decide +kernel)
theorem uX0 : ∀ w ∈ u_ws RX0 TX0 3, w ∈ fA := f_uws [76, 78, 80] (by decide +kernel) (by decide +kernel)
theorem uX1 : ∀ w ∈ u_ws RX1 TX1 3, w ∈ fA := f_uws [579, 581, 583] (by decide +kernel) (by decide +kernel)
theorem uX2 : ∀ w ∈ u_ws RX2 TX2 1, w ∈ fA := f_uws [457] (by decide +kernel) (by decide +kernel)
theorem uX3 : ∀ w ∈ u_ws RX3 TX3 10, w ∈ fA := f_uws [420, 422, 424, 426, 428, 430, 432, 434, 436, 438] (by decide +kernel) (by decide +kernel)
theorem uX4 : ∀ w ∈ u_ws RX4 TX4 6, w ∈ fA := f_uws [267, 269, 271, 273, 275, 277] (by decide +kernel) (by decide +kernel)
theorem uX5 : ∀ w ∈ u_ws RX5 TX5 15, w ∈ fA := f_uws [114, 116, 118, 120, 122, 124, 126, 128, 130, 132, 134, 136, 138, 140, 142] (by decide +kernel) (by decide +kernel)
theorem uX6 : ∀ w ∈ u_ws RX6 TX6 3, w ∈ fA := f_uws [485, 487, 489] (by decide +kernel) (by decide +kernel)
theorem uX7 : ∀ w ∈ u_ws RX7 TX7 3, w ∈ fA := f_uws [148, 150, 152] (by decide +kernel) (by decide +kernel)
theorem uJx4a65c : ∀ w ∈ u_ws RJx4a65c TJx4a65c 3, w ∈ fA := f_uws [56, 52, 54] (by decide +kernel) (by decide +kernel)
end
section
/-! MY ROWS: one list of words for all methods; what a world stands in (fE); contracts over listed cells, calls of them -/
abbrev fT (cI cO cL : ClassId) : List (ClassId × FieldType) := [(cI, .int), (cO, .object "java/lang/Object"), (cL, .boolean)]
def fNest : List (String × Nat × MethodName × String) := [(RX7, 18, yX5_init, RX7), (RX5, 26, yX0_init, RX7), (RX7, 73, yX2_init, RX7), (RX5, 216, yX7_pressureBy, RX7), (RX5, 230, yX7_heightBy, RX7), (RX5, 159, yX7_airTime, RX7), (RX4, 26, yX7_nearer, RX7), (RX3, 35, yX7_nearer, RX7)]
def fObj : List String := [RX4, RX2, RX3, RX6, RX1]
/-- what the tables hold -/
def fEt (D : va_G) (cI cO cL : ClassId) (M : Nat) (U : State) : Prop :=
  va_K D vwCl (fT cI cO cL) U ∧ va_Mi "[Ljava/lang/Object;" M U ∧ va_Dc U ∧ va_AO "java/lang/Object" U ∧
  (∀ q ∈ fNest, va_Nw (.methodLinkNest q.1 q.2.1 q.2.2.1 q.2.2.2) U) ∧ (∀ n ∈ fObj, va_Nw (.castable n "java/lang/Object") U)
/-- what the old cells hold that nobody writes -/
def fEh (E : Nat) (A : Nat → Prop) (U : State) (H : Heap) : Prop :=
  va_Z "java/util/ArrayList" "DEFAULTCAPACITY_EMPTY_ELEMENTDATA" "[Ljava/lang/Object;" (.ref E) A U H ∧ va_T (.object "java/lang/Object") E 0 (fun _ => .null) A U H ∧ va_O "[Ljava/lang/Object;" E A U H
def fE (D : va_G) (cI cO cL : ClassId) (E M : Nat) (A : Nat → Prop) (U : State) (H : Heap) : Prop := fEt D cI cO cL M U ∧ fEh E A U H
theorem fEt_warm {D : va_G} {cI cO cL : ClassId} {M : Nat} {s U : State} (hW : s.WarmedH U.vm) (h : fEt D cI cO cL M s) : fEt D cI cO cL M U := by
  obtain ⟨h1, h2, h3, h4, h8, h10⟩ := h
  exact ⟨va_K.moved hW.alike h1, va_Mi.moved hW.alike h2, va_Dc.moved hW.alike h3, va_AO.moved hW.alike h4, fun q hq => va_Nw.warmM hW (h8 q hq), fun n hn => va_Nw.warmC hW (h10 n hn)⟩
theorem fEh_call {E : Nat} {A B : Nat → Prop} {s U : State} {H : Heap} {locs : List Loc} (h : fEh E A s s.heap) (hS : va_S A s.heap H locs) (hB : ∀ q, B q → A q) (hU : U.heap = H) (hW : s.WarmedH U.vm) : fEh E B U U.heap := by
  obtain ⟨h1, h2, h5⟩ := h
  rw [hU]
  exact ⟨((va_Z.moved hW.alike (h1.kept hS.2.1))).narrow hB, (va_T.moved hW.alike (h2.kept hS.2.1)).narrow hB, (va_O.moved hW.alike (h5.kept hS.2.1)).narrow hB⟩
theorem fE_call {D : va_G} {cI cO cL : ClassId} {E M : Nat} {A B : Nat → Prop} {s U : State} {H : Heap} {locs : List Loc} (h : fE D cI cO cL E M A s s.heap) (hS : va_S A s.heap H locs) (hB : ∀ q, B q → A q) (hU : U.heap = H) (hW : s.WarmedH U.vm) : fE D cI cO cL E M B U U.heap :=
  ⟨fEt_warm hW h.1, fEh_call h.2 hS hB hU hW⟩
/-- the start of a method in its world -/
abbrev fPre (D : va_G) (cI cO cL : ClassId) (E M : Nat) (av : List Value) (sz : Nat) (ws : va_W) : Array Value → State → Prop :=
  va_Pc av (fun U => U.heap.size = sz ∧ va_P D vwCl ws U.heap ∧ va_D (fun _ => True) ws ∧ fE D cI cO cL E M (va_A ws sz) U U.heap)
/-- a world at an end -/
abbrev fB {S : Type} (D : va_G) (A : Nat → Prop) (w1 : S → va_W) : S → State → Prop := fun u t => va_P D vwCl (w1 u) t.heap ∧ va_D A (w1 u)
abbrev fBr {S : Type} (D : va_G) (A : Nat → Prop) (w1 : S → Nat → va_W) : S → Nat → State → Prop := fun u a t => va_P D vwCl (w1 u a) t.heap ∧ va_D A (w1 u a)
theorem f_P0 {D : va_G} {H : Heap} : va_P D vwCl [] H := fun k q h => by simp at h
theorem f_D0 {A : Nat → Prop} : va_D A [] := ⟨fun i j p q h => by simp at h, fun k q h => by simp at h⟩
abbrev fW (y : MethodName) (c : ByteArray) (n : Nat) (ret : Option FieldType) : List Cond := Cond.code y c n ret :: fA
theorem fPre_blind {D : va_G} {cI cO cL : ClassId} {E M : Nat} {av : List Value} {sz : Nat} {ws : va_W} : FrameBlind (fPre D cI cO cL E M av sz ws) := by
  intro a U g mk h
  obtain ⟨h0, h1, h2, h3, h4⟩ := h
  exact ⟨h0, h1, h2, h3, fE_call (A := va_A ws sz) (s := U) (U := U.calling g mk a) (H := U.heap) h4 va_S.rf (fun _ h => h) rfl (State.WarmedH.refl U)⟩
theorem f_fm {ws wc : va_W} {is : List Nat} (h : is.map (fun i => ws[i]?) = wc.map some) : is.filterMap (fun i => ws[i]?) = wc := by
  have h1 : is.filterMap (fun i => ws[i]?) = (is.map (fun i => ws[i]?)).filterMap id := by rw [List.filterMap_map]; rfl
  rw [h1, h, List.filterMap_map]
  simp
theorem f_goodIn {ws : List Cond} (h : ∀ w ∈ ws, w ∈ fA) : GoodIn fA ws := fun w hw => ⟨h w hw, good_of_word (f_good (h w hw))⟩
section FCW
variable {R : Room} {s : State} {args : Array Value} {own C : String} {index : Nat} {y : MethodName} {cy : ByteArray} {ny : Nat} {ret : Option FieldType} {rm : Room} {mc ms : Nat}
theorem f_cons {w : Cond} (h : w ∈ fA) : ∀ w' ∈ w :: fA, w' ∈ fA := fun w' h' => (List.mem_cons.mp h').elim (fun e => by rw [e]; exact h) (fun h => h)
theorem fcwV (n : Nat) (ht : ∀ w ∈ fA, w.before args s = true) (h1 : Cond.methodLink own index y ∈ fA) (h2 : Cond.instanceMethod y ∈ fA) (h3 : Cond.selects C y y ∈ fA) (h4 : Cond.initialized C ∈ fA) (h5 : Cond.code y cy ny ret ∈ fA) (hrc : rm.cells = mc) (hrs : rm.slots = ms)
    (hd : y.cls = C ∧ y.cls ≠ "java/lang/invoke/MethodHandle" ∧ y.cls ≠ "java/lang/invoke/VarHandle" ∧ (parseMethodDescriptor y.desc).map (fun d => d.parameters.length) = some n) (hR : rm.frames + 1 ≤ R.frames ∧ 8 + (ny + 11) + rm.locals ≤ R.locals) :
    CallW R s args own C index y cy ny ret (fW y cy ny ret) rm mc ms n :=
  cwV n ht (f_goodIn (fun w hw => by
    unfold wsV at hw
    rcases List.mem_append.mp hw with h | h
    · rcases List.mem_cons.mp h with rfl | h
      · exact h1
      · rcases List.mem_cons.mp h with rfl | h
        · exact h2
        · rcases List.mem_cons.mp h with rfl | h
          · exact h3
          · rcases List.mem_cons.mp h with rfl | h
            · exact h4
            · cases h
    · exact f_cons h5 w h)) rfl hrc hrs hd hR
theorem fcwS (n : Nat) (ht : ∀ w ∈ fA, w.before args s = true) (h1 : Cond.methodLink own index y ∈ fA) (h2 : Cond.static y ∈ fA) (h4 : Cond.initialized y.cls ∈ fA) (h5 : Cond.code y cy ny ret ∈ fA) (hrc : rm.cells = mc) (hrs : rm.slots = ms)
    (hd : y.cls ≠ "java/lang/invoke/MethodHandle" ∧ y.cls ≠ "java/lang/invoke/VarHandle" ∧ (parseMethodDescriptor y.desc).map (fun d => d.parameters.length) = some n) (hR : rm.frames + 1 ≤ R.frames ∧ 8 + (ny + 11) + rm.locals ≤ R.locals) :
    CallB R s args own index y cy ny ret (fW y cy ny ret) rm mc ms n ∧ (Cond.static y).before args s = true :=
  va_cwS n ht (f_goodIn (fun w hw => by
    unfold va_wsS at hw
    rcases List.mem_append.mp hw with h | h
    · rcases List.mem_cons.mp h with rfl | h
      · exact h1
      · rcases List.mem_cons.mp h with rfl | h
        · exact h2
        · rcases List.mem_cons.mp h with rfl | h
          · exact h4
          · cases h
    · exact f_cons h5 w h)) rfl hrc hrs hd hR
theorem fcwI (n : Nat) (ht : ∀ w ∈ fA, w.before args s = true) (h1 : Cond.methodLink own index y ∈ fA) (h2 : Cond.instanceMethod y ∈ fA) (h4 : Cond.initialized y.cls ∈ fA) (h5 : Cond.code y cy ny none ∈ fA) (hrc : rm.cells = mc) (hrs : rm.slots = ms) (hy1 : y.name = "<init>")
    (hd : y.cls ≠ "java/lang/invoke/MethodHandle" ∧ y.cls ≠ "java/lang/invoke/VarHandle" ∧ (parseMethodDescriptor y.desc).map (fun d => d.parameters.length) = some n) (hR : rm.frames + 1 ≤ R.frames ∧ 8 + (ny + 11) + rm.locals ≤ R.locals) :
    CallB R s args own index y cy ny none (fW y cy ny none) rm mc ms n ∧ y.name = "<init>" ∧ (Cond.instanceMethod y).before args s = true :=
  cwI n ht (f_goodIn (fun w hw => f_cons h5 w hw)) rfl hrc hrs (ht _ h4) (ht _ h1) (ht _ h2) hy1 hd hR
theorem fcwIN {host : String} (n : Nat) (ht : ∀ w ∈ fA, w.before args s = true) (hl : va_Nw (.methodLinkNest own index y host) s) (h2 : Cond.instanceMethod y ∈ fA) (h4 : Cond.initialized y.cls ∈ fA) (h5 : Cond.code y cy ny none ∈ fA) (hrc : rm.cells = mc) (hrs : rm.slots = ms) (hy1 : y.name = "<init>")
    (hd : y.cls ≠ "java/lang/invoke/MethodHandle" ∧ y.cls ≠ "java/lang/invoke/VarHandle" ∧ (parseMethodDescriptor y.desc).map (fun d => d.parameters.length) = some n) (hR : rm.frames + 1 ≤ R.frames ∧ 8 + (ny + 11) + rm.locals ≤ R.locals) :
    va_CN R s args own index y host cy ny none (fW y cy ny none) rm mc ms n ∧ y.name = "<init>" ∧ (Cond.instanceMethod y).before args s = true :=
  ⟨va_cnB n ht (f_goodIn (fun w hw => f_cons h5 w hw)) rfl hrc hrs hl (ht _ h4) hd hR, hy1, ht _ h2⟩
theorem fcwSN {host : String} (n : Nat) (ht : ∀ w ∈ fA, w.before args s = true) (hl : va_Nw (.methodLinkNest own index y host) s) (h2 : Cond.static y ∈ fA) (h4 : Cond.initialized y.cls ∈ fA) (h5 : Cond.code y cy ny ret ∈ fA) (hrc : rm.cells = mc) (hrs : rm.slots = ms)
    (hd : y.cls ≠ "java/lang/invoke/MethodHandle" ∧ y.cls ≠ "java/lang/invoke/VarHandle" ∧ (parseMethodDescriptor y.desc).map (fun d => d.parameters.length) = some n) (hR : rm.frames + 1 ≤ R.frames ∧ 8 + (ny + 11) + rm.locals ≤ R.locals) :
    va_CN R s args own index y host cy ny ret (fW y cy ny ret) rm mc ms n ∧ (Cond.static y).before args s = true ∧ True :=
  ⟨va_cnB n ht (f_goodIn (fun w hw => f_cons h5 w hw)) rfl hrc hrs hl (ht _ h4) hd hR, ht _ h2, trivial⟩
end FCW
section FCALL
variable {p : Program} {l : Launch} {e : Env} {R : Room} {s : State} {m : MethodId} {args : Array Value} {below : List Frame} {meth : Method} {c : Code} {H : Heap} {locs : List Loc} {cells slots : Nat} {Q : State → Prop}
variable {D : va_G} {cI cO cL : ClassId} {E M : Nat} {A : Nat → Prop} {ws wc wr : va_W} {pc : Nat} {ls : Array Slot} {st rest : List Value} {a : Array Value}
variable {own C : String} {index n nL : Nat} {y : MethodName} {cc cy : ByteArray} {ny : Nat} {ret : Option FieldType} {rm : Room} {mc ms : Nat} {b : Nat} {As : List Value} {Qc : Array Value → State → Outcome → State → Prop}
theorem f_aft_v {S : Type} {post : S → Prop} {w1 : S → va_W} (hr : va_Run p l e R s m args below meth c H locs cells slots mc ms (F0 m pc ls st) rest (va_Qv post (fB D (va_A wc H.size) w1) (va_A wc H.size) a) (va_A wc H.size))
    (hP : va_P D vwCl ws H) (hD : va_D A ws) (hS : va_S A s.heap H locs) (hA : ∀ q, s.heap.size ≤ q → A q) (isC isR : List Nat) (hC : isC.map (fun i => ws[i]?) = wc.map some) (hR : isR.map (fun i => ws[i]?) = wr.map some) (hn : va_nd isR = true) (hdis : ∀ i ∈ isR, i ∉ isC)
    (kk : ∀ (u : S) (H1 : Heap) (locs1 : List Loc), post u → va_P D vwCl (wr ++ w1 u) H1 → va_D A (wr ++ w1 u) → va_S A s.heap H1 locs1 → W p l e R s m args below meth c H1 locs1 (cells + mc) (slots + ms) Q (F0 m (pc + 3) ls rest)) :
    W p l e R s m args below meth c H locs cells slots Q (F0 m pc ls st) := by
  have hF := va_free (wc := wc) hD hS hA isC hC
  refine va_callv hr hS (fun q _ h => hF q h) hF (fun u t H1 locs1 ht _ hp hB _ hk1 hS1 => ?_)
  obtain ⟨hP1, hD1⟩ := hB
  rw [ht] at hP1
  obtain ⟨g1, g2⟩ := va_join (wr := wr) hP hD isC isR hC hR hn hdis hk1 hF hP1 hD1
  exact kk u H1 locs1 hp g1 g2 hS1
theorem f_aft_r {S : Type} {post : S → Prop} {w1 : S → Nat → va_W} (hr : va_Run p l e R s m args below meth c H locs cells slots mc ms (F0 m pc ls st) rest (va_Qr post (fBr D (va_A wc H.size) w1) (va_A wc H.size) a) (va_A wc H.size))
    (hP : va_P D vwCl ws H) (hD : va_D A ws) (hS : va_S A s.heap H locs) (hA : ∀ q, s.heap.size ≤ q → A q) (isC isR : List Nat) (hC : isC.map (fun i => ws[i]?) = wc.map some) (hR : isR.map (fun i => ws[i]?) = wr.map some) (hn : va_nd isR = true) (hdis : ∀ i ∈ isR, i ∉ isC)
    (kk : ∀ (u : S) (ra : Nat) (H1 : Heap) (locs1 : List Loc), post u → va_P D vwCl (wr ++ w1 u ra) H1 → va_D A (wr ++ w1 u ra) → va_S A s.heap H1 locs1 → W p l e R s m args below meth c H1 locs1 (cells + mc) (slots + ms) Q (F0 m (pc + 3) ls (.ref ra :: rest))) :
    W p l e R s m args below meth c H locs cells slots Q (F0 m pc ls st) := by
  have hF := va_free (wc := wc) hD hS hA isC hC
  refine va_callr hr hS (fun q _ h => hF q h) hF (fun u ra t H1 locs1 ht _ hp hB _ hk1 hS1 => ?_)
  obtain ⟨hP1, hD1⟩ := hB
  rw [ht] at hP1
  obtain ⟨g1, g2⟩ := va_join (wr := wr) hP hD isC isR hC hR hn hdis hk1 hF hP1 hD1
  exact kk u ra H1 locs1 hp g1 g2 hS1
/-- the run of a virtual call, a static one, a constructor's -/
theorem f_runV (hx : p.tables.exec = Jvm.exec) (hb : c.code = cc) (hml : c.maxLocals = nL) (hown : s.vm.findClass own = some m.cls) (hts : ∀ w ∈ fA, w.before args s = true)
    (hM : Met l y (fW y cy ny ret) rm (fPre D cI cO cL E M (.ref b :: As) H.size wc) Qc mc ms (va_A wc H.size)) (cw : CallW R s args own C index y cy ny ret (fW y cy ny ret) rm mc ms n)
    (hE : fE D cI cO cL E M A s s.heap) (hP : va_P D vwCl ws H) (hD : va_D A ws) (hS : va_S A s.heap H locs) (hA : ∀ q, s.heap.size ≤ q → A q) (isC : List Nat) (hC : isC.map (fun i => ws[i]?) = wc.map some) (hnC : va_nd isC = true)
    {q0 ci : Nat} {q : vw_C} {fs : List Value} (hrv : ws[q0]? = some (b, .inr (ci, fs))) (hc : vwCl[ci]? = some q) (hq : q.1 = C)
    (hn : As.length = n) (hsize : ls.size = nL) (hstack : st = As.reverse ++ .ref b :: rest) (hW : (rest.map fun v => v.category).sum ≤ 8) (hdg : decode cc pc = .ok (.invokevirtual index, 3)) (hf : cells + mc ≤ R.cells ∧ slots + ms ≤ R.slots) :
    va_Run p l e R s m args below meth c H locs cells slots mc ms (F0 m pc ls st) rest (Qc (Value.ref b :: As).toArray) (va_A wc H.size) := by
  have hF := va_free (wc := wc) hD hS hA isC hC
  have hPc := hP.sub (ws' := wc) isC (f_fm hC)
  have hDc := hD.sub (ws' := wc) isC hnC hC
  refine va_runV ⟨hx, hb, hml, hown, hts⟩ hM cw ⟨fPre_blind, ?_, fun U hU hW => ⟨rfl, by rw [hU], by rw [hU]; exact hPc, hDc.weaken (fun _ _ _ _ => trivial), fE_call hE hS hF hU hW⟩⟩ rfl hn hsize hstack (lv_room hW) hdg hf
  rw [← hq]
  exact va_recv hE.1.1 hP hc hrv
theorem f_runS (hx : p.tables.exec = Jvm.exec) (hb : c.code = cc) (hml : c.maxLocals = nL) (hown : s.vm.findClass own = some m.cls) (hts : ∀ w ∈ fA, w.before args s = true)
    (hM : Met l y (fW y cy ny ret) rm (fPre D cI cO cL E M As H.size wc) Qc mc ms (va_A wc H.size)) (cw : CallB R s args own index y cy ny ret (fW y cy ny ret) rm mc ms n ∧ (Cond.static y).before args s = true)
    (hE : fE D cI cO cL E M A s s.heap) (hP : va_P D vwCl ws H) (hD : va_D A ws) (hS : va_S A s.heap H locs) (hA : ∀ q, s.heap.size ≤ q → A q) (isC : List Nat) (hC : isC.map (fun i => ws[i]?) = wc.map some) (hnC : va_nd isC = true)
    (hn : As.length = n) (hsize : ls.size = nL) (hstack : st = As.reverse ++ rest) (hW : (rest.map fun v => v.category).sum ≤ 8) (hdg : decode cc pc = .ok (.invokestatic index, 3)) (hf : cells + mc ≤ R.cells ∧ slots + ms ≤ R.slots) :
    va_Run p l e R s m args below meth c H locs cells slots mc ms (F0 m pc ls st) rest (Qc As.toArray) (va_A wc H.size) := by
  have hF := va_free (wc := wc) hD hS hA isC hC
  have hPc := hP.sub (ws' := wc) isC (f_fm hC)
  have hDc := hD.sub (ws' := wc) isC hnC hC
  exact va_runS ⟨hx, hb, hml, hown, hts⟩ hM cw ⟨fPre_blind, fun U hU hW => ⟨rfl, by rw [hU], by rw [hU]; exact hPc, hDc.weaken (fun _ _ _ _ => trivial), fE_call hE hS hF hU hW⟩⟩ rfl hn hsize hstack (lv_room hW) hdg hf
theorem f_runI (hx : p.tables.exec = Jvm.exec) (hb : c.code = cc) (hml : c.maxLocals = nL) (hown : s.vm.findClass own = some m.cls) (hts : ∀ w ∈ fA, w.before args s = true)
    (hM : Met l y (fW y cy ny none) rm (fPre D cI cO cL E M (.ref b :: As) H.size wc) Qc mc ms (va_A wc H.size)) (cw : CallB R s args own index y cy ny none (fW y cy ny none) rm mc ms n ∧ y.name = "<init>" ∧ (Cond.instanceMethod y).before args s = true)
    (hE : fE D cI cO cL E M A s s.heap) (hP : va_P D vwCl ws H) (hD : va_D A ws) (hS : va_S A s.heap H locs) (hA : ∀ q, s.heap.size ≤ q → A q) (isC : List Nat) (hC : isC.map (fun i => ws[i]?) = wc.map some) (hnC : va_nd isC = true)
    (hn : As.length = n) (hsize : ls.size = nL) (hstack : st = As.reverse ++ .ref b :: rest) (hW : (rest.map fun v => v.category).sum ≤ 8) (hdg : decode cc pc = .ok (.invokespecial index, 3)) (hf : cells + mc ≤ R.cells ∧ slots + ms ≤ R.slots) :
    va_Run p l e R s m args below meth c H locs cells slots mc ms (F0 m pc ls st) rest (Qc (Value.ref b :: As).toArray) (va_A wc H.size) := by
  have hF := va_free (wc := wc) hD hS hA isC hC
  have hPc := hP.sub (ws' := wc) isC (f_fm hC)
  have hDc := hD.sub (ws' := wc) isC hnC hC
  exact va_runI ⟨hx, hb, hml, hown, hts⟩ hM cw ⟨fPre_blind, fun U hU hW => ⟨rfl, by rw [hU], by rw [hU]; exact hPc, hDc.weaken (fun _ _ _ _ => trivial), fE_call hE hS hF hU hW⟩⟩ rfl hn hsize hstack (lv_room hW) hdg hf
theorem f_runIN {host : String} (hx : p.tables.exec = Jvm.exec) (hb : c.code = cc) (hml : c.maxLocals = nL) (hown : s.vm.findClass own = some m.cls) (hts : ∀ w ∈ fA, w.before args s = true)
    (hM : Met l y (fW y cy ny none) rm (fPre D cI cO cL E M (.ref b :: As) H.size wc) Qc mc ms (va_A wc H.size)) (cw : va_CN R s args own index y host cy ny none (fW y cy ny none) rm mc ms n ∧ y.name = "<init>" ∧ (Cond.instanceMethod y).before args s = true)
    (hE : fE D cI cO cL E M A s s.heap) (hP : va_P D vwCl ws H) (hD : va_D A ws) (hS : va_S A s.heap H locs) (hA : ∀ q, s.heap.size ≤ q → A q) (isC : List Nat) (hC : isC.map (fun i => ws[i]?) = wc.map some) (hnC : va_nd isC = true)
    (hn : As.length = n) (hsize : ls.size = nL) (hstack : st = As.reverse ++ .ref b :: rest) (hW : (rest.map fun v => v.category).sum ≤ 8) (hdg : decode cc pc = .ok (.invokespecial index, 3)) (hf : cells + mc ≤ R.cells ∧ slots + ms ≤ R.slots) :
    va_Run p l e R s m args below meth c H locs cells slots mc ms (F0 m pc ls st) rest (Qc (Value.ref b :: As).toArray) (va_A wc H.size) := by
  have hF := va_free (wc := wc) hD hS hA isC hC
  have hPc := hP.sub (ws' := wc) isC (f_fm hC)
  have hDc := hD.sub (ws' := wc) isC hnC hC
  exact va_runIN ⟨hx, hb, hml, hown, hts⟩ hM cw ⟨fPre_blind, fun U hU hW => ⟨rfl, by rw [hU], by rw [hU]; exact hPc, hDc.weaken (fun _ _ _ _ => trivial), fE_call hE hS hF hU hW⟩⟩ rfl hn hsize hstack (lv_room hW) hdg hf
/-- arithmetic whose result is given -/
theorem f_iadd {x y v : Int32} (hx : p.tables.exec = Jvm.exec) (hb : c.code = cc) (hdg : decode cc pc = .ok (.iadd, 1)) (hv : x + y = v) (k : W p l e R s m args below meth c H locs cells slots Q (F0 m (pc + 1) ls (.int v :: rest))) : W p l e R s m args below meth c H locs cells slots Q (F0 m pc ls (.int y :: .int x :: rest)) := by subst hv; exact lv_iadd hx hb hdg k
theorem f_isub {x y v : Int32} (hx : p.tables.exec = Jvm.exec) (hb : c.code = cc) (hdg : decode cc pc = .ok (.isub, 1)) (hv : x - y = v) (k : W p l e R s m args below meth c H locs cells slots Q (F0 m (pc + 1) ls (.int v :: rest))) : W p l e R s m args below meth c H locs cells slots Q (F0 m pc ls (.int y :: .int x :: rest)) := by subst hv; exact lv_isub hx hb hdg k
theorem f_imul {x y v : Int32} (hx : p.tables.exec = Jvm.exec) (hb : c.code = cc) (hdg : decode cc pc = .ok (.imul, 1)) (hv : x * y = v) (k : W p l e R s m args below meth c H locs cells slots Q (F0 m (pc + 1) ls (.int v :: rest))) : W p l e R s m args below meth c H locs cells slots Q (F0 m pc ls (.int y :: .int x :: rest)) := by subst hv; exact lv_imul hx hb hdg k
theorem f_iand {x y v : Int32} (hx : p.tables.exec = Jvm.exec) (hb : c.code = cc) (hdg : decode cc pc = .ok (.iand, 1)) (hv : x &&& y = v) (k : W p l e R s m args below meth c H locs cells slots Q (F0 m (pc + 1) ls (.int v :: rest))) : W p l e R s m args below meth c H locs cells slots Q (F0 m pc ls (.int y :: .int x :: rest)) := by subst hv; exact lv_iand hx hb hdg k
theorem f_ixor {x y v : Int32} (hx : p.tables.exec = Jvm.exec) (hb : c.code = cc) (hdg : decode cc pc = .ok (.ixor, 1)) (hv : x ^^^ y = v) (k : W p l e R s m args below meth c H locs cells slots Q (F0 m (pc + 1) ls (.int v :: rest))) : W p l e R s m args below meth c H locs cells slots Q (F0 m pc ls (.int y :: .int x :: rest)) := by subst hv; exact lv_ixor hx hb hdg k
theorem f_irem {x y v : Int32} (hx : p.tables.exec = Jvm.exec) (hb : c.code = cc) (hdg : decode cc pc = .ok (.irem, 1)) (hne : ¬ y = 0) (hv : x - x / y * y = v) (k : W p l e R s m args below meth c H locs cells slots Q (F0 m (pc + 1) ls (.int v :: rest))) : W p l e R s m args below meth c H locs cells slots Q (F0 m pc ls (.int y :: .int x :: rest)) := by subst hv; exact lv_irem hx hb hdg hne k
theorem f_ushr {x y v : Int32} (hx : p.tables.exec = Jvm.exec) (hb : c.code = cc) (hdg : decode cc pc = .ok (.iushr, 1)) (hv : (x.toUInt32 >>> (y.toUInt32 &&& Int32.toUInt32 31)).toInt32 = v) (k : W p l e R s m args below meth c H locs cells slots Q (F0 m (pc + 1) ls (.int v :: rest))) : W p l e R s m args below meth c H locs cells slots Q (F0 m pc ls (.int y :: .int x :: rest)) := lv_iushr hx hb hdg hv k
theorem f_ladd {x y v : Int64} (hx : p.tables.exec = Jvm.exec) (hb : c.code = cc) (hdg : decode cc pc = .ok (.ladd, 1)) (hv : x + y = v) (k : W p l e R s m args below meth c H locs cells slots Q (F0 m (pc + 1) ls (.long v :: rest))) : W p l e R s m args below meth c H locs cells slots Q (F0 m pc ls (.long y :: .long x :: rest)) := by subst hv; exact lv_ladd hx hb hdg k
theorem f_lmul {x y v : Int64} (hx : p.tables.exec = Jvm.exec) (hb : c.code = cc) (hdg : decode cc pc = .ok (.lmul, 1)) (hv : x * y = v) (k : W p l e R s m args below meth c H locs cells slots Q (F0 m (pc + 1) ls (.long v :: rest))) : W p l e R s m args below meth c H locs cells slots Q (F0 m pc ls (.long y :: .long x :: rest)) := by subst hv; exact lv_lmul hx hb hdg k
/-- a new array's class is the one that has its name -/
theorem f_sameC {cA cB : ClassId} {ty : FieldType} {tys : List (ClassId × FieldType)} {cl : List vw_C} (h : va_K D cl tys s) {i j : Nat} (hi : tys[i]? = some (cA, ty)) (hj : tys[j]? = some (cB, ty)) (hp : ∀ C, ty ≠ .object C) : cA = cB := by
  have h1 := (h.2 i _ hi).2
  have h2 := (h.2 j _ hj).2
  cases ty with
  | object C => exact absurd rfl (hp C)
  | _ => exact Option.some.inj (h1.symm.trans h2)
theorem f_sameO {cA cB : ClassId} {C : String} {tys : List (ClassId × FieldType)} {cl : List vw_C} (h : va_K D cl tys s) {i j : Nat} (hi : tys[i]? = some (cA, .object C)) (hj : tys[j]? = some (cB, .object C)) : cA = cB := by
  obtain ⟨_, _, _, _, _, h1⟩ := (h.2 i _ hi).2
  obtain ⟨_, _, _, _, _, h2⟩ := (h.2 j _ hj).2
  exact Option.some.inj (h1.symm.trans h2)
end FCALL
section FK2
variable {p : Program} {l : Launch} {e : Env} {R : Room} {s : State} {m : MethodId} {args : Array Value} {below : List Frame} {meth : Method} {c : Code} {H : Heap} {locs : List Loc} {cells slots : Nat} {Q : State → Prop}
variable {D : va_G} {cI cO cL : ClassId} {E M : Nat} {A : Nat → Prop} {ws : va_W} {pc : Nat} {ls : Array Slot} {st rest : List Value} {cc : ByteArray} {mc ms ik : Nat} {free : Addr → Prop}
theorem f_start {g : JFrame} (hP : va_P D vwCl ws s.heap) (k : ∀ H : Heap, va_P D vwCl ws H → va_S A s.heap H [] → W p l e R s m args below meth c H [] 0 0 Q g) : W p l e R s m args below meth c s.heap [] 0 0 Q g := k s.heap hP va_S.rf
theorem f_topi {x v : Int32} (hv : x = v) (k : W p l e R s m args below meth c H locs cells slots Q (F0 m pc ls (.int v :: rest))) : W p l e R s m args below meth c H locs cells slots Q (F0 m pc ls (.int x :: rest)) := by subst hv; exact k
theorem f_topl {x v : Int64} (hv : x = v) (k : W p l e R s m args below meth c H locs cells slots Q (F0 m pc ls (.long v :: rest))) : W p l e R s m args below meth c H locs cells slots Q (F0 m pc ls (.long x :: rest)) := by subst hv; exact k
theorem f_lt1 {j : Nat} (h : j < 1) : j = 0 := by omega
theorem f_lt3 {j : Nat} (h : j < 3) : j = 0 ∨ j = 1 ∨ j = 2 := by omega
theorem f_lt6 {j : Nat} (h : j < 6) : j = 0 ∨ j = 1 ∨ j = 2 ∨ j = 3 ∨ j = 4 ∨ j = 5 := by omega
theorem f_lt15 {j : Nat} (h : j < 15) : j = 0 ∨ j = 1 ∨ j = 2 ∨ j = 3 ∨ j = 4 ∨ j = 5 ∨ j = 6 ∨ j = 7 ∨ j = 8 ∨ j = 9 ∨ j = 10 ∨ j = 11 ∨ j = 12 ∨ j = 13 ∨ j = 14 := by omega
theorem f_same (h : (Cond.sameField "java/util/ArrayList" "java/util/AbstractList" "modCount" "I").before args s = true) : ∀ x, s.fieldFound? "java/util/AbstractList" "modCount" "I" = some x → s.fieldFound? "java/util/ArrayList" "modCount" "I" = some x := by
  intro x hx
  cases hr : s.fieldFound? "java/util/ArrayList" "modCount" "I" with
  | none => simp [Cond.before, Cond.holds, Cond.value, hr] at h
  | some y =>
    obtain ⟨c9, k9, i9, f9⟩ := y
    have h1 : s.fieldFound? "java/util/AbstractList" "modCount" "I" = some (c9, k9, i9, f9) := Cond.sameField_spec hr h
    rw [← h1]; exact hx
theorem f_nmO (h : fE D cI cO cL E M A s s.heap) : s.vm.findClass "[Ljava/lang/Object;" = some cO := by
  obtain ⟨_, _, _, _, _, h1⟩ := (h.1.1.2 1 (cO, .object "java/lang/Object") rfl).2
  exact h1
theorem f_lt10 {j : Nat} (h : j < 10) : j = 0 ∨ j = 1 ∨ j = 2 ∨ j = 3 ∨ j = 4 ∨ j = 5 ∨ j = 6 ∨ j = 7 ∨ j = 8 ∨ j = 9 := by omega
end FK2
section FK3
variable {s : State} {D : va_G} {cI cO cL : ClassId} {E M : Nat} {A : Nat → Prop} {H : Heap} {locs : List Loc}
theorem f_nfw : nativeFrameWords "java/lang/System" "arraycopy" 5 = 7 := by decide
theorem f_inc (i : Nat) : nI i + Int32.ofInt 1 = nI (i + 1) := nI_1 i
theorem f_add (a b : Nat) : nI a + nI b = nI (a + b) := nI_add a b
theorem f_atE (hE : fE D cI cO cL E M A s s.heap) (hS : va_S A s.heap H locs) : ∃ cell : Cell, H[E]? = some cell ∧ cell.vm.isStatics = false ∧ s.vm.findClass "[Ljava/lang/Object;" = some cell.cls := by
  obtain ⟨cell, h1, h2, h3, -⟩ := hE.2.2.2.kept hS.2.1
  exact ⟨cell, h1, h2, h3⟩
end FK3
end
section
/-! WORLDS BY NAMES: a name (a number) stands for a cell: al its address, c what it holds; one writable region, all from b0 on -/
abbrev gT : Type := va_G × ClassId × ClassId × ClassId × Nat × Nat × Nat × Nat × Nat × (Nat → Int32)
abbrev gD (G : gT) : va_G := G.1
abbrev gI (G : gT) : ClassId := G.2.1
abbrev gO (G : gT) : ClassId := G.2.2.1
abbrev gZ (G : gT) : ClassId := G.2.2.2.1
abbrev gEm (G : gT) : Nat := G.2.2.2.2.1
abbrev gMi (G : gT) : Nat := G.2.2.2.2.2.1
abbrev gb (G : gT) : Nat := G.2.2.2.2.2.2.1
abbrev gSb (G : gT) : Nat := G.2.2.2.2.2.2.2.1
abbrev gSL (G : gT) : Nat := G.2.2.2.2.2.2.2.2.1
abbrev gSx (G : gT) : Nat → Int32 := G.2.2.2.2.2.2.2.2.2
abbrev gA (G : gT) : Nat → Prop := fun q => gb G ≤ q
abbrev mC : Type := Nat → Option va_E
def up (c : mC) (i : Nat) (e : va_E) : mC := fun j => if j = i then some e else c j
theorem up_s (c : mC) (i : Nat) (e : va_E) : up c i e i = some e := if_pos rfl
theorem up_n (c : mC) {i j : Nat} (e : va_E) (h : j ≠ i) : up c i e j = c j := if_neg h
theorem up_up (c : mC) (i : Nat) (e f : va_E) : up (up c i e) i f = up c i f := by
  funext j
  by_cases h : j = i
  · subst h; rw [up_s, up_s]
  · rw [up_n _ _ h, up_n _ _ h, up_n _ _ h]
theorem up_sw (c : mC) {i j : Nat} (e f : va_E) (h : i ≠ j) : up (up c j f) i e = up (up c i e) j f := by
  funext q
  by_cases h1 : q = i
  · subst h1; rw [up_s, up_n _ _ h, up_s]
  · by_cases h2 : q = j
    · subst h2; rw [up_n _ _ h1, up_s, up_s]
    · rw [up_n _ _ h1, up_n _ _ h2, up_n _ _ h2, up_n _ _ h1]
theorem up_far1 {c : mC} {i j : Nat} {e f e' : va_E} (h : i ≠ j) : up (up (up c i e) j f) i e' = up (up c i e') j f := by rw [up_sw _ _ _ h, up_up]
theorem up_far2 {c : mC} {i j k : Nat} {e f g e' : va_E} (h : i ≠ j) (h2 : i ≠ k) : up (up (up (up c i e) j f) k g) i e' = up (up (up c i e') j f) k g := by rw [up_sw _ _ _ h2, up_far1 h]
theorem up_far3 {c : mC} {i j k n : Nat} {e f g w e' : va_E} (h : i ≠ j) (h2 : i ≠ k) (h3 : i ≠ n) : up (up (up (up (up c i e) j f) k g) n w) i e' = up (up (up (up c i e') j f) k g) n w := by rw [up_sw _ _ _ h3, up_far2 h h2]
theorem up_far4 {c : mC} {i j k n r : Nat} {e f g w y e' : va_E} (h : i ≠ j) (h2 : i ≠ k) (h3 : i ≠ n) (h4 : i ≠ r) : up (up (up (up (up (up c i e) j f) k g) n w) r y) i e' = up (up (up (up (up c i e') j f) k g) n w) r y := by rw [up_sw _ _ _ h4, up_far3 h h2 h3]
theorem au_s (al : Nat → Nat) (i q : Nat) : va_up al i q i = q := if_pos rfl
theorem au_n (al : Nat → Nat) {i j : Nat} (q : Nat) (h : j ≠ i) : va_up al i q j = al j := if_neg h
/-- the world -/
def mP (G : gT) (al : Nat → Nat) (c : mC) (H : Heap) : Prop :=
  (∃ ws : va_W, va_P (gD G) vwCl ws H ∧ va_D (gA G) ws ∧ ∀ i e, c i = some e → ∃ k : Nat, ws[k]? = some (al i, e)) ∧ ∀ i j e f, c i = some e → c j = some f → al i = al j → i = j
/-- the environment of every method here: the tables, the shared empty row, the script -/
def gE (G : gT) (U : State) (H : Heap) : Prop :=
  fE (gD G) (gI G) (gO G) (gZ G) (gEm G) (gMi G) (gA G) U H ∧ va_X (gSb G) (gSL G) (gSx G) U H ∧ gSb G < H.size ∧ ¬ gA G (gSb G)
theorem gE_call {G : gT} {s U : State} {H : Heap} {locs : List Loc} (h : gE G s s.heap) (hS : va_S (gA G) s.heap H locs) (hU : U.heap = H) (hW : s.WarmedH U.vm) : gE G U U.heap := by
  obtain ⟨h1, h2, h3, h4⟩ := h
  refine ⟨fE_call h1 hS (fun _ h => h) hU hW, ?_, ?_, h4⟩
  · rw [hU]
    exact va_X.moved hW.alike (h2.kept (hS.2.1 _ h3 h4))
  · rw [hU]
    exact Nat.lt_of_lt_of_le h3 hS.1
abbrev gPre (G : gT) (al : Nat → Nat) (c : mC) (av : List Value) : Array Value → State → Prop :=
  va_Pc av (fun U => gb G ≤ U.heap.size ∧ mP G al c U.heap ∧ gE G U U.heap)
theorem gPre_blind {G : gT} {al : Nat → Nat} {c : mC} {av : List Value} : FrameBlind (gPre G al c av) := by
  intro a U g mk h
  obtain ⟨h0, h1, h2, h4⟩ := h
  exact ⟨h0, h1, h2, gE_call (s := U) (U := U.calling g mk a) (H := U.heap) h4 va_S.rf rfl (State.WarmedH.refl U)⟩
theorem m_one {G : gT} {al : Nat → Nat} {c : mC} {H : Heap} (h : mP G al c H) {i : Nat} {e : va_E} (he : c i = some e) : va_P (gD G) vwCl [(al i, e)] H := by
  obtain ⟨⟨ws, hP, -, hw⟩, -⟩ := h
  obtain ⟨k, hk⟩ := hw i e he
  intro j q hq
  have hj : j < 1 := (List.getElem?_eq_some_iff.mp hq).1
  rw [show j = 0 by omega] at hq
  cases hq
  exact hP k _ hk
theorem m_at {G : gT} {al : Nat → Nat} {c : mC} {H : Heap} (h : mP G al c H) {i : Nat} {e : va_E} (he : c i = some e) : va_at (gD G) vwCl (al i, e) H := m_one h he 0 _ rfl
theorem m_lt {G : gT} {al : Nat → Nat} {c : mC} {H : Heap} (h : mP G al c H) {i : Nat} {e : va_E} (he : c i = some e) : al i < H.size := (m_at h he).lt
theorem m_ne {G : gT} {al : Nat → Nat} {c : mC} {H : Heap} (h : mP G al c H) {i j : Nat} {e f : va_E} (he : c i = some e) (hf : c j = some f) (hn : i ≠ j) : al i ≠ al j := fun q => hn (h.2 i j e f he hf q)
theorem m_cv {G : gT} {al : Nat → Nat} {c c' : mC} {H : Heap} (h : mP G al c H) (e : c = c') : mP G al c' H := e ▸ h
theorem m_cv2 {G : gT} {al al' : Nat → Nat} {c c' : mC} {H : Heap} (h : mP G al c H) (hc : ∀ i e, c' i = some e → c i = some e) (ha : ∀ i e, c' i = some e → al' i = al i) : mP G al' c' H := by
  obtain ⟨⟨ws, hP, hD, hw⟩, hi⟩ := h
  refine ⟨⟨ws, hP, hD, fun i e he => ?_⟩, fun i j e f he hf q => ?_⟩
  · rw [ha i e he]; exact hw i e (hc i e he)
  · rw [ha i e he, ha j f hf] at q
    exact hi i j e f (hc i e he) (hc j f hf) q
theorem m_kept {G : gT} {al : Nat → Nat} {c : mC} {H H1 : Heap} (h : mP G al c H) (hq : ∀ q : Nat, q < H.size → H1[q]? = H[q]?) : mP G al c H1 := by
  obtain ⟨⟨ws, hP, hD, hw⟩, hi⟩ := h
  exact ⟨⟨ws, hP.kept (fun k x hx => hq x.1 ((hP k x hx).lt)), hD, hw⟩, hi⟩
/-- a cell of the world has been written -/
theorem m_set {G : gT} {al : Nat → Nat} {c : mC} {H1 : Heap} {ws : va_W} (hD : va_D (gA G) ws) (hw : ∀ i e, c i = some e → ∃ k : Nat, ws[k]? = some (al i, e)) (hi : ∀ i j e f, c i = some e → c j = some f → al i = al j → i = j) {i k : Nat} {e e' : va_E} (he : c i = some e) (hk : ws[k]? = some (al i, e)) (hP1 : va_P (gD G) vwCl (ws.set k (al i, e')) H1) (hD1 : va_D (gA G) (ws.set k (al i, e'))) : mP G al (up c i e') H1 := by
  have hlen : k < ws.length := (List.getElem?_eq_some_iff.mp hk).1
  refine ⟨⟨_, hP1, hD1, fun j f hf => ?_⟩, fun j j2 f f2 hf hf2 q => ?_⟩
  · by_cases hj : j = i
    · subst hj
      rw [up_s] at hf
      cases hf
      exact ⟨k, by rw [List.getElem?_set_self hlen]⟩
    · rw [up_n _ _ hj] at hf
      obtain ⟨k2, hk2⟩ := hw j f hf
      have hne : k ≠ k2 := by
        intro h
        subst h
        rw [hk] at hk2
        have h3 : al i = al j := congrArg Prod.fst (Option.some.inj hk2)
        exact hj (hi j i f e hf he h3.symm)
      exact ⟨k2, by rw [List.getElem?_set_ne hne]; exact hk2⟩
  · have ex : ∀ j f, up c i e' j = some f → ∃ f', c j = some f' := by
      intro j f hf
      by_cases hj : j = i
      · subst hj; exact ⟨e, he⟩
      · rw [up_n _ _ hj] at hf; exact ⟨f, hf⟩
    obtain ⟨g1, h1⟩ := ex j f hf
    obtain ⟨g2, h2⟩ := ex j2 f2 hf2
    exact hi j j2 g1 g2 h1 h2 q
/-- a cell has been made: it takes the name i (whatever that named before) -/
theorem m_push {G : gT} {al : Nat → Nat} {c : mC} {H H1 : Heap} {ws : va_W} (hP : va_P (gD G) vwCl ws H) (hw : ∀ i e, c i = some e → ∃ k : Nat, ws[k]? = some (al i, e)) (hi : ∀ i j e f, c i = some e → c j = some f → al i = al j → i = j) (i : Nat) {q : Nat} {e : va_E} (hP1 : va_P (gD G) vwCl (ws ++ [(q, e)]) H1) (hD1 : va_D (gA G) (ws ++ [(q, e)])) : mP G (va_up al i q) (up c i e) H1 := by
  have hap : ∀ j f, c j = some f → al j ≠ q := by
    intro j f hf h
    obtain ⟨k, hk⟩ := hw j f hf
    have hl : k < ws.length := (List.getElem?_eq_some_iff.mp hk).1
    have h1 : (ws ++ [(q, e)])[k]? = some (al j, f) := by rw [List.getElem?_append_left hl]; exact hk
    have h2 : (ws ++ [(q, e)])[ws.length]? = some (q, e) := by rw [List.getElem?_append_right (Nat.le_refl _)]; simp
    have := hD1.1 k ws.length _ _ h1 h2 h
    omega
  refine ⟨⟨_, hP1, hD1, fun j f hf => ?_⟩, fun j j2 f f2 hf hf2 h => ?_⟩
  · by_cases hj : j = i
    · subst hj
      rw [up_s] at hf
      cases hf
      exact ⟨ws.length, by rw [au_s, List.getElem?_append_right (Nat.le_refl _)]; simp⟩
    · rw [up_n _ _ hj] at hf
      obtain ⟨k, hk⟩ := hw j f hf
      exact ⟨k, by rw [au_n _ _ hj, List.getElem?_append_left (List.getElem?_eq_some_iff.mp hk).1]; exact hk⟩
  · by_cases hj : j = i
    · by_cases hj2 : j2 = i
      · rw [hj, hj2]
      · rw [up_n _ _ hj2] at hf2
        subst hj
        rw [au_s, au_n _ _ hj2] at h
        exact absurd h.symm (hap j2 f2 hf2)
    · rw [up_n _ _ hj] at hf
      by_cases hj2 : j2 = i
      · subst hj2
        rw [au_s, au_n _ _ hj] at h
        exact absurd h (hap j f hf)
      · rw [up_n _ _ hj2] at hf2
        rw [au_n _ _ hj, au_n _ _ hj2] at h
        exact hi j j2 f f2 hf hf2 h
section MK
variable {p : Program} {l : Launch} {e : Env} {R : Room} {s : State} {m : MethodId} {args : Array Value} {below : List Frame} {meth : Method} {c0 : Code} {H : Heap} {locs : List Loc} {cells slots : Nat} {Q : State → Prop}
variable {G : gT} {al : Nat → Nat} {c : mC} {pc a : Nat} {ls : Array Slot} {st rest : List Value}
variable {own C : String} {index n nL : Nat} {y : MethodName} {cc cy : ByteArray} {ny : Nat} {ret : Option FieldType} {rm : Room} {mc ms : Nat} {b : Nat} {As : List Value} {Qc : Array Value → State → Outcome → State → Prop}
theorem m_get (hexec : p.tables.exec = Jvm.exec) (hb : c0.code = cc) {ref : String} {T : u_T} {N ci : Nat} {Ts : List Cond} (hts : ∀ w ∈ Ts, w.before args s = true) (hin : ∀ w ∈ u_ws C T N, w ∈ Ts) (hown : s.vm.findClass own = some m.cls) (hE : gE G s s.heap) (hP : mP G al c H) (i : Nat) (ha : al i = a) {fs : List Value} (he : c i = some (.inr (ci, fs))) (hc : vwCl[ci]? = some (C, T, N)) (k : Nat) (hk : k < N) (hlink : (Cond.fieldLink own index ref (T k).2.1 (T k).2.2.1).before args s = true) (hsame : ∀ x, s.fieldFound? (T k).1 (T k).2.1 (T k).2.2.1 = some x → s.fieldFound? ref (T k).2.1 (T k).2.2.1 = some x) {v : Value} (hv : fs[k]? = some v) (hdg : decode cc pc = .ok (.getfield index, 3))
    (kk : W p l e R s m args below meth c0 H locs cells slots Q (F0 m (pc + 3) ls (v :: rest))) : W p l e R s m args below meth c0 H locs cells slots Q (F0 m pc ls (.ref a :: rest)) := by
  subst ha
  exact va_get hexec hb hts hin hown hE.1.1.1 (m_one hP he) 0 rfl hc k hk hlink hsame hv hdg kk
theorem m_put (hexec : p.tables.exec = Jvm.exec) (hb : c0.code = cc) {ref : String} {T : u_T} {N ci : Nat} {Ts : List Cond} (hts : ∀ w ∈ Ts, w.before args s = true) (hin : ∀ w ∈ u_ws C T N, w ∈ Ts) (ty0 : Nat → FieldType) (hty : ∀ k, k < N → parseFieldDescriptor (T k).2.2.1 = some (ty0 k)) (hnm : ∀ a, a < N → ∀ b, b < N → a ≠ b → (T a).2.1 ≠ (T b).2.1) (hown : s.vm.findClass own = some m.cls) (hE : gE G s s.heap) (hP : mP G al c H) (hS : va_S (gA G) s.heap H locs) (i : Nat) (ha : al i = a) {fs : List Value} (he : c i = some (.inr (ci, fs))) (hc : vwCl[ci]? = some (C, T, N)) (k : Nat) (hk : k < N) (hlink : (Cond.fieldLink own index ref (T k).2.1 (T k).2.2.1).before args s = true) (hsame : ∀ x, s.fieldFound? (T k).1 (T k).2.1 (T k).2.2.1 = some x → s.fieldFound? ref (T k).2.1 (T k).2.2.1 = some x) (hfin : (T k).2.2.2 = false) {ty : FieldType} {v : Value} (hd : parseFieldDescriptor (T k).2.2.1 = some ty) (hn : narrow ty v = v) (hfit : fits ty v = true) (hl : k < fs.length)
    (hdg : decode cc pc = .ok (.putfield index, 3)) (kk : ∀ (H1 : Heap) (locs1 : List Loc), mP G al (up c i (.inr (ci, fs.set k v))) H1 → va_S (gA G) s.heap H1 locs1 → W p l e R s m args below meth c0 H1 locs1 cells slots Q (F0 m (pc + 3) ls rest)) : W p l e R s m args below meth c0 H locs cells slots Q (F0 m pc ls (v :: .ref a :: rest)) := by
  subst ha
  obtain ⟨⟨ws, h1, h2, h3⟩, h4⟩ := hP
  obtain ⟨q0, hq0⟩ := h3 i _ he
  exact va_put hexec hb hts hin ty0 hty hnm hown hE.1.1.1 h1 h2 hS q0 hq0 hc k hk hlink hsame hfin hd hn hfit hl hdg (fun H1 locs1 g1 g2 g3 => kk H1 locs1 (m_set h2 h3 h4 he hq0 g1 g2) g3)
theorem m_putF (hexec : p.tables.exec = Jvm.exec) (hb : c0.code = cc) {ref : String} {T : u_T} {N ci : Nat} {Ts : List Cond} (hts : ∀ w ∈ Ts, w.before args s = true) (hin : ∀ w ∈ u_ws C T N, w ∈ Ts) (ty0 : Nat → FieldType) (hty : ∀ k, k < N → parseFieldDescriptor (T k).2.2.1 = some (ty0 k)) (hnm : ∀ a, a < N → ∀ b, b < N → a ≠ b → (T a).2.1 ≠ (T b).2.1) (hown : s.vm.findClass own = some m.cls) (hE : gE G s s.heap) (hP : mP G al c H) (hS : va_S (gA G) s.heap H locs) (i : Nat) (ha : al i = a) {fs : List Value} (he : c i = some (.inr (ci, fs))) (hc : vwCl[ci]? = some (C, T, N)) (k : Nat) (hk : k < N) (hlink : (Cond.fieldLink own index ref (T k).2.1 (T k).2.2.1).before args s = true) (hsame : ∀ x, s.fieldFound? (T k).1 (T k).2.1 (T k).2.2.1 = some x → s.fieldFound? ref (T k).2.1 (T k).2.2.1 = some x) (hfin : (T k).2.2.2 = true) (hin2 : meth.name = "<init>") (hdecl : (T k).1 = own) {ty : FieldType} {v : Value} (hd : parseFieldDescriptor (T k).2.2.1 = some ty) (hn : narrow ty v = v) (hfit : fits ty v = true) (hl : k < fs.length)
    (hdg : decode cc pc = .ok (.putfield index, 3)) (kk : ∀ (H1 : Heap) (locs1 : List Loc), mP G al (up c i (.inr (ci, fs.set k v))) H1 → va_S (gA G) s.heap H1 locs1 → W p l e R s m args below meth c0 H1 locs1 cells slots Q (F0 m (pc + 3) ls rest)) : W p l e R s m args below meth c0 H locs cells slots Q (F0 m pc ls (v :: .ref a :: rest)) := by
  subst ha
  obtain ⟨⟨ws, h1, h2, h3⟩, h4⟩ := hP
  obtain ⟨q0, hq0⟩ := h3 i _ he
  exact va_putF hexec hb hts hin ty0 hty hnm hown hE.1.1.1 h1 h2 hS q0 hq0 hc k hk hlink hsame hfin hin2 hdecl hd hn hfit hl hdg (fun H1 locs1 g1 g2 g3 => kk H1 locs1 (m_set h2 h3 h4 he hq0 g1 g2) g3)
theorem m_iald (hexec : p.tables.exec = Jvm.exec) (hb : c0.code = cc) (hE : gE G s s.heap) (hP : mP G al c H) (i : Nat) (ha : al i = a) {N : Nat} {f : Nat → Int32} (he : c i = some (.inl (gI G, N, .inl f))) {x : Int32} (hin : vp_in x N) (hdg : decode cc pc = .ok (.iaload, 1))
    (kk : W p l e R s m args below meth c0 H locs cells slots Q (F0 m (pc + 1) ls (.int (f x.toNatClampNeg) :: rest))) : W p l e R s m args below meth c0 H locs cells slots Q (F0 m pc ls (.int x :: .ref a :: rest)) := by
  subst ha
  exact va_iald hexec hb hE.1.1.1 (m_one hP he) 0 0 rfl rfl hin hdg kk
theorem m_zald (hexec : p.tables.exec = Jvm.exec) (hb : c0.code = cc) (hE : gE G s s.heap) (hP : mP G al c H) (i : Nat) (ha : al i = a) {N : Nat} {f : Nat → Int32} (he : c i = some (.inl (gZ G, N, .inl f))) {x : Int32} (hin : vp_in x N) (hdg : decode cc pc = .ok (.baload, 1))
    (kk : W p l e R s m args below meth c0 H locs cells slots Q (F0 m (pc + 1) ls (.int (f x.toNatClampNeg) :: rest))) : W p l e R s m args below meth c0 H locs cells slots Q (F0 m pc ls (.int x :: .ref a :: rest)) := by
  subst ha
  exact va_zald hexec hb hE.1.1.1 (m_one hP he) 0 2 rfl rfl hin hdg kk
theorem m_iast (hexec : p.tables.exec = Jvm.exec) (hb : c0.code = cc) (hE : gE G s s.heap) (hP : mP G al c H) (hS : va_S (gA G) s.heap H locs) (i : Nat) (ha : al i = a) {N : Nat} {f : Nat → Int32} (he : c i = some (.inl (gI G, N, .inl f))) {x v : Int32} (hin : vp_in x N) (hdg : decode cc pc = .ok (.iastore, 1))
    (kk : ∀ (H1 : Heap) (locs1 : List Loc), mP G al (up c i (.inl (gI G, N, .inl (upd f x.toNatClampNeg v)))) H1 → va_S (gA G) s.heap H1 locs1 → W p l e R s m args below meth c0 H1 locs1 cells slots Q (F0 m (pc + 1) ls rest)) : W p l e R s m args below meth c0 H locs cells slots Q (F0 m pc ls (.int v :: .int x :: .ref a :: rest)) := by
  subst ha
  obtain ⟨⟨ws, h1, h2, h3⟩, h4⟩ := hP
  obtain ⟨q0, hq0⟩ := h3 i _ he
  exact va_iast hexec hb hE.1.1.1 h1 h2 hS q0 0 hq0 rfl hin hdg (fun H1 locs1 g1 g2 g3 => kk H1 locs1 (m_set h2 h3 h4 he hq0 g1 g2) g3)
theorem m_zast (hexec : p.tables.exec = Jvm.exec) (hb : c0.code = cc) (hE : gE G s s.heap) (hP : mP G al c H) (hS : va_S (gA G) s.heap H locs) (i : Nat) (ha : al i = a) {N : Nat} {f : Nat → Int32} (he : c i = some (.inl (gZ G, N, .inl f))) {x v : Int32} (hin : vp_in x N) (hdg : decode cc pc = .ok (.bastore, 1))
    (kk : ∀ (H1 : Heap) (locs1 : List Loc), mP G al (up c i (.inl (gZ G, N, .inl (upd f x.toNatClampNeg (vp_nar .boolean v))))) H1 → va_S (gA G) s.heap H1 locs1 → W p l e R s m args below meth c0 H1 locs1 cells slots Q (F0 m (pc + 1) ls rest)) : W p l e R s m args below meth c0 H locs cells slots Q (F0 m pc ls (.int v :: .int x :: .ref a :: rest)) := by
  subst ha
  obtain ⟨⟨ws, h1, h2, h3⟩, h4⟩ := hP
  obtain ⟨q0, hq0⟩ := h3 i _ he
  exact va_zast hexec hb hE.1.1.1 h1 h2 hS q0 2 hq0 rfl hin hdg (fun H1 locs1 g1 g2 g3 => kk H1 locs1 (m_set h2 h3 h4 he hq0 g1 g2) g3)
theorem m_aald (hexec : p.tables.exec = Jvm.exec) (hb : c0.code = cc) (hE : gE G s s.heap) (hP : mP G al c H) (i : Nat) (ha : al i = a) {N : Nat} {f : Nat → Option Nat} (he : c i = some (.inl (gO G, N, .inr (.inr (.inr (.inr f)))))) {x : Int32} (hin : vp_in x N) {v : Nat} (hv : f x.toNatClampNeg = some v) (hdg : decode cc pc = .ok (.aaload, 1))
    (kk : W p l e R s m args below meth c0 H locs cells slots Q (F0 m (pc + 1) ls (.ref v :: rest))) : W p l e R s m args below meth c0 H locs cells slots Q (F0 m pc ls (.int x :: .ref a :: rest)) := by
  subst ha
  refine va_aldq hexec hb hE.1.1.1 (m_one hP he) 0 1 rfl rfl hin hdg ?_
  rw [hv]
  exact kk
theorem m_aast (hexec : p.tables.exec = Jvm.exec) (hb : c0.code = cc) (hE : gE G s s.heap) (hP : mP G al c H) (hS : va_S (gA G) s.heap H locs) (i : Nat) (ha : al i = a) {N : Nat} {f : Nat → Option Nat} (he : c i = some (.inl (gO G, N, .inr (.inr (.inr (.inr f)))))) (j : Nat) {v : Nat} (hv : al j = v) {ci : Nat} {vs : List Value} {r : vw_C} (hj : c j = some (.inr (ci, vs))) (hr : vwCl[ci]? = some r) (hro : r.1 ∈ fObj) {x : Int32} (hin : vp_in x N) (hdg : decode cc pc = .ok (.aastore, 1))
    (kk : ∀ (H1 : Heap) (locs1 : List Loc), mP G al (up c i (.inl (gO G, N, .inr (.inr (.inr (.inr (va_up f x.toNatClampNeg (some v)))))))) H1 → va_S (gA G) s.heap H1 locs1 → W p l e R s m args below meth c0 H1 locs1 cells slots Q (F0 m (pc + 1) ls rest)) : W p l e R s m args below meth c0 H locs cells slots Q (F0 m pc ls (.ref v :: .int x :: .ref a :: rest)) := by
  subst ha
  subst hv
  obtain ⟨⟨ws, h1, h2, h3⟩, h4⟩ := hP
  obtain ⟨q0, hq0⟩ := h3 i _ he
  obtain ⟨qj, hqj⟩ := h3 j _ hj
  exact va_astqO hexec hb hE.1.1.1 h1 h2 hS q0 1 qj ci hq0 rfl (hE.1.1.2.2.2.2.2 _ hro) hqj hr hin hdg (fun H1 locs1 g1 g2 g3 => kk H1 locs1 (m_set h2 h3 h4 he hq0 g1 g2) g3)
theorem m_alen (hexec : p.tables.exec = Jvm.exec) (hb : c0.code = cc) (hE : gE G s s.heap) (hP : mP G al c H) (i : Nat) (ha : al i = a) {N : Nat} {f : Nat → Option Nat} (he : c i = some (.inl (gO G, N, .inr (.inr (.inr (.inr f)))))) (hdg : decode cc pc = .ok (.arraylength, 1))
    (kk : W p l e R s m args below meth c0 H locs cells slots Q (F0 m (pc + 1) ls (.int (nI N) :: rest))) : W p l e R s m args below meth c0 H locs cells slots Q (F0 m pc ls (.ref a :: rest)) := by
  subst ha
  exact va_alen hexec hb hE.1.1.1 (m_one hP he) 0 1 rfl rfl rfl hdg kk
/-- a new object, named i -/
theorem m_new (i : Nat) (hexec : p.tables.exec = Jvm.exec) (hb : c0.code = cc) {T : u_T} {N ci : Nat} {Ts : List Cond} (hts : ∀ w ∈ Ts, w.before args s = true) (hin : ∀ w ∈ u_ws C T N, w ∈ Ts) (ty : Nat → FieldType) (hty : ∀ k, k < N → parseFieldDescriptor (T k).2.2.1 = some (ty k)) (hown : s.vm.findClass own = some m.cls) (hcl : (Cond.classLink own index C).before args s = true) (hinst : (Cond.instantiable C N).before args s = true) (hini : (Cond.initialized C).before args s = true)
    (hE : gE G s s.heap) (hb0 : gb G ≤ s.heap.size) (hP : mP G al c H) (hS : va_S (gA G) s.heap H locs) (hc : vwCl[ci]? = some (C, T, N)) {fs : List Value} (hfs : ∀ j, j < N → defaultValue (ty j) = vp_V fs j) (hcells : cells + 1 ≤ R.cells) (hslots : slots + N ≤ R.slots) (hdg : decode cc pc = .ok (.new index, 3))
    (kk : ∀ (q : Nat) (H1 : Heap), mP G (va_up al i q) (up c i (.inr (ci, fs))) H1 → va_S (gA G) s.heap H1 locs →
      W p l e R s m args below meth c0 H1 locs (cells + 1) (slots + N) Q (F0 m (pc + 3) ls (.ref q :: rest))) : W p l e R s m args below meth c0 H locs cells slots Q (F0 m pc ls rest) := by
  obtain ⟨⟨ws, h1, h2, h3⟩, h4⟩ := hP
  exact va_new hexec hb hts hin ty hty hown hcl hinst hini hE.1.1.1 h1 h2 hS (fun q h => Nat.le_trans hb0 h) hc hfs hcells hslots hdg (fun q H1 g1 g2 g3 => kk q H1 (m_push h1 h3 h4 i g1 g2) g3)
/-- a new row of ints, or of booleans -/
theorem m_newI (i : Nat) (hexec : p.tables.exec = Jvm.exec) (hb : c0.code = cc) (harr : (Cond.arrayClass .int).before args s = true) (hE : gE G s s.heap) (hb0 : gb G ≤ s.heap.size) (hP : mP G al c H) (hS : va_S (gA G) s.heap H locs)
    {x : Int32} {N : Nat} (hn : ¬ x < 0) (hN : x.toNatClampNeg = N) (hbytes : N * 4 ≤ 536870912) (hcells : cells + 1 ≤ R.cells) (hslots : slots + N ≤ R.slots) (hdg : decode cc pc = .ok (.newarray .int, 2))
    (kk : ∀ (q : Nat) (H1 : Heap), mP G (va_up al i q) (up c i (.inl (gI G, N, .inl (fun _ => 0)))) H1 → va_S (gA G) s.heap H1 locs →
      W p l e R s m args below meth c0 H1 locs (cells + 1) (slots + N) Q (F0 m (pc + 2) ls (.ref q :: rest))) : W p l e R s m args below meth c0 H locs cells slots Q (F0 m pc ls (.int x :: rest)) := by
  obtain ⟨⟨ws, h1, h2, h3⟩, h4⟩ := hP
  refine va_newa (atype := .int) (a0 := (N, .inl (fun _ => 0))) (N' := N) hexec hb harr rfl hE.1.1.1 h1 h2 hS (fun q h => Nat.le_trans hb0 h) (fun _ => rfl) hn hN hbytes hcells hslots hdg (fun q cA H1 hK9 g1 g2 g3 => ?_)
  obtain rfl : gI G = cA := f_sameC hK9 (i := 0) (j := 3) rfl rfl (fun C h => by cases h)
  exact kk q H1 (m_push h1 h3 h4 i g1 g2) g3
theorem m_newZ (i : Nat) (hexec : p.tables.exec = Jvm.exec) (hb : c0.code = cc) (harr : (Cond.arrayClass .boolean).before args s = true) (hE : gE G s s.heap) (hb0 : gb G ≤ s.heap.size) (hP : mP G al c H) (hS : va_S (gA G) s.heap H locs)
    {x : Int32} {N : Nat} (hn : ¬ x < 0) (hN : x.toNatClampNeg = N) (hbytes : N * 1 ≤ 536870912) (hcells : cells + 1 ≤ R.cells) (hslots : slots + N ≤ R.slots) (hdg : decode cc pc = .ok (.newarray .boolean, 2))
    (kk : ∀ (q : Nat) (H1 : Heap), mP G (va_up al i q) (up c i (.inl (gZ G, N, .inl (fun _ => 0)))) H1 → va_S (gA G) s.heap H1 locs →
      W p l e R s m args below meth c0 H1 locs (cells + 1) (slots + N) Q (F0 m (pc + 2) ls (.ref q :: rest))) : W p l e R s m args below meth c0 H locs cells slots Q (F0 m pc ls (.int x :: rest)) := by
  obtain ⟨⟨ws, h1, h2, h3⟩, h4⟩ := hP
  refine va_newa (atype := .boolean) (a0 := (N, .inl (fun _ => 0))) (N' := N) hexec hb harr rfl hE.1.1.1 h1 h2 hS (fun q h => Nat.le_trans hb0 h) (fun _ => rfl) hn hN hbytes hcells hslots hdg (fun q cA H1 hK9 g1 g2 g3 => ?_)
  obtain rfl : gZ G = cA := f_sameC hK9 (i := 2) (j := 3) rfl rfl (fun C h => by cases h)
  exact kk q H1 (m_push h1 h3 h4 i g1 g2) g3
theorem m_newQ (i : Nat) (hexec : p.tables.exec = Jvm.exec) (hb : c0.code = cc) (hown : s.vm.findClass own = some m.cls) (hcl : (Cond.classLink own index "java/lang/Object").before args s = true) (hE : gE G s s.heap) (hb0 : gb G ≤ s.heap.size) (hP : mP G al c H) (hS : va_S (gA G) s.heap H locs)
    {x : Int32} {N : Nat} (hn : ¬ x < 0) (hN : x.toNatClampNeg = N) (hbytes : N * 4 ≤ 536870912) (hcells : cells + 1 ≤ R.cells) (hslots : slots + N ≤ R.slots) (hdg : decode cc pc = .ok (.anewarray index, 3))
    (kk : ∀ (q : Nat) (H1 : Heap), mP G (va_up al i q) (up c i (.inl (gO G, N, .inr (.inr (.inr (.inr (fun _ => none))))))) H1 → va_S (gA G) s.heap H1 locs →
      W p l e R s m args below meth c0 H1 locs (cells + 1) (slots + N) Q (F0 m (pc + 3) ls (.ref q :: rest))) : W p l e R s m args below meth c0 H locs cells slots Q (F0 m pc ls (.int x :: rest)) := by
  obtain ⟨⟨ws, h1, h2, h3⟩, h4⟩ := hP
  refine va_newq (N' := N) (C := "java/lang/Object") hexec hb hown hcl hE.1.1.2.2.2.1 hE.1.1.1 h1 h2 hS (fun q h => Nat.le_trans hb0 h) hn hN hbytes hcells hslots hdg (fun q cA H1 hK9 g1 g2 g3 => ?_)
  obtain rfl : gO G = cA := f_sameO hK9 (i := 1) (j := 3) rfl rfl
  exact kk q H1 (m_push h1 h3 h4 i g1 g2) g3
/-- the class of an object that is asked of the machine -/
theorem m_recv (hE : gE G s s.heap) (hP : mP G al c H) (i : Nat) {fs : List Value} {ci : Nat} (he : c i = some (.inr (ci, fs))) {q : vw_C} (hc : vwCl[ci]? = some q) : ∃ cell : Cell, H[al i]? = some cell ∧ cell.vm.isStatics = false ∧ s.vm.findClass q.1 = some cell.cls := va_recv hE.1.1.1 (m_one hP he) hc (q0 := 0) rfl
theorem m_recvA (hE : gE G s s.heap) (hP : mP G al c H) (i : Nat) (ha : al i = a) {fs : List Value} {ci : Nat} (he : c i = some (.inr (ci, fs))) {T : u_T} {N : Nat} (hc : vwCl[ci]? = some (C, T, N)) : ∃ cell : Cell, H[a]? = some cell ∧ cell.vm.isStatics = false ∧ s.vm.findClass C = some cell.cls := by
  subst ha
  exact m_recv hE hP i he hc
theorem g_topr {x v : Nat} (hv : x = v) (k : W p l e R s m args below meth c0 H locs cells slots Q (F0 m pc ls (.ref v :: rest))) : W p l e R s m args below meth c0 H locs cells slots Q (F0 m pc ls (.ref x :: rest)) := by subst hv; exact k
theorem m_cast (hexec : p.tables.exec = Jvm.exec) (hb : c0.code = cc) {nm : String} (hown : s.vm.findClass own = some m.cls) (hlink : (Cond.classLink own index nm).before args s = true) (hE : gE G s s.heap) (hP : mP G al c H) (i : Nat) (ha : al i = a) {fs : List Value} {ci : Nat} (he : c i = some (.inr (ci, fs))) {T : u_T} {N : Nat} (hc : vwCl[ci]? = some (nm, T, N)) (hdg : decode cc pc = .ok (.checkcast index, 3))
    (k : W p l e R s m args below meth c0 H locs cells slots Q (F0 m (pc + 3) ls (.ref a :: rest))) : W p l e R s m args below meth c0 H locs cells slots Q (F0 m pc ls (.ref a :: rest)) := by
  subst ha
  exact va_castS hexec hb hown hlink (hE.1.1.1.1 ci _ hc).2 (m_recv hE hP i he hc) hdg k
/-- references of two of the world's cells -/
theorem m_acmp_ne (hx : p.tables.exec = Jvm.exec) (hb : c0.code = cc) {a1 a2 : Nat} {off : Int} {tgt : Nat} (hdg : decode cc pc = .ok (.if_acmp .ne off, 3)) (ht : (pc : Int) + off = (tgt : Int)) {i j : Nat} (hP : mP G al c H) {e1 e2 : va_E} (h1 : c i = some e1) (h2 : c j = some e2) (ha1 : al i = a1) (ha2 : al j = a2)
    (kt : i ≠ j → W p l e R s m args below meth c0 H locs cells slots Q (F0 m tgt ls rest)) (kf : i = j → W p l e R s m args below meth c0 H locs cells slots Q (F0 m (pc + 3) ls rest)) : W p l e R s m args below meth c0 H locs cells slots Q (F0 m pc ls (.ref a2 :: .ref a1 :: rest)) := by
  subst ha1
  subst ha2
  refine lv_acmp_ne (rx := some (al i)) (ry := some (al j)) hx hb hdg ht (fun h => kt (fun q => h (by rw [q]))) (fun h => kf ?_)
  exact hP.2 i j e1 e2 h1 h2 (Option.some.inj h)
/-- the runs of calls: the whole world goes along -/
theorem g_hp (hE : gE G s s.heap) (hb0 : gb G ≤ s.heap.size) (hP : mP G al c H) (hS : va_S (gA G) s.heap H locs) : ∀ U : State, U.heap = H → s.WarmedH U.vm → gPre G al c As As.toArray U := fun U hU hW => ⟨rfl, by rw [hU]; exact Nat.le_trans hb0 hS.1, by rw [hU]; exact hP, gE_call hE hS hU hW⟩
theorem g_runV (hx : p.tables.exec = Jvm.exec) (hb : c0.code = cc) (hml : c0.maxLocals = nL) (hown : s.vm.findClass own = some m.cls) (hts : ∀ w ∈ fA, w.before args s = true)
    (hM : Met l y (fW y cy ny ret) rm (gPre G al c (.ref b :: As)) Qc mc ms (gA G)) (cw : CallW R s args own C index y cy ny ret (fW y cy ny ret) rm mc ms n)
    (hE : gE G s s.heap) (hb0 : gb G ≤ s.heap.size) (hP : mP G al c H) (hS : va_S (gA G) s.heap H locs) (hr : ∃ cell : Cell, H[b]? = some cell ∧ cell.vm.isStatics = false ∧ s.vm.findClass C = some cell.cls)
    (hn : As.length = n) (hsize : ls.size = nL) (hstack : st = As.reverse ++ .ref b :: rest) (hW : (rest.map fun v => v.category).sum ≤ 8) (hdg : decode cc pc = .ok (.invokevirtual index, 3)) (hf : cells + mc ≤ R.cells ∧ slots + ms ≤ R.slots) :
    va_Run p l e R s m args below meth c0 H locs cells slots mc ms (F0 m pc ls st) rest (Qc (Value.ref b :: As).toArray) (gA G) := by
  exact va_runV ⟨hx, hb, hml, hown, hts⟩ hM cw ⟨gPre_blind, hr, g_hp hE hb0 hP hS⟩ rfl hn hsize hstack (lv_room hW) hdg hf
theorem g_runS (hx : p.tables.exec = Jvm.exec) (hb : c0.code = cc) (hml : c0.maxLocals = nL) (hown : s.vm.findClass own = some m.cls) (hts : ∀ w ∈ fA, w.before args s = true)
    (hM : Met l y (fW y cy ny ret) rm (gPre G al c As) Qc mc ms (gA G)) (cw : CallB R s args own index y cy ny ret (fW y cy ny ret) rm mc ms n ∧ (Cond.static y).before args s = true)
    (hE : gE G s s.heap) (hb0 : gb G ≤ s.heap.size) (hP : mP G al c H) (hS : va_S (gA G) s.heap H locs)
    (hn : As.length = n) (hsize : ls.size = nL) (hstack : st = As.reverse ++ rest) (hW : (rest.map fun v => v.category).sum ≤ 8) (hdg : decode cc pc = .ok (.invokestatic index, 3)) (hf : cells + mc ≤ R.cells ∧ slots + ms ≤ R.slots) :
    va_Run p l e R s m args below meth c0 H locs cells slots mc ms (F0 m pc ls st) rest (Qc As.toArray) (gA G) :=
  va_runS ⟨hx, hb, hml, hown, hts⟩ hM cw ⟨gPre_blind, g_hp hE hb0 hP hS⟩ rfl hn hsize hstack (lv_room hW) hdg hf
theorem g_runSN {host : String} (hx : p.tables.exec = Jvm.exec) (hb : c0.code = cc) (hml : c0.maxLocals = nL) (hown : s.vm.findClass own = some m.cls) (hts : ∀ w ∈ fA, w.before args s = true)
    (hM : Met l y (fW y cy ny ret) rm (gPre G al c As) Qc mc ms (gA G)) (cw : va_CN R s args own index y host cy ny ret (fW y cy ny ret) rm mc ms n ∧ (Cond.static y).before args s = true ∧ True)
    (hE : gE G s s.heap) (hb0 : gb G ≤ s.heap.size) (hP : mP G al c H) (hS : va_S (gA G) s.heap H locs)
    (hn : As.length = n) (hsize : ls.size = nL) (hstack : st = As.reverse ++ rest) (hW : (rest.map fun v => v.category).sum ≤ 8) (hdg : decode cc pc = .ok (.invokestatic index, 3)) (hf : cells + mc ≤ R.cells ∧ slots + ms ≤ R.slots) :
    va_Run p l e R s m args below meth c0 H locs cells slots mc ms (F0 m pc ls st) rest (Qc As.toArray) (gA G) :=
  va_runSN ⟨hx, hb, hml, hown, hts⟩ hM cw ⟨gPre_blind, g_hp hE hb0 hP hS⟩ rfl hn hsize hstack (lv_room hW) hdg hf
theorem g_runI (hx : p.tables.exec = Jvm.exec) (hb : c0.code = cc) (hml : c0.maxLocals = nL) (hown : s.vm.findClass own = some m.cls) (hts : ∀ w ∈ fA, w.before args s = true)
    (hM : Met l y (fW y cy ny none) rm (gPre G al c (.ref b :: As)) Qc mc ms (gA G)) (cw : CallB R s args own index y cy ny none (fW y cy ny none) rm mc ms n ∧ y.name = "<init>" ∧ (Cond.instanceMethod y).before args s = true)
    (hE : gE G s s.heap) (hb0 : gb G ≤ s.heap.size) (hP : mP G al c H) (hS : va_S (gA G) s.heap H locs)
    (hn : As.length = n) (hsize : ls.size = nL) (hstack : st = As.reverse ++ .ref b :: rest) (hW : (rest.map fun v => v.category).sum ≤ 8) (hdg : decode cc pc = .ok (.invokespecial index, 3)) (hf : cells + mc ≤ R.cells ∧ slots + ms ≤ R.slots) :
    va_Run p l e R s m args below meth c0 H locs cells slots mc ms (F0 m pc ls st) rest (Qc (Value.ref b :: As).toArray) (gA G) :=
  va_runI ⟨hx, hb, hml, hown, hts⟩ hM cw ⟨gPre_blind, g_hp hE hb0 hP hS⟩ rfl hn hsize hstack (lv_room hW) hdg hf
theorem g_runIN {host : String} (hx : p.tables.exec = Jvm.exec) (hb : c0.code = cc) (hml : c0.maxLocals = nL) (hown : s.vm.findClass own = some m.cls) (hts : ∀ w ∈ fA, w.before args s = true)
    (hM : Met l y (fW y cy ny none) rm (gPre G al c (.ref b :: As)) Qc mc ms (gA G)) (cw : va_CN R s args own index y host cy ny none (fW y cy ny none) rm mc ms n ∧ y.name = "<init>" ∧ (Cond.instanceMethod y).before args s = true)
    (hE : gE G s s.heap) (hb0 : gb G ≤ s.heap.size) (hP : mP G al c H) (hS : va_S (gA G) s.heap H locs)
    (hn : As.length = n) (hsize : ls.size = nL) (hstack : st = As.reverse ++ .ref b :: rest) (hW : (rest.map fun v => v.category).sum ≤ 8) (hdg : decode cc pc = .ok (.invokespecial index, 3)) (hf : cells + mc ≤ R.cells ∧ slots + ms ≤ R.slots) :
    va_Run p l e R s m args below meth c0 H locs cells slots mc ms (F0 m pc ls st) rest (Qc (Value.ref b :: As).toArray) (gA G) :=
  va_runIN ⟨hx, hb, hml, hown, hts⟩ hM cw ⟨gPre_blind, g_hp hE hb0 hP hS⟩ rfl hn hsize hstack (lv_room hW) hdg hf
/-- an end: the answer is r u, the names stand for ad u, the world is w u -/
abbrev gB {S : Type} (G : gT) (ad : S → Nat → Nat) (w : S → mC) : S → State → Prop := fun u t => mP G (ad u) (w u) t.heap
abbrev gQv {S : Type} (G : gT) (ad : S → Nat → Nat) (w : S → mC) : Array Value → State → Outcome → State → Prop := va_Qv (fun _ : S => True) (gB G ad w) (gA G)
abbrev gQi {S : Type} (G : gT) (r : S → Int32) (ad : S → Nat → Nat) (w : S → mC) : Array Value → State → Outcome → State → Prop := va_Qi (fun (x : Int32) (u : S) => x = r u) (gB G ad w) (gA G)
abbrev gQl {S : Type} (G : gT) (r : S → Int64) (ad : S → Nat → Nat) (w : S → mC) : Array Value → State → Outcome → State → Prop := va_Ql (fun (x : Int64) (u : S) => x = r u) (gB G ad w) (gA G)
abbrev gQd {S : Type} (G : gT) (r : S → UInt64) (ad : S → Nat → Nat) (w : S → mC) : Array Value → State → Outcome → State → Prop := va_Qd (fun (x : UInt64) (u : S) => x = r u) (gB G ad w) (gA G)
abbrev gQr {S : Type} (G : gT) (r : S → Nat) (ad : S → Nat → Nat) (w : S → mC) : Array Value → State → Outcome → State → Prop := va_Qr (fun _ : S => True) (fun (u : S) (x : Nat) (t : State) => x = r u ∧ mP G (ad u) (w u) t.heap) (gA G)
abbrev gQvp {S : Type} (G : gT) (post : S → Prop) (ad : S → Nat → Nat) (w : S → mC) : Array Value → State → Outcome → State → Prop := va_Qv post (gB G ad w) (gA G)
abbrev gQip {S : Type} (G : gT) (post : S → Prop) (r : S → Int32) (ad : S → Nat → Nat) (w : S → mC) : Array Value → State → Outcome → State → Prop := va_Qi (fun (x : Int32) (u : S) => x = r u ∧ post u) (gB G ad w) (gA G)
abbrev gQrp {S : Type} (G : gT) (post : S → Prop) (r : S → Nat) (ad : S → Nat → Nat) (w : S → mC) : Array Value → State → Outcome → State → Prop := va_Qr post (fun (u : S) (x : Nat) (t : State) => x = r u ∧ mP G (ad u) (w u) t.heap) (gA G)
variable {S : Type} {ad : S → Nat → Nat} {w : S → mC} {ar : Array Value}
theorem g_aft_vp {post : S → Prop} (hr : va_Run p l e R s m args below meth c0 H locs cells slots mc ms (F0 m pc ls st) rest (gQvp G post ad w ar) (gA G)) (hS : va_S (gA G) s.heap H locs)
    (kk : ∀ (u : S) (H1 : Heap) (locs1 : List Loc), post u → mP G (ad u) (w u) H1 → va_S (gA G) s.heap H1 locs1 → W p l e R s m args below meth c0 H1 locs1 (cells + mc) (slots + ms) Q (F0 m (pc + 3) ls rest)) :
    W p l e R s m args below meth c0 H locs cells slots Q (F0 m pc ls st) := by
  refine va_callv hr hS (fun q _ h => h) (fun q h => h) (fun u t H1 locs1 ht _ hp hB _ hk1 hS1 => ?_)
  exact kk u H1 locs1 hp (ht ▸ hB) hS1
theorem g_aft_ip {post : S → Prop} {r : S → Int32} (hr : va_Run p l e R s m args below meth c0 H locs cells slots mc ms (F0 m pc ls st) rest (gQip G post r ad w ar) (gA G)) (hS : va_S (gA G) s.heap H locs)
    (kk : ∀ (u : S) (H1 : Heap) (locs1 : List Loc), post u → mP G (ad u) (w u) H1 → va_S (gA G) s.heap H1 locs1 → W p l e R s m args below meth c0 H1 locs1 (cells + mc) (slots + ms) Q (F0 m (pc + 3) ls (.int (r u) :: rest))) :
    W p l e R s m args below meth c0 H locs cells slots Q (F0 m pc ls st) := by
  refine va_calli hr hS (fun q _ h => h) (fun q h => h) (fun x u t H1 locs1 ht _ hp hB _ hk1 hS1 => ?_)
  obtain ⟨rfl, hp⟩ := hp
  exact kk u H1 locs1 hp (ht ▸ hB) hS1
theorem g_aft_rp {post : S → Prop} {r : S → Nat} (hr : va_Run p l e R s m args below meth c0 H locs cells slots mc ms (F0 m pc ls st) rest (gQrp G post r ad w ar) (gA G)) (hS : va_S (gA G) s.heap H locs)
    (kk : ∀ (u : S) (H1 : Heap) (locs1 : List Loc), post u → mP G (ad u) (w u) H1 → va_S (gA G) s.heap H1 locs1 → W p l e R s m args below meth c0 H1 locs1 (cells + mc) (slots + ms) Q (F0 m (pc + 3) ls (.ref (r u) :: rest))) :
    W p l e R s m args below meth c0 H locs cells slots Q (F0 m pc ls st) := by
  refine va_callr hr hS (fun q _ h => h) (fun q h => h) (fun u x t H1 locs1 ht _ hp hB _ hk1 hS1 => ?_)
  obtain ⟨rfl, hB⟩ := hB
  exact kk u H1 locs1 hp (ht ▸ hB) hS1
theorem g_aft_v (hr : va_Run p l e R s m args below meth c0 H locs cells slots mc ms (F0 m pc ls st) rest (gQv G ad w ar) (gA G)) (hS : va_S (gA G) s.heap H locs)
    (kk : ∀ (u : S) (H1 : Heap) (locs1 : List Loc), mP G (ad u) (w u) H1 → va_S (gA G) s.heap H1 locs1 → W p l e R s m args below meth c0 H1 locs1 (cells + mc) (slots + ms) Q (F0 m (pc + 3) ls rest)) :
    W p l e R s m args below meth c0 H locs cells slots Q (F0 m pc ls st) := by
  refine va_callv hr hS (fun q _ h => h) (fun q h => h) (fun u t H1 locs1 ht _ hp hB _ hk1 hS1 => ?_)
  exact kk u H1 locs1 (ht ▸ hB) hS1
theorem g_aft_i {r : S → Int32} (hr : va_Run p l e R s m args below meth c0 H locs cells slots mc ms (F0 m pc ls st) rest (gQi G r ad w ar) (gA G)) (hS : va_S (gA G) s.heap H locs)
    (kk : ∀ (u : S) (H1 : Heap) (locs1 : List Loc), mP G (ad u) (w u) H1 → va_S (gA G) s.heap H1 locs1 → W p l e R s m args below meth c0 H1 locs1 (cells + mc) (slots + ms) Q (F0 m (pc + 3) ls (.int (r u) :: rest))) :
    W p l e R s m args below meth c0 H locs cells slots Q (F0 m pc ls st) := by
  refine va_calli hr hS (fun q _ h => h) (fun q h => h) (fun x u t H1 locs1 ht _ hp hB _ hk1 hS1 => ?_)
  subst hp
  exact kk u H1 locs1 (ht ▸ hB) hS1
theorem g_aft_l {r : S → Int64} (hr : va_Run p l e R s m args below meth c0 H locs cells slots mc ms (F0 m pc ls st) rest (gQl G r ad w ar) (gA G)) (hS : va_S (gA G) s.heap H locs)
    (kk : ∀ (u : S) (H1 : Heap) (locs1 : List Loc), mP G (ad u) (w u) H1 → va_S (gA G) s.heap H1 locs1 → W p l e R s m args below meth c0 H1 locs1 (cells + mc) (slots + ms) Q (F0 m (pc + 3) ls (.long (r u) :: rest))) :
    W p l e R s m args below meth c0 H locs cells slots Q (F0 m pc ls st) := by
  refine va_calll hr hS (fun q _ h => h) (fun q h => h) (fun x u t H1 locs1 ht _ hp hB _ hk1 hS1 => ?_)
  subst hp
  exact kk u H1 locs1 (ht ▸ hB) hS1
theorem g_aft_d {r : S → UInt64} (hr : va_Run p l e R s m args below meth c0 H locs cells slots mc ms (F0 m pc ls st) rest (gQd G r ad w ar) (gA G)) (hS : va_S (gA G) s.heap H locs)
    (kk : ∀ (u : S) (H1 : Heap) (locs1 : List Loc), mP G (ad u) (w u) H1 → va_S (gA G) s.heap H1 locs1 → W p l e R s m args below meth c0 H1 locs1 (cells + mc) (slots + ms) Q (F0 m (pc + 3) ls (.double (r u) :: rest))) :
    W p l e R s m args below meth c0 H locs cells slots Q (F0 m pc ls st) := by
  refine va_calld hr hS (fun q _ h => h) (fun q h => h) (fun x u t H1 locs1 ht _ hp hB _ hk1 hS1 => ?_)
  subst hp
  exact kk u H1 locs1 (ht ▸ hB) hS1
theorem g_aft_r {r : S → Nat} (hr : va_Run p l e R s m args below meth c0 H locs cells slots mc ms (F0 m pc ls st) rest (gQr G r ad w ar) (gA G)) (hS : va_S (gA G) s.heap H locs)
    (kk : ∀ (u : S) (H1 : Heap) (locs1 : List Loc), mP G (ad u) (w u) H1 → va_S (gA G) s.heap H1 locs1 → W p l e R s m args below meth c0 H1 locs1 (cells + mc) (slots + ms) Q (F0 m (pc + 3) ls (.ref (r u) :: rest))) :
    W p l e R s m args below meth c0 H locs cells slots Q (F0 m pc ls st) := by
  refine va_callr hr hS (fun q _ h => h) (fun q h => h) (fun u x t H1 locs1 ht _ hp hB _ hk1 hS1 => ?_)
  obtain ⟨rfl, hB⟩ := hB
  exact kk u H1 locs1 (ht ▸ hB) hS1
theorem g_start {g : JFrame} (hP : mP G al c s.heap) (k : ∀ H : Heap, mP G al c H → va_S (gA G) s.heap H [] → W p l e R s m args below meth c0 H [] 0 0 Q g) : W p l e R s m args below meth c0 s.heap [] 0 0 Q g := k s.heap hP va_S.rf
/-- a loop that counts: before the i-th round the names are named as ever, the world is Wi i, the locals Li i -/
theorem g_loop {N head : Nat} {Wi : Nat → mC} {Li : Nat → List (Nat × Value)} (h0 : mP G al (Wi 0) H) (hS0 : va_S (gA G) s.heap H locs) (hl0 : lv_has ls nL (Li 0))
    (step : ∀ i : Nat, i ≤ N → (i < N → ∀ (H : Heap) (locs : List Loc) (ls : Array Slot), mP G al (Wi (i + 1)) H → va_S (gA G) s.heap H locs → lv_has ls nL (Li (i + 1)) → W p l e R s m args below meth c0 H locs cells slots Q (F0 m head ls rest)) →
      ∀ (H : Heap) (locs : List Loc) (ls : Array Slot), mP G al (Wi i) H → va_S (gA G) s.heap H locs → lv_has ls nL (Li i) → W p l e R s m args below meth c0 H locs cells slots Q (F0 m head ls rest)) :
    W p l e R s m args below meth c0 H locs cells slots Q (F0 m head ls rest) := by
  have key : ∀ (n i : Nat), i ≤ N → N + 1 ≤ i + n → ∀ (H : Heap) (locs : List Loc) (ls : Array Slot), mP G al (Wi i) H → va_S (gA G) s.heap H locs → lv_has ls nL (Li i) → W p l e R s m args below meth c0 H locs cells slots Q (F0 m head ls rest) := by
    intro n
    induction n with
    | zero => intro i h1 h2; exact absurd h2 (by omega)
    | succ n ih => intro i h1 h2; exact step i h1 (fun h3 => ih (i + 1) (by omega) (by omega))
  exact key (N + 1) 0 (Nat.zero_le _) (by omega) H locs ls h0 hS0 hl0
end MK
theorem g_end {G : gT} {al : Nat → Nat} {c : mC} {H : Heap} {t : State} (h : t.heap = H) (hP : mP G al c H) : mP G al c t.heap := by rw [h]; exact hP
end
section
/-! NUMBERS: an Int32 by the whole number that it is -/
theorem i_lo (x : Int32) : -2147483648 ≤ x.toInt := x.le_toInt
theorem i_hi (x : Int32) : x.toInt < 2147483648 := x.toInt_lt
theorem i_bm {z : Int} (h1 : -2147483648 ≤ z) (h2 : z < 2147483648) : z.bmod (2 ^ 32) = z := by
  apply Int.bmod_eq_of_le <;> omega
theorem i_add {x y : Int32} (h1 : -2147483648 ≤ x.toInt + y.toInt) (h2 : x.toInt + y.toInt < 2147483648) : (x + y).toInt = x.toInt + y.toInt := by rw [Int32.toInt_add, i_bm h1 h2]
theorem i_sub {x y : Int32} (h1 : -2147483648 ≤ x.toInt - y.toInt) (h2 : x.toInt - y.toInt < 2147483648) : (x - y).toInt = x.toInt - y.toInt := by rw [Int32.toInt_sub, i_bm h1 h2]
theorem i_mul {x y : Int32} (h1 : -2147483648 ≤ x.toInt * y.toInt) (h2 : x.toInt * y.toInt < 2147483648) : (x * y).toInt = x.toInt * y.toInt := by rw [Int32.toInt_mul, i_bm h1 h2]
theorem i_td (X : Int) {Y : Int} (hY : 0 < Y) : (0 ≤ X ∧ X.tdiv Y = X / Y ∧ 0 ≤ X / Y ∧ X / Y ≤ X) ∨ (X < 0 ∧ X.tdiv Y = -(-X / Y) ∧ 0 ≤ -X / Y ∧ -X / Y ≤ -X) := by
  by_cases h : 0 ≤ X
  · exact Or.inl ⟨h, Int.tdiv_eq_ediv_of_nonneg h, Int.ediv_nonneg h (by omega), Int.ediv_le_self _ h⟩
  · have h2 : 0 ≤ -X := by omega
    refine Or.inr ⟨by omega, ?_, Int.ediv_nonneg h2 (by omega), Int.ediv_le_self _ h2⟩
    have h3 : (- -X).tdiv Y = -((-X).tdiv Y) := Int.neg_tdiv _ _
    rw [Int.neg_neg] at h3
    rw [h3, Int.tdiv_eq_ediv_of_nonneg h2]
theorem i_div {x y : Int32} (hy : 0 < y.toInt) : (x / y).toInt = x.toInt.tdiv y.toInt := by
  have h1 := i_lo x
  have h2 := i_hi x
  rw [Int32.toInt_div, i_bm]
  · rcases i_td x.toInt hy with ⟨_, h, _, _⟩ | ⟨_, h, _, _⟩ <;> rw [h] <;> omega
  · rcases i_td x.toInt hy with ⟨_, h, _, _⟩ | ⟨_, h, _, _⟩ <;> rw [h] <;> omega
/-- nothing below 0 is divided -/
theorem i_dv {x y : Int32} (hx : 0 ≤ x.toInt) (hy : 0 < y.toInt) : (x / y).toInt = x.toInt / y.toInt := by
  rw [i_div hy, Int.tdiv_eq_ediv_of_nonneg hx]
theorem i_ms (z : Int32) : 0 ≤ z.toInt ↔ z.toBitVec.msb = false := by
  constructor
  · intro h
    cases hz : z.toBitVec.msb with
    | false => rfl
    | true =>
      have h1 : z.toBitVec.toInt < 0 := BitVec.toInt_neg_of_msb_true hz
      have h2 : z.toInt = z.toBitVec.toInt := rfl
      omega
  · intro h
    exact BitVec.toInt_nonneg_of_msb_false h
theorem i_0 : (0 : Int32).toInt = 0 := by decide
theorem i_le {x y : Int32} : x ≤ y ↔ x.toInt ≤ y.toInt := Int32.le_iff_toInt_le
theorem i_lt {x y : Int32} : x < y ↔ x.toInt < y.toInt := Int32.lt_iff_toInt_lt
theorem i_eq {x y : Int32} : x = y ↔ x.toInt = y.toInt := Int32.toInt_inj.symm
theorem i_xor {x y : Int32} (hy : 0 ≤ y.toInt) : 0 ≤ x ^^^ y ↔ 0 ≤ x.toInt := by
  rw [i_le, i_0, i_ms, i_ms x]
  have h1 := (i_ms y).mp hy
  have h2 : (x ^^^ y).toBitVec = x.toBitVec ^^^ y.toBitVec := rfl
  rw [h2, BitVec.msb_xor, h1, Bool.xor_false]
end
section
/-! WHAT A SHOW IS: rows of numbers g o k (o: 0 the Show, 1 + p a Pump, 3 + j a Jet, 20 .. 22 the Air's rows); k: how many jets, whose pump, what never changes -/
abbrev St : Type := Nat → Nat → Int32
def sr (g : St) (o : Nat) (f : Nat → Int32) : St := fun q => if q = o then f else g q
def s2 (g : St) (o k : Nat) (v : Int32) : St := sr g o (upd (g o) k v)
theorem sr_s (g : St) (o : Nat) (f : Nat → Int32) : sr g o f o = f := if_pos rfl
theorem sr_n (g : St) {o q : Nat} (f : Nat → Int32) (h : q ≠ o) : sr g o f q = g q := if_neg h
theorem upd_s (f : Nat → Int32) (k : Nat) (v : Int32) : upd f k v k = v := if_pos rfl
theorem upd_n (f : Nat → Int32) {k j : Nat} (v : Int32) (h : j ≠ k) : upd f k v j = f j := if_neg h
theorem s2_s (g : St) (o k : Nat) (v : Int32) : s2 g o k v o k = v := by unfold s2; rw [sr_s, upd_s]
theorem s2_k (g : St) (o : Nat) {k j : Nat} (v : Int32) (h : j ≠ k) : s2 g o k v o j = g o j := by unfold s2; rw [sr_s, upd_n _ _ h]
theorem s2_o (g : St) {o q : Nat} (k : Nat) (v : Int32) (h : q ≠ o) : s2 g o k v q = g q := by unfold s2; rw [sr_n _ _ h]
theorem s2_ok (g : St) {o q : Nat} (k : Nat) (v : Int32) (h : q ≠ o) (j : Nat) : s2 g o k v q j = g q j := by rw [s2_o _ _ _ h]
def bz (x : Int32) : Int32 := if x = 0 then 0 else 1
theorem bz_0 : bz 0 = 0 := by decide
theorem bz_1 : bz 1 = 1 := by decide
theorem bz_b (x : Int32) : bz x = 0 ∨ bz x = 1 := by unfold bz; split <;> simp
theorem bz_bz (x : Int32) : bz (bz x) = bz x := by rcases bz_b x with h | h <;> rw [h] <;> decide
theorem bz_nar (x : Int32) : narrow .boolean (.int (bz x)) = .int (bz x) := by rcases bz_b x with h | h <;> rw [h] <;> decide
theorem bz_fit (x : Int32) : fits .boolean (.int (bz x)) = true := by rcases bz_b x with h | h <;> rw [h] <;> decide
def it {V : Type} (f : Nat → V → V) : Nat → V → V
  | 0, v => v
  | n + 1, v => f n (it f n v)
theorem it_0 {V : Type} (f : Nat → V → V) (v : V) : it f 0 v = v := rfl
theorem it_s {V : Type} (f : Nat → V → V) (n : Nat) (v : V) : it f (n + 1) v = f n (it f n v) := rfl
abbrev gC : Type := Nat × (Nat → Nat) × (Nat → Nat → Int32)
abbrev gK : Type := Nat × (Nat → Nat) × (Nat → Nat) × (Nat → Int32) × (Nat → Nat → Int32)
abbrev cShow (al : Nat → Nat) (B : Nat) (r : Nat → Int32) : va_E := .inr (6, [.ref (al (B + 1)), .ref (al (B + 3)), .ref (al (B + 5)), .ref (al (B + 7)), .int (r 4), .int (r 5), .int (r 6), .int (r 7), .int (r 8), .int (r 9), .int (r 10), .int (r 11), .int (r 12), .int (r 13), .int (bz (r 14))])
abbrev cPump (k : gC) (p : Nat) (r : Nat → Int32) : va_E := .inr (5, [.int (nI p), .int (k.2.2 (1 + p) 1), .int (r 2), .int (r 3), .int (bz (r 4)), .int (r 5)])
abbrev cJet (al : Nat → Nat) (B : Nat) (k : gC) (j : Nat) (r : Nat → Int32) : va_E := .inr (4, [.ref (al (B + 11 + k.2.1 j)), .int (k.2.2 (3 + j) 1), .int (k.2.2 (3 + j) 2), .int (k.2.2 (3 + j) 3), .int (r 4), .int (r 5), .int (bz (r 6)), .int (bz (r 7)), .int (bz (r 8)), .int (r 9)])
abbrev cArr (G : gT) (r : Nat → Int32) : va_E := .inl (gI G, 9, .inl r)
/-- the cells of the Show at B, laid over a world -/
def ov (G : gT) (al : Nat → Nat) (k : gC) (B : Nat) (c : mC) (g : St) : mC := fun i =>
  if i = B then some (cShow al B (g 0))
  else if B + 8 ≤ i ∧ i < B + 11 then some (cArr G (g (i + 12 - B)))
  else if B + 11 ≤ i ∧ i < B + 13 then some (cPump k (i - (B + 11)) (g (1 + (i - (B + 11)))))
  else if B + 20 ≤ i ∧ i < B + 20 + k.1 then some (cJet al B k (i - (B + 20)) (g (3 + (i - (B + 20)))))
  else c i
section OV
variable {G : gT} {al : Nat → Nat} {k : gC} {B : Nat} {c : mC} {g : St}
theorem ov_s : ov G al k B c g B = some (cShow al B (g 0)) := if_pos rfl
theorem ov_a {a : Nat} (h : a < 3) : ov G al k B c g (B + 8 + a) = some (cArr G (g (20 + a))) := by
  unfold ov
  rw [if_neg (by omega), if_pos (by omega), show B + 8 + a + 12 - B = 20 + a by omega]
theorem ov_p {p : Nat} (h : p < 2) : ov G al k B c g (B + 11 + p) = some (cPump k p (g (1 + p))) := by
  unfold ov
  rw [if_neg (by omega), if_neg (by omega), if_pos (by omega), show B + 11 + p - (B + 11) = p by omega]
theorem ov_j {j : Nat} (h : j < k.1) : ov G al k B c g (B + 20 + j) = some (cJet al B k j (g (3 + j))) := by
  unfold ov
  rw [if_neg (by omega), if_neg (by omega), if_neg (by omega), if_pos (by omega), show B + 20 + j - (B + 20) = j by omega]
/-- outside the Show's own cells -/
theorem ov_c {i : Nat} (h0 : i ≠ B) (h1 : ¬ (B + 8 ≤ i ∧ i < B + 13)) (h2 : ¬ (B + 20 ≤ i ∧ i < B + 20 + k.1)) : ov G al k B c g i = c i := by
  unfold ov
  rw [if_neg h0, if_neg (by omega), if_neg (by omega), if_neg h2]
theorem ov_us {e : va_E} {r : Nat → Int32} (h : e = cShow al B r) : up (ov G al k B c g) B e = ov G al k B c (sr g 0 r) := by
  subst h
  funext i
  by_cases hi : i = B
  · subst hi; rw [up_s, ov_s, sr_s]
  · rw [up_n _ _ hi]
    unfold ov
    rw [if_neg hi, if_neg hi]
    by_cases h1 : B + 8 ≤ i ∧ i < B + 11
    · rw [if_pos h1, if_pos h1, sr_n _ _ (by omega)]
    · rw [if_neg h1, if_neg h1]
      rw [sr_n _ _ (show 1 + (i - (B + 11)) ≠ 0 by omega), sr_n _ _ (show 3 + (i - (B + 20)) ≠ 0 by omega)]
theorem ov_up {p : Nat} (hp : p < 2) {e : va_E} {r : Nat → Int32} (h : e = cPump k p r) : up (ov G al k B c g) (B + 11 + p) e = ov G al k B c (sr g (1 + p) r) := by
  subst h
  funext i
  by_cases hi : i = B + 11 + p
  · subst hi; rw [up_s, ov_p hp, sr_s]
  · rw [up_n _ _ hi]
    unfold ov
    by_cases h0 : i = B
    · rw [if_pos h0, if_pos h0, sr_n _ _ (by omega)]
    · rw [if_neg h0, if_neg h0]
      by_cases h1 : B + 8 ≤ i ∧ i < B + 11
      · rw [if_pos h1, if_pos h1, sr_n _ _ (by omega)]
      · rw [if_neg h1, if_neg h1]
        by_cases h2 : B + 11 ≤ i ∧ i < B + 13
        · rw [if_pos h2, if_pos h2, sr_n _ _ (by omega)]
        · rw [if_neg h2, if_neg h2]
          by_cases h3 : B + 20 ≤ i ∧ i < B + 20 + k.1
          · rw [if_pos h3, if_pos h3, sr_n _ _ (by omega)]
          · rw [if_neg h3, if_neg h3]
theorem ov_uj {j : Nat} (hj : j < k.1) (hJ : k.1 ≤ 8) {e : va_E} {r : Nat → Int32} (h : e = cJet al B k j r) : up (ov G al k B c g) (B + 20 + j) e = ov G al k B c (sr g (3 + j) r) := by
  subst h
  funext i
  by_cases hi : i = B + 20 + j
  · subst hi; rw [up_s, ov_j hj, sr_s]
  · rw [up_n _ _ hi]
    unfold ov
    by_cases h0 : i = B
    · rw [if_pos h0, if_pos h0, sr_n _ _ (by omega)]
    · rw [if_neg h0, if_neg h0]
      by_cases h1 : B + 8 ≤ i ∧ i < B + 11
      · rw [if_pos h1, if_pos h1, sr_n _ _ (by omega)]
      · rw [if_neg h1, if_neg h1]
        by_cases h2 : B + 11 ≤ i ∧ i < B + 13
        · rw [if_pos h2, if_pos h2, sr_n _ _ (by omega)]
        · rw [if_neg h2, if_neg h2]
          by_cases h3 : B + 20 ≤ i ∧ i < B + 20 + k.1
          · rw [if_pos h3, if_pos h3, sr_n _ _ (by omega)]
          · rw [if_neg h3, if_neg h3]
theorem ov_ua {a : Nat} (ha : a < 3) (hJ : k.1 ≤ 8) {e : va_E} {r : Nat → Int32} (h : e = cArr G r) : up (ov G al k B c g) (B + 8 + a) e = ov G al k B c (sr g (20 + a) r) := by
  subst h
  funext i
  by_cases hi : i = B + 8 + a
  · subst hi; rw [up_s, ov_a ha, sr_s]
  · rw [up_n _ _ hi]
    unfold ov
    by_cases h0 : i = B
    · rw [if_pos h0, if_pos h0, sr_n _ _ (by omega)]
    · rw [if_neg h0, if_neg h0]
      by_cases h1 : B + 8 ≤ i ∧ i < B + 11
      · rw [if_pos h1, if_pos h1, sr_n _ _ (by omega)]
      · rw [if_neg h1, if_neg h1]
        by_cases h2 : B + 11 ≤ i ∧ i < B + 13
        · rw [if_pos h2, if_pos h2, sr_n _ _ (by omega)]
        · rw [if_neg h2, if_neg h2]
          by_cases h3 : B + 20 ≤ i ∧ i < B + 20 + k.1
          · rw [if_pos h3, if_pos h3, sr_n _ _ (by omega)]
          · rw [if_neg h3, if_neg h3]
/-- two rows of numbers that show the same cells -/
theorem ov_eq {g g' : St} (h0 : cShow al B (g 0) = cShow al B (g' 0)) (ha : ∀ a, a < 3 → g (20 + a) = g' (20 + a)) (hp : ∀ p, p < 2 → cPump k p (g (1 + p)) = cPump k p (g' (1 + p))) (hj : ∀ j, j < k.1 → cJet al B k j (g (3 + j)) = cJet al B k j (g' (3 + j))) : ov G al k B c g = ov G al k B c g' := by
  funext i
  unfold ov
  by_cases e0 : i = B
  · rw [if_pos e0, if_pos e0, h0]
  · rw [if_neg e0, if_neg e0]
    by_cases h1 : B + 8 ≤ i ∧ i < B + 11
    · rw [if_pos h1, if_pos h1, show i + 12 - B = 20 + (i - (B + 8)) by omega, ha _ (by omega)]
    · rw [if_neg h1, if_neg h1]
      by_cases h2 : B + 11 ≤ i ∧ i < B + 13
      · rw [if_pos h2, if_pos h2, hp _ (by omega)]
      · rw [if_neg h2, if_neg h2]
        by_cases h3 : B + 20 ≤ i ∧ i < B + 20 + k.1
        · rw [if_pos h3, if_pos h3, hj _ (by omega)]
        · rw [if_neg h3, if_neg h3]
end OV
/-- the two Shows of one JetWaltz, laid one over the other either way -/
abbrev w2 (G : gT) (al : Nat → Nat) (k : gC) (c : mC) (g t : St) : mC := ov G al k 200 (ov G al k 100 c g) t
theorem w2_c {G : gT} {al : Nat → Nat} {k : gC} {c : mC} {g t : St} (hJ : k.1 ≤ 8) : w2 G al k c g t = ov G al k 100 (ov G al k 200 c t) g := by
  funext i
  by_cases h1 : i < 200
  · rw [show w2 G al k c g t i = ov G al k 100 c g i from ov_c (by omega) (by omega) (by omega)]
    unfold ov
    rw [if_neg (show ¬ i = 200 by omega), if_neg (show ¬ (200 + 8 ≤ i ∧ i < 200 + 11) by omega), if_neg (show ¬ (200 + 11 ≤ i ∧ i < 200 + 13) by omega), if_neg (show ¬ (200 + 20 ≤ i ∧ i < 200 + 20 + k.1) by omega)]
  · rw [show ov G al k 100 (ov G al k 200 c t) g i = ov G al k 200 c t i from ov_c (by omega) (by omega) (by omega)]
    unfold w2 ov
    rw [if_neg (show ¬ i = 100 by omega), if_neg (show ¬ (100 + 8 ≤ i ∧ i < 100 + 11) by omega), if_neg (show ¬ (100 + 11 ≤ i ∧ i < 100 + 13) by omega), if_neg (show ¬ (100 + 20 ≤ i ∧ i < 100 + 20 + k.1) by omega)]
/-- an ArrayList named li, its row di, n elements, the i-th of them the cell named h i -/
def gLs (G : gT) (al : Nat → Nat) (c : mC) (li di n : Nat) (h : Nat → Nat) : Prop :=
  ∃ (mo : Int32) (cap : Nat) (f : Nat → Option Nat), c li = some (.inr (0, [.int mo, .ref (al di), .int (nI n)])) ∧ c di = some (.inl (gO G, cap, .inr (.inr (.inr (.inr f))))) ∧ n ≤ cap ∧ (cap = 10 ∨ cap = 15 ∨ cap = 22) ∧ ∀ i, i < n → f i = some (al (h i))
theorem gLs_cv {G : gT} {al : Nat → Nat} {c c' : mC} {li di n : Nat} {h : Nat → Nat} (hl : gLs G al c li di n h) (h1 : c' li = c li) (h2 : c' di = c di) : gLs G al c' li di n h := by
  obtain ⟨mo, cap, f, g1, g2, g3⟩ := hl
  exact ⟨mo, cap, f, h1.trans g1, h2.trans g2, g3⟩
theorem m_recvL {s : State} {G : gT} {al : Nat → Nat} {c : mC} {H : Heap} {a li di n : Nat} {h : Nat → Nat} (hE : gE G s s.heap) (hP : mP G al c H) (hl : gLs G al c li di n h) (ha : al li = a) : ∃ cell : Cell, H[a]? = some cell ∧ cell.vm.isStatics = false ∧ s.vm.findClass RJx4a65c = some cell.cls := by
  obtain ⟨mo, cap, f, e1, -⟩ := hl
  exact m_recvA hE hP li ha e1 rfl
/-- what stays of a Show: its lists of pumps and jets, the Air's rows -/
def gF (G : gT) (al : Nat → Nat) (k : gC) (B : Nat) (c : mC) : Prop :=
  gLs G al c (B + 1) (B + 2) 2 (fun p => B + 11 + p) ∧ gLs G al c (B + 3) (B + 4) k.1 (fun j => B + 20 + j) ∧ c (B + 7) = some (.inr (1, [.ref (al (B + 8)), .ref (al (B + 9)), .ref (al (B + 10))])) ∧ k.1 ≤ 8 ∧ ∀ j, j < k.1 → k.2.1 j < 2
/-- the calls, and the steps that they name -/
def gH (G : gT) (al : Nat → Nat) (B : Nat) (h : gK) (c : mC) : Prop :=
  gLs G al c (B + 5) (B + 6) h.1 (fun i => 300 + 3 * i) ∧ h.1 ≤ 20 ∧ (∀ i, i < h.1 → h.2.1 i < 2 ∧ h.2.2.1 i < 10 ∧ c (300 + 3 * i) = some (.inr (2, [.ref (al (300 + 3 * i + 1)), .int (nI (h.2.2.1 i)), .int (h.2.2.2.1 i)])) ∧ gLs G al c (300 + 3 * i + 1) (300 + 3 * i + 2) 3 (fun s => 20 + (3 * h.2.1 i + s))) ∧ ∀ q, q < 6 → c (20 + q) = some (.inr (7, [.int (h.2.2.2.2 q 0), .int (h.2.2.2.2 q 1), .int (h.2.2.2.2 q 2)]))
section GF
variable {G : gT} {al : Nat → Nat} {k : gC} {B : Nat} {c : mC} {g : St} {h : gK}
theorem gF_J (hF : gF G al k B c) : k.1 ≤ 8 := hF.2.2.2.1
theorem gF_pp (hF : gF G al k B c) {j : Nat} (hj : j < k.1) : k.2.1 j < 2 := hF.2.2.2.2 j hj
theorem gF_p (hF : gF G al k B c) : gLs G al (ov G al k B c g) (B + 1) (B + 2) 2 (fun p => B + 11 + p) := gLs_cv hF.1 (ov_c (by omega) (by omega) (by omega)) (ov_c (by omega) (by omega) (by omega))
theorem gF_j (hF : gF G al k B c) : gLs G al (ov G al k B c g) (B + 3) (B + 4) k.1 (fun j => B + 20 + j) := gLs_cv hF.2.1 (ov_c (by omega) (by omega) (by omega)) (ov_c (by omega) (by omega) (by omega))
theorem gF_a (hF : gF G al k B c) : ov G al k B c g (B + 7) = some (.inr (1, [.ref (al (B + 8)), .ref (al (B + 9)), .ref (al (B + 10))])) := (ov_c (by omega) (by omega) (by omega)).trans hF.2.2.1
theorem gF_cv {c' : mC} (hF : gF G al k B c) (h : ∀ i, B < i → i < B + 8 → c' i = c i) : gF G al k B c' :=
  ⟨gLs_cv hF.1 (h _ (by omega) (by omega)) (h _ (by omega) (by omega)), gLs_cv hF.2.1 (h _ (by omega) (by omega)) (h _ (by omega) (by omega)), (h _ (by omega) (by omega)).trans hF.2.2.1, hF.2.2.2⟩
theorem gF_o2 {t : St} (hF : gF G al k 100 c) : gF G al k 100 (ov G al k 200 c t) := gF_cv hF (fun i h1 h2 => ov_c (by omega) (by omega) (by omega))
theorem gF_o1 (hF : gF G al k 200 c) : gF G al k 200 (ov G al k 100 c g) := gF_cv hF (fun i h1 h2 => ov_c (by omega) (by omega) (by have := hF.2.2.2.1; omega))
theorem gH_cv {c' : mC} (hH : gH G al B h c) (h1 : c' (B + 5) = c (B + 5)) (h2 : c' (B + 6) = c (B + 6)) (h3 : ∀ i, i < 26 → c' i = c i) (h4 : ∀ i, 300 ≤ i → i < 360 → c' i = c i) : gH G al B h c' := by
  obtain ⟨g1, g2, g3, g4⟩ := hH
  refine ⟨gLs_cv g1 h1 h2, g2, fun i hi => ?_, fun q hq => (h3 _ (by omega)).trans (g4 q hq)⟩
  obtain ⟨e1, e2, e3, e4⟩ := g3 i hi
  exact ⟨e1, e2, (h4 _ (by omega) (by omega)).trans e3, gLs_cv e4 (h4 _ (by omega) (by omega)) (h4 _ (by omega) (by omega))⟩
theorem gH_ov (hH : gH G al B h c) (hB : B = 100 ∨ B = 200) (hJ : k.1 ≤ 8) : gH G al B h (ov G al k B c g) := gH_cv hH (ov_c (by omega) (by omega) (by omega)) (ov_c (by omega) (by omega) (by omega)) (fun i hi => ov_c (by omega) (by omega) (by omega)) (fun i h1 h2 => ov_c (by omega) (by omega) (by omega))
theorem gH_o2 {t : St} (hH : gH G al 100 h c) (hJ : k.1 ≤ 8) : gH G al 100 h (ov G al k 200 c t) := gH_cv hH (ov_c (by omega) (by omega) (by omega)) (ov_c (by omega) (by omega) (by omega)) (fun i hi => ov_c (by omega) (by omega) (by omega)) (fun i h1 h2 => ov_c (by omega) (by omega) (by omega))
theorem gH_o1 (hH : gH G al 200 h c) (hJ : k.1 ≤ 8) : gH G al 200 h (ov G al k 100 c g) := gH_cv hH (ov_c (by omega) (by omega) (by omega)) (ov_c (by omega) (by omega) (by omega)) (fun i hi => ov_c (by omega) (by omega) (by omega)) (fun i h1 h2 => ov_c (by omega) (by omega) (by omega))
end GF
/-- what stays of a JetWaltz -/
def gX (G : gT) (al : Nat → Nat) (k : gC) (h : gK) (c : mC) : Prop :=
  c 0 = some (.inr (8, [.ref (al 1), .ref (al 100), .ref (al 200)])) ∧ gF G al k 100 c ∧ gF G al k 200 c ∧ gH G al 100 h c ∧ gH G al 200 h c ∧ gLs G al c 1 2 2 (fun f => 10 + f) ∧ ∀ f, f < 2 → c (10 + f) = some (.inr (3, [.ref (al (12 + f))])) ∧ gLs G al c (12 + f) (14 + f) 3 (fun s => 20 + (3 * f + s))
section GX
variable {G : gT} {al : Nat → Nat} {k : gC} {c : mC} {g t : St} {h : gK}
theorem gX_1 (hX : gX G al k h c) : gF G al k 100 c := hX.2.1
theorem gX_2 (hX : gX G al k h c) : gF G al k 200 c := hX.2.2.1
theorem gX_3 (hX : gX G al k h c) : gH G al 100 h c := hX.2.2.2.1
theorem gX_4 (hX : gX G al k h c) : gH G al 200 h c := hX.2.2.2.2.1
theorem gX_J (hX : gX G al k h c) : k.1 ≤ 8 := hX.2.1.2.2.2.1
theorem w2_lo {i : Nat} (hi : i < 100) : w2 G al k c g t i = c i := (ov_c (by omega) (by omega) (by omega)).trans (ov_c (by omega) (by omega) (by omega))
theorem gX_0 (hX : gX G al k h c) : w2 G al k c g t 0 = some (.inr (8, [.ref (al 1), .ref (al 100), .ref (al 200)])) := (w2_lo (by decide)).trans hX.1
theorem gX_l (hX : gX G al k h c) : gLs G al (w2 G al k c g t) 1 2 2 (fun f => 10 + f) := gLs_cv hX.2.2.2.2.2.1 (w2_lo (by decide)) (w2_lo (by decide))
theorem gX_f (hX : gX G al k h c) {f : Nat} (hf : f < 2) : w2 G al k c g t (10 + f) = some (.inr (3, [.ref (al (12 + f))])) := (w2_lo (by omega)).trans (hX.2.2.2.2.2.2 f hf).1
theorem gX_s (hX : gX G al k h c) {f : Nat} (hf : f < 2) : gLs G al (w2 G al k c g t) (12 + f) (14 + f) 3 (fun s => 20 + (3 * f + s)) := gLs_cv (hX.2.2.2.2.2.2 f hf).2 (w2_lo (by omega)) (w2_lo (by omega))
end GX
/-! THE CLASS IN NUMBERS: what each method answers, and what it makes of the rows -/
def mNear (a b : Int32) : Int32 := if b ≤ a then (if a ≤ b then b else a - 1) else a + 1
def mFm (x y : Int32) : Int32 := if 0 ≤ x ^^^ y then x - x / y * y else if x - x / y * y = 0 then x - x / y * y else x - x / y * y + y
def mFd (x y : Int32) : Int32 := if 0 ≤ x ^^^ y then x / y else if x / y * y = x then x / y else x / y - 1
def mPby (d w f : Int32) : Int32 := if 20 + f ≤ 0 then 0 else 10 * d * w / (20 + f)
def mHby (p v : Int32) : Int32 := if p * v / 4 < 60 then p * v / 4 else 60
def mAir (h : Int32) : Int32 := 2 + h / 10
def mSl (t : Int32) : Nat := (mFm t 9).toNatClampNeg
def mSetTo (g : St) (p : Nat) (v : Int32) : St := if bz (g (1 + p) 4) = 0 then s2 g (1 + p) 2 v else g
def mPTurn (g : St) (p : Nat) : St := if bz (g (1 + p) 4) = 0 then s2 g (1 + p) 3 (mNear (g (1 + p) 3) (g (1 + p) 2)) else g
def mTrip (g : St) (p : Nat) : St := s2 (s2 (s2 (s2 g (1 + p) 4 1) (1 + p) 5 (g (1 + p) 5 + 1)) (1 + p) 3 0) (1 + p) 2 0
def mPCopy (g t : St) (p : Nat) : St := s2 (s2 (s2 (s2 t (1 + p) 2 (g (1 + p) 2)) (1 + p) 3 (g (1 + p) 3)) (1 + p) 4 (g (1 + p) 4)) (1 + p) 5 (g (1 + p) 5)
def mFlow (k : gC) (g : St) (j : Nat) : Int32 := k.2.2 (3 + j) 2 * g (3 + j) 5
def mJTurn (g : St) (j : Nat) : St := if bz (g (3 + j) 6) = 0 then s2 g (3 + j) 5 (mNear (g (3 + j) 5) (g (3 + j) 4)) else g
def mShort (g : St) (j : Nat) : Int32 := if bz (g (3 + j) 7) = 0 then 0 else if bz (g (3 + j) 8) = 0 then 0 else 1
def mObey (k : gC) (g : St) (j : Nat) (v : Int32) : St := if v < 10 then (if v < 5 then s2 g (3 + j) 4 v else s2 g (3 + j) 7 (if v = 5 then 1 else 0)) else mSetTo g (k.2.1 j) (v - 10)
def mJCopy (g t : St) (j : Nat) : St := s2 (s2 (s2 (s2 (s2 (s2 t (3 + j) 4 (g (3 + j) 4)) (3 + j) 5 (g (3 + j) 5)) (3 + j) 6 (g (3 + j) 6)) (3 + j) 7 (g (3 + j) 7)) (3 + j) 8 (g (3 + j) 8)) (3 + j) 9 (g (3 + j) 9)
def mPutI (pl : Int32) : Nat := if pl < 0 then (if pl < -4 then 22 else if 23 < pl then 22 else 21) else if 19 < pl then (if pl < -4 then 22 else if 23 < pl then 22 else 21) else 20
def mPut (g : St) (t pl mu : Int32) : St := s2 g (mPutI pl) (mSl t) (g (mPutI pl) (mSl t) + mu)
def mFallIn (g : St) (t : Int32) : Int32 := g 20 (mSl t) + g 21 (mSl t) + g 22 (mSl t)
def mFallB (g : St) (t : Int32) : Int32 := g 20 (mSl t)
def mFallC (g : St) (t : Int32) : Int32 := g 21 (mSl t)
def mClear (g : St) (t : Int32) : St := s2 (s2 (s2 g 20 (mSl t) 0) 21 (mSl t) 0) 22 (mSl t) 0
def mAll (g : St) : Int32 := it (fun i a => a + (g 20 i + g 21 i + g 22 i)) 9 0
def mPour (g : St) (x : Int32) : St := if g 0 5 + x ≤ 9000 then s2 g 0 5 (g 0 5 + x) else s2 (s2 (s2 g 0 5 (g 0 5 + x)) 0 6 (g 0 6 + (g 0 5 + x - 9000))) 0 5 9000
def mFlows (k : gC) (g : St) (p : Nat) : Int32 := it (fun j a => if k.2.1 j = p then a + mFlow k g j else a) k.1 0
def mPress (k : gC) (g : St) (p : Nat) : Int32 := mPby (g (1 + p) 3) (k.2.2 (1 + p) 1) (mFlows k g p)
def mFSet (k : gC) (g : St) (p : Nat) : Int32 := it (fun j a => if k.2.1 j = p then a + k.2.2 (3 + j) 2 * g (3 + j) 4 else a) k.1 0
def mJets (k : gC) (p : Nat) : Int32 := it (fun j a => if k.2.1 j = p then a ||| 1 <<< (nI j &&& 31) else a) k.1 0
def mLamps (k : gC) (g : St) : Int32 := it (fun j a => if bz (g (3 + j) 7) = 0 then a else a ||| 1 <<< (nI j &&& 31)) k.1 0
def mHt (k : gC) (g : St) (j : Nat) : Int32 := mHby (mPress k g (k.2.1 j)) (g (3 + j) 5)
def mMaxH (k : gC) (g : St) : Int32 := it (fun j a => if a < mHt k g j then mHt k g j else a) k.1 0
def mSumH (k : gC) (g : St) : Int32 := it (fun j a => a + mHt k g j) k.1 0
def mWind (g : St) : Int32 := if g 0 12 ≤ 0 then (if 0 ≤ g 0 12 then 0 else g 0 12 - g 0 13) else g 0 12 + g 0 13
def mPlace (k : gC) (g : St) (j : Nat) (h : Int32) : Int32 := k.2.2 (3 + j) 1 + mFd (k.2.2 (3 + j) 3 * h) 10 + mFd (mWind g * mAir h) 2
def mMuch (k : gC) (g : St) (j : Nat) : Int32 := if g 0 5 < mFlow k g j then g 0 5 else mFlow k g j
def mTaken (k : gC) (g : St) (j : Nat) : St := s2 (s2 g 0 5 (g 0 5 - mMuch k g j)) (3 + j) 9 (g (3 + j) 9 + mMuch k g j)
def mThrow1 (k : gC) (j : Nat) (g : St) : St := if mHt k g j ≤ 0 then g else mPut (mTaken k g j) (g 0 4 + mAir (mHt k g j)) (mPlace k (mTaken k g j) j (mHt k g j)) (mMuch k g j)
def mThrow (k : gC) (g : St) : St := it (mThrow1 k) k.1 g
def mBits (x : Int32) : Int32 :=
  let u (a : Int32) (n : Int32) : Int32 := (a.toUInt32 >>> (n.toUInt32 &&& Int32.toUInt32 31)).toInt32
  let x1 := x - (u x 1 &&& 1431655765)
  let x2 := (x1 &&& 858993459) + (u x1 2 &&& 858993459)
  let x3 := (x2 + u x2 4) &&& 252645135
  let x4 := x3 + u x3 8
  let x5 := x4 + u x4 16
  x5 &&& 63
def mEn1 (g : St) : St := it (fun p g => s2 g 0 9 (g 0 9 + g (1 + p) 3 * g (1 + p) 3)) 2 g
def mEnergy (k : gC) (g : St) : St := s2 (mEn1 g) 0 9 (mEn1 g 0 9 + mBits (mLamps k (mEn1 g)))
def mDry (g : St) : St := if g 0 5 < 300 then it (fun p g => if g (1 + p) 3 ≤ 0 then g else mTrip g p) 2 g else g
def mOff (k : gC) (g : St) : St := it (fun j g => s2 g (3 + j) 7 0) k.1 g
def mShorts (k : gC) (g : St) : Int32 := it (fun j a => if mShort g j = 0 then a else a + 1) k.1 0
def mLamp (k : gC) (g : St) : St := if mShorts k g = 0 then g else mOff k (if bz (g 0 14) = 0 then s2 g 0 10 (g 0 10 + mShorts k g) else s2 (s2 g 0 10 (g 0 10 + mShorts k g)) 0 11 (g 0 11 + 1))
def mTurns (k : gC) (g : St) : St := it (fun j g => mJTurn g j) k.1 (it (fun p g => mPTurn g p) 2 g)
def mNames (h : gK) (q j : Nat) : Int32 := if (h.2.2.2.2 q 1 >>> (nI j &&& 31)) &&& 1 = 1 then 1 else 0
def mStep1 (k : gC) (h : gK) (q s j : Nat) (g : St) : St := if mNames h q j = 0 then g else mObey k g ((j + s) % k.1) (h.2.2.2.2 q 2)
def mStep (k : gC) (h : gK) (q s : Nat) (g : St) : St := it (mStep1 k h q s) k.1 g
def mDue (h : gK) (i q : Nat) : Int32 := h.2.2.2.1 i + h.2.2.2.2 q 0 + 1
def mDueC (k : gC) (h : gK) (i : Nat) (g : St) : St := it (fun s g => if mDue h i (3 * h.2.1 i + s) = g 0 4 then mStep k h (3 * h.2.1 i + s) (h.2.2.1 i) g else g) 3 g
def mSteps (k : gC) (h : gK) (g : St) : St := it (fun i g => mDueC k h i g) h.1 g
def mFall (g : St) : St := mClear (s2 (s2 (mPour g (mFallB g (g 0 4))) 0 8 (mPour g (mFallB g (g 0 4)) 0 8 + mFallC (mPour g (mFallB g (g 0 4))) (mPour g (mFallB g (g 0 4)) 0 4))) 0 7 (mPour g (mFallB g (g 0 4)) 0 7 + (mFallIn g (g 0 4) - mFallB g (g 0 4)))) (mPour g (mFallB g (g 0 4)) 0 4)
def mTick0 (k : gC) (h : gK) (g : St) : St := mTurns k (if bz (g 0 14) = 0 then mSteps k h (s2 g 0 4 (g 0 4 + 1)) else s2 g 0 4 (g 0 4 + 1))
def mTick (k : gC) (h : gK) (g : St) : St := mLamp k (mDry (mEnergy k (mThrow k (mFall (mTick0 k h g)))))
def mDown (k : gC) (h : gK) (g : St) : Int32 := mFallIn (mTick0 k h g) (mTick0 k h g 0 4)
def mShut (k : gC) (g : St) : St := mOff k (it (fun j g => s2 g (3 + j) 4 0) k.1 (it (fun p g => mSetTo g p 0) 2 g))
def mTicks (k : gC) (h : gK) (n : Nat) (g : St) : St := it (fun _ g => mTick k h g) n g
def mOpen (h : gK) (i : Nat) (now : Int32) : Int32 := it (fun s a => if mDue h i (3 * h.2.1 i + s) ≤ now then a else a + 1) 3 0
/-- the first i of so many at which f comes to the height; -1 if none does -/
def mFirst (f : Nat → Int32) (ht : Int32) : Nat → Nat → Int32
  | 0, _ => -1
  | n + 1, i => if f i < ht then mFirst f ht n (i + 1) else nI i
def mSFor (k : gC) (g : St) (j : Nat) (ht : Int32) : Int32 := mFirst (fun i => mHby (mPby (nI i) (k.2.2 (1 + k.2.1 j) 1) (mFSet k g (k.2.1 j))) (g (3 + j) 4)) ht 11 0
def mLFor (k : gC) (h : gK) (g : St) (j : Nat) (ht : Int32) : Int32 := if mSFor k g j ht = -1 then -1 else if bz (g (1 + k.2.1 j) 4) = 0 then mFirst (fun i => mHt k (mTicks k h i (mSetTo g (k.2.1 j) (mSFor k g j ht))) j) ht 31 0 else -1
def mLeast (k : gC) (h : gK) (g : St) (n : Nat) : Int32 := it (fun i a => if mTicks k h (i + 1) g 0 5 < a then mTicks k h (i + 1) g 0 5 else a) n 9000
def mWould (k : gC) (h : gK) (g : St) (n : Nat) (what : Int32) : Int32 := if what = 0 then mTicks k h n g 0 8 - g 0 8 else mLeast k h g n
/-! small facts that the walks ask for -/
theorem i_fm9 (x : Int32) : (mFm x 9).toInt = x.toInt % 9 := by
  have h9 : (9 : Int32).toInt = 9 := by decide
  have l1 := i_lo x
  have l2 := i_hi x
  have hd : (x / 9).toInt = x.toInt.tdiv 9 := by rw [i_div (by rw [h9]; decide), h9]
  have ht := i_td x.toInt (Y := 9) (by decide)
  have hm : (x / 9 * 9).toInt = x.toInt.tdiv 9 * 9 := by
    rw [i_mul, hd, h9] <;> rw [hd, h9] <;> omega
  have hs : (x - x / 9 * 9).toInt = x.toInt - x.toInt.tdiv 9 * 9 := by
    rw [i_sub, hm] <;> rw [hm] <;> omega
  unfold mFm
  have hx := i_xor (x := x) (y := 9) (by rw [h9]; decide)
  by_cases h0 : 0 ≤ x ^^^ 9
  · have h1 := hx.mp h0
    rw [if_pos h0, hs]
    omega
  · have h1 : ¬ 0 ≤ x.toInt := fun h => h0 (hx.mpr h)
    rw [if_neg h0]
    by_cases h2 : x - x / 9 * 9 = 0
    · rw [if_pos h2, hs]
      have h3 := i_eq.mp h2
      rw [hs, i_0] at h3
      omega
    · rw [if_neg h2]
      have h3 : ¬ (x.toInt - x.toInt.tdiv 9 * 9 = 0) := fun h => h2 (i_eq.mpr (by rw [hs, i_0]; exact h))
      rw [i_add (by rw [hs, h9]; omega) (by rw [hs, h9]; omega), hs, h9]
      omega
theorem mFm_in (x : Int32) : vp_in (mFm x 9) 9 := by
  have h := i_fm9 x
  intro hq
  rcases hq with hq | hq
  · have h1 := i_lt.mp hq
    rw [h, i_0] at h1
    omega
  · have h2 : (mFm x 9).toNatClampNeg = (mFm x 9).toInt.toNat := rfl
    rw [h2, h] at hq
    omega
theorem mSl_lt (x : Int32) : mSl x < 9 := by
  have h := i_fm9 x
  have h2 : mSl x = (mFm x 9).toInt.toNat := rfl
  rw [h2, h]
  omega
theorem mFm_n {a b : Nat} (ha : a < 2 ^ 31) (h0 : 0 < b) (hb : b < 2 ^ 31) : mFm (nI a) (nI b) = nI (a % b) := by
  have hx : 0 ≤ nI a ^^^ nI b := (i_xor (by rw [nI_toInt hb]; omega)).mpr (by rw [nI_toInt ha]; omega)
  unfold mFm
  rw [if_pos hx]
  exact pk_rem ha h0 hb
end
section
set_option maxHeartbeats 4000000 in
set_option maxRecDepth 100000 in
theorem kJ9_floorMod_7cf53 (l : Launch) (G : gT) (al : Nat → Nat) (c : mC) (x : Int32) (y : Int32) (hy : ¬ y = 0) : Met l yJ9_floorMod_7cf53 (fW yJ9_floorMod_7cf53 cJ9_floorMod_7cf53 3 (some .int)) { frames := 0, cells := 0, slots := 0, locals := 0 } (gPre G al (c) [.int x, .int y]) (gQi (S := Unit) G (fun _ => mFm x y) (fun _ => al) (fun _ => c)) 0 0 (gA G) := by
  refine va_MetF (cc := cJ9_floorMod_7cf53) (maxL := 3) (ret := (some .int)) (by decide +kernel) rfl ?_
  intro pz ez s m args below meth c₀ s₁ Bo hml hv
  obtain ⟨rfl, hb0, hP, hE⟩ := hv
  have hx := Bo.exec
  have hb := Bo.bytes
  have hr := Bo.returns
  have hts0 := atoms_spec (ws := (fW yJ9_floorMod_7cf53 cJ9_floorMod_7cf53 3 (some .int))) Bo.pre
  have hts : ∀ w ∈ fA, w.before _ s = true := fun w h => hts0 w (List.mem_cons_of_mem _ h)
  have hown : s.vm.findClass RJ9 = some m.cls := findClass_of_methodNamed Bo.named
  have hlocks := Bo.notSynchronized
  have hl := lv_entry ([.int x, .int y]) (n := 3) (Nat.le_of_ble_eq_true rfl)
  rw [lg_entry_eq]
  generalize (lg_sl ([.int x, .int y]) ++ List.replicate (3 - (lg_sl ([.int x, .int y])).length) Slot.unset).toArray = ls at hl ⊢
  have hl : lv_has ls 3 [(0, .int x), (1, .int y)] := hl
  refine g_start hP (fun H hP hS => ?_)
  refine lv_iload_n hx hb dJ9_floorMod_7cf53_0 rfl (lv_at hl 0 rfl) ?_
  refine lv_iload_n hx hb dJ9_floorMod_7cf53_1 rfl (lv_at hl 1 rfl) ?_
  refine lv_irem hx hb dJ9_floorMod_7cf53_2 hy ?_
  refine lv_istore_n (lv' := [(2, .int (x - x / y * y)), (0, .int x), (1, .int y)]) hx hb dJ9_floorMod_7cf53_3 rfl hl (by decide) rfl (fun ls hl => ?_)
  refine lv_iload_n hx hb dJ9_floorMod_7cf53_4 rfl (lv_at hl 1 rfl) ?_
  refine lv_iload_n hx hb dJ9_floorMod_7cf53_5 rfl (lv_at hl 2 rfl) ?_
  refine lv_ixor hx hb dJ9_floorMod_7cf53_6 ?_
  refine lv_if_ge (tgt := 18) hx hb dJ9_floorMod_7cf53_7 (by decide) (fun hc_1 => ?_) (fun hc_1 => ?_)
  · skip
    refine lv_iload_n hx hb dJ9_floorMod_7cf53_18 rfl (lv_at hl 0 rfl) ?_
    refine W.widen (k := 0) (n := 0) (Nat.le_of_ble_eq_true rfl) (Nat.le_of_ble_eq_true rfl) ?_
    exact W.iret (v := x - x / y * y) hx hb hr (fun tz htz hW => ⟨⟨x - x / y * y, (), rfl, (by unfold mFm; rw [if_pos hc_1]; try rfl), g_end htz hP⟩, hS.F htz⟩) hS.2.2 dJ9_floorMod_7cf53_19
  · skip
    refine lv_iload_n hx hb dJ9_floorMod_7cf53_10 rfl (lv_at hl 0 rfl) ?_
    refine lv_if_eq (tgt := 18) hx hb dJ9_floorMod_7cf53_11 (by decide) (fun hc_2 => ?_) (fun hc_2 => ?_)
    · skip
      refine lv_iload_n hx hb dJ9_floorMod_7cf53_18 rfl (lv_at hl 0 rfl) ?_
      refine W.widen (k := 0) (n := 0) (Nat.le_of_ble_eq_true rfl) (Nat.le_of_ble_eq_true rfl) ?_
      exact W.iret (v := x - x / y * y) hx hb hr (fun tz htz hW => ⟨⟨x - x / y * y, (), rfl, (by unfold mFm; rw [if_neg hc_1, if_pos hc_2]; try rfl), g_end htz hP⟩, hS.F htz⟩) hS.2.2 dJ9_floorMod_7cf53_19
    · skip
      refine lv_iload_n hx hb dJ9_floorMod_7cf53_14 rfl (lv_at hl 0 rfl) ?_
      refine lv_iload_n hx hb dJ9_floorMod_7cf53_15 rfl (lv_at hl 2 rfl) ?_
      refine lv_iadd hx hb dJ9_floorMod_7cf53_16 ?_
      refine W.widen (k := 0) (n := 0) (Nat.le_of_ble_eq_true rfl) (Nat.le_of_ble_eq_true rfl) ?_
      exact W.iret (v := (x - x / y * y) + y) hx hb hr (fun tz htz hW => ⟨⟨(x - x / y * y) + y, (), rfl, (by unfold mFm; rw [if_neg hc_1, if_neg hc_2]; try rfl), g_end htz hP⟩, hS.F htz⟩) hS.2.2 dJ9_floorMod_7cf53_17
set_option maxHeartbeats 4000000 in
set_option maxRecDepth 100000 in
theorem kJ9_floorDiv_7cf53 (l : Launch) (G : gT) (al : Nat → Nat) (c : mC) (x : Int32) (y : Int32) (hy : ¬ y = 0) : Met l yJ9_floorDiv_7cf53 (fW yJ9_floorDiv_7cf53 cJ9_floorDiv_7cf53 3 (some .int)) { frames := 0, cells := 0, slots := 0, locals := 0 } (gPre G al (c) [.int x, .int y]) (gQi (S := Unit) G (fun _ => mFd x y) (fun _ => al) (fun _ => c)) 0 0 (gA G) := by
  refine va_MetF (cc := cJ9_floorDiv_7cf53) (maxL := 3) (ret := (some .int)) (by decide +kernel) rfl ?_
  intro pz ez s m args below meth c₀ s₁ Bo hml hv
  obtain ⟨rfl, hb0, hP, hE⟩ := hv
  have hx := Bo.exec
  have hb := Bo.bytes
  have hr := Bo.returns
  have hts0 := atoms_spec (ws := (fW yJ9_floorDiv_7cf53 cJ9_floorDiv_7cf53 3 (some .int))) Bo.pre
  have hts : ∀ w ∈ fA, w.before _ s = true := fun w h => hts0 w (List.mem_cons_of_mem _ h)
  have hown : s.vm.findClass RJ9 = some m.cls := findClass_of_methodNamed Bo.named
  have hlocks := Bo.notSynchronized
  have hl := lv_entry ([.int x, .int y]) (n := 3) (Nat.le_of_ble_eq_true rfl)
  rw [lg_entry_eq]
  generalize (lg_sl ([.int x, .int y]) ++ List.replicate (3 - (lg_sl ([.int x, .int y])).length) Slot.unset).toArray = ls at hl ⊢
  have hl : lv_has ls 3 [(0, .int x), (1, .int y)] := hl
  refine g_start hP (fun H hP hS => ?_)
  refine lv_iload_n hx hb dJ9_floorDiv_7cf53_0 rfl (lv_at hl 0 rfl) ?_
  refine lv_iload_n hx hb dJ9_floorDiv_7cf53_1 rfl (lv_at hl 1 rfl) ?_
  refine lv_idiv hx hb dJ9_floorDiv_7cf53_2 hy ?_
  refine lv_istore_n (lv' := [(2, .int (x / y)), (0, .int x), (1, .int y)]) hx hb dJ9_floorDiv_7cf53_3 rfl hl (by decide) rfl (fun ls hl => ?_)
  refine lv_iload_n hx hb dJ9_floorDiv_7cf53_4 rfl (lv_at hl 1 rfl) ?_
  refine lv_iload_n hx hb dJ9_floorDiv_7cf53_5 rfl (lv_at hl 2 rfl) ?_
  refine lv_ixor hx hb dJ9_floorDiv_7cf53_6 ?_
  refine lv_if_ge (tgt := 21) hx hb dJ9_floorDiv_7cf53_7 (by decide) (fun hc_1 => ?_) (fun hc_1 => ?_)
  · skip
    refine lv_iload_n hx hb dJ9_floorDiv_7cf53_21 rfl (lv_at hl 0 rfl) ?_
    refine W.widen (k := 0) (n := 0) (Nat.le_of_ble_eq_true rfl) (Nat.le_of_ble_eq_true rfl) ?_
    exact W.iret (v := x / y) hx hb hr (fun tz htz hW => ⟨⟨x / y, (), rfl, (by unfold mFd; rw [if_pos hc_1]; try rfl), g_end htz hP⟩, hS.F htz⟩) hS.2.2 dJ9_floorDiv_7cf53_22
  · skip
    refine lv_iload_n hx hb dJ9_floorDiv_7cf53_10 rfl (lv_at hl 0 rfl) ?_
    refine lv_iload_n hx hb dJ9_floorDiv_7cf53_11 rfl (lv_at hl 2 rfl) ?_
    refine lv_imul hx hb dJ9_floorDiv_7cf53_12 ?_
    refine lv_iload_n hx hb dJ9_floorDiv_7cf53_13 rfl (lv_at hl 1 rfl) ?_
    refine lv_icmp_eq (tgt := 21) hx hb dJ9_floorDiv_7cf53_14 (by decide) (fun hc_2 => ?_) (fun hc_2 => ?_)
    · skip
      refine lv_iload_n hx hb dJ9_floorDiv_7cf53_21 rfl (lv_at hl 0 rfl) ?_
      refine W.widen (k := 0) (n := 0) (Nat.le_of_ble_eq_true rfl) (Nat.le_of_ble_eq_true rfl) ?_
      exact W.iret (v := x / y) hx hb hr (fun tz htz hW => ⟨⟨x / y, (), rfl, (by unfold mFd; rw [if_neg hc_1, if_pos hc_2]; try rfl), g_end htz hP⟩, hS.F htz⟩) hS.2.2 dJ9_floorDiv_7cf53_22
    · skip
      refine lv_iload_n hx hb dJ9_floorDiv_7cf53_17 rfl (lv_at hl 0 rfl) ?_
      refine lv_iconst (v := 1) hx hb dJ9_floorDiv_7cf53_18 (by decide) ?_
      refine lv_isub hx hb dJ9_floorDiv_7cf53_19 ?_
      refine W.widen (k := 0) (n := 0) (Nat.le_of_ble_eq_true rfl) (Nat.le_of_ble_eq_true rfl) ?_
      exact W.iret (v := (x / y) - 1) hx hb hr (fun tz htz hW => ⟨⟨(x / y) - 1, (), rfl, (by unfold mFd; rw [if_neg hc_1, if_neg hc_2]; try rfl), g_end htz hP⟩, hS.F htz⟩) hS.2.2 dJ9_floorDiv_7cf53_20
set_option maxHeartbeats 4000000 in
set_option maxRecDepth 100000 in
theorem kJ6_bitCount_0f7a4 (l : Launch) (G : gT) (al : Nat → Nat) (c : mC) (x : Int32)  : Met l yJ6_bitCount_0f7a4 (fW yJ6_bitCount_0f7a4 cJ6_bitCount_0f7a4 1 (some .int)) { frames := 0, cells := 0, slots := 0, locals := 0 } (gPre G al (c) [.int x]) (gQi (S := Unit) G (fun _ => mBits x) (fun _ => al) (fun _ => c)) 0 0 (gA G) := by
  refine va_MetF (cc := cJ6_bitCount_0f7a4) (maxL := 1) (ret := (some .int)) (by decide +kernel) rfl ?_
  intro pz ez s m args below meth c₀ s₁ Bo hml hv
  obtain ⟨rfl, hb0, hP, hE⟩ := hv
  have hx := Bo.exec
  have hb := Bo.bytes
  have hr := Bo.returns
  have hts0 := atoms_spec (ws := (fW yJ6_bitCount_0f7a4 cJ6_bitCount_0f7a4 1 (some .int))) Bo.pre
  have hts : ∀ w ∈ fA, w.before _ s = true := fun w h => hts0 w (List.mem_cons_of_mem _ h)
  have hown : s.vm.findClass RJ6 = some m.cls := findClass_of_methodNamed Bo.named
  have hlocks := Bo.notSynchronized
  have hl := lv_entry ([.int x]) (n := 1) (Nat.le_of_ble_eq_true rfl)
  rw [lg_entry_eq]
  generalize (lg_sl ([.int x]) ++ List.replicate (1 - (lg_sl ([.int x])).length) Slot.unset).toArray = ls at hl ⊢
  have hl : lv_has ls 1 [(0, .int x)] := hl
  refine g_start hP (fun H hP hS => ?_)
  refine lv_iload_n hx hb dJ6_bitCount_0f7a4_0 rfl (lv_at hl 0 rfl) ?_
  refine lv_iload_n hx hb dJ6_bitCount_0f7a4_1 rfl (lv_at hl 0 rfl) ?_
  refine lv_iconst (v := 1) hx hb dJ6_bitCount_0f7a4_2 (by decide) ?_
  refine f_ushr (v := (x.toUInt32 >>> ((1 : Int32).toUInt32 &&& Int32.toUInt32 31)).toInt32) hx hb dJ6_bitCount_0f7a4_3 rfl ?_
  refine lv_ldcw hx hb hown (hts _ q293) dJ6_bitCount_0f7a4_4 ?_
  refine lv_iand hx hb dJ6_bitCount_0f7a4_7 ?_
  refine lv_isub hx hb dJ6_bitCount_0f7a4_8 ?_
  refine lv_istore_n (lv' := [(0, .int (x - (((x.toUInt32 >>> ((1 : Int32).toUInt32 &&& Int32.toUInt32 31)).toInt32) &&& 1431655765)))]) hx hb dJ6_bitCount_0f7a4_9 rfl hl (by decide) rfl (fun ls hl => ?_)
  refine lv_iload_n hx hb dJ6_bitCount_0f7a4_10 rfl (lv_at hl 0 rfl) ?_
  refine lv_ldcw hx hb hown (hts _ q294) dJ6_bitCount_0f7a4_11 ?_
  refine lv_iand hx hb dJ6_bitCount_0f7a4_14 ?_
  refine lv_iload_n hx hb dJ6_bitCount_0f7a4_15 rfl (lv_at hl 0 rfl) ?_
  refine lv_iconst (v := 2) hx hb dJ6_bitCount_0f7a4_16 (by decide) ?_
  refine f_ushr (v := ((x - (((x.toUInt32 >>> ((1 : Int32).toUInt32 &&& Int32.toUInt32 31)).toInt32) &&& 1431655765)).toUInt32 >>> ((2 : Int32).toUInt32 &&& Int32.toUInt32 31)).toInt32) hx hb dJ6_bitCount_0f7a4_17 rfl ?_
  refine lv_ldcw hx hb hown (hts _ q294) dJ6_bitCount_0f7a4_18 ?_
  refine lv_iand hx hb dJ6_bitCount_0f7a4_21 ?_
  refine lv_iadd hx hb dJ6_bitCount_0f7a4_22 ?_
  refine lv_istore_n (lv' := [(0, .int (((x - (((x.toUInt32 >>> ((1 : Int32).toUInt32 &&& Int32.toUInt32 31)).toInt32) &&& 1431655765)) &&& 858993459) + ((((x - (((x.toUInt32 >>> ((1 : Int32).toUInt32 &&& Int32.toUInt32 31)).toInt32) &&& 1431655765)).toUInt32 >>> ((2 : Int32).toUInt32 &&& Int32.toUInt32 31)).toInt32) &&& 858993459)))]) hx hb dJ6_bitCount_0f7a4_23 rfl hl (by decide) rfl (fun ls hl => ?_)
  refine lv_iload_n hx hb dJ6_bitCount_0f7a4_24 rfl (lv_at hl 0 rfl) ?_
  refine lv_iload_n hx hb dJ6_bitCount_0f7a4_25 rfl (lv_at hl 0 rfl) ?_
  refine lv_iconst (v := 4) hx hb dJ6_bitCount_0f7a4_26 (by decide) ?_
  refine f_ushr (v := ((((x - (((x.toUInt32 >>> ((1 : Int32).toUInt32 &&& Int32.toUInt32 31)).toInt32) &&& 1431655765)) &&& 858993459) + ((((x - (((x.toUInt32 >>> ((1 : Int32).toUInt32 &&& Int32.toUInt32 31)).toInt32) &&& 1431655765)).toUInt32 >>> ((2 : Int32).toUInt32 &&& Int32.toUInt32 31)).toInt32) &&& 858993459)).toUInt32 >>> ((4 : Int32).toUInt32 &&& Int32.toUInt32 31)).toInt32) hx hb dJ6_bitCount_0f7a4_27 rfl ?_
  refine lv_iadd hx hb dJ6_bitCount_0f7a4_28 ?_
  refine lv_ldcw hx hb hown (hts _ q295) dJ6_bitCount_0f7a4_29 ?_
  refine lv_iand hx hb dJ6_bitCount_0f7a4_32 ?_
  refine lv_istore_n (lv' := [(0, .int (((((x - (((x.toUInt32 >>> ((1 : Int32).toUInt32 &&& Int32.toUInt32 31)).toInt32) &&& 1431655765)) &&& 858993459) + ((((x - (((x.toUInt32 >>> ((1 : Int32).toUInt32 &&& Int32.toUInt32 31)).toInt32) &&& 1431655765)).toUInt32 >>> ((2 : Int32).toUInt32 &&& Int32.toUInt32 31)).toInt32) &&& 858993459)) + (((((x - (((x.toUInt32 >>> ((1 : Int32).toUInt32 &&& Int32.toUInt32 31)).toInt32) &&& 1431655765)) &&& 858993459) + ((((x - (((x.toUInt32 >>> ((1 : Int32).toUInt32 &&& Int32.toUInt32 31)).toInt32) &&& 1431655765)).toUInt32 >>> ((2 : Int32).toUInt32 &&& Int32.toUInt32 31)).toInt32) &&& 858993459)).toUInt32 >>> ((4 : Int32).toUInt32 &&& Int32.toUInt32 31)).toInt32)) &&& 252645135))]) hx hb dJ6_bitCount_0f7a4_33 rfl hl (by decide) rfl (fun ls hl => ?_)
  refine lv_iload_n hx hb dJ6_bitCount_0f7a4_34 rfl (lv_at hl 0 rfl) ?_
  refine lv_iload_n hx hb dJ6_bitCount_0f7a4_35 rfl (lv_at hl 0 rfl) ?_
  refine lv_bipush (v := 8) hx hb dJ6_bitCount_0f7a4_36 (by decide) ?_
  refine f_ushr (v := ((((((x - (((x.toUInt32 >>> ((1 : Int32).toUInt32 &&& Int32.toUInt32 31)).toInt32) &&& 1431655765)) &&& 858993459) + ((((x - (((x.toUInt32 >>> ((1 : Int32).toUInt32 &&& Int32.toUInt32 31)).toInt32) &&& 1431655765)).toUInt32 >>> ((2 : Int32).toUInt32 &&& Int32.toUInt32 31)).toInt32) &&& 858993459)) + (((((x - (((x.toUInt32 >>> ((1 : Int32).toUInt32 &&& Int32.toUInt32 31)).toInt32) &&& 1431655765)) &&& 858993459) + ((((x - (((x.toUInt32 >>> ((1 : Int32).toUInt32 &&& Int32.toUInt32 31)).toInt32) &&& 1431655765)).toUInt32 >>> ((2 : Int32).toUInt32 &&& Int32.toUInt32 31)).toInt32) &&& 858993459)).toUInt32 >>> ((4 : Int32).toUInt32 &&& Int32.toUInt32 31)).toInt32)) &&& 252645135).toUInt32 >>> ((8 : Int32).toUInt32 &&& Int32.toUInt32 31)).toInt32) hx hb dJ6_bitCount_0f7a4_38 rfl ?_
  refine lv_iadd hx hb dJ6_bitCount_0f7a4_39 ?_
  refine lv_istore_n (lv' := [(0, .int ((((((x - (((x.toUInt32 >>> ((1 : Int32).toUInt32 &&& Int32.toUInt32 31)).toInt32) &&& 1431655765)) &&& 858993459) + ((((x - (((x.toUInt32 >>> ((1 : Int32).toUInt32 &&& Int32.toUInt32 31)).toInt32) &&& 1431655765)).toUInt32 >>> ((2 : Int32).toUInt32 &&& Int32.toUInt32 31)).toInt32) &&& 858993459)) + (((((x - (((x.toUInt32 >>> ((1 : Int32).toUInt32 &&& Int32.toUInt32 31)).toInt32) &&& 1431655765)) &&& 858993459) + ((((x - (((x.toUInt32 >>> ((1 : Int32).toUInt32 &&& Int32.toUInt32 31)).toInt32) &&& 1431655765)).toUInt32 >>> ((2 : Int32).toUInt32 &&& Int32.toUInt32 31)).toInt32) &&& 858993459)).toUInt32 >>> ((4 : Int32).toUInt32 &&& Int32.toUInt32 31)).toInt32)) &&& 252645135) + (((((((x - (((x.toUInt32 >>> ((1 : Int32).toUInt32 &&& Int32.toUInt32 31)).toInt32) &&& 1431655765)) &&& 858993459) + ((((x - (((x.toUInt32 >>> ((1 : Int32).toUInt32 &&& Int32.toUInt32 31)).toInt32) &&& 1431655765)).toUInt32 >>> ((2 : Int32).toUInt32 &&& Int32.toUInt32 31)).toInt32) &&& 858993459)) + (((((x - (((x.toUInt32 >>> ((1 : Int32).toUInt32 &&& Int32.toUInt32 31)).toInt32) &&& 1431655765)) &&& 858993459) + ((((x - (((x.toUInt32 >>> ((1 : Int32).toUInt32 &&& Int32.toUInt32 31)).toInt32) &&& 1431655765)).toUInt32 >>> ((2 : Int32).toUInt32 &&& Int32.toUInt32 31)).toInt32) &&& 858993459)).toUInt32 >>> ((4 : Int32).toUInt32 &&& Int32.toUInt32 31)).toInt32)) &&& 252645135).toUInt32 >>> ((8 : Int32).toUInt32 &&& Int32.toUInt32 31)).toInt32)))]) hx hb dJ6_bitCount_0f7a4_40 rfl hl (by decide) rfl (fun ls hl => ?_)
  refine lv_iload_n hx hb dJ6_bitCount_0f7a4_41 rfl (lv_at hl 0 rfl) ?_
  refine lv_iload_n hx hb dJ6_bitCount_0f7a4_42 rfl (lv_at hl 0 rfl) ?_
  refine lv_bipush (v := 16) hx hb dJ6_bitCount_0f7a4_43 (by decide) ?_
  refine f_ushr (v := (((((((x - (((x.toUInt32 >>> ((1 : Int32).toUInt32 &&& Int32.toUInt32 31)).toInt32) &&& 1431655765)) &&& 858993459) + ((((x - (((x.toUInt32 >>> ((1 : Int32).toUInt32 &&& Int32.toUInt32 31)).toInt32) &&& 1431655765)).toUInt32 >>> ((2 : Int32).toUInt32 &&& Int32.toUInt32 31)).toInt32) &&& 858993459)) + (((((x - (((x.toUInt32 >>> ((1 : Int32).toUInt32 &&& Int32.toUInt32 31)).toInt32) &&& 1431655765)) &&& 858993459) + ((((x - (((x.toUInt32 >>> ((1 : Int32).toUInt32 &&& Int32.toUInt32 31)).toInt32) &&& 1431655765)).toUInt32 >>> ((2 : Int32).toUInt32 &&& Int32.toUInt32 31)).toInt32) &&& 858993459)).toUInt32 >>> ((4 : Int32).toUInt32 &&& Int32.toUInt32 31)).toInt32)) &&& 252645135) + (((((((x - (((x.toUInt32 >>> ((1 : Int32).toUInt32 &&& Int32.toUInt32 31)).toInt32) &&& 1431655765)) &&& 858993459) + ((((x - (((x.toUInt32 >>> ((1 : Int32).toUInt32 &&& Int32.toUInt32 31)).toInt32) &&& 1431655765)).toUInt32 >>> ((2 : Int32).toUInt32 &&& Int32.toUInt32 31)).toInt32) &&& 858993459)) + (((((x - (((x.toUInt32 >>> ((1 : Int32).toUInt32 &&& Int32.toUInt32 31)).toInt32) &&& 1431655765)) &&& 858993459) + ((((x - (((x.toUInt32 >>> ((1 : Int32).toUInt32 &&& Int32.toUInt32 31)).toInt32) &&& 1431655765)).toUInt32 >>> ((2 : Int32).toUInt32 &&& Int32.toUInt32 31)).toInt32) &&& 858993459)).toUInt32 >>> ((4 : Int32).toUInt32 &&& Int32.toUInt32 31)).toInt32)) &&& 252645135).toUInt32 >>> ((8 : Int32).toUInt32 &&& Int32.toUInt32 31)).toInt32)).toUInt32 >>> ((16 : Int32).toUInt32 &&& Int32.toUInt32 31)).toInt32) hx hb dJ6_bitCount_0f7a4_45 rfl ?_
  refine lv_iadd hx hb dJ6_bitCount_0f7a4_46 ?_
  refine lv_istore_n (lv' := [(0, .int (((((((x - (((x.toUInt32 >>> ((1 : Int32).toUInt32 &&& Int32.toUInt32 31)).toInt32) &&& 1431655765)) &&& 858993459) + ((((x - (((x.toUInt32 >>> ((1 : Int32).toUInt32 &&& Int32.toUInt32 31)).toInt32) &&& 1431655765)).toUInt32 >>> ((2 : Int32).toUInt32 &&& Int32.toUInt32 31)).toInt32) &&& 858993459)) + (((((x - (((x.toUInt32 >>> ((1 : Int32).toUInt32 &&& Int32.toUInt32 31)).toInt32) &&& 1431655765)) &&& 858993459) + ((((x - (((x.toUInt32 >>> ((1 : Int32).toUInt32 &&& Int32.toUInt32 31)).toInt32) &&& 1431655765)).toUInt32 >>> ((2 : Int32).toUInt32 &&& Int32.toUInt32 31)).toInt32) &&& 858993459)).toUInt32 >>> ((4 : Int32).toUInt32 &&& Int32.toUInt32 31)).toInt32)) &&& 252645135) + (((((((x - (((x.toUInt32 >>> ((1 : Int32).toUInt32 &&& Int32.toUInt32 31)).toInt32) &&& 1431655765)) &&& 858993459) + ((((x - (((x.toUInt32 >>> ((1 : Int32).toUInt32 &&& Int32.toUInt32 31)).toInt32) &&& 1431655765)).toUInt32 >>> ((2 : Int32).toUInt32 &&& Int32.toUInt32 31)).toInt32) &&& 858993459)) + (((((x - (((x.toUInt32 >>> ((1 : Int32).toUInt32 &&& Int32.toUInt32 31)).toInt32) &&& 1431655765)) &&& 858993459) + ((((x - (((x.toUInt32 >>> ((1 : Int32).toUInt32 &&& Int32.toUInt32 31)).toInt32) &&& 1431655765)).toUInt32 >>> ((2 : Int32).toUInt32 &&& Int32.toUInt32 31)).toInt32) &&& 858993459)).toUInt32 >>> ((4 : Int32).toUInt32 &&& Int32.toUInt32 31)).toInt32)) &&& 252645135).toUInt32 >>> ((8 : Int32).toUInt32 &&& Int32.toUInt32 31)).toInt32)) + ((((((((x - (((x.toUInt32 >>> ((1 : Int32).toUInt32 &&& Int32.toUInt32 31)).toInt32) &&& 1431655765)) &&& 858993459) + ((((x - (((x.toUInt32 >>> ((1 : Int32).toUInt32 &&& Int32.toUInt32 31)).toInt32) &&& 1431655765)).toUInt32 >>> ((2 : Int32).toUInt32 &&& Int32.toUInt32 31)).toInt32) &&& 858993459)) + (((((x - (((x.toUInt32 >>> ((1 : Int32).toUInt32 &&& Int32.toUInt32 31)).toInt32) &&& 1431655765)) &&& 858993459) + ((((x - (((x.toUInt32 >>> ((1 : Int32).toUInt32 &&& Int32.toUInt32 31)).toInt32) &&& 1431655765)).toUInt32 >>> ((2 : Int32).toUInt32 &&& Int32.toUInt32 31)).toInt32) &&& 858993459)).toUInt32 >>> ((4 : Int32).toUInt32 &&& Int32.toUInt32 31)).toInt32)) &&& 252645135) + (((((((x - (((x.toUInt32 >>> ((1 : Int32).toUInt32 &&& Int32.toUInt32 31)).toInt32) &&& 1431655765)) &&& 858993459) + ((((x - (((x.toUInt32 >>> ((1 : Int32).toUInt32 &&& Int32.toUInt32 31)).toInt32) &&& 1431655765)).toUInt32 >>> ((2 : Int32).toUInt32 &&& Int32.toUInt32 31)).toInt32) &&& 858993459)) + (((((x - (((x.toUInt32 >>> ((1 : Int32).toUInt32 &&& Int32.toUInt32 31)).toInt32) &&& 1431655765)) &&& 858993459) + ((((x - (((x.toUInt32 >>> ((1 : Int32).toUInt32 &&& Int32.toUInt32 31)).toInt32) &&& 1431655765)).toUInt32 >>> ((2 : Int32).toUInt32 &&& Int32.toUInt32 31)).toInt32) &&& 858993459)).toUInt32 >>> ((4 : Int32).toUInt32 &&& Int32.toUInt32 31)).toInt32)) &&& 252645135).toUInt32 >>> ((8 : Int32).toUInt32 &&& Int32.toUInt32 31)).toInt32)).toUInt32 >>> ((16 : Int32).toUInt32 &&& Int32.toUInt32 31)).toInt32)))]) hx hb dJ6_bitCount_0f7a4_47 rfl hl (by decide) rfl (fun ls hl => ?_)
  refine lv_iload_n hx hb dJ6_bitCount_0f7a4_48 rfl (lv_at hl 0 rfl) ?_
  refine lv_bipush (v := 63) hx hb dJ6_bitCount_0f7a4_49 (by decide) ?_
  refine lv_iand hx hb dJ6_bitCount_0f7a4_51 ?_
  refine W.widen (k := 0) (n := 0) (Nat.le_of_ble_eq_true rfl) (Nat.le_of_ble_eq_true rfl) ?_
  exact W.iret (v := (((((((x - (((x.toUInt32 >>> ((1 : Int32).toUInt32 &&& Int32.toUInt32 31)).toInt32) &&& 1431655765)) &&& 858993459) + ((((x - (((x.toUInt32 >>> ((1 : Int32).toUInt32 &&& Int32.toUInt32 31)).toInt32) &&& 1431655765)).toUInt32 >>> ((2 : Int32).toUInt32 &&& Int32.toUInt32 31)).toInt32) &&& 858993459)) + (((((x - (((x.toUInt32 >>> ((1 : Int32).toUInt32 &&& Int32.toUInt32 31)).toInt32) &&& 1431655765)) &&& 858993459) + ((((x - (((x.toUInt32 >>> ((1 : Int32).toUInt32 &&& Int32.toUInt32 31)).toInt32) &&& 1431655765)).toUInt32 >>> ((2 : Int32).toUInt32 &&& Int32.toUInt32 31)).toInt32) &&& 858993459)).toUInt32 >>> ((4 : Int32).toUInt32 &&& Int32.toUInt32 31)).toInt32)) &&& 252645135) + (((((((x - (((x.toUInt32 >>> ((1 : Int32).toUInt32 &&& Int32.toUInt32 31)).toInt32) &&& 1431655765)) &&& 858993459) + ((((x - (((x.toUInt32 >>> ((1 : Int32).toUInt32 &&& Int32.toUInt32 31)).toInt32) &&& 1431655765)).toUInt32 >>> ((2 : Int32).toUInt32 &&& Int32.toUInt32 31)).toInt32) &&& 858993459)) + (((((x - (((x.toUInt32 >>> ((1 : Int32).toUInt32 &&& Int32.toUInt32 31)).toInt32) &&& 1431655765)) &&& 858993459) + ((((x - (((x.toUInt32 >>> ((1 : Int32).toUInt32 &&& Int32.toUInt32 31)).toInt32) &&& 1431655765)).toUInt32 >>> ((2 : Int32).toUInt32 &&& Int32.toUInt32 31)).toInt32) &&& 858993459)).toUInt32 >>> ((4 : Int32).toUInt32 &&& Int32.toUInt32 31)).toInt32)) &&& 252645135).toUInt32 >>> ((8 : Int32).toUInt32 &&& Int32.toUInt32 31)).toInt32)) + ((((((((x - (((x.toUInt32 >>> ((1 : Int32).toUInt32 &&& Int32.toUInt32 31)).toInt32) &&& 1431655765)) &&& 858993459) + ((((x - (((x.toUInt32 >>> ((1 : Int32).toUInt32 &&& Int32.toUInt32 31)).toInt32) &&& 1431655765)).toUInt32 >>> ((2 : Int32).toUInt32 &&& Int32.toUInt32 31)).toInt32) &&& 858993459)) + (((((x - (((x.toUInt32 >>> ((1 : Int32).toUInt32 &&& Int32.toUInt32 31)).toInt32) &&& 1431655765)) &&& 858993459) + ((((x - (((x.toUInt32 >>> ((1 : Int32).toUInt32 &&& Int32.toUInt32 31)).toInt32) &&& 1431655765)).toUInt32 >>> ((2 : Int32).toUInt32 &&& Int32.toUInt32 31)).toInt32) &&& 858993459)).toUInt32 >>> ((4 : Int32).toUInt32 &&& Int32.toUInt32 31)).toInt32)) &&& 252645135) + (((((((x - (((x.toUInt32 >>> ((1 : Int32).toUInt32 &&& Int32.toUInt32 31)).toInt32) &&& 1431655765)) &&& 858993459) + ((((x - (((x.toUInt32 >>> ((1 : Int32).toUInt32 &&& Int32.toUInt32 31)).toInt32) &&& 1431655765)).toUInt32 >>> ((2 : Int32).toUInt32 &&& Int32.toUInt32 31)).toInt32) &&& 858993459)) + (((((x - (((x.toUInt32 >>> ((1 : Int32).toUInt32 &&& Int32.toUInt32 31)).toInt32) &&& 1431655765)) &&& 858993459) + ((((x - (((x.toUInt32 >>> ((1 : Int32).toUInt32 &&& Int32.toUInt32 31)).toInt32) &&& 1431655765)).toUInt32 >>> ((2 : Int32).toUInt32 &&& Int32.toUInt32 31)).toInt32) &&& 858993459)).toUInt32 >>> ((4 : Int32).toUInt32 &&& Int32.toUInt32 31)).toInt32)) &&& 252645135).toUInt32 >>> ((8 : Int32).toUInt32 &&& Int32.toUInt32 31)).toInt32)).toUInt32 >>> ((16 : Int32).toUInt32 &&& Int32.toUInt32 31)).toInt32)) &&& 63) hx hb hr (fun tz htz hW => ⟨⟨(((((((x - (((x.toUInt32 >>> ((1 : Int32).toUInt32 &&& Int32.toUInt32 31)).toInt32) &&& 1431655765)) &&& 858993459) + ((((x - (((x.toUInt32 >>> ((1 : Int32).toUInt32 &&& Int32.toUInt32 31)).toInt32) &&& 1431655765)).toUInt32 >>> ((2 : Int32).toUInt32 &&& Int32.toUInt32 31)).toInt32) &&& 858993459)) + (((((x - (((x.toUInt32 >>> ((1 : Int32).toUInt32 &&& Int32.toUInt32 31)).toInt32) &&& 1431655765)) &&& 858993459) + ((((x - (((x.toUInt32 >>> ((1 : Int32).toUInt32 &&& Int32.toUInt32 31)).toInt32) &&& 1431655765)).toUInt32 >>> ((2 : Int32).toUInt32 &&& Int32.toUInt32 31)).toInt32) &&& 858993459)).toUInt32 >>> ((4 : Int32).toUInt32 &&& Int32.toUInt32 31)).toInt32)) &&& 252645135) + (((((((x - (((x.toUInt32 >>> ((1 : Int32).toUInt32 &&& Int32.toUInt32 31)).toInt32) &&& 1431655765)) &&& 858993459) + ((((x - (((x.toUInt32 >>> ((1 : Int32).toUInt32 &&& Int32.toUInt32 31)).toInt32) &&& 1431655765)).toUInt32 >>> ((2 : Int32).toUInt32 &&& Int32.toUInt32 31)).toInt32) &&& 858993459)) + (((((x - (((x.toUInt32 >>> ((1 : Int32).toUInt32 &&& Int32.toUInt32 31)).toInt32) &&& 1431655765)) &&& 858993459) + ((((x - (((x.toUInt32 >>> ((1 : Int32).toUInt32 &&& Int32.toUInt32 31)).toInt32) &&& 1431655765)).toUInt32 >>> ((2 : Int32).toUInt32 &&& Int32.toUInt32 31)).toInt32) &&& 858993459)).toUInt32 >>> ((4 : Int32).toUInt32 &&& Int32.toUInt32 31)).toInt32)) &&& 252645135).toUInt32 >>> ((8 : Int32).toUInt32 &&& Int32.toUInt32 31)).toInt32)) + ((((((((x - (((x.toUInt32 >>> ((1 : Int32).toUInt32 &&& Int32.toUInt32 31)).toInt32) &&& 1431655765)) &&& 858993459) + ((((x - (((x.toUInt32 >>> ((1 : Int32).toUInt32 &&& Int32.toUInt32 31)).toInt32) &&& 1431655765)).toUInt32 >>> ((2 : Int32).toUInt32 &&& Int32.toUInt32 31)).toInt32) &&& 858993459)) + (((((x - (((x.toUInt32 >>> ((1 : Int32).toUInt32 &&& Int32.toUInt32 31)).toInt32) &&& 1431655765)) &&& 858993459) + ((((x - (((x.toUInt32 >>> ((1 : Int32).toUInt32 &&& Int32.toUInt32 31)).toInt32) &&& 1431655765)).toUInt32 >>> ((2 : Int32).toUInt32 &&& Int32.toUInt32 31)).toInt32) &&& 858993459)).toUInt32 >>> ((4 : Int32).toUInt32 &&& Int32.toUInt32 31)).toInt32)) &&& 252645135) + (((((((x - (((x.toUInt32 >>> ((1 : Int32).toUInt32 &&& Int32.toUInt32 31)).toInt32) &&& 1431655765)) &&& 858993459) + ((((x - (((x.toUInt32 >>> ((1 : Int32).toUInt32 &&& Int32.toUInt32 31)).toInt32) &&& 1431655765)).toUInt32 >>> ((2 : Int32).toUInt32 &&& Int32.toUInt32 31)).toInt32) &&& 858993459)) + (((((x - (((x.toUInt32 >>> ((1 : Int32).toUInt32 &&& Int32.toUInt32 31)).toInt32) &&& 1431655765)) &&& 858993459) + ((((x - (((x.toUInt32 >>> ((1 : Int32).toUInt32 &&& Int32.toUInt32 31)).toInt32) &&& 1431655765)).toUInt32 >>> ((2 : Int32).toUInt32 &&& Int32.toUInt32 31)).toInt32) &&& 858993459)).toUInt32 >>> ((4 : Int32).toUInt32 &&& Int32.toUInt32 31)).toInt32)) &&& 252645135).toUInt32 >>> ((8 : Int32).toUInt32 &&& Int32.toUInt32 31)).toInt32)).toUInt32 >>> ((16 : Int32).toUInt32 &&& Int32.toUInt32 31)).toInt32)) &&& 63, (), rfl, (by unfold mBits; rfl), g_end htz hP⟩, hS.F htz⟩) hS.2.2 dJ6_bitCount_0f7a4_52
set_option maxHeartbeats 4000000 in
set_option maxRecDepth 100000 in
theorem kJ3_checkIndex_8e157 (l : Launch) (G : gT) (al : Nat → Nat) (c : mC) (i : Nat) (n : Nat) (hi : i < n) (hn : n < 1000) : Met l yJ3_checkIndex_8e157 (fW yJ3_checkIndex_8e157 cJ3_checkIndex_8e157 3 (some .int)) { frames := 0, cells := 0, slots := 0, locals := 0 } (gPre G al (c) [.int (nI i), .int (nI n), .null]) (gQi (S := Unit) G (fun _ => nI i) (fun _ => al) (fun _ => c)) 0 0 (gA G) := by
  refine Met.ofW (cc := cJ3_checkIndex_8e157) (maxL := 3) (ret := (some .int)) (by decide) rfl ?_
  intro pz ez s m args below meth c₀ s₁ Bo hml hv
  obtain ⟨rfl, hb0, hP, hE⟩ := hv
  have hx := Bo.exec
  have hb := Bo.bytes
  have hr := Bo.returns
  have hts0 := atoms_spec (ws := (fW yJ3_checkIndex_8e157 cJ3_checkIndex_8e157 3 (some .int))) Bo.pre
  have hts : ∀ w ∈ fA, w.before _ s = true := fun w h => hts0 w (List.mem_cons_of_mem _ h)
  have hown : s.vm.findClass RJ3 = some m.cls := findClass_of_methodNamed Bo.named
  have hlocks := Bo.notSynchronized
  have hl := lv_entry ([.int (nI i), .int (nI n), .null]) (n := 3) (Nat.le_of_ble_eq_true rfl)
  rw [lg_entry_eq]
  generalize (lg_sl ([.int (nI i), .int (nI n), .null]) ++ List.replicate (3 - (lg_sl ([.int (nI i), .int (nI n), .null])).length) Slot.unset).toArray = ls at hl ⊢
  have hl : lv_has ls 3 [(0, .int (nI i)), (1, .int (nI n)), (2, .null)] := hl
  refine g_start hP (fun H hP hS => ?_)
  refine lv_iload_n hx hb dJ3_checkIndex_8e157_0 rfl (lv_at hl 0 rfl) ?_
  refine lv_if_lt (tgt := 9) hx hb dJ3_checkIndex_8e157_1 (by decide) (fun h => absurd h (nI_pos (by omega))) (fun _ => ?_)
  refine lv_iload_n hx hb dJ3_checkIndex_8e157_4 rfl (lv_at hl 0 rfl) ?_
  refine lv_iload_n hx hb dJ3_checkIndex_8e157_5 rfl (lv_at hl 1 rfl) ?_
  refine lv_icmp_lt (tgt := 16) hx hb dJ3_checkIndex_8e157_6 (by decide) (fun _ => ?_) (fun h => absurd (nI_lt (by omega) (by omega)) h)
  refine lv_iload_n hx hb dJ3_checkIndex_8e157_16 rfl (lv_at hl 0 rfl) ?_
  refine W.widen (k := 0) (n := 0) (Nat.le_of_ble_eq_true rfl) (Nat.le_of_ble_eq_true rfl) ?_
  exact W.iret (v := nI i) hx hb hr (fun tz htz hW => ⟨⟨nI i, (), rfl, rfl, g_end htz hP⟩, hS.F htz⟩) hS.2.2 dJ3_checkIndex_8e157_17
set_option maxHeartbeats 4000000 in
set_option maxRecDepth 100000 in
theorem kJ15_checkIndex_7cf53 (l : Launch) (G : gT) (al : Nat → Nat) (c : mC) (i : Nat) (n : Nat) (hi : i < n) (hn : n < 1000) : Met l yJ15_checkIndex_7cf53 (fW yJ15_checkIndex_7cf53 cJ15_checkIndex_7cf53 2 (some .int)) { frames := 1, cells := 0, slots := 0, locals := 22 } (gPre G al (c) [.int (nI i), .int (nI n)]) (gQi (S := Unit) G (fun _ => nI i) (fun _ => al) (fun _ => c)) 0 0 (gA G) := by
  refine Met.ofW (cc := cJ15_checkIndex_7cf53) (maxL := 2) (ret := (some .int)) (by decide) rfl ?_
  intro pz ez s m args below meth c₀ s₁ Bo hml hv
  obtain ⟨rfl, hb0, hP, hE⟩ := hv
  have hx := Bo.exec
  have hb := Bo.bytes
  have hr := Bo.returns
  have hts0 := atoms_spec (ws := (fW yJ15_checkIndex_7cf53 cJ15_checkIndex_7cf53 2 (some .int))) Bo.pre
  have hts : ∀ w ∈ fA, w.before _ s = true := fun w h => hts0 w (List.mem_cons_of_mem _ h)
  have hown : s.vm.findClass RJ15 = some m.cls := findClass_of_methodNamed Bo.named
  have hlocks := Bo.notSynchronized
  have hl := lv_entry ([.int (nI i), .int (nI n)]) (n := 2) (Nat.le_of_ble_eq_true rfl)
  rw [lg_entry_eq]
  generalize (lg_sl ([.int (nI i), .int (nI n)]) ++ List.replicate (2 - (lg_sl ([.int (nI i), .int (nI n)])).length) Slot.unset).toArray = ls at hl ⊢
  have hl : lv_has ls 2 [(0, .int (nI i)), (1, .int (nI n))] := hl
  refine g_start hP (fun H hP hS => ?_)
  refine lv_iload_n hx hb dJ15_checkIndex_7cf53_0 rfl (lv_at hl 0 rfl) ?_
  refine lv_iload_n hx hb dJ15_checkIndex_7cf53_1 rfl (lv_at hl 1 rfl) ?_
  refine lv_null hx hb dJ15_checkIndex_7cf53_2 ?_
  refine g_aft_i (g_runS (As := [.int (nI i), .int (nI n), .null]) (rest := []) hx hb hml hown hts (kJ3_checkIndex_8e157 l G al c i n hi hn) (fcwS 3 hts q38 q39 q40 q36 rfl rfl (by decide +kernel) ⟨(Nat.le_of_ble_eq_true rfl), (Nat.le_of_ble_eq_true rfl)⟩) hE hb0 hP hS rfl hl.1 rfl (Nat.le_of_ble_eq_true rfl) dJ15_checkIndex_7cf53_3 ⟨(Nat.le_of_ble_eq_true rfl), (Nat.le_of_ble_eq_true rfl)⟩) hS (fun u H locs hP hS => ?_)
  refine f_topi (v := nI i) rfl ?_
  refine W.widen (k := 0) (n := 0) (Nat.le_of_ble_eq_true rfl) (Nat.le_of_ble_eq_true rfl) ?_
  exact W.iret (v := nI i) hx hb hr (fun tz htz hW => ⟨⟨nI i, (), rfl, rfl, g_end htz hP⟩, hS.F htz⟩) hS.2.2 dJ15_checkIndex_7cf53_6
set_option maxHeartbeats 4000000 in
set_option maxRecDepth 100000 in
theorem kJx4a65c_size_8abf5 (l : Launch) (G : gT) (al : Nat → Nat) (c : mC) (li : Nat) (di : Nat) (n : Nat) (hf : Nat → Nat) (hlst : gLs G al c li di n hf) : Met l yJx4a65c_size_8abf5 (fW yJx4a65c_size_8abf5 cJx4a65c_size_8abf5 1 (some .int)) { frames := 0, cells := 0, slots := 0, locals := 0 } (gPre G al (c) [.ref (al li)]) (gQi (S := Unit) G (fun _ => nI n) (fun _ => al) (fun _ => c)) 0 0 (gA G) := by
  refine Met.ofW (cc := cJx4a65c_size_8abf5) (maxL := 1) (ret := (some .int)) (by decide) rfl ?_
  intro pz ez s m args below meth c₀ s₁ Bo hml hv
  obtain ⟨rfl, hb0, hP, hE⟩ := hv
  have hx := Bo.exec
  have hb := Bo.bytes
  have hr := Bo.returns
  have hts0 := atoms_spec (ws := (fW yJx4a65c_size_8abf5 cJx4a65c_size_8abf5 1 (some .int))) Bo.pre
  have hts : ∀ w ∈ fA, w.before _ s = true := fun w h => hts0 w (List.mem_cons_of_mem _ h)
  have hown : s.vm.findClass RJx4a65c = some m.cls := findClass_of_methodNamed Bo.named
  have hlocks := Bo.notSynchronized
  have hl := lv_entry ([.ref (al li)]) (n := 1) (Nat.le_of_ble_eq_true rfl)
  rw [lg_entry_eq]
  generalize (lg_sl ([.ref (al li)]) ++ List.replicate (1 - (lg_sl ([.ref (al li)])).length) Slot.unset).toArray = ls at hl ⊢
  have hl : lv_has ls 1 [(0, .ref (al li))] := hl
  obtain ⟨mo, cap, ff, e1, e2, e3, e4, e5⟩ := hlst
  refine g_start hP (fun H hP hS => ?_)
  refine lv_aload_n hx hb dJx4a65c_size_8abf5_0 rfl (lv_at hl 0 rfl) ?_
  refine m_get (C := RJx4a65c) (T := TJx4a65c) (N := 3) (ci := 0) (v := .int (nI n)) hx hb hts uJx4a65c hown hE hP li rfl e1 rfl 2 (by decide) (hts _ q35) (fun _ h9 => h9) rfl dJx4a65c_size_8abf5_1 ?_
  refine W.widen (k := 0) (n := 0) (Nat.le_of_ble_eq_true rfl) (Nat.le_of_ble_eq_true rfl) ?_
  exact W.iret (v := nI n) hx hb hr (fun tz htz hW => ⟨⟨nI n, (), rfl, rfl, g_end htz hP⟩, hS.F htz⟩) hS.2.2 dJx4a65c_size_8abf5_4
set_option maxHeartbeats 4000000 in
set_option maxRecDepth 100000 in
theorem kJx4a65c_elementData_915e3 (l : Launch) (G : gT) (al : Nat → Nat) (c : mC) (li : Nat) (di : Nat) (n : Nat) (hf : Nat → Nat) (i : Nat) (hlst : gLs G al c li di n hf) (hi : i < n) : Met l yJx4a65c_elementData_915e3 (fW yJx4a65c_elementData_915e3 cJx4a65c_elementData_915e3 2 (some (.object "java/lang/Object"))) { frames := 0, cells := 0, slots := 0, locals := 0 } (gPre G al (c) [.ref (al li), .int (nI i)]) (gQr (S := Unit) G (fun _ => al (hf i)) (fun _ => al) (fun _ => c)) 0 0 (gA G) := by
  refine Met.ofW (cc := cJx4a65c_elementData_915e3) (maxL := 2) (ret := (some (.object "java/lang/Object"))) (by decide) rfl ?_
  intro pz ez s m args below meth c₀ s₁ Bo hml hv
  obtain ⟨rfl, hb0, hP, hE⟩ := hv
  have hx := Bo.exec
  have hb := Bo.bytes
  have hr := Bo.returns
  have hts0 := atoms_spec (ws := (fW yJx4a65c_elementData_915e3 cJx4a65c_elementData_915e3 2 (some (.object "java/lang/Object")))) Bo.pre
  have hts : ∀ w ∈ fA, w.before _ s = true := fun w h => hts0 w (List.mem_cons_of_mem _ h)
  have hown : s.vm.findClass RJx4a65c = some m.cls := findClass_of_methodNamed Bo.named
  have hlocks := Bo.notSynchronized
  have hl := lv_entry ([.ref (al li), .int (nI i)]) (n := 2) (Nat.le_of_ble_eq_true rfl)
  rw [lg_entry_eq]
  generalize (lg_sl ([.ref (al li), .int (nI i)]) ++ List.replicate (2 - (lg_sl ([.ref (al li), .int (nI i)])).length) Slot.unset).toArray = ls at hl ⊢
  have hl : lv_has ls 2 [(0, .ref (al li)), (1, .int (nI i))] := hl
  obtain ⟨mo, cap, ff, e1, e2, e3, e4, e5⟩ := hlst
  refine g_start hP (fun H hP hS => ?_)
  refine lv_aload_n hx hb dJx4a65c_elementData_915e3_0 rfl (lv_at hl 0 rfl) ?_
  refine m_get (C := RJx4a65c) (T := TJx4a65c) (N := 3) (ci := 0) (v := .ref (al di)) hx hb hts uJx4a65c hown hE hP li rfl e1 rfl 1 (by decide) (hts _ q42) (fun _ h9 => h9) rfl dJx4a65c_elementData_915e3_1 ?_
  refine lv_iload_n hx hb dJx4a65c_elementData_915e3_4 rfl (lv_at hl 1 rfl) ?_
  refine m_aald hx hb hE hP di rfl e2 (nI_in (by omega) (by omega)) (v := al (hf i)) (by rw [nI_clamp (by omega)]; exact e5 i hi) dJx4a65c_elementData_915e3_5 ?_
  refine W.widen (k := 0) (n := 0) (Nat.le_of_ble_eq_true rfl) (Nat.le_of_ble_eq_true rfl) ?_
  exact W.aret hx hb hr (Or.inl ⟨_, rfl⟩) (Or.inr ⟨_, rfl⟩) (fun tz htz hW => ⟨⟨(), al (hf i), rfl, trivial, rfl, g_end htz hP⟩, hS.F htz⟩) hS.2.2 dJx4a65c_elementData_915e3_6
set_option maxHeartbeats 4000000 in
set_option maxRecDepth 100000 in
theorem kJx4a65c_get_915e3 (l : Launch) (G : gT) (al : Nat → Nat) (c : mC) (li : Nat) (di : Nat) (n : Nat) (hf : Nat → Nat) (i : Nat) (hlst : gLs G al c li di n hf) (hi : i < n) : Met l yJx4a65c_get_915e3 (fW yJx4a65c_get_915e3 cJx4a65c_get_915e3 2 (some (.object "java/lang/Object"))) { frames := 2, cells := 0, slots := 0, locals := 43 } (gPre G al (c) [.ref (al li), .int (nI i)]) (gQr (S := Unit) G (fun _ => al (hf i)) (fun _ => al) (fun _ => c)) 0 0 (gA G) := by
  refine Met.ofW (cc := cJx4a65c_get_915e3) (maxL := 2) (ret := (some (.object "java/lang/Object"))) (by decide) rfl ?_
  intro pz ez s m args below meth c₀ s₁ Bo hml hv
  obtain ⟨rfl, hb0, hP, hE⟩ := hv
  have hx := Bo.exec
  have hb := Bo.bytes
  have hr := Bo.returns
  have hts0 := atoms_spec (ws := (fW yJx4a65c_get_915e3 cJx4a65c_get_915e3 2 (some (.object "java/lang/Object")))) Bo.pre
  have hts : ∀ w ∈ fA, w.before _ s = true := fun w h => hts0 w (List.mem_cons_of_mem _ h)
  have hown : s.vm.findClass RJx4a65c = some m.cls := findClass_of_methodNamed Bo.named
  have hlocks := Bo.notSynchronized
  have hl := lv_entry ([.ref (al li), .int (nI i)]) (n := 2) (Nat.le_of_ble_eq_true rfl)
  rw [lg_entry_eq]
  generalize (lg_sl ([.ref (al li), .int (nI i)]) ++ List.replicate (2 - (lg_sl ([.ref (al li), .int (nI i)])).length) Slot.unset).toArray = ls at hl ⊢
  have hl : lv_has ls 2 [(0, .ref (al li)), (1, .int (nI i))] := hl
  have hlst0 := hlst
  obtain ⟨mo, cap, ff, e1, e2, e3, e4, e5⟩ := hlst
  refine g_start hP (fun H hP hS => ?_)
  refine lv_iload_n hx hb dJx4a65c_get_915e3_0 rfl (lv_at hl 1 rfl) ?_
  refine lv_aload_n hx hb dJx4a65c_get_915e3_1 rfl (lv_at hl 0 rfl) ?_
  refine m_get (C := RJx4a65c) (T := TJx4a65c) (N := 3) (ci := 0) (v := .int (nI n)) hx hb hts uJx4a65c hown hE hP li rfl e1 rfl 2 (by decide) (hts _ q35) (fun _ h9 => h9) rfl dJx4a65c_get_915e3_2 ?_
  refine g_aft_i (g_runS (As := [.int (nI i), .int (nI n)]) (rest := []) hx hb hml hown hts (kJ15_checkIndex_7cf53 l G al c i n hi (by omega)) (fcwS 2 hts q44 q45 q46 q37 rfl rfl (by decide +kernel) ⟨(Nat.le_of_ble_eq_true rfl), (Nat.le_of_ble_eq_true rfl)⟩) hE hb0 hP hS rfl hl.1 rfl (Nat.le_of_ble_eq_true rfl) dJx4a65c_get_915e3_5 ⟨(Nat.le_of_ble_eq_true rfl), (Nat.le_of_ble_eq_true rfl)⟩) hS (fun u H locs hP hS => ?_)
  refine f_topi (v := nI i) rfl ?_
  refine lv_pop hx hb dJx4a65c_get_915e3_8 rfl ?_
  refine lv_aload_n hx hb dJx4a65c_get_915e3_9 rfl (lv_at hl 0 rfl) ?_
  refine lv_iload_n hx hb dJx4a65c_get_915e3_10 rfl (lv_at hl 1 rfl) ?_
  refine g_aft_r (g_runV (As := [.int (nI i)]) (rest := []) hx hb hml hown hts (kJx4a65c_elementData_915e3 l G al c li di n hf i hlst0 (by omega)) (fcwV 1 hts q47 q48 q49 q50 q41 rfl rfl (by decide +kernel) ⟨(Nat.le_of_ble_eq_true rfl), (Nat.le_of_ble_eq_true rfl)⟩) hE hb0 hP hS (m_recvL hE hP hlst0 rfl) rfl hl.1 rfl (Nat.le_of_ble_eq_true rfl) dJx4a65c_get_915e3_11 ⟨(Nat.le_of_ble_eq_true rfl), (Nat.le_of_ble_eq_true rfl)⟩) hS (fun u H locs hP hS => ?_)
  refine g_topr (v := al (hf i)) rfl ?_
  refine W.widen (k := 0) (n := 0) (Nat.le_of_ble_eq_true rfl) (Nat.le_of_ble_eq_true rfl) ?_
  exact W.aret hx hb hr (Or.inl ⟨_, rfl⟩) (Or.inr ⟨_, rfl⟩) (fun tz htz hW => ⟨⟨(), al (hf i), rfl, trivial, rfl, g_end htz hP⟩, hS.F htz⟩) hS.2.2 dJx4a65c_get_915e3_14
end
section
set_option maxHeartbeats 4000000 in
set_option maxRecDepth 100000 in
theorem kX7_nearer (l : Launch) (G : gT) (al : Nat → Nat) (c : mC) (a : Int32) (b : Int32)  : Met l yX7_nearer (fW yX7_nearer cX7_nearer 2 (some .int)) { frames := 0, cells := 0, slots := 0, locals := 0 } (gPre G al (c) [.int a, .int b]) (gQi (S := Unit) G (fun _ => mNear a b) (fun _ => al) (fun _ => c)) 0 0 (gA G) := by
  refine Met.ofW (cc := cX7_nearer) (maxL := 2) (ret := (some .int)) (by decide) rfl ?_
  intro pz ez s m args below meth c₀ s₁ Bo hml hv
  obtain ⟨rfl, hb0, hP, hE⟩ := hv
  have hx := Bo.exec
  have hb := Bo.bytes
  have hr := Bo.returns
  have hts0 := atoms_spec (ws := (fW yX7_nearer cX7_nearer 2 (some .int))) Bo.pre
  have hts : ∀ w ∈ fA, w.before _ s = true := fun w h => hts0 w (List.mem_cons_of_mem _ h)
  have hown : s.vm.findClass RX7 = some m.cls := findClass_of_methodNamed Bo.named
  have hlocks := Bo.notSynchronized
  have hl := lv_entry ([.int a, .int b]) (n := 2) (Nat.le_of_ble_eq_true rfl)
  rw [lg_entry_eq]
  generalize (lg_sl ([.int a, .int b]) ++ List.replicate (2 - (lg_sl ([.int a, .int b])).length) Slot.unset).toArray = ls at hl ⊢
  have hl : lv_has ls 2 [(0, .int a), (1, .int b)] := hl
  refine g_start hP (fun H hP hS => ?_)
  refine lv_iload_n hx hb dX7_nearer_0 rfl (lv_at hl 0 rfl) ?_
  refine lv_iload_n hx hb dX7_nearer_1 rfl (lv_at hl 1 rfl) ?_
  refine lv_icmp_ge (tgt := 11) hx hb dX7_nearer_2 (by decide) (fun hc_1 => ?_) (fun hc_1 => ?_)
  · skip
    refine lv_iload_n hx hb dX7_nearer_11 rfl (lv_at hl 0 rfl) ?_
    refine lv_iload_n hx hb dX7_nearer_12 rfl (lv_at hl 1 rfl) ?_
    refine lv_icmp_le (tgt := 22) hx hb dX7_nearer_13 (by decide) (fun hc_2 => ?_) (fun hc_2 => ?_)
    · skip
      refine lv_iload_n hx hb dX7_nearer_22 rfl (lv_at hl 1 rfl) ?_
      refine W.widen (k := 0) (n := 0) (Nat.le_of_ble_eq_true rfl) (Nat.le_of_ble_eq_true rfl) ?_
      exact W.iret (v := b) hx hb hr (fun tz htz hW => ⟨⟨b, (), rfl, (by unfold mNear; rw [if_pos hc_1, if_pos hc_2]; try rfl), g_end htz hP⟩, hS.F htz⟩) hS.2.2 dX7_nearer_23
    · skip
      refine lv_iload_n hx hb dX7_nearer_16 rfl (lv_at hl 0 rfl) ?_
      refine lv_iconst (v := 1) hx hb dX7_nearer_17 (by decide) ?_
      refine lv_isub hx hb dX7_nearer_18 ?_
      refine lv_goto (tgt := 23) hx hb dX7_nearer_19 (by decide) ?_
      refine W.widen (k := 0) (n := 0) (Nat.le_of_ble_eq_true rfl) (Nat.le_of_ble_eq_true rfl) ?_
      exact W.iret (v := a - 1) hx hb hr (fun tz htz hW => ⟨⟨a - 1, (), rfl, (by unfold mNear; rw [if_pos hc_1, if_neg hc_2]; try rfl), g_end htz hP⟩, hS.F htz⟩) hS.2.2 dX7_nearer_23
  · skip
    refine lv_iload_n hx hb dX7_nearer_5 rfl (lv_at hl 0 rfl) ?_
    refine lv_iconst (v := 1) hx hb dX7_nearer_6 (by decide) ?_
    refine lv_iadd hx hb dX7_nearer_7 ?_
    refine lv_goto (tgt := 23) hx hb dX7_nearer_8 (by decide) ?_
    refine W.widen (k := 0) (n := 0) (Nat.le_of_ble_eq_true rfl) (Nat.le_of_ble_eq_true rfl) ?_
    exact W.iret (v := a + 1) hx hb hr (fun tz htz hW => ⟨⟨a + 1, (), rfl, (by unfold mNear; rw [if_neg hc_1]; try rfl), g_end htz hP⟩, hS.F htz⟩) hS.2.2 dX7_nearer_23
set_option maxHeartbeats 4000000 in
set_option maxRecDepth 100000 in
theorem kX7_pressureBy (l : Launch) (G : gT) (al : Nat → Nat) (c : mC) (d : Int32) (w : Int32) (f : Int32)  : Met l yX7_pressureBy (fW yX7_pressureBy cX7_pressureBy 4 (some .int)) { frames := 0, cells := 0, slots := 0, locals := 0 } (gPre G al (c) [.int d, .int w, .int f]) (gQi (S := Unit) G (fun _ => mPby d w f) (fun _ => al) (fun _ => c)) 0 0 (gA G) := by
  refine Met.ofW (cc := cX7_pressureBy) (maxL := 4) (ret := (some .int)) (by decide) rfl ?_
  intro pz ez s m args below meth c₀ s₁ Bo hml hv
  obtain ⟨rfl, hb0, hP, hE⟩ := hv
  have hx := Bo.exec
  have hb := Bo.bytes
  have hr := Bo.returns
  have hts0 := atoms_spec (ws := (fW yX7_pressureBy cX7_pressureBy 4 (some .int))) Bo.pre
  have hts : ∀ w ∈ fA, w.before _ s = true := fun w h => hts0 w (List.mem_cons_of_mem _ h)
  have hown : s.vm.findClass RX7 = some m.cls := findClass_of_methodNamed Bo.named
  have hlocks := Bo.notSynchronized
  have hl := lv_entry ([.int d, .int w, .int f]) (n := 4) (Nat.le_of_ble_eq_true rfl)
  rw [lg_entry_eq]
  generalize (lg_sl ([.int d, .int w, .int f]) ++ List.replicate (4 - (lg_sl ([.int d, .int w, .int f])).length) Slot.unset).toArray = ls at hl ⊢
  have hl : lv_has ls 4 [(0, .int d), (1, .int w), (2, .int f)] := hl
  refine g_start hP (fun H hP hS => ?_)
  refine lv_bipush (v := 20) hx hb dX7_pressureBy_0 (by decide) ?_
  refine lv_iload_n hx hb dX7_pressureBy_2 rfl (lv_at hl 2 rfl) ?_
  refine lv_iadd hx hb dX7_pressureBy_3 ?_
  refine lv_istore_n (lv' := [(3, .int (20 + f)), (0, .int d), (1, .int w), (2, .int f)]) hx hb dX7_pressureBy_4 rfl hl (by decide) rfl (fun ls hl => ?_)
  refine lv_iload_n hx hb dX7_pressureBy_5 rfl (lv_at hl 0 rfl) ?_
  refine lv_if_le (tgt := 20) hx hb dX7_pressureBy_6 (by decide) (fun hc_1 => ?_) (fun hc_1 => ?_)
  · skip
    refine lv_iconst (v := 0) hx hb dX7_pressureBy_20 (by decide) ?_
    refine W.widen (k := 0) (n := 0) (Nat.le_of_ble_eq_true rfl) (Nat.le_of_ble_eq_true rfl) ?_
    exact W.iret (v := 0) hx hb hr (fun tz htz hW => ⟨⟨0, (), rfl, (by unfold mPby; rw [if_pos hc_1]; try rfl), g_end htz hP⟩, hS.F htz⟩) hS.2.2 dX7_pressureBy_21
  · skip
    refine lv_bipush (v := 10) hx hb dX7_pressureBy_9 (by decide) ?_
    refine lv_iload_n hx hb dX7_pressureBy_11 rfl (lv_at hl 1 rfl) ?_
    refine lv_imul hx hb dX7_pressureBy_12 ?_
    refine lv_iload_n hx hb dX7_pressureBy_13 rfl (lv_at hl 2 rfl) ?_
    refine lv_imul hx hb dX7_pressureBy_14 ?_
    refine lv_iload_n hx hb dX7_pressureBy_15 rfl (lv_at hl 0 rfl) ?_
    refine lv_idiv hx hb dX7_pressureBy_16 (fun h9 => hc_1 (by rw [h9]; decide)) ?_
    refine lv_goto (tgt := 21) hx hb dX7_pressureBy_17 (by decide) ?_
    refine W.widen (k := 0) (n := 0) (Nat.le_of_ble_eq_true rfl) (Nat.le_of_ble_eq_true rfl) ?_
    exact W.iret (v := ((10 * d) * w) / (20 + f)) hx hb hr (fun tz htz hW => ⟨⟨((10 * d) * w) / (20 + f), (), rfl, (by unfold mPby; rw [if_neg hc_1]; try rfl), g_end htz hP⟩, hS.F htz⟩) hS.2.2 dX7_pressureBy_21
set_option maxHeartbeats 4000000 in
set_option maxRecDepth 100000 in
theorem kX7_heightBy (l : Launch) (G : gT) (al : Nat → Nat) (c : mC) (v : Int32) (u : Int32)  : Met l yX7_heightBy (fW yX7_heightBy cX7_heightBy 2 (some .int)) { frames := 1, cells := 0, slots := 0, locals := 13 } (gPre G al (c) [.int v, .int u]) (gQi (S := Unit) G (fun _ => mHby v u) (fun _ => al) (fun _ => c)) 0 0 (gA G) := by
  refine Met.ofW (cc := cX7_heightBy) (maxL := 2) (ret := (some .int)) (by decide) rfl ?_
  intro pz ez s m args below meth c₀ s₁ Bo hml hv
  obtain ⟨rfl, hb0, hP, hE⟩ := hv
  have hx := Bo.exec
  have hb := Bo.bytes
  have hr := Bo.returns
  have hts0 := atoms_spec (ws := (fW yX7_heightBy cX7_heightBy 2 (some .int))) Bo.pre
  have hts : ∀ w ∈ fA, w.before _ s = true := fun w h => hts0 w (List.mem_cons_of_mem _ h)
  have hown : s.vm.findClass RX7 = some m.cls := findClass_of_methodNamed Bo.named
  have hlocks := Bo.notSynchronized
  have hl := lv_entry ([.int v, .int u]) (n := 2) (Nat.le_of_ble_eq_true rfl)
  rw [lg_entry_eq]
  generalize (lg_sl ([.int v, .int u]) ++ List.replicate (2 - (lg_sl ([.int v, .int u])).length) Slot.unset).toArray = ls at hl ⊢
  have hl : lv_has ls 2 [(0, .int v), (1, .int u)] := hl
  refine g_start hP (fun H hP hS => ?_)
  refine lv_bipush (v := 60) hx hb dX7_heightBy_0 (by decide) ?_
  refine lv_iload_n hx hb dX7_heightBy_2 rfl (lv_at hl 0 rfl) ?_
  refine lv_iload_n hx hb dX7_heightBy_3 rfl (lv_at hl 1 rfl) ?_
  refine lv_imul hx hb dX7_heightBy_4 ?_
  refine lv_iconst (v := 4) hx hb dX7_heightBy_5 (by decide) ?_
  refine lv_idiv hx hb dX7_heightBy_6 (by decide) ?_
  refine va_mmin hx hb (hml.trans hl.1.symm) hown (hts _ q206) (hts _ q95) (hts _ q87) (hts _ q96) (Nat.le_of_ble_eq_true rfl) (Nat.le_of_ble_eq_true rfl) (Nat.le_of_ble_eq_true rfl) (Nat.le_of_ble_eq_true rfl) dX7_heightBy_7 ?_
  refine W.widen (k := 0) (n := 0) (Nat.le_of_ble_eq_true rfl) (Nat.le_of_ble_eq_true rfl) ?_
  exact W.iret (v := if ((v * u) / 4) < 60 then ((v * u) / 4) else 60) hx hb hr (fun tz htz hW => ⟨⟨if ((v * u) / 4) < 60 then ((v * u) / 4) else 60, (), rfl, (by unfold mHby; rfl), g_end htz hP⟩, hS.F htz⟩) hS.2.2 dX7_heightBy_10
set_option maxHeartbeats 4000000 in
set_option maxRecDepth 100000 in
theorem kX7_airTime (l : Launch) (G : gT) (al : Nat → Nat) (c : mC) (v : Int32)  : Met l yX7_airTime (fW yX7_airTime cX7_airTime 1 (some .int)) { frames := 0, cells := 0, slots := 0, locals := 0 } (gPre G al (c) [.int v]) (gQi (S := Unit) G (fun _ => mAir v) (fun _ => al) (fun _ => c)) 0 0 (gA G) := by
  refine Met.ofW (cc := cX7_airTime) (maxL := 1) (ret := (some .int)) (by decide) rfl ?_
  intro pz ez s m args below meth c₀ s₁ Bo hml hv
  obtain ⟨rfl, hb0, hP, hE⟩ := hv
  have hx := Bo.exec
  have hb := Bo.bytes
  have hr := Bo.returns
  have hts0 := atoms_spec (ws := (fW yX7_airTime cX7_airTime 1 (some .int))) Bo.pre
  have hts : ∀ w ∈ fA, w.before _ s = true := fun w h => hts0 w (List.mem_cons_of_mem _ h)
  have hown : s.vm.findClass RX7 = some m.cls := findClass_of_methodNamed Bo.named
  have hlocks := Bo.notSynchronized
  have hl := lv_entry ([.int v]) (n := 1) (Nat.le_of_ble_eq_true rfl)
  rw [lg_entry_eq]
  generalize (lg_sl ([.int v]) ++ List.replicate (1 - (lg_sl ([.int v])).length) Slot.unset).toArray = ls at hl ⊢
  have hl : lv_has ls 1 [(0, .int v)] := hl
  refine g_start hP (fun H hP hS => ?_)
  refine lv_iconst (v := 2) hx hb dX7_airTime_0 (by decide) ?_
  refine lv_iload_n hx hb dX7_airTime_1 rfl (lv_at hl 0 rfl) ?_
  refine lv_bipush (v := 10) hx hb dX7_airTime_2 (by decide) ?_
  refine lv_idiv hx hb dX7_airTime_4 (by decide) ?_
  refine lv_iadd hx hb dX7_airTime_5 ?_
  refine W.widen (k := 0) (n := 0) (Nat.le_of_ble_eq_true rfl) (Nat.le_of_ble_eq_true rfl) ?_
  exact W.iret (v := 2 + (v / 10)) hx hb hr (fun tz htz hW => ⟨⟨2 + (v / 10), (), rfl, (by unfold mAir; rfl), g_end htz hP⟩, hS.F htz⟩) hS.2.2 dX7_airTime_6
set_option maxHeartbeats 4000000 in
set_option maxRecDepth 100000 in
theorem kX0_slotOf (l : Launch) (G : gT) (al : Nat → Nat) (c : mC) (v : Int32)  : Met l yX0_slotOf (fW yX0_slotOf cX0_slotOf 1 (some .int)) { frames := 1, cells := 0, slots := 0, locals := 22 } (gPre G al (c) [.int v]) (gQi (S := Unit) G (fun _ => mFm v 9) (fun _ => al) (fun _ => c)) 0 0 (gA G) := by
  refine Met.ofW (cc := cX0_slotOf) (maxL := 1) (ret := (some .int)) (by decide) rfl ?_
  intro pz ez s m args below meth c₀ s₁ Bo hml hv
  obtain ⟨rfl, hb0, hP, hE⟩ := hv
  have hx := Bo.exec
  have hb := Bo.bytes
  have hr := Bo.returns
  have hts0 := atoms_spec (ws := (fW yX0_slotOf cX0_slotOf 1 (some .int))) Bo.pre
  have hts : ∀ w ∈ fA, w.before _ s = true := fun w h => hts0 w (List.mem_cons_of_mem _ h)
  have hown : s.vm.findClass RX0 = some m.cls := findClass_of_methodNamed Bo.named
  have hlocks := Bo.notSynchronized
  have hl := lv_entry ([.int v]) (n := 1) (Nat.le_of_ble_eq_true rfl)
  rw [lg_entry_eq]
  generalize (lg_sl ([.int v]) ++ List.replicate (1 - (lg_sl ([.int v])).length) Slot.unset).toArray = ls at hl ⊢
  have hl : lv_has ls 1 [(0, .int v)] := hl
  refine g_start hP (fun H hP hS => ?_)
  refine lv_iload_n hx hb dX0_slotOf_0 rfl (lv_at hl 0 rfl) ?_
  refine lv_bipush (v := 9) hx hb dX0_slotOf_1 (by decide) ?_
  refine g_aft_i (g_runS (As := [.int v, .int 9]) (rest := []) hx hb hml hown hts (kJ9_floorMod_7cf53 l G al c v 9 (by decide)) (fcwS 2 hts q10 q11 q12 q8 rfl rfl (by decide +kernel) ⟨(Nat.le_of_ble_eq_true rfl), (Nat.le_of_ble_eq_true rfl)⟩) hE hb0 hP hS rfl hl.1 rfl (Nat.le_of_ble_eq_true rfl) dX0_slotOf_3 ⟨(Nat.le_of_ble_eq_true rfl), (Nat.le_of_ble_eq_true rfl)⟩) hS (fun u H locs hP hS => ?_)
  refine f_topi (v := mFm v 9) rfl ?_
  refine W.widen (k := 0) (n := 0) (Nat.le_of_ble_eq_true rfl) (Nat.le_of_ble_eq_true rfl) ?_
  exact W.iret (v := mFm v 9) hx hb hr (fun tz htz hW => ⟨⟨mFm v 9, (), rfl, rfl, g_end htz hP⟩, hS.F htz⟩) hS.2.2 dX0_slotOf_6
set_option maxHeartbeats 4000000 in
set_option maxRecDepth 100000 in
theorem kX4_setTo (l : Launch) (G : gT) (al : Nat → Nat) (k : gC) (h : gK) (B : Nat) (c : mC) (g : St) (p : Nat) (v : Int32) (hp : p < 2) : Met l yX4_setTo (fW yX4_setTo cX4_setTo 2 none) { frames := 0, cells := 0, slots := 0, locals := 0 } (gPre G al (ov G al k B c g) [.ref (al (B + 11 + p)), .int v]) (gQv (S := Unit) G (fun _ => al) (fun _ => ov G al k B c (mSetTo g p v))) 0 0 (gA G) := by
  refine Met.ofW (cc := cX4_setTo) (maxL := 2) (ret := none) (by decide) rfl ?_
  intro pz ez s m args below meth c₀ s₁ Bo hml hv
  obtain ⟨rfl, hb0, hP, hE⟩ := hv
  have hx := Bo.exec
  have hb := Bo.bytes
  have hr := Bo.returns
  have hts0 := atoms_spec (ws := (fW yX4_setTo cX4_setTo 2 none)) Bo.pre
  have hts : ∀ w ∈ fA, w.before _ s = true := fun w h => hts0 w (List.mem_cons_of_mem _ h)
  have hown : s.vm.findClass RX4 = some m.cls := findClass_of_methodNamed Bo.named
  have hlocks := Bo.notSynchronized
  have hl := lv_entry ([.ref (al (B + 11 + p)), .int v]) (n := 2) (Nat.le_of_ble_eq_true rfl)
  rw [lg_entry_eq]
  generalize (lg_sl ([.ref (al (B + 11 + p)), .int v]) ++ List.replicate (2 - (lg_sl ([.ref (al (B + 11 + p)), .int v])).length) Slot.unset).toArray = ls at hl ⊢
  have hl : lv_has ls 2 [(0, .ref (al (B + 11 + p))), (1, .int v)] := hl
  refine g_start hP (fun H hP hS => ?_)
  refine lv_aload_n hx hb dX4_setTo_0 rfl (lv_at hl 0 rfl) ?_
  refine m_get (C := RX4) (T := TX4) (N := 6) (ci := 5) (v := .int (bz (g (1 + p) 4))) hx hb hts uX4 hown hE hP (B + 11 + p) rfl (ov_p hp) rfl 4 (by decide) (hts _ q153) (fun _ h9 => h9) rfl dX4_setTo_1 ?_
  refine lv_if_ne (tgt := 12) hx hb dX4_setTo_4 (by decide) (fun hc_1 => ?_) (fun hc_1 => ?_)
  · skip
    have hP : mP G al (ov G al k B c (mSetTo g p v)) H := m_cv hP (show ov G al k B c g = ov G al k B c (mSetTo g p v) from (by unfold mSetTo; rw [if_neg hc_1]; try rfl))
    refine W.widen (k := 0) (n := 0) (Nat.le_of_ble_eq_true rfl) (Nat.le_of_ble_eq_true rfl) ?_
    exact W.vret hx hb hr (fun tz htz hW => ⟨⟨(), rfl, trivial, g_end htz hP⟩, hS.F htz⟩) hS.2.2 dX4_setTo_12
  · skip
    refine lv_aload_n hx hb dX4_setTo_7 rfl (lv_at hl 0 rfl) ?_
    refine lv_iload_n hx hb dX4_setTo_8 rfl (lv_at hl 1 rfl) ?_
    refine m_put (v := .int v) (ty := .int) (C := RX4) (T := TX4) (N := 6) (ci := 5) hx hb hts uX4 tyX4 tyX4_ok nmX4 hown hE hP hS (B + 11 + p) rfl (ov_p hp) rfl 2 (by decide) (hts _ q154) (fun _ h9 => h9) rfl (by decide +kernel) rfl rfl (Nat.le_of_ble_eq_true rfl) dX4_setTo_9 (fun H locs hP hS => ?_)
    have hP := m_cv hP (ov_up (r := upd (g (1 + p)) 2 v) hp rfl)
    have hP : mP G al (ov G al k B c (s2 g (1 + p) 2 v)) H := hP
    have hP : mP G al (ov G al k B c (mSetTo g p v)) H := m_cv hP (show ov G al k B c (s2 g (1 + p) 2 v) = ov G al k B c (mSetTo g p v) from (by unfold mSetTo; rw [if_pos hc_1]; try rfl))
    refine W.widen (k := 0) (n := 0) (Nat.le_of_ble_eq_true rfl) (Nat.le_of_ble_eq_true rfl) ?_
    exact W.vret hx hb hr (fun tz htz hW => ⟨⟨(), rfl, trivial, g_end htz hP⟩, hS.F htz⟩) hS.2.2 dX4_setTo_12
set_option maxHeartbeats 4000000 in
set_option maxRecDepth 100000 in
theorem kX4_turn (l : Launch) (G : gT) (al : Nat → Nat) (k : gC) (h : gK) (B : Nat) (c : mC) (g : St) (p : Nat) (hp : p < 2) : Met l yX4_turn (fW yX4_turn cX4_turn 1 none) { frames := 1, cells := 0, slots := 0, locals := 21 } (gPre G al (ov G al k B c g) [.ref (al (B + 11 + p))]) (gQv (S := Unit) G (fun _ => al) (fun _ => ov G al k B c (mPTurn g p))) 0 0 (gA G) := by
  refine Met.ofW (cc := cX4_turn) (maxL := 1) (ret := none) (by decide) rfl ?_
  intro pz ez s m args below meth c₀ s₁ Bo hml hv
  obtain ⟨rfl, hb0, hP, hE⟩ := hv
  have hx := Bo.exec
  have hb := Bo.bytes
  have hr := Bo.returns
  have hts0 := atoms_spec (ws := (fW yX4_turn cX4_turn 1 none)) Bo.pre
  have hts : ∀ w ∈ fA, w.before _ s = true := fun w h => hts0 w (List.mem_cons_of_mem _ h)
  have hown : s.vm.findClass RX4 = some m.cls := findClass_of_methodNamed Bo.named
  have hlocks := Bo.notSynchronized
  have hl := lv_entry ([.ref (al (B + 11 + p))]) (n := 1) (Nat.le_of_ble_eq_true rfl)
  rw [lg_entry_eq]
  generalize (lg_sl ([.ref (al (B + 11 + p))]) ++ List.replicate (1 - (lg_sl ([.ref (al (B + 11 + p))])).length) Slot.unset).toArray = ls at hl ⊢
  have hl : lv_has ls 1 [(0, .ref (al (B + 11 + p)))] := hl
  refine g_start hP (fun H hP hS => ?_)
  refine lv_aload_n hx hb dX4_turn_0 rfl (lv_at hl 0 rfl) ?_
  refine m_get (C := RX4) (T := TX4) (N := 6) (ci := 5) (v := .int (bz (g (1 + p) 4))) hx hb hts uX4 hown hE hP (B + 11 + p) rfl (ov_p hp) rfl 4 (by decide) (hts _ q153) (fun _ h9 => h9) rfl dX4_turn_1 ?_
  refine lv_if_ne (tgt := 22) hx hb dX4_turn_4 (by decide) (fun hc_1 => ?_) (fun hc_1 => ?_)
  · skip
    have hP : mP G al (ov G al k B c (mPTurn g p)) H := m_cv hP (show ov G al k B c g = ov G al k B c (mPTurn g p) from (by unfold mPTurn; rw [if_neg hc_1]; try rfl))
    refine W.widen (k := 0) (n := 0) (Nat.le_of_ble_eq_true rfl) (Nat.le_of_ble_eq_true rfl) ?_
    exact W.vret hx hb hr (fun tz htz hW => ⟨⟨(), rfl, trivial, g_end htz hP⟩, hS.F htz⟩) hS.2.2 dX4_turn_22
  · skip
    refine lv_aload_n hx hb dX4_turn_7 rfl (lv_at hl 0 rfl) ?_
    refine lv_aload_n hx hb dX4_turn_8 rfl (lv_at hl 0 rfl) ?_
    refine m_get (C := RX4) (T := TX4) (N := 6) (ci := 5) (v := .int (g (1 + p) 3)) hx hb hts uX4 hown hE hP (B + 11 + p) rfl (ov_p hp) rfl 3 (by decide) (hts _ q167) (fun _ h9 => h9) rfl dX4_turn_9 ?_
    refine lv_aload_n hx hb dX4_turn_12 rfl (lv_at hl 0 rfl) ?_
    refine m_get (C := RX4) (T := TX4) (N := 6) (ci := 5) (v := .int (g (1 + p) 2)) hx hb hts uX4 hown hE hP (B + 11 + p) rfl (ov_p hp) rfl 2 (by decide) (hts _ q154) (fun _ h9 => h9) rfl dX4_turn_13 ?_
    refine g_aft_i (g_runSN (As := [.int (g (1 + p) 3), .int (g (1 + p) 2)]) (rest := [.ref (al (B + 11 + p))]) hx hb hml hown hts (kX7_nearer l G al (ov G al k B c g) (g (1 + p) 3) (g (1 + p) 2)) (fcwSN 2 hts (hE.1.1.2.2.2.2.1 (RX4, 26, yX7_nearer, RX7) (by decide +kernel)) q147 q148 q143 rfl rfl (by decide +kernel) ⟨(Nat.le_of_ble_eq_true rfl), (Nat.le_of_ble_eq_true rfl)⟩) hE hb0 hP hS rfl hl.1 rfl (Nat.le_of_ble_eq_true rfl) dX4_turn_16 ⟨(Nat.le_of_ble_eq_true rfl), (Nat.le_of_ble_eq_true rfl)⟩) hS (fun u H locs hP hS => ?_)
    refine f_topi (v := mNear (g (1 + p) 3) (g (1 + p) 2)) rfl ?_
    refine m_put (v := .int (mNear (g (1 + p) 3) (g (1 + p) 2))) (ty := .int) (C := RX4) (T := TX4) (N := 6) (ci := 5) hx hb hts uX4 tyX4 tyX4_ok nmX4 hown hE hP hS (B + 11 + p) rfl (ov_p hp) rfl 3 (by decide) (hts _ q167) (fun _ h9 => h9) rfl (by decide +kernel) rfl rfl (Nat.le_of_ble_eq_true rfl) dX4_turn_19 (fun H locs hP hS => ?_)
    have hP := m_cv hP (ov_up (r := upd (g (1 + p)) 3 (mNear (g (1 + p) 3) (g (1 + p) 2))) hp rfl)
    have hP : mP G al (ov G al k B c (s2 g (1 + p) 3 (mNear (g (1 + p) 3) (g (1 + p) 2)))) H := hP
    have hP : mP G al (ov G al k B c (mPTurn g p)) H := m_cv hP (show ov G al k B c (s2 g (1 + p) 3 (mNear (g (1 + p) 3) (g (1 + p) 2))) = ov G al k B c (mPTurn g p) from (by unfold mPTurn; rw [if_pos hc_1]; try rfl))
    refine W.widen (k := 0) (n := 0) (Nat.le_of_ble_eq_true rfl) (Nat.le_of_ble_eq_true rfl) ?_
    exact W.vret hx hb hr (fun tz htz hW => ⟨⟨(), rfl, trivial, g_end htz hP⟩, hS.F htz⟩) hS.2.2 dX4_turn_22
set_option maxHeartbeats 4000000 in
set_option maxRecDepth 100000 in
theorem kX4_trip (l : Launch) (G : gT) (al : Nat → Nat) (k : gC) (h : gK) (B : Nat) (c : mC) (g : St) (p : Nat) (hp : p < 2) : Met l yX4_trip (fW yX4_trip cX4_trip 1 none) { frames := 0, cells := 0, slots := 0, locals := 0 } (gPre G al (ov G al k B c g) [.ref (al (B + 11 + p))]) (gQv (S := Unit) G (fun _ => al) (fun _ => ov G al k B c (mTrip g p))) 0 0 (gA G) := by
  refine Met.ofW (cc := cX4_trip) (maxL := 1) (ret := none) (by decide) rfl ?_
  intro pz ez s m args below meth c₀ s₁ Bo hml hv
  obtain ⟨rfl, hb0, hP, hE⟩ := hv
  have hx := Bo.exec
  have hb := Bo.bytes
  have hr := Bo.returns
  have hts0 := atoms_spec (ws := (fW yX4_trip cX4_trip 1 none)) Bo.pre
  have hts : ∀ w ∈ fA, w.before _ s = true := fun w h => hts0 w (List.mem_cons_of_mem _ h)
  have hown : s.vm.findClass RX4 = some m.cls := findClass_of_methodNamed Bo.named
  have hlocks := Bo.notSynchronized
  have hl := lv_entry ([.ref (al (B + 11 + p))]) (n := 1) (Nat.le_of_ble_eq_true rfl)
  rw [lg_entry_eq]
  generalize (lg_sl ([.ref (al (B + 11 + p))]) ++ List.replicate (1 - (lg_sl ([.ref (al (B + 11 + p))])).length) Slot.unset).toArray = ls at hl ⊢
  have hl : lv_has ls 1 [(0, .ref (al (B + 11 + p)))] := hl
  refine g_start hP (fun H hP hS => ?_)
  refine lv_aload_n hx hb dX4_trip_0 rfl (lv_at hl 0 rfl) ?_
  refine lv_iconst (v := 1) hx hb dX4_trip_1 (by decide) ?_
  refine m_put (v := .int 1) (ty := .boolean) (C := RX4) (T := TX4) (N := 6) (ci := 5) hx hb hts uX4 tyX4 tyX4_ok nmX4 hown hE hP hS (B + 11 + p) rfl (ov_p hp) rfl 4 (by decide) (hts _ q153) (fun _ h9 => h9) rfl (by decide +kernel) (by decide) (by decide) (Nat.le_of_ble_eq_true rfl) dX4_trip_2 (fun H locs hP hS => ?_)
  have hP := m_cv hP (ov_up (r := upd (g (1 + p)) 4 1) hp rfl)
  have hP : mP G al (ov G al k B c (s2 g (1 + p) 4 1)) H := hP
  refine lv_aload_n hx hb dX4_trip_5 rfl (lv_at hl 0 rfl) ?_
  refine lv_dup hx hb dX4_trip_6 rfl ?_
  refine m_get (C := RX4) (T := TX4) (N := 6) (ci := 5) (v := .int ((s2 g (1 + p) 4 1) (1 + p) 5)) hx hb hts uX4 hown hE hP (B + 11 + p) rfl (ov_p hp) rfl 5 (by decide) (hts _ q169) (fun _ h9 => h9) rfl dX4_trip_7 ?_
  refine f_topi (v := g (1 + p) 5) (s2_k _ _ _ (by decide)) ?_
  refine lv_iconst (v := 1) hx hb dX4_trip_10 (by decide) ?_
  refine lv_iadd hx hb dX4_trip_11 ?_
  refine m_put (v := .int ((g (1 + p) 5) + 1)) (ty := .int) (C := RX4) (T := TX4) (N := 6) (ci := 5) hx hb hts uX4 tyX4 tyX4_ok nmX4 hown hE hP hS (B + 11 + p) rfl (ov_p hp) rfl 5 (by decide) (hts _ q169) (fun _ h9 => h9) rfl (by decide +kernel) rfl rfl (Nat.le_of_ble_eq_true rfl) dX4_trip_12 (fun H locs hP hS => ?_)
  have hP := m_cv hP (ov_up (r := upd ((s2 g (1 + p) 4 1) (1 + p)) 5 ((g (1 + p) 5) + 1)) hp rfl)
  have hP : mP G al (ov G al k B c (s2 (s2 g (1 + p) 4 1) (1 + p) 5 ((g (1 + p) 5) + 1))) H := hP
  refine lv_aload_n hx hb dX4_trip_15 rfl (lv_at hl 0 rfl) ?_
  refine lv_iconst (v := 0) hx hb dX4_trip_16 (by decide) ?_
  refine m_put (v := .int 0) (ty := .int) (C := RX4) (T := TX4) (N := 6) (ci := 5) hx hb hts uX4 tyX4 tyX4_ok nmX4 hown hE hP hS (B + 11 + p) rfl (ov_p hp) rfl 3 (by decide) (hts _ q167) (fun _ h9 => h9) rfl (by decide +kernel) rfl rfl (Nat.le_of_ble_eq_true rfl) dX4_trip_17 (fun H locs hP hS => ?_)
  have hP := m_cv hP (ov_up (r := upd ((s2 (s2 g (1 + p) 4 1) (1 + p) 5 ((g (1 + p) 5) + 1)) (1 + p)) 3 0) hp rfl)
  have hP : mP G al (ov G al k B c (s2 (s2 (s2 g (1 + p) 4 1) (1 + p) 5 ((g (1 + p) 5) + 1)) (1 + p) 3 0)) H := hP
  refine lv_aload_n hx hb dX4_trip_20 rfl (lv_at hl 0 rfl) ?_
  refine lv_iconst (v := 0) hx hb dX4_trip_21 (by decide) ?_
  refine m_put (v := .int 0) (ty := .int) (C := RX4) (T := TX4) (N := 6) (ci := 5) hx hb hts uX4 tyX4 tyX4_ok nmX4 hown hE hP hS (B + 11 + p) rfl (ov_p hp) rfl 2 (by decide) (hts _ q154) (fun _ h9 => h9) rfl (by decide +kernel) rfl rfl (Nat.le_of_ble_eq_true rfl) dX4_trip_22 (fun H locs hP hS => ?_)
  have hP := m_cv hP (ov_up (r := upd ((s2 (s2 (s2 g (1 + p) 4 1) (1 + p) 5 ((g (1 + p) 5) + 1)) (1 + p) 3 0) (1 + p)) 2 0) hp rfl)
  have hP : mP G al (ov G al k B c (s2 (s2 (s2 (s2 g (1 + p) 4 1) (1 + p) 5 ((g (1 + p) 5) + 1)) (1 + p) 3 0) (1 + p) 2 0)) H := hP
  have hP : mP G al (ov G al k B c (mTrip g p)) H := m_cv hP (show ov G al k B c (s2 (s2 (s2 (s2 g (1 + p) 4 1) (1 + p) 5 ((g (1 + p) 5) + 1)) (1 + p) 3 0) (1 + p) 2 0) = ov G al k B c (mTrip g p) from (by unfold mTrip; rfl))
  refine W.widen (k := 0) (n := 0) (Nat.le_of_ble_eq_true rfl) (Nat.le_of_ble_eq_true rfl) ?_
  exact W.vret hx hb hr (fun tz htz hW => ⟨⟨(), rfl, trivial, g_end htz hP⟩, hS.F htz⟩) hS.2.2 dX4_trip_25
set_option maxHeartbeats 4000000 in
set_option maxRecDepth 100000 in
theorem kX3_flow (l : Launch) (G : gT) (al : Nat → Nat) (k : gC) (h : gK) (B : Nat) (c : mC) (g : St) (j : Nat) (hj : j < k.1) : Met l yX3_flow (fW yX3_flow cX3_flow 1 (some .int)) { frames := 0, cells := 0, slots := 0, locals := 0 } (gPre G al (ov G al k B c g) [.ref (al (B + 20 + j))]) (gQi (S := Unit) G (fun _ => mFlow k g j) (fun _ => al) (fun _ => ov G al k B c g)) 0 0 (gA G) := by
  refine Met.ofW (cc := cX3_flow) (maxL := 1) (ret := (some .int)) (by decide) rfl ?_
  intro pz ez s m args below meth c₀ s₁ Bo hml hv
  obtain ⟨rfl, hb0, hP, hE⟩ := hv
  have hx := Bo.exec
  have hb := Bo.bytes
  have hr := Bo.returns
  have hts0 := atoms_spec (ws := (fW yX3_flow cX3_flow 1 (some .int))) Bo.pre
  have hts : ∀ w ∈ fA, w.before _ s = true := fun w h => hts0 w (List.mem_cons_of_mem _ h)
  have hown : s.vm.findClass RX3 = some m.cls := findClass_of_methodNamed Bo.named
  have hlocks := Bo.notSynchronized
  have hl := lv_entry ([.ref (al (B + 20 + j))]) (n := 1) (Nat.le_of_ble_eq_true rfl)
  rw [lg_entry_eq]
  generalize (lg_sl ([.ref (al (B + 20 + j))]) ++ List.replicate (1 - (lg_sl ([.ref (al (B + 20 + j))])).length) Slot.unset).toArray = ls at hl ⊢
  have hl : lv_has ls 1 [(0, .ref (al (B + 20 + j)))] := hl
  refine g_start hP (fun H hP hS => ?_)
  refine lv_aload_n hx hb dX3_flow_0 rfl (lv_at hl 0 rfl) ?_
  refine m_get (C := RX3) (T := TX3) (N := 10) (ci := 4) (v := .int (k.2.2 (3 + j) 2)) hx hb hts uX3 hown hE hP (B + 20 + j) rfl (ov_j hj) rfl 2 (by decide) (hts _ q139) (fun _ h9 => h9) rfl dX3_flow_1 ?_
  refine lv_aload_n hx hb dX3_flow_4 rfl (lv_at hl 0 rfl) ?_
  refine m_get (C := RX3) (T := TX3) (N := 10) (ci := 4) (v := .int (g (3 + j) 5)) hx hb hts uX3 hown hE hP (B + 20 + j) rfl (ov_j hj) rfl 5 (by decide) (hts _ q142) (fun _ h9 => h9) rfl dX3_flow_5 ?_
  refine lv_imul hx hb dX3_flow_8 ?_
  refine W.widen (k := 0) (n := 0) (Nat.le_of_ble_eq_true rfl) (Nat.le_of_ble_eq_true rfl) ?_
  exact W.iret (v := (k.2.2 (3 + j) 2) * (g (3 + j) 5)) hx hb hr (fun tz htz hW => ⟨⟨(k.2.2 (3 + j) 2) * (g (3 + j) 5), (), rfl, (by unfold mFlow; rfl), g_end htz hP⟩, hS.F htz⟩) hS.2.2 dX3_flow_9
set_option maxHeartbeats 4000000 in
set_option maxRecDepth 100000 in
theorem kX3_turn (l : Launch) (G : gT) (al : Nat → Nat) (k : gC) (h : gK) (B : Nat) (c : mC) (g : St) (j : Nat) (hF : gF G al k B c) (hj : j < k.1) : Met l yX3_turn (fW yX3_turn cX3_turn 1 none) { frames := 1, cells := 0, slots := 0, locals := 21 } (gPre G al (ov G al k B c g) [.ref (al (B + 20 + j))]) (gQv (S := Unit) G (fun _ => al) (fun _ => ov G al k B c (mJTurn g j))) 0 0 (gA G) := by
  refine Met.ofW (cc := cX3_turn) (maxL := 1) (ret := none) (by decide) rfl ?_
  intro pz ez s m args below meth c₀ s₁ Bo hml hv
  obtain ⟨rfl, hb0, hP, hE⟩ := hv
  have hx := Bo.exec
  have hb := Bo.bytes
  have hr := Bo.returns
  have hts0 := atoms_spec (ws := (fW yX3_turn cX3_turn 1 none)) Bo.pre
  have hts : ∀ w ∈ fA, w.before _ s = true := fun w h => hts0 w (List.mem_cons_of_mem _ h)
  have hown : s.vm.findClass RX3 = some m.cls := findClass_of_methodNamed Bo.named
  have hlocks := Bo.notSynchronized
  have hl := lv_entry ([.ref (al (B + 20 + j))]) (n := 1) (Nat.le_of_ble_eq_true rfl)
  rw [lg_entry_eq]
  generalize (lg_sl ([.ref (al (B + 20 + j))]) ++ List.replicate (1 - (lg_sl ([.ref (al (B + 20 + j))])).length) Slot.unset).toArray = ls at hl ⊢
  have hl : lv_has ls 1 [(0, .ref (al (B + 20 + j)))] := hl
  have hJ := gF_J hF
  refine g_start hP (fun H hP hS => ?_)
  refine lv_aload_n hx hb dX3_turn_0 rfl (lv_at hl 0 rfl) ?_
  refine m_get (C := RX3) (T := TX3) (N := 10) (ci := 4) (v := .int (bz (g (3 + j) 6))) hx hb hts uX3 hown hE hP (B + 20 + j) rfl (ov_j hj) rfl 6 (by decide) (hts _ q145) (fun _ h9 => h9) rfl dX3_turn_1 ?_
  refine lv_if_ne (tgt := 22) hx hb dX3_turn_4 (by decide) (fun hc_1 => ?_) (fun hc_1 => ?_)
  · skip
    have hP : mP G al (ov G al k B c (mJTurn g j)) H := m_cv hP (show ov G al k B c g = ov G al k B c (mJTurn g j) from (by unfold mJTurn; rw [if_neg hc_1]; try rfl))
    refine W.widen (k := 0) (n := 0) (Nat.le_of_ble_eq_true rfl) (Nat.le_of_ble_eq_true rfl) ?_
    exact W.vret hx hb hr (fun tz htz hW => ⟨⟨(), rfl, trivial, g_end htz hP⟩, hS.F htz⟩) hS.2.2 dX3_turn_22
  · skip
    refine lv_aload_n hx hb dX3_turn_7 rfl (lv_at hl 0 rfl) ?_
    refine lv_aload_n hx hb dX3_turn_8 rfl (lv_at hl 0 rfl) ?_
    refine m_get (C := RX3) (T := TX3) (N := 10) (ci := 4) (v := .int (g (3 + j) 5)) hx hb hts uX3 hown hE hP (B + 20 + j) rfl (ov_j hj) rfl 5 (by decide) (hts _ q142) (fun _ h9 => h9) rfl dX3_turn_9 ?_
    refine lv_aload_n hx hb dX3_turn_12 rfl (lv_at hl 0 rfl) ?_
    refine m_get (C := RX3) (T := TX3) (N := 10) (ci := 4) (v := .int (g (3 + j) 4)) hx hb hts uX3 hown hE hP (B + 20 + j) rfl (ov_j hj) rfl 4 (by decide) (hts _ q146) (fun _ h9 => h9) rfl dX3_turn_13 ?_
    refine g_aft_i (g_runSN (As := [.int (g (3 + j) 5), .int (g (3 + j) 4)]) (rest := [.ref (al (B + 20 + j))]) hx hb hml hown hts (kX7_nearer l G al (ov G al k B c g) (g (3 + j) 5) (g (3 + j) 4)) (fcwSN 2 hts (hE.1.1.2.2.2.2.1 (RX3, 35, yX7_nearer, RX7) (by decide +kernel)) q147 q148 q143 rfl rfl (by decide +kernel) ⟨(Nat.le_of_ble_eq_true rfl), (Nat.le_of_ble_eq_true rfl)⟩) hE hb0 hP hS rfl hl.1 rfl (Nat.le_of_ble_eq_true rfl) dX3_turn_16 ⟨(Nat.le_of_ble_eq_true rfl), (Nat.le_of_ble_eq_true rfl)⟩) hS (fun u H locs hP hS => ?_)
    refine f_topi (v := mNear (g (3 + j) 5) (g (3 + j) 4)) rfl ?_
    refine m_put (v := .int (mNear (g (3 + j) 5) (g (3 + j) 4))) (ty := .int) (C := RX3) (T := TX3) (N := 10) (ci := 4) hx hb hts uX3 tyX3 tyX3_ok nmX3 hown hE hP hS (B + 20 + j) rfl (ov_j hj) rfl 5 (by decide) (hts _ q142) (fun _ h9 => h9) rfl (by decide +kernel) rfl rfl (Nat.le_of_ble_eq_true rfl) dX3_turn_19 (fun H locs hP hS => ?_)
    have hP := m_cv hP (ov_uj (r := upd (g (3 + j)) 5 (mNear (g (3 + j) 5) (g (3 + j) 4))) hj hJ rfl)
    have hP : mP G al (ov G al k B c (s2 g (3 + j) 5 (mNear (g (3 + j) 5) (g (3 + j) 4)))) H := hP
    have hP : mP G al (ov G al k B c (mJTurn g j)) H := m_cv hP (show ov G al k B c (s2 g (3 + j) 5 (mNear (g (3 + j) 5) (g (3 + j) 4))) = ov G al k B c (mJTurn g j) from (by unfold mJTurn; rw [if_pos hc_1]; try rfl))
    refine W.widen (k := 0) (n := 0) (Nat.le_of_ble_eq_true rfl) (Nat.le_of_ble_eq_true rfl) ?_
    exact W.vret hx hb hr (fun tz htz hW => ⟨⟨(), rfl, trivial, g_end htz hP⟩, hS.F htz⟩) hS.2.2 dX3_turn_22
set_option maxHeartbeats 4000000 in
set_option maxRecDepth 100000 in
theorem kX3_isShorted (l : Launch) (G : gT) (al : Nat → Nat) (k : gC) (h : gK) (B : Nat) (c : mC) (g : St) (j : Nat) (hj : j < k.1) : Met l yX3_isShorted (fW yX3_isShorted cX3_isShorted 1 (some .boolean)) { frames := 0, cells := 0, slots := 0, locals := 0 } (gPre G al (ov G al k B c g) [.ref (al (B + 20 + j))]) (gQi (S := Unit) G (fun _ => mShort g j) (fun _ => al) (fun _ => ov G al k B c g)) 0 0 (gA G) := by
  refine Met.ofW (cc := cX3_isShorted) (maxL := 1) (ret := (some .boolean)) (by decide) rfl ?_
  intro pz ez s m args below meth c₀ s₁ Bo hml hv
  obtain ⟨rfl, hb0, hP, hE⟩ := hv
  have hx := Bo.exec
  have hb := Bo.bytes
  have hr := Bo.returns
  have hts0 := atoms_spec (ws := (fW yX3_isShorted cX3_isShorted 1 (some .boolean))) Bo.pre
  have hts : ∀ w ∈ fA, w.before _ s = true := fun w h => hts0 w (List.mem_cons_of_mem _ h)
  have hown : s.vm.findClass RX3 = some m.cls := findClass_of_methodNamed Bo.named
  have hlocks := Bo.notSynchronized
  have hl := lv_entry ([.ref (al (B + 20 + j))]) (n := 1) (Nat.le_of_ble_eq_true rfl)
  rw [lg_entry_eq]
  generalize (lg_sl ([.ref (al (B + 20 + j))]) ++ List.replicate (1 - (lg_sl ([.ref (al (B + 20 + j))])).length) Slot.unset).toArray = ls at hl ⊢
  have hl : lv_has ls 1 [(0, .ref (al (B + 20 + j)))] := hl
  refine g_start hP (fun H hP hS => ?_)
  refine lv_aload_n hx hb dX3_isShorted_0 rfl (lv_at hl 0 rfl) ?_
  refine m_get (C := RX3) (T := TX3) (N := 10) (ci := 4) (v := .int (bz (g (3 + j) 7))) hx hb hts uX3 hown hE hP (B + 20 + j) rfl (ov_j hj) rfl 7 (by decide) (hts _ q150) (fun _ h9 => h9) rfl dX3_isShorted_1 ?_
  refine lv_if_eq (tgt := 18) hx hb dX3_isShorted_4 (by decide) (fun hc_1 => ?_) (fun hc_1 => ?_)
  · skip
    refine lv_iconst (v := 0) hx hb dX3_isShorted_18 (by decide) ?_
    refine W.widen (k := 0) (n := 0) (Nat.le_of_ble_eq_true rfl) (Nat.le_of_ble_eq_true rfl) ?_
    exact W.zret (v := 0) hx hb hr (by decide) (fun tz htz hW => ⟨⟨0, (), rfl, (by unfold mShort; rw [if_pos hc_1]; try rfl), g_end htz hP⟩, hS.F htz⟩) hS.2.2 dX3_isShorted_19
  · skip
    refine lv_aload_n hx hb dX3_isShorted_7 rfl (lv_at hl 0 rfl) ?_
    refine m_get (C := RX3) (T := TX3) (N := 10) (ci := 4) (v := .int (bz (g (3 + j) 8))) hx hb hts uX3 hown hE hP (B + 20 + j) rfl (ov_j hj) rfl 8 (by decide) (hts _ q151) (fun _ h9 => h9) rfl dX3_isShorted_8 ?_
    refine lv_if_eq (tgt := 18) hx hb dX3_isShorted_11 (by decide) (fun hc_2 => ?_) (fun hc_2 => ?_)
    · skip
      refine lv_iconst (v := 0) hx hb dX3_isShorted_18 (by decide) ?_
      refine W.widen (k := 0) (n := 0) (Nat.le_of_ble_eq_true rfl) (Nat.le_of_ble_eq_true rfl) ?_
      exact W.zret (v := 0) hx hb hr (by decide) (fun tz htz hW => ⟨⟨0, (), rfl, (by unfold mShort; rw [if_neg hc_1, if_pos hc_2]; try rfl), g_end htz hP⟩, hS.F htz⟩) hS.2.2 dX3_isShorted_19
    · skip
      refine lv_iconst (v := 1) hx hb dX3_isShorted_14 (by decide) ?_
      refine lv_goto (tgt := 19) hx hb dX3_isShorted_15 (by decide) ?_
      refine W.widen (k := 0) (n := 0) (Nat.le_of_ble_eq_true rfl) (Nat.le_of_ble_eq_true rfl) ?_
      exact W.zret (v := 1) hx hb hr (by decide) (fun tz htz hW => ⟨⟨1, (), rfl, (by unfold mShort; rw [if_neg hc_1, if_neg hc_2]; try rfl), g_end htz hP⟩, hS.F htz⟩) hS.2.2 dX3_isShorted_19
set_option maxHeartbeats 4000000 in
set_option maxRecDepth 100000 in
theorem kX3_obey (l : Launch) (G : gT) (al : Nat → Nat) (k : gC) (h : gK) (B : Nat) (c : mC) (g : St) (j : Nat) (v : Int32) (hF : gF G al k B c) (hj : j < k.1) : Met l yX3_obey (fW yX3_obey cX3_obey 2 none) { frames := 1, cells := 0, slots := 0, locals := 21 } (gPre G al (ov G al k B c g) [.ref (al (B + 20 + j)), .int v]) (gQv (S := Unit) G (fun _ => al) (fun _ => ov G al k B c (mObey k g j v))) 0 0 (gA G) := by
  refine Met.ofW (cc := cX3_obey) (maxL := 2) (ret := none) (by decide) rfl ?_
  intro pz ez s m args below meth c₀ s₁ Bo hml hv
  obtain ⟨rfl, hb0, hP, hE⟩ := hv
  have hx := Bo.exec
  have hb := Bo.bytes
  have hr := Bo.returns
  have hts0 := atoms_spec (ws := (fW yX3_obey cX3_obey 2 none)) Bo.pre
  have hts : ∀ w ∈ fA, w.before _ s = true := fun w h => hts0 w (List.mem_cons_of_mem _ h)
  have hown : s.vm.findClass RX3 = some m.cls := findClass_of_methodNamed Bo.named
  have hlocks := Bo.notSynchronized
  have hl := lv_entry ([.ref (al (B + 20 + j)), .int v]) (n := 2) (Nat.le_of_ble_eq_true rfl)
  rw [lg_entry_eq]
  generalize (lg_sl ([.ref (al (B + 20 + j)), .int v]) ++ List.replicate (2 - (lg_sl ([.ref (al (B + 20 + j)), .int v])).length) Slot.unset).toArray = ls at hl ⊢
  have hl : lv_has ls 2 [(0, .ref (al (B + 20 + j))), (1, .int v)] := hl
  have hJ := gF_J hF
  refine g_start hP (fun H hP hS => ?_)
  refine lv_iload_n hx hb dX3_obey_0 rfl (lv_at hl 1 rfl) ?_
  refine lv_bipush (v := 10) hx hb dX3_obey_1 (by decide) ?_
  refine lv_icmp_lt (tgt := 20) hx hb dX3_obey_3 (by decide) (fun hc_1 => ?_) (fun hc_1 => ?_)
  · skip
    refine lv_iload_n hx hb dX3_obey_20 rfl (lv_at hl 1 rfl) ?_
    refine lv_iconst (v := 5) hx hb dX3_obey_21 (by decide) ?_
    refine lv_icmp_lt (tgt := 42) hx hb dX3_obey_22 (by decide) (fun hc_2 => ?_) (fun hc_2 => ?_)
    · skip
      refine lv_aload_n hx hb dX3_obey_42 rfl (lv_at hl 0 rfl) ?_
      refine lv_iload_n hx hb dX3_obey_43 rfl (lv_at hl 1 rfl) ?_
      refine m_put (v := .int v) (ty := .int) (C := RX3) (T := TX3) (N := 10) (ci := 4) hx hb hts uX3 tyX3 tyX3_ok nmX3 hown hE hP hS (B + 20 + j) rfl (ov_j hj) rfl 4 (by decide) (hts _ q146) (fun _ h9 => h9) rfl (by decide +kernel) rfl rfl (Nat.le_of_ble_eq_true rfl) dX3_obey_44 (fun H locs hP hS => ?_)
      have hP := m_cv hP (ov_uj (r := upd (g (3 + j)) 4 v) hj hJ rfl)
      have hP : mP G al (ov G al k B c (s2 g (3 + j) 4 v)) H := hP
      have hP : mP G al (ov G al k B c (mObey k g j v)) H := m_cv hP (show ov G al k B c (s2 g (3 + j) 4 v) = ov G al k B c (mObey k g j v) from (by unfold mObey; rw [if_pos hc_1, if_pos hc_2]; try rfl))
      refine W.widen (k := 0) (n := 0) (Nat.le_of_ble_eq_true rfl) (Nat.le_of_ble_eq_true rfl) ?_
      exact W.vret hx hb hr (fun tz htz hW => ⟨⟨(), rfl, trivial, g_end htz hP⟩, hS.F htz⟩) hS.2.2 dX3_obey_47
    · skip
      refine lv_aload_n hx hb dX3_obey_25 rfl (lv_at hl 0 rfl) ?_
      refine lv_iload_n hx hb dX3_obey_26 rfl (lv_at hl 1 rfl) ?_
      refine lv_iconst (v := 5) hx hb dX3_obey_27 (by decide) ?_
      refine lv_icmp_ne (tgt := 35) hx hb dX3_obey_28 (by decide) (fun hc_3 => ?_) (fun hc_3 => ?_)
      · skip
        refine lv_iconst (v := 0) hx hb dX3_obey_35 (by decide) ?_
        refine m_put (v := .int 0) (ty := .boolean) (C := RX3) (T := TX3) (N := 10) (ci := 4) hx hb hts uX3 tyX3 tyX3_ok nmX3 hown hE hP hS (B + 20 + j) rfl (ov_j hj) rfl 7 (by decide) (hts _ q150) (fun _ h9 => h9) rfl (by decide +kernel) (by decide) (by decide) (Nat.le_of_ble_eq_true rfl) dX3_obey_36 (fun H locs hP hS => ?_)
        have hP := m_cv hP (ov_uj (r := upd (g (3 + j)) 7 0) hj hJ rfl)
        have hP : mP G al (ov G al k B c (s2 g (3 + j) 7 0)) H := hP
        refine lv_goto (tgt := 47) hx hb dX3_obey_39 (by decide) ?_
        have hP : mP G al (ov G al k B c (mObey k g j v)) H := m_cv hP (show ov G al k B c (s2 g (3 + j) 7 0) = ov G al k B c (mObey k g j v) from (by unfold mObey; rw [if_pos hc_1, if_neg hc_2, if_neg hc_3]; try rfl))
        refine W.widen (k := 0) (n := 0) (Nat.le_of_ble_eq_true rfl) (Nat.le_of_ble_eq_true rfl) ?_
        exact W.vret hx hb hr (fun tz htz hW => ⟨⟨(), rfl, trivial, g_end htz hP⟩, hS.F htz⟩) hS.2.2 dX3_obey_47
      · skip
        refine lv_iconst (v := 1) hx hb dX3_obey_31 (by decide) ?_
        refine lv_goto (tgt := 36) hx hb dX3_obey_32 (by decide) ?_
        refine m_put (v := .int 1) (ty := .boolean) (C := RX3) (T := TX3) (N := 10) (ci := 4) hx hb hts uX3 tyX3 tyX3_ok nmX3 hown hE hP hS (B + 20 + j) rfl (ov_j hj) rfl 7 (by decide) (hts _ q150) (fun _ h9 => h9) rfl (by decide +kernel) (by decide) (by decide) (Nat.le_of_ble_eq_true rfl) dX3_obey_36 (fun H locs hP hS => ?_)
        have hP := m_cv hP (ov_uj (r := upd (g (3 + j)) 7 1) hj hJ rfl)
        have hP : mP G al (ov G al k B c (s2 g (3 + j) 7 1)) H := hP
        refine lv_goto (tgt := 47) hx hb dX3_obey_39 (by decide) ?_
        have hP : mP G al (ov G al k B c (mObey k g j v)) H := m_cv hP (show ov G al k B c (s2 g (3 + j) 7 1) = ov G al k B c (mObey k g j v) from (by unfold mObey; rw [if_pos hc_1, if_neg hc_2, if_pos hc_3]; try rfl))
        refine W.widen (k := 0) (n := 0) (Nat.le_of_ble_eq_true rfl) (Nat.le_of_ble_eq_true rfl) ?_
        exact W.vret hx hb hr (fun tz htz hW => ⟨⟨(), rfl, trivial, g_end htz hP⟩, hS.F htz⟩) hS.2.2 dX3_obey_47
  · skip
    refine lv_aload_n hx hb dX3_obey_6 rfl (lv_at hl 0 rfl) ?_
    refine m_get (C := RX3) (T := TX3) (N := 10) (ci := 4) (v := .ref (al (B + 11 + k.2.1 j))) hx hb hts uX3 hown hE hP (B + 20 + j) rfl (ov_j hj) rfl 0 (by decide) (hts _ q137) (fun _ h9 => h9) rfl dX3_obey_7 ?_
    refine lv_iload_n hx hb dX3_obey_10 rfl (lv_at hl 1 rfl) ?_
    refine lv_bipush (v := 10) hx hb dX3_obey_11 (by decide) ?_
    refine lv_isub hx hb dX3_obey_13 ?_
    refine g_aft_v (g_runV (As := [.int (v - 10)]) (rest := []) hx hb hml hown hts (kX4_setTo l G al k h B c g (k.2.1 j) (v - 10) (gF_pp hF hj)) (fcwV 1 hts q156 q157 q158 q159 q152 rfl rfl (by decide +kernel) ⟨(Nat.le_of_ble_eq_true rfl), (Nat.le_of_ble_eq_true rfl)⟩) hE hb0 hP hS (m_recvA hE hP (B + 11 + k.2.1 j) rfl (ov_p (gF_pp hF hj)) rfl) rfl hl.1 rfl (Nat.le_of_ble_eq_true rfl) dX3_obey_14 ⟨(Nat.le_of_ble_eq_true rfl), (Nat.le_of_ble_eq_true rfl)⟩) hS (fun u H locs hP hS => ?_)
    have hP : mP G al (ov G al k B c (mSetTo g (k.2.1 j) (v - 10))) H := hP
    refine lv_goto (tgt := 47) hx hb dX3_obey_17 (by decide) ?_
    have hP : mP G al (ov G al k B c (mObey k g j v)) H := m_cv hP (show ov G al k B c (mSetTo g (k.2.1 j) (v - 10)) = ov G al k B c (mObey k g j v) from (by unfold mObey; rw [if_neg hc_1]; try rfl))
    refine W.widen (k := 0) (n := 0) (Nat.le_of_ble_eq_true rfl) (Nat.le_of_ble_eq_true rfl) ?_
    exact W.vret hx hb hr (fun tz htz hW => ⟨⟨(), rfl, trivial, g_end htz hP⟩, hS.F htz⟩) hS.2.2 dX3_obey_47
set_option maxHeartbeats 4000000 in
set_option maxRecDepth 100000 in
theorem kX0_fallingIn (l : Launch) (G : gT) (al : Nat → Nat) (k : gC) (h : gK) (B : Nat) (c : mC) (g : St) (tk : Int32) (hF : gF G al k B c) : Met l yX0_fallingIn (fW yX0_fallingIn cX0_fallingIn 3 (some .int)) { frames := 2, cells := 0, slots := 0, locals := 42 } (gPre G al (ov G al k B c g) [.ref (al (B + 7)), .int tk]) (gQi (S := Unit) G (fun _ => mFallIn g tk) (fun _ => al) (fun _ => ov G al k B c g)) 0 0 (gA G) := by
  refine Met.ofW (cc := cX0_fallingIn) (maxL := 3) (ret := (some .int)) (by decide) rfl ?_
  intro pz ez s m args below meth c₀ s₁ Bo hml hv
  obtain ⟨rfl, hb0, hP, hE⟩ := hv
  have hx := Bo.exec
  have hb := Bo.bytes
  have hr := Bo.returns
  have hts0 := atoms_spec (ws := (fW yX0_fallingIn cX0_fallingIn 3 (some .int))) Bo.pre
  have hts : ∀ w ∈ fA, w.before _ s = true := fun w h => hts0 w (List.mem_cons_of_mem _ h)
  have hown : s.vm.findClass RX0 = some m.cls := findClass_of_methodNamed Bo.named
  have hlocks := Bo.notSynchronized
  have hl := lv_entry ([.ref (al (B + 7)), .int tk]) (n := 3) (Nat.le_of_ble_eq_true rfl)
  rw [lg_entry_eq]
  generalize (lg_sl ([.ref (al (B + 7)), .int tk]) ++ List.replicate (3 - (lg_sl ([.ref (al (B + 7)), .int tk])).length) Slot.unset).toArray = ls at hl ⊢
  have hl : lv_has ls 3 [(0, .ref (al (B + 7))), (1, .int tk)] := hl
  have hJ := gF_J hF
  refine g_start hP (fun H hP hS => ?_)
  refine lv_iload_n hx hb dX0_fallingIn_0 rfl (lv_at hl 1 rfl) ?_
  refine g_aft_i (g_runS (As := [.int tk]) (rest := []) hx hb hml hown hts (kX0_slotOf l G al (ov G al k B c g) tk) (fcwS 1 hts q14 q15 q16 q9 rfl rfl (by decide +kernel) ⟨(Nat.le_of_ble_eq_true rfl), (Nat.le_of_ble_eq_true rfl)⟩) hE hb0 hP hS rfl hl.1 rfl (Nat.le_of_ble_eq_true rfl) dX0_fallingIn_1 ⟨(Nat.le_of_ble_eq_true rfl), (Nat.le_of_ble_eq_true rfl)⟩) hS (fun u H locs hP hS => ?_)
  refine f_topi (v := mFm tk 9) rfl ?_
  refine lv_istore_n (lv' := [(2, .int (mFm tk 9)), (0, .ref (al (B + 7))), (1, .int tk)]) hx hb dX0_fallingIn_4 rfl hl (by decide) rfl (fun ls hl => ?_)
  refine lv_aload_n hx hb dX0_fallingIn_5 rfl (lv_at hl 1 rfl) ?_
  refine m_get (C := RX0) (T := TX0) (N := 3) (ci := 1) (v := .ref (al (B + 8))) hx hb hts uX0 hown hE hP (B + 7) rfl (gF_a hF) rfl 0 (by decide) (hts _ q5) (fun _ h9 => h9) rfl dX0_fallingIn_6 ?_
  refine lv_iload_n hx hb dX0_fallingIn_9 rfl (lv_at hl 0 rfl) ?_
  refine m_iald hx hb hE hP (B + 8) rfl (ov_a (a := 0) (by decide)) (mFm_in tk) dX0_fallingIn_10 ?_
  refine f_topi (v := g 20 (mSl tk)) rfl ?_
  refine lv_aload_n hx hb dX0_fallingIn_11 rfl (lv_at hl 1 rfl) ?_
  refine m_get (C := RX0) (T := TX0) (N := 3) (ci := 1) (v := .ref (al (B + 9))) hx hb hts uX0 hown hE hP (B + 7) rfl (gF_a hF) rfl 1 (by decide) (hts _ q6) (fun _ h9 => h9) rfl dX0_fallingIn_12 ?_
  refine lv_iload_n hx hb dX0_fallingIn_15 rfl (lv_at hl 0 rfl) ?_
  refine m_iald hx hb hE hP (B + 9) rfl (ov_a (a := 1) (by decide)) (mFm_in tk) dX0_fallingIn_16 ?_
  refine f_topi (v := g 21 (mSl tk)) rfl ?_
  refine lv_iadd hx hb dX0_fallingIn_17 ?_
  refine lv_aload_n hx hb dX0_fallingIn_18 rfl (lv_at hl 1 rfl) ?_
  refine m_get (C := RX0) (T := TX0) (N := 3) (ci := 1) (v := .ref (al (B + 10))) hx hb hts uX0 hown hE hP (B + 7) rfl (gF_a hF) rfl 2 (by decide) (hts _ q7) (fun _ h9 => h9) rfl dX0_fallingIn_19 ?_
  refine lv_iload_n hx hb dX0_fallingIn_22 rfl (lv_at hl 0 rfl) ?_
  refine m_iald hx hb hE hP (B + 10) rfl (ov_a (a := 2) (by decide)) (mFm_in tk) dX0_fallingIn_23 ?_
  refine f_topi (v := g 22 (mSl tk)) rfl ?_
  refine lv_iadd hx hb dX0_fallingIn_24 ?_
  refine W.widen (k := 0) (n := 0) (Nat.le_of_ble_eq_true rfl) (Nat.le_of_ble_eq_true rfl) ?_
  exact W.iret (v := ((g 20 (mSl tk)) + (g 21 (mSl tk))) + (g 22 (mSl tk))) hx hb hr (fun tz htz hW => ⟨⟨((g 20 (mSl tk)) + (g 21 (mSl tk))) + (g 22 (mSl tk)), (), rfl, (by unfold mFallIn; rfl), g_end htz hP⟩, hS.F htz⟩) hS.2.2 dX0_fallingIn_25
set_option maxHeartbeats 4000000 in
set_option maxRecDepth 100000 in
theorem kX0_fallingOnBasin (l : Launch) (G : gT) (al : Nat → Nat) (k : gC) (h : gK) (B : Nat) (c : mC) (g : St) (tk : Int32) (hF : gF G al k B c) : Met l yX0_fallingOnBasin (fW yX0_fallingOnBasin cX0_fallingOnBasin 2 (some .int)) { frames := 2, cells := 0, slots := 0, locals := 42 } (gPre G al (ov G al k B c g) [.ref (al (B + 7)), .int tk]) (gQi (S := Unit) G (fun _ => mFallB g tk) (fun _ => al) (fun _ => ov G al k B c g)) 0 0 (gA G) := by
  refine Met.ofW (cc := cX0_fallingOnBasin) (maxL := 2) (ret := (some .int)) (by decide) rfl ?_
  intro pz ez s m args below meth c₀ s₁ Bo hml hv
  obtain ⟨rfl, hb0, hP, hE⟩ := hv
  have hx := Bo.exec
  have hb := Bo.bytes
  have hr := Bo.returns
  have hts0 := atoms_spec (ws := (fW yX0_fallingOnBasin cX0_fallingOnBasin 2 (some .int))) Bo.pre
  have hts : ∀ w ∈ fA, w.before _ s = true := fun w h => hts0 w (List.mem_cons_of_mem _ h)
  have hown : s.vm.findClass RX0 = some m.cls := findClass_of_methodNamed Bo.named
  have hlocks := Bo.notSynchronized
  have hl := lv_entry ([.ref (al (B + 7)), .int tk]) (n := 2) (Nat.le_of_ble_eq_true rfl)
  rw [lg_entry_eq]
  generalize (lg_sl ([.ref (al (B + 7)), .int tk]) ++ List.replicate (2 - (lg_sl ([.ref (al (B + 7)), .int tk])).length) Slot.unset).toArray = ls at hl ⊢
  have hl : lv_has ls 2 [(0, .ref (al (B + 7))), (1, .int tk)] := hl
  have hJ := gF_J hF
  refine g_start hP (fun H hP hS => ?_)
  refine lv_aload_n hx hb dX0_fallingOnBasin_0 rfl (lv_at hl 0 rfl) ?_
  refine m_get (C := RX0) (T := TX0) (N := 3) (ci := 1) (v := .ref (al (B + 8))) hx hb hts uX0 hown hE hP (B + 7) rfl (gF_a hF) rfl 0 (by decide) (hts _ q5) (fun _ h9 => h9) rfl dX0_fallingOnBasin_1 ?_
  refine lv_iload_n hx hb dX0_fallingOnBasin_4 rfl (lv_at hl 1 rfl) ?_
  refine g_aft_i (g_runS (As := [.int tk]) (rest := [.ref (al (B + 8))]) hx hb hml hown hts (kX0_slotOf l G al (ov G al k B c g) tk) (fcwS 1 hts q14 q15 q16 q9 rfl rfl (by decide +kernel) ⟨(Nat.le_of_ble_eq_true rfl), (Nat.le_of_ble_eq_true rfl)⟩) hE hb0 hP hS rfl hl.1 rfl (Nat.le_of_ble_eq_true rfl) dX0_fallingOnBasin_5 ⟨(Nat.le_of_ble_eq_true rfl), (Nat.le_of_ble_eq_true rfl)⟩) hS (fun u H locs hP hS => ?_)
  refine f_topi (v := mFm tk 9) rfl ?_
  refine m_iald hx hb hE hP (B + 8) rfl (ov_a (a := 0) (by decide)) (mFm_in tk) dX0_fallingOnBasin_8 ?_
  refine f_topi (v := g 20 (mSl tk)) rfl ?_
  refine W.widen (k := 0) (n := 0) (Nat.le_of_ble_eq_true rfl) (Nat.le_of_ble_eq_true rfl) ?_
  exact W.iret (v := g 20 (mSl tk)) hx hb hr (fun tz htz hW => ⟨⟨g 20 (mSl tk), (), rfl, (by unfold mFallB; rfl), g_end htz hP⟩, hS.F htz⟩) hS.2.2 dX0_fallingOnBasin_9
set_option maxHeartbeats 4000000 in
set_option maxRecDepth 100000 in
theorem kX0_fallingOnCrowd (l : Launch) (G : gT) (al : Nat → Nat) (k : gC) (h : gK) (B : Nat) (c : mC) (g : St) (tk : Int32) (hF : gF G al k B c) : Met l yX0_fallingOnCrowd (fW yX0_fallingOnCrowd cX0_fallingOnCrowd 2 (some .int)) { frames := 2, cells := 0, slots := 0, locals := 42 } (gPre G al (ov G al k B c g) [.ref (al (B + 7)), .int tk]) (gQi (S := Unit) G (fun _ => mFallC g tk) (fun _ => al) (fun _ => ov G al k B c g)) 0 0 (gA G) := by
  refine Met.ofW (cc := cX0_fallingOnCrowd) (maxL := 2) (ret := (some .int)) (by decide) rfl ?_
  intro pz ez s m args below meth c₀ s₁ Bo hml hv
  obtain ⟨rfl, hb0, hP, hE⟩ := hv
  have hx := Bo.exec
  have hb := Bo.bytes
  have hr := Bo.returns
  have hts0 := atoms_spec (ws := (fW yX0_fallingOnCrowd cX0_fallingOnCrowd 2 (some .int))) Bo.pre
  have hts : ∀ w ∈ fA, w.before _ s = true := fun w h => hts0 w (List.mem_cons_of_mem _ h)
  have hown : s.vm.findClass RX0 = some m.cls := findClass_of_methodNamed Bo.named
  have hlocks := Bo.notSynchronized
  have hl := lv_entry ([.ref (al (B + 7)), .int tk]) (n := 2) (Nat.le_of_ble_eq_true rfl)
  rw [lg_entry_eq]
  generalize (lg_sl ([.ref (al (B + 7)), .int tk]) ++ List.replicate (2 - (lg_sl ([.ref (al (B + 7)), .int tk])).length) Slot.unset).toArray = ls at hl ⊢
  have hl : lv_has ls 2 [(0, .ref (al (B + 7))), (1, .int tk)] := hl
  have hJ := gF_J hF
  refine g_start hP (fun H hP hS => ?_)
  refine lv_aload_n hx hb dX0_fallingOnCrowd_0 rfl (lv_at hl 0 rfl) ?_
  refine m_get (C := RX0) (T := TX0) (N := 3) (ci := 1) (v := .ref (al (B + 9))) hx hb hts uX0 hown hE hP (B + 7) rfl (gF_a hF) rfl 1 (by decide) (hts _ q6) (fun _ h9 => h9) rfl dX0_fallingOnCrowd_1 ?_
  refine lv_iload_n hx hb dX0_fallingOnCrowd_4 rfl (lv_at hl 1 rfl) ?_
  refine g_aft_i (g_runS (As := [.int tk]) (rest := [.ref (al (B + 9))]) hx hb hml hown hts (kX0_slotOf l G al (ov G al k B c g) tk) (fcwS 1 hts q14 q15 q16 q9 rfl rfl (by decide +kernel) ⟨(Nat.le_of_ble_eq_true rfl), (Nat.le_of_ble_eq_true rfl)⟩) hE hb0 hP hS rfl hl.1 rfl (Nat.le_of_ble_eq_true rfl) dX0_fallingOnCrowd_5 ⟨(Nat.le_of_ble_eq_true rfl), (Nat.le_of_ble_eq_true rfl)⟩) hS (fun u H locs hP hS => ?_)
  refine f_topi (v := mFm tk 9) rfl ?_
  refine m_iald hx hb hE hP (B + 9) rfl (ov_a (a := 1) (by decide)) (mFm_in tk) dX0_fallingOnCrowd_8 ?_
  refine f_topi (v := g 21 (mSl tk)) rfl ?_
  refine W.widen (k := 0) (n := 0) (Nat.le_of_ble_eq_true rfl) (Nat.le_of_ble_eq_true rfl) ?_
  exact W.iret (v := g 21 (mSl tk)) hx hb hr (fun tz htz hW => ⟨⟨g 21 (mSl tk), (), rfl, (by unfold mFallC; rfl), g_end htz hP⟩, hS.F htz⟩) hS.2.2 dX0_fallingOnCrowd_9
set_option maxHeartbeats 4000000 in
set_option maxRecDepth 100000 in
theorem kX0_clear (l : Launch) (G : gT) (al : Nat → Nat) (k : gC) (h : gK) (B : Nat) (c : mC) (g : St) (tk : Int32) (hF : gF G al k B c) : Met l yX0_clear (fW yX0_clear cX0_clear 3 none) { frames := 2, cells := 0, slots := 0, locals := 42 } (gPre G al (ov G al k B c g) [.ref (al (B + 7)), .int tk]) (gQv (S := Unit) G (fun _ => al) (fun _ => ov G al k B c (mClear g tk))) 0 0 (gA G) := by
  refine Met.ofW (cc := cX0_clear) (maxL := 3) (ret := none) (by decide) rfl ?_
  intro pz ez s m args below meth c₀ s₁ Bo hml hv
  obtain ⟨rfl, hb0, hP, hE⟩ := hv
  have hx := Bo.exec
  have hb := Bo.bytes
  have hr := Bo.returns
  have hts0 := atoms_spec (ws := (fW yX0_clear cX0_clear 3 none)) Bo.pre
  have hts : ∀ w ∈ fA, w.before _ s = true := fun w h => hts0 w (List.mem_cons_of_mem _ h)
  have hown : s.vm.findClass RX0 = some m.cls := findClass_of_methodNamed Bo.named
  have hlocks := Bo.notSynchronized
  have hl := lv_entry ([.ref (al (B + 7)), .int tk]) (n := 3) (Nat.le_of_ble_eq_true rfl)
  rw [lg_entry_eq]
  generalize (lg_sl ([.ref (al (B + 7)), .int tk]) ++ List.replicate (3 - (lg_sl ([.ref (al (B + 7)), .int tk])).length) Slot.unset).toArray = ls at hl ⊢
  have hl : lv_has ls 3 [(0, .ref (al (B + 7))), (1, .int tk)] := hl
  have hJ := gF_J hF
  refine g_start hP (fun H hP hS => ?_)
  refine lv_iload_n hx hb dX0_clear_0 rfl (lv_at hl 1 rfl) ?_
  refine g_aft_i (g_runS (As := [.int tk]) (rest := []) hx hb hml hown hts (kX0_slotOf l G al (ov G al k B c g) tk) (fcwS 1 hts q14 q15 q16 q9 rfl rfl (by decide +kernel) ⟨(Nat.le_of_ble_eq_true rfl), (Nat.le_of_ble_eq_true rfl)⟩) hE hb0 hP hS rfl hl.1 rfl (Nat.le_of_ble_eq_true rfl) dX0_clear_1 ⟨(Nat.le_of_ble_eq_true rfl), (Nat.le_of_ble_eq_true rfl)⟩) hS (fun u H locs hP hS => ?_)
  refine f_topi (v := mFm tk 9) rfl ?_
  refine lv_istore_n (lv' := [(2, .int (mFm tk 9)), (0, .ref (al (B + 7))), (1, .int tk)]) hx hb dX0_clear_4 rfl hl (by decide) rfl (fun ls hl => ?_)
  refine lv_aload_n hx hb dX0_clear_5 rfl (lv_at hl 1 rfl) ?_
  refine m_get (C := RX0) (T := TX0) (N := 3) (ci := 1) (v := .ref (al (B + 8))) hx hb hts uX0 hown hE hP (B + 7) rfl (gF_a hF) rfl 0 (by decide) (hts _ q5) (fun _ h9 => h9) rfl dX0_clear_6 ?_
  refine lv_iload_n hx hb dX0_clear_9 rfl (lv_at hl 0 rfl) ?_
  refine lv_iconst (v := 0) hx hb dX0_clear_10 (by decide) ?_
  refine m_iast hx hb hE hP hS (B + 8) rfl (ov_a (a := 0) (by decide)) (mFm_in tk) dX0_clear_11 (fun H locs hP hS => ?_)
  have hP := m_cv hP (ov_ua (r := upd (g 20) (mSl tk) 0) (a := 0) (by decide) hJ rfl)
  have hP : mP G al (ov G al k B c (s2 g 20 (mSl tk) 0)) H := hP
  refine lv_aload_n hx hb dX0_clear_12 rfl (lv_at hl 1 rfl) ?_
  refine m_get (C := RX0) (T := TX0) (N := 3) (ci := 1) (v := .ref (al (B + 9))) hx hb hts uX0 hown hE hP (B + 7) rfl (gF_a hF) rfl 1 (by decide) (hts _ q6) (fun _ h9 => h9) rfl dX0_clear_13 ?_
  refine lv_iload_n hx hb dX0_clear_16 rfl (lv_at hl 0 rfl) ?_
  refine lv_iconst (v := 0) hx hb dX0_clear_17 (by decide) ?_
  refine m_iast hx hb hE hP hS (B + 9) rfl (ov_a (a := 1) (by decide)) (mFm_in tk) dX0_clear_18 (fun H locs hP hS => ?_)
  have hP := m_cv hP (ov_ua (r := upd ((s2 g 20 (mSl tk) 0) 21) (mSl tk) 0) (a := 1) (by decide) hJ rfl)
  have hP : mP G al (ov G al k B c (s2 (s2 g 20 (mSl tk) 0) 21 (mSl tk) 0)) H := hP
  refine lv_aload_n hx hb dX0_clear_19 rfl (lv_at hl 1 rfl) ?_
  refine m_get (C := RX0) (T := TX0) (N := 3) (ci := 1) (v := .ref (al (B + 10))) hx hb hts uX0 hown hE hP (B + 7) rfl (gF_a hF) rfl 2 (by decide) (hts _ q7) (fun _ h9 => h9) rfl dX0_clear_20 ?_
  refine lv_iload_n hx hb dX0_clear_23 rfl (lv_at hl 0 rfl) ?_
  refine lv_iconst (v := 0) hx hb dX0_clear_24 (by decide) ?_
  refine m_iast hx hb hE hP hS (B + 10) rfl (ov_a (a := 2) (by decide)) (mFm_in tk) dX0_clear_25 (fun H locs hP hS => ?_)
  have hP := m_cv hP (ov_ua (r := upd ((s2 (s2 g 20 (mSl tk) 0) 21 (mSl tk) 0) 22) (mSl tk) 0) (a := 2) (by decide) hJ rfl)
  have hP : mP G al (ov G al k B c (s2 (s2 (s2 g 20 (mSl tk) 0) 21 (mSl tk) 0) 22 (mSl tk) 0)) H := hP
  have hP : mP G al (ov G al k B c (mClear g tk)) H := m_cv hP (show ov G al k B c (s2 (s2 (s2 g 20 (mSl tk) 0) 21 (mSl tk) 0) 22 (mSl tk) 0) = ov G al k B c (mClear g tk) from (by unfold mClear; rfl))
  refine W.widen (k := 0) (n := 0) (Nat.le_of_ble_eq_true rfl) (Nat.le_of_ble_eq_true rfl) ?_
  exact W.vret hx hb hr (fun tz htz hW => ⟨⟨(), rfl, trivial, g_end htz hP⟩, hS.F htz⟩) hS.2.2 dX0_clear_26
set_option maxHeartbeats 4000000 in
set_option maxRecDepth 100000 in
theorem kX0_put (l : Launch) (G : gT) (al : Nat → Nat) (k : gC) (h : gK) (B : Nat) (c : mC) (g : St) (tk : Int32) (pl : Int32) (mu : Int32) (hF : gF G al k B c) : Met l yX0_put (fW yX0_put cX0_put 5 none) { frames := 2, cells := 0, slots := 0, locals := 42 } (gPre G al (ov G al k B c g) [.ref (al (B + 7)), .int tk, .int pl, .int mu]) (gQv (S := Unit) G (fun _ => al) (fun _ => ov G al k B c (mPut g tk pl mu))) 0 0 (gA G) := by
  refine Met.ofW (cc := cX0_put) (maxL := 5) (ret := none) (by decide) rfl ?_
  intro pz ez s m args below meth c₀ s₁ Bo hml hv
  obtain ⟨rfl, hb0, hP, hE⟩ := hv
  have hx := Bo.exec
  have hb := Bo.bytes
  have hr := Bo.returns
  have hts0 := atoms_spec (ws := (fW yX0_put cX0_put 5 none)) Bo.pre
  have hts : ∀ w ∈ fA, w.before _ s = true := fun w h => hts0 w (List.mem_cons_of_mem _ h)
  have hown : s.vm.findClass RX0 = some m.cls := findClass_of_methodNamed Bo.named
  have hlocks := Bo.notSynchronized
  have hl := lv_entry ([.ref (al (B + 7)), .int tk, .int pl, .int mu]) (n := 5) (Nat.le_of_ble_eq_true rfl)
  rw [lg_entry_eq]
  generalize (lg_sl ([.ref (al (B + 7)), .int tk, .int pl, .int mu]) ++ List.replicate (5 - (lg_sl ([.ref (al (B + 7)), .int tk, .int pl, .int mu])).length) Slot.unset).toArray = ls at hl ⊢
  have hl : lv_has ls 5 [(0, .ref (al (B + 7))), (1, .int tk), (2, .int pl), (3, .int mu)] := hl
  have hJ := gF_J hF
  refine g_start hP (fun H hP hS => ?_)
  refine lv_iload_n hx hb dX0_put_0 rfl (lv_at hl 1 rfl) ?_
  refine g_aft_i (g_runS (As := [.int tk]) (rest := []) hx hb hml hown hts (kX0_slotOf l G al (ov G al k B c g) tk) (fcwS 1 hts q14 q15 q16 q9 rfl rfl (by decide +kernel) ⟨(Nat.le_of_ble_eq_true rfl), (Nat.le_of_ble_eq_true rfl)⟩) hE hb0 hP hS rfl hl.1 rfl (Nat.le_of_ble_eq_true rfl) dX0_put_1 ⟨(Nat.le_of_ble_eq_true rfl), (Nat.le_of_ble_eq_true rfl)⟩) hS (fun u H locs hP hS => ?_)
  refine f_topi (v := mFm tk 9) rfl ?_
  refine lv_istore (lv' := [(4, .int (mFm tk 9)), (0, .ref (al (B + 7))), (1, .int tk), (2, .int pl), (3, .int mu)]) hx hb dX0_put_4 hl (by decide) rfl (fun ls hl => ?_)
  refine lv_iload_n hx hb dX0_put_6 rfl (lv_at hl 3 rfl) ?_
  refine lv_if_lt (tgt := 30) hx hb dX0_put_7 (by decide) (fun hc_1 => ?_) (fun hc_1 => ?_)
  · skip
    refine lv_iload_n hx hb dX0_put_30 rfl (lv_at hl 3 rfl) ?_
    refine lv_bipush (v := (-4)) hx hb dX0_put_31 (by decide) ?_
    refine lv_icmp_lt (tgt := 56) hx hb dX0_put_33 (by decide) (fun hc_2 => ?_) (fun hc_2 => ?_)
    · skip
      refine lv_aload_n hx hb dX0_put_56 rfl (lv_at hl 1 rfl) ?_
      refine m_get (C := RX0) (T := TX0) (N := 3) (ci := 1) (v := .ref (al (B + 10))) hx hb hts uX0 hown hE hP (B + 7) rfl (gF_a hF) rfl 2 (by decide) (hts _ q7) (fun _ h9 => h9) rfl dX0_put_57 ?_
      refine lv_iload hx hb dX0_put_60 (lv_at hl 0 rfl) ?_
      refine lv_dup2_11 hx hb dX0_put_62 rfl rfl ?_
      refine m_iald hx hb hE hP (B + 10) rfl (ov_a (a := 2) (by decide)) (mFm_in tk) dX0_put_63 ?_
      refine f_topi (v := g 22 (mSl tk)) rfl ?_
      refine lv_iload_n hx hb dX0_put_64 rfl (lv_at hl 4 rfl) ?_
      refine lv_iadd hx hb dX0_put_65 ?_
      refine m_iast hx hb hE hP hS (B + 10) rfl (ov_a (a := 2) (by decide)) (mFm_in tk) dX0_put_66 (fun H locs hP hS => ?_)
      have hP := m_cv hP (ov_ua (r := upd (g 22) (mSl tk) ((g 22 (mSl tk)) + mu)) (a := 2) (by decide) hJ rfl)
      have hP : mP G al (ov G al k B c (s2 g 22 (mSl tk) ((g 22 (mSl tk)) + mu))) H := hP
      have hP : mP G al (ov G al k B c (mPut g tk pl mu)) H := m_cv hP (show ov G al k B c (s2 g 22 (mSl tk) ((g 22 (mSl tk)) + mu)) = ov G al k B c (mPut g tk pl mu) from (by unfold mPut mPutI; rw [if_pos hc_1, if_pos hc_2]; try rfl))
      refine W.widen (k := 0) (n := 0) (Nat.le_of_ble_eq_true rfl) (Nat.le_of_ble_eq_true rfl) ?_
      exact W.vret hx hb hr (fun tz htz hW => ⟨⟨(), rfl, trivial, g_end htz hP⟩, hS.F htz⟩) hS.2.2 dX0_put_67
    · skip
      refine lv_iload_n hx hb dX0_put_36 rfl (lv_at hl 3 rfl) ?_
      refine lv_bipush (v := 23) hx hb dX0_put_37 (by decide) ?_
      refine lv_icmp_gt (tgt := 56) hx hb dX0_put_39 (by decide) (fun hc_3 => ?_) (fun hc_3 => ?_)
      · skip
        refine lv_aload_n hx hb dX0_put_56 rfl (lv_at hl 1 rfl) ?_
        refine m_get (C := RX0) (T := TX0) (N := 3) (ci := 1) (v := .ref (al (B + 10))) hx hb hts uX0 hown hE hP (B + 7) rfl (gF_a hF) rfl 2 (by decide) (hts _ q7) (fun _ h9 => h9) rfl dX0_put_57 ?_
        refine lv_iload hx hb dX0_put_60 (lv_at hl 0 rfl) ?_
        refine lv_dup2_11 hx hb dX0_put_62 rfl rfl ?_
        refine m_iald hx hb hE hP (B + 10) rfl (ov_a (a := 2) (by decide)) (mFm_in tk) dX0_put_63 ?_
        refine f_topi (v := g 22 (mSl tk)) rfl ?_
        refine lv_iload_n hx hb dX0_put_64 rfl (lv_at hl 4 rfl) ?_
        refine lv_iadd hx hb dX0_put_65 ?_
        refine m_iast hx hb hE hP hS (B + 10) rfl (ov_a (a := 2) (by decide)) (mFm_in tk) dX0_put_66 (fun H locs hP hS => ?_)
        have hP := m_cv hP (ov_ua (r := upd (g 22) (mSl tk) ((g 22 (mSl tk)) + mu)) (a := 2) (by decide) hJ rfl)
        have hP : mP G al (ov G al k B c (s2 g 22 (mSl tk) ((g 22 (mSl tk)) + mu))) H := hP
        have hP : mP G al (ov G al k B c (mPut g tk pl mu)) H := m_cv hP (show ov G al k B c (s2 g 22 (mSl tk) ((g 22 (mSl tk)) + mu)) = ov G al k B c (mPut g tk pl mu) from (by unfold mPut mPutI; rw [if_pos hc_1, if_neg hc_2, if_pos hc_3]; try rfl))
        refine W.widen (k := 0) (n := 0) (Nat.le_of_ble_eq_true rfl) (Nat.le_of_ble_eq_true rfl) ?_
        exact W.vret hx hb hr (fun tz htz hW => ⟨⟨(), rfl, trivial, g_end htz hP⟩, hS.F htz⟩) hS.2.2 dX0_put_67
      · skip
        refine lv_aload_n hx hb dX0_put_42 rfl (lv_at hl 1 rfl) ?_
        refine m_get (C := RX0) (T := TX0) (N := 3) (ci := 1) (v := .ref (al (B + 9))) hx hb hts uX0 hown hE hP (B + 7) rfl (gF_a hF) rfl 1 (by decide) (hts _ q6) (fun _ h9 => h9) rfl dX0_put_43 ?_
        refine lv_iload hx hb dX0_put_46 (lv_at hl 0 rfl) ?_
        refine lv_dup2_11 hx hb dX0_put_48 rfl rfl ?_
        refine m_iald hx hb hE hP (B + 9) rfl (ov_a (a := 1) (by decide)) (mFm_in tk) dX0_put_49 ?_
        refine f_topi (v := g 21 (mSl tk)) rfl ?_
        refine lv_iload_n hx hb dX0_put_50 rfl (lv_at hl 4 rfl) ?_
        refine lv_iadd hx hb dX0_put_51 ?_
        refine m_iast hx hb hE hP hS (B + 9) rfl (ov_a (a := 1) (by decide)) (mFm_in tk) dX0_put_52 (fun H locs hP hS => ?_)
        have hP := m_cv hP (ov_ua (r := upd (g 21) (mSl tk) ((g 21 (mSl tk)) + mu)) (a := 1) (by decide) hJ rfl)
        have hP : mP G al (ov G al k B c (s2 g 21 (mSl tk) ((g 21 (mSl tk)) + mu))) H := hP
        refine lv_goto (tgt := 67) hx hb dX0_put_53 (by decide) ?_
        have hP : mP G al (ov G al k B c (mPut g tk pl mu)) H := m_cv hP (show ov G al k B c (s2 g 21 (mSl tk) ((g 21 (mSl tk)) + mu)) = ov G al k B c (mPut g tk pl mu) from (by unfold mPut mPutI; rw [if_pos hc_1, if_neg hc_2, if_neg hc_3]; try rfl))
        refine W.widen (k := 0) (n := 0) (Nat.le_of_ble_eq_true rfl) (Nat.le_of_ble_eq_true rfl) ?_
        exact W.vret hx hb hr (fun tz htz hW => ⟨⟨(), rfl, trivial, g_end htz hP⟩, hS.F htz⟩) hS.2.2 dX0_put_67
  · skip
    refine lv_iload_n hx hb dX0_put_10 rfl (lv_at hl 3 rfl) ?_
    refine lv_bipush (v := 19) hx hb dX0_put_11 (by decide) ?_
    refine lv_icmp_gt (tgt := 30) hx hb dX0_put_13 (by decide) (fun hc_4 => ?_) (fun hc_4 => ?_)
    · skip
      refine lv_iload_n hx hb dX0_put_30 rfl (lv_at hl 3 rfl) ?_
      refine lv_bipush (v := (-4)) hx hb dX0_put_31 (by decide) ?_
      refine lv_icmp_lt (tgt := 56) hx hb dX0_put_33 (by decide) (fun hc_5 => ?_) (fun hc_5 => ?_)
      · skip
        refine lv_aload_n hx hb dX0_put_56 rfl (lv_at hl 1 rfl) ?_
        refine m_get (C := RX0) (T := TX0) (N := 3) (ci := 1) (v := .ref (al (B + 10))) hx hb hts uX0 hown hE hP (B + 7) rfl (gF_a hF) rfl 2 (by decide) (hts _ q7) (fun _ h9 => h9) rfl dX0_put_57 ?_
        refine lv_iload hx hb dX0_put_60 (lv_at hl 0 rfl) ?_
        refine lv_dup2_11 hx hb dX0_put_62 rfl rfl ?_
        refine m_iald hx hb hE hP (B + 10) rfl (ov_a (a := 2) (by decide)) (mFm_in tk) dX0_put_63 ?_
        refine f_topi (v := g 22 (mSl tk)) rfl ?_
        refine lv_iload_n hx hb dX0_put_64 rfl (lv_at hl 4 rfl) ?_
        refine lv_iadd hx hb dX0_put_65 ?_
        refine m_iast hx hb hE hP hS (B + 10) rfl (ov_a (a := 2) (by decide)) (mFm_in tk) dX0_put_66 (fun H locs hP hS => ?_)
        have hP := m_cv hP (ov_ua (r := upd (g 22) (mSl tk) ((g 22 (mSl tk)) + mu)) (a := 2) (by decide) hJ rfl)
        have hP : mP G al (ov G al k B c (s2 g 22 (mSl tk) ((g 22 (mSl tk)) + mu))) H := hP
        have hP : mP G al (ov G al k B c (mPut g tk pl mu)) H := m_cv hP (show ov G al k B c (s2 g 22 (mSl tk) ((g 22 (mSl tk)) + mu)) = ov G al k B c (mPut g tk pl mu) from (by unfold mPut mPutI; rw [if_neg hc_1, if_pos hc_4, if_pos hc_5]; try rfl))
        refine W.widen (k := 0) (n := 0) (Nat.le_of_ble_eq_true rfl) (Nat.le_of_ble_eq_true rfl) ?_
        exact W.vret hx hb hr (fun tz htz hW => ⟨⟨(), rfl, trivial, g_end htz hP⟩, hS.F htz⟩) hS.2.2 dX0_put_67
      · skip
        refine lv_iload_n hx hb dX0_put_36 rfl (lv_at hl 3 rfl) ?_
        refine lv_bipush (v := 23) hx hb dX0_put_37 (by decide) ?_
        refine lv_icmp_gt (tgt := 56) hx hb dX0_put_39 (by decide) (fun hc_6 => ?_) (fun hc_6 => ?_)
        · skip
          refine lv_aload_n hx hb dX0_put_56 rfl (lv_at hl 1 rfl) ?_
          refine m_get (C := RX0) (T := TX0) (N := 3) (ci := 1) (v := .ref (al (B + 10))) hx hb hts uX0 hown hE hP (B + 7) rfl (gF_a hF) rfl 2 (by decide) (hts _ q7) (fun _ h9 => h9) rfl dX0_put_57 ?_
          refine lv_iload hx hb dX0_put_60 (lv_at hl 0 rfl) ?_
          refine lv_dup2_11 hx hb dX0_put_62 rfl rfl ?_
          refine m_iald hx hb hE hP (B + 10) rfl (ov_a (a := 2) (by decide)) (mFm_in tk) dX0_put_63 ?_
          refine f_topi (v := g 22 (mSl tk)) rfl ?_
          refine lv_iload_n hx hb dX0_put_64 rfl (lv_at hl 4 rfl) ?_
          refine lv_iadd hx hb dX0_put_65 ?_
          refine m_iast hx hb hE hP hS (B + 10) rfl (ov_a (a := 2) (by decide)) (mFm_in tk) dX0_put_66 (fun H locs hP hS => ?_)
          have hP := m_cv hP (ov_ua (r := upd (g 22) (mSl tk) ((g 22 (mSl tk)) + mu)) (a := 2) (by decide) hJ rfl)
          have hP : mP G al (ov G al k B c (s2 g 22 (mSl tk) ((g 22 (mSl tk)) + mu))) H := hP
          have hP : mP G al (ov G al k B c (mPut g tk pl mu)) H := m_cv hP (show ov G al k B c (s2 g 22 (mSl tk) ((g 22 (mSl tk)) + mu)) = ov G al k B c (mPut g tk pl mu) from (by unfold mPut mPutI; rw [if_neg hc_1, if_pos hc_4, if_neg hc_5, if_pos hc_6]; try rfl))
          refine W.widen (k := 0) (n := 0) (Nat.le_of_ble_eq_true rfl) (Nat.le_of_ble_eq_true rfl) ?_
          exact W.vret hx hb hr (fun tz htz hW => ⟨⟨(), rfl, trivial, g_end htz hP⟩, hS.F htz⟩) hS.2.2 dX0_put_67
        · skip
          refine lv_aload_n hx hb dX0_put_42 rfl (lv_at hl 1 rfl) ?_
          refine m_get (C := RX0) (T := TX0) (N := 3) (ci := 1) (v := .ref (al (B + 9))) hx hb hts uX0 hown hE hP (B + 7) rfl (gF_a hF) rfl 1 (by decide) (hts _ q6) (fun _ h9 => h9) rfl dX0_put_43 ?_
          refine lv_iload hx hb dX0_put_46 (lv_at hl 0 rfl) ?_
          refine lv_dup2_11 hx hb dX0_put_48 rfl rfl ?_
          refine m_iald hx hb hE hP (B + 9) rfl (ov_a (a := 1) (by decide)) (mFm_in tk) dX0_put_49 ?_
          refine f_topi (v := g 21 (mSl tk)) rfl ?_
          refine lv_iload_n hx hb dX0_put_50 rfl (lv_at hl 4 rfl) ?_
          refine lv_iadd hx hb dX0_put_51 ?_
          refine m_iast hx hb hE hP hS (B + 9) rfl (ov_a (a := 1) (by decide)) (mFm_in tk) dX0_put_52 (fun H locs hP hS => ?_)
          have hP := m_cv hP (ov_ua (r := upd (g 21) (mSl tk) ((g 21 (mSl tk)) + mu)) (a := 1) (by decide) hJ rfl)
          have hP : mP G al (ov G al k B c (s2 g 21 (mSl tk) ((g 21 (mSl tk)) + mu))) H := hP
          refine lv_goto (tgt := 67) hx hb dX0_put_53 (by decide) ?_
          have hP : mP G al (ov G al k B c (mPut g tk pl mu)) H := m_cv hP (show ov G al k B c (s2 g 21 (mSl tk) ((g 21 (mSl tk)) + mu)) = ov G al k B c (mPut g tk pl mu) from (by unfold mPut mPutI; rw [if_neg hc_1, if_pos hc_4, if_neg hc_5, if_neg hc_6]; try rfl))
          refine W.widen (k := 0) (n := 0) (Nat.le_of_ble_eq_true rfl) (Nat.le_of_ble_eq_true rfl) ?_
          exact W.vret hx hb hr (fun tz htz hW => ⟨⟨(), rfl, trivial, g_end htz hP⟩, hS.F htz⟩) hS.2.2 dX0_put_67
    · skip
      refine lv_aload_n hx hb dX0_put_16 rfl (lv_at hl 1 rfl) ?_
      refine m_get (C := RX0) (T := TX0) (N := 3) (ci := 1) (v := .ref (al (B + 8))) hx hb hts uX0 hown hE hP (B + 7) rfl (gF_a hF) rfl 0 (by decide) (hts _ q5) (fun _ h9 => h9) rfl dX0_put_17 ?_
      refine lv_iload hx hb dX0_put_20 (lv_at hl 0 rfl) ?_
      refine lv_dup2_11 hx hb dX0_put_22 rfl rfl ?_
      refine m_iald hx hb hE hP (B + 8) rfl (ov_a (a := 0) (by decide)) (mFm_in tk) dX0_put_23 ?_
      refine f_topi (v := g 20 (mSl tk)) rfl ?_
      refine lv_iload_n hx hb dX0_put_24 rfl (lv_at hl 4 rfl) ?_
      refine lv_iadd hx hb dX0_put_25 ?_
      refine m_iast hx hb hE hP hS (B + 8) rfl (ov_a (a := 0) (by decide)) (mFm_in tk) dX0_put_26 (fun H locs hP hS => ?_)
      have hP := m_cv hP (ov_ua (r := upd (g 20) (mSl tk) ((g 20 (mSl tk)) + mu)) (a := 0) (by decide) hJ rfl)
      have hP : mP G al (ov G al k B c (s2 g 20 (mSl tk) ((g 20 (mSl tk)) + mu))) H := hP
      refine lv_goto (tgt := 67) hx hb dX0_put_27 (by decide) ?_
      have hP : mP G al (ov G al k B c (mPut g tk pl mu)) H := m_cv hP (show ov G al k B c (s2 g 20 (mSl tk) ((g 20 (mSl tk)) + mu)) = ov G al k B c (mPut g tk pl mu) from (by unfold mPut mPutI; rw [if_neg hc_1, if_neg hc_4]; try rfl))
      refine W.widen (k := 0) (n := 0) (Nat.le_of_ble_eq_true rfl) (Nat.le_of_ble_eq_true rfl) ?_
      exact W.vret hx hb hr (fun tz htz hW => ⟨⟨(), rfl, trivial, g_end htz hP⟩, hS.F htz⟩) hS.2.2 dX0_put_67
set_option maxHeartbeats 4000000 in
set_option maxRecDepth 100000 in
theorem kX0_all (l : Launch) (G : gT) (al : Nat → Nat) (k : gC) (h : gK) (B : Nat) (c : mC) (g : St) (hF : gF G al k B c) : Met l yX0_all (fW yX0_all cX0_all 3 (some .int)) { frames := 0, cells := 0, slots := 0, locals := 0 } (gPre G al (ov G al k B c g) [.ref (al (B + 7))]) (gQi (S := Unit) G (fun _ => mAll g) (fun _ => al) (fun _ => ov G al k B c g)) 0 0 (gA G) := by
  refine Met.ofW (cc := cX0_all) (maxL := 3) (ret := (some .int)) (by decide) rfl ?_
  intro pz ez s m args below meth c₀ s₁ Bo hml hv
  obtain ⟨rfl, hb0, hP, hE⟩ := hv
  have hx := Bo.exec
  have hb := Bo.bytes
  have hr := Bo.returns
  have hts0 := atoms_spec (ws := (fW yX0_all cX0_all 3 (some .int))) Bo.pre
  have hts : ∀ w ∈ fA, w.before _ s = true := fun w h => hts0 w (List.mem_cons_of_mem _ h)
  have hown : s.vm.findClass RX0 = some m.cls := findClass_of_methodNamed Bo.named
  have hlocks := Bo.notSynchronized
  have hl := lv_entry ([.ref (al (B + 7))]) (n := 3) (Nat.le_of_ble_eq_true rfl)
  rw [lg_entry_eq]
  generalize (lg_sl ([.ref (al (B + 7))]) ++ List.replicate (3 - (lg_sl ([.ref (al (B + 7))])).length) Slot.unset).toArray = ls at hl ⊢
  have hl : lv_has ls 3 [(0, .ref (al (B + 7)))] := hl
  have hJ := gF_J hF
  refine g_start hP (fun H hP hS => ?_)
  refine lv_iconst (v := 0) hx hb dX0_all_0 (by decide) ?_
  refine lv_istore_n (lv' := [(1, .int 0), (0, .ref (al (B + 7)))]) hx hb dX0_all_1 rfl hl (by decide) rfl (fun ls hl => ?_)
  refine lv_iconst (v := 0) hx hb dX0_all_2 (by decide) ?_
  refine lv_istore_n (lv' := [(2, .int 0), (1, .int 0), (0, .ref (al (B + 7)))]) hx hb dX0_all_3 rfl hl (by decide) rfl (fun ls hl => ?_)
  refine g_loop (al := al) (N := 9) (nL := 3) (Wi := fun i1 => ov G al k B c g) (Li := fun i1 => [(2, .int (nI i1)), (1, .int (it (fun i a => a + (g 20 i + g 21 i + g 22 i)) i1 0)), (0, .ref (al (B + 7)))]) hP hS (lv_sub hl [0, 1, 2] rfl) (fun i1 hii1 ihi1 H locs ls hP hS hl => ?_)
  have hP : mP G al (ov G al k B c g) H := hP
  have hl : lv_has ls 3 [(2, .int (nI i1)), (1, .int (it (fun i a => a + (g 20 i + g 21 i + g 22 i)) i1 0)), (0, .ref (al (B + 7)))] := hl
  refine lv_iload_n hx hb dX0_all_4 rfl (lv_at hl 0 rfl) ?_
  refine lv_bipush (v := 9) hx hb dX0_all_5 (by decide) ?_
  refine lv_icmp_ge (tgt := 39) hx hb dX0_all_7 (by decide) (fun hc_1 => ?_) (fun hc_1 => ?_)
  · skip
    have hgei1 : 9 ≤ i1 := (nI_leI (a := 9) (by omega) (by omega)).mp hc_1
    obtain rfl : i1 = 9 := Nat.le_antisymm hii1 hgei1
    have hP : mP G al (ov G al k B c g) H := hP
    have hl : lv_has ls 3 [(2, .int (nI 9)), (1, .int (it (fun i a => a + (g 20 i + g 21 i + g 22 i)) 9 0)), (0, .ref (al (B + 7)))] := hl
    refine lv_iload_n hx hb dX0_all_39 rfl (lv_at hl 1 rfl) ?_
    refine W.widen (k := 0) (n := 0) (Nat.le_of_ble_eq_true rfl) (Nat.le_of_ble_eq_true rfl) ?_
    exact W.iret (v := it (fun i a => a + (g 20 i + g 21 i + g 22 i)) 9 0) hx hb hr (fun tz htz hW => ⟨⟨it (fun i a => a + (g 20 i + g 21 i + g 22 i)) 9 0, (), rfl, (by unfold mAll; rfl), g_end htz hP⟩, hS.F htz⟩) hS.2.2 dX0_all_40
  · skip
    have hlti1 : i1 < 9 := Nat.lt_of_not_le (fun q => hc_1 (nI_le (a := 9) q (by omega)))
    refine lv_iload_n hx hb dX0_all_10 rfl (lv_at hl 1 rfl) ?_
    refine lv_aload_n hx hb dX0_all_11 rfl (lv_at hl 2 rfl) ?_
    refine m_get (C := RX0) (T := TX0) (N := 3) (ci := 1) (v := .ref (al (B + 8))) hx hb hts uX0 hown hE hP (B + 7) rfl (gF_a hF) rfl 0 (by decide) (hts _ q5) (fun _ h9 => h9) rfl dX0_all_12 ?_
    refine lv_iload_n hx hb dX0_all_15 rfl (lv_at hl 0 rfl) ?_
    refine m_iald hx hb hE hP (B + 8) rfl (ov_a (a := 0) (by decide)) (nI_in (by omega) (by omega)) dX0_all_16 ?_
    refine f_topi (v := g 20 i1) (congrArg (g 20) (nI_clamp (by omega))) ?_
    refine lv_aload_n hx hb dX0_all_17 rfl (lv_at hl 2 rfl) ?_
    refine m_get (C := RX0) (T := TX0) (N := 3) (ci := 1) (v := .ref (al (B + 9))) hx hb hts uX0 hown hE hP (B + 7) rfl (gF_a hF) rfl 1 (by decide) (hts _ q6) (fun _ h9 => h9) rfl dX0_all_18 ?_
    refine lv_iload_n hx hb dX0_all_21 rfl (lv_at hl 0 rfl) ?_
    refine m_iald hx hb hE hP (B + 9) rfl (ov_a (a := 1) (by decide)) (nI_in (by omega) (by omega)) dX0_all_22 ?_
    refine f_topi (v := g 21 i1) (congrArg (g 21) (nI_clamp (by omega))) ?_
    refine lv_iadd hx hb dX0_all_23 ?_
    refine lv_aload_n hx hb dX0_all_24 rfl (lv_at hl 2 rfl) ?_
    refine m_get (C := RX0) (T := TX0) (N := 3) (ci := 1) (v := .ref (al (B + 10))) hx hb hts uX0 hown hE hP (B + 7) rfl (gF_a hF) rfl 2 (by decide) (hts _ q7) (fun _ h9 => h9) rfl dX0_all_25 ?_
    refine lv_iload_n hx hb dX0_all_28 rfl (lv_at hl 0 rfl) ?_
    refine m_iald hx hb hE hP (B + 10) rfl (ov_a (a := 2) (by decide)) (nI_in (by omega) (by omega)) dX0_all_29 ?_
    refine f_topi (v := g 22 i1) (congrArg (g 22) (nI_clamp (by omega))) ?_
    refine lv_iadd hx hb dX0_all_30 ?_
    refine lv_iadd hx hb dX0_all_31 ?_
    refine lv_istore_n (lv' := [(1, .int ((it (fun i a => a + (g 20 i + g 21 i + g 22 i)) i1 0) + (((g 20 i1) + (g 21 i1)) + (g 22 i1)))), (2, .int (nI i1)), (0, .ref (al (B + 7)))]) hx hb dX0_all_32 rfl hl (by decide) rfl (fun ls hl => ?_)
    refine lv_iinc (v := nI (i1 + 1)) (lv' := [(2, .int (nI (i1 + 1))), (1, .int ((it (fun i a => a + (g 20 i + g 21 i + g 22 i)) i1 0) + (((g 20 i1) + (g 21 i1)) + (g 22 i1)))), (0, .ref (al (B + 7)))]) hx hb dX0_all_33 hl (k := 1) rfl (f_inc _) (by decide) rfl (fun ls hl => ?_)
    refine lv_goto (tgt := 4) hx hb dX0_all_36 (by decide) ?_
    have hl9 := lv_sub (l' := [(2, .int (nI (i1 + 1))), (1, .int ((it (fun i a => a + (g 20 i + g 21 i + g 22 i)) i1 0) + (((g 20 i1) + (g 21 i1)) + (g 22 i1)))), (0, .ref (al (B + 7)))]) hl [0, 1, 2] rfl
    rw [show ([(2, .int (nI (i1 + 1))), (1, .int ((it (fun i a => a + (g 20 i + g 21 i + g 22 i)) i1 0) + (((g 20 i1) + (g 21 i1)) + (g 22 i1)))), (0, .ref (al (B + 7)))] : List (Nat × Value)) = [(2, .int (nI (i1 + 1))), (1, .int (it (fun i a => a + (g 20 i + g 21 i + g 22 i)) (i1 + 1) 0)), (0, .ref (al (B + 7)))] from (by first | rfl | (simp only [it_s]; done) | (simp only [it_s]; rfl))] at hl9
    exact ihi1 hlti1 _ _ _ hP hS hl9
set_option maxHeartbeats 4000000 in
set_option maxRecDepth 100000 in
theorem kX5_pour (l : Launch) (G : gT) (al : Nat → Nat) (k : gC) (h : gK) (B : Nat) (c : mC) (g : St) (v : Int32) (hF : gF G al k B c) : Met l yX5_pour (fW yX5_pour cX5_pour 2 none) { frames := 0, cells := 0, slots := 0, locals := 0 } (gPre G al (ov G al k B c g) [.ref (al B), .int v]) (gQv (S := Unit) G (fun _ => al) (fun _ => ov G al k B c (mPour g v))) 0 0 (gA G) := by
  refine Met.ofW (cc := cX5_pour) (maxL := 2) (ret := none) (by decide) rfl ?_
  intro pz ez s m args below meth c₀ s₁ Bo hml hv
  obtain ⟨rfl, hb0, hP, hE⟩ := hv
  have hx := Bo.exec
  have hb := Bo.bytes
  have hr := Bo.returns
  have hts0 := atoms_spec (ws := (fW yX5_pour cX5_pour 2 none)) Bo.pre
  have hts : ∀ w ∈ fA, w.before _ s = true := fun w h => hts0 w (List.mem_cons_of_mem _ h)
  have hown : s.vm.findClass RX5 = some m.cls := findClass_of_methodNamed Bo.named
  have hlocks := Bo.notSynchronized
  have hl := lv_entry ([.ref (al B), .int v]) (n := 2) (Nat.le_of_ble_eq_true rfl)
  rw [lg_entry_eq]
  generalize (lg_sl ([.ref (al B), .int v]) ++ List.replicate (2 - (lg_sl ([.ref (al B), .int v])).length) Slot.unset).toArray = ls at hl ⊢
  have hl : lv_has ls 2 [(0, .ref (al B)), (1, .int v)] := hl
  have hJ := gF_J hF
  refine g_start hP (fun H hP hS => ?_)
  refine lv_aload_n hx hb dX5_pour_0 rfl (lv_at hl 0 rfl) ?_
  refine lv_dup hx hb dX5_pour_1 rfl ?_
  refine m_get (C := RX5) (T := TX5) (N := 15) (ci := 6) (v := .int (g 0 5)) hx hb hts uX5 hown hE hP B rfl ov_s rfl 5 (by decide) (hts _ q179) (fun _ h9 => h9) rfl dX5_pour_2 ?_
  refine lv_iload_n hx hb dX5_pour_5 rfl (lv_at hl 1 rfl) ?_
  refine lv_iadd hx hb dX5_pour_6 ?_
  refine m_put (v := .int ((g 0 5) + v)) (ty := .int) (C := RX5) (T := TX5) (N := 15) (ci := 6) hx hb hts uX5 tyX5 tyX5_ok nmX5 hown hE hP hS B rfl ov_s rfl 5 (by decide) (hts _ q179) (fun _ h9 => h9) rfl (by decide +kernel) rfl rfl (Nat.le_of_ble_eq_true rfl) dX5_pour_7 (fun H locs hP hS => ?_)
  have hP := m_cv hP (ov_us (r := upd (g 0) 5 ((g 0 5) + v)) rfl)
  have hP : mP G al (ov G al k B c (s2 g 0 5 ((g 0 5) + v))) H := hP
  refine lv_aload_n hx hb dX5_pour_10 rfl (lv_at hl 0 rfl) ?_
  refine m_get (C := RX5) (T := TX5) (N := 15) (ci := 6) (v := .int ((s2 g 0 5 ((g 0 5) + v)) 0 5)) hx hb hts uX5 hown hE hP B rfl ov_s rfl 5 (by decide) (hts _ q179) (fun _ h9 => h9) rfl dX5_pour_11 ?_
  refine f_topi (v := (g 0 5) + v) (s2_s _ _ _ _) ?_
  refine lv_sipush (v := 9000) hx hb dX5_pour_14 (by decide) ?_
  refine lv_icmp_le (tgt := 44) hx hb dX5_pour_17 (by decide) (fun hc_1 => ?_) (fun hc_1 => ?_)
  · skip
    have hP : mP G al (ov G al k B c (mPour g v)) H := m_cv hP (show ov G al k B c (s2 g 0 5 ((g 0 5) + v)) = ov G al k B c (mPour g v) from (by unfold mPour; rw [if_pos hc_1]; try rfl))
    refine W.widen (k := 0) (n := 0) (Nat.le_of_ble_eq_true rfl) (Nat.le_of_ble_eq_true rfl) ?_
    exact W.vret hx hb hr (fun tz htz hW => ⟨⟨(), rfl, trivial, g_end htz hP⟩, hS.F htz⟩) hS.2.2 dX5_pour_44
  · skip
    refine lv_aload_n hx hb dX5_pour_20 rfl (lv_at hl 0 rfl) ?_
    refine lv_dup hx hb dX5_pour_21 rfl ?_
    refine m_get (C := RX5) (T := TX5) (N := 15) (ci := 6) (v := .int ((s2 g 0 5 ((g 0 5) + v)) 0 6)) hx hb hts uX5 hown hE hP B rfl ov_s rfl 6 (by decide) (hts _ q248) (fun _ h9 => h9) rfl dX5_pour_22 ?_
    refine f_topi (v := g 0 6) (s2_k _ _ _ (by decide)) ?_
    refine lv_aload_n hx hb dX5_pour_25 rfl (lv_at hl 0 rfl) ?_
    refine m_get (C := RX5) (T := TX5) (N := 15) (ci := 6) (v := .int ((s2 g 0 5 ((g 0 5) + v)) 0 5)) hx hb hts uX5 hown hE hP B rfl ov_s rfl 5 (by decide) (hts _ q179) (fun _ h9 => h9) rfl dX5_pour_26 ?_
    refine f_topi (v := (g 0 5) + v) (s2_s _ _ _ _) ?_
    refine lv_sipush (v := 9000) hx hb dX5_pour_29 (by decide) ?_
    refine lv_isub hx hb dX5_pour_32 ?_
    refine lv_iadd hx hb dX5_pour_33 ?_
    refine m_put (v := .int ((g 0 6) + (((g 0 5) + v) - 9000))) (ty := .int) (C := RX5) (T := TX5) (N := 15) (ci := 6) hx hb hts uX5 tyX5 tyX5_ok nmX5 hown hE hP hS B rfl ov_s rfl 6 (by decide) (hts _ q248) (fun _ h9 => h9) rfl (by decide +kernel) rfl rfl (Nat.le_of_ble_eq_true rfl) dX5_pour_34 (fun H locs hP hS => ?_)
    have hP := m_cv hP (ov_us (r := upd ((s2 g 0 5 ((g 0 5) + v)) 0) 6 ((g 0 6) + (((g 0 5) + v) - 9000))) rfl)
    have hP : mP G al (ov G al k B c (s2 (s2 g 0 5 ((g 0 5) + v)) 0 6 ((g 0 6) + (((g 0 5) + v) - 9000)))) H := hP
    refine lv_aload_n hx hb dX5_pour_37 rfl (lv_at hl 0 rfl) ?_
    refine lv_sipush (v := 9000) hx hb dX5_pour_38 (by decide) ?_
    refine m_put (v := .int 9000) (ty := .int) (C := RX5) (T := TX5) (N := 15) (ci := 6) hx hb hts uX5 tyX5 tyX5_ok nmX5 hown hE hP hS B rfl ov_s rfl 5 (by decide) (hts _ q179) (fun _ h9 => h9) rfl (by decide +kernel) rfl rfl (Nat.le_of_ble_eq_true rfl) dX5_pour_41 (fun H locs hP hS => ?_)
    have hP := m_cv hP (ov_us (r := upd ((s2 (s2 g 0 5 ((g 0 5) + v)) 0 6 ((g 0 6) + (((g 0 5) + v) - 9000))) 0) 5 9000) rfl)
    have hP : mP G al (ov G al k B c (s2 (s2 (s2 g 0 5 ((g 0 5) + v)) 0 6 ((g 0 6) + (((g 0 5) + v) - 9000))) 0 5 9000)) H := hP
    have hP : mP G al (ov G al k B c (mPour g v)) H := m_cv hP (show ov G al k B c (s2 (s2 (s2 g 0 5 ((g 0 5) + v)) 0 6 ((g 0 6) + (((g 0 5) + v) - 9000))) 0 5 9000) = ov G al k B c (mPour g v) from (by unfold mPour; rw [if_neg hc_1]; try rfl))
    refine W.widen (k := 0) (n := 0) (Nat.le_of_ble_eq_true rfl) (Nat.le_of_ble_eq_true rfl) ?_
    exact W.vret hx hb hr (fun tz htz hW => ⟨⟨(), rfl, trivial, g_end htz hP⟩, hS.F htz⟩) hS.2.2 dX5_pour_44
set_option maxHeartbeats 4000000 in
set_option maxRecDepth 100000 in
theorem kX5_windWithGust (l : Launch) (G : gT) (al : Nat → Nat) (k : gC) (h : gK) (B : Nat) (c : mC) (g : St) (hF : gF G al k B c) : Met l yX5_windWithGust (fW yX5_windWithGust cX5_windWithGust 1 (some .int)) { frames := 0, cells := 0, slots := 0, locals := 0 } (gPre G al (ov G al k B c g) [.ref (al B)]) (gQi (S := Unit) G (fun _ => mWind g) (fun _ => al) (fun _ => ov G al k B c g)) 0 0 (gA G) := by
  refine Met.ofW (cc := cX5_windWithGust) (maxL := 1) (ret := (some .int)) (by decide) rfl ?_
  intro pz ez s m args below meth c₀ s₁ Bo hml hv
  obtain ⟨rfl, hb0, hP, hE⟩ := hv
  have hx := Bo.exec
  have hb := Bo.bytes
  have hr := Bo.returns
  have hts0 := atoms_spec (ws := (fW yX5_windWithGust cX5_windWithGust 1 (some .int))) Bo.pre
  have hts : ∀ w ∈ fA, w.before _ s = true := fun w h => hts0 w (List.mem_cons_of_mem _ h)
  have hown : s.vm.findClass RX5 = some m.cls := findClass_of_methodNamed Bo.named
  have hlocks := Bo.notSynchronized
  have hl := lv_entry ([.ref (al B)]) (n := 1) (Nat.le_of_ble_eq_true rfl)
  rw [lg_entry_eq]
  generalize (lg_sl ([.ref (al B)]) ++ List.replicate (1 - (lg_sl ([.ref (al B)])).length) Slot.unset).toArray = ls at hl ⊢
  have hl : lv_has ls 1 [(0, .ref (al B))] := hl
  have hJ := gF_J hF
  refine g_start hP (fun H hP hS => ?_)
  refine lv_aload_n hx hb dX5_windWithGust_0 rfl (lv_at hl 0 rfl) ?_
  refine m_get (C := RX5) (T := TX5) (N := 15) (ci := 6) (v := .int (g 0 12)) hx hb hts uX5 hown hE hP B rfl ov_s rfl 12 (by decide) (hts _ q270) (fun _ h9 => h9) rfl dX5_windWithGust_1 ?_
  refine lv_if_le (tgt := 19) hx hb dX5_windWithGust_4 (by decide) (fun hc_1 => ?_) (fun hc_1 => ?_)
  · skip
    refine lv_aload_n hx hb dX5_windWithGust_19 rfl (lv_at hl 0 rfl) ?_
    refine m_get (C := RX5) (T := TX5) (N := 15) (ci := 6) (v := .int (g 0 12)) hx hb hts uX5 hown hE hP B rfl ov_s rfl 12 (by decide) (hts _ q270) (fun _ h9 => h9) rfl dX5_windWithGust_20 ?_
    refine lv_if_ge (tgt := 38) hx hb dX5_windWithGust_23 (by decide) (fun hc_2 => ?_) (fun hc_2 => ?_)
    · skip
      refine lv_iconst (v := 0) hx hb dX5_windWithGust_38 (by decide) ?_
      refine W.widen (k := 0) (n := 0) (Nat.le_of_ble_eq_true rfl) (Nat.le_of_ble_eq_true rfl) ?_
      exact W.iret (v := 0) hx hb hr (fun tz htz hW => ⟨⟨0, (), rfl, (by unfold mWind; rw [if_pos hc_1, if_pos hc_2]; try rfl), g_end htz hP⟩, hS.F htz⟩) hS.2.2 dX5_windWithGust_39
    · skip
      refine lv_aload_n hx hb dX5_windWithGust_26 rfl (lv_at hl 0 rfl) ?_
      refine m_get (C := RX5) (T := TX5) (N := 15) (ci := 6) (v := .int (g 0 12)) hx hb hts uX5 hown hE hP B rfl ov_s rfl 12 (by decide) (hts _ q270) (fun _ h9 => h9) rfl dX5_windWithGust_27 ?_
      refine lv_aload_n hx hb dX5_windWithGust_30 rfl (lv_at hl 0 rfl) ?_
      refine m_get (C := RX5) (T := TX5) (N := 15) (ci := 6) (v := .int (g 0 13)) hx hb hts uX5 hown hE hP B rfl ov_s rfl 13 (by decide) (hts _ q271) (fun _ h9 => h9) rfl dX5_windWithGust_31 ?_
      refine lv_isub hx hb dX5_windWithGust_34 ?_
      refine lv_goto (tgt := 39) hx hb dX5_windWithGust_35 (by decide) ?_
      refine W.widen (k := 0) (n := 0) (Nat.le_of_ble_eq_true rfl) (Nat.le_of_ble_eq_true rfl) ?_
      exact W.iret (v := (g 0 12) - (g 0 13)) hx hb hr (fun tz htz hW => ⟨⟨(g 0 12) - (g 0 13), (), rfl, (by unfold mWind; rw [if_pos hc_1, if_neg hc_2]; try rfl), g_end htz hP⟩, hS.F htz⟩) hS.2.2 dX5_windWithGust_39
  · skip
    refine lv_aload_n hx hb dX5_windWithGust_7 rfl (lv_at hl 0 rfl) ?_
    refine m_get (C := RX5) (T := TX5) (N := 15) (ci := 6) (v := .int (g 0 12)) hx hb hts uX5 hown hE hP B rfl ov_s rfl 12 (by decide) (hts _ q270) (fun _ h9 => h9) rfl dX5_windWithGust_8 ?_
    refine lv_aload_n hx hb dX5_windWithGust_11 rfl (lv_at hl 0 rfl) ?_
    refine m_get (C := RX5) (T := TX5) (N := 15) (ci := 6) (v := .int (g 0 13)) hx hb hts uX5 hown hE hP B rfl ov_s rfl 13 (by decide) (hts _ q271) (fun _ h9 => h9) rfl dX5_windWithGust_12 ?_
    refine lv_iadd hx hb dX5_windWithGust_15 ?_
    refine lv_goto (tgt := 39) hx hb dX5_windWithGust_16 (by decide) ?_
    refine W.widen (k := 0) (n := 0) (Nat.le_of_ble_eq_true rfl) (Nat.le_of_ble_eq_true rfl) ?_
    exact W.iret (v := (g 0 12) + (g 0 13)) hx hb hr (fun tz htz hW => ⟨⟨(g 0 12) + (g 0 13), (), rfl, (by unfold mWind; rw [if_neg hc_1]; try rfl), g_end htz hP⟩, hS.F htz⟩) hS.2.2 dX5_windWithGust_39
set_option maxHeartbeats 4000000 in
set_option maxRecDepth 100000 in
theorem kX5_pressureOf (l : Launch) (G : gT) (al : Nat → Nat) (k : gC) (h : gK) (B : Nat) (c : mC) (g : St) (p : Nat) (hF : gF G al k B c) (hp : p < 2) : Met l yX5_pressureOf (fW yX5_pressureOf cX5_pressureOf 5 (some .int)) { frames := 3, cells := 0, slots := 0, locals := 64 } (gPre G al (ov G al k B c g) [.ref (al B), .ref (al (B + 11 + p))]) (gQi (S := Unit) G (fun _ => mPress k g p) (fun _ => al) (fun _ => ov G al k B c g)) 0 0 (gA G) := by
  refine Met.ofW (cc := cX5_pressureOf) (maxL := 5) (ret := (some .int)) (by decide) rfl ?_
  intro pz ez s m args below meth c₀ s₁ Bo hml hv
  obtain ⟨rfl, hb0, hP, hE⟩ := hv
  have hx := Bo.exec
  have hb := Bo.bytes
  have hr := Bo.returns
  have hts0 := atoms_spec (ws := (fW yX5_pressureOf cX5_pressureOf 5 (some .int))) Bo.pre
  have hts : ∀ w ∈ fA, w.before _ s = true := fun w h => hts0 w (List.mem_cons_of_mem _ h)
  have hown : s.vm.findClass RX5 = some m.cls := findClass_of_methodNamed Bo.named
  have hlocks := Bo.notSynchronized
  have hl := lv_entry ([.ref (al B), .ref (al (B + 11 + p))]) (n := 5) (Nat.le_of_ble_eq_true rfl)
  rw [lg_entry_eq]
  generalize (lg_sl ([.ref (al B), .ref (al (B + 11 + p))]) ++ List.replicate (5 - (lg_sl ([.ref (al B), .ref (al (B + 11 + p))])).length) Slot.unset).toArray = ls at hl ⊢
  have hl : lv_has ls 5 [(0, .ref (al B)), (1, .ref (al (B + 11 + p)))] := hl
  have hJ := gF_J hF
  refine g_start hP (fun H hP hS => ?_)
  refine lv_iconst (v := 0) hx hb dX5_pressureOf_0 (by decide) ?_
  refine lv_istore_n (lv' := [(2, .int 0), (0, .ref (al B)), (1, .ref (al (B + 11 + p)))]) hx hb dX5_pressureOf_1 rfl hl (by decide) rfl (fun ls hl => ?_)
  refine lv_iconst (v := 0) hx hb dX5_pressureOf_2 (by decide) ?_
  refine lv_istore_n (lv' := [(3, .int 0), (2, .int 0), (0, .ref (al B)), (1, .ref (al (B + 11 + p)))]) hx hb dX5_pressureOf_3 rfl hl (by decide) rfl (fun ls hl => ?_)
  refine g_loop (al := al) (N := k.1) (nL := 5) (Wi := fun i1 => ov G al k B c g) (Li := fun i1 => [(3, .int (nI i1)), (2, .int (it (fun j a => if k.2.1 j = p then a + mFlow k g j else a) i1 0)), (1, .ref (al (B + 11 + p))), (0, .ref (al B))]) hP hS (lv_sub hl [0, 1, 3, 2] rfl) (fun i1 hii1 ihi1 H locs ls hP hS hl => ?_)
  have hP : mP G al (ov G al k B c g) H := hP
  have hl : lv_has ls 5 [(3, .int (nI i1)), (2, .int (it (fun j a => if k.2.1 j = p then a + mFlow k g j else a) i1 0)), (1, .ref (al (B + 11 + p))), (0, .ref (al B))] := hl
  refine lv_iload_n hx hb dX5_pressureOf_4 rfl (lv_at hl 0 rfl) ?_
  refine lv_aload_n hx hb dX5_pressureOf_5 rfl (lv_at hl 3 rfl) ?_
  refine m_get (C := RX5) (T := TX5) (N := 15) (ci := 6) (v := .ref (al (B + 3))) hx hb hts uX5 hown hE hP B rfl ov_s rfl 1 (by decide) (hts _ q174) (fun _ h9 => h9) rfl dX5_pressureOf_6 ?_
  refine g_aft_i (g_runV (As := []) (rest := [.int (nI i1)]) hx hb hml hown hts (kJx4a65c_size_8abf5 l G al (ov G al k B c g) (B + 3) (B + 4) k.1 (fun j => B + 20 + j) (gF_j hF)) (fcwV 0 hts q187 q53 q54 q50 q34 rfl rfl (by decide +kernel) ⟨(Nat.le_of_ble_eq_true rfl), (Nat.le_of_ble_eq_true rfl)⟩) hE hb0 hP hS (m_recvL hE hP (gF_j hF) rfl) rfl hl.1 rfl (Nat.le_of_ble_eq_true rfl) dX5_pressureOf_9 ⟨(Nat.le_of_ble_eq_true rfl), (Nat.le_of_ble_eq_true rfl)⟩) hS (fun u H locs hP hS => ?_)
  refine f_topi (v := nI k.1) rfl ?_
  refine lv_icmp_ge (tgt := 51) hx hb dX5_pressureOf_12 (by decide) (fun hc_1 => ?_) (fun hc_1 => ?_)
  · skip
    have hgei1 : k.1 ≤ i1 := (nI_leI (by omega) (by omega)).mp hc_1
    obtain rfl : i1 = k.1 := Nat.le_antisymm hii1 hgei1
    have hP : mP G al (ov G al k B c g) H := hP
    have hl : lv_has ls 5 [(3, .int (nI k.1)), (2, .int (it (fun j a => if k.2.1 j = p then a + mFlow k g j else a) k.1 0)), (1, .ref (al (B + 11 + p))), (0, .ref (al B))] := hl
    refine lv_aload_n hx hb dX5_pressureOf_51 rfl (lv_at hl 2 rfl) ?_
    refine m_get (C := RX4) (T := TX4) (N := 6) (ci := 5) (v := .int (g (1 + p) 3)) hx hb hts uX4 hown hE hP (B + 11 + p) rfl (ov_p hp) rfl 3 (by decide) (hts _ q198) (fun _ h9 => h9) rfl dX5_pressureOf_52 ?_
    refine lv_aload_n hx hb dX5_pressureOf_55 rfl (lv_at hl 2 rfl) ?_
    refine m_get (C := RX4) (T := TX4) (N := 6) (ci := 5) (v := .int (k.2.2 (1 + p) 1)) hx hb hts uX4 hown hE hP (B + 11 + p) rfl (ov_p hp) rfl 1 (by decide) (hts _ q199) (fun _ h9 => h9) rfl dX5_pressureOf_56 ?_
    refine lv_iload_n hx hb dX5_pressureOf_59 rfl (lv_at hl 1 rfl) ?_
    refine g_aft_i (g_runSN (As := [.int (g (1 + p) 3), .int (k.2.2 (1 + p) 1), .int (it (fun j a => if k.2.1 j = p then a + mFlow k g j else a) k.1 0)]) (rest := []) hx hb hml hown hts (kX7_pressureBy l G al (ov G al k B c g) (g (1 + p) 3) (k.2.2 (1 + p) 1) (it (fun j a => if k.2.1 j = p then a + mFlow k g j else a) k.1 0)) (fcwSN 3 hts (hE.1.1.2.2.2.2.1 (RX5, 216, yX7_pressureBy, RX7) (by decide +kernel)) q203 q148 q195 rfl rfl (by decide +kernel) ⟨(Nat.le_of_ble_eq_true rfl), (Nat.le_of_ble_eq_true rfl)⟩) hE hb0 hP hS rfl hl.1 rfl (Nat.le_of_ble_eq_true rfl) dX5_pressureOf_60 ⟨(Nat.le_of_ble_eq_true rfl), (Nat.le_of_ble_eq_true rfl)⟩) hS (fun u H locs hP hS => ?_)
    refine f_topi (v := mPby (g (1 + p) 3) (k.2.2 (1 + p) 1) (it (fun j a => if k.2.1 j = p then a + mFlow k g j else a) k.1 0)) rfl ?_
    refine W.widen (k := 0) (n := 0) (Nat.le_of_ble_eq_true rfl) (Nat.le_of_ble_eq_true rfl) ?_
    exact W.iret (v := mPby (g (1 + p) 3) (k.2.2 (1 + p) 1) (it (fun j a => if k.2.1 j = p then a + mFlow k g j else a) k.1 0)) hx hb hr (fun tz htz hW => ⟨⟨mPby (g (1 + p) 3) (k.2.2 (1 + p) 1) (it (fun j a => if k.2.1 j = p then a + mFlow k g j else a) k.1 0), (), rfl, (by unfold mPress; rfl), g_end htz hP⟩, hS.F htz⟩) hS.2.2 dX5_pressureOf_63
  · skip
    have hlti1 : i1 < k.1 := Nat.lt_of_not_le (fun q => hc_1 (nI_le q (by omega)))
    refine lv_aload_n hx hb dX5_pressureOf_15 rfl (lv_at hl 3 rfl) ?_
    refine m_get (C := RX5) (T := TX5) (N := 15) (ci := 6) (v := .ref (al (B + 3))) hx hb hts uX5 hown hE hP B rfl ov_s rfl 1 (by decide) (hts _ q174) (fun _ h9 => h9) rfl dX5_pressureOf_16 ?_
    refine lv_iload_n hx hb dX5_pressureOf_19 rfl (lv_at hl 0 rfl) ?_
    refine g_aft_r (g_runV (As := [.int (nI i1)]) (rest := []) hx hb hml hown hts (kJx4a65c_get_915e3 l G al (ov G al k B c g) (B + 3) (B + 4) k.1 (fun j => B + 20 + j) i1 (gF_j hF) hlti1) (fcwV 1 hts q188 q56 q57 q50 q43 rfl rfl (by decide +kernel) ⟨(Nat.le_of_ble_eq_true rfl), (Nat.le_of_ble_eq_true rfl)⟩) hE hb0 hP hS (m_recvL hE hP (gF_j hF) rfl) rfl hl.1 rfl (Nat.le_of_ble_eq_true rfl) dX5_pressureOf_20 ⟨(Nat.le_of_ble_eq_true rfl), (Nat.le_of_ble_eq_true rfl)⟩) hS (fun u H locs hP hS => ?_)
    refine g_topr (v := al (B + 20 + i1)) rfl ?_
    refine m_cast hx hb hown (hts _ q196) hE hP (B + 20 + i1) rfl (ov_j hlti1) rfl dX5_pressureOf_23 ?_
    refine lv_astore (lv' := [(4, .ref (al (B + 20 + i1))), (3, .int (nI i1)), (2, .int (it (fun j a => if k.2.1 j = p then a + mFlow k g j else a) i1 0)), (1, .ref (al (B + 11 + p))), (0, .ref (al B))]) hx hb dX5_pressureOf_26 hl (by decide) rfl (fun ls hl => ?_)
    refine lv_aload hx hb dX5_pressureOf_28 (lv_at hl 0 rfl) ?_
    refine m_get (C := RX3) (T := TX3) (N := 10) (ci := 4) (v := .ref (al (B + 11 + k.2.1 i1))) hx hb hts uX3 hown hE hP (B + 20 + i1) rfl (ov_j hlti1) rfl 0 (by decide) (hts _ q197) (fun _ h9 => h9) rfl dX5_pressureOf_30 ?_
    refine lv_aload_n hx hb dX5_pressureOf_33 rfl (lv_at hl 3 rfl) ?_
    refine m_acmp_ne hx hb (tgt := 45) dX5_pressureOf_34 (by decide) hP (ov_p (gF_pp hF hlti1)) (ov_p hp) rfl rfl (fun hc_2 => ?_) (fun hc_2 => ?_)
    · skip
      have hc_2' : ¬ k.2.1 i1 = p := fun q => hc_2 (by rw [q])
      refine lv_iinc (v := nI (i1 + 1)) (lv' := [(3, .int (nI (i1 + 1))), (4, .ref (al (B + 20 + i1))), (2, .int (it (fun j a => if k.2.1 j = p then a + mFlow k g j else a) i1 0)), (1, .ref (al (B + 11 + p))), (0, .ref (al B))]) hx hb dX5_pressureOf_45 hl (k := 1) rfl (f_inc _) (by decide) rfl (fun ls hl => ?_)
      refine lv_goto (tgt := 4) hx hb dX5_pressureOf_48 (by decide) ?_
      have hl9 := lv_sub (l' := [(3, .int (nI (i1 + 1))), (2, .int (it (fun j a => if k.2.1 j = p then a + mFlow k g j else a) i1 0)), (1, .ref (al (B + 11 + p))), (0, .ref (al B))]) hl [0, 2, 3, 4] rfl
      rw [show ([(3, .int (nI (i1 + 1))), (2, .int (it (fun j a => if k.2.1 j = p then a + mFlow k g j else a) i1 0)), (1, .ref (al (B + 11 + p))), (0, .ref (al B))] : List (Nat × Value)) = [(3, .int (nI (i1 + 1))), (2, .int (it (fun j a => if k.2.1 j = p then a + mFlow k g j else a) (i1 + 1) 0)), (1, .ref (al (B + 11 + p))), (0, .ref (al B))] from (by first | rfl | (simp only [it_s, if_neg hc_2']; done) | (simp only [it_s, if_neg hc_2']; rfl))] at hl9
      exact ihi1 hlti1 _ _ _ hP hS hl9
    · skip
      have hc_2' : k.2.1 i1 = p := by omega
      refine lv_iload_n hx hb dX5_pressureOf_37 rfl (lv_at hl 2 rfl) ?_
      refine lv_aload hx hb dX5_pressureOf_38 (lv_at hl 0 rfl) ?_
      refine g_aft_i (g_runV (As := []) (rest := [.int (it (fun j a => if k.2.1 j = p then a + mFlow k g j else a) i1 0)]) hx hb hml hown hts (kX3_flow l G al k h B c g i1 hlti1) (fcwV 0 hts q200 q201 q202 q185 q141 rfl rfl (by decide +kernel) ⟨(Nat.le_of_ble_eq_true rfl), (Nat.le_of_ble_eq_true rfl)⟩) hE hb0 hP hS (m_recvA hE hP (B + 20 + i1) rfl (ov_j hlti1) rfl) rfl hl.1 rfl (Nat.le_of_ble_eq_true rfl) dX5_pressureOf_40 ⟨(Nat.le_of_ble_eq_true rfl), (Nat.le_of_ble_eq_true rfl)⟩) hS (fun u H locs hP hS => ?_)
      have hP : mP G al (ov G al k B c g) H := hP
      refine f_topi (v := mFlow k g i1) rfl ?_
      refine lv_iadd hx hb dX5_pressureOf_43 ?_
      refine lv_istore_n (lv' := [(2, .int ((it (fun j a => if k.2.1 j = p then a + mFlow k g j else a) i1 0) + (mFlow k g i1))), (4, .ref (al (B + 20 + i1))), (3, .int (nI i1)), (1, .ref (al (B + 11 + p))), (0, .ref (al B))]) hx hb dX5_pressureOf_44 rfl hl (by decide) rfl (fun ls hl => ?_)
      refine lv_iinc (v := nI (i1 + 1)) (lv' := [(3, .int (nI (i1 + 1))), (2, .int ((it (fun j a => if k.2.1 j = p then a + mFlow k g j else a) i1 0) + (mFlow k g i1))), (4, .ref (al (B + 20 + i1))), (1, .ref (al (B + 11 + p))), (0, .ref (al B))]) hx hb dX5_pressureOf_45 hl (k := 2) rfl (f_inc _) (by decide) rfl (fun ls hl => ?_)
      refine lv_goto (tgt := 4) hx hb dX5_pressureOf_48 (by decide) ?_
      have hl9 := lv_sub (l' := [(3, .int (nI (i1 + 1))), (2, .int ((it (fun j a => if k.2.1 j = p then a + mFlow k g j else a) i1 0) + (mFlow k g i1))), (1, .ref (al (B + 11 + p))), (0, .ref (al B))]) hl [0, 1, 3, 4] rfl
      rw [show ([(3, .int (nI (i1 + 1))), (2, .int ((it (fun j a => if k.2.1 j = p then a + mFlow k g j else a) i1 0) + (mFlow k g i1))), (1, .ref (al (B + 11 + p))), (0, .ref (al B))] : List (Nat × Value)) = [(3, .int (nI (i1 + 1))), (2, .int (it (fun j a => if k.2.1 j = p then a + mFlow k g j else a) (i1 + 1) 0)), (1, .ref (al (B + 11 + p))), (0, .ref (al B))] from (by first | rfl | (simp only [it_s, if_pos hc_2']; done) | (simp only [it_s, if_pos hc_2']; rfl))] at hl9
      exact ihi1 hlti1 _ _ _ hP hS hl9
set_option maxHeartbeats 4000000 in
set_option maxRecDepth 100000 in
theorem kX5_flowsAsSet (l : Launch) (G : gT) (al : Nat → Nat) (k : gC) (h : gK) (B : Nat) (c : mC) (g : St) (p : Nat) (hF : gF G al k B c) (hp : p < 2) : Met l yX5_flowsAsSet (fW yX5_flowsAsSet cX5_flowsAsSet 5 (some .int)) { frames := 3, cells := 0, slots := 0, locals := 64 } (gPre G al (ov G al k B c g) [.ref (al B), .ref (al (B + 11 + p))]) (gQi (S := Unit) G (fun _ => mFSet k g p) (fun _ => al) (fun _ => ov G al k B c g)) 0 0 (gA G) := by
  refine Met.ofW (cc := cX5_flowsAsSet) (maxL := 5) (ret := (some .int)) (by decide) rfl ?_
  intro pz ez s m args below meth c₀ s₁ Bo hml hv
  obtain ⟨rfl, hb0, hP, hE⟩ := hv
  have hx := Bo.exec
  have hb := Bo.bytes
  have hr := Bo.returns
  have hts0 := atoms_spec (ws := (fW yX5_flowsAsSet cX5_flowsAsSet 5 (some .int))) Bo.pre
  have hts : ∀ w ∈ fA, w.before _ s = true := fun w h => hts0 w (List.mem_cons_of_mem _ h)
  have hown : s.vm.findClass RX5 = some m.cls := findClass_of_methodNamed Bo.named
  have hlocks := Bo.notSynchronized
  have hl := lv_entry ([.ref (al B), .ref (al (B + 11 + p))]) (n := 5) (Nat.le_of_ble_eq_true rfl)
  rw [lg_entry_eq]
  generalize (lg_sl ([.ref (al B), .ref (al (B + 11 + p))]) ++ List.replicate (5 - (lg_sl ([.ref (al B), .ref (al (B + 11 + p))])).length) Slot.unset).toArray = ls at hl ⊢
  have hl : lv_has ls 5 [(0, .ref (al B)), (1, .ref (al (B + 11 + p)))] := hl
  have hJ := gF_J hF
  refine g_start hP (fun H hP hS => ?_)
  refine lv_iconst (v := 0) hx hb dX5_flowsAsSet_0 (by decide) ?_
  refine lv_istore_n (lv' := [(2, .int 0), (0, .ref (al B)), (1, .ref (al (B + 11 + p)))]) hx hb dX5_flowsAsSet_1 rfl hl (by decide) rfl (fun ls hl => ?_)
  refine lv_iconst (v := 0) hx hb dX5_flowsAsSet_2 (by decide) ?_
  refine lv_istore_n (lv' := [(3, .int 0), (2, .int 0), (0, .ref (al B)), (1, .ref (al (B + 11 + p)))]) hx hb dX5_flowsAsSet_3 rfl hl (by decide) rfl (fun ls hl => ?_)
  refine g_loop (al := al) (N := k.1) (nL := 5) (Wi := fun i1 => ov G al k B c g) (Li := fun i1 => [(3, .int (nI i1)), (2, .int (it (fun j a => if k.2.1 j = p then a + k.2.2 (3 + j) 2 * g (3 + j) 4 else a) i1 0)), (1, .ref (al (B + 11 + p))), (0, .ref (al B))]) hP hS (lv_sub hl [0, 1, 3, 2] rfl) (fun i1 hii1 ihi1 H locs ls hP hS hl => ?_)
  have hP : mP G al (ov G al k B c g) H := hP
  have hl : lv_has ls 5 [(3, .int (nI i1)), (2, .int (it (fun j a => if k.2.1 j = p then a + k.2.2 (3 + j) 2 * g (3 + j) 4 else a) i1 0)), (1, .ref (al (B + 11 + p))), (0, .ref (al B))] := hl
  refine lv_iload_n hx hb dX5_flowsAsSet_4 rfl (lv_at hl 0 rfl) ?_
  refine lv_aload_n hx hb dX5_flowsAsSet_5 rfl (lv_at hl 3 rfl) ?_
  refine m_get (C := RX5) (T := TX5) (N := 15) (ci := 6) (v := .ref (al (B + 3))) hx hb hts uX5 hown hE hP B rfl ov_s rfl 1 (by decide) (hts _ q174) (fun _ h9 => h9) rfl dX5_flowsAsSet_6 ?_
  refine g_aft_i (g_runV (As := []) (rest := [.int (nI i1)]) hx hb hml hown hts (kJx4a65c_size_8abf5 l G al (ov G al k B c g) (B + 3) (B + 4) k.1 (fun j => B + 20 + j) (gF_j hF)) (fcwV 0 hts q187 q53 q54 q50 q34 rfl rfl (by decide +kernel) ⟨(Nat.le_of_ble_eq_true rfl), (Nat.le_of_ble_eq_true rfl)⟩) hE hb0 hP hS (m_recvL hE hP (gF_j hF) rfl) rfl hl.1 rfl (Nat.le_of_ble_eq_true rfl) dX5_flowsAsSet_9 ⟨(Nat.le_of_ble_eq_true rfl), (Nat.le_of_ble_eq_true rfl)⟩) hS (fun u H locs hP hS => ?_)
  refine f_topi (v := nI k.1) rfl ?_
  refine lv_icmp_ge (tgt := 57) hx hb dX5_flowsAsSet_12 (by decide) (fun hc_1 => ?_) (fun hc_1 => ?_)
  · skip
    have hgei1 : k.1 ≤ i1 := (nI_leI (by omega) (by omega)).mp hc_1
    obtain rfl : i1 = k.1 := Nat.le_antisymm hii1 hgei1
    have hP : mP G al (ov G al k B c g) H := hP
    have hl : lv_has ls 5 [(3, .int (nI k.1)), (2, .int (it (fun j a => if k.2.1 j = p then a + k.2.2 (3 + j) 2 * g (3 + j) 4 else a) k.1 0)), (1, .ref (al (B + 11 + p))), (0, .ref (al B))] := hl
    refine lv_iload_n hx hb dX5_flowsAsSet_57 rfl (lv_at hl 1 rfl) ?_
    refine W.widen (k := 0) (n := 0) (Nat.le_of_ble_eq_true rfl) (Nat.le_of_ble_eq_true rfl) ?_
    exact W.iret (v := it (fun j a => if k.2.1 j = p then a + k.2.2 (3 + j) 2 * g (3 + j) 4 else a) k.1 0) hx hb hr (fun tz htz hW => ⟨⟨it (fun j a => if k.2.1 j = p then a + k.2.2 (3 + j) 2 * g (3 + j) 4 else a) k.1 0, (), rfl, (by unfold mFSet; rfl), g_end htz hP⟩, hS.F htz⟩) hS.2.2 dX5_flowsAsSet_58
  · skip
    have hlti1 : i1 < k.1 := Nat.lt_of_not_le (fun q => hc_1 (nI_le q (by omega)))
    refine lv_aload_n hx hb dX5_flowsAsSet_15 rfl (lv_at hl 3 rfl) ?_
    refine m_get (C := RX5) (T := TX5) (N := 15) (ci := 6) (v := .ref (al (B + 3))) hx hb hts uX5 hown hE hP B rfl ov_s rfl 1 (by decide) (hts _ q174) (fun _ h9 => h9) rfl dX5_flowsAsSet_16 ?_
    refine lv_iload_n hx hb dX5_flowsAsSet_19 rfl (lv_at hl 0 rfl) ?_
    refine g_aft_r (g_runV (As := [.int (nI i1)]) (rest := []) hx hb hml hown hts (kJx4a65c_get_915e3 l G al (ov G al k B c g) (B + 3) (B + 4) k.1 (fun j => B + 20 + j) i1 (gF_j hF) hlti1) (fcwV 1 hts q188 q56 q57 q50 q43 rfl rfl (by decide +kernel) ⟨(Nat.le_of_ble_eq_true rfl), (Nat.le_of_ble_eq_true rfl)⟩) hE hb0 hP hS (m_recvL hE hP (gF_j hF) rfl) rfl hl.1 rfl (Nat.le_of_ble_eq_true rfl) dX5_flowsAsSet_20 ⟨(Nat.le_of_ble_eq_true rfl), (Nat.le_of_ble_eq_true rfl)⟩) hS (fun u H locs hP hS => ?_)
    refine g_topr (v := al (B + 20 + i1)) rfl ?_
    refine m_cast hx hb hown (hts _ q196) hE hP (B + 20 + i1) rfl (ov_j hlti1) rfl dX5_flowsAsSet_23 ?_
    refine lv_astore (lv' := [(4, .ref (al (B + 20 + i1))), (3, .int (nI i1)), (2, .int (it (fun j a => if k.2.1 j = p then a + k.2.2 (3 + j) 2 * g (3 + j) 4 else a) i1 0)), (1, .ref (al (B + 11 + p))), (0, .ref (al B))]) hx hb dX5_flowsAsSet_26 hl (by decide) rfl (fun ls hl => ?_)
    refine lv_aload hx hb dX5_flowsAsSet_28 (lv_at hl 0 rfl) ?_
    refine m_get (C := RX3) (T := TX3) (N := 10) (ci := 4) (v := .ref (al (B + 11 + k.2.1 i1))) hx hb hts uX3 hown hE hP (B + 20 + i1) rfl (ov_j hlti1) rfl 0 (by decide) (hts _ q197) (fun _ h9 => h9) rfl dX5_flowsAsSet_30 ?_
    refine lv_aload_n hx hb dX5_flowsAsSet_33 rfl (lv_at hl 3 rfl) ?_
    refine m_acmp_ne hx hb (tgt := 51) dX5_flowsAsSet_34 (by decide) hP (ov_p (gF_pp hF hlti1)) (ov_p hp) rfl rfl (fun hc_2 => ?_) (fun hc_2 => ?_)
    · skip
      have hc_2' : ¬ k.2.1 i1 = p := fun q => hc_2 (by rw [q])
      refine lv_iinc (v := nI (i1 + 1)) (lv' := [(3, .int (nI (i1 + 1))), (4, .ref (al (B + 20 + i1))), (2, .int (it (fun j a => if k.2.1 j = p then a + k.2.2 (3 + j) 2 * g (3 + j) 4 else a) i1 0)), (1, .ref (al (B + 11 + p))), (0, .ref (al B))]) hx hb dX5_flowsAsSet_51 hl (k := 1) rfl (f_inc _) (by decide) rfl (fun ls hl => ?_)
      refine lv_goto (tgt := 4) hx hb dX5_flowsAsSet_54 (by decide) ?_
      have hl9 := lv_sub (l' := [(3, .int (nI (i1 + 1))), (2, .int (it (fun j a => if k.2.1 j = p then a + k.2.2 (3 + j) 2 * g (3 + j) 4 else a) i1 0)), (1, .ref (al (B + 11 + p))), (0, .ref (al B))]) hl [0, 2, 3, 4] rfl
      rw [show ([(3, .int (nI (i1 + 1))), (2, .int (it (fun j a => if k.2.1 j = p then a + k.2.2 (3 + j) 2 * g (3 + j) 4 else a) i1 0)), (1, .ref (al (B + 11 + p))), (0, .ref (al B))] : List (Nat × Value)) = [(3, .int (nI (i1 + 1))), (2, .int (it (fun j a => if k.2.1 j = p then a + k.2.2 (3 + j) 2 * g (3 + j) 4 else a) (i1 + 1) 0)), (1, .ref (al (B + 11 + p))), (0, .ref (al B))] from (by first | rfl | (simp only [it_s, if_neg hc_2']; done) | (simp only [it_s, if_neg hc_2']; rfl))] at hl9
      exact ihi1 hlti1 _ _ _ hP hS hl9
    · skip
      have hc_2' : k.2.1 i1 = p := by omega
      refine lv_iload_n hx hb dX5_flowsAsSet_37 rfl (lv_at hl 2 rfl) ?_
      refine lv_aload hx hb dX5_flowsAsSet_38 (lv_at hl 0 rfl) ?_
      refine m_get (C := RX3) (T := TX3) (N := 10) (ci := 4) (v := .int (k.2.2 (3 + i1) 2)) hx hb hts uX3 hown hE hP (B + 20 + i1) rfl (ov_j hlti1) rfl 2 (by decide) (hts _ q343) (fun _ h9 => h9) rfl dX5_flowsAsSet_40 ?_
      refine lv_aload hx hb dX5_flowsAsSet_43 (lv_at hl 0 rfl) ?_
      refine m_get (C := RX3) (T := TX3) (N := 10) (ci := 4) (v := .int (g (3 + i1) 4)) hx hb hts uX3 hown hE hP (B + 20 + i1) rfl (ov_j hlti1) rfl 4 (by decide) (hts _ q341) (fun _ h9 => h9) rfl dX5_flowsAsSet_45 ?_
      refine lv_imul hx hb dX5_flowsAsSet_48 ?_
      refine lv_iadd hx hb dX5_flowsAsSet_49 ?_
      refine lv_istore_n (lv' := [(2, .int ((it (fun j a => if k.2.1 j = p then a + k.2.2 (3 + j) 2 * g (3 + j) 4 else a) i1 0) + ((k.2.2 (3 + i1) 2) * (g (3 + i1) 4)))), (4, .ref (al (B + 20 + i1))), (3, .int (nI i1)), (1, .ref (al (B + 11 + p))), (0, .ref (al B))]) hx hb dX5_flowsAsSet_50 rfl hl (by decide) rfl (fun ls hl => ?_)
      refine lv_iinc (v := nI (i1 + 1)) (lv' := [(3, .int (nI (i1 + 1))), (2, .int ((it (fun j a => if k.2.1 j = p then a + k.2.2 (3 + j) 2 * g (3 + j) 4 else a) i1 0) + ((k.2.2 (3 + i1) 2) * (g (3 + i1) 4)))), (4, .ref (al (B + 20 + i1))), (1, .ref (al (B + 11 + p))), (0, .ref (al B))]) hx hb dX5_flowsAsSet_51 hl (k := 2) rfl (f_inc _) (by decide) rfl (fun ls hl => ?_)
      refine lv_goto (tgt := 4) hx hb dX5_flowsAsSet_54 (by decide) ?_
      have hl9 := lv_sub (l' := [(3, .int (nI (i1 + 1))), (2, .int ((it (fun j a => if k.2.1 j = p then a + k.2.2 (3 + j) 2 * g (3 + j) 4 else a) i1 0) + ((k.2.2 (3 + i1) 2) * (g (3 + i1) 4)))), (1, .ref (al (B + 11 + p))), (0, .ref (al B))]) hl [0, 1, 3, 4] rfl
      rw [show ([(3, .int (nI (i1 + 1))), (2, .int ((it (fun j a => if k.2.1 j = p then a + k.2.2 (3 + j) 2 * g (3 + j) 4 else a) i1 0) + ((k.2.2 (3 + i1) 2) * (g (3 + i1) 4)))), (1, .ref (al (B + 11 + p))), (0, .ref (al B))] : List (Nat × Value)) = [(3, .int (nI (i1 + 1))), (2, .int (it (fun j a => if k.2.1 j = p then a + k.2.2 (3 + j) 2 * g (3 + j) 4 else a) (i1 + 1) 0)), (1, .ref (al (B + 11 + p))), (0, .ref (al B))] from (by first | rfl | (simp only [it_s, if_pos hc_2']; done) | (simp only [it_s, if_pos hc_2']; rfl))] at hl9
      exact ihi1 hlti1 _ _ _ hP hS hl9
set_option maxHeartbeats 4000000 in
set_option maxRecDepth 100000 in
theorem kX5_jetsOf (l : Launch) (G : gT) (al : Nat → Nat) (k : gC) (h : gK) (B : Nat) (c : mC) (g : St) (p : Nat) (hF : gF G al k B c) (hp : p < 2) : Met l yX5_jetsOf (fW yX5_jetsOf cX5_jetsOf 4 (some .int)) { frames := 3, cells := 0, slots := 0, locals := 64 } (gPre G al (ov G al k B c g) [.ref (al B), .ref (al (B + 11 + p))]) (gQi (S := Unit) G (fun _ => mJets k p) (fun _ => al) (fun _ => ov G al k B c g)) 0 0 (gA G) := by
  refine Met.ofW (cc := cX5_jetsOf) (maxL := 4) (ret := (some .int)) (by decide) rfl ?_
  intro pz ez s m args below meth c₀ s₁ Bo hml hv
  obtain ⟨rfl, hb0, hP, hE⟩ := hv
  have hx := Bo.exec
  have hb := Bo.bytes
  have hr := Bo.returns
  have hts0 := atoms_spec (ws := (fW yX5_jetsOf cX5_jetsOf 4 (some .int))) Bo.pre
  have hts : ∀ w ∈ fA, w.before _ s = true := fun w h => hts0 w (List.mem_cons_of_mem _ h)
  have hown : s.vm.findClass RX5 = some m.cls := findClass_of_methodNamed Bo.named
  have hlocks := Bo.notSynchronized
  have hl := lv_entry ([.ref (al B), .ref (al (B + 11 + p))]) (n := 4) (Nat.le_of_ble_eq_true rfl)
  rw [lg_entry_eq]
  generalize (lg_sl ([.ref (al B), .ref (al (B + 11 + p))]) ++ List.replicate (4 - (lg_sl ([.ref (al B), .ref (al (B + 11 + p))])).length) Slot.unset).toArray = ls at hl ⊢
  have hl : lv_has ls 4 [(0, .ref (al B)), (1, .ref (al (B + 11 + p)))] := hl
  have hJ := gF_J hF
  refine g_start hP (fun H hP hS => ?_)
  refine lv_iconst (v := 0) hx hb dX5_jetsOf_0 (by decide) ?_
  refine lv_istore_n (lv' := [(2, .int 0), (0, .ref (al B)), (1, .ref (al (B + 11 + p)))]) hx hb dX5_jetsOf_1 rfl hl (by decide) rfl (fun ls hl => ?_)
  refine lv_iconst (v := 0) hx hb dX5_jetsOf_2 (by decide) ?_
  refine lv_istore_n (lv' := [(3, .int 0), (2, .int 0), (0, .ref (al B)), (1, .ref (al (B + 11 + p)))]) hx hb dX5_jetsOf_3 rfl hl (by decide) rfl (fun ls hl => ?_)
  refine g_loop (al := al) (N := k.1) (nL := 4) (Wi := fun i1 => ov G al k B c g) (Li := fun i1 => [(3, .int (nI i1)), (2, .int (it (fun j a => if k.2.1 j = p then a ||| 1 <<< (nI j &&& 31) else a) i1 0)), (1, .ref (al (B + 11 + p))), (0, .ref (al B))]) hP hS (lv_sub hl [0, 1, 3, 2] rfl) (fun i1 hii1 ihi1 H locs ls hP hS hl => ?_)
  have hP : mP G al (ov G al k B c g) H := hP
  have hl : lv_has ls 4 [(3, .int (nI i1)), (2, .int (it (fun j a => if k.2.1 j = p then a ||| 1 <<< (nI j &&& 31) else a) i1 0)), (1, .ref (al (B + 11 + p))), (0, .ref (al B))] := hl
  refine lv_iload_n hx hb dX5_jetsOf_4 rfl (lv_at hl 0 rfl) ?_
  refine lv_aload_n hx hb dX5_jetsOf_5 rfl (lv_at hl 3 rfl) ?_
  refine m_get (C := RX5) (T := TX5) (N := 15) (ci := 6) (v := .ref (al (B + 3))) hx hb hts uX5 hown hE hP B rfl ov_s rfl 1 (by decide) (hts _ q174) (fun _ h9 => h9) rfl dX5_jetsOf_6 ?_
  refine g_aft_i (g_runV (As := []) (rest := [.int (nI i1)]) hx hb hml hown hts (kJx4a65c_size_8abf5 l G al (ov G al k B c g) (B + 3) (B + 4) k.1 (fun j => B + 20 + j) (gF_j hF)) (fcwV 0 hts q187 q53 q54 q50 q34 rfl rfl (by decide +kernel) ⟨(Nat.le_of_ble_eq_true rfl), (Nat.le_of_ble_eq_true rfl)⟩) hE hb0 hP hS (m_recvL hE hP (gF_j hF) rfl) rfl hl.1 rfl (Nat.le_of_ble_eq_true rfl) dX5_jetsOf_9 ⟨(Nat.le_of_ble_eq_true rfl), (Nat.le_of_ble_eq_true rfl)⟩) hS (fun u H locs hP hS => ?_)
  refine f_topi (v := nI k.1) rfl ?_
  refine lv_icmp_ge (tgt := 45) hx hb dX5_jetsOf_12 (by decide) (fun hc_1 => ?_) (fun hc_1 => ?_)
  · skip
    have hgei1 : k.1 ≤ i1 := (nI_leI (by omega) (by omega)).mp hc_1
    obtain rfl : i1 = k.1 := Nat.le_antisymm hii1 hgei1
    have hP : mP G al (ov G al k B c g) H := hP
    have hl : lv_has ls 4 [(3, .int (nI k.1)), (2, .int (it (fun j a => if k.2.1 j = p then a ||| 1 <<< (nI j &&& 31) else a) k.1 0)), (1, .ref (al (B + 11 + p))), (0, .ref (al B))] := hl
    refine lv_iload_n hx hb dX5_jetsOf_45 rfl (lv_at hl 1 rfl) ?_
    refine W.widen (k := 0) (n := 0) (Nat.le_of_ble_eq_true rfl) (Nat.le_of_ble_eq_true rfl) ?_
    exact W.iret (v := it (fun j a => if k.2.1 j = p then a ||| 1 <<< (nI j &&& 31) else a) k.1 0) hx hb hr (fun tz htz hW => ⟨⟨it (fun j a => if k.2.1 j = p then a ||| 1 <<< (nI j &&& 31) else a) k.1 0, (), rfl, (by unfold mJets; rfl), g_end htz hP⟩, hS.F htz⟩) hS.2.2 dX5_jetsOf_46
  · skip
    have hlti1 : i1 < k.1 := Nat.lt_of_not_le (fun q => hc_1 (nI_le q (by omega)))
    refine lv_aload_n hx hb dX5_jetsOf_15 rfl (lv_at hl 3 rfl) ?_
    refine m_get (C := RX5) (T := TX5) (N := 15) (ci := 6) (v := .ref (al (B + 3))) hx hb hts uX5 hown hE hP B rfl ov_s rfl 1 (by decide) (hts _ q174) (fun _ h9 => h9) rfl dX5_jetsOf_16 ?_
    refine lv_iload_n hx hb dX5_jetsOf_19 rfl (lv_at hl 0 rfl) ?_
    refine g_aft_r (g_runV (As := [.int (nI i1)]) (rest := []) hx hb hml hown hts (kJx4a65c_get_915e3 l G al (ov G al k B c g) (B + 3) (B + 4) k.1 (fun j => B + 20 + j) i1 (gF_j hF) hlti1) (fcwV 1 hts q188 q56 q57 q50 q43 rfl rfl (by decide +kernel) ⟨(Nat.le_of_ble_eq_true rfl), (Nat.le_of_ble_eq_true rfl)⟩) hE hb0 hP hS (m_recvL hE hP (gF_j hF) rfl) rfl hl.1 rfl (Nat.le_of_ble_eq_true rfl) dX5_jetsOf_20 ⟨(Nat.le_of_ble_eq_true rfl), (Nat.le_of_ble_eq_true rfl)⟩) hS (fun u H locs hP hS => ?_)
    refine g_topr (v := al (B + 20 + i1)) rfl ?_
    refine m_cast hx hb hown (hts _ q196) hE hP (B + 20 + i1) rfl (ov_j hlti1) rfl dX5_jetsOf_23 ?_
    refine m_get (C := RX3) (T := TX3) (N := 10) (ci := 4) (v := .ref (al (B + 11 + k.2.1 i1))) hx hb hts uX3 hown hE hP (B + 20 + i1) rfl (ov_j hlti1) rfl 0 (by decide) (hts _ q197) (fun _ h9 => h9) rfl dX5_jetsOf_26 ?_
    refine lv_aload_n hx hb dX5_jetsOf_29 rfl (lv_at hl 2 rfl) ?_
    refine m_acmp_ne hx hb (tgt := 39) dX5_jetsOf_30 (by decide) hP (ov_p (gF_pp hF hlti1)) (ov_p hp) rfl rfl (fun hc_2 => ?_) (fun hc_2 => ?_)
    · skip
      have hc_2' : ¬ k.2.1 i1 = p := fun q => hc_2 (by rw [q])
      refine lv_iinc (v := nI (i1 + 1)) (lv' := [(3, .int (nI (i1 + 1))), (2, .int (it (fun j a => if k.2.1 j = p then a ||| 1 <<< (nI j &&& 31) else a) i1 0)), (1, .ref (al (B + 11 + p))), (0, .ref (al B))]) hx hb dX5_jetsOf_39 hl (k := 0) rfl (f_inc _) (by decide) rfl (fun ls hl => ?_)
      refine lv_goto (tgt := 4) hx hb dX5_jetsOf_42 (by decide) ?_
      have hl9 := lv_sub (l' := [(3, .int (nI (i1 + 1))), (2, .int (it (fun j a => if k.2.1 j = p then a ||| 1 <<< (nI j &&& 31) else a) i1 0)), (1, .ref (al (B + 11 + p))), (0, .ref (al B))]) hl [0, 1, 2, 3] rfl
      rw [show ([(3, .int (nI (i1 + 1))), (2, .int (it (fun j a => if k.2.1 j = p then a ||| 1 <<< (nI j &&& 31) else a) i1 0)), (1, .ref (al (B + 11 + p))), (0, .ref (al B))] : List (Nat × Value)) = [(3, .int (nI (i1 + 1))), (2, .int (it (fun j a => if k.2.1 j = p then a ||| 1 <<< (nI j &&& 31) else a) (i1 + 1) 0)), (1, .ref (al (B + 11 + p))), (0, .ref (al B))] from (by first | rfl | (simp only [it_s, if_neg hc_2']; done) | (simp only [it_s, if_neg hc_2']; rfl))] at hl9
      exact ihi1 hlti1 _ _ _ hP hS hl9
    · skip
      have hc_2' : k.2.1 i1 = p := by omega
      refine lv_iload_n hx hb dX5_jetsOf_33 rfl (lv_at hl 1 rfl) ?_
      refine lv_iconst (v := 1) hx hb dX5_jetsOf_34 (by decide) ?_
      refine lv_iload_n hx hb dX5_jetsOf_35 rfl (lv_at hl 0 rfl) ?_
      refine lv_ishl hx hb dX5_jetsOf_36 ?_
      refine lv_ior hx hb dX5_jetsOf_37 ?_
      refine lv_istore_n (lv' := [(2, .int ((it (fun j a => if k.2.1 j = p then a ||| 1 <<< (nI j &&& 31) else a) i1 0) ||| (1 <<< ((nI i1) &&& 31)))), (3, .int (nI i1)), (1, .ref (al (B + 11 + p))), (0, .ref (al B))]) hx hb dX5_jetsOf_38 rfl hl (by decide) rfl (fun ls hl => ?_)
      refine lv_iinc (v := nI (i1 + 1)) (lv' := [(3, .int (nI (i1 + 1))), (2, .int ((it (fun j a => if k.2.1 j = p then a ||| 1 <<< (nI j &&& 31) else a) i1 0) ||| (1 <<< ((nI i1) &&& 31)))), (1, .ref (al (B + 11 + p))), (0, .ref (al B))]) hx hb dX5_jetsOf_39 hl (k := 1) rfl (f_inc _) (by decide) rfl (fun ls hl => ?_)
      refine lv_goto (tgt := 4) hx hb dX5_jetsOf_42 (by decide) ?_
      have hl9 := lv_sub (l' := [(3, .int (nI (i1 + 1))), (2, .int ((it (fun j a => if k.2.1 j = p then a ||| 1 <<< (nI j &&& 31) else a) i1 0) ||| (1 <<< ((nI i1) &&& 31)))), (1, .ref (al (B + 11 + p))), (0, .ref (al B))]) hl [0, 1, 2, 3] rfl
      rw [show ([(3, .int (nI (i1 + 1))), (2, .int ((it (fun j a => if k.2.1 j = p then a ||| 1 <<< (nI j &&& 31) else a) i1 0) ||| (1 <<< ((nI i1) &&& 31)))), (1, .ref (al (B + 11 + p))), (0, .ref (al B))] : List (Nat × Value)) = [(3, .int (nI (i1 + 1))), (2, .int (it (fun j a => if k.2.1 j = p then a ||| 1 <<< (nI j &&& 31) else a) (i1 + 1) 0)), (1, .ref (al (B + 11 + p))), (0, .ref (al B))] from (by first | rfl | (simp only [it_s, if_pos hc_2']; done) | (simp only [it_s, if_pos hc_2']; rfl))] at hl9
      exact ihi1 hlti1 _ _ _ hP hS hl9
set_option maxHeartbeats 4000000 in
set_option maxRecDepth 100000 in
theorem kX5_lampsOn (l : Launch) (G : gT) (al : Nat → Nat) (k : gC) (h : gK) (B : Nat) (c : mC) (g : St) (hF : gF G al k B c) : Met l yX5_lampsOn (fW yX5_lampsOn cX5_lampsOn 3 (some .int)) { frames := 3, cells := 0, slots := 0, locals := 64 } (gPre G al (ov G al k B c g) [.ref (al B)]) (gQi (S := Unit) G (fun _ => mLamps k g) (fun _ => al) (fun _ => ov G al k B c g)) 0 0 (gA G) := by
  refine Met.ofW (cc := cX5_lampsOn) (maxL := 3) (ret := (some .int)) (by decide) rfl ?_
  intro pz ez s m args below meth c₀ s₁ Bo hml hv
  obtain ⟨rfl, hb0, hP, hE⟩ := hv
  have hx := Bo.exec
  have hb := Bo.bytes
  have hr := Bo.returns
  have hts0 := atoms_spec (ws := (fW yX5_lampsOn cX5_lampsOn 3 (some .int))) Bo.pre
  have hts : ∀ w ∈ fA, w.before _ s = true := fun w h => hts0 w (List.mem_cons_of_mem _ h)
  have hown : s.vm.findClass RX5 = some m.cls := findClass_of_methodNamed Bo.named
  have hlocks := Bo.notSynchronized
  have hl := lv_entry ([.ref (al B)]) (n := 3) (Nat.le_of_ble_eq_true rfl)
  rw [lg_entry_eq]
  generalize (lg_sl ([.ref (al B)]) ++ List.replicate (3 - (lg_sl ([.ref (al B)])).length) Slot.unset).toArray = ls at hl ⊢
  have hl : lv_has ls 3 [(0, .ref (al B))] := hl
  have hJ := gF_J hF
  refine g_start hP (fun H hP hS => ?_)
  refine lv_iconst (v := 0) hx hb dX5_lampsOn_0 (by decide) ?_
  refine lv_istore_n (lv' := [(1, .int 0), (0, .ref (al B))]) hx hb dX5_lampsOn_1 rfl hl (by decide) rfl (fun ls hl => ?_)
  refine lv_iconst (v := 0) hx hb dX5_lampsOn_2 (by decide) ?_
  refine lv_istore_n (lv' := [(2, .int 0), (1, .int 0), (0, .ref (al B))]) hx hb dX5_lampsOn_3 rfl hl (by decide) rfl (fun ls hl => ?_)
  refine g_loop (al := al) (N := k.1) (nL := 3) (Wi := fun i1 => ov G al k B c g) (Li := fun i1 => [(2, .int (nI i1)), (1, .int (it (fun j a => if bz (g (3 + j) 7) = 0 then a else a ||| 1 <<< (nI j &&& 31)) i1 0)), (0, .ref (al B))]) hP hS (lv_sub hl [0, 1, 2] rfl) (fun i1 hii1 ihi1 H locs ls hP hS hl => ?_)
  have hP : mP G al (ov G al k B c g) H := hP
  have hl : lv_has ls 3 [(2, .int (nI i1)), (1, .int (it (fun j a => if bz (g (3 + j) 7) = 0 then a else a ||| 1 <<< (nI j &&& 31)) i1 0)), (0, .ref (al B))] := hl
  refine lv_iload_n hx hb dX5_lampsOn_4 rfl (lv_at hl 0 rfl) ?_
  refine lv_aload_n hx hb dX5_lampsOn_5 rfl (lv_at hl 2 rfl) ?_
  refine m_get (C := RX5) (T := TX5) (N := 15) (ci := 6) (v := .ref (al (B + 3))) hx hb hts uX5 hown hE hP B rfl ov_s rfl 1 (by decide) (hts _ q174) (fun _ h9 => h9) rfl dX5_lampsOn_6 ?_
  refine g_aft_i (g_runV (As := []) (rest := [.int (nI i1)]) hx hb hml hown hts (kJx4a65c_size_8abf5 l G al (ov G al k B c g) (B + 3) (B + 4) k.1 (fun j => B + 20 + j) (gF_j hF)) (fcwV 0 hts q187 q53 q54 q50 q34 rfl rfl (by decide +kernel) ⟨(Nat.le_of_ble_eq_true rfl), (Nat.le_of_ble_eq_true rfl)⟩) hE hb0 hP hS (m_recvL hE hP (gF_j hF) rfl) rfl hl.1 rfl (Nat.le_of_ble_eq_true rfl) dX5_lampsOn_9 ⟨(Nat.le_of_ble_eq_true rfl), (Nat.le_of_ble_eq_true rfl)⟩) hS (fun u H locs hP hS => ?_)
  refine f_topi (v := nI k.1) rfl ?_
  refine lv_icmp_ge (tgt := 44) hx hb dX5_lampsOn_12 (by decide) (fun hc_1 => ?_) (fun hc_1 => ?_)
  · skip
    have hgei1 : k.1 ≤ i1 := (nI_leI (by omega) (by omega)).mp hc_1
    obtain rfl : i1 = k.1 := Nat.le_antisymm hii1 hgei1
    have hP : mP G al (ov G al k B c g) H := hP
    have hl : lv_has ls 3 [(2, .int (nI k.1)), (1, .int (it (fun j a => if bz (g (3 + j) 7) = 0 then a else a ||| 1 <<< (nI j &&& 31)) k.1 0)), (0, .ref (al B))] := hl
    refine lv_iload_n hx hb dX5_lampsOn_44 rfl (lv_at hl 1 rfl) ?_
    refine W.widen (k := 0) (n := 0) (Nat.le_of_ble_eq_true rfl) (Nat.le_of_ble_eq_true rfl) ?_
    exact W.iret (v := it (fun j a => if bz (g (3 + j) 7) = 0 then a else a ||| 1 <<< (nI j &&& 31)) k.1 0) hx hb hr (fun tz htz hW => ⟨⟨it (fun j a => if bz (g (3 + j) 7) = 0 then a else a ||| 1 <<< (nI j &&& 31)) k.1 0, (), rfl, (by unfold mLamps; rfl), g_end htz hP⟩, hS.F htz⟩) hS.2.2 dX5_lampsOn_45
  · skip
    have hlti1 : i1 < k.1 := Nat.lt_of_not_le (fun q => hc_1 (nI_le q (by omega)))
    refine lv_aload_n hx hb dX5_lampsOn_15 rfl (lv_at hl 2 rfl) ?_
    refine m_get (C := RX5) (T := TX5) (N := 15) (ci := 6) (v := .ref (al (B + 3))) hx hb hts uX5 hown hE hP B rfl ov_s rfl 1 (by decide) (hts _ q174) (fun _ h9 => h9) rfl dX5_lampsOn_16 ?_
    refine lv_iload_n hx hb dX5_lampsOn_19 rfl (lv_at hl 0 rfl) ?_
    refine g_aft_r (g_runV (As := [.int (nI i1)]) (rest := []) hx hb hml hown hts (kJx4a65c_get_915e3 l G al (ov G al k B c g) (B + 3) (B + 4) k.1 (fun j => B + 20 + j) i1 (gF_j hF) hlti1) (fcwV 1 hts q188 q56 q57 q50 q43 rfl rfl (by decide +kernel) ⟨(Nat.le_of_ble_eq_true rfl), (Nat.le_of_ble_eq_true rfl)⟩) hE hb0 hP hS (m_recvL hE hP (gF_j hF) rfl) rfl hl.1 rfl (Nat.le_of_ble_eq_true rfl) dX5_lampsOn_20 ⟨(Nat.le_of_ble_eq_true rfl), (Nat.le_of_ble_eq_true rfl)⟩) hS (fun u H locs hP hS => ?_)
    refine g_topr (v := al (B + 20 + i1)) rfl ?_
    refine m_cast hx hb hown (hts _ q196) hE hP (B + 20 + i1) rfl (ov_j hlti1) rfl dX5_lampsOn_23 ?_
    refine m_get (C := RX3) (T := TX3) (N := 10) (ci := 4) (v := .int (bz (g (3 + i1) 7))) hx hb hts uX3 hown hE hP (B + 20 + i1) rfl (ov_j hlti1) rfl 7 (by decide) (hts _ q290) (fun _ h9 => h9) rfl dX5_lampsOn_26 ?_
    refine lv_if_eq (tgt := 38) hx hb dX5_lampsOn_29 (by decide) (fun hc_2 => ?_) (fun hc_2 => ?_)
    · skip
      refine lv_iinc (v := nI (i1 + 1)) (lv' := [(2, .int (nI (i1 + 1))), (1, .int (it (fun j a => if bz (g (3 + j) 7) = 0 then a else a ||| 1 <<< (nI j &&& 31)) i1 0)), (0, .ref (al B))]) hx hb dX5_lampsOn_38 hl (k := 0) rfl (f_inc _) (by decide) rfl (fun ls hl => ?_)
      refine lv_goto (tgt := 4) hx hb dX5_lampsOn_41 (by decide) ?_
      have hl9 := lv_sub (l' := [(2, .int (nI (i1 + 1))), (1, .int (it (fun j a => if bz (g (3 + j) 7) = 0 then a else a ||| 1 <<< (nI j &&& 31)) i1 0)), (0, .ref (al B))]) hl [0, 1, 2] rfl
      rw [show ([(2, .int (nI (i1 + 1))), (1, .int (it (fun j a => if bz (g (3 + j) 7) = 0 then a else a ||| 1 <<< (nI j &&& 31)) i1 0)), (0, .ref (al B))] : List (Nat × Value)) = [(2, .int (nI (i1 + 1))), (1, .int (it (fun j a => if bz (g (3 + j) 7) = 0 then a else a ||| 1 <<< (nI j &&& 31)) (i1 + 1) 0)), (0, .ref (al B))] from (by first | rfl | (simp only [it_s, if_pos hc_2]; done) | (simp only [it_s, if_pos hc_2]; rfl))] at hl9
      exact ihi1 hlti1 _ _ _ hP hS hl9
    · skip
      refine lv_iload_n hx hb dX5_lampsOn_32 rfl (lv_at hl 1 rfl) ?_
      refine lv_iconst (v := 1) hx hb dX5_lampsOn_33 (by decide) ?_
      refine lv_iload_n hx hb dX5_lampsOn_34 rfl (lv_at hl 0 rfl) ?_
      refine lv_ishl hx hb dX5_lampsOn_35 ?_
      refine lv_ior hx hb dX5_lampsOn_36 ?_
      refine lv_istore_n (lv' := [(1, .int ((it (fun j a => if bz (g (3 + j) 7) = 0 then a else a ||| 1 <<< (nI j &&& 31)) i1 0) ||| (1 <<< ((nI i1) &&& 31)))), (2, .int (nI i1)), (0, .ref (al B))]) hx hb dX5_lampsOn_37 rfl hl (by decide) rfl (fun ls hl => ?_)
      refine lv_iinc (v := nI (i1 + 1)) (lv' := [(2, .int (nI (i1 + 1))), (1, .int ((it (fun j a => if bz (g (3 + j) 7) = 0 then a else a ||| 1 <<< (nI j &&& 31)) i1 0) ||| (1 <<< ((nI i1) &&& 31)))), (0, .ref (al B))]) hx hb dX5_lampsOn_38 hl (k := 1) rfl (f_inc _) (by decide) rfl (fun ls hl => ?_)
      refine lv_goto (tgt := 4) hx hb dX5_lampsOn_41 (by decide) ?_
      have hl9 := lv_sub (l' := [(2, .int (nI (i1 + 1))), (1, .int ((it (fun j a => if bz (g (3 + j) 7) = 0 then a else a ||| 1 <<< (nI j &&& 31)) i1 0) ||| (1 <<< ((nI i1) &&& 31)))), (0, .ref (al B))]) hl [0, 1, 2] rfl
      rw [show ([(2, .int (nI (i1 + 1))), (1, .int ((it (fun j a => if bz (g (3 + j) 7) = 0 then a else a ||| 1 <<< (nI j &&& 31)) i1 0) ||| (1 <<< ((nI i1) &&& 31)))), (0, .ref (al B))] : List (Nat × Value)) = [(2, .int (nI (i1 + 1))), (1, .int (it (fun j a => if bz (g (3 + j) 7) = 0 then a else a ||| 1 <<< (nI j &&& 31)) (i1 + 1) 0)), (0, .ref (al B))] from (by first | rfl | (simp only [it_s, if_neg hc_2]; done) | (simp only [it_s, if_neg hc_2]; rfl))] at hl9
      exact ihi1 hlti1 _ _ _ hP hS hl9
set_option maxHeartbeats 4000000 in
set_option maxRecDepth 100000 in
theorem kX5_heightOf (l : Launch) (G : gT) (al : Nat → Nat) (k : gC) (h : gK) (B : Nat) (c : mC) (g : St) (j : Nat) (hF : gF G al k B c) (hj : j < k.1) : Met l yX5_heightOf (fW yX5_heightOf cX5_heightOf 2 (some .int)) { frames := 4, cells := 0, slots := 0, locals := 88 } (gPre G al (ov G al k B c g) [.ref (al B), .ref (al (B + 20 + j))]) (gQi (S := Unit) G (fun _ => mHt k g j) (fun _ => al) (fun _ => ov G al k B c g)) 0 0 (gA G) := by
  refine Met.ofW (cc := cX5_heightOf) (maxL := 2) (ret := (some .int)) (by decide) rfl ?_
  intro pz ez s m args below meth c₀ s₁ Bo hml hv
  obtain ⟨rfl, hb0, hP, hE⟩ := hv
  have hx := Bo.exec
  have hb := Bo.bytes
  have hr := Bo.returns
  have hts0 := atoms_spec (ws := (fW yX5_heightOf cX5_heightOf 2 (some .int))) Bo.pre
  have hts : ∀ w ∈ fA, w.before _ s = true := fun w h => hts0 w (List.mem_cons_of_mem _ h)
  have hown : s.vm.findClass RX5 = some m.cls := findClass_of_methodNamed Bo.named
  have hlocks := Bo.notSynchronized
  have hl := lv_entry ([.ref (al B), .ref (al (B + 20 + j))]) (n := 2) (Nat.le_of_ble_eq_true rfl)
  rw [lg_entry_eq]
  generalize (lg_sl ([.ref (al B), .ref (al (B + 20 + j))]) ++ List.replicate (2 - (lg_sl ([.ref (al B), .ref (al (B + 20 + j))])).length) Slot.unset).toArray = ls at hl ⊢
  have hl : lv_has ls 2 [(0, .ref (al B)), (1, .ref (al (B + 20 + j)))] := hl
  have hJ := gF_J hF
  refine g_start hP (fun H hP hS => ?_)
  refine lv_aload_n hx hb dX5_heightOf_0 rfl (lv_at hl 0 rfl) ?_
  refine lv_aload_n hx hb dX5_heightOf_1 rfl (lv_at hl 1 rfl) ?_
  refine m_get (C := RX3) (T := TX3) (N := 10) (ci := 4) (v := .ref (al (B + 11 + k.2.1 j))) hx hb hts uX3 hown hE hP (B + 20 + j) rfl (ov_j hj) rfl 0 (by decide) (hts _ q197) (fun _ h9 => h9) rfl dX5_heightOf_2 ?_
  refine g_aft_i (g_runV (As := [.ref (al (B + 11 + k.2.1 j))]) (rest := []) hx hb hml hown hts (kX5_pressureOf l G al k h B c g (k.2.1 j) hF (gF_pp hF hj)) (fcwV 1 hts q208 q209 q210 q211 q204 rfl rfl (by decide +kernel) ⟨(Nat.le_of_ble_eq_true rfl), (Nat.le_of_ble_eq_true rfl)⟩) hE hb0 hP hS (m_recvA hE hP B rfl ov_s rfl) rfl hl.1 rfl (Nat.le_of_ble_eq_true rfl) dX5_heightOf_5 ⟨(Nat.le_of_ble_eq_true rfl), (Nat.le_of_ble_eq_true rfl)⟩) hS (fun u H locs hP hS => ?_)
  have hP : mP G al (ov G al k B c g) H := hP
  refine f_topi (v := mPress k g (k.2.1 j)) rfl ?_
  refine lv_aload_n hx hb dX5_heightOf_8 rfl (lv_at hl 1 rfl) ?_
  refine m_get (C := RX3) (T := TX3) (N := 10) (ci := 4) (v := .int (g (3 + j) 5)) hx hb hts uX3 hown hE hP (B + 20 + j) rfl (ov_j hj) rfl 5 (by decide) (hts _ q207) (fun _ h9 => h9) rfl dX5_heightOf_9 ?_
  refine g_aft_i (g_runSN (As := [.int (mPress k g (k.2.1 j)), .int (g (3 + j) 5)]) (rest := []) hx hb hml hown hts (kX7_heightBy l G al (ov G al k B c g) (mPress k g (k.2.1 j)) (g (3 + j) 5)) (fcwSN 2 hts (hE.1.1.2.2.2.2.1 (RX5, 230, yX7_heightBy, RX7) (by decide +kernel)) q212 q148 q205 rfl rfl (by decide +kernel) ⟨(Nat.le_of_ble_eq_true rfl), (Nat.le_of_ble_eq_true rfl)⟩) hE hb0 hP hS rfl hl.1 rfl (Nat.le_of_ble_eq_true rfl) dX5_heightOf_12 ⟨(Nat.le_of_ble_eq_true rfl), (Nat.le_of_ble_eq_true rfl)⟩) hS (fun u H locs hP hS => ?_)
  refine f_topi (v := mHby (mPress k g (k.2.1 j)) (g (3 + j) 5)) rfl ?_
  refine W.widen (k := 0) (n := 0) (Nat.le_of_ble_eq_true rfl) (Nat.le_of_ble_eq_true rfl) ?_
  exact W.iret (v := mHby (mPress k g (k.2.1 j)) (g (3 + j) 5)) hx hb hr (fun tz htz hW => ⟨⟨mHby (mPress k g (k.2.1 j)) (g (3 + j) 5), (), rfl, (by unfold mHt; rfl), g_end htz hP⟩, hS.F htz⟩) hS.2.2 dX5_heightOf_15
set_option maxHeartbeats 4000000 in
set_option maxRecDepth 100000 in
theorem kX5_greatestHeight (l : Launch) (G : gT) (al : Nat → Nat) (k : gC) (h : gK) (B : Nat) (c : mC) (g : St) (hF : gF G al k B c) : Met l yX5_greatestHeight (fW yX5_greatestHeight cX5_greatestHeight 3 (some .int)) { frames := 5, cells := 0, slots := 0, locals := 109 } (gPre G al (ov G al k B c g) [.ref (al B)]) (gQi (S := Unit) G (fun _ => mMaxH k g) (fun _ => al) (fun _ => ov G al k B c g)) 0 0 (gA G) := by
  refine Met.ofW (cc := cX5_greatestHeight) (maxL := 3) (ret := (some .int)) (by decide) rfl ?_
  intro pz ez s m args below meth c₀ s₁ Bo hml hv
  obtain ⟨rfl, hb0, hP, hE⟩ := hv
  have hx := Bo.exec
  have hb := Bo.bytes
  have hr := Bo.returns
  have hts0 := atoms_spec (ws := (fW yX5_greatestHeight cX5_greatestHeight 3 (some .int))) Bo.pre
  have hts : ∀ w ∈ fA, w.before _ s = true := fun w h => hts0 w (List.mem_cons_of_mem _ h)
  have hown : s.vm.findClass RX5 = some m.cls := findClass_of_methodNamed Bo.named
  have hlocks := Bo.notSynchronized
  have hl := lv_entry ([.ref (al B)]) (n := 3) (Nat.le_of_ble_eq_true rfl)
  rw [lg_entry_eq]
  generalize (lg_sl ([.ref (al B)]) ++ List.replicate (3 - (lg_sl ([.ref (al B)])).length) Slot.unset).toArray = ls at hl ⊢
  have hl : lv_has ls 3 [(0, .ref (al B))] := hl
  have hJ := gF_J hF
  refine g_start hP (fun H hP hS => ?_)
  refine lv_iconst (v := 0) hx hb dX5_greatestHeight_0 (by decide) ?_
  refine lv_istore_n (lv' := [(1, .int 0), (0, .ref (al B))]) hx hb dX5_greatestHeight_1 rfl hl (by decide) rfl (fun ls hl => ?_)
  refine lv_iconst (v := 0) hx hb dX5_greatestHeight_2 (by decide) ?_
  refine lv_istore_n (lv' := [(2, .int 0), (1, .int 0), (0, .ref (al B))]) hx hb dX5_greatestHeight_3 rfl hl (by decide) rfl (fun ls hl => ?_)
  refine g_loop (al := al) (N := k.1) (nL := 3) (Wi := fun i1 => ov G al k B c g) (Li := fun i1 => [(2, .int (nI i1)), (1, .int (it (fun j a => if a < mHt k g j then mHt k g j else a) i1 0)), (0, .ref (al B))]) hP hS (lv_sub hl [0, 1, 2] rfl) (fun i1 hii1 ihi1 H locs ls hP hS hl => ?_)
  have hP : mP G al (ov G al k B c g) H := hP
  have hl : lv_has ls 3 [(2, .int (nI i1)), (1, .int (it (fun j a => if a < mHt k g j then mHt k g j else a) i1 0)), (0, .ref (al B))] := hl
  refine lv_iload_n hx hb dX5_greatestHeight_4 rfl (lv_at hl 0 rfl) ?_
  refine lv_aload_n hx hb dX5_greatestHeight_5 rfl (lv_at hl 2 rfl) ?_
  refine m_get (C := RX5) (T := TX5) (N := 15) (ci := 6) (v := .ref (al (B + 3))) hx hb hts uX5 hown hE hP B rfl ov_s rfl 1 (by decide) (hts _ q174) (fun _ h9 => h9) rfl dX5_greatestHeight_6 ?_
  refine g_aft_i (g_runV (As := []) (rest := [.int (nI i1)]) hx hb hml hown hts (kJx4a65c_size_8abf5 l G al (ov G al k B c g) (B + 3) (B + 4) k.1 (fun j => B + 20 + j) (gF_j hF)) (fcwV 0 hts q187 q53 q54 q50 q34 rfl rfl (by decide +kernel) ⟨(Nat.le_of_ble_eq_true rfl), (Nat.le_of_ble_eq_true rfl)⟩) hE hb0 hP hS (m_recvL hE hP (gF_j hF) rfl) rfl hl.1 rfl (Nat.le_of_ble_eq_true rfl) dX5_greatestHeight_9 ⟨(Nat.le_of_ble_eq_true rfl), (Nat.le_of_ble_eq_true rfl)⟩) hS (fun u H locs hP hS => ?_)
  refine f_topi (v := nI k.1) rfl ?_
  refine lv_icmp_ge (tgt := 41) hx hb dX5_greatestHeight_12 (by decide) (fun hc_1 => ?_) (fun hc_1 => ?_)
  · skip
    have hgei1 : k.1 ≤ i1 := (nI_leI (by omega) (by omega)).mp hc_1
    obtain rfl : i1 = k.1 := Nat.le_antisymm hii1 hgei1
    have hP : mP G al (ov G al k B c g) H := hP
    have hl : lv_has ls 3 [(2, .int (nI k.1)), (1, .int (it (fun j a => if a < mHt k g j then mHt k g j else a) k.1 0)), (0, .ref (al B))] := hl
    refine lv_iload_n hx hb dX5_greatestHeight_41 rfl (lv_at hl 1 rfl) ?_
    refine W.widen (k := 0) (n := 0) (Nat.le_of_ble_eq_true rfl) (Nat.le_of_ble_eq_true rfl) ?_
    exact W.iret (v := it (fun j a => if a < mHt k g j then mHt k g j else a) k.1 0) hx hb hr (fun tz htz hW => ⟨⟨it (fun j a => if a < mHt k g j then mHt k g j else a) k.1 0, (), rfl, (by unfold mMaxH; rfl), g_end htz hP⟩, hS.F htz⟩) hS.2.2 dX5_greatestHeight_42
  · skip
    have hlti1 : i1 < k.1 := Nat.lt_of_not_le (fun q => hc_1 (nI_le q (by omega)))
    refine lv_iload_n hx hb dX5_greatestHeight_15 rfl (lv_at hl 1 rfl) ?_
    refine lv_aload_n hx hb dX5_greatestHeight_16 rfl (lv_at hl 2 rfl) ?_
    refine lv_aload_n hx hb dX5_greatestHeight_17 rfl (lv_at hl 2 rfl) ?_
    refine m_get (C := RX5) (T := TX5) (N := 15) (ci := 6) (v := .ref (al (B + 3))) hx hb hts uX5 hown hE hP B rfl ov_s rfl 1 (by decide) (hts _ q174) (fun _ h9 => h9) rfl dX5_greatestHeight_18 ?_
    refine lv_iload_n hx hb dX5_greatestHeight_21 rfl (lv_at hl 0 rfl) ?_
    refine g_aft_r (g_runV (As := [.int (nI i1)]) (rest := [.ref (al B), .int (it (fun j a => if a < mHt k g j then mHt k g j else a) i1 0)]) hx hb hml hown hts (kJx4a65c_get_915e3 l G al (ov G al k B c g) (B + 3) (B + 4) k.1 (fun j => B + 20 + j) i1 (gF_j hF) hlti1) (fcwV 1 hts q188 q56 q57 q50 q43 rfl rfl (by decide +kernel) ⟨(Nat.le_of_ble_eq_true rfl), (Nat.le_of_ble_eq_true rfl)⟩) hE hb0 hP hS (m_recvL hE hP (gF_j hF) rfl) rfl hl.1 rfl (Nat.le_of_ble_eq_true rfl) dX5_greatestHeight_22 ⟨(Nat.le_of_ble_eq_true rfl), (Nat.le_of_ble_eq_true rfl)⟩) hS (fun u H locs hP hS => ?_)
    refine g_topr (v := al (B + 20 + i1)) rfl ?_
    refine m_cast hx hb hown (hts _ q196) hE hP (B + 20 + i1) rfl (ov_j hlti1) rfl dX5_greatestHeight_25 ?_
    refine g_aft_i (g_runV (As := [.ref (al (B + 20 + i1))]) (rest := [.int (it (fun j a => if a < mHt k g j then mHt k g j else a) i1 0)]) hx hb hml hown hts (kX5_heightOf l G al k h B c g i1 hF hlti1) (fcwV 1 hts q214 q215 q216 q211 q213 rfl rfl (by decide +kernel) ⟨(Nat.le_of_ble_eq_true rfl), (Nat.le_of_ble_eq_true rfl)⟩) hE hb0 hP hS (m_recvA hE hP B rfl ov_s rfl) rfl hl.1 rfl (Nat.le_of_ble_eq_true rfl) dX5_greatestHeight_28 ⟨(Nat.le_of_ble_eq_true rfl), (Nat.le_of_ble_eq_true rfl)⟩) hS (fun u H locs hP hS => ?_)
    have hP : mP G al (ov G al k B c g) H := hP
    refine f_topi (v := mHt k g i1) rfl ?_
    refine va_mmax hx hb (hml.trans hl.1.symm) hown (hts _ q346) (hts _ q86) (hts _ q87) (hts _ q88) (Nat.le_of_ble_eq_true rfl) (Nat.le_of_ble_eq_true rfl) (Nat.le_of_ble_eq_true rfl) (Nat.le_of_ble_eq_true rfl) dX5_greatestHeight_31 ?_
    refine lv_istore_n (lv' := [(1, .int (if (it (fun j a => if a < mHt k g j then mHt k g j else a) i1 0) < (mHt k g i1) then (mHt k g i1) else (it (fun j a => if a < mHt k g j then mHt k g j else a) i1 0))), (2, .int (nI i1)), (0, .ref (al B))]) hx hb dX5_greatestHeight_34 rfl hl (by decide) rfl (fun ls hl => ?_)
    refine lv_iinc (v := nI (i1 + 1)) (lv' := [(2, .int (nI (i1 + 1))), (1, .int (if (it (fun j a => if a < mHt k g j then mHt k g j else a) i1 0) < (mHt k g i1) then (mHt k g i1) else (it (fun j a => if a < mHt k g j then mHt k g j else a) i1 0))), (0, .ref (al B))]) hx hb dX5_greatestHeight_35 hl (k := 1) rfl (f_inc _) (by decide) rfl (fun ls hl => ?_)
    refine lv_goto (tgt := 4) hx hb dX5_greatestHeight_38 (by decide) ?_
    have hl9 := lv_sub (l' := [(2, .int (nI (i1 + 1))), (1, .int (if (it (fun j a => if a < mHt k g j then mHt k g j else a) i1 0) < (mHt k g i1) then (mHt k g i1) else (it (fun j a => if a < mHt k g j then mHt k g j else a) i1 0))), (0, .ref (al B))]) hl [0, 1, 2] rfl
    rw [show ([(2, .int (nI (i1 + 1))), (1, .int (if (it (fun j a => if a < mHt k g j then mHt k g j else a) i1 0) < (mHt k g i1) then (mHt k g i1) else (it (fun j a => if a < mHt k g j then mHt k g j else a) i1 0))), (0, .ref (al B))] : List (Nat × Value)) = [(2, .int (nI (i1 + 1))), (1, .int (it (fun j a => if a < mHt k g j then mHt k g j else a) (i1 + 1) 0)), (0, .ref (al B))] from (by first | rfl | (simp only [it_s]; done) | (simp only [it_s]; rfl))] at hl9
    exact ihi1 hlti1 _ _ _ hP hS hl9
set_option maxHeartbeats 4000000 in
set_option maxRecDepth 100000 in
theorem kX5_sumOfHeights (l : Launch) (G : gT) (al : Nat → Nat) (k : gC) (h : gK) (B : Nat) (c : mC) (g : St) (hF : gF G al k B c) : Met l yX5_sumOfHeights (fW yX5_sumOfHeights cX5_sumOfHeights 3 (some .int)) { frames := 5, cells := 0, slots := 0, locals := 109 } (gPre G al (ov G al k B c g) [.ref (al B)]) (gQi (S := Unit) G (fun _ => mSumH k g) (fun _ => al) (fun _ => ov G al k B c g)) 0 0 (gA G) := by
  refine Met.ofW (cc := cX5_sumOfHeights) (maxL := 3) (ret := (some .int)) (by decide) rfl ?_
  intro pz ez s m args below meth c₀ s₁ Bo hml hv
  obtain ⟨rfl, hb0, hP, hE⟩ := hv
  have hx := Bo.exec
  have hb := Bo.bytes
  have hr := Bo.returns
  have hts0 := atoms_spec (ws := (fW yX5_sumOfHeights cX5_sumOfHeights 3 (some .int))) Bo.pre
  have hts : ∀ w ∈ fA, w.before _ s = true := fun w h => hts0 w (List.mem_cons_of_mem _ h)
  have hown : s.vm.findClass RX5 = some m.cls := findClass_of_methodNamed Bo.named
  have hlocks := Bo.notSynchronized
  have hl := lv_entry ([.ref (al B)]) (n := 3) (Nat.le_of_ble_eq_true rfl)
  rw [lg_entry_eq]
  generalize (lg_sl ([.ref (al B)]) ++ List.replicate (3 - (lg_sl ([.ref (al B)])).length) Slot.unset).toArray = ls at hl ⊢
  have hl : lv_has ls 3 [(0, .ref (al B))] := hl
  have hJ := gF_J hF
  refine g_start hP (fun H hP hS => ?_)
  refine lv_iconst (v := 0) hx hb dX5_sumOfHeights_0 (by decide) ?_
  refine lv_istore_n (lv' := [(1, .int 0), (0, .ref (al B))]) hx hb dX5_sumOfHeights_1 rfl hl (by decide) rfl (fun ls hl => ?_)
  refine lv_iconst (v := 0) hx hb dX5_sumOfHeights_2 (by decide) ?_
  refine lv_istore_n (lv' := [(2, .int 0), (1, .int 0), (0, .ref (al B))]) hx hb dX5_sumOfHeights_3 rfl hl (by decide) rfl (fun ls hl => ?_)
  refine g_loop (al := al) (N := k.1) (nL := 3) (Wi := fun i1 => ov G al k B c g) (Li := fun i1 => [(2, .int (nI i1)), (1, .int (it (fun j a => a + mHt k g j) i1 0)), (0, .ref (al B))]) hP hS (lv_sub hl [0, 1, 2] rfl) (fun i1 hii1 ihi1 H locs ls hP hS hl => ?_)
  have hP : mP G al (ov G al k B c g) H := hP
  have hl : lv_has ls 3 [(2, .int (nI i1)), (1, .int (it (fun j a => a + mHt k g j) i1 0)), (0, .ref (al B))] := hl
  refine lv_iload_n hx hb dX5_sumOfHeights_4 rfl (lv_at hl 0 rfl) ?_
  refine lv_aload_n hx hb dX5_sumOfHeights_5 rfl (lv_at hl 2 rfl) ?_
  refine m_get (C := RX5) (T := TX5) (N := 15) (ci := 6) (v := .ref (al (B + 3))) hx hb hts uX5 hown hE hP B rfl ov_s rfl 1 (by decide) (hts _ q174) (fun _ h9 => h9) rfl dX5_sumOfHeights_6 ?_
  refine g_aft_i (g_runV (As := []) (rest := [.int (nI i1)]) hx hb hml hown hts (kJx4a65c_size_8abf5 l G al (ov G al k B c g) (B + 3) (B + 4) k.1 (fun j => B + 20 + j) (gF_j hF)) (fcwV 0 hts q187 q53 q54 q50 q34 rfl rfl (by decide +kernel) ⟨(Nat.le_of_ble_eq_true rfl), (Nat.le_of_ble_eq_true rfl)⟩) hE hb0 hP hS (m_recvL hE hP (gF_j hF) rfl) rfl hl.1 rfl (Nat.le_of_ble_eq_true rfl) dX5_sumOfHeights_9 ⟨(Nat.le_of_ble_eq_true rfl), (Nat.le_of_ble_eq_true rfl)⟩) hS (fun u H locs hP hS => ?_)
  refine f_topi (v := nI k.1) rfl ?_
  refine lv_icmp_ge (tgt := 39) hx hb dX5_sumOfHeights_12 (by decide) (fun hc_1 => ?_) (fun hc_1 => ?_)
  · skip
    have hgei1 : k.1 ≤ i1 := (nI_leI (by omega) (by omega)).mp hc_1
    obtain rfl : i1 = k.1 := Nat.le_antisymm hii1 hgei1
    have hP : mP G al (ov G al k B c g) H := hP
    have hl : lv_has ls 3 [(2, .int (nI k.1)), (1, .int (it (fun j a => a + mHt k g j) k.1 0)), (0, .ref (al B))] := hl
    refine lv_iload_n hx hb dX5_sumOfHeights_39 rfl (lv_at hl 1 rfl) ?_
    refine W.widen (k := 0) (n := 0) (Nat.le_of_ble_eq_true rfl) (Nat.le_of_ble_eq_true rfl) ?_
    exact W.iret (v := it (fun j a => a + mHt k g j) k.1 0) hx hb hr (fun tz htz hW => ⟨⟨it (fun j a => a + mHt k g j) k.1 0, (), rfl, (by unfold mSumH; rfl), g_end htz hP⟩, hS.F htz⟩) hS.2.2 dX5_sumOfHeights_40
  · skip
    have hlti1 : i1 < k.1 := Nat.lt_of_not_le (fun q => hc_1 (nI_le q (by omega)))
    refine lv_iload_n hx hb dX5_sumOfHeights_15 rfl (lv_at hl 1 rfl) ?_
    refine lv_aload_n hx hb dX5_sumOfHeights_16 rfl (lv_at hl 2 rfl) ?_
    refine lv_aload_n hx hb dX5_sumOfHeights_17 rfl (lv_at hl 2 rfl) ?_
    refine m_get (C := RX5) (T := TX5) (N := 15) (ci := 6) (v := .ref (al (B + 3))) hx hb hts uX5 hown hE hP B rfl ov_s rfl 1 (by decide) (hts _ q174) (fun _ h9 => h9) rfl dX5_sumOfHeights_18 ?_
    refine lv_iload_n hx hb dX5_sumOfHeights_21 rfl (lv_at hl 0 rfl) ?_
    refine g_aft_r (g_runV (As := [.int (nI i1)]) (rest := [.ref (al B), .int (it (fun j a => a + mHt k g j) i1 0)]) hx hb hml hown hts (kJx4a65c_get_915e3 l G al (ov G al k B c g) (B + 3) (B + 4) k.1 (fun j => B + 20 + j) i1 (gF_j hF) hlti1) (fcwV 1 hts q188 q56 q57 q50 q43 rfl rfl (by decide +kernel) ⟨(Nat.le_of_ble_eq_true rfl), (Nat.le_of_ble_eq_true rfl)⟩) hE hb0 hP hS (m_recvL hE hP (gF_j hF) rfl) rfl hl.1 rfl (Nat.le_of_ble_eq_true rfl) dX5_sumOfHeights_22 ⟨(Nat.le_of_ble_eq_true rfl), (Nat.le_of_ble_eq_true rfl)⟩) hS (fun u H locs hP hS => ?_)
    refine g_topr (v := al (B + 20 + i1)) rfl ?_
    refine m_cast hx hb hown (hts _ q196) hE hP (B + 20 + i1) rfl (ov_j hlti1) rfl dX5_sumOfHeights_25 ?_
    refine g_aft_i (g_runV (As := [.ref (al (B + 20 + i1))]) (rest := [.int (it (fun j a => a + mHt k g j) i1 0)]) hx hb hml hown hts (kX5_heightOf l G al k h B c g i1 hF hlti1) (fcwV 1 hts q214 q215 q216 q211 q213 rfl rfl (by decide +kernel) ⟨(Nat.le_of_ble_eq_true rfl), (Nat.le_of_ble_eq_true rfl)⟩) hE hb0 hP hS (m_recvA hE hP B rfl ov_s rfl) rfl hl.1 rfl (Nat.le_of_ble_eq_true rfl) dX5_sumOfHeights_28 ⟨(Nat.le_of_ble_eq_true rfl), (Nat.le_of_ble_eq_true rfl)⟩) hS (fun u H locs hP hS => ?_)
    have hP : mP G al (ov G al k B c g) H := hP
    refine f_topi (v := mHt k g i1) rfl ?_
    refine lv_iadd hx hb dX5_sumOfHeights_31 ?_
    refine lv_istore_n (lv' := [(1, .int ((it (fun j a => a + mHt k g j) i1 0) + (mHt k g i1))), (2, .int (nI i1)), (0, .ref (al B))]) hx hb dX5_sumOfHeights_32 rfl hl (by decide) rfl (fun ls hl => ?_)
    refine lv_iinc (v := nI (i1 + 1)) (lv' := [(2, .int (nI (i1 + 1))), (1, .int ((it (fun j a => a + mHt k g j) i1 0) + (mHt k g i1))), (0, .ref (al B))]) hx hb dX5_sumOfHeights_33 hl (k := 1) rfl (f_inc _) (by decide) rfl (fun ls hl => ?_)
    refine lv_goto (tgt := 4) hx hb dX5_sumOfHeights_36 (by decide) ?_
    have hl9 := lv_sub (l' := [(2, .int (nI (i1 + 1))), (1, .int ((it (fun j a => a + mHt k g j) i1 0) + (mHt k g i1))), (0, .ref (al B))]) hl [0, 1, 2] rfl
    rw [show ([(2, .int (nI (i1 + 1))), (1, .int ((it (fun j a => a + mHt k g j) i1 0) + (mHt k g i1))), (0, .ref (al B))] : List (Nat × Value)) = [(2, .int (nI (i1 + 1))), (1, .int (it (fun j a => a + mHt k g j) (i1 + 1) 0)), (0, .ref (al B))] from (by first | rfl | (simp only [it_s]; done) | (simp only [it_s]; rfl))] at hl9
    exact ihi1 hlti1 _ _ _ hP hS hl9
set_option maxHeartbeats 4000000 in
set_option maxRecDepth 100000 in
theorem kX5_placeOfFall (l : Launch) (G : gT) (al : Nat → Nat) (k : gC) (h : gK) (B : Nat) (c : mC) (g : St) (j : Nat) (v : Int32) (hF : gF G al k B c) (hj : j < k.1) : Met l yX5_placeOfFall (fW yX5_placeOfFall cX5_placeOfFall 5 (some .int)) { frames := 1, cells := 0, slots := 0, locals := 22 } (gPre G al (ov G al k B c g) [.ref (al B), .ref (al (B + 20 + j)), .int v]) (gQi (S := Unit) G (fun _ => mPlace k g j v) (fun _ => al) (fun _ => ov G al k B c g)) 0 0 (gA G) := by
  refine Met.ofW (cc := cX5_placeOfFall) (maxL := 5) (ret := (some .int)) (by decide) rfl ?_
  intro pz ez s m args below meth c₀ s₁ Bo hml hv
  obtain ⟨rfl, hb0, hP, hE⟩ := hv
  have hx := Bo.exec
  have hb := Bo.bytes
  have hr := Bo.returns
  have hts0 := atoms_spec (ws := (fW yX5_placeOfFall cX5_placeOfFall 5 (some .int))) Bo.pre
  have hts : ∀ w ∈ fA, w.before _ s = true := fun w h => hts0 w (List.mem_cons_of_mem _ h)
  have hown : s.vm.findClass RX5 = some m.cls := findClass_of_methodNamed Bo.named
  have hlocks := Bo.notSynchronized
  have hl := lv_entry ([.ref (al B), .ref (al (B + 20 + j)), .int v]) (n := 5) (Nat.le_of_ble_eq_true rfl)
  rw [lg_entry_eq]
  generalize (lg_sl ([.ref (al B), .ref (al (B + 20 + j)), .int v]) ++ List.replicate (5 - (lg_sl ([.ref (al B), .ref (al (B + 20 + j)), .int v])).length) Slot.unset).toArray = ls at hl ⊢
  have hl : lv_has ls 5 [(0, .ref (al B)), (1, .ref (al (B + 20 + j))), (2, .int v)] := hl
  have hJ := gF_J hF
  refine g_start hP (fun H hP hS => ?_)
  refine lv_aload_n hx hb dX5_placeOfFall_0 rfl (lv_at hl 1 rfl) ?_
  refine m_get (C := RX3) (T := TX3) (N := 10) (ci := 4) (v := .int (k.2.2 (3 + j) 3)) hx hb hts uX3 hown hE hP (B + 20 + j) rfl (ov_j hj) rfl 3 (by decide) (hts _ q273) (fun _ h9 => h9) rfl dX5_placeOfFall_1 ?_
  refine lv_iload_n hx hb dX5_placeOfFall_4 rfl (lv_at hl 2 rfl) ?_
  refine lv_imul hx hb dX5_placeOfFall_5 ?_
  refine lv_bipush (v := 10) hx hb dX5_placeOfFall_6 (by decide) ?_
  refine g_aft_i (g_runS (As := [.int ((k.2.2 (3 + j) 3) * v), .int 10]) (rest := []) hx hb hml hown hts (kJ9_floorDiv_7cf53 l G al (ov G al k B c g) ((k.2.2 (3 + j) 3) * v) 10 (by decide)) (fcwS 2 hts q275 q276 q12 q268 rfl rfl (by decide +kernel) ⟨(Nat.le_of_ble_eq_true rfl), (Nat.le_of_ble_eq_true rfl)⟩) hE hb0 hP hS rfl hl.1 rfl (Nat.le_of_ble_eq_true rfl) dX5_placeOfFall_8 ⟨(Nat.le_of_ble_eq_true rfl), (Nat.le_of_ble_eq_true rfl)⟩) hS (fun u H locs hP hS => ?_)
  refine f_topi (v := mFd ((k.2.2 (3 + j) 3) * v) 10) rfl ?_
  refine lv_istore_n (lv' := [(3, .int (mFd ((k.2.2 (3 + j) 3) * v) 10)), (0, .ref (al B)), (1, .ref (al (B + 20 + j))), (2, .int v)]) hx hb dX5_placeOfFall_11 rfl hl (by decide) rfl (fun ls hl => ?_)
  refine lv_aload_n hx hb dX5_placeOfFall_12 rfl (lv_at hl 1 rfl) ?_
  refine g_aft_i (g_runV (As := []) (rest := []) hx hb hml hown hts (kX5_windWithGust l G al k h B c g hF) (fcwV 0 hts q277 q278 q279 q211 q269 rfl rfl (by decide +kernel) ⟨(Nat.le_of_ble_eq_true rfl), (Nat.le_of_ble_eq_true rfl)⟩) hE hb0 hP hS (m_recvA hE hP B rfl ov_s rfl) rfl hl.1 rfl (Nat.le_of_ble_eq_true rfl) dX5_placeOfFall_13 ⟨(Nat.le_of_ble_eq_true rfl), (Nat.le_of_ble_eq_true rfl)⟩) hS (fun u H locs hP hS => ?_)
  have hP : mP G al (ov G al k B c g) H := hP
  refine f_topi (v := mWind g) rfl ?_
  refine lv_iload_n hx hb dX5_placeOfFall_16 rfl (lv_at hl 3 rfl) ?_
  refine g_aft_i (g_runSN (As := [.int v]) (rest := [.int (mWind g)]) hx hb hml hown hts (kX7_airTime l G al (ov G al k B c g) v) (fcwSN 1 hts (hE.1.1.2.2.2.2.1 (RX5, 159, yX7_airTime, RX7) (by decide +kernel)) q280 q148 q267 rfl rfl (by decide +kernel) ⟨(Nat.le_of_ble_eq_true rfl), (Nat.le_of_ble_eq_true rfl)⟩) hE hb0 hP hS rfl hl.1 rfl (Nat.le_of_ble_eq_true rfl) dX5_placeOfFall_17 ⟨(Nat.le_of_ble_eq_true rfl), (Nat.le_of_ble_eq_true rfl)⟩) hS (fun u H locs hP hS => ?_)
  refine f_topi (v := mAir v) rfl ?_
  refine lv_imul hx hb dX5_placeOfFall_20 ?_
  refine lv_iconst (v := 2) hx hb dX5_placeOfFall_21 (by decide) ?_
  refine g_aft_i (g_runS (As := [.int ((mWind g) * (mAir v)), .int 2]) (rest := []) hx hb hml hown hts (kJ9_floorDiv_7cf53 l G al (ov G al k B c g) ((mWind g) * (mAir v)) 2 (by decide)) (fcwS 2 hts q275 q276 q12 q268 rfl rfl (by decide +kernel) ⟨(Nat.le_of_ble_eq_true rfl), (Nat.le_of_ble_eq_true rfl)⟩) hE hb0 hP hS rfl hl.1 rfl (Nat.le_of_ble_eq_true rfl) dX5_placeOfFall_22 ⟨(Nat.le_of_ble_eq_true rfl), (Nat.le_of_ble_eq_true rfl)⟩) hS (fun u H locs hP hS => ?_)
  refine f_topi (v := mFd ((mWind g) * (mAir v)) 2) rfl ?_
  refine lv_istore (lv' := [(4, .int (mFd ((mWind g) * (mAir v)) 2)), (3, .int (mFd ((k.2.2 (3 + j) 3) * v) 10)), (0, .ref (al B)), (1, .ref (al (B + 20 + j))), (2, .int v)]) hx hb dX5_placeOfFall_25 hl (by decide) rfl (fun ls hl => ?_)
  refine lv_aload_n hx hb dX5_placeOfFall_27 rfl (lv_at hl 3 rfl) ?_
  refine m_get (C := RX3) (T := TX3) (N := 10) (ci := 4) (v := .int (k.2.2 (3 + j) 1)) hx hb hts uX3 hown hE hP (B + 20 + j) rfl (ov_j hj) rfl 1 (by decide) (hts _ q274) (fun _ h9 => h9) rfl dX5_placeOfFall_28 ?_
  refine lv_iload_n hx hb dX5_placeOfFall_31 rfl (lv_at hl 1 rfl) ?_
  refine lv_iadd hx hb dX5_placeOfFall_32 ?_
  refine lv_iload hx hb dX5_placeOfFall_33 (lv_at hl 0 rfl) ?_
  refine lv_iadd hx hb dX5_placeOfFall_35 ?_
  refine W.widen (k := 0) (n := 0) (Nat.le_of_ble_eq_true rfl) (Nat.le_of_ble_eq_true rfl) ?_
  exact W.iret (v := ((k.2.2 (3 + j) 1) + (mFd ((k.2.2 (3 + j) 3) * v) 10)) + (mFd ((mWind g) * (mAir v)) 2)) hx hb hr (fun tz htz hW => ⟨⟨((k.2.2 (3 + j) 1) + (mFd ((k.2.2 (3 + j) 3) * v) 10)) + (mFd ((mWind g) * (mAir v)) 2), (), rfl, (by unfold mPlace; rfl), g_end htz hP⟩, hS.F htz⟩) hS.2.2 dX5_placeOfFall_36
set_option maxHeartbeats 4000000 in
set_option maxRecDepth 100000 in
theorem kX5_lampsOff (l : Launch) (G : gT) (al : Nat → Nat) (k : gC) (h : gK) (B : Nat) (c : mC) (g : St) (hF : gF G al k B c) : Met l yX5_lampsOff (fW yX5_lampsOff cX5_lampsOff 2 none) { frames := 3, cells := 0, slots := 0, locals := 64 } (gPre G al (ov G al k B c g) [.ref (al B)]) (gQv (S := Unit) G (fun _ => al) (fun _ => ov G al k B c (mOff k g))) 0 0 (gA G) := by
  refine Met.ofW (cc := cX5_lampsOff) (maxL := 2) (ret := none) (by decide) rfl ?_
  intro pz ez s m args below meth c₀ s₁ Bo hml hv
  obtain ⟨rfl, hb0, hP, hE⟩ := hv
  have hx := Bo.exec
  have hb := Bo.bytes
  have hr := Bo.returns
  have hts0 := atoms_spec (ws := (fW yX5_lampsOff cX5_lampsOff 2 none)) Bo.pre
  have hts : ∀ w ∈ fA, w.before _ s = true := fun w h => hts0 w (List.mem_cons_of_mem _ h)
  have hown : s.vm.findClass RX5 = some m.cls := findClass_of_methodNamed Bo.named
  have hlocks := Bo.notSynchronized
  have hl := lv_entry ([.ref (al B)]) (n := 2) (Nat.le_of_ble_eq_true rfl)
  rw [lg_entry_eq]
  generalize (lg_sl ([.ref (al B)]) ++ List.replicate (2 - (lg_sl ([.ref (al B)])).length) Slot.unset).toArray = ls at hl ⊢
  have hl : lv_has ls 2 [(0, .ref (al B))] := hl
  have hJ := gF_J hF
  refine g_start hP (fun H hP hS => ?_)
  refine lv_iconst (v := 0) hx hb dX5_lampsOff_0 (by decide) ?_
  refine lv_istore_n (lv' := [(1, .int 0), (0, .ref (al B))]) hx hb dX5_lampsOff_1 rfl hl (by decide) rfl (fun ls hl => ?_)
  refine g_loop (al := al) (N := k.1) (nL := 2) (Wi := fun i1 => ov G al k B c (it (fun j g => s2 g (3 + j) 7 0) i1 g)) (Li := fun i1 => [(1, .int (nI i1)), (0, .ref (al B))]) hP hS (lv_sub hl [0, 1] rfl) (fun i1 hii1 ihi1 H locs ls hP hS hl => ?_)
  have hP : mP G al (ov G al k B c (it (fun j g => s2 g (3 + j) 7 0) i1 g)) H := hP
  have hl : lv_has ls 2 [(1, .int (nI i1)), (0, .ref (al B))] := hl
  refine lv_iload_n hx hb dX5_lampsOff_2 rfl (lv_at hl 0 rfl) ?_
  refine lv_aload_n hx hb dX5_lampsOff_3 rfl (lv_at hl 1 rfl) ?_
  refine m_get (C := RX5) (T := TX5) (N := 15) (ci := 6) (v := .ref (al (B + 3))) hx hb hts uX5 hown hE hP B rfl ov_s rfl 1 (by decide) (hts _ q174) (fun _ h9 => h9) rfl dX5_lampsOff_4 ?_
  refine g_aft_i (g_runV (As := []) (rest := [.int (nI i1)]) hx hb hml hown hts (kJx4a65c_size_8abf5 l G al (ov G al k B c (it (fun j g => s2 g (3 + j) 7 0) i1 g)) (B + 3) (B + 4) k.1 (fun j => B + 20 + j) (gF_j hF)) (fcwV 0 hts q187 q53 q54 q50 q34 rfl rfl (by decide +kernel) ⟨(Nat.le_of_ble_eq_true rfl), (Nat.le_of_ble_eq_true rfl)⟩) hE hb0 hP hS (m_recvL hE hP (gF_j hF) rfl) rfl hl.1 rfl (Nat.le_of_ble_eq_true rfl) dX5_lampsOff_7 ⟨(Nat.le_of_ble_eq_true rfl), (Nat.le_of_ble_eq_true rfl)⟩) hS (fun u H locs hP hS => ?_)
  refine f_topi (v := nI k.1) rfl ?_
  refine lv_icmp_ge (tgt := 34) hx hb dX5_lampsOff_10 (by decide) (fun hc_1 => ?_) (fun hc_1 => ?_)
  · skip
    have hgei1 : k.1 ≤ i1 := (nI_leI (by omega) (by omega)).mp hc_1
    obtain rfl : i1 = k.1 := Nat.le_antisymm hii1 hgei1
    have hP : mP G al (ov G al k B c (it (fun j g => s2 g (3 + j) 7 0) k.1 g)) H := hP
    have hl : lv_has ls 2 [(1, .int (nI k.1)), (0, .ref (al B))] := hl
    have hP : mP G al (ov G al k B c (mOff k g)) H := m_cv hP (show ov G al k B c (it (fun j g => s2 g (3 + j) 7 0) k.1 g) = ov G al k B c (mOff k g) from (by unfold mOff; rfl))
    refine W.widen (k := 0) (n := 0) (Nat.le_of_ble_eq_true rfl) (Nat.le_of_ble_eq_true rfl) ?_
    exact W.vret hx hb hr (fun tz htz hW => ⟨⟨(), rfl, trivial, g_end htz hP⟩, hS.F htz⟩) hS.2.2 dX5_lampsOff_34
  · skip
    have hlti1 : i1 < k.1 := Nat.lt_of_not_le (fun q => hc_1 (nI_le q (by omega)))
    refine lv_aload_n hx hb dX5_lampsOff_13 rfl (lv_at hl 1 rfl) ?_
    refine m_get (C := RX5) (T := TX5) (N := 15) (ci := 6) (v := .ref (al (B + 3))) hx hb hts uX5 hown hE hP B rfl ov_s rfl 1 (by decide) (hts _ q174) (fun _ h9 => h9) rfl dX5_lampsOff_14 ?_
    refine lv_iload_n hx hb dX5_lampsOff_17 rfl (lv_at hl 0 rfl) ?_
    refine g_aft_r (g_runV (As := [.int (nI i1)]) (rest := []) hx hb hml hown hts (kJx4a65c_get_915e3 l G al (ov G al k B c (it (fun j g => s2 g (3 + j) 7 0) i1 g)) (B + 3) (B + 4) k.1 (fun j => B + 20 + j) i1 (gF_j hF) hlti1) (fcwV 1 hts q188 q56 q57 q50 q43 rfl rfl (by decide +kernel) ⟨(Nat.le_of_ble_eq_true rfl), (Nat.le_of_ble_eq_true rfl)⟩) hE hb0 hP hS (m_recvL hE hP (gF_j hF) rfl) rfl hl.1 rfl (Nat.le_of_ble_eq_true rfl) dX5_lampsOff_18 ⟨(Nat.le_of_ble_eq_true rfl), (Nat.le_of_ble_eq_true rfl)⟩) hS (fun u H locs hP hS => ?_)
    refine g_topr (v := al (B + 20 + i1)) rfl ?_
    refine m_cast hx hb hown (hts _ q196) hE hP (B + 20 + i1) rfl (ov_j hlti1) rfl dX5_lampsOff_21 ?_
    refine lv_iconst (v := 0) hx hb dX5_lampsOff_24 (by decide) ?_
    refine m_put (v := .int 0) (ty := .boolean) (C := RX3) (T := TX3) (N := 10) (ci := 4) hx hb hts uX3 tyX3 tyX3_ok nmX3 hown hE hP hS (B + 20 + i1) rfl (ov_j hlti1) rfl 7 (by decide) (hts _ q290) (fun _ h9 => h9) rfl (by decide +kernel) (by decide) (by decide) (Nat.le_of_ble_eq_true rfl) dX5_lampsOff_25 (fun H locs hP hS => ?_)
    have hP := m_cv hP (ov_uj (r := upd ((it (fun j g => s2 g (3 + j) 7 0) i1 g) (3 + i1)) 7 0) hlti1 hJ rfl)
    have hP : mP G al (ov G al k B c (s2 (it (fun j g => s2 g (3 + j) 7 0) i1 g) (3 + i1) 7 0)) H := hP
    refine lv_iinc (v := nI (i1 + 1)) (lv' := [(1, .int (nI (i1 + 1))), (0, .ref (al B))]) hx hb dX5_lampsOff_28 hl (k := 0) rfl (f_inc _) (by decide) rfl (fun ls hl => ?_)
    refine lv_goto (tgt := 2) hx hb dX5_lampsOff_31 (by decide) ?_
    exact ihi1 hlti1 _ _ _ (m_cv hP (show ov G al k B c (s2 (it (fun j g => s2 g (3 + j) 7 0) i1 g) (3 + i1) 7 0) = ov G al k B c (it (fun j g => s2 g (3 + j) 7 0) (i1 + 1) g) from (by first | rfl | (simp only [it_s]; done) | (simp only [it_s]; rfl)))) hS (lv_sub hl [0, 1] rfl)
set_option maxHeartbeats 4000000 in
set_option maxRecDepth 100000 in
theorem kX5_turnDrivesAndValves (l : Launch) (G : gT) (al : Nat → Nat) (k : gC) (h : gK) (B : Nat) (c : mC) (g : St) (hF : gF G al k B c) : Met l yX5_turnDrivesAndValves (fW yX5_turnDrivesAndValves cX5_turnDrivesAndValves 2 none) { frames := 3, cells := 0, slots := 0, locals := 64 } (gPre G al (ov G al k B c g) [.ref (al B)]) (gQv (S := Unit) G (fun _ => al) (fun _ => ov G al k B c (mTurns k g))) 0 0 (gA G) := by
  refine Met.ofW (cc := cX5_turnDrivesAndValves) (maxL := 2) (ret := none) (by decide) rfl ?_
  intro pz ez s m args below meth c₀ s₁ Bo hml hv
  obtain ⟨rfl, hb0, hP, hE⟩ := hv
  have hx := Bo.exec
  have hb := Bo.bytes
  have hr := Bo.returns
  have hts0 := atoms_spec (ws := (fW yX5_turnDrivesAndValves cX5_turnDrivesAndValves 2 none)) Bo.pre
  have hts : ∀ w ∈ fA, w.before _ s = true := fun w h => hts0 w (List.mem_cons_of_mem _ h)
  have hown : s.vm.findClass RX5 = some m.cls := findClass_of_methodNamed Bo.named
  have hlocks := Bo.notSynchronized
  have hl := lv_entry ([.ref (al B)]) (n := 2) (Nat.le_of_ble_eq_true rfl)
  rw [lg_entry_eq]
  generalize (lg_sl ([.ref (al B)]) ++ List.replicate (2 - (lg_sl ([.ref (al B)])).length) Slot.unset).toArray = ls at hl ⊢
  have hl : lv_has ls 2 [(0, .ref (al B))] := hl
  have hJ := gF_J hF
  refine g_start hP (fun H hP hS => ?_)
  refine lv_iconst (v := 0) hx hb dX5_turnDrivesAndValves_0 (by decide) ?_
  refine lv_istore_n (lv' := [(1, .int 0), (0, .ref (al B))]) hx hb dX5_turnDrivesAndValves_1 rfl hl (by decide) rfl (fun ls hl => ?_)
  refine g_loop (al := al) (N := 2) (nL := 2) (Wi := fun i1 => ov G al k B c (it (fun p g => mPTurn g p) i1 g)) (Li := fun i1 => [(1, .int (nI i1)), (0, .ref (al B))]) hP hS (lv_sub hl [0, 1] rfl) (fun i1 hii1 ihi1 H locs ls hP hS hl => ?_)
  have hP : mP G al (ov G al k B c (it (fun p g => mPTurn g p) i1 g)) H := hP
  have hl : lv_has ls 2 [(1, .int (nI i1)), (0, .ref (al B))] := hl
  refine lv_iload_n hx hb dX5_turnDrivesAndValves_2 rfl (lv_at hl 0 rfl) ?_
  refine lv_aload_n hx hb dX5_turnDrivesAndValves_3 rfl (lv_at hl 1 rfl) ?_
  refine m_get (C := RX5) (T := TX5) (N := 15) (ci := 6) (v := .ref (al (B + 1))) hx hb hts uX5 hown hE hP B rfl ov_s rfl 0 (by decide) (hts _ q173) (fun _ h9 => h9) rfl dX5_turnDrivesAndValves_4 ?_
  refine g_aft_i (g_runV (As := []) (rest := [.int (nI i1)]) hx hb hml hown hts (kJx4a65c_size_8abf5 l G al (ov G al k B c (it (fun p g => mPTurn g p) i1 g)) (B + 1) (B + 2) 2 (fun p => B + 11 + p) (gF_p hF)) (fcwV 0 hts q187 q53 q54 q50 q34 rfl rfl (by decide +kernel) ⟨(Nat.le_of_ble_eq_true rfl), (Nat.le_of_ble_eq_true rfl)⟩) hE hb0 hP hS (m_recvL hE hP (gF_p hF) rfl) rfl hl.1 rfl (Nat.le_of_ble_eq_true rfl) dX5_turnDrivesAndValves_7 ⟨(Nat.le_of_ble_eq_true rfl), (Nat.le_of_ble_eq_true rfl)⟩) hS (fun u H locs hP hS => ?_)
  refine f_topi (v := nI 2) rfl ?_
  refine lv_icmp_ge (tgt := 33) hx hb dX5_turnDrivesAndValves_10 (by decide) (fun hc_1 => ?_) (fun hc_1 => ?_)
  · skip
    have hgei1 : 2 ≤ i1 := (nI_leI (a := 2) (by omega) (by omega)).mp hc_1
    obtain rfl : i1 = 2 := Nat.le_antisymm hii1 hgei1
    have hP : mP G al (ov G al k B c (it (fun p g => mPTurn g p) 2 g)) H := hP
    have hl : lv_has ls 2 [(1, .int (nI 2)), (0, .ref (al B))] := hl
    refine lv_iconst (v := 0) hx hb dX5_turnDrivesAndValves_33 (by decide) ?_
    refine lv_istore_n (lv' := [(1, .int 0), (0, .ref (al B))]) hx hb dX5_turnDrivesAndValves_34 rfl hl (by decide) rfl (fun ls hl => ?_)
    refine g_loop (al := al) (N := k.1) (nL := 2) (Wi := fun i2 => ov G al k B c (it (fun j g => mJTurn g j) i2 (it (fun p g => mPTurn g p) 2 g))) (Li := fun i2 => [(1, .int (nI i2)), (0, .ref (al B))]) hP hS (lv_sub hl [0, 1] rfl) (fun i2 hii2 ihi2 H locs ls hP hS hl => ?_)
    have hP : mP G al (ov G al k B c (it (fun j g => mJTurn g j) i2 (it (fun p g => mPTurn g p) 2 g))) H := hP
    have hl : lv_has ls 2 [(1, .int (nI i2)), (0, .ref (al B))] := hl
    refine lv_iload_n hx hb dX5_turnDrivesAndValves_35 rfl (lv_at hl 0 rfl) ?_
    refine lv_aload_n hx hb dX5_turnDrivesAndValves_36 rfl (lv_at hl 1 rfl) ?_
    refine m_get (C := RX5) (T := TX5) (N := 15) (ci := 6) (v := .ref (al (B + 3))) hx hb hts uX5 hown hE hP B rfl ov_s rfl 1 (by decide) (hts _ q174) (fun _ h9 => h9) rfl dX5_turnDrivesAndValves_37 ?_
    refine g_aft_i (g_runV (As := []) (rest := [.int (nI i2)]) hx hb hml hown hts (kJx4a65c_size_8abf5 l G al (ov G al k B c (it (fun j g => mJTurn g j) i2 (it (fun p g => mPTurn g p) 2 g))) (B + 3) (B + 4) k.1 (fun j => B + 20 + j) (gF_j hF)) (fcwV 0 hts q187 q53 q54 q50 q34 rfl rfl (by decide +kernel) ⟨(Nat.le_of_ble_eq_true rfl), (Nat.le_of_ble_eq_true rfl)⟩) hE hb0 hP hS (m_recvL hE hP (gF_j hF) rfl) rfl hl.1 rfl (Nat.le_of_ble_eq_true rfl) dX5_turnDrivesAndValves_40 ⟨(Nat.le_of_ble_eq_true rfl), (Nat.le_of_ble_eq_true rfl)⟩) hS (fun u H locs hP hS => ?_)
    refine f_topi (v := nI k.1) rfl ?_
    refine lv_icmp_ge (tgt := 66) hx hb dX5_turnDrivesAndValves_43 (by decide) (fun hc_2 => ?_) (fun hc_2 => ?_)
    · skip
      have hgei2 : k.1 ≤ i2 := (nI_leI (by omega) (by omega)).mp hc_2
      obtain rfl : i2 = k.1 := Nat.le_antisymm hii2 hgei2
      have hP : mP G al (ov G al k B c (it (fun j g => mJTurn g j) k.1 (it (fun p g => mPTurn g p) 2 g))) H := hP
      have hl : lv_has ls 2 [(1, .int (nI k.1)), (0, .ref (al B))] := hl
      have hP : mP G al (ov G al k B c (mTurns k g)) H := m_cv hP (show ov G al k B c (it (fun j g => mJTurn g j) k.1 (it (fun p g => mPTurn g p) 2 g)) = ov G al k B c (mTurns k g) from (by unfold mTurns; rfl))
      refine W.widen (k := 0) (n := 0) (Nat.le_of_ble_eq_true rfl) (Nat.le_of_ble_eq_true rfl) ?_
      exact W.vret hx hb hr (fun tz htz hW => ⟨⟨(), rfl, trivial, g_end htz hP⟩, hS.F htz⟩) hS.2.2 dX5_turnDrivesAndValves_66
    · skip
      have hlti2 : i2 < k.1 := Nat.lt_of_not_le (fun q => hc_2 (nI_le q (by omega)))
      refine lv_aload_n hx hb dX5_turnDrivesAndValves_46 rfl (lv_at hl 1 rfl) ?_
      refine m_get (C := RX5) (T := TX5) (N := 15) (ci := 6) (v := .ref (al (B + 3))) hx hb hts uX5 hown hE hP B rfl ov_s rfl 1 (by decide) (hts _ q174) (fun _ h9 => h9) rfl dX5_turnDrivesAndValves_47 ?_
      refine lv_iload_n hx hb dX5_turnDrivesAndValves_50 rfl (lv_at hl 0 rfl) ?_
      refine g_aft_r (g_runV (As := [.int (nI i2)]) (rest := []) hx hb hml hown hts (kJx4a65c_get_915e3 l G al (ov G al k B c (it (fun j g => mJTurn g j) i2 (it (fun p g => mPTurn g p) 2 g))) (B + 3) (B + 4) k.1 (fun j => B + 20 + j) i2 (gF_j hF) hlti2) (fcwV 1 hts q188 q56 q57 q50 q43 rfl rfl (by decide +kernel) ⟨(Nat.le_of_ble_eq_true rfl), (Nat.le_of_ble_eq_true rfl)⟩) hE hb0 hP hS (m_recvL hE hP (gF_j hF) rfl) rfl hl.1 rfl (Nat.le_of_ble_eq_true rfl) dX5_turnDrivesAndValves_51 ⟨(Nat.le_of_ble_eq_true rfl), (Nat.le_of_ble_eq_true rfl)⟩) hS (fun u H locs hP hS => ?_)
      refine g_topr (v := al (B + 20 + i2)) rfl ?_
      refine m_cast hx hb hown (hts _ q196) hE hP (B + 20 + i2) rfl (ov_j hlti2) rfl dX5_turnDrivesAndValves_54 ?_
      refine g_aft_v (g_runV (As := []) (rest := []) hx hb hml hown hts (kX3_turn l G al k h B c (it (fun j g => mJTurn g j) i2 (it (fun p g => mPTurn g p) 2 g)) i2 hF hlti2) (fcwV 0 hts q243 q244 q245 q185 q144 rfl rfl (by decide +kernel) ⟨(Nat.le_of_ble_eq_true rfl), (Nat.le_of_ble_eq_true rfl)⟩) hE hb0 hP hS (m_recvA hE hP (B + 20 + i2) rfl (ov_j hlti2) rfl) rfl hl.1 rfl (Nat.le_of_ble_eq_true rfl) dX5_turnDrivesAndValves_57 ⟨(Nat.le_of_ble_eq_true rfl), (Nat.le_of_ble_eq_true rfl)⟩) hS (fun u H locs hP hS => ?_)
      have hP : mP G al (ov G al k B c (mJTurn (it (fun j g => mJTurn g j) i2 (it (fun p g => mPTurn g p) 2 g)) i2)) H := hP
      refine lv_iinc (v := nI (i2 + 1)) (lv' := [(1, .int (nI (i2 + 1))), (0, .ref (al B))]) hx hb dX5_turnDrivesAndValves_60 hl (k := 0) rfl (f_inc _) (by decide) rfl (fun ls hl => ?_)
      refine lv_goto (tgt := 35) hx hb dX5_turnDrivesAndValves_63 (by decide) ?_
      exact ihi2 hlti2 _ _ _ (m_cv hP (show ov G al k B c (mJTurn (it (fun j g => mJTurn g j) i2 (it (fun p g => mPTurn g p) 2 g)) i2) = ov G al k B c (it (fun j g => mJTurn g j) (i2 + 1) (it (fun p g => mPTurn g p) 2 g)) from (by first | rfl | (simp only [it_s]; done) | (simp only [it_s]; rfl)))) hS (lv_sub hl [0, 1] rfl)
  · skip
    have hlti1 : i1 < 2 := Nat.lt_of_not_le (fun q => hc_1 (nI_le (a := 2) q (by omega)))
    refine lv_aload_n hx hb dX5_turnDrivesAndValves_13 rfl (lv_at hl 1 rfl) ?_
    refine m_get (C := RX5) (T := TX5) (N := 15) (ci := 6) (v := .ref (al (B + 1))) hx hb hts uX5 hown hE hP B rfl ov_s rfl 0 (by decide) (hts _ q173) (fun _ h9 => h9) rfl dX5_turnDrivesAndValves_14 ?_
    refine lv_iload_n hx hb dX5_turnDrivesAndValves_17 rfl (lv_at hl 0 rfl) ?_
    refine g_aft_r (g_runV (As := [.int (nI i1)]) (rest := []) hx hb hml hown hts (kJx4a65c_get_915e3 l G al (ov G al k B c (it (fun p g => mPTurn g p) i1 g)) (B + 1) (B + 2) 2 (fun p => B + 11 + p) i1 (gF_p hF) hlti1) (fcwV 1 hts q188 q56 q57 q50 q43 rfl rfl (by decide +kernel) ⟨(Nat.le_of_ble_eq_true rfl), (Nat.le_of_ble_eq_true rfl)⟩) hE hb0 hP hS (m_recvL hE hP (gF_p hF) rfl) rfl hl.1 rfl (Nat.le_of_ble_eq_true rfl) dX5_turnDrivesAndValves_18 ⟨(Nat.le_of_ble_eq_true rfl), (Nat.le_of_ble_eq_true rfl)⟩) hS (fun u H locs hP hS => ?_)
    refine g_topr (v := al (B + 11 + i1)) rfl ?_
    refine m_cast hx hb hown (hts _ q186) hE hP (B + 11 + i1) rfl (ov_p hlti1) rfl dX5_turnDrivesAndValves_21 ?_
    refine g_aft_v (g_runV (As := []) (rest := []) hx hb hml hown hts (kX4_turn l G al k h B c (it (fun p g => mPTurn g p) i1 g) i1 hlti1) (fcwV 0 hts q240 q241 q242 q159 q166 rfl rfl (by decide +kernel) ⟨(Nat.le_of_ble_eq_true rfl), (Nat.le_of_ble_eq_true rfl)⟩) hE hb0 hP hS (m_recvA hE hP (B + 11 + i1) rfl (ov_p hlti1) rfl) rfl hl.1 rfl (Nat.le_of_ble_eq_true rfl) dX5_turnDrivesAndValves_24 ⟨(Nat.le_of_ble_eq_true rfl), (Nat.le_of_ble_eq_true rfl)⟩) hS (fun u H locs hP hS => ?_)
    have hP : mP G al (ov G al k B c (mPTurn (it (fun p g => mPTurn g p) i1 g) i1)) H := hP
    refine lv_iinc (v := nI (i1 + 1)) (lv' := [(1, .int (nI (i1 + 1))), (0, .ref (al B))]) hx hb dX5_turnDrivesAndValves_27 hl (k := 0) rfl (f_inc _) (by decide) rfl (fun ls hl => ?_)
    refine lv_goto (tgt := 2) hx hb dX5_turnDrivesAndValves_30 (by decide) ?_
    exact ihi1 hlti1 _ _ _ (m_cv hP (show ov G al k B c (mPTurn (it (fun p g => mPTurn g p) i1 g) i1) = ov G al k B c (it (fun p g => mPTurn g p) (i1 + 1) g) from (by first | rfl | (simp only [it_s]; done) | (simp only [it_s]; rfl)))) hS (lv_sub hl [0, 1] rfl)
set_option maxHeartbeats 4000000 in
set_option maxRecDepth 100000 in
theorem kX5_letFall (l : Launch) (G : gT) (al : Nat → Nat) (k : gC) (h : gK) (B : Nat) (c : mC) (g : St) (hF : gF G al k B c) : Met l yX5_letFall (fW yX5_letFall cX5_letFall 3 (some .int)) { frames := 3, cells := 0, slots := 0, locals := 64 } (gPre G al (ov G al k B c g) [.ref (al B)]) (gQi (S := Unit) G (fun _ => mFallIn g (g 0 4)) (fun _ => al) (fun _ => ov G al k B c (mFall g))) 0 0 (gA G) := by
  refine Met.ofW (cc := cX5_letFall) (maxL := 3) (ret := (some .int)) (by decide) rfl ?_
  intro pz ez s m args below meth c₀ s₁ Bo hml hv
  obtain ⟨rfl, hb0, hP, hE⟩ := hv
  have hx := Bo.exec
  have hb := Bo.bytes
  have hr := Bo.returns
  have hts0 := atoms_spec (ws := (fW yX5_letFall cX5_letFall 3 (some .int))) Bo.pre
  have hts : ∀ w ∈ fA, w.before _ s = true := fun w h => hts0 w (List.mem_cons_of_mem _ h)
  have hown : s.vm.findClass RX5 = some m.cls := findClass_of_methodNamed Bo.named
  have hlocks := Bo.notSynchronized
  have hl := lv_entry ([.ref (al B)]) (n := 3) (Nat.le_of_ble_eq_true rfl)
  rw [lg_entry_eq]
  generalize (lg_sl ([.ref (al B)]) ++ List.replicate (3 - (lg_sl ([.ref (al B)])).length) Slot.unset).toArray = ls at hl ⊢
  have hl : lv_has ls 3 [(0, .ref (al B))] := hl
  have hJ := gF_J hF
  refine g_start hP (fun H hP hS => ?_)
  refine lv_aload_n hx hb dX5_letFall_0 rfl (lv_at hl 0 rfl) ?_
  refine m_get (C := RX5) (T := TX5) (N := 15) (ci := 6) (v := .ref (al (B + 7))) hx hb hts uX5 hown hE hP B rfl ov_s rfl 3 (by decide) (hts _ q178) (fun _ h9 => h9) rfl dX5_letFall_1 ?_
  refine lv_aload_n hx hb dX5_letFall_4 rfl (lv_at hl 0 rfl) ?_
  refine m_get (C := RX5) (T := TX5) (N := 15) (ci := 6) (v := .int (g 0 4)) hx hb hts uX5 hown hE hP B rfl ov_s rfl 4 (by decide) (hts _ q233) (fun _ h9 => h9) rfl dX5_letFall_5 ?_
  refine g_aft_i (g_runV (As := [.int (g 0 4)]) (rest := []) hx hb hml hown hts (kX0_fallingIn l G al k h B c g (g 0 4) hF) (fcwV 1 hts q251 q252 q253 q16 q17 rfl rfl (by decide +kernel) ⟨(Nat.le_of_ble_eq_true rfl), (Nat.le_of_ble_eq_true rfl)⟩) hE hb0 hP hS (m_recvA hE hP (B + 7) rfl (gF_a hF) rfl) rfl hl.1 rfl (Nat.le_of_ble_eq_true rfl) dX5_letFall_8 ⟨(Nat.le_of_ble_eq_true rfl), (Nat.le_of_ble_eq_true rfl)⟩) hS (fun u H locs hP hS => ?_)
  have hP : mP G al (ov G al k B c g) H := hP
  refine f_topi (v := mFallIn g (g 0 4)) rfl ?_
  refine lv_istore_n (lv' := [(1, .int (mFallIn g (g 0 4))), (0, .ref (al B))]) hx hb dX5_letFall_11 rfl hl (by decide) rfl (fun ls hl => ?_)
  refine lv_aload_n hx hb dX5_letFall_12 rfl (lv_at hl 1 rfl) ?_
  refine m_get (C := RX5) (T := TX5) (N := 15) (ci := 6) (v := .ref (al (B + 7))) hx hb hts uX5 hown hE hP B rfl ov_s rfl 3 (by decide) (hts _ q178) (fun _ h9 => h9) rfl dX5_letFall_13 ?_
  refine lv_aload_n hx hb dX5_letFall_16 rfl (lv_at hl 1 rfl) ?_
  refine m_get (C := RX5) (T := TX5) (N := 15) (ci := 6) (v := .int (g 0 4)) hx hb hts uX5 hown hE hP B rfl ov_s rfl 4 (by decide) (hts _ q233) (fun _ h9 => h9) rfl dX5_letFall_17 ?_
  refine g_aft_i (g_runV (As := [.int (g 0 4)]) (rest := []) hx hb hml hown hts (kX0_fallingOnBasin l G al k h B c g (g 0 4) hF) (fcwV 1 hts q254 q255 q256 q16 q18 rfl rfl (by decide +kernel) ⟨(Nat.le_of_ble_eq_true rfl), (Nat.le_of_ble_eq_true rfl)⟩) hE hb0 hP hS (m_recvA hE hP (B + 7) rfl (gF_a hF) rfl) rfl hl.1 rfl (Nat.le_of_ble_eq_true rfl) dX5_letFall_20 ⟨(Nat.le_of_ble_eq_true rfl), (Nat.le_of_ble_eq_true rfl)⟩) hS (fun u H locs hP hS => ?_)
  have hP : mP G al (ov G al k B c g) H := hP
  refine f_topi (v := mFallB g (g 0 4)) rfl ?_
  refine lv_istore_n (lv' := [(2, .int (mFallB g (g 0 4))), (1, .int (mFallIn g (g 0 4))), (0, .ref (al B))]) hx hb dX5_letFall_23 rfl hl (by decide) rfl (fun ls hl => ?_)
  refine lv_aload_n hx hb dX5_letFall_24 rfl (lv_at hl 2 rfl) ?_
  refine lv_iload_n hx hb dX5_letFall_25 rfl (lv_at hl 0 rfl) ?_
  refine g_aft_v (g_runV (As := [.int (mFallB g (g 0 4))]) (rest := []) hx hb hml hown hts (kX5_pour l G al k h B c g (mFallB g (g 0 4)) hF) (fcwV 1 hts q257 q258 q259 q211 q247 rfl rfl (by decide +kernel) ⟨(Nat.le_of_ble_eq_true rfl), (Nat.le_of_ble_eq_true rfl)⟩) hE hb0 hP hS (m_recvA hE hP B rfl ov_s rfl) rfl hl.1 rfl (Nat.le_of_ble_eq_true rfl) dX5_letFall_26 ⟨(Nat.le_of_ble_eq_true rfl), (Nat.le_of_ble_eq_true rfl)⟩) hS (fun u H locs hP hS => ?_)
  have hP : mP G al (ov G al k B c (mPour g (mFallB g (g 0 4)))) H := hP
  refine lv_aload_n hx hb dX5_letFall_29 rfl (lv_at hl 2 rfl) ?_
  refine lv_dup hx hb dX5_letFall_30 rfl ?_
  refine m_get (C := RX5) (T := TX5) (N := 15) (ci := 6) (v := .int ((mPour g (mFallB g (g 0 4))) 0 8)) hx hb hts uX5 hown hE hP B rfl ov_s rfl 8 (by decide) (hts _ q249) (fun _ h9 => h9) rfl dX5_letFall_31 ?_
  refine lv_aload_n hx hb dX5_letFall_34 rfl (lv_at hl 2 rfl) ?_
  refine m_get (C := RX5) (T := TX5) (N := 15) (ci := 6) (v := .ref (al (B + 7))) hx hb hts uX5 hown hE hP B rfl ov_s rfl 3 (by decide) (hts _ q178) (fun _ h9 => h9) rfl dX5_letFall_35 ?_
  refine lv_aload_n hx hb dX5_letFall_38 rfl (lv_at hl 2 rfl) ?_
  refine m_get (C := RX5) (T := TX5) (N := 15) (ci := 6) (v := .int ((mPour g (mFallB g (g 0 4))) 0 4)) hx hb hts uX5 hown hE hP B rfl ov_s rfl 4 (by decide) (hts _ q233) (fun _ h9 => h9) rfl dX5_letFall_39 ?_
  refine g_aft_i (g_runV (As := [.int ((mPour g (mFallB g (g 0 4))) 0 4)]) (rest := [.int ((mPour g (mFallB g (g 0 4))) 0 8), .ref (al B)]) hx hb hml hown hts (kX0_fallingOnCrowd l G al k h B c (mPour g (mFallB g (g 0 4))) ((mPour g (mFallB g (g 0 4))) 0 4) hF) (fcwV 1 hts q260 q261 q262 q16 q19 rfl rfl (by decide +kernel) ⟨(Nat.le_of_ble_eq_true rfl), (Nat.le_of_ble_eq_true rfl)⟩) hE hb0 hP hS (m_recvA hE hP (B + 7) rfl (gF_a hF) rfl) rfl hl.1 rfl (Nat.le_of_ble_eq_true rfl) dX5_letFall_42 ⟨(Nat.le_of_ble_eq_true rfl), (Nat.le_of_ble_eq_true rfl)⟩) hS (fun u H locs hP hS => ?_)
  have hP : mP G al (ov G al k B c (mPour g (mFallB g (g 0 4)))) H := hP
  refine f_topi (v := mFallC (mPour g (mFallB g (g 0 4))) ((mPour g (mFallB g (g 0 4))) 0 4)) rfl ?_
  refine lv_iadd hx hb dX5_letFall_45 ?_
  refine m_put (v := .int (((mPour g (mFallB g (g 0 4))) 0 8) + (mFallC (mPour g (mFallB g (g 0 4))) ((mPour g (mFallB g (g 0 4))) 0 4)))) (ty := .int) (C := RX5) (T := TX5) (N := 15) (ci := 6) hx hb hts uX5 tyX5 tyX5_ok nmX5 hown hE hP hS B rfl ov_s rfl 8 (by decide) (hts _ q249) (fun _ h9 => h9) rfl (by decide +kernel) rfl rfl (Nat.le_of_ble_eq_true rfl) dX5_letFall_46 (fun H locs hP hS => ?_)
  have hP := m_cv hP (ov_us (r := upd ((mPour g (mFallB g (g 0 4))) 0) 8 (((mPour g (mFallB g (g 0 4))) 0 8) + (mFallC (mPour g (mFallB g (g 0 4))) ((mPour g (mFallB g (g 0 4))) 0 4)))) rfl)
  have hP : mP G al (ov G al k B c (s2 (mPour g (mFallB g (g 0 4))) 0 8 (((mPour g (mFallB g (g 0 4))) 0 8) + (mFallC (mPour g (mFallB g (g 0 4))) ((mPour g (mFallB g (g 0 4))) 0 4))))) H := hP
  refine lv_aload_n hx hb dX5_letFall_49 rfl (lv_at hl 2 rfl) ?_
  refine lv_dup hx hb dX5_letFall_50 rfl ?_
  refine m_get (C := RX5) (T := TX5) (N := 15) (ci := 6) (v := .int ((s2 (mPour g (mFallB g (g 0 4))) 0 8 (((mPour g (mFallB g (g 0 4))) 0 8) + (mFallC (mPour g (mFallB g (g 0 4))) ((mPour g (mFallB g (g 0 4))) 0 4)))) 0 7)) hx hb hts uX5 hown hE hP B rfl ov_s rfl 7 (by decide) (hts _ q250) (fun _ h9 => h9) rfl dX5_letFall_51 ?_
  refine f_topi (v := (mPour g (mFallB g (g 0 4))) 0 7) (s2_k _ _ _ (by decide)) ?_
  refine lv_iload_n hx hb dX5_letFall_54 rfl (lv_at hl 1 rfl) ?_
  refine lv_iload_n hx hb dX5_letFall_55 rfl (lv_at hl 0 rfl) ?_
  refine lv_isub hx hb dX5_letFall_56 ?_
  refine lv_iadd hx hb dX5_letFall_57 ?_
  refine m_put (v := .int (((mPour g (mFallB g (g 0 4))) 0 7) + ((mFallIn g (g 0 4)) - (mFallB g (g 0 4))))) (ty := .int) (C := RX5) (T := TX5) (N := 15) (ci := 6) hx hb hts uX5 tyX5 tyX5_ok nmX5 hown hE hP hS B rfl ov_s rfl 7 (by decide) (hts _ q250) (fun _ h9 => h9) rfl (by decide +kernel) rfl rfl (Nat.le_of_ble_eq_true rfl) dX5_letFall_58 (fun H locs hP hS => ?_)
  have hP := m_cv hP (ov_us (r := upd ((s2 (mPour g (mFallB g (g 0 4))) 0 8 (((mPour g (mFallB g (g 0 4))) 0 8) + (mFallC (mPour g (mFallB g (g 0 4))) ((mPour g (mFallB g (g 0 4))) 0 4)))) 0) 7 (((mPour g (mFallB g (g 0 4))) 0 7) + ((mFallIn g (g 0 4)) - (mFallB g (g 0 4))))) rfl)
  have hP : mP G al (ov G al k B c (s2 (s2 (mPour g (mFallB g (g 0 4))) 0 8 (((mPour g (mFallB g (g 0 4))) 0 8) + (mFallC (mPour g (mFallB g (g 0 4))) ((mPour g (mFallB g (g 0 4))) 0 4)))) 0 7 (((mPour g (mFallB g (g 0 4))) 0 7) + ((mFallIn g (g 0 4)) - (mFallB g (g 0 4)))))) H := hP
  refine lv_aload_n hx hb dX5_letFall_61 rfl (lv_at hl 2 rfl) ?_
  refine m_get (C := RX5) (T := TX5) (N := 15) (ci := 6) (v := .ref (al (B + 7))) hx hb hts uX5 hown hE hP B rfl ov_s rfl 3 (by decide) (hts _ q178) (fun _ h9 => h9) rfl dX5_letFall_62 ?_
  refine lv_aload_n hx hb dX5_letFall_65 rfl (lv_at hl 2 rfl) ?_
  refine m_get (C := RX5) (T := TX5) (N := 15) (ci := 6) (v := .int ((s2 (s2 (mPour g (mFallB g (g 0 4))) 0 8 (((mPour g (mFallB g (g 0 4))) 0 8) + (mFallC (mPour g (mFallB g (g 0 4))) ((mPour g (mFallB g (g 0 4))) 0 4)))) 0 7 (((mPour g (mFallB g (g 0 4))) 0 7) + ((mFallIn g (g 0 4)) - (mFallB g (g 0 4))))) 0 4)) hx hb hts uX5 hown hE hP B rfl ov_s rfl 4 (by decide) (hts _ q233) (fun _ h9 => h9) rfl dX5_letFall_66 ?_
  refine f_topi (v := (mPour g (mFallB g (g 0 4))) 0 4) ((s2_k _ _ _ (by decide)).trans (s2_k _ _ _ (by decide))) ?_
  refine g_aft_v (g_runV (As := [.int ((mPour g (mFallB g (g 0 4))) 0 4)]) (rest := []) hx hb hml hown hts (kX0_clear l G al k h B c (s2 (s2 (mPour g (mFallB g (g 0 4))) 0 8 (((mPour g (mFallB g (g 0 4))) 0 8) + (mFallC (mPour g (mFallB g (g 0 4))) ((mPour g (mFallB g (g 0 4))) 0 4)))) 0 7 (((mPour g (mFallB g (g 0 4))) 0 7) + ((mFallIn g (g 0 4)) - (mFallB g (g 0 4))))) ((mPour g (mFallB g (g 0 4))) 0 4) hF) (fcwV 1 hts q263 q264 q265 q16 q20 rfl rfl (by decide +kernel) ⟨(Nat.le_of_ble_eq_true rfl), (Nat.le_of_ble_eq_true rfl)⟩) hE hb0 hP hS (m_recvA hE hP (B + 7) rfl (gF_a hF) rfl) rfl hl.1 rfl (Nat.le_of_ble_eq_true rfl) dX5_letFall_69 ⟨(Nat.le_of_ble_eq_true rfl), (Nat.le_of_ble_eq_true rfl)⟩) hS (fun u H locs hP hS => ?_)
  have hP : mP G al (ov G al k B c (mClear (s2 (s2 (mPour g (mFallB g (g 0 4))) 0 8 (((mPour g (mFallB g (g 0 4))) 0 8) + (mFallC (mPour g (mFallB g (g 0 4))) ((mPour g (mFallB g (g 0 4))) 0 4)))) 0 7 (((mPour g (mFallB g (g 0 4))) 0 7) + ((mFallIn g (g 0 4)) - (mFallB g (g 0 4))))) ((mPour g (mFallB g (g 0 4))) 0 4))) H := hP
  refine lv_iload_n hx hb dX5_letFall_72 rfl (lv_at hl 1 rfl) ?_
  have hP : mP G al (ov G al k B c (mFall g)) H := m_cv hP (show ov G al k B c (mClear (s2 (s2 (mPour g (mFallB g (g 0 4))) 0 8 (((mPour g (mFallB g (g 0 4))) 0 8) + (mFallC (mPour g (mFallB g (g 0 4))) ((mPour g (mFallB g (g 0 4))) 0 4)))) 0 7 (((mPour g (mFallB g (g 0 4))) 0 7) + ((mFallIn g (g 0 4)) - (mFallB g (g 0 4))))) ((mPour g (mFallB g (g 0 4))) 0 4)) = ov G al k B c (mFall g) from (by unfold mFall; rfl))
  refine W.widen (k := 0) (n := 0) (Nat.le_of_ble_eq_true rfl) (Nat.le_of_ble_eq_true rfl) ?_
  exact W.iret (v := mFallIn g (g 0 4)) hx hb hr (fun tz htz hW => ⟨⟨mFallIn g (g 0 4), (), rfl, rfl, g_end htz hP⟩, hS.F htz⟩) hS.2.2 dX5_letFall_73
set_option maxHeartbeats 4000000 in
set_option maxRecDepth 100000 in
theorem kX5_throwWater (l : Launch) (G : gT) (al : Nat → Nat) (k : gC) (h : gK) (B : Nat) (c : mC) (g : St) (hF : gF G al k B c) : Met l yX5_throwWater (fW yX5_throwWater cX5_throwWater 5 none) { frames := 5, cells := 0, slots := 0, locals := 109 } (gPre G al (ov G al k B c g) [.ref (al B)]) (gQv (S := Unit) G (fun _ => al) (fun _ => ov G al k B c (mThrow k g))) 0 0 (gA G) := by
  refine Met.ofW (cc := cX5_throwWater) (maxL := 5) (ret := none) (by decide) rfl ?_
  intro pz ez s m args below meth c₀ s₁ Bo hml hv
  obtain ⟨rfl, hb0, hP, hE⟩ := hv
  have hx := Bo.exec
  have hb := Bo.bytes
  have hr := Bo.returns
  have hts0 := atoms_spec (ws := (fW yX5_throwWater cX5_throwWater 5 none)) Bo.pre
  have hts : ∀ w ∈ fA, w.before _ s = true := fun w h => hts0 w (List.mem_cons_of_mem _ h)
  have hown : s.vm.findClass RX5 = some m.cls := findClass_of_methodNamed Bo.named
  have hlocks := Bo.notSynchronized
  have hl := lv_entry ([.ref (al B)]) (n := 5) (Nat.le_of_ble_eq_true rfl)
  rw [lg_entry_eq]
  generalize (lg_sl ([.ref (al B)]) ++ List.replicate (5 - (lg_sl ([.ref (al B)])).length) Slot.unset).toArray = ls at hl ⊢
  have hl : lv_has ls 5 [(0, .ref (al B))] := hl
  have hJ := gF_J hF
  refine g_start hP (fun H hP hS => ?_)
  refine lv_iconst (v := 0) hx hb dX5_throwWater_0 (by decide) ?_
  refine lv_istore_n (lv' := [(1, .int 0), (0, .ref (al B))]) hx hb dX5_throwWater_1 rfl hl (by decide) rfl (fun ls hl => ?_)
  refine g_loop (al := al) (N := k.1) (nL := 5) (Wi := fun i1 => ov G al k B c (it (mThrow1 k) i1 g)) (Li := fun i1 => [(1, .int (nI i1)), (0, .ref (al B))]) hP hS (lv_sub hl [0, 1] rfl) (fun i1 hii1 ihi1 H locs ls hP hS hl => ?_)
  have hP : mP G al (ov G al k B c (it (mThrow1 k) i1 g)) H := hP
  have hl : lv_has ls 5 [(1, .int (nI i1)), (0, .ref (al B))] := hl
  refine lv_iload_n hx hb dX5_throwWater_2 rfl (lv_at hl 0 rfl) ?_
  refine lv_aload_n hx hb dX5_throwWater_3 rfl (lv_at hl 1 rfl) ?_
  refine m_get (C := RX5) (T := TX5) (N := 15) (ci := 6) (v := .ref (al (B + 3))) hx hb hts uX5 hown hE hP B rfl ov_s rfl 1 (by decide) (hts _ q174) (fun _ h9 => h9) rfl dX5_throwWater_4 ?_
  refine g_aft_i (g_runV (As := []) (rest := [.int (nI i1)]) hx hb hml hown hts (kJx4a65c_size_8abf5 l G al (ov G al k B c (it (mThrow1 k) i1 g)) (B + 3) (B + 4) k.1 (fun j => B + 20 + j) (gF_j hF)) (fcwV 0 hts q187 q53 q54 q50 q34 rfl rfl (by decide +kernel) ⟨(Nat.le_of_ble_eq_true rfl), (Nat.le_of_ble_eq_true rfl)⟩) hE hb0 hP hS (m_recvL hE hP (gF_j hF) rfl) rfl hl.1 rfl (Nat.le_of_ble_eq_true rfl) dX5_throwWater_7 ⟨(Nat.le_of_ble_eq_true rfl), (Nat.le_of_ble_eq_true rfl)⟩) hS (fun u H locs hP hS => ?_)
  refine f_topi (v := nI k.1) rfl ?_
  refine lv_icmp_ge (tgt := 100) hx hb dX5_throwWater_10 (by decide) (fun hc_1 => ?_) (fun hc_1 => ?_)
  · skip
    have hgei1 : k.1 ≤ i1 := (nI_leI (by omega) (by omega)).mp hc_1
    obtain rfl : i1 = k.1 := Nat.le_antisymm hii1 hgei1
    have hP : mP G al (ov G al k B c (it (mThrow1 k) k.1 g)) H := hP
    have hl : lv_has ls 5 [(1, .int (nI k.1)), (0, .ref (al B))] := hl
    have hP : mP G al (ov G al k B c (mThrow k g)) H := m_cv hP (show ov G al k B c (it (mThrow1 k) k.1 g) = ov G al k B c (mThrow k g) from (by unfold mThrow; rfl))
    refine W.widen (k := 0) (n := 0) (Nat.le_of_ble_eq_true rfl) (Nat.le_of_ble_eq_true rfl) ?_
    exact W.vret hx hb hr (fun tz htz hW => ⟨⟨(), rfl, trivial, g_end htz hP⟩, hS.F htz⟩) hS.2.2 dX5_throwWater_100
  · skip
    have hlti1 : i1 < k.1 := Nat.lt_of_not_le (fun q => hc_1 (nI_le q (by omega)))
    refine lv_aload_n hx hb dX5_throwWater_13 rfl (lv_at hl 1 rfl) ?_
    refine m_get (C := RX5) (T := TX5) (N := 15) (ci := 6) (v := .ref (al (B + 3))) hx hb hts uX5 hown hE hP B rfl ov_s rfl 1 (by decide) (hts _ q174) (fun _ h9 => h9) rfl dX5_throwWater_14 ?_
    refine lv_iload_n hx hb dX5_throwWater_17 rfl (lv_at hl 0 rfl) ?_
    refine g_aft_r (g_runV (As := [.int (nI i1)]) (rest := []) hx hb hml hown hts (kJx4a65c_get_915e3 l G al (ov G al k B c (it (mThrow1 k) i1 g)) (B + 3) (B + 4) k.1 (fun j => B + 20 + j) i1 (gF_j hF) hlti1) (fcwV 1 hts q188 q56 q57 q50 q43 rfl rfl (by decide +kernel) ⟨(Nat.le_of_ble_eq_true rfl), (Nat.le_of_ble_eq_true rfl)⟩) hE hb0 hP hS (m_recvL hE hP (gF_j hF) rfl) rfl hl.1 rfl (Nat.le_of_ble_eq_true rfl) dX5_throwWater_18 ⟨(Nat.le_of_ble_eq_true rfl), (Nat.le_of_ble_eq_true rfl)⟩) hS (fun u H locs hP hS => ?_)
    refine g_topr (v := al (B + 20 + i1)) rfl ?_
    refine m_cast hx hb hown (hts _ q196) hE hP (B + 20 + i1) rfl (ov_j hlti1) rfl dX5_throwWater_21 ?_
    refine lv_astore_n (lv' := [(2, .ref (al (B + 20 + i1))), (1, .int (nI i1)), (0, .ref (al B))]) hx hb dX5_throwWater_24 rfl hl (by decide) rfl (fun ls hl => ?_)
    refine lv_aload_n hx hb dX5_throwWater_25 rfl (lv_at hl 2 rfl) ?_
    refine lv_aload_n hx hb dX5_throwWater_26 rfl (lv_at hl 0 rfl) ?_
    refine g_aft_i (g_runV (As := [.ref (al (B + 20 + i1))]) (rest := []) hx hb hml hown hts (kX5_heightOf l G al k h B c (it (mThrow1 k) i1 g) i1 hF hlti1) (fcwV 1 hts q214 q215 q216 q211 q213 rfl rfl (by decide +kernel) ⟨(Nat.le_of_ble_eq_true rfl), (Nat.le_of_ble_eq_true rfl)⟩) hE hb0 hP hS (m_recvA hE hP B rfl ov_s rfl) rfl hl.1 rfl (Nat.le_of_ble_eq_true rfl) dX5_throwWater_27 ⟨(Nat.le_of_ble_eq_true rfl), (Nat.le_of_ble_eq_true rfl)⟩) hS (fun u H locs hP hS => ?_)
    have hP : mP G al (ov G al k B c (it (mThrow1 k) i1 g)) H := hP
    refine f_topi (v := mHt k (it (mThrow1 k) i1 g) i1) rfl ?_
    refine lv_istore_n (lv' := [(3, .int (mHt k (it (mThrow1 k) i1 g) i1)), (2, .ref (al (B + 20 + i1))), (1, .int (nI i1)), (0, .ref (al B))]) hx hb dX5_throwWater_30 rfl hl (by decide) rfl (fun ls hl => ?_)
    refine lv_iload_n hx hb dX5_throwWater_31 rfl (lv_at hl 0 rfl) ?_
    refine lv_if_le (tgt := 94) hx hb dX5_throwWater_32 (by decide) (fun hc_2 => ?_) (fun hc_2 => ?_)
    · skip
      refine lv_iinc (v := nI (i1 + 1)) (lv' := [(1, .int (nI (i1 + 1))), (3, .int (mHt k (it (mThrow1 k) i1 g) i1)), (2, .ref (al (B + 20 + i1))), (0, .ref (al B))]) hx hb dX5_throwWater_94 hl (k := 2) rfl (f_inc _) (by decide) rfl (fun ls hl => ?_)
      refine lv_goto (tgt := 2) hx hb dX5_throwWater_97 (by decide) ?_
      exact ihi1 hlti1 _ _ _ (m_cv hP (show ov G al k B c (it (mThrow1 k) i1 g) = ov G al k B c (it (mThrow1 k) (i1 + 1) g) from (congrArg (ov G al k B c) (if_pos hc_2).symm))) hS (lv_sub hl [0, 3] rfl)
    · skip
      refine lv_aload_n hx hb dX5_throwWater_35 rfl (lv_at hl 1 rfl) ?_
      refine g_aft_i (g_runV (As := []) (rest := []) hx hb hml hown hts (kX3_flow l G al k h B c (it (mThrow1 k) i1 g) i1 hlti1) (fcwV 0 hts q200 q201 q202 q185 q141 rfl rfl (by decide +kernel) ⟨(Nat.le_of_ble_eq_true rfl), (Nat.le_of_ble_eq_true rfl)⟩) hE hb0 hP hS (m_recvA hE hP (B + 20 + i1) rfl (ov_j hlti1) rfl) rfl hl.1 rfl (Nat.le_of_ble_eq_true rfl) dX5_throwWater_36 ⟨(Nat.le_of_ble_eq_true rfl), (Nat.le_of_ble_eq_true rfl)⟩) hS (fun u H locs hP hS => ?_)
      have hP : mP G al (ov G al k B c (it (mThrow1 k) i1 g)) H := hP
      refine f_topi (v := mFlow k (it (mThrow1 k) i1 g) i1) rfl ?_
      refine lv_aload_n hx hb dX5_throwWater_39 rfl (lv_at hl 3 rfl) ?_
      refine m_get (C := RX5) (T := TX5) (N := 15) (ci := 6) (v := .int ((it (mThrow1 k) i1 g) 0 5)) hx hb hts uX5 hown hE hP B rfl ov_s rfl 5 (by decide) (hts _ q179) (fun _ h9 => h9) rfl dX5_throwWater_40 ?_
      refine va_mmin hx hb (hml.trans hl.1.symm) hown (hts _ q281) (hts _ q95) (hts _ q87) (hts _ q96) (Nat.le_of_ble_eq_true rfl) (Nat.le_of_ble_eq_true rfl) (Nat.le_of_ble_eq_true rfl) (Nat.le_of_ble_eq_true rfl) dX5_throwWater_43 ?_
      refine lv_istore (lv' := [(4, .int (if ((it (mThrow1 k) i1 g) 0 5) < (mFlow k (it (mThrow1 k) i1 g) i1) then ((it (mThrow1 k) i1 g) 0 5) else (mFlow k (it (mThrow1 k) i1 g) i1))), (3, .int (mHt k (it (mThrow1 k) i1 g) i1)), (2, .ref (al (B + 20 + i1))), (1, .int (nI i1)), (0, .ref (al B))]) hx hb dX5_throwWater_46 hl (by decide) rfl (fun ls hl => ?_)
      refine lv_aload_n hx hb dX5_throwWater_48 rfl (lv_at hl 4 rfl) ?_
      refine lv_dup hx hb dX5_throwWater_49 rfl ?_
      refine m_get (C := RX5) (T := TX5) (N := 15) (ci := 6) (v := .int ((it (mThrow1 k) i1 g) 0 5)) hx hb hts uX5 hown hE hP B rfl ov_s rfl 5 (by decide) (hts _ q179) (fun _ h9 => h9) rfl dX5_throwWater_50 ?_
      refine lv_iload hx hb dX5_throwWater_53 (lv_at hl 0 rfl) ?_
      refine lv_isub hx hb dX5_throwWater_55 ?_
      refine m_put (v := .int (((it (mThrow1 k) i1 g) 0 5) - (if ((it (mThrow1 k) i1 g) 0 5) < (mFlow k (it (mThrow1 k) i1 g) i1) then ((it (mThrow1 k) i1 g) 0 5) else (mFlow k (it (mThrow1 k) i1 g) i1)))) (ty := .int) (C := RX5) (T := TX5) (N := 15) (ci := 6) hx hb hts uX5 tyX5 tyX5_ok nmX5 hown hE hP hS B rfl ov_s rfl 5 (by decide) (hts _ q179) (fun _ h9 => h9) rfl (by decide +kernel) rfl rfl (Nat.le_of_ble_eq_true rfl) dX5_throwWater_56 (fun H locs hP hS => ?_)
      have hP := m_cv hP (ov_us (r := upd ((it (mThrow1 k) i1 g) 0) 5 (((it (mThrow1 k) i1 g) 0 5) - (if ((it (mThrow1 k) i1 g) 0 5) < (mFlow k (it (mThrow1 k) i1 g) i1) then ((it (mThrow1 k) i1 g) 0 5) else (mFlow k (it (mThrow1 k) i1 g) i1)))) rfl)
      have hP : mP G al (ov G al k B c (s2 (it (mThrow1 k) i1 g) 0 5 (((it (mThrow1 k) i1 g) 0 5) - (if ((it (mThrow1 k) i1 g) 0 5) < (mFlow k (it (mThrow1 k) i1 g) i1) then ((it (mThrow1 k) i1 g) 0 5) else (mFlow k (it (mThrow1 k) i1 g) i1))))) H := hP
      refine lv_aload_n hx hb dX5_throwWater_59 rfl (lv_at hl 2 rfl) ?_
      refine lv_dup hx hb dX5_throwWater_60 rfl ?_
      refine m_get (C := RX3) (T := TX3) (N := 10) (ci := 4) (v := .int ((s2 (it (mThrow1 k) i1 g) 0 5 (((it (mThrow1 k) i1 g) 0 5) - (if ((it (mThrow1 k) i1 g) 0 5) < (mFlow k (it (mThrow1 k) i1 g) i1) then ((it (mThrow1 k) i1 g) 0 5) else (mFlow k (it (mThrow1 k) i1 g) i1)))) (3 + i1) 9)) hx hb hts uX3 hown hE hP (B + 20 + i1) rfl (ov_j hlti1) rfl 9 (by decide) (hts _ q282) (fun _ h9 => h9) rfl dX5_throwWater_61 ?_
      refine f_topi (v := (it (mThrow1 k) i1 g) (3 + i1) 9) (s2_ok _ _ _ (by omega) _) ?_
      refine lv_iload hx hb dX5_throwWater_64 (lv_at hl 0 rfl) ?_
      refine lv_iadd hx hb dX5_throwWater_66 ?_
      refine m_put (v := .int (((it (mThrow1 k) i1 g) (3 + i1) 9) + (if ((it (mThrow1 k) i1 g) 0 5) < (mFlow k (it (mThrow1 k) i1 g) i1) then ((it (mThrow1 k) i1 g) 0 5) else (mFlow k (it (mThrow1 k) i1 g) i1)))) (ty := .int) (C := RX3) (T := TX3) (N := 10) (ci := 4) hx hb hts uX3 tyX3 tyX3_ok nmX3 hown hE hP hS (B + 20 + i1) rfl (ov_j hlti1) rfl 9 (by decide) (hts _ q282) (fun _ h9 => h9) rfl (by decide +kernel) rfl rfl (Nat.le_of_ble_eq_true rfl) dX5_throwWater_67 (fun H locs hP hS => ?_)
      have hP := m_cv hP (ov_uj (r := upd ((s2 (it (mThrow1 k) i1 g) 0 5 (((it (mThrow1 k) i1 g) 0 5) - (if ((it (mThrow1 k) i1 g) 0 5) < (mFlow k (it (mThrow1 k) i1 g) i1) then ((it (mThrow1 k) i1 g) 0 5) else (mFlow k (it (mThrow1 k) i1 g) i1)))) (3 + i1)) 9 (((it (mThrow1 k) i1 g) (3 + i1) 9) + (if ((it (mThrow1 k) i1 g) 0 5) < (mFlow k (it (mThrow1 k) i1 g) i1) then ((it (mThrow1 k) i1 g) 0 5) else (mFlow k (it (mThrow1 k) i1 g) i1)))) hlti1 hJ rfl)
      have hP : mP G al (ov G al k B c (s2 (s2 (it (mThrow1 k) i1 g) 0 5 (((it (mThrow1 k) i1 g) 0 5) - (if ((it (mThrow1 k) i1 g) 0 5) < (mFlow k (it (mThrow1 k) i1 g) i1) then ((it (mThrow1 k) i1 g) 0 5) else (mFlow k (it (mThrow1 k) i1 g) i1)))) (3 + i1) 9 (((it (mThrow1 k) i1 g) (3 + i1) 9) + (if ((it (mThrow1 k) i1 g) 0 5) < (mFlow k (it (mThrow1 k) i1 g) i1) then ((it (mThrow1 k) i1 g) 0 5) else (mFlow k (it (mThrow1 k) i1 g) i1))))) H := hP
      refine lv_aload_n hx hb dX5_throwWater_70 rfl (lv_at hl 4 rfl) ?_
      refine m_get (C := RX5) (T := TX5) (N := 15) (ci := 6) (v := .ref (al (B + 7))) hx hb hts uX5 hown hE hP B rfl ov_s rfl 3 (by decide) (hts _ q178) (fun _ h9 => h9) rfl dX5_throwWater_71 ?_
      refine lv_aload_n hx hb dX5_throwWater_74 rfl (lv_at hl 4 rfl) ?_
      refine m_get (C := RX5) (T := TX5) (N := 15) (ci := 6) (v := .int ((s2 (s2 (it (mThrow1 k) i1 g) 0 5 (((it (mThrow1 k) i1 g) 0 5) - (if ((it (mThrow1 k) i1 g) 0 5) < (mFlow k (it (mThrow1 k) i1 g) i1) then ((it (mThrow1 k) i1 g) 0 5) else (mFlow k (it (mThrow1 k) i1 g) i1)))) (3 + i1) 9 (((it (mThrow1 k) i1 g) (3 + i1) 9) + (if ((it (mThrow1 k) i1 g) 0 5) < (mFlow k (it (mThrow1 k) i1 g) i1) then ((it (mThrow1 k) i1 g) 0 5) else (mFlow k (it (mThrow1 k) i1 g) i1)))) 0 4)) hx hb hts uX5 hown hE hP B rfl ov_s rfl 4 (by decide) (hts _ q233) (fun _ h9 => h9) rfl dX5_throwWater_75 ?_
      refine f_topi (v := (it (mThrow1 k) i1 g) 0 4) ((s2_ok _ _ _ (by omega) _).trans (s2_k _ _ _ (by decide))) ?_
      refine lv_iload_n hx hb dX5_throwWater_78 rfl (lv_at hl 1 rfl) ?_
      refine g_aft_i (g_runSN (As := [.int (mHt k (it (mThrow1 k) i1 g) i1)]) (rest := [.int ((it (mThrow1 k) i1 g) 0 4), .ref (al (B + 7))]) hx hb hml hown hts (kX7_airTime l G al (ov G al k B c (s2 (s2 (it (mThrow1 k) i1 g) 0 5 (((it (mThrow1 k) i1 g) 0 5) - (if ((it (mThrow1 k) i1 g) 0 5) < (mFlow k (it (mThrow1 k) i1 g) i1) then ((it (mThrow1 k) i1 g) 0 5) else (mFlow k (it (mThrow1 k) i1 g) i1)))) (3 + i1) 9 (((it (mThrow1 k) i1 g) (3 + i1) 9) + (if ((it (mThrow1 k) i1 g) 0 5) < (mFlow k (it (mThrow1 k) i1 g) i1) then ((it (mThrow1 k) i1 g) 0 5) else (mFlow k (it (mThrow1 k) i1 g) i1))))) (mHt k (it (mThrow1 k) i1 g) i1)) (fcwSN 1 hts (hE.1.1.2.2.2.2.1 (RX5, 159, yX7_airTime, RX7) (by decide +kernel)) q280 q148 q267 rfl rfl (by decide +kernel) ⟨(Nat.le_of_ble_eq_true rfl), (Nat.le_of_ble_eq_true rfl)⟩) hE hb0 hP hS rfl hl.1 rfl (Nat.le_of_ble_eq_true rfl) dX5_throwWater_79 ⟨(Nat.le_of_ble_eq_true rfl), (Nat.le_of_ble_eq_true rfl)⟩) hS (fun u H locs hP hS => ?_)
      refine f_topi (v := mAir (mHt k (it (mThrow1 k) i1 g) i1)) rfl ?_
      refine lv_iadd hx hb dX5_throwWater_82 ?_
      refine lv_aload_n hx hb dX5_throwWater_83 rfl (lv_at hl 4 rfl) ?_
      refine lv_aload_n hx hb dX5_throwWater_84 rfl (lv_at hl 2 rfl) ?_
      refine lv_iload_n hx hb dX5_throwWater_85 rfl (lv_at hl 1 rfl) ?_
      refine g_aft_i (g_runV (As := [.ref (al (B + 20 + i1)), .int (mHt k (it (mThrow1 k) i1 g) i1)]) (rest := [.int (((it (mThrow1 k) i1 g) 0 4) + (mAir (mHt k (it (mThrow1 k) i1 g) i1))), .ref (al (B + 7))]) hx hb hml hown hts (kX5_placeOfFall l G al k h B c (s2 (s2 (it (mThrow1 k) i1 g) 0 5 (((it (mThrow1 k) i1 g) 0 5) - (if ((it (mThrow1 k) i1 g) 0 5) < (mFlow k (it (mThrow1 k) i1 g) i1) then ((it (mThrow1 k) i1 g) 0 5) else (mFlow k (it (mThrow1 k) i1 g) i1)))) (3 + i1) 9 (((it (mThrow1 k) i1 g) (3 + i1) 9) + (if ((it (mThrow1 k) i1 g) 0 5) < (mFlow k (it (mThrow1 k) i1 g) i1) then ((it (mThrow1 k) i1 g) 0 5) else (mFlow k (it (mThrow1 k) i1 g) i1)))) i1 (mHt k (it (mThrow1 k) i1 g) i1) hF hlti1) (fcwV 2 hts q283 q284 q285 q211 q272 rfl rfl (by decide +kernel) ⟨(Nat.le_of_ble_eq_true rfl), (Nat.le_of_ble_eq_true rfl)⟩) hE hb0 hP hS (m_recvA hE hP B rfl ov_s rfl) rfl hl.1 rfl (Nat.le_of_ble_eq_true rfl) dX5_throwWater_86 ⟨(Nat.le_of_ble_eq_true rfl), (Nat.le_of_ble_eq_true rfl)⟩) hS (fun u H locs hP hS => ?_)
      have hP : mP G al (ov G al k B c (s2 (s2 (it (mThrow1 k) i1 g) 0 5 (((it (mThrow1 k) i1 g) 0 5) - (if ((it (mThrow1 k) i1 g) 0 5) < (mFlow k (it (mThrow1 k) i1 g) i1) then ((it (mThrow1 k) i1 g) 0 5) else (mFlow k (it (mThrow1 k) i1 g) i1)))) (3 + i1) 9 (((it (mThrow1 k) i1 g) (3 + i1) 9) + (if ((it (mThrow1 k) i1 g) 0 5) < (mFlow k (it (mThrow1 k) i1 g) i1) then ((it (mThrow1 k) i1 g) 0 5) else (mFlow k (it (mThrow1 k) i1 g) i1))))) H := hP
      refine f_topi (v := mPlace k (s2 (s2 (it (mThrow1 k) i1 g) 0 5 (((it (mThrow1 k) i1 g) 0 5) - (if ((it (mThrow1 k) i1 g) 0 5) < (mFlow k (it (mThrow1 k) i1 g) i1) then ((it (mThrow1 k) i1 g) 0 5) else (mFlow k (it (mThrow1 k) i1 g) i1)))) (3 + i1) 9 (((it (mThrow1 k) i1 g) (3 + i1) 9) + (if ((it (mThrow1 k) i1 g) 0 5) < (mFlow k (it (mThrow1 k) i1 g) i1) then ((it (mThrow1 k) i1 g) 0 5) else (mFlow k (it (mThrow1 k) i1 g) i1)))) i1 (mHt k (it (mThrow1 k) i1 g) i1)) rfl ?_
      refine lv_iload hx hb dX5_throwWater_89 (lv_at hl 0 rfl) ?_
      refine g_aft_v (g_runV (As := [.int (((it (mThrow1 k) i1 g) 0 4) + (mAir (mHt k (it (mThrow1 k) i1 g) i1))), .int (mPlace k (s2 (s2 (it (mThrow1 k) i1 g) 0 5 (((it (mThrow1 k) i1 g) 0 5) - (if ((it (mThrow1 k) i1 g) 0 5) < (mFlow k (it (mThrow1 k) i1 g) i1) then ((it (mThrow1 k) i1 g) 0 5) else (mFlow k (it (mThrow1 k) i1 g) i1)))) (3 + i1) 9 (((it (mThrow1 k) i1 g) (3 + i1) 9) + (if ((it (mThrow1 k) i1 g) 0 5) < (mFlow k (it (mThrow1 k) i1 g) i1) then ((it (mThrow1 k) i1 g) 0 5) else (mFlow k (it (mThrow1 k) i1 g) i1)))) i1 (mHt k (it (mThrow1 k) i1 g) i1)), .int (if ((it (mThrow1 k) i1 g) 0 5) < (mFlow k (it (mThrow1 k) i1 g) i1) then ((it (mThrow1 k) i1 g) 0 5) else (mFlow k (it (mThrow1 k) i1 g) i1))]) (rest := []) hx hb hml hown hts (kX0_put l G al k h B c (s2 (s2 (it (mThrow1 k) i1 g) 0 5 (((it (mThrow1 k) i1 g) 0 5) - (if ((it (mThrow1 k) i1 g) 0 5) < (mFlow k (it (mThrow1 k) i1 g) i1) then ((it (mThrow1 k) i1 g) 0 5) else (mFlow k (it (mThrow1 k) i1 g) i1)))) (3 + i1) 9 (((it (mThrow1 k) i1 g) (3 + i1) 9) + (if ((it (mThrow1 k) i1 g) 0 5) < (mFlow k (it (mThrow1 k) i1 g) i1) then ((it (mThrow1 k) i1 g) 0 5) else (mFlow k (it (mThrow1 k) i1 g) i1)))) (((it (mThrow1 k) i1 g) 0 4) + (mAir (mHt k (it (mThrow1 k) i1 g) i1))) (mPlace k (s2 (s2 (it (mThrow1 k) i1 g) 0 5 (((it (mThrow1 k) i1 g) 0 5) - (if ((it (mThrow1 k) i1 g) 0 5) < (mFlow k (it (mThrow1 k) i1 g) i1) then ((it (mThrow1 k) i1 g) 0 5) else (mFlow k (it (mThrow1 k) i1 g) i1)))) (3 + i1) 9 (((it (mThrow1 k) i1 g) (3 + i1) 9) + (if ((it (mThrow1 k) i1 g) 0 5) < (mFlow k (it (mThrow1 k) i1 g) i1) then ((it (mThrow1 k) i1 g) 0 5) else (mFlow k (it (mThrow1 k) i1 g) i1)))) i1 (mHt k (it (mThrow1 k) i1 g) i1)) (if ((it (mThrow1 k) i1 g) 0 5) < (mFlow k (it (mThrow1 k) i1 g) i1) then ((it (mThrow1 k) i1 g) 0 5) else (mFlow k (it (mThrow1 k) i1 g) i1)) hF) (fcwV 3 hts q286 q287 q288 q16 q13 rfl rfl (by decide +kernel) ⟨(Nat.le_of_ble_eq_true rfl), (Nat.le_of_ble_eq_true rfl)⟩) hE hb0 hP hS (m_recvA hE hP (B + 7) rfl (gF_a hF) rfl) rfl hl.1 rfl (Nat.le_of_ble_eq_true rfl) dX5_throwWater_91 ⟨(Nat.le_of_ble_eq_true rfl), (Nat.le_of_ble_eq_true rfl)⟩) hS (fun u H locs hP hS => ?_)
      have hP : mP G al (ov G al k B c (mPut (s2 (s2 (it (mThrow1 k) i1 g) 0 5 (((it (mThrow1 k) i1 g) 0 5) - (if ((it (mThrow1 k) i1 g) 0 5) < (mFlow k (it (mThrow1 k) i1 g) i1) then ((it (mThrow1 k) i1 g) 0 5) else (mFlow k (it (mThrow1 k) i1 g) i1)))) (3 + i1) 9 (((it (mThrow1 k) i1 g) (3 + i1) 9) + (if ((it (mThrow1 k) i1 g) 0 5) < (mFlow k (it (mThrow1 k) i1 g) i1) then ((it (mThrow1 k) i1 g) 0 5) else (mFlow k (it (mThrow1 k) i1 g) i1)))) (((it (mThrow1 k) i1 g) 0 4) + (mAir (mHt k (it (mThrow1 k) i1 g) i1))) (mPlace k (s2 (s2 (it (mThrow1 k) i1 g) 0 5 (((it (mThrow1 k) i1 g) 0 5) - (if ((it (mThrow1 k) i1 g) 0 5) < (mFlow k (it (mThrow1 k) i1 g) i1) then ((it (mThrow1 k) i1 g) 0 5) else (mFlow k (it (mThrow1 k) i1 g) i1)))) (3 + i1) 9 (((it (mThrow1 k) i1 g) (3 + i1) 9) + (if ((it (mThrow1 k) i1 g) 0 5) < (mFlow k (it (mThrow1 k) i1 g) i1) then ((it (mThrow1 k) i1 g) 0 5) else (mFlow k (it (mThrow1 k) i1 g) i1)))) i1 (mHt k (it (mThrow1 k) i1 g) i1)) (if ((it (mThrow1 k) i1 g) 0 5) < (mFlow k (it (mThrow1 k) i1 g) i1) then ((it (mThrow1 k) i1 g) 0 5) else (mFlow k (it (mThrow1 k) i1 g) i1)))) H := hP
      refine lv_iinc (v := nI (i1 + 1)) (lv' := [(1, .int (nI (i1 + 1))), (4, .int (if ((it (mThrow1 k) i1 g) 0 5) < (mFlow k (it (mThrow1 k) i1 g) i1) then ((it (mThrow1 k) i1 g) 0 5) else (mFlow k (it (mThrow1 k) i1 g) i1))), (3, .int (mHt k (it (mThrow1 k) i1 g) i1)), (2, .ref (al (B + 20 + i1))), (0, .ref (al B))]) hx hb dX5_throwWater_94 hl (k := 3) rfl (f_inc _) (by decide) rfl (fun ls hl => ?_)
      refine lv_goto (tgt := 2) hx hb dX5_throwWater_97 (by decide) ?_
      exact ihi1 hlti1 _ _ _ (m_cv hP (show ov G al k B c (mPut (s2 (s2 (it (mThrow1 k) i1 g) 0 5 (((it (mThrow1 k) i1 g) 0 5) - (if ((it (mThrow1 k) i1 g) 0 5) < (mFlow k (it (mThrow1 k) i1 g) i1) then ((it (mThrow1 k) i1 g) 0 5) else (mFlow k (it (mThrow1 k) i1 g) i1)))) (3 + i1) 9 (((it (mThrow1 k) i1 g) (3 + i1) 9) + (if ((it (mThrow1 k) i1 g) 0 5) < (mFlow k (it (mThrow1 k) i1 g) i1) then ((it (mThrow1 k) i1 g) 0 5) else (mFlow k (it (mThrow1 k) i1 g) i1)))) (((it (mThrow1 k) i1 g) 0 4) + (mAir (mHt k (it (mThrow1 k) i1 g) i1))) (mPlace k (s2 (s2 (it (mThrow1 k) i1 g) 0 5 (((it (mThrow1 k) i1 g) 0 5) - (if ((it (mThrow1 k) i1 g) 0 5) < (mFlow k (it (mThrow1 k) i1 g) i1) then ((it (mThrow1 k) i1 g) 0 5) else (mFlow k (it (mThrow1 k) i1 g) i1)))) (3 + i1) 9 (((it (mThrow1 k) i1 g) (3 + i1) 9) + (if ((it (mThrow1 k) i1 g) 0 5) < (mFlow k (it (mThrow1 k) i1 g) i1) then ((it (mThrow1 k) i1 g) 0 5) else (mFlow k (it (mThrow1 k) i1 g) i1)))) i1 (mHt k (it (mThrow1 k) i1 g) i1)) (if ((it (mThrow1 k) i1 g) 0 5) < (mFlow k (it (mThrow1 k) i1 g) i1) then ((it (mThrow1 k) i1 g) 0 5) else (mFlow k (it (mThrow1 k) i1 g) i1))) = ov G al k B c (it (mThrow1 k) (i1 + 1) g) from (congrArg (ov G al k B c) (if_neg hc_2).symm))) hS (lv_sub hl [0, 4] rfl)
set_option maxHeartbeats 4000000 in
set_option maxRecDepth 100000 in
theorem kX5_useEnergy (l : Launch) (G : gT) (al : Nat → Nat) (k : gC) (h : gK) (B : Nat) (c : mC) (g : St) (hF : gF G al k B c) : Met l yX5_useEnergy (fW yX5_useEnergy cX5_useEnergy 3 none) { frames := 4, cells := 0, slots := 0, locals := 86 } (gPre G al (ov G al k B c g) [.ref (al B)]) (gQv (S := Unit) G (fun _ => al) (fun _ => ov G al k B c (mEnergy k g))) 0 0 (gA G) := by
  refine Met.ofW (cc := cX5_useEnergy) (maxL := 3) (ret := none) (by decide) rfl ?_
  intro pz ez s m args below meth c₀ s₁ Bo hml hv
  obtain ⟨rfl, hb0, hP, hE⟩ := hv
  have hx := Bo.exec
  have hb := Bo.bytes
  have hr := Bo.returns
  have hts0 := atoms_spec (ws := (fW yX5_useEnergy cX5_useEnergy 3 none)) Bo.pre
  have hts : ∀ w ∈ fA, w.before _ s = true := fun w h => hts0 w (List.mem_cons_of_mem _ h)
  have hown : s.vm.findClass RX5 = some m.cls := findClass_of_methodNamed Bo.named
  have hlocks := Bo.notSynchronized
  have hl := lv_entry ([.ref (al B)]) (n := 3) (Nat.le_of_ble_eq_true rfl)
  rw [lg_entry_eq]
  generalize (lg_sl ([.ref (al B)]) ++ List.replicate (3 - (lg_sl ([.ref (al B)])).length) Slot.unset).toArray = ls at hl ⊢
  have hl : lv_has ls 3 [(0, .ref (al B))] := hl
  have hJ := gF_J hF
  refine g_start hP (fun H hP hS => ?_)
  refine lv_iconst (v := 0) hx hb dX5_useEnergy_0 (by decide) ?_
  refine lv_istore_n (lv' := [(1, .int 0), (0, .ref (al B))]) hx hb dX5_useEnergy_1 rfl hl (by decide) rfl (fun ls hl => ?_)
  refine g_loop (al := al) (N := 2) (nL := 3) (Wi := fun i1 => ov G al k B c (it (fun p g => s2 g 0 9 (g 0 9 + g (1 + p) 3 * g (1 + p) 3)) i1 g)) (Li := fun i1 => [(1, .int (nI i1)), (0, .ref (al B))]) hP hS (lv_sub hl [0, 1] rfl) (fun i1 hii1 ihi1 H locs ls hP hS hl => ?_)
  have hP : mP G al (ov G al k B c (it (fun p g => s2 g 0 9 (g 0 9 + g (1 + p) 3 * g (1 + p) 3)) i1 g)) H := hP
  have hl : lv_has ls 3 [(1, .int (nI i1)), (0, .ref (al B))] := hl
  refine lv_iload_n hx hb dX5_useEnergy_2 rfl (lv_at hl 0 rfl) ?_
  refine lv_aload_n hx hb dX5_useEnergy_3 rfl (lv_at hl 1 rfl) ?_
  refine m_get (C := RX5) (T := TX5) (N := 15) (ci := 6) (v := .ref (al (B + 1))) hx hb hts uX5 hown hE hP B rfl ov_s rfl 0 (by decide) (hts _ q173) (fun _ h9 => h9) rfl dX5_useEnergy_4 ?_
  refine g_aft_i (g_runV (As := []) (rest := [.int (nI i1)]) hx hb hml hown hts (kJx4a65c_size_8abf5 l G al (ov G al k B c (it (fun p g => s2 g 0 9 (g 0 9 + g (1 + p) 3 * g (1 + p) 3)) i1 g)) (B + 1) (B + 2) 2 (fun p => B + 11 + p) (gF_p hF)) (fcwV 0 hts q187 q53 q54 q50 q34 rfl rfl (by decide +kernel) ⟨(Nat.le_of_ble_eq_true rfl), (Nat.le_of_ble_eq_true rfl)⟩) hE hb0 hP hS (m_recvL hE hP (gF_p hF) rfl) rfl hl.1 rfl (Nat.le_of_ble_eq_true rfl) dX5_useEnergy_7 ⟨(Nat.le_of_ble_eq_true rfl), (Nat.le_of_ble_eq_true rfl)⟩) hS (fun u H locs hP hS => ?_)
  refine f_topi (v := nI 2) rfl ?_
  refine lv_icmp_ge (tgt := 46) hx hb dX5_useEnergy_10 (by decide) (fun hc_1 => ?_) (fun hc_1 => ?_)
  · skip
    have hgei1 : 2 ≤ i1 := (nI_leI (a := 2) (by omega) (by omega)).mp hc_1
    obtain rfl : i1 = 2 := Nat.le_antisymm hii1 hgei1
    have hP : mP G al (ov G al k B c (it (fun p g => s2 g 0 9 (g 0 9 + g (1 + p) 3 * g (1 + p) 3)) 2 g)) H := hP
    have hl : lv_has ls 3 [(1, .int (nI 2)), (0, .ref (al B))] := hl
    refine lv_aload_n hx hb dX5_useEnergy_46 rfl (lv_at hl 1 rfl) ?_
    refine lv_dup hx hb dX5_useEnergy_47 rfl ?_
    refine m_get (C := RX5) (T := TX5) (N := 15) (ci := 6) (v := .int ((it (fun p g => s2 g 0 9 (g 0 9 + g (1 + p) 3 * g (1 + p) 3)) 2 g) 0 9)) hx hb hts uX5 hown hE hP B rfl ov_s rfl 9 (by decide) (hts _ q296) (fun _ h9 => h9) rfl dX5_useEnergy_48 ?_
    refine lv_aload_n hx hb dX5_useEnergy_51 rfl (lv_at hl 1 rfl) ?_
    refine g_aft_i (g_runV (As := []) (rest := [.int ((it (fun p g => s2 g 0 9 (g 0 9 + g (1 + p) 3 * g (1 + p) 3)) 2 g) 0 9), .ref (al B)]) hx hb hml hown hts (kX5_lampsOn l G al k h B c (it (fun p g => s2 g 0 9 (g 0 9 + g (1 + p) 3 * g (1 + p) 3)) 2 g) hF) (fcwV 0 hts q297 q298 q299 q211 q291 rfl rfl (by decide +kernel) ⟨(Nat.le_of_ble_eq_true rfl), (Nat.le_of_ble_eq_true rfl)⟩) hE hb0 hP hS (m_recvA hE hP B rfl ov_s rfl) rfl hl.1 rfl (Nat.le_of_ble_eq_true rfl) dX5_useEnergy_52 ⟨(Nat.le_of_ble_eq_true rfl), (Nat.le_of_ble_eq_true rfl)⟩) hS (fun u H locs hP hS => ?_)
    have hP : mP G al (ov G al k B c (it (fun p g => s2 g 0 9 (g 0 9 + g (1 + p) 3 * g (1 + p) 3)) 2 g)) H := hP
    refine f_topi (v := mLamps k (it (fun p g => s2 g 0 9 (g 0 9 + g (1 + p) 3 * g (1 + p) 3)) 2 g)) rfl ?_
    refine g_aft_i (g_runS (As := [.int (mLamps k (it (fun p g => s2 g 0 9 (g 0 9 + g (1 + p) 3 * g (1 + p) 3)) 2 g))]) (rest := [.int ((it (fun p g => s2 g 0 9 (g 0 9 + g (1 + p) 3 * g (1 + p) 3)) 2 g) 0 9), .ref (al B)]) hx hb hml hown hts (kJ6_bitCount_0f7a4 l G al (ov G al k B c (it (fun p g => s2 g 0 9 (g 0 9 + g (1 + p) 3 * g (1 + p) 3)) 2 g)) (mLamps k (it (fun p g => s2 g 0 9 (g 0 9 + g (1 + p) 3 * g (1 + p) 3)) 2 g))) (fcwS 1 hts q300 q301 q302 q292 rfl rfl (by decide +kernel) ⟨(Nat.le_of_ble_eq_true rfl), (Nat.le_of_ble_eq_true rfl)⟩) hE hb0 hP hS rfl hl.1 rfl (Nat.le_of_ble_eq_true rfl) dX5_useEnergy_55 ⟨(Nat.le_of_ble_eq_true rfl), (Nat.le_of_ble_eq_true rfl)⟩) hS (fun u H locs hP hS => ?_)
    refine f_topi (v := mBits (mLamps k (it (fun p g => s2 g 0 9 (g 0 9 + g (1 + p) 3 * g (1 + p) 3)) 2 g))) rfl ?_
    refine lv_iadd hx hb dX5_useEnergy_58 ?_
    refine m_put (v := .int (((it (fun p g => s2 g 0 9 (g 0 9 + g (1 + p) 3 * g (1 + p) 3)) 2 g) 0 9) + (mBits (mLamps k (it (fun p g => s2 g 0 9 (g 0 9 + g (1 + p) 3 * g (1 + p) 3)) 2 g))))) (ty := .int) (C := RX5) (T := TX5) (N := 15) (ci := 6) hx hb hts uX5 tyX5 tyX5_ok nmX5 hown hE hP hS B rfl ov_s rfl 9 (by decide) (hts _ q296) (fun _ h9 => h9) rfl (by decide +kernel) rfl rfl (Nat.le_of_ble_eq_true rfl) dX5_useEnergy_59 (fun H locs hP hS => ?_)
    have hP := m_cv hP (ov_us (r := upd ((it (fun p g => s2 g 0 9 (g 0 9 + g (1 + p) 3 * g (1 + p) 3)) 2 g) 0) 9 (((it (fun p g => s2 g 0 9 (g 0 9 + g (1 + p) 3 * g (1 + p) 3)) 2 g) 0 9) + (mBits (mLamps k (it (fun p g => s2 g 0 9 (g 0 9 + g (1 + p) 3 * g (1 + p) 3)) 2 g))))) rfl)
    have hP : mP G al (ov G al k B c (s2 (it (fun p g => s2 g 0 9 (g 0 9 + g (1 + p) 3 * g (1 + p) 3)) 2 g) 0 9 (((it (fun p g => s2 g 0 9 (g 0 9 + g (1 + p) 3 * g (1 + p) 3)) 2 g) 0 9) + (mBits (mLamps k (it (fun p g => s2 g 0 9 (g 0 9 + g (1 + p) 3 * g (1 + p) 3)) 2 g)))))) H := hP
    have hP : mP G al (ov G al k B c (mEnergy k g)) H := m_cv hP (show ov G al k B c (s2 (it (fun p g => s2 g 0 9 (g 0 9 + g (1 + p) 3 * g (1 + p) 3)) 2 g) 0 9 (((it (fun p g => s2 g 0 9 (g 0 9 + g (1 + p) 3 * g (1 + p) 3)) 2 g) 0 9) + (mBits (mLamps k (it (fun p g => s2 g 0 9 (g 0 9 + g (1 + p) 3 * g (1 + p) 3)) 2 g))))) = ov G al k B c (mEnergy k g) from (by unfold mEnergy mEn1; rfl))
    refine W.widen (k := 0) (n := 0) (Nat.le_of_ble_eq_true rfl) (Nat.le_of_ble_eq_true rfl) ?_
    exact W.vret hx hb hr (fun tz htz hW => ⟨⟨(), rfl, trivial, g_end htz hP⟩, hS.F htz⟩) hS.2.2 dX5_useEnergy_62
  · skip
    have hlti1 : i1 < 2 := Nat.lt_of_not_le (fun q => hc_1 (nI_le (a := 2) q (by omega)))
    refine lv_aload_n hx hb dX5_useEnergy_13 rfl (lv_at hl 1 rfl) ?_
    refine m_get (C := RX5) (T := TX5) (N := 15) (ci := 6) (v := .ref (al (B + 1))) hx hb hts uX5 hown hE hP B rfl ov_s rfl 0 (by decide) (hts _ q173) (fun _ h9 => h9) rfl dX5_useEnergy_14 ?_
    refine lv_iload_n hx hb dX5_useEnergy_17 rfl (lv_at hl 0 rfl) ?_
    refine g_aft_r (g_runV (As := [.int (nI i1)]) (rest := []) hx hb hml hown hts (kJx4a65c_get_915e3 l G al (ov G al k B c (it (fun p g => s2 g 0 9 (g 0 9 + g (1 + p) 3 * g (1 + p) 3)) i1 g)) (B + 1) (B + 2) 2 (fun p => B + 11 + p) i1 (gF_p hF) hlti1) (fcwV 1 hts q188 q56 q57 q50 q43 rfl rfl (by decide +kernel) ⟨(Nat.le_of_ble_eq_true rfl), (Nat.le_of_ble_eq_true rfl)⟩) hE hb0 hP hS (m_recvL hE hP (gF_p hF) rfl) rfl hl.1 rfl (Nat.le_of_ble_eq_true rfl) dX5_useEnergy_18 ⟨(Nat.le_of_ble_eq_true rfl), (Nat.le_of_ble_eq_true rfl)⟩) hS (fun u H locs hP hS => ?_)
    refine g_topr (v := al (B + 11 + i1)) rfl ?_
    refine m_cast hx hb hown (hts _ q186) hE hP (B + 11 + i1) rfl (ov_p hlti1) rfl dX5_useEnergy_21 ?_
    refine m_get (C := RX4) (T := TX4) (N := 6) (ci := 5) (v := .int ((it (fun p g => s2 g 0 9 (g 0 9 + g (1 + p) 3 * g (1 + p) 3)) i1 g) (1 + i1) 3)) hx hb hts uX4 hown hE hP (B + 11 + i1) rfl (ov_p hlti1) rfl 3 (by decide) (hts _ q198) (fun _ h9 => h9) rfl dX5_useEnergy_24 ?_
    refine lv_istore_n (lv' := [(2, .int ((it (fun p g => s2 g 0 9 (g 0 9 + g (1 + p) 3 * g (1 + p) 3)) i1 g) (1 + i1) 3)), (1, .int (nI i1)), (0, .ref (al B))]) hx hb dX5_useEnergy_27 rfl hl (by decide) rfl (fun ls hl => ?_)
    refine lv_aload_n hx hb dX5_useEnergy_28 rfl (lv_at hl 2 rfl) ?_
    refine lv_dup hx hb dX5_useEnergy_29 rfl ?_
    refine m_get (C := RX5) (T := TX5) (N := 15) (ci := 6) (v := .int ((it (fun p g => s2 g 0 9 (g 0 9 + g (1 + p) 3 * g (1 + p) 3)) i1 g) 0 9)) hx hb hts uX5 hown hE hP B rfl ov_s rfl 9 (by decide) (hts _ q296) (fun _ h9 => h9) rfl dX5_useEnergy_30 ?_
    refine lv_iload_n hx hb dX5_useEnergy_33 rfl (lv_at hl 0 rfl) ?_
    refine lv_iload_n hx hb dX5_useEnergy_34 rfl (lv_at hl 0 rfl) ?_
    refine lv_imul hx hb dX5_useEnergy_35 ?_
    refine lv_iadd hx hb dX5_useEnergy_36 ?_
    refine m_put (v := .int (((it (fun p g => s2 g 0 9 (g 0 9 + g (1 + p) 3 * g (1 + p) 3)) i1 g) 0 9) + (((it (fun p g => s2 g 0 9 (g 0 9 + g (1 + p) 3 * g (1 + p) 3)) i1 g) (1 + i1) 3) * ((it (fun p g => s2 g 0 9 (g 0 9 + g (1 + p) 3 * g (1 + p) 3)) i1 g) (1 + i1) 3)))) (ty := .int) (C := RX5) (T := TX5) (N := 15) (ci := 6) hx hb hts uX5 tyX5 tyX5_ok nmX5 hown hE hP hS B rfl ov_s rfl 9 (by decide) (hts _ q296) (fun _ h9 => h9) rfl (by decide +kernel) rfl rfl (Nat.le_of_ble_eq_true rfl) dX5_useEnergy_37 (fun H locs hP hS => ?_)
    have hP := m_cv hP (ov_us (r := upd ((it (fun p g => s2 g 0 9 (g 0 9 + g (1 + p) 3 * g (1 + p) 3)) i1 g) 0) 9 (((it (fun p g => s2 g 0 9 (g 0 9 + g (1 + p) 3 * g (1 + p) 3)) i1 g) 0 9) + (((it (fun p g => s2 g 0 9 (g 0 9 + g (1 + p) 3 * g (1 + p) 3)) i1 g) (1 + i1) 3) * ((it (fun p g => s2 g 0 9 (g 0 9 + g (1 + p) 3 * g (1 + p) 3)) i1 g) (1 + i1) 3)))) rfl)
    have hP : mP G al (ov G al k B c (s2 (it (fun p g => s2 g 0 9 (g 0 9 + g (1 + p) 3 * g (1 + p) 3)) i1 g) 0 9 (((it (fun p g => s2 g 0 9 (g 0 9 + g (1 + p) 3 * g (1 + p) 3)) i1 g) 0 9) + (((it (fun p g => s2 g 0 9 (g 0 9 + g (1 + p) 3 * g (1 + p) 3)) i1 g) (1 + i1) 3) * ((it (fun p g => s2 g 0 9 (g 0 9 + g (1 + p) 3 * g (1 + p) 3)) i1 g) (1 + i1) 3))))) H := hP
    refine lv_iinc (v := nI (i1 + 1)) (lv' := [(1, .int (nI (i1 + 1))), (2, .int ((it (fun p g => s2 g 0 9 (g 0 9 + g (1 + p) 3 * g (1 + p) 3)) i1 g) (1 + i1) 3)), (0, .ref (al B))]) hx hb dX5_useEnergy_40 hl (k := 1) rfl (f_inc _) (by decide) rfl (fun ls hl => ?_)
    refine lv_goto (tgt := 2) hx hb dX5_useEnergy_43 (by decide) ?_
    exact ihi1 hlti1 _ _ _ (m_cv hP (show ov G al k B c (s2 (it (fun p g => s2 g 0 9 (g 0 9 + g (1 + p) 3 * g (1 + p) 3)) i1 g) 0 9 (((it (fun p g => s2 g 0 9 (g 0 9 + g (1 + p) 3 * g (1 + p) 3)) i1 g) 0 9) + (((it (fun p g => s2 g 0 9 (g 0 9 + g (1 + p) 3 * g (1 + p) 3)) i1 g) (1 + i1) 3) * ((it (fun p g => s2 g 0 9 (g 0 9 + g (1 + p) 3 * g (1 + p) 3)) i1 g) (1 + i1) 3)))) = ov G al k B c (it (fun p g => s2 g 0 9 (g 0 9 + g (1 + p) 3 * g (1 + p) 3)) (i1 + 1) g) from (by first | rfl | (simp only [it_s]; done) | (simp only [it_s]; rfl)))) hS (lv_sub hl [0, 2] rfl)
set_option maxHeartbeats 4000000 in
set_option maxRecDepth 100000 in
theorem kX5_tripPumpsRunningDry (l : Launch) (G : gT) (al : Nat → Nat) (k : gC) (h : gK) (B : Nat) (c : mC) (g : St) (hF : gF G al k B c) : Met l yX5_tripPumpsRunningDry (fW yX5_tripPumpsRunningDry cX5_tripPumpsRunningDry 2 none) { frames := 3, cells := 0, slots := 0, locals := 64 } (gPre G al (ov G al k B c g) [.ref (al B)]) (gQv (S := Unit) G (fun _ => al) (fun _ => ov G al k B c (mDry g))) 0 0 (gA G) := by
  refine Met.ofW (cc := cX5_tripPumpsRunningDry) (maxL := 2) (ret := none) (by decide) rfl ?_
  intro pz ez s m args below meth c₀ s₁ Bo hml hv
  obtain ⟨rfl, hb0, hP, hE⟩ := hv
  have hx := Bo.exec
  have hb := Bo.bytes
  have hr := Bo.returns
  have hts0 := atoms_spec (ws := (fW yX5_tripPumpsRunningDry cX5_tripPumpsRunningDry 2 none)) Bo.pre
  have hts : ∀ w ∈ fA, w.before _ s = true := fun w h => hts0 w (List.mem_cons_of_mem _ h)
  have hown : s.vm.findClass RX5 = some m.cls := findClass_of_methodNamed Bo.named
  have hlocks := Bo.notSynchronized
  have hl := lv_entry ([.ref (al B)]) (n := 2) (Nat.le_of_ble_eq_true rfl)
  rw [lg_entry_eq]
  generalize (lg_sl ([.ref (al B)]) ++ List.replicate (2 - (lg_sl ([.ref (al B)])).length) Slot.unset).toArray = ls at hl ⊢
  have hl : lv_has ls 2 [(0, .ref (al B))] := hl
  have hJ := gF_J hF
  refine g_start hP (fun H hP hS => ?_)
  refine lv_aload_n hx hb dX5_tripPumpsRunningDry_0 rfl (lv_at hl 0 rfl) ?_
  refine m_get (C := RX5) (T := TX5) (N := 15) (ci := 6) (v := .int (g 0 5)) hx hb hts uX5 hown hE hP B rfl ov_s rfl 5 (by decide) (hts _ q179) (fun _ h9 => h9) rfl dX5_tripPumpsRunningDry_1 ?_
  refine lv_sipush (v := 300) hx hb dX5_tripPumpsRunningDry_4 (by decide) ?_
  refine lv_icmp_lt (tgt := 11) hx hb dX5_tripPumpsRunningDry_7 (by decide) (fun hc_1 => ?_) (fun hc_1 => ?_)
  · skip
    refine lv_iconst (v := 0) hx hb dX5_tripPumpsRunningDry_11 (by decide) ?_
    refine lv_istore_n (lv' := [(1, .int 0), (0, .ref (al B))]) hx hb dX5_tripPumpsRunningDry_12 rfl hl (by decide) rfl (fun ls hl => ?_)
    refine g_loop (al := al) (N := 2) (nL := 2) (Wi := fun i1 => ov G al k B c (it (fun p g => if g (1 + p) 3 ≤ 0 then g else mTrip g p) i1 g)) (Li := fun i1 => [(1, .int (nI i1)), (0, .ref (al B))]) hP hS (lv_sub hl [0, 1] rfl) (fun i1 hii1 ihi1 H locs ls hP hS hl => ?_)
    have hP : mP G al (ov G al k B c (it (fun p g => if g (1 + p) 3 ≤ 0 then g else mTrip g p) i1 g)) H := hP
    have hl : lv_has ls 2 [(1, .int (nI i1)), (0, .ref (al B))] := hl
    refine lv_iload_n hx hb dX5_tripPumpsRunningDry_13 rfl (lv_at hl 0 rfl) ?_
    refine lv_aload_n hx hb dX5_tripPumpsRunningDry_14 rfl (lv_at hl 1 rfl) ?_
    refine m_get (C := RX5) (T := TX5) (N := 15) (ci := 6) (v := .ref (al (B + 1))) hx hb hts uX5 hown hE hP B rfl ov_s rfl 0 (by decide) (hts _ q173) (fun _ h9 => h9) rfl dX5_tripPumpsRunningDry_15 ?_
    refine g_aft_i (g_runV (As := []) (rest := [.int (nI i1)]) hx hb hml hown hts (kJx4a65c_size_8abf5 l G al (ov G al k B c (it (fun p g => if g (1 + p) 3 ≤ 0 then g else mTrip g p) i1 g)) (B + 1) (B + 2) 2 (fun p => B + 11 + p) (gF_p hF)) (fcwV 0 hts q187 q53 q54 q50 q34 rfl rfl (by decide +kernel) ⟨(Nat.le_of_ble_eq_true rfl), (Nat.le_of_ble_eq_true rfl)⟩) hE hb0 hP hS (m_recvL hE hP (gF_p hF) rfl) rfl hl.1 rfl (Nat.le_of_ble_eq_true rfl) dX5_tripPumpsRunningDry_18 ⟨(Nat.le_of_ble_eq_true rfl), (Nat.le_of_ble_eq_true rfl)⟩) hS (fun u H locs hP hS => ?_)
    refine f_topi (v := nI 2) rfl ?_
    refine lv_icmp_ge (tgt := 61) hx hb dX5_tripPumpsRunningDry_21 (by decide) (fun hc_2 => ?_) (fun hc_2 => ?_)
    · skip
      have hgei1 : 2 ≤ i1 := (nI_leI (a := 2) (by omega) (by omega)).mp hc_2
      obtain rfl : i1 = 2 := Nat.le_antisymm hii1 hgei1
      have hP : mP G al (ov G al k B c (it (fun p g => if g (1 + p) 3 ≤ 0 then g else mTrip g p) 2 g)) H := hP
      have hl : lv_has ls 2 [(1, .int (nI 2)), (0, .ref (al B))] := hl
      have hP : mP G al (ov G al k B c (mDry g)) H := m_cv hP (show ov G al k B c (it (fun p g => if g (1 + p) 3 ≤ 0 then g else mTrip g p) 2 g) = ov G al k B c (mDry g) from (by unfold mDry; rw [if_pos hc_1]; try rfl))
      refine W.widen (k := 0) (n := 0) (Nat.le_of_ble_eq_true rfl) (Nat.le_of_ble_eq_true rfl) ?_
      exact W.vret hx hb hr (fun tz htz hW => ⟨⟨(), rfl, trivial, g_end htz hP⟩, hS.F htz⟩) hS.2.2 dX5_tripPumpsRunningDry_61
    · skip
      have hlti1 : i1 < 2 := Nat.lt_of_not_le (fun q => hc_2 (nI_le (a := 2) q (by omega)))
      refine lv_aload_n hx hb dX5_tripPumpsRunningDry_24 rfl (lv_at hl 1 rfl) ?_
      refine m_get (C := RX5) (T := TX5) (N := 15) (ci := 6) (v := .ref (al (B + 1))) hx hb hts uX5 hown hE hP B rfl ov_s rfl 0 (by decide) (hts _ q173) (fun _ h9 => h9) rfl dX5_tripPumpsRunningDry_25 ?_
      refine lv_iload_n hx hb dX5_tripPumpsRunningDry_28 rfl (lv_at hl 0 rfl) ?_
      refine g_aft_r (g_runV (As := [.int (nI i1)]) (rest := []) hx hb hml hown hts (kJx4a65c_get_915e3 l G al (ov G al k B c (it (fun p g => if g (1 + p) 3 ≤ 0 then g else mTrip g p) i1 g)) (B + 1) (B + 2) 2 (fun p => B + 11 + p) i1 (gF_p hF) hlti1) (fcwV 1 hts q188 q56 q57 q50 q43 rfl rfl (by decide +kernel) ⟨(Nat.le_of_ble_eq_true rfl), (Nat.le_of_ble_eq_true rfl)⟩) hE hb0 hP hS (m_recvL hE hP (gF_p hF) rfl) rfl hl.1 rfl (Nat.le_of_ble_eq_true rfl) dX5_tripPumpsRunningDry_29 ⟨(Nat.le_of_ble_eq_true rfl), (Nat.le_of_ble_eq_true rfl)⟩) hS (fun u H locs hP hS => ?_)
      refine g_topr (v := al (B + 11 + i1)) rfl ?_
      refine m_cast hx hb hown (hts _ q186) hE hP (B + 11 + i1) rfl (ov_p hlti1) rfl dX5_tripPumpsRunningDry_32 ?_
      refine m_get (C := RX4) (T := TX4) (N := 6) (ci := 5) (v := .int ((it (fun p g => if g (1 + p) 3 ≤ 0 then g else mTrip g p) i1 g) (1 + i1) 3)) hx hb hts uX4 hown hE hP (B + 11 + i1) rfl (ov_p hlti1) rfl 3 (by decide) (hts _ q198) (fun _ h9 => h9) rfl dX5_tripPumpsRunningDry_35 ?_
      refine lv_if_le (tgt := 55) hx hb dX5_tripPumpsRunningDry_38 (by decide) (fun hc_3 => ?_) (fun hc_3 => ?_)
      · skip
        refine lv_iinc (v := nI (i1 + 1)) (lv' := [(1, .int (nI (i1 + 1))), (0, .ref (al B))]) hx hb dX5_tripPumpsRunningDry_55 hl (k := 0) rfl (f_inc _) (by decide) rfl (fun ls hl => ?_)
        refine lv_goto (tgt := 13) hx hb dX5_tripPumpsRunningDry_58 (by decide) ?_
        exact ihi1 hlti1 _ _ _ (m_cv hP (show ov G al k B c (it (fun p g => if g (1 + p) 3 ≤ 0 then g else mTrip g p) i1 g) = ov G al k B c (it (fun p g => if g (1 + p) 3 ≤ 0 then g else mTrip g p) (i1 + 1) g) from (by first | rfl | (simp only [it_s, if_pos hc_1, if_pos hc_3]; done) | (simp only [it_s, if_pos hc_1, if_pos hc_3]; rfl)))) hS (lv_sub hl [0, 1] rfl)
      · skip
        refine lv_aload_n hx hb dX5_tripPumpsRunningDry_41 rfl (lv_at hl 1 rfl) ?_
        refine m_get (C := RX5) (T := TX5) (N := 15) (ci := 6) (v := .ref (al (B + 1))) hx hb hts uX5 hown hE hP B rfl ov_s rfl 0 (by decide) (hts _ q173) (fun _ h9 => h9) rfl dX5_tripPumpsRunningDry_42 ?_
        refine lv_iload_n hx hb dX5_tripPumpsRunningDry_45 rfl (lv_at hl 0 rfl) ?_
        refine g_aft_r (g_runV (As := [.int (nI i1)]) (rest := []) hx hb hml hown hts (kJx4a65c_get_915e3 l G al (ov G al k B c (it (fun p g => if g (1 + p) 3 ≤ 0 then g else mTrip g p) i1 g)) (B + 1) (B + 2) 2 (fun p => B + 11 + p) i1 (gF_p hF) hlti1) (fcwV 1 hts q188 q56 q57 q50 q43 rfl rfl (by decide +kernel) ⟨(Nat.le_of_ble_eq_true rfl), (Nat.le_of_ble_eq_true rfl)⟩) hE hb0 hP hS (m_recvL hE hP (gF_p hF) rfl) rfl hl.1 rfl (Nat.le_of_ble_eq_true rfl) dX5_tripPumpsRunningDry_46 ⟨(Nat.le_of_ble_eq_true rfl), (Nat.le_of_ble_eq_true rfl)⟩) hS (fun u H locs hP hS => ?_)
        refine g_topr (v := al (B + 11 + i1)) rfl ?_
        refine m_cast hx hb hown (hts _ q186) hE hP (B + 11 + i1) rfl (ov_p hlti1) rfl dX5_tripPumpsRunningDry_49 ?_
        refine g_aft_v (g_runV (As := []) (rest := []) hx hb hml hown hts (kX4_trip l G al k h B c (it (fun p g => if g (1 + p) 3 ≤ 0 then g else mTrip g p) i1 g) i1 hlti1) (fcwV 0 hts q304 q305 q306 q159 q168 rfl rfl (by decide +kernel) ⟨(Nat.le_of_ble_eq_true rfl), (Nat.le_of_ble_eq_true rfl)⟩) hE hb0 hP hS (m_recvA hE hP (B + 11 + i1) rfl (ov_p hlti1) rfl) rfl hl.1 rfl (Nat.le_of_ble_eq_true rfl) dX5_tripPumpsRunningDry_52 ⟨(Nat.le_of_ble_eq_true rfl), (Nat.le_of_ble_eq_true rfl)⟩) hS (fun u H locs hP hS => ?_)
        have hP : mP G al (ov G al k B c (mTrip (it (fun p g => if g (1 + p) 3 ≤ 0 then g else mTrip g p) i1 g) i1)) H := hP
        refine lv_iinc (v := nI (i1 + 1)) (lv' := [(1, .int (nI (i1 + 1))), (0, .ref (al B))]) hx hb dX5_tripPumpsRunningDry_55 hl (k := 0) rfl (f_inc _) (by decide) rfl (fun ls hl => ?_)
        refine lv_goto (tgt := 13) hx hb dX5_tripPumpsRunningDry_58 (by decide) ?_
        exact ihi1 hlti1 _ _ _ (m_cv hP (show ov G al k B c (mTrip (it (fun p g => if g (1 + p) 3 ≤ 0 then g else mTrip g p) i1 g) i1) = ov G al k B c (it (fun p g => if g (1 + p) 3 ≤ 0 then g else mTrip g p) (i1 + 1) g) from (by first | rfl | (simp only [it_s, if_pos hc_1, if_neg hc_3]; done) | (simp only [it_s, if_pos hc_1, if_neg hc_3]; rfl)))) hS (lv_sub hl [0, 1] rfl)
  · skip
    have hP : mP G al (ov G al k B c (mDry g)) H := m_cv hP (show ov G al k B c g = ov G al k B c (mDry g) from (by unfold mDry; rw [if_neg hc_1]; try rfl))
    refine W.widen (k := 0) (n := 0) (Nat.le_of_ble_eq_true rfl) (Nat.le_of_ble_eq_true rfl) ?_
    exact W.vret hx hb hr (fun tz htz hW => ⟨⟨(), rfl, trivial, g_end htz hP⟩, hS.F htz⟩) hS.2.2 dX5_tripPumpsRunningDry_10
set_option maxHeartbeats 4000000 in
set_option maxRecDepth 100000 in
theorem kX5_shortLamps (l : Launch) (G : gT) (al : Nat → Nat) (k : gC) (h : gK) (B : Nat) (c : mC) (g : St) (hF : gF G al k B c) : Met l yX5_shortLamps (fW yX5_shortLamps cX5_shortLamps 3 none) { frames := 4, cells := 0, slots := 0, locals := 85 } (gPre G al (ov G al k B c g) [.ref (al B)]) (gQv (S := Unit) G (fun _ => al) (fun _ => ov G al k B c (mLamp k g))) 0 0 (gA G) := by
  refine Met.ofW (cc := cX5_shortLamps) (maxL := 3) (ret := none) (by decide) rfl ?_
  intro pz ez s m args below meth c₀ s₁ Bo hml hv
  obtain ⟨rfl, hb0, hP, hE⟩ := hv
  have hx := Bo.exec
  have hb := Bo.bytes
  have hr := Bo.returns
  have hts0 := atoms_spec (ws := (fW yX5_shortLamps cX5_shortLamps 3 none)) Bo.pre
  have hts : ∀ w ∈ fA, w.before _ s = true := fun w h => hts0 w (List.mem_cons_of_mem _ h)
  have hown : s.vm.findClass RX5 = some m.cls := findClass_of_methodNamed Bo.named
  have hlocks := Bo.notSynchronized
  have hl := lv_entry ([.ref (al B)]) (n := 3) (Nat.le_of_ble_eq_true rfl)
  rw [lg_entry_eq]
  generalize (lg_sl ([.ref (al B)]) ++ List.replicate (3 - (lg_sl ([.ref (al B)])).length) Slot.unset).toArray = ls at hl ⊢
  have hl : lv_has ls 3 [(0, .ref (al B))] := hl
  have hJ := gF_J hF
  refine g_start hP (fun H hP hS => ?_)
  refine lv_iconst (v := 0) hx hb dX5_shortLamps_0 (by decide) ?_
  refine lv_istore_n (lv' := [(1, .int 0), (0, .ref (al B))]) hx hb dX5_shortLamps_1 rfl hl (by decide) rfl (fun ls hl => ?_)
  refine lv_iconst (v := 0) hx hb dX5_shortLamps_2 (by decide) ?_
  refine lv_istore_n (lv' := [(2, .int 0), (1, .int 0), (0, .ref (al B))]) hx hb dX5_shortLamps_3 rfl hl (by decide) rfl (fun ls hl => ?_)
  refine g_loop (al := al) (N := k.1) (nL := 3) (Wi := fun i1 => ov G al k B c g) (Li := fun i1 => [(2, .int (nI i1)), (1, .int (it (fun j a => if mShort g j = 0 then a else a + 1) i1 0)), (0, .ref (al B))]) hP hS (lv_sub hl [0, 1, 2] rfl) (fun i1 hii1 ihi1 H locs ls hP hS hl => ?_)
  have hP : mP G al (ov G al k B c g) H := hP
  have hl : lv_has ls 3 [(2, .int (nI i1)), (1, .int (it (fun j a => if mShort g j = 0 then a else a + 1) i1 0)), (0, .ref (al B))] := hl
  refine lv_iload_n hx hb dX5_shortLamps_4 rfl (lv_at hl 0 rfl) ?_
  refine lv_aload_n hx hb dX5_shortLamps_5 rfl (lv_at hl 2 rfl) ?_
  refine m_get (C := RX5) (T := TX5) (N := 15) (ci := 6) (v := .ref (al (B + 3))) hx hb hts uX5 hown hE hP B rfl ov_s rfl 1 (by decide) (hts _ q174) (fun _ h9 => h9) rfl dX5_shortLamps_6 ?_
  refine g_aft_i (g_runV (As := []) (rest := [.int (nI i1)]) hx hb hml hown hts (kJx4a65c_size_8abf5 l G al (ov G al k B c g) (B + 3) (B + 4) k.1 (fun j => B + 20 + j) (gF_j hF)) (fcwV 0 hts q187 q53 q54 q50 q34 rfl rfl (by decide +kernel) ⟨(Nat.le_of_ble_eq_true rfl), (Nat.le_of_ble_eq_true rfl)⟩) hE hb0 hP hS (m_recvL hE hP (gF_j hF) rfl) rfl hl.1 rfl (Nat.le_of_ble_eq_true rfl) dX5_shortLamps_9 ⟨(Nat.le_of_ble_eq_true rfl), (Nat.le_of_ble_eq_true rfl)⟩) hS (fun u H locs hP hS => ?_)
  refine f_topi (v := nI k.1) rfl ?_
  refine lv_icmp_ge (tgt := 41) hx hb dX5_shortLamps_12 (by decide) (fun hc_1 => ?_) (fun hc_1 => ?_)
  · skip
    have hgei1 : k.1 ≤ i1 := (nI_leI (by omega) (by omega)).mp hc_1
    obtain rfl : i1 = k.1 := Nat.le_antisymm hii1 hgei1
    have hP : mP G al (ov G al k B c g) H := hP
    have hl : lv_has ls 3 [(2, .int (nI k.1)), (1, .int (it (fun j a => if mShort g j = 0 then a else a + 1) k.1 0)), (0, .ref (al B))] := hl
    refine lv_iload_n hx hb dX5_shortLamps_41 rfl (lv_at hl 1 rfl) ?_
    refine lv_if_ne (tgt := 46) hx hb dX5_shortLamps_42 (by decide) (fun hc_2 => ?_) (fun hc_2 => ?_)
    · skip
      refine lv_aload_n hx hb dX5_shortLamps_46 rfl (lv_at hl 2 rfl) ?_
      refine lv_dup hx hb dX5_shortLamps_47 rfl ?_
      refine m_get (C := RX5) (T := TX5) (N := 15) (ci := 6) (v := .int (g 0 10)) hx hb hts uX5 hown hE hP B rfl ov_s rfl 10 (by decide) (hts _ q309) (fun _ h9 => h9) rfl dX5_shortLamps_48 ?_
      refine lv_iload_n hx hb dX5_shortLamps_51 rfl (lv_at hl 1 rfl) ?_
      refine lv_iadd hx hb dX5_shortLamps_52 ?_
      refine m_put (v := .int ((g 0 10) + (it (fun j a => if mShort g j = 0 then a else a + 1) k.1 0))) (ty := .int) (C := RX5) (T := TX5) (N := 15) (ci := 6) hx hb hts uX5 tyX5 tyX5_ok nmX5 hown hE hP hS B rfl ov_s rfl 10 (by decide) (hts _ q309) (fun _ h9 => h9) rfl (by decide +kernel) rfl rfl (Nat.le_of_ble_eq_true rfl) dX5_shortLamps_53 (fun H locs hP hS => ?_)
      have hP := m_cv hP (ov_us (r := upd (g 0) 10 ((g 0 10) + (it (fun j a => if mShort g j = 0 then a else a + 1) k.1 0))) rfl)
      have hP : mP G al (ov G al k B c (s2 g 0 10 ((g 0 10) + (it (fun j a => if mShort g j = 0 then a else a + 1) k.1 0)))) H := hP
      refine lv_aload_n hx hb dX5_shortLamps_56 rfl (lv_at hl 2 rfl) ?_
      refine m_get (C := RX5) (T := TX5) (N := 15) (ci := 6) (v := .int (bz ((s2 g 0 10 ((g 0 10) + (it (fun j a => if mShort g j = 0 then a else a + 1) k.1 0))) 0 14))) hx hb hts uX5 hown hE hP B rfl ov_s rfl 14 (by decide) (hts _ q310) (fun _ h9 => h9) rfl dX5_shortLamps_57 ?_
      refine f_topi (v := bz (g 0 14)) (congrArg bz (s2_k _ _ _ (by decide))) ?_
      refine lv_if_eq (tgt := 73) hx hb dX5_shortLamps_60 (by decide) (fun hc_3 => ?_) (fun hc_3 => ?_)
      · skip
        refine lv_aload_n hx hb dX5_shortLamps_73 rfl (lv_at hl 2 rfl) ?_
        refine g_aft_v (g_runV (As := []) (rest := []) hx hb hml hown hts (kX5_lampsOff l G al k h B c (s2 g 0 10 ((g 0 10) + (it (fun j a => if mShort g j = 0 then a else a + 1) k.1 0))) hF) (fcwV 0 hts q315 q316 q317 q211 q308 rfl rfl (by decide +kernel) ⟨(Nat.le_of_ble_eq_true rfl), (Nat.le_of_ble_eq_true rfl)⟩) hE hb0 hP hS (m_recvA hE hP B rfl ov_s rfl) rfl hl.1 rfl (Nat.le_of_ble_eq_true rfl) dX5_shortLamps_74 ⟨(Nat.le_of_ble_eq_true rfl), (Nat.le_of_ble_eq_true rfl)⟩) hS (fun u H locs hP hS => ?_)
        have hP : mP G al (ov G al k B c (mOff k (s2 g 0 10 ((g 0 10) + (it (fun j a => if mShort g j = 0 then a else a + 1) k.1 0))))) H := hP
        have hP : mP G al (ov G al k B c (mLamp k g)) H := m_cv hP (show ov G al k B c (mOff k (s2 g 0 10 ((g 0 10) + (it (fun j a => if mShort g j = 0 then a else a + 1) k.1 0)))) = ov G al k B c (mLamp k g) from (by unfold mLamp mShorts; rw [if_neg hc_2, if_pos hc_3]; try rfl))
        refine W.widen (k := 0) (n := 0) (Nat.le_of_ble_eq_true rfl) (Nat.le_of_ble_eq_true rfl) ?_
        exact W.vret hx hb hr (fun tz htz hW => ⟨⟨(), rfl, trivial, g_end htz hP⟩, hS.F htz⟩) hS.2.2 dX5_shortLamps_77
      · skip
        refine lv_aload_n hx hb dX5_shortLamps_63 rfl (lv_at hl 2 rfl) ?_
        refine lv_dup hx hb dX5_shortLamps_64 rfl ?_
        refine m_get (C := RX5) (T := TX5) (N := 15) (ci := 6) (v := .int ((s2 g 0 10 ((g 0 10) + (it (fun j a => if mShort g j = 0 then a else a + 1) k.1 0))) 0 11)) hx hb hts uX5 hown hE hP B rfl ov_s rfl 11 (by decide) (hts _ q311) (fun _ h9 => h9) rfl dX5_shortLamps_65 ?_
        refine f_topi (v := g 0 11) (s2_k _ _ _ (by decide)) ?_
        refine lv_iconst (v := 1) hx hb dX5_shortLamps_68 (by decide) ?_
        refine lv_iadd hx hb dX5_shortLamps_69 ?_
        refine m_put (v := .int ((g 0 11) + 1)) (ty := .int) (C := RX5) (T := TX5) (N := 15) (ci := 6) hx hb hts uX5 tyX5 tyX5_ok nmX5 hown hE hP hS B rfl ov_s rfl 11 (by decide) (hts _ q311) (fun _ h9 => h9) rfl (by decide +kernel) rfl rfl (Nat.le_of_ble_eq_true rfl) dX5_shortLamps_70 (fun H locs hP hS => ?_)
        have hP := m_cv hP (ov_us (r := upd ((s2 g 0 10 ((g 0 10) + (it (fun j a => if mShort g j = 0 then a else a + 1) k.1 0))) 0) 11 ((g 0 11) + 1)) rfl)
        have hP : mP G al (ov G al k B c (s2 (s2 g 0 10 ((g 0 10) + (it (fun j a => if mShort g j = 0 then a else a + 1) k.1 0))) 0 11 ((g 0 11) + 1))) H := hP
        refine lv_aload_n hx hb dX5_shortLamps_73 rfl (lv_at hl 2 rfl) ?_
        refine g_aft_v (g_runV (As := []) (rest := []) hx hb hml hown hts (kX5_lampsOff l G al k h B c (s2 (s2 g 0 10 ((g 0 10) + (it (fun j a => if mShort g j = 0 then a else a + 1) k.1 0))) 0 11 ((g 0 11) + 1)) hF) (fcwV 0 hts q315 q316 q317 q211 q308 rfl rfl (by decide +kernel) ⟨(Nat.le_of_ble_eq_true rfl), (Nat.le_of_ble_eq_true rfl)⟩) hE hb0 hP hS (m_recvA hE hP B rfl ov_s rfl) rfl hl.1 rfl (Nat.le_of_ble_eq_true rfl) dX5_shortLamps_74 ⟨(Nat.le_of_ble_eq_true rfl), (Nat.le_of_ble_eq_true rfl)⟩) hS (fun u H locs hP hS => ?_)
        have hP : mP G al (ov G al k B c (mOff k (s2 (s2 g 0 10 ((g 0 10) + (it (fun j a => if mShort g j = 0 then a else a + 1) k.1 0))) 0 11 ((g 0 11) + 1)))) H := hP
        have hP : mP G al (ov G al k B c (mLamp k g)) H := m_cv hP (show ov G al k B c (mOff k (s2 (s2 g 0 10 ((g 0 10) + (it (fun j a => if mShort g j = 0 then a else a + 1) k.1 0))) 0 11 ((g 0 11) + 1))) = ov G al k B c (mLamp k g) from (by unfold mLamp mShorts; rw [if_neg hc_2, if_neg hc_3]; try rfl))
        refine W.widen (k := 0) (n := 0) (Nat.le_of_ble_eq_true rfl) (Nat.le_of_ble_eq_true rfl) ?_
        exact W.vret hx hb hr (fun tz htz hW => ⟨⟨(), rfl, trivial, g_end htz hP⟩, hS.F htz⟩) hS.2.2 dX5_shortLamps_77
    · skip
      have hP : mP G al (ov G al k B c (mLamp k g)) H := m_cv hP (show ov G al k B c g = ov G al k B c (mLamp k g) from (by unfold mLamp mShorts; rw [if_pos hc_2]; try rfl))
      refine W.widen (k := 0) (n := 0) (Nat.le_of_ble_eq_true rfl) (Nat.le_of_ble_eq_true rfl) ?_
      exact W.vret hx hb hr (fun tz htz hW => ⟨⟨(), rfl, trivial, g_end htz hP⟩, hS.F htz⟩) hS.2.2 dX5_shortLamps_45
  · skip
    have hlti1 : i1 < k.1 := Nat.lt_of_not_le (fun q => hc_1 (nI_le q (by omega)))
    refine lv_aload_n hx hb dX5_shortLamps_15 rfl (lv_at hl 2 rfl) ?_
    refine m_get (C := RX5) (T := TX5) (N := 15) (ci := 6) (v := .ref (al (B + 3))) hx hb hts uX5 hown hE hP B rfl ov_s rfl 1 (by decide) (hts _ q174) (fun _ h9 => h9) rfl dX5_shortLamps_16 ?_
    refine lv_iload_n hx hb dX5_shortLamps_19 rfl (lv_at hl 0 rfl) ?_
    refine g_aft_r (g_runV (As := [.int (nI i1)]) (rest := []) hx hb hml hown hts (kJx4a65c_get_915e3 l G al (ov G al k B c g) (B + 3) (B + 4) k.1 (fun j => B + 20 + j) i1 (gF_j hF) hlti1) (fcwV 1 hts q188 q56 q57 q50 q43 rfl rfl (by decide +kernel) ⟨(Nat.le_of_ble_eq_true rfl), (Nat.le_of_ble_eq_true rfl)⟩) hE hb0 hP hS (m_recvL hE hP (gF_j hF) rfl) rfl hl.1 rfl (Nat.le_of_ble_eq_true rfl) dX5_shortLamps_20 ⟨(Nat.le_of_ble_eq_true rfl), (Nat.le_of_ble_eq_true rfl)⟩) hS (fun u H locs hP hS => ?_)
    refine g_topr (v := al (B + 20 + i1)) rfl ?_
    refine m_cast hx hb hown (hts _ q196) hE hP (B + 20 + i1) rfl (ov_j hlti1) rfl dX5_shortLamps_23 ?_
    refine g_aft_i (g_runV (As := []) (rest := []) hx hb hml hown hts (kX3_isShorted l G al k h B c g i1 hlti1) (fcwV 0 hts q312 q313 q314 q185 q149 rfl rfl (by decide +kernel) ⟨(Nat.le_of_ble_eq_true rfl), (Nat.le_of_ble_eq_true rfl)⟩) hE hb0 hP hS (m_recvA hE hP (B + 20 + i1) rfl (ov_j hlti1) rfl) rfl hl.1 rfl (Nat.le_of_ble_eq_true rfl) dX5_shortLamps_26 ⟨(Nat.le_of_ble_eq_true rfl), (Nat.le_of_ble_eq_true rfl)⟩) hS (fun u H locs hP hS => ?_)
    have hP : mP G al (ov G al k B c g) H := hP
    refine f_topi (v := mShort g i1) rfl ?_
    refine lv_if_eq (tgt := 35) hx hb dX5_shortLamps_29 (by decide) (fun hc_4 => ?_) (fun hc_4 => ?_)
    · skip
      refine lv_iinc (v := nI (i1 + 1)) (lv' := [(2, .int (nI (i1 + 1))), (1, .int (it (fun j a => if mShort g j = 0 then a else a + 1) i1 0)), (0, .ref (al B))]) hx hb dX5_shortLamps_35 hl (k := 0) rfl (f_inc _) (by decide) rfl (fun ls hl => ?_)
      refine lv_goto (tgt := 4) hx hb dX5_shortLamps_38 (by decide) ?_
      have hl9 := lv_sub (l' := [(2, .int (nI (i1 + 1))), (1, .int (it (fun j a => if mShort g j = 0 then a else a + 1) i1 0)), (0, .ref (al B))]) hl [0, 1, 2] rfl
      rw [show ([(2, .int (nI (i1 + 1))), (1, .int (it (fun j a => if mShort g j = 0 then a else a + 1) i1 0)), (0, .ref (al B))] : List (Nat × Value)) = [(2, .int (nI (i1 + 1))), (1, .int (it (fun j a => if mShort g j = 0 then a else a + 1) (i1 + 1) 0)), (0, .ref (al B))] from (by first | rfl | (simp only [it_s, if_pos hc_4]; done) | (simp only [it_s, if_pos hc_4]; rfl))] at hl9
      exact ihi1 hlti1 _ _ _ hP hS hl9
    · skip
      refine lv_iinc (v := (it (fun j a => if mShort g j = 0 then a else a + 1) i1 0) + 1) (lv' := [(1, .int ((it (fun j a => if mShort g j = 0 then a else a + 1) i1 0) + 1)), (2, .int (nI i1)), (0, .ref (al B))]) hx hb dX5_shortLamps_32 hl (k := 1) rfl rfl (by decide) rfl (fun ls hl => ?_)
      refine lv_iinc (v := nI (i1 + 1)) (lv' := [(2, .int (nI (i1 + 1))), (1, .int ((it (fun j a => if mShort g j = 0 then a else a + 1) i1 0) + 1)), (0, .ref (al B))]) hx hb dX5_shortLamps_35 hl (k := 1) rfl (f_inc _) (by decide) rfl (fun ls hl => ?_)
      refine lv_goto (tgt := 4) hx hb dX5_shortLamps_38 (by decide) ?_
      have hl9 := lv_sub (l' := [(2, .int (nI (i1 + 1))), (1, .int ((it (fun j a => if mShort g j = 0 then a else a + 1) i1 0) + 1)), (0, .ref (al B))]) hl [0, 1, 2] rfl
      rw [show ([(2, .int (nI (i1 + 1))), (1, .int ((it (fun j a => if mShort g j = 0 then a else a + 1) i1 0) + 1)), (0, .ref (al B))] : List (Nat × Value)) = [(2, .int (nI (i1 + 1))), (1, .int (it (fun j a => if mShort g j = 0 then a else a + 1) (i1 + 1) 0)), (0, .ref (al B))] from (by first | rfl | (simp only [it_s, if_neg hc_4]; done) | (simp only [it_s, if_neg hc_4]; rfl))] at hl9
      exact ihi1 hlti1 _ _ _ hP hS hl9
set_option maxHeartbeats 4000000 in
set_option maxRecDepth 100000 in
theorem kX5_shutAll (l : Launch) (G : gT) (al : Nat → Nat) (k : gC) (h : gK) (B : Nat) (c : mC) (g : St) (hF : gF G al k B c) : Met l yX5_shutAll (fW yX5_shutAll cX5_shutAll 2 none) { frames := 4, cells := 0, slots := 0, locals := 85 } (gPre G al (ov G al k B c g) [.ref (al B)]) (gQv (S := Unit) G (fun _ => al) (fun _ => ov G al k B c (mShut k g))) 0 0 (gA G) := by
  refine Met.ofW (cc := cX5_shutAll) (maxL := 2) (ret := none) (by decide) rfl ?_
  intro pz ez s m args below meth c₀ s₁ Bo hml hv
  obtain ⟨rfl, hb0, hP, hE⟩ := hv
  have hx := Bo.exec
  have hb := Bo.bytes
  have hr := Bo.returns
  have hts0 := atoms_spec (ws := (fW yX5_shutAll cX5_shutAll 2 none)) Bo.pre
  have hts : ∀ w ∈ fA, w.before _ s = true := fun w h => hts0 w (List.mem_cons_of_mem _ h)
  have hown : s.vm.findClass RX5 = some m.cls := findClass_of_methodNamed Bo.named
  have hlocks := Bo.notSynchronized
  have hl := lv_entry ([.ref (al B)]) (n := 2) (Nat.le_of_ble_eq_true rfl)
  rw [lg_entry_eq]
  generalize (lg_sl ([.ref (al B)]) ++ List.replicate (2 - (lg_sl ([.ref (al B)])).length) Slot.unset).toArray = ls at hl ⊢
  have hl : lv_has ls 2 [(0, .ref (al B))] := hl
  have hJ := gF_J hF
  refine g_start hP (fun H hP hS => ?_)
  refine lv_iconst (v := 0) hx hb dX5_shutAll_0 (by decide) ?_
  refine lv_istore_n (lv' := [(1, .int 0), (0, .ref (al B))]) hx hb dX5_shutAll_1 rfl hl (by decide) rfl (fun ls hl => ?_)
  refine g_loop (al := al) (N := 2) (nL := 2) (Wi := fun i1 => ov G al k B c (it (fun p g => mSetTo g p 0) i1 g)) (Li := fun i1 => [(1, .int (nI i1)), (0, .ref (al B))]) hP hS (lv_sub hl [0, 1] rfl) (fun i1 hii1 ihi1 H locs ls hP hS hl => ?_)
  have hP : mP G al (ov G al k B c (it (fun p g => mSetTo g p 0) i1 g)) H := hP
  have hl : lv_has ls 2 [(1, .int (nI i1)), (0, .ref (al B))] := hl
  refine lv_iload_n hx hb dX5_shutAll_2 rfl (lv_at hl 0 rfl) ?_
  refine lv_aload_n hx hb dX5_shutAll_3 rfl (lv_at hl 1 rfl) ?_
  refine m_get (C := RX5) (T := TX5) (N := 15) (ci := 6) (v := .ref (al (B + 1))) hx hb hts uX5 hown hE hP B rfl ov_s rfl 0 (by decide) (hts _ q173) (fun _ h9 => h9) rfl dX5_shutAll_4 ?_
  refine g_aft_i (g_runV (As := []) (rest := [.int (nI i1)]) hx hb hml hown hts (kJx4a65c_size_8abf5 l G al (ov G al k B c (it (fun p g => mSetTo g p 0) i1 g)) (B + 1) (B + 2) 2 (fun p => B + 11 + p) (gF_p hF)) (fcwV 0 hts q187 q53 q54 q50 q34 rfl rfl (by decide +kernel) ⟨(Nat.le_of_ble_eq_true rfl), (Nat.le_of_ble_eq_true rfl)⟩) hE hb0 hP hS (m_recvL hE hP (gF_p hF) rfl) rfl hl.1 rfl (Nat.le_of_ble_eq_true rfl) dX5_shutAll_7 ⟨(Nat.le_of_ble_eq_true rfl), (Nat.le_of_ble_eq_true rfl)⟩) hS (fun u H locs hP hS => ?_)
  refine f_topi (v := nI 2) rfl ?_
  refine lv_icmp_ge (tgt := 34) hx hb dX5_shutAll_10 (by decide) (fun hc_1 => ?_) (fun hc_1 => ?_)
  · skip
    have hgei1 : 2 ≤ i1 := (nI_leI (a := 2) (by omega) (by omega)).mp hc_1
    obtain rfl : i1 = 2 := Nat.le_antisymm hii1 hgei1
    have hP : mP G al (ov G al k B c (it (fun p g => mSetTo g p 0) 2 g)) H := hP
    have hl : lv_has ls 2 [(1, .int (nI 2)), (0, .ref (al B))] := hl
    refine lv_iconst (v := 0) hx hb dX5_shutAll_34 (by decide) ?_
    refine lv_istore_n (lv' := [(1, .int 0), (0, .ref (al B))]) hx hb dX5_shutAll_35 rfl hl (by decide) rfl (fun ls hl => ?_)
    refine g_loop (al := al) (N := k.1) (nL := 2) (Wi := fun i2 => ov G al k B c (it (fun j g => s2 g (3 + j) 4 0) i2 (it (fun p g => mSetTo g p 0) 2 g))) (Li := fun i2 => [(1, .int (nI i2)), (0, .ref (al B))]) hP hS (lv_sub hl [0, 1] rfl) (fun i2 hii2 ihi2 H locs ls hP hS hl => ?_)
    have hP : mP G al (ov G al k B c (it (fun j g => s2 g (3 + j) 4 0) i2 (it (fun p g => mSetTo g p 0) 2 g))) H := hP
    have hl : lv_has ls 2 [(1, .int (nI i2)), (0, .ref (al B))] := hl
    refine lv_iload_n hx hb dX5_shutAll_36 rfl (lv_at hl 0 rfl) ?_
    refine lv_aload_n hx hb dX5_shutAll_37 rfl (lv_at hl 1 rfl) ?_
    refine m_get (C := RX5) (T := TX5) (N := 15) (ci := 6) (v := .ref (al (B + 3))) hx hb hts uX5 hown hE hP B rfl ov_s rfl 1 (by decide) (hts _ q174) (fun _ h9 => h9) rfl dX5_shutAll_38 ?_
    refine g_aft_i (g_runV (As := []) (rest := [.int (nI i2)]) hx hb hml hown hts (kJx4a65c_size_8abf5 l G al (ov G al k B c (it (fun j g => s2 g (3 + j) 4 0) i2 (it (fun p g => mSetTo g p 0) 2 g))) (B + 3) (B + 4) k.1 (fun j => B + 20 + j) (gF_j hF)) (fcwV 0 hts q187 q53 q54 q50 q34 rfl rfl (by decide +kernel) ⟨(Nat.le_of_ble_eq_true rfl), (Nat.le_of_ble_eq_true rfl)⟩) hE hb0 hP hS (m_recvL hE hP (gF_j hF) rfl) rfl hl.1 rfl (Nat.le_of_ble_eq_true rfl) dX5_shutAll_41 ⟨(Nat.le_of_ble_eq_true rfl), (Nat.le_of_ble_eq_true rfl)⟩) hS (fun u H locs hP hS => ?_)
    refine f_topi (v := nI k.1) rfl ?_
    refine lv_icmp_ge (tgt := 68) hx hb dX5_shutAll_44 (by decide) (fun hc_2 => ?_) (fun hc_2 => ?_)
    · skip
      have hgei2 : k.1 ≤ i2 := (nI_leI (by omega) (by omega)).mp hc_2
      obtain rfl : i2 = k.1 := Nat.le_antisymm hii2 hgei2
      have hP : mP G al (ov G al k B c (it (fun j g => s2 g (3 + j) 4 0) k.1 (it (fun p g => mSetTo g p 0) 2 g))) H := hP
      have hl : lv_has ls 2 [(1, .int (nI k.1)), (0, .ref (al B))] := hl
      refine lv_aload_n hx hb dX5_shutAll_68 rfl (lv_at hl 1 rfl) ?_
      refine g_aft_v (g_runV (As := []) (rest := []) hx hb hml hown hts (kX5_lampsOff l G al k h B c (it (fun j g => s2 g (3 + j) 4 0) k.1 (it (fun p g => mSetTo g p 0) 2 g)) hF) (fcwV 0 hts q315 q316 q317 q211 q308 rfl rfl (by decide +kernel) ⟨(Nat.le_of_ble_eq_true rfl), (Nat.le_of_ble_eq_true rfl)⟩) hE hb0 hP hS (m_recvA hE hP B rfl ov_s rfl) rfl hl.1 rfl (Nat.le_of_ble_eq_true rfl) dX5_shutAll_69 ⟨(Nat.le_of_ble_eq_true rfl), (Nat.le_of_ble_eq_true rfl)⟩) hS (fun u H locs hP hS => ?_)
      have hP : mP G al (ov G al k B c (mOff k (it (fun j g => s2 g (3 + j) 4 0) k.1 (it (fun p g => mSetTo g p 0) 2 g)))) H := hP
      have hP : mP G al (ov G al k B c (mShut k g)) H := m_cv hP (show ov G al k B c (mOff k (it (fun j g => s2 g (3 + j) 4 0) k.1 (it (fun p g => mSetTo g p 0) 2 g))) = ov G al k B c (mShut k g) from (by unfold mShut; rfl))
      refine W.widen (k := 0) (n := 0) (Nat.le_of_ble_eq_true rfl) (Nat.le_of_ble_eq_true rfl) ?_
      exact W.vret hx hb hr (fun tz htz hW => ⟨⟨(), rfl, trivial, g_end htz hP⟩, hS.F htz⟩) hS.2.2 dX5_shutAll_72
    · skip
      have hlti2 : i2 < k.1 := Nat.lt_of_not_le (fun q => hc_2 (nI_le q (by omega)))
      refine lv_aload_n hx hb dX5_shutAll_47 rfl (lv_at hl 1 rfl) ?_
      refine m_get (C := RX5) (T := TX5) (N := 15) (ci := 6) (v := .ref (al (B + 3))) hx hb hts uX5 hown hE hP B rfl ov_s rfl 1 (by decide) (hts _ q174) (fun _ h9 => h9) rfl dX5_shutAll_48 ?_
      refine lv_iload_n hx hb dX5_shutAll_51 rfl (lv_at hl 0 rfl) ?_
      refine g_aft_r (g_runV (As := [.int (nI i2)]) (rest := []) hx hb hml hown hts (kJx4a65c_get_915e3 l G al (ov G al k B c (it (fun j g => s2 g (3 + j) 4 0) i2 (it (fun p g => mSetTo g p 0) 2 g))) (B + 3) (B + 4) k.1 (fun j => B + 20 + j) i2 (gF_j hF) hlti2) (fcwV 1 hts q188 q56 q57 q50 q43 rfl rfl (by decide +kernel) ⟨(Nat.le_of_ble_eq_true rfl), (Nat.le_of_ble_eq_true rfl)⟩) hE hb0 hP hS (m_recvL hE hP (gF_j hF) rfl) rfl hl.1 rfl (Nat.le_of_ble_eq_true rfl) dX5_shutAll_52 ⟨(Nat.le_of_ble_eq_true rfl), (Nat.le_of_ble_eq_true rfl)⟩) hS (fun u H locs hP hS => ?_)
      refine g_topr (v := al (B + 20 + i2)) rfl ?_
      refine m_cast hx hb hown (hts _ q196) hE hP (B + 20 + i2) rfl (ov_j hlti2) rfl dX5_shutAll_55 ?_
      refine lv_iconst (v := 0) hx hb dX5_shutAll_58 (by decide) ?_
      refine m_put (v := .int 0) (ty := .int) (C := RX3) (T := TX3) (N := 10) (ci := 4) hx hb hts uX3 tyX3 tyX3_ok nmX3 hown hE hP hS (B + 20 + i2) rfl (ov_j hlti2) rfl 4 (by decide) (hts _ q341) (fun _ h9 => h9) rfl (by decide +kernel) rfl rfl (Nat.le_of_ble_eq_true rfl) dX5_shutAll_59 (fun H locs hP hS => ?_)
      have hP := m_cv hP (ov_uj (r := upd ((it (fun j g => s2 g (3 + j) 4 0) i2 (it (fun p g => mSetTo g p 0) 2 g)) (3 + i2)) 4 0) hlti2 hJ rfl)
      have hP : mP G al (ov G al k B c (s2 (it (fun j g => s2 g (3 + j) 4 0) i2 (it (fun p g => mSetTo g p 0) 2 g)) (3 + i2) 4 0)) H := hP
      refine lv_iinc (v := nI (i2 + 1)) (lv' := [(1, .int (nI (i2 + 1))), (0, .ref (al B))]) hx hb dX5_shutAll_62 hl (k := 0) rfl (f_inc _) (by decide) rfl (fun ls hl => ?_)
      refine lv_goto (tgt := 36) hx hb dX5_shutAll_65 (by decide) ?_
      exact ihi2 hlti2 _ _ _ (m_cv hP (show ov G al k B c (s2 (it (fun j g => s2 g (3 + j) 4 0) i2 (it (fun p g => mSetTo g p 0) 2 g)) (3 + i2) 4 0) = ov G al k B c (it (fun j g => s2 g (3 + j) 4 0) (i2 + 1) (it (fun p g => mSetTo g p 0) 2 g)) from (by first | rfl | (simp only [it_s]; done) | (simp only [it_s]; rfl)))) hS (lv_sub hl [0, 1] rfl)
  · skip
    have hlti1 : i1 < 2 := Nat.lt_of_not_le (fun q => hc_1 (nI_le (a := 2) q (by omega)))
    refine lv_aload_n hx hb dX5_shutAll_13 rfl (lv_at hl 1 rfl) ?_
    refine m_get (C := RX5) (T := TX5) (N := 15) (ci := 6) (v := .ref (al (B + 1))) hx hb hts uX5 hown hE hP B rfl ov_s rfl 0 (by decide) (hts _ q173) (fun _ h9 => h9) rfl dX5_shutAll_14 ?_
    refine lv_iload_n hx hb dX5_shutAll_17 rfl (lv_at hl 0 rfl) ?_
    refine g_aft_r (g_runV (As := [.int (nI i1)]) (rest := []) hx hb hml hown hts (kJx4a65c_get_915e3 l G al (ov G al k B c (it (fun p g => mSetTo g p 0) i1 g)) (B + 1) (B + 2) 2 (fun p => B + 11 + p) i1 (gF_p hF) hlti1) (fcwV 1 hts q188 q56 q57 q50 q43 rfl rfl (by decide +kernel) ⟨(Nat.le_of_ble_eq_true rfl), (Nat.le_of_ble_eq_true rfl)⟩) hE hb0 hP hS (m_recvL hE hP (gF_p hF) rfl) rfl hl.1 rfl (Nat.le_of_ble_eq_true rfl) dX5_shutAll_18 ⟨(Nat.le_of_ble_eq_true rfl), (Nat.le_of_ble_eq_true rfl)⟩) hS (fun u H locs hP hS => ?_)
    refine g_topr (v := al (B + 11 + i1)) rfl ?_
    refine m_cast hx hb hown (hts _ q186) hE hP (B + 11 + i1) rfl (ov_p hlti1) rfl dX5_shutAll_21 ?_
    refine lv_iconst (v := 0) hx hb dX5_shutAll_24 (by decide) ?_
    refine g_aft_v (g_runV (As := [.int 0]) (rest := []) hx hb hml hown hts (kX4_setTo l G al k h B c (it (fun p g => mSetTo g p 0) i1 g) i1 0 hlti1) (fcwV 1 hts q193 q157 q158 q159 q152 rfl rfl (by decide +kernel) ⟨(Nat.le_of_ble_eq_true rfl), (Nat.le_of_ble_eq_true rfl)⟩) hE hb0 hP hS (m_recvA hE hP (B + 11 + i1) rfl (ov_p hlti1) rfl) rfl hl.1 rfl (Nat.le_of_ble_eq_true rfl) dX5_shutAll_25 ⟨(Nat.le_of_ble_eq_true rfl), (Nat.le_of_ble_eq_true rfl)⟩) hS (fun u H locs hP hS => ?_)
    have hP : mP G al (ov G al k B c (mSetTo (it (fun p g => mSetTo g p 0) i1 g) i1 0)) H := hP
    refine lv_iinc (v := nI (i1 + 1)) (lv' := [(1, .int (nI (i1 + 1))), (0, .ref (al B))]) hx hb dX5_shutAll_28 hl (k := 0) rfl (f_inc _) (by decide) rfl (fun ls hl => ?_)
    refine lv_goto (tgt := 2) hx hb dX5_shutAll_31 (by decide) ?_
    exact ihi1 hlti1 _ _ _ (m_cv hP (show ov G al k B c (mSetTo (it (fun p g => mSetTo g p 0) i1 g) i1 0) = ov G al k B c (it (fun p g => mSetTo g p 0) (i1 + 1) g) from (by first | rfl | (simp only [it_s]; done) | (simp only [it_s]; rfl)))) hS (lv_sub hl [0, 1] rfl)
set_option maxHeartbeats 4000000 in
set_option maxRecDepth 100000 in
theorem kX6_names (l : Launch) (G : gT) (al : Nat → Nat) (k : gC) (h : gK) (B : Nat) (c : mC) (g : St) (q : Nat) (j : Nat) (hF : gF G al k B c) (hH : gH G al B h c) (hB : B = 100 ∨ B = 200) (hq : q < 6) : Met l yX6_names (fW yX6_names cX6_names 2 (some .boolean)) { frames := 0, cells := 0, slots := 0, locals := 0 } (gPre G al (ov G al k B c g) [.ref (al (20 + q)), .int (nI j)]) (gQi (S := Unit) G (fun _ => mNames h q j) (fun _ => al) (fun _ => ov G al k B c g)) 0 0 (gA G) := by
  refine Met.ofW (cc := cX6_names) (maxL := 2) (ret := (some .boolean)) (by decide) rfl ?_
  intro pz ez s m args below meth c₀ s₁ Bo hml hv
  obtain ⟨rfl, hb0, hP, hE⟩ := hv
  have hx := Bo.exec
  have hb := Bo.bytes
  have hr := Bo.returns
  have hts0 := atoms_spec (ws := (fW yX6_names cX6_names 2 (some .boolean))) Bo.pre
  have hts : ∀ w ∈ fA, w.before _ s = true := fun w h => hts0 w (List.mem_cons_of_mem _ h)
  have hown : s.vm.findClass RX6 = some m.cls := findClass_of_methodNamed Bo.named
  have hlocks := Bo.notSynchronized
  have hl := lv_entry ([.ref (al (20 + q)), .int (nI j)]) (n := 2) (Nat.le_of_ble_eq_true rfl)
  rw [lg_entry_eq]
  generalize (lg_sl ([.ref (al (20 + q)), .int (nI j)]) ++ List.replicate (2 - (lg_sl ([.ref (al (20 + q)), .int (nI j)])).length) Slot.unset).toArray = ls at hl ⊢
  have hl : lv_has ls 2 [(0, .ref (al (20 + q))), (1, .int (nI j))] := hl
  have hJ := gF_J hF
  refine g_start hP (fun H hP hS => ?_)
  refine lv_aload_n hx hb dX6_names_0 rfl (lv_at hl 0 rfl) ?_
  refine m_get (C := RX6) (T := TX6) (N := 3) (ci := 7) (v := .int (h.2.2.2.2 q 1)) hx hb hts uX6 hown hE hP (20 + q) rfl ((gH_ov hH hB hJ).2.2.2 q hq) rfl 1 (by decide) (hts _ q219) (fun _ h9 => h9) rfl dX6_names_1 ?_
  refine lv_iload_n hx hb dX6_names_4 rfl (lv_at hl 1 rfl) ?_
  refine lv_ishr hx hb dX6_names_5 ?_
  refine lv_iconst (v := 1) hx hb dX6_names_6 (by decide) ?_
  refine lv_iand hx hb dX6_names_7 ?_
  refine lv_iconst (v := 1) hx hb dX6_names_8 (by decide) ?_
  refine lv_icmp_ne (tgt := 16) hx hb dX6_names_9 (by decide) (fun hc_1 => ?_) (fun hc_1 => ?_)
  · skip
    refine lv_iconst (v := 0) hx hb dX6_names_16 (by decide) ?_
    refine W.widen (k := 0) (n := 0) (Nat.le_of_ble_eq_true rfl) (Nat.le_of_ble_eq_true rfl) ?_
    exact W.zret (v := 0) hx hb hr (by decide) (fun tz htz hW => ⟨⟨0, (), rfl, (by unfold mNames; rw [if_neg hc_1]; try rfl), g_end htz hP⟩, hS.F htz⟩) hS.2.2 dX6_names_17
  · skip
    refine lv_iconst (v := 1) hx hb dX6_names_12 (by decide) ?_
    refine lv_goto (tgt := 17) hx hb dX6_names_13 (by decide) ?_
    refine W.widen (k := 0) (n := 0) (Nat.le_of_ble_eq_true rfl) (Nat.le_of_ble_eq_true rfl) ?_
    exact W.zret (v := 1) hx hb hr (by decide) (fun tz htz hW => ⟨⟨1, (), rfl, (by unfold mNames; rw [if_pos hc_1]; try rfl), g_end htz hP⟩, hS.F htz⟩) hS.2.2 dX6_names_17
set_option maxHeartbeats 4000000 in
set_option maxRecDepth 100000 in
theorem kX1_dueOf (l : Launch) (G : gT) (al : Nat → Nat) (k : gC) (h : gK) (B : Nat) (c : mC) (g : St) (i : Nat) (q : Nat) (hF : gF G al k B c) (hH : gH G al B h c) (hB : B = 100 ∨ B = 200) (hi : i < h.1) (hq : q < 6) : Met l yX1_dueOf (fW yX1_dueOf cX1_dueOf 2 (some .int)) { frames := 0, cells := 0, slots := 0, locals := 0 } (gPre G al (ov G al k B c g) [.ref (al (300 + 3 * i)), .ref (al (20 + q))]) (gQi (S := Unit) G (fun _ => mDue h i q) (fun _ => al) (fun _ => ov G al k B c g)) 0 0 (gA G) := by
  refine Met.ofW (cc := cX1_dueOf) (maxL := 2) (ret := (some .int)) (by decide) rfl ?_
  intro pz ez s m args below meth c₀ s₁ Bo hml hv
  obtain ⟨rfl, hb0, hP, hE⟩ := hv
  have hx := Bo.exec
  have hb := Bo.bytes
  have hr := Bo.returns
  have hts0 := atoms_spec (ws := (fW yX1_dueOf cX1_dueOf 2 (some .int))) Bo.pre
  have hts : ∀ w ∈ fA, w.before _ s = true := fun w h => hts0 w (List.mem_cons_of_mem _ h)
  have hown : s.vm.findClass RX1 = some m.cls := findClass_of_methodNamed Bo.named
  have hlocks := Bo.notSynchronized
  have hl := lv_entry ([.ref (al (300 + 3 * i)), .ref (al (20 + q))]) (n := 2) (Nat.le_of_ble_eq_true rfl)
  rw [lg_entry_eq]
  generalize (lg_sl ([.ref (al (300 + 3 * i)), .ref (al (20 + q))]) ++ List.replicate (2 - (lg_sl ([.ref (al (300 + 3 * i)), .ref (al (20 + q))])).length) Slot.unset).toArray = ls at hl ⊢
  have hl : lv_has ls 2 [(0, .ref (al (300 + 3 * i))), (1, .ref (al (20 + q)))] := hl
  have hJ := gF_J hF
  refine g_start hP (fun H hP hS => ?_)
  refine lv_aload_n hx hb dX1_dueOf_0 rfl (lv_at hl 0 rfl) ?_
  refine m_get (C := RX1) (T := TX1) (N := 3) (ci := 2) (v := .int (h.2.2.2.1 i)) hx hb hts uX1 hown hE hP (300 + 3 * i) rfl ((gH_ov hH hB hJ).2.2.1 i hi).2.2.1 rfl 2 (by decide) (hts _ q31) (fun _ h9 => h9) rfl dX1_dueOf_1 ?_
  refine lv_aload_n hx hb dX1_dueOf_4 rfl (lv_at hl 1 rfl) ?_
  refine m_get (C := RX6) (T := TX6) (N := 3) (ci := 7) (v := .int (h.2.2.2.2 q 0)) hx hb hts uX6 hown hE hP (20 + q) rfl ((gH_ov hH hB hJ).2.2.2 q hq) rfl 0 (by decide) (hts _ q33) (fun _ h9 => h9) rfl dX1_dueOf_5 ?_
  refine lv_iadd hx hb dX1_dueOf_8 ?_
  refine lv_iconst (v := 1) hx hb dX1_dueOf_9 (by decide) ?_
  refine lv_iadd hx hb dX1_dueOf_10 ?_
  refine W.widen (k := 0) (n := 0) (Nat.le_of_ble_eq_true rfl) (Nat.le_of_ble_eq_true rfl) ?_
  exact W.iret (v := ((h.2.2.2.1 i) + (h.2.2.2.2 q 0)) + 1) hx hb hr (fun tz htz hW => ⟨⟨((h.2.2.2.1 i) + (h.2.2.2.2 q 0)) + 1, (), rfl, (by unfold mDue; rfl), g_end htz hP⟩, hS.F htz⟩) hS.2.2 dX1_dueOf_11
set_option maxHeartbeats 4000000 in
set_option maxRecDepth 100000 in
theorem kX1_stepsDueAfter (l : Launch) (G : gT) (al : Nat → Nat) (k : gC) (h : gK) (B : Nat) (c : mC) (g : St) (i : Nat) (v : Int32) (hF : gF G al k B c) (hH : gH G al B h c) (hB : B = 100 ∨ B = 200) (hi : i < h.1) : Met l yX1_stepsDueAfter (fW yX1_stepsDueAfter cX1_stepsDueAfter 4 (some .int)) { frames := 3, cells := 0, slots := 0, locals := 64 } (gPre G al (ov G al k B c g) [.ref (al (300 + 3 * i)), .int v]) (gQi (S := Unit) G (fun _ => mOpen h i v) (fun _ => al) (fun _ => ov G al k B c g)) 0 0 (gA G) := by
  refine Met.ofW (cc := cX1_stepsDueAfter) (maxL := 4) (ret := (some .int)) (by decide) rfl ?_
  intro pz ez s m args below meth c₀ s₁ Bo hml hv
  obtain ⟨rfl, hb0, hP, hE⟩ := hv
  have hx := Bo.exec
  have hb := Bo.bytes
  have hr := Bo.returns
  have hts0 := atoms_spec (ws := (fW yX1_stepsDueAfter cX1_stepsDueAfter 4 (some .int))) Bo.pre
  have hts : ∀ w ∈ fA, w.before _ s = true := fun w h => hts0 w (List.mem_cons_of_mem _ h)
  have hown : s.vm.findClass RX1 = some m.cls := findClass_of_methodNamed Bo.named
  have hlocks := Bo.notSynchronized
  have hl := lv_entry ([.ref (al (300 + 3 * i)), .int v]) (n := 4) (Nat.le_of_ble_eq_true rfl)
  rw [lg_entry_eq]
  generalize (lg_sl ([.ref (al (300 + 3 * i)), .int v]) ++ List.replicate (4 - (lg_sl ([.ref (al (300 + 3 * i)), .int v])).length) Slot.unset).toArray = ls at hl ⊢
  have hl : lv_has ls 4 [(0, .ref (al (300 + 3 * i))), (1, .int v)] := hl
  have hJ := gF_J hF
  refine g_start hP (fun H hP hS => ?_)
  refine lv_iconst (v := 0) hx hb dX1_stepsDueAfter_0 (by decide) ?_
  refine lv_istore_n (lv' := [(2, .int 0), (0, .ref (al (300 + 3 * i))), (1, .int v)]) hx hb dX1_stepsDueAfter_1 rfl hl (by decide) rfl (fun ls hl => ?_)
  refine lv_iconst (v := 0) hx hb dX1_stepsDueAfter_2 (by decide) ?_
  refine lv_istore_n (lv' := [(3, .int 0), (2, .int 0), (0, .ref (al (300 + 3 * i))), (1, .int v)]) hx hb dX1_stepsDueAfter_3 rfl hl (by decide) rfl (fun ls hl => ?_)
  refine g_loop (al := al) (N := 3) (nL := 4) (Wi := fun i1 => ov G al k B c g) (Li := fun i1 => [(3, .int (nI i1)), (2, .int (it (fun s a => if mDue h i (3 * h.2.1 i + s) ≤ v then a else a + 1) i1 0)), (1, .int v), (0, .ref (al (300 + 3 * i)))]) hP hS (lv_sub hl [0, 1, 3, 2] rfl) (fun i1 hii1 ihi1 H locs ls hP hS hl => ?_)
  have hP : mP G al (ov G al k B c g) H := hP
  have hl : lv_has ls 4 [(3, .int (nI i1)), (2, .int (it (fun s a => if mDue h i (3 * h.2.1 i + s) ≤ v then a else a + 1) i1 0)), (1, .int v), (0, .ref (al (300 + 3 * i)))] := hl
  refine lv_iload_n hx hb dX1_stepsDueAfter_4 rfl (lv_at hl 0 rfl) ?_
  refine lv_aload_n hx hb dX1_stepsDueAfter_5 rfl (lv_at hl 3 rfl) ?_
  refine m_get (C := RX1) (T := TX1) (N := 3) (ci := 2) (v := .ref (al (300 + 3 * i + 1))) hx hb hts uX1 hown hE hP (300 + 3 * i) rfl ((gH_ov hH hB hJ).2.2.1 i hi).2.2.1 rfl 0 (by decide) (hts _ q29) (fun _ h9 => h9) rfl dX1_stepsDueAfter_6 ?_
  refine g_aft_i (g_runV (As := []) (rest := [.int (nI i1)]) hx hb hml hown hts (kJx4a65c_size_8abf5 l G al (ov G al k B c g) (300 + 3 * i + 1) (300 + 3 * i + 2) 3 (fun s => 20 + (3 * h.2.1 i + s)) ((gH_ov hH hB hJ).2.2.1 i hi).2.2.2) (fcwV 0 hts q52 q53 q54 q50 q34 rfl rfl (by decide +kernel) ⟨(Nat.le_of_ble_eq_true rfl), (Nat.le_of_ble_eq_true rfl)⟩) hE hb0 hP hS (m_recvL hE hP ((gH_ov hH hB hJ).2.2.1 i hi).2.2.2 rfl) rfl hl.1 rfl (Nat.le_of_ble_eq_true rfl) dX1_stepsDueAfter_9 ⟨(Nat.le_of_ble_eq_true rfl), (Nat.le_of_ble_eq_true rfl)⟩) hS (fun u H locs hP hS => ?_)
  refine f_topi (v := nI 3) rfl ?_
  refine lv_icmp_ge (tgt := 43) hx hb dX1_stepsDueAfter_12 (by decide) (fun hc_1 => ?_) (fun hc_1 => ?_)
  · skip
    have hgei1 : 3 ≤ i1 := (nI_leI (a := 3) (by omega) (by omega)).mp hc_1
    obtain rfl : i1 = 3 := Nat.le_antisymm hii1 hgei1
    have hP : mP G al (ov G al k B c g) H := hP
    have hl : lv_has ls 4 [(3, .int (nI 3)), (2, .int (it (fun s a => if mDue h i (3 * h.2.1 i + s) ≤ v then a else a + 1) 3 0)), (1, .int v), (0, .ref (al (300 + 3 * i)))] := hl
    refine lv_iload_n hx hb dX1_stepsDueAfter_43 rfl (lv_at hl 1 rfl) ?_
    refine W.widen (k := 0) (n := 0) (Nat.le_of_ble_eq_true rfl) (Nat.le_of_ble_eq_true rfl) ?_
    exact W.iret (v := it (fun s a => if mDue h i (3 * h.2.1 i + s) ≤ v then a else a + 1) 3 0) hx hb hr (fun tz htz hW => ⟨⟨it (fun s a => if mDue h i (3 * h.2.1 i + s) ≤ v then a else a + 1) 3 0, (), rfl, (by unfold mOpen; rfl), g_end htz hP⟩, hS.F htz⟩) hS.2.2 dX1_stepsDueAfter_44
  · skip
    have hlti1 : i1 < 3 := Nat.lt_of_not_le (fun q => hc_1 (nI_le (a := 3) q (by omega)))
    have hq3 : 3 * h.2.1 i + i1 < 6 := by have := (hH.2.2.1 i hi).1; omega
    refine lv_aload_n hx hb dX1_stepsDueAfter_15 rfl (lv_at hl 3 rfl) ?_
    refine lv_aload_n hx hb dX1_stepsDueAfter_16 rfl (lv_at hl 3 rfl) ?_
    refine m_get (C := RX1) (T := TX1) (N := 3) (ci := 2) (v := .ref (al (300 + 3 * i + 1))) hx hb hts uX1 hown hE hP (300 + 3 * i) rfl ((gH_ov hH hB hJ).2.2.1 i hi).2.2.1 rfl 0 (by decide) (hts _ q29) (fun _ h9 => h9) rfl dX1_stepsDueAfter_17 ?_
    refine lv_iload_n hx hb dX1_stepsDueAfter_20 rfl (lv_at hl 0 rfl) ?_
    refine g_aft_r (g_runV (As := [.int (nI i1)]) (rest := [.ref (al (300 + 3 * i))]) hx hb hml hown hts (kJx4a65c_get_915e3 l G al (ov G al k B c g) (300 + 3 * i + 1) (300 + 3 * i + 2) 3 (fun s => 20 + (3 * h.2.1 i + s)) i1 ((gH_ov hH hB hJ).2.2.1 i hi).2.2.2 hlti1) (fcwV 1 hts q55 q56 q57 q50 q43 rfl rfl (by decide +kernel) ⟨(Nat.le_of_ble_eq_true rfl), (Nat.le_of_ble_eq_true rfl)⟩) hE hb0 hP hS (m_recvL hE hP ((gH_ov hH hB hJ).2.2.1 i hi).2.2.2 rfl) rfl hl.1 rfl (Nat.le_of_ble_eq_true rfl) dX1_stepsDueAfter_21 ⟨(Nat.le_of_ble_eq_true rfl), (Nat.le_of_ble_eq_true rfl)⟩) hS (fun u H locs hP hS => ?_)
    refine g_topr (v := al (20 + (3 * h.2.1 i + i1))) rfl ?_
    refine m_cast hx hb hown (hts _ q51) hE hP (20 + (3 * h.2.1 i + i1)) rfl ((gH_ov hH hB hJ).2.2.2 (3 * h.2.1 i + i1) hq3) rfl dX1_stepsDueAfter_24 ?_
    refine g_aft_i (g_runV (As := [.ref (al (20 + (3 * h.2.1 i + i1)))]) (rest := []) hx hb hml hown hts (kX1_dueOf l G al k h B c g i (3 * h.2.1 i + i1) hF hH hB hi hq3) (fcwV 1 hts q58 q59 q60 q61 q32 rfl rfl (by decide +kernel) ⟨(Nat.le_of_ble_eq_true rfl), (Nat.le_of_ble_eq_true rfl)⟩) hE hb0 hP hS (m_recvA hE hP (300 + 3 * i) rfl ((gH_ov hH hB hJ).2.2.1 i hi).2.2.1 rfl) rfl hl.1 rfl (Nat.le_of_ble_eq_true rfl) dX1_stepsDueAfter_27 ⟨(Nat.le_of_ble_eq_true rfl), (Nat.le_of_ble_eq_true rfl)⟩) hS (fun u H locs hP hS => ?_)
    have hP : mP G al (ov G al k B c g) H := hP
    refine f_topi (v := mDue h i (3 * h.2.1 i + i1)) rfl ?_
    refine lv_iload_n hx hb dX1_stepsDueAfter_30 rfl (lv_at hl 2 rfl) ?_
    refine lv_icmp_le (tgt := 37) hx hb dX1_stepsDueAfter_31 (by decide) (fun hc_2 => ?_) (fun hc_2 => ?_)
    · skip
      refine lv_iinc (v := nI (i1 + 1)) (lv' := [(3, .int (nI (i1 + 1))), (2, .int (it (fun s a => if mDue h i (3 * h.2.1 i + s) ≤ v then a else a + 1) i1 0)), (1, .int v), (0, .ref (al (300 + 3 * i)))]) hx hb dX1_stepsDueAfter_37 hl (k := 0) rfl (f_inc _) (by decide) rfl (fun ls hl => ?_)
      refine lv_goto (tgt := 4) hx hb dX1_stepsDueAfter_40 (by decide) ?_
      have hl9 := lv_sub (l' := [(3, .int (nI (i1 + 1))), (2, .int (it (fun s a => if mDue h i (3 * h.2.1 i + s) ≤ v then a else a + 1) i1 0)), (1, .int v), (0, .ref (al (300 + 3 * i)))]) hl [0, 1, 2, 3] rfl
      rw [show ([(3, .int (nI (i1 + 1))), (2, .int (it (fun s a => if mDue h i (3 * h.2.1 i + s) ≤ v then a else a + 1) i1 0)), (1, .int v), (0, .ref (al (300 + 3 * i)))] : List (Nat × Value)) = [(3, .int (nI (i1 + 1))), (2, .int (it (fun s a => if mDue h i (3 * h.2.1 i + s) ≤ v then a else a + 1) (i1 + 1) 0)), (1, .int v), (0, .ref (al (300 + 3 * i)))] from (by first | rfl | (simp only [it_s, if_pos hc_2]; done) | (simp only [it_s, if_pos hc_2]; rfl))] at hl9
      exact ihi1 hlti1 _ _ _ hP hS hl9
    · skip
      refine lv_iinc (v := (it (fun s a => if mDue h i (3 * h.2.1 i + s) ≤ v then a else a + 1) i1 0) + 1) (lv' := [(2, .int ((it (fun s a => if mDue h i (3 * h.2.1 i + s) ≤ v then a else a + 1) i1 0) + 1)), (3, .int (nI i1)), (1, .int v), (0, .ref (al (300 + 3 * i)))]) hx hb dX1_stepsDueAfter_34 hl (k := 1) rfl rfl (by decide) rfl (fun ls hl => ?_)
      refine lv_iinc (v := nI (i1 + 1)) (lv' := [(3, .int (nI (i1 + 1))), (2, .int ((it (fun s a => if mDue h i (3 * h.2.1 i + s) ≤ v then a else a + 1) i1 0) + 1)), (1, .int v), (0, .ref (al (300 + 3 * i)))]) hx hb dX1_stepsDueAfter_37 hl (k := 1) rfl (f_inc _) (by decide) rfl (fun ls hl => ?_)
      refine lv_goto (tgt := 4) hx hb dX1_stepsDueAfter_40 (by decide) ?_
      have hl9 := lv_sub (l' := [(3, .int (nI (i1 + 1))), (2, .int ((it (fun s a => if mDue h i (3 * h.2.1 i + s) ≤ v then a else a + 1) i1 0) + 1)), (1, .int v), (0, .ref (al (300 + 3 * i)))]) hl [0, 1, 2, 3] rfl
      rw [show ([(3, .int (nI (i1 + 1))), (2, .int ((it (fun s a => if mDue h i (3 * h.2.1 i + s) ≤ v then a else a + 1) i1 0) + 1)), (1, .int v), (0, .ref (al (300 + 3 * i)))] : List (Nat × Value)) = [(3, .int (nI (i1 + 1))), (2, .int (it (fun s a => if mDue h i (3 * h.2.1 i + s) ≤ v then a else a + 1) (i1 + 1) 0)), (1, .int v), (0, .ref (al (300 + 3 * i)))] from (by first | rfl | (simp only [it_s, if_neg hc_2]; done) | (simp only [it_s, if_neg hc_2]; rfl))] at hl9
      exact ihi1 hlti1 _ _ _ hP hS hl9
set_option maxHeartbeats 4000000 in
set_option maxRecDepth 100000 in
theorem kX5_doStep (l : Launch) (G : gT) (al : Nat → Nat) (k : gC) (h : gK) (B : Nat) (c : mC) (g : St) (q : Nat) (sx : Nat) (hF : gF G al k B c) (hH : gH G al B h c) (hB : B = 100 ∨ B = 200) (hq : q < 6) (hsx : sx < 10) : Met l yX5_doStep (fW yX5_doStep cX5_doStep 5 none) { frames := 3, cells := 0, slots := 0, locals := 64 } (gPre G al (ov G al k B c g) [.ref (al B), .ref (al (20 + q)), .int (nI sx)]) (gQv (S := Unit) G (fun _ => al) (fun _ => ov G al k B c (mStep k h q sx g))) 0 0 (gA G) := by
  refine Met.ofW (cc := cX5_doStep) (maxL := 5) (ret := none) (by decide) rfl ?_
  intro pz ez s m args below meth c₀ s₁ Bo hml hv
  obtain ⟨rfl, hb0, hP, hE⟩ := hv
  have hx := Bo.exec
  have hb := Bo.bytes
  have hr := Bo.returns
  have hts0 := atoms_spec (ws := (fW yX5_doStep cX5_doStep 5 none)) Bo.pre
  have hts : ∀ w ∈ fA, w.before _ s = true := fun w h => hts0 w (List.mem_cons_of_mem _ h)
  have hown : s.vm.findClass RX5 = some m.cls := findClass_of_methodNamed Bo.named
  have hlocks := Bo.notSynchronized
  have hl := lv_entry ([.ref (al B), .ref (al (20 + q)), .int (nI sx)]) (n := 5) (Nat.le_of_ble_eq_true rfl)
  rw [lg_entry_eq]
  generalize (lg_sl ([.ref (al B), .ref (al (20 + q)), .int (nI sx)]) ++ List.replicate (5 - (lg_sl ([.ref (al B), .ref (al (20 + q)), .int (nI sx)])).length) Slot.unset).toArray = ls at hl ⊢
  have hl : lv_has ls 5 [(0, .ref (al B)), (1, .ref (al (20 + q))), (2, .int (nI sx))] := hl
  have hJ := gF_J hF
  refine g_start hP (fun H hP hS => ?_)
  refine lv_aload_n hx hb dX5_doStep_0 rfl (lv_at hl 0 rfl) ?_
  refine m_get (C := RX5) (T := TX5) (N := 15) (ci := 6) (v := .ref (al (B + 3))) hx hb hts uX5 hown hE hP B rfl ov_s rfl 1 (by decide) (hts _ q174) (fun _ h9 => h9) rfl dX5_doStep_1 ?_
  refine g_aft_i (g_runV (As := []) (rest := []) hx hb hml hown hts (kJx4a65c_size_8abf5 l G al (ov G al k B c g) (B + 3) (B + 4) k.1 (fun j => B + 20 + j) (gF_j hF)) (fcwV 0 hts q187 q53 q54 q50 q34 rfl rfl (by decide +kernel) ⟨(Nat.le_of_ble_eq_true rfl), (Nat.le_of_ble_eq_true rfl)⟩) hE hb0 hP hS (m_recvL hE hP (gF_j hF) rfl) rfl hl.1 rfl (Nat.le_of_ble_eq_true rfl) dX5_doStep_4 ⟨(Nat.le_of_ble_eq_true rfl), (Nat.le_of_ble_eq_true rfl)⟩) hS (fun u H locs hP hS => ?_)
  refine f_topi (v := nI k.1) rfl ?_
  refine lv_istore_n (lv' := [(3, .int (nI k.1)), (0, .ref (al B)), (1, .ref (al (20 + q))), (2, .int (nI sx))]) hx hb dX5_doStep_7 rfl hl (by decide) rfl (fun ls hl => ?_)
  refine lv_iconst (v := 0) hx hb dX5_doStep_8 (by decide) ?_
  refine lv_istore (lv' := [(4, .int 0), (3, .int (nI k.1)), (0, .ref (al B)), (1, .ref (al (20 + q))), (2, .int (nI sx))]) hx hb dX5_doStep_9 hl (by decide) rfl (fun ls hl => ?_)
  refine g_loop (al := al) (N := k.1) (nL := 5) (Wi := fun i1 => ov G al k B c (it (mStep1 k h q sx) i1 g)) (Li := fun i1 => [(4, .int (nI i1)), (3, .int (nI k.1)), (2, .int (nI sx)), (1, .ref (al (20 + q))), (0, .ref (al B))]) hP hS (lv_sub hl [0, 1, 4, 3, 2] rfl) (fun i1 hii1 ihi1 H locs ls hP hS hl => ?_)
  have hP : mP G al (ov G al k B c (it (mStep1 k h q sx) i1 g)) H := hP
  have hl : lv_has ls 5 [(4, .int (nI i1)), (3, .int (nI k.1)), (2, .int (nI sx)), (1, .ref (al (20 + q))), (0, .ref (al B))] := hl
  refine lv_iload hx hb dX5_doStep_11 (lv_at hl 0 rfl) ?_
  refine lv_iload_n hx hb dX5_doStep_13 rfl (lv_at hl 1 rfl) ?_
  refine lv_icmp_ge (tgt := 57) hx hb dX5_doStep_14 (by decide) (fun hc_1 => ?_) (fun hc_1 => ?_)
  · skip
    have hgei1 : k.1 ≤ i1 := (nI_leI (by omega) (by omega)).mp hc_1
    obtain rfl : i1 = k.1 := Nat.le_antisymm hii1 hgei1
    have hP : mP G al (ov G al k B c (it (mStep1 k h q sx) k.1 g)) H := hP
    have hl : lv_has ls 5 [(4, .int (nI k.1)), (3, .int (nI k.1)), (2, .int (nI sx)), (1, .ref (al (20 + q))), (0, .ref (al B))] := hl
    have hP : mP G al (ov G al k B c (mStep k h q sx g)) H := m_cv hP (show ov G al k B c (it (mStep1 k h q sx) k.1 g) = ov G al k B c (mStep k h q sx g) from (by unfold mStep; rfl))
    refine W.widen (k := 0) (n := 0) (Nat.le_of_ble_eq_true rfl) (Nat.le_of_ble_eq_true rfl) ?_
    exact W.vret hx hb hr (fun tz htz hW => ⟨⟨(), rfl, trivial, g_end htz hP⟩, hS.F htz⟩) hS.2.2 dX5_doStep_57
  · skip
    have hlti1 : i1 < k.1 := Nat.lt_of_not_le (fun q => hc_1 (nI_le q (by omega)))
    have hmd : (i1 + sx) % k.1 < k.1 := Nat.mod_lt _ (by omega)
    refine lv_aload_n hx hb dX5_doStep_17 rfl (lv_at hl 3 rfl) ?_
    refine lv_iload hx hb dX5_doStep_18 (lv_at hl 0 rfl) ?_
    refine g_aft_i (g_runV (As := [.int (nI i1)]) (rest := []) hx hb hml hown hts (kX6_names l G al k h B c (it (mStep1 k h q sx) i1 g) q i1 hF hH hB hq) (fcwV 1 hts q221 q222 q223 q224 q218 rfl rfl (by decide +kernel) ⟨(Nat.le_of_ble_eq_true rfl), (Nat.le_of_ble_eq_true rfl)⟩) hE hb0 hP hS (m_recvA hE hP (20 + q) rfl ((gH_ov hH hB hJ).2.2.2 q hq) rfl) rfl hl.1 rfl (Nat.le_of_ble_eq_true rfl) dX5_doStep_20 ⟨(Nat.le_of_ble_eq_true rfl), (Nat.le_of_ble_eq_true rfl)⟩) hS (fun u H locs hP hS => ?_)
    have hP : mP G al (ov G al k B c (it (mStep1 k h q sx) i1 g)) H := hP
    refine f_topi (v := mNames h q i1) rfl ?_
    refine lv_if_eq (tgt := 51) hx hb dX5_doStep_23 (by decide) (fun hc_2 => ?_) (fun hc_2 => ?_)
    · skip
      refine lv_iinc (v := nI (i1 + 1)) (lv' := [(4, .int (nI (i1 + 1))), (3, .int (nI k.1)), (2, .int (nI sx)), (1, .ref (al (20 + q))), (0, .ref (al B))]) hx hb dX5_doStep_51 hl (k := 0) rfl (f_inc _) (by decide) rfl (fun ls hl => ?_)
      refine lv_goto (tgt := 11) hx hb dX5_doStep_54 (by decide) ?_
      exact ihi1 hlti1 _ _ _ (m_cv hP (show ov G al k B c (it (mStep1 k h q sx) i1 g) = ov G al k B c (it (mStep1 k h q sx) (i1 + 1) g) from (congrArg (ov G al k B c) (if_pos hc_2).symm))) hS (lv_sub hl [0, 1, 2, 3, 4] rfl)
    · skip
      refine lv_aload_n hx hb dX5_doStep_26 rfl (lv_at hl 4 rfl) ?_
      refine m_get (C := RX5) (T := TX5) (N := 15) (ci := 6) (v := .ref (al (B + 3))) hx hb hts uX5 hown hE hP B rfl ov_s rfl 1 (by decide) (hts _ q174) (fun _ h9 => h9) rfl dX5_doStep_27 ?_
      refine lv_iload hx hb dX5_doStep_30 (lv_at hl 0 rfl) ?_
      refine lv_iload_n hx hb dX5_doStep_32 rfl (lv_at hl 2 rfl) ?_
      refine lv_iadd hx hb dX5_doStep_33 ?_
      refine f_topi (v := nI (i1 + sx)) (f_add _ _) ?_
      refine lv_iload_n hx hb dX5_doStep_34 rfl (lv_at hl 1 rfl) ?_
      refine g_aft_i (g_runS (As := [.int (nI (i1 + sx)), .int (nI k.1)]) (rest := [.ref (al (B + 3))]) hx hb hml hown hts (kJ9_floorMod_7cf53 l G al (ov G al k B c (it (mStep1 k h q sx) i1 g)) (nI (i1 + sx)) (nI k.1) (nI_ne0 (by omega) (by omega))) (fcwS 2 hts q225 q11 q12 q8 rfl rfl (by decide +kernel) ⟨(Nat.le_of_ble_eq_true rfl), (Nat.le_of_ble_eq_true rfl)⟩) hE hb0 hP hS rfl hl.1 rfl (Nat.le_of_ble_eq_true rfl) dX5_doStep_35 ⟨(Nat.le_of_ble_eq_true rfl), (Nat.le_of_ble_eq_true rfl)⟩) hS (fun u H locs hP hS => ?_)
      refine f_topi (v := nI ((i1 + sx) % k.1)) (mFm_n (by omega) (by omega) (by omega)) ?_
      refine f_topi (v := nI ((i1 + sx) % k.1)) rfl ?_
      refine g_aft_r (g_runV (As := [.int (nI ((i1 + sx) % k.1))]) (rest := []) hx hb hml hown hts (kJx4a65c_get_915e3 l G al (ov G al k B c (it (mStep1 k h q sx) i1 g)) (B + 3) (B + 4) k.1 (fun j => B + 20 + j) ((i1 + sx) % k.1) (gF_j hF) hmd) (fcwV 1 hts q188 q56 q57 q50 q43 rfl rfl (by decide +kernel) ⟨(Nat.le_of_ble_eq_true rfl), (Nat.le_of_ble_eq_true rfl)⟩) hE hb0 hP hS (m_recvL hE hP (gF_j hF) rfl) rfl hl.1 rfl (Nat.le_of_ble_eq_true rfl) dX5_doStep_38 ⟨(Nat.le_of_ble_eq_true rfl), (Nat.le_of_ble_eq_true rfl)⟩) hS (fun u H locs hP hS => ?_)
      refine g_topr (v := al (B + 20 + (i1 + sx) % k.1)) rfl ?_
      refine m_cast hx hb hown (hts _ q196) hE hP (B + 20 + (i1 + sx) % k.1) rfl (ov_j hmd) rfl dX5_doStep_41 ?_
      refine lv_aload_n hx hb dX5_doStep_44 rfl (lv_at hl 3 rfl) ?_
      refine m_get (C := RX6) (T := TX6) (N := 3) (ci := 7) (v := .int (h.2.2.2.2 q 2)) hx hb hts uX6 hown hE hP (20 + q) rfl ((gH_ov hH hB hJ).2.2.2 q hq) rfl 2 (by decide) (hts _ q220) (fun _ h9 => h9) rfl dX5_doStep_45 ?_
      refine g_aft_v (g_runV (As := [.int (h.2.2.2.2 q 2)]) (rest := []) hx hb hml hown hts (kX3_obey l G al k h B c (it (mStep1 k h q sx) i1 g) ((i1 + sx) % k.1) (h.2.2.2.2 q 2) hF hmd) (fcwV 1 hts q226 q227 q228 q185 q155 rfl rfl (by decide +kernel) ⟨(Nat.le_of_ble_eq_true rfl), (Nat.le_of_ble_eq_true rfl)⟩) hE hb0 hP hS (m_recvA hE hP (B + 20 + (i1 + sx) % k.1) rfl (ov_j hmd) rfl) rfl hl.1 rfl (Nat.le_of_ble_eq_true rfl) dX5_doStep_48 ⟨(Nat.le_of_ble_eq_true rfl), (Nat.le_of_ble_eq_true rfl)⟩) hS (fun u H locs hP hS => ?_)
      have hP : mP G al (ov G al k B c (mObey k (it (mStep1 k h q sx) i1 g) ((i1 + sx) % k.1) (h.2.2.2.2 q 2))) H := hP
      refine lv_iinc (v := nI (i1 + 1)) (lv' := [(4, .int (nI (i1 + 1))), (3, .int (nI k.1)), (2, .int (nI sx)), (1, .ref (al (20 + q))), (0, .ref (al B))]) hx hb dX5_doStep_51 hl (k := 0) rfl (f_inc _) (by decide) rfl (fun ls hl => ?_)
      refine lv_goto (tgt := 11) hx hb dX5_doStep_54 (by decide) ?_
      exact ihi1 hlti1 _ _ _ (m_cv hP (show ov G al k B c (mObey k (it (mStep1 k h q sx) i1 g) ((i1 + sx) % k.1) (h.2.2.2.2 q 2)) = ov G al k B c (it (mStep1 k h q sx) (i1 + 1) g) from (congrArg (ov G al k B c) (if_neg hc_2).symm))) hS (lv_sub hl [0, 1, 2, 3, 4] rfl)
set_option maxHeartbeats 4000000 in
set_option maxRecDepth 100000 in
theorem kX5_doStepsDue (l : Launch) (G : gT) (al : Nat → Nat) (k : gC) (h : gK) (B : Nat) (c : mC) (g : St) (hF : gF G al k B c) (hH : gH G al B h c) (hB : B = 100 ∨ B = 200) : Met l yX5_doStepsDue (fW yX5_doStepsDue cX5_doStepsDue 5 none) { frames := 4, cells := 0, slots := 0, locals := 88 } (gPre G al (ov G al k B c g) [.ref (al B)]) (gQv (S := Unit) G (fun _ => al) (fun _ => ov G al k B c (mSteps k h g))) 0 0 (gA G) := by
  refine Met.ofW (cc := cX5_doStepsDue) (maxL := 5) (ret := none) (by decide) rfl ?_
  intro pz ez s m args below meth c₀ s₁ Bo hml hv
  obtain ⟨rfl, hb0, hP, hE⟩ := hv
  have hx := Bo.exec
  have hb := Bo.bytes
  have hr := Bo.returns
  have hts0 := atoms_spec (ws := (fW yX5_doStepsDue cX5_doStepsDue 5 none)) Bo.pre
  have hts : ∀ w ∈ fA, w.before _ s = true := fun w h => hts0 w (List.mem_cons_of_mem _ h)
  have hown : s.vm.findClass RX5 = some m.cls := findClass_of_methodNamed Bo.named
  have hlocks := Bo.notSynchronized
  have hl := lv_entry ([.ref (al B)]) (n := 5) (Nat.le_of_ble_eq_true rfl)
  rw [lg_entry_eq]
  generalize (lg_sl ([.ref (al B)]) ++ List.replicate (5 - (lg_sl ([.ref (al B)])).length) Slot.unset).toArray = ls at hl ⊢
  have hl : lv_has ls 5 [(0, .ref (al B))] := hl
  have hJ := gF_J hF
  have hN := hH.2.1
  refine g_start hP (fun H hP hS => ?_)
  refine lv_iconst (v := 0) hx hb dX5_doStepsDue_0 (by decide) ?_
  refine lv_istore_n (lv' := [(1, .int 0), (0, .ref (al B))]) hx hb dX5_doStepsDue_1 rfl hl (by decide) rfl (fun ls hl => ?_)
  refine g_loop (al := al) (N := h.1) (nL := 5) (Wi := fun i1 => ov G al k B c (it (fun i g => mDueC k h i g) i1 g)) (Li := fun i1 => [(1, .int (nI i1)), (0, .ref (al B))]) hP hS (lv_sub hl [0, 1] rfl) (fun i1 hii1 ihi1 H locs ls hP hS hl => ?_)
  have hP : mP G al (ov G al k B c (it (fun i g => mDueC k h i g) i1 g)) H := hP
  have hl : lv_has ls 5 [(1, .int (nI i1)), (0, .ref (al B))] := hl
  refine lv_iload_n hx hb dX5_doStepsDue_2 rfl (lv_at hl 0 rfl) ?_
  refine lv_aload_n hx hb dX5_doStepsDue_3 rfl (lv_at hl 1 rfl) ?_
  refine m_get (C := RX5) (T := TX5) (N := 15) (ci := 6) (v := .ref (al (B + 5))) hx hb hts uX5 hown hE hP B rfl ov_s rfl 2 (by decide) (hts _ q175) (fun _ h9 => h9) rfl dX5_doStepsDue_4 ?_
  refine g_aft_i (g_runV (As := []) (rest := [.int (nI i1)]) hx hb hml hown hts (kJx4a65c_size_8abf5 l G al (ov G al k B c (it (fun i g => mDueC k h i g) i1 g)) (B + 5) (B + 6) h.1 (fun i => 300 + 3 * i) (gH_ov hH hB hJ).1) (fcwV 0 hts q187 q53 q54 q50 q34 rfl rfl (by decide +kernel) ⟨(Nat.le_of_ble_eq_true rfl), (Nat.le_of_ble_eq_true rfl)⟩) hE hb0 hP hS (m_recvL hE hP (gH_ov hH hB hJ).1 rfl) rfl hl.1 rfl (Nat.le_of_ble_eq_true rfl) dX5_doStepsDue_7 ⟨(Nat.le_of_ble_eq_true rfl), (Nat.le_of_ble_eq_true rfl)⟩) hS (fun u H locs hP hS => ?_)
  refine f_topi (v := nI h.1) rfl ?_
  refine lv_icmp_ge (tgt := 86) hx hb dX5_doStepsDue_10 (by decide) (fun hc_1 => ?_) (fun hc_1 => ?_)
  · skip
    have hgei1 : h.1 ≤ i1 := (nI_leI (by omega) (by omega)).mp hc_1
    obtain rfl : i1 = h.1 := Nat.le_antisymm hii1 hgei1
    have hP : mP G al (ov G al k B c (it (fun i g => mDueC k h i g) h.1 g)) H := hP
    have hl : lv_has ls 5 [(1, .int (nI h.1)), (0, .ref (al B))] := hl
    have hP : mP G al (ov G al k B c (mSteps k h g)) H := m_cv hP (show ov G al k B c (it (fun i g => mDueC k h i g) h.1 g) = ov G al k B c (mSteps k h g) from (by unfold mSteps; rfl))
    refine W.widen (k := 0) (n := 0) (Nat.le_of_ble_eq_true rfl) (Nat.le_of_ble_eq_true rfl) ?_
    exact W.vret hx hb hr (fun tz htz hW => ⟨⟨(), rfl, trivial, g_end htz hP⟩, hS.F htz⟩) hS.2.2 dX5_doStepsDue_86
  · skip
    have hlti1 : i1 < h.1 := Nat.lt_of_not_le (fun q => hc_1 (nI_le q (by omega)))
    refine lv_aload_n hx hb dX5_doStepsDue_13 rfl (lv_at hl 1 rfl) ?_
    refine m_get (C := RX5) (T := TX5) (N := 15) (ci := 6) (v := .ref (al (B + 5))) hx hb hts uX5 hown hE hP B rfl ov_s rfl 2 (by decide) (hts _ q175) (fun _ h9 => h9) rfl dX5_doStepsDue_14 ?_
    refine lv_iload_n hx hb dX5_doStepsDue_17 rfl (lv_at hl 0 rfl) ?_
    refine g_aft_r (g_runV (As := [.int (nI i1)]) (rest := []) hx hb hml hown hts (kJx4a65c_get_915e3 l G al (ov G al k B c (it (fun i g => mDueC k h i g) i1 g)) (B + 5) (B + 6) h.1 (fun i => 300 + 3 * i) i1 (gH_ov hH hB hJ).1 hlti1) (fcwV 1 hts q188 q56 q57 q50 q43 rfl rfl (by decide +kernel) ⟨(Nat.le_of_ble_eq_true rfl), (Nat.le_of_ble_eq_true rfl)⟩) hE hb0 hP hS (m_recvL hE hP (gH_ov hH hB hJ).1 rfl) rfl hl.1 rfl (Nat.le_of_ble_eq_true rfl) dX5_doStepsDue_18 ⟨(Nat.le_of_ble_eq_true rfl), (Nat.le_of_ble_eq_true rfl)⟩) hS (fun u H locs hP hS => ?_)
    refine g_topr (v := al (300 + 3 * i1)) rfl ?_
    refine m_cast hx hb hown (hts _ q230) hE hP (300 + 3 * i1) rfl ((gH_ov hH hB hJ).2.2.1 i1 hlti1).2.2.1 rfl dX5_doStepsDue_21 ?_
    refine lv_astore_n (lv' := [(2, .ref (al (300 + 3 * i1))), (1, .int (nI i1)), (0, .ref (al B))]) hx hb dX5_doStepsDue_24 rfl hl (by decide) rfl (fun ls hl => ?_)
    refine lv_iconst (v := 0) hx hb dX5_doStepsDue_25 (by decide) ?_
    refine lv_istore_n (lv' := [(3, .int 0), (2, .ref (al (300 + 3 * i1))), (1, .int (nI i1)), (0, .ref (al B))]) hx hb dX5_doStepsDue_26 rfl hl (by decide) rfl (fun ls hl => ?_)
    refine g_loop (al := al) (N := 3) (nL := 5) (Wi := fun i2 => ov G al k B c (it (fun s g => if mDue h i1 (3 * h.2.1 i1 + s) = g 0 4 then mStep k h (3 * h.2.1 i1 + s) (h.2.2.1 i1) g else g) i2 (it (fun i g => mDueC k h i g) i1 g))) (Li := fun i2 => [(3, .int (nI i2)), (2, .ref (al (300 + 3 * i1))), (1, .int (nI i1)), (0, .ref (al B))]) hP hS (lv_sub hl [0, 1, 2, 3] rfl) (fun i2 hii2 ihi2 H locs ls hP hS hl => ?_)
    have hP : mP G al (ov G al k B c (it (fun s g => if mDue h i1 (3 * h.2.1 i1 + s) = g 0 4 then mStep k h (3 * h.2.1 i1 + s) (h.2.2.1 i1) g else g) i2 (it (fun i g => mDueC k h i g) i1 g))) H := hP
    have hl : lv_has ls 5 [(3, .int (nI i2)), (2, .ref (al (300 + 3 * i1))), (1, .int (nI i1)), (0, .ref (al B))] := hl
    refine lv_iload_n hx hb dX5_doStepsDue_27 rfl (lv_at hl 0 rfl) ?_
    refine lv_aload_n hx hb dX5_doStepsDue_28 rfl (lv_at hl 1 rfl) ?_
    refine m_get (C := RX1) (T := TX1) (N := 3) (ci := 2) (v := .ref (al (300 + 3 * i1 + 1))) hx hb hts uX1 hown hE hP (300 + 3 * i1) rfl ((gH_ov hH hB hJ).2.2.1 i1 hlti1).2.2.1 rfl 0 (by decide) (hts _ q231) (fun _ h9 => h9) rfl dX5_doStepsDue_29 ?_
    refine g_aft_i (g_runV (As := []) (rest := [.int (nI i2)]) hx hb hml hown hts (kJx4a65c_size_8abf5 l G al (ov G al k B c (it (fun s g => if mDue h i1 (3 * h.2.1 i1 + s) = g 0 4 then mStep k h (3 * h.2.1 i1 + s) (h.2.2.1 i1) g else g) i2 (it (fun i g => mDueC k h i g) i1 g))) (300 + 3 * i1 + 1) (300 + 3 * i1 + 2) 3 (fun s => 20 + (3 * h.2.1 i1 + s)) ((gH_ov hH hB hJ).2.2.1 i1 hlti1).2.2.2) (fcwV 0 hts q187 q53 q54 q50 q34 rfl rfl (by decide +kernel) ⟨(Nat.le_of_ble_eq_true rfl), (Nat.le_of_ble_eq_true rfl)⟩) hE hb0 hP hS (m_recvL hE hP ((gH_ov hH hB hJ).2.2.1 i1 hlti1).2.2.2 rfl) rfl hl.1 rfl (Nat.le_of_ble_eq_true rfl) dX5_doStepsDue_32 ⟨(Nat.le_of_ble_eq_true rfl), (Nat.le_of_ble_eq_true rfl)⟩) hS (fun u H locs hP hS => ?_)
    refine f_topi (v := nI 3) rfl ?_
    refine lv_icmp_ge (tgt := 80) hx hb dX5_doStepsDue_35 (by decide) (fun hc_2 => ?_) (fun hc_2 => ?_)
    · skip
      have hgei2 : 3 ≤ i2 := (nI_leI (a := 3) (by omega) (by omega)).mp hc_2
      obtain rfl : i2 = 3 := Nat.le_antisymm hii2 hgei2
      have hP : mP G al (ov G al k B c (it (fun s g => if mDue h i1 (3 * h.2.1 i1 + s) = g 0 4 then mStep k h (3 * h.2.1 i1 + s) (h.2.2.1 i1) g else g) 3 (it (fun i g => mDueC k h i g) i1 g))) H := hP
      have hl : lv_has ls 5 [(3, .int (nI 3)), (2, .ref (al (300 + 3 * i1))), (1, .int (nI i1)), (0, .ref (al B))] := hl
      refine lv_iinc (v := nI (i1 + 1)) (lv' := [(1, .int (nI (i1 + 1))), (3, .int (nI 3)), (2, .ref (al (300 + 3 * i1))), (0, .ref (al B))]) hx hb dX5_doStepsDue_80 hl (k := 2) rfl (f_inc _) (by decide) rfl (fun ls hl => ?_)
      refine lv_goto (tgt := 2) hx hb dX5_doStepsDue_83 (by decide) ?_
      exact ihi1 hlti1 _ _ _ (m_cv hP (show ov G al k B c (it (fun s g => if mDue h i1 (3 * h.2.1 i1 + s) = g 0 4 then mStep k h (3 * h.2.1 i1 + s) (h.2.2.1 i1) g else g) 3 (it (fun i g => mDueC k h i g) i1 g)) = ov G al k B c (it (fun i g => mDueC k h i g) (i1 + 1) g) from (by rw [it_s]; rfl))) hS (lv_sub hl [0, 3] rfl)
    · skip
      have hlti2 : i2 < 3 := Nat.lt_of_not_le (fun q => hc_2 (nI_le (a := 3) q (by omega)))
      have hq3 : 3 * h.2.1 i1 + i2 < 6 := by have := (hH.2.2.1 i1 hlti1).1; omega
      have hs10 : h.2.2.1 i1 < 10 := (hH.2.2.1 i1 hlti1).2.1
      refine lv_aload_n hx hb dX5_doStepsDue_38 rfl (lv_at hl 1 rfl) ?_
      refine m_get (C := RX1) (T := TX1) (N := 3) (ci := 2) (v := .ref (al (300 + 3 * i1 + 1))) hx hb hts uX1 hown hE hP (300 + 3 * i1) rfl ((gH_ov hH hB hJ).2.2.1 i1 hlti1).2.2.1 rfl 0 (by decide) (hts _ q231) (fun _ h9 => h9) rfl dX5_doStepsDue_39 ?_
      refine lv_iload_n hx hb dX5_doStepsDue_42 rfl (lv_at hl 0 rfl) ?_
      refine g_aft_r (g_runV (As := [.int (nI i2)]) (rest := []) hx hb hml hown hts (kJx4a65c_get_915e3 l G al (ov G al k B c (it (fun s g => if mDue h i1 (3 * h.2.1 i1 + s) = g 0 4 then mStep k h (3 * h.2.1 i1 + s) (h.2.2.1 i1) g else g) i2 (it (fun i g => mDueC k h i g) i1 g))) (300 + 3 * i1 + 1) (300 + 3 * i1 + 2) 3 (fun s => 20 + (3 * h.2.1 i1 + s)) i2 ((gH_ov hH hB hJ).2.2.1 i1 hlti1).2.2.2 hlti2) (fcwV 1 hts q188 q56 q57 q50 q43 rfl rfl (by decide +kernel) ⟨(Nat.le_of_ble_eq_true rfl), (Nat.le_of_ble_eq_true rfl)⟩) hE hb0 hP hS (m_recvL hE hP ((gH_ov hH hB hJ).2.2.1 i1 hlti1).2.2.2 rfl) rfl hl.1 rfl (Nat.le_of_ble_eq_true rfl) dX5_doStepsDue_43 ⟨(Nat.le_of_ble_eq_true rfl), (Nat.le_of_ble_eq_true rfl)⟩) hS (fun u H locs hP hS => ?_)
      refine g_topr (v := al (20 + (3 * h.2.1 i1 + i2))) rfl ?_
      refine m_cast hx hb hown (hts _ q232) hE hP (20 + (3 * h.2.1 i1 + i2)) rfl ((gH_ov hH hB hJ).2.2.2 (3 * h.2.1 i1 + i2) hq3) rfl dX5_doStepsDue_46 ?_
      refine lv_astore (lv' := [(4, .ref (al (20 + (3 * h.2.1 i1 + i2)))), (3, .int (nI i2)), (2, .ref (al (300 + 3 * i1))), (1, .int (nI i1)), (0, .ref (al B))]) hx hb dX5_doStepsDue_49 hl (by decide) rfl (fun ls hl => ?_)
      refine lv_aload_n hx hb dX5_doStepsDue_51 rfl (lv_at hl 2 rfl) ?_
      refine lv_aload hx hb dX5_doStepsDue_52 (lv_at hl 0 rfl) ?_
      refine g_aft_i (g_runV (As := [.ref (al (20 + (3 * h.2.1 i1 + i2)))]) (rest := []) hx hb hml hown hts (kX1_dueOf l G al k h B c (it (fun s g => if mDue h i1 (3 * h.2.1 i1 + s) = g 0 4 then mStep k h (3 * h.2.1 i1 + s) (h.2.2.1 i1) g else g) i2 (it (fun i g => mDueC k h i g) i1 g)) i1 (3 * h.2.1 i1 + i2) hF hH hB hlti1 hq3) (fcwV 1 hts q235 q59 q60 q61 q32 rfl rfl (by decide +kernel) ⟨(Nat.le_of_ble_eq_true rfl), (Nat.le_of_ble_eq_true rfl)⟩) hE hb0 hP hS (m_recvA hE hP (300 + 3 * i1) rfl ((gH_ov hH hB hJ).2.2.1 i1 hlti1).2.2.1 rfl) rfl hl.1 rfl (Nat.le_of_ble_eq_true rfl) dX5_doStepsDue_54 ⟨(Nat.le_of_ble_eq_true rfl), (Nat.le_of_ble_eq_true rfl)⟩) hS (fun u H locs hP hS => ?_)
      have hP : mP G al (ov G al k B c (it (fun s g => if mDue h i1 (3 * h.2.1 i1 + s) = g 0 4 then mStep k h (3 * h.2.1 i1 + s) (h.2.2.1 i1) g else g) i2 (it (fun i g => mDueC k h i g) i1 g))) H := hP
      refine f_topi (v := mDue h i1 (3 * h.2.1 i1 + i2)) rfl ?_
      refine lv_aload_n hx hb dX5_doStepsDue_57 rfl (lv_at hl 4 rfl) ?_
      refine m_get (C := RX5) (T := TX5) (N := 15) (ci := 6) (v := .int ((it (fun s g => if mDue h i1 (3 * h.2.1 i1 + s) = g 0 4 then mStep k h (3 * h.2.1 i1 + s) (h.2.2.1 i1) g else g) i2 (it (fun i g => mDueC k h i g) i1 g)) 0 4)) hx hb hts uX5 hown hE hP B rfl ov_s rfl 4 (by decide) (hts _ q233) (fun _ h9 => h9) rfl dX5_doStepsDue_58 ?_
      refine lv_icmp_ne (tgt := 74) hx hb dX5_doStepsDue_61 (by decide) (fun hc_3 => ?_) (fun hc_3 => ?_)
      · skip
        refine lv_iinc (v := nI (i2 + 1)) (lv' := [(3, .int (nI (i2 + 1))), (4, .ref (al (20 + (3 * h.2.1 i1 + i2)))), (2, .ref (al (300 + 3 * i1))), (1, .int (nI i1)), (0, .ref (al B))]) hx hb dX5_doStepsDue_74 hl (k := 1) rfl (f_inc _) (by decide) rfl (fun ls hl => ?_)
        refine lv_goto (tgt := 27) hx hb dX5_doStepsDue_77 (by decide) ?_
        exact ihi2 hlti2 _ _ _ (m_cv hP (show ov G al k B c (it (fun s g => if mDue h i1 (3 * h.2.1 i1 + s) = g 0 4 then mStep k h (3 * h.2.1 i1 + s) (h.2.2.1 i1) g else g) i2 (it (fun i g => mDueC k h i g) i1 g)) = ov G al k B c (it (fun s g => if mDue h i1 (3 * h.2.1 i1 + s) = g 0 4 then mStep k h (3 * h.2.1 i1 + s) (h.2.2.1 i1) g else g) (i2 + 1) (it (fun i g => mDueC k h i g) i1 g)) from (by first | rfl | (simp only [it_s, if_neg hc_3]; done) | (simp only [it_s, if_neg hc_3]; rfl)))) hS (lv_sub hl [0, 2, 3, 4] rfl)
      · skip
        refine lv_aload_n hx hb dX5_doStepsDue_64 rfl (lv_at hl 4 rfl) ?_
        refine lv_aload hx hb dX5_doStepsDue_65 (lv_at hl 0 rfl) ?_
        refine lv_aload_n hx hb dX5_doStepsDue_67 rfl (lv_at hl 2 rfl) ?_
        refine m_get (C := RX1) (T := TX1) (N := 3) (ci := 2) (v := .int (nI (h.2.2.1 i1))) hx hb hts uX1 hown hE hP (300 + 3 * i1) rfl ((gH_ov hH hB hJ).2.2.1 i1 hlti1).2.2.1 rfl 1 (by decide) (hts _ q234) (fun _ h9 => h9) rfl dX5_doStepsDue_68 ?_
        refine g_aft_v (g_runV (As := [.ref (al (20 + (3 * h.2.1 i1 + i2))), .int (nI (h.2.2.1 i1))]) (rest := []) hx hb hml hown hts (kX5_doStep l G al k h B c (it (fun s g => if mDue h i1 (3 * h.2.1 i1 + s) = g 0 4 then mStep k h (3 * h.2.1 i1 + s) (h.2.2.1 i1) g else g) i2 (it (fun i g => mDueC k h i g) i1 g)) (3 * h.2.1 i1 + i2) (h.2.2.1 i1) hF hH hB hq3 hs10) (fcwV 2 hts q236 q237 q238 q211 q229 rfl rfl (by decide +kernel) ⟨(Nat.le_of_ble_eq_true rfl), (Nat.le_of_ble_eq_true rfl)⟩) hE hb0 hP hS (m_recvA hE hP B rfl ov_s rfl) rfl hl.1 rfl (Nat.le_of_ble_eq_true rfl) dX5_doStepsDue_71 ⟨(Nat.le_of_ble_eq_true rfl), (Nat.le_of_ble_eq_true rfl)⟩) hS (fun u H locs hP hS => ?_)
        have hP : mP G al (ov G al k B c (mStep k h (3 * h.2.1 i1 + i2) (h.2.2.1 i1) (it (fun s g => if mDue h i1 (3 * h.2.1 i1 + s) = g 0 4 then mStep k h (3 * h.2.1 i1 + s) (h.2.2.1 i1) g else g) i2 (it (fun i g => mDueC k h i g) i1 g)))) H := hP
        refine lv_iinc (v := nI (i2 + 1)) (lv' := [(3, .int (nI (i2 + 1))), (4, .ref (al (20 + (3 * h.2.1 i1 + i2)))), (2, .ref (al (300 + 3 * i1))), (1, .int (nI i1)), (0, .ref (al B))]) hx hb dX5_doStepsDue_74 hl (k := 1) rfl (f_inc _) (by decide) rfl (fun ls hl => ?_)
        refine lv_goto (tgt := 27) hx hb dX5_doStepsDue_77 (by decide) ?_
        exact ihi2 hlti2 _ _ _ (m_cv hP (show ov G al k B c (mStep k h (3 * h.2.1 i1 + i2) (h.2.2.1 i1) (it (fun s g => if mDue h i1 (3 * h.2.1 i1 + s) = g 0 4 then mStep k h (3 * h.2.1 i1 + s) (h.2.2.1 i1) g else g) i2 (it (fun i g => mDueC k h i g) i1 g))) = ov G al k B c (it (fun s g => if mDue h i1 (3 * h.2.1 i1 + s) = g 0 4 then mStep k h (3 * h.2.1 i1 + s) (h.2.2.1 i1) g else g) (i2 + 1) (it (fun i g => mDueC k h i g) i1 g)) from (by first | rfl | (simp only [it_s, if_pos hc_3]; done) | (simp only [it_s, if_pos hc_3]; rfl)))) hS (lv_sub hl [0, 2, 3, 4] rfl)
set_option maxHeartbeats 4000000 in
set_option maxRecDepth 100000 in
theorem kX5_tick (l : Launch) (G : gT) (al : Nat → Nat) (k : gC) (h : gK) (B : Nat) (c : mC) (g : St) (hF : gF G al k B c) (hH : gH G al B h c) (hB : B = 100 ∨ B = 200) : Met l yX5_tick (fW yX5_tick cX5_tick 2 (some .int)) { frames := 6, cells := 0, slots := 0, locals := 133 } (gPre G al (ov G al k B c g) [.ref (al B)]) (gQi (S := Unit) G (fun _ => mDown k h g) (fun _ => al) (fun _ => ov G al k B c (mTick k h g))) 0 0 (gA G) := by
  refine Met.ofW (cc := cX5_tick) (maxL := 2) (ret := (some .int)) (by decide) rfl ?_
  intro pz ez s m args below meth c₀ s₁ Bo hml hv
  obtain ⟨rfl, hb0, hP, hE⟩ := hv
  have hx := Bo.exec
  have hb := Bo.bytes
  have hr := Bo.returns
  have hts0 := atoms_spec (ws := (fW yX5_tick cX5_tick 2 (some .int))) Bo.pre
  have hts : ∀ w ∈ fA, w.before _ s = true := fun w h => hts0 w (List.mem_cons_of_mem _ h)
  have hown : s.vm.findClass RX5 = some m.cls := findClass_of_methodNamed Bo.named
  have hlocks := Bo.notSynchronized
  have hl := lv_entry ([.ref (al B)]) (n := 2) (Nat.le_of_ble_eq_true rfl)
  rw [lg_entry_eq]
  generalize (lg_sl ([.ref (al B)]) ++ List.replicate (2 - (lg_sl ([.ref (al B)])).length) Slot.unset).toArray = ls at hl ⊢
  have hl : lv_has ls 2 [(0, .ref (al B))] := hl
  have hJ := gF_J hF
  refine g_start hP (fun H hP hS => ?_)
  refine lv_aload_n hx hb dX5_tick_0 rfl (lv_at hl 0 rfl) ?_
  refine lv_dup hx hb dX5_tick_1 rfl ?_
  refine m_get (C := RX5) (T := TX5) (N := 15) (ci := 6) (v := .int (g 0 4)) hx hb hts uX5 hown hE hP B rfl ov_s rfl 4 (by decide) (hts _ q233) (fun _ h9 => h9) rfl dX5_tick_2 ?_
  refine lv_iconst (v := 1) hx hb dX5_tick_5 (by decide) ?_
  refine lv_iadd hx hb dX5_tick_6 ?_
  refine m_put (v := .int ((g 0 4) + 1)) (ty := .int) (C := RX5) (T := TX5) (N := 15) (ci := 6) hx hb hts uX5 tyX5 tyX5_ok nmX5 hown hE hP hS B rfl ov_s rfl 4 (by decide) (hts _ q233) (fun _ h9 => h9) rfl (by decide +kernel) rfl rfl (Nat.le_of_ble_eq_true rfl) dX5_tick_7 (fun H locs hP hS => ?_)
  have hP := m_cv hP (ov_us (r := upd (g 0) 4 ((g 0 4) + 1)) rfl)
  have hP : mP G al (ov G al k B c (s2 g 0 4 ((g 0 4) + 1))) H := hP
  refine lv_aload_n hx hb dX5_tick_10 rfl (lv_at hl 0 rfl) ?_
  refine m_get (C := RX5) (T := TX5) (N := 15) (ci := 6) (v := .int (bz ((s2 g 0 4 ((g 0 4) + 1)) 0 14))) hx hb hts uX5 hown hE hP B rfl ov_s rfl 14 (by decide) (hts _ q310) (fun _ h9 => h9) rfl dX5_tick_11 ?_
  refine f_topi (v := bz (g 0 14)) (congrArg bz (s2_k _ _ _ (by decide))) ?_
  refine lv_if_ne (tgt := 21) hx hb dX5_tick_14 (by decide) (fun hc_1 => ?_) (fun hc_1 => ?_)
  · skip
    refine lv_aload_n hx hb dX5_tick_21 rfl (lv_at hl 0 rfl) ?_
    refine g_aft_v (g_runV (As := []) (rest := []) hx hb hml hown hts (kX5_turnDrivesAndValves l G al k h B c (s2 g 0 4 ((g 0 4) + 1)) hF) (fcwV 0 hts q322 q323 q324 q211 q246 rfl rfl (by decide +kernel) ⟨(Nat.le_of_ble_eq_true rfl), (Nat.le_of_ble_eq_true rfl)⟩) hE hb0 hP hS (m_recvA hE hP B rfl ov_s rfl) rfl hl.1 rfl (Nat.le_of_ble_eq_true rfl) dX5_tick_22 ⟨(Nat.le_of_ble_eq_true rfl), (Nat.le_of_ble_eq_true rfl)⟩) hS (fun u H locs hP hS => ?_)
    have hP : mP G al (ov G al k B c (mTurns k (s2 g 0 4 ((g 0 4) + 1)))) H := hP
    refine lv_aload_n hx hb dX5_tick_25 rfl (lv_at hl 0 rfl) ?_
    refine g_aft_i (g_runV (As := []) (rest := []) hx hb hml hown hts (kX5_letFall l G al k h B c (mTurns k (s2 g 0 4 ((g 0 4) + 1))) hF) (fcwV 0 hts q325 q326 q327 q211 q266 rfl rfl (by decide +kernel) ⟨(Nat.le_of_ble_eq_true rfl), (Nat.le_of_ble_eq_true rfl)⟩) hE hb0 hP hS (m_recvA hE hP B rfl ov_s rfl) rfl hl.1 rfl (Nat.le_of_ble_eq_true rfl) dX5_tick_26 ⟨(Nat.le_of_ble_eq_true rfl), (Nat.le_of_ble_eq_true rfl)⟩) hS (fun u H locs hP hS => ?_)
    have hP : mP G al (ov G al k B c (mFall (mTurns k (s2 g 0 4 ((g 0 4) + 1))))) H := hP
    refine f_topi (v := mFallIn (mTurns k (s2 g 0 4 ((g 0 4) + 1))) ((mTurns k (s2 g 0 4 ((g 0 4) + 1))) 0 4)) rfl ?_
    refine lv_istore_n (lv' := [(1, .int (mFallIn (mTurns k (s2 g 0 4 ((g 0 4) + 1))) ((mTurns k (s2 g 0 4 ((g 0 4) + 1))) 0 4))), (0, .ref (al B))]) hx hb dX5_tick_29 rfl hl (by decide) rfl (fun ls hl => ?_)
    refine lv_aload_n hx hb dX5_tick_30 rfl (lv_at hl 1 rfl) ?_
    refine g_aft_v (g_runV (As := []) (rest := []) hx hb hml hown hts (kX5_throwWater l G al k h B c (mFall (mTurns k (s2 g 0 4 ((g 0 4) + 1)))) hF) (fcwV 0 hts q328 q329 q330 q211 q289 rfl rfl (by decide +kernel) ⟨(Nat.le_of_ble_eq_true rfl), (Nat.le_of_ble_eq_true rfl)⟩) hE hb0 hP hS (m_recvA hE hP B rfl ov_s rfl) rfl hl.1 rfl (Nat.le_of_ble_eq_true rfl) dX5_tick_31 ⟨(Nat.le_of_ble_eq_true rfl), (Nat.le_of_ble_eq_true rfl)⟩) hS (fun u H locs hP hS => ?_)
    have hP : mP G al (ov G al k B c (mThrow k (mFall (mTurns k (s2 g 0 4 ((g 0 4) + 1)))))) H := hP
    refine lv_aload_n hx hb dX5_tick_34 rfl (lv_at hl 1 rfl) ?_
    refine g_aft_v (g_runV (As := []) (rest := []) hx hb hml hown hts (kX5_useEnergy l G al k h B c (mThrow k (mFall (mTurns k (s2 g 0 4 ((g 0 4) + 1))))) hF) (fcwV 0 hts q331 q332 q333 q211 q303 rfl rfl (by decide +kernel) ⟨(Nat.le_of_ble_eq_true rfl), (Nat.le_of_ble_eq_true rfl)⟩) hE hb0 hP hS (m_recvA hE hP B rfl ov_s rfl) rfl hl.1 rfl (Nat.le_of_ble_eq_true rfl) dX5_tick_35 ⟨(Nat.le_of_ble_eq_true rfl), (Nat.le_of_ble_eq_true rfl)⟩) hS (fun u H locs hP hS => ?_)
    have hP : mP G al (ov G al k B c (mEnergy k (mThrow k (mFall (mTurns k (s2 g 0 4 ((g 0 4) + 1))))))) H := hP
    refine lv_aload_n hx hb dX5_tick_38 rfl (lv_at hl 1 rfl) ?_
    refine g_aft_v (g_runV (As := []) (rest := []) hx hb hml hown hts (kX5_tripPumpsRunningDry l G al k h B c (mEnergy k (mThrow k (mFall (mTurns k (s2 g 0 4 ((g 0 4) + 1)))))) hF) (fcwV 0 hts q334 q335 q336 q211 q307 rfl rfl (by decide +kernel) ⟨(Nat.le_of_ble_eq_true rfl), (Nat.le_of_ble_eq_true rfl)⟩) hE hb0 hP hS (m_recvA hE hP B rfl ov_s rfl) rfl hl.1 rfl (Nat.le_of_ble_eq_true rfl) dX5_tick_39 ⟨(Nat.le_of_ble_eq_true rfl), (Nat.le_of_ble_eq_true rfl)⟩) hS (fun u H locs hP hS => ?_)
    have hP : mP G al (ov G al k B c (mDry (mEnergy k (mThrow k (mFall (mTurns k (s2 g 0 4 ((g 0 4) + 1)))))))) H := hP
    refine lv_aload_n hx hb dX5_tick_42 rfl (lv_at hl 1 rfl) ?_
    refine g_aft_v (g_runV (As := []) (rest := []) hx hb hml hown hts (kX5_shortLamps l G al k h B c (mDry (mEnergy k (mThrow k (mFall (mTurns k (s2 g 0 4 ((g 0 4) + 1))))))) hF) (fcwV 0 hts q337 q338 q339 q211 q318 rfl rfl (by decide +kernel) ⟨(Nat.le_of_ble_eq_true rfl), (Nat.le_of_ble_eq_true rfl)⟩) hE hb0 hP hS (m_recvA hE hP B rfl ov_s rfl) rfl hl.1 rfl (Nat.le_of_ble_eq_true rfl) dX5_tick_43 ⟨(Nat.le_of_ble_eq_true rfl), (Nat.le_of_ble_eq_true rfl)⟩) hS (fun u H locs hP hS => ?_)
    have hP : mP G al (ov G al k B c (mLamp k (mDry (mEnergy k (mThrow k (mFall (mTurns k (s2 g 0 4 ((g 0 4) + 1))))))))) H := hP
    refine lv_iload_n hx hb dX5_tick_46 rfl (lv_at hl 0 rfl) ?_
    have hP : mP G al (ov G al k B c (mTick k h g)) H := m_cv hP (show ov G al k B c (mLamp k (mDry (mEnergy k (mThrow k (mFall (mTurns k (s2 g 0 4 ((g 0 4) + 1)))))))) = ov G al k B c (mTick k h g) from (by unfold mTick mTick0; rw [if_neg hc_1]; try rfl))
    refine W.widen (k := 0) (n := 0) (Nat.le_of_ble_eq_true rfl) (Nat.le_of_ble_eq_true rfl) ?_
    exact W.iret (v := mFallIn (mTurns k (s2 g 0 4 ((g 0 4) + 1))) ((mTurns k (s2 g 0 4 ((g 0 4) + 1))) 0 4)) hx hb hr (fun tz htz hW => ⟨⟨mFallIn (mTurns k (s2 g 0 4 ((g 0 4) + 1))) ((mTurns k (s2 g 0 4 ((g 0 4) + 1))) 0 4), (), rfl, (by unfold mDown mTick0; rw [if_neg hc_1]; try rfl), g_end htz hP⟩, hS.F htz⟩) hS.2.2 dX5_tick_47
  · skip
    refine lv_aload_n hx hb dX5_tick_17 rfl (lv_at hl 0 rfl) ?_
    refine g_aft_v (g_runV (As := []) (rest := []) hx hb hml hown hts (kX5_doStepsDue l G al k h B c (s2 g 0 4 ((g 0 4) + 1)) hF hH hB) (fcwV 0 hts q319 q320 q321 q211 q239 rfl rfl (by decide +kernel) ⟨(Nat.le_of_ble_eq_true rfl), (Nat.le_of_ble_eq_true rfl)⟩) hE hb0 hP hS (m_recvA hE hP B rfl ov_s rfl) rfl hl.1 rfl (Nat.le_of_ble_eq_true rfl) dX5_tick_18 ⟨(Nat.le_of_ble_eq_true rfl), (Nat.le_of_ble_eq_true rfl)⟩) hS (fun u H locs hP hS => ?_)
    have hP : mP G al (ov G al k B c (mSteps k h (s2 g 0 4 ((g 0 4) + 1)))) H := hP
    refine lv_aload_n hx hb dX5_tick_21 rfl (lv_at hl 0 rfl) ?_
    refine g_aft_v (g_runV (As := []) (rest := []) hx hb hml hown hts (kX5_turnDrivesAndValves l G al k h B c (mSteps k h (s2 g 0 4 ((g 0 4) + 1))) hF) (fcwV 0 hts q322 q323 q324 q211 q246 rfl rfl (by decide +kernel) ⟨(Nat.le_of_ble_eq_true rfl), (Nat.le_of_ble_eq_true rfl)⟩) hE hb0 hP hS (m_recvA hE hP B rfl ov_s rfl) rfl hl.1 rfl (Nat.le_of_ble_eq_true rfl) dX5_tick_22 ⟨(Nat.le_of_ble_eq_true rfl), (Nat.le_of_ble_eq_true rfl)⟩) hS (fun u H locs hP hS => ?_)
    have hP : mP G al (ov G al k B c (mTurns k (mSteps k h (s2 g 0 4 ((g 0 4) + 1))))) H := hP
    refine lv_aload_n hx hb dX5_tick_25 rfl (lv_at hl 0 rfl) ?_
    refine g_aft_i (g_runV (As := []) (rest := []) hx hb hml hown hts (kX5_letFall l G al k h B c (mTurns k (mSteps k h (s2 g 0 4 ((g 0 4) + 1)))) hF) (fcwV 0 hts q325 q326 q327 q211 q266 rfl rfl (by decide +kernel) ⟨(Nat.le_of_ble_eq_true rfl), (Nat.le_of_ble_eq_true rfl)⟩) hE hb0 hP hS (m_recvA hE hP B rfl ov_s rfl) rfl hl.1 rfl (Nat.le_of_ble_eq_true rfl) dX5_tick_26 ⟨(Nat.le_of_ble_eq_true rfl), (Nat.le_of_ble_eq_true rfl)⟩) hS (fun u H locs hP hS => ?_)
    have hP : mP G al (ov G al k B c (mFall (mTurns k (mSteps k h (s2 g 0 4 ((g 0 4) + 1)))))) H := hP
    refine f_topi (v := mFallIn (mTurns k (mSteps k h (s2 g 0 4 ((g 0 4) + 1)))) ((mTurns k (mSteps k h (s2 g 0 4 ((g 0 4) + 1)))) 0 4)) rfl ?_
    refine lv_istore_n (lv' := [(1, .int (mFallIn (mTurns k (mSteps k h (s2 g 0 4 ((g 0 4) + 1)))) ((mTurns k (mSteps k h (s2 g 0 4 ((g 0 4) + 1)))) 0 4))), (0, .ref (al B))]) hx hb dX5_tick_29 rfl hl (by decide) rfl (fun ls hl => ?_)
    refine lv_aload_n hx hb dX5_tick_30 rfl (lv_at hl 1 rfl) ?_
    refine g_aft_v (g_runV (As := []) (rest := []) hx hb hml hown hts (kX5_throwWater l G al k h B c (mFall (mTurns k (mSteps k h (s2 g 0 4 ((g 0 4) + 1))))) hF) (fcwV 0 hts q328 q329 q330 q211 q289 rfl rfl (by decide +kernel) ⟨(Nat.le_of_ble_eq_true rfl), (Nat.le_of_ble_eq_true rfl)⟩) hE hb0 hP hS (m_recvA hE hP B rfl ov_s rfl) rfl hl.1 rfl (Nat.le_of_ble_eq_true rfl) dX5_tick_31 ⟨(Nat.le_of_ble_eq_true rfl), (Nat.le_of_ble_eq_true rfl)⟩) hS (fun u H locs hP hS => ?_)
    have hP : mP G al (ov G al k B c (mThrow k (mFall (mTurns k (mSteps k h (s2 g 0 4 ((g 0 4) + 1))))))) H := hP
    refine lv_aload_n hx hb dX5_tick_34 rfl (lv_at hl 1 rfl) ?_
    refine g_aft_v (g_runV (As := []) (rest := []) hx hb hml hown hts (kX5_useEnergy l G al k h B c (mThrow k (mFall (mTurns k (mSteps k h (s2 g 0 4 ((g 0 4) + 1)))))) hF) (fcwV 0 hts q331 q332 q333 q211 q303 rfl rfl (by decide +kernel) ⟨(Nat.le_of_ble_eq_true rfl), (Nat.le_of_ble_eq_true rfl)⟩) hE hb0 hP hS (m_recvA hE hP B rfl ov_s rfl) rfl hl.1 rfl (Nat.le_of_ble_eq_true rfl) dX5_tick_35 ⟨(Nat.le_of_ble_eq_true rfl), (Nat.le_of_ble_eq_true rfl)⟩) hS (fun u H locs hP hS => ?_)
    have hP : mP G al (ov G al k B c (mEnergy k (mThrow k (mFall (mTurns k (mSteps k h (s2 g 0 4 ((g 0 4) + 1)))))))) H := hP
    refine lv_aload_n hx hb dX5_tick_38 rfl (lv_at hl 1 rfl) ?_
    refine g_aft_v (g_runV (As := []) (rest := []) hx hb hml hown hts (kX5_tripPumpsRunningDry l G al k h B c (mEnergy k (mThrow k (mFall (mTurns k (mSteps k h (s2 g 0 4 ((g 0 4) + 1))))))) hF) (fcwV 0 hts q334 q335 q336 q211 q307 rfl rfl (by decide +kernel) ⟨(Nat.le_of_ble_eq_true rfl), (Nat.le_of_ble_eq_true rfl)⟩) hE hb0 hP hS (m_recvA hE hP B rfl ov_s rfl) rfl hl.1 rfl (Nat.le_of_ble_eq_true rfl) dX5_tick_39 ⟨(Nat.le_of_ble_eq_true rfl), (Nat.le_of_ble_eq_true rfl)⟩) hS (fun u H locs hP hS => ?_)
    have hP : mP G al (ov G al k B c (mDry (mEnergy k (mThrow k (mFall (mTurns k (mSteps k h (s2 g 0 4 ((g 0 4) + 1))))))))) H := hP
    refine lv_aload_n hx hb dX5_tick_42 rfl (lv_at hl 1 rfl) ?_
    refine g_aft_v (g_runV (As := []) (rest := []) hx hb hml hown hts (kX5_shortLamps l G al k h B c (mDry (mEnergy k (mThrow k (mFall (mTurns k (mSteps k h (s2 g 0 4 ((g 0 4) + 1)))))))) hF) (fcwV 0 hts q337 q338 q339 q211 q318 rfl rfl (by decide +kernel) ⟨(Nat.le_of_ble_eq_true rfl), (Nat.le_of_ble_eq_true rfl)⟩) hE hb0 hP hS (m_recvA hE hP B rfl ov_s rfl) rfl hl.1 rfl (Nat.le_of_ble_eq_true rfl) dX5_tick_43 ⟨(Nat.le_of_ble_eq_true rfl), (Nat.le_of_ble_eq_true rfl)⟩) hS (fun u H locs hP hS => ?_)
    have hP : mP G al (ov G al k B c (mLamp k (mDry (mEnergy k (mThrow k (mFall (mTurns k (mSteps k h (s2 g 0 4 ((g 0 4) + 1)))))))))) H := hP
    refine lv_iload_n hx hb dX5_tick_46 rfl (lv_at hl 0 rfl) ?_
    have hP : mP G al (ov G al k B c (mTick k h g)) H := m_cv hP (show ov G al k B c (mLamp k (mDry (mEnergy k (mThrow k (mFall (mTurns k (mSteps k h (s2 g 0 4 ((g 0 4) + 1))))))))) = ov G al k B c (mTick k h g) from (by unfold mTick mTick0; rw [if_pos hc_1]; try rfl))
    refine W.widen (k := 0) (n := 0) (Nat.le_of_ble_eq_true rfl) (Nat.le_of_ble_eq_true rfl) ?_
    exact W.iret (v := mFallIn (mTurns k (mSteps k h (s2 g 0 4 ((g 0 4) + 1)))) ((mTurns k (mSteps k h (s2 g 0 4 ((g 0 4) + 1)))) 0 4)) hx hb hr (fun tz htz hW => ⟨⟨mFallIn (mTurns k (mSteps k h (s2 g 0 4 ((g 0 4) + 1)))) ((mTurns k (mSteps k h (s2 g 0 4 ((g 0 4) + 1)))) 0 4), (), rfl, (by unfold mDown mTick0; rw [if_pos hc_1]; try rfl), g_end htz hP⟩, hS.F htz⟩) hS.2.2 dX5_tick_47
set_option maxHeartbeats 4000000 in
set_option maxRecDepth 100000 in
theorem kX5_setPumpOfNumber (l : Launch) (G : gT) (al : Nat → Nat) (k : gC) (h : gK) (B : Nat) (c : mC) (g : St) (p : Nat) (v : Int32) (hF : gF G al k B c) (hp : p < 2) : Met l yX5_setPumpOfNumber (fW yX5_setPumpOfNumber cX5_setPumpOfNumber 3 none) { frames := 3, cells := 0, slots := 0, locals := 64 } (gPre G al (ov G al k B c g) [.ref (al B), .int (nI p), .int v]) (gQv (S := Unit) G (fun _ => al) (fun _ => ov G al k B c (mSetTo g p v))) 0 0 (gA G) := by
  refine Met.ofW (cc := cX5_setPumpOfNumber) (maxL := 3) (ret := none) (by decide) rfl ?_
  intro pz ez s m args below meth c₀ s₁ Bo hml hv
  obtain ⟨rfl, hb0, hP, hE⟩ := hv
  have hx := Bo.exec
  have hb := Bo.bytes
  have hr := Bo.returns
  have hts0 := atoms_spec (ws := (fW yX5_setPumpOfNumber cX5_setPumpOfNumber 3 none)) Bo.pre
  have hts : ∀ w ∈ fA, w.before _ s = true := fun w h => hts0 w (List.mem_cons_of_mem _ h)
  have hown : s.vm.findClass RX5 = some m.cls := findClass_of_methodNamed Bo.named
  have hlocks := Bo.notSynchronized
  have hl := lv_entry ([.ref (al B), .int (nI p), .int v]) (n := 3) (Nat.le_of_ble_eq_true rfl)
  rw [lg_entry_eq]
  generalize (lg_sl ([.ref (al B), .int (nI p), .int v]) ++ List.replicate (3 - (lg_sl ([.ref (al B), .int (nI p), .int v])).length) Slot.unset).toArray = ls at hl ⊢
  have hl : lv_has ls 3 [(0, .ref (al B)), (1, .int (nI p)), (2, .int v)] := hl
  have hJ := gF_J hF
  refine g_start hP (fun H hP hS => ?_)
  refine lv_iload_n hx hb dX5_setPumpOfNumber_0 rfl (lv_at hl 1 rfl) ?_
  refine lv_if_lt (tgt := 30) hx hb dX5_setPumpOfNumber_1 (by decide) (fun h => absurd h (nI_pos (by omega))) (fun _ => ?_)
  refine lv_iload_n hx hb dX5_setPumpOfNumber_4 rfl (lv_at hl 1 rfl) ?_
  refine lv_aload_n hx hb dX5_setPumpOfNumber_5 rfl (lv_at hl 0 rfl) ?_
  refine m_get (C := RX5) (T := TX5) (N := 15) (ci := 6) (v := .ref (al (B + 1))) hx hb hts uX5 hown hE hP B rfl ov_s rfl 0 (by decide) (hts _ q173) (fun _ h9 => h9) rfl dX5_setPumpOfNumber_6 ?_
  refine g_aft_i (g_runV (As := []) (rest := [.int (nI p)]) hx hb hml hown hts (kJx4a65c_size_8abf5 l G al (ov G al k B c g) (B + 1) (B + 2) 2 (fun p => B + 11 + p) (gF_p hF)) (fcwV 0 hts q187 q53 q54 q50 q34 rfl rfl (by decide +kernel) ⟨(Nat.le_of_ble_eq_true rfl), (Nat.le_of_ble_eq_true rfl)⟩) hE hb0 hP hS (m_recvL hE hP (gF_p hF) rfl) rfl hl.1 rfl (Nat.le_of_ble_eq_true rfl) dX5_setPumpOfNumber_9 ⟨(Nat.le_of_ble_eq_true rfl), (Nat.le_of_ble_eq_true rfl)⟩) hS (fun u H locs hP hS => ?_)
  refine f_topi (v := nI 2) rfl ?_
  refine lv_icmp_ge (tgt := 30) hx hb dX5_setPumpOfNumber_12 (by decide) (fun h => absurd h (nI_ge (b := 2) hp (by omega))) (fun _ => ?_)
  refine lv_aload_n hx hb dX5_setPumpOfNumber_15 rfl (lv_at hl 0 rfl) ?_
  refine m_get (C := RX5) (T := TX5) (N := 15) (ci := 6) (v := .ref (al (B + 1))) hx hb hts uX5 hown hE hP B rfl ov_s rfl 0 (by decide) (hts _ q173) (fun _ h9 => h9) rfl dX5_setPumpOfNumber_16 ?_
  refine lv_iload_n hx hb dX5_setPumpOfNumber_19 rfl (lv_at hl 1 rfl) ?_
  refine g_aft_r (g_runV (As := [.int (nI p)]) (rest := []) hx hb hml hown hts (kJx4a65c_get_915e3 l G al (ov G al k B c g) (B + 1) (B + 2) 2 (fun p => B + 11 + p) p (gF_p hF) hp) (fcwV 1 hts q188 q56 q57 q50 q43 rfl rfl (by decide +kernel) ⟨(Nat.le_of_ble_eq_true rfl), (Nat.le_of_ble_eq_true rfl)⟩) hE hb0 hP hS (m_recvL hE hP (gF_p hF) rfl) rfl hl.1 rfl (Nat.le_of_ble_eq_true rfl) dX5_setPumpOfNumber_20 ⟨(Nat.le_of_ble_eq_true rfl), (Nat.le_of_ble_eq_true rfl)⟩) hS (fun u H locs hP hS => ?_)
  refine g_topr (v := al (B + 11 + p)) rfl ?_
  refine m_cast hx hb hown (hts _ q186) hE hP (B + 11 + p) rfl (ov_p hp) rfl dX5_setPumpOfNumber_23 ?_
  refine lv_iload_n hx hb dX5_setPumpOfNumber_26 rfl (lv_at hl 2 rfl) ?_
  refine g_aft_v (g_runV (As := [.int v]) (rest := []) hx hb hml hown hts (kX4_setTo l G al k h B c g p v hp) (fcwV 1 hts q193 q157 q158 q159 q152 rfl rfl (by decide +kernel) ⟨(Nat.le_of_ble_eq_true rfl), (Nat.le_of_ble_eq_true rfl)⟩) hE hb0 hP hS (m_recvA hE hP (B + 11 + p) rfl (ov_p hp) rfl) rfl hl.1 rfl (Nat.le_of_ble_eq_true rfl) dX5_setPumpOfNumber_27 ⟨(Nat.le_of_ble_eq_true rfl), (Nat.le_of_ble_eq_true rfl)⟩) hS (fun u H locs hP hS => ?_)
  have hP : mP G al (ov G al k B c (mSetTo g p v)) H := hP
  refine W.widen (k := 0) (n := 0) (Nat.le_of_ble_eq_true rfl) (Nat.le_of_ble_eq_true rfl) ?_
  exact W.vret hx hb hr (fun tz htz hW => ⟨⟨(), rfl, trivial, g_end htz hP⟩, hS.F htz⟩) hS.2.2 dX5_setPumpOfNumber_30
set_option maxHeartbeats 4000000 in
set_option maxRecDepth 100000 in
theorem kX5_heightOfNumber (l : Launch) (G : gT) (al : Nat → Nat) (k : gC) (h : gK) (B : Nat) (c : mC) (g : St) (j : Nat) (hF : gF G al k B c) (hj : j < k.1) : Met l yX5_heightOfNumber (fW yX5_heightOfNumber cX5_heightOfNumber 2 (some .int)) { frames := 5, cells := 0, slots := 0, locals := 109 } (gPre G al (ov G al k B c g) [.ref (al B), .int (nI j)]) (gQi (S := Unit) G (fun _ => mHt k g j) (fun _ => al) (fun _ => ov G al k B c g)) 0 0 (gA G) := by
  refine Met.ofW (cc := cX5_heightOfNumber) (maxL := 2) (ret := (some .int)) (by decide) rfl ?_
  intro pz ez s m args below meth c₀ s₁ Bo hml hv
  obtain ⟨rfl, hb0, hP, hE⟩ := hv
  have hx := Bo.exec
  have hb := Bo.bytes
  have hr := Bo.returns
  have hts0 := atoms_spec (ws := (fW yX5_heightOfNumber cX5_heightOfNumber 2 (some .int))) Bo.pre
  have hts : ∀ w ∈ fA, w.before _ s = true := fun w h => hts0 w (List.mem_cons_of_mem _ h)
  have hown : s.vm.findClass RX5 = some m.cls := findClass_of_methodNamed Bo.named
  have hlocks := Bo.notSynchronized
  have hl := lv_entry ([.ref (al B), .int (nI j)]) (n := 2) (Nat.le_of_ble_eq_true rfl)
  rw [lg_entry_eq]
  generalize (lg_sl ([.ref (al B), .int (nI j)]) ++ List.replicate (2 - (lg_sl ([.ref (al B), .int (nI j)])).length) Slot.unset).toArray = ls at hl ⊢
  have hl : lv_has ls 2 [(0, .ref (al B)), (1, .int (nI j))] := hl
  have hJ := gF_J hF
  refine g_start hP (fun H hP hS => ?_)
  refine lv_iload_n hx hb dX5_heightOfNumber_0 rfl (lv_at hl 1 rfl) ?_
  refine lv_if_lt (tgt := 33) hx hb dX5_heightOfNumber_1 (by decide) (fun h => absurd h (nI_pos (by omega))) (fun _ => ?_)
  refine lv_iload_n hx hb dX5_heightOfNumber_4 rfl (lv_at hl 1 rfl) ?_
  refine lv_aload_n hx hb dX5_heightOfNumber_5 rfl (lv_at hl 0 rfl) ?_
  refine m_get (C := RX5) (T := TX5) (N := 15) (ci := 6) (v := .ref (al (B + 3))) hx hb hts uX5 hown hE hP B rfl ov_s rfl 1 (by decide) (hts _ q174) (fun _ h9 => h9) rfl dX5_heightOfNumber_6 ?_
  refine g_aft_i (g_runV (As := []) (rest := [.int (nI j)]) hx hb hml hown hts (kJx4a65c_size_8abf5 l G al (ov G al k B c g) (B + 3) (B + 4) k.1 (fun j => B + 20 + j) (gF_j hF)) (fcwV 0 hts q187 q53 q54 q50 q34 rfl rfl (by decide +kernel) ⟨(Nat.le_of_ble_eq_true rfl), (Nat.le_of_ble_eq_true rfl)⟩) hE hb0 hP hS (m_recvL hE hP (gF_j hF) rfl) rfl hl.1 rfl (Nat.le_of_ble_eq_true rfl) dX5_heightOfNumber_9 ⟨(Nat.le_of_ble_eq_true rfl), (Nat.le_of_ble_eq_true rfl)⟩) hS (fun u H locs hP hS => ?_)
  refine f_topi (v := nI k.1) rfl ?_
  refine lv_icmp_ge (tgt := 33) hx hb dX5_heightOfNumber_12 (by decide) (fun h => absurd h (nI_ge hj (by omega))) (fun _ => ?_)
  refine lv_aload_n hx hb dX5_heightOfNumber_15 rfl (lv_at hl 0 rfl) ?_
  refine lv_aload_n hx hb dX5_heightOfNumber_16 rfl (lv_at hl 0 rfl) ?_
  refine m_get (C := RX5) (T := TX5) (N := 15) (ci := 6) (v := .ref (al (B + 3))) hx hb hts uX5 hown hE hP B rfl ov_s rfl 1 (by decide) (hts _ q174) (fun _ h9 => h9) rfl dX5_heightOfNumber_17 ?_
  refine lv_iload_n hx hb dX5_heightOfNumber_20 rfl (lv_at hl 1 rfl) ?_
  refine g_aft_r (g_runV (As := [.int (nI j)]) (rest := [.ref (al B)]) hx hb hml hown hts (kJx4a65c_get_915e3 l G al (ov G al k B c g) (B + 3) (B + 4) k.1 (fun j => B + 20 + j) j (gF_j hF) hj) (fcwV 1 hts q188 q56 q57 q50 q43 rfl rfl (by decide +kernel) ⟨(Nat.le_of_ble_eq_true rfl), (Nat.le_of_ble_eq_true rfl)⟩) hE hb0 hP hS (m_recvL hE hP (gF_j hF) rfl) rfl hl.1 rfl (Nat.le_of_ble_eq_true rfl) dX5_heightOfNumber_21 ⟨(Nat.le_of_ble_eq_true rfl), (Nat.le_of_ble_eq_true rfl)⟩) hS (fun u H locs hP hS => ?_)
  refine g_topr (v := al (B + 20 + j)) rfl ?_
  refine m_cast hx hb hown (hts _ q196) hE hP (B + 20 + j) rfl (ov_j hj) rfl dX5_heightOfNumber_24 ?_
  refine g_aft_i (g_runV (As := [.ref (al (B + 20 + j))]) (rest := []) hx hb hml hown hts (kX5_heightOf l G al k h B c g j hF hj) (fcwV 1 hts q214 q215 q216 q211 q213 rfl rfl (by decide +kernel) ⟨(Nat.le_of_ble_eq_true rfl), (Nat.le_of_ble_eq_true rfl)⟩) hE hb0 hP hS (m_recvA hE hP B rfl ov_s rfl) rfl hl.1 rfl (Nat.le_of_ble_eq_true rfl) dX5_heightOfNumber_27 ⟨(Nat.le_of_ble_eq_true rfl), (Nat.le_of_ble_eq_true rfl)⟩) hS (fun u H locs hP hS => ?_)
  have hP : mP G al (ov G al k B c g) H := hP
  refine f_topi (v := mHt k g j) rfl ?_
  refine lv_goto (tgt := 34) hx hb dX5_heightOfNumber_30 (by decide) ?_
  refine W.widen (k := 0) (n := 0) (Nat.le_of_ble_eq_true rfl) (Nat.le_of_ble_eq_true rfl) ?_
  exact W.iret (v := mHt k g j) hx hb hr (fun tz htz hW => ⟨⟨mHt k g j, (), rfl, rfl, g_end htz hP⟩, hS.F htz⟩) hS.2.2 dX5_heightOfNumber_34
end
section
theorem zz_last : True := trivial
end
