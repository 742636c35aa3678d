/-! ===== BEGIN printed: names, fields, word lists, decode rows ===== -/
def RX0 : String := "TrolleyGang$Bus"
def TX0 : u_T := fun k => match k with
  | 0 => ("TrolleyGang$Bus", "at", "I", false)
  | 1 => ("TrolleyGang$Bus", "hasScraper", "Z", false)
  | 2 => ("TrolleyGang$Bus", "runs", "Z", false)
  | 3 => ("TrolleyGang$Bus", "spansInAll", "I", false)
  | 4 => ("TrolleyGang$Bus", "faresInAll", "I", false)
  | _ => ("TrolleyGang$Bus", "hoursStuck", "I", false)
def tyX0 : Nat → FieldType := fun k => match k with
  | 0 => .int
  | 1 => .boolean
  | 2 => .boolean
  | 3 => .int
  | 4 => .int
  | _ => .int
abbrev wsX00 : List Cond := u_ws RX0 TX0 6
theorem nmX0 : ∀ a, a < 6 → ∀ b, b < 6 → a ≠ b → (TX0 a).2.1 ≠ (TX0 b).2.1 := by decide +kernel
theorem tyX0_ok : ∀ k, k < 6 → parseFieldDescriptor (TX0 k).2.2.1 = some (tyX0 k) := by decide +kernel
abbrev cX0_init : ByteArray := prog_2_method_1_code
def yX0_init : MethodName := ⟨RX0, "<init>", "()V"⟩
abbrev cX0_come : ByteArray := prog_2_method_2_code
def yX0_come : MethodName := ⟨RX0, "come", "(IZ)V"⟩
abbrev cX0_copyFrom : ByteArray := prog_2_method_3_code
def yX0_copyFrom : MethodName := ⟨RX0, "copyFrom", "(LTrolleyGang$Bus;)V"⟩
def RX1 : String := "TrolleyGang$Gang"
def TX1 : u_T := fun k => match k with
  | 0 => ("TrolleyGang$Gang", "orders", "[I", true)
  | 1 => ("TrolleyGang$Gang", "orderCount", "I", false)
  | 2 => ("TrolleyGang$Gang", "at", "I", false)
  | 3 => ("TrolleyGang$Gang", "worksAtFirst", "I", false)
  | 4 => ("TrolleyGang$Gang", "worksInAll", "I", false)
  | _ => ("TrolleyGang$Gang", "putUpInAll", "I", false)
def tyX1 : Nat → FieldType := fun k => match k with
  | 0 => .array .int
  | 1 => .int
  | 2 => .int
  | 3 => .int
  | 4 => .int
  | _ => .int
abbrev wsX10 : List Cond := u_ws RX1 TX1 6
theorem nmX1 : ∀ a, a < 6 → ∀ b, b < 6 → a ≠ b → (TX1 a).2.1 ≠ (TX1 b).2.1 := by decide +kernel
theorem tyX1_ok : ∀ k, k < 6 → parseFieldDescriptor (TX1 k).2.2.1 = some (tyX1 k) := by decide +kernel
abbrev cX1_init : ByteArray := prog_3_method_1_code
def yX1_init : MethodName := ⟨RX1, "<init>", "()V"⟩
abbrev cX1_copyFrom : ByteArray := prog_3_method_2_code
def yX1_copyFrom : MethodName := ⟨RX1, "copyFrom", "(LTrolleyGang$Gang;)V"⟩
abbrev cX1_placeOf : ByteArray := prog_3_method_3_code
def yX1_placeOf : MethodName := ⟨RX1, "placeOf", "(I)I"⟩
abbrev cX1_takeOut : ByteArray := prog_3_method_4_code
def yX1_takeOut : MethodName := ⟨RX1, "takeOut", "(I)V"⟩
abbrev cX1_haveOnly : ByteArray := prog_3_method_5_code
def yX1_haveOnly : MethodName := ⟨RX1, "haveOnly", "(I)V"⟩
abbrev cX1_spansUpwardsToFirst : ByteArray := prog_3_method_6_code
def yX1_spansUpwardsToFirst : MethodName := ⟨RX1, "spansUpwardsToFirst", "()I"⟩
abbrev cX1_hoursToFirst : ByteArray := prog_3_method_7_code
def yX1_hoursToFirst : MethodName := ⟨RX1, "hoursToFirst", "()I"⟩
abbrev cX1_goToFirst : ByteArray := prog_3_method_8_code
def yX1_goToFirst : MethodName := ⟨RX1, "goToFirst", "()V"⟩
def RX2 : String := "TrolleyGang$Ring"
def TX2 : u_T := fun k => match k with
  | 0 => ("TrolleyGang$Ring", "wires", "LTrolleyGang$Wires;", true)
  | 1 => ("TrolleyGang$Ring", "gang", "LTrolleyGang$Gang;", true)
  | 2 => ("TrolleyGang$Ring", "buses", "[LTrolleyGang$Bus;", true)
  | 3 => ("TrolleyGang$Ring", "busCount", "I", false)
  | 4 => ("TrolleyGang$Ring", "hour", "I", false)
  | _ => ("TrolleyGang$Ring", "coins", "I", false)
def tyX2 : Nat → FieldType := fun k => match k with
  | 0 => .object "TrolleyGang$Wires"
  | 1 => .object "TrolleyGang$Gang"
  | 2 => .array (.object "TrolleyGang$Bus")
  | 3 => .int
  | 4 => .int
  | _ => .int
abbrev wsX20 : List Cond := u_ws RX2 TX2 6
theorem nmX2 : ∀ a, a < 6 → ∀ b, b < 6 → a ≠ b → (TX2 a).2.1 ≠ (TX2 b).2.1 := by decide +kernel
theorem tyX2_ok : ∀ k, k < 6 → parseFieldDescriptor (TX2 k).2.2.1 = some (tyX2 k) := by decide +kernel
abbrev cX2_init : ByteArray := prog_4_method_1_code
def yX2_init : MethodName := ⟨RX2, "<init>", "()V"⟩
abbrev cX2_copyFrom : ByteArray := prog_4_method_2_code
def yX2_copyFrom : MethodName := ⟨RX2, "copyFrom", "(LTrolleyGang$Ring;)V"⟩
abbrev cX2_letGoBy : ByteArray := prog_4_method_3_code
def yX2_letGoBy : MethodName := ⟨RX2, "letGoBy", "(ILTrolleyGang$Tables;)V"⟩
abbrev cX2_letHourGoBy : ByteArray := prog_4_method_4_code
def yX2_letHourGoBy : MethodName := ⟨RX2, "letHourGoBy", "(LTrolleyGang$Tables;)V"⟩
abbrev cX2_letSwanFly : ByteArray := prog_4_method_5_code
def yX2_letSwanFly : MethodName := ⟨RX2, "letSwanFly", "(I)V"⟩
abbrev cX2_drive : ByteArray := prog_4_method_6_code
def yX2_drive : MethodName := ⟨RX2, "drive", "(LTrolleyGang$Bus;I)V"⟩
abbrev cX2_letGangWork : ByteArray := prog_4_method_7_code
def yX2_letGangWork : MethodName := ⟨RX2, "letGangWork", "()V"⟩
abbrev cX2_isOrderDoneByWorkAt : ByteArray := prog_4_method_8_code
def yX2_isOrderDoneByWorkAt : MethodName := ⟨RX2, "isOrderDoneByWorkAt", "(I)Z"⟩
abbrev cX2_tally : ByteArray := prog_4_method_9_code
def yX2_tally : MethodName := ⟨RX2, "tally", "(I)I"⟩
abbrev cX2_busesAt : ByteArray := prog_4_method_10_code
def yX2_busesAt : MethodName := ⟨RX2, "busesAt", "(I)I"⟩
abbrev cX2_busesRunning : ByteArray := prog_4_method_11_code
def yX2_busesRunning : MethodName := ⟨RX2, "busesRunning", "()I"⟩
abbrev cX2_hoursStuckInAll : ByteArray := prog_4_method_12_code
def yX2_hoursStuckInAll : MethodName := ⟨RX2, "hoursStuckInAll", "()I"⟩
def RX3 : String := "TrolleyGang$Tables"
def TX3 : u_T := fun k => match k with
  | 0 => ("TrolleyGang$Tables", "colds", "[I", true)
  | 1 => ("TrolleyGang$Tables", "swans", "[I", true)
  | 2 => ("TrolleyGang$Tables", "fareByDay", "I", false)
  | _ => ("TrolleyGang$Tables", "fareByNight", "I", false)
def tyX3 : Nat → FieldType := fun k => match k with
  | 0 => .array .int
  | 1 => .array .int
  | 2 => .int
  | _ => .int
abbrev wsX30 : List Cond := u_ws RX3 TX3 4
theorem nmX3 : ∀ a, a < 4 → ∀ b, b < 4 → a ≠ b → (TX3 a).2.1 ≠ (TX3 b).2.1 := by decide +kernel
theorem tyX3_ok : ∀ k, k < 4 → parseFieldDescriptor (TX3 k).2.2.1 = some (tyX3 k) := by decide +kernel
abbrev cX3_init : ByteArray := prog_5_method_1_code
def yX3_init : MethodName := ⟨RX3, "<init>", "()V"⟩
abbrev cX3_fare : ByteArray := prog_5_method_2_code
def yX3_fare : MethodName := ⟨RX3, "fare", "(Z)I"⟩
def RX4 : String := "TrolleyGang$Wires"
def TX4 : u_T := fun k => match k with
  | 0 => ("TrolleyGang$Wires", "worn", "[I", true)
  | _ => ("TrolleyGang$Wires", "frost", "[I", true)
def tyX4 : Nat → FieldType := fun k => match k with
  | 0 => .array .int
  | _ => .array .int
abbrev wsX40 : List Cond := u_ws RX4 TX4 2
theorem nmX4 : ∀ a, a < 2 → ∀ b, b < 2 → a ≠ b → (TX4 a).2.1 ≠ (TX4 b).2.1 := by decide +kernel
theorem tyX4_ok : ∀ k, k < 2 → parseFieldDescriptor (TX4 k).2.2.1 = some (tyX4 k) := by decide +kernel
abbrev cX4_init : ByteArray := prog_6_method_1_code
def yX4_init : MethodName := ⟨RX4, "<init>", "()V"⟩
abbrev cX4_copyFrom : ByteArray := prog_6_method_2_code
def yX4_copyFrom : MethodName := ⟨RX4, "copyFrom", "(LTrolleyGang$Wires;)V"⟩
abbrev cX4_isDown : ByteArray := prog_6_method_3_code
def yX4_isDown : MethodName := ⟨RX4, "isDown", "(I)Z"⟩
abbrev cX4_putUp : ByteArray := prog_6_method_4_code
def yX4_putUp : MethodName := ⟨RX4, "putUp", "(I)V"⟩
abbrev cX4_wear : ByteArray := prog_6_method_5_code
def yX4_wear : MethodName := ⟨RX4, "wear", "(II)V"⟩
abbrev cX4_mend : ByteArray := prog_6_method_6_code
def yX4_mend : MethodName := ⟨RX4, "mend", "(II)V"⟩
abbrev cX4_freeze : ByteArray := prog_6_method_7_code
def yX4_freeze : MethodName := ⟨RX4, "freeze", "(I)V"⟩
abbrev cX4_thaw : ByteArray := prog_6_method_8_code
def yX4_thaw : MethodName := ⟨RX4, "thaw", "()V"⟩
abbrev cX4_spansUpBehind : ByteArray := prog_6_method_9_code
def yX4_spansUpBehind : MethodName := ⟨RX4, "spansUpBehind", "(I)I"⟩
abbrev cX4_spansDown : ByteArray := prog_6_method_10_code
def yX4_spansDown : MethodName := ⟨RX4, "spansDown", "()I"⟩
abbrev cX4_wornInAll : ByteArray := prog_6_method_11_code
def yX4_wornInAll : MethodName := ⟨RX4, "wornInAll", "()I"⟩
abbrev cX4_frostInAll : ByteArray := prog_6_method_12_code
def yX4_frostInAll : MethodName := ⟨RX4, "frostInAll", "()I"⟩
def RX5 : String := "TrolleyGang"
def TX5 : u_T := fun k => match k with
  | 0 => ("TrolleyGang", "tables", "LTrolleyGang$Tables;", true)
  | 1 => ("TrolleyGang", "now", "LTrolleyGang$Ring;", true)
  | _ => ("TrolleyGang", "ahead", "LTrolleyGang$Ring;", true)
def tyX5 : Nat → FieldType := fun k => match k with
  | 0 => .object "TrolleyGang$Tables"
  | 1 => .object "TrolleyGang$Ring"
  | _ => .object "TrolleyGang$Ring"
abbrev wsX50 : List Cond := u_ws RX5 TX5 3
theorem nmX5 : ∀ a, a < 3 → ∀ b, b < 3 → a ≠ b → (TX5 a).2.1 ≠ (TX5 b).2.1 := by decide +kernel
theorem tyX5_ok : ∀ k, k < 3 → parseFieldDescriptor (TX5 k).2.2.1 = some (tyX5 k) := by decide +kernel
abbrev cX5_init : ByteArray := prog_1_method_1_code
def yX5_init : MethodName := ⟨RX5, "<init>", "()V"⟩
abbrev cX5_setCold : ByteArray := prog_1_method_2_code
def yX5_setCold : MethodName := ⟨RX5, "setCold", "(II)I"⟩
abbrev cX5_setSwan : ByteArray := prog_1_method_3_code
def yX5_setSwan : MethodName := ⟨RX5, "setSwan", "(II)I"⟩
abbrev cX5_setFare : ByteArray := prog_1_method_4_code
def yX5_setFare : MethodName := ⟨RX5, "setFare", "(ZI)I"⟩
abbrev cX5_bus : ByteArray := prog_1_method_5_code
def yX5_bus : MethodName := ⟨RX5, "bus", "(IZ)I"⟩
abbrev cX5_park : ByteArray := prog_1_method_7_code
def yX5_park : MethodName := ⟨RX5, "park", "(I)Z"⟩
abbrev cX5_told : ByteArray := prog_1_method_8_code
def yX5_told : MethodName := ⟨RX5, "told", "(II)I"⟩
abbrev cX5_span : ByteArray := prog_1_method_9_code
def yX5_span : MethodName := ⟨RX5, "span", "(II)I"⟩
abbrev cX5_order : ByteArray := prog_1_method_10_code
def yX5_order : MethodName := ⟨RX5, "order", "(I)I"⟩
abbrev cX5_cancel : ByteArray := prog_1_method_11_code
def yX5_cancel : MethodName := ⟨RX5, "cancel", "(I)I"⟩
abbrev cX5_gang : ByteArray := prog_1_method_12_code
def yX5_gang : MethodName := ⟨RX5, "gang", "(I)I"⟩
abbrev cX5_count : ByteArray := prog_1_method_13_code
def yX5_count : MethodName := ⟨RX5, "count", "(I)I"⟩
abbrev cX5_pass : ByteArray := prog_1_method_14_code
def yX5_pass : MethodName := ⟨RX5, "pass", "(I)I"⟩
abbrev cX5_falls : ByteArray := prog_1_method_15_code
def yX5_falls : MethodName := ⟨RX5, "falls", "(I)I"⟩
abbrev cX5_foresee : ByteArray := prog_1_method_16_code
def yX5_foresee : MethodName := ⟨RX5, "foresee", "(II)I"⟩
abbrev cX5_advise : ByteArray := prog_1_method_17_code
def yX5_advise : MethodName := ⟨RX5, "advise", "(I)I"⟩
abbrev cX5_digest : ByteArray := prog_1_method_19_code
def yX5_digest : MethodName := ⟨RX5, "digest", "()J"⟩
abbrev cX5_digestOfTables : ByteArray := prog_1_method_20_code
def yX5_digestOfTables : MethodName := ⟨RX5, "digestOfTables", "(J)J"⟩
abbrev cX5_coinsWithOnlyOrder : ByteArray := prog_1_method_21_code
def yX5_coinsWithOnlyOrder : MethodName := ⟨RX5, "coinsWithOnlyOrder", "(II)I"⟩
abbrev cX5_checkBus : ByteArray := prog_1_method_22_code
def yX5_checkBus : MethodName := ⟨RX5, "checkBus", "(I)V"⟩
abbrev cX5_checkSpan : ByteArray := prog_1_method_23_code
def yX5_checkSpan : MethodName := ⟨RX5, "checkSpan", "(I)V"⟩
abbrev cX5_checkWhat : ByteArray := prog_1_method_24_code
def yX5_checkWhat : MethodName := ⟨RX5, "checkWhat", "(II)V"⟩
abbrev cX5_checkHours : ByteArray := prog_1_method_25_code
def yX5_checkHours : MethodName := ⟨RX5, "checkHours", "(II)V"⟩
abbrev cX5_oneIf : ByteArray := prog_1_method_26_code
def yX5_oneIf : MethodName := ⟨RX5, "oneIf", "(Z)I"⟩
abbrev cX5_isNightAt : ByteArray := prog_1_method_27_code
def yX5_isNightAt : MethodName := ⟨RX5, "isNightAt", "(I)Z"⟩
def RX6 : String := "TrolleyGangModel"
def TX6 : u_T := fun k => match k with
  | _ => ("", "", "", false)
def tyX6 : Nat → FieldType := fun k => match k with
  | _ => .int
abbrev wsX60 : List Cond := u_ws RX6 TX6 0
theorem nmX6 : ∀ a, a < 0 → ∀ b, b < 0 → a ≠ b → (TX6 a).2.1 ≠ (TX6 b).2.1 := by decide +kernel
theorem tyX6_ok : ∀ k, k < 0 → parseFieldDescriptor (TX6 k).2.2.1 = some (tyX6 k) := by decide +kernel
def RJ9 : String := "java/lang/Math"
def TJ9 : u_T := fun k => match k with
  | _ => ("", "", "", false)
def tyJ9 : Nat → FieldType := fun k => match k with
  | _ => .int
abbrev wsJ90 : List Cond := u_ws RJ9 TJ9 0
theorem nmJ9 : ∀ a, a < 0 → ∀ b, b < 0 → a ≠ b → (TJ9 a).2.1 ≠ (TJ9 b).2.1 := by decide +kernel
theorem tyJ9_ok : ∀ k, k < 0 → parseFieldDescriptor (TJ9 k).2.2.1 = some (tyJ9 k) := by decide +kernel
abbrev cJ9_floorMod_7cf53 : ByteArray := prog_13_method_50_code
def yJ9_floorMod_7cf53 : MethodName := ⟨RJ9, "floorMod", "(II)I"⟩
abbrev cJ9_max_7cf53 : ByteArray := prog_13_method_65_code
def yJ9_max_7cf53 : MethodName := ⟨RJ9, "max", "(II)I"⟩
abbrev cJ9_min_7cf53 : ByteArray := prog_13_method_69_code
def yJ9_min_7cf53 : MethodName := ⟨RJ9, "min", "(II)I"⟩
def RJ0 : String := "java/lang/String"
def TJ0 : u_T := fun k => match k with
  | _ => ("", "", "", false)
def tyJ0 : Nat → FieldType := fun k => match k with
  | _ => .int
abbrev wsJ00 : List Cond := u_ws RJ0 TJ0 0
theorem nmJ0 : ∀ a, a < 0 → ∀ b, b < 0 → a ≠ b → (TJ0 a).2.1 ≠ (TJ0 b).2.1 := by decide +kernel
theorem tyJ0_ok : ∀ k, k < 0 → parseFieldDescriptor (TJ0 k).2.2.1 = some (tyJ0 k) := by decide +kernel
def RJ10 : String := "java/lang/System"
def TJ10 : u_T := fun k => match k with
  | _ => ("", "", "", false)
def tyJ10 : Nat → FieldType := fun k => match k with
  | _ => .int
abbrev wsJ100 : List Cond := u_ws RJ10 TJ10 0
theorem nmJ10 : ∀ a, a < 0 → ∀ b, b < 0 → a ≠ b → (TJ10 a).2.1 ≠ (TJ10 b).2.1 := by decide +kernel
theorem tyJ10_ok : ∀ k, k < 0 → parseFieldDescriptor (TJ10 k).2.2.1 = some (tyJ10 k) := by decide +kernel
def RL : String := "TrolleyGangLaw"
abbrev cL_below : ByteArray := method_2_code
def yL_below : MethodName := ⟨RL, "below", "(II)I"⟩
abbrev cL_cell : ByteArray := method_3_code
def yL_cell : MethodName := ⟨RL, "cell", "([II)I"⟩
abbrev cL_ring : ByteArray := method_4_code
def yL_ring : MethodName := ⟨RL, "ring", "([II)LTrolleyGang;"⟩
abbrev cL_coldOf : ByteArray := method_5_code
def yL_coldOf : MethodName := ⟨RL, "coldOf", "([II)I"⟩
abbrev cL_swanOf : ByteArray := method_6_code
def yL_swanOf : MethodName := ⟨RL, "swanOf", "([II)I"⟩
abbrev cL_law : ByteArray := code
def yL_law : MethodName := ⟨RL, "law", "([I)Z"⟩
def wsX0_init : List Cond := .code yX0_init cX0_init 1 none :: ([.methodLink RX0 1 objectInit, .instanceMethod objectInit, .code objectInit ⟨#[0xb1]⟩ 1 none])
def wsX0_come : List Cond := .code yX0_come cX0_come 3 none :: ([.fieldLink RX0 7 "TrolleyGang$Bus" "at" "I", .fieldLink RX0 13 "TrolleyGang$Bus" "hasScraper" "Z", .fieldLink RX0 17 "TrolleyGang$Bus" "runs" "Z"] ++ wsX00)
def wsX0_copyFrom : List Cond := .code yX0_copyFrom cX0_copyFrom 2 none :: ([.fieldLink RX0 7 "TrolleyGang$Bus" "at" "I", .fieldLink RX0 13 "TrolleyGang$Bus" "hasScraper" "Z", .fieldLink RX0 17 "TrolleyGang$Bus" "runs" "Z", .fieldLink RX0 20 "TrolleyGang$Bus" "spansInAll" "I", .fieldLink RX0 23 "TrolleyGang$Bus" "faresInAll" "I", .fieldLink RX0 26 "TrolleyGang$Bus" "hoursStuck" "I"] ++ wsX00)
def wsX1_init : List Cond := .code yX1_init cX1_init 1 none :: ([.methodLink RX1 3 objectInit, .instanceMethod objectInit, .code objectInit ⟨#[0xb1]⟩ 1 none, .arrayClass .int, .fieldLink RX1 9 "TrolleyGang$Gang" "orders" "[I"] ++ wsX10)
def wsX1_copyFrom : List Cond := .code yX1_copyFrom cX1_copyFrom 2 none :: ([.fieldLink RX1 9 "TrolleyGang$Gang" "orders" "[I", .methodLink RX1 15 arraycopyName, .native arraycopyName, .static arraycopyName, .initialized "java/lang/System", .fieldLink RX1 21 "TrolleyGang$Gang" "orderCount" "I", .fieldLink RX1 25 "TrolleyGang$Gang" "at" "I", .fieldLink RX1 28 "TrolleyGang$Gang" "worksAtFirst" "I", .fieldLink RX1 31 "TrolleyGang$Gang" "worksInAll" "I", .fieldLink RX1 34 "TrolleyGang$Gang" "putUpInAll" "I"] ++ wsX10)
def wsX1_placeOf : List Cond := .code yX1_placeOf cX1_placeOf 3 (some .int) :: ([.fieldLink RX1 21 "TrolleyGang$Gang" "orderCount" "I", .fieldLink RX1 9 "TrolleyGang$Gang" "orders" "[I"] ++ wsX10)
def wsX1_takeOut : List Cond := .code yX1_takeOut cX1_takeOut 3 none :: ([.fieldLink RX1 21 "TrolleyGang$Gang" "orderCount" "I", .fieldLink RX1 9 "TrolleyGang$Gang" "orders" "[I", .fieldLink RX1 28 "TrolleyGang$Gang" "worksAtFirst" "I"] ++ wsX10)
def wsX1_haveOnly : List Cond := .code yX1_haveOnly cX1_haveOnly 2 none :: ([.fieldLink RX1 21 "TrolleyGang$Gang" "orderCount" "I", .fieldLink RX1 28 "TrolleyGang$Gang" "worksAtFirst" "I", .fieldLink RX1 9 "TrolleyGang$Gang" "orders" "[I"] ++ wsX10)
def wsX1_spansUpwardsToFirst : List Cond := .code yX1_spansUpwardsToFirst cX1_spansUpwardsToFirst 1 (some .int) :: ([.fieldLink RX1 9 "TrolleyGang$Gang" "orders" "[I", .fieldLink RX1 25 "TrolleyGang$Gang" "at" "I"] ++ wsX10)
def wsX1_hoursToFirst : List Cond := .code yX1_hoursToFirst cX1_hoursToFirst 3 (some .int) :: ([.fieldLink RX1 21 "TrolleyGang$Gang" "orderCount" "I", .methodLink RX1 41 Lib.Math.min.name, .static Lib.Math.min.name, .initialized "java/lang/Math", .code Lib.Math.min.name Lib.Math.min.code 2 (some .int), .methodLink RX1 37 yX1_spansUpwardsToFirst, .instanceMethod yX1_spansUpwardsToFirst, .selects RX1 yX1_spansUpwardsToFirst yX1_spansUpwardsToFirst, .initialized RX1, .code yX1_spansUpwardsToFirst cX1_spansUpwardsToFirst 1 (some .int), .fieldLink RX1 9 "TrolleyGang$Gang" "orders" "[I", .fieldLink RX1 25 "TrolleyGang$Gang" "at" "I"] ++ wsX10)
def wsX1_goToFirst : List Cond := .code yX1_goToFirst cX1_goToFirst 4 none :: ([.methodLink RX1 41 Lib.Math.min.name, .static Lib.Math.min.name, .initialized "java/lang/Math", .code Lib.Math.min.name Lib.Math.min.code 2 (some .int), .fieldLink RX1 25 "TrolleyGang$Gang" "at" "I", .methodLink RX1 37 yX1_spansUpwardsToFirst, .instanceMethod yX1_spansUpwardsToFirst, .selects RX1 yX1_spansUpwardsToFirst yX1_spansUpwardsToFirst, .initialized RX1, .code yX1_spansUpwardsToFirst cX1_spansUpwardsToFirst 1 (some .int), .fieldLink RX1 9 "TrolleyGang$Gang" "orders" "[I"] ++ wsX10)
def wsX4_init : List Cond := .code yX4_init cX4_init 1 none :: ([.methodLink RX4 3 objectInit, .instanceMethod objectInit, .code objectInit ⟨#[0xb1]⟩ 1 none, .arrayClass .int, .fieldLink RX4 9 "TrolleyGang$Wires" "worn" "[I", .fieldLink RX4 15 "TrolleyGang$Wires" "frost" "[I"] ++ wsX40)
def wsX2_init_r1 : List Cond := [Cond.methodLink RX2 3 objectInit, Cond.instanceMethod objectInit, Cond.code objectInit ⟨#[0xb1]⟩ 1 none, Cond.classLink RX2 9 RX4, Cond.instantiable RX4 2, Cond.initialized RX4, Cond.fieldLink RX2 12 "TrolleyGang$Ring" "wires" "LTrolleyGang$Wires;", Cond.classLink RX2 18 RX1, Cond.instantiable RX1 6, Cond.initialized RX1, Cond.fieldLink RX2 21 "TrolleyGang$Ring" "gang" "LTrolleyGang$Gang;", Cond.classLink RX2 25 RX0, Cond.fieldLink RX2 27 "TrolleyGang$Ring" "buses" "[LTrolleyGang$Bus;", Cond.instantiable RX0 6, Cond.initialized RX0, Cond.instanceMethod yX4_init, Cond.code yX4_init cX4_init 1 none, Cond.methodLink RX4 3 objectInit, Cond.arrayClass .int, Cond.fieldLink RX4 9 "TrolleyGang$Wires" "worn" "[I", Cond.fieldLink RX4 15 "TrolleyGang$Wires" "frost" "[I", Cond.instanceMethod yX1_init, Cond.code yX1_init cX1_init 1 none, Cond.methodLink RX1 3 objectInit]
def wsX2_init_r2 : List Cond := [Cond.fieldLink RX1 9 "TrolleyGang$Gang" "orders" "[I", Cond.instanceMethod yX0_init, Cond.code yX0_init cX0_init 1 none, Cond.methodLink RX0 1 objectInit]
def wsX2_init : List Cond := .code yX2_init cX2_init 2 none :: ((wsX2_init_r1 ++ wsX2_init_r2) ++ wsX40 ++ wsX20 ++ wsX10 ++ wsX00)
def wsX4_copyFrom : List Cond := .code yX4_copyFrom cX4_copyFrom 2 none :: ([.fieldLink RX4 9 "TrolleyGang$Wires" "worn" "[I", .methodLink RX4 18 arraycopyName, .native arraycopyName, .static arraycopyName, .initialized "java/lang/System", .fieldLink RX4 15 "TrolleyGang$Wires" "frost" "[I"] ++ wsX40)
def wsX2_copyFrom_r1 : List Cond := [Cond.fieldLink RX2 12 "TrolleyGang$Ring" "wires" "LTrolleyGang$Wires;", Cond.fieldLink RX2 21 "TrolleyGang$Ring" "gang" "LTrolleyGang$Gang;", Cond.fieldLink RX2 39 "TrolleyGang$Ring" "busCount" "I", Cond.fieldLink RX2 27 "TrolleyGang$Ring" "buses" "[LTrolleyGang$Bus;", Cond.fieldLink RX2 46 "TrolleyGang$Ring" "hour" "I", Cond.fieldLink RX2 49 "TrolleyGang$Ring" "coins" "I", Cond.instanceMethod yX4_copyFrom, Cond.initialized RX4, Cond.selects RX4 yX4_copyFrom yX4_copyFrom, Cond.code yX4_copyFrom cX4_copyFrom 2 none, Cond.fieldLink RX4 9 "TrolleyGang$Wires" "worn" "[I", Cond.methodLink RX4 18 arraycopyName, Cond.native arraycopyName, Cond.static arraycopyName, Cond.initialized "java/lang/System", Cond.fieldLink RX4 15 "TrolleyGang$Wires" "frost" "[I", Cond.instanceMethod yX1_copyFrom, Cond.initialized RX1, Cond.selects RX1 yX1_copyFrom yX1_copyFrom, Cond.code yX1_copyFrom cX1_copyFrom 2 none, Cond.fieldLink RX1 9 "TrolleyGang$Gang" "orders" "[I", Cond.methodLink RX1 15 arraycopyName, Cond.fieldLink RX1 21 "TrolleyGang$Gang" "orderCount" "I", Cond.fieldLink RX1 25 "TrolleyGang$Gang" "at" "I"]
def wsX2_copyFrom_r2 : List Cond := [Cond.fieldLink RX1 28 "TrolleyGang$Gang" "worksAtFirst" "I", Cond.fieldLink RX1 31 "TrolleyGang$Gang" "worksInAll" "I", Cond.fieldLink RX1 34 "TrolleyGang$Gang" "putUpInAll" "I", Cond.instanceMethod yX0_copyFrom, Cond.initialized RX0, Cond.selects RX0 yX0_copyFrom yX0_copyFrom, Cond.code yX0_copyFrom cX0_copyFrom 2 none, Cond.fieldLink RX0 7 "TrolleyGang$Bus" "at" "I", Cond.fieldLink RX0 13 "TrolleyGang$Bus" "hasScraper" "Z", Cond.fieldLink RX0 17 "TrolleyGang$Bus" "runs" "Z", Cond.fieldLink RX0 20 "TrolleyGang$Bus" "spansInAll" "I", Cond.fieldLink RX0 23 "TrolleyGang$Bus" "faresInAll" "I", Cond.fieldLink RX0 26 "TrolleyGang$Bus" "hoursStuck" "I"]
def wsX2_copyFrom : List Cond := .code yX2_copyFrom cX2_copyFrom 3 none :: ((wsX2_copyFrom_r1 ++ wsX2_copyFrom_r2) ++ wsX20 ++ wsX40 ++ wsX10 ++ wsX00)
def wsJ9_floorMod_7cf53 : List Cond := .code yJ9_floorMod_7cf53 cJ9_floorMod_7cf53 3 (some .int) :: ([])
def wsX5_isNightAt : List Cond := .code yX5_isNightAt cX5_isNightAt 2 (some .boolean) :: ([.methodLink RX5 234 yJ9_floorMod_7cf53, .static yJ9_floorMod_7cf53, .initialized RJ9, .code yJ9_floorMod_7cf53 cJ9_floorMod_7cf53 3 (some .int)])
def wsX4_freeze : List Cond := .code yX4_freeze cX4_freeze 3 none :: ([.fieldLink RX4 15 "TrolleyGang$Wires" "frost" "[I", .methodLink RX4 24 Lib.Math.min.name, .static Lib.Math.min.name, .initialized "java/lang/Math", .code Lib.Math.min.name Lib.Math.min.code 2 (some .int)] ++ wsX40)
def wsX4_thaw : List Cond := .code yX4_thaw cX4_thaw 2 none :: ([.fieldLink RX4 15 "TrolleyGang$Wires" "frost" "[I", .methodLink RX4 30 Lib.Math.max.name, .static Lib.Math.max.name, .initialized "java/lang/Math", .code Lib.Math.max.name Lib.Math.max.code 2 (some .int)] ++ wsX40)
def wsX4_isDown : List Cond := .code yX4_isDown cX4_isDown 2 (some .boolean) :: ([.fieldLink RX4 9 "TrolleyGang$Wires" "worn" "[I"] ++ wsX40)
def wsX4_wear : List Cond := .code yX4_wear cX4_wear 3 none :: ([.fieldLink RX4 9 "TrolleyGang$Wires" "worn" "[I", .methodLink RX4 24 Lib.Math.min.name, .static Lib.Math.min.name, .initialized "java/lang/Math", .code Lib.Math.min.name Lib.Math.min.code 2 (some .int)] ++ wsX40)
def wsX2_letSwanFly : List Cond := .code yX2_letSwanFly cX2_letSwanFly 2 none :: ([.fieldLink RX2 12 "TrolleyGang$Ring" "wires" "LTrolleyGang$Wires;", .instanceMethod yX4_isDown, .initialized RX4, .selects RX4 yX4_isDown yX4_isDown, .code yX4_isDown cX4_isDown 2 (some .boolean), .fieldLink RX4 9 "TrolleyGang$Wires" "worn" "[I", .instanceMethod yX4_wear, .selects RX4 yX4_wear yX4_wear, .code yX4_wear cX4_wear 3 none, .methodLink RX4 24 Lib.Math.min.name, .static Lib.Math.min.name, .initialized "java/lang/Math", .code Lib.Math.min.name Lib.Math.min.code 2 (some .int)] ++ wsX20 ++ wsX40)
def wsX3_fare : List Cond := .code yX3_fare cX3_fare 2 (some .int) :: ([.fieldLink RX3 22 "TrolleyGang$Tables" "fareByNight" "I", .fieldLink RX3 18 "TrolleyGang$Tables" "fareByDay" "I"] ++ wsX30)
def wsX2_drive : List Cond := .code yX2_drive cX2_drive 5 none :: ([.fieldLink RX2 12 "TrolleyGang$Ring" "wires" "LTrolleyGang$Wires;", .fieldLink RX2 49 "TrolleyGang$Ring" "coins" "I", .instanceMethod yX4_isDown, .initialized RX4, .selects RX4 yX4_isDown yX4_isDown, .code yX4_isDown cX4_isDown 2 (some .boolean), .fieldLink RX4 9 "TrolleyGang$Wires" "worn" "[I", .instanceMethod yX4_wear, .selects RX4 yX4_wear yX4_wear, .code yX4_wear cX4_wear 3 none, .methodLink RX4 24 Lib.Math.min.name, .static Lib.Math.min.name, .initialized "java/lang/Math", .code Lib.Math.min.name Lib.Math.min.code 2 (some .int)] ++ wsX00 ++ wsX20 ++ wsX40)
def wsX4_mend : List Cond := .code yX4_mend cX4_mend 3 none :: ([.fieldLink RX4 9 "TrolleyGang$Wires" "worn" "[I", .methodLink RX4 30 Lib.Math.max.name, .static Lib.Math.max.name, .initialized "java/lang/Math", .code Lib.Math.max.name Lib.Math.max.code 2 (some .int)] ++ wsX40)
def wsX4_putUp : List Cond := .code yX4_putUp cX4_putUp 2 none :: ([.fieldLink RX4 9 "TrolleyGang$Wires" "worn" "[I"] ++ wsX40)
def wsX2_isOrderDoneByWorkAt : List Cond := .code yX2_isOrderDoneByWorkAt cX2_isOrderDoneByWorkAt 2 (some .boolean) :: ([.fieldLink RX2 12 "TrolleyGang$Ring" "wires" "LTrolleyGang$Wires;", .fieldLink RX2 21 "TrolleyGang$Ring" "gang" "LTrolleyGang$Gang;", .instanceMethod yX4_isDown, .initialized RX4, .selects RX4 yX4_isDown yX4_isDown, .code yX4_isDown cX4_isDown 2 (some .boolean), .fieldLink RX4 9 "TrolleyGang$Wires" "worn" "[I", .instanceMethod yX4_mend, .selects RX4 yX4_mend yX4_mend, .code yX4_mend cX4_mend 3 none, .methodLink RX4 30 Lib.Math.max.name, .static Lib.Math.max.name, .initialized "java/lang/Math", .code Lib.Math.max.name Lib.Math.max.code 2 (some .int), .instanceMethod yX4_putUp, .selects RX4 yX4_putUp yX4_putUp, .code yX4_putUp cX4_putUp 2 none] ++ wsX20 ++ wsX40 ++ wsX10)
def wsX2_letGangWork_r1 : List Cond := [Cond.fieldLink RX2 21 "TrolleyGang$Ring" "gang" "LTrolleyGang$Gang;", Cond.fieldLink RX2 49 "TrolleyGang$Ring" "coins" "I", Cond.instanceMethod yX1_goToFirst, Cond.initialized RX1, Cond.selects RX1 yX1_goToFirst yX1_goToFirst, Cond.code yX1_goToFirst cX1_goToFirst 4 none, Cond.methodLink RX1 41 Lib.Math.min.name, Cond.static Lib.Math.min.name, Cond.initialized "java/lang/Math", Cond.code Lib.Math.min.name Lib.Math.min.code 2 (some .int), Cond.fieldLink RX1 25 "TrolleyGang$Gang" "at" "I", Cond.methodLink RX1 37 yX1_spansUpwardsToFirst, Cond.instanceMethod yX1_spansUpwardsToFirst, Cond.selects RX1 yX1_spansUpwardsToFirst yX1_spansUpwardsToFirst, Cond.code yX1_spansUpwardsToFirst cX1_spansUpwardsToFirst 1 (some .int), Cond.fieldLink RX1 9 "TrolleyGang$Gang" "orders" "[I", Cond.methodLink RX2 141 yX2_isOrderDoneByWorkAt, Cond.instanceMethod yX2_isOrderDoneByWorkAt, Cond.selects RX2 yX2_isOrderDoneByWorkAt yX2_isOrderDoneByWorkAt, Cond.initialized RX2, Cond.code yX2_isOrderDoneByWorkAt cX2_isOrderDoneByWorkAt 2 (some .boolean), Cond.fieldLink RX2 12 "TrolleyGang$Ring" "wires" "LTrolleyGang$Wires;", Cond.instanceMethod yX4_isDown, Cond.initialized RX4]
def wsX2_letGangWork_r2 : List Cond := [Cond.selects RX4 yX4_isDown yX4_isDown, Cond.code yX4_isDown cX4_isDown 2 (some .boolean), Cond.fieldLink RX4 9 "TrolleyGang$Wires" "worn" "[I", Cond.instanceMethod yX4_mend, Cond.selects RX4 yX4_mend yX4_mend, Cond.code yX4_mend cX4_mend 3 none, Cond.methodLink RX4 30 Lib.Math.max.name, Cond.static Lib.Math.max.name, Cond.code Lib.Math.max.name Lib.Math.max.code 2 (some .int), Cond.instanceMethod yX4_putUp, Cond.selects RX4 yX4_putUp yX4_putUp, Cond.code yX4_putUp cX4_putUp 2 none, Cond.instanceMethod yX1_takeOut, Cond.selects RX1 yX1_takeOut yX1_takeOut, Cond.code yX1_takeOut cX1_takeOut 3 none, Cond.fieldLink RX1 21 "TrolleyGang$Gang" "orderCount" "I", Cond.fieldLink RX1 28 "TrolleyGang$Gang" "worksAtFirst" "I"]
def wsX2_letGangWork : List Cond := .code yX2_letGangWork cX2_letGangWork 1 none :: ((wsX2_letGangWork_r1 ++ wsX2_letGangWork_r2) ++ wsX20 ++ wsX10 ++ wsX40)
def wsX2_letHourGoBy_r1 : List Cond := [Cond.fieldLink RX2 46 "TrolleyGang$Ring" "hour" "I", Cond.fieldLink RX2 12 "TrolleyGang$Ring" "wires" "LTrolleyGang$Wires;", Cond.fieldLink RX2 39 "TrolleyGang$Ring" "busCount" "I", Cond.fieldLink RX2 27 "TrolleyGang$Ring" "buses" "[LTrolleyGang$Bus;", Cond.static yX5_isNightAt, Cond.initialized RX5, Cond.code yX5_isNightAt cX5_isNightAt 2 (some .boolean), Cond.methodLink RX5 234 yJ9_floorMod_7cf53, Cond.static yJ9_floorMod_7cf53, Cond.initialized RJ9, Cond.code yJ9_floorMod_7cf53 cJ9_floorMod_7cf53 3 (some .int), Cond.methodLink RX2 66 yJ9_floorMod_7cf53, Cond.instanceMethod yX4_freeze, Cond.initialized RX4, Cond.selects RX4 yX4_freeze yX4_freeze, Cond.code yX4_freeze cX4_freeze 3 none, Cond.fieldLink RX4 15 "TrolleyGang$Wires" "frost" "[I", Cond.methodLink RX4 24 Lib.Math.min.name, Cond.static Lib.Math.min.name, Cond.initialized "java/lang/Math", Cond.code Lib.Math.min.name Lib.Math.min.code 2 (some .int), Cond.instanceMethod yX4_thaw, Cond.selects RX4 yX4_thaw yX4_thaw, Cond.code yX4_thaw cX4_thaw 2 none]
def wsX2_letHourGoBy_r2 : List Cond := [Cond.methodLink RX4 30 Lib.Math.max.name, Cond.static Lib.Math.max.name, Cond.code Lib.Math.max.name Lib.Math.max.code 2 (some .int), Cond.methodLink RX2 82 yX2_letSwanFly, Cond.instanceMethod yX2_letSwanFly, Cond.selects RX2 yX2_letSwanFly yX2_letSwanFly, Cond.initialized RX2, Cond.code yX2_letSwanFly cX2_letSwanFly 2 none, Cond.instanceMethod yX4_isDown, Cond.selects RX4 yX4_isDown yX4_isDown, Cond.code yX4_isDown cX4_isDown 2 (some .boolean), Cond.fieldLink RX4 9 "TrolleyGang$Wires" "worn" "[I", Cond.instanceMethod yX4_wear, Cond.selects RX4 yX4_wear yX4_wear, Cond.code yX4_wear cX4_wear 3 none, Cond.instanceMethod yX3_fare, Cond.initialized RX3, Cond.selects RX3 yX3_fare yX3_fare, Cond.code yX3_fare cX3_fare 2 (some .int), Cond.fieldLink RX3 22 "TrolleyGang$Tables" "fareByNight" "I", Cond.fieldLink RX3 18 "TrolleyGang$Tables" "fareByDay" "I", Cond.methodLink RX2 89 yX2_drive, Cond.instanceMethod yX2_drive, Cond.selects RX2 yX2_drive yX2_drive]
def wsX2_letHourGoBy_r3 : List Cond := [Cond.code yX2_drive cX2_drive 5 none, Cond.fieldLink RX2 49 "TrolleyGang$Ring" "coins" "I", Cond.methodLink RX2 93 yX2_letGangWork, Cond.instanceMethod yX2_letGangWork, Cond.selects RX2 yX2_letGangWork yX2_letGangWork, Cond.code yX2_letGangWork cX2_letGangWork 1 none, Cond.fieldLink RX2 21 "TrolleyGang$Ring" "gang" "LTrolleyGang$Gang;", Cond.instanceMethod yX1_goToFirst, Cond.initialized RX1, Cond.selects RX1 yX1_goToFirst yX1_goToFirst, Cond.code yX1_goToFirst cX1_goToFirst 4 none, Cond.methodLink RX1 41 Lib.Math.min.name, Cond.fieldLink RX1 25 "TrolleyGang$Gang" "at" "I", Cond.methodLink RX1 37 yX1_spansUpwardsToFirst, Cond.instanceMethod yX1_spansUpwardsToFirst, Cond.selects RX1 yX1_spansUpwardsToFirst yX1_spansUpwardsToFirst, Cond.code yX1_spansUpwardsToFirst cX1_spansUpwardsToFirst 1 (some .int), Cond.fieldLink RX1 9 "TrolleyGang$Gang" "orders" "[I", Cond.methodLink RX2 141 yX2_isOrderDoneByWorkAt, Cond.instanceMethod yX2_isOrderDoneByWorkAt, Cond.selects RX2 yX2_isOrderDoneByWorkAt yX2_isOrderDoneByWorkAt, Cond.code yX2_isOrderDoneByWorkAt cX2_isOrderDoneByWorkAt 2 (some .boolean), Cond.instanceMethod yX4_mend, Cond.selects RX4 yX4_mend yX4_mend]
def wsX2_letHourGoBy_r4 : List Cond := [Cond.code yX4_mend cX4_mend 3 none, Cond.instanceMethod yX4_putUp, Cond.selects RX4 yX4_putUp yX4_putUp, Cond.code yX4_putUp cX4_putUp 2 none, Cond.instanceMethod yX1_takeOut, Cond.selects RX1 yX1_takeOut yX1_takeOut, Cond.code yX1_takeOut cX1_takeOut 3 none, Cond.fieldLink RX1 21 "TrolleyGang$Gang" "orderCount" "I", Cond.fieldLink RX1 28 "TrolleyGang$Gang" "worksAtFirst" "I"]
def wsX2_letHourGoBy : List Cond := .code yX2_letHourGoBy cX2_letHourGoBy 5 none :: ((wsX2_letHourGoBy_r1 ++ (wsX2_letHourGoBy_r2 ++ (wsX2_letHourGoBy_r3 ++ wsX2_letHourGoBy_r4))) ++ wsX20 ++ wsX30 ++ wsX40 ++ wsX00 ++ wsX10)
def wsX2_letGoBy_r1 : List Cond := [Cond.methodLink RX2 52 yX2_letHourGoBy, Cond.instanceMethod yX2_letHourGoBy, Cond.selects RX2 yX2_letHourGoBy yX2_letHourGoBy, Cond.initialized RX2, Cond.code yX2_letHourGoBy cX2_letHourGoBy 5 none, Cond.fieldLink RX2 46 "TrolleyGang$Ring" "hour" "I", Cond.fieldLink RX2 12 "TrolleyGang$Ring" "wires" "LTrolleyGang$Wires;", Cond.fieldLink RX2 39 "TrolleyGang$Ring" "busCount" "I", Cond.fieldLink RX2 27 "TrolleyGang$Ring" "buses" "[LTrolleyGang$Bus;", Cond.static yX5_isNightAt, Cond.initialized RX5, Cond.code yX5_isNightAt cX5_isNightAt 2 (some .boolean), Cond.methodLink RX5 234 yJ9_floorMod_7cf53, Cond.static yJ9_floorMod_7cf53, Cond.initialized RJ9, Cond.code yJ9_floorMod_7cf53 cJ9_floorMod_7cf53 3 (some .int), Cond.methodLink RX2 66 yJ9_floorMod_7cf53, Cond.instanceMethod yX4_freeze, Cond.initialized RX4, Cond.selects RX4 yX4_freeze yX4_freeze, Cond.code yX4_freeze cX4_freeze 3 none, Cond.fieldLink RX4 15 "TrolleyGang$Wires" "frost" "[I", Cond.methodLink RX4 24 Lib.Math.min.name, Cond.static Lib.Math.min.name]
def wsX2_letGoBy_r2 : List Cond := [Cond.initialized "java/lang/Math", Cond.code Lib.Math.min.name Lib.Math.min.code 2 (some .int), Cond.instanceMethod yX4_thaw, Cond.selects RX4 yX4_thaw yX4_thaw, Cond.code yX4_thaw cX4_thaw 2 none, Cond.methodLink RX4 30 Lib.Math.max.name, Cond.static Lib.Math.max.name, Cond.code Lib.Math.max.name Lib.Math.max.code 2 (some .int), Cond.methodLink RX2 82 yX2_letSwanFly, Cond.instanceMethod yX2_letSwanFly, Cond.selects RX2 yX2_letSwanFly yX2_letSwanFly, Cond.code yX2_letSwanFly cX2_letSwanFly 2 none, Cond.instanceMethod yX4_isDown, Cond.selects RX4 yX4_isDown yX4_isDown, Cond.code yX4_isDown cX4_isDown 2 (some .boolean), Cond.fieldLink RX4 9 "TrolleyGang$Wires" "worn" "[I", Cond.instanceMethod yX4_wear, Cond.selects RX4 yX4_wear yX4_wear, Cond.code yX4_wear cX4_wear 3 none, Cond.instanceMethod yX3_fare, Cond.initialized RX3, Cond.selects RX3 yX3_fare yX3_fare, Cond.code yX3_fare cX3_fare 2 (some .int), Cond.fieldLink RX3 22 "TrolleyGang$Tables" "fareByNight" "I"]
def wsX2_letGoBy_r3 : List Cond := [Cond.fieldLink RX3 18 "TrolleyGang$Tables" "fareByDay" "I", Cond.methodLink RX2 89 yX2_drive, Cond.instanceMethod yX2_drive, Cond.selects RX2 yX2_drive yX2_drive, Cond.code yX2_drive cX2_drive 5 none, Cond.fieldLink RX2 49 "TrolleyGang$Ring" "coins" "I", Cond.methodLink RX2 93 yX2_letGangWork, Cond.instanceMethod yX2_letGangWork, Cond.selects RX2 yX2_letGangWork yX2_letGangWork, Cond.code yX2_letGangWork cX2_letGangWork 1 none, Cond.fieldLink RX2 21 "TrolleyGang$Ring" "gang" "LTrolleyGang$Gang;", Cond.instanceMethod yX1_goToFirst, Cond.initialized RX1, Cond.selects RX1 yX1_goToFirst yX1_goToFirst, Cond.code yX1_goToFirst cX1_goToFirst 4 none, Cond.methodLink RX1 41 Lib.Math.min.name, Cond.fieldLink RX1 25 "TrolleyGang$Gang" "at" "I", Cond.methodLink RX1 37 yX1_spansUpwardsToFirst, Cond.instanceMethod yX1_spansUpwardsToFirst, Cond.selects RX1 yX1_spansUpwardsToFirst yX1_spansUpwardsToFirst, Cond.code yX1_spansUpwardsToFirst cX1_spansUpwardsToFirst 1 (some .int), Cond.fieldLink RX1 9 "TrolleyGang$Gang" "orders" "[I", Cond.methodLink RX2 141 yX2_isOrderDoneByWorkAt, Cond.instanceMethod yX2_isOrderDoneByWorkAt]
def wsX2_letGoBy_r4 : List Cond := [Cond.selects RX2 yX2_isOrderDoneByWorkAt yX2_isOrderDoneByWorkAt, Cond.code yX2_isOrderDoneByWorkAt cX2_isOrderDoneByWorkAt 2 (some .boolean), Cond.instanceMethod yX4_mend, Cond.selects RX4 yX4_mend yX4_mend, Cond.code yX4_mend cX4_mend 3 none, Cond.instanceMethod yX4_putUp, Cond.selects RX4 yX4_putUp yX4_putUp, Cond.code yX4_putUp cX4_putUp 2 none, Cond.instanceMethod yX1_takeOut, Cond.selects RX1 yX1_takeOut yX1_takeOut, Cond.code yX1_takeOut cX1_takeOut 3 none, Cond.fieldLink RX1 21 "TrolleyGang$Gang" "orderCount" "I", Cond.fieldLink RX1 28 "TrolleyGang$Gang" "worksAtFirst" "I"]
def wsX2_letGoBy : List Cond := .code yX2_letGoBy cX2_letGoBy 4 none :: ((wsX2_letGoBy_r1 ++ (wsX2_letGoBy_r2 ++ (wsX2_letGoBy_r3 ++ wsX2_letGoBy_r4))) ++ wsX20 ++ wsX30 ++ wsX40 ++ wsX00 ++ wsX10)
def wsX5_oneIf : List Cond := .code yX5_oneIf cX5_oneIf 1 (some .int) :: ([])
def wsX2_busesRunning : List Cond := .code yX2_busesRunning cX2_busesRunning 3 (some .int) :: ([.fieldLink RX2 39 "TrolleyGang$Ring" "busCount" "I", .fieldLink RX2 27 "TrolleyGang$Ring" "buses" "[LTrolleyGang$Bus;", .static yX5_oneIf, .initialized RX5, .code yX5_oneIf cX5_oneIf 1 (some .int)] ++ wsX20 ++ wsX00)
def wsX4_spansDown : List Cond := .code yX4_spansDown cX4_spansDown 3 (some .int) :: ([.methodLink RX4 33 yX4_isDown, .instanceMethod yX4_isDown, .selects RX4 yX4_isDown yX4_isDown, .initialized RX4, .code yX4_isDown cX4_isDown 2 (some .boolean), .fieldLink RX4 9 "TrolleyGang$Wires" "worn" "[I", .static yX5_oneIf, .initialized RX5, .code yX5_oneIf cX5_oneIf 1 (some .int)] ++ wsX40)
def wsX4_wornInAll : List Cond := .code yX4_wornInAll cX4_wornInAll 3 (some .int) :: ([.fieldLink RX4 9 "TrolleyGang$Wires" "worn" "[I"] ++ wsX40)
def wsX4_frostInAll : List Cond := .code yX4_frostInAll cX4_frostInAll 3 (some .int) :: ([.fieldLink RX4 15 "TrolleyGang$Wires" "frost" "[I"] ++ wsX40)
def wsX2_hoursStuckInAll : List Cond := .code yX2_hoursStuckInAll cX2_hoursStuckInAll 3 (some .int) :: ([.fieldLink RX2 39 "TrolleyGang$Ring" "busCount" "I", .fieldLink RX2 27 "TrolleyGang$Ring" "buses" "[LTrolleyGang$Bus;"] ++ wsX20 ++ wsX00)
def wsX2_tally_r1 : List Cond := [Cond.fieldLink RX2 46 "TrolleyGang$Ring" "hour" "I", Cond.fieldLink RX2 49 "TrolleyGang$Ring" "coins" "I", Cond.fieldLink RX2 39 "TrolleyGang$Ring" "busCount" "I", Cond.fieldLink RX2 12 "TrolleyGang$Ring" "wires" "LTrolleyGang$Wires;", Cond.static yX5_isNightAt, Cond.initialized RX5, Cond.code yX5_isNightAt cX5_isNightAt 2 (some .boolean), Cond.methodLink RX5 234 yJ9_floorMod_7cf53, Cond.static yJ9_floorMod_7cf53, Cond.initialized RJ9, Cond.code yJ9_floorMod_7cf53 cJ9_floorMod_7cf53 3 (some .int), Cond.static yX5_oneIf, Cond.code yX5_oneIf cX5_oneIf 1 (some .int), Cond.methodLink RX2 162 yX2_busesRunning, Cond.instanceMethod yX2_busesRunning, Cond.selects RX2 yX2_busesRunning yX2_busesRunning, Cond.initialized RX2, Cond.code yX2_busesRunning cX2_busesRunning 3 (some .int), Cond.fieldLink RX2 27 "TrolleyGang$Ring" "buses" "[LTrolleyGang$Bus;", Cond.instanceMethod yX4_spansDown, Cond.initialized RX4, Cond.selects RX4 yX4_spansDown yX4_spansDown, Cond.code yX4_spansDown cX4_spansDown 3 (some .int), Cond.methodLink RX4 33 yX4_isDown]
def wsX2_tally_r2 : List Cond := [Cond.instanceMethod yX4_isDown, Cond.selects RX4 yX4_isDown yX4_isDown, Cond.code yX4_isDown cX4_isDown 2 (some .boolean), Cond.fieldLink RX4 9 "TrolleyGang$Wires" "worn" "[I", Cond.instanceMethod yX4_wornInAll, Cond.selects RX4 yX4_wornInAll yX4_wornInAll, Cond.code yX4_wornInAll cX4_wornInAll 3 (some .int), Cond.instanceMethod yX4_frostInAll, Cond.selects RX4 yX4_frostInAll yX4_frostInAll, Cond.code yX4_frostInAll cX4_frostInAll 3 (some .int), Cond.fieldLink RX4 15 "TrolleyGang$Wires" "frost" "[I", Cond.methodLink RX2 175 yX2_hoursStuckInAll, Cond.instanceMethod yX2_hoursStuckInAll, Cond.selects RX2 yX2_hoursStuckInAll yX2_hoursStuckInAll, Cond.code yX2_hoursStuckInAll cX2_hoursStuckInAll 3 (some .int)]
def wsX2_tally : List Cond := .code yX2_tally cX2_tally 2 (some .int) :: ((wsX2_tally_r1 ++ wsX2_tally_r2) ++ wsX20 ++ wsX00 ++ wsX40)
def wsX2_busesAt : List Cond := .code yX2_busesAt cX2_busesAt 4 (some .int) :: ([.fieldLink RX2 39 "TrolleyGang$Ring" "busCount" "I", .fieldLink RX2 27 "TrolleyGang$Ring" "buses" "[LTrolleyGang$Bus;", .static yX5_oneIf, .initialized RX5, .code yX5_oneIf cX5_oneIf 1 (some .int)] ++ wsX20 ++ wsX00)
def wsX3_init : List Cond := .code yX3_init cX3_init 2 none :: ([.methodLink RX3 3 objectInit, .instanceMethod objectInit, .code objectInit ⟨#[0xb1]⟩ 1 none, .arrayClass .int, .fieldLink RX3 9 "TrolleyGang$Tables" "colds" "[I", .fieldLink RX3 15 "TrolleyGang$Tables" "swans" "[I", .fieldLink RX3 18 "TrolleyGang$Tables" "fareByDay" "I", .fieldLink RX3 22 "TrolleyGang$Tables" "fareByNight" "I"] ++ wsX30)
def wsX4_spansUpBehind : List Cond := .code yX4_spansUpBehind cX4_spansUpBehind 3 (some .int) :: ([.methodLink RX4 33 yX4_isDown, .instanceMethod yX4_isDown, .selects RX4 yX4_isDown yX4_isDown, .initialized RX4, .code yX4_isDown cX4_isDown 2 (some .boolean), .fieldLink RX4 9 "TrolleyGang$Wires" "worn" "[I"] ++ wsX40)
def wsX5_init_r1 : List Cond := [Cond.methodLink RX5 1 objectInit, Cond.instanceMethod objectInit, Cond.code objectInit ⟨#[0xb1]⟩ 1 none, Cond.classLink RX5 7 RX3, Cond.instantiable RX3 4, Cond.initialized RX3, Cond.fieldLink RX5 10 "TrolleyGang" "tables" "LTrolleyGang$Tables;", Cond.classLink RX5 16 RX2, Cond.instantiable RX2 6, Cond.initialized RX2, Cond.fieldLink RX5 19 "TrolleyGang" "now" "LTrolleyGang$Ring;", Cond.fieldLink RX5 23 "TrolleyGang" "ahead" "LTrolleyGang$Ring;", Cond.instanceMethod yX3_init, Cond.code yX3_init cX3_init 2 none, Cond.methodLink RX3 3 objectInit, Cond.arrayClass .int, Cond.fieldLink RX3 9 "TrolleyGang$Tables" "colds" "[I", Cond.fieldLink RX3 15 "TrolleyGang$Tables" "swans" "[I", Cond.fieldLink RX3 18 "TrolleyGang$Tables" "fareByDay" "I", Cond.fieldLink RX3 22 "TrolleyGang$Tables" "fareByNight" "I", Cond.instanceMethod yX2_init, Cond.code yX2_init cX2_init 2 none, Cond.methodLink RX2 3 objectInit, Cond.classLink RX2 9 RX4]
def wsX5_init_r2 : List Cond := [Cond.instantiable RX4 2, Cond.initialized RX4, Cond.fieldLink RX2 12 "TrolleyGang$Ring" "wires" "LTrolleyGang$Wires;", Cond.classLink RX2 18 RX1, Cond.instantiable RX1 6, Cond.initialized RX1, Cond.fieldLink RX2 21 "TrolleyGang$Ring" "gang" "LTrolleyGang$Gang;", Cond.classLink RX2 25 RX0, Cond.fieldLink RX2 27 "TrolleyGang$Ring" "buses" "[LTrolleyGang$Bus;", Cond.instantiable RX0 6, Cond.initialized RX0, Cond.instanceMethod yX4_init, Cond.code yX4_init cX4_init 1 none, Cond.methodLink RX4 3 objectInit, Cond.fieldLink RX4 9 "TrolleyGang$Wires" "worn" "[I", Cond.fieldLink RX4 15 "TrolleyGang$Wires" "frost" "[I", Cond.instanceMethod yX1_init, Cond.code yX1_init cX1_init 1 none, Cond.methodLink RX1 3 objectInit, Cond.fieldLink RX1 9 "TrolleyGang$Gang" "orders" "[I", Cond.instanceMethod yX0_init, Cond.code yX0_init cX0_init 1 none, Cond.methodLink RX0 1 objectInit]
def wsX5_init : List Cond := .code yX5_init cX5_init 1 none :: ((wsX5_init_r1 ++ wsX5_init_r2) ++ wsX30 ++ wsX50 ++ wsX20 ++ wsX40 ++ wsX10 ++ wsX00)
def wsX5_setCold : List Cond := .code yX5_setCold cX5_setCold 4 (some .int) :: ([.classLink RX5 26 "java/lang/IndexOutOfBoundsException", .initialized "java/lang/IndexOutOfBoundsException", .classLink RX5 33 "java/lang/IllegalArgumentException", .initialized "java/lang/IllegalArgumentException", .fieldLink RX5 10 "TrolleyGang" "tables" "LTrolleyGang$Tables;"] ++ wsX50 ++ wsX30 ++ (vx_atS RX5 30 "java/lang/IndexOutOfBoundsException" ["java/lang/RuntimeException", "java/lang/Exception"]).filter goodWord ++ (vx_atS RX5 37 "java/lang/IllegalArgumentException" ["java/lang/RuntimeException", "java/lang/Exception"]).filter goodWord)
def wsX5_setSwan : List Cond := .code yX5_setSwan cX5_setSwan 4 (some .int) :: ([.classLink RX5 26 "java/lang/IndexOutOfBoundsException", .initialized "java/lang/IndexOutOfBoundsException", .classLink RX5 33 "java/lang/IllegalArgumentException", .initialized "java/lang/IllegalArgumentException", .fieldLink RX5 10 "TrolleyGang" "tables" "LTrolleyGang$Tables;"] ++ wsX50 ++ wsX30 ++ (vx_atS RX5 30 "java/lang/IndexOutOfBoundsException" ["java/lang/RuntimeException", "java/lang/Exception"]).filter goodWord ++ (vx_atS RX5 37 "java/lang/IllegalArgumentException" ["java/lang/RuntimeException", "java/lang/Exception"]).filter goodWord)
def wsX5_setFare : List Cond := .code yX5_setFare cX5_setFare 4 (some .int) :: ([.classLink RX5 33 "java/lang/IllegalArgumentException", .initialized "java/lang/IllegalArgumentException", .fieldLink RX5 10 "TrolleyGang" "tables" "LTrolleyGang$Tables;", .instanceMethod yX3_fare, .initialized RX3, .selects RX3 yX3_fare yX3_fare, .code yX3_fare cX3_fare 2 (some .int), .fieldLink RX3 22 "TrolleyGang$Tables" "fareByNight" "I", .fieldLink RX3 18 "TrolleyGang$Tables" "fareByDay" "I"] ++ wsX50 ++ wsX30 ++ (vx_atS RX5 37 "java/lang/IllegalArgumentException" ["java/lang/RuntimeException", "java/lang/Exception"]).filter goodWord)
def wsX5_checkSpan : List Cond := .code yX5_checkSpan cX5_checkSpan 1 none :: ([.classLink RX5 26 "java/lang/IndexOutOfBoundsException", .initialized "java/lang/IndexOutOfBoundsException"] ++ (vx_atS RX5 30 "java/lang/IndexOutOfBoundsException" ["java/lang/RuntimeException", "java/lang/Exception"]).filter goodWord)
def wsX5_bus : List Cond := .code yX5_bus cX5_bus 4 (some .int) :: ([.classLink RX5 69 "java/lang/IllegalStateException", .initialized "java/lang/IllegalStateException", .fieldLink RX5 19 "TrolleyGang" "now" "LTrolleyGang$Ring;", .methodLink RX5 62 yX5_checkSpan, .static yX5_checkSpan, .initialized RX5, .code yX5_checkSpan cX5_checkSpan 1 none, .classLink RX5 26 "java/lang/IndexOutOfBoundsException", .initialized "java/lang/IndexOutOfBoundsException", .instanceMethod yX0_come, .initialized RX0, .selects RX0 yX0_come yX0_come, .code yX0_come cX0_come 3 none, .fieldLink RX0 7 "TrolleyGang$Bus" "at" "I", .fieldLink RX0 13 "TrolleyGang$Bus" "hasScraper" "Z", .fieldLink RX0 17 "TrolleyGang$Bus" "runs" "Z"] ++ wsX50 ++ wsX20 ++ wsX00 ++ (vx_atS RX5 73 "java/lang/IllegalStateException" ["java/lang/RuntimeException", "java/lang/Exception"]).filter goodWord ++ (vx_atS RX5 30 "java/lang/IndexOutOfBoundsException" ["java/lang/RuntimeException", "java/lang/Exception"]).filter goodWord)
def wsX5_checkBus : List Cond := .code yX5_checkBus cX5_checkBus 2 none :: ([.classLink RX5 26 "java/lang/IndexOutOfBoundsException", .initialized "java/lang/IndexOutOfBoundsException", .fieldLink RX5 19 "TrolleyGang" "now" "LTrolleyGang$Ring;"] ++ wsX50 ++ wsX20 ++ (vx_atS RX5 30 "java/lang/IndexOutOfBoundsException" ["java/lang/RuntimeException", "java/lang/Exception"]).filter goodWord)
def wsX5_park : List Cond := .code yX5_park cX5_park 3 (some .boolean) :: ([.fieldLink RX5 19 "TrolleyGang" "now" "LTrolleyGang$Ring;", .methodLink RX5 84 yX5_checkBus, .instanceMethod yX5_checkBus, .selects RX5 yX5_checkBus yX5_checkBus, .initialized RX5, .code yX5_checkBus cX5_checkBus 2 none, .classLink RX5 26 "java/lang/IndexOutOfBoundsException", .initialized "java/lang/IndexOutOfBoundsException"] ++ wsX50 ++ wsX20 ++ wsX00 ++ (vx_atS RX5 30 "java/lang/IndexOutOfBoundsException" ["java/lang/RuntimeException", "java/lang/Exception"]).filter goodWord)
def wsX5_checkWhat : List Cond := .code yX5_checkWhat cX5_checkWhat 2 none :: ([.classLink RX5 26 "java/lang/IndexOutOfBoundsException", .initialized "java/lang/IndexOutOfBoundsException"] ++ (vx_atS RX5 30 "java/lang/IndexOutOfBoundsException" ["java/lang/RuntimeException", "java/lang/Exception"]).filter goodWord)
def wsX5_told : List Cond := .code yX5_told cX5_told 4 (some .int) :: ([.fieldLink RX5 19 "TrolleyGang" "now" "LTrolleyGang$Ring;", .methodLink RX5 84 yX5_checkBus, .instanceMethod yX5_checkBus, .selects RX5 yX5_checkBus yX5_checkBus, .initialized RX5, .code yX5_checkBus cX5_checkBus 2 none, .classLink RX5 26 "java/lang/IndexOutOfBoundsException", .initialized "java/lang/IndexOutOfBoundsException", .methodLink RX5 99 yX5_checkWhat, .static yX5_checkWhat, .code yX5_checkWhat cX5_checkWhat 2 none, .methodLink RX5 103 yX5_oneIf, .static yX5_oneIf, .code yX5_oneIf cX5_oneIf 1 (some .int), .instanceMethod yX4_spansUpBehind, .initialized RX4, .selects RX4 yX4_spansUpBehind yX4_spansUpBehind, .code yX4_spansUpBehind cX4_spansUpBehind 3 (some .int), .methodLink RX4 33 yX4_isDown, .instanceMethod yX4_isDown, .selects RX4 yX4_isDown yX4_isDown, .code yX4_isDown cX4_isDown 2 (some .boolean), .fieldLink RX4 9 "TrolleyGang$Wires" "worn" "[I"] ++ wsX50 ++ wsX20 ++ wsX00 ++ wsX40 ++ (vx_atS RX5 30 "java/lang/IndexOutOfBoundsException" ["java/lang/RuntimeException", "java/lang/Exception"]).filter goodWord)
def wsX5_span_r1 : List Cond := [Cond.fieldLink RX5 19 "TrolleyGang" "now" "LTrolleyGang$Ring;", Cond.methodLink RX5 62 yX5_checkSpan, Cond.static yX5_checkSpan, Cond.initialized RX5, Cond.code yX5_checkSpan cX5_checkSpan 1 none, Cond.classLink RX5 26 "java/lang/IndexOutOfBoundsException", Cond.initialized "java/lang/IndexOutOfBoundsException", Cond.methodLink RX5 99 yX5_checkWhat, Cond.static yX5_checkWhat, Cond.code yX5_checkWhat cX5_checkWhat 2 none, Cond.instanceMethod yX4_isDown, Cond.initialized RX4, Cond.selects RX4 yX4_isDown yX4_isDown, Cond.code yX4_isDown cX4_isDown 2 (some .boolean), Cond.fieldLink RX4 9 "TrolleyGang$Wires" "worn" "[I", Cond.methodLink RX5 103 yX5_oneIf, Cond.static yX5_oneIf, Cond.code yX5_oneIf cX5_oneIf 1 (some .int), Cond.instanceMethod yX2_busesAt, Cond.initialized RX2, Cond.selects RX2 yX2_busesAt yX2_busesAt, Cond.code yX2_busesAt cX2_busesAt 4 (some .int), Cond.fieldLink RX2 39 "TrolleyGang$Ring" "busCount" "I", Cond.fieldLink RX2 27 "TrolleyGang$Ring" "buses" "[LTrolleyGang$Bus;"]
def wsX5_span_r2 : List Cond := [Cond.instanceMethod yX1_placeOf, Cond.initialized RX1, Cond.selects RX1 yX1_placeOf yX1_placeOf, Cond.code yX1_placeOf cX1_placeOf 3 (some .int), Cond.fieldLink RX1 21 "TrolleyGang$Gang" "orderCount" "I", Cond.fieldLink RX1 9 "TrolleyGang$Gang" "orders" "[I"]
def wsX5_span : List Cond := .code yX5_span cX5_span 3 (some .int) :: ((wsX5_span_r1 ++ wsX5_span_r2) ++ wsX50 ++ wsX20 ++ wsX40 ++ wsX00 ++ wsX10 ++ (vx_atS RX5 30 "java/lang/IndexOutOfBoundsException" ["java/lang/RuntimeException", "java/lang/Exception"]).filter goodWord)
def wsX5_order : List Cond := .code yX5_order cX5_order 2 (some .int) :: ([.classLink RX5 69 "java/lang/IllegalStateException", .initialized "java/lang/IllegalStateException", .fieldLink RX5 19 "TrolleyGang" "now" "LTrolleyGang$Ring;", .methodLink RX5 62 yX5_checkSpan, .static yX5_checkSpan, .initialized RX5, .code yX5_checkSpan cX5_checkSpan 1 none, .classLink RX5 26 "java/lang/IndexOutOfBoundsException", .initialized "java/lang/IndexOutOfBoundsException", .instanceMethod yX1_placeOf, .initialized RX1, .selects RX1 yX1_placeOf yX1_placeOf, .code yX1_placeOf cX1_placeOf 3 (some .int), .fieldLink RX1 21 "TrolleyGang$Gang" "orderCount" "I", .fieldLink RX1 9 "TrolleyGang$Gang" "orders" "[I"] ++ wsX50 ++ wsX20 ++ wsX10 ++ (vx_atS RX5 73 "java/lang/IllegalStateException" ["java/lang/RuntimeException", "java/lang/Exception"]).filter goodWord ++ (vx_atS RX5 30 "java/lang/IndexOutOfBoundsException" ["java/lang/RuntimeException", "java/lang/Exception"]).filter goodWord)
def wsX5_cancel : List Cond := .code yX5_cancel cX5_cancel 3 (some .int) :: ([.classLink RX5 69 "java/lang/IllegalStateException", .initialized "java/lang/IllegalStateException", .fieldLink RX5 19 "TrolleyGang" "now" "LTrolleyGang$Ring;", .methodLink RX5 62 yX5_checkSpan, .static yX5_checkSpan, .initialized RX5, .code yX5_checkSpan cX5_checkSpan 1 none, .classLink RX5 26 "java/lang/IndexOutOfBoundsException", .initialized "java/lang/IndexOutOfBoundsException", .instanceMethod yX1_placeOf, .initialized RX1, .selects RX1 yX1_placeOf yX1_placeOf, .code yX1_placeOf cX1_placeOf 3 (some .int), .fieldLink RX1 21 "TrolleyGang$Gang" "orderCount" "I", .fieldLink RX1 9 "TrolleyGang$Gang" "orders" "[I", .instanceMethod yX1_takeOut, .selects RX1 yX1_takeOut yX1_takeOut, .code yX1_takeOut cX1_takeOut 3 none, .fieldLink RX1 28 "TrolleyGang$Gang" "worksAtFirst" "I"] ++ wsX50 ++ wsX20 ++ wsX10 ++ (vx_atS RX5 73 "java/lang/IllegalStateException" ["java/lang/RuntimeException", "java/lang/Exception"]).filter goodWord ++ (vx_atS RX5 30 "java/lang/IndexOutOfBoundsException" ["java/lang/RuntimeException", "java/lang/Exception"]).filter goodWord)
def wsX5_gang : List Cond := .code yX5_gang cX5_gang 3 (some .int) :: ([.fieldLink RX5 19 "TrolleyGang" "now" "LTrolleyGang$Ring;", .methodLink RX5 99 yX5_checkWhat, .static yX5_checkWhat, .initialized RX5, .code yX5_checkWhat cX5_checkWhat 2 none, .classLink RX5 26 "java/lang/IndexOutOfBoundsException", .initialized "java/lang/IndexOutOfBoundsException", .instanceMethod yX1_hoursToFirst, .initialized RX1, .selects RX1 yX1_hoursToFirst yX1_hoursToFirst, .code yX1_hoursToFirst cX1_hoursToFirst 3 (some .int), .fieldLink RX1 21 "TrolleyGang$Gang" "orderCount" "I", .methodLink RX1 41 Lib.Math.min.name, .static Lib.Math.min.name, .initialized "java/lang/Math", .code Lib.Math.min.name Lib.Math.min.code 2 (some .int), .methodLink RX1 37 yX1_spansUpwardsToFirst, .instanceMethod yX1_spansUpwardsToFirst, .selects RX1 yX1_spansUpwardsToFirst yX1_spansUpwardsToFirst, .code yX1_spansUpwardsToFirst cX1_spansUpwardsToFirst 1 (some .int), .fieldLink RX1 9 "TrolleyGang$Gang" "orders" "[I", .fieldLink RX1 25 "TrolleyGang$Gang" "at" "I"] ++ wsX50 ++ wsX20 ++ wsX10 ++ (vx_atS RX5 30 "java/lang/IndexOutOfBoundsException" ["java/lang/RuntimeException", "java/lang/Exception"]).filter goodWord)
def wsX5_count_r1 : List Cond := [Cond.fieldLink RX5 19 "TrolleyGang" "now" "LTrolleyGang$Ring;", Cond.methodLink RX5 99 yX5_checkWhat, Cond.static yX5_checkWhat, Cond.initialized RX5, Cond.code yX5_checkWhat cX5_checkWhat 2 none, Cond.classLink RX5 26 "java/lang/IndexOutOfBoundsException", Cond.initialized "java/lang/IndexOutOfBoundsException", Cond.instanceMethod yX2_tally, Cond.initialized RX2, Cond.selects RX2 yX2_tally yX2_tally, Cond.code yX2_tally cX2_tally 2 (some .int), Cond.fieldLink RX2 46 "TrolleyGang$Ring" "hour" "I", Cond.fieldLink RX2 49 "TrolleyGang$Ring" "coins" "I", Cond.fieldLink RX2 39 "TrolleyGang$Ring" "busCount" "I", Cond.fieldLink RX2 12 "TrolleyGang$Ring" "wires" "LTrolleyGang$Wires;", Cond.static yX5_isNightAt, Cond.code yX5_isNightAt cX5_isNightAt 2 (some .boolean), Cond.methodLink RX5 234 yJ9_floorMod_7cf53, Cond.static yJ9_floorMod_7cf53, Cond.initialized RJ9, Cond.code yJ9_floorMod_7cf53 cJ9_floorMod_7cf53 3 (some .int), Cond.static yX5_oneIf, Cond.code yX5_oneIf cX5_oneIf 1 (some .int), Cond.methodLink RX2 162 yX2_busesRunning]
def wsX5_count_r2 : List Cond := [Cond.instanceMethod yX2_busesRunning, Cond.selects RX2 yX2_busesRunning yX2_busesRunning, Cond.code yX2_busesRunning cX2_busesRunning 3 (some .int), Cond.fieldLink RX2 27 "TrolleyGang$Ring" "buses" "[LTrolleyGang$Bus;", Cond.instanceMethod yX4_spansDown, Cond.initialized RX4, Cond.selects RX4 yX4_spansDown yX4_spansDown, Cond.code yX4_spansDown cX4_spansDown 3 (some .int), Cond.methodLink RX4 33 yX4_isDown, Cond.instanceMethod yX4_isDown, Cond.selects RX4 yX4_isDown yX4_isDown, Cond.code yX4_isDown cX4_isDown 2 (some .boolean), Cond.fieldLink RX4 9 "TrolleyGang$Wires" "worn" "[I", Cond.instanceMethod yX4_wornInAll, Cond.selects RX4 yX4_wornInAll yX4_wornInAll, Cond.code yX4_wornInAll cX4_wornInAll 3 (some .int), Cond.instanceMethod yX4_frostInAll, Cond.selects RX4 yX4_frostInAll yX4_frostInAll, Cond.code yX4_frostInAll cX4_frostInAll 3 (some .int), Cond.fieldLink RX4 15 "TrolleyGang$Wires" "frost" "[I", Cond.methodLink RX2 175 yX2_hoursStuckInAll, Cond.instanceMethod yX2_hoursStuckInAll, Cond.selects RX2 yX2_hoursStuckInAll yX2_hoursStuckInAll, Cond.code yX2_hoursStuckInAll cX2_hoursStuckInAll 3 (some .int)]
def wsX5_count : List Cond := .code yX5_count cX5_count 2 (some .int) :: ((wsX5_count_r1 ++ wsX5_count_r2) ++ wsX50 ++ wsX20 ++ wsX00 ++ wsX40 ++ (vx_atS RX5 30 "java/lang/IndexOutOfBoundsException" ["java/lang/RuntimeException", "java/lang/Exception"]).filter goodWord)
def wsX5_checkHours : List Cond := .code yX5_checkHours cX5_checkHours 2 none :: ([.classLink RX5 33 "java/lang/IllegalArgumentException", .initialized "java/lang/IllegalArgumentException"] ++ (vx_atS RX5 37 "java/lang/IllegalArgumentException" ["java/lang/RuntimeException", "java/lang/Exception"]).filter goodWord)
def wsX5_pass_r1 : List Cond := [Cond.fieldLink RX5 19 "TrolleyGang" "now" "LTrolleyGang$Ring;", Cond.fieldLink RX5 10 "TrolleyGang" "tables" "LTrolleyGang$Tables;", Cond.methodLink RX5 179 yX5_checkHours, Cond.static yX5_checkHours, Cond.initialized RX5, Cond.code yX5_checkHours cX5_checkHours 2 none, Cond.classLink RX5 33 "java/lang/IllegalArgumentException", Cond.initialized "java/lang/IllegalArgumentException", Cond.instanceMethod yX2_letGoBy, Cond.initialized RX2, Cond.selects RX2 yX2_letGoBy yX2_letGoBy, Cond.code yX2_letGoBy cX2_letGoBy 4 none, Cond.methodLink RX2 52 yX2_letHourGoBy, Cond.instanceMethod yX2_letHourGoBy, Cond.selects RX2 yX2_letHourGoBy yX2_letHourGoBy, Cond.code yX2_letHourGoBy cX2_letHourGoBy 5 none, Cond.fieldLink RX2 46 "TrolleyGang$Ring" "hour" "I", Cond.fieldLink RX2 12 "TrolleyGang$Ring" "wires" "LTrolleyGang$Wires;", Cond.fieldLink RX2 39 "TrolleyGang$Ring" "busCount" "I", Cond.fieldLink RX2 27 "TrolleyGang$Ring" "buses" "[LTrolleyGang$Bus;", Cond.static yX5_isNightAt, Cond.code yX5_isNightAt cX5_isNightAt 2 (some .boolean), Cond.methodLink RX5 234 yJ9_floorMod_7cf53, Cond.static yJ9_floorMod_7cf53]
def wsX5_pass_r2 : List Cond := [Cond.initialized RJ9, Cond.code yJ9_floorMod_7cf53 cJ9_floorMod_7cf53 3 (some .int), Cond.methodLink RX2 66 yJ9_floorMod_7cf53, Cond.instanceMethod yX4_freeze, Cond.initialized RX4, Cond.selects RX4 yX4_freeze yX4_freeze, Cond.code yX4_freeze cX4_freeze 3 none, Cond.fieldLink RX4 15 "TrolleyGang$Wires" "frost" "[I", Cond.methodLink RX4 24 Lib.Math.min.name, Cond.static Lib.Math.min.name, Cond.initialized "java/lang/Math", Cond.code Lib.Math.min.name Lib.Math.min.code 2 (some .int), Cond.instanceMethod yX4_thaw, Cond.selects RX4 yX4_thaw yX4_thaw, Cond.code yX4_thaw cX4_thaw 2 none, Cond.methodLink RX4 30 Lib.Math.max.name, Cond.static Lib.Math.max.name, Cond.code Lib.Math.max.name Lib.Math.max.code 2 (some .int), Cond.methodLink RX2 82 yX2_letSwanFly, Cond.instanceMethod yX2_letSwanFly, Cond.selects RX2 yX2_letSwanFly yX2_letSwanFly, Cond.code yX2_letSwanFly cX2_letSwanFly 2 none, Cond.instanceMethod yX4_isDown, Cond.selects RX4 yX4_isDown yX4_isDown]
def wsX5_pass_r3 : List Cond := [Cond.code yX4_isDown cX4_isDown 2 (some .boolean), Cond.fieldLink RX4 9 "TrolleyGang$Wires" "worn" "[I", Cond.instanceMethod yX4_wear, Cond.selects RX4 yX4_wear yX4_wear, Cond.code yX4_wear cX4_wear 3 none, Cond.instanceMethod yX3_fare, Cond.initialized RX3, Cond.selects RX3 yX3_fare yX3_fare, Cond.code yX3_fare cX3_fare 2 (some .int), Cond.fieldLink RX3 22 "TrolleyGang$Tables" "fareByNight" "I", Cond.fieldLink RX3 18 "TrolleyGang$Tables" "fareByDay" "I", Cond.methodLink RX2 89 yX2_drive, Cond.instanceMethod yX2_drive, Cond.selects RX2 yX2_drive yX2_drive, Cond.code yX2_drive cX2_drive 5 none, Cond.fieldLink RX2 49 "TrolleyGang$Ring" "coins" "I", Cond.methodLink RX2 93 yX2_letGangWork, Cond.instanceMethod yX2_letGangWork, Cond.selects RX2 yX2_letGangWork yX2_letGangWork, Cond.code yX2_letGangWork cX2_letGangWork 1 none, Cond.fieldLink RX2 21 "TrolleyGang$Ring" "gang" "LTrolleyGang$Gang;", Cond.instanceMethod yX1_goToFirst, Cond.initialized RX1, Cond.selects RX1 yX1_goToFirst yX1_goToFirst]
def wsX5_pass_r4 : List Cond := [Cond.code yX1_goToFirst cX1_goToFirst 4 none, Cond.methodLink RX1 41 Lib.Math.min.name, Cond.fieldLink RX1 25 "TrolleyGang$Gang" "at" "I", Cond.methodLink RX1 37 yX1_spansUpwardsToFirst, Cond.instanceMethod yX1_spansUpwardsToFirst, Cond.selects RX1 yX1_spansUpwardsToFirst yX1_spansUpwardsToFirst, Cond.code yX1_spansUpwardsToFirst cX1_spansUpwardsToFirst 1 (some .int), Cond.fieldLink RX1 9 "TrolleyGang$Gang" "orders" "[I", Cond.methodLink RX2 141 yX2_isOrderDoneByWorkAt, Cond.instanceMethod yX2_isOrderDoneByWorkAt, Cond.selects RX2 yX2_isOrderDoneByWorkAt yX2_isOrderDoneByWorkAt, Cond.code yX2_isOrderDoneByWorkAt cX2_isOrderDoneByWorkAt 2 (some .boolean), Cond.instanceMethod yX4_mend, Cond.selects RX4 yX4_mend yX4_mend, Cond.code yX4_mend cX4_mend 3 none, Cond.instanceMethod yX4_putUp, Cond.selects RX4 yX4_putUp yX4_putUp, Cond.code yX4_putUp cX4_putUp 2 none, Cond.instanceMethod yX1_takeOut, Cond.selects RX1 yX1_takeOut yX1_takeOut, Cond.code yX1_takeOut cX1_takeOut 3 none, Cond.fieldLink RX1 21 "TrolleyGang$Gang" "orderCount" "I", Cond.fieldLink RX1 28 "TrolleyGang$Gang" "worksAtFirst" "I"]
def wsX5_pass : List Cond := .code yX5_pass cX5_pass 3 (some .int) :: ((wsX5_pass_r1 ++ (wsX5_pass_r2 ++ (wsX5_pass_r3 ++ wsX5_pass_r4))) ++ wsX50 ++ wsX20 ++ wsX30 ++ wsX40 ++ wsX00 ++ wsX10 ++ (vx_atS RX5 37 "java/lang/IllegalArgumentException" ["java/lang/RuntimeException", "java/lang/Exception"]).filter goodWord)
def wsX5_falls_r1 : List Cond := [Cond.fieldLink RX5 23 "TrolleyGang" "ahead" "LTrolleyGang$Ring;", Cond.fieldLink RX5 19 "TrolleyGang" "now" "LTrolleyGang$Ring;", Cond.fieldLink RX5 10 "TrolleyGang" "tables" "LTrolleyGang$Tables;", Cond.methodLink RX5 62 yX5_checkSpan, Cond.static yX5_checkSpan, Cond.initialized RX5, Cond.code yX5_checkSpan cX5_checkSpan 1 none, Cond.classLink RX5 26 "java/lang/IndexOutOfBoundsException", Cond.initialized "java/lang/IndexOutOfBoundsException", Cond.instanceMethod yX2_copyFrom, Cond.initialized RX2, Cond.selects RX2 yX2_copyFrom yX2_copyFrom, Cond.code yX2_copyFrom cX2_copyFrom 3 none, Cond.fieldLink RX2 12 "TrolleyGang$Ring" "wires" "LTrolleyGang$Wires;", Cond.fieldLink RX2 21 "TrolleyGang$Ring" "gang" "LTrolleyGang$Gang;", Cond.fieldLink RX2 39 "TrolleyGang$Ring" "busCount" "I", Cond.fieldLink RX2 27 "TrolleyGang$Ring" "buses" "[LTrolleyGang$Bus;", Cond.fieldLink RX2 46 "TrolleyGang$Ring" "hour" "I", Cond.fieldLink RX2 49 "TrolleyGang$Ring" "coins" "I", Cond.instanceMethod yX4_copyFrom, Cond.initialized RX4, Cond.selects RX4 yX4_copyFrom yX4_copyFrom, Cond.code yX4_copyFrom cX4_copyFrom 2 none, Cond.fieldLink RX4 9 "TrolleyGang$Wires" "worn" "[I"]
def wsX5_falls_r2 : List Cond := [Cond.methodLink RX4 18 arraycopyName, Cond.native arraycopyName, Cond.static arraycopyName, Cond.initialized "java/lang/System", Cond.fieldLink RX4 15 "TrolleyGang$Wires" "frost" "[I", Cond.instanceMethod yX1_copyFrom, Cond.initialized RX1, Cond.selects RX1 yX1_copyFrom yX1_copyFrom, Cond.code yX1_copyFrom cX1_copyFrom 2 none, Cond.fieldLink RX1 9 "TrolleyGang$Gang" "orders" "[I", Cond.methodLink RX1 15 arraycopyName, Cond.fieldLink RX1 21 "TrolleyGang$Gang" "orderCount" "I", Cond.fieldLink RX1 25 "TrolleyGang$Gang" "at" "I", Cond.fieldLink RX1 28 "TrolleyGang$Gang" "worksAtFirst" "I", Cond.fieldLink RX1 31 "TrolleyGang$Gang" "worksInAll" "I", Cond.fieldLink RX1 34 "TrolleyGang$Gang" "putUpInAll" "I", Cond.instanceMethod yX0_copyFrom, Cond.initialized RX0, Cond.selects RX0 yX0_copyFrom yX0_copyFrom, Cond.code yX0_copyFrom cX0_copyFrom 2 none, Cond.fieldLink RX0 7 "TrolleyGang$Bus" "at" "I", Cond.fieldLink RX0 13 "TrolleyGang$Bus" "hasScraper" "Z", Cond.fieldLink RX0 17 "TrolleyGang$Bus" "runs" "Z", Cond.fieldLink RX0 20 "TrolleyGang$Bus" "spansInAll" "I"]
def wsX5_falls_r3 : List Cond := [Cond.fieldLink RX0 23 "TrolleyGang$Bus" "faresInAll" "I", Cond.fieldLink RX0 26 "TrolleyGang$Bus" "hoursStuck" "I", Cond.instanceMethod yX4_isDown, Cond.selects RX4 yX4_isDown yX4_isDown, Cond.code yX4_isDown cX4_isDown 2 (some .boolean), Cond.instanceMethod yX2_letGoBy, Cond.selects RX2 yX2_letGoBy yX2_letGoBy, Cond.code yX2_letGoBy cX2_letGoBy 4 none, Cond.methodLink RX2 52 yX2_letHourGoBy, Cond.instanceMethod yX2_letHourGoBy, Cond.selects RX2 yX2_letHourGoBy yX2_letHourGoBy, Cond.code yX2_letHourGoBy cX2_letHourGoBy 5 none, Cond.static yX5_isNightAt, Cond.code yX5_isNightAt cX5_isNightAt 2 (some .boolean), Cond.methodLink RX5 234 yJ9_floorMod_7cf53, Cond.static yJ9_floorMod_7cf53, Cond.initialized RJ9, Cond.code yJ9_floorMod_7cf53 cJ9_floorMod_7cf53 3 (some .int), Cond.methodLink RX2 66 yJ9_floorMod_7cf53, Cond.instanceMethod yX4_freeze, Cond.selects RX4 yX4_freeze yX4_freeze, Cond.code yX4_freeze cX4_freeze 3 none, Cond.methodLink RX4 24 Lib.Math.min.name, Cond.static Lib.Math.min.name]
def wsX5_falls_r4 : List Cond := [Cond.initialized "java/lang/Math", Cond.code Lib.Math.min.name Lib.Math.min.code 2 (some .int), Cond.instanceMethod yX4_thaw, Cond.selects RX4 yX4_thaw yX4_thaw, Cond.code yX4_thaw cX4_thaw 2 none, Cond.methodLink RX4 30 Lib.Math.max.name, Cond.static Lib.Math.max.name, Cond.code Lib.Math.max.name Lib.Math.max.code 2 (some .int), Cond.methodLink RX2 82 yX2_letSwanFly, Cond.instanceMethod yX2_letSwanFly, Cond.selects RX2 yX2_letSwanFly yX2_letSwanFly, Cond.code yX2_letSwanFly cX2_letSwanFly 2 none, Cond.instanceMethod yX4_wear, Cond.selects RX4 yX4_wear yX4_wear, Cond.code yX4_wear cX4_wear 3 none, Cond.instanceMethod yX3_fare, Cond.initialized RX3, Cond.selects RX3 yX3_fare yX3_fare, Cond.code yX3_fare cX3_fare 2 (some .int), Cond.fieldLink RX3 22 "TrolleyGang$Tables" "fareByNight" "I", Cond.fieldLink RX3 18 "TrolleyGang$Tables" "fareByDay" "I", Cond.methodLink RX2 89 yX2_drive, Cond.instanceMethod yX2_drive, Cond.selects RX2 yX2_drive yX2_drive]
def wsX5_falls_r5 : List Cond := [Cond.code yX2_drive cX2_drive 5 none, Cond.methodLink RX2 93 yX2_letGangWork, Cond.instanceMethod yX2_letGangWork, Cond.selects RX2 yX2_letGangWork yX2_letGangWork, Cond.code yX2_letGangWork cX2_letGangWork 1 none, Cond.instanceMethod yX1_goToFirst, Cond.selects RX1 yX1_goToFirst yX1_goToFirst, Cond.code yX1_goToFirst cX1_goToFirst 4 none, Cond.methodLink RX1 41 Lib.Math.min.name, Cond.methodLink RX1 37 yX1_spansUpwardsToFirst, Cond.instanceMethod yX1_spansUpwardsToFirst, Cond.selects RX1 yX1_spansUpwardsToFirst yX1_spansUpwardsToFirst, Cond.code yX1_spansUpwardsToFirst cX1_spansUpwardsToFirst 1 (some .int), Cond.methodLink RX2 141 yX2_isOrderDoneByWorkAt, Cond.instanceMethod yX2_isOrderDoneByWorkAt, Cond.selects RX2 yX2_isOrderDoneByWorkAt yX2_isOrderDoneByWorkAt, Cond.code yX2_isOrderDoneByWorkAt cX2_isOrderDoneByWorkAt 2 (some .boolean), Cond.instanceMethod yX4_mend, Cond.selects RX4 yX4_mend yX4_mend, Cond.code yX4_mend cX4_mend 3 none, Cond.instanceMethod yX4_putUp, Cond.selects RX4 yX4_putUp yX4_putUp, Cond.code yX4_putUp cX4_putUp 2 none, Cond.instanceMethod yX1_takeOut]
def wsX5_falls_r6 : List Cond := [Cond.selects RX1 yX1_takeOut yX1_takeOut, Cond.code yX1_takeOut cX1_takeOut 3 none]
def wsX5_falls : List Cond := .code yX5_falls cX5_falls 3 (some .int) :: ((wsX5_falls_r1 ++ (wsX5_falls_r2 ++ (wsX5_falls_r3 ++ (wsX5_falls_r4 ++ (wsX5_falls_r5 ++ wsX5_falls_r6))))) ++ wsX50 ++ wsX20 ++ wsX40 ++ wsX10 ++ wsX00 ++ wsX30 ++ (vx_atS RX5 30 "java/lang/IndexOutOfBoundsException" ["java/lang/RuntimeException", "java/lang/Exception"]).filter goodWord)
def wsX5_foresee_r1 : List Cond := [Cond.classLink RX5 26 "java/lang/IndexOutOfBoundsException", Cond.initialized "java/lang/IndexOutOfBoundsException", Cond.fieldLink RX5 23 "TrolleyGang" "ahead" "LTrolleyGang$Ring;", Cond.fieldLink RX5 19 "TrolleyGang" "now" "LTrolleyGang$Ring;", Cond.fieldLink RX5 10 "TrolleyGang" "tables" "LTrolleyGang$Tables;", Cond.methodLink RX5 179 yX5_checkHours, Cond.static yX5_checkHours, Cond.initialized RX5, Cond.code yX5_checkHours cX5_checkHours 2 none, Cond.classLink RX5 33 "java/lang/IllegalArgumentException", Cond.initialized "java/lang/IllegalArgumentException", Cond.instanceMethod yX2_copyFrom, Cond.initialized RX2, Cond.selects RX2 yX2_copyFrom yX2_copyFrom, Cond.code yX2_copyFrom cX2_copyFrom 3 none, Cond.fieldLink RX2 12 "TrolleyGang$Ring" "wires" "LTrolleyGang$Wires;", Cond.fieldLink RX2 21 "TrolleyGang$Ring" "gang" "LTrolleyGang$Gang;", Cond.fieldLink RX2 39 "TrolleyGang$Ring" "busCount" "I", Cond.fieldLink RX2 27 "TrolleyGang$Ring" "buses" "[LTrolleyGang$Bus;", Cond.fieldLink RX2 46 "TrolleyGang$Ring" "hour" "I", Cond.fieldLink RX2 49 "TrolleyGang$Ring" "coins" "I", Cond.instanceMethod yX4_copyFrom, Cond.initialized RX4, Cond.selects RX4 yX4_copyFrom yX4_copyFrom]
def wsX5_foresee_r2 : List Cond := [Cond.code yX4_copyFrom cX4_copyFrom 2 none, Cond.fieldLink RX4 9 "TrolleyGang$Wires" "worn" "[I", Cond.methodLink RX4 18 arraycopyName, Cond.native arraycopyName, Cond.static arraycopyName, Cond.initialized "java/lang/System", Cond.fieldLink RX4 15 "TrolleyGang$Wires" "frost" "[I", Cond.instanceMethod yX1_copyFrom, Cond.initialized RX1, Cond.selects RX1 yX1_copyFrom yX1_copyFrom, Cond.code yX1_copyFrom cX1_copyFrom 2 none, Cond.fieldLink RX1 9 "TrolleyGang$Gang" "orders" "[I", Cond.methodLink RX1 15 arraycopyName, Cond.fieldLink RX1 21 "TrolleyGang$Gang" "orderCount" "I", Cond.fieldLink RX1 25 "TrolleyGang$Gang" "at" "I", Cond.fieldLink RX1 28 "TrolleyGang$Gang" "worksAtFirst" "I", Cond.fieldLink RX1 31 "TrolleyGang$Gang" "worksInAll" "I", Cond.fieldLink RX1 34 "TrolleyGang$Gang" "putUpInAll" "I", Cond.instanceMethod yX0_copyFrom, Cond.initialized RX0, Cond.selects RX0 yX0_copyFrom yX0_copyFrom, Cond.code yX0_copyFrom cX0_copyFrom 2 none, Cond.fieldLink RX0 7 "TrolleyGang$Bus" "at" "I", Cond.fieldLink RX0 13 "TrolleyGang$Bus" "hasScraper" "Z"]
def wsX5_foresee_r3 : List Cond := [Cond.fieldLink RX0 17 "TrolleyGang$Bus" "runs" "Z", Cond.fieldLink RX0 20 "TrolleyGang$Bus" "spansInAll" "I", Cond.fieldLink RX0 23 "TrolleyGang$Bus" "faresInAll" "I", Cond.fieldLink RX0 26 "TrolleyGang$Bus" "hoursStuck" "I", Cond.instanceMethod yX2_letGoBy, Cond.selects RX2 yX2_letGoBy yX2_letGoBy, Cond.code yX2_letGoBy cX2_letGoBy 4 none, Cond.methodLink RX2 52 yX2_letHourGoBy, Cond.instanceMethod yX2_letHourGoBy, Cond.selects RX2 yX2_letHourGoBy yX2_letHourGoBy, Cond.code yX2_letHourGoBy cX2_letHourGoBy 5 none, Cond.static yX5_isNightAt, Cond.code yX5_isNightAt cX5_isNightAt 2 (some .boolean), Cond.methodLink RX5 234 yJ9_floorMod_7cf53, Cond.static yJ9_floorMod_7cf53, Cond.initialized RJ9, Cond.code yJ9_floorMod_7cf53 cJ9_floorMod_7cf53 3 (some .int), Cond.methodLink RX2 66 yJ9_floorMod_7cf53, Cond.instanceMethod yX4_freeze, Cond.selects RX4 yX4_freeze yX4_freeze, Cond.code yX4_freeze cX4_freeze 3 none, Cond.methodLink RX4 24 Lib.Math.min.name, Cond.static Lib.Math.min.name, Cond.initialized "java/lang/Math"]
def wsX5_foresee_r4 : List Cond := [Cond.code Lib.Math.min.name Lib.Math.min.code 2 (some .int), Cond.instanceMethod yX4_thaw, Cond.selects RX4 yX4_thaw yX4_thaw, Cond.code yX4_thaw cX4_thaw 2 none, Cond.methodLink RX4 30 Lib.Math.max.name, Cond.static Lib.Math.max.name, Cond.code Lib.Math.max.name Lib.Math.max.code 2 (some .int), Cond.methodLink RX2 82 yX2_letSwanFly, Cond.instanceMethod yX2_letSwanFly, Cond.selects RX2 yX2_letSwanFly yX2_letSwanFly, Cond.code yX2_letSwanFly cX2_letSwanFly 2 none, Cond.instanceMethod yX4_isDown, Cond.selects RX4 yX4_isDown yX4_isDown, Cond.code yX4_isDown cX4_isDown 2 (some .boolean), Cond.instanceMethod yX4_wear, Cond.selects RX4 yX4_wear yX4_wear, Cond.code yX4_wear cX4_wear 3 none, Cond.instanceMethod yX3_fare, Cond.initialized RX3, Cond.selects RX3 yX3_fare yX3_fare, Cond.code yX3_fare cX3_fare 2 (some .int), Cond.fieldLink RX3 22 "TrolleyGang$Tables" "fareByNight" "I", Cond.fieldLink RX3 18 "TrolleyGang$Tables" "fareByDay" "I", Cond.methodLink RX2 89 yX2_drive]
def wsX5_foresee_r5 : List Cond := [Cond.instanceMethod yX2_drive, Cond.selects RX2 yX2_drive yX2_drive, Cond.code yX2_drive cX2_drive 5 none, Cond.methodLink RX2 93 yX2_letGangWork, Cond.instanceMethod yX2_letGangWork, Cond.selects RX2 yX2_letGangWork yX2_letGangWork, Cond.code yX2_letGangWork cX2_letGangWork 1 none, Cond.instanceMethod yX1_goToFirst, Cond.selects RX1 yX1_goToFirst yX1_goToFirst, Cond.code yX1_goToFirst cX1_goToFirst 4 none, Cond.methodLink RX1 41 Lib.Math.min.name, Cond.methodLink RX1 37 yX1_spansUpwardsToFirst, Cond.instanceMethod yX1_spansUpwardsToFirst, Cond.selects RX1 yX1_spansUpwardsToFirst yX1_spansUpwardsToFirst, Cond.code yX1_spansUpwardsToFirst cX1_spansUpwardsToFirst 1 (some .int), Cond.methodLink RX2 141 yX2_isOrderDoneByWorkAt, Cond.instanceMethod yX2_isOrderDoneByWorkAt, Cond.selects RX2 yX2_isOrderDoneByWorkAt yX2_isOrderDoneByWorkAt, Cond.code yX2_isOrderDoneByWorkAt cX2_isOrderDoneByWorkAt 2 (some .boolean), Cond.instanceMethod yX4_mend, Cond.selects RX4 yX4_mend yX4_mend, Cond.code yX4_mend cX4_mend 3 none, Cond.instanceMethod yX4_putUp, Cond.selects RX4 yX4_putUp yX4_putUp]
def wsX5_foresee_r6 : List Cond := [Cond.code yX4_putUp cX4_putUp 2 none, Cond.instanceMethod yX1_takeOut, Cond.selects RX1 yX1_takeOut yX1_takeOut, Cond.code yX1_takeOut cX1_takeOut 3 none, Cond.instanceMethod yX2_tally, Cond.selects RX2 yX2_tally yX2_tally, Cond.code yX2_tally cX2_tally 2 (some .int), Cond.static yX5_oneIf, Cond.code yX5_oneIf cX5_oneIf 1 (some .int), Cond.methodLink RX2 162 yX2_busesRunning, Cond.instanceMethod yX2_busesRunning, Cond.selects RX2 yX2_busesRunning yX2_busesRunning, Cond.code yX2_busesRunning cX2_busesRunning 3 (some .int), Cond.instanceMethod yX4_spansDown, Cond.selects RX4 yX4_spansDown yX4_spansDown, Cond.code yX4_spansDown cX4_spansDown 3 (some .int), Cond.methodLink RX4 33 yX4_isDown, Cond.instanceMethod yX4_wornInAll, Cond.selects RX4 yX4_wornInAll yX4_wornInAll, Cond.code yX4_wornInAll cX4_wornInAll 3 (some .int), Cond.instanceMethod yX4_frostInAll, Cond.selects RX4 yX4_frostInAll yX4_frostInAll, Cond.code yX4_frostInAll cX4_frostInAll 3 (some .int), Cond.methodLink RX2 175 yX2_hoursStuckInAll]
def wsX5_foresee_r7 : List Cond := [Cond.instanceMethod yX2_hoursStuckInAll, Cond.selects RX2 yX2_hoursStuckInAll yX2_hoursStuckInAll, Cond.code yX2_hoursStuckInAll cX2_hoursStuckInAll 3 (some .int)]
def wsX5_foresee : List Cond := .code yX5_foresee cX5_foresee 3 (some .int) :: ((wsX5_foresee_r1 ++ (wsX5_foresee_r2 ++ (wsX5_foresee_r3 ++ (wsX5_foresee_r4 ++ (wsX5_foresee_r5 ++ (wsX5_foresee_r6 ++ wsX5_foresee_r7)))))) ++ wsX50 ++ wsX20 ++ wsX40 ++ wsX10 ++ wsX00 ++ wsX30 ++ (vx_atS RX5 30 "java/lang/IndexOutOfBoundsException" ["java/lang/RuntimeException", "java/lang/Exception"]).filter goodWord ++ (vx_atS RX5 37 "java/lang/IllegalArgumentException" ["java/lang/RuntimeException", "java/lang/Exception"]).filter goodWord)
def wsX5_coinsWithOnlyOrder_r1 : List Cond := [Cond.fieldLink RX5 23 "TrolleyGang" "ahead" "LTrolleyGang$Ring;", Cond.fieldLink RX5 19 "TrolleyGang" "now" "LTrolleyGang$Ring;", Cond.fieldLink RX5 10 "TrolleyGang" "tables" "LTrolleyGang$Tables;", Cond.instanceMethod yX2_copyFrom, Cond.initialized RX2, Cond.selects RX2 yX2_copyFrom yX2_copyFrom, Cond.code yX2_copyFrom cX2_copyFrom 3 none, Cond.fieldLink RX2 12 "TrolleyGang$Ring" "wires" "LTrolleyGang$Wires;", Cond.fieldLink RX2 21 "TrolleyGang$Ring" "gang" "LTrolleyGang$Gang;", Cond.fieldLink RX2 39 "TrolleyGang$Ring" "busCount" "I", Cond.fieldLink RX2 27 "TrolleyGang$Ring" "buses" "[LTrolleyGang$Bus;", Cond.fieldLink RX2 46 "TrolleyGang$Ring" "hour" "I", Cond.fieldLink RX2 49 "TrolleyGang$Ring" "coins" "I", Cond.instanceMethod yX4_copyFrom, Cond.initialized RX4, Cond.selects RX4 yX4_copyFrom yX4_copyFrom, Cond.code yX4_copyFrom cX4_copyFrom 2 none, Cond.fieldLink RX4 9 "TrolleyGang$Wires" "worn" "[I", Cond.methodLink RX4 18 arraycopyName, Cond.native arraycopyName, Cond.static arraycopyName, Cond.initialized "java/lang/System", Cond.fieldLink RX4 15 "TrolleyGang$Wires" "frost" "[I", Cond.instanceMethod yX1_copyFrom]
def wsX5_coinsWithOnlyOrder_r2 : List Cond := [Cond.initialized RX1, Cond.selects RX1 yX1_copyFrom yX1_copyFrom, Cond.code yX1_copyFrom cX1_copyFrom 2 none, Cond.fieldLink RX1 9 "TrolleyGang$Gang" "orders" "[I", Cond.methodLink RX1 15 arraycopyName, Cond.fieldLink RX1 21 "TrolleyGang$Gang" "orderCount" "I", Cond.fieldLink RX1 25 "TrolleyGang$Gang" "at" "I", Cond.fieldLink RX1 28 "TrolleyGang$Gang" "worksAtFirst" "I", Cond.fieldLink RX1 31 "TrolleyGang$Gang" "worksInAll" "I", Cond.fieldLink RX1 34 "TrolleyGang$Gang" "putUpInAll" "I", Cond.instanceMethod yX0_copyFrom, Cond.initialized RX0, Cond.selects RX0 yX0_copyFrom yX0_copyFrom, Cond.code yX0_copyFrom cX0_copyFrom 2 none, Cond.fieldLink RX0 7 "TrolleyGang$Bus" "at" "I", Cond.fieldLink RX0 13 "TrolleyGang$Bus" "hasScraper" "Z", Cond.fieldLink RX0 17 "TrolleyGang$Bus" "runs" "Z", Cond.fieldLink RX0 20 "TrolleyGang$Bus" "spansInAll" "I", Cond.fieldLink RX0 23 "TrolleyGang$Bus" "faresInAll" "I", Cond.fieldLink RX0 26 "TrolleyGang$Bus" "hoursStuck" "I", Cond.instanceMethod yX1_haveOnly, Cond.selects RX1 yX1_haveOnly yX1_haveOnly, Cond.code yX1_haveOnly cX1_haveOnly 2 none, Cond.instanceMethod yX2_letGoBy]
def wsX5_coinsWithOnlyOrder_r3 : List Cond := [Cond.selects RX2 yX2_letGoBy yX2_letGoBy, Cond.code yX2_letGoBy cX2_letGoBy 4 none, Cond.methodLink RX2 52 yX2_letHourGoBy, Cond.instanceMethod yX2_letHourGoBy, Cond.selects RX2 yX2_letHourGoBy yX2_letHourGoBy, Cond.code yX2_letHourGoBy cX2_letHourGoBy 5 none, Cond.static yX5_isNightAt, Cond.initialized RX5, Cond.code yX5_isNightAt cX5_isNightAt 2 (some .boolean), Cond.methodLink RX5 234 yJ9_floorMod_7cf53, Cond.static yJ9_floorMod_7cf53, Cond.initialized RJ9, Cond.code yJ9_floorMod_7cf53 cJ9_floorMod_7cf53 3 (some .int), Cond.methodLink RX2 66 yJ9_floorMod_7cf53, Cond.instanceMethod yX4_freeze, Cond.selects RX4 yX4_freeze yX4_freeze, Cond.code yX4_freeze cX4_freeze 3 none, Cond.methodLink RX4 24 Lib.Math.min.name, Cond.static Lib.Math.min.name, Cond.initialized "java/lang/Math", Cond.code Lib.Math.min.name Lib.Math.min.code 2 (some .int), Cond.instanceMethod yX4_thaw, Cond.selects RX4 yX4_thaw yX4_thaw, Cond.code yX4_thaw cX4_thaw 2 none]
def wsX5_coinsWithOnlyOrder_r4 : List Cond := [Cond.methodLink RX4 30 Lib.Math.max.name, Cond.static Lib.Math.max.name, Cond.code Lib.Math.max.name Lib.Math.max.code 2 (some .int), Cond.methodLink RX2 82 yX2_letSwanFly, Cond.instanceMethod yX2_letSwanFly, Cond.selects RX2 yX2_letSwanFly yX2_letSwanFly, Cond.code yX2_letSwanFly cX2_letSwanFly 2 none, Cond.instanceMethod yX4_isDown, Cond.selects RX4 yX4_isDown yX4_isDown, Cond.code yX4_isDown cX4_isDown 2 (some .boolean), Cond.instanceMethod yX4_wear, Cond.selects RX4 yX4_wear yX4_wear, Cond.code yX4_wear cX4_wear 3 none, Cond.instanceMethod yX3_fare, Cond.initialized RX3, Cond.selects RX3 yX3_fare yX3_fare, Cond.code yX3_fare cX3_fare 2 (some .int), Cond.fieldLink RX3 22 "TrolleyGang$Tables" "fareByNight" "I", Cond.fieldLink RX3 18 "TrolleyGang$Tables" "fareByDay" "I", Cond.methodLink RX2 89 yX2_drive, Cond.instanceMethod yX2_drive, Cond.selects RX2 yX2_drive yX2_drive, Cond.code yX2_drive cX2_drive 5 none, Cond.methodLink RX2 93 yX2_letGangWork]
def wsX5_coinsWithOnlyOrder_r5 : List Cond := [Cond.instanceMethod yX2_letGangWork, Cond.selects RX2 yX2_letGangWork yX2_letGangWork, Cond.code yX2_letGangWork cX2_letGangWork 1 none, Cond.instanceMethod yX1_goToFirst, Cond.selects RX1 yX1_goToFirst yX1_goToFirst, Cond.code yX1_goToFirst cX1_goToFirst 4 none, Cond.methodLink RX1 41 Lib.Math.min.name, Cond.methodLink RX1 37 yX1_spansUpwardsToFirst, Cond.instanceMethod yX1_spansUpwardsToFirst, Cond.selects RX1 yX1_spansUpwardsToFirst yX1_spansUpwardsToFirst, Cond.code yX1_spansUpwardsToFirst cX1_spansUpwardsToFirst 1 (some .int), Cond.methodLink RX2 141 yX2_isOrderDoneByWorkAt, Cond.instanceMethod yX2_isOrderDoneByWorkAt, Cond.selects RX2 yX2_isOrderDoneByWorkAt yX2_isOrderDoneByWorkAt, Cond.code yX2_isOrderDoneByWorkAt cX2_isOrderDoneByWorkAt 2 (some .boolean), Cond.instanceMethod yX4_mend, Cond.selects RX4 yX4_mend yX4_mend, Cond.code yX4_mend cX4_mend 3 none, Cond.instanceMethod yX4_putUp, Cond.selects RX4 yX4_putUp yX4_putUp, Cond.code yX4_putUp cX4_putUp 2 none, Cond.instanceMethod yX1_takeOut, Cond.selects RX1 yX1_takeOut yX1_takeOut, Cond.code yX1_takeOut cX1_takeOut 3 none]
def wsX5_coinsWithOnlyOrder : List Cond := .code yX5_coinsWithOnlyOrder cX5_coinsWithOnlyOrder 3 (some .int) :: ((wsX5_coinsWithOnlyOrder_r1 ++ (wsX5_coinsWithOnlyOrder_r2 ++ (wsX5_coinsWithOnlyOrder_r3 ++ (wsX5_coinsWithOnlyOrder_r4 ++ wsX5_coinsWithOnlyOrder_r5)))) ++ wsX50 ++ wsX20 ++ wsX40 ++ wsX10 ++ wsX00 ++ wsX30)
def wsX5_advise_r1 : List Cond := [Cond.methodLink RX5 179 yX5_checkHours, Cond.static yX5_checkHours, Cond.initialized RX5, Cond.code yX5_checkHours cX5_checkHours 2 none, Cond.classLink RX5 33 "java/lang/IllegalArgumentException", Cond.initialized "java/lang/IllegalArgumentException", Cond.methodLink RX5 195 yX5_coinsWithOnlyOrder, Cond.instanceMethod yX5_coinsWithOnlyOrder, Cond.selects RX5 yX5_coinsWithOnlyOrder yX5_coinsWithOnlyOrder, Cond.code yX5_coinsWithOnlyOrder cX5_coinsWithOnlyOrder 3 (some .int), Cond.fieldLink RX5 23 "TrolleyGang" "ahead" "LTrolleyGang$Ring;", Cond.fieldLink RX5 19 "TrolleyGang" "now" "LTrolleyGang$Ring;", Cond.fieldLink RX5 10 "TrolleyGang" "tables" "LTrolleyGang$Tables;", Cond.instanceMethod yX2_copyFrom, Cond.initialized RX2, Cond.selects RX2 yX2_copyFrom yX2_copyFrom, Cond.code yX2_copyFrom cX2_copyFrom 3 none, Cond.fieldLink RX2 12 "TrolleyGang$Ring" "wires" "LTrolleyGang$Wires;", Cond.fieldLink RX2 21 "TrolleyGang$Ring" "gang" "LTrolleyGang$Gang;", Cond.fieldLink RX2 39 "TrolleyGang$Ring" "busCount" "I", Cond.fieldLink RX2 27 "TrolleyGang$Ring" "buses" "[LTrolleyGang$Bus;", Cond.fieldLink RX2 46 "TrolleyGang$Ring" "hour" "I", Cond.fieldLink RX2 49 "TrolleyGang$Ring" "coins" "I", Cond.instanceMethod yX4_copyFrom]
def wsX5_advise_r2 : List Cond := [Cond.initialized RX4, Cond.selects RX4 yX4_copyFrom yX4_copyFrom, Cond.code yX4_copyFrom cX4_copyFrom 2 none, Cond.fieldLink RX4 9 "TrolleyGang$Wires" "worn" "[I", Cond.methodLink RX4 18 arraycopyName, Cond.native arraycopyName, Cond.static arraycopyName, Cond.initialized "java/lang/System", Cond.fieldLink RX4 15 "TrolleyGang$Wires" "frost" "[I", Cond.instanceMethod yX1_copyFrom, Cond.initialized RX1, Cond.selects RX1 yX1_copyFrom yX1_copyFrom, Cond.code yX1_copyFrom cX1_copyFrom 2 none, Cond.fieldLink RX1 9 "TrolleyGang$Gang" "orders" "[I", Cond.methodLink RX1 15 arraycopyName, Cond.fieldLink RX1 21 "TrolleyGang$Gang" "orderCount" "I", Cond.fieldLink RX1 25 "TrolleyGang$Gang" "at" "I", Cond.fieldLink RX1 28 "TrolleyGang$Gang" "worksAtFirst" "I", Cond.fieldLink RX1 31 "TrolleyGang$Gang" "worksInAll" "I", Cond.fieldLink RX1 34 "TrolleyGang$Gang" "putUpInAll" "I", Cond.instanceMethod yX0_copyFrom, Cond.initialized RX0, Cond.selects RX0 yX0_copyFrom yX0_copyFrom, Cond.code yX0_copyFrom cX0_copyFrom 2 none]
def wsX5_advise_r3 : List Cond := [Cond.fieldLink RX0 7 "TrolleyGang$Bus" "at" "I", Cond.fieldLink RX0 13 "TrolleyGang$Bus" "hasScraper" "Z", Cond.fieldLink RX0 17 "TrolleyGang$Bus" "runs" "Z", Cond.fieldLink RX0 20 "TrolleyGang$Bus" "spansInAll" "I", Cond.fieldLink RX0 23 "TrolleyGang$Bus" "faresInAll" "I", Cond.fieldLink RX0 26 "TrolleyGang$Bus" "hoursStuck" "I", Cond.instanceMethod yX1_haveOnly, Cond.selects RX1 yX1_haveOnly yX1_haveOnly, Cond.code yX1_haveOnly cX1_haveOnly 2 none, Cond.instanceMethod yX2_letGoBy, Cond.selects RX2 yX2_letGoBy yX2_letGoBy, Cond.code yX2_letGoBy cX2_letGoBy 4 none, Cond.methodLink RX2 52 yX2_letHourGoBy, Cond.instanceMethod yX2_letHourGoBy, Cond.selects RX2 yX2_letHourGoBy yX2_letHourGoBy, Cond.code yX2_letHourGoBy cX2_letHourGoBy 5 none, Cond.static yX5_isNightAt, Cond.code yX5_isNightAt cX5_isNightAt 2 (some .boolean), Cond.methodLink RX5 234 yJ9_floorMod_7cf53, Cond.static yJ9_floorMod_7cf53, Cond.initialized RJ9, Cond.code yJ9_floorMod_7cf53 cJ9_floorMod_7cf53 3 (some .int), Cond.methodLink RX2 66 yJ9_floorMod_7cf53, Cond.instanceMethod yX4_freeze]
def wsX5_advise_r4 : List Cond := [Cond.selects RX4 yX4_freeze yX4_freeze, Cond.code yX4_freeze cX4_freeze 3 none, Cond.methodLink RX4 24 Lib.Math.min.name, Cond.static Lib.Math.min.name, Cond.initialized "java/lang/Math", Cond.code Lib.Math.min.name Lib.Math.min.code 2 (some .int), Cond.instanceMethod yX4_thaw, Cond.selects RX4 yX4_thaw yX4_thaw, Cond.code yX4_thaw cX4_thaw 2 none, Cond.methodLink RX4 30 Lib.Math.max.name, Cond.static Lib.Math.max.name, Cond.code Lib.Math.max.name Lib.Math.max.code 2 (some .int), Cond.methodLink RX2 82 yX2_letSwanFly, Cond.instanceMethod yX2_letSwanFly, Cond.selects RX2 yX2_letSwanFly yX2_letSwanFly, Cond.code yX2_letSwanFly cX2_letSwanFly 2 none, Cond.instanceMethod yX4_isDown, Cond.selects RX4 yX4_isDown yX4_isDown, Cond.code yX4_isDown cX4_isDown 2 (some .boolean), Cond.instanceMethod yX4_wear, Cond.selects RX4 yX4_wear yX4_wear, Cond.code yX4_wear cX4_wear 3 none, Cond.instanceMethod yX3_fare, Cond.initialized RX3]
def wsX5_advise_r5 : List Cond := [Cond.selects RX3 yX3_fare yX3_fare, Cond.code yX3_fare cX3_fare 2 (some .int), Cond.fieldLink RX3 22 "TrolleyGang$Tables" "fareByNight" "I", Cond.fieldLink RX3 18 "TrolleyGang$Tables" "fareByDay" "I", Cond.methodLink RX2 89 yX2_drive, Cond.instanceMethod yX2_drive, Cond.selects RX2 yX2_drive yX2_drive, Cond.code yX2_drive cX2_drive 5 none, Cond.methodLink RX2 93 yX2_letGangWork, Cond.instanceMethod yX2_letGangWork, Cond.selects RX2 yX2_letGangWork yX2_letGangWork, Cond.code yX2_letGangWork cX2_letGangWork 1 none, Cond.instanceMethod yX1_goToFirst, Cond.selects RX1 yX1_goToFirst yX1_goToFirst, Cond.code yX1_goToFirst cX1_goToFirst 4 none, Cond.methodLink RX1 41 Lib.Math.min.name, Cond.methodLink RX1 37 yX1_spansUpwardsToFirst, Cond.instanceMethod yX1_spansUpwardsToFirst, Cond.selects RX1 yX1_spansUpwardsToFirst yX1_spansUpwardsToFirst, Cond.code yX1_spansUpwardsToFirst cX1_spansUpwardsToFirst 1 (some .int), Cond.methodLink RX2 141 yX2_isOrderDoneByWorkAt, Cond.instanceMethod yX2_isOrderDoneByWorkAt, Cond.selects RX2 yX2_isOrderDoneByWorkAt yX2_isOrderDoneByWorkAt, Cond.code yX2_isOrderDoneByWorkAt cX2_isOrderDoneByWorkAt 2 (some .boolean)]
def wsX5_advise_r6 : List Cond := [Cond.instanceMethod yX4_mend, Cond.selects RX4 yX4_mend yX4_mend, Cond.code yX4_mend cX4_mend 3 none, Cond.instanceMethod yX4_putUp, Cond.selects RX4 yX4_putUp yX4_putUp, Cond.code yX4_putUp cX4_putUp 2 none, Cond.instanceMethod yX1_takeOut, Cond.selects RX1 yX1_takeOut yX1_takeOut, Cond.code yX1_takeOut cX1_takeOut 3 none]
def wsX5_advise : List Cond := .code yX5_advise cX5_advise 6 (some .int) :: ((wsX5_advise_r1 ++ (wsX5_advise_r2 ++ (wsX5_advise_r3 ++ (wsX5_advise_r4 ++ (wsX5_advise_r5 ++ wsX5_advise_r6))))) ++ wsX50 ++ wsX20 ++ wsX40 ++ wsX10 ++ wsX00 ++ wsX30 ++ (vx_atS RX5 37 "java/lang/IllegalArgumentException" ["java/lang/RuntimeException", "java/lang/Exception"]).filter goodWord)
def wsX5_digestOfTables : List Cond := .code yX5_digestOfTables cX5_digestOfTables 6 (some .long) :: ([.constantLong RX5 206 (31), .fieldLink RX5 10 "TrolleyGang" "tables" "LTrolleyGang$Tables;"] ++ wsX50 ++ wsX30)
def wsX5_digest_r1 : List Cond := [Cond.constantLong RX5 204 (1301), Cond.constantLong RX5 206 (31), Cond.fieldLink RX5 19 "TrolleyGang" "now" "LTrolleyGang$Ring;", Cond.methodLink RX5 208 yX5_count, Cond.instanceMethod yX5_count, Cond.selects RX5 yX5_count yX5_count, Cond.initialized RX5, Cond.code yX5_count cX5_count 2 (some .int), Cond.methodLink RX5 99 yX5_checkWhat, Cond.static yX5_checkWhat, Cond.code yX5_checkWhat cX5_checkWhat 2 none, Cond.classLink RX5 26 "java/lang/IndexOutOfBoundsException", Cond.initialized "java/lang/IndexOutOfBoundsException", Cond.instanceMethod yX2_tally, Cond.initialized RX2, Cond.selects RX2 yX2_tally yX2_tally, Cond.code yX2_tally cX2_tally 2 (some .int), Cond.fieldLink RX2 46 "TrolleyGang$Ring" "hour" "I", Cond.fieldLink RX2 49 "TrolleyGang$Ring" "coins" "I", Cond.fieldLink RX2 39 "TrolleyGang$Ring" "busCount" "I", Cond.fieldLink RX2 12 "TrolleyGang$Ring" "wires" "LTrolleyGang$Wires;", Cond.static yX5_isNightAt, Cond.code yX5_isNightAt cX5_isNightAt 2 (some .boolean), Cond.methodLink RX5 234 yJ9_floorMod_7cf53]
def wsX5_digest_r2 : List Cond := [Cond.static yJ9_floorMod_7cf53, Cond.initialized RJ9, Cond.code yJ9_floorMod_7cf53 cJ9_floorMod_7cf53 3 (some .int), Cond.static yX5_oneIf, Cond.code yX5_oneIf cX5_oneIf 1 (some .int), Cond.methodLink RX2 162 yX2_busesRunning, Cond.instanceMethod yX2_busesRunning, Cond.selects RX2 yX2_busesRunning yX2_busesRunning, Cond.code yX2_busesRunning cX2_busesRunning 3 (some .int), Cond.fieldLink RX2 27 "TrolleyGang$Ring" "buses" "[LTrolleyGang$Bus;", Cond.instanceMethod yX4_spansDown, Cond.initialized RX4, Cond.selects RX4 yX4_spansDown yX4_spansDown, Cond.code yX4_spansDown cX4_spansDown 3 (some .int), Cond.methodLink RX4 33 yX4_isDown, Cond.instanceMethod yX4_isDown, Cond.selects RX4 yX4_isDown yX4_isDown, Cond.code yX4_isDown cX4_isDown 2 (some .boolean), Cond.fieldLink RX4 9 "TrolleyGang$Wires" "worn" "[I", Cond.instanceMethod yX4_wornInAll, Cond.selects RX4 yX4_wornInAll yX4_wornInAll, Cond.code yX4_wornInAll cX4_wornInAll 3 (some .int), Cond.instanceMethod yX4_frostInAll, Cond.selects RX4 yX4_frostInAll yX4_frostInAll]
def wsX5_digest_r3 : List Cond := [Cond.code yX4_frostInAll cX4_frostInAll 3 (some .int), Cond.fieldLink RX4 15 "TrolleyGang$Wires" "frost" "[I", Cond.methodLink RX2 175 yX2_hoursStuckInAll, Cond.instanceMethod yX2_hoursStuckInAll, Cond.selects RX2 yX2_hoursStuckInAll yX2_hoursStuckInAll, Cond.code yX2_hoursStuckInAll cX2_hoursStuckInAll 3 (some .int), Cond.methodLink RX5 211 yX5_digestOfTables, Cond.instanceMethod yX5_digestOfTables, Cond.selects RX5 yX5_digestOfTables yX5_digestOfTables, Cond.code yX5_digestOfTables cX5_digestOfTables 6 (some .long), Cond.fieldLink RX5 10 "TrolleyGang" "tables" "LTrolleyGang$Tables;", Cond.methodLink RX5 215 yX5_gang, Cond.instanceMethod yX5_gang, Cond.selects RX5 yX5_gang yX5_gang, Cond.code yX5_gang cX5_gang 3 (some .int), Cond.instanceMethod yX1_hoursToFirst, Cond.initialized RX1, Cond.selects RX1 yX1_hoursToFirst yX1_hoursToFirst, Cond.code yX1_hoursToFirst cX1_hoursToFirst 3 (some .int), Cond.fieldLink RX1 21 "TrolleyGang$Gang" "orderCount" "I", Cond.methodLink RX1 41 Lib.Math.min.name, Cond.static Lib.Math.min.name, Cond.initialized "java/lang/Math", Cond.code Lib.Math.min.name Lib.Math.min.code 2 (some .int)]
def wsX5_digest_r4 : List Cond := [Cond.methodLink RX1 37 yX1_spansUpwardsToFirst, Cond.instanceMethod yX1_spansUpwardsToFirst, Cond.selects RX1 yX1_spansUpwardsToFirst yX1_spansUpwardsToFirst, Cond.code yX1_spansUpwardsToFirst cX1_spansUpwardsToFirst 1 (some .int), Cond.fieldLink RX1 9 "TrolleyGang$Gang" "orders" "[I", Cond.fieldLink RX1 25 "TrolleyGang$Gang" "at" "I", Cond.methodLink RX5 217 yX5_span, Cond.instanceMethod yX5_span, Cond.selects RX5 yX5_span yX5_span, Cond.code yX5_span cX5_span 3 (some .int), Cond.methodLink RX5 62 yX5_checkSpan, Cond.static yX5_checkSpan, Cond.code yX5_checkSpan cX5_checkSpan 1 none, Cond.methodLink RX5 103 yX5_oneIf, Cond.instanceMethod yX2_busesAt, Cond.selects RX2 yX2_busesAt yX2_busesAt, Cond.code yX2_busesAt cX2_busesAt 4 (some .int), Cond.instanceMethod yX1_placeOf, Cond.selects RX1 yX1_placeOf yX1_placeOf, Cond.code yX1_placeOf cX1_placeOf 3 (some .int), Cond.methodLink RX5 220 yX5_told, Cond.instanceMethod yX5_told, Cond.selects RX5 yX5_told yX5_told, Cond.code yX5_told cX5_told 4 (some .int)]
def wsX5_digest_r5 : List Cond := [Cond.methodLink RX5 84 yX5_checkBus, Cond.instanceMethod yX5_checkBus, Cond.selects RX5 yX5_checkBus yX5_checkBus, Cond.code yX5_checkBus cX5_checkBus 2 none, Cond.instanceMethod yX4_spansUpBehind, Cond.selects RX4 yX4_spansUpBehind yX4_spansUpBehind, Cond.code yX4_spansUpBehind cX4_spansUpBehind 3 (some .int)]
def wsX5_digest : List Cond := .code yX5_digest cX5_digest 5 (some .long) :: ((wsX5_digest_r1 ++ (wsX5_digest_r2 ++ (wsX5_digest_r3 ++ (wsX5_digest_r4 ++ wsX5_digest_r5)))) ++ wsX50 ++ wsX20 ++ wsX00 ++ wsX40 ++ wsX30 ++ wsX10 ++ (vx_atS RX5 30 "java/lang/IndexOutOfBoundsException" ["java/lang/RuntimeException", "java/lang/Exception"]).filter goodWord)
def wsJ9_max_7cf53 : List Cond := .code yJ9_max_7cf53 cJ9_max_7cf53 2 (some .int) :: ([])
def wsJ9_min_7cf53 : List Cond := .code yJ9_min_7cf53 cJ9_min_7cf53 2 (some .int) :: ([])
def wsL_below : List Cond := .code yL_below cL_below 2 (some .int) :: ([.constant RL 7 (2147483647)])
def wsL_cell : List Cond := .code yL_cell cL_cell 2 (some .int) :: ([.constant RL 8 (461243603)])
def wsL_coldOf : List Cond := .code yL_coldOf cL_coldOf 2 (some .int) :: ([.methodLink RL 28 yL_cell, .static yL_cell, .initialized RL, .code yL_cell cL_cell 2 (some .int), .constant RL 8 (461243603), .methodLink RL 31 yL_below, .static yL_below, .code yL_below cL_below 2 (some .int), .constant RL 7 (2147483647)])
def wsL_swanOf : List Cond := .code yL_swanOf cL_swanOf 2 (some .int) :: ([.methodLink RL 28 yL_cell, .static yL_cell, .initialized RL, .code yL_cell cL_cell 2 (some .int), .constant RL 8 (461243603), .methodLink RL 31 yL_below, .static yL_below, .code yL_below cL_below 2 (some .int), .constant RL 7 (2147483647)])
def wsL_ring_r1 : List Cond := [Cond.classLink RL 9 RX5, Cond.instantiable RX5 3, Cond.initialized RX5, Cond.methodLink RL 11 yX5_init, Cond.instanceMethod yX5_init, Cond.code yX5_init cX5_init 1 none, Cond.methodLink RX5 1 objectInit, Cond.instanceMethod objectInit, Cond.code objectInit ⟨#[0xb1]⟩ 1 none, Cond.classLink RX5 7 RX3, Cond.instantiable RX3 4, Cond.initialized RX3, Cond.fieldLink RX5 10 "TrolleyGang" "tables" "LTrolleyGang$Tables;", Cond.classLink RX5 16 RX2, Cond.instantiable RX2 6, Cond.initialized RX2, Cond.fieldLink RX5 19 "TrolleyGang" "now" "LTrolleyGang$Ring;", Cond.fieldLink RX5 23 "TrolleyGang" "ahead" "LTrolleyGang$Ring;", Cond.instanceMethod yX3_init, Cond.code yX3_init cX3_init 2 none, Cond.methodLink RX3 3 objectInit, Cond.arrayClass .int, Cond.fieldLink RX3 9 "TrolleyGang$Tables" "colds" "[I", Cond.fieldLink RX3 15 "TrolleyGang$Tables" "swans" "[I"]
def wsL_ring_r2 : List Cond := [Cond.fieldLink RX3 18 "TrolleyGang$Tables" "fareByDay" "I", Cond.fieldLink RX3 22 "TrolleyGang$Tables" "fareByNight" "I", Cond.instanceMethod yX2_init, Cond.code yX2_init cX2_init 2 none, Cond.methodLink RX2 3 objectInit, Cond.classLink RX2 9 RX4, Cond.instantiable RX4 2, Cond.initialized RX4, Cond.fieldLink RX2 12 "TrolleyGang$Ring" "wires" "LTrolleyGang$Wires;", Cond.classLink RX2 18 RX1, Cond.instantiable RX1 6, Cond.initialized RX1, Cond.fieldLink RX2 21 "TrolleyGang$Ring" "gang" "LTrolleyGang$Gang;", Cond.classLink RX2 25 RX0, Cond.fieldLink RX2 27 "TrolleyGang$Ring" "buses" "[LTrolleyGang$Bus;", Cond.instantiable RX0 6, Cond.initialized RX0, Cond.instanceMethod yX4_init, Cond.code yX4_init cX4_init 1 none, Cond.methodLink RX4 3 objectInit, Cond.fieldLink RX4 9 "TrolleyGang$Wires" "worn" "[I", Cond.fieldLink RX4 15 "TrolleyGang$Wires" "frost" "[I", Cond.instanceMethod yX1_init, Cond.code yX1_init cX1_init 1 none]
def wsL_ring_r3 : List Cond := [Cond.methodLink RX1 3 objectInit, Cond.fieldLink RX1 9 "TrolleyGang$Gang" "orders" "[I", Cond.instanceMethod yX0_init, Cond.code yX0_init cX0_init 1 none, Cond.methodLink RX0 1 objectInit, Cond.methodLink RL 12 yL_coldOf, Cond.static yL_coldOf, Cond.initialized RL, Cond.code yL_coldOf cL_coldOf 2 (some .int), Cond.methodLink RL 28 yL_cell, Cond.static yL_cell, Cond.code yL_cell cL_cell 2 (some .int), Cond.constant RL 8 (461243603), Cond.methodLink RL 31 yL_below, Cond.static yL_below, Cond.code yL_below cL_below 2 (some .int), Cond.constant RL 7 (2147483647), Cond.methodLink RL 18 yX5_setCold, Cond.instanceMethod yX5_setCold, Cond.selects RX5 yX5_setCold yX5_setCold, Cond.code yX5_setCold cX5_setCold 4 (some .int), Cond.classLink RX5 26 "java/lang/IndexOutOfBoundsException", Cond.initialized "java/lang/IndexOutOfBoundsException", Cond.classLink RX5 33 "java/lang/IllegalArgumentException"]
def wsL_ring_r4 : List Cond := [Cond.initialized "java/lang/IllegalArgumentException", Cond.methodLink RL 22 yL_swanOf, Cond.static yL_swanOf, Cond.code yL_swanOf cL_swanOf 2 (some .int), Cond.methodLink RL 25 yX5_setSwan, Cond.instanceMethod yX5_setSwan, Cond.selects RX5 yX5_setSwan yX5_setSwan, Cond.code yX5_setSwan cX5_setSwan 4 (some .int), Cond.methodLink RL 34 yX5_setFare, Cond.instanceMethod yX5_setFare, Cond.selects RX5 yX5_setFare yX5_setFare, Cond.code yX5_setFare cX5_setFare 4 (some .int), Cond.instanceMethod yX3_fare, Cond.selects RX3 yX3_fare yX3_fare, Cond.code yX3_fare cX3_fare 2 (some .int), Cond.methodLink RL 38 yX5_bus, Cond.instanceMethod yX5_bus, Cond.selects RX5 yX5_bus yX5_bus, Cond.code yX5_bus cX5_bus 4 (some .int), Cond.classLink RX5 69 "java/lang/IllegalStateException", Cond.initialized "java/lang/IllegalStateException", Cond.methodLink RX5 62 yX5_checkSpan, Cond.static yX5_checkSpan, Cond.code yX5_checkSpan cX5_checkSpan 1 none]
def wsL_ring_r5 : List Cond := [Cond.instanceMethod yX0_come, Cond.selects RX0 yX0_come yX0_come, Cond.code yX0_come cX0_come 3 none, Cond.fieldLink RX0 7 "TrolleyGang$Bus" "at" "I", Cond.fieldLink RX0 13 "TrolleyGang$Bus" "hasScraper" "Z", Cond.fieldLink RX0 17 "TrolleyGang$Bus" "runs" "Z"]
def wsL_ring : List Cond := .code yL_ring cL_ring 4 (some (.object "TrolleyGang")) :: ((wsL_ring_r1 ++ (wsL_ring_r2 ++ (wsL_ring_r3 ++ (wsL_ring_r4 ++ wsL_ring_r5)))) ++ wsX50 ++ wsX30 ++ wsX20 ++ wsX40 ++ wsX10 ++ wsX00 ++ (vx_atS RX5 30 "java/lang/IndexOutOfBoundsException" ["java/lang/RuntimeException", "java/lang/Exception"]).filter goodWord ++ (vx_atS RX5 37 "java/lang/IllegalArgumentException" ["java/lang/RuntimeException", "java/lang/Exception"]).filter goodWord ++ (vx_atS RX5 73 "java/lang/IllegalStateException" ["java/lang/RuntimeException", "java/lang/Exception"]).filter goodWord)
def wsL_law0_r1 : List Cond := [Cond.methodLink RL 42 yL_ring, Cond.static yL_ring, Cond.initialized RL, Cond.code yL_ring cL_ring 4 (some (.object "TrolleyGang")), Cond.classLink RL 9 RX5, Cond.instantiable RX5 3, Cond.initialized RX5, Cond.methodLink RL 11 yX5_init, Cond.instanceMethod yX5_init, Cond.code yX5_init cX5_init 1 none, Cond.methodLink RX5 1 objectInit, Cond.instanceMethod objectInit, Cond.code objectInit ⟨#[0xb1]⟩ 1 none, Cond.classLink RX5 7 RX3, Cond.instantiable RX3 4, Cond.initialized RX3, Cond.fieldLink RX5 10 "TrolleyGang" "tables" "LTrolleyGang$Tables;", Cond.classLink RX5 16 RX2, Cond.instantiable RX2 6, Cond.initialized RX2, Cond.fieldLink RX5 19 "TrolleyGang" "now" "LTrolleyGang$Ring;", Cond.fieldLink RX5 23 "TrolleyGang" "ahead" "LTrolleyGang$Ring;", Cond.instanceMethod yX3_init, Cond.code yX3_init cX3_init 2 none]
def wsL_law0_r2 : List Cond := [Cond.methodLink RX3 3 objectInit, Cond.arrayClass .int, Cond.fieldLink RX3 9 "TrolleyGang$Tables" "colds" "[I", Cond.fieldLink RX3 15 "TrolleyGang$Tables" "swans" "[I", Cond.fieldLink RX3 18 "TrolleyGang$Tables" "fareByDay" "I", Cond.fieldLink RX3 22 "TrolleyGang$Tables" "fareByNight" "I", Cond.instanceMethod yX2_init, Cond.code yX2_init cX2_init 2 none, Cond.methodLink RX2 3 objectInit, Cond.classLink RX2 9 RX4, Cond.instantiable RX4 2, Cond.initialized RX4, Cond.fieldLink RX2 12 "TrolleyGang$Ring" "wires" "LTrolleyGang$Wires;", Cond.classLink RX2 18 RX1, Cond.instantiable RX1 6, Cond.initialized RX1, Cond.fieldLink RX2 21 "TrolleyGang$Ring" "gang" "LTrolleyGang$Gang;", Cond.classLink RX2 25 RX0, Cond.fieldLink RX2 27 "TrolleyGang$Ring" "buses" "[LTrolleyGang$Bus;", Cond.instantiable RX0 6, Cond.initialized RX0, Cond.instanceMethod yX4_init, Cond.code yX4_init cX4_init 1 none, Cond.methodLink RX4 3 objectInit]
def wsL_law0_r3 : List Cond := [Cond.fieldLink RX4 9 "TrolleyGang$Wires" "worn" "[I", Cond.fieldLink RX4 15 "TrolleyGang$Wires" "frost" "[I", Cond.instanceMethod yX1_init, Cond.code yX1_init cX1_init 1 none, Cond.methodLink RX1 3 objectInit, Cond.fieldLink RX1 9 "TrolleyGang$Gang" "orders" "[I", Cond.instanceMethod yX0_init, Cond.code yX0_init cX0_init 1 none, Cond.methodLink RX0 1 objectInit, Cond.methodLink RL 12 yL_coldOf, Cond.static yL_coldOf, Cond.code yL_coldOf cL_coldOf 2 (some .int), Cond.methodLink RL 28 yL_cell, Cond.static yL_cell, Cond.code yL_cell cL_cell 2 (some .int), Cond.constant RL 8 (461243603), Cond.methodLink RL 31 yL_below, Cond.static yL_below, Cond.code yL_below cL_below 2 (some .int), Cond.constant RL 7 (2147483647), Cond.methodLink RL 18 yX5_setCold, Cond.instanceMethod yX5_setCold, Cond.selects RX5 yX5_setCold yX5_setCold, Cond.code yX5_setCold cX5_setCold 4 (some .int)]
def wsL_law0_r4 : List Cond := [Cond.classLink RX5 26 "java/lang/IndexOutOfBoundsException", Cond.initialized "java/lang/IndexOutOfBoundsException", Cond.classLink RX5 33 "java/lang/IllegalArgumentException", Cond.initialized "java/lang/IllegalArgumentException", Cond.methodLink RL 22 yL_swanOf, Cond.static yL_swanOf, Cond.code yL_swanOf cL_swanOf 2 (some .int), Cond.methodLink RL 25 yX5_setSwan, Cond.instanceMethod yX5_setSwan, Cond.selects RX5 yX5_setSwan yX5_setSwan, Cond.code yX5_setSwan cX5_setSwan 4 (some .int), Cond.methodLink RL 34 yX5_setFare, Cond.instanceMethod yX5_setFare, Cond.selects RX5 yX5_setFare yX5_setFare, Cond.code yX5_setFare cX5_setFare 4 (some .int), Cond.instanceMethod yX3_fare, Cond.selects RX3 yX3_fare yX3_fare, Cond.code yX3_fare cX3_fare 2 (some .int), Cond.methodLink RL 38 yX5_bus, Cond.instanceMethod yX5_bus, Cond.selects RX5 yX5_bus yX5_bus, Cond.code yX5_bus cX5_bus 4 (some .int), Cond.classLink RX5 69 "java/lang/IllegalStateException", Cond.initialized "java/lang/IllegalStateException"]
def wsL_law0_r5 : List Cond := [Cond.methodLink RX5 62 yX5_checkSpan, Cond.static yX5_checkSpan, Cond.code yX5_checkSpan cX5_checkSpan 1 none, Cond.instanceMethod yX0_come, Cond.selects RX0 yX0_come yX0_come, Cond.code yX0_come cX0_come 3 none, Cond.fieldLink RX0 7 "TrolleyGang$Bus" "at" "I", Cond.fieldLink RX0 13 "TrolleyGang$Bus" "hasScraper" "Z", Cond.fieldLink RX0 17 "TrolleyGang$Bus" "runs" "Z", Cond.methodLink RL 46 yX5_digest, Cond.instanceMethod yX5_digest, Cond.selects RX5 yX5_digest yX5_digest, Cond.code yX5_digest cX5_digest 5 (some .long), Cond.constantLong RX5 204 (1301), Cond.constantLong RX5 206 (31), Cond.methodLink RX5 208 yX5_count, Cond.instanceMethod yX5_count, Cond.selects RX5 yX5_count yX5_count, Cond.code yX5_count cX5_count 2 (some .int), Cond.methodLink RX5 99 yX5_checkWhat, Cond.static yX5_checkWhat, Cond.code yX5_checkWhat cX5_checkWhat 2 none, Cond.instanceMethod yX2_tally, Cond.selects RX2 yX2_tally yX2_tally]
def wsL_law0_r6 : List Cond := [Cond.code yX2_tally cX2_tally 2 (some .int), Cond.fieldLink RX2 46 "TrolleyGang$Ring" "hour" "I", Cond.fieldLink RX2 49 "TrolleyGang$Ring" "coins" "I", Cond.fieldLink RX2 39 "TrolleyGang$Ring" "busCount" "I", Cond.static yX5_isNightAt, Cond.code yX5_isNightAt cX5_isNightAt 2 (some .boolean), Cond.methodLink RX5 234 yJ9_floorMod_7cf53, Cond.static yJ9_floorMod_7cf53, Cond.initialized RJ9, Cond.code yJ9_floorMod_7cf53 cJ9_floorMod_7cf53 3 (some .int), Cond.static yX5_oneIf, Cond.code yX5_oneIf cX5_oneIf 1 (some .int), Cond.methodLink RX2 162 yX2_busesRunning, Cond.instanceMethod yX2_busesRunning, Cond.selects RX2 yX2_busesRunning yX2_busesRunning, Cond.code yX2_busesRunning cX2_busesRunning 3 (some .int), Cond.instanceMethod yX4_spansDown, Cond.selects RX4 yX4_spansDown yX4_spansDown, Cond.code yX4_spansDown cX4_spansDown 3 (some .int), Cond.methodLink RX4 33 yX4_isDown, Cond.instanceMethod yX4_isDown, Cond.selects RX4 yX4_isDown yX4_isDown, Cond.code yX4_isDown cX4_isDown 2 (some .boolean), Cond.instanceMethod yX4_wornInAll]
def wsL_law0_r7 : List Cond := [Cond.selects RX4 yX4_wornInAll yX4_wornInAll, Cond.code yX4_wornInAll cX4_wornInAll 3 (some .int), Cond.instanceMethod yX4_frostInAll, Cond.selects RX4 yX4_frostInAll yX4_frostInAll, Cond.code yX4_frostInAll cX4_frostInAll 3 (some .int), Cond.methodLink RX2 175 yX2_hoursStuckInAll, Cond.instanceMethod yX2_hoursStuckInAll, Cond.selects RX2 yX2_hoursStuckInAll yX2_hoursStuckInAll, Cond.code yX2_hoursStuckInAll cX2_hoursStuckInAll 3 (some .int), Cond.methodLink RX5 211 yX5_digestOfTables, Cond.instanceMethod yX5_digestOfTables, Cond.selects RX5 yX5_digestOfTables yX5_digestOfTables, Cond.code yX5_digestOfTables cX5_digestOfTables 6 (some .long), Cond.methodLink RX5 215 yX5_gang, Cond.instanceMethod yX5_gang, Cond.selects RX5 yX5_gang yX5_gang, Cond.code yX5_gang cX5_gang 3 (some .int), Cond.instanceMethod yX1_hoursToFirst, Cond.selects RX1 yX1_hoursToFirst yX1_hoursToFirst, Cond.code yX1_hoursToFirst cX1_hoursToFirst 3 (some .int), Cond.fieldLink RX1 21 "TrolleyGang$Gang" "orderCount" "I", Cond.methodLink RX1 41 Lib.Math.min.name, Cond.static Lib.Math.min.name, Cond.initialized "java/lang/Math"]
def wsL_law0_r8 : List Cond := [Cond.code Lib.Math.min.name Lib.Math.min.code 2 (some .int), Cond.methodLink RX1 37 yX1_spansUpwardsToFirst, Cond.instanceMethod yX1_spansUpwardsToFirst, Cond.selects RX1 yX1_spansUpwardsToFirst yX1_spansUpwardsToFirst, Cond.code yX1_spansUpwardsToFirst cX1_spansUpwardsToFirst 1 (some .int), Cond.fieldLink RX1 25 "TrolleyGang$Gang" "at" "I", Cond.methodLink RX5 217 yX5_span, Cond.instanceMethod yX5_span, Cond.selects RX5 yX5_span yX5_span, Cond.code yX5_span cX5_span 3 (some .int), Cond.methodLink RX5 103 yX5_oneIf, Cond.instanceMethod yX2_busesAt, Cond.selects RX2 yX2_busesAt yX2_busesAt, Cond.code yX2_busesAt cX2_busesAt 4 (some .int), Cond.instanceMethod yX1_placeOf, Cond.selects RX1 yX1_placeOf yX1_placeOf, Cond.code yX1_placeOf cX1_placeOf 3 (some .int), Cond.methodLink RX5 220 yX5_told, Cond.instanceMethod yX5_told, Cond.selects RX5 yX5_told yX5_told, Cond.code yX5_told cX5_told 4 (some .int), Cond.methodLink RX5 84 yX5_checkBus, Cond.instanceMethod yX5_checkBus, Cond.selects RX5 yX5_checkBus yX5_checkBus]
def wsL_law0_r9 : List Cond := [Cond.code yX5_checkBus cX5_checkBus 2 none, Cond.instanceMethod yX4_spansUpBehind, Cond.selects RX4 yX4_spansUpBehind yX4_spansUpBehind, Cond.code yX4_spansUpBehind cX4_spansUpBehind 3 (some .int), Cond.methodLink RL 50 yX5_foresee, Cond.instanceMethod yX5_foresee, Cond.selects RX5 yX5_foresee yX5_foresee, Cond.code yX5_foresee cX5_foresee 3 (some .int), Cond.methodLink RX5 179 yX5_checkHours, Cond.static yX5_checkHours, Cond.code yX5_checkHours cX5_checkHours 2 none, Cond.instanceMethod yX2_copyFrom, Cond.selects RX2 yX2_copyFrom yX2_copyFrom, Cond.code yX2_copyFrom cX2_copyFrom 3 none, Cond.instanceMethod yX4_copyFrom, Cond.selects RX4 yX4_copyFrom yX4_copyFrom, Cond.code yX4_copyFrom cX4_copyFrom 2 none, Cond.methodLink RX4 18 arraycopyName, Cond.native arraycopyName, Cond.static arraycopyName, Cond.initialized "java/lang/System", Cond.instanceMethod yX1_copyFrom, Cond.selects RX1 yX1_copyFrom yX1_copyFrom, Cond.code yX1_copyFrom cX1_copyFrom 2 none]
def wsL_law0_r10 : List Cond := [Cond.methodLink RX1 15 arraycopyName, Cond.fieldLink RX1 28 "TrolleyGang$Gang" "worksAtFirst" "I", Cond.fieldLink RX1 31 "TrolleyGang$Gang" "worksInAll" "I", Cond.fieldLink RX1 34 "TrolleyGang$Gang" "putUpInAll" "I", Cond.instanceMethod yX0_copyFrom, Cond.selects RX0 yX0_copyFrom yX0_copyFrom, Cond.code yX0_copyFrom cX0_copyFrom 2 none, Cond.fieldLink RX0 20 "TrolleyGang$Bus" "spansInAll" "I", Cond.fieldLink RX0 23 "TrolleyGang$Bus" "faresInAll" "I", Cond.fieldLink RX0 26 "TrolleyGang$Bus" "hoursStuck" "I", Cond.instanceMethod yX2_letGoBy, Cond.selects RX2 yX2_letGoBy yX2_letGoBy, Cond.code yX2_letGoBy cX2_letGoBy 4 none, Cond.methodLink RX2 52 yX2_letHourGoBy, Cond.instanceMethod yX2_letHourGoBy, Cond.selects RX2 yX2_letHourGoBy yX2_letHourGoBy, Cond.code yX2_letHourGoBy cX2_letHourGoBy 5 none, Cond.methodLink RX2 66 yJ9_floorMod_7cf53, Cond.instanceMethod yX4_freeze, Cond.selects RX4 yX4_freeze yX4_freeze, Cond.code yX4_freeze cX4_freeze 3 none, Cond.methodLink RX4 24 Lib.Math.min.name, Cond.instanceMethod yX4_thaw, Cond.selects RX4 yX4_thaw yX4_thaw]
def wsL_law0_r11 : List Cond := [Cond.code yX4_thaw cX4_thaw 2 none, Cond.methodLink RX4 30 Lib.Math.max.name, Cond.static Lib.Math.max.name, Cond.code Lib.Math.max.name Lib.Math.max.code 2 (some .int), Cond.methodLink RX2 82 yX2_letSwanFly, Cond.instanceMethod yX2_letSwanFly, Cond.selects RX2 yX2_letSwanFly yX2_letSwanFly, Cond.code yX2_letSwanFly cX2_letSwanFly 2 none, Cond.instanceMethod yX4_wear, Cond.selects RX4 yX4_wear yX4_wear, Cond.code yX4_wear cX4_wear 3 none, Cond.methodLink RX2 89 yX2_drive, Cond.instanceMethod yX2_drive, Cond.selects RX2 yX2_drive yX2_drive, Cond.code yX2_drive cX2_drive 5 none, Cond.methodLink RX2 93 yX2_letGangWork, Cond.instanceMethod yX2_letGangWork, Cond.selects RX2 yX2_letGangWork yX2_letGangWork, Cond.code yX2_letGangWork cX2_letGangWork 1 none, Cond.instanceMethod yX1_goToFirst, Cond.selects RX1 yX1_goToFirst yX1_goToFirst, Cond.code yX1_goToFirst cX1_goToFirst 4 none, Cond.methodLink RX2 141 yX2_isOrderDoneByWorkAt, Cond.instanceMethod yX2_isOrderDoneByWorkAt]
def wsL_law0_r12 : List Cond := [Cond.selects RX2 yX2_isOrderDoneByWorkAt yX2_isOrderDoneByWorkAt, Cond.code yX2_isOrderDoneByWorkAt cX2_isOrderDoneByWorkAt 2 (some .boolean), Cond.instanceMethod yX4_mend, Cond.selects RX4 yX4_mend yX4_mend, Cond.code yX4_mend cX4_mend 3 none, Cond.instanceMethod yX4_putUp, Cond.selects RX4 yX4_putUp yX4_putUp, Cond.code yX4_putUp cX4_putUp 2 none, Cond.instanceMethod yX1_takeOut, Cond.selects RX1 yX1_takeOut yX1_takeOut, Cond.code yX1_takeOut cX1_takeOut 3 none, Cond.methodLink RL 53 yX5_falls, Cond.instanceMethod yX5_falls, Cond.selects RX5 yX5_falls yX5_falls, Cond.code yX5_falls cX5_falls 3 (some .int), Cond.methodLink RL 57 yX5_advise, Cond.instanceMethod yX5_advise, Cond.selects RX5 yX5_advise yX5_advise, Cond.code yX5_advise cX5_advise 6 (some .int), Cond.methodLink RX5 195 yX5_coinsWithOnlyOrder, Cond.instanceMethod yX5_coinsWithOnlyOrder, Cond.selects RX5 yX5_coinsWithOnlyOrder yX5_coinsWithOnlyOrder, Cond.code yX5_coinsWithOnlyOrder cX5_coinsWithOnlyOrder 3 (some .int), Cond.instanceMethod yX1_haveOnly]
def wsL_law0_r13 : List Cond := [Cond.selects RX1 yX1_haveOnly yX1_haveOnly, Cond.code yX1_haveOnly cX1_haveOnly 2 none, Cond.methodLink RL 60 yX5_span, Cond.methodLink RL 63 yX5_gang, Cond.methodLink RL 66 yX5_order, Cond.instanceMethod yX5_order, Cond.selects RX5 yX5_order yX5_order, Cond.code yX5_order cX5_order 2 (some .int), Cond.methodLink RL 69 yX5_cancel, Cond.instanceMethod yX5_cancel, Cond.selects RX5 yX5_cancel yX5_cancel, Cond.code yX5_cancel cX5_cancel 3 (some .int), Cond.methodLink RL 72 yX5_park, Cond.instanceMethod yX5_park, Cond.selects RX5 yX5_park yX5_park, Cond.code yX5_park cX5_park 3 (some .boolean), Cond.methodLink RL 76 yX5_pass, Cond.instanceMethod yX5_pass, Cond.selects RX5 yX5_pass yX5_pass, Cond.code yX5_pass cX5_pass 3 (some .int), Cond.methodLink RL 79 yX5_count, Cond.methodLink RL 82 yX5_told]
def wsL_law0 : List Cond := (wsL_law0_r1 ++ (wsL_law0_r2 ++ (wsL_law0_r3 ++ (wsL_law0_r4 ++ (wsL_law0_r5 ++ (wsL_law0_r6 ++ (wsL_law0_r7 ++ (wsL_law0_r8 ++ (wsL_law0_r9 ++ (wsL_law0_r10 ++ (wsL_law0_r11 ++ (wsL_law0_r12 ++ wsL_law0_r13)))))))))))) ++ wsX50 ++ wsX30 ++ wsX20 ++ wsX40 ++ wsX10 ++ wsX00 ++ ([] : List Cond)
def wsL_law : List Cond := wsL_law0 ++ (vx_atS RX5 30 "java/lang/IndexOutOfBoundsException" ["java/lang/RuntimeException", "java/lang/Exception"]).filter goodWord ++ (vx_atS RX5 37 "java/lang/IllegalArgumentException" ["java/lang/RuntimeException", "java/lang/Exception"]).filter goodWord ++ (vx_atS RX5 73 "java/lang/IllegalStateException" ["java/lang/RuntimeException", "java/lang/Exception"]).filter goodWord
abbrev vwCl : List vw_C := [(RX0, TX0, 6), (RX1, TX1, 6), (RX2, TX2, 6), (RX3, TX3, 4), (RX4, TX4, 2), (RX5, TX5, 3)]
theorem dX0_init_0 : decode cX0_init 0 = .ok (.aload_n 0, 1) := by decide +kernel
theorem dX0_init_1 : decode cX0_init 1 = .ok (.invokespecial 1, 3) := by decide +kernel
theorem dX0_init_4 : decode cX0_init 4 = .ok (.return_, 1) := by decide +kernel
theorem dX0_come_0 : decode cX0_come 0 = .ok (.aload_n 0, 1) := by decide +kernel
theorem dX0_come_1 : decode cX0_come 1 = .ok (.iload_n 1, 1) := by decide +kernel
theorem dX0_come_2 : decode cX0_come 2 = .ok (.putfield 7, 3) := by decide +kernel
theorem dX0_come_5 : decode cX0_come 5 = .ok (.aload_n 0, 1) := by decide +kernel
theorem dX0_come_6 : decode cX0_come 6 = .ok (.iload_n 2, 1) := by decide +kernel
theorem dX0_come_7 : decode cX0_come 7 = .ok (.putfield 13, 3) := by decide +kernel
theorem dX0_come_10 : decode cX0_come 10 = .ok (.aload_n 0, 1) := by decide +kernel
theorem dX0_come_11 : decode cX0_come 11 = .ok (.iconst 1, 1) := by decide +kernel
theorem dX0_come_12 : decode cX0_come 12 = .ok (.putfield 17, 3) := by decide +kernel
theorem dX0_come_15 : decode cX0_come 15 = .ok (.return_, 1) := by decide +kernel
theorem dX0_copyFrom_0 : decode cX0_copyFrom 0 = .ok (.aload_n 0, 1) := by decide +kernel
theorem dX0_copyFrom_1 : decode cX0_copyFrom 1 = .ok (.aload_n 1, 1) := by decide +kernel
theorem dX0_copyFrom_2 : decode cX0_copyFrom 2 = .ok (.getfield 7, 3) := by decide +kernel
theorem dX0_copyFrom_5 : decode cX0_copyFrom 5 = .ok (.putfield 7, 3) := by decide +kernel
theorem dX0_copyFrom_8 : decode cX0_copyFrom 8 = .ok (.aload_n 0, 1) := by decide +kernel
theorem dX0_copyFrom_9 : decode cX0_copyFrom 9 = .ok (.aload_n 1, 1) := by decide +kernel
theorem dX0_copyFrom_10 : decode cX0_copyFrom 10 = .ok (.getfield 13, 3) := by decide +kernel
theorem dX0_copyFrom_13 : decode cX0_copyFrom 13 = .ok (.putfield 13, 3) := by decide +kernel
theorem dX0_copyFrom_16 : decode cX0_copyFrom 16 = .ok (.aload_n 0, 1) := by decide +kernel
theorem dX0_copyFrom_17 : decode cX0_copyFrom 17 = .ok (.aload_n 1, 1) := by decide +kernel
theorem dX0_copyFrom_18 : decode cX0_copyFrom 18 = .ok (.getfield 17, 3) := by decide +kernel
theorem dX0_copyFrom_21 : decode cX0_copyFrom 21 = .ok (.putfield 17, 3) := by decide +kernel
theorem dX0_copyFrom_24 : decode cX0_copyFrom 24 = .ok (.aload_n 0, 1) := by decide +kernel
theorem dX0_copyFrom_25 : decode cX0_copyFrom 25 = .ok (.aload_n 1, 1) := by decide +kernel
theorem dX0_copyFrom_26 : decode cX0_copyFrom 26 = .ok (.getfield 20, 3) := by decide +kernel
theorem dX0_copyFrom_29 : decode cX0_copyFrom 29 = .ok (.putfield 20, 3) := by decide +kernel
theorem dX0_copyFrom_32 : decode cX0_copyFrom 32 = .ok (.aload_n 0, 1) := by decide +kernel
theorem dX0_copyFrom_33 : decode cX0_copyFrom 33 = .ok (.aload_n 1, 1) := by decide +kernel
theorem dX0_copyFrom_34 : decode cX0_copyFrom 34 = .ok (.getfield 23, 3) := by decide +kernel
theorem dX0_copyFrom_37 : decode cX0_copyFrom 37 = .ok (.putfield 23, 3) := by decide +kernel
theorem dX0_copyFrom_40 : decode cX0_copyFrom 40 = .ok (.aload_n 0, 1) := by decide +kernel
theorem dX0_copyFrom_41 : decode cX0_copyFrom 41 = .ok (.aload_n 1, 1) := by decide +kernel
theorem dX0_copyFrom_42 : decode cX0_copyFrom 42 = .ok (.getfield 26, 3) := by decide +kernel
theorem dX0_copyFrom_45 : decode cX0_copyFrom 45 = .ok (.putfield 26, 3) := by decide +kernel
theorem dX0_copyFrom_48 : decode cX0_copyFrom 48 = .ok (.return_, 1) := by decide +kernel
theorem dX1_init_0 : decode cX1_init 0 = .ok (.aload_n 0, 1) := by decide +kernel
theorem dX1_init_1 : decode cX1_init 1 = .ok (.invokespecial 3, 3) := by decide +kernel
theorem dX1_init_4 : decode cX1_init 4 = .ok (.aload_n 0, 1) := by decide +kernel
theorem dX1_init_5 : decode cX1_init 5 = .ok (.bipush 6, 2) := by decide +kernel
theorem dX1_init_7 : decode cX1_init 7 = .ok (.newarray .int, 2) := by decide +kernel
theorem dX1_init_9 : decode cX1_init 9 = .ok (.putfield 9, 3) := by decide +kernel
theorem dX1_init_12 : decode cX1_init 12 = .ok (.return_, 1) := by decide +kernel
theorem dX1_copyFrom_0 : decode cX1_copyFrom 0 = .ok (.aload_n 1, 1) := by decide +kernel
theorem dX1_copyFrom_1 : decode cX1_copyFrom 1 = .ok (.getfield 9, 3) := by decide +kernel
theorem dX1_copyFrom_4 : decode cX1_copyFrom 4 = .ok (.iconst 0, 1) := by decide +kernel
theorem dX1_copyFrom_5 : decode cX1_copyFrom 5 = .ok (.aload_n 0, 1) := by decide +kernel
theorem dX1_copyFrom_6 : decode cX1_copyFrom 6 = .ok (.getfield 9, 3) := by decide +kernel
theorem dX1_copyFrom_9 : decode cX1_copyFrom 9 = .ok (.iconst 0, 1) := by decide +kernel
theorem dX1_copyFrom_10 : decode cX1_copyFrom 10 = .ok (.bipush 6, 2) := by decide +kernel
theorem dX1_copyFrom_12 : decode cX1_copyFrom 12 = .ok (.invokestatic 15, 3) := by decide +kernel
theorem dX1_copyFrom_15 : decode cX1_copyFrom 15 = .ok (.aload_n 0, 1) := by decide +kernel
theorem dX1_copyFrom_16 : decode cX1_copyFrom 16 = .ok (.aload_n 1, 1) := by decide +kernel
theorem dX1_copyFrom_17 : decode cX1_copyFrom 17 = .ok (.getfield 21, 3) := by decide +kernel
theorem dX1_copyFrom_20 : decode cX1_copyFrom 20 = .ok (.putfield 21, 3) := by decide +kernel
theorem dX1_copyFrom_23 : decode cX1_copyFrom 23 = .ok (.aload_n 0, 1) := by decide +kernel
theorem dX1_copyFrom_24 : decode cX1_copyFrom 24 = .ok (.aload_n 1, 1) := by decide +kernel
theorem dX1_copyFrom_25 : decode cX1_copyFrom 25 = .ok (.getfield 25, 3) := by decide +kernel
theorem dX1_copyFrom_28 : decode cX1_copyFrom 28 = .ok (.putfield 25, 3) := by decide +kernel
theorem dX1_copyFrom_31 : decode cX1_copyFrom 31 = .ok (.aload_n 0, 1) := by decide +kernel
theorem dX1_copyFrom_32 : decode cX1_copyFrom 32 = .ok (.aload_n 1, 1) := by decide +kernel
theorem dX1_copyFrom_33 : decode cX1_copyFrom 33 = .ok (.getfield 28, 3) := by decide +kernel
theorem dX1_copyFrom_36 : decode cX1_copyFrom 36 = .ok (.putfield 28, 3) := by decide +kernel
theorem dX1_copyFrom_39 : decode cX1_copyFrom 39 = .ok (.aload_n 0, 1) := by decide +kernel
theorem dX1_copyFrom_40 : decode cX1_copyFrom 40 = .ok (.aload_n 1, 1) := by decide +kernel
theorem dX1_copyFrom_41 : decode cX1_copyFrom 41 = .ok (.getfield 31, 3) := by decide +kernel
theorem dX1_copyFrom_44 : decode cX1_copyFrom 44 = .ok (.putfield 31, 3) := by decide +kernel
theorem dX1_copyFrom_47 : decode cX1_copyFrom 47 = .ok (.aload_n 0, 1) := by decide +kernel
theorem dX1_copyFrom_48 : decode cX1_copyFrom 48 = .ok (.aload_n 1, 1) := by decide +kernel
theorem dX1_copyFrom_49 : decode cX1_copyFrom 49 = .ok (.getfield 34, 3) := by decide +kernel
theorem dX1_copyFrom_52 : decode cX1_copyFrom 52 = .ok (.putfield 34, 3) := by decide +kernel
theorem dX1_copyFrom_55 : decode cX1_copyFrom 55 = .ok (.return_, 1) := by decide +kernel
theorem dX1_placeOf_0 : decode cX1_placeOf 0 = .ok (.iconst 0, 1) := by decide +kernel
theorem dX1_placeOf_1 : decode cX1_placeOf 1 = .ok (.istore_n 2, 1) := by decide +kernel
theorem dX1_placeOf_2 : decode cX1_placeOf 2 = .ok (.iload_n 2, 1) := by decide +kernel
theorem dX1_placeOf_3 : decode cX1_placeOf 3 = .ok (.aload_n 0, 1) := by decide +kernel
theorem dX1_placeOf_4 : decode cX1_placeOf 4 = .ok (.getfield 21, 3) := by decide +kernel
theorem dX1_placeOf_7 : decode cX1_placeOf 7 = .ok (.if_icmp .ge 21, 3) := by decide +kernel
theorem dX1_placeOf_10 : decode cX1_placeOf 10 = .ok (.aload_n 0, 1) := by decide +kernel
theorem dX1_placeOf_11 : decode cX1_placeOf 11 = .ok (.getfield 9, 3) := by decide +kernel
theorem dX1_placeOf_14 : decode cX1_placeOf 14 = .ok (.iload_n 2, 1) := by decide +kernel
theorem dX1_placeOf_15 : decode cX1_placeOf 15 = .ok (.iaload, 1) := by decide +kernel
theorem dX1_placeOf_16 : decode cX1_placeOf 16 = .ok (.iload_n 1, 1) := by decide +kernel
theorem dX1_placeOf_17 : decode cX1_placeOf 17 = .ok (.if_icmp .ne 5, 3) := by decide +kernel
theorem dX1_placeOf_20 : decode cX1_placeOf 20 = .ok (.iload_n 2, 1) := by decide +kernel
theorem dX1_placeOf_21 : decode cX1_placeOf 21 = .ok (.ireturn, 1) := by decide +kernel
theorem dX1_placeOf_22 : decode cX1_placeOf 22 = .ok (.iinc 2 1, 3) := by decide +kernel
theorem dX1_placeOf_25 : decode cX1_placeOf 25 = .ok (.goto (-23), 3) := by decide +kernel
theorem dX1_placeOf_28 : decode cX1_placeOf 28 = .ok (.iconst (-1), 1) := by decide +kernel
theorem dX1_placeOf_29 : decode cX1_placeOf 29 = .ok (.ireturn, 1) := by decide +kernel
theorem dX1_takeOut_0 : decode cX1_takeOut 0 = .ok (.iload_n 1, 1) := by decide +kernel
theorem dX1_takeOut_1 : decode cX1_takeOut 1 = .ok (.iconst 1, 1) := by decide +kernel
theorem dX1_takeOut_2 : decode cX1_takeOut 2 = .ok (.iadd, 1) := by decide +kernel
theorem dX1_takeOut_3 : decode cX1_takeOut 3 = .ok (.istore_n 2, 1) := by decide +kernel
theorem dX1_takeOut_4 : decode cX1_takeOut 4 = .ok (.iload_n 2, 1) := by decide +kernel
theorem dX1_takeOut_5 : decode cX1_takeOut 5 = .ok (.aload_n 0, 1) := by decide +kernel
theorem dX1_takeOut_6 : decode cX1_takeOut 6 = .ok (.getfield 21, 3) := by decide +kernel
theorem dX1_takeOut_9 : decode cX1_takeOut 9 = .ok (.if_icmp .ge 23, 3) := by decide +kernel
theorem dX1_takeOut_12 : decode cX1_takeOut 12 = .ok (.aload_n 0, 1) := by decide +kernel
theorem dX1_takeOut_13 : decode cX1_takeOut 13 = .ok (.getfield 9, 3) := by decide +kernel
theorem dX1_takeOut_16 : decode cX1_takeOut 16 = .ok (.iload_n 2, 1) := by decide +kernel
theorem dX1_takeOut_17 : decode cX1_takeOut 17 = .ok (.iconst 1, 1) := by decide +kernel
theorem dX1_takeOut_18 : decode cX1_takeOut 18 = .ok (.isub, 1) := by decide +kernel
theorem dX1_takeOut_19 : decode cX1_takeOut 19 = .ok (.aload_n 0, 1) := by decide +kernel
theorem dX1_takeOut_20 : decode cX1_takeOut 20 = .ok (.getfield 9, 3) := by decide +kernel
theorem dX1_takeOut_23 : decode cX1_takeOut 23 = .ok (.iload_n 2, 1) := by decide +kernel
theorem dX1_takeOut_24 : decode cX1_takeOut 24 = .ok (.iaload, 1) := by decide +kernel
theorem dX1_takeOut_25 : decode cX1_takeOut 25 = .ok (.iastore, 1) := by decide +kernel
theorem dX1_takeOut_26 : decode cX1_takeOut 26 = .ok (.iinc 2 1, 3) := by decide +kernel
theorem dX1_takeOut_29 : decode cX1_takeOut 29 = .ok (.goto (-25), 3) := by decide +kernel
theorem dX1_takeOut_32 : decode cX1_takeOut 32 = .ok (.aload_n 0, 1) := by decide +kernel
theorem dX1_takeOut_33 : decode cX1_takeOut 33 = .ok (.dup, 1) := by decide +kernel
theorem dX1_takeOut_34 : decode cX1_takeOut 34 = .ok (.getfield 21, 3) := by decide +kernel
theorem dX1_takeOut_37 : decode cX1_takeOut 37 = .ok (.iconst 1, 1) := by decide +kernel
theorem dX1_takeOut_38 : decode cX1_takeOut 38 = .ok (.isub, 1) := by decide +kernel
theorem dX1_takeOut_39 : decode cX1_takeOut 39 = .ok (.putfield 21, 3) := by decide +kernel
theorem dX1_takeOut_42 : decode cX1_takeOut 42 = .ok (.iload_n 1, 1) := by decide +kernel
theorem dX1_takeOut_43 : decode cX1_takeOut 43 = .ok (.ifCond .ne 8, 3) := by decide +kernel
theorem dX1_takeOut_46 : decode cX1_takeOut 46 = .ok (.aload_n 0, 1) := by decide +kernel
theorem dX1_takeOut_47 : decode cX1_takeOut 47 = .ok (.iconst 0, 1) := by decide +kernel
theorem dX1_takeOut_48 : decode cX1_takeOut 48 = .ok (.putfield 28, 3) := by decide +kernel
theorem dX1_takeOut_51 : decode cX1_takeOut 51 = .ok (.return_, 1) := by decide +kernel
theorem dX1_haveOnly_0 : decode cX1_haveOnly 0 = .ok (.aload_n 0, 1) := by decide +kernel
theorem dX1_haveOnly_1 : decode cX1_haveOnly 1 = .ok (.iconst 0, 1) := by decide +kernel
theorem dX1_haveOnly_2 : decode cX1_haveOnly 2 = .ok (.putfield 21, 3) := by decide +kernel
theorem dX1_haveOnly_5 : decode cX1_haveOnly 5 = .ok (.aload_n 0, 1) := by decide +kernel
theorem dX1_haveOnly_6 : decode cX1_haveOnly 6 = .ok (.iconst 0, 1) := by decide +kernel
theorem dX1_haveOnly_7 : decode cX1_haveOnly 7 = .ok (.putfield 28, 3) := by decide +kernel
theorem dX1_haveOnly_10 : decode cX1_haveOnly 10 = .ok (.iload_n 1, 1) := by decide +kernel
theorem dX1_haveOnly_11 : decode cX1_haveOnly 11 = .ok (.iconst (-1), 1) := by decide +kernel
theorem dX1_haveOnly_12 : decode cX1_haveOnly 12 = .ok (.if_icmp .eq 15, 3) := by decide +kernel
theorem dX1_haveOnly_15 : decode cX1_haveOnly 15 = .ok (.aload_n 0, 1) := by decide +kernel
theorem dX1_haveOnly_16 : decode cX1_haveOnly 16 = .ok (.getfield 9, 3) := by decide +kernel
theorem dX1_haveOnly_19 : decode cX1_haveOnly 19 = .ok (.iconst 0, 1) := by decide +kernel
theorem dX1_haveOnly_20 : decode cX1_haveOnly 20 = .ok (.iload_n 1, 1) := by decide +kernel
theorem dX1_haveOnly_21 : decode cX1_haveOnly 21 = .ok (.iastore, 1) := by decide +kernel
theorem dX1_haveOnly_22 : decode cX1_haveOnly 22 = .ok (.aload_n 0, 1) := by decide +kernel
theorem dX1_haveOnly_23 : decode cX1_haveOnly 23 = .ok (.iconst 1, 1) := by decide +kernel
theorem dX1_haveOnly_24 : decode cX1_haveOnly 24 = .ok (.putfield 21, 3) := by decide +kernel
theorem dX1_haveOnly_27 : decode cX1_haveOnly 27 = .ok (.return_, 1) := by decide +kernel
theorem dX1_spansUpwardsToFirst_0 : decode cX1_spansUpwardsToFirst 0 = .ok (.aload_n 0, 1) := by decide +kernel
theorem dX1_spansUpwardsToFirst_1 : decode cX1_spansUpwardsToFirst 1 = .ok (.getfield 9, 3) := by decide +kernel
theorem dX1_spansUpwardsToFirst_4 : decode cX1_spansUpwardsToFirst 4 = .ok (.iconst 0, 1) := by decide +kernel
theorem dX1_spansUpwardsToFirst_5 : decode cX1_spansUpwardsToFirst 5 = .ok (.iaload, 1) := by decide +kernel
theorem dX1_spansUpwardsToFirst_6 : decode cX1_spansUpwardsToFirst 6 = .ok (.aload_n 0, 1) := by decide +kernel
theorem dX1_spansUpwardsToFirst_7 : decode cX1_spansUpwardsToFirst 7 = .ok (.getfield 25, 3) := by decide +kernel
theorem dX1_spansUpwardsToFirst_10 : decode cX1_spansUpwardsToFirst 10 = .ok (.isub, 1) := by decide +kernel
theorem dX1_spansUpwardsToFirst_11 : decode cX1_spansUpwardsToFirst 11 = .ok (.bipush 24, 2) := by decide +kernel
theorem dX1_spansUpwardsToFirst_13 : decode cX1_spansUpwardsToFirst 13 = .ok (.iadd, 1) := by decide +kernel
theorem dX1_spansUpwardsToFirst_14 : decode cX1_spansUpwardsToFirst 14 = .ok (.bipush 24, 2) := by decide +kernel
theorem dX1_spansUpwardsToFirst_16 : decode cX1_spansUpwardsToFirst 16 = .ok (.irem, 1) := by decide +kernel
theorem dX1_spansUpwardsToFirst_17 : decode cX1_spansUpwardsToFirst 17 = .ok (.ireturn, 1) := by decide +kernel
set_option maxRecDepth 20000 in
theorem ggX1_hoursToFirst_X1_spansUpwardsToFirst : GoodIn wsX1_hoursToFirst wsX1_spansUpwardsToFirst := goodIn_r _ [10, 11, 12, 13, 14, 15, 16, 17, 18] (by decide +kernel) (by decide +kernel)
set_option maxRecDepth 20000 in
theorem gX1_hoursToFirst_X1_spansUpwardsToFirst : GoodIn wsX1_hoursToFirst (wsV RX1 37 RX1 yX1_spansUpwardsToFirst wsX1_spansUpwardsToFirst) := goodIn_app (goodIn_of _ (by decide +kernel)) ggX1_hoursToFirst_X1_spansUpwardsToFirst
theorem dX1_hoursToFirst_0 : decode cX1_hoursToFirst 0 = .ok (.aload_n 0, 1) := by decide +kernel
theorem dX1_hoursToFirst_1 : decode cX1_hoursToFirst 1 = .ok (.getfield 21, 3) := by decide +kernel
theorem dX1_hoursToFirst_4 : decode cX1_hoursToFirst 4 = .ok (.ifCond .ne 5, 3) := by decide +kernel
theorem dX1_hoursToFirst_7 : decode cX1_hoursToFirst 7 = .ok (.iconst (-1), 1) := by decide +kernel
theorem dX1_hoursToFirst_8 : decode cX1_hoursToFirst 8 = .ok (.ireturn, 1) := by decide +kernel
theorem dX1_hoursToFirst_9 : decode cX1_hoursToFirst 9 = .ok (.aload_n 0, 1) := by decide +kernel
theorem dX1_hoursToFirst_10 : decode cX1_hoursToFirst 10 = .ok (.invokevirtual 37, 3) := by decide +kernel
theorem dX1_hoursToFirst_13 : decode cX1_hoursToFirst 13 = .ok (.istore_n 1, 1) := by decide +kernel
theorem dX1_hoursToFirst_14 : decode cX1_hoursToFirst 14 = .ok (.iload_n 1, 1) := by decide +kernel
theorem dX1_hoursToFirst_15 : decode cX1_hoursToFirst 15 = .ok (.bipush 24, 2) := by decide +kernel
theorem dX1_hoursToFirst_17 : decode cX1_hoursToFirst 17 = .ok (.iload_n 1, 1) := by decide +kernel
theorem dX1_hoursToFirst_18 : decode cX1_hoursToFirst 18 = .ok (.isub, 1) := by decide +kernel
theorem dX1_hoursToFirst_19 : decode cX1_hoursToFirst 19 = .ok (.invokestatic 41, 3) := by decide +kernel
theorem dX1_hoursToFirst_22 : decode cX1_hoursToFirst 22 = .ok (.istore_n 2, 1) := by decide +kernel
theorem dX1_hoursToFirst_23 : decode cX1_hoursToFirst 23 = .ok (.iload_n 2, 1) := by decide +kernel
theorem dX1_hoursToFirst_24 : decode cX1_hoursToFirst 24 = .ok (.iconst 4, 1) := by decide +kernel
theorem dX1_hoursToFirst_25 : decode cX1_hoursToFirst 25 = .ok (.iadd, 1) := by decide +kernel
theorem dX1_hoursToFirst_26 : decode cX1_hoursToFirst 26 = .ok (.iconst 1, 1) := by decide +kernel
theorem dX1_hoursToFirst_27 : decode cX1_hoursToFirst 27 = .ok (.isub, 1) := by decide +kernel
theorem dX1_hoursToFirst_28 : decode cX1_hoursToFirst 28 = .ok (.iconst 4, 1) := by decide +kernel
theorem dX1_hoursToFirst_29 : decode cX1_hoursToFirst 29 = .ok (.idiv, 1) := by decide +kernel
theorem dX1_hoursToFirst_30 : decode cX1_hoursToFirst 30 = .ok (.ireturn, 1) := by decide +kernel
set_option maxRecDepth 20000 in
theorem ggX1_goToFirst_X1_spansUpwardsToFirst : GoodIn wsX1_goToFirst wsX1_spansUpwardsToFirst := goodIn_r _ [10, 11, 5, 12, 13, 14, 15, 16, 17] (by decide +kernel) (by decide +kernel)
set_option maxRecDepth 20000 in
theorem gX1_goToFirst_X1_spansUpwardsToFirst : GoodIn wsX1_goToFirst (wsV RX1 37 RX1 yX1_spansUpwardsToFirst wsX1_spansUpwardsToFirst) := goodIn_app (goodIn_of _ (by decide +kernel)) ggX1_goToFirst_X1_spansUpwardsToFirst
theorem dX1_goToFirst_0 : decode cX1_goToFirst 0 = .ok (.aload_n 0, 1) := by decide +kernel
theorem dX1_goToFirst_1 : decode cX1_goToFirst 1 = .ok (.invokevirtual 37, 3) := by decide +kernel
theorem dX1_goToFirst_4 : decode cX1_goToFirst 4 = .ok (.istore_n 1, 1) := by decide +kernel
theorem dX1_goToFirst_5 : decode cX1_goToFirst 5 = .ok (.bipush 24, 2) := by decide +kernel
theorem dX1_goToFirst_7 : decode cX1_goToFirst 7 = .ok (.iload_n 1, 1) := by decide +kernel
theorem dX1_goToFirst_8 : decode cX1_goToFirst 8 = .ok (.isub, 1) := by decide +kernel
theorem dX1_goToFirst_9 : decode cX1_goToFirst 9 = .ok (.istore_n 2, 1) := by decide +kernel
theorem dX1_goToFirst_10 : decode cX1_goToFirst 10 = .ok (.iload_n 1, 1) := by decide +kernel
theorem dX1_goToFirst_11 : decode cX1_goToFirst 11 = .ok (.iload_n 2, 1) := by decide +kernel
theorem dX1_goToFirst_12 : decode cX1_goToFirst 12 = .ok (.if_icmp .gt 11, 3) := by decide +kernel
theorem dX1_goToFirst_15 : decode cX1_goToFirst 15 = .ok (.iload_n 1, 1) := by decide +kernel
theorem dX1_goToFirst_16 : decode cX1_goToFirst 16 = .ok (.iconst 4, 1) := by decide +kernel
theorem dX1_goToFirst_17 : decode cX1_goToFirst 17 = .ok (.invokestatic 41, 3) := by decide +kernel
theorem dX1_goToFirst_20 : decode cX1_goToFirst 20 = .ok (.goto 9, 3) := by decide +kernel
theorem dX1_goToFirst_23 : decode cX1_goToFirst 23 = .ok (.iload_n 2, 1) := by decide +kernel
theorem dX1_goToFirst_24 : decode cX1_goToFirst 24 = .ok (.iconst 4, 1) := by decide +kernel
theorem dX1_goToFirst_25 : decode cX1_goToFirst 25 = .ok (.invokestatic 41, 3) := by decide +kernel
theorem dX1_goToFirst_28 : decode cX1_goToFirst 28 = .ok (.ineg, 1) := by decide +kernel
theorem dX1_goToFirst_29 : decode cX1_goToFirst 29 = .ok (.istore_n 3, 1) := by decide +kernel
theorem dX1_goToFirst_30 : decode cX1_goToFirst 30 = .ok (.aload_n 0, 1) := by decide +kernel
theorem dX1_goToFirst_31 : decode cX1_goToFirst 31 = .ok (.aload_n 0, 1) := by decide +kernel
theorem dX1_goToFirst_32 : decode cX1_goToFirst 32 = .ok (.getfield 25, 3) := by decide +kernel
theorem dX1_goToFirst_35 : decode cX1_goToFirst 35 = .ok (.iload_n 3, 1) := by decide +kernel
theorem dX1_goToFirst_36 : decode cX1_goToFirst 36 = .ok (.iadd, 1) := by decide +kernel
theorem dX1_goToFirst_37 : decode cX1_goToFirst 37 = .ok (.bipush 24, 2) := by decide +kernel
theorem dX1_goToFirst_39 : decode cX1_goToFirst 39 = .ok (.iadd, 1) := by decide +kernel
theorem dX1_goToFirst_40 : decode cX1_goToFirst 40 = .ok (.bipush 24, 2) := by decide +kernel
theorem dX1_goToFirst_42 : decode cX1_goToFirst 42 = .ok (.irem, 1) := by decide +kernel
theorem dX1_goToFirst_43 : decode cX1_goToFirst 43 = .ok (.putfield 25, 3) := by decide +kernel
theorem dX1_goToFirst_46 : decode cX1_goToFirst 46 = .ok (.return_, 1) := by decide +kernel
set_option maxRecDepth 20000 in
theorem ggX2_init_X4_init : GoodIn wsX2_init wsX4_init := goodIn_r _ [17, 18, 2, 3, 19, 20, 21, 29, 30] (by decide +kernel) (by decide +kernel)
set_option maxRecDepth 20000 in
theorem gX2_init_X4_init_n11 : GoodIn wsX2_init (wsX4_init) := ggX2_init_X4_init
set_option maxRecDepth 20000 in
theorem ggX2_init_X1_init : GoodIn wsX2_init wsX1_init := goodIn_r _ [23, 24, 2, 3, 19, 25, 37, 38, 39, 40, 41, 42] (by decide +kernel) (by decide +kernel)
set_option maxRecDepth 20000 in
theorem gX2_init_X1_init_n20 : GoodIn wsX2_init (wsX1_init) := ggX2_init_X1_init
set_option maxRecDepth 20000 in
theorem ggX2_init_X0_init : GoodIn wsX2_init wsX0_init := goodIn_r _ [27, 28, 2, 3] (by decide +kernel) (by decide +kernel)
set_option maxRecDepth 20000 in
theorem gX2_init_X0_init_n31 : GoodIn wsX2_init (wsX0_init) := ggX2_init_X0_init
theorem dX2_init_0 : decode cX2_init 0 = .ok (.aload_n 0, 1) := by decide +kernel
theorem dX2_init_1 : decode cX2_init 1 = .ok (.invokespecial 3, 3) := by decide +kernel
theorem dX2_init_4 : decode cX2_init 4 = .ok (.aload_n 0, 1) := by decide +kernel
theorem dX2_init_5 : decode cX2_init 5 = .ok (.new 9, 3) := by decide +kernel
theorem dX2_init_8 : decode cX2_init 8 = .ok (.dup, 1) := by decide +kernel
theorem dX2_init_9 : decode cX2_init 9 = .ok (.invokespecial 11, 3) := by decide +kernel
theorem dX2_init_12 : decode cX2_init 12 = .ok (.putfield 12, 3) := by decide +kernel
theorem dX2_init_15 : decode cX2_init 15 = .ok (.aload_n 0, 1) := by decide +kernel
theorem dX2_init_16 : decode cX2_init 16 = .ok (.new 18, 3) := by decide +kernel
theorem dX2_init_19 : decode cX2_init 19 = .ok (.dup, 1) := by decide +kernel
theorem dX2_init_20 : decode cX2_init 20 = .ok (.invokespecial 20, 3) := by decide +kernel
theorem dX2_init_23 : decode cX2_init 23 = .ok (.putfield 21, 3) := by decide +kernel
theorem dX2_init_26 : decode cX2_init 26 = .ok (.aload_n 0, 1) := by decide +kernel
theorem dX2_init_27 : decode cX2_init 27 = .ok (.bipush 6, 2) := by decide +kernel
theorem dX2_init_29 : decode cX2_init 29 = .ok (.anewarray 25, 3) := by decide +kernel
theorem dX2_init_32 : decode cX2_init 32 = .ok (.putfield 27, 3) := by decide +kernel
theorem dX2_init_35 : decode cX2_init 35 = .ok (.iconst 0, 1) := by decide +kernel
theorem dX2_init_36 : decode cX2_init 36 = .ok (.istore_n 1, 1) := by decide +kernel
theorem dX2_init_37 : decode cX2_init 37 = .ok (.iload_n 1, 1) := by decide +kernel
theorem dX2_init_38 : decode cX2_init 38 = .ok (.bipush 6, 2) := by decide +kernel
theorem dX2_init_40 : decode cX2_init 40 = .ok (.if_icmp .ge 22, 3) := by decide +kernel
theorem dX2_init_43 : decode cX2_init 43 = .ok (.aload_n 0, 1) := by decide +kernel
theorem dX2_init_44 : decode cX2_init 44 = .ok (.getfield 27, 3) := by decide +kernel
theorem dX2_init_47 : decode cX2_init 47 = .ok (.iload_n 1, 1) := by decide +kernel
theorem dX2_init_48 : decode cX2_init 48 = .ok (.new 25, 3) := by decide +kernel
theorem dX2_init_51 : decode cX2_init 51 = .ok (.dup, 1) := by decide +kernel
theorem dX2_init_52 : decode cX2_init 52 = .ok (.invokespecial 31, 3) := by decide +kernel
theorem dX2_init_55 : decode cX2_init 55 = .ok (.aastore, 1) := by decide +kernel
theorem dX2_init_56 : decode cX2_init 56 = .ok (.iinc 1 1, 3) := by decide +kernel
theorem dX2_init_59 : decode cX2_init 59 = .ok (.goto (-22), 3) := by decide +kernel
theorem dX2_init_62 : decode cX2_init 62 = .ok (.return_, 1) := by decide +kernel
set_option maxRecDepth 20000 in
theorem ggX2_copyFrom_X4_copyFrom : GoodIn wsX2_copyFrom wsX4_copyFrom := goodIn_r _ [10, 11, 12, 13, 14, 15, 16, 44, 45] (by decide +kernel) (by decide +kernel)
set_option maxRecDepth 20000 in
theorem gX2_copyFrom_X4_copyFrom_n32 : GoodIn wsX2_copyFrom (wsX4_copyFrom) := ggX2_copyFrom_X4_copyFrom
set_option maxRecDepth 20000 in
theorem ggX2_copyFrom_X1_copyFrom : GoodIn wsX2_copyFrom wsX1_copyFrom := goodIn_r _ [20, 21, 22, 13, 14, 15, 23, 24, 25, 26, 27, 46, 47, 48, 49, 50, 51] (by decide +kernel) (by decide +kernel)
set_option maxRecDepth 20000 in
theorem gX2_copyFrom_X1_copyFrom_n36 : GoodIn wsX2_copyFrom (wsX1_copyFrom) := ggX2_copyFrom_X1_copyFrom
set_option maxRecDepth 20000 in
theorem ggX2_copyFrom_X0_copyFrom : GoodIn wsX2_copyFrom wsX0_copyFrom := goodIn_r _ [31, 32, 33, 34, 35, 36, 37, 52, 53, 54, 55, 56, 57] (by decide +kernel) (by decide +kernel)
set_option maxRecDepth 20000 in
theorem gX2_copyFrom_X0_copyFrom_n43 : GoodIn wsX2_copyFrom (wsX0_copyFrom) := ggX2_copyFrom_X0_copyFrom
theorem dX2_copyFrom_0 : decode cX2_copyFrom 0 = .ok (.aload_n 0, 1) := by decide +kernel
theorem dX2_copyFrom_1 : decode cX2_copyFrom 1 = .ok (.getfield 12, 3) := by decide +kernel
theorem dX2_copyFrom_4 : decode cX2_copyFrom 4 = .ok (.aload_n 1, 1) := by decide +kernel
theorem dX2_copyFrom_5 : decode cX2_copyFrom 5 = .ok (.getfield 12, 3) := by decide +kernel
theorem dX2_copyFrom_8 : decode cX2_copyFrom 8 = .ok (.invokevirtual 32, 3) := by decide +kernel
theorem dX2_copyFrom_11 : decode cX2_copyFrom 11 = .ok (.aload_n 0, 1) := by decide +kernel
theorem dX2_copyFrom_12 : decode cX2_copyFrom 12 = .ok (.getfield 21, 3) := by decide +kernel
theorem dX2_copyFrom_15 : decode cX2_copyFrom 15 = .ok (.aload_n 1, 1) := by decide +kernel
theorem dX2_copyFrom_16 : decode cX2_copyFrom 16 = .ok (.getfield 21, 3) := by decide +kernel
theorem dX2_copyFrom_19 : decode cX2_copyFrom 19 = .ok (.invokevirtual 36, 3) := by decide +kernel
theorem dX2_copyFrom_22 : decode cX2_copyFrom 22 = .ok (.iconst 0, 1) := by decide +kernel
theorem dX2_copyFrom_23 : decode cX2_copyFrom 23 = .ok (.istore_n 2, 1) := by decide +kernel
theorem dX2_copyFrom_24 : decode cX2_copyFrom 24 = .ok (.iload_n 2, 1) := by decide +kernel
theorem dX2_copyFrom_25 : decode cX2_copyFrom 25 = .ok (.aload_n 1, 1) := by decide +kernel
theorem dX2_copyFrom_26 : decode cX2_copyFrom 26 = .ok (.getfield 39, 3) := by decide +kernel
theorem dX2_copyFrom_29 : decode cX2_copyFrom 29 = .ok (.if_icmp .ge 24, 3) := by decide +kernel
theorem dX2_copyFrom_32 : decode cX2_copyFrom 32 = .ok (.aload_n 0, 1) := by decide +kernel
theorem dX2_copyFrom_33 : decode cX2_copyFrom 33 = .ok (.getfield 27, 3) := by decide +kernel
theorem dX2_copyFrom_36 : decode cX2_copyFrom 36 = .ok (.iload_n 2, 1) := by decide +kernel
theorem dX2_copyFrom_37 : decode cX2_copyFrom 37 = .ok (.aaload, 1) := by decide +kernel
theorem dX2_copyFrom_38 : decode cX2_copyFrom 38 = .ok (.aload_n 1, 1) := by decide +kernel
theorem dX2_copyFrom_39 : decode cX2_copyFrom 39 = .ok (.getfield 27, 3) := by decide +kernel
theorem dX2_copyFrom_42 : decode cX2_copyFrom 42 = .ok (.iload_n 2, 1) := by decide +kernel
theorem dX2_copyFrom_43 : decode cX2_copyFrom 43 = .ok (.aaload, 1) := by decide +kernel
theorem dX2_copyFrom_44 : decode cX2_copyFrom 44 = .ok (.invokevirtual 43, 3) := by decide +kernel
theorem dX2_copyFrom_47 : decode cX2_copyFrom 47 = .ok (.iinc 2 1, 3) := by decide +kernel
theorem dX2_copyFrom_50 : decode cX2_copyFrom 50 = .ok (.goto (-26), 3) := by decide +kernel
theorem dX2_copyFrom_53 : decode cX2_copyFrom 53 = .ok (.aload_n 0, 1) := by decide +kernel
theorem dX2_copyFrom_54 : decode cX2_copyFrom 54 = .ok (.aload_n 1, 1) := by decide +kernel
theorem dX2_copyFrom_55 : decode cX2_copyFrom 55 = .ok (.getfield 39, 3) := by decide +kernel
theorem dX2_copyFrom_58 : decode cX2_copyFrom 58 = .ok (.putfield 39, 3) := by decide +kernel
theorem dX2_copyFrom_61 : decode cX2_copyFrom 61 = .ok (.aload_n 0, 1) := by decide +kernel
theorem dX2_copyFrom_62 : decode cX2_copyFrom 62 = .ok (.aload_n 1, 1) := by decide +kernel
theorem dX2_copyFrom_63 : decode cX2_copyFrom 63 = .ok (.getfield 46, 3) := by decide +kernel
theorem dX2_copyFrom_66 : decode cX2_copyFrom 66 = .ok (.putfield 46, 3) := by decide +kernel
theorem dX2_copyFrom_69 : decode cX2_copyFrom 69 = .ok (.aload_n 0, 1) := by decide +kernel
theorem dX2_copyFrom_70 : decode cX2_copyFrom 70 = .ok (.aload_n 1, 1) := by decide +kernel
theorem dX2_copyFrom_71 : decode cX2_copyFrom 71 = .ok (.getfield 49, 3) := by decide +kernel
theorem dX2_copyFrom_74 : decode cX2_copyFrom 74 = .ok (.putfield 49, 3) := by decide +kernel
theorem dX2_copyFrom_77 : decode cX2_copyFrom 77 = .ok (.return_, 1) := by decide +kernel
set_option maxRecDepth 20000 in
theorem ggX2_letGoBy_X2_letHourGoBy : GoodIn wsX2_letGoBy wsX2_letHourGoBy := goodIn_r _ [5, 6, 7, 8, 9, 10, 11, 12, 13, 14, 15, 16, 17, 18, 19, 20, 21, 22, 23, 24, 25, 26, 27, 28, 29, 30, 31, 32, 33, 34, 35, 4, 36, 37, 38, 39, 40, 41, 42, 43, 44, 45, 46, 47, 48, 49, 50, 51, 52, 53, 54, 55, 56, 57, 58, 59, 60, 61, 62, 63, 64, 65, 66, 67, 68, 69, 70, 71, 72, 73, 74, 75, 76, 77, 78, 79, 80, 81, 82, 83, 84, 85, 86, 87, 88, 89, 90, 91, 92, 93, 94, 95, 96, 97, 98, 99, 100, 101, 102, 103, 104, 105, 106, 107, 108, 109] (by decide +kernel) (by decide +kernel)
set_option maxRecDepth 20000 in
theorem gX2_letGoBy_X2_letHourGoBy : GoodIn wsX2_letGoBy (wsV RX2 52 RX2 yX2_letHourGoBy wsX2_letHourGoBy) := goodIn_app (goodIn_of _ (by decide +kernel)) ggX2_letGoBy_X2_letHourGoBy
theorem dX2_letGoBy_0 : decode cX2_letGoBy 0 = .ok (.iconst 0, 1) := by decide +kernel
theorem dX2_letGoBy_1 : decode cX2_letGoBy 1 = .ok (.istore_n 3, 1) := by decide +kernel
theorem dX2_letGoBy_2 : decode cX2_letGoBy 2 = .ok (.iload_n 3, 1) := by decide +kernel
theorem dX2_letGoBy_3 : decode cX2_letGoBy 3 = .ok (.iload_n 1, 1) := by decide +kernel
theorem dX2_letGoBy_4 : decode cX2_letGoBy 4 = .ok (.if_icmp .ge 14, 3) := by decide +kernel
theorem dX2_letGoBy_7 : decode cX2_letGoBy 7 = .ok (.aload_n 0, 1) := by decide +kernel
theorem dX2_letGoBy_8 : decode cX2_letGoBy 8 = .ok (.aload_n 2, 1) := by decide +kernel
theorem dX2_letGoBy_9 : decode cX2_letGoBy 9 = .ok (.invokevirtual 52, 3) := by decide +kernel
theorem dX2_letGoBy_12 : decode cX2_letGoBy 12 = .ok (.iinc 3 1, 3) := by decide +kernel
theorem dX2_letGoBy_15 : decode cX2_letGoBy 15 = .ok (.goto (-13), 3) := by decide +kernel
theorem dX2_letGoBy_18 : decode cX2_letGoBy 18 = .ok (.return_, 1) := by decide +kernel
set_option maxRecDepth 20000 in
theorem ggX2_letHourGoBy_X5_isNightAt : GoodIn wsX2_letHourGoBy wsX5_isNightAt := goodIn_r _ [7, 8, 9, 10, 11] (by decide +kernel) (by decide +kernel)
set_option maxRecDepth 20000 in
theorem gX2_letHourGoBy_X5_isNightAt_n56 : GoodIn wsX2_letHourGoBy (wsX5_isNightAt) := ggX2_letHourGoBy_X5_isNightAt
set_option maxRecDepth 20000 in
theorem ggX2_letHourGoBy_J9_floorMod_7cf53 : GoodIn wsX2_letHourGoBy wsJ9_floorMod_7cf53 := goodIn_r _ [11] (by decide +kernel) (by decide +kernel)
set_option maxRecDepth 20000 in
theorem gX2_letHourGoBy_J9_floorMod_7cf53 : GoodIn wsX2_letHourGoBy (va_wsS RX2 66 yJ9_floorMod_7cf53 wsJ9_floorMod_7cf53) := goodIn_app (goodIn_of _ (by decide +kernel)) ggX2_letHourGoBy_J9_floorMod_7cf53
set_option maxRecDepth 20000 in
theorem ggX2_letHourGoBy_X4_freeze : GoodIn wsX2_letHourGoBy wsX4_freeze := goodIn_r _ [16, 17, 18, 19, 20, 21, 92, 93] (by decide +kernel) (by decide +kernel)
set_option maxRecDepth 20000 in
theorem gX2_letHourGoBy_X4_freeze_n72 : GoodIn wsX2_letHourGoBy (wsX4_freeze) := ggX2_letHourGoBy_X4_freeze
set_option maxRecDepth 20000 in
theorem ggX2_letHourGoBy_X4_thaw : GoodIn wsX2_letHourGoBy wsX4_thaw := goodIn_r _ [24, 17, 25, 26, 20, 27, 92, 93] (by decide +kernel) (by decide +kernel)
set_option maxRecDepth 20000 in
theorem gX2_letHourGoBy_X4_thaw_n76 : GoodIn wsX2_letHourGoBy (wsX4_thaw) := ggX2_letHourGoBy_X4_thaw
set_option maxRecDepth 20000 in
theorem ggX2_letHourGoBy_X2_letSwanFly : GoodIn wsX2_letHourGoBy wsX2_letSwanFly := goodIn_r _ [32, 2, 33, 14, 34, 35, 36, 37, 38, 39, 18, 19, 20, 21, 82, 83, 84, 85, 86, 87, 92, 93] (by decide +kernel) (by decide +kernel)
set_option maxRecDepth 20000 in
theorem gX2_letHourGoBy_X2_letSwanFly : GoodIn wsX2_letHourGoBy (wsV RX2 82 RX2 yX2_letSwanFly wsX2_letSwanFly) := goodIn_app (goodIn_of _ (by decide +kernel)) ggX2_letHourGoBy_X2_letSwanFly
set_option maxRecDepth 20000 in
theorem ggX2_letHourGoBy_X3_fare : GoodIn wsX2_letHourGoBy wsX3_fare := goodIn_r _ [43, 44, 45, 88, 89, 90, 91] (by decide +kernel) (by decide +kernel)
set_option maxRecDepth 20000 in
theorem gX2_letHourGoBy_X3_fare_n85 : GoodIn wsX2_letHourGoBy (wsX3_fare) := ggX2_letHourGoBy_X3_fare
set_option maxRecDepth 20000 in
theorem ggX2_letHourGoBy_X2_drive : GoodIn wsX2_letHourGoBy wsX2_drive := goodIn_r _ [49, 2, 50, 33, 14, 34, 35, 36, 37, 38, 39, 18, 19, 20, 21, 94, 95, 96, 97, 98, 99, 82, 83, 84, 85, 86, 87, 92, 93] (by decide +kernel) (by decide +kernel)
set_option maxRecDepth 20000 in
theorem gX2_letHourGoBy_X2_drive : GoodIn wsX2_letHourGoBy (wsV RX2 89 RX2 yX2_drive wsX2_drive) := goodIn_app (goodIn_of _ (by decide +kernel)) ggX2_letHourGoBy_X2_drive
set_option maxRecDepth 20000 in
theorem ggX2_letHourGoBy_X2_letGangWork : GoodIn wsX2_letHourGoBy wsX2_letGangWork := goodIn_r _ [54, 55, 50, 56, 57, 58, 59, 60, 19, 20, 21, 61, 62, 63, 64, 65, 66, 67, 68, 69, 31, 70, 2, 33, 14, 34, 35, 36, 71, 72, 73, 25, 26, 27, 74, 75, 76, 77, 78, 79, 80, 81, 82, 83, 84, 85, 86, 87, 100, 101, 102, 103, 104, 105, 92, 93] (by decide +kernel) (by decide +kernel)
set_option maxRecDepth 20000 in
theorem gX2_letHourGoBy_X2_letGangWork : GoodIn wsX2_letHourGoBy (wsV RX2 93 RX2 yX2_letGangWork wsX2_letGangWork) := goodIn_app (goodIn_of _ (by decide +kernel)) ggX2_letHourGoBy_X2_letGangWork
theorem dX2_letHourGoBy_0 : decode cX2_letHourGoBy 0 = .ok (.aload_n 0, 1) := by decide +kernel
theorem dX2_letHourGoBy_1 : decode cX2_letHourGoBy 1 = .ok (.getfield 46, 3) := by decide +kernel
theorem dX2_letHourGoBy_4 : decode cX2_letHourGoBy 4 = .ok (.invokestatic 56, 3) := by decide +kernel
theorem dX2_letHourGoBy_7 : decode cX2_letHourGoBy 7 = .ok (.istore_n 2, 1) := by decide +kernel
theorem dX2_letHourGoBy_8 : decode cX2_letHourGoBy 8 = .ok (.iload_n 2, 1) := by decide +kernel
theorem dX2_letHourGoBy_9 : decode cX2_letHourGoBy 9 = .ok (.ifCond .eq 27, 3) := by decide +kernel
theorem dX2_letHourGoBy_12 : decode cX2_letHourGoBy 12 = .ok (.aload_n 0, 1) := by decide +kernel
theorem dX2_letHourGoBy_13 : decode cX2_letHourGoBy 13 = .ok (.getfield 12, 3) := by decide +kernel
theorem dX2_letHourGoBy_16 : decode cX2_letHourGoBy 16 = .ok (.aload_n 1, 1) := by decide +kernel
theorem dX2_letHourGoBy_17 : decode cX2_letHourGoBy 17 = .ok (.getfield 60, 3) := by decide +kernel
theorem dX2_letHourGoBy_20 : decode cX2_letHourGoBy 20 = .ok (.aload_n 0, 1) := by decide +kernel
theorem dX2_letHourGoBy_21 : decode cX2_letHourGoBy 21 = .ok (.getfield 46, 3) := by decide +kernel
theorem dX2_letHourGoBy_24 : decode cX2_letHourGoBy 24 = .ok (.bipush 8, 2) := by decide +kernel
theorem dX2_letHourGoBy_26 : decode cX2_letHourGoBy 26 = .ok (.invokestatic 66, 3) := by decide +kernel
theorem dX2_letHourGoBy_29 : decode cX2_letHourGoBy 29 = .ok (.iaload, 1) := by decide +kernel
theorem dX2_letHourGoBy_30 : decode cX2_letHourGoBy 30 = .ok (.invokevirtual 72, 3) := by decide +kernel
theorem dX2_letHourGoBy_33 : decode cX2_letHourGoBy 33 = .ok (.goto 10, 3) := by decide +kernel
theorem dX2_letHourGoBy_36 : decode cX2_letHourGoBy 36 = .ok (.aload_n 0, 1) := by decide +kernel
theorem dX2_letHourGoBy_37 : decode cX2_letHourGoBy 37 = .ok (.getfield 12, 3) := by decide +kernel
theorem dX2_letHourGoBy_40 : decode cX2_letHourGoBy 40 = .ok (.invokevirtual 76, 3) := by decide +kernel
theorem dX2_letHourGoBy_43 : decode cX2_letHourGoBy 43 = .ok (.aload_n 0, 1) := by decide +kernel
theorem dX2_letHourGoBy_44 : decode cX2_letHourGoBy 44 = .ok (.aload_n 1, 1) := by decide +kernel
theorem dX2_letHourGoBy_45 : decode cX2_letHourGoBy 45 = .ok (.getfield 79, 3) := by decide +kernel
theorem dX2_letHourGoBy_48 : decode cX2_letHourGoBy 48 = .ok (.aload_n 0, 1) := by decide +kernel
theorem dX2_letHourGoBy_49 : decode cX2_letHourGoBy 49 = .ok (.getfield 46, 3) := by decide +kernel
theorem dX2_letHourGoBy_52 : decode cX2_letHourGoBy 52 = .ok (.bipush 12, 2) := by decide +kernel
theorem dX2_letHourGoBy_54 : decode cX2_letHourGoBy 54 = .ok (.invokestatic 66, 3) := by decide +kernel
theorem dX2_letHourGoBy_57 : decode cX2_letHourGoBy 57 = .ok (.iaload, 1) := by decide +kernel
theorem dX2_letHourGoBy_58 : decode cX2_letHourGoBy 58 = .ok (.invokevirtual 82, 3) := by decide +kernel
theorem dX2_letHourGoBy_61 : decode cX2_letHourGoBy 61 = .ok (.aload_n 1, 1) := by decide +kernel
theorem dX2_letHourGoBy_62 : decode cX2_letHourGoBy 62 = .ok (.iload_n 2, 1) := by decide +kernel
theorem dX2_letHourGoBy_63 : decode cX2_letHourGoBy 63 = .ok (.invokevirtual 85, 3) := by decide +kernel
theorem dX2_letHourGoBy_66 : decode cX2_letHourGoBy 66 = .ok (.istore_n 3, 1) := by decide +kernel
theorem dX2_letHourGoBy_67 : decode cX2_letHourGoBy 67 = .ok (.iconst 0, 1) := by decide +kernel
theorem dX2_letHourGoBy_68 : decode cX2_letHourGoBy 68 = .ok (.istore 4, 2) := by decide +kernel
theorem dX2_letHourGoBy_70 : decode cX2_letHourGoBy 70 = .ok (.iload 4, 2) := by decide +kernel
theorem dX2_letHourGoBy_72 : decode cX2_letHourGoBy 72 = .ok (.aload_n 0, 1) := by decide +kernel
theorem dX2_letHourGoBy_73 : decode cX2_letHourGoBy 73 = .ok (.getfield 39, 3) := by decide +kernel
theorem dX2_letHourGoBy_76 : decode cX2_letHourGoBy 76 = .ok (.if_icmp .ge 21, 3) := by decide +kernel
theorem dX2_letHourGoBy_79 : decode cX2_letHourGoBy 79 = .ok (.aload_n 0, 1) := by decide +kernel
theorem dX2_letHourGoBy_80 : decode cX2_letHourGoBy 80 = .ok (.aload_n 0, 1) := by decide +kernel
theorem dX2_letHourGoBy_81 : decode cX2_letHourGoBy 81 = .ok (.getfield 27, 3) := by decide +kernel
theorem dX2_letHourGoBy_84 : decode cX2_letHourGoBy 84 = .ok (.iload 4, 2) := by decide +kernel
theorem dX2_letHourGoBy_86 : decode cX2_letHourGoBy 86 = .ok (.aaload, 1) := by decide +kernel
theorem dX2_letHourGoBy_87 : decode cX2_letHourGoBy 87 = .ok (.iload_n 3, 1) := by decide +kernel
theorem dX2_letHourGoBy_88 : decode cX2_letHourGoBy 88 = .ok (.invokevirtual 89, 3) := by decide +kernel
theorem dX2_letHourGoBy_91 : decode cX2_letHourGoBy 91 = .ok (.iinc 4 1, 3) := by decide +kernel
theorem dX2_letHourGoBy_94 : decode cX2_letHourGoBy 94 = .ok (.goto (-24), 3) := by decide +kernel
theorem dX2_letHourGoBy_97 : decode cX2_letHourGoBy 97 = .ok (.aload_n 0, 1) := by decide +kernel
theorem dX2_letHourGoBy_98 : decode cX2_letHourGoBy 98 = .ok (.invokevirtual 93, 3) := by decide +kernel
theorem dX2_letHourGoBy_101 : decode cX2_letHourGoBy 101 = .ok (.aload_n 0, 1) := by decide +kernel
theorem dX2_letHourGoBy_102 : decode cX2_letHourGoBy 102 = .ok (.dup, 1) := by decide +kernel
theorem dX2_letHourGoBy_103 : decode cX2_letHourGoBy 103 = .ok (.getfield 46, 3) := by decide +kernel
theorem dX2_letHourGoBy_106 : decode cX2_letHourGoBy 106 = .ok (.iconst 1, 1) := by decide +kernel
theorem dX2_letHourGoBy_107 : decode cX2_letHourGoBy 107 = .ok (.iadd, 1) := by decide +kernel
theorem dX2_letHourGoBy_108 : decode cX2_letHourGoBy 108 = .ok (.putfield 46, 3) := by decide +kernel
theorem dX2_letHourGoBy_111 : decode cX2_letHourGoBy 111 = .ok (.return_, 1) := by decide +kernel
set_option maxRecDepth 20000 in
theorem ggX2_letSwanFly_X4_isDown : GoodIn wsX2_letSwanFly wsX4_isDown := goodIn_r _ [5, 6, 20, 21] (by decide +kernel) (by decide +kernel)
set_option maxRecDepth 20000 in
theorem gX2_letSwanFly_X4_isDown_n96 : GoodIn wsX2_letSwanFly (wsX4_isDown) := ggX2_letSwanFly_X4_isDown
set_option maxRecDepth 20000 in
theorem ggX2_letSwanFly_X4_wear : GoodIn wsX2_letSwanFly wsX4_wear := goodIn_r _ [9, 6, 10, 11, 12, 13, 20, 21] (by decide +kernel) (by decide +kernel)
set_option maxRecDepth 20000 in
theorem gX2_letSwanFly_X4_wear_n99 : GoodIn wsX2_letSwanFly (wsX4_wear) := ggX2_letSwanFly_X4_wear
theorem dX2_letSwanFly_0 : decode cX2_letSwanFly 0 = .ok (.iload_n 1, 1) := by decide +kernel
theorem dX2_letSwanFly_1 : decode cX2_letSwanFly 1 = .ok (.iconst (-1), 1) := by decide +kernel
theorem dX2_letSwanFly_2 : decode cX2_letSwanFly 2 = .ok (.if_icmp .eq 24, 3) := by decide +kernel
theorem dX2_letSwanFly_5 : decode cX2_letSwanFly 5 = .ok (.aload_n 0, 1) := by decide +kernel
theorem dX2_letSwanFly_6 : decode cX2_letSwanFly 6 = .ok (.getfield 12, 3) := by decide +kernel
theorem dX2_letSwanFly_9 : decode cX2_letSwanFly 9 = .ok (.iload_n 1, 1) := by decide +kernel
theorem dX2_letSwanFly_10 : decode cX2_letSwanFly 10 = .ok (.invokevirtual 96, 3) := by decide +kernel
theorem dX2_letSwanFly_13 : decode cX2_letSwanFly 13 = .ok (.ifCond .ne 13, 3) := by decide +kernel
theorem dX2_letSwanFly_16 : decode cX2_letSwanFly 16 = .ok (.aload_n 0, 1) := by decide +kernel
theorem dX2_letSwanFly_17 : decode cX2_letSwanFly 17 = .ok (.getfield 12, 3) := by decide +kernel
theorem dX2_letSwanFly_20 : decode cX2_letSwanFly 20 = .ok (.iload_n 1, 1) := by decide +kernel
theorem dX2_letSwanFly_21 : decode cX2_letSwanFly 21 = .ok (.bipush 25, 2) := by decide +kernel
theorem dX2_letSwanFly_23 : decode cX2_letSwanFly 23 = .ok (.invokevirtual 99, 3) := by decide +kernel
theorem dX2_letSwanFly_26 : decode cX2_letSwanFly 26 = .ok (.return_, 1) := by decide +kernel
set_option maxRecDepth 20000 in
theorem ggX2_drive_X4_isDown : GoodIn wsX2_drive wsX4_isDown := goodIn_r _ [6, 7, 27, 28] (by decide +kernel) (by decide +kernel)
set_option maxRecDepth 20000 in
theorem gX2_drive_X4_isDown_n96 : GoodIn wsX2_drive (wsX4_isDown) := ggX2_drive_X4_isDown
set_option maxRecDepth 20000 in
theorem ggX2_drive_X4_wear : GoodIn wsX2_drive wsX4_wear := goodIn_r _ [10, 7, 11, 12, 13, 14, 27, 28] (by decide +kernel) (by decide +kernel)
set_option maxRecDepth 20000 in
theorem gX2_drive_X4_wear_n99 : GoodIn wsX2_drive (wsX4_wear) := ggX2_drive_X4_wear
theorem dX2_drive_0 : decode cX2_drive 0 = .ok (.aload_n 1, 1) := by decide +kernel
theorem dX2_drive_1 : decode cX2_drive 1 = .ok (.getfield 103, 3) := by decide +kernel
theorem dX2_drive_4 : decode cX2_drive 4 = .ok (.ifCond .ne 4, 3) := by decide +kernel
theorem dX2_drive_7 : decode cX2_drive 7 = .ok (.return_, 1) := by decide +kernel
theorem dX2_drive_8 : decode cX2_drive 8 = .ok (.iconst 0, 1) := by decide +kernel
theorem dX2_drive_9 : decode cX2_drive 9 = .ok (.istore_n 3, 1) := by decide +kernel
theorem dX2_drive_10 : decode cX2_drive 10 = .ok (.iload_n 3, 1) := by decide +kernel
theorem dX2_drive_11 : decode cX2_drive 11 = .ok (.iconst 3, 1) := by decide +kernel
theorem dX2_drive_12 : decode cX2_drive 12 = .ok (.if_icmp .ge 144, 3) := by decide +kernel
theorem dX2_drive_15 : decode cX2_drive 15 = .ok (.aload_n 1, 1) := by decide +kernel
theorem dX2_drive_16 : decode cX2_drive 16 = .ok (.getfield 107, 3) := by decide +kernel
theorem dX2_drive_19 : decode cX2_drive 19 = .ok (.iconst 1, 1) := by decide +kernel
theorem dX2_drive_20 : decode cX2_drive 20 = .ok (.iadd, 1) := by decide +kernel
theorem dX2_drive_21 : decode cX2_drive 21 = .ok (.bipush 24, 2) := by decide +kernel
theorem dX2_drive_23 : decode cX2_drive 23 = .ok (.irem, 1) := by decide +kernel
theorem dX2_drive_24 : decode cX2_drive 24 = .ok (.istore 4, 2) := by decide +kernel
theorem dX2_drive_26 : decode cX2_drive 26 = .ok (.aload_n 0, 1) := by decide +kernel
theorem dX2_drive_27 : decode cX2_drive 27 = .ok (.getfield 12, 3) := by decide +kernel
theorem dX2_drive_30 : decode cX2_drive 30 = .ok (.iload 4, 2) := by decide +kernel
theorem dX2_drive_32 : decode cX2_drive 32 = .ok (.invokevirtual 96, 3) := by decide +kernel
theorem dX2_drive_35 : decode cX2_drive 35 = .ok (.ifCond .eq 14, 3) := by decide +kernel
theorem dX2_drive_38 : decode cX2_drive 38 = .ok (.aload_n 1, 1) := by decide +kernel
theorem dX2_drive_39 : decode cX2_drive 39 = .ok (.dup, 1) := by decide +kernel
theorem dX2_drive_40 : decode cX2_drive 40 = .ok (.getfield 110, 3) := by decide +kernel
theorem dX2_drive_43 : decode cX2_drive 43 = .ok (.iconst 1, 1) := by decide +kernel
theorem dX2_drive_44 : decode cX2_drive 44 = .ok (.iadd, 1) := by decide +kernel
theorem dX2_drive_45 : decode cX2_drive 45 = .ok (.putfield 110, 3) := by decide +kernel
theorem dX2_drive_48 : decode cX2_drive 48 = .ok (.return_, 1) := by decide +kernel
theorem dX2_drive_49 : decode cX2_drive 49 = .ok (.aload_n 1, 1) := by decide +kernel
theorem dX2_drive_50 : decode cX2_drive 50 = .ok (.iload 4, 2) := by decide +kernel
theorem dX2_drive_52 : decode cX2_drive 52 = .ok (.putfield 107, 3) := by decide +kernel
theorem dX2_drive_55 : decode cX2_drive 55 = .ok (.aload_n 1, 1) := by decide +kernel
theorem dX2_drive_56 : decode cX2_drive 56 = .ok (.dup, 1) := by decide +kernel
theorem dX2_drive_57 : decode cX2_drive 57 = .ok (.getfield 113, 3) := by decide +kernel
theorem dX2_drive_60 : decode cX2_drive 60 = .ok (.iconst 1, 1) := by decide +kernel
theorem dX2_drive_61 : decode cX2_drive 61 = .ok (.iadd, 1) := by decide +kernel
theorem dX2_drive_62 : decode cX2_drive 62 = .ok (.putfield 113, 3) := by decide +kernel
theorem dX2_drive_65 : decode cX2_drive 65 = .ok (.aload_n 1, 1) := by decide +kernel
theorem dX2_drive_66 : decode cX2_drive 66 = .ok (.dup, 1) := by decide +kernel
theorem dX2_drive_67 : decode cX2_drive 67 = .ok (.getfield 116, 3) := by decide +kernel
theorem dX2_drive_70 : decode cX2_drive 70 = .ok (.iload_n 2, 1) := by decide +kernel
theorem dX2_drive_71 : decode cX2_drive 71 = .ok (.iadd, 1) := by decide +kernel
theorem dX2_drive_72 : decode cX2_drive 72 = .ok (.putfield 116, 3) := by decide +kernel
theorem dX2_drive_75 : decode cX2_drive 75 = .ok (.aload_n 0, 1) := by decide +kernel
theorem dX2_drive_76 : decode cX2_drive 76 = .ok (.dup, 1) := by decide +kernel
theorem dX2_drive_77 : decode cX2_drive 77 = .ok (.getfield 49, 3) := by decide +kernel
theorem dX2_drive_80 : decode cX2_drive 80 = .ok (.iload_n 2, 1) := by decide +kernel
theorem dX2_drive_81 : decode cX2_drive 81 = .ok (.iadd, 1) := by decide +kernel
theorem dX2_drive_82 : decode cX2_drive 82 = .ok (.putfield 49, 3) := by decide +kernel
theorem dX2_drive_85 : decode cX2_drive 85 = .ok (.aload_n 1, 1) := by decide +kernel
theorem dX2_drive_86 : decode cX2_drive 86 = .ok (.getfield 119, 3) := by decide +kernel
theorem dX2_drive_89 : decode cX2_drive 89 = .ok (.ifCond .eq 14, 3) := by decide +kernel
theorem dX2_drive_92 : decode cX2_drive 92 = .ok (.aload_n 0, 1) := by decide +kernel
theorem dX2_drive_93 : decode cX2_drive 93 = .ok (.getfield 12, 3) := by decide +kernel
theorem dX2_drive_96 : decode cX2_drive 96 = .ok (.getfield 122, 3) := by decide +kernel
theorem dX2_drive_99 : decode cX2_drive 99 = .ok (.iload 4, 2) := by decide +kernel
theorem dX2_drive_101 : decode cX2_drive 101 = .ok (.iconst 0, 1) := by decide +kernel
theorem dX2_drive_102 : decode cX2_drive 102 = .ok (.iastore, 1) := by decide +kernel
theorem dX2_drive_103 : decode cX2_drive 103 = .ok (.aload_n 0, 1) := by decide +kernel
theorem dX2_drive_104 : decode cX2_drive 104 = .ok (.getfield 12, 3) := by decide +kernel
theorem dX2_drive_107 : decode cX2_drive 107 = .ok (.iload 4, 2) := by decide +kernel
theorem dX2_drive_109 : decode cX2_drive 109 = .ok (.aload_n 1, 1) := by decide +kernel
theorem dX2_drive_110 : decode cX2_drive 110 = .ok (.getfield 119, 3) := by decide +kernel
theorem dX2_drive_113 : decode cX2_drive 113 = .ok (.ifCond .eq 7, 3) := by decide +kernel
theorem dX2_drive_116 : decode cX2_drive 116 = .ok (.iconst 2, 1) := by decide +kernel
theorem dX2_drive_117 : decode cX2_drive 117 = .ok (.goto 17, 3) := by decide +kernel
theorem dX2_drive_120 : decode cX2_drive 120 = .ok (.iconst 1, 1) := by decide +kernel
theorem dX2_drive_121 : decode cX2_drive 121 = .ok (.aload_n 0, 1) := by decide +kernel
theorem dX2_drive_122 : decode cX2_drive 122 = .ok (.getfield 12, 3) := by decide +kernel
theorem dX2_drive_125 : decode cX2_drive 125 = .ok (.getfield 122, 3) := by decide +kernel
theorem dX2_drive_128 : decode cX2_drive 128 = .ok (.iload 4, 2) := by decide +kernel
theorem dX2_drive_130 : decode cX2_drive 130 = .ok (.iaload, 1) := by decide +kernel
theorem dX2_drive_131 : decode cX2_drive 131 = .ok (.iconst 2, 1) := by decide +kernel
theorem dX2_drive_132 : decode cX2_drive 132 = .ok (.idiv, 1) := by decide +kernel
theorem dX2_drive_133 : decode cX2_drive 133 = .ok (.iadd, 1) := by decide +kernel
theorem dX2_drive_134 : decode cX2_drive 134 = .ok (.invokevirtual 99, 3) := by decide +kernel
theorem dX2_drive_137 : decode cX2_drive 137 = .ok (.aload_n 0, 1) := by decide +kernel
theorem dX2_drive_138 : decode cX2_drive 138 = .ok (.getfield 12, 3) := by decide +kernel
theorem dX2_drive_141 : decode cX2_drive 141 = .ok (.iload 4, 2) := by decide +kernel
theorem dX2_drive_143 : decode cX2_drive 143 = .ok (.invokevirtual 96, 3) := by decide +kernel
theorem dX2_drive_146 : decode cX2_drive 146 = .ok (.ifCond .eq 4, 3) := by decide +kernel
theorem dX2_drive_149 : decode cX2_drive 149 = .ok (.return_, 1) := by decide +kernel
theorem dX2_drive_150 : decode cX2_drive 150 = .ok (.iinc 3 1, 3) := by decide +kernel
theorem dX2_drive_153 : decode cX2_drive 153 = .ok (.goto (-143), 3) := by decide +kernel
theorem dX2_drive_156 : decode cX2_drive 156 = .ok (.return_, 1) := by decide +kernel
set_option maxRecDepth 20000 in
theorem ggX2_letGangWork_X1_goToFirst : GoodIn wsX2_letGangWork wsX1_goToFirst := goodIn_r _ [6, 7, 8, 9, 10, 11, 12, 13, 14, 4, 15, 16, 48, 49, 50, 51, 52, 53] (by decide +kernel) (by decide +kernel)
set_option maxRecDepth 20000 in
theorem gX2_letGangWork_X1_goToFirst_n128 : GoodIn wsX2_letGangWork (wsX1_goToFirst) := ggX2_letGangWork_X1_goToFirst
set_option maxRecDepth 20000 in
theorem ggX2_letGangWork_X2_isOrderDoneByWorkAt : GoodIn wsX2_letGangWork wsX2_isOrderDoneByWorkAt := goodIn_r _ [21, 22, 1, 23, 24, 25, 26, 27, 28, 29, 30, 31, 32, 9, 33, 34, 35, 36, 42, 43, 44, 45, 46, 47, 54, 55, 48, 49, 50, 51, 52, 53] (by decide +kernel) (by decide +kernel)
set_option maxRecDepth 20000 in
theorem gX2_letGangWork_X2_isOrderDoneByWorkAt : GoodIn wsX2_letGangWork (wsV RX2 141 RX2 yX2_isOrderDoneByWorkAt wsX2_isOrderDoneByWorkAt) := goodIn_app (goodIn_of _ (by decide +kernel)) ggX2_letGangWork_X2_isOrderDoneByWorkAt
set_option maxRecDepth 20000 in
theorem ggX2_letGangWork_X1_takeOut : GoodIn wsX2_letGangWork wsX1_takeOut := goodIn_r _ [39, 40, 16, 41, 48, 49, 50, 51, 52, 53] (by decide +kernel) (by decide +kernel)
set_option maxRecDepth 20000 in
theorem gX2_letGangWork_X1_takeOut_n144 : GoodIn wsX2_letGangWork (wsX1_takeOut) := ggX2_letGangWork_X1_takeOut
theorem dX2_letGangWork_0 : decode cX2_letGangWork 0 = .ok (.aload_n 0, 1) := by decide +kernel
theorem dX2_letGangWork_1 : decode cX2_letGangWork 1 = .ok (.getfield 21, 3) := by decide +kernel
theorem dX2_letGangWork_4 : decode cX2_letGangWork 4 = .ok (.getfield 125, 3) := by decide +kernel
theorem dX2_letGangWork_7 : decode cX2_letGangWork 7 = .ok (.ifCond .ne 4, 3) := by decide +kernel
theorem dX2_letGangWork_10 : decode cX2_letGangWork 10 = .ok (.return_, 1) := by decide +kernel
theorem dX2_letGangWork_11 : decode cX2_letGangWork 11 = .ok (.aload_n 0, 1) := by decide +kernel
theorem dX2_letGangWork_12 : decode cX2_letGangWork 12 = .ok (.getfield 21, 3) := by decide +kernel
theorem dX2_letGangWork_15 : decode cX2_letGangWork 15 = .ok (.invokevirtual 128, 3) := by decide +kernel
theorem dX2_letGangWork_18 : decode cX2_letGangWork 18 = .ok (.aload_n 0, 1) := by decide +kernel
theorem dX2_letGangWork_19 : decode cX2_letGangWork 19 = .ok (.getfield 21, 3) := by decide +kernel
theorem dX2_letGangWork_22 : decode cX2_letGangWork 22 = .ok (.getfield 131, 3) := by decide +kernel
theorem dX2_letGangWork_25 : decode cX2_letGangWork 25 = .ok (.aload_n 0, 1) := by decide +kernel
theorem dX2_letGangWork_26 : decode cX2_letGangWork 26 = .ok (.getfield 21, 3) := by decide +kernel
theorem dX2_letGangWork_29 : decode cX2_letGangWork 29 = .ok (.getfield 132, 3) := by decide +kernel
theorem dX2_letGangWork_32 : decode cX2_letGangWork 32 = .ok (.iconst 0, 1) := by decide +kernel
theorem dX2_letGangWork_33 : decode cX2_letGangWork 33 = .ok (.iaload, 1) := by decide +kernel
theorem dX2_letGangWork_34 : decode cX2_letGangWork 34 = .ok (.if_icmp .eq 4, 3) := by decide +kernel
theorem dX2_letGangWork_37 : decode cX2_letGangWork 37 = .ok (.return_, 1) := by decide +kernel
theorem dX2_letGangWork_38 : decode cX2_letGangWork 38 = .ok (.aload_n 0, 1) := by decide +kernel
theorem dX2_letGangWork_39 : decode cX2_letGangWork 39 = .ok (.dup, 1) := by decide +kernel
theorem dX2_letGangWork_40 : decode cX2_letGangWork 40 = .ok (.getfield 49, 3) := by decide +kernel
theorem dX2_letGangWork_43 : decode cX2_letGangWork 43 = .ok (.iconst 2, 1) := by decide +kernel
theorem dX2_letGangWork_44 : decode cX2_letGangWork 44 = .ok (.isub, 1) := by decide +kernel
theorem dX2_letGangWork_45 : decode cX2_letGangWork 45 = .ok (.putfield 49, 3) := by decide +kernel
theorem dX2_letGangWork_48 : decode cX2_letGangWork 48 = .ok (.aload_n 0, 1) := by decide +kernel
theorem dX2_letGangWork_49 : decode cX2_letGangWork 49 = .ok (.getfield 21, 3) := by decide +kernel
theorem dX2_letGangWork_52 : decode cX2_letGangWork 52 = .ok (.dup, 1) := by decide +kernel
theorem dX2_letGangWork_53 : decode cX2_letGangWork 53 = .ok (.getfield 135, 3) := by decide +kernel
theorem dX2_letGangWork_56 : decode cX2_letGangWork 56 = .ok (.iconst 1, 1) := by decide +kernel
theorem dX2_letGangWork_57 : decode cX2_letGangWork 57 = .ok (.iadd, 1) := by decide +kernel
theorem dX2_letGangWork_58 : decode cX2_letGangWork 58 = .ok (.putfield 135, 3) := by decide +kernel
theorem dX2_letGangWork_61 : decode cX2_letGangWork 61 = .ok (.aload_n 0, 1) := by decide +kernel
theorem dX2_letGangWork_62 : decode cX2_letGangWork 62 = .ok (.getfield 21, 3) := by decide +kernel
theorem dX2_letGangWork_65 : decode cX2_letGangWork 65 = .ok (.dup, 1) := by decide +kernel
theorem dX2_letGangWork_66 : decode cX2_letGangWork 66 = .ok (.getfield 138, 3) := by decide +kernel
theorem dX2_letGangWork_69 : decode cX2_letGangWork 69 = .ok (.iconst 1, 1) := by decide +kernel
theorem dX2_letGangWork_70 : decode cX2_letGangWork 70 = .ok (.iadd, 1) := by decide +kernel
theorem dX2_letGangWork_71 : decode cX2_letGangWork 71 = .ok (.putfield 138, 3) := by decide +kernel
theorem dX2_letGangWork_74 : decode cX2_letGangWork 74 = .ok (.aload_n 0, 1) := by decide +kernel
theorem dX2_letGangWork_75 : decode cX2_letGangWork 75 = .ok (.aload_n 0, 1) := by decide +kernel
theorem dX2_letGangWork_76 : decode cX2_letGangWork 76 = .ok (.getfield 21, 3) := by decide +kernel
theorem dX2_letGangWork_79 : decode cX2_letGangWork 79 = .ok (.getfield 131, 3) := by decide +kernel
theorem dX2_letGangWork_82 : decode cX2_letGangWork 82 = .ok (.invokevirtual 141, 3) := by decide +kernel
theorem dX2_letGangWork_85 : decode cX2_letGangWork 85 = .ok (.ifCond .eq 11, 3) := by decide +kernel
theorem dX2_letGangWork_88 : decode cX2_letGangWork 88 = .ok (.aload_n 0, 1) := by decide +kernel
theorem dX2_letGangWork_89 : decode cX2_letGangWork 89 = .ok (.getfield 21, 3) := by decide +kernel
theorem dX2_letGangWork_92 : decode cX2_letGangWork 92 = .ok (.iconst 0, 1) := by decide +kernel
theorem dX2_letGangWork_93 : decode cX2_letGangWork 93 = .ok (.invokevirtual 144, 3) := by decide +kernel
theorem dX2_letGangWork_96 : decode cX2_letGangWork 96 = .ok (.return_, 1) := by decide +kernel
set_option maxRecDepth 20000 in
theorem ggX2_isOrderDoneByWorkAt_X4_isDown : GoodIn wsX2_isOrderDoneByWorkAt wsX4_isDown := goodIn_r _ [6, 7, 24, 25] (by decide +kernel) (by decide +kernel)
set_option maxRecDepth 20000 in
theorem gX2_isOrderDoneByWorkAt_X4_isDown_n96 : GoodIn wsX2_isOrderDoneByWorkAt (wsX4_isDown) := ggX2_isOrderDoneByWorkAt_X4_isDown
set_option maxRecDepth 20000 in
theorem ggX2_isOrderDoneByWorkAt_X4_mend : GoodIn wsX2_isOrderDoneByWorkAt wsX4_mend := goodIn_r _ [10, 7, 11, 12, 13, 14, 24, 25] (by decide +kernel) (by decide +kernel)
set_option maxRecDepth 20000 in
theorem gX2_isOrderDoneByWorkAt_X4_mend_n147 : GoodIn wsX2_isOrderDoneByWorkAt (wsX4_mend) := ggX2_isOrderDoneByWorkAt_X4_mend
set_option maxRecDepth 20000 in
theorem ggX2_isOrderDoneByWorkAt_X4_putUp : GoodIn wsX2_isOrderDoneByWorkAt wsX4_putUp := goodIn_r _ [17, 7, 24, 25] (by decide +kernel) (by decide +kernel)
set_option maxRecDepth 20000 in
theorem gX2_isOrderDoneByWorkAt_X4_putUp_n153 : GoodIn wsX2_isOrderDoneByWorkAt (wsX4_putUp) := ggX2_isOrderDoneByWorkAt_X4_putUp
theorem dX2_isOrderDoneByWorkAt_0 : decode cX2_isOrderDoneByWorkAt 0 = .ok (.aload_n 0, 1) := by decide +kernel
theorem dX2_isOrderDoneByWorkAt_1 : decode cX2_isOrderDoneByWorkAt 1 = .ok (.getfield 12, 3) := by decide +kernel
theorem dX2_isOrderDoneByWorkAt_4 : decode cX2_isOrderDoneByWorkAt 4 = .ok (.iload_n 1, 1) := by decide +kernel
theorem dX2_isOrderDoneByWorkAt_5 : decode cX2_isOrderDoneByWorkAt 5 = .ok (.invokevirtual 96, 3) := by decide +kernel
theorem dX2_isOrderDoneByWorkAt_8 : decode cX2_isOrderDoneByWorkAt 8 = .ok (.ifCond .ne 33, 3) := by decide +kernel
theorem dX2_isOrderDoneByWorkAt_11 : decode cX2_isOrderDoneByWorkAt 11 = .ok (.aload_n 0, 1) := by decide +kernel
theorem dX2_isOrderDoneByWorkAt_12 : decode cX2_isOrderDoneByWorkAt 12 = .ok (.getfield 12, 3) := by decide +kernel
theorem dX2_isOrderDoneByWorkAt_15 : decode cX2_isOrderDoneByWorkAt 15 = .ok (.iload_n 1, 1) := by decide +kernel
theorem dX2_isOrderDoneByWorkAt_16 : decode cX2_isOrderDoneByWorkAt 16 = .ok (.bipush 30, 2) := by decide +kernel
theorem dX2_isOrderDoneByWorkAt_18 : decode cX2_isOrderDoneByWorkAt 18 = .ok (.invokevirtual 147, 3) := by decide +kernel
theorem dX2_isOrderDoneByWorkAt_21 : decode cX2_isOrderDoneByWorkAt 21 = .ok (.aload_n 0, 1) := by decide +kernel
theorem dX2_isOrderDoneByWorkAt_22 : decode cX2_isOrderDoneByWorkAt 22 = .ok (.getfield 12, 3) := by decide +kernel
theorem dX2_isOrderDoneByWorkAt_25 : decode cX2_isOrderDoneByWorkAt 25 = .ok (.getfield 150, 3) := by decide +kernel
theorem dX2_isOrderDoneByWorkAt_28 : decode cX2_isOrderDoneByWorkAt 28 = .ok (.iload_n 1, 1) := by decide +kernel
theorem dX2_isOrderDoneByWorkAt_29 : decode cX2_isOrderDoneByWorkAt 29 = .ok (.iaload, 1) := by decide +kernel
theorem dX2_isOrderDoneByWorkAt_30 : decode cX2_isOrderDoneByWorkAt 30 = .ok (.bipush 30, 2) := by decide +kernel
theorem dX2_isOrderDoneByWorkAt_32 : decode cX2_isOrderDoneByWorkAt 32 = .ok (.if_icmp .ge 7, 3) := by decide +kernel
theorem dX2_isOrderDoneByWorkAt_35 : decode cX2_isOrderDoneByWorkAt 35 = .ok (.iconst 1, 1) := by decide +kernel
theorem dX2_isOrderDoneByWorkAt_36 : decode cX2_isOrderDoneByWorkAt 36 = .ok (.goto 4, 3) := by decide +kernel
theorem dX2_isOrderDoneByWorkAt_39 : decode cX2_isOrderDoneByWorkAt 39 = .ok (.iconst 0, 1) := by decide +kernel
theorem dX2_isOrderDoneByWorkAt_40 : decode cX2_isOrderDoneByWorkAt 40 = .ok (.ireturn, 1) := by decide +kernel
theorem dX2_isOrderDoneByWorkAt_41 : decode cX2_isOrderDoneByWorkAt 41 = .ok (.aload_n 0, 1) := by decide +kernel
theorem dX2_isOrderDoneByWorkAt_42 : decode cX2_isOrderDoneByWorkAt 42 = .ok (.getfield 21, 3) := by decide +kernel
theorem dX2_isOrderDoneByWorkAt_45 : decode cX2_isOrderDoneByWorkAt 45 = .ok (.getfield 135, 3) := by decide +kernel
theorem dX2_isOrderDoneByWorkAt_48 : decode cX2_isOrderDoneByWorkAt 48 = .ok (.iconst 2, 1) := by decide +kernel
theorem dX2_isOrderDoneByWorkAt_49 : decode cX2_isOrderDoneByWorkAt 49 = .ok (.if_icmp .ge 5, 3) := by decide +kernel
theorem dX2_isOrderDoneByWorkAt_52 : decode cX2_isOrderDoneByWorkAt 52 = .ok (.iconst 0, 1) := by decide +kernel
theorem dX2_isOrderDoneByWorkAt_53 : decode cX2_isOrderDoneByWorkAt 53 = .ok (.ireturn, 1) := by decide +kernel
theorem dX2_isOrderDoneByWorkAt_54 : decode cX2_isOrderDoneByWorkAt 54 = .ok (.aload_n 0, 1) := by decide +kernel
theorem dX2_isOrderDoneByWorkAt_55 : decode cX2_isOrderDoneByWorkAt 55 = .ok (.getfield 12, 3) := by decide +kernel
theorem dX2_isOrderDoneByWorkAt_58 : decode cX2_isOrderDoneByWorkAt 58 = .ok (.iload_n 1, 1) := by decide +kernel
theorem dX2_isOrderDoneByWorkAt_59 : decode cX2_isOrderDoneByWorkAt 59 = .ok (.invokevirtual 153, 3) := by decide +kernel
theorem dX2_isOrderDoneByWorkAt_62 : decode cX2_isOrderDoneByWorkAt 62 = .ok (.aload_n 0, 1) := by decide +kernel
theorem dX2_isOrderDoneByWorkAt_63 : decode cX2_isOrderDoneByWorkAt 63 = .ok (.getfield 21, 3) := by decide +kernel
theorem dX2_isOrderDoneByWorkAt_66 : decode cX2_isOrderDoneByWorkAt 66 = .ok (.dup, 1) := by decide +kernel
theorem dX2_isOrderDoneByWorkAt_67 : decode cX2_isOrderDoneByWorkAt 67 = .ok (.getfield 156, 3) := by decide +kernel
theorem dX2_isOrderDoneByWorkAt_70 : decode cX2_isOrderDoneByWorkAt 70 = .ok (.iconst 1, 1) := by decide +kernel
theorem dX2_isOrderDoneByWorkAt_71 : decode cX2_isOrderDoneByWorkAt 71 = .ok (.iadd, 1) := by decide +kernel
theorem dX2_isOrderDoneByWorkAt_72 : decode cX2_isOrderDoneByWorkAt 72 = .ok (.putfield 156, 3) := by decide +kernel
theorem dX2_isOrderDoneByWorkAt_75 : decode cX2_isOrderDoneByWorkAt 75 = .ok (.iconst 1, 1) := by decide +kernel
theorem dX2_isOrderDoneByWorkAt_76 : decode cX2_isOrderDoneByWorkAt 76 = .ok (.ireturn, 1) := by decide +kernel
set_option maxRecDepth 20000 in
theorem ggX2_tally_X5_isNightAt : GoodIn wsX2_tally wsX5_isNightAt := goodIn_r _ [7, 8, 9, 10, 11] (by decide +kernel) (by decide +kernel)
set_option maxRecDepth 20000 in
theorem gX2_tally_X5_isNightAt_n56 : GoodIn wsX2_tally (wsX5_isNightAt) := ggX2_tally_X5_isNightAt
set_option maxRecDepth 20000 in
theorem ggX2_tally_X5_oneIf : GoodIn wsX2_tally wsX5_oneIf := goodIn_r _ [13] (by decide +kernel) (by decide +kernel)
set_option maxRecDepth 20000 in
theorem gX2_tally_X5_oneIf_n159 : GoodIn wsX2_tally (wsX5_oneIf) := ggX2_tally_X5_oneIf
set_option maxRecDepth 20000 in
theorem ggX2_tally_X2_busesRunning : GoodIn wsX2_tally wsX2_busesRunning := goodIn_r _ [18, 3, 19, 12, 6, 13, 40, 41, 42, 43, 44, 45, 46, 47, 48, 49, 50, 51] (by decide +kernel) (by decide +kernel)
set_option maxRecDepth 20000 in
theorem gX2_tally_X2_busesRunning : GoodIn wsX2_tally (wsV RX2 162 RX2 yX2_busesRunning wsX2_busesRunning) := goodIn_app (goodIn_of _ (by decide +kernel)) ggX2_tally_X2_busesRunning
set_option maxRecDepth 20000 in
theorem ggX2_tally_X4_spansDown : GoodIn wsX2_tally wsX4_spansDown := goodIn_r _ [23, 24, 25, 26, 21, 27, 28, 12, 6, 13, 52, 53] (by decide +kernel) (by decide +kernel)
set_option maxRecDepth 20000 in
theorem gX2_tally_X4_spansDown_n166 : GoodIn wsX2_tally (wsX4_spansDown) := ggX2_tally_X4_spansDown
set_option maxRecDepth 20000 in
theorem ggX2_tally_X4_wornInAll : GoodIn wsX2_tally wsX4_wornInAll := goodIn_r _ [31, 28, 52, 53] (by decide +kernel) (by decide +kernel)
set_option maxRecDepth 20000 in
theorem gX2_tally_X4_wornInAll_n169 : GoodIn wsX2_tally (wsX4_wornInAll) := ggX2_tally_X4_wornInAll
set_option maxRecDepth 20000 in
theorem ggX2_tally_X4_frostInAll : GoodIn wsX2_tally wsX4_frostInAll := goodIn_r _ [34, 35, 52, 53] (by decide +kernel) (by decide +kernel)
set_option maxRecDepth 20000 in
theorem gX2_tally_X4_frostInAll_n172 : GoodIn wsX2_tally (wsX4_frostInAll) := ggX2_tally_X4_frostInAll
set_option maxRecDepth 20000 in
theorem ggX2_tally_X2_hoursStuckInAll : GoodIn wsX2_tally wsX2_hoursStuckInAll := goodIn_r _ [39, 3, 19, 40, 41, 42, 43, 44, 45, 46, 47, 48, 49, 50, 51] (by decide +kernel) (by decide +kernel)
set_option maxRecDepth 20000 in
theorem gX2_tally_X2_hoursStuckInAll : GoodIn wsX2_tally (wsV RX2 175 RX2 yX2_hoursStuckInAll wsX2_hoursStuckInAll) := goodIn_app (goodIn_of _ (by decide +kernel)) ggX2_tally_X2_hoursStuckInAll
theorem dX2_tally_0 : decode cX2_tally 0 = .ok (.iload_n 1, 1) := by decide +kernel
theorem dX2_tally_1 : decode cX2_tally 1 = .ok (.tableswitch 102 0 7 #[47, 52, 63, 68, 73, 78, 86, 94], 47) := by decide +kernel
theorem dX2_tally_48 : decode cX2_tally 48 = .ok (.aload_n 0, 1) := by decide +kernel
theorem dX2_tally_49 : decode cX2_tally 49 = .ok (.getfield 46, 3) := by decide +kernel
theorem dX2_tally_52 : decode cX2_tally 52 = .ok (.ireturn, 1) := by decide +kernel
theorem dX2_tally_53 : decode cX2_tally 53 = .ok (.aload_n 0, 1) := by decide +kernel
theorem dX2_tally_54 : decode cX2_tally 54 = .ok (.getfield 46, 3) := by decide +kernel
theorem dX2_tally_57 : decode cX2_tally 57 = .ok (.invokestatic 56, 3) := by decide +kernel
theorem dX2_tally_60 : decode cX2_tally 60 = .ok (.invokestatic 159, 3) := by decide +kernel
theorem dX2_tally_63 : decode cX2_tally 63 = .ok (.ireturn, 1) := by decide +kernel
theorem dX2_tally_64 : decode cX2_tally 64 = .ok (.aload_n 0, 1) := by decide +kernel
theorem dX2_tally_65 : decode cX2_tally 65 = .ok (.getfield 49, 3) := by decide +kernel
theorem dX2_tally_68 : decode cX2_tally 68 = .ok (.ireturn, 1) := by decide +kernel
theorem dX2_tally_69 : decode cX2_tally 69 = .ok (.aload_n 0, 1) := by decide +kernel
theorem dX2_tally_70 : decode cX2_tally 70 = .ok (.getfield 39, 3) := by decide +kernel
theorem dX2_tally_73 : decode cX2_tally 73 = .ok (.ireturn, 1) := by decide +kernel
theorem dX2_tally_74 : decode cX2_tally 74 = .ok (.aload_n 0, 1) := by decide +kernel
theorem dX2_tally_75 : decode cX2_tally 75 = .ok (.invokevirtual 162, 3) := by decide +kernel
theorem dX2_tally_78 : decode cX2_tally 78 = .ok (.ireturn, 1) := by decide +kernel
theorem dX2_tally_79 : decode cX2_tally 79 = .ok (.aload_n 0, 1) := by decide +kernel
theorem dX2_tally_80 : decode cX2_tally 80 = .ok (.getfield 12, 3) := by decide +kernel
theorem dX2_tally_83 : decode cX2_tally 83 = .ok (.invokevirtual 166, 3) := by decide +kernel
theorem dX2_tally_86 : decode cX2_tally 86 = .ok (.ireturn, 1) := by decide +kernel
theorem dX2_tally_87 : decode cX2_tally 87 = .ok (.aload_n 0, 1) := by decide +kernel
theorem dX2_tally_88 : decode cX2_tally 88 = .ok (.getfield 12, 3) := by decide +kernel
theorem dX2_tally_91 : decode cX2_tally 91 = .ok (.invokevirtual 169, 3) := by decide +kernel
theorem dX2_tally_94 : decode cX2_tally 94 = .ok (.ireturn, 1) := by decide +kernel
theorem dX2_tally_95 : decode cX2_tally 95 = .ok (.aload_n 0, 1) := by decide +kernel
theorem dX2_tally_96 : decode cX2_tally 96 = .ok (.getfield 12, 3) := by decide +kernel
theorem dX2_tally_99 : decode cX2_tally 99 = .ok (.invokevirtual 172, 3) := by decide +kernel
theorem dX2_tally_102 : decode cX2_tally 102 = .ok (.ireturn, 1) := by decide +kernel
theorem dX2_tally_103 : decode cX2_tally 103 = .ok (.aload_n 0, 1) := by decide +kernel
theorem dX2_tally_104 : decode cX2_tally 104 = .ok (.invokevirtual 175, 3) := by decide +kernel
theorem dX2_tally_107 : decode cX2_tally 107 = .ok (.ireturn, 1) := by decide +kernel
set_option maxRecDepth 20000 in
theorem ggX2_busesAt_X5_oneIf : GoodIn wsX2_busesAt wsX5_oneIf := goodIn_r _ [5] (by decide +kernel) (by decide +kernel)
set_option maxRecDepth 20000 in
theorem gX2_busesAt_X5_oneIf_n159 : GoodIn wsX2_busesAt (wsX5_oneIf) := ggX2_busesAt_X5_oneIf
theorem dX2_busesAt_0 : decode cX2_busesAt 0 = .ok (.iconst 0, 1) := by decide +kernel
theorem dX2_busesAt_1 : decode cX2_busesAt 1 = .ok (.istore_n 2, 1) := by decide +kernel
theorem dX2_busesAt_2 : decode cX2_busesAt 2 = .ok (.iconst 0, 1) := by decide +kernel
theorem dX2_busesAt_3 : decode cX2_busesAt 3 = .ok (.istore_n 3, 1) := by decide +kernel
theorem dX2_busesAt_4 : decode cX2_busesAt 4 = .ok (.iload_n 3, 1) := by decide +kernel
theorem dX2_busesAt_5 : decode cX2_busesAt 5 = .ok (.aload_n 0, 1) := by decide +kernel
theorem dX2_busesAt_6 : decode cX2_busesAt 6 = .ok (.getfield 39, 3) := by decide +kernel
theorem dX2_busesAt_9 : decode cX2_busesAt 9 = .ok (.if_icmp .ge 33, 3) := by decide +kernel
theorem dX2_busesAt_12 : decode cX2_busesAt 12 = .ok (.iload_n 2, 1) := by decide +kernel
theorem dX2_busesAt_13 : decode cX2_busesAt 13 = .ok (.aload_n 0, 1) := by decide +kernel
theorem dX2_busesAt_14 : decode cX2_busesAt 14 = .ok (.getfield 27, 3) := by decide +kernel
theorem dX2_busesAt_17 : decode cX2_busesAt 17 = .ok (.iload_n 3, 1) := by decide +kernel
theorem dX2_busesAt_18 : decode cX2_busesAt 18 = .ok (.aaload, 1) := by decide +kernel
theorem dX2_busesAt_19 : decode cX2_busesAt 19 = .ok (.getfield 107, 3) := by decide +kernel
theorem dX2_busesAt_22 : decode cX2_busesAt 22 = .ok (.iload_n 1, 1) := by decide +kernel
theorem dX2_busesAt_23 : decode cX2_busesAt 23 = .ok (.if_icmp .ne 7, 3) := by decide +kernel
theorem dX2_busesAt_26 : decode cX2_busesAt 26 = .ok (.iconst 1, 1) := by decide +kernel
theorem dX2_busesAt_27 : decode cX2_busesAt 27 = .ok (.goto 4, 3) := by decide +kernel
theorem dX2_busesAt_30 : decode cX2_busesAt 30 = .ok (.iconst 0, 1) := by decide +kernel
theorem dX2_busesAt_31 : decode cX2_busesAt 31 = .ok (.invokestatic 159, 3) := by decide +kernel
theorem dX2_busesAt_34 : decode cX2_busesAt 34 = .ok (.iadd, 1) := by decide +kernel
theorem dX2_busesAt_35 : decode cX2_busesAt 35 = .ok (.istore_n 2, 1) := by decide +kernel
theorem dX2_busesAt_36 : decode cX2_busesAt 36 = .ok (.iinc 3 1, 3) := by decide +kernel
theorem dX2_busesAt_39 : decode cX2_busesAt 39 = .ok (.goto (-35), 3) := by decide +kernel
theorem dX2_busesAt_42 : decode cX2_busesAt 42 = .ok (.iload_n 2, 1) := by decide +kernel
theorem dX2_busesAt_43 : decode cX2_busesAt 43 = .ok (.ireturn, 1) := by decide +kernel
set_option maxRecDepth 20000 in
theorem ggX2_busesRunning_X5_oneIf : GoodIn wsX2_busesRunning wsX5_oneIf := goodIn_r _ [5] (by decide +kernel) (by decide +kernel)
set_option maxRecDepth 20000 in
theorem gX2_busesRunning_X5_oneIf_n159 : GoodIn wsX2_busesRunning (wsX5_oneIf) := ggX2_busesRunning_X5_oneIf
theorem dX2_busesRunning_0 : decode cX2_busesRunning 0 = .ok (.iconst 0, 1) := by decide +kernel
theorem dX2_busesRunning_1 : decode cX2_busesRunning 1 = .ok (.istore_n 1, 1) := by decide +kernel
theorem dX2_busesRunning_2 : decode cX2_busesRunning 2 = .ok (.iconst 0, 1) := by decide +kernel
theorem dX2_busesRunning_3 : decode cX2_busesRunning 3 = .ok (.istore_n 2, 1) := by decide +kernel
theorem dX2_busesRunning_4 : decode cX2_busesRunning 4 = .ok (.iload_n 2, 1) := by decide +kernel
theorem dX2_busesRunning_5 : decode cX2_busesRunning 5 = .ok (.aload_n 0, 1) := by decide +kernel
theorem dX2_busesRunning_6 : decode cX2_busesRunning 6 = .ok (.getfield 39, 3) := by decide +kernel
theorem dX2_busesRunning_9 : decode cX2_busesRunning 9 = .ok (.if_icmp .ge 24, 3) := by decide +kernel
theorem dX2_busesRunning_12 : decode cX2_busesRunning 12 = .ok (.iload_n 1, 1) := by decide +kernel
theorem dX2_busesRunning_13 : decode cX2_busesRunning 13 = .ok (.aload_n 0, 1) := by decide +kernel
theorem dX2_busesRunning_14 : decode cX2_busesRunning 14 = .ok (.getfield 27, 3) := by decide +kernel
theorem dX2_busesRunning_17 : decode cX2_busesRunning 17 = .ok (.iload_n 2, 1) := by decide +kernel
theorem dX2_busesRunning_18 : decode cX2_busesRunning 18 = .ok (.aaload, 1) := by decide +kernel
theorem dX2_busesRunning_19 : decode cX2_busesRunning 19 = .ok (.getfield 103, 3) := by decide +kernel
theorem dX2_busesRunning_22 : decode cX2_busesRunning 22 = .ok (.invokestatic 159, 3) := by decide +kernel
theorem dX2_busesRunning_25 : decode cX2_busesRunning 25 = .ok (.iadd, 1) := by decide +kernel
theorem dX2_busesRunning_26 : decode cX2_busesRunning 26 = .ok (.istore_n 1, 1) := by decide +kernel
theorem dX2_busesRunning_27 : decode cX2_busesRunning 27 = .ok (.iinc 2 1, 3) := by decide +kernel
theorem dX2_busesRunning_30 : decode cX2_busesRunning 30 = .ok (.goto (-26), 3) := by decide +kernel
theorem dX2_busesRunning_33 : decode cX2_busesRunning 33 = .ok (.iload_n 1, 1) := by decide +kernel
theorem dX2_busesRunning_34 : decode cX2_busesRunning 34 = .ok (.ireturn, 1) := by decide +kernel
theorem dX2_hoursStuckInAll_0 : decode cX2_hoursStuckInAll 0 = .ok (.iconst 0, 1) := by decide +kernel
theorem dX2_hoursStuckInAll_1 : decode cX2_hoursStuckInAll 1 = .ok (.istore_n 1, 1) := by decide +kernel
theorem dX2_hoursStuckInAll_2 : decode cX2_hoursStuckInAll 2 = .ok (.iconst 0, 1) := by decide +kernel
theorem dX2_hoursStuckInAll_3 : decode cX2_hoursStuckInAll 3 = .ok (.istore_n 2, 1) := by decide +kernel
theorem dX2_hoursStuckInAll_4 : decode cX2_hoursStuckInAll 4 = .ok (.iload_n 2, 1) := by decide +kernel
theorem dX2_hoursStuckInAll_5 : decode cX2_hoursStuckInAll 5 = .ok (.aload_n 0, 1) := by decide +kernel
theorem dX2_hoursStuckInAll_6 : decode cX2_hoursStuckInAll 6 = .ok (.getfield 39, 3) := by decide +kernel
theorem dX2_hoursStuckInAll_9 : decode cX2_hoursStuckInAll 9 = .ok (.if_icmp .ge 21, 3) := by decide +kernel
theorem dX2_hoursStuckInAll_12 : decode cX2_hoursStuckInAll 12 = .ok (.iload_n 1, 1) := by decide +kernel
theorem dX2_hoursStuckInAll_13 : decode cX2_hoursStuckInAll 13 = .ok (.aload_n 0, 1) := by decide +kernel
theorem dX2_hoursStuckInAll_14 : decode cX2_hoursStuckInAll 14 = .ok (.getfield 27, 3) := by decide +kernel
theorem dX2_hoursStuckInAll_17 : decode cX2_hoursStuckInAll 17 = .ok (.iload_n 2, 1) := by decide +kernel
theorem dX2_hoursStuckInAll_18 : decode cX2_hoursStuckInAll 18 = .ok (.aaload, 1) := by decide +kernel
theorem dX2_hoursStuckInAll_19 : decode cX2_hoursStuckInAll 19 = .ok (.getfield 110, 3) := by decide +kernel
theorem dX2_hoursStuckInAll_22 : decode cX2_hoursStuckInAll 22 = .ok (.iadd, 1) := by decide +kernel
theorem dX2_hoursStuckInAll_23 : decode cX2_hoursStuckInAll 23 = .ok (.istore_n 1, 1) := by decide +kernel
theorem dX2_hoursStuckInAll_24 : decode cX2_hoursStuckInAll 24 = .ok (.iinc 2 1, 3) := by decide +kernel
theorem dX2_hoursStuckInAll_27 : decode cX2_hoursStuckInAll 27 = .ok (.goto (-23), 3) := by decide +kernel
theorem dX2_hoursStuckInAll_30 : decode cX2_hoursStuckInAll 30 = .ok (.iload_n 1, 1) := by decide +kernel
theorem dX2_hoursStuckInAll_31 : decode cX2_hoursStuckInAll 31 = .ok (.ireturn, 1) := by decide +kernel
theorem dX3_init_0 : decode cX3_init 0 = .ok (.aload_n 0, 1) := by decide +kernel
theorem dX3_init_1 : decode cX3_init 1 = .ok (.invokespecial 3, 3) := by decide +kernel
theorem dX3_init_4 : decode cX3_init 4 = .ok (.aload_n 0, 1) := by decide +kernel
theorem dX3_init_5 : decode cX3_init 5 = .ok (.bipush 8, 2) := by decide +kernel
theorem dX3_init_7 : decode cX3_init 7 = .ok (.newarray .int, 2) := by decide +kernel
theorem dX3_init_9 : decode cX3_init 9 = .ok (.putfield 9, 3) := by decide +kernel
theorem dX3_init_12 : decode cX3_init 12 = .ok (.aload_n 0, 1) := by decide +kernel
theorem dX3_init_13 : decode cX3_init 13 = .ok (.bipush 12, 2) := by decide +kernel
theorem dX3_init_15 : decode cX3_init 15 = .ok (.newarray .int, 2) := by decide +kernel
theorem dX3_init_17 : decode cX3_init 17 = .ok (.putfield 15, 3) := by decide +kernel
theorem dX3_init_20 : decode cX3_init 20 = .ok (.aload_n 0, 1) := by decide +kernel
theorem dX3_init_21 : decode cX3_init 21 = .ok (.iconst 2, 1) := by decide +kernel
theorem dX3_init_22 : decode cX3_init 22 = .ok (.putfield 18, 3) := by decide +kernel
theorem dX3_init_25 : decode cX3_init 25 = .ok (.aload_n 0, 1) := by decide +kernel
theorem dX3_init_26 : decode cX3_init 26 = .ok (.iconst 3, 1) := by decide +kernel
theorem dX3_init_27 : decode cX3_init 27 = .ok (.putfield 22, 3) := by decide +kernel
theorem dX3_init_30 : decode cX3_init 30 = .ok (.iconst 0, 1) := by decide +kernel
theorem dX3_init_31 : decode cX3_init 31 = .ok (.istore_n 1, 1) := by decide +kernel
theorem dX3_init_32 : decode cX3_init 32 = .ok (.iload_n 1, 1) := by decide +kernel
theorem dX3_init_33 : decode cX3_init 33 = .ok (.bipush 12, 2) := by decide +kernel
theorem dX3_init_35 : decode cX3_init 35 = .ok (.if_icmp .ge 16, 3) := by decide +kernel
theorem dX3_init_38 : decode cX3_init 38 = .ok (.aload_n 0, 1) := by decide +kernel
theorem dX3_init_39 : decode cX3_init 39 = .ok (.getfield 15, 3) := by decide +kernel
theorem dX3_init_42 : decode cX3_init 42 = .ok (.iload_n 1, 1) := by decide +kernel
theorem dX3_init_43 : decode cX3_init 43 = .ok (.iconst (-1), 1) := by decide +kernel
theorem dX3_init_44 : decode cX3_init 44 = .ok (.iastore, 1) := by decide +kernel
theorem dX3_init_45 : decode cX3_init 45 = .ok (.iinc 1 1, 3) := by decide +kernel
theorem dX3_init_48 : decode cX3_init 48 = .ok (.goto (-16), 3) := by decide +kernel
theorem dX3_init_51 : decode cX3_init 51 = .ok (.return_, 1) := by decide +kernel
theorem dX3_fare_0 : decode cX3_fare 0 = .ok (.iload_n 1, 1) := by decide +kernel
theorem dX3_fare_1 : decode cX3_fare 1 = .ok (.ifCond .eq 10, 3) := by decide +kernel
theorem dX3_fare_4 : decode cX3_fare 4 = .ok (.aload_n 0, 1) := by decide +kernel
theorem dX3_fare_5 : decode cX3_fare 5 = .ok (.getfield 22, 3) := by decide +kernel
theorem dX3_fare_8 : decode cX3_fare 8 = .ok (.goto 7, 3) := by decide +kernel
theorem dX3_fare_11 : decode cX3_fare 11 = .ok (.aload_n 0, 1) := by decide +kernel
theorem dX3_fare_12 : decode cX3_fare 12 = .ok (.getfield 18, 3) := by decide +kernel
theorem dX3_fare_15 : decode cX3_fare 15 = .ok (.ireturn, 1) := by decide +kernel
theorem dX4_init_0 : decode cX4_init 0 = .ok (.aload_n 0, 1) := by decide +kernel
theorem dX4_init_1 : decode cX4_init 1 = .ok (.invokespecial 3, 3) := by decide +kernel
theorem dX4_init_4 : decode cX4_init 4 = .ok (.aload_n 0, 1) := by decide +kernel
theorem dX4_init_5 : decode cX4_init 5 = .ok (.bipush 24, 2) := by decide +kernel
theorem dX4_init_7 : decode cX4_init 7 = .ok (.newarray .int, 2) := by decide +kernel
theorem dX4_init_9 : decode cX4_init 9 = .ok (.putfield 9, 3) := by decide +kernel
theorem dX4_init_12 : decode cX4_init 12 = .ok (.aload_n 0, 1) := by decide +kernel
theorem dX4_init_13 : decode cX4_init 13 = .ok (.bipush 24, 2) := by decide +kernel
theorem dX4_init_15 : decode cX4_init 15 = .ok (.newarray .int, 2) := by decide +kernel
theorem dX4_init_17 : decode cX4_init 17 = .ok (.putfield 15, 3) := by decide +kernel
theorem dX4_init_20 : decode cX4_init 20 = .ok (.return_, 1) := by decide +kernel
theorem dX4_copyFrom_0 : decode cX4_copyFrom 0 = .ok (.aload_n 1, 1) := by decide +kernel
theorem dX4_copyFrom_1 : decode cX4_copyFrom 1 = .ok (.getfield 9, 3) := by decide +kernel
theorem dX4_copyFrom_4 : decode cX4_copyFrom 4 = .ok (.iconst 0, 1) := by decide +kernel
theorem dX4_copyFrom_5 : decode cX4_copyFrom 5 = .ok (.aload_n 0, 1) := by decide +kernel
theorem dX4_copyFrom_6 : decode cX4_copyFrom 6 = .ok (.getfield 9, 3) := by decide +kernel
theorem dX4_copyFrom_9 : decode cX4_copyFrom 9 = .ok (.iconst 0, 1) := by decide +kernel
theorem dX4_copyFrom_10 : decode cX4_copyFrom 10 = .ok (.bipush 24, 2) := by decide +kernel
theorem dX4_copyFrom_12 : decode cX4_copyFrom 12 = .ok (.invokestatic 18, 3) := by decide +kernel
theorem dX4_copyFrom_15 : decode cX4_copyFrom 15 = .ok (.aload_n 1, 1) := by decide +kernel
theorem dX4_copyFrom_16 : decode cX4_copyFrom 16 = .ok (.getfield 15, 3) := by decide +kernel
theorem dX4_copyFrom_19 : decode cX4_copyFrom 19 = .ok (.iconst 0, 1) := by decide +kernel
theorem dX4_copyFrom_20 : decode cX4_copyFrom 20 = .ok (.aload_n 0, 1) := by decide +kernel
theorem dX4_copyFrom_21 : decode cX4_copyFrom 21 = .ok (.getfield 15, 3) := by decide +kernel
theorem dX4_copyFrom_24 : decode cX4_copyFrom 24 = .ok (.iconst 0, 1) := by decide +kernel
theorem dX4_copyFrom_25 : decode cX4_copyFrom 25 = .ok (.bipush 24, 2) := by decide +kernel
theorem dX4_copyFrom_27 : decode cX4_copyFrom 27 = .ok (.invokestatic 18, 3) := by decide +kernel
theorem dX4_copyFrom_30 : decode cX4_copyFrom 30 = .ok (.return_, 1) := by decide +kernel
theorem dX4_isDown_0 : decode cX4_isDown 0 = .ok (.aload_n 0, 1) := by decide +kernel
theorem dX4_isDown_1 : decode cX4_isDown 1 = .ok (.getfield 9, 3) := by decide +kernel
theorem dX4_isDown_4 : decode cX4_isDown 4 = .ok (.iload_n 1, 1) := by decide +kernel
theorem dX4_isDown_5 : decode cX4_isDown 5 = .ok (.iaload, 1) := by decide +kernel
theorem dX4_isDown_6 : decode cX4_isDown 6 = .ok (.bipush 100, 2) := by decide +kernel
theorem dX4_isDown_8 : decode cX4_isDown 8 = .ok (.if_icmp .lt 7, 3) := by decide +kernel
theorem dX4_isDown_11 : decode cX4_isDown 11 = .ok (.iconst 1, 1) := by decide +kernel
theorem dX4_isDown_12 : decode cX4_isDown 12 = .ok (.goto 4, 3) := by decide +kernel
theorem dX4_isDown_15 : decode cX4_isDown 15 = .ok (.iconst 0, 1) := by decide +kernel
theorem dX4_isDown_16 : decode cX4_isDown 16 = .ok (.ireturn, 1) := by decide +kernel
theorem dX4_putUp_0 : decode cX4_putUp 0 = .ok (.aload_n 0, 1) := by decide +kernel
theorem dX4_putUp_1 : decode cX4_putUp 1 = .ok (.getfield 9, 3) := by decide +kernel
theorem dX4_putUp_4 : decode cX4_putUp 4 = .ok (.iload_n 1, 1) := by decide +kernel
theorem dX4_putUp_5 : decode cX4_putUp 5 = .ok (.bipush 50, 2) := by decide +kernel
theorem dX4_putUp_7 : decode cX4_putUp 7 = .ok (.iastore, 1) := by decide +kernel
theorem dX4_putUp_8 : decode cX4_putUp 8 = .ok (.return_, 1) := by decide +kernel
theorem dX4_wear_0 : decode cX4_wear 0 = .ok (.aload_n 0, 1) := by decide +kernel
theorem dX4_wear_1 : decode cX4_wear 1 = .ok (.getfield 9, 3) := by decide +kernel
theorem dX4_wear_4 : decode cX4_wear 4 = .ok (.iload_n 1, 1) := by decide +kernel
theorem dX4_wear_5 : decode cX4_wear 5 = .ok (.bipush 100, 2) := by decide +kernel
theorem dX4_wear_7 : decode cX4_wear 7 = .ok (.aload_n 0, 1) := by decide +kernel
theorem dX4_wear_8 : decode cX4_wear 8 = .ok (.getfield 9, 3) := by decide +kernel
theorem dX4_wear_11 : decode cX4_wear 11 = .ok (.iload_n 1, 1) := by decide +kernel
theorem dX4_wear_12 : decode cX4_wear 12 = .ok (.iaload, 1) := by decide +kernel
theorem dX4_wear_13 : decode cX4_wear 13 = .ok (.iload_n 2, 1) := by decide +kernel
theorem dX4_wear_14 : decode cX4_wear 14 = .ok (.iadd, 1) := by decide +kernel
theorem dX4_wear_15 : decode cX4_wear 15 = .ok (.invokestatic 24, 3) := by decide +kernel
theorem dX4_wear_18 : decode cX4_wear 18 = .ok (.iastore, 1) := by decide +kernel
theorem dX4_wear_19 : decode cX4_wear 19 = .ok (.return_, 1) := by decide +kernel
theorem dX4_mend_0 : decode cX4_mend 0 = .ok (.aload_n 0, 1) := by decide +kernel
theorem dX4_mend_1 : decode cX4_mend 1 = .ok (.getfield 9, 3) := by decide +kernel
theorem dX4_mend_4 : decode cX4_mend 4 = .ok (.iload_n 1, 1) := by decide +kernel
theorem dX4_mend_5 : decode cX4_mend 5 = .ok (.iconst 0, 1) := by decide +kernel
theorem dX4_mend_6 : decode cX4_mend 6 = .ok (.aload_n 0, 1) := by decide +kernel
theorem dX4_mend_7 : decode cX4_mend 7 = .ok (.getfield 9, 3) := by decide +kernel
theorem dX4_mend_10 : decode cX4_mend 10 = .ok (.iload_n 1, 1) := by decide +kernel
theorem dX4_mend_11 : decode cX4_mend 11 = .ok (.iaload, 1) := by decide +kernel
theorem dX4_mend_12 : decode cX4_mend 12 = .ok (.iload_n 2, 1) := by decide +kernel
theorem dX4_mend_13 : decode cX4_mend 13 = .ok (.isub, 1) := by decide +kernel
theorem dX4_mend_14 : decode cX4_mend 14 = .ok (.invokestatic 30, 3) := by decide +kernel
theorem dX4_mend_17 : decode cX4_mend 17 = .ok (.iastore, 1) := by decide +kernel
theorem dX4_mend_18 : decode cX4_mend 18 = .ok (.return_, 1) := by decide +kernel
theorem dX4_freeze_0 : decode cX4_freeze 0 = .ok (.iconst 0, 1) := by decide +kernel
theorem dX4_freeze_1 : decode cX4_freeze 1 = .ok (.istore_n 2, 1) := by decide +kernel
theorem dX4_freeze_2 : decode cX4_freeze 2 = .ok (.iload_n 2, 1) := by decide +kernel
theorem dX4_freeze_3 : decode cX4_freeze 3 = .ok (.bipush 24, 2) := by decide +kernel
theorem dX4_freeze_5 : decode cX4_freeze 5 = .ok (.if_icmp .ge 28, 3) := by decide +kernel
theorem dX4_freeze_8 : decode cX4_freeze 8 = .ok (.aload_n 0, 1) := by decide +kernel
theorem dX4_freeze_9 : decode cX4_freeze 9 = .ok (.getfield 15, 3) := by decide +kernel
theorem dX4_freeze_12 : decode cX4_freeze 12 = .ok (.iload_n 2, 1) := by decide +kernel
theorem dX4_freeze_13 : decode cX4_freeze 13 = .ok (.bipush 9, 2) := by decide +kernel
theorem dX4_freeze_15 : decode cX4_freeze 15 = .ok (.aload_n 0, 1) := by decide +kernel
theorem dX4_freeze_16 : decode cX4_freeze 16 = .ok (.getfield 15, 3) := by decide +kernel
theorem dX4_freeze_19 : decode cX4_freeze 19 = .ok (.iload_n 2, 1) := by decide +kernel
theorem dX4_freeze_20 : decode cX4_freeze 20 = .ok (.iaload, 1) := by decide +kernel
theorem dX4_freeze_21 : decode cX4_freeze 21 = .ok (.iload_n 1, 1) := by decide +kernel
theorem dX4_freeze_22 : decode cX4_freeze 22 = .ok (.iadd, 1) := by decide +kernel
theorem dX4_freeze_23 : decode cX4_freeze 23 = .ok (.invokestatic 24, 3) := by decide +kernel
theorem dX4_freeze_26 : decode cX4_freeze 26 = .ok (.iastore, 1) := by decide +kernel
theorem dX4_freeze_27 : decode cX4_freeze 27 = .ok (.iinc 2 1, 3) := by decide +kernel
theorem dX4_freeze_30 : decode cX4_freeze 30 = .ok (.goto (-28), 3) := by decide +kernel
theorem dX4_freeze_33 : decode cX4_freeze 33 = .ok (.return_, 1) := by decide +kernel
theorem dX4_thaw_0 : decode cX4_thaw 0 = .ok (.iconst 0, 1) := by decide +kernel
theorem dX4_thaw_1 : decode cX4_thaw 1 = .ok (.istore_n 1, 1) := by decide +kernel
theorem dX4_thaw_2 : decode cX4_thaw 2 = .ok (.iload_n 1, 1) := by decide +kernel
theorem dX4_thaw_3 : decode cX4_thaw 3 = .ok (.bipush 24, 2) := by decide +kernel
theorem dX4_thaw_5 : decode cX4_thaw 5 = .ok (.if_icmp .ge 27, 3) := by decide +kernel
theorem dX4_thaw_8 : decode cX4_thaw 8 = .ok (.aload_n 0, 1) := by decide +kernel
theorem dX4_thaw_9 : decode cX4_thaw 9 = .ok (.getfield 15, 3) := by decide +kernel
theorem dX4_thaw_12 : decode cX4_thaw 12 = .ok (.iload_n 1, 1) := by decide +kernel
theorem dX4_thaw_13 : decode cX4_thaw 13 = .ok (.iconst 0, 1) := by decide +kernel
theorem dX4_thaw_14 : decode cX4_thaw 14 = .ok (.aload_n 0, 1) := by decide +kernel
theorem dX4_thaw_15 : decode cX4_thaw 15 = .ok (.getfield 15, 3) := by decide +kernel
theorem dX4_thaw_18 : decode cX4_thaw 18 = .ok (.iload_n 1, 1) := by decide +kernel
theorem dX4_thaw_19 : decode cX4_thaw 19 = .ok (.iaload, 1) := by decide +kernel
theorem dX4_thaw_20 : decode cX4_thaw 20 = .ok (.iconst 2, 1) := by decide +kernel
theorem dX4_thaw_21 : decode cX4_thaw 21 = .ok (.isub, 1) := by decide +kernel
theorem dX4_thaw_22 : decode cX4_thaw 22 = .ok (.invokestatic 30, 3) := by decide +kernel
theorem dX4_thaw_25 : decode cX4_thaw 25 = .ok (.iastore, 1) := by decide +kernel
theorem dX4_thaw_26 : decode cX4_thaw 26 = .ok (.iinc 1 1, 3) := by decide +kernel
theorem dX4_thaw_29 : decode cX4_thaw 29 = .ok (.goto (-27), 3) := by decide +kernel
theorem dX4_thaw_32 : decode cX4_thaw 32 = .ok (.return_, 1) := by decide +kernel
set_option maxRecDepth 20000 in
theorem ggX4_spansUpBehind_X4_isDown : GoodIn wsX4_spansUpBehind wsX4_isDown := goodIn_r _ [5, 6, 7, 8] (by decide +kernel) (by decide +kernel)
set_option maxRecDepth 20000 in
theorem gX4_spansUpBehind_X4_isDown : GoodIn wsX4_spansUpBehind (wsV RX4 33 RX4 yX4_isDown wsX4_isDown) := goodIn_app (goodIn_of _ (by decide +kernel)) ggX4_spansUpBehind_X4_isDown
theorem dX4_spansUpBehind_0 : decode cX4_spansUpBehind 0 = .ok (.iconst 0, 1) := by decide +kernel
theorem dX4_spansUpBehind_1 : decode cX4_spansUpBehind 1 = .ok (.istore_n 2, 1) := by decide +kernel
theorem dX4_spansUpBehind_2 : decode cX4_spansUpBehind 2 = .ok (.iload_n 2, 1) := by decide +kernel
theorem dX4_spansUpBehind_3 : decode cX4_spansUpBehind 3 = .ok (.bipush 24, 2) := by decide +kernel
theorem dX4_spansUpBehind_5 : decode cX4_spansUpBehind 5 = .ok (.if_icmp .ge 24, 3) := by decide +kernel
theorem dX4_spansUpBehind_8 : decode cX4_spansUpBehind 8 = .ok (.aload_n 0, 1) := by decide +kernel
theorem dX4_spansUpBehind_9 : decode cX4_spansUpBehind 9 = .ok (.iload_n 1, 1) := by decide +kernel
theorem dX4_spansUpBehind_10 : decode cX4_spansUpBehind 10 = .ok (.iload_n 2, 1) := by decide +kernel
theorem dX4_spansUpBehind_11 : decode cX4_spansUpBehind 11 = .ok (.iadd, 1) := by decide +kernel
theorem dX4_spansUpBehind_12 : decode cX4_spansUpBehind 12 = .ok (.iconst 1, 1) := by decide +kernel
theorem dX4_spansUpBehind_13 : decode cX4_spansUpBehind 13 = .ok (.iadd, 1) := by decide +kernel
theorem dX4_spansUpBehind_14 : decode cX4_spansUpBehind 14 = .ok (.bipush 24, 2) := by decide +kernel
theorem dX4_spansUpBehind_16 : decode cX4_spansUpBehind 16 = .ok (.irem, 1) := by decide +kernel
theorem dX4_spansUpBehind_17 : decode cX4_spansUpBehind 17 = .ok (.invokevirtual 33, 3) := by decide +kernel
theorem dX4_spansUpBehind_20 : decode cX4_spansUpBehind 20 = .ok (.ifCond .ne 9, 3) := by decide +kernel
theorem dX4_spansUpBehind_23 : decode cX4_spansUpBehind 23 = .ok (.iinc 2 1, 3) := by decide +kernel
theorem dX4_spansUpBehind_26 : decode cX4_spansUpBehind 26 = .ok (.goto (-24), 3) := by decide +kernel
theorem dX4_spansUpBehind_29 : decode cX4_spansUpBehind 29 = .ok (.iload_n 2, 1) := by decide +kernel
theorem dX4_spansUpBehind_30 : decode cX4_spansUpBehind 30 = .ok (.ireturn, 1) := by decide +kernel
set_option maxRecDepth 20000 in
theorem ggX4_spansDown_X4_isDown : GoodIn wsX4_spansDown wsX4_isDown := goodIn_r _ [5, 6, 10, 11] (by decide +kernel) (by decide +kernel)
set_option maxRecDepth 20000 in
theorem gX4_spansDown_X4_isDown : GoodIn wsX4_spansDown (wsV RX4 33 RX4 yX4_isDown wsX4_isDown) := goodIn_app (goodIn_of _ (by decide +kernel)) ggX4_spansDown_X4_isDown
set_option maxRecDepth 20000 in
theorem ggX4_spansDown_X5_oneIf : GoodIn wsX4_spansDown wsX5_oneIf := goodIn_r _ [9] (by decide +kernel) (by decide +kernel)
set_option maxRecDepth 20000 in
theorem gX4_spansDown_X5_oneIf_n37 : GoodIn wsX4_spansDown (wsX5_oneIf) := ggX4_spansDown_X5_oneIf
theorem dX4_spansDown_0 : decode cX4_spansDown 0 = .ok (.iconst 0, 1) := by decide +kernel
theorem dX4_spansDown_1 : decode cX4_spansDown 1 = .ok (.istore_n 1, 1) := by decide +kernel
theorem dX4_spansDown_2 : decode cX4_spansDown 2 = .ok (.iconst 0, 1) := by decide +kernel
theorem dX4_spansDown_3 : decode cX4_spansDown 3 = .ok (.istore_n 2, 1) := by decide +kernel
theorem dX4_spansDown_4 : decode cX4_spansDown 4 = .ok (.iload_n 2, 1) := by decide +kernel
theorem dX4_spansDown_5 : decode cX4_spansDown 5 = .ok (.bipush 24, 2) := by decide +kernel
theorem dX4_spansDown_7 : decode cX4_spansDown 7 = .ok (.if_icmp .ge 20, 3) := by decide +kernel
theorem dX4_spansDown_10 : decode cX4_spansDown 10 = .ok (.iload_n 1, 1) := by decide +kernel
theorem dX4_spansDown_11 : decode cX4_spansDown 11 = .ok (.aload_n 0, 1) := by decide +kernel
theorem dX4_spansDown_12 : decode cX4_spansDown 12 = .ok (.iload_n 2, 1) := by decide +kernel
theorem dX4_spansDown_13 : decode cX4_spansDown 13 = .ok (.invokevirtual 33, 3) := by decide +kernel
theorem dX4_spansDown_16 : decode cX4_spansDown 16 = .ok (.invokestatic 37, 3) := by decide +kernel
theorem dX4_spansDown_19 : decode cX4_spansDown 19 = .ok (.iadd, 1) := by decide +kernel
theorem dX4_spansDown_20 : decode cX4_spansDown 20 = .ok (.istore_n 1, 1) := by decide +kernel
theorem dX4_spansDown_21 : decode cX4_spansDown 21 = .ok (.iinc 2 1, 3) := by decide +kernel
theorem dX4_spansDown_24 : decode cX4_spansDown 24 = .ok (.goto (-20), 3) := by decide +kernel
theorem dX4_spansDown_27 : decode cX4_spansDown 27 = .ok (.iload_n 1, 1) := by decide +kernel
theorem dX4_spansDown_28 : decode cX4_spansDown 28 = .ok (.ireturn, 1) := by decide +kernel
theorem dX4_wornInAll_0 : decode cX4_wornInAll 0 = .ok (.iconst 0, 1) := by decide +kernel
theorem dX4_wornInAll_1 : decode cX4_wornInAll 1 = .ok (.istore_n 1, 1) := by decide +kernel
theorem dX4_wornInAll_2 : decode cX4_wornInAll 2 = .ok (.iconst 0, 1) := by decide +kernel
theorem dX4_wornInAll_3 : decode cX4_wornInAll 3 = .ok (.istore_n 2, 1) := by decide +kernel
theorem dX4_wornInAll_4 : decode cX4_wornInAll 4 = .ok (.iload_n 2, 1) := by decide +kernel
theorem dX4_wornInAll_5 : decode cX4_wornInAll 5 = .ok (.bipush 24, 2) := by decide +kernel
theorem dX4_wornInAll_7 : decode cX4_wornInAll 7 = .ok (.if_icmp .ge 18, 3) := by decide +kernel
theorem dX4_wornInAll_10 : decode cX4_wornInAll 10 = .ok (.iload_n 1, 1) := by decide +kernel
theorem dX4_wornInAll_11 : decode cX4_wornInAll 11 = .ok (.aload_n 0, 1) := by decide +kernel
theorem dX4_wornInAll_12 : decode cX4_wornInAll 12 = .ok (.getfield 9, 3) := by decide +kernel
theorem dX4_wornInAll_15 : decode cX4_wornInAll 15 = .ok (.iload_n 2, 1) := by decide +kernel
theorem dX4_wornInAll_16 : decode cX4_wornInAll 16 = .ok (.iaload, 1) := by decide +kernel
theorem dX4_wornInAll_17 : decode cX4_wornInAll 17 = .ok (.iadd, 1) := by decide +kernel
theorem dX4_wornInAll_18 : decode cX4_wornInAll 18 = .ok (.istore_n 1, 1) := by decide +kernel
theorem dX4_wornInAll_19 : decode cX4_wornInAll 19 = .ok (.iinc 2 1, 3) := by decide +kernel
theorem dX4_wornInAll_22 : decode cX4_wornInAll 22 = .ok (.goto (-18), 3) := by decide +kernel
theorem dX4_wornInAll_25 : decode cX4_wornInAll 25 = .ok (.iload_n 1, 1) := by decide +kernel
theorem dX4_wornInAll_26 : decode cX4_wornInAll 26 = .ok (.ireturn, 1) := by decide +kernel
theorem dX4_frostInAll_0 : decode cX4_frostInAll 0 = .ok (.iconst 0, 1) := by decide +kernel
theorem dX4_frostInAll_1 : decode cX4_frostInAll 1 = .ok (.istore_n 1, 1) := by decide +kernel
theorem dX4_frostInAll_2 : decode cX4_frostInAll 2 = .ok (.iconst 0, 1) := by decide +kernel
theorem dX4_frostInAll_3 : decode cX4_frostInAll 3 = .ok (.istore_n 2, 1) := by decide +kernel
theorem dX4_frostInAll_4 : decode cX4_frostInAll 4 = .ok (.iload_n 2, 1) := by decide +kernel
theorem dX4_frostInAll_5 : decode cX4_frostInAll 5 = .ok (.bipush 24, 2) := by decide +kernel
theorem dX4_frostInAll_7 : decode cX4_frostInAll 7 = .ok (.if_icmp .ge 18, 3) := by decide +kernel
theorem dX4_frostInAll_10 : decode cX4_frostInAll 10 = .ok (.iload_n 1, 1) := by decide +kernel
theorem dX4_frostInAll_11 : decode cX4_frostInAll 11 = .ok (.aload_n 0, 1) := by decide +kernel
theorem dX4_frostInAll_12 : decode cX4_frostInAll 12 = .ok (.getfield 15, 3) := by decide +kernel
theorem dX4_frostInAll_15 : decode cX4_frostInAll 15 = .ok (.iload_n 2, 1) := by decide +kernel
theorem dX4_frostInAll_16 : decode cX4_frostInAll 16 = .ok (.iaload, 1) := by decide +kernel
theorem dX4_frostInAll_17 : decode cX4_frostInAll 17 = .ok (.iadd, 1) := by decide +kernel
theorem dX4_frostInAll_18 : decode cX4_frostInAll 18 = .ok (.istore_n 1, 1) := by decide +kernel
theorem dX4_frostInAll_19 : decode cX4_frostInAll 19 = .ok (.iinc 2 1, 3) := by decide +kernel
theorem dX4_frostInAll_22 : decode cX4_frostInAll 22 = .ok (.goto (-18), 3) := by decide +kernel
theorem dX4_frostInAll_25 : decode cX4_frostInAll 25 = .ok (.iload_n 1, 1) := by decide +kernel
theorem dX4_frostInAll_26 : decode cX4_frostInAll 26 = .ok (.ireturn, 1) := by decide +kernel
set_option maxRecDepth 20000 in
theorem ggX5_init_X3_init : GoodIn wsX5_init wsX3_init := goodIn_r _ [14, 15, 2, 3, 16, 17, 18, 19, 20, 48, 49, 50, 51] (by decide +kernel) (by decide +kernel)
set_option maxRecDepth 20000 in
theorem gX5_init_X3_init_n9 : GoodIn wsX5_init (wsX3_init) := ggX5_init_X3_init
set_option maxRecDepth 20000 in
theorem ggX5_init_X2_init : GoodIn wsX5_init wsX2_init := goodIn_r _ [22, 23, 2, 3, 24, 25, 26, 27, 28, 29, 30, 31, 32, 33, 34, 35, 36, 37, 38, 16, 39, 40, 41, 42, 43, 44, 45, 46, 47, 61, 62, 55, 56, 57, 58, 59, 60, 63, 64, 65, 66, 67, 68, 69, 70, 71, 72, 73, 74] (by decide +kernel) (by decide +kernel)
set_option maxRecDepth 20000 in
theorem gX5_init_X2_init_n18 : GoodIn wsX5_init (wsX2_init) := ggX5_init_X2_init
theorem dX5_init_0 : decode cX5_init 0 = .ok (.aload_n 0, 1) := by decide +kernel
theorem dX5_init_1 : decode cX5_init 1 = .ok (.invokespecial 1, 3) := by decide +kernel
theorem dX5_init_4 : decode cX5_init 4 = .ok (.aload_n 0, 1) := by decide +kernel
theorem dX5_init_5 : decode cX5_init 5 = .ok (.new 7, 3) := by decide +kernel
theorem dX5_init_8 : decode cX5_init 8 = .ok (.dup, 1) := by decide +kernel
theorem dX5_init_9 : decode cX5_init 9 = .ok (.invokespecial 9, 3) := by decide +kernel
theorem dX5_init_12 : decode cX5_init 12 = .ok (.putfield 10, 3) := by decide +kernel
theorem dX5_init_15 : decode cX5_init 15 = .ok (.aload_n 0, 1) := by decide +kernel
theorem dX5_init_16 : decode cX5_init 16 = .ok (.new 16, 3) := by decide +kernel
theorem dX5_init_19 : decode cX5_init 19 = .ok (.dup, 1) := by decide +kernel
theorem dX5_init_20 : decode cX5_init 20 = .ok (.invokespecial 18, 3) := by decide +kernel
theorem dX5_init_23 : decode cX5_init 23 = .ok (.putfield 19, 3) := by decide +kernel
theorem dX5_init_26 : decode cX5_init 26 = .ok (.aload_n 0, 1) := by decide +kernel
theorem dX5_init_27 : decode cX5_init 27 = .ok (.new 16, 3) := by decide +kernel
theorem dX5_init_30 : decode cX5_init 30 = .ok (.dup, 1) := by decide +kernel
theorem dX5_init_31 : decode cX5_init 31 = .ok (.invokespecial 18, 3) := by decide +kernel
theorem dX5_init_34 : decode cX5_init 34 = .ok (.putfield 23, 3) := by decide +kernel
theorem dX5_init_37 : decode cX5_init 37 = .ok (.return_, 1) := by decide +kernel
theorem dX5_setCold_0 : decode cX5_setCold 0 = .ok (.iload_n 1, 1) := by decide +kernel
theorem dX5_setCold_1 : decode cX5_setCold 1 = .ok (.ifCond .lt 9, 3) := by decide +kernel
theorem dX5_setCold_4 : decode cX5_setCold 4 = .ok (.iload_n 1, 1) := by decide +kernel
theorem dX5_setCold_5 : decode cX5_setCold 5 = .ok (.bipush 8, 2) := by decide +kernel
theorem dX5_setCold_7 : decode cX5_setCold 7 = .ok (.if_icmp .lt 13, 3) := by decide +kernel
theorem dX5_setCold_10 : decode cX5_setCold 10 = .ok (.new 26, 3) := by decide +kernel
theorem dX5_setCold_13 : decode cX5_setCold 13 = .ok (.dup, 1) := by decide +kernel
theorem dX5_setCold_14 : decode cX5_setCold 14 = .ok (.ldc 28, 2) := by decide +kernel
theorem dX5_setCold_16 : decode cX5_setCold 16 = .ok (.invokespecial 30, 3) := by decide +kernel
theorem dX5_setCold_19 : decode cX5_setCold 19 = .ok (.athrow, 1) := by decide +kernel
theorem dX5_setCold_20 : decode cX5_setCold 20 = .ok (.iload_n 2, 1) := by decide +kernel
theorem dX5_setCold_21 : decode cX5_setCold 21 = .ok (.ifCond .lt 8, 3) := by decide +kernel
theorem dX5_setCold_24 : decode cX5_setCold 24 = .ok (.iload_n 2, 1) := by decide +kernel
theorem dX5_setCold_25 : decode cX5_setCold 25 = .ok (.iconst 3, 1) := by decide +kernel
theorem dX5_setCold_26 : decode cX5_setCold 26 = .ok (.if_icmp .le 13, 3) := by decide +kernel
theorem dX5_setCold_29 : decode cX5_setCold 29 = .ok (.new 33, 3) := by decide +kernel
theorem dX5_setCold_32 : decode cX5_setCold 32 = .ok (.dup, 1) := by decide +kernel
theorem dX5_setCold_33 : decode cX5_setCold 33 = .ok (.ldc 35, 2) := by decide +kernel
theorem dX5_setCold_35 : decode cX5_setCold 35 = .ok (.invokespecial 37, 3) := by decide +kernel
theorem dX5_setCold_38 : decode cX5_setCold 38 = .ok (.athrow, 1) := by decide +kernel
theorem dX5_setCold_39 : decode cX5_setCold 39 = .ok (.aload_n 0, 1) := by decide +kernel
theorem dX5_setCold_40 : decode cX5_setCold 40 = .ok (.getfield 10, 3) := by decide +kernel
theorem dX5_setCold_43 : decode cX5_setCold 43 = .ok (.getfield 38, 3) := by decide +kernel
theorem dX5_setCold_46 : decode cX5_setCold 46 = .ok (.iload_n 1, 1) := by decide +kernel
theorem dX5_setCold_47 : decode cX5_setCold 47 = .ok (.iaload, 1) := by decide +kernel
theorem dX5_setCold_48 : decode cX5_setCold 48 = .ok (.istore_n 3, 1) := by decide +kernel
theorem dX5_setCold_49 : decode cX5_setCold 49 = .ok (.aload_n 0, 1) := by decide +kernel
theorem dX5_setCold_50 : decode cX5_setCold 50 = .ok (.getfield 10, 3) := by decide +kernel
theorem dX5_setCold_53 : decode cX5_setCold 53 = .ok (.getfield 38, 3) := by decide +kernel
theorem dX5_setCold_56 : decode cX5_setCold 56 = .ok (.iload_n 1, 1) := by decide +kernel
theorem dX5_setCold_57 : decode cX5_setCold 57 = .ok (.iload_n 2, 1) := by decide +kernel
theorem dX5_setCold_58 : decode cX5_setCold 58 = .ok (.iastore, 1) := by decide +kernel
theorem dX5_setCold_59 : decode cX5_setCold 59 = .ok (.iload_n 3, 1) := by decide +kernel
theorem dX5_setCold_60 : decode cX5_setCold 60 = .ok (.ireturn, 1) := by decide +kernel
theorem dX5_setSwan_0 : decode cX5_setSwan 0 = .ok (.iload_n 1, 1) := by decide +kernel
theorem dX5_setSwan_1 : decode cX5_setSwan 1 = .ok (.ifCond .lt 9, 3) := by decide +kernel
theorem dX5_setSwan_4 : decode cX5_setSwan 4 = .ok (.iload_n 1, 1) := by decide +kernel
theorem dX5_setSwan_5 : decode cX5_setSwan 5 = .ok (.bipush 12, 2) := by decide +kernel
theorem dX5_setSwan_7 : decode cX5_setSwan 7 = .ok (.if_icmp .lt 13, 3) := by decide +kernel
theorem dX5_setSwan_10 : decode cX5_setSwan 10 = .ok (.new 26, 3) := by decide +kernel
theorem dX5_setSwan_13 : decode cX5_setSwan 13 = .ok (.dup, 1) := by decide +kernel
theorem dX5_setSwan_14 : decode cX5_setSwan 14 = .ok (.ldc 42, 2) := by decide +kernel
theorem dX5_setSwan_16 : decode cX5_setSwan 16 = .ok (.invokespecial 30, 3) := by decide +kernel
theorem dX5_setSwan_19 : decode cX5_setSwan 19 = .ok (.athrow, 1) := by decide +kernel
theorem dX5_setSwan_20 : decode cX5_setSwan 20 = .ok (.iload_n 2, 1) := by decide +kernel
theorem dX5_setSwan_21 : decode cX5_setSwan 21 = .ok (.iconst (-1), 1) := by decide +kernel
theorem dX5_setSwan_22 : decode cX5_setSwan 22 = .ok (.if_icmp .lt 9, 3) := by decide +kernel
theorem dX5_setSwan_25 : decode cX5_setSwan 25 = .ok (.iload_n 2, 1) := by decide +kernel
theorem dX5_setSwan_26 : decode cX5_setSwan 26 = .ok (.bipush 24, 2) := by decide +kernel
theorem dX5_setSwan_28 : decode cX5_setSwan 28 = .ok (.if_icmp .lt 13, 3) := by decide +kernel
theorem dX5_setSwan_31 : decode cX5_setSwan 31 = .ok (.new 33, 3) := by decide +kernel
theorem dX5_setSwan_34 : decode cX5_setSwan 34 = .ok (.dup, 1) := by decide +kernel
theorem dX5_setSwan_35 : decode cX5_setSwan 35 = .ok (.ldc 44, 2) := by decide +kernel
theorem dX5_setSwan_37 : decode cX5_setSwan 37 = .ok (.invokespecial 37, 3) := by decide +kernel
theorem dX5_setSwan_40 : decode cX5_setSwan 40 = .ok (.athrow, 1) := by decide +kernel
theorem dX5_setSwan_41 : decode cX5_setSwan 41 = .ok (.aload_n 0, 1) := by decide +kernel
theorem dX5_setSwan_42 : decode cX5_setSwan 42 = .ok (.getfield 10, 3) := by decide +kernel
theorem dX5_setSwan_45 : decode cX5_setSwan 45 = .ok (.getfield 46, 3) := by decide +kernel
theorem dX5_setSwan_48 : decode cX5_setSwan 48 = .ok (.iload_n 1, 1) := by decide +kernel
theorem dX5_setSwan_49 : decode cX5_setSwan 49 = .ok (.iaload, 1) := by decide +kernel
theorem dX5_setSwan_50 : decode cX5_setSwan 50 = .ok (.istore_n 3, 1) := by decide +kernel
theorem dX5_setSwan_51 : decode cX5_setSwan 51 = .ok (.aload_n 0, 1) := by decide +kernel
theorem dX5_setSwan_52 : decode cX5_setSwan 52 = .ok (.getfield 10, 3) := by decide +kernel
theorem dX5_setSwan_55 : decode cX5_setSwan 55 = .ok (.getfield 46, 3) := by decide +kernel
theorem dX5_setSwan_58 : decode cX5_setSwan 58 = .ok (.iload_n 1, 1) := by decide +kernel
theorem dX5_setSwan_59 : decode cX5_setSwan 59 = .ok (.iload_n 2, 1) := by decide +kernel
theorem dX5_setSwan_60 : decode cX5_setSwan 60 = .ok (.iastore, 1) := by decide +kernel
theorem dX5_setSwan_61 : decode cX5_setSwan 61 = .ok (.iload_n 3, 1) := by decide +kernel
theorem dX5_setSwan_62 : decode cX5_setSwan 62 = .ok (.ireturn, 1) := by decide +kernel
set_option maxRecDepth 20000 in
theorem ggX5_setFare_X3_fare : GoodIn wsX5_setFare wsX3_fare := goodIn_r _ [7, 8, 9, 13, 14, 15, 16] (by decide +kernel) (by decide +kernel)
set_option maxRecDepth 20000 in
theorem gX5_setFare_X3_fare_n51 : GoodIn wsX5_setFare (wsX3_fare) := ggX5_setFare_X3_fare
theorem dX5_setFare_0 : decode cX5_setFare 0 = .ok (.iload_n 2, 1) := by decide +kernel
theorem dX5_setFare_1 : decode cX5_setFare 1 = .ok (.ifCond .lt 9, 3) := by decide +kernel
theorem dX5_setFare_4 : decode cX5_setFare 4 = .ok (.iload_n 2, 1) := by decide +kernel
theorem dX5_setFare_5 : decode cX5_setFare 5 = .ok (.bipush 9, 2) := by decide +kernel
theorem dX5_setFare_7 : decode cX5_setFare 7 = .ok (.if_icmp .le 13, 3) := by decide +kernel
theorem dX5_setFare_10 : decode cX5_setFare 10 = .ok (.new 33, 3) := by decide +kernel
theorem dX5_setFare_13 : decode cX5_setFare 13 = .ok (.dup, 1) := by decide +kernel
theorem dX5_setFare_14 : decode cX5_setFare 14 = .ok (.ldc 49, 2) := by decide +kernel
theorem dX5_setFare_16 : decode cX5_setFare 16 = .ok (.invokespecial 37, 3) := by decide +kernel
theorem dX5_setFare_19 : decode cX5_setFare 19 = .ok (.athrow, 1) := by decide +kernel
theorem dX5_setFare_20 : decode cX5_setFare 20 = .ok (.aload_n 0, 1) := by decide +kernel
theorem dX5_setFare_21 : decode cX5_setFare 21 = .ok (.getfield 10, 3) := by decide +kernel
theorem dX5_setFare_24 : decode cX5_setFare 24 = .ok (.iload_n 1, 1) := by decide +kernel
theorem dX5_setFare_25 : decode cX5_setFare 25 = .ok (.invokevirtual 51, 3) := by decide +kernel
theorem dX5_setFare_28 : decode cX5_setFare 28 = .ok (.istore_n 3, 1) := by decide +kernel
theorem dX5_setFare_29 : decode cX5_setFare 29 = .ok (.iload_n 1, 1) := by decide +kernel
theorem dX5_setFare_30 : decode cX5_setFare 30 = .ok (.ifCond .eq 14, 3) := by decide +kernel
theorem dX5_setFare_33 : decode cX5_setFare 33 = .ok (.aload_n 0, 1) := by decide +kernel
theorem dX5_setFare_34 : decode cX5_setFare 34 = .ok (.getfield 10, 3) := by decide +kernel
theorem dX5_setFare_37 : decode cX5_setFare 37 = .ok (.iload_n 2, 1) := by decide +kernel
theorem dX5_setFare_38 : decode cX5_setFare 38 = .ok (.putfield 55, 3) := by decide +kernel
theorem dX5_setFare_41 : decode cX5_setFare 41 = .ok (.goto 11, 3) := by decide +kernel
theorem dX5_setFare_44 : decode cX5_setFare 44 = .ok (.aload_n 0, 1) := by decide +kernel
theorem dX5_setFare_45 : decode cX5_setFare 45 = .ok (.getfield 10, 3) := by decide +kernel
theorem dX5_setFare_48 : decode cX5_setFare 48 = .ok (.iload_n 2, 1) := by decide +kernel
theorem dX5_setFare_49 : decode cX5_setFare 49 = .ok (.putfield 59, 3) := by decide +kernel
theorem dX5_setFare_52 : decode cX5_setFare 52 = .ok (.iload_n 3, 1) := by decide +kernel
theorem dX5_setFare_53 : decode cX5_setFare 53 = .ok (.ireturn, 1) := by decide +kernel
set_option maxRecDepth 20000 in
theorem ggX5_bus_X5_checkSpan : GoodIn wsX5_bus wsX5_checkSpan := goodIn_ca (goodIn_r _ [7, 8, 9] (by decide +kernel) (by decide +kernel)) (goodIn_sub (fun _ h => List.mem_cons_of_mem _ (List.mem_append_right _ h)) (by decide +kernel))
set_option maxRecDepth 20000 in
theorem gX5_bus_X5_checkSpan : GoodIn wsX5_bus (va_wsS RX5 62 yX5_checkSpan wsX5_checkSpan) := goodIn_app (goodIn_of _ (by decide +kernel)) ggX5_bus_X5_checkSpan
set_option maxRecDepth 20000 in
theorem ggX5_bus_X0_come : GoodIn wsX5_bus wsX0_come := goodIn_r _ [13, 14, 15, 16, 26, 27, 28, 29, 30, 31] (by decide +kernel) (by decide +kernel)
set_option maxRecDepth 20000 in
theorem gX5_bus_X0_come_n78 : GoodIn wsX5_bus (wsX0_come) := ggX5_bus_X0_come
theorem dX5_bus_0 : decode cX5_bus 0 = .ok (.iload_n 1, 1) := by decide +kernel
theorem dX5_bus_1 : decode cX5_bus 1 = .ok (.invokestatic 62, 3) := by decide +kernel
theorem dX5_bus_4 : decode cX5_bus 4 = .ok (.aload_n 0, 1) := by decide +kernel
theorem dX5_bus_5 : decode cX5_bus 5 = .ok (.getfield 19, 3) := by decide +kernel
theorem dX5_bus_8 : decode cX5_bus 8 = .ok (.getfield 66, 3) := by decide +kernel
theorem dX5_bus_11 : decode cX5_bus 11 = .ok (.bipush 6, 2) := by decide +kernel
theorem dX5_bus_13 : decode cX5_bus 13 = .ok (.if_icmp .lt 13, 3) := by decide +kernel
theorem dX5_bus_16 : decode cX5_bus 16 = .ok (.new 69, 3) := by decide +kernel
theorem dX5_bus_19 : decode cX5_bus 19 = .ok (.dup, 1) := by decide +kernel
theorem dX5_bus_20 : decode cX5_bus 20 = .ok (.ldc 71, 2) := by decide +kernel
theorem dX5_bus_22 : decode cX5_bus 22 = .ok (.invokespecial 73, 3) := by decide +kernel
theorem dX5_bus_25 : decode cX5_bus 25 = .ok (.athrow, 1) := by decide +kernel
theorem dX5_bus_26 : decode cX5_bus 26 = .ok (.aload_n 0, 1) := by decide +kernel
theorem dX5_bus_27 : decode cX5_bus 27 = .ok (.getfield 19, 3) := by decide +kernel
theorem dX5_bus_30 : decode cX5_bus 30 = .ok (.getfield 66, 3) := by decide +kernel
theorem dX5_bus_33 : decode cX5_bus 33 = .ok (.istore_n 3, 1) := by decide +kernel
theorem dX5_bus_34 : decode cX5_bus 34 = .ok (.aload_n 0, 1) := by decide +kernel
theorem dX5_bus_35 : decode cX5_bus 35 = .ok (.getfield 19, 3) := by decide +kernel
theorem dX5_bus_38 : decode cX5_bus 38 = .ok (.getfield 74, 3) := by decide +kernel
theorem dX5_bus_41 : decode cX5_bus 41 = .ok (.iload_n 3, 1) := by decide +kernel
theorem dX5_bus_42 : decode cX5_bus 42 = .ok (.aaload, 1) := by decide +kernel
theorem dX5_bus_43 : decode cX5_bus 43 = .ok (.iload_n 1, 1) := by decide +kernel
theorem dX5_bus_44 : decode cX5_bus 44 = .ok (.iload_n 2, 1) := by decide +kernel
theorem dX5_bus_45 : decode cX5_bus 45 = .ok (.invokevirtual 78, 3) := by decide +kernel
theorem dX5_bus_48 : decode cX5_bus 48 = .ok (.aload_n 0, 1) := by decide +kernel
theorem dX5_bus_49 : decode cX5_bus 49 = .ok (.getfield 19, 3) := by decide +kernel
theorem dX5_bus_52 : decode cX5_bus 52 = .ok (.dup, 1) := by decide +kernel
theorem dX5_bus_53 : decode cX5_bus 53 = .ok (.getfield 66, 3) := by decide +kernel
theorem dX5_bus_56 : decode cX5_bus 56 = .ok (.iconst 1, 1) := by decide +kernel
theorem dX5_bus_57 : decode cX5_bus 57 = .ok (.iadd, 1) := by decide +kernel
theorem dX5_bus_58 : decode cX5_bus 58 = .ok (.putfield 66, 3) := by decide +kernel
theorem dX5_bus_61 : decode cX5_bus 61 = .ok (.iload_n 3, 1) := by decide +kernel
theorem dX5_bus_62 : decode cX5_bus 62 = .ok (.ireturn, 1) := by decide +kernel
set_option maxRecDepth 20000 in
theorem ggX5_park_X5_checkBus : GoodIn wsX5_park wsX5_checkBus := goodIn_ca (goodIn_r _ [6, 7, 8, 1, 9, 10, 11, 12, 13, 14, 15, 16, 17] (by decide +kernel) (by decide +kernel)) (goodIn_sub (fun _ h => List.mem_cons_of_mem _ (List.mem_append_right _ h)) (by decide +kernel))
set_option maxRecDepth 20000 in
theorem gX5_park_X5_checkBus : GoodIn wsX5_park (wsV RX5 84 RX5 yX5_checkBus wsX5_checkBus) := goodIn_app (goodIn_of _ (by decide +kernel)) ggX5_park_X5_checkBus
theorem dX5_park_0 : decode cX5_park 0 = .ok (.aload_n 0, 1) := by decide +kernel
theorem dX5_park_1 : decode cX5_park 1 = .ok (.iload_n 1, 1) := by decide +kernel
theorem dX5_park_2 : decode cX5_park 2 = .ok (.invokevirtual 84, 3) := by decide +kernel
theorem dX5_park_5 : decode cX5_park 5 = .ok (.aload_n 0, 1) := by decide +kernel
theorem dX5_park_6 : decode cX5_park 6 = .ok (.getfield 19, 3) := by decide +kernel
theorem dX5_park_9 : decode cX5_park 9 = .ok (.getfield 74, 3) := by decide +kernel
theorem dX5_park_12 : decode cX5_park 12 = .ok (.iload_n 1, 1) := by decide +kernel
theorem dX5_park_13 : decode cX5_park 13 = .ok (.aaload, 1) := by decide +kernel
theorem dX5_park_14 : decode cX5_park 14 = .ok (.astore_n 2, 1) := by decide +kernel
theorem dX5_park_15 : decode cX5_park 15 = .ok (.aload_n 2, 1) := by decide +kernel
theorem dX5_park_16 : decode cX5_park 16 = .ok (.aload_n 2, 1) := by decide +kernel
theorem dX5_park_17 : decode cX5_park 17 = .ok (.getfield 96, 3) := by decide +kernel
theorem dX5_park_20 : decode cX5_park 20 = .ok (.ifCond .ne 7, 3) := by decide +kernel
theorem dX5_park_23 : decode cX5_park 23 = .ok (.iconst 1, 1) := by decide +kernel
theorem dX5_park_24 : decode cX5_park 24 = .ok (.goto 4, 3) := by decide +kernel
theorem dX5_park_27 : decode cX5_park 27 = .ok (.iconst 0, 1) := by decide +kernel
theorem dX5_park_28 : decode cX5_park 28 = .ok (.putfield 96, 3) := by decide +kernel
theorem dX5_park_31 : decode cX5_park 31 = .ok (.aload_n 2, 1) := by decide +kernel
theorem dX5_park_32 : decode cX5_park 32 = .ok (.getfield 96, 3) := by decide +kernel
theorem dX5_park_35 : decode cX5_park 35 = .ok (.ireturn, 1) := by decide +kernel
set_option maxRecDepth 20000 in
theorem ggX5_told_X5_checkBus : GoodIn wsX5_told wsX5_checkBus := goodIn_ca (goodIn_r _ [6, 7, 8, 1, 24, 25, 26, 27, 28, 29, 30, 31, 32] (by decide +kernel) (by decide +kernel)) (goodIn_sub (fun _ h => List.mem_cons_of_mem _ (List.mem_append_right _ h)) (by decide +kernel))
set_option maxRecDepth 20000 in
theorem gX5_told_X5_checkBus : GoodIn wsX5_told (wsV RX5 84 RX5 yX5_checkBus wsX5_checkBus) := goodIn_app (goodIn_of _ (by decide +kernel)) ggX5_told_X5_checkBus
set_option maxRecDepth 20000 in
theorem ggX5_told_X5_checkWhat : GoodIn wsX5_told wsX5_checkWhat := goodIn_ca (goodIn_r _ [11, 7, 8] (by decide +kernel) (by decide +kernel)) (goodIn_sub (fun _ h => List.mem_cons_of_mem _ (List.mem_append_right _ h)) (by decide +kernel))
set_option maxRecDepth 20000 in
theorem gX5_told_X5_checkWhat : GoodIn wsX5_told (va_wsS RX5 99 yX5_checkWhat wsX5_checkWhat) := goodIn_app (goodIn_of _ (by decide +kernel)) ggX5_told_X5_checkWhat
set_option maxRecDepth 20000 in
theorem ggX5_told_X5_oneIf : GoodIn wsX5_told wsX5_oneIf := goodIn_r _ [14] (by decide +kernel) (by decide +kernel)
set_option maxRecDepth 20000 in
theorem gX5_told_X5_oneIf : GoodIn wsX5_told (va_wsS RX5 103 yX5_oneIf wsX5_oneIf) := goodIn_app (goodIn_of _ (by decide +kernel)) ggX5_told_X5_oneIf
set_option maxRecDepth 20000 in
theorem ggX5_told_X4_spansUpBehind : GoodIn wsX5_told wsX4_spansUpBehind := goodIn_r _ [18, 19, 20, 21, 16, 22, 23, 39, 40] (by decide +kernel) (by decide +kernel)
set_option maxRecDepth 20000 in
theorem gX5_told_X4_spansUpBehind_n119 : GoodIn wsX5_told (wsX4_spansUpBehind) := ggX5_told_X4_spansUpBehind
theorem dX5_told_0 : decode cX5_told 0 = .ok (.aload_n 0, 1) := by decide +kernel
theorem dX5_told_1 : decode cX5_told 1 = .ok (.iload_n 1, 1) := by decide +kernel
theorem dX5_told_2 : decode cX5_told 2 = .ok (.invokevirtual 84, 3) := by decide +kernel
theorem dX5_told_5 : decode cX5_told 5 = .ok (.iload_n 2, 1) := by decide +kernel
theorem dX5_told_6 : decode cX5_told 6 = .ok (.bipush 7, 2) := by decide +kernel
theorem dX5_told_8 : decode cX5_told 8 = .ok (.invokestatic 99, 3) := by decide +kernel
theorem dX5_told_11 : decode cX5_told 11 = .ok (.aload_n 0, 1) := by decide +kernel
theorem dX5_told_12 : decode cX5_told 12 = .ok (.getfield 19, 3) := by decide +kernel
theorem dX5_told_15 : decode cX5_told 15 = .ok (.getfield 74, 3) := by decide +kernel
theorem dX5_told_18 : decode cX5_told 18 = .ok (.iload_n 1, 1) := by decide +kernel
theorem dX5_told_19 : decode cX5_told 19 = .ok (.aaload, 1) := by decide +kernel
theorem dX5_told_20 : decode cX5_told 20 = .ok (.astore_n 3, 1) := by decide +kernel
theorem dX5_told_21 : decode cX5_told 21 = .ok (.iload_n 2, 1) := by decide +kernel
theorem dX5_told_22 : decode cX5_told 22 = .ok (.tableswitch 74 0 5 #[38, 43, 51, 59, 64, 69], 38) := by decide +kernel
theorem dX5_told_60 : decode cX5_told 60 = .ok (.aload_n 3, 1) := by decide +kernel
theorem dX5_told_61 : decode cX5_told 61 = .ok (.getfield 93, 3) := by decide +kernel
theorem dX5_told_64 : decode cX5_told 64 = .ok (.ireturn, 1) := by decide +kernel
theorem dX5_told_65 : decode cX5_told 65 = .ok (.aload_n 3, 1) := by decide +kernel
theorem dX5_told_66 : decode cX5_told 66 = .ok (.getfield 87, 3) := by decide +kernel
theorem dX5_told_69 : decode cX5_told 69 = .ok (.invokestatic 103, 3) := by decide +kernel
theorem dX5_told_72 : decode cX5_told 72 = .ok (.ireturn, 1) := by decide +kernel
theorem dX5_told_73 : decode cX5_told 73 = .ok (.aload_n 3, 1) := by decide +kernel
theorem dX5_told_74 : decode cX5_told 74 = .ok (.getfield 96, 3) := by decide +kernel
theorem dX5_told_77 : decode cX5_told 77 = .ok (.invokestatic 103, 3) := by decide +kernel
theorem dX5_told_80 : decode cX5_told 80 = .ok (.ireturn, 1) := by decide +kernel
theorem dX5_told_81 : decode cX5_told 81 = .ok (.aload_n 3, 1) := by decide +kernel
theorem dX5_told_82 : decode cX5_told 82 = .ok (.getfield 106, 3) := by decide +kernel
theorem dX5_told_85 : decode cX5_told 85 = .ok (.ireturn, 1) := by decide +kernel
theorem dX5_told_86 : decode cX5_told 86 = .ok (.aload_n 3, 1) := by decide +kernel
theorem dX5_told_87 : decode cX5_told 87 = .ok (.getfield 109, 3) := by decide +kernel
theorem dX5_told_90 : decode cX5_told 90 = .ok (.ireturn, 1) := by decide +kernel
theorem dX5_told_91 : decode cX5_told 91 = .ok (.aload_n 3, 1) := by decide +kernel
theorem dX5_told_92 : decode cX5_told 92 = .ok (.getfield 112, 3) := by decide +kernel
theorem dX5_told_95 : decode cX5_told 95 = .ok (.ireturn, 1) := by decide +kernel
theorem dX5_told_96 : decode cX5_told 96 = .ok (.aload_n 0, 1) := by decide +kernel
theorem dX5_told_97 : decode cX5_told 97 = .ok (.getfield 19, 3) := by decide +kernel
theorem dX5_told_100 : decode cX5_told 100 = .ok (.getfield 115, 3) := by decide +kernel
theorem dX5_told_103 : decode cX5_told 103 = .ok (.aload_n 3, 1) := by decide +kernel
theorem dX5_told_104 : decode cX5_told 104 = .ok (.getfield 93, 3) := by decide +kernel
theorem dX5_told_107 : decode cX5_told 107 = .ok (.invokevirtual 119, 3) := by decide +kernel
theorem dX5_told_110 : decode cX5_told 110 = .ok (.ireturn, 1) := by decide +kernel
set_option maxRecDepth 20000 in
theorem ggX5_span_X5_checkSpan : GoodIn wsX5_span wsX5_checkSpan := goodIn_ca (goodIn_r _ [5, 6, 7] (by decide +kernel) (by decide +kernel)) (goodIn_sub (fun _ h => List.mem_cons_of_mem _ (List.mem_append_right _ h)) (by decide +kernel))
set_option maxRecDepth 20000 in
theorem gX5_span_X5_checkSpan : GoodIn wsX5_span (va_wsS RX5 62 yX5_checkSpan wsX5_checkSpan) := goodIn_app (goodIn_of _ (by decide +kernel)) ggX5_span_X5_checkSpan
set_option maxRecDepth 20000 in
theorem ggX5_span_X5_checkWhat : GoodIn wsX5_span wsX5_checkWhat := goodIn_ca (goodIn_r _ [10, 6, 7] (by decide +kernel) (by decide +kernel)) (goodIn_sub (fun _ h => List.mem_cons_of_mem _ (List.mem_append_right _ h)) (by decide +kernel))
set_option maxRecDepth 20000 in
theorem gX5_span_X5_checkWhat : GoodIn wsX5_span (va_wsS RX5 99 yX5_checkWhat wsX5_checkWhat) := goodIn_app (goodIn_of _ (by decide +kernel)) ggX5_span_X5_checkWhat
set_option maxRecDepth 20000 in
theorem ggX5_span_X4_isDown : GoodIn wsX5_span wsX4_isDown := goodIn_r _ [14, 15, 40, 41] (by decide +kernel) (by decide +kernel)
set_option maxRecDepth 20000 in
theorem gX5_span_X4_isDown_n131 : GoodIn wsX5_span (wsX4_isDown) := ggX5_span_X4_isDown
set_option maxRecDepth 20000 in
theorem ggX5_span_X5_oneIf : GoodIn wsX5_span wsX5_oneIf := goodIn_r _ [18] (by decide +kernel) (by decide +kernel)
set_option maxRecDepth 20000 in
theorem gX5_span_X5_oneIf : GoodIn wsX5_span (va_wsS RX5 103 yX5_oneIf wsX5_oneIf) := goodIn_app (goodIn_of _ (by decide +kernel)) ggX5_span_X5_oneIf
set_option maxRecDepth 20000 in
theorem ggX5_span_X2_busesAt : GoodIn wsX5_span wsX2_busesAt := goodIn_r _ [22, 23, 24, 17, 4, 18, 34, 35, 36, 37, 38, 39, 42, 43, 44, 45, 46, 47] (by decide +kernel) (by decide +kernel)
set_option maxRecDepth 20000 in
theorem gX5_span_X2_busesAt_n135 : GoodIn wsX5_span (wsX2_busesAt) := ggX5_span_X2_busesAt
set_option maxRecDepth 20000 in
theorem ggX5_span_X1_placeOf : GoodIn wsX5_span wsX1_placeOf := goodIn_r _ [28, 29, 30, 48, 49, 50, 51, 52, 53] (by decide +kernel) (by decide +kernel)
set_option maxRecDepth 20000 in
theorem gX5_span_X1_placeOf_n142 : GoodIn wsX5_span (wsX1_placeOf) := ggX5_span_X1_placeOf
theorem dX5_span_0 : decode cX5_span 0 = .ok (.iload_n 1, 1) := by decide +kernel
theorem dX5_span_1 : decode cX5_span 1 = .ok (.invokestatic 62, 3) := by decide +kernel
theorem dX5_span_4 : decode cX5_span 4 = .ok (.iload_n 2, 1) := by decide +kernel
theorem dX5_span_5 : decode cX5_span 5 = .ok (.iconst 5, 1) := by decide +kernel
theorem dX5_span_6 : decode cX5_span 6 = .ok (.invokestatic 99, 3) := by decide +kernel
theorem dX5_span_9 : decode cX5_span 9 = .ok (.iload_n 2, 1) := by decide +kernel
theorem dX5_span_10 : decode cX5_span 10 = .ok (.tableswitch 80 0 3 #[30, 43, 56, 71], 30) := by decide +kernel
theorem dX5_span_40 : decode cX5_span 40 = .ok (.aload_n 0, 1) := by decide +kernel
theorem dX5_span_41 : decode cX5_span 41 = .ok (.getfield 19, 3) := by decide +kernel
theorem dX5_span_44 : decode cX5_span 44 = .ok (.getfield 115, 3) := by decide +kernel
theorem dX5_span_47 : decode cX5_span 47 = .ok (.getfield 125, 3) := by decide +kernel
theorem dX5_span_50 : decode cX5_span 50 = .ok (.iload_n 1, 1) := by decide +kernel
theorem dX5_span_51 : decode cX5_span 51 = .ok (.iaload, 1) := by decide +kernel
theorem dX5_span_52 : decode cX5_span 52 = .ok (.ireturn, 1) := by decide +kernel
theorem dX5_span_53 : decode cX5_span 53 = .ok (.aload_n 0, 1) := by decide +kernel
theorem dX5_span_54 : decode cX5_span 54 = .ok (.getfield 19, 3) := by decide +kernel
theorem dX5_span_57 : decode cX5_span 57 = .ok (.getfield 115, 3) := by decide +kernel
theorem dX5_span_60 : decode cX5_span 60 = .ok (.getfield 128, 3) := by decide +kernel
theorem dX5_span_63 : decode cX5_span 63 = .ok (.iload_n 1, 1) := by decide +kernel
theorem dX5_span_64 : decode cX5_span 64 = .ok (.iaload, 1) := by decide +kernel
theorem dX5_span_65 : decode cX5_span 65 = .ok (.ireturn, 1) := by decide +kernel
theorem dX5_span_66 : decode cX5_span 66 = .ok (.aload_n 0, 1) := by decide +kernel
theorem dX5_span_67 : decode cX5_span 67 = .ok (.getfield 19, 3) := by decide +kernel
theorem dX5_span_70 : decode cX5_span 70 = .ok (.getfield 115, 3) := by decide +kernel
theorem dX5_span_73 : decode cX5_span 73 = .ok (.iload_n 1, 1) := by decide +kernel
theorem dX5_span_74 : decode cX5_span 74 = .ok (.invokevirtual 131, 3) := by decide +kernel
theorem dX5_span_77 : decode cX5_span 77 = .ok (.invokestatic 103, 3) := by decide +kernel
theorem dX5_span_80 : decode cX5_span 80 = .ok (.ireturn, 1) := by decide +kernel
theorem dX5_span_81 : decode cX5_span 81 = .ok (.aload_n 0, 1) := by decide +kernel
theorem dX5_span_82 : decode cX5_span 82 = .ok (.getfield 19, 3) := by decide +kernel
theorem dX5_span_85 : decode cX5_span 85 = .ok (.iload_n 1, 1) := by decide +kernel
theorem dX5_span_86 : decode cX5_span 86 = .ok (.invokevirtual 135, 3) := by decide +kernel
theorem dX5_span_89 : decode cX5_span 89 = .ok (.ireturn, 1) := by decide +kernel
theorem dX5_span_90 : decode cX5_span 90 = .ok (.aload_n 0, 1) := by decide +kernel
theorem dX5_span_91 : decode cX5_span 91 = .ok (.getfield 19, 3) := by decide +kernel
theorem dX5_span_94 : decode cX5_span 94 = .ok (.getfield 138, 3) := by decide +kernel
theorem dX5_span_97 : decode cX5_span 97 = .ok (.iload_n 1, 1) := by decide +kernel
theorem dX5_span_98 : decode cX5_span 98 = .ok (.invokevirtual 142, 3) := by decide +kernel
theorem dX5_span_101 : decode cX5_span 101 = .ok (.ireturn, 1) := by decide +kernel
set_option maxRecDepth 20000 in
theorem ggX5_order_X5_checkSpan : GoodIn wsX5_order wsX5_checkSpan := goodIn_ca (goodIn_r _ [7, 8, 9] (by decide +kernel) (by decide +kernel)) (goodIn_sub (fun _ h => List.mem_cons_of_mem _ (List.mem_append_right _ h)) (by decide +kernel))
set_option maxRecDepth 20000 in
theorem gX5_order_X5_checkSpan : GoodIn wsX5_order (va_wsS RX5 62 yX5_checkSpan wsX5_checkSpan) := goodIn_app (goodIn_of _ (by decide +kernel)) ggX5_order_X5_checkSpan
set_option maxRecDepth 20000 in
theorem ggX5_order_X1_placeOf : GoodIn wsX5_order wsX1_placeOf := goodIn_r _ [13, 14, 15, 25, 26, 27, 28, 29, 30] (by decide +kernel) (by decide +kernel)
set_option maxRecDepth 20000 in
theorem gX5_order_X1_placeOf_n142 : GoodIn wsX5_order (wsX1_placeOf) := ggX5_order_X1_placeOf
theorem dX5_order_0 : decode cX5_order 0 = .ok (.iload_n 1, 1) := by decide +kernel
theorem dX5_order_1 : decode cX5_order 1 = .ok (.invokestatic 62, 3) := by decide +kernel
theorem dX5_order_4 : decode cX5_order 4 = .ok (.aload_n 0, 1) := by decide +kernel
theorem dX5_order_5 : decode cX5_order 5 = .ok (.getfield 19, 3) := by decide +kernel
theorem dX5_order_8 : decode cX5_order 8 = .ok (.getfield 138, 3) := by decide +kernel
theorem dX5_order_11 : decode cX5_order 11 = .ok (.getfield 147, 3) := by decide +kernel
theorem dX5_order_14 : decode cX5_order 14 = .ok (.bipush 6, 2) := by decide +kernel
theorem dX5_order_16 : decode cX5_order 16 = .ok (.if_icmp .lt 13, 3) := by decide +kernel
theorem dX5_order_19 : decode cX5_order 19 = .ok (.new 69, 3) := by decide +kernel
theorem dX5_order_22 : decode cX5_order 22 = .ok (.dup, 1) := by decide +kernel
theorem dX5_order_23 : decode cX5_order 23 = .ok (.ldc 150, 2) := by decide +kernel
theorem dX5_order_25 : decode cX5_order 25 = .ok (.invokespecial 73, 3) := by decide +kernel
theorem dX5_order_28 : decode cX5_order 28 = .ok (.athrow, 1) := by decide +kernel
theorem dX5_order_29 : decode cX5_order 29 = .ok (.aload_n 0, 1) := by decide +kernel
theorem dX5_order_30 : decode cX5_order 30 = .ok (.getfield 19, 3) := by decide +kernel
theorem dX5_order_33 : decode cX5_order 33 = .ok (.getfield 138, 3) := by decide +kernel
theorem dX5_order_36 : decode cX5_order 36 = .ok (.iload_n 1, 1) := by decide +kernel
theorem dX5_order_37 : decode cX5_order 37 = .ok (.invokevirtual 142, 3) := by decide +kernel
theorem dX5_order_40 : decode cX5_order 40 = .ok (.iconst (-1), 1) := by decide +kernel
theorem dX5_order_41 : decode cX5_order 41 = .ok (.if_icmp .eq 13, 3) := by decide +kernel
theorem dX5_order_44 : decode cX5_order 44 = .ok (.new 69, 3) := by decide +kernel
theorem dX5_order_47 : decode cX5_order 47 = .ok (.dup, 1) := by decide +kernel
theorem dX5_order_48 : decode cX5_order 48 = .ok (.ldc 152, 2) := by decide +kernel
theorem dX5_order_50 : decode cX5_order 50 = .ok (.invokespecial 73, 3) := by decide +kernel
theorem dX5_order_53 : decode cX5_order 53 = .ok (.athrow, 1) := by decide +kernel
theorem dX5_order_54 : decode cX5_order 54 = .ok (.aload_n 0, 1) := by decide +kernel
theorem dX5_order_55 : decode cX5_order 55 = .ok (.getfield 19, 3) := by decide +kernel
theorem dX5_order_58 : decode cX5_order 58 = .ok (.getfield 138, 3) := by decide +kernel
theorem dX5_order_61 : decode cX5_order 61 = .ok (.getfield 154, 3) := by decide +kernel
theorem dX5_order_64 : decode cX5_order 64 = .ok (.aload_n 0, 1) := by decide +kernel
theorem dX5_order_65 : decode cX5_order 65 = .ok (.getfield 19, 3) := by decide +kernel
theorem dX5_order_68 : decode cX5_order 68 = .ok (.getfield 138, 3) := by decide +kernel
theorem dX5_order_71 : decode cX5_order 71 = .ok (.getfield 147, 3) := by decide +kernel
theorem dX5_order_74 : decode cX5_order 74 = .ok (.iload_n 1, 1) := by decide +kernel
theorem dX5_order_75 : decode cX5_order 75 = .ok (.iastore, 1) := by decide +kernel
theorem dX5_order_76 : decode cX5_order 76 = .ok (.aload_n 0, 1) := by decide +kernel
theorem dX5_order_77 : decode cX5_order 77 = .ok (.getfield 19, 3) := by decide +kernel
theorem dX5_order_80 : decode cX5_order 80 = .ok (.getfield 138, 3) := by decide +kernel
theorem dX5_order_83 : decode cX5_order 83 = .ok (.dup, 1) := by decide +kernel
theorem dX5_order_84 : decode cX5_order 84 = .ok (.getfield 147, 3) := by decide +kernel
theorem dX5_order_87 : decode cX5_order 87 = .ok (.iconst 1, 1) := by decide +kernel
theorem dX5_order_88 : decode cX5_order 88 = .ok (.iadd, 1) := by decide +kernel
theorem dX5_order_89 : decode cX5_order 89 = .ok (.putfield 147, 3) := by decide +kernel
theorem dX5_order_92 : decode cX5_order 92 = .ok (.aload_n 0, 1) := by decide +kernel
theorem dX5_order_93 : decode cX5_order 93 = .ok (.getfield 19, 3) := by decide +kernel
theorem dX5_order_96 : decode cX5_order 96 = .ok (.getfield 138, 3) := by decide +kernel
theorem dX5_order_99 : decode cX5_order 99 = .ok (.getfield 147, 3) := by decide +kernel
theorem dX5_order_102 : decode cX5_order 102 = .ok (.ireturn, 1) := by decide +kernel
set_option maxRecDepth 20000 in
theorem ggX5_cancel_X5_checkSpan : GoodIn wsX5_cancel wsX5_checkSpan := goodIn_ca (goodIn_r _ [7, 8, 9] (by decide +kernel) (by decide +kernel)) (goodIn_sub (fun _ h => List.mem_cons_of_mem _ (List.mem_append_right _ h)) (by decide +kernel))
set_option maxRecDepth 20000 in
theorem gX5_cancel_X5_checkSpan : GoodIn wsX5_cancel (va_wsS RX5 62 yX5_checkSpan wsX5_checkSpan) := goodIn_app (goodIn_of _ (by decide +kernel)) ggX5_cancel_X5_checkSpan
set_option maxRecDepth 20000 in
theorem ggX5_cancel_X1_placeOf : GoodIn wsX5_cancel wsX1_placeOf := goodIn_r _ [13, 14, 15, 29, 30, 31, 32, 33, 34] (by decide +kernel) (by decide +kernel)
set_option maxRecDepth 20000 in
theorem gX5_cancel_X1_placeOf_n142 : GoodIn wsX5_cancel (wsX1_placeOf) := ggX5_cancel_X1_placeOf
set_option maxRecDepth 20000 in
theorem ggX5_cancel_X1_takeOut : GoodIn wsX5_cancel wsX1_takeOut := goodIn_r _ [18, 14, 15, 19, 29, 30, 31, 32, 33, 34] (by decide +kernel) (by decide +kernel)
set_option maxRecDepth 20000 in
theorem gX5_cancel_X1_takeOut_n159 : GoodIn wsX5_cancel (wsX1_takeOut) := ggX5_cancel_X1_takeOut
theorem dX5_cancel_0 : decode cX5_cancel 0 = .ok (.iload_n 1, 1) := by decide +kernel
theorem dX5_cancel_1 : decode cX5_cancel 1 = .ok (.invokestatic 62, 3) := by decide +kernel
theorem dX5_cancel_4 : decode cX5_cancel 4 = .ok (.aload_n 0, 1) := by decide +kernel
theorem dX5_cancel_5 : decode cX5_cancel 5 = .ok (.getfield 19, 3) := by decide +kernel
theorem dX5_cancel_8 : decode cX5_cancel 8 = .ok (.getfield 138, 3) := by decide +kernel
theorem dX5_cancel_11 : decode cX5_cancel 11 = .ok (.iload_n 1, 1) := by decide +kernel
theorem dX5_cancel_12 : decode cX5_cancel 12 = .ok (.invokevirtual 142, 3) := by decide +kernel
theorem dX5_cancel_15 : decode cX5_cancel 15 = .ok (.istore_n 2, 1) := by decide +kernel
theorem dX5_cancel_16 : decode cX5_cancel 16 = .ok (.iload_n 2, 1) := by decide +kernel
theorem dX5_cancel_17 : decode cX5_cancel 17 = .ok (.iconst (-1), 1) := by decide +kernel
theorem dX5_cancel_18 : decode cX5_cancel 18 = .ok (.if_icmp .ne 13, 3) := by decide +kernel
theorem dX5_cancel_21 : decode cX5_cancel 21 = .ok (.new 69, 3) := by decide +kernel
theorem dX5_cancel_24 : decode cX5_cancel 24 = .ok (.dup, 1) := by decide +kernel
theorem dX5_cancel_25 : decode cX5_cancel 25 = .ok (.ldc 157, 2) := by decide +kernel
theorem dX5_cancel_27 : decode cX5_cancel 27 = .ok (.invokespecial 73, 3) := by decide +kernel
theorem dX5_cancel_30 : decode cX5_cancel 30 = .ok (.athrow, 1) := by decide +kernel
theorem dX5_cancel_31 : decode cX5_cancel 31 = .ok (.aload_n 0, 1) := by decide +kernel
theorem dX5_cancel_32 : decode cX5_cancel 32 = .ok (.getfield 19, 3) := by decide +kernel
theorem dX5_cancel_35 : decode cX5_cancel 35 = .ok (.getfield 138, 3) := by decide +kernel
theorem dX5_cancel_38 : decode cX5_cancel 38 = .ok (.iload_n 2, 1) := by decide +kernel
theorem dX5_cancel_39 : decode cX5_cancel 39 = .ok (.invokevirtual 159, 3) := by decide +kernel
theorem dX5_cancel_42 : decode cX5_cancel 42 = .ok (.iload_n 2, 1) := by decide +kernel
theorem dX5_cancel_43 : decode cX5_cancel 43 = .ok (.ireturn, 1) := by decide +kernel
set_option maxRecDepth 20000 in
theorem ggX5_gang_X5_checkWhat : GoodIn wsX5_gang wsX5_checkWhat := goodIn_ca (goodIn_r _ [5, 6, 7] (by decide +kernel) (by decide +kernel)) (goodIn_sub (fun _ h => List.mem_cons_of_mem _ (List.mem_append_right _ h)) (by decide +kernel))
set_option maxRecDepth 20000 in
theorem gX5_gang_X5_checkWhat : GoodIn wsX5_gang (va_wsS RX5 99 yX5_checkWhat wsX5_checkWhat) := goodIn_app (goodIn_of _ (by decide +kernel)) ggX5_gang_X5_checkWhat
set_option maxRecDepth 20000 in
theorem ggX5_gang_X1_hoursToFirst : GoodIn wsX5_gang wsX1_hoursToFirst := goodIn_r _ [11, 12, 13, 14, 15, 16, 17, 18, 19, 9, 20, 21, 22, 32, 33, 34, 35, 36, 37] (by decide +kernel) (by decide +kernel)
set_option maxRecDepth 20000 in
theorem gX5_gang_X1_hoursToFirst_n172 : GoodIn wsX5_gang (wsX1_hoursToFirst) := ggX5_gang_X1_hoursToFirst
theorem dX5_gang_0 : decode cX5_gang 0 = .ok (.iload_n 1, 1) := by decide +kernel
theorem dX5_gang_1 : decode cX5_gang 1 = .ok (.bipush 7, 2) := by decide +kernel
theorem dX5_gang_3 : decode cX5_gang 3 = .ok (.invokestatic 99, 3) := by decide +kernel
theorem dX5_gang_6 : decode cX5_gang 6 = .ok (.aload_n 0, 1) := by decide +kernel
theorem dX5_gang_7 : decode cX5_gang 7 = .ok (.getfield 19, 3) := by decide +kernel
theorem dX5_gang_10 : decode cX5_gang 10 = .ok (.getfield 138, 3) := by decide +kernel
theorem dX5_gang_13 : decode cX5_gang 13 = .ok (.astore_n 2, 1) := by decide +kernel
theorem dX5_gang_14 : decode cX5_gang 14 = .ok (.iload_n 1, 1) := by decide +kernel
theorem dX5_gang_15 : decode cX5_gang 15 = .ok (.tableswitch 80 0 5 #[37, 42, 60, 65, 70, 75], 37) := by decide +kernel
theorem dX5_gang_52 : decode cX5_gang 52 = .ok (.aload_n 2, 1) := by decide +kernel
theorem dX5_gang_53 : decode cX5_gang 53 = .ok (.getfield 162, 3) := by decide +kernel
theorem dX5_gang_56 : decode cX5_gang 56 = .ok (.ireturn, 1) := by decide +kernel
theorem dX5_gang_57 : decode cX5_gang 57 = .ok (.aload_n 2, 1) := by decide +kernel
theorem dX5_gang_58 : decode cX5_gang 58 = .ok (.getfield 147, 3) := by decide +kernel
theorem dX5_gang_61 : decode cX5_gang 61 = .ok (.ifCond .le 12, 3) := by decide +kernel
theorem dX5_gang_64 : decode cX5_gang 64 = .ok (.aload_n 2, 1) := by decide +kernel
theorem dX5_gang_65 : decode cX5_gang 65 = .ok (.getfield 154, 3) := by decide +kernel
theorem dX5_gang_68 : decode cX5_gang 68 = .ok (.iconst 0, 1) := by decide +kernel
theorem dX5_gang_69 : decode cX5_gang 69 = .ok (.iaload, 1) := by decide +kernel
theorem dX5_gang_70 : decode cX5_gang 70 = .ok (.goto 4, 3) := by decide +kernel
theorem dX5_gang_73 : decode cX5_gang 73 = .ok (.iconst (-1), 1) := by decide +kernel
theorem dX5_gang_74 : decode cX5_gang 74 = .ok (.ireturn, 1) := by decide +kernel
theorem dX5_gang_75 : decode cX5_gang 75 = .ok (.aload_n 2, 1) := by decide +kernel
theorem dX5_gang_76 : decode cX5_gang 76 = .ok (.getfield 147, 3) := by decide +kernel
theorem dX5_gang_79 : decode cX5_gang 79 = .ok (.ireturn, 1) := by decide +kernel
theorem dX5_gang_80 : decode cX5_gang 80 = .ok (.aload_n 2, 1) := by decide +kernel
theorem dX5_gang_81 : decode cX5_gang 81 = .ok (.getfield 163, 3) := by decide +kernel
theorem dX5_gang_84 : decode cX5_gang 84 = .ok (.ireturn, 1) := by decide +kernel
theorem dX5_gang_85 : decode cX5_gang 85 = .ok (.aload_n 2, 1) := by decide +kernel
theorem dX5_gang_86 : decode cX5_gang 86 = .ok (.getfield 166, 3) := by decide +kernel
theorem dX5_gang_89 : decode cX5_gang 89 = .ok (.ireturn, 1) := by decide +kernel
theorem dX5_gang_90 : decode cX5_gang 90 = .ok (.aload_n 2, 1) := by decide +kernel
theorem dX5_gang_91 : decode cX5_gang 91 = .ok (.getfield 169, 3) := by decide +kernel
theorem dX5_gang_94 : decode cX5_gang 94 = .ok (.ireturn, 1) := by decide +kernel
theorem dX5_gang_95 : decode cX5_gang 95 = .ok (.aload_n 2, 1) := by decide +kernel
theorem dX5_gang_96 : decode cX5_gang 96 = .ok (.invokevirtual 172, 3) := by decide +kernel
theorem dX5_gang_99 : decode cX5_gang 99 = .ok (.ireturn, 1) := by decide +kernel
set_option maxRecDepth 20000 in
theorem ggX5_count_X5_checkWhat : GoodIn wsX5_count wsX5_checkWhat := goodIn_ca (goodIn_r _ [5, 6, 7] (by decide +kernel) (by decide +kernel)) (goodIn_sub (fun _ h => List.mem_cons_of_mem _ (List.mem_append_right _ h)) (by decide +kernel))
set_option maxRecDepth 20000 in
theorem gX5_count_X5_checkWhat : GoodIn wsX5_count (va_wsS RX5 99 yX5_checkWhat wsX5_checkWhat) := goodIn_app (goodIn_of _ (by decide +kernel)) ggX5_count_X5_checkWhat
set_option maxRecDepth 20000 in
theorem ggX5_count_X2_tally : GoodIn wsX5_count wsX2_tally := goodIn_r _ [11, 12, 13, 14, 15, 16, 4, 17, 18, 19, 20, 21, 22, 23, 24, 25, 26, 9, 27, 28, 29, 30, 31, 32, 33, 34, 35, 36, 37, 38, 39, 40, 41, 42, 43, 44, 45, 46, 47, 48, 52, 53, 54, 55, 56, 57, 58, 59, 60, 61, 62, 63, 64, 65] (by decide +kernel) (by decide +kernel)
set_option maxRecDepth 20000 in
theorem gX5_count_X2_tally_n176 : GoodIn wsX5_count (wsX2_tally) := ggX5_count_X2_tally
theorem dX5_count_0 : decode cX5_count 0 = .ok (.iload_n 1, 1) := by decide +kernel
theorem dX5_count_1 : decode cX5_count 1 = .ok (.bipush 9, 2) := by decide +kernel
theorem dX5_count_3 : decode cX5_count 3 = .ok (.invokestatic 99, 3) := by decide +kernel
theorem dX5_count_6 : decode cX5_count 6 = .ok (.aload_n 0, 1) := by decide +kernel
theorem dX5_count_7 : decode cX5_count 7 = .ok (.getfield 19, 3) := by decide +kernel
theorem dX5_count_10 : decode cX5_count 10 = .ok (.iload_n 1, 1) := by decide +kernel
theorem dX5_count_11 : decode cX5_count 11 = .ok (.invokevirtual 176, 3) := by decide +kernel
theorem dX5_count_14 : decode cX5_count 14 = .ok (.ireturn, 1) := by decide +kernel
set_option maxRecDepth 20000 in
theorem ggX5_pass_X5_checkHours : GoodIn wsX5_pass wsX5_checkHours := goodIn_ca (goodIn_r _ [6, 7, 8] (by decide +kernel) (by decide +kernel)) (goodIn_sub (fun _ h => List.mem_cons_of_mem _ (List.mem_append_right _ h)) (by decide +kernel))
set_option maxRecDepth 20000 in
theorem gX5_pass_X5_checkHours : GoodIn wsX5_pass (va_wsS RX5 179 yX5_checkHours wsX5_checkHours) := goodIn_app (goodIn_of _ (by decide +kernel)) ggX5_pass_X5_checkHours
set_option maxRecDepth 20000 in
theorem ggX5_pass_X2_letGoBy : GoodIn wsX5_pass wsX2_letGoBy := goodIn_r _ [12, 13, 14, 15, 10, 16, 17, 18, 19, 20, 21, 5, 22, 23, 24, 25, 26, 27, 28, 29, 30, 31, 32, 33, 34, 35, 36, 37, 38, 39, 40, 41, 42, 43, 44, 45, 46, 47, 48, 49, 50, 51, 52, 53, 54, 55, 56, 57, 58, 59, 60, 61, 62, 63, 64, 65, 66, 67, 68, 69, 70, 71, 72, 73, 74, 75, 76, 77, 78, 79, 80, 81, 82, 83, 84, 85, 86, 87, 88, 89, 90, 91, 92, 93, 94, 95, 99, 100, 101, 102, 103, 104, 105, 106, 107, 108, 109, 110, 111, 112, 113, 114, 115, 116, 117, 118, 119, 120, 121, 122] (by decide +kernel) (by decide +kernel)
set_option maxRecDepth 20000 in
theorem gX5_pass_X2_letGoBy_n185 : GoodIn wsX5_pass (wsX2_letGoBy) := ggX5_pass_X2_letGoBy
theorem dX5_pass_0 : decode cX5_pass 0 = .ok (.iload_n 1, 1) := by decide +kernel
theorem dX5_pass_1 : decode cX5_pass 1 = .ok (.bipush 72, 2) := by decide +kernel
theorem dX5_pass_3 : decode cX5_pass 3 = .ok (.invokestatic 179, 3) := by decide +kernel
theorem dX5_pass_6 : decode cX5_pass 6 = .ok (.aload_n 0, 1) := by decide +kernel
theorem dX5_pass_7 : decode cX5_pass 7 = .ok (.getfield 19, 3) := by decide +kernel
theorem dX5_pass_10 : decode cX5_pass 10 = .ok (.getfield 182, 3) := by decide +kernel
theorem dX5_pass_13 : decode cX5_pass 13 = .ok (.istore_n 2, 1) := by decide +kernel
theorem dX5_pass_14 : decode cX5_pass 14 = .ok (.aload_n 0, 1) := by decide +kernel
theorem dX5_pass_15 : decode cX5_pass 15 = .ok (.getfield 19, 3) := by decide +kernel
theorem dX5_pass_18 : decode cX5_pass 18 = .ok (.iload_n 1, 1) := by decide +kernel
theorem dX5_pass_19 : decode cX5_pass 19 = .ok (.aload_n 0, 1) := by decide +kernel
theorem dX5_pass_20 : decode cX5_pass 20 = .ok (.getfield 10, 3) := by decide +kernel
theorem dX5_pass_23 : decode cX5_pass 23 = .ok (.invokevirtual 185, 3) := by decide +kernel
theorem dX5_pass_26 : decode cX5_pass 26 = .ok (.aload_n 0, 1) := by decide +kernel
theorem dX5_pass_27 : decode cX5_pass 27 = .ok (.getfield 19, 3) := by decide +kernel
theorem dX5_pass_30 : decode cX5_pass 30 = .ok (.getfield 182, 3) := by decide +kernel
theorem dX5_pass_33 : decode cX5_pass 33 = .ok (.iload_n 2, 1) := by decide +kernel
theorem dX5_pass_34 : decode cX5_pass 34 = .ok (.isub, 1) := by decide +kernel
theorem dX5_pass_35 : decode cX5_pass 35 = .ok (.ireturn, 1) := by decide +kernel
set_option maxRecDepth 20000 in
theorem ggX5_falls_X5_checkSpan : GoodIn wsX5_falls wsX5_checkSpan := goodIn_ca (goodIn_r _ [7, 8, 9] (by decide +kernel) (by decide +kernel)) (goodIn_sub (fun _ h => List.mem_cons_of_mem _ (List.mem_append_right _ h)) (by decide +kernel))
set_option maxRecDepth 20000 in
theorem gX5_falls_X5_checkSpan : GoodIn wsX5_falls (va_wsS RX5 62 yX5_checkSpan wsX5_checkSpan) := goodIn_app (goodIn_of _ (by decide +kernel)) ggX5_falls_X5_checkSpan
set_option maxRecDepth 20000 in
theorem ggX5_falls_X2_copyFrom : GoodIn wsX5_falls wsX2_copyFrom := goodIn_r _ [13, 14, 15, 16, 17, 18, 19, 20, 21, 22, 23, 24, 25, 26, 27, 28, 29, 30, 31, 32, 33, 34, 35, 36, 37, 38, 39, 40, 41, 42, 43, 44, 45, 46, 47, 48, 49, 50, 126, 127, 128, 129, 130, 131, 132, 133, 134, 135, 136, 137, 138, 139, 140, 141, 142, 143, 144, 145] (by decide +kernel) (by decide +kernel)
set_option maxRecDepth 20000 in
theorem gX5_falls_X2_copyFrom_n189 : GoodIn wsX5_falls (wsX2_copyFrom) := ggX5_falls_X2_copyFrom
set_option maxRecDepth 20000 in
theorem ggX5_falls_X4_isDown : GoodIn wsX5_falls wsX4_isDown := goodIn_r _ [53, 24, 132, 133] (by decide +kernel) (by decide +kernel)
set_option maxRecDepth 20000 in
theorem gX5_falls_X4_isDown_n131 : GoodIn wsX5_falls (wsX4_isDown) := ggX5_falls_X4_isDown
set_option maxRecDepth 20000 in
theorem ggX5_falls_X2_letGoBy : GoodIn wsX5_falls wsX2_letGoBy := goodIn_r _ [56, 57, 58, 59, 11, 60, 18, 14, 16, 17, 61, 6, 62, 63, 64, 65, 66, 67, 68, 21, 69, 70, 29, 71, 72, 73, 74, 75, 76, 77, 78, 79, 80, 81, 82, 83, 84, 51, 52, 53, 24, 85, 86, 87, 88, 89, 90, 91, 92, 93, 94, 95, 96, 97, 19, 98, 99, 100, 101, 15, 102, 31, 103, 104, 105, 37, 106, 107, 108, 109, 34, 110, 111, 112, 113, 114, 115, 116, 117, 118, 119, 120, 121, 122, 36, 38, 126, 127, 128, 129, 130, 131, 146, 147, 148, 149, 132, 133, 140, 141, 142, 143, 144, 145, 134, 135, 136, 137, 138, 139] (by decide +kernel) (by decide +kernel)
set_option maxRecDepth 20000 in
theorem gX5_falls_X2_letGoBy_n185 : GoodIn wsX5_falls (wsX2_letGoBy) := ggX5_falls_X2_letGoBy
theorem dX5_falls_0 : decode cX5_falls 0 = .ok (.iload_n 1, 1) := by decide +kernel
theorem dX5_falls_1 : decode cX5_falls 1 = .ok (.invokestatic 62, 3) := by decide +kernel
theorem dX5_falls_4 : decode cX5_falls 4 = .ok (.aload_n 0, 1) := by decide +kernel
theorem dX5_falls_5 : decode cX5_falls 5 = .ok (.getfield 23, 3) := by decide +kernel
theorem dX5_falls_8 : decode cX5_falls 8 = .ok (.aload_n 0, 1) := by decide +kernel
theorem dX5_falls_9 : decode cX5_falls 9 = .ok (.getfield 19, 3) := by decide +kernel
theorem dX5_falls_12 : decode cX5_falls 12 = .ok (.invokevirtual 189, 3) := by decide +kernel
theorem dX5_falls_15 : decode cX5_falls 15 = .ok (.iconst 0, 1) := by decide +kernel
theorem dX5_falls_16 : decode cX5_falls 16 = .ok (.istore_n 2, 1) := by decide +kernel
theorem dX5_falls_17 : decode cX5_falls 17 = .ok (.iload_n 2, 1) := by decide +kernel
theorem dX5_falls_18 : decode cX5_falls 18 = .ok (.bipush 96, 2) := by decide +kernel
theorem dX5_falls_20 : decode cX5_falls 20 = .ok (.if_icmp .gt 37, 3) := by decide +kernel
theorem dX5_falls_23 : decode cX5_falls 23 = .ok (.aload_n 0, 1) := by decide +kernel
theorem dX5_falls_24 : decode cX5_falls 24 = .ok (.getfield 23, 3) := by decide +kernel
theorem dX5_falls_27 : decode cX5_falls 27 = .ok (.getfield 115, 3) := by decide +kernel
theorem dX5_falls_30 : decode cX5_falls 30 = .ok (.iload_n 1, 1) := by decide +kernel
theorem dX5_falls_31 : decode cX5_falls 31 = .ok (.invokevirtual 131, 3) := by decide +kernel
theorem dX5_falls_34 : decode cX5_falls 34 = .ok (.ifCond .eq 5, 3) := by decide +kernel
theorem dX5_falls_37 : decode cX5_falls 37 = .ok (.iload_n 2, 1) := by decide +kernel
theorem dX5_falls_38 : decode cX5_falls 38 = .ok (.ireturn, 1) := by decide +kernel
theorem dX5_falls_39 : decode cX5_falls 39 = .ok (.aload_n 0, 1) := by decide +kernel
theorem dX5_falls_40 : decode cX5_falls 40 = .ok (.getfield 23, 3) := by decide +kernel
theorem dX5_falls_43 : decode cX5_falls 43 = .ok (.iconst 1, 1) := by decide +kernel
theorem dX5_falls_44 : decode cX5_falls 44 = .ok (.aload_n 0, 1) := by decide +kernel
theorem dX5_falls_45 : decode cX5_falls 45 = .ok (.getfield 10, 3) := by decide +kernel
theorem dX5_falls_48 : decode cX5_falls 48 = .ok (.invokevirtual 185, 3) := by decide +kernel
theorem dX5_falls_51 : decode cX5_falls 51 = .ok (.iinc 2 1, 3) := by decide +kernel
theorem dX5_falls_54 : decode cX5_falls 54 = .ok (.goto (-37), 3) := by decide +kernel
theorem dX5_falls_57 : decode cX5_falls 57 = .ok (.iconst (-1), 1) := by decide +kernel
theorem dX5_falls_58 : decode cX5_falls 58 = .ok (.ireturn, 1) := by decide +kernel
set_option maxRecDepth 20000 in
theorem ggX5_foresee_X5_checkHours : GoodIn wsX5_foresee wsX5_checkHours := goodIn_ca (goodIn_r _ [9, 10, 11] (by decide +kernel) (by decide +kernel)) (goodIn_sub (fun _ h => List.mem_cons_of_mem _ (List.mem_append_right _ h)) (by decide +kernel))
set_option maxRecDepth 20000 in
theorem gX5_foresee_X5_checkHours : GoodIn wsX5_foresee (va_wsS RX5 179 yX5_checkHours wsX5_checkHours) := goodIn_app (goodIn_of _ (by decide +kernel)) ggX5_foresee_X5_checkHours
set_option maxRecDepth 20000 in
theorem ggX5_foresee_X2_copyFrom : GoodIn wsX5_foresee wsX2_copyFrom := goodIn_r _ [15, 16, 17, 18, 19, 20, 21, 22, 23, 24, 25, 26, 27, 28, 29, 30, 31, 32, 33, 34, 35, 36, 37, 38, 39, 40, 41, 42, 43, 44, 45, 46, 47, 48, 49, 50, 51, 52, 151, 152, 153, 154, 155, 156, 157, 158, 159, 160, 161, 162, 163, 164, 165, 166, 167, 168, 169, 170] (by decide +kernel) (by decide +kernel)
set_option maxRecDepth 20000 in
theorem gX5_foresee_X2_copyFrom_n189 : GoodIn wsX5_foresee (wsX2_copyFrom) := ggX5_foresee_X2_copyFrom
set_option maxRecDepth 20000 in
theorem ggX5_foresee_X2_letGoBy : GoodIn wsX5_foresee wsX2_letGoBy := goodIn_r _ [55, 56, 57, 58, 13, 59, 20, 16, 18, 19, 60, 8, 61, 62, 63, 64, 65, 66, 67, 23, 68, 69, 31, 70, 71, 72, 73, 74, 75, 76, 77, 78, 79, 80, 81, 82, 83, 84, 85, 86, 26, 87, 88, 89, 90, 91, 92, 93, 94, 95, 96, 97, 98, 99, 21, 100, 101, 102, 103, 17, 104, 33, 105, 106, 107, 39, 108, 109, 110, 111, 36, 112, 113, 114, 115, 116, 117, 118, 119, 120, 121, 122, 123, 124, 38, 40, 151, 152, 153, 154, 155, 156, 171, 172, 173, 174, 157, 158, 165, 166, 167, 168, 169, 170, 159, 160, 161, 162, 163, 164] (by decide +kernel) (by decide +kernel)
set_option maxRecDepth 20000 in
theorem gX5_foresee_X2_letGoBy_n185 : GoodIn wsX5_foresee (wsX2_letGoBy) := ggX5_foresee_X2_letGoBy
set_option maxRecDepth 20000 in
theorem ggX5_foresee_X2_tally : GoodIn wsX5_foresee wsX2_tally := goodIn_r _ [127, 20, 21, 18, 16, 60, 8, 61, 62, 63, 64, 65, 128, 129, 130, 131, 132, 13, 133, 19, 134, 23, 135, 136, 137, 84, 85, 86, 26, 138, 139, 140, 141, 142, 143, 31, 144, 145, 146, 147, 151, 152, 153, 154, 155, 156, 165, 166, 167, 168, 169, 170, 157, 158] (by decide +kernel) (by decide +kernel)
set_option maxRecDepth 20000 in
theorem gX5_foresee_X2_tally_n176 : GoodIn wsX5_foresee (wsX2_tally) := ggX5_foresee_X2_tally
theorem dX5_foresee_0 : decode cX5_foresee 0 = .ok (.iload_n 1, 1) := by decide +kernel
theorem dX5_foresee_1 : decode cX5_foresee 1 = .ok (.bipush 72, 2) := by decide +kernel
theorem dX5_foresee_3 : decode cX5_foresee 3 = .ok (.invokestatic 179, 3) := by decide +kernel
theorem dX5_foresee_6 : decode cX5_foresee 6 = .ok (.iload_n 2, 1) := by decide +kernel
theorem dX5_foresee_7 : decode cX5_foresee 7 = .ok (.iconst 2, 1) := by decide +kernel
theorem dX5_foresee_8 : decode cX5_foresee 8 = .ok (.if_icmp .eq 24, 3) := by decide +kernel
theorem dX5_foresee_11 : decode cX5_foresee 11 = .ok (.iload_n 2, 1) := by decide +kernel
theorem dX5_foresee_12 : decode cX5_foresee 12 = .ok (.iconst 5, 1) := by decide +kernel
theorem dX5_foresee_13 : decode cX5_foresee 13 = .ok (.if_icmp .lt 9, 3) := by decide +kernel
theorem dX5_foresee_16 : decode cX5_foresee 16 = .ok (.iload_n 2, 1) := by decide +kernel
theorem dX5_foresee_17 : decode cX5_foresee 17 = .ok (.bipush 9, 2) := by decide +kernel
theorem dX5_foresee_19 : decode cX5_foresee 19 = .ok (.if_icmp .lt 13, 3) := by decide +kernel
theorem dX5_foresee_22 : decode cX5_foresee 22 = .ok (.new 26, 3) := by decide +kernel
theorem dX5_foresee_25 : decode cX5_foresee 25 = .ok (.dup, 1) := by decide +kernel
theorem dX5_foresee_26 : decode cX5_foresee 26 = .ok (.ldc 193, 2) := by decide +kernel
theorem dX5_foresee_28 : decode cX5_foresee 28 = .ok (.invokespecial 30, 3) := by decide +kernel
theorem dX5_foresee_31 : decode cX5_foresee 31 = .ok (.athrow, 1) := by decide +kernel
theorem dX5_foresee_32 : decode cX5_foresee 32 = .ok (.aload_n 0, 1) := by decide +kernel
theorem dX5_foresee_33 : decode cX5_foresee 33 = .ok (.getfield 23, 3) := by decide +kernel
theorem dX5_foresee_36 : decode cX5_foresee 36 = .ok (.aload_n 0, 1) := by decide +kernel
theorem dX5_foresee_37 : decode cX5_foresee 37 = .ok (.getfield 19, 3) := by decide +kernel
theorem dX5_foresee_40 : decode cX5_foresee 40 = .ok (.invokevirtual 189, 3) := by decide +kernel
theorem dX5_foresee_43 : decode cX5_foresee 43 = .ok (.aload_n 0, 1) := by decide +kernel
theorem dX5_foresee_44 : decode cX5_foresee 44 = .ok (.getfield 23, 3) := by decide +kernel
theorem dX5_foresee_47 : decode cX5_foresee 47 = .ok (.iload_n 1, 1) := by decide +kernel
theorem dX5_foresee_48 : decode cX5_foresee 48 = .ok (.aload_n 0, 1) := by decide +kernel
theorem dX5_foresee_49 : decode cX5_foresee 49 = .ok (.getfield 10, 3) := by decide +kernel
theorem dX5_foresee_52 : decode cX5_foresee 52 = .ok (.invokevirtual 185, 3) := by decide +kernel
theorem dX5_foresee_55 : decode cX5_foresee 55 = .ok (.aload_n 0, 1) := by decide +kernel
theorem dX5_foresee_56 : decode cX5_foresee 56 = .ok (.getfield 23, 3) := by decide +kernel
theorem dX5_foresee_59 : decode cX5_foresee 59 = .ok (.iload_n 2, 1) := by decide +kernel
theorem dX5_foresee_60 : decode cX5_foresee 60 = .ok (.invokevirtual 176, 3) := by decide +kernel
theorem dX5_foresee_63 : decode cX5_foresee 63 = .ok (.ireturn, 1) := by decide +kernel
set_option maxRecDepth 20000 in
theorem ggX5_advise_X5_checkHours : GoodIn wsX5_advise wsX5_checkHours := goodIn_ca (goodIn_r _ [4, 5, 6] (by decide +kernel) (by decide +kernel)) (goodIn_sub (fun _ h => List.mem_cons_of_mem _ (List.mem_append_right _ h)) (by decide +kernel))
set_option maxRecDepth 20000 in
theorem gX5_advise_X5_checkHours : GoodIn wsX5_advise (va_wsS RX5 179 yX5_checkHours wsX5_checkHours) := goodIn_app (goodIn_of _ (by decide +kernel)) ggX5_advise_X5_checkHours
set_option maxRecDepth 20000 in
theorem ggX5_advise_X5_coinsWithOnlyOrder : GoodIn wsX5_advise wsX5_coinsWithOnlyOrder := goodIn_r _ [10, 11, 12, 13, 14, 15, 16, 17, 18, 19, 20, 21, 22, 23, 24, 25, 26, 27, 28, 29, 30, 31, 32, 33, 34, 35, 36, 37, 38, 39, 40, 41, 42, 43, 44, 45, 46, 47, 48, 49, 50, 51, 52, 53, 54, 55, 56, 57, 58, 59, 60, 61, 62, 63, 64, 65, 3, 66, 67, 68, 69, 70, 71, 72, 73, 74, 75, 76, 77, 78, 79, 80, 81, 82, 83, 84, 85, 86, 87, 88, 89, 90, 91, 92, 93, 94, 95, 96, 97, 98, 99, 100, 101, 102, 103, 104, 105, 106, 107, 108, 109, 110, 111, 112, 113, 114, 115, 116, 117, 118, 119, 120, 121, 122, 123, 124, 125, 126, 127, 128, 129, 130, 131, 132, 133, 134, 135, 136, 137, 138, 139, 140, 141, 142, 143, 144, 145, 146, 147, 148, 149, 150, 151, 152, 153, 154, 155, 156] (by decide +kernel) (by decide +kernel)
set_option maxRecDepth 20000 in
theorem gX5_advise_X5_coinsWithOnlyOrder : GoodIn wsX5_advise (wsV RX5 195 RX5 yX5_coinsWithOnlyOrder wsX5_coinsWithOnlyOrder) := goodIn_app (goodIn_of _ (by decide +kernel)) ggX5_advise_X5_coinsWithOnlyOrder
theorem dX5_advise_0 : decode cX5_advise 0 = .ok (.iload_n 1, 1) := by decide +kernel
theorem dX5_advise_1 : decode cX5_advise 1 = .ok (.bipush 48, 2) := by decide +kernel
theorem dX5_advise_3 : decode cX5_advise 3 = .ok (.invokestatic 179, 3) := by decide +kernel
theorem dX5_advise_6 : decode cX5_advise 6 = .ok (.iconst (-1), 1) := by decide +kernel
theorem dX5_advise_7 : decode cX5_advise 7 = .ok (.istore_n 2, 1) := by decide +kernel
theorem dX5_advise_8 : decode cX5_advise 8 = .ok (.aload_n 0, 1) := by decide +kernel
theorem dX5_advise_9 : decode cX5_advise 9 = .ok (.iconst (-1), 1) := by decide +kernel
theorem dX5_advise_10 : decode cX5_advise 10 = .ok (.iload_n 1, 1) := by decide +kernel
theorem dX5_advise_11 : decode cX5_advise 11 = .ok (.invokevirtual 195, 3) := by decide +kernel
theorem dX5_advise_14 : decode cX5_advise 14 = .ok (.istore_n 3, 1) := by decide +kernel
theorem dX5_advise_15 : decode cX5_advise 15 = .ok (.iconst 0, 1) := by decide +kernel
theorem dX5_advise_16 : decode cX5_advise 16 = .ok (.istore 4, 2) := by decide +kernel
theorem dX5_advise_18 : decode cX5_advise 18 = .ok (.iload 4, 2) := by decide +kernel
theorem dX5_advise_20 : decode cX5_advise 20 = .ok (.bipush 24, 2) := by decide +kernel
theorem dX5_advise_22 : decode cX5_advise 22 = .ok (.if_icmp .ge 30, 3) := by decide +kernel
theorem dX5_advise_25 : decode cX5_advise 25 = .ok (.aload_n 0, 1) := by decide +kernel
theorem dX5_advise_26 : decode cX5_advise 26 = .ok (.iload 4, 2) := by decide +kernel
theorem dX5_advise_28 : decode cX5_advise 28 = .ok (.iload_n 1, 1) := by decide +kernel
theorem dX5_advise_29 : decode cX5_advise 29 = .ok (.invokevirtual 195, 3) := by decide +kernel
theorem dX5_advise_32 : decode cX5_advise 32 = .ok (.istore 5, 2) := by decide +kernel
theorem dX5_advise_34 : decode cX5_advise 34 = .ok (.iload 5, 2) := by decide +kernel
theorem dX5_advise_36 : decode cX5_advise 36 = .ok (.iload_n 3, 1) := by decide +kernel
theorem dX5_advise_37 : decode cX5_advise 37 = .ok (.if_icmp .le 9, 3) := by decide +kernel
theorem dX5_advise_40 : decode cX5_advise 40 = .ok (.iload 5, 2) := by decide +kernel
theorem dX5_advise_42 : decode cX5_advise 42 = .ok (.istore_n 3, 1) := by decide +kernel
theorem dX5_advise_43 : decode cX5_advise 43 = .ok (.iload 4, 2) := by decide +kernel
theorem dX5_advise_45 : decode cX5_advise 45 = .ok (.istore_n 2, 1) := by decide +kernel
theorem dX5_advise_46 : decode cX5_advise 46 = .ok (.iinc 4 1, 3) := by decide +kernel
theorem dX5_advise_49 : decode cX5_advise 49 = .ok (.goto (-31), 3) := by decide +kernel
theorem dX5_advise_52 : decode cX5_advise 52 = .ok (.iload_n 2, 1) := by decide +kernel
theorem dX5_advise_53 : decode cX5_advise 53 = .ok (.ireturn, 1) := by decide +kernel
set_option maxRecDepth 20000 in
theorem ggX5_digest_X5_count : GoodIn wsX5_digest wsX5_count := goodIn_ca (goodIn_r _ [8, 3, 9, 10, 7, 11, 12, 13, 14, 15, 16, 17, 18, 19, 20, 21, 22, 23, 24, 25, 26, 27, 28, 29, 30, 31, 32, 33, 34, 35, 36, 37, 38, 39, 40, 41, 42, 43, 44, 45, 46, 47, 48, 49, 50, 51, 52, 53, 54, 104, 105, 106, 107, 108, 109, 110, 111, 112, 113, 114, 115, 116, 117, 118, 119, 120] (by decide +kernel) (by decide +kernel)) (goodIn_sub (fun _ h => List.mem_cons_of_mem _ (List.mem_append_right _ h)) (by decide +kernel))
set_option maxRecDepth 20000 in
theorem gX5_digest_X5_count : GoodIn wsX5_digest (wsV RX5 208 RX5 yX5_count wsX5_count) := goodIn_app (goodIn_of _ (by decide +kernel)) ggX5_digest_X5_count
set_option maxRecDepth 20000 in
theorem ggX5_digest_X5_digestOfTables : GoodIn wsX5_digest wsX5_digestOfTables := goodIn_r _ [58, 2, 59, 104, 105, 106, 121, 122, 123, 124] (by decide +kernel) (by decide +kernel)
set_option maxRecDepth 20000 in
theorem gX5_digest_X5_digestOfTables : GoodIn wsX5_digest (wsV RX5 211 RX5 yX5_digestOfTables wsX5_digestOfTables) := goodIn_app (goodIn_of _ (by decide +kernel)) ggX5_digest_X5_digestOfTables
set_option maxRecDepth 20000 in
theorem ggX5_digest_X5_gang : GoodIn wsX5_digest wsX5_gang := goodIn_ca (goodIn_r _ [63, 3, 9, 10, 7, 11, 12, 13, 64, 65, 66, 67, 68, 69, 70, 71, 72, 73, 74, 75, 76, 77, 78, 104, 105, 106, 107, 108, 109, 110, 111, 112, 125, 126, 127, 128, 129, 130] (by decide +kernel) (by decide +kernel)) (goodIn_sub (fun _ h => List.mem_cons_of_mem _ (List.mem_append_right _ h)) (by decide +kernel))
set_option maxRecDepth 20000 in
theorem gX5_digest_X5_gang : GoodIn wsX5_digest (wsV RX5 215 RX5 yX5_gang wsX5_gang) := goodIn_app (goodIn_of _ (by decide +kernel)) ggX5_digest_X5_gang
set_option maxRecDepth 20000 in
theorem ggX5_digest_X5_span : GoodIn wsX5_digest wsX5_span := goodIn_ca (goodIn_r _ [82, 3, 83, 84, 7, 85, 12, 13, 9, 10, 11, 40, 36, 41, 42, 43, 86, 28, 29, 87, 15, 88, 89, 20, 34, 90, 65, 91, 92, 68, 77, 104, 105, 106, 107, 108, 109, 110, 111, 112, 119, 120, 113, 114, 115, 116, 117, 118, 125, 126, 127, 128, 129, 130] (by decide +kernel) (by decide +kernel)) (goodIn_sub (fun _ h => List.mem_cons_of_mem _ (List.mem_append_right _ h)) (by decide +kernel))
set_option maxRecDepth 20000 in
theorem gX5_digest_X5_span : GoodIn wsX5_digest (wsV RX5 217 RX5 yX5_span wsX5_span) := goodIn_app (goodIn_of _ (by decide +kernel)) ggX5_digest_X5_span
set_option maxRecDepth 20000 in
theorem ggX5_digest_X5_told : GoodIn wsX5_digest wsX5_told := goodIn_ca (goodIn_r _ [96, 3, 97, 98, 99, 7, 100, 12, 13, 9, 10, 11, 86, 28, 29, 101, 36, 102, 103, 39, 40, 41, 42, 43, 104, 105, 106, 107, 108, 109, 110, 111, 112, 113, 114, 115, 116, 117, 118, 119, 120] (by decide +kernel) (by decide +kernel)) (goodIn_sub (fun _ h => List.mem_cons_of_mem _ (List.mem_append_right _ h)) (by decide +kernel))
set_option maxRecDepth 20000 in
theorem gX5_digest_X5_told : GoodIn wsX5_digest (wsV RX5 220 RX5 yX5_told wsX5_told) := goodIn_app (goodIn_of _ (by decide +kernel)) ggX5_digest_X5_told
theorem dX5_digest_0 : decode cX5_digest 0 = .ok (.ldc2_w 204, 3) := by decide +kernel
theorem dX5_digest_3 : decode cX5_digest 3 = .ok (.lstore_n 1, 1) := by decide +kernel
theorem dX5_digest_4 : decode cX5_digest 4 = .ok (.iconst 0, 1) := by decide +kernel
theorem dX5_digest_5 : decode cX5_digest 5 = .ok (.istore_n 3, 1) := by decide +kernel
theorem dX5_digest_6 : decode cX5_digest 6 = .ok (.iload_n 3, 1) := by decide +kernel
theorem dX5_digest_7 : decode cX5_digest 7 = .ok (.bipush 9, 2) := by decide +kernel
theorem dX5_digest_9 : decode cX5_digest 9 = .ok (.if_icmp .ge 22, 3) := by decide +kernel
theorem dX5_digest_12 : decode cX5_digest 12 = .ok (.lload_n 1, 1) := by decide +kernel
theorem dX5_digest_13 : decode cX5_digest 13 = .ok (.ldc2_w 206, 3) := by decide +kernel
theorem dX5_digest_16 : decode cX5_digest 16 = .ok (.lmul, 1) := by decide +kernel
theorem dX5_digest_17 : decode cX5_digest 17 = .ok (.aload_n 0, 1) := by decide +kernel
theorem dX5_digest_18 : decode cX5_digest 18 = .ok (.iload_n 3, 1) := by decide +kernel
theorem dX5_digest_19 : decode cX5_digest 19 = .ok (.invokevirtual 208, 3) := by decide +kernel
theorem dX5_digest_22 : decode cX5_digest 22 = .ok (.i2l, 1) := by decide +kernel
theorem dX5_digest_23 : decode cX5_digest 23 = .ok (.ladd, 1) := by decide +kernel
theorem dX5_digest_24 : decode cX5_digest 24 = .ok (.lstore_n 1, 1) := by decide +kernel
theorem dX5_digest_25 : decode cX5_digest 25 = .ok (.iinc 3 1, 3) := by decide +kernel
theorem dX5_digest_28 : decode cX5_digest 28 = .ok (.goto (-22), 3) := by decide +kernel
theorem dX5_digest_31 : decode cX5_digest 31 = .ok (.aload_n 0, 1) := by decide +kernel
theorem dX5_digest_32 : decode cX5_digest 32 = .ok (.lload_n 1, 1) := by decide +kernel
theorem dX5_digest_33 : decode cX5_digest 33 = .ok (.invokevirtual 211, 3) := by decide +kernel
theorem dX5_digest_36 : decode cX5_digest 36 = .ok (.lstore_n 1, 1) := by decide +kernel
theorem dX5_digest_37 : decode cX5_digest 37 = .ok (.iconst 0, 1) := by decide +kernel
theorem dX5_digest_38 : decode cX5_digest 38 = .ok (.istore_n 3, 1) := by decide +kernel
theorem dX5_digest_39 : decode cX5_digest 39 = .ok (.iload_n 3, 1) := by decide +kernel
theorem dX5_digest_40 : decode cX5_digest 40 = .ok (.bipush 7, 2) := by decide +kernel
theorem dX5_digest_42 : decode cX5_digest 42 = .ok (.if_icmp .ge 22, 3) := by decide +kernel
theorem dX5_digest_45 : decode cX5_digest 45 = .ok (.lload_n 1, 1) := by decide +kernel
theorem dX5_digest_46 : decode cX5_digest 46 = .ok (.ldc2_w 206, 3) := by decide +kernel
theorem dX5_digest_49 : decode cX5_digest 49 = .ok (.lmul, 1) := by decide +kernel
theorem dX5_digest_50 : decode cX5_digest 50 = .ok (.aload_n 0, 1) := by decide +kernel
theorem dX5_digest_51 : decode cX5_digest 51 = .ok (.iload_n 3, 1) := by decide +kernel
theorem dX5_digest_52 : decode cX5_digest 52 = .ok (.invokevirtual 215, 3) := by decide +kernel
theorem dX5_digest_55 : decode cX5_digest 55 = .ok (.i2l, 1) := by decide +kernel
theorem dX5_digest_56 : decode cX5_digest 56 = .ok (.ladd, 1) := by decide +kernel
theorem dX5_digest_57 : decode cX5_digest 57 = .ok (.lstore_n 1, 1) := by decide +kernel
theorem dX5_digest_58 : decode cX5_digest 58 = .ok (.iinc 3 1, 3) := by decide +kernel
theorem dX5_digest_61 : decode cX5_digest 61 = .ok (.goto (-22), 3) := by decide +kernel
theorem dX5_digest_64 : decode cX5_digest 64 = .ok (.iconst 0, 1) := by decide +kernel
theorem dX5_digest_65 : decode cX5_digest 65 = .ok (.istore_n 3, 1) := by decide +kernel
theorem dX5_digest_66 : decode cX5_digest 66 = .ok (.iload_n 3, 1) := by decide +kernel
theorem dX5_digest_67 : decode cX5_digest 67 = .ok (.bipush 24, 2) := by decide +kernel
theorem dX5_digest_69 : decode cX5_digest 69 = .ok (.if_icmp .ge 39, 3) := by decide +kernel
theorem dX5_digest_72 : decode cX5_digest 72 = .ok (.iconst 0, 1) := by decide +kernel
theorem dX5_digest_73 : decode cX5_digest 73 = .ok (.istore 4, 2) := by decide +kernel
theorem dX5_digest_75 : decode cX5_digest 75 = .ok (.iload 4, 2) := by decide +kernel
theorem dX5_digest_77 : decode cX5_digest 77 = .ok (.iconst 5, 1) := by decide +kernel
theorem dX5_digest_78 : decode cX5_digest 78 = .ok (.if_icmp .ge 24, 3) := by decide +kernel
theorem dX5_digest_81 : decode cX5_digest 81 = .ok (.lload_n 1, 1) := by decide +kernel
theorem dX5_digest_82 : decode cX5_digest 82 = .ok (.ldc2_w 206, 3) := by decide +kernel
theorem dX5_digest_85 : decode cX5_digest 85 = .ok (.lmul, 1) := by decide +kernel
theorem dX5_digest_86 : decode cX5_digest 86 = .ok (.aload_n 0, 1) := by decide +kernel
theorem dX5_digest_87 : decode cX5_digest 87 = .ok (.iload_n 3, 1) := by decide +kernel
theorem dX5_digest_88 : decode cX5_digest 88 = .ok (.iload 4, 2) := by decide +kernel
theorem dX5_digest_90 : decode cX5_digest 90 = .ok (.invokevirtual 217, 3) := by decide +kernel
theorem dX5_digest_93 : decode cX5_digest 93 = .ok (.i2l, 1) := by decide +kernel
theorem dX5_digest_94 : decode cX5_digest 94 = .ok (.ladd, 1) := by decide +kernel
theorem dX5_digest_95 : decode cX5_digest 95 = .ok (.lstore_n 1, 1) := by decide +kernel
theorem dX5_digest_96 : decode cX5_digest 96 = .ok (.iinc 4 1, 3) := by decide +kernel
theorem dX5_digest_99 : decode cX5_digest 99 = .ok (.goto (-24), 3) := by decide +kernel
theorem dX5_digest_102 : decode cX5_digest 102 = .ok (.iinc 3 1, 3) := by decide +kernel
theorem dX5_digest_105 : decode cX5_digest 105 = .ok (.goto (-39), 3) := by decide +kernel
theorem dX5_digest_108 : decode cX5_digest 108 = .ok (.iconst 0, 1) := by decide +kernel
theorem dX5_digest_109 : decode cX5_digest 109 = .ok (.istore_n 3, 1) := by decide +kernel
theorem dX5_digest_110 : decode cX5_digest 110 = .ok (.iload_n 3, 1) := by decide +kernel
theorem dX5_digest_111 : decode cX5_digest 111 = .ok (.aload_n 0, 1) := by decide +kernel
theorem dX5_digest_112 : decode cX5_digest 112 = .ok (.getfield 19, 3) := by decide +kernel
theorem dX5_digest_115 : decode cX5_digest 115 = .ok (.getfield 66, 3) := by decide +kernel
theorem dX5_digest_118 : decode cX5_digest 118 = .ok (.if_icmp .ge 40, 3) := by decide +kernel
theorem dX5_digest_121 : decode cX5_digest 121 = .ok (.iconst 0, 1) := by decide +kernel
theorem dX5_digest_122 : decode cX5_digest 122 = .ok (.istore 4, 2) := by decide +kernel
theorem dX5_digest_124 : decode cX5_digest 124 = .ok (.iload 4, 2) := by decide +kernel
theorem dX5_digest_126 : decode cX5_digest 126 = .ok (.bipush 7, 2) := by decide +kernel
theorem dX5_digest_128 : decode cX5_digest 128 = .ok (.if_icmp .ge 24, 3) := by decide +kernel
theorem dX5_digest_131 : decode cX5_digest 131 = .ok (.lload_n 1, 1) := by decide +kernel
theorem dX5_digest_132 : decode cX5_digest 132 = .ok (.ldc2_w 206, 3) := by decide +kernel
theorem dX5_digest_135 : decode cX5_digest 135 = .ok (.lmul, 1) := by decide +kernel
theorem dX5_digest_136 : decode cX5_digest 136 = .ok (.aload_n 0, 1) := by decide +kernel
theorem dX5_digest_137 : decode cX5_digest 137 = .ok (.iload_n 3, 1) := by decide +kernel
theorem dX5_digest_138 : decode cX5_digest 138 = .ok (.iload 4, 2) := by decide +kernel
theorem dX5_digest_140 : decode cX5_digest 140 = .ok (.invokevirtual 220, 3) := by decide +kernel
theorem dX5_digest_143 : decode cX5_digest 143 = .ok (.i2l, 1) := by decide +kernel
theorem dX5_digest_144 : decode cX5_digest 144 = .ok (.ladd, 1) := by decide +kernel
theorem dX5_digest_145 : decode cX5_digest 145 = .ok (.lstore_n 1, 1) := by decide +kernel
theorem dX5_digest_146 : decode cX5_digest 146 = .ok (.iinc 4 1, 3) := by decide +kernel
theorem dX5_digest_149 : decode cX5_digest 149 = .ok (.goto (-25), 3) := by decide +kernel
theorem dX5_digest_152 : decode cX5_digest 152 = .ok (.iinc 3 1, 3) := by decide +kernel
theorem dX5_digest_155 : decode cX5_digest 155 = .ok (.goto (-45), 3) := by decide +kernel
theorem dX5_digest_158 : decode cX5_digest 158 = .ok (.lload_n 1, 1) := by decide +kernel
theorem dX5_digest_159 : decode cX5_digest 159 = .ok (.lreturn, 1) := by decide +kernel
theorem dX5_digestOfTables_0 : decode cX5_digestOfTables 0 = .ok (.lload_n 1, 1) := by decide +kernel
theorem dX5_digestOfTables_1 : decode cX5_digestOfTables 1 = .ok (.lstore_n 3, 1) := by decide +kernel
theorem dX5_digestOfTables_2 : decode cX5_digestOfTables 2 = .ok (.iconst 0, 1) := by decide +kernel
theorem dX5_digestOfTables_3 : decode cX5_digestOfTables 3 = .ok (.istore 5, 2) := by decide +kernel
theorem dX5_digestOfTables_5 : decode cX5_digestOfTables 5 = .ok (.iload 5, 2) := by decide +kernel
theorem dX5_digestOfTables_7 : decode cX5_digestOfTables 7 = .ok (.bipush 8, 2) := by decide +kernel
theorem dX5_digestOfTables_9 : decode cX5_digestOfTables 9 = .ok (.if_icmp .ge 27, 3) := by decide +kernel
theorem dX5_digestOfTables_12 : decode cX5_digestOfTables 12 = .ok (.lload_n 3, 1) := by decide +kernel
theorem dX5_digestOfTables_13 : decode cX5_digestOfTables 13 = .ok (.ldc2_w 206, 3) := by decide +kernel
theorem dX5_digestOfTables_16 : decode cX5_digestOfTables 16 = .ok (.lmul, 1) := by decide +kernel
theorem dX5_digestOfTables_17 : decode cX5_digestOfTables 17 = .ok (.aload_n 0, 1) := by decide +kernel
theorem dX5_digestOfTables_18 : decode cX5_digestOfTables 18 = .ok (.getfield 10, 3) := by decide +kernel
theorem dX5_digestOfTables_21 : decode cX5_digestOfTables 21 = .ok (.getfield 38, 3) := by decide +kernel
theorem dX5_digestOfTables_24 : decode cX5_digestOfTables 24 = .ok (.iload 5, 2) := by decide +kernel
theorem dX5_digestOfTables_26 : decode cX5_digestOfTables 26 = .ok (.iaload, 1) := by decide +kernel
theorem dX5_digestOfTables_27 : decode cX5_digestOfTables 27 = .ok (.i2l, 1) := by decide +kernel
theorem dX5_digestOfTables_28 : decode cX5_digestOfTables 28 = .ok (.ladd, 1) := by decide +kernel
theorem dX5_digestOfTables_29 : decode cX5_digestOfTables 29 = .ok (.lstore_n 3, 1) := by decide +kernel
theorem dX5_digestOfTables_30 : decode cX5_digestOfTables 30 = .ok (.iinc 5 1, 3) := by decide +kernel
theorem dX5_digestOfTables_33 : decode cX5_digestOfTables 33 = .ok (.goto (-28), 3) := by decide +kernel
theorem dX5_digestOfTables_36 : decode cX5_digestOfTables 36 = .ok (.iconst 0, 1) := by decide +kernel
theorem dX5_digestOfTables_37 : decode cX5_digestOfTables 37 = .ok (.istore 5, 2) := by decide +kernel
theorem dX5_digestOfTables_39 : decode cX5_digestOfTables 39 = .ok (.iload 5, 2) := by decide +kernel
theorem dX5_digestOfTables_41 : decode cX5_digestOfTables 41 = .ok (.bipush 12, 2) := by decide +kernel
theorem dX5_digestOfTables_43 : decode cX5_digestOfTables 43 = .ok (.if_icmp .ge 27, 3) := by decide +kernel
theorem dX5_digestOfTables_46 : decode cX5_digestOfTables 46 = .ok (.lload_n 3, 1) := by decide +kernel
theorem dX5_digestOfTables_47 : decode cX5_digestOfTables 47 = .ok (.ldc2_w 206, 3) := by decide +kernel
theorem dX5_digestOfTables_50 : decode cX5_digestOfTables 50 = .ok (.lmul, 1) := by decide +kernel
theorem dX5_digestOfTables_51 : decode cX5_digestOfTables 51 = .ok (.aload_n 0, 1) := by decide +kernel
theorem dX5_digestOfTables_52 : decode cX5_digestOfTables 52 = .ok (.getfield 10, 3) := by decide +kernel
theorem dX5_digestOfTables_55 : decode cX5_digestOfTables 55 = .ok (.getfield 46, 3) := by decide +kernel
theorem dX5_digestOfTables_58 : decode cX5_digestOfTables 58 = .ok (.iload 5, 2) := by decide +kernel
theorem dX5_digestOfTables_60 : decode cX5_digestOfTables 60 = .ok (.iaload, 1) := by decide +kernel
theorem dX5_digestOfTables_61 : decode cX5_digestOfTables 61 = .ok (.i2l, 1) := by decide +kernel
theorem dX5_digestOfTables_62 : decode cX5_digestOfTables 62 = .ok (.ladd, 1) := by decide +kernel
theorem dX5_digestOfTables_63 : decode cX5_digestOfTables 63 = .ok (.lstore_n 3, 1) := by decide +kernel
theorem dX5_digestOfTables_64 : decode cX5_digestOfTables 64 = .ok (.iinc 5 1, 3) := by decide +kernel
theorem dX5_digestOfTables_67 : decode cX5_digestOfTables 67 = .ok (.goto (-28), 3) := by decide +kernel
theorem dX5_digestOfTables_70 : decode cX5_digestOfTables 70 = .ok (.lload_n 3, 1) := by decide +kernel
theorem dX5_digestOfTables_71 : decode cX5_digestOfTables 71 = .ok (.ldc2_w 206, 3) := by decide +kernel
theorem dX5_digestOfTables_74 : decode cX5_digestOfTables 74 = .ok (.lmul, 1) := by decide +kernel
theorem dX5_digestOfTables_75 : decode cX5_digestOfTables 75 = .ok (.aload_n 0, 1) := by decide +kernel
theorem dX5_digestOfTables_76 : decode cX5_digestOfTables 76 = .ok (.getfield 10, 3) := by decide +kernel
theorem dX5_digestOfTables_79 : decode cX5_digestOfTables 79 = .ok (.getfield 59, 3) := by decide +kernel
theorem dX5_digestOfTables_82 : decode cX5_digestOfTables 82 = .ok (.i2l, 1) := by decide +kernel
theorem dX5_digestOfTables_83 : decode cX5_digestOfTables 83 = .ok (.ladd, 1) := by decide +kernel
theorem dX5_digestOfTables_84 : decode cX5_digestOfTables 84 = .ok (.lstore_n 3, 1) := by decide +kernel
theorem dX5_digestOfTables_85 : decode cX5_digestOfTables 85 = .ok (.lload_n 3, 1) := by decide +kernel
theorem dX5_digestOfTables_86 : decode cX5_digestOfTables 86 = .ok (.ldc2_w 206, 3) := by decide +kernel
theorem dX5_digestOfTables_89 : decode cX5_digestOfTables 89 = .ok (.lmul, 1) := by decide +kernel
theorem dX5_digestOfTables_90 : decode cX5_digestOfTables 90 = .ok (.aload_n 0, 1) := by decide +kernel
theorem dX5_digestOfTables_91 : decode cX5_digestOfTables 91 = .ok (.getfield 10, 3) := by decide +kernel
theorem dX5_digestOfTables_94 : decode cX5_digestOfTables 94 = .ok (.getfield 55, 3) := by decide +kernel
theorem dX5_digestOfTables_97 : decode cX5_digestOfTables 97 = .ok (.i2l, 1) := by decide +kernel
theorem dX5_digestOfTables_98 : decode cX5_digestOfTables 98 = .ok (.ladd, 1) := by decide +kernel
theorem dX5_digestOfTables_99 : decode cX5_digestOfTables 99 = .ok (.lreturn, 1) := by decide +kernel
set_option maxRecDepth 20000 in
theorem ggX5_coinsWithOnlyOrder_X2_copyFrom : GoodIn wsX5_coinsWithOnlyOrder wsX2_copyFrom := goodIn_r _ [7, 8, 9, 10, 11, 12, 13, 14, 15, 16, 17, 18, 19, 20, 21, 22, 23, 24, 25, 26, 27, 28, 29, 30, 31, 32, 33, 34, 35, 36, 37, 38, 39, 40, 41, 42, 43, 44, 124, 125, 126, 127, 128, 129, 130, 131, 132, 133, 134, 135, 136, 137, 138, 139, 140, 141, 142, 143] (by decide +kernel) (by decide +kernel)
set_option maxRecDepth 20000 in
theorem gX5_coinsWithOnlyOrder_X2_copyFrom_n189 : GoodIn wsX5_coinsWithOnlyOrder (wsX2_copyFrom) := ggX5_coinsWithOnlyOrder_X2_copyFrom
set_option maxRecDepth 20000 in
theorem ggX5_coinsWithOnlyOrder_X1_haveOnly : GoodIn wsX5_coinsWithOnlyOrder wsX1_haveOnly := goodIn_r _ [47, 30, 32, 28, 132, 133, 134, 135, 136, 137] (by decide +kernel) (by decide +kernel)
set_option maxRecDepth 20000 in
theorem gX5_coinsWithOnlyOrder_X1_haveOnly_n223 : GoodIn wsX5_coinsWithOnlyOrder (wsX1_haveOnly) := ggX5_coinsWithOnlyOrder_X1_haveOnly
set_option maxRecDepth 20000 in
theorem ggX5_coinsWithOnlyOrder_X2_letGoBy : GoodIn wsX5_coinsWithOnlyOrder wsX2_letGoBy := goodIn_r _ [50, 51, 52, 53, 5, 54, 12, 8, 10, 11, 55, 56, 57, 58, 59, 60, 61, 62, 63, 15, 64, 65, 23, 66, 67, 68, 69, 70, 71, 72, 73, 74, 75, 76, 77, 78, 79, 80, 81, 82, 18, 83, 84, 85, 86, 87, 88, 89, 90, 91, 92, 93, 94, 95, 13, 96, 97, 98, 99, 9, 100, 25, 101, 102, 103, 31, 104, 105, 106, 107, 28, 108, 109, 110, 111, 112, 113, 114, 115, 116, 117, 118, 119, 120, 30, 32, 124, 125, 126, 127, 128, 129, 144, 145, 146, 147, 130, 131, 138, 139, 140, 141, 142, 143, 132, 133, 134, 135, 136, 137] (by decide +kernel) (by decide +kernel)
set_option maxRecDepth 20000 in
theorem gX5_coinsWithOnlyOrder_X2_letGoBy_n185 : GoodIn wsX5_coinsWithOnlyOrder (wsX2_letGoBy) := ggX5_coinsWithOnlyOrder_X2_letGoBy
theorem dX5_coinsWithOnlyOrder_0 : decode cX5_coinsWithOnlyOrder 0 = .ok (.aload_n 0, 1) := by decide +kernel
theorem dX5_coinsWithOnlyOrder_1 : decode cX5_coinsWithOnlyOrder 1 = .ok (.getfield 23, 3) := by decide +kernel
theorem dX5_coinsWithOnlyOrder_4 : decode cX5_coinsWithOnlyOrder 4 = .ok (.aload_n 0, 1) := by decide +kernel
theorem dX5_coinsWithOnlyOrder_5 : decode cX5_coinsWithOnlyOrder 5 = .ok (.getfield 19, 3) := by decide +kernel
theorem dX5_coinsWithOnlyOrder_8 : decode cX5_coinsWithOnlyOrder 8 = .ok (.invokevirtual 189, 3) := by decide +kernel
theorem dX5_coinsWithOnlyOrder_11 : decode cX5_coinsWithOnlyOrder 11 = .ok (.aload_n 0, 1) := by decide +kernel
theorem dX5_coinsWithOnlyOrder_12 : decode cX5_coinsWithOnlyOrder 12 = .ok (.getfield 23, 3) := by decide +kernel
theorem dX5_coinsWithOnlyOrder_15 : decode cX5_coinsWithOnlyOrder 15 = .ok (.getfield 138, 3) := by decide +kernel
theorem dX5_coinsWithOnlyOrder_18 : decode cX5_coinsWithOnlyOrder 18 = .ok (.iload_n 1, 1) := by decide +kernel
theorem dX5_coinsWithOnlyOrder_19 : decode cX5_coinsWithOnlyOrder 19 = .ok (.invokevirtual 223, 3) := by decide +kernel
theorem dX5_coinsWithOnlyOrder_22 : decode cX5_coinsWithOnlyOrder 22 = .ok (.aload_n 0, 1) := by decide +kernel
theorem dX5_coinsWithOnlyOrder_23 : decode cX5_coinsWithOnlyOrder 23 = .ok (.getfield 23, 3) := by decide +kernel
theorem dX5_coinsWithOnlyOrder_26 : decode cX5_coinsWithOnlyOrder 26 = .ok (.iload_n 2, 1) := by decide +kernel
theorem dX5_coinsWithOnlyOrder_27 : decode cX5_coinsWithOnlyOrder 27 = .ok (.aload_n 0, 1) := by decide +kernel
theorem dX5_coinsWithOnlyOrder_28 : decode cX5_coinsWithOnlyOrder 28 = .ok (.getfield 10, 3) := by decide +kernel
theorem dX5_coinsWithOnlyOrder_31 : decode cX5_coinsWithOnlyOrder 31 = .ok (.invokevirtual 185, 3) := by decide +kernel
theorem dX5_coinsWithOnlyOrder_34 : decode cX5_coinsWithOnlyOrder 34 = .ok (.aload_n 0, 1) := by decide +kernel
theorem dX5_coinsWithOnlyOrder_35 : decode cX5_coinsWithOnlyOrder 35 = .ok (.getfield 23, 3) := by decide +kernel
theorem dX5_coinsWithOnlyOrder_38 : decode cX5_coinsWithOnlyOrder 38 = .ok (.getfield 182, 3) := by decide +kernel
theorem dX5_coinsWithOnlyOrder_41 : decode cX5_coinsWithOnlyOrder 41 = .ok (.ireturn, 1) := by decide +kernel
theorem dX5_checkBus_0 : decode cX5_checkBus 0 = .ok (.iload_n 1, 1) := by decide +kernel
theorem dX5_checkBus_1 : decode cX5_checkBus 1 = .ok (.ifCond .lt 14, 3) := by decide +kernel
theorem dX5_checkBus_4 : decode cX5_checkBus 4 = .ok (.iload_n 1, 1) := by decide +kernel
theorem dX5_checkBus_5 : decode cX5_checkBus 5 = .ok (.aload_n 0, 1) := by decide +kernel
theorem dX5_checkBus_6 : decode cX5_checkBus 6 = .ok (.getfield 19, 3) := by decide +kernel
theorem dX5_checkBus_9 : decode cX5_checkBus 9 = .ok (.getfield 66, 3) := by decide +kernel
theorem dX5_checkBus_12 : decode cX5_checkBus 12 = .ok (.if_icmp .lt 13, 3) := by decide +kernel
theorem dX5_checkBus_15 : decode cX5_checkBus 15 = .ok (.new 26, 3) := by decide +kernel
theorem dX5_checkBus_18 : decode cX5_checkBus 18 = .ok (.dup, 1) := by decide +kernel
theorem dX5_checkBus_19 : decode cX5_checkBus 19 = .ok (.ldc 226, 2) := by decide +kernel
theorem dX5_checkBus_21 : decode cX5_checkBus 21 = .ok (.invokespecial 30, 3) := by decide +kernel
theorem dX5_checkBus_24 : decode cX5_checkBus 24 = .ok (.athrow, 1) := by decide +kernel
theorem dX5_checkBus_25 : decode cX5_checkBus 25 = .ok (.return_, 1) := by decide +kernel
theorem dX5_checkSpan_0 : decode cX5_checkSpan 0 = .ok (.iload_n 0, 1) := by decide +kernel
theorem dX5_checkSpan_1 : decode cX5_checkSpan 1 = .ok (.ifCond .lt 9, 3) := by decide +kernel
theorem dX5_checkSpan_4 : decode cX5_checkSpan 4 = .ok (.iload_n 0, 1) := by decide +kernel
theorem dX5_checkSpan_5 : decode cX5_checkSpan 5 = .ok (.bipush 24, 2) := by decide +kernel
theorem dX5_checkSpan_7 : decode cX5_checkSpan 7 = .ok (.if_icmp .lt 13, 3) := by decide +kernel
theorem dX5_checkSpan_10 : decode cX5_checkSpan 10 = .ok (.new 26, 3) := by decide +kernel
theorem dX5_checkSpan_13 : decode cX5_checkSpan 13 = .ok (.dup, 1) := by decide +kernel
theorem dX5_checkSpan_14 : decode cX5_checkSpan 14 = .ok (.ldc 228, 2) := by decide +kernel
theorem dX5_checkSpan_16 : decode cX5_checkSpan 16 = .ok (.invokespecial 30, 3) := by decide +kernel
theorem dX5_checkSpan_19 : decode cX5_checkSpan 19 = .ok (.athrow, 1) := by decide +kernel
theorem dX5_checkSpan_20 : decode cX5_checkSpan 20 = .ok (.return_, 1) := by decide +kernel
theorem dX5_checkWhat_0 : decode cX5_checkWhat 0 = .ok (.iload_n 0, 1) := by decide +kernel
theorem dX5_checkWhat_1 : decode cX5_checkWhat 1 = .ok (.ifCond .lt 8, 3) := by decide +kernel
theorem dX5_checkWhat_4 : decode cX5_checkWhat 4 = .ok (.iload_n 0, 1) := by decide +kernel
theorem dX5_checkWhat_5 : decode cX5_checkWhat 5 = .ok (.iload_n 1, 1) := by decide +kernel
theorem dX5_checkWhat_6 : decode cX5_checkWhat 6 = .ok (.if_icmp .lt 13, 3) := by decide +kernel
theorem dX5_checkWhat_9 : decode cX5_checkWhat 9 = .ok (.new 26, 3) := by decide +kernel
theorem dX5_checkWhat_12 : decode cX5_checkWhat 12 = .ok (.dup, 1) := by decide +kernel
theorem dX5_checkWhat_13 : decode cX5_checkWhat 13 = .ok (.ldc 230, 2) := by decide +kernel
theorem dX5_checkWhat_15 : decode cX5_checkWhat 15 = .ok (.invokespecial 30, 3) := by decide +kernel
theorem dX5_checkWhat_18 : decode cX5_checkWhat 18 = .ok (.athrow, 1) := by decide +kernel
theorem dX5_checkWhat_19 : decode cX5_checkWhat 19 = .ok (.return_, 1) := by decide +kernel
theorem dX5_checkHours_0 : decode cX5_checkHours 0 = .ok (.iload_n 0, 1) := by decide +kernel
theorem dX5_checkHours_1 : decode cX5_checkHours 1 = .ok (.iconst 1, 1) := by decide +kernel
theorem dX5_checkHours_2 : decode cX5_checkHours 2 = .ok (.if_icmp .lt 8, 3) := by decide +kernel
theorem dX5_checkHours_5 : decode cX5_checkHours 5 = .ok (.iload_n 0, 1) := by decide +kernel
theorem dX5_checkHours_6 : decode cX5_checkHours 6 = .ok (.iload_n 1, 1) := by decide +kernel
theorem dX5_checkHours_7 : decode cX5_checkHours 7 = .ok (.if_icmp .le 13, 3) := by decide +kernel
theorem dX5_checkHours_10 : decode cX5_checkHours 10 = .ok (.new 33, 3) := by decide +kernel
theorem dX5_checkHours_13 : decode cX5_checkHours 13 = .ok (.dup, 1) := by decide +kernel
theorem dX5_checkHours_14 : decode cX5_checkHours 14 = .ok (.ldc 232, 2) := by decide +kernel
theorem dX5_checkHours_16 : decode cX5_checkHours 16 = .ok (.invokespecial 37, 3) := by decide +kernel
theorem dX5_checkHours_19 : decode cX5_checkHours 19 = .ok (.athrow, 1) := by decide +kernel
theorem dX5_checkHours_20 : decode cX5_checkHours 20 = .ok (.return_, 1) := by decide +kernel
theorem dX5_oneIf_0 : decode cX5_oneIf 0 = .ok (.iload_n 0, 1) := by decide +kernel
theorem dX5_oneIf_1 : decode cX5_oneIf 1 = .ok (.ifCond .eq 7, 3) := by decide +kernel
theorem dX5_oneIf_4 : decode cX5_oneIf 4 = .ok (.iconst 1, 1) := by decide +kernel
theorem dX5_oneIf_5 : decode cX5_oneIf 5 = .ok (.goto 4, 3) := by decide +kernel
theorem dX5_oneIf_8 : decode cX5_oneIf 8 = .ok (.iconst 0, 1) := by decide +kernel
theorem dX5_oneIf_9 : decode cX5_oneIf 9 = .ok (.ireturn, 1) := by decide +kernel
set_option maxRecDepth 20000 in
theorem ggX5_isNightAt_J9_floorMod_7cf53 : GoodIn wsX5_isNightAt wsJ9_floorMod_7cf53 := goodIn_r _ [4] (by decide +kernel) (by decide +kernel)
set_option maxRecDepth 20000 in
theorem gX5_isNightAt_J9_floorMod_7cf53 : GoodIn wsX5_isNightAt (va_wsS RX5 234 yJ9_floorMod_7cf53 wsJ9_floorMod_7cf53) := goodIn_app (goodIn_of _ (by decide +kernel)) ggX5_isNightAt_J9_floorMod_7cf53
theorem dX5_isNightAt_0 : decode cX5_isNightAt 0 = .ok (.iload_n 0, 1) := by decide +kernel
theorem dX5_isNightAt_1 : decode cX5_isNightAt 1 = .ok (.bipush 24, 2) := by decide +kernel
theorem dX5_isNightAt_3 : decode cX5_isNightAt 3 = .ok (.invokestatic 234, 3) := by decide +kernel
theorem dX5_isNightAt_6 : decode cX5_isNightAt 6 = .ok (.istore_n 1, 1) := by decide +kernel
theorem dX5_isNightAt_7 : decode cX5_isNightAt 7 = .ok (.iload_n 1, 1) := by decide +kernel
theorem dX5_isNightAt_8 : decode cX5_isNightAt 8 = .ok (.iconst 5, 1) := by decide +kernel
theorem dX5_isNightAt_9 : decode cX5_isNightAt 9 = .ok (.if_icmp .le 9, 3) := by decide +kernel
theorem dX5_isNightAt_12 : decode cX5_isNightAt 12 = .ok (.iload_n 1, 1) := by decide +kernel
theorem dX5_isNightAt_13 : decode cX5_isNightAt 13 = .ok (.bipush 20, 2) := by decide +kernel
theorem dX5_isNightAt_15 : decode cX5_isNightAt 15 = .ok (.if_icmp .lt 7, 3) := by decide +kernel
theorem dX5_isNightAt_18 : decode cX5_isNightAt 18 = .ok (.iconst 1, 1) := by decide +kernel
theorem dX5_isNightAt_19 : decode cX5_isNightAt 19 = .ok (.goto 4, 3) := by decide +kernel
theorem dX5_isNightAt_22 : decode cX5_isNightAt 22 = .ok (.iconst 0, 1) := by decide +kernel
theorem dX5_isNightAt_23 : decode cX5_isNightAt 23 = .ok (.ireturn, 1) := by decide +kernel
theorem dJ9_floorMod_7cf53_0 : decode cJ9_floorMod_7cf53 0 = .ok (.iload_n 0, 1) := by decide +kernel
theorem dJ9_floorMod_7cf53_1 : decode cJ9_floorMod_7cf53 1 = .ok (.iload_n 1, 1) := by decide +kernel
theorem dJ9_floorMod_7cf53_2 : decode cJ9_floorMod_7cf53 2 = .ok (.irem, 1) := by decide +kernel
theorem dJ9_floorMod_7cf53_3 : decode cJ9_floorMod_7cf53 3 = .ok (.istore_n 2, 1) := by decide +kernel
theorem dJ9_floorMod_7cf53_4 : decode cJ9_floorMod_7cf53 4 = .ok (.iload_n 0, 1) := by decide +kernel
theorem dJ9_floorMod_7cf53_5 : decode cJ9_floorMod_7cf53 5 = .ok (.iload_n 1, 1) := by decide +kernel
theorem dJ9_floorMod_7cf53_6 : decode cJ9_floorMod_7cf53 6 = .ok (.ixor, 1) := by decide +kernel
theorem dJ9_floorMod_7cf53_7 : decode cJ9_floorMod_7cf53 7 = .ok (.ifCond .ge 11, 3) := by decide +kernel
theorem dJ9_floorMod_7cf53_10 : decode cJ9_floorMod_7cf53 10 = .ok (.iload_n 2, 1) := by decide +kernel
theorem dJ9_floorMod_7cf53_11 : decode cJ9_floorMod_7cf53 11 = .ok (.ifCond .eq 7, 3) := by decide +kernel
theorem dJ9_floorMod_7cf53_14 : decode cJ9_floorMod_7cf53 14 = .ok (.iload_n 2, 1) := by decide +kernel
theorem dJ9_floorMod_7cf53_15 : decode cJ9_floorMod_7cf53 15 = .ok (.iload_n 1, 1) := by decide +kernel
theorem dJ9_floorMod_7cf53_16 : decode cJ9_floorMod_7cf53 16 = .ok (.iadd, 1) := by decide +kernel
theorem dJ9_floorMod_7cf53_17 : decode cJ9_floorMod_7cf53 17 = .ok (.ireturn, 1) := by decide +kernel
theorem dJ9_floorMod_7cf53_18 : decode cJ9_floorMod_7cf53 18 = .ok (.iload_n 2, 1) := by decide +kernel
theorem dJ9_floorMod_7cf53_19 : decode cJ9_floorMod_7cf53 19 = .ok (.ireturn, 1) := by decide +kernel
theorem dJ9_max_7cf53_0 : decode cJ9_max_7cf53 0 = .ok (.iload_n 0, 1) := by decide +kernel
theorem dJ9_max_7cf53_1 : decode cJ9_max_7cf53 1 = .ok (.iload_n 1, 1) := by decide +kernel
theorem dJ9_max_7cf53_2 : decode cJ9_max_7cf53 2 = .ok (.if_icmp .lt 7, 3) := by decide +kernel
theorem dJ9_max_7cf53_5 : decode cJ9_max_7cf53 5 = .ok (.iload_n 0, 1) := by decide +kernel
theorem dJ9_max_7cf53_6 : decode cJ9_max_7cf53 6 = .ok (.goto 4, 3) := by decide +kernel
theorem dJ9_max_7cf53_9 : decode cJ9_max_7cf53 9 = .ok (.iload_n 1, 1) := by decide +kernel
theorem dJ9_max_7cf53_10 : decode cJ9_max_7cf53 10 = .ok (.ireturn, 1) := by decide +kernel
theorem dJ9_min_7cf53_0 : decode cJ9_min_7cf53 0 = .ok (.iload_n 0, 1) := by decide +kernel
theorem dJ9_min_7cf53_1 : decode cJ9_min_7cf53 1 = .ok (.iload_n 1, 1) := by decide +kernel
theorem dJ9_min_7cf53_2 : decode cJ9_min_7cf53 2 = .ok (.if_icmp .gt 7, 3) := by decide +kernel
theorem dJ9_min_7cf53_5 : decode cJ9_min_7cf53 5 = .ok (.iload_n 0, 1) := by decide +kernel
theorem dJ9_min_7cf53_6 : decode cJ9_min_7cf53 6 = .ok (.goto 4, 3) := by decide +kernel
theorem dJ9_min_7cf53_9 : decode cJ9_min_7cf53 9 = .ok (.iload_n 1, 1) := by decide +kernel
theorem dJ9_min_7cf53_10 : decode cJ9_min_7cf53 10 = .ok (.ireturn, 1) := by decide +kernel
