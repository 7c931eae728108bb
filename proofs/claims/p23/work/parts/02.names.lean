/-! ===== BEGIN printed: names, fields, word lists, decode rows ===== -/
def RX0 : String := "DewPond$Downs"
def TX0 : u_T := fun k => match k with
  | 0 => ("DewPond$Downs", "weather", "[LDewPond$Weather;", true)
  | 1 => ("DewPond$Downs", "ponds", "[LDewPond$Pond;", true)
  | 2 => ("DewPond$Downs", "byHeight", "[I", true)
  | 3 => ("DewPond$Downs", "flocks", "[LDewPond$Flock;", true)
  | 4 => ("DewPond$Downs", "pondCount", "I", false)
  | 5 => ("DewPond$Downs", "flockCount", "I", false)
  | 6 => ("DewPond$Downs", "day", "I", false)
  | _ => ("DewPond$Downs", "clay", "I", false)
def tyX0 : Nat → FieldType := fun k => match k with
  | 0 => .array (.object "DewPond$Weather")
  | 1 => .array (.object "DewPond$Pond")
  | 2 => .array .int
  | 3 => .array (.object "DewPond$Flock")
  | 4 => .int
  | 5 => .int
  | 6 => .int
  | _ => .int
abbrev wsX00 : List Cond := u_ws RX0 TX0 8
theorem nmX0 : ∀ a, a < 8 → ∀ b, b < 8 → a ≠ b → (TX0 a).2.1 ≠ (TX0 b).2.1 := by decide +kernel
theorem tyX0_ok : ∀ k, k < 8 → parseFieldDescriptor (TX0 k).2.2.1 = some (tyX0 k) := by decide +kernel
abbrev cX0_init : ByteArray := prog_2_method_1_code
def yX0_init : MethodName := ⟨RX0, "<init>", "(I)V"⟩
abbrev cX0_becomeLike : ByteArray := prog_2_method_2_code
def yX0_becomeLike : MethodName := ⟨RX0, "becomeLike", "(LDewPond$Downs;)V"⟩
abbrev cX0_weatherAt : ByteArray := prog_2_method_3_code
def yX0_weatherAt : MethodName := ⟨RX0, "weatherAt", "(I)LDewPond$Weather;"⟩
abbrev cX0_pondAt : ByteArray := prog_2_method_4_code
def yX0_pondAt : MethodName := ⟨RX0, "pondAt", "(I)LDewPond$Pond;"⟩
abbrev cX0_flockAt : ByteArray := prog_2_method_5_code
def yX0_flockAt : MethodName := ⟨RX0, "flockAt", "(I)LDewPond$Flock;"⟩
abbrev cX0_makePond : ByteArray := prog_2_method_6_code
def yX0_makePond : MethodName := ⟨RX0, "makePond", "(IIIII)I"⟩
abbrev cX0_makeFlock : ByteArray := prog_2_method_7_code
def yX0_makeFlock : MethodName := ⟨RX0, "makeFlock", "(II)I"⟩
abbrev cX0_liveDays : ByteArray := prog_2_method_8_code
def yX0_liveDays : MethodName := ⟨RX0, "liveDays", "(I)I"⟩
abbrev cX0_liveDay : ByteArray := prog_2_method_9_code
def yX0_liveDay : MethodName := ⟨RX0, "liveDay", "()I"⟩
abbrev cX0_waterFlocks : ByteArray := prog_2_method_10_code
def yX0_waterFlocks : MethodName := ⟨RX0, "waterFlocks", "()I"⟩
abbrev cX0_nearestWaterFor : ByteArray := prog_2_method_11_code
def yX0_nearestWaterFor : MethodName := ⟨RX0, "nearestWaterFor", "(LDewPond$Flock;)I"⟩
abbrev cX0_runOver : ByteArray := prog_2_method_12_code
def yX0_runOver : MethodName := ⟨RX0, "runOver", "()V"⟩
abbrev cX0_rotStraw : ByteArray := prog_2_method_13_code
def yX0_rotStraw : MethodName := ⟨RX0, "rotStraw", "()V"⟩
abbrev cX0_isTaken : ByteArray := prog_2_method_14_code
def yX0_isTaken : MethodName := ⟨RX0, "isTaken", "(II)Z"⟩
abbrev cX0_sourcesOf : ByteArray := prog_2_method_15_code
def yX0_sourcesOf : MethodName := ⟨RX0, "sourcesOf", "(I)I"⟩
abbrev cX0_runsDownTo : ByteArray := prog_2_method_16_code
def yX0_runsDownTo : MethodName := ⟨RX0, "runsDownTo", "(II)Z"⟩
abbrev cX0_flocksAt : ByteArray := prog_2_method_17_code
def yX0_flocksAt : MethodName := ⟨RX0, "flocksAt", "(I)I"⟩
abbrev cX0_lostFlocks : ByteArray := prog_2_method_18_code
def yX0_lostFlocks : MethodName := ⟨RX0, "lostFlocks", "()I"⟩
abbrev cX0_livingSheep : ByteArray := prog_2_method_19_code
def yX0_livingSheep : MethodName := ⟨RX0, "livingSheep", "()I"⟩
abbrev cX0_allWater : ByteArray := prog_2_method_20_code
def yX0_allWater : MethodName := ⟨RX0, "allWater", "()I"⟩
abbrev cX0_emptyPonds : ByteArray := prog_2_method_22_code
def yX0_emptyPonds : MethodName := ⟨RX0, "emptyPonds", "()I"⟩
def RX1 : String := "DewPond$Flock"
def TX1 : u_T := fun k => match k with
  | 0 => ("DewPond$Flock", "sheep", "I", false)
  | 1 => ("DewPond$Flock", "pond", "I", false)
  | 2 => ("DewPond$Flock", "thirst", "I", false)
  | 3 => ("DewPond$Flock", "roams", "Z", false)
  | _ => ("DewPond$Flock", "drunk", "I", false)
def tyX1 : Nat → FieldType := fun k => match k with
  | 0 => .int
  | 1 => .int
  | 2 => .int
  | 3 => .boolean
  | _ => .int
abbrev wsX10 : List Cond := u_ws RX1 TX1 5
theorem nmX1 : ∀ a, a < 5 → ∀ b, b < 5 → a ≠ b → (TX1 a).2.1 ≠ (TX1 b).2.1 := by decide +kernel
theorem tyX1_ok : ∀ k, k < 5 → parseFieldDescriptor (TX1 k).2.2.1 = some (tyX1 k) := by decide +kernel
abbrev cX1_init : ByteArray := prog_3_method_1_code
def yX1_init : MethodName := ⟨RX1, "<init>", "()V"⟩
abbrev cX1_becomeLike : ByteArray := prog_3_method_2_code
def yX1_becomeLike : MethodName := ⟨RX1, "becomeLike", "(LDewPond$Flock;)V"⟩
abbrev cX1_startAt : ByteArray := prog_3_method_3_code
def yX1_startAt : MethodName := ⟨RX1, "startAt", "(II)V"⟩
abbrev cX1_isLost : ByteArray := prog_3_method_4_code
def yX1_isLost : MethodName := ⟨RX1, "isLost", "()Z"⟩
abbrev cX1_need : ByteArray := prog_3_method_5_code
def yX1_need : MethodName := ⟨RX1, "need", "()I"⟩
abbrev cX1_drink : ByteArray := prog_3_method_6_code
def yX1_drink : MethodName := ⟨RX1, "drink", "(I)V"⟩
def RX2 : String := "DewPond$Pond"
def TX2 : u_T := fun k => match k with
  | 0 => ("DewPond$Pond", "x", "I", false)
  | 1 => ("DewPond$Pond", "y", "I", false)
  | 2 => ("DewPond$Pond", "height", "I", false)
  | 3 => ("DewPond$Pond", "size", "I", false)
  | 4 => ("DewPond$Pond", "depth", "I", false)
  | 5 => ("DewPond$Pond", "water", "I", false)
  | 6 => ("DewPond$Pond", "lining", "I", false)
  | 7 => ("DewPond$Pond", "hasStraw", "Z", false)
  | 8 => ("DewPond$Pond", "runsInto", "I", false)
  | _ => ("DewPond$Pond", "ranOver", "I", false)
def tyX2 : Nat → FieldType := fun k => match k with
  | 0 => .int
  | 1 => .int
  | 2 => .int
  | 3 => .int
  | 4 => .int
  | 5 => .int
  | 6 => .int
  | 7 => .boolean
  | 8 => .int
  | _ => .int
abbrev wsX20 : List Cond := u_ws RX2 TX2 10
theorem nmX2 : ∀ a, a < 10 → ∀ b, b < 10 → a ≠ b → (TX2 a).2.1 ≠ (TX2 b).2.1 := by decide +kernel
theorem tyX2_ok : ∀ k, k < 10 → parseFieldDescriptor (TX2 k).2.2.1 = some (tyX2 k) := by decide +kernel
abbrev cX2_init : ByteArray := prog_4_method_1_code
def yX2_init : MethodName := ⟨RX2, "<init>", "()V"⟩
abbrev cX2_becomeLike : ByteArray := prog_4_method_2_code
def yX2_becomeLike : MethodName := ⟨RX2, "becomeLike", "(LDewPond$Pond;)V"⟩
abbrev cX2_holds : ByteArray := prog_4_method_3_code
def yX2_holds : MethodName := ⟨RX2, "holds", "()I"⟩
abbrev cX2_distanceTo : ByteArray := prog_4_method_4_code
def yX2_distanceTo : MethodName := ⟨RX2, "distanceTo", "(LDewPond$Pond;)I"⟩
abbrev cX2_isLowEnoughToPuddle : ByteArray := prog_4_method_5_code
def yX2_isLowEnoughToPuddle : MethodName := ⟨RX2, "isLowEnoughToPuddle", "()Z"⟩
abbrev cX2_lineWith : ByteArray := prog_4_method_6_code
def yX2_lineWith : MethodName := ⟨RX2, "lineWith", "(I)I"⟩
abbrev cX2_takeMist : ByteArray := prog_4_method_7_code
def yX2_takeMist : MethodName := ⟨RX2, "takeMist", "(I)V"⟩
abbrev cX2_takeRain : ByteArray := prog_4_method_8_code
def yX2_takeRain : MethodName := ⟨RX2, "takeRain", "(I)V"⟩
abbrev cX2_giveDrink : ByteArray := prog_4_method_9_code
def yX2_giveDrink : MethodName := ⟨RX2, "giveDrink", "(I)I"⟩
abbrev cX2_treadBy : ByteArray := prog_4_method_10_code
def yX2_treadBy : MethodName := ⟨RX2, "treadBy", "(I)V"⟩
abbrev cX2_dryBy : ByteArray := prog_4_method_11_code
def yX2_dryBy : MethodName := ⟨RX2, "dryBy", "(I)V"⟩
abbrev cX2_leak : ByteArray := prog_4_method_12_code
def yX2_leak : MethodName := ⟨RX2, "leak", "()V"⟩
abbrev cX2_spill : ByteArray := prog_4_method_13_code
def yX2_spill : MethodName := ⟨RX2, "spill", "()I"⟩
def RX3 : String := "DewPond$Weather"
def TX3 : u_T := fun k => match k with
  | 0 => ("DewPond$Weather", "mist", "I", false)
  | 1 => ("DewPond$Weather", "rain", "I", false)
  | _ => ("DewPond$Weather", "sun", "I", false)
def tyX3 : Nat → FieldType := fun k => match k with
  | 0 => .int
  | 1 => .int
  | _ => .int
abbrev wsX30 : List Cond := u_ws RX3 TX3 3
theorem nmX3 : ∀ a, a < 3 → ∀ b, b < 3 → a ≠ b → (TX3 a).2.1 ≠ (TX3 b).2.1 := by decide +kernel
theorem tyX3_ok : ∀ k, k < 3 → parseFieldDescriptor (TX3 k).2.2.1 = some (tyX3 k) := by decide +kernel
abbrev cX3_init : ByteArray := prog_5_method_1_code
def yX3_init : MethodName := ⟨RX3, "<init>", "()V"⟩
abbrev cX3_becomeLike : ByteArray := prog_5_method_2_code
def yX3_becomeLike : MethodName := ⟨RX3, "becomeLike", "(LDewPond$Weather;)V"⟩
abbrev cX3_asNumber : ByteArray := prog_5_method_3_code
def yX3_asNumber : MethodName := ⟨RX3, "asNumber", "()I"⟩
def RX4 : String := "DewPond"
def TX4 : u_T := fun k => match k with
  | 0 => ("DewPond", "downs", "LDewPond$Downs;", true)
  | _ => ("DewPond", "ahead", "LDewPond$Downs;", true)
def tyX4 : Nat → FieldType := fun k => match k with
  | 0 => .object "DewPond$Downs"
  | _ => .object "DewPond$Downs"
abbrev wsX40 : List Cond := u_ws RX4 TX4 2
theorem nmX4 : ∀ a, a < 2 → ∀ b, b < 2 → a ≠ b → (TX4 a).2.1 ≠ (TX4 b).2.1 := by decide +kernel
theorem tyX4_ok : ∀ k, k < 2 → parseFieldDescriptor (TX4 k).2.2.1 = some (tyX4 k) := by decide +kernel
abbrev cX4_init : ByteArray := prog_1_method_1_code
def yX4_init : MethodName := ⟨RX4, "<init>", "()V"⟩
abbrev cX4_dig : ByteArray := prog_1_method_2_code
def yX4_dig : MethodName := ⟨RX4, "dig", "(IIIII)I"⟩
abbrev cX4_link : ByteArray := prog_1_method_3_code
def yX4_link : MethodName := ⟨RX4, "link", "(II)I"⟩
abbrev cX4_puddle : ByteArray := prog_1_method_4_code
def yX4_puddle : MethodName := ⟨RX4, "puddle", "(II)I"⟩
abbrev cX4_strew : ByteArray := prog_1_method_5_code
def yX4_strew : MethodName := ⟨RX4, "strew", "(IZ)Z"⟩
abbrev cX4_pour : ByteArray := prog_1_method_6_code
def yX4_pour : MethodName := ⟨RX4, "pour", "(II)I"⟩
abbrev cX4_pond : ByteArray := prog_1_method_7_code
def yX4_pond : MethodName := ⟨RX4, "pond", "(II)I"⟩
abbrev cX4_setWeather : ByteArray := prog_1_method_8_code
def yX4_setWeather : MethodName := ⟨RX4, "setWeather", "(IIII)I"⟩
abbrev cX4_bring : ByteArray := prog_1_method_9_code
def yX4_bring : MethodName := ⟨RX4, "bring", "(I)I"⟩
abbrev cX4_addFlock : ByteArray := prog_1_method_10_code
def yX4_addFlock : MethodName := ⟨RX4, "addFlock", "(II)I"⟩
abbrev cX4_drive : ByteArray := prog_1_method_11_code
def yX4_drive : MethodName := ⟨RX4, "drive", "(II)I"⟩
abbrev cX4_setRoams : ByteArray := prog_1_method_12_code
def yX4_setRoams : MethodName := ⟨RX4, "setRoams", "(IZ)Z"⟩
abbrev cX4_flock : ByteArray := prog_1_method_13_code
def yX4_flock : MethodName := ⟨RX4, "flock", "(II)I"⟩
abbrev cX4_pass : ByteArray := prog_1_method_14_code
def yX4_pass : MethodName := ⟨RX4, "pass", "(I)I"⟩
abbrev cX4_count : ByteArray := prog_1_method_15_code
def yX4_count : MethodName := ⟨RX4, "count", "(I)I"⟩
abbrev cX4_foresee : ByteArray := prog_1_method_16_code
def yX4_foresee : MethodName := ⟨RX4, "foresee", "(II)I"⟩
abbrev cX4_lasts : ByteArray := prog_1_method_17_code
def yX4_lasts : MethodName := ⟨RX4, "lasts", "(I)I"⟩
abbrev cX4_keep : ByteArray := prog_1_method_18_code
def yX4_keep : MethodName := ⟨RX4, "keep", "(II)I"⟩
abbrev cX4_canKeep : ByteArray := prog_1_method_22_code
def yX4_canKeep : MethodName := ⟨RX4, "canKeep", "(III)Z"⟩
abbrev cX4_isWithin : ByteArray := prog_1_method_24_code
def yX4_isWithin : MethodName := ⟨RX4, "isWithin", "(III)Z"⟩
def RX5 : String := "DewPondLaw$Sim"
def TX5 : u_T := fun k => match k with
  | 0 => ("DewPondLaw$Sim", "day", "I", false)
  | 1 => ("DewPondLaw$Sim", "clay", "I", false)
  | 2 => ("DewPondLaw$Sim", "weather", "[[I", false)
  | 3 => ("DewPondLaw$Sim", "ponds", "[[I", false)
  | _ => ("DewPondLaw$Sim", "flocks", "[[I", false)
def tyX5 : Nat → FieldType := fun k => match k with
  | 0 => .int
  | 1 => .int
  | 2 => .array (.array .int)
  | 3 => .array (.array .int)
  | _ => .array (.array .int)
abbrev wsX50 : List Cond := u_ws RX5 TX5 5
theorem nmX5 : ∀ a, a < 5 → ∀ b, b < 5 → a ≠ b → (TX5 a).2.1 ≠ (TX5 b).2.1 := by decide +kernel
theorem tyX5_ok : ∀ k, k < 5 → parseFieldDescriptor (TX5 k).2.2.1 = some (tyX5 k) := by decide +kernel
abbrev cX5_init : ByteArray := prog_7_method_1_code
def yX5_init : MethodName := ⟨RX5, "<init>", "()V"⟩
abbrev cX5_more : ByteArray := prog_7_method_2_code
def yX5_more : MethodName := ⟨RX5, "more", "([[I[I)[[I"⟩
abbrev cX5_holds : ByteArray := prog_7_method_4_code
def yX5_holds : MethodName := ⟨RX5, "holds", "(I)I"⟩
abbrev cX5_far : ByteArray := prog_7_method_5_code
def yX5_far : MethodName := ⟨RX5, "far", "(II)I"⟩
abbrev cX5_to : ByteArray := prog_7_method_6_code
def yX5_to : MethodName := ⟨RX5, "to", "([I)I"⟩
abbrev cX5_pass : ByteArray := prog_7_method_7_code
def yX5_pass : MethodName := ⟨RX5, "pass", "()I"⟩
def RX6 : String := "DewPondModel"
def TX6 : u_T := fun k => match k with
  | _ => ("", "", "", false)
def tyX6 : Nat → FieldType := fun k => match k with
  | _ => .int
abbrev wsX60 : List Cond := u_ws RX6 TX6 0
theorem nmX6 : ∀ a, a < 0 → ∀ b, b < 0 → a ≠ b → (TX6 a).2.1 ≠ (TX6 b).2.1 := by decide +kernel
theorem tyX6_ok : ∀ k, k < 0 → parseFieldDescriptor (TX6 k).2.2.1 = some (tyX6 k) := by decide +kernel
def RJ9 : String := "java/lang/Math"
def TJ9 : u_T := fun k => match k with
  | _ => ("", "", "", false)
def tyJ9 : Nat → FieldType := fun k => match k with
  | _ => .int
theorem nmJ9 : ∀ a, a < 0 → ∀ b, b < 0 → a ≠ b → (TJ9 a).2.1 ≠ (TJ9 b).2.1 := by decide +kernel
theorem tyJ9_ok : ∀ k, k < 0 → parseFieldDescriptor (TJ9 k).2.2.1 = some (tyJ9 k) := by decide +kernel
abbrev cJ9_floorMod_7cf53 : ByteArray := prog_13_method_50_code
def yJ9_floorMod_7cf53 : MethodName := ⟨RJ9, "floorMod", "(II)I"⟩
abbrev cJ9_abs_0f7a4 : ByteArray := prog_13_method_59_code
def yJ9_abs_0f7a4 : MethodName := ⟨RJ9, "abs", "(I)I"⟩
abbrev cJ9_max_7cf53 : ByteArray := prog_13_method_65_code
def yJ9_max_7cf53 : MethodName := ⟨RJ9, "max", "(II)I"⟩
abbrev cJ9_min_7cf53 : ByteArray := prog_13_method_69_code
def yJ9_min_7cf53 : MethodName := ⟨RJ9, "min", "(II)I"⟩
def RJ0 : String := "java/lang/String"
def TJ0 : u_T := fun k => match k with
  | _ => ("", "", "", false)
def tyJ0 : Nat → FieldType := fun k => match k with
  | _ => .int
theorem nmJ0 : ∀ a, a < 0 → ∀ b, b < 0 → a ≠ b → (TJ0 a).2.1 ≠ (TJ0 b).2.1 := by decide +kernel
theorem tyJ0_ok : ∀ k, k < 0 → parseFieldDescriptor (TJ0 k).2.2.1 = some (tyJ0 k) := by decide +kernel
def RL : String := "DewPondLaw"
abbrev cL_below : ByteArray := method_2_code
def yL_below : MethodName := ⟨RL, "below", "(II)I"⟩
abbrev cL_cell : ByteArray := method_3_code
def yL_cell : MethodName := ⟨RL, "cell", "([II)I"⟩
abbrev cL_build : ByteArray := method_4_code
def yL_build : MethodName := ⟨RL, "build", "(LDewPond;[II)LDewPondLaw$Sim;"⟩
abbrev cL_act : ByteArray := method_5_code
def yL_act : MethodName := ⟨RL, "act", "(LDewPond;LDewPondLaw$Sim;I)Z"⟩
abbrev cL_law : ByteArray := code
def yL_law : MethodName := ⟨RL, "law", "([I)Z"⟩
abbrev vwCl : List vw_C := [(RX0, TX0, 8), (RX1, TX1, 5), (RX2, TX2, 10), (RX3, TX3, 3), (RX4, TX4, 2), (RX5, TX5, 5)]
