def RX0 : String := "FloodWardens$Callers"
def TX0 : u_T := fun k => match k with
  | 0 => ("FloodWardens$Numbered", "cell", "[I", true)
  | 1 => ("FloodWardens$Numbered", "count", "I", false)
  | _ => ("FloodWardens$Callers", "warned", "[I", true)
def tyX0 : Nat → FieldType := fun k => match k with
  | 0 => .array .int
  | 1 => .int
  | _ => .array .int
abbrev wsX00 : List Cond := u_ws RX0 TX0 3
theorem nmX0 : ∀ a, a < 3 → ∀ b, b < 3 → a ≠ b → (TX0 a).2.1 ≠ (TX0 b).2.1 := by decide +kernel
theorem tyX0_ok : ∀ k, k < 3 → parseFieldDescriptor (TX0 k).2.2.1 = some (tyX0 k) := by decide +kernel
abbrev cX0_init : ByteArray := prog_2_method_1_code
def yX0_init : MethodName := ⟨RX0, "<init>", "()V"⟩
abbrev cX0_post : ByteArray := prog_2_method_2_code
def yX0_post : MethodName := ⟨RX0, "post", "(I)I"⟩
abbrev cX0_copyFrom : ByteArray := prog_2_method_3_code
def yX0_copyFrom : MethodName := ⟨RX0, "copyFrom", "(LFloodWardens$Callers;)V"⟩
abbrev cX0_callOut : ByteArray := prog_2_method_4_code
def yX0_callOut : MethodName := ⟨RX0, "callOut", "(LFloodWardens$Households;LFloodWardens$Ways;LFloodWardens$Land;)V"⟩
abbrev cX0_tell : ByteArray := prog_2_method_5_code
def yX0_tell : MethodName := ⟨RX0, "tell", "(II)I"⟩
def RX1 : String := "FloodWardens$Gauges"
def TX1 : u_T := fun k => match k with
  | 0 => ("FloodWardens$Numbered", "cell", "[I", true)
  | 1 => ("FloodWardens$Numbered", "count", "I", false)
  | _ => ("FloodWardens$Gauges", "mark", "[I", true)
def tyX1 : Nat → FieldType := fun k => match k with
  | 0 => .array .int
  | 1 => .int
  | _ => .array .int
abbrev wsX10 : List Cond := u_ws RX1 TX1 3
theorem nmX1 : ∀ a, a < 3 → ∀ b, b < 3 → a ≠ b → (TX1 a).2.1 ≠ (TX1 b).2.1 := by decide +kernel
theorem tyX1_ok : ∀ k, k < 3 → parseFieldDescriptor (TX1 k).2.2.1 = some (tyX1 k) := by decide +kernel
abbrev cX1_init : ByteArray := prog_3_method_1_code
def yX1_init : MethodName := ⟨RX1, "<init>", "()V"⟩
abbrev cX1_hang : ByteArray := prog_3_method_2_code
def yX1_hang : MethodName := ⟨RX1, "hang", "(II)I"⟩
abbrev cX1_copyFrom : ByteArray := prog_3_method_3_code
def yX1_copyFrom : MethodName := ⟨RX1, "copyFrom", "(LFloodWardens$Gauges;)V"⟩
abbrev cX1_isRinging : ByteArray := prog_3_method_4_code
def yX1_isRinging : MethodName := ⟨RX1, "isRinging", "(ILFloodWardens$Land;)Z"⟩
abbrev cX1_ringing : ByteArray := prog_3_method_5_code
def yX1_ringing : MethodName := ⟨RX1, "ringing", "(LFloodWardens$Land;)I"⟩
abbrev cX1_tell : ByteArray := prog_3_method_6_code
def yX1_tell : MethodName := ⟨RX1, "tell", "(IILFloodWardens$Land;)I"⟩
def RX2 : String := "FloodWardens$Households"
def TX2 : u_T := fun k => match k with
  | 0 => ("FloodWardens$Numbered", "cell", "[I", true)
  | 1 => ("FloodWardens$Numbered", "count", "I", false)
  | 2 => ("FloodWardens$Households", "people", "[I", true)
  | 3 => ("FloodWardens$Households", "state", "[I", true)
  | _ => ("FloodWardens$Households", "lostPeople", "I", false)
def tyX2 : Nat → FieldType := fun k => match k with
  | 0 => .array .int
  | 1 => .int
  | 2 => .array .int
  | 3 => .array .int
  | _ => .int
abbrev wsX20 : List Cond := u_ws RX2 TX2 5
theorem nmX2 : ∀ a, a < 5 → ∀ b, b < 5 → a ≠ b → (TX2 a).2.1 ≠ (TX2 b).2.1 := by decide +kernel
theorem tyX2_ok : ∀ k, k < 5 → parseFieldDescriptor (TX2 k).2.2.1 = some (tyX2 k) := by decide +kernel
abbrev cX2_init : ByteArray := prog_4_method_1_code
def yX2_init : MethodName := ⟨RX2, "<init>", "()V"⟩
abbrev cX2_moveIn : ByteArray := prog_4_method_2_code
def yX2_moveIn : MethodName := ⟨RX2, "moveIn", "(II)I"⟩
abbrev cX2_copyFrom : ByteArray := prog_4_method_3_code
def yX2_copyFrom : MethodName := ⟨RX2, "copyFrom", "(LFloodWardens$Households;)V"⟩
abbrev cX2_isOut : ByteArray := prog_4_method_4_code
def yX2_isOut : MethodName := ⟨RX2, "isOut", "(I)Z"⟩
abbrev cX2_peopleWho : ByteArray := prog_4_method_5_code
def yX2_peopleWho : MethodName := ⟨RX2, "peopleWho", "(I)I"⟩
abbrev cX2_peopleOutAt : ByteArray := prog_4_method_6_code
def yX2_peopleOutAt : MethodName := ⟨RX2, "peopleOutAt", "(I)I"⟩
abbrev cX2_nearestAtHome : ByteArray := prog_4_method_7_code
def yX2_nearestAtHome : MethodName := ⟨RX2, "nearestAtHome", "(LFloodWardens$Ways;)I"⟩
abbrev cX2_warnAround : ByteArray := prog_4_method_8_code
def yX2_warnAround : MethodName := ⟨RX2, "warnAround", "(I)I"⟩
abbrev cX2_goToRefuges : ByteArray := prog_4_method_9_code
def yX2_goToRefuges : MethodName := ⟨RX2, "goToRefuges", "(LFloodWardens$Refuges;LFloodWardens$Ways;LFloodWardens$Land;)V"⟩
abbrev cX2_enterRefuge : ByteArray := prog_4_method_10_code
def yX2_enterRefuge : MethodName := ⟨RX2, "enterRefuge", "(ILFloodWardens$Refuges;)V"⟩
abbrev cX2_drown : ByteArray := prog_4_method_11_code
def yX2_drown : MethodName := ⟨RX2, "drown", "(LFloodWardens$Land;)V"⟩
def RX3 : String := "FloodWardens$Land"
def TX3 : u_T := fun k => match k with
  | 0 => ("FloodWardens$Land", "ground", "[I", true)
  | 1 => ("FloodWardens$Land", "bags", "[I", true)
  | 2 => ("FloodWardens$Land", "water", "[I", true)
  | 3 => ("FloodWardens$Land", "waterThen", "[I", true)
  | _ => ("FloodWardens$Land", "table", "[I", true)
def tyX3 : Nat → FieldType := fun k => match k with
  | 0 => .array .int
  | 1 => .array .int
  | 2 => .array .int
  | 3 => .array .int
  | _ => .array .int
abbrev wsX30 : List Cond := u_ws RX3 TX3 5
theorem nmX3 : ∀ a, a < 5 → ∀ b, b < 5 → a ≠ b → (TX3 a).2.1 ≠ (TX3 b).2.1 := by decide +kernel
theorem tyX3_ok : ∀ k, k < 5 → parseFieldDescriptor (TX3 k).2.2.1 = some (tyX3 k) := by decide +kernel
abbrev cX3_init : ByteArray := prog_5_method_1_code
def yX3_init : MethodName := ⟨RX3, "<init>", "()V"⟩
abbrev cX3_copyFrom : ByteArray := prog_5_method_2_code
def yX3_copyFrom : MethodName := ⟨RX3, "copyFrom", "(LFloodWardens$Land;)V"⟩
abbrev cX3_neighbourOf : ByteArray := prog_5_method_3_code
def yX3_neighbourOf : MethodName := ⟨RX3, "neighbourOf", "(II)I"⟩
abbrev cX3_isSameOrNeighbour : ByteArray := prog_5_method_4_code
def yX3_isSameOrNeighbour : MethodName := ⟨RX3, "isSameOrNeighbour", "(II)Z"⟩
abbrev cX3_level : ByteArray := prog_5_method_5_code
def yX3_level : MethodName := ⟨RX3, "level", "(I)I"⟩
abbrev cX3_isWalkable : ByteArray := prog_5_method_6_code
def yX3_isWalkable : MethodName := ⟨RX3, "isWalkable", "(I)Z"⟩
abbrev cX3_rise : ByteArray := prog_5_method_7_code
def yX3_rise : MethodName := ⟨RX3, "rise", "(I)V"⟩
abbrev cX3_flow : ByteArray := prog_5_method_8_code
def yX3_flow : MethodName := ⟨RX3, "flow", "()V"⟩
abbrev cX3_lowestNeighbour : ByteArray := prog_5_method_9_code
def yX3_lowestNeighbour : MethodName := ⟨RX3, "lowestNeighbour", "(I)I"⟩
abbrev cX3_givenTo : ByteArray := prog_5_method_10_code
def yX3_givenTo : MethodName := ⟨RX3, "givenTo", "(II)I"⟩
abbrev cX3_bagsInTown : ByteArray := prog_5_method_11_code
def yX3_bagsInTown : MethodName := ⟨RX3, "bagsInTown", "()I"⟩
abbrev cX3_wetStreets : ByteArray := prog_5_method_12_code
def yX3_wetStreets : MethodName := ⟨RX3, "wetStreets", "()I"⟩
abbrev cX3_waterInStreets : ByteArray := prog_5_method_13_code
def yX3_waterInStreets : MethodName := ⟨RX3, "waterInStreets", "()I"⟩
def RX4 : String := "FloodWardens$Numbered"
def TX4 : u_T := fun k => match k with
  | _ => ("", "", "", false)
def tyX4 : Nat → FieldType := fun k => match k with
  | _ => .int
abbrev wsX40 : List Cond := u_ws RX4 TX4 0
theorem nmX4 : ∀ a, a < 0 → ∀ b, b < 0 → a ≠ b → (TX4 a).2.1 ≠ (TX4 b).2.1 := by decide +kernel
theorem tyX4_ok : ∀ k, k < 0 → parseFieldDescriptor (TX4 k).2.2.1 = some (tyX4 k) := by decide +kernel
abbrev cX4_init : ByteArray := prog_6_method_1_code
def yX4_init : MethodName := ⟨RX4, "<init>", "([I)V"⟩
abbrev cX4_isFull : ByteArray := prog_6_method_2_code
def yX4_isFull : MethodName := ⟨RX4, "isFull", "()Z"⟩
abbrev cX4_has : ByteArray := prog_6_method_3_code
def yX4_has : MethodName := ⟨RX4, "has", "(I)Z"⟩
abbrev cX4_firstIn : ByteArray := prog_6_method_4_code
def yX4_firstIn : MethodName := ⟨RX4, "firstIn", "(I)I"⟩
abbrev cX4_canComeTo : ByteArray := prog_6_method_5_code
def yX4_canComeTo : MethodName := ⟨RX4, "canComeTo", "(I)Z"⟩
abbrev cX4_xOf : ByteArray := prog_6_method_6_code
def yX4_xOf : MethodName := ⟨RX4, "xOf", "(I)I"⟩
abbrev cX4_yOf : ByteArray := prog_6_method_7_code
def yX4_yOf : MethodName := ⟨RX4, "yOf", "(I)I"⟩
abbrev cX4_copyCells : ByteArray := prog_6_method_8_code
def yX4_copyCells : MethodName := ⟨RX4, "copyCells", "(LFloodWardens$Numbered;)V"⟩
def RX5 : String := "FloodWardens$Pumps"
def TX5 : u_T := fun k => match k with
  | 0 => ("FloodWardens$Numbered", "cell", "[I", true)
  | 1 => ("FloodWardens$Numbered", "count", "I", false)
  | 2 => ("FloodWardens$Pumps", "power", "[I", true)
  | 3 => ("FloodWardens$Pumps", "fuel", "[I", true)
  | 4 => ("FloodWardens$Pumps", "running", "[Z", true)
  | _ => ("FloodWardens$Pumps", "taken", "[I", true)
def tyX5 : Nat → FieldType := fun k => match k with
  | 0 => .array .int
  | 1 => .int
  | 2 => .array .int
  | 3 => .array .int
  | 4 => .array .boolean
  | _ => .array .int
abbrev wsX50 : List Cond := u_ws RX5 TX5 6
theorem nmX5 : ∀ a, a < 6 → ∀ b, b < 6 → a ≠ b → (TX5 a).2.1 ≠ (TX5 b).2.1 := by decide +kernel
theorem tyX5_ok : ∀ k, k < 6 → parseFieldDescriptor (TX5 k).2.2.1 = some (tyX5 k) := by decide +kernel
abbrev cX5_init : ByteArray := prog_7_method_1_code
def yX5_init : MethodName := ⟨RX5, "<init>", "()V"⟩
abbrev cX5_setUp : ByteArray := prog_7_method_2_code
def yX5_setUp : MethodName := ⟨RX5, "setUp", "(III)I"⟩
abbrev cX5_copyFrom : ByteArray := prog_7_method_3_code
def yX5_copyFrom : MethodName := ⟨RX5, "copyFrom", "(LFloodWardens$Pumps;)V"⟩
abbrev cX5_work : ByteArray := prog_7_method_4_code
def yX5_work : MethodName := ⟨RX5, "work", "(LFloodWardens$Land;)V"⟩
abbrev cX5_fuelOfAll : ByteArray := prog_7_method_5_code
def yX5_fuelOfAll : MethodName := ⟨RX5, "fuelOfAll", "()I"⟩
abbrev cX5_tell : ByteArray := prog_7_method_6_code
def yX5_tell : MethodName := ⟨RX5, "tell", "(II)I"⟩
def RX6 : String := "FloodWardens$Refuges"
def TX6 : u_T := fun k => match k with
  | 0 => ("FloodWardens$Numbered", "cell", "[I", true)
  | 1 => ("FloodWardens$Numbered", "count", "I", false)
  | 2 => ("FloodWardens$Refuges", "room", "[I", true)
  | 3 => ("FloodWardens$Refuges", "people", "[I", true)
  | _ => ("FloodWardens$Refuges", "guests", "[I", true)
def tyX6 : Nat → FieldType := fun k => match k with
  | 0 => .array .int
  | 1 => .int
  | 2 => .array .int
  | 3 => .array .int
  | _ => .array .int
abbrev wsX60 : List Cond := u_ws RX6 TX6 5
theorem nmX6 : ∀ a, a < 5 → ∀ b, b < 5 → a ≠ b → (TX6 a).2.1 ≠ (TX6 b).2.1 := by decide +kernel
theorem tyX6_ok : ∀ k, k < 5 → parseFieldDescriptor (TX6 k).2.2.1 = some (tyX6 k) := by decide +kernel
abbrev cX6_init : ByteArray := prog_8_method_1_code
def yX6_init : MethodName := ⟨RX6, "<init>", "()V"⟩
abbrev cX6_open : ByteArray := prog_8_method_2_code
def yX6_open : MethodName := ⟨RX6, "open", "(II)I"⟩
abbrev cX6_copyFrom : ByteArray := prog_8_method_3_code
def yX6_copyFrom : MethodName := ⟨RX6, "copyFrom", "(LFloodWardens$Refuges;)V"⟩
abbrev cX6_hasRoomFor : ByteArray := prog_8_method_4_code
def yX6_hasRoomFor : MethodName := ⟨RX6, "hasRoomFor", "(II)Z"⟩
abbrev cX6_takeIn : ByteArray := prog_8_method_5_code
def yX6_takeIn : MethodName := ⟨RX6, "takeIn", "(II)V"⟩
abbrev cX6_nearestWithRoom : ByteArray := prog_8_method_6_code
def yX6_nearestWithRoom : MethodName := ⟨RX6, "nearestWithRoom", "(ILFloodWardens$Ways;)I"⟩
abbrev cX6_tell : ByteArray := prog_8_method_7_code
def yX6_tell : MethodName := ⟨RX6, "tell", "(II)I"⟩
def RX7 : String := "FloodWardens$Town"
def TX7 : u_T := fun k => match k with
  | 0 => ("FloodWardens$Town", "hour", "I", false)
  | 1 => ("FloodWardens$Town", "land", "LFloodWardens$Land;", true)
  | 2 => ("FloodWardens$Town", "pumps", "LFloodWardens$Pumps;", true)
  | 3 => ("FloodWardens$Town", "gauges", "LFloodWardens$Gauges;", true)
  | 4 => ("FloodWardens$Town", "refuges", "LFloodWardens$Refuges;", true)
  | 5 => ("FloodWardens$Town", "households", "LFloodWardens$Households;", true)
  | 6 => ("FloodWardens$Town", "callers", "LFloodWardens$Callers;", true)
  | _ => ("FloodWardens$Town", "ways", "LFloodWardens$Ways;", true)
def tyX7 : Nat → FieldType := fun k => match k with
  | 0 => .int
  | 1 => .object "FloodWardens$Land"
  | 2 => .object "FloodWardens$Pumps"
  | 3 => .object "FloodWardens$Gauges"
  | 4 => .object "FloodWardens$Refuges"
  | 5 => .object "FloodWardens$Households"
  | 6 => .object "FloodWardens$Callers"
  | _ => .object "FloodWardens$Ways"
abbrev wsX70 : List Cond := u_ws RX7 TX7 8
theorem nmX7 : ∀ a, a < 8 → ∀ b, b < 8 → a ≠ b → (TX7 a).2.1 ≠ (TX7 b).2.1 := by decide +kernel
theorem tyX7_ok : ∀ k, k < 8 → parseFieldDescriptor (TX7 k).2.2.1 = some (tyX7 k) := by decide +kernel
abbrev cX7_init : ByteArray := prog_9_method_1_code
def yX7_init : MethodName := ⟨RX7, "<init>", "()V"⟩
abbrev cX7_copyFrom : ByteArray := prog_9_method_2_code
def yX7_copyFrom : MethodName := ⟨RX7, "copyFrom", "(LFloodWardens$Town;)V"⟩
abbrev cX7_passHours : ByteArray := prog_9_method_3_code
def yX7_passHours : MethodName := ⟨RX7, "passHours", "(I)V"⟩
abbrev cX7_passHour : ByteArray := prog_9_method_4_code
def yX7_passHour : MethodName := ⟨RX7, "passHour", "()V"⟩
abbrev cX7_passWaterHour : ByteArray := prog_9_method_5_code
def yX7_passWaterHour : MethodName := ⟨RX7, "passWaterHour", "()V"⟩
abbrev cX7_tellCell : ByteArray := prog_9_method_6_code
def yX7_tellCell : MethodName := ⟨RX7, "tellCell", "(II)I"⟩
abbrev cX7_tellHousehold : ByteArray := prog_9_method_7_code
def yX7_tellHousehold : MethodName := ⟨RX7, "tellHousehold", "(II)I"⟩
abbrev cX7_stepsToRefuge : ByteArray := prog_9_method_8_code
def yX7_stepsToRefuge : MethodName := ⟨RX7, "stepsToRefuge", "(I)I"⟩
abbrev cX7_tellCount : ByteArray := prog_9_method_9_code
def yX7_tellCount : MethodName := ⟨RX7, "tellCount", "(I)I"⟩
def RX8 : String := "FloodWardens$Ways"
def TX8 : u_T := fun k => match k with
  | 0 => ("FloodWardens$Ways", "steps", "[I", true)
  | 1 => ("FloodWardens$Ways", "firstStop", "[I", true)
  | 2 => ("FloodWardens$Ways", "reached", "[I", true)
  | _ => ("FloodWardens$Ways", "reachedCount", "I", false)
def tyX8 : Nat → FieldType := fun k => match k with
  | 0 => .array .int
  | 1 => .array .int
  | 2 => .array .int
  | _ => .int
abbrev wsX80 : List Cond := u_ws RX8 TX8 4
theorem nmX8 : ∀ a, a < 4 → ∀ b, b < 4 → a ≠ b → (TX8 a).2.1 ≠ (TX8 b).2.1 := by decide +kernel
theorem tyX8_ok : ∀ k, k < 4 → parseFieldDescriptor (TX8 k).2.2.1 = some (tyX8 k) := by decide +kernel
abbrev cX8_init : ByteArray := prog_10_method_1_code
def yX8_init : MethodName := ⟨RX8, "<init>", "()V"⟩
abbrev cX8_search : ByteArray := prog_10_method_2_code
def yX8_search : MethodName := ⟨RX8, "search", "(ILFloodWardens$Land;)V"⟩
abbrev cX8_goOnFrom : ByteArray := prog_10_method_3_code
def yX8_goOnFrom : MethodName := ⟨RX8, "goOnFrom", "(ILFloodWardens$Land;)V"⟩
abbrev cX8_isNearer : ByteArray := prog_10_method_4_code
def yX8_isNearer : MethodName := ⟨RX8, "isNearer", "(II)Z"⟩
def RX9 : String := "FloodWardens"
def TX9 : u_T := fun k => match k with
  | 0 => ("FloodWardens", "town", "LFloodWardens$Town;", true)
  | _ => ("FloodWardens", "trial", "LFloodWardens$Town;", true)
def tyX9 : Nat → FieldType := fun k => match k with
  | 0 => .object "FloodWardens$Town"
  | _ => .object "FloodWardens$Town"
abbrev wsX90 : List Cond := u_ws RX9 TX9 2
theorem nmX9 : ∀ a, a < 2 → ∀ b, b < 2 → a ≠ b → (TX9 a).2.1 ≠ (TX9 b).2.1 := by decide +kernel
theorem tyX9_ok : ∀ k, k < 2 → parseFieldDescriptor (TX9 k).2.2.1 = some (tyX9 k) := by decide +kernel
abbrev cX9_init : ByteArray := prog_1_method_1_code
def yX9_init : MethodName := ⟨RX9, "<init>", "()V"⟩
abbrev cX9_setGround : ByteArray := prog_1_method_2_code
def yX9_setGround : MethodName := ⟨RX9, "setGround", "(III)I"⟩
abbrev cX9_lay : ByteArray := prog_1_method_3_code
def yX9_lay : MethodName := ⟨RX9, "lay", "(III)I"⟩
abbrev cX9_setRiver : ByteArray := prog_1_method_4_code
def yX9_setRiver : MethodName := ⟨RX9, "setRiver", "(II)I"⟩
abbrev cX9_addPump : ByteArray := prog_1_method_5_code
def yX9_addPump : MethodName := ⟨RX9, "addPump", "(IIII)I"⟩
abbrev cX9_addGauge : ByteArray := prog_1_method_7_code
def yX9_addGauge : MethodName := ⟨RX9, "addGauge", "(III)I"⟩
abbrev cX9_addRefuge : ByteArray := prog_1_method_8_code
def yX9_addRefuge : MethodName := ⟨RX9, "addRefuge", "(III)I"⟩
abbrev cX9_settle : ByteArray := prog_1_method_9_code
def yX9_settle : MethodName := ⟨RX9, "settle", "(III)I"⟩
abbrev cX9_addCaller : ByteArray := prog_1_method_10_code
def yX9_addCaller : MethodName := ⟨RX9, "addCaller", "(II)I"⟩
abbrev cX9_cell : ByteArray := prog_1_method_11_code
def yX9_cell : MethodName := ⟨RX9, "cell", "(III)I"⟩
abbrev cX9_gauge : ByteArray := prog_1_method_13_code
def yX9_gauge : MethodName := ⟨RX9, "gauge", "(II)I"⟩
abbrev cX9_refuge : ByteArray := prog_1_method_14_code
def yX9_refuge : MethodName := ⟨RX9, "refuge", "(II)I"⟩
abbrev cX9_household : ByteArray := prog_1_method_15_code
def yX9_household : MethodName := ⟨RX9, "household", "(II)I"⟩
abbrev cX9_count : ByteArray := prog_1_method_17_code
def yX9_count : MethodName := ⟨RX9, "count", "(I)I"⟩
abbrev cX9_pass : ByteArray := prog_1_method_18_code
def yX9_pass : MethodName := ⟨RX9, "pass", "(I)I"⟩
abbrev cX9_foresee : ByteArray := prog_1_method_19_code
def yX9_foresee : MethodName := ⟨RX9, "foresee", "(II)I"⟩
abbrev cX9_rings : ByteArray := prog_1_method_20_code
def yX9_rings : MethodName := ⟨RX9, "rings", "(I)I"⟩
abbrev cX9_digest : ByteArray := prog_1_method_23_code
def yX9_digest : MethodName := ⟨RX9, "digest", "()J"⟩
abbrev cX9_digestOfTools : ByteArray := prog_1_method_24_code
def yX9_digestOfTools : MethodName := ⟨RX9, "digestOfTools", "(J)J"⟩
abbrev cX9_digestOfPeople : ByteArray := prog_1_method_25_code
def yX9_digestOfPeople : MethodName := ⟨RX9, "digestOfPeople", "(J)J"⟩
abbrev cX9_placeOf : ByteArray := prog_1_method_27_code
def yX9_placeOf : MethodName := ⟨RX9, "placeOf", "(II)I"⟩
abbrev cX9_isWithin : ByteArray := prog_1_method_28_code
def yX9_isWithin : MethodName := ⟨RX9, "isWithin", "(III)Z"⟩
abbrev cX9_checkCell : ByteArray := prog_1_method_29_code
def yX9_checkCell : MethodName := ⟨RX9, "checkCell", "(II)V"⟩
abbrev cX9_checkIndex : ByteArray := prog_1_method_30_code
def yX9_checkIndex : MethodName := ⟨RX9, "checkIndex", "(Z)V"⟩
abbrev cX9_checkArgument : ByteArray := prog_1_method_31_code
def yX9_checkArgument : MethodName := ⟨RX9, "checkArgument", "(Z)V"⟩
abbrev cX9_checkState : ByteArray := prog_1_method_32_code
def yX9_checkState : MethodName := ⟨RX9, "checkState", "(Z)V"⟩
def RX10 : String := "FloodWardensModel$State"
def TX10 : u_T := fun k => match k with
  | _ => ("", "", "", false)
def tyX10 : Nat → FieldType := fun k => match k with
  | _ => .int
abbrev wsX100 : List Cond := u_ws RX10 TX10 0
theorem nmX10 : ∀ a, a < 0 → ∀ b, b < 0 → a ≠ b → (TX10 a).2.1 ≠ (TX10 b).2.1 := by decide +kernel
theorem tyX10_ok : ∀ k, k < 0 → parseFieldDescriptor (TX10 k).2.2.1 = some (tyX10 k) := by decide +kernel
def RX11 : String := "FloodWardensModel"
def TX11 : u_T := fun k => match k with
  | _ => ("", "", "", false)
def tyX11 : Nat → FieldType := fun k => match k with
  | _ => .int
abbrev wsX110 : List Cond := u_ws RX11 TX11 0
theorem nmX11 : ∀ a, a < 0 → ∀ b, b < 0 → a ≠ b → (TX11 a).2.1 ≠ (TX11 b).2.1 := by decide +kernel
theorem tyX11_ok : ∀ k, k < 0 → parseFieldDescriptor (TX11 k).2.2.1 = some (tyX11 k) := by decide +kernel
def RJ9 : String := "java/lang/Math"
def TJ9 : u_T := fun k => match k with
  | _ => ("", "", "", false)
def tyJ9 : Nat → FieldType := fun k => match k with
  | _ => .int
abbrev wsJ90 : List Cond := u_ws RJ9 TJ9 0
theorem nmJ9 : ∀ a, a < 0 → ∀ b, b < 0 → a ≠ b → (TJ9 a).2.1 ≠ (TJ9 b).2.1 := by decide +kernel
theorem tyJ9_ok : ∀ k, k < 0 → parseFieldDescriptor (TJ9 k).2.2.1 = some (tyJ9 k) := by decide +kernel
abbrev cJ9_floorMod_7cf53 : ByteArray := prog_18_method_50_code
def yJ9_floorMod_7cf53 : MethodName := ⟨RJ9, "floorMod", "(II)I"⟩
abbrev cJ9_min_7cf53 : ByteArray := prog_18_method_69_code
def yJ9_min_7cf53 : MethodName := ⟨RJ9, "min", "(II)I"⟩
def RJ0 : String := "java/lang/String"
def TJ0 : u_T := fun k => match k with
  | _ => ("", "", "", false)
def tyJ0 : Nat → FieldType := fun k => match k with
  | _ => .int
abbrev wsJ00 : List Cond := u_ws RJ0 TJ0 0
theorem nmJ0 : ∀ a, a < 0 → ∀ b, b < 0 → a ≠ b → (TJ0 a).2.1 ≠ (TJ0 b).2.1 := by decide +kernel
theorem tyJ0_ok : ∀ k, k < 0 → parseFieldDescriptor (TJ0 k).2.2.1 = some (tyJ0 k) := by decide +kernel
def RJ10 : String := "java/lang/System"
def TJ10 : u_T := fun k => match k with
  | _ => ("", "", "", false)
def tyJ10 : Nat → FieldType := fun k => match k with
  | _ => .int
abbrev wsJ100 : List Cond := u_ws RJ10 TJ10 0
theorem nmJ10 : ∀ a, a < 0 → ∀ b, b < 0 → a ≠ b → (TJ10 a).2.1 ≠ (TJ10 b).2.1 := by decide +kernel
theorem tyJ10_ok : ∀ k, k < 0 → parseFieldDescriptor (TJ10 k).2.2.1 = some (tyJ10 k) := by decide +kernel
def RL : String := "FloodWardensLaw"
abbrev cL_below : ByteArray := method_2_code
def yL_below : MethodName := ⟨RL, "below", "(II)I"⟩
abbrev cL_cell : ByteArray := method_3_code
def yL_cell : MethodName := ⟨RL, "cell", "([II)I"⟩
abbrev cL_town : ByteArray := method_4_code
def yL_town : MethodName := ⟨RL, "town", "([IZ)LFloodWardens;"⟩
abbrev cL_pump : ByteArray := method_5_code
def yL_pump : MethodName := ⟨RL, "pump", "(LFloodWardens;IIII)V"⟩
abbrev cL_law : ByteArray := code
def yL_law : MethodName := ⟨RL, "law", "([I)Z"⟩
abbrev cL_isRefuge : ByteArray := method_7_code
def yL_isRefuge : MethodName := ⟨RL, "isRefuge", "(LFloodWardens;I)Z"⟩
abbrev vwCl : List vw_C := [(RX0, TX0, 3), (RX1, TX1, 3), (RX2, TX2, 5), (RX3, TX3, 5), (RX5, TX5, 6), (RX6, TX6, 5), (RX7, TX7, 8), (RX8, TX8, 4), (RX9, TX9, 2)]
