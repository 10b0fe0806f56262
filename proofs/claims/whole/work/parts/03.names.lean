def RX0 : String := "BergPatrol$Berg"
def TX0 : u_T := fun k => match k with
  | 0 => ("BergPatrol$Berg", "parts", "[I", true)
  | 1 => ("BergPatrol$Berg", "size", "I", false)
  | 2 => ("BergPatrol$Berg", "age", "I", false)
  | 3 => ("BergPatrol$Berg", "out", "I", false)
  | _ => ("BergPatrol$Berg", "gone", "Z", false)
def tyX0 : Nat → FieldType := fun k => match k with
  | 0 => .array .int
  | 1 => .int
  | 2 => .int
  | 3 => .int
  | _ => .boolean
theorem nmX0 : ∀ a, a < 5 → ∀ b, b < 5 → a ≠ b → (TX0 a).2.1 ≠ (TX0 b).2.1 := by decide +kernel
theorem tyX0_ok : ∀ k, k < 5 → parseFieldDescriptor (TX0 k).2.2.1 = some (tyX0 k) := by decide +kernel
abbrev cX0_init : ByteArray := prog_2_method_1_code
def yX0_init : MethodName := ⟨RX0, "<init>", "()V"⟩
abbrev cX0_setAt : ByteArray := prog_2_method_2_code
def yX0_setAt : MethodName := ⟨RX0, "setAt", "(II)V"⟩
abbrev cX0_goOn : ByteArray := prog_2_method_3_code
def yX0_goOn : MethodName := ⟨RX0, "goOn", "(LBergPatrol$Sea;[I)V"⟩
abbrev cX0_drift : ByteArray := prog_2_method_4_code
def yX0_drift : MethodName := ⟨RX0, "drift", "(LBergPatrol$Sea;[I)V"⟩
abbrev cX0_spread : ByteArray := prog_2_method_5_code
def yX0_spread : MethodName := ⟨RX0, "spread", "(LBergPatrol$Sea;[I)V"⟩
abbrev cX0_giveToSides : ByteArray := prog_2_method_6_code
def yX0_giveToSides : MethodName := ⟨RX0, "giveToSides", "(LBergPatrol$Sea;II)I"⟩
abbrev cX0_melt : ByteArray := prog_2_method_7_code
def yX0_melt : MethodName := ⟨RX0, "melt", "(LBergPatrol$Sea;)V"⟩
abbrev cX0_lower : ByteArray := prog_2_method_8_code
def yX0_lower : MethodName := ⟨RX0, "lower", "(II)I"⟩
abbrev cX0_allParts : ByteArray := prog_2_method_9_code
def yX0_allParts : MethodName := ⟨RX0, "allParts", "()I"⟩
def RX1 : String := "BergPatrol$Chart"
def TX1 : u_T := fun k => match k with
  | 0 => ("BergPatrol$Chart", "shut", "[Z", true)
  | 1 => ("BergPatrol$Chart", "far", "[I", true)
  | 2 => ("BergPatrol$Chart", "waiting", "[I", true)
  | _ => ("BergPatrol$Chart", "waitingLength", "I", false)
def tyX1 : Nat → FieldType := fun k => match k with
  | 0 => .array .boolean
  | 1 => .array .int
  | 2 => .array .int
  | _ => .int
theorem nmX1 : ∀ a, a < 4 → ∀ b, b < 4 → a ≠ b → (TX1 a).2.1 ≠ (TX1 b).2.1 := by decide +kernel
theorem tyX1_ok : ∀ k, k < 4 → parseFieldDescriptor (TX1 k).2.2.1 = some (tyX1 k) := by decide +kernel
abbrev cX1_init : ByteArray := prog_3_method_1_code
def yX1_init : MethodName := ⟨RX1, "<init>", "()V"⟩
abbrev cX1_openAllBut : ByteArray := prog_3_method_2_code
def yX1_openAllBut : MethodName := ⟨RX1, "openAllBut", "([Z)V"⟩
abbrev cX1_shut : ByteArray := prog_3_method_3_code
def yX1_shut : MethodName := ⟨RX1, "shut", "(LBergPatrol$Warning;)V"⟩
abbrev cX1_shortest : ByteArray := prog_3_method_4_code
def yX1_shortest : MethodName := ⟨RX1, "shortest", "(II)I"⟩
abbrev cX1_isShut : ByteArray := prog_3_method_5_code
def yX1_isShut : MethodName := ⟨RX1, "isShut", "(I)Z"⟩
abbrev cX1_follow : ByteArray := prog_3_method_6_code
def yX1_follow : MethodName := ⟨RX1, "follow", "(I)V"⟩
abbrev cX1_meet : ByteArray := prog_3_method_7_code
def yX1_meet : MethodName := ⟨RX1, "meet", "(II)V"⟩
abbrev cX1_takeNearest : ByteArray := prog_3_method_8_code
def yX1_takeNearest : MethodName := ⟨RX1, "takeNearest", "()I"⟩
def RX2 : String := "BergPatrol$Heights"
def TX2 : u_T := fun k => match k with
  | 0 => ("BergPatrol$Heights", "here", "[I", true)
  | _ => ("BergPatrol$Heights", "before", "[I", true)
def tyX2 : Nat → FieldType := fun k => match k with
  | 0 => .array .int
  | _ => .array .int
theorem nmX2 : ∀ a, a < 2 → ∀ b, b < 2 → a ≠ b → (TX2 a).2.1 ≠ (TX2 b).2.1 := by decide +kernel
theorem tyX2_ok : ∀ k, k < 2 → parseFieldDescriptor (TX2 k).2.2.1 = some (tyX2 k) := by decide +kernel
abbrev cX2_init : ByteArray := prog_4_method_1_code
def yX2_init : MethodName := ⟨RX2, "<init>", "()V"⟩
abbrev cX2_most : ByteArray := prog_4_method_2_code
def yX2_most : MethodName := ⟨RX2, "most", "([I)I"⟩
abbrev cX2_bestBefore : ByteArray := prog_4_method_3_code
def yX2_bestBefore : MethodName := ⟨RX2, "bestBefore", "(I)I"⟩
def RX3 : String := "BergPatrol$Hull"
def TX3 : u_T := fun k => match k with
  | 0 => ("BergPatrol$Hull", "ring", "LBergPatrol$Ring;", true)
  | 1 => ("BergPatrol$Hull", "lowest", "[I", true)
  | _ => ("BergPatrol$Hull", "highest", "[I", true)
def tyX3 : Nat → FieldType := fun k => match k with
  | 0 => .object "BergPatrol$Ring"
  | 1 => .array .int
  | _ => .array .int
theorem nmX3 : ∀ a, a < 3 → ∀ b, b < 3 → a ≠ b → (TX3 a).2.1 ≠ (TX3 b).2.1 := by decide +kernel
theorem tyX3_ok : ∀ k, k < 3 → parseFieldDescriptor (TX3 k).2.2.1 = some (tyX3 k) := by decide +kernel
abbrev cX3_init : ByteArray := prog_5_method_1_code
def yX3_init : MethodName := ⟨RX3, "<init>", "()V"⟩
abbrev cX3_wrap : ByteArray := prog_5_method_2_code
def yX3_wrap : MethodName := ⟨RX3, "wrap", "([I)V"⟩
abbrev cX3_stretch : ByteArray := prog_5_method_3_code
def yX3_stretch : MethodName := ⟨RX3, "stretch", "(II)V"⟩
abbrev cX3_goBelow : ByteArray := prog_5_method_4_code
def yX3_goBelow : MethodName := ⟨RX3, "goBelow", "()V"⟩
abbrev cX3_goAbove : ByteArray := prog_5_method_5_code
def yX3_goAbove : MethodName := ⟨RX3, "goAbove", "(I)V"⟩
def RX4 : String := "BergPatrol$Ring"
def TX4 : u_T := fun k => match k with
  | 0 => ("BergPatrol$Ring", "xs", "[I", true)
  | 1 => ("BergPatrol$Ring", "ys", "[I", true)
  | _ => ("BergPatrol$Ring", "length", "I", false)
def tyX4 : Nat → FieldType := fun k => match k with
  | 0 => .array .int
  | 1 => .array .int
  | _ => .int
theorem nmX4 : ∀ a, a < 3 → ∀ b, b < 3 → a ≠ b → (TX4 a).2.1 ≠ (TX4 b).2.1 := by decide +kernel
theorem tyX4_ok : ∀ k, k < 3 → parseFieldDescriptor (TX4 k).2.2.1 = some (tyX4 k) := by decide +kernel
abbrev cX4_init : ByteArray := prog_6_method_1_code
def yX4_init : MethodName := ⟨RX4, "<init>", "()V"⟩
abbrev cX4_add : ByteArray := prog_6_method_2_code
def yX4_add : MethodName := ⟨RX4, "add", "(II)V"⟩
abbrev cX4_dropForLeftTurn : ByteArray := prog_6_method_3_code
def yX4_dropForLeftTurn : MethodName := ⟨RX4, "dropForLeftTurn", "(III)V"⟩
abbrev cX4_turnsLeft : ByteArray := prog_6_method_4_code
def yX4_turnsLeft : MethodName := ⟨RX4, "turnsLeft", "(IIII)Z"⟩
def RX5 : String := "BergPatrol$Sea"
def TX5 : u_T := fun k => match k with
  | 0 => ("BergPatrol$Sea", "dry", "[Z", true)
  | 1 => ("BergPatrol$Sea", "across", "[I", true)
  | 2 => ("BergPatrol$Sea", "up", "[I", true)
  | _ => ("BergPatrol$Sea", "warmth", "[I", true)
def tyX5 : Nat → FieldType := fun k => match k with
  | 0 => .array .boolean
  | 1 => .array .int
  | 2 => .array .int
  | _ => .array .int
theorem nmX5 : ∀ a, a < 4 → ∀ b, b < 4 → a ≠ b → (TX5 a).2.1 ≠ (TX5 b).2.1 := by decide +kernel
theorem tyX5_ok : ∀ k, k < 4 → parseFieldDescriptor (TX5 k).2.2.1 = some (tyX5 k) := by decide +kernel
abbrev cX5_init : ByteArray := prog_7_method_1_code
def yX5_init : MethodName := ⟨RX5, "<init>", "()V"⟩
def RX6 : String := "BergPatrol$Tape"
def TX6 : u_T := fun k => match k with
  | 0 => ("BergPatrol$Tape", "bytes", "[I", true)
  | _ => ("BergPatrol$Tape", "length", "I", false)
def tyX6 : Nat → FieldType := fun k => match k with
  | 0 => .array .int
  | _ => .int
theorem nmX6 : ∀ a, a < 2 → ∀ b, b < 2 → a ≠ b → (TX6 a).2.1 ≠ (TX6 b).2.1 := by decide +kernel
theorem tyX6_ok : ∀ k, k < 2 → parseFieldDescriptor (TX6 k).2.2.1 = some (tyX6 k) := by decide +kernel
abbrev cX6_init : ByteArray := prog_8_method_1_code
def yX6_init : MethodName := ⟨RX6, "<init>", "()V"⟩
abbrev cX6_put : ByteArray := prog_8_method_2_code
def yX6_put : MethodName := ⟨RX6, "put", "(I)V"⟩
abbrev cX6_putFour : ByteArray := prog_8_method_3_code
def yX6_putFour : MethodName := ⟨RX6, "putFour", "(I)V"⟩
abbrev cX6_putWord : ByteArray := prog_8_method_4_code
def yX6_putWord : MethodName := ⟨RX6, "putWord", "(Ljava/lang/String;)V"⟩
abbrev cX6_putNumber : ByteArray := prog_8_method_5_code
def yX6_putNumber : MethodName := ⟨RX6, "putNumber", "(I)V"⟩
def RX7 : String := "BergPatrol$Text"
def TX7 : u_T := fun k => match k with
  | 0 => ("BergPatrol$Text", "tape", "LBergPatrol$Tape;", true)
  | 1 => ("BergPatrol$Text", "ring", "LBergPatrol$Ring;", true)
  | _ => ("BergPatrol$Text", "at", "I", false)
def tyX7 : Nat → FieldType := fun k => match k with
  | 0 => .object "BergPatrol$Tape"
  | 1 => .object "BergPatrol$Ring"
  | _ => .int
theorem nmX7 : ∀ a, a < 3 → ∀ b, b < 3 → a ≠ b → (TX7 a).2.1 ≠ (TX7 b).2.1 := by decide +kernel
theorem tyX7_ok : ∀ k, k < 3 → parseFieldDescriptor (TX7 k).2.2.1 = some (tyX7 k) := by decide +kernel
abbrev cX7_init : ByteArray := prog_9_method_1_code
def yX7_init : MethodName := ⟨RX7, "<init>", "()V"⟩
abbrev cX7_findFirstWrong : ByteArray := prog_9_method_2_code
def yX7_findFirstWrong : MethodName := ⟨RX7, "findFirstWrong", "()I"⟩
abbrev cX7_takeCorners : ByteArray := prog_9_method_3_code
def yX7_takeCorners : MethodName := ⟨RX7, "takeCorners", "()Z"⟩
abbrev cX7_takeCorner : ByteArray := prog_9_method_4_code
def yX7_takeCorner : MethodName := ⟨RX7, "takeCorner", "()Z"⟩
abbrev cX7_takeNumber : ByteArray := prog_9_method_5_code
def yX7_takeNumber : MethodName := ⟨RX7, "takeNumber", "(I)I"⟩
abbrev cX7_takeWord : ByteArray := prog_9_method_6_code
def yX7_takeWord : MethodName := ⟨RX7, "takeWord", "(Ljava/lang/String;)Z"⟩
abbrev cX7_skipBlanks : ByteArray := prog_9_method_7_code
def yX7_skipBlanks : MethodName := ⟨RX7, "skipBlanks", "()V"⟩
abbrev cX7_here : ByteArray := prog_9_method_8_code
def yX7_here : MethodName := ⟨RX7, "here", "(I)I"⟩
abbrev cX7_isDigit : ByteArray := prog_9_method_9_code
def yX7_isDigit : MethodName := ⟨RX7, "isDigit", "(I)Z"⟩
abbrev cX7_isLetter : ByteArray := prog_9_method_10_code
def yX7_isLetter : MethodName := ⟨RX7, "isLetter", "(I)Z"⟩
def RX8 : String := "BergPatrol$Warning"
def TX8 : u_T := fun k => match k with
  | 0 => ("BergPatrol$Warning", "xs", "[I", true)
  | 1 => ("BergPatrol$Warning", "ys", "[I", true)
  | 2 => ("BergPatrol$Warning", "toldAt", "I", true)
  | 3 => ("BergPatrol$Warning", "within", "[I", true)
  | 4 => ("BergPatrol$Warning", "cancelled", "Z", false)
  | _ => ("BergPatrol$Warning", "cancelledAt", "I", false)
def tyX8 : Nat → FieldType := fun k => match k with
  | 0 => .array .int
  | 1 => .array .int
  | 2 => .int
  | 3 => .array .int
  | 4 => .boolean
  | _ => .int
theorem nmX8 : ∀ a, a < 6 → ∀ b, b < 6 → a ≠ b → (TX8 a).2.1 ≠ (TX8 b).2.1 := by decide +kernel
theorem tyX8_ok : ∀ k, k < 6 → parseFieldDescriptor (TX8 k).2.2.1 = some (tyX8 k) := by decide +kernel
abbrev cX8_init : ByteArray := prog_10_method_1_code
def yX8_init : MethodName := ⟨RX8, "<init>", "(LBergPatrol$Ring;I)V"⟩
abbrev cX8_holdsAt : ByteArray := prog_10_method_2_code
def yX8_holdsAt : MethodName := ⟨RX8, "holdsAt", "(I)Z"⟩
abbrev cX8_isWithin : ByteArray := prog_10_method_3_code
def yX8_isWithin : MethodName := ⟨RX8, "isWithin", "(II)Z"⟩
abbrev cX8_passes : ByteArray := prog_10_method_4_code
def yX8_passes : MethodName := ⟨RX8, "passes", "(IIII)Z"⟩
def RX9 : String := "BergPatrol"
def TX9 : u_T := fun k => match k with
  | 0 => ("BergPatrol", "sea", "LBergPatrol$Sea;", true)
  | 1 => ("BergPatrol", "bergs", "Ljava/util/ArrayList;", true)
  | 2 => ("BergPatrol", "warnings", "Ljava/util/ArrayList;", true)
  | 3 => ("BergPatrol", "tape", "LBergPatrol$Tape;", true)
  | 4 => ("BergPatrol", "text", "LBergPatrol$Text;", true)
  | 5 => ("BergPatrol", "hull", "LBergPatrol$Hull;", true)
  | 6 => ("BergPatrol", "chart", "LBergPatrol$Chart;", true)
  | 7 => ("BergPatrol", "heights", "LBergPatrol$Heights;", true)
  | 8 => ("BergPatrol", "gathered", "[I", true)
  | 9 => ("BergPatrol", "drifted", "[I", true)
  | 10 => ("BergPatrol", "now", "I", false)
  | 11 => ("BergPatrol", "joined", "I", false)
  | _ => ("BergPatrol", "firstWrong", "I", false)
def tyX9 : Nat → FieldType := fun k => match k with
  | 0 => .object "BergPatrol$Sea"
  | 1 => .object "java/util/ArrayList"
  | 2 => .object "java/util/ArrayList"
  | 3 => .object "BergPatrol$Tape"
  | 4 => .object "BergPatrol$Text"
  | 5 => .object "BergPatrol$Hull"
  | 6 => .object "BergPatrol$Chart"
  | 7 => .object "BergPatrol$Heights"
  | 8 => .array .int
  | 9 => .array .int
  | 10 => .int
  | 11 => .int
  | _ => .int
theorem nmX9 : ∀ a, a < 13 → ∀ b, b < 13 → a ≠ b → (TX9 a).2.1 ≠ (TX9 b).2.1 := by decide +kernel
theorem tyX9_ok : ∀ k, k < 13 → parseFieldDescriptor (TX9 k).2.2.1 = some (tyX9 k) := by decide +kernel
abbrev cX9_init : ByteArray := prog_1_method_1_code
def yX9_init : MethodName := ⟨RX9, "<init>", "()V"⟩
abbrev cX9_feed : ByteArray := prog_1_method_2_code
def yX9_feed : MethodName := ⟨RX9, "feed", "(IIIII)I"⟩
abbrev cX9_end : ByteArray := prog_1_method_3_code
def yX9_end : MethodName := ⟨RX9, "end", "(I)Z"⟩
abbrev cX9_water : ByteArray := prog_1_method_4_code
def yX9_water : MethodName := ⟨RX9, "water", "(IIII)V"⟩
abbrev cX9_land : ByteArray := prog_1_method_5_code
def yX9_land : MethodName := ⟨RX9, "land", "(IZ)V"⟩
abbrev cX9_tell : ByteArray := prog_1_method_6_code
def yX9_tell : MethodName := ⟨RX9, "tell", "(II)I"⟩
abbrev cX9_step : ByteArray := prog_1_method_7_code
def yX9_step : MethodName := ⟨RX9, "step", "(I)I"⟩
abbrev cX9_look : ByteArray := prog_1_method_8_code
def yX9_look : MethodName := ⟨RX9, "look", "(II)I"⟩
abbrev cX9_parts : ByteArray := prog_1_method_9_code
def yX9_parts : MethodName := ⟨RX9, "parts", "(II)I"⟩
abbrev cX9_berg : ByteArray := prog_1_method_10_code
def yX9_berg : MethodName := ⟨RX9, "berg", "(II)I"⟩
abbrev cX9_limit : ByteArray := prog_1_method_11_code
def yX9_limit : MethodName := ⟨RX9, "limit", "()I"⟩
abbrev cX9_corner : ByteArray := prog_1_method_12_code
def yX9_corner : MethodName := ⟨RX9, "corner", "(IZ)I"⟩
abbrev cX9_warn : ByteArray := prog_1_method_13_code
def yX9_warn : MethodName := ⟨RX9, "warn", "()I"⟩
abbrev cX9_read : ByteArray := prog_1_method_14_code
def yX9_read : MethodName := ⟨RX9, "read", "()I"⟩
abbrev cX9_fault : ByteArray := prog_1_method_15_code
def yX9_fault : MethodName := ⟨RX9, "fault", "()I"⟩
abbrev cX9_cancel : ByteArray := prog_1_method_16_code
def yX9_cancel : MethodName := ⟨RX9, "cancel", "(I)Z"⟩
abbrev cX9_force : ByteArray := prog_1_method_17_code
def yX9_force : MethodName := ⟨RX9, "force", "(II)Z"⟩
abbrev cX9_write : ByteArray := prog_1_method_18_code
def yX9_write : MethodName := ⟨RX9, "write", "(I)I"⟩
abbrev cX9_taped : ByteArray := prog_1_method_19_code
def yX9_taped : MethodName := ⟨RX9, "taped", "(I)I"⟩
abbrev cX9_way : ByteArray := prog_1_method_20_code
def yX9_way : MethodName := ⟨RX9, "way", "(III)I"⟩
abbrev cX9_flight : ByteArray := prog_1_method_21_code
def yX9_flight : MethodName := ⟨RX9, "flight", "()I"⟩
abbrev cX9_count : ByteArray := prog_1_method_22_code
def yX9_count : MethodName := ⟨RX9, "count", "(I)I"⟩
abbrev cX9_checkSquare : ByteArray := prog_1_method_23_code
def yX9_checkSquare : MethodName := ⟨RX9, "checkSquare", "(I)V"⟩
abbrev cX9_checkBerg : ByteArray := prog_1_method_24_code
def yX9_checkBerg : MethodName := ⟨RX9, "checkBerg", "(I)V"⟩
abbrev cX9_checkWarning : ByteArray := prog_1_method_25_code
def yX9_checkWarning : MethodName := ⟨RX9, "checkWarning", "(I)V"⟩
abbrev cX9_isCurrent : ByteArray := prog_1_method_26_code
def yX9_isCurrent : MethodName := ⟨RX9, "isCurrent", "(I)Z"⟩
abbrev cX9_someBergMayBe : ByteArray := prog_1_method_27_code
def yX9_someBergMayBe : MethodName := ⟨RX9, "someBergMayBe", "(I)Z"⟩
abbrev cX9_bergToJoin : ByteArray := prog_1_method_28_code
def yX9_bergToJoin : MethodName := ⟨RX9, "bergToJoin", "(II)I"⟩
abbrev cX9_gatherParts : ByteArray := prog_1_method_29_code
def yX9_gatherParts : MethodName := ⟨RX9, "gatherParts", "()V"⟩
abbrev cX9_squaresAboveZero : ByteArray := prog_1_method_30_code
def yX9_squaresAboveZero : MethodName := ⟨RX9, "squaresAboveZero", "([I)I"⟩
abbrev cX9_bergsLeft : ByteArray := prog_1_method_31_code
def yX9_bergsLeft : MethodName := ⟨RX9, "bergsLeft", "()I"⟩
abbrev cX9_warningsHolding : ByteArray := prog_1_method_32_code
def yX9_warningsHolding : MethodName := ⟨RX9, "warningsHolding", "()I"⟩
abbrev cX9_addWarning : ByteArray := prog_1_method_33_code
def yX9_addWarning : MethodName := ⟨RX9, "addWarning", "(LBergPatrol$Ring;)I"⟩
abbrev cX9_squareAt : ByteArray := prog_1_method_34_code
def yX9_squareAt : MethodName := ⟨RX9, "squareAt", "(II)I"⟩
def RX10 : String := "BergPatrolModel"
def TX10 : u_T := fun k => match k with
  | 0 => ("BergPatrolModel", "thrown", "I", false)
  | 1 => ("BergPatrolModel", "isLand", "[Z", true)
  | 2 => ("BergPatrolModel", "across", "[I", true)
  | 3 => ("BergPatrolModel", "up", "[I", true)
  | 4 => ("BergPatrolModel", "warmth", "[I", true)
  | 5 => ("BergPatrolModel", "now", "I", false)
  | 6 => ("BergPatrolModel", "parts", "[I", true)
  | 7 => ("BergPatrolModel", "size", "[I", true)
  | 8 => ("BergPatrolModel", "age", "[I", true)
  | 9 => ("BergPatrolModel", "out", "[I", true)
  | 10 => ("BergPatrolModel", "isGone", "[Z", true)
  | 11 => ("BergPatrolModel", "bergs", "I", false)
  | 12 => ("BergPatrolModel", "joined", "I", false)
  | 13 => ("BergPatrolModel", "wx", "[I", true)
  | 14 => ("BergPatrolModel", "wy", "[I", true)
  | 15 => ("BergPatrolModel", "many", "[I", true)
  | 16 => ("BergPatrolModel", "told", "[I", true)
  | 17 => ("BergPatrolModel", "cancelled", "[I", true)
  | 18 => ("BergPatrolModel", "warnings", "I", false)
  | 19 => ("BergPatrolModel", "next", "[I", true)
  | 20 => ("BergPatrolModel", "px", "[I", true)
  | 21 => ("BergPatrolModel", "py", "[I", true)
  | 22 => ("BergPatrolModel", "lx", "[I", true)
  | 23 => ("BergPatrolModel", "ly", "[I", true)
  | 24 => ("BergPatrolModel", "limitMany", "I", false)
  | 25 => ("BergPatrolModel", "tape", "[B", true)
  | 26 => ("BergPatrolModel", "taped", "I", false)
  | 27 => ("BergPatrolModel", "five", "[I", true)
  | 28 => ("BergPatrolModel", "at", "I", false)
  | 29 => ("BergPatrolModel", "end", "I", false)
  | 30 => ("BergPatrolModel", "begin", "I", false)
  | 31 => ("BergPatrolModel", "faultAt", "I", false)
  | 32 => ("BergPatrolModel", "readMany", "I", false)
  | 33 => ("BergPatrolModel", "rx", "[I", true)
  | 34 => ("BergPatrolModel", "ry", "[I", true)
  | 35 => ("BergPatrolModel", "isShut", "[Z", true)
  | 36 => ("BergPatrolModel", "far", "[I", true)
  | _ => ("BergPatrolModel", "seen", "[I", true)
def tyX10 : Nat → FieldType := fun k => match k with
  | 0 => .int
  | 1 => .array .boolean
  | 2 => .array .int
  | 3 => .array .int
  | 4 => .array .int
  | 5 => .int
  | 6 => .array .int
  | 7 => .array .int
  | 8 => .array .int
  | 9 => .array .int
  | 10 => .array .boolean
  | 11 => .int
  | 12 => .int
  | 13 => .array .int
  | 14 => .array .int
  | 15 => .array .int
  | 16 => .array .int
  | 17 => .array .int
  | 18 => .int
  | 19 => .array .int
  | 20 => .array .int
  | 21 => .array .int
  | 22 => .array .int
  | 23 => .array .int
  | 24 => .int
  | 25 => .array .byte
  | 26 => .int
  | 27 => .array .int
  | 28 => .int
  | 29 => .int
  | 30 => .int
  | 31 => .int
  | 32 => .int
  | 33 => .array .int
  | 34 => .array .int
  | 35 => .array .boolean
  | 36 => .array .int
  | _ => .array .int
theorem nmX10 : ∀ a, a < 38 → ∀ b, b < 38 → a ≠ b → (TX10 a).2.1 ≠ (TX10 b).2.1 := by decide +kernel
theorem tyX10_ok : ∀ k, k < 38 → parseFieldDescriptor (TX10 k).2.2.1 = some (tyX10 k) := by decide +kernel
abbrev cX10_thrown : ByteArray := prog_12_method_1_code
def yX10_thrown : MethodName := ⟨RX10, "thrown", "()I"⟩
abbrev cX10_throwsIf : ByteArray := prog_12_method_2_code
def yX10_throwsIf : MethodName := ⟨RX10, "throwsIf", "(ZI)Z"⟩
abbrev cX10_in : ByteArray := prog_12_method_3_code
def yX10_in : MethodName := ⟨RX10, "in", "(III)Z"⟩
abbrev cX10_init : ByteArray := prog_12_method_4_code
def yX10_init : MethodName := ⟨RX10, "<init>", "()V"⟩
abbrev cX10_noSquare : ByteArray := prog_12_method_5_code
def yX10_noSquare : MethodName := ⟨RX10, "noSquare", "(I)Z"⟩
abbrev cX10_noBerg : ByteArray := prog_12_method_6_code
def yX10_noBerg : MethodName := ⟨RX10, "noBerg", "(I)Z"⟩
abbrev cX10_noWarning : ByteArray := prog_12_method_7_code
def yX10_noWarning : MethodName := ⟨RX10, "noWarning", "(I)Z"⟩
abbrev cX10_isSea : ByteArray := prog_12_method_8_code
def yX10_isSea : MethodName := ⟨RX10, "isSea", "(II)Z"⟩
abbrev cX10_water : ByteArray := prog_12_method_9_code
def yX10_water : MethodName := ⟨RX10, "water", "(IIII)V"⟩
abbrev cX10_mayBe : ByteArray := prog_12_method_10_code
def yX10_mayBe : MethodName := ⟨RX10, "mayBe", "(I)Z"⟩
abbrev cX10_land : ByteArray := prog_12_method_11_code
def yX10_land : MethodName := ⟨RX10, "land", "(IZ)V"⟩
abbrev cX10_puts : ByteArray := prog_12_method_12_code
def yX10_puts : MethodName := ⟨RX10, "puts", "(III)V"⟩
abbrev cX10_tell : ByteArray := prog_12_method_13_code
def yX10_tell : MethodName := ⟨RX10, "tell", "(II)I"⟩
abbrev cX10_drifts : ByteArray := prog_12_method_14_code
def yX10_drifts : MethodName := ⟨RX10, "drifts", "(I)V"⟩
abbrev cX10_spreads : ByteArray := prog_12_method_15_code
def yX10_spreads : MethodName := ⟨RX10, "spreads", "(I)V"⟩
abbrev cX10_goes : ByteArray := prog_12_method_16_code
def yX10_goes : MethodName := ⟨RX10, "goes", "(I)V"⟩
abbrev cX10_melts : ByteArray := prog_12_method_17_code
def yX10_melts : MethodName := ⟨RX10, "melts", "(I)V"⟩
abbrev cX10_step : ByteArray := prog_12_method_18_code
def yX10_step : MethodName := ⟨RX10, "step", "(I)I"⟩
abbrev cX10_squares : ByteArray := prog_12_method_19_code
def yX10_squares : MethodName := ⟨RX10, "squares", "(I)I"⟩
abbrev cX10_look : ByteArray := prog_12_method_20_code
def yX10_look : MethodName := ⟨RX10, "look", "(II)I"⟩
abbrev cX10_parts : ByteArray := prog_12_method_21_code
def yX10_parts : MethodName := ⟨RX10, "parts", "(II)I"⟩
abbrev cX10_berg : ByteArray := prog_12_method_22_code
def yX10_berg : MethodName := ⟨RX10, "berg", "(II)I"⟩
abbrev cX10_side : ByteArray := prog_12_method_23_code
def yX10_side : MethodName := ⟨RX10, "side", "(IIIIII)I"⟩
abbrev cX10_limits : ByteArray := prog_12_method_24_code
def yX10_limits : MethodName := ⟨RX10, "limits", "()V"⟩
abbrev cX10_isMore : ByteArray := prog_12_method_25_code
def yX10_isMore : MethodName := ⟨RX10, "isMore", "(III)Z"⟩
abbrev cX10_limit : ByteArray := prog_12_method_26_code
def yX10_limit : MethodName := ⟨RX10, "limit", "()I"⟩
abbrev cX10_corner : ByteArray := prog_12_method_27_code
def yX10_corner : MethodName := ⟨RX10, "corner", "(IZ)I"⟩
abbrev cX10_takes : ByteArray := prog_12_method_28_code
def yX10_takes : MethodName := ⟨RX10, "takes", "(I)I"⟩
abbrev cX10_warn : ByteArray := prog_12_method_29_code
def yX10_warn : MethodName := ⟨RX10, "warn", "()I"⟩
abbrev cX10_feed : ByteArray := prog_12_method_30_code
def yX10_feed : MethodName := ⟨RX10, "feed", "(IIIII)I"⟩
abbrev cX10_end : ByteArray := prog_12_method_31_code
def yX10_end : MethodName := ⟨RX10, "end", "(I)Z"⟩
abbrev cX10_isAt : ByteArray := prog_12_method_32_code
def yX10_isAt : MethodName := ⟨RX10, "isAt", "(II)Z"⟩
abbrev cX10_blanks : ByteArray := prog_12_method_33_code
def yX10_blanks : MethodName := ⟨RX10, "blanks", "()V"⟩
abbrev cX10_readWord : ByteArray := prog_12_method_34_code
def yX10_readWord : MethodName := ⟨RX10, "readWord", "(Ljava/lang/String;)Z"⟩
abbrev cX10_readNumber : ByteArray := prog_12_method_35_code
def yX10_readNumber : MethodName := ⟨RX10, "readNumber", "(I)I"⟩
abbrev cX10_readRing : ByteArray := prog_12_method_36_code
def yX10_readRing : MethodName := ⟨RX10, "readRing", "()Z"⟩
abbrev cX10_read : ByteArray := prog_12_method_37_code
def yX10_read : MethodName := ⟨RX10, "read", "()I"⟩
abbrev cX10_fault : ByteArray := prog_12_method_38_code
def yX10_fault : MethodName := ⟨RX10, "fault", "()I"⟩
abbrev cX10_cancel : ByteArray := prog_12_method_39_code
def yX10_cancel : MethodName := ⟨RX10, "cancel", "(I)Z"⟩
abbrev cX10_isInForce : ByteArray := prog_12_method_40_code
def yX10_isInForce : MethodName := ⟨RX10, "isInForce", "(II)Z"⟩
abbrev cX10_force : ByteArray := prog_12_method_41_code
def yX10_force : MethodName := ⟨RX10, "force", "(II)Z"⟩
abbrev cX10_put : ByteArray := prog_12_method_42_code
def yX10_put : MethodName := ⟨RX10, "put", "(I)V"⟩
abbrev cX10_putNumber : ByteArray := prog_12_method_43_code
def yX10_putNumber : MethodName := ⟨RX10, "putNumber", "(I)V"⟩
abbrev cX10_putText : ByteArray := prog_12_method_44_code
def yX10_putText : MethodName := ⟨RX10, "putText", "(Ljava/lang/String;)V"⟩
abbrev cX10_write : ByteArray := prog_12_method_45_code
def yX10_write : MethodName := ⟨RX10, "write", "(I)I"⟩
abbrev cX10_taped : ByteArray := prog_12_method_46_code
def yX10_taped : MethodName := ⟨RX10, "taped", "(I)I"⟩
abbrev cX10_isWithin : ByteArray := prog_12_method_47_code
def yX10_isWithin : MethodName := ⟨RX10, "isWithin", "(II)Z"⟩
abbrev cX10_least : ByteArray := prog_12_method_48_code
def yX10_least : MethodName := ⟨RX10, "least", "(I)I"⟩
abbrev cX10_way : ByteArray := prog_12_method_49_code
def yX10_way : MethodName := ⟨RX10, "way", "(III)I"⟩
abbrev cX10_flight : ByteArray := prog_12_method_50_code
def yX10_flight : MethodName := ⟨RX10, "flight", "()I"⟩
abbrev cX10_count : ByteArray := prog_12_method_51_code
def yX10_count : MethodName := ⟨RX10, "count", "(I)I"⟩
def RJx145de : String := "java/io/Serializable"
def TJx145de : u_T := fun k => match k with
  | _ => ("", "", "", false)
def tyJx145de : Nat → FieldType := fun k => match k with
  | _ => .int
theorem nmJx145de : ∀ a, a < 0 → ∀ b, b < 0 → a ≠ b → (TJx145de a).2.1 ≠ (TJx145de b).2.1 := by decide +kernel
theorem tyJx145de_ok : ∀ k, k < 0 → parseFieldDescriptor (TJx145de k).2.2.1 = some (tyJx145de k) := by decide +kernel
def RJx8e188 : String := "java/lang/Cloneable"
def TJx8e188 : u_T := fun k => match k with
  | _ => ("", "", "", false)
def tyJx8e188 : Nat → FieldType := fun k => match k with
  | _ => .int
theorem nmJx8e188 : ∀ a, a < 0 → ∀ b, b < 0 → a ≠ b → (TJx8e188 a).2.1 ≠ (TJx8e188 b).2.1 := by decide +kernel
theorem tyJx8e188_ok : ∀ k, k < 0 → parseFieldDescriptor (TJx8e188 k).2.2.1 = some (tyJx8e188 k) := by decide +kernel
def RJxab1ab : String := "java/lang/Iterable"
def TJxab1ab : u_T := fun k => match k with
  | _ => ("", "", "", false)
def tyJxab1ab : Nat → FieldType := fun k => match k with
  | _ => .int
theorem nmJxab1ab : ∀ a, a < 0 → ∀ b, b < 0 → a ≠ b → (TJxab1ab a).2.1 ≠ (TJxab1ab b).2.1 := by decide +kernel
theorem tyJxab1ab_ok : ∀ k, k < 0 → parseFieldDescriptor (TJxab1ab k).2.2.1 = some (tyJxab1ab k) := by decide +kernel
def RJ9 : String := "java/lang/Math"
def TJ9 : u_T := fun k => match k with
  | _ => ("", "", "", false)
def tyJ9 : Nat → FieldType := fun k => match k with
  | _ => .int
theorem nmJ9 : ∀ a, a < 0 → ∀ b, b < 0 → a ≠ b → (TJ9 a).2.1 ≠ (TJ9 b).2.1 := by decide +kernel
theorem tyJ9_ok : ∀ k, k < 0 → parseFieldDescriptor (TJ9 k).2.2.1 = some (tyJ9 k) := by decide +kernel
abbrev cJ9_abs_0f7a4 : ByteArray := prog_20_method_59_code
def yJ9_abs_0f7a4 : MethodName := ⟨RJ9, "abs", "(I)I"⟩
abbrev cJ9_max_7cf53 : ByteArray := prog_20_method_65_code
def yJ9_max_7cf53 : MethodName := ⟨RJ9, "max", "(II)I"⟩
abbrev cJ9_min_7cf53 : ByteArray := prog_20_method_69_code
def yJ9_min_7cf53 : MethodName := ⟨RJ9, "min", "(II)I"⟩
def RJ0 : String := "java/lang/String"
def TJ0 : u_T := fun k => match k with
  | _ => ("", "", "", false)
def tyJ0 : Nat → FieldType := fun k => match k with
  | _ => .int
theorem nmJ0 : ∀ a, a < 0 → ∀ b, b < 0 → a ≠ b → (TJ0 a).2.1 ≠ (TJ0 b).2.1 := by decide +kernel
theorem tyJ0_ok : ∀ k, k < 0 → parseFieldDescriptor (TJ0 k).2.2.1 = some (tyJ0 k) := by decide +kernel
abbrev cJ0_length_8abf5 : ByteArray := prog_22_method_54_code
def yJ0_length_8abf5 : MethodName := ⟨RJ0, "length", "()I"⟩
abbrev cJ0_charAt_5068e : ByteArray := prog_22_method_56_code
def yJ0_charAt_5068e : MethodName := ⟨RJ0, "charAt", "(I)C"⟩
abbrev cJ0_coder_7d493 : ByteArray := prog_22_method_152_code
def yJ0_coder_7d493 : MethodName := ⟨RJ0, "coder", "()B"⟩
abbrev cJ0_isLatin1_aae02 : ByteArray := prog_22_method_154_code
def yJ0_isLatin1_aae02 : MethodName := ⟨RJ0, "isLatin1", "()Z"⟩
abbrev cJ0_checkIndex_df160 : ByteArray := prog_22_method_155_code
def yJ0_checkIndex_df160 : MethodName := ⟨RJ0, "checkIndex", "(II)V"⟩
def RJ1 : String := "java/lang/StringLatin1"
def TJ1 : u_T := fun k => match k with
  | _ => ("", "", "", false)
def tyJ1 : Nat → FieldType := fun k => match k with
  | _ => .int
theorem nmJ1 : ∀ a, a < 0 → ∀ b, b < 0 → a ≠ b → (TJ1 a).2.1 ≠ (TJ1 b).2.1 := by decide +kernel
theorem tyJ1_ok : ∀ k, k < 0 → parseFieldDescriptor (TJ1 k).2.2.1 = some (tyJ1 k) := by decide +kernel
abbrev cJ1_charAt_3b067 : ByteArray := prog_23_method_2_code
def yJ1_charAt_3b067 : MethodName := ⟨RJ1, "charAt", "([BI)C"⟩
def RJ2 : String := "java/lang/StringUTF16"
def TJ2 : u_T := fun k => match k with
  | _ => ("", "", "", false)
def tyJ2 : Nat → FieldType := fun k => match k with
  | _ => .int
theorem nmJ2 : ∀ a, a < 0 → ∀ b, b < 0 → a ≠ b → (TJ2 a).2.1 ≠ (TJ2 b).2.1 := by decide +kernel
theorem tyJ2_ok : ∀ k, k < 0 → parseFieldDescriptor (TJ2 k).2.2.1 = some (tyJ2 k) := by decide +kernel
abbrev cJ2_getChar_3b067 : ByteArray := prog_24_method_5_code
def yJ2_getChar_3b067 : MethodName := ⟨RJ2, "getChar", "([BI)C"⟩
abbrev cJ2_length_9d52b : ByteArray := prog_24_method_6_code
def yJ2_length_9d52b : MethodName := ⟨RJ2, "length", "([B)I"⟩
abbrev cJ2_charAt_3b067 : ByteArray := prog_24_method_83_code
def yJ2_charAt_3b067 : MethodName := ⟨RJ2, "charAt", "([BI)C"⟩
abbrev cJ2_checkIndex_2214a : ByteArray := prog_24_method_91_code
def yJ2_checkIndex_2214a : MethodName := ⟨RJ2, "checkIndex", "(I[B)V"⟩
def RJ10 : String := "java/lang/System"
def TJ10 : u_T := fun k => match k with
  | _ => ("", "", "", false)
def tyJ10 : Nat → FieldType := fun k => match k with
  | _ => .int
theorem nmJ10 : ∀ a, a < 0 → ∀ b, b < 0 → a ≠ b → (TJ10 a).2.1 ≠ (TJ10 b).2.1 := by decide +kernel
theorem tyJ10_ok : ∀ k, k < 0 → parseFieldDescriptor (TJ10 k).2.2.1 = some (tyJ10 k) := by decide +kernel
def RJxa1e45 : String := "java/util/AbstractCollection"
def TJxa1e45 : u_T := fun k => match k with
  | _ => ("", "", "", false)
def tyJxa1e45 : Nat → FieldType := fun k => match k with
  | _ => .int
theorem nmJxa1e45 : ∀ a, a < 0 → ∀ b, b < 0 → a ≠ b → (TJxa1e45 a).2.1 ≠ (TJxa1e45 b).2.1 := by decide +kernel
theorem tyJxa1e45_ok : ∀ k, k < 0 → parseFieldDescriptor (TJxa1e45 k).2.2.1 = some (tyJxa1e45 k) := by decide +kernel
abbrev cJxa1e45_init_da8c8 : ByteArray := prog_28_method_1_code
def yJxa1e45_init_da8c8 : MethodName := ⟨RJxa1e45, "<init>", "()V"⟩
def RJxc12de : String := "java/util/AbstractList"
def TJxc12de : u_T := fun k => match k with
  | _ => ("", "", "", false)
def tyJxc12de : Nat → FieldType := fun k => match k with
  | _ => .int
theorem nmJxc12de : ∀ a, a < 0 → ∀ b, b < 0 → a ≠ b → (TJxc12de a).2.1 ≠ (TJxc12de b).2.1 := by decide +kernel
theorem tyJxc12de_ok : ∀ k, k < 0 → parseFieldDescriptor (TJxc12de k).2.2.1 = some (tyJxc12de k) := by decide +kernel
abbrev cJxc12de_init_da8c8 : ByteArray := prog_29_method_1_code
def yJxc12de_init_da8c8 : MethodName := ⟨RJxc12de, "<init>", "()V"⟩
def RJx4a65c : String := "java/util/ArrayList"
def TJx4a65c : u_T := fun k => match k with
  | 0 => ("java/util/AbstractList", "modCount", "I", false)
  | 1 => ("java/util/ArrayList", "elementData", "[Ljava/lang/Object;", false)
  | _ => ("java/util/ArrayList", "size", "I", false)
def tyJx4a65c : Nat → FieldType := fun k => match k with
  | 0 => .int
  | 1 => .array (.object "java/lang/Object")
  | _ => .int
theorem nmJx4a65c : ∀ a, a < 3 → ∀ b, b < 3 → a ≠ b → (TJx4a65c a).2.1 ≠ (TJx4a65c b).2.1 := by decide +kernel
theorem tyJx4a65c_ok : ∀ k, k < 3 → parseFieldDescriptor (TJx4a65c k).2.2.1 = some (tyJx4a65c k) := by decide +kernel
abbrev cJx4a65c_init_da8c8 : ByteArray := prog_30_method_2_code
def yJx4a65c_init_da8c8 : MethodName := ⟨RJx4a65c, "<init>", "()V"⟩
abbrev cJx4a65c_grow_92f84 : ByteArray := prog_30_method_6_code
def yJx4a65c_grow_92f84 : MethodName := ⟨RJx4a65c, "grow", "(I)[Ljava/lang/Object;"⟩
abbrev cJx4a65c_grow_d5877 : ByteArray := prog_30_method_7_code
def yJx4a65c_grow_d5877 : MethodName := ⟨RJx4a65c, "grow", "()[Ljava/lang/Object;"⟩
abbrev cJx4a65c_size_8abf5 : ByteArray := prog_30_method_8_code
def yJx4a65c_size_8abf5 : MethodName := ⟨RJx4a65c, "size", "()I"⟩
abbrev cJx4a65c_elementData_915e3 : ByteArray := prog_30_method_18_code
def yJx4a65c_elementData_915e3 : MethodName := ⟨RJx4a65c, "elementData", "(I)Ljava/lang/Object;"⟩
abbrev cJx4a65c_get_915e3 : ByteArray := prog_30_method_20_code
def yJx4a65c_get_915e3 : MethodName := ⟨RJx4a65c, "get", "(I)Ljava/lang/Object;"⟩
abbrev cJx4a65c_add_72be8 : ByteArray := prog_30_method_24_code
def yJx4a65c_add_72be8 : MethodName := ⟨RJx4a65c, "add", "(Ljava/lang/Object;[Ljava/lang/Object;I)V"⟩
abbrev cJx4a65c_add_9ea2d : ByteArray := prog_30_method_25_code
def yJx4a65c_add_9ea2d : MethodName := ⟨RJx4a65c, "add", "(Ljava/lang/Object;)Z"⟩
def RJ7 : String := "java/util/Arrays"
def TJ7 : u_T := fun k => match k with
  | _ => ("", "", "", false)
def tyJ7 : Nat → FieldType := fun k => match k with
  | _ => .int
theorem nmJ7 : ∀ a, a < 0 → ∀ b, b < 0 → a ≠ b → (TJ7 a).2.1 ≠ (TJ7 b).2.1 := by decide +kernel
theorem tyJ7_ok : ∀ k, k < 0 → parseFieldDescriptor (TJ7 k).2.2.1 = some (tyJ7 k) := by decide +kernel
abbrev cJ7_fill_53178 : ByteArray := prog_31_method_103_code
def yJ7_fill_53178 : MethodName := ⟨RJ7, "fill", "([II)V"⟩
abbrev cJ7_copyOf_1904c : ByteArray := prog_31_method_119_code
def yJ7_copyOf_1904c : MethodName := ⟨RJ7, "copyOf", "([Ljava/lang/Object;I)[Ljava/lang/Object;"⟩
abbrev cJ7_copyOf_6403c : ByteArray := prog_31_method_120_code
def yJ7_copyOf_6403c : MethodName := ⟨RJ7, "copyOf", "([Ljava/lang/Object;ILjava/lang/Class;)[Ljava/lang/Object;"⟩
abbrev cJ7_copyOf_59c91 : ByteArray := prog_31_method_123_code
def yJ7_copyOf_59c91 : MethodName := ⟨RJ7, "copyOf", "([II)[I"⟩
def RJx5ef63 : String := "java/util/Collection"
def TJx5ef63 : u_T := fun k => match k with
  | _ => ("", "", "", false)
def tyJx5ef63 : Nat → FieldType := fun k => match k with
  | _ => .int
theorem nmJx5ef63 : ∀ a, a < 0 → ∀ b, b < 0 → a ≠ b → (TJx5ef63 a).2.1 ≠ (TJx5ef63 b).2.1 := by decide +kernel
theorem tyJx5ef63_ok : ∀ k, k < 0 → parseFieldDescriptor (TJx5ef63 k).2.2.1 = some (tyJx5ef63 k) := by decide +kernel
def RJxbd725 : String := "java/util/List"
def TJxbd725 : u_T := fun k => match k with
  | _ => ("", "", "", false)
def tyJxbd725 : Nat → FieldType := fun k => match k with
  | _ => .int
theorem nmJxbd725 : ∀ a, a < 0 → ∀ b, b < 0 → a ≠ b → (TJxbd725 a).2.1 ≠ (TJxbd725 b).2.1 := by decide +kernel
theorem tyJxbd725_ok : ∀ k, k < 0 → parseFieldDescriptor (TJxbd725 k).2.2.1 = some (tyJxbd725 k) := by decide +kernel
def RJ15 : String := "java/util/Objects"
def TJ15 : u_T := fun k => match k with
  | _ => ("", "", "", false)
def tyJ15 : Nat → FieldType := fun k => match k with
  | _ => .int
theorem nmJ15 : ∀ a, a < 0 → ∀ b, b < 0 → a ≠ b → (TJ15 a).2.1 ≠ (TJ15 b).2.1 := by decide +kernel
theorem tyJ15_ok : ∀ k, k < 0 → parseFieldDescriptor (TJ15 k).2.2.1 = some (tyJ15 k) := by decide +kernel
abbrev cJ15_checkIndex_7cf53 : ByteArray := prog_35_method_17_code
def yJ15_checkIndex_7cf53 : MethodName := ⟨RJ15, "checkIndex", "(II)I"⟩
def RJxf0a74 : String := "java/util/RandomAccess"
def TJxf0a74 : u_T := fun k => match k with
  | _ => ("", "", "", false)
def tyJxf0a74 : Nat → FieldType := fun k => match k with
  | _ => .int
theorem nmJxf0a74 : ∀ a, a < 0 → ∀ b, b < 0 → a ≠ b → (TJxf0a74 a).2.1 ≠ (TJxf0a74 b).2.1 := by decide +kernel
theorem tyJxf0a74_ok : ∀ k, k < 0 → parseFieldDescriptor (TJxf0a74 k).2.2.1 = some (tyJxf0a74 k) := by decide +kernel
def RJxa66e6 : String := "java/util/SequencedCollection"
def TJxa66e6 : u_T := fun k => match k with
  | _ => ("", "", "", false)
def tyJxa66e6 : Nat → FieldType := fun k => match k with
  | _ => .int
theorem nmJxa66e6 : ∀ a, a < 0 → ∀ b, b < 0 → a ≠ b → (TJxa66e6 a).2.1 ≠ (TJxa66e6 b).2.1 := by decide +kernel
theorem tyJxa66e6_ok : ∀ k, k < 0 → parseFieldDescriptor (TJxa66e6 k).2.2.1 = some (tyJxa66e6 k) := by decide +kernel
def RJ8 : String := "jdk/internal/util/ArraysSupport"
def TJ8 : u_T := fun k => match k with
  | _ => ("", "", "", false)
def tyJ8 : Nat → FieldType := fun k => match k with
  | _ => .int
theorem nmJ8 : ∀ a, a < 0 → ∀ b, b < 0 → a ≠ b → (TJ8 a).2.1 ≠ (TJ8 b).2.1 := by decide +kernel
theorem tyJ8_ok : ∀ k, k < 0 → parseFieldDescriptor (TJ8 k).2.2.1 = some (tyJ8 k) := by decide +kernel
abbrev cJ8_newLength_cabcc : ByteArray := prog_38_method_27_code
def yJ8_newLength_cabcc : MethodName := ⟨RJ8, "newLength", "(III)I"⟩
abbrev cJ8_hugeLength_7cf53 : ByteArray := prog_38_method_28_code
def yJ8_hugeLength_7cf53 : MethodName := ⟨RJ8, "hugeLength", "(II)I"⟩
def RJ3 : String := "jdk/internal/util/Preconditions"
def TJ3 : u_T := fun k => match k with
  | _ => ("", "", "", false)
def tyJ3 : Nat → FieldType := fun k => match k with
  | _ => .int
theorem nmJ3 : ∀ a, a < 0 → ∀ b, b < 0 → a ≠ b → (TJ3 a).2.1 ≠ (TJ3 b).2.1 := by decide +kernel
theorem tyJ3_ok : ∀ k, k < 0 → parseFieldDescriptor (TJ3 k).2.2.1 = some (tyJ3 k) := by decide +kernel
abbrev cJ3_checkIndex_8e157 : ByteArray := prog_39_method_11_code
def yJ3_checkIndex_8e157 : MethodName := ⟨RJ3, "checkIndex", "(IILjava/util/function/BiFunction;)I"⟩
def RL : String := "BergPatrolLaw"
abbrev cL_water : ByteArray := method_3_code
def yL_water : MethodName := ⟨RL, "water", "(LBergPatrol;IIII)I"⟩
abbrev cL_land : ByteArray := method_4_code
def yL_land : MethodName := ⟨RL, "land", "(LBergPatrol;IZ)I"⟩
abbrev cL_tell : ByteArray := method_5_code
def yL_tell : MethodName := ⟨RL, "tell", "(LBergPatrol;II[J)I"⟩
abbrev cL_step : ByteArray := method_6_code
def yL_step : MethodName := ⟨RL, "step", "(LBergPatrol;I[J)I"⟩
abbrev cL_look : ByteArray := method_7_code
def yL_look : MethodName := ⟨RL, "look", "(LBergPatrol;II[J)I"⟩
abbrev cL_parts : ByteArray := method_8_code
def yL_parts : MethodName := ⟨RL, "parts", "(LBergPatrol;II[J)I"⟩
abbrev cL_berg : ByteArray := method_9_code
def yL_berg : MethodName := ⟨RL, "berg", "(LBergPatrol;II[J)I"⟩
abbrev cL_read : ByteArray := method_10_code
def yL_read : MethodName := ⟨RL, "read", "(LBergPatrol;[J)I"⟩
abbrev cL_cancel : ByteArray := method_11_code
def yL_cancel : MethodName := ⟨RL, "cancel", "(LBergPatrol;I[J)I"⟩
abbrev cL_force : ByteArray := method_12_code
def yL_force : MethodName := ⟨RL, "force", "(LBergPatrol;II[J)I"⟩
abbrev cL_write : ByteArray := method_13_code
def yL_write : MethodName := ⟨RL, "write", "(LBergPatrol;I[J)I"⟩
abbrev cL_way : ByteArray := method_14_code
def yL_way : MethodName := ⟨RL, "way", "(LBergPatrol;III[J)I"⟩
abbrev cL_law : ByteArray := code
def yL_law : MethodName := ⟨RL, "law", "([I)Z"⟩
abbrev vwCl : List vw_C := [(RJx4a65c, TJx4a65c, 3), (RX0, TX0, 5), (RX1, TX1, 4), (RX2, TX2, 2), (RX3, TX3, 3), (RX4, TX4, 3), (RX5, TX5, 4), (RX6, TX6, 2), (RX7, TX7, 3), (RX8, TX8, 6), (RX9, TX9, 13), (RX10, TX10, 38)]
