def RX0 : String := "DeskPlanner$Change"
def TX0 : u_T := fun k => match k with
  | 0 => ("DeskPlanner$Change", "found", "Z", false)
  | 1 => ("DeskPlanner$Change", "team", "I", false)
  | 2 => ("DeskPlanner$Change", "other", "I", false)
  | 3 => ("DeskPlanner$Change", "zone", "I", false)
  | _ => ("DeskPlanner$Change", "cost", "I", false)
def tyX0 : Nat → FieldType := fun k => match k with
  | 0 => .boolean
  | 1 => .int
  | 2 => .int
  | 3 => .int
  | _ => .int
abbrev wsX00 : List Cond := u_ws RX0 TX0 5
theorem nmX0 : ∀ a, a < 5 → ∀ b, b < 5 → a ≠ b → (TX0 a).2.1 ≠ (TX0 b).2.1 := by decide +kernel
theorem tyX0_ok : ∀ k, k < 5 → parseFieldDescriptor (TX0 k).2.2.1 = some (tyX0 k) := by decide +kernel
abbrev cX0_init : ByteArray := prog_2_method_1_code
def yX0_init : MethodName := ⟨RX0, "<init>", "()V"⟩
abbrev cX0_keepIfLess : ByteArray := prog_2_method_2_code
def yX0_keepIfLess : MethodName := ⟨RX0, "keepIfLess", "(IIII)V"⟩
def RX1 : String := "DeskPlanner$Floor"
def TX1 : u_T := fun k => match k with
  | 0 => ("DeskPlanner$Floor", "walls", "[Z", true)
  | 1 => ("DeskPlanner$Floor", "zoneSquares", "[I", true)
  | 2 => ("DeskPlanner$Floor", "desks", "[I", true)
  | 3 => ("DeskPlanner$Floor", "distances", "[[I", true)
  | 4 => ("DeskPlanner$Floor", "steps", "[I", true)
  | 5 => ("DeskPlanner$Floor", "reached", "[I", true)
  | 6 => ("DeskPlanner$Floor", "reachedCount", "I", false)
  | _ => ("DeskPlanner$Floor", "zoneCount", "I", false)
def tyX1 : Nat → FieldType := fun k => match k with
  | 0 => .array .boolean
  | 1 => .array .int
  | 2 => .array .int
  | 3 => .array (.array .int)
  | 4 => .array .int
  | 5 => .array .int
  | 6 => .int
  | _ => .int
abbrev wsX10 : List Cond := u_ws RX1 TX1 8
theorem nmX1 : ∀ a, a < 8 → ∀ b, b < 8 → a ≠ b → (TX1 a).2.1 ≠ (TX1 b).2.1 := by decide +kernel
theorem tyX1_ok : ∀ k, k < 8 → parseFieldDescriptor (TX1 k).2.2.1 = some (tyX1 k) := by decide +kernel
abbrev cX1_init : ByteArray := prog_3_method_1_code
def yX1_init : MethodName := ⟨RX1, "<init>", "()V"⟩
abbrev cX1_isSquare : ByteArray := prog_3_method_2_code
def yX1_isSquare : MethodName := ⟨RX1, "isSquare", "(II)Z"⟩
abbrev cX1_squareAt : ByteArray := prog_3_method_3_code
def yX1_squareAt : MethodName := ⟨RX1, "squareAt", "(II)I"⟩
abbrev cX1_hasWall : ByteArray := prog_3_method_4_code
def yX1_hasWall : MethodName := ⟨RX1, "hasWall", "(II)Z"⟩
abbrev cX1_hasZone : ByteArray := prog_3_method_5_code
def yX1_hasZone : MethodName := ⟨RX1, "hasZone", "(II)Z"⟩
abbrev cX1_buildWall : ByteArray := prog_3_method_6_code
def yX1_buildWall : MethodName := ⟨RX1, "buildWall", "(IIZ)Z"⟩
abbrev cX1_openZone : ByteArray := prog_3_method_7_code
def yX1_openZone : MethodName := ⟨RX1, "openZone", "(III)I"⟩
abbrev cX1_measureAll : ByteArray := prog_3_method_8_code
def yX1_measureAll : MethodName := ⟨RX1, "measureAll", "()V"⟩
abbrev cX1_measureFrom : ByteArray := prog_3_method_9_code
def yX1_measureFrom : MethodName := ⟨RX1, "measureFrom", "(I)V"⟩
abbrev cX1_reach : ByteArray := prog_3_method_10_code
def yX1_reach : MethodName := ⟨RX1, "reach", "(III)V"⟩
def RX2 : String := "DeskPlanner$FullSearch"
def TX2 : u_T := fun k => match k with
  | 0 => ("DeskPlanner$FullSearch", "trial", "LDeskPlanner$Placement;", true)
  | 1 => ("DeskPlanner$FullSearch", "best", "LDeskPlanner$Placement;", true)
  | 2 => ("DeskPlanner$FullSearch", "taken", "[Z", true)
  | 3 => ("DeskPlanner$FullSearch", "withTies", "Z", false)
  | _ => ("DeskPlanner$FullSearch", "least", "I", false)
def tyX2 : Nat → FieldType := fun k => match k with
  | 0 => .object "DeskPlanner$Placement"
  | 1 => .object "DeskPlanner$Placement"
  | 2 => .array .boolean
  | 3 => .boolean
  | _ => .int
abbrev wsX20 : List Cond := u_ws RX2 TX2 5
theorem nmX2 : ∀ a, a < 5 → ∀ b, b < 5 → a ≠ b → (TX2 a).2.1 ≠ (TX2 b).2.1 := by decide +kernel
theorem tyX2_ok : ∀ k, k < 5 → parseFieldDescriptor (TX2 k).2.2.1 = some (tyX2 k) := by decide +kernel
abbrev cX2_init : ByteArray := prog_4_method_1_code
def yX2_init : MethodName := ⟨RX2, "<init>", "()V"⟩
abbrev cX2_findLeast : ByteArray := prog_4_method_2_code
def yX2_findLeast : MethodName := ⟨RX2, "findLeast", "(LDeskPlanner$Office;Z)I"⟩
abbrev cX2_tryFrom : ByteArray := prog_4_method_3_code
def yX2_tryFrom : MethodName := ⟨RX2, "tryFrom", "(LDeskPlanner$Office;II)V"⟩
abbrev cX2_tryAt : ByteArray := prog_4_method_4_code
def yX2_tryAt : MethodName := ⟨RX2, "tryAt", "(LDeskPlanner$Office;III)V"⟩
def RX3 : String := "DeskPlanner$Office"
def TX3 : u_T := fun k => match k with
  | 0 => ("DeskPlanner$Office", "floor", "LDeskPlanner$Floor;", true)
  | _ => ("DeskPlanner$Office", "staff", "LDeskPlanner$Staff;", true)
def tyX3 : Nat → FieldType := fun k => match k with
  | 0 => .object "DeskPlanner$Floor"
  | _ => .object "DeskPlanner$Staff"
abbrev wsX30 : List Cond := u_ws RX3 TX3 2
theorem nmX3 : ∀ a, a < 2 → ∀ b, b < 2 → a ≠ b → (TX3 a).2.1 ≠ (TX3 b).2.1 := by decide +kernel
theorem tyX3_ok : ∀ k, k < 2 → parseFieldDescriptor (TX3 k).2.2.1 = some (tyX3 k) := by decide +kernel
abbrev cX3_init : ByteArray := prog_5_method_1_code
def yX3_init : MethodName := ⟨RX3, "<init>", "()V"⟩
abbrev cX3_fits : ByteArray := prog_5_method_2_code
def yX3_fits : MethodName := ⟨RX3, "fits", "(II)Z"⟩
abbrev cX3_costOf : ByteArray := prog_5_method_3_code
def yX3_costOf : MethodName := ⟨RX3, "costOf", "(LDeskPlanner$Placement;)I"⟩
abbrev cX3_wishCostOf : ByteArray := prog_5_method_4_code
def yX3_wishCostOf : MethodName := ⟨RX3, "wishCostOf", "(LDeskPlanner$Placement;)I"⟩
abbrev cX3_tieCostToLower : ByteArray := prog_5_method_5_code
def yX3_tieCostToLower : MethodName := ⟨RX3, "tieCostToLower", "(LDeskPlanner$Placement;I)I"⟩
def RX4 : String := "DeskPlanner$Placement"
def TX4 : u_T := fun k => match k with
  | _ => ("DeskPlanner$Placement", "zoneByTeam", "[I", true)
def tyX4 : Nat → FieldType := fun k => match k with
  | _ => .array .int
abbrev wsX40 : List Cond := u_ws RX4 TX4 1
theorem nmX4 : ∀ a, a < 1 → ∀ b, b < 1 → a ≠ b → (TX4 a).2.1 ≠ (TX4 b).2.1 := by decide +kernel
theorem tyX4_ok : ∀ k, k < 1 → parseFieldDescriptor (TX4 k).2.2.1 = some (tyX4 k) := by decide +kernel
abbrev cX4_init : ByteArray := prog_6_method_1_code
def yX4_init : MethodName := ⟨RX4, "<init>", "()V"⟩
abbrev cX4_zoneWith : ByteArray := prog_6_method_2_code
def yX4_zoneWith : MethodName := ⟨RX4, "zoneWith", "(I)I"⟩
abbrev cX4_teamAt : ByteArray := prog_6_method_3_code
def yX4_teamAt : MethodName := ⟨RX4, "teamAt", "(I)I"⟩
abbrev cX4_lay : ByteArray := prog_6_method_4_code
def yX4_lay : MethodName := ⟨RX4, "lay", "(II)V"⟩
abbrev cX4_exchange : ByteArray := prog_6_method_5_code
def yX4_exchange : MethodName := ⟨RX4, "exchange", "(II)V"⟩
abbrev cX4_layLike : ByteArray := prog_6_method_6_code
def yX4_layLike : MethodName := ⟨RX4, "layLike", "(LDeskPlanner$Placement;)V"⟩
abbrev cX4_countPlaced : ByteArray := prog_6_method_7_code
def yX4_countPlaced : MethodName := ⟨RX4, "countPlaced", "()I"⟩
abbrev cX4_countOtherwise : ByteArray := prog_6_method_8_code
def yX4_countOtherwise : MethodName := ⟨RX4, "countOtherwise", "(LDeskPlanner$Placement;)I"⟩
def RX5 : String := "DeskPlanner$Staff"
def TX5 : u_T := fun k => match k with
  | 0 => ("DeskPlanner$Staff", "present", "[[I", true)
  | 1 => ("DeskPlanner$Staff", "needs", "[I", true)
  | 2 => ("DeskPlanner$Staff", "wishes", "[[I", true)
  | 3 => ("DeskPlanner$Staff", "ties", "[[I", true)
  | _ => ("DeskPlanner$Staff", "teamCount", "I", false)
def tyX5 : Nat → FieldType := fun k => match k with
  | 0 => .array (.array .int)
  | 1 => .array .int
  | 2 => .array (.array .int)
  | 3 => .array (.array .int)
  | _ => .int
abbrev wsX50 : List Cond := u_ws RX5 TX5 5
theorem nmX5 : ∀ a, a < 5 → ∀ b, b < 5 → a ≠ b → (TX5 a).2.1 ≠ (TX5 b).2.1 := by decide +kernel
theorem tyX5_ok : ∀ k, k < 5 → parseFieldDescriptor (TX5 k).2.2.1 = some (tyX5 k) := by decide +kernel
abbrev cX5_init : ByteArray := prog_7_method_1_code
def yX5_init : MethodName := ⟨RX5, "<init>", "()V"⟩
abbrev cX5_enter : ByteArray := prog_7_method_2_code
def yX5_enter : MethodName := ⟨RX5, "enter", "()I"⟩
abbrev cX5_needWith : ByteArray := prog_7_method_3_code
def yX5_needWith : MethodName := ⟨RX5, "needWith", "(III)I"⟩
abbrev cX5_changePresent : ByteArray := prog_7_method_4_code
def yX5_changePresent : MethodName := ⟨RX5, "changePresent", "(III)I"⟩
abbrev cX5_changeTie : ByteArray := prog_7_method_5_code
def yX5_changeTie : MethodName := ⟨RX5, "changeTie", "(III)I"⟩
abbrev cX5_shareOf : ByteArray := prog_7_method_6_code
def yX5_shareOf : MethodName := ⟨RX5, "shareOf", "(I)I"⟩
def RX6 : String := "DeskPlanner$StepSearch"
def TX6 : u_T := fun k => match k with
  | 0 => ("DeskPlanner$StepSearch", "trial", "LDeskPlanner$Placement;", true)
  | 1 => ("DeskPlanner$StepSearch", "best", "LDeskPlanner$Placement;", true)
  | 2 => ("DeskPlanner$StepSearch", "restedAt", "[I", true)
  | _ => ("DeskPlanner$StepSearch", "change", "LDeskPlanner$Change;", true)
def tyX6 : Nat → FieldType := fun k => match k with
  | 0 => .object "DeskPlanner$Placement"
  | 1 => .object "DeskPlanner$Placement"
  | 2 => .array .int
  | _ => .object "DeskPlanner$Change"
abbrev wsX60 : List Cond := u_ws RX6 TX6 4
theorem nmX6 : ∀ a, a < 4 → ∀ b, b < 4 → a ≠ b → (TX6 a).2.1 ≠ (TX6 b).2.1 := by decide +kernel
theorem tyX6_ok : ∀ k, k < 4 → parseFieldDescriptor (TX6 k).2.2.1 = some (tyX6 k) := by decide +kernel
abbrev cX6_init : ByteArray := prog_8_method_1_code
def yX6_init : MethodName := ⟨RX6, "<init>", "()V"⟩
abbrev cX6_run : ByteArray := prog_8_method_2_code
def yX6_run : MethodName := ⟨RX6, "run", "(LDeskPlanner$Office;LDeskPlanner$Placement;II)I"⟩
abbrev cX6_chooseChange : ByteArray := prog_8_method_3_code
def yX6_chooseChange : MethodName := ⟨RX6, "chooseChange", "(LDeskPlanner$Office;I)V"⟩
abbrev cX6_weighExchange : ByteArray := prog_8_method_4_code
def yX6_weighExchange : MethodName := ⟨RX6, "weighExchange", "(LDeskPlanner$Office;II)V"⟩
abbrev cX6_weighMove : ByteArray := prog_8_method_5_code
def yX6_weighMove : MethodName := ⟨RX6, "weighMove", "(LDeskPlanner$Office;II)V"⟩
abbrev cX6_makeChange : ByteArray := prog_8_method_6_code
def yX6_makeChange : MethodName := ⟨RX6, "makeChange", "(I)V"⟩
def RX7 : String := "DeskPlanner"
def TX7 : u_T := fun k => match k with
  | 0 => ("DeskPlanner", "office", "LDeskPlanner$Office;", true)
  | 1 => ("DeskPlanner", "placed", "LDeskPlanner$Placement;", true)
  | 2 => ("DeskPlanner", "remembered", "LDeskPlanner$Placement;", true)
  | 3 => ("DeskPlanner", "fullSearch", "LDeskPlanner$FullSearch;", true)
  | _ => ("DeskPlanner", "stepSearch", "LDeskPlanner$StepSearch;", true)
def tyX7 : Nat → FieldType := fun k => match k with
  | 0 => .object "DeskPlanner$Office"
  | 1 => .object "DeskPlanner$Placement"
  | 2 => .object "DeskPlanner$Placement"
  | 3 => .object "DeskPlanner$FullSearch"
  | _ => .object "DeskPlanner$StepSearch"
abbrev wsX70 : List Cond := u_ws RX7 TX7 5
theorem nmX7 : ∀ a, a < 5 → ∀ b, b < 5 → a ≠ b → (TX7 a).2.1 ≠ (TX7 b).2.1 := by decide +kernel
theorem tyX7_ok : ∀ k, k < 5 → parseFieldDescriptor (TX7 k).2.2.1 = some (tyX7 k) := by decide +kernel
abbrev cX7_init : ByteArray := prog_1_method_1_code
def yX7_init : MethodName := ⟨RX7, "<init>", "()V"⟩
abbrev cX7_setWall : ByteArray := prog_1_method_2_code
def yX7_setWall : MethodName := ⟨RX7, "setWall", "(IIZ)Z"⟩
abbrev cX7_addZone : ByteArray := prog_1_method_3_code
def yX7_addZone : MethodName := ⟨RX7, "addZone", "(III)I"⟩
abbrev cX7_setDesks : ByteArray := prog_1_method_4_code
def yX7_setDesks : MethodName := ⟨RX7, "setDesks", "(II)I"⟩
abbrev cX7_addTeam : ByteArray := prog_1_method_5_code
def yX7_addTeam : MethodName := ⟨RX7, "addTeam", "()I"⟩
abbrev cX7_setPresent : ByteArray := prog_1_method_6_code
def yX7_setPresent : MethodName := ⟨RX7, "setPresent", "(III)I"⟩
abbrev cX7_setWish : ByteArray := prog_1_method_7_code
def yX7_setWish : MethodName := ⟨RX7, "setWish", "(III)I"⟩
abbrev cX7_setTie : ByteArray := prog_1_method_8_code
def yX7_setTie : MethodName := ⟨RX7, "setTie", "(III)I"⟩
abbrev cX7_place : ByteArray := prog_1_method_9_code
def yX7_place : MethodName := ⟨RX7, "place", "(II)I"⟩
abbrev cX7_placeByWishes : ByteArray := prog_1_method_10_code
def yX7_placeByWishes : MethodName := ⟨RX7, "placeByWishes", "()I"⟩
abbrev cX7_placeBest : ByteArray := prog_1_method_11_code
def yX7_placeBest : MethodName := ⟨RX7, "placeBest", "()I"⟩
abbrev cX7_search : ByteArray := prog_1_method_12_code
def yX7_search : MethodName := ⟨RX7, "search", "(II)I"⟩
abbrev cX7_remember : ByteArray := prog_1_method_13_code
def yX7_remember : MethodName := ⟨RX7, "remember", "()I"⟩
abbrev cX7_recall : ByteArray := prog_1_method_14_code
def yX7_recall : MethodName := ⟨RX7, "recall", "()I"⟩
abbrev cX7_zones : ByteArray := prog_1_method_15_code
def yX7_zones : MethodName := ⟨RX7, "zones", "()I"⟩
abbrev cX7_teams : ByteArray := prog_1_method_16_code
def yX7_teams : MethodName := ⟨RX7, "teams", "()I"⟩
abbrev cX7_need : ByteArray := prog_1_method_17_code
def yX7_need : MethodName := ⟨RX7, "need", "(I)I"⟩
abbrev cX7_share : ByteArray := prog_1_method_18_code
def yX7_share : MethodName := ⟨RX7, "share", "(I)I"⟩
abbrev cX7_zoneOf : ByteArray := prog_1_method_19_code
def yX7_zoneOf : MethodName := ⟨RX7, "zoneOf", "(I)I"⟩
abbrev cX7_teamIn : ByteArray := prog_1_method_20_code
def yX7_teamIn : MethodName := ⟨RX7, "teamIn", "(I)I"⟩
abbrev cX7_free : ByteArray := prog_1_method_21_code
def yX7_free : MethodName := ⟨RX7, "free", "(II)I"⟩
abbrev cX7_distance : ByteArray := prog_1_method_22_code
def yX7_distance : MethodName := ⟨RX7, "distance", "(II)I"⟩
abbrev cX7_wishCost : ByteArray := prog_1_method_23_code
def yX7_wishCost : MethodName := ⟨RX7, "wishCost", "()I"⟩
abbrev cX7_cost : ByteArray := prog_1_method_24_code
def yX7_cost : MethodName := ⟨RX7, "cost", "()I"⟩
abbrev cX7_leastWishCost : ByteArray := prog_1_method_25_code
def yX7_leastWishCost : MethodName := ⟨RX7, "leastWishCost", "()I"⟩
abbrev cX7_circles : ByteArray := prog_1_method_26_code
def yX7_circles : MethodName := ⟨RX7, "circles", "()I"⟩
abbrev cX7_moves : ByteArray := prog_1_method_27_code
def yX7_moves : MethodName := ⟨RX7, "moves", "()I"⟩
abbrev cX7_requireSquare : ByteArray := prog_1_method_28_code
def yX7_requireSquare : MethodName := ⟨RX7, "requireSquare", "(II)V"⟩
abbrev cX7_requireZone : ByteArray := prog_1_method_29_code
def yX7_requireZone : MethodName := ⟨RX7, "requireZone", "(I)V"⟩
abbrev cX7_requireTeam : ByteArray := prog_1_method_30_code
def yX7_requireTeam : MethodName := ⟨RX7, "requireTeam", "(I)V"⟩
abbrev cX7_requireDay : ByteArray := prog_1_method_31_code
def yX7_requireDay : MethodName := ⟨RX7, "requireDay", "(I)V"⟩
abbrev cX7_requireRange : ByteArray := prog_1_method_32_code
def yX7_requireRange : MethodName := ⟨RX7, "requireRange", "(III)V"⟩
abbrev cX7_requireRoom : ByteArray := prog_1_method_33_code
def yX7_requireRoom : MethodName := ⟨RX7, "requireRoom", "(II)V"⟩
abbrev cX7_layLeast : ByteArray := prog_1_method_34_code
def yX7_layLeast : MethodName := ⟨RX7, "layLeast", "(Z)I"⟩
abbrev cX7_isLowestOfCircle : ByteArray := prog_1_method_35_code
def yX7_isLowestOfCircle : MethodName := ⟨RX7, "isLowestOfCircle", "(I)Z"⟩
abbrev cX7_teamInTheWayOf : ByteArray := prog_1_method_36_code
def yX7_teamInTheWayOf : MethodName := ⟨RX7, "teamInTheWayOf", "(I)I"⟩
def RX8 : String := "DeskPlannerModel"
def TX8 : u_T := fun k => match k with
  | _ => ("", "", "", false)
def tyX8 : Nat → FieldType := fun k => match k with
  | _ => .int
abbrev wsX80 : List Cond := u_ws RX8 TX8 0
theorem nmX8 : ∀ a, a < 0 → ∀ b, b < 0 → a ≠ b → (TX8 a).2.1 ≠ (TX8 b).2.1 := by decide +kernel
theorem tyX8_ok : ∀ k, k < 0 → parseFieldDescriptor (TX8 k).2.2.1 = some (tyX8 k) := by decide +kernel
def RJx145de : String := "java/io/Serializable"
def TJx145de : u_T := fun k => match k with
  | _ => ("", "", "", false)
def tyJx145de : Nat → FieldType := fun k => match k with
  | _ => .int
abbrev wsJx145de0 : List Cond := u_ws RJx145de TJx145de 0
theorem nmJx145de : ∀ a, a < 0 → ∀ b, b < 0 → a ≠ b → (TJx145de a).2.1 ≠ (TJx145de b).2.1 := by decide +kernel
theorem tyJx145de_ok : ∀ k, k < 0 → parseFieldDescriptor (TJx145de k).2.2.1 = some (tyJx145de k) := by decide +kernel
def RJ9 : String := "java/lang/Math"
def TJ9 : u_T := fun k => match k with
  | _ => ("", "", "", false)
def tyJ9 : Nat → FieldType := fun k => match k with
  | _ => .int
abbrev wsJ90 : List Cond := u_ws RJ9 TJ9 0
theorem nmJ9 : ∀ a, a < 0 → ∀ b, b < 0 → a ≠ b → (TJ9 a).2.1 ≠ (TJ9 b).2.1 := by decide +kernel
theorem tyJ9_ok : ∀ k, k < 0 → parseFieldDescriptor (TJ9 k).2.2.1 = some (tyJ9 k) := by decide +kernel
abbrev cJ9_max_7cf53 : ByteArray := prog_15_method_65_code
def yJ9_max_7cf53 : MethodName := ⟨RJ9, "max", "(II)I"⟩
def RJ0 : String := "java/lang/String"
def TJ0 : u_T := fun k => match k with
  | _ => ("", "", "", false)
def tyJ0 : Nat → FieldType := fun k => match k with
  | _ => .int
abbrev wsJ00 : List Cond := u_ws RJ0 TJ0 0
theorem nmJ0 : ∀ a, a < 0 → ∀ b, b < 0 → a ≠ b → (TJ0 a).2.1 ≠ (TJ0 b).2.1 := by decide +kernel
theorem tyJ0_ok : ∀ k, k < 0 → parseFieldDescriptor (TJ0 k).2.2.1 = some (tyJ0 k) := by decide +kernel
def RJ10 : String := "java/lang/System"
def TJ10 : u_T := fun k => match k with
  | _ => ("", "", "", false)
def tyJ10 : Nat → FieldType := fun k => match k with
  | _ => .int
abbrev wsJ100 : List Cond := u_ws RJ10 TJ10 0
theorem nmJ10 : ∀ a, a < 0 → ∀ b, b < 0 → a ≠ b → (TJ10 a).2.1 ≠ (TJ10 b).2.1 := by decide +kernel
theorem tyJ10_ok : ∀ k, k < 0 → parseFieldDescriptor (TJ10 k).2.2.1 = some (tyJ10 k) := by decide +kernel
def RJ7 : String := "java/util/Arrays"
def TJ7 : u_T := fun k => match k with
  | _ => ("", "", "", false)
def tyJ7 : Nat → FieldType := fun k => match k with
  | _ => .int
abbrev wsJ70 : List Cond := u_ws RJ7 TJ7 0
theorem nmJ7 : ∀ a, a < 0 → ∀ b, b < 0 → a ≠ b → (TJ7 a).2.1 ≠ (TJ7 b).2.1 := by decide +kernel
theorem tyJ7_ok : ∀ k, k < 0 → parseFieldDescriptor (TJ7 k).2.2.1 = some (tyJ7 k) := by decide +kernel
abbrev cJ7_fill_53178 : ByteArray := prog_20_method_103_code
def yJ7_fill_53178 : MethodName := ⟨RJ7, "fill", "([II)V"⟩
def RL : String := "DeskPlannerLaw"
abbrev cL_drawn : ByteArray := method_2_code
def yL_drawn : MethodName := ⟨RL, "drawn", "([II)I"⟩
abbrev cL_wall : ByteArray := method_3_code
def yL_wall : MethodName := ⟨RL, "wall", "(LDeskPlanner;IIZ)I"⟩
abbrev cL_zone : ByteArray := method_4_code
def yL_zone : MethodName := ⟨RL, "zone", "(LDeskPlanner;III)I"⟩
abbrev cL_set : ByteArray := method_5_code
def yL_set : MethodName := ⟨RL, "set", "(LDeskPlanner;IIII)I"⟩
abbrev cL_does : ByteArray := method_6_code
def yL_does : MethodName := ⟨RL, "does", "(LDeskPlanner;I)I"⟩
abbrev cL_search : ByteArray := method_7_code
def yL_search : MethodName := ⟨RL, "search", "(LDeskPlanner;II)I"⟩
abbrev cL_of : ByteArray := method_8_code
def yL_of : MethodName := ⟨RL, "of", "(LDeskPlanner;III)I"⟩
abbrev cL_areAlike : ByteArray := method_9_code
def yL_areAlike : MethodName := ⟨RL, "areAlike", "(LDeskPlanner;LDeskPlanner;)Z"⟩
abbrev cL_law : ByteArray := code
def yL_law : MethodName := ⟨RL, "law", "([I)Z"⟩
abbrev vwCl : List vw_C := [(RX0, TX0, 5), (RX1, TX1, 8), (RX2, TX2, 5), (RX3, TX3, 2), (RX4, TX4, 1), (RX5, TX5, 5), (RX6, TX6, 4), (RX7, TX7, 5)]
