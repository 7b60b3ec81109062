/-! names -/
def RX0 : String := "TrenchBook$Bounds"
def TX0 : u_T := fun k => match k with
  | 0 => ("TrenchBook$Bounds", "ownLower", "[I", true)
  | 1 => ("TrenchBook$Bounds", "ownUpper", "[I", true)
  | 2 => ("TrenchBook$Bounds", "lower", "[I", true)
  | _ => ("TrenchBook$Bounds", "upper", "[I", true)
def tyX0 : Nat → FieldType := fun k => match k with
  | 0 => .array .int
  | 1 => .array .int
  | 2 => .array .int
  | _ => .array .int
abbrev wsX00 : List Cond := u_ws RX0 TX0 4
theorem nmX0 : ∀ a, a < 4 → ∀ b, b < 4 → a ≠ b → (TX0 a).2.1 ≠ (TX0 b).2.1 := by decide +kernel
theorem tyX0_ok : ∀ k, k < 4 → parseFieldDescriptor (TX0 k).2.2.1 = some (tyX0 k) := by decide +kernel
abbrev cX0_init : ByteArray := prog_2_method_1_code
def yX0_init : MethodName := ⟨RX0, "<init>", "()V"⟩
abbrev cX0_renew : ByteArray := prog_2_method_2_code
def yX0_renew : MethodName := ⟨RX0, "renew", "(LTrenchBook$Units;LTrenchBook$Finds;LTrenchBook$Matrix;)V"⟩
abbrev cX0_gatherDates : ByteArray := prog_2_method_3_code
def yX0_gatherDates : MethodName := ⟨RX0, "gatherDates", "(LTrenchBook$Units;LTrenchBook$Matrix;)V"⟩
abbrev cX0_gatherFinds : ByteArray := prog_2_method_4_code
def yX0_gatherFinds : MethodName := ⟨RX0, "gatherFinds", "(LTrenchBook$Finds;LTrenchBook$Matrix;)V"⟩
abbrev cX0_spread : ByteArray := prog_2_method_5_code
def yX0_spread : MethodName := ⟨RX0, "spread", "(ILTrenchBook$Matrix;)V"⟩
def RX1 : String := "TrenchBook$Finds"
def TX1 : u_T := fun k => match k with
  | 0 => ("TrenchBook$Finds", "size", "I", false)
  | 1 => ("TrenchBook$Finds", "units", "[I", true)
  | 2 => ("TrenchBook$Finds", "sorts", "[I", true)
  | 3 => ("TrenchBook$Finds", "firsts", "[I", true)
  | 4 => ("TrenchBook$Finds", "lasts", "[I", true)
  | 5 => ("TrenchBook$Finds", "xs", "[I", true)
  | 6 => ("TrenchBook$Finds", "ys", "[I", true)
  | _ => ("TrenchBook$Finds", "zs", "[I", true)
def tyX1 : Nat → FieldType := fun k => match k with
  | 0 => .int
  | 1 => .array .int
  | 2 => .array .int
  | 3 => .array .int
  | 4 => .array .int
  | 5 => .array .int
  | 6 => .array .int
  | _ => .array .int
abbrev wsX10 : List Cond := u_ws RX1 TX1 8
theorem nmX1 : ∀ a, a < 8 → ∀ b, b < 8 → a ≠ b → (TX1 a).2.1 ≠ (TX1 b).2.1 := by decide +kernel
theorem tyX1_ok : ∀ k, k < 8 → parseFieldDescriptor (TX1 k).2.2.1 = some (tyX1 k) := by decide +kernel
abbrev cX1_init : ByteArray := prog_3_method_1_code
def yX1_init : MethodName := ⟨RX1, "<init>", "()V"⟩
abbrev cX1_append : ByteArray := prog_3_method_2_code
def yX1_append : MethodName := ⟨RX1, "append", "(IIII)I"⟩
abbrev cX1_countIn : ByteArray := prog_3_method_3_code
def yX1_countIn : MethodName := ⟨RX1, "countIn", "(I)I"⟩
def RX2 : String := "TrenchBook$Matrix"
def TX2 : u_T := fun k => match k with
  | 0 => ("TrenchBook$Matrix", "size", "I", false)
  | 1 => ("TrenchBook$Matrix", "bodies", "J", false)
  | 2 => ("TrenchBook$Matrix", "bodyOf", "[I", true)
  | 3 => ("TrenchBook$Matrix", "members", "[J", true)
  | 4 => ("TrenchBook$Matrix", "directlyEarlier", "[J", true)
  | 5 => ("TrenchBook$Matrix", "earlier", "[J", true)
  | 6 => ("TrenchBook$Matrix", "later", "[J", true)
  | 7 => ("TrenchBook$Matrix", "links", "[J", true)
  | 8 => ("TrenchBook$Matrix", "fromBelow", "[I", true)
  | 9 => ("TrenchBook$Matrix", "fromAbove", "[I", true)
  | _ => ("TrenchBook$Matrix", "stepsLeft", "[I", true)
def tyX2 : Nat → FieldType := fun k => match k with
  | 0 => .int
  | 1 => .long
  | 2 => .array .int
  | 3 => .array .long
  | 4 => .array .long
  | 5 => .array .long
  | 6 => .array .long
  | 7 => .array .long
  | 8 => .array .int
  | 9 => .array .int
  | _ => .array .int
abbrev wsX20 : List Cond := u_ws RX2 TX2 11
theorem nmX2 : ∀ a, a < 11 → ∀ b, b < 11 → a ≠ b → (TX2 a).2.1 ≠ (TX2 b).2.1 := by decide +kernel
theorem tyX2_ok : ∀ k, k < 11 → parseFieldDescriptor (TX2 k).2.2.1 = some (tyX2 k) := by decide +kernel
abbrev cX2_init : ByteArray := prog_4_method_1_code
def yX2_init : MethodName := ⟨RX2, "<init>", "()V"⟩
abbrev cX2_isSameBody : ByteArray := prog_4_method_2_code
def yX2_isSameBody : MethodName := ⟨RX2, "isSameBody", "(II)Z"⟩
abbrev cX2_isLater : ByteArray := prog_4_method_3_code
def yX2_isLater : MethodName := ⟨RX2, "isLater", "(II)Z"⟩
abbrev cX2_renew : ByteArray := prog_4_method_4_code
def yX2_renew : MethodName := ⟨RX2, "renew", "(ILTrenchBook$Relations;)V"⟩
abbrev cX2_joinUnits : ByteArray := prog_4_method_5_code
def yX2_joinUnits : MethodName := ⟨RX2, "joinUnits", "(LTrenchBook$Relations;)V"⟩
abbrev cX2_joinBodies : ByteArray := prog_4_method_6_code
def yX2_joinBodies : MethodName := ⟨RX2, "joinBodies", "(II)V"⟩
abbrev cX2_gatherMembers : ByteArray := prog_4_method_7_code
def yX2_gatherMembers : MethodName := ⟨RX2, "gatherMembers", "()V"⟩
abbrev cX2_gatherDirectlyEarlier : ByteArray := prog_4_method_8_code
def yX2_gatherDirectlyEarlier : MethodName := ⟨RX2, "gatherDirectlyEarlier", "(LTrenchBook$Relations;)V"⟩
abbrev cX2_gatherEarlier : ByteArray := prog_4_method_9_code
def yX2_gatherEarlier : MethodName := ⟨RX2, "gatherEarlier", "()V"⟩
abbrev cX2_gatherLater : ByteArray := prog_4_method_10_code
def yX2_gatherLater : MethodName := ⟨RX2, "gatherLater", "()V"⟩
abbrev cX2_gatherLinks : ByteArray := prog_4_method_11_code
def yX2_gatherLinks : MethodName := ⟨RX2, "gatherLinks", "()V"⟩
abbrev cX2_rank : ByteArray := prog_4_method_12_code
def yX2_rank : MethodName := ⟨RX2, "rank", "(J[J[I)V"⟩
abbrev cX2_linkCount : ByteArray := prog_4_method_13_code
def yX2_linkCount : MethodName := ⟨RX2, "linkCount", "()I"⟩
abbrev cX2_levelCount : ByteArray := prog_4_method_14_code
def yX2_levelCount : MethodName := ⟨RX2, "levelCount", "()I"⟩
abbrev cX2_bodyOnWay : ByteArray := prog_4_method_16_code
def yX2_bodyOnWay : MethodName := ⟨RX2, "bodyOnWay", "(III)I"⟩
abbrev cX2_nextOnWay : ByteArray := prog_4_method_17_code
def yX2_nextOnWay : MethodName := ⟨RX2, "nextOnWay", "(IJ)I"⟩
def RX3 : String := "TrenchBook$Relations"
def TX3 : u_T := fun k => match k with
  | 0 => ("TrenchBook$Relations", "size", "I", false)
  | 1 => ("TrenchBook$Relations", "kinds", "[I", true)
  | 2 => ("TrenchBook$Relations", "laters", "[I", true)
  | _ => ("TrenchBook$Relations", "earliers", "[I", true)
def tyX3 : Nat → FieldType := fun k => match k with
  | 0 => .int
  | 1 => .array .int
  | 2 => .array .int
  | _ => .array .int
abbrev wsX30 : List Cond := u_ws RX3 TX3 4
theorem nmX3 : ∀ a, a < 4 → ∀ b, b < 4 → a ≠ b → (TX3 a).2.1 ≠ (TX3 b).2.1 := by decide +kernel
theorem tyX3_ok : ∀ k, k < 4 → parseFieldDescriptor (TX3 k).2.2.1 = some (tyX3 k) := by decide +kernel
abbrev cX3_init : ByteArray := prog_5_method_1_code
def yX3_init : MethodName := ⟨RX3, "<init>", "()V"⟩
abbrev cX3_append : ByteArray := prog_5_method_2_code
def yX3_append : MethodName := ⟨RX3, "append", "(III)V"⟩
abbrev cX3_remove : ByteArray := prog_5_method_3_code
def yX3_remove : MethodName := ⟨RX3, "remove", "(I)V"⟩
abbrev cX3_isTold : ByteArray := prog_5_method_4_code
def yX3_isTold : MethodName := ⟨RX3, "isTold", "(III)Z"⟩
def RX4 : String := "TrenchBook$Units"
def TX4 : u_T := fun k => match k with
  | 0 => ("TrenchBook$Units", "size", "I", false)
  | 1 => ("TrenchBook$Units", "dug", "J", false)
  | 2 => ("TrenchBook$Units", "dated", "J", false)
  | 3 => ("TrenchBook$Units", "sorts", "[I", true)
  | 4 => ("TrenchBook$Units", "phases", "[I", true)
  | 5 => ("TrenchBook$Units", "firsts", "[I", true)
  | _ => ("TrenchBook$Units", "lasts", "[I", true)
def tyX4 : Nat → FieldType := fun k => match k with
  | 0 => .int
  | 1 => .long
  | 2 => .long
  | 3 => .array .int
  | 4 => .array .int
  | 5 => .array .int
  | _ => .array .int
abbrev wsX40 : List Cond := u_ws RX4 TX4 7
theorem nmX4 : ∀ a, a < 7 → ∀ b, b < 7 → a ≠ b → (TX4 a).2.1 ≠ (TX4 b).2.1 := by decide +kernel
theorem tyX4_ok : ∀ k, k < 7 → parseFieldDescriptor (TX4 k).2.2.1 = some (tyX4 k) := by decide +kernel
abbrev cX4_init : ByteArray := prog_6_method_1_code
def yX4_init : MethodName := ⟨RX4, "<init>", "()V"⟩
abbrev cX4_append : ByteArray := prog_6_method_2_code
def yX4_append : MethodName := ⟨RX4, "append", "(I)I"⟩
abbrev cX4_setDate : ByteArray := prog_6_method_3_code
def yX4_setDate : MethodName := ⟨RX4, "setDate", "(III)V"⟩
def RX5 : String := "TrenchBook"
def TX5 : u_T := fun k => match k with
  | 0 => ("TrenchBook", "units", "LTrenchBook$Units;", true)
  | 1 => ("TrenchBook", "relations", "LTrenchBook$Relations;", true)
  | 2 => ("TrenchBook", "matrix", "LTrenchBook$Matrix;", true)
  | 3 => ("TrenchBook", "finds", "LTrenchBook$Finds;", true)
  | _ => ("TrenchBook", "bounds", "LTrenchBook$Bounds;", true)
def tyX5 : Nat → FieldType := fun k => match k with
  | 0 => .object "TrenchBook$Units"
  | 1 => .object "TrenchBook$Relations"
  | 2 => .object "TrenchBook$Matrix"
  | 3 => .object "TrenchBook$Finds"
  | _ => .object "TrenchBook$Bounds"
abbrev wsX50 : List Cond := u_ws RX5 TX5 5
theorem nmX5 : ∀ a, a < 5 → ∀ b, b < 5 → a ≠ b → (TX5 a).2.1 ≠ (TX5 b).2.1 := by decide +kernel
theorem tyX5_ok : ∀ k, k < 5 → parseFieldDescriptor (TX5 k).2.2.1 = some (tyX5 k) := by decide +kernel
abbrev cX5_init : ByteArray := prog_1_method_1_code
def yX5_init : MethodName := ⟨RX5, "<init>", "()V"⟩
abbrev cX5_addUnit : ByteArray := prog_1_method_2_code
def yX5_addUnit : MethodName := ⟨RX5, "addUnit", "(I)I"⟩
abbrev cX5_relate : ByteArray := prog_1_method_3_code
def yX5_relate : MethodName := ⟨RX5, "relate", "(III)I"⟩
abbrev cX5_takeBack : ByteArray := prog_1_method_4_code
def yX5_takeBack : MethodName := ⟨RX5, "takeBack", "(I)I"⟩
abbrev cX5_relation : ByteArray := prog_1_method_5_code
def yX5_relation : MethodName := ⟨RX5, "relation", "(II)I"⟩
abbrev cX5_count : ByteArray := prog_1_method_6_code
def yX5_count : MethodName := ⟨RX5, "count", "(I)I"⟩
abbrev cX5_unit : ByteArray := prog_1_method_7_code
def yX5_unit : MethodName := ⟨RX5, "unit", "(II)I"⟩
abbrev cX5_order : ByteArray := prog_1_method_8_code
def yX5_order : MethodName := ⟨RX5, "order", "(II)I"⟩
abbrev cX5_isLinked : ByteArray := prog_1_method_9_code
def yX5_isLinked : MethodName := ⟨RX5, "isLinked", "(II)Z"⟩
abbrev cX5_way : ByteArray := prog_1_method_11_code
def yX5_way : MethodName := ⟨RX5, "way", "(III)I"⟩
abbrev cX5_between : ByteArray := prog_1_method_12_code
def yX5_between : MethodName := ⟨RX5, "between", "(II)I"⟩
abbrev cX5_addFind : ByteArray := prog_1_method_13_code
def yX5_addFind : MethodName := ⟨RX5, "addFind", "(IIII)I"⟩
abbrev cX5_find : ByteArray := prog_1_method_16_code
def yX5_find : MethodName := ⟨RX5, "find", "(II)I"⟩
abbrev cX5_date : ByteArray := prog_1_method_17_code
def yX5_date : MethodName := ⟨RX5, "date", "(III)I"⟩
abbrev cX5_bound : ByteArray := prog_1_method_18_code
def yX5_bound : MethodName := ⟨RX5, "bound", "(IZ)I"⟩
abbrev cX5_dig : ByteArray := prog_1_method_21_code
def yX5_dig : MethodName := ⟨RX5, "dig", "(I)I"⟩
abbrev cX5_next : ByteArray := prog_1_method_22_code
def yX5_next : MethodName := ⟨RX5, "next", "(I)I"⟩
abbrev cX5_phaseAll : ByteArray := prog_1_method_24_code
def yX5_phaseAll : MethodName := ⟨RX5, "phaseAll", "()I"⟩
abbrev cX5_digest : ByteArray := prog_1_method_27_code
def yX5_digest : MethodName := ⟨RX5, "digest", "()J"⟩
abbrev cX5_requireUnit : ByteArray := prog_1_method_28_code
def yX5_requireUnit : MethodName := ⟨RX5, "requireUnit", "(I)V"⟩
abbrev cX5_requireRelation : ByteArray := prog_1_method_29_code
def yX5_requireRelation : MethodName := ⟨RX5, "requireRelation", "(I)V"⟩
abbrev cX5_requireFind : ByteArray := prog_1_method_30_code
def yX5_requireFind : MethodName := ⟨RX5, "requireFind", "(I)V"⟩
abbrev cX5_requireFact : ByteArray := prog_1_method_31_code
def yX5_requireFact : MethodName := ⟨RX5, "requireFact", "(II)V"⟩
abbrev cX5_requirePlace : ByteArray := prog_1_method_32_code
def yX5_requirePlace : MethodName := ⟨RX5, "requirePlace", "(I)V"⟩
abbrev cX5_requireYears : ByteArray := prog_1_method_33_code
def yX5_requireYears : MethodName := ⟨RX5, "requireYears", "(II)V"⟩
abbrev cX5_isWithin : ByteArray := prog_1_method_35_code
def yX5_isWithin : MethodName := ⟨RX5, "isWithin", "(III)Z"⟩
abbrev cX5_renewMatrix : ByteArray := prog_1_method_36_code
def yX5_renewMatrix : MethodName := ⟨RX5, "renewMatrix", "()V"⟩
abbrev cX5_renewBounds : ByteArray := prog_1_method_37_code
def yX5_renewBounds : MethodName := ⟨RX5, "renewBounds", "()V"⟩
abbrev cX5_whyRefused : ByteArray := prog_1_method_38_code
def yX5_whyRefused : MethodName := ⟨RX5, "whyRefused", "(III)I"⟩
abbrev cX5_doSortsFit : ByteArray := prog_1_method_39_code
def yX5_doSortsFit : MethodName := ⟨RX5, "doSortsFit", "(III)Z"⟩
abbrev cX5_wouldMakeLoop : ByteArray := prog_1_method_40_code
def yX5_wouldMakeLoop : MethodName := ⟨RX5, "wouldMakeLoop", "(III)Z"⟩
abbrev cX5_bodiesInDoubt : ByteArray := prog_1_method_41_code
def yX5_bodiesInDoubt : MethodName := ⟨RX5, "bodiesInDoubt", "()J"⟩
abbrev cX5_misfit : ByteArray := prog_1_method_42_code
def yX5_misfit : MethodName := ⟨RX5, "misfit", "(I)I"⟩
abbrev cX5_canBeDug : ByteArray := prog_1_method_43_code
def yX5_canBeDug : MethodName := ⟨RX5, "canBeDug", "(I)Z"⟩
abbrev cX5_unitsToDig : ByteArray := prog_1_method_44_code
def yX5_unitsToDig : MethodName := ⟨RX5, "unitsToDig", "()J"⟩
abbrev cX5_isPairOutOfPhase : ByteArray := prog_1_method_45_code
def yX5_isPairOutOfPhase : MethodName := ⟨RX5, "isPairOutOfPhase", "(II)Z"⟩
abbrev cX5_pairsOutOfPhase : ByteArray := prog_1_method_46_code
def yX5_pairsOutOfPhase : MethodName := ⟨RX5, "pairsOutOfPhase", "()I"⟩
abbrev cX5_bit : ByteArray := prog_1_method_47_code
def yX5_bit : MethodName := ⟨RX5, "bit", "(I)J"⟩
abbrev cX5_has : ByteArray := prog_1_method_48_code
def yX5_has : MethodName := ⟨RX5, "has", "(JI)Z"⟩
abbrev cX5_elementAt : ByteArray := prog_1_method_49_code
def yX5_elementAt : MethodName := ⟨RX5, "elementAt", "(JI)I"⟩
def RX6 : String := "TrenchBookModel"
def TX6 : u_T := fun k => match k with
  | _ => ("", "", "", false)
def tyX6 : Nat → FieldType := fun k => match k with
  | _ => .int
abbrev wsX60 : List Cond := u_ws RX6 TX6 0
theorem nmX6 : ∀ a, a < 0 → ∀ b, b < 0 → a ≠ b → (TX6 a).2.1 ≠ (TX6 b).2.1 := by decide +kernel
theorem tyX6_ok : ∀ k, k < 0 → parseFieldDescriptor (TX6 k).2.2.1 = some (tyX6 k) := by decide +kernel
def RJ13 : String := "java/lang/Long"
def TJ13 : u_T := fun k => match k with
  | _ => ("", "", "", false)
def tyJ13 : Nat → FieldType := fun k => match k with
  | _ => .int
abbrev wsJ130 : List Cond := u_ws RJ13 TJ13 0
theorem nmJ13 : ∀ a, a < 0 → ∀ b, b < 0 → a ≠ b → (TJ13 a).2.1 ≠ (TJ13 b).2.1 := by decide +kernel
theorem tyJ13_ok : ∀ k, k < 0 → parseFieldDescriptor (TJ13 k).2.2.1 = some (tyJ13 k) := by decide +kernel
abbrev cJ13_bitCount_95d88 : ByteArray := prog_13_method_50_code
def yJ13_bitCount_95d88 : MethodName := ⟨RJ13, "bitCount", "(J)I"⟩
def RJ9 : String := "java/lang/Math"
def TJ9 : u_T := fun k => match k with
  | _ => ("", "", "", false)
def tyJ9 : Nat → FieldType := fun k => match k with
  | _ => .int
abbrev wsJ90 : List Cond := u_ws RJ9 TJ9 0
theorem nmJ9 : ∀ a, a < 0 → ∀ b, b < 0 → a ≠ b → (TJ9 a).2.1 ≠ (TJ9 b).2.1 := by decide +kernel
theorem tyJ9_ok : ∀ k, k < 0 → parseFieldDescriptor (TJ9 k).2.2.1 = some (tyJ9 k) := by decide +kernel
abbrev cJ9_max_7cf53 : ByteArray := prog_14_method_65_code
def yJ9_max_7cf53 : MethodName := ⟨RJ9, "max", "(II)I"⟩
abbrev cJ9_min_7cf53 : ByteArray := prog_14_method_69_code
def yJ9_min_7cf53 : MethodName := ⟨RJ9, "min", "(II)I"⟩
def RJ0 : String := "java/lang/String"
def TJ0 : u_T := fun k => match k with
  | _ => ("", "", "", false)
def tyJ0 : Nat → FieldType := fun k => match k with
  | _ => .int
abbrev wsJ00 : List Cond := u_ws RJ0 TJ0 0
theorem nmJ0 : ∀ a, a < 0 → ∀ b, b < 0 → a ≠ b → (TJ0 a).2.1 ≠ (TJ0 b).2.1 := by decide +kernel
theorem tyJ0_ok : ∀ k, k < 0 → parseFieldDescriptor (TJ0 k).2.2.1 = some (tyJ0 k) := by decide +kernel
def RL : String := "TrenchBookLaw"
abbrev cL_below : ByteArray := method_2_code
def yL_below : MethodName := ⟨RL, "below", "(II)I"⟩
abbrev cL_cell : ByteArray := method_3_code
def yL_cell : MethodName := ⟨RL, "cell", "([II)I"⟩
abbrev cL_law : ByteArray := code
def yL_law : MethodName := ⟨RL, "law", "([I)Z"⟩
abbrev vwCl : List vw_C := [(RX0, TX0, 4), (RX1, TX1, 8), (RX2, TX2, 11), (RX3, TX3, 4), (RX4, TX4, 7), (RX5, TX5, 5)]
