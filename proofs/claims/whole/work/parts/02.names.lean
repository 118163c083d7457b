def RX0 : String := "FieldAfterField$Book"
def TX0 : u_T := fun k => match k with
  | 0 => ("FieldAfterField$Book", "tools", "[I", true)
  | 1 => ("FieldAfterField$Book", "shifts", "[I", true)
  | 2 => ("FieldAfterField$Book", "reads", "[I", true)
  | 3 => ("FieldAfterField$Book", "isRead", "[Z", true)
  | 4 => ("FieldAfterField$Book", "mended", "[[I", true)
  | 5 => ("FieldAfterField$Book", "many", "I", false)
  | _ => ("FieldAfterField$Book", "gain", "I", false)
def tyX0 : Nat → FieldType := fun k => match k with
  | 0 => .array .int
  | 1 => .array .int
  | 2 => .array .int
  | 3 => .array .boolean
  | 4 => .array (.array .int)
  | 5 => .int
  | _ => .int
abbrev wsX00 : List Cond := u_ws RX0 TX0 7
theorem nmX0 : ∀ a, a < 7 → ∀ b, b < 7 → a ≠ b → (TX0 a).2.1 ≠ (TX0 b).2.1 := by decide +kernel
theorem tyX0_ok : ∀ k, k < 7 → parseFieldDescriptor (TX0 k).2.2.1 = some (tyX0 k) := by decide +kernel
abbrev cX0_init : ByteArray := prog_2_method_1_code
def yX0_init : MethodName := ⟨RX0, "<init>", "()V"⟩
abbrev cX0_has : ByteArray := prog_2_method_2_code
def yX0_has : MethodName := ⟨RX0, "has", "(I)Z"⟩
abbrev cX0_add : ByteArray := prog_2_method_3_code
def yX0_add : MethodName := ⟨RX0, "add", "(II)I"⟩
abbrev cX0_setRead : ByteArray := prog_2_method_4_code
def yX0_setRead : MethodName := ⟨RX0, "setRead", "(II)V"⟩
abbrev cX0_setMended : ByteArray := prog_2_method_5_code
def yX0_setMended : MethodName := ⟨RX0, "setMended", "(I)V"⟩
abbrev cX0_howManyRead : ByteArray := prog_2_method_6_code
def yX0_howManyRead : MethodName := ⟨RX0, "howManyRead", "()I"⟩
abbrev cX0_stateAhead : ByteArray := prog_2_method_7_code
def yX0_stateAhead : MethodName := ⟨RX0, "stateAhead", "(II)I"⟩
def RX1 : String := "FieldAfterField$Fit"
def TX1 : u_T := fun k => match k with
  | 0 => ("FieldAfterField$Fit", "table", "LFieldAfterField$Table;", true)
  | 1 => ("FieldAfterField$Fit", "sums", "[[J", true)
  | 2 => ("FieldAfterField$Fit", "factors", "[[J", true)
  | _ => ("FieldAfterField$Fit", "model", "I", false)
def tyX1 : Nat → FieldType := fun k => match k with
  | 0 => .object "FieldAfterField$Table"
  | 1 => .array (.array .long)
  | 2 => .array (.array .long)
  | _ => .int
abbrev wsX10 : List Cond := u_ws RX1 TX1 4
theorem nmX1 : ∀ a, a < 4 → ∀ b, b < 4 → a ≠ b → (TX1 a).2.1 ≠ (TX1 b).2.1 := by decide +kernel
theorem tyX1_ok : ∀ k, k < 4 → parseFieldDescriptor (TX1 k).2.2.1 = some (tyX1 k) := by decide +kernel
abbrev cX1_init : ByteArray := prog_3_method_1_code
def yX1_init : MethodName := ⟨RX1, "<init>", "()V"⟩
abbrev cX1_make : ByteArray := prog_3_method_2_code
def yX1_make : MethodName := ⟨RX1, "make", "(LFieldAfterField$Marks;II)Z"⟩
abbrev cX1_makeSums : ByteArray := prog_3_method_3_code
def yX1_makeSums : MethodName := ⟨RX1, "makeSums", "(LFieldAfterField$Marks;II)V"⟩
abbrev cX1_makeFactors : ByteArray := prog_3_method_4_code
def yX1_makeFactors : MethodName := ⟨RX1, "makeFactors", "(I)V"⟩
abbrev cX1_restOf : ByteArray := prog_3_method_5_code
def yX1_restOf : MethodName := ⟨RX1, "restOf", "(LFieldAfterField$Marks;II)J"⟩
abbrev cX1_greaterRestOf : ByteArray := prog_3_method_6_code
def yX1_greaterRestOf : MethodName := ⟨RX1, "greaterRestOf", "(LFieldAfterField$Marks;I)J"⟩
abbrev cX1_sumOfSquares : ByteArray := prog_3_method_7_code
def yX1_sumOfSquares : MethodName := ⟨RX1, "sumOfSquares", "(I)J"⟩
abbrev cX1_above : ByteArray := prog_3_method_8_code
def yX1_above : MethodName := ⟨RX1, "above", "(LFieldAfterField$Marks;II)I"⟩
abbrev cX1_liars : ByteArray := prog_3_method_9_code
def yX1_liars : MethodName := ⟨RX1, "liars", "(LFieldAfterField$Marks;II)I"⟩
abbrev cX1_worstOf : ByteArray := prog_3_method_10_code
def yX1_worstOf : MethodName := ⟨RX1, "worstOf", "(LFieldAfterField$Marks;I)I"⟩
def RX2 : String := "FieldAfterField$Marks"
def TX2 : u_T := fun k => match k with
  | 0 => ("FieldAfterField$Marks", "f", "[I", true)
  | 1 => ("FieldAfterField$Marks", "g", "[I", true)
  | 2 => ("FieldAfterField$Marks", "i", "[I", true)
  | 3 => ("FieldAfterField$Marks", "j", "[I", true)
  | 4 => ("FieldAfterField$Marks", "reads", "[[I", true)
  | 5 => ("FieldAfterField$Marks", "many", "I", false)
  | 6 => ("FieldAfterField$Marks", "lost", "I", false)
  | _ => ("FieldAfterField$Marks", "out", "I", false)
def tyX2 : Nat → FieldType := fun k => match k with
  | 0 => .array .int
  | 1 => .array .int
  | 2 => .array .int
  | 3 => .array .int
  | 4 => .array (.array .int)
  | 5 => .int
  | 6 => .int
  | _ => .int
abbrev wsX20 : List Cond := u_ws RX2 TX2 8
theorem nmX2 : ∀ a, a < 8 → ∀ b, b < 8 → a ≠ b → (TX2 a).2.1 ≠ (TX2 b).2.1 := by decide +kernel
theorem tyX2_ok : ∀ k, k < 8 → parseFieldDescriptor (TX2 k).2.2.1 = some (tyX2 k) := by decide +kernel
abbrev cX2_init : ByteArray := prog_4_method_1_code
def yX2_init : MethodName := ⟨RX2, "<init>", "()V"⟩
abbrev cX2_has : ByteArray := prog_4_method_2_code
def yX2_has : MethodName := ⟨RX2, "has", "(I)Z"⟩
abbrev cX2_add : ByteArray := prog_4_method_3_code
def yX2_add : MethodName := ⟨RX2, "add", "(IIII)I"⟩
abbrev cX2_setReads : ByteArray := prog_4_method_4_code
def yX2_setReads : MethodName := ⟨RX2, "setReads", "(III)V"⟩
abbrev cX2_forget : ByteArray := prog_4_method_5_code
def yX2_forget : MethodName := ⟨RX2, "forget", "(I)V"⟩
abbrev cX2_notLost : ByteArray := prog_4_method_6_code
def yX2_notLost : MethodName := ⟨RX2, "notLost", "()I"⟩
abbrev cX2_counting : ByteArray := prog_4_method_7_code
def yX2_counting : MethodName := ⟨RX2, "counting", "()I"⟩
abbrev cX2_secondTerm : ByteArray := prog_4_method_8_code
def yX2_secondTerm : MethodName := ⟨RX2, "secondTerm", "(II)I"⟩
abbrev cX2_thirdTerm : ByteArray := prog_4_method_9_code
def yX2_thirdTerm : MethodName := ⟨RX2, "thirdTerm", "(II)I"⟩
abbrev cX2_fieldsOf : ByteArray := prog_4_method_10_code
def yX2_fieldsOf : MethodName := ⟨RX2, "fieldsOf", "(I)I"⟩
abbrev cX2_hasEarlierOfField : ByteArray := prog_4_method_11_code
def yX2_hasEarlierOfField : MethodName := ⟨RX2, "hasEarlierOfField", "(II)Z"⟩
def RX3 : String := "FieldAfterField$Planner"
def TX3 : u_T := fun k => match k with
  | 0 => ("FieldAfterField$Planner", "table", "LFieldAfterField$Table;", true)
  | 1 => ("FieldAfterField$Planner", "model", "I", false)
  | 2 => ("FieldAfterField$Planner", "best", "I", false)
  | 3 => ("FieldAfterField$Planner", "bestUpper", "J", false)
  | _ => ("FieldAfterField$Planner", "bestLower", "J", false)
def tyX3 : Nat → FieldType := fun k => match k with
  | 0 => .object "FieldAfterField$Table"
  | 1 => .int
  | 2 => .int
  | 3 => .long
  | _ => .long
abbrev wsX30 : List Cond := u_ws RX3 TX3 5
theorem nmX3 : ∀ a, a < 5 → ∀ b, b < 5 → a ≠ b → (TX3 a).2.1 ≠ (TX3 b).2.1 := by decide +kernel
theorem tyX3_ok : ∀ k, k < 5 → parseFieldDescriptor (TX3 k).2.2.1 = some (tyX3 k) := by decide +kernel
abbrev cX3_init : ByteArray := prog_5_method_1_code
def yX3_init : MethodName := ⟨RX3, "<init>", "()V"⟩
abbrev cX3_make : ByteArray := prog_5_method_2_code
def yX3_make : MethodName := ⟨RX3, "make", "(LFieldAfterField$Marks;II)Z"⟩
abbrev cX3_choose : ByteArray := prog_5_method_3_code
def yX3_choose : MethodName := ⟨RX3, "choose", "(LFieldAfterField$Marks;III)V"⟩
abbrev cX3_chooseWith : ByteArray := prog_5_method_4_code
def yX3_chooseWith : MethodName := ⟨RX3, "chooseWith", "(LFieldAfterField$Marks;III)V"⟩
abbrev cX3_weigh : ByteArray := prog_5_method_5_code
def yX3_weigh : MethodName := ⟨RX3, "weigh", "(LFieldAfterField$Marks;I)V"⟩
def RX4 : String := "FieldAfterField$Router"
def TX4 : u_T := fun k => match k with
  | 0 => ("FieldAfterField$Router", "offsets", "[[I", true)
  | 1 => ("FieldAfterField$Router", "tools", "[I", true)
  | 2 => ("FieldAfterField$Router", "best", "[I", true)
  | 3 => ("FieldAfterField$Router", "used", "[I", true)
  | 4 => ("FieldAfterField$Router", "budget", "I", false)
  | 5 => ("FieldAfterField$Router", "cap", "I", false)
  | _ => ("FieldAfterField$Router", "bestSum", "I", false)
def tyX4 : Nat → FieldType := fun k => match k with
  | 0 => .array (.array .int)
  | 1 => .array .int
  | 2 => .array .int
  | 3 => .array .int
  | 4 => .int
  | 5 => .int
  | _ => .int
abbrev wsX40 : List Cond := u_ws RX4 TX4 7
theorem nmX4 : ∀ a, a < 7 → ∀ b, b < 7 → a ≠ b → (TX4 a).2.1 ≠ (TX4 b).2.1 := by decide +kernel
theorem tyX4_ok : ∀ k, k < 7 → parseFieldDescriptor (TX4 k).2.2.1 = some (tyX4 k) := by decide +kernel
abbrev cX4_init : ByteArray := prog_6_method_1_code
def yX4_init : MethodName := ⟨RX4, "<init>", "()V"⟩
abbrev cX4_make : ByteArray := prog_6_method_2_code
def yX4_make : MethodName := ⟨RX4, "make", "(I)Z"⟩
abbrev cX4_send : ByteArray := prog_6_method_3_code
def yX4_send : MethodName := ⟨RX4, "send", "(III)V"⟩
abbrev cX4_sendTo : ByteArray := prog_6_method_4_code
def yX4_sendTo : MethodName := ⟨RX4, "sendTo", "(IIII)V"⟩
abbrev cX4_stepTo : ByteArray := prog_6_method_5_code
def yX4_stepTo : MethodName := ⟨RX4, "stepTo", "(II)I"⟩
def RX5 : String := "FieldAfterField$Table"
def TX5 : u_T := fun k => match k with
  | 0 => ("FieldAfterField$Table", "s00", "J", false)
  | 1 => ("FieldAfterField$Table", "s01", "J", false)
  | 2 => ("FieldAfterField$Table", "s02", "J", false)
  | 3 => ("FieldAfterField$Table", "s11", "J", false)
  | 4 => ("FieldAfterField$Table", "s12", "J", false)
  | 5 => ("FieldAfterField$Table", "s22", "J", false)
  | 6 => ("FieldAfterField$Table", "v00", "J", false)
  | 7 => ("FieldAfterField$Table", "v01", "J", false)
  | 8 => ("FieldAfterField$Table", "v02", "J", false)
  | 9 => ("FieldAfterField$Table", "v11", "J", false)
  | 10 => ("FieldAfterField$Table", "v12", "J", false)
  | 11 => ("FieldAfterField$Table", "v22", "J", false)
  | _ => ("FieldAfterField$Table", "det", "J", false)
def tyX5 : Nat → FieldType := fun k => match k with
  | 0 => .long
  | 1 => .long
  | 2 => .long
  | 3 => .long
  | 4 => .long
  | 5 => .long
  | 6 => .long
  | 7 => .long
  | 8 => .long
  | 9 => .long
  | 10 => .long
  | 11 => .long
  | _ => .long
abbrev wsX50 : List Cond := u_ws RX5 TX5 13
theorem nmX5 : ∀ a, a < 13 → ∀ b, b < 13 → a ≠ b → (TX5 a).2.1 ≠ (TX5 b).2.1 := by decide +kernel
theorem tyX5_ok : ∀ k, k < 13 → parseFieldDescriptor (TX5 k).2.2.1 = some (tyX5 k) := by decide +kernel
abbrev cX5_init : ByteArray := prog_7_method_1_code
def yX5_init : MethodName := ⟨RX5, "<init>", "()V"⟩
abbrev cX5_clear : ByteArray := prog_7_method_2_code
def yX5_clear : MethodName := ⟨RX5, "clear", "(I)V"⟩
abbrev cX5_add : ByteArray := prog_7_method_3_code
def yX5_add : MethodName := ⟨RX5, "add", "(JJI)V"⟩
abbrev cX5_turnBack : ByteArray := prog_7_method_4_code
def yX5_turnBack : MethodName := ⟨RX5, "turnBack", "()V"⟩
abbrev cX5_formOf : ByteArray := prog_7_method_5_code
def yX5_formOf : MethodName := ⟨RX5, "formOf", "(JJ)J"⟩
def RX6 : String := "FieldAfterField"
def TX6 : u_T := fun k => match k with
  | 0 => ("FieldAfterField", "marks", "LFieldAfterField$Marks;", true)
  | 1 => ("FieldAfterField", "fitted", "LFieldAfterField$Fit;", true)
  | 2 => ("FieldAfterField", "planner", "LFieldAfterField$Planner;", true)
  | 3 => ("FieldAfterField", "book", "LFieldAfterField$Book;", true)
  | _ => ("FieldAfterField", "router", "LFieldAfterField$Router;", true)
def tyX6 : Nat → FieldType := fun k => match k with
  | 0 => .object "FieldAfterField$Marks"
  | 1 => .object "FieldAfterField$Fit"
  | 2 => .object "FieldAfterField$Planner"
  | 3 => .object "FieldAfterField$Book"
  | _ => .object "FieldAfterField$Router"
abbrev wsX60 : List Cond := u_ws RX6 TX6 5
theorem nmX6 : ∀ a, a < 5 → ∀ b, b < 5 → a ≠ b → (TX6 a).2.1 ≠ (TX6 b).2.1 := by decide +kernel
theorem tyX6_ok : ∀ k, k < 5 → parseFieldDescriptor (TX6 k).2.2.1 = some (tyX6 k) := by decide +kernel
abbrev cX6_init : ByteArray := prog_1_method_1_code
def yX6_init : MethodName := ⟨RX6, "<init>", "()V"⟩
abbrev cX6_mark : ByteArray := prog_1_method_2_code
def yX6_mark : MethodName := ⟨RX6, "mark", "(IIII)I"⟩
abbrev cX6_read : ByteArray := prog_1_method_3_code
def yX6_read : MethodName := ⟨RX6, "read", "(III)I"⟩
abbrev cX6_lose : ByteArray := prog_1_method_4_code
def yX6_lose : MethodName := ⟨RX6, "lose", "(I)I"⟩
abbrev cX6_told : ByteArray := prog_1_method_5_code
def yX6_told : MethodName := ⟨RX6, "told", "(II)I"⟩
abbrev cX6_count : ByteArray := prog_1_method_6_code
def yX6_count : MethodName := ⟨RX6, "count", "(I)I"⟩
abbrev cX6_det : ByteArray := prog_1_method_7_code
def yX6_det : MethodName := ⟨RX6, "det", "(I)J"⟩
abbrev cX6_fit : ByteArray := prog_1_method_8_code
def yX6_fit : MethodName := ⟨RX6, "fit", "(IIII)J"⟩
abbrev cX6_rest : ByteArray := prog_1_method_9_code
def yX6_rest : MethodName := ⟨RX6, "rest", "(IIII)J"⟩
abbrev cX6_spread : ByteArray := prog_1_method_10_code
def yX6_spread : MethodName := ⟨RX6, "spread", "(III)J"⟩
abbrev cX6_judge : ByteArray := prog_1_method_11_code
def yX6_judge : MethodName := ⟨RX6, "judge", "(II)I"⟩
abbrev cX6_plan : ByteArray := prog_1_method_12_code
def yX6_plan : MethodName := ⟨RX6, "plan", "(III)J"⟩
abbrev cX6_lot : ByteArray := prog_1_method_13_code
def yX6_lot : MethodName := ⟨RX6, "lot", "(II)I"⟩
abbrev cX6_back : ByteArray := prog_1_method_14_code
def yX6_back : MethodName := ⟨RX6, "back", "(II)I"⟩
abbrev cX6_mend : ByteArray := prog_1_method_15_code
def yX6_mend : MethodName := ⟨RX6, "mend", "(I)I"⟩
abbrev cX6_gain : ByteArray := prog_1_method_16_code
def yX6_gain : MethodName := ⟨RX6, "gain", "(I)I"⟩
abbrev cX6_state : ByteArray := prog_1_method_17_code
def yX6_state : MethodName := ⟨RX6, "state", "(II)I"⟩
abbrev cX6_advice : ByteArray := prog_1_method_18_code
def yX6_advice : MethodName := ⟨RX6, "advice", "(I)I"⟩
abbrev cX6_offset : ByteArray := prog_1_method_19_code
def yX6_offset : MethodName := ⟨RX6, "offset", "(III)I"⟩
abbrev cX6_rule : ByteArray := prog_1_method_20_code
def yX6_rule : MethodName := ⟨RX6, "rule", "(II)I"⟩
abbrev cX6_route : ByteArray := prog_1_method_21_code
def yX6_route : MethodName := ⟨RX6, "route", "(II)I"⟩
abbrev cX6_bad : ByteArray := prog_1_method_22_code
def yX6_bad : MethodName := ⟨RX6, "bad", "(III)I"⟩
abbrev cX6_outside : ByteArray := prog_1_method_23_code
def yX6_outside : MethodName := ⟨RX6, "outside", "(III)Z"⟩
abbrev cX6_outsideFit : ByteArray := prog_1_method_24_code
def yX6_outsideFit : MethodName := ⟨RX6, "outsideFit", "(III)Z"⟩
abbrev cX6_lastTerm : ByteArray := prog_1_method_25_code
def yX6_lastTerm : MethodName := ⟨RX6, "lastTerm", "(I)I"⟩
abbrev cX6_isIn : ByteArray := prog_1_method_26_code
def yX6_isIn : MethodName := ⟨RX6, "isIn", "(II)Z"⟩
abbrev cX6_partOf : ByteArray := prog_1_method_27_code
def yX6_partOf : MethodName := ⟨RX6, "partOf", "(JJI)J"⟩
abbrev cX6_commonDivisor : ByteArray := prog_1_method_28_code
def yX6_commonDivisor : MethodName := ⟨RX6, "commonDivisor", "(JJ)J"⟩
def RX7 : String := "FieldAfterFieldModel"
def TX7 : u_T := fun k => match k with
  | 0 => ("FieldAfterFieldModel", "marks", "I", false)
  | 1 => ("FieldAfterFieldModel", "places", "[I", true)
  | 2 => ("FieldAfterFieldModel", "reads", "[I", true)
  | 3 => ("FieldAfterFieldModel", "isLost", "[Z", true)
  | 4 => ("FieldAfterFieldModel", "isOut", "[Z", true)
  | 5 => ("FieldAfterFieldModel", "lots", "I", false)
  | 6 => ("FieldAfterFieldModel", "lotTool", "[I", true)
  | 7 => ("FieldAfterFieldModel", "lotShift", "[I", true)
  | 8 => ("FieldAfterFieldModel", "lotRead", "[I", true)
  | 9 => ("FieldAfterFieldModel", "hasRead", "[Z", true)
  | 10 => ("FieldAfterFieldModel", "mended", "[Z", true)
  | 11 => ("FieldAfterFieldModel", "gain", "I", false)
  | 12 => ("FieldAfterFieldModel", "offsets", "[I", true)
  | 13 => ("FieldAfterFieldModel", "budget", "I", false)
  | 14 => ("FieldAfterFieldModel", "cap", "I", false)
  | 15 => ("FieldAfterFieldModel", "sums", "[J", true)
  | 16 => ("FieldAfterFieldModel", "turned", "[J", true)
  | 17 => ("FieldAfterFieldModel", "det", "J", false)
  | 18 => ("FieldAfterFieldModel", "sides", "[J", true)
  | 19 => ("FieldAfterFieldModel", "factors", "[J", true)
  | 20 => ("FieldAfterFieldModel", "worst", "[J", true)
  | 21 => ("FieldAfterFieldModel", "tools", "[I", true)
  | _ => ("FieldAfterFieldModel", "loads", "[I", true)
def tyX7 : Nat → FieldType := fun k => match k with
  | 0 => .int
  | 1 => .array .int
  | 2 => .array .int
  | 3 => .array .boolean
  | 4 => .array .boolean
  | 5 => .int
  | 6 => .array .int
  | 7 => .array .int
  | 8 => .array .int
  | 9 => .array .boolean
  | 10 => .array .boolean
  | 11 => .int
  | 12 => .array .int
  | 13 => .int
  | 14 => .int
  | 15 => .array .long
  | 16 => .array .long
  | 17 => .long
  | 18 => .array .long
  | 19 => .array .long
  | 20 => .array .long
  | 21 => .array .int
  | _ => .array .int
abbrev wsX70 : List Cond := u_ws RX7 TX7 23
theorem nmX7 : ∀ a, a < 23 → ∀ b, b < 23 → a ≠ b → (TX7 a).2.1 ≠ (TX7 b).2.1 := by decide +kernel
theorem tyX7_ok : ∀ k, k < 23 → parseFieldDescriptor (TX7 k).2.2.1 = some (tyX7 k) := by decide +kernel
abbrev cX7_init : ByteArray := prog_9_method_1_code
def yX7_init : MethodName := ⟨RX7, "<init>", "()V"⟩
abbrev cX7_in : ByteArray := prog_9_method_3_code
def yX7_in : MethodName := ⟨RX7, "in", "(JJJ)Z"⟩
abbrev cX7_mark : ByteArray := prog_9_method_4_code
def yX7_mark : MethodName := ⟨RX7, "mark", "(IIII)I"⟩
abbrev cX7_isMark : ByteArray := prog_9_method_5_code
def yX7_isMark : MethodName := ⟨RX7, "isMark", "(I)Z"⟩
abbrev cX7_read : ByteArray := prog_9_method_6_code
def yX7_read : MethodName := ⟨RX7, "read", "(III)I"⟩
abbrev cX7_lose : ByteArray := prog_9_method_7_code
def yX7_lose : MethodName := ⟨RX7, "lose", "(I)I"⟩
abbrev cX7_told : ByteArray := prog_9_method_8_code
def yX7_told : MethodName := ⟨RX7, "told", "(II)I"⟩
abbrev cX7_counts : ByteArray := prog_9_method_9_code
def yX7_counts : MethodName := ⟨RX7, "counts", "(I)Z"⟩
abbrev cX7_counting : ByteArray := prog_9_method_10_code
def yX7_counting : MethodName := ⟨RX7, "counting", "()I"⟩
abbrev cX7_bits : ByteArray := prog_9_method_11_code
def yX7_bits : MethodName := ⟨RX7, "bits", "(I)I"⟩
abbrev cX7_fieldsOf : ByteArray := prog_9_method_12_code
def yX7_fieldsOf : MethodName := ⟨RX7, "fieldsOf", "(I)I"⟩
abbrev cX7_count : ByteArray := prog_9_method_13_code
def yX7_count : MethodName := ⟨RX7, "count", "(I)I"⟩
abbrev cX7_isModel : ByteArray := prog_9_method_14_code
def yX7_isModel : MethodName := ⟨RX7, "isModel", "(I)Z"⟩
abbrev cX7_termsOf : ByteArray := prog_9_method_15_code
def yX7_termsOf : MethodName := ⟨RX7, "termsOf", "(I)I"⟩
abbrev cX7_term : ByteArray := prog_9_method_16_code
def yX7_term : MethodName := ⟨RX7, "term", "(III)J"⟩
abbrev cX7_minor : ByteArray := prog_9_method_17_code
def yX7_minor : MethodName := ⟨RX7, "minor", "(II)J"⟩
abbrev cX7_lay : ByteArray := prog_9_method_18_code
def yX7_lay : MethodName := ⟨RX7, "lay", "(II)V"⟩
abbrev cX7_det : ByteArray := prog_9_method_19_code
def yX7_det : MethodName := ⟨RX7, "det", "(I)J"⟩
abbrev cX7_findFit : ByteArray := prog_9_method_20_code
def yX7_findFit : MethodName := ⟨RX7, "findFit", "(III)V"⟩
abbrev cX7_restOf : ByteArray := prog_9_method_21_code
def yX7_restOf : MethodName := ⟨RX7, "restOf", "(III)J"⟩
abbrev cX7_size : ByteArray := prog_9_method_22_code
def yX7_size : MethodName := ⟨RX7, "size", "(J)J"⟩
abbrev cX7_share : ByteArray := prog_9_method_23_code
def yX7_share : MethodName := ⟨RX7, "share", "(JJI)J"⟩
abbrev cX7_fit : ByteArray := prog_9_method_24_code
def yX7_fit : MethodName := ⟨RX7, "fit", "(IIII)J"⟩
abbrev cX7_rest : ByteArray := prog_9_method_25_code
def yX7_rest : MethodName := ⟨RX7, "rest", "(IIII)J"⟩
abbrev cX7_spread : ByteArray := prog_9_method_26_code
def yX7_spread : MethodName := ⟨RX7, "spread", "(III)J"⟩
abbrev cX7_findWorst : ByteArray := prog_9_method_27_code
def yX7_findWorst : MethodName := ⟨RX7, "findWorst", "(II)V"⟩
abbrev cX7_judge : ByteArray := prog_9_method_28_code
def yX7_judge : MethodName := ⟨RX7, "judge", "(II)I"⟩
abbrev cX7_worstOf : ByteArray := prog_9_method_29_code
def yX7_worstOf : MethodName := ⟨RX7, "worstOf", "(I)J"⟩
abbrev cX7_plan : ByteArray := prog_9_method_30_code
def yX7_plan : MethodName := ⟨RX7, "plan", "(III)J"⟩
abbrev cX7_isAhead : ByteArray := prog_9_method_31_code
def yX7_isAhead : MethodName := ⟨RX7, "isAhead", "(II)Z"⟩
abbrev cX7_isTool : ByteArray := prog_9_method_32_code
def yX7_isTool : MethodName := ⟨RX7, "isTool", "(I)Z"⟩
abbrev cX7_lot : ByteArray := prog_9_method_33_code
def yX7_lot : MethodName := ⟨RX7, "lot", "(II)I"⟩
abbrev cX7_back : ByteArray := prog_9_method_34_code
def yX7_back : MethodName := ⟨RX7, "back", "(II)I"⟩
abbrev cX7_mend : ByteArray := prog_9_method_35_code
def yX7_mend : MethodName := ⟨RX7, "mend", "(I)I"⟩
abbrev cX7_gain : ByteArray := prog_9_method_36_code
def yX7_gain : MethodName := ⟨RX7, "gain", "(I)I"⟩
abbrev cX7_stateOf : ByteArray := prog_9_method_37_code
def yX7_stateOf : MethodName := ⟨RX7, "stateOf", "(II)I"⟩
abbrev cX7_state : ByteArray := prog_9_method_38_code
def yX7_state : MethodName := ⟨RX7, "state", "(II)I"⟩
abbrev cX7_advice : ByteArray := prog_9_method_39_code
def yX7_advice : MethodName := ⟨RX7, "advice", "(I)I"⟩
abbrev cX7_offset : ByteArray := prog_9_method_40_code
def yX7_offset : MethodName := ⟨RX7, "offset", "(III)I"⟩
abbrev cX7_rule : ByteArray := prog_9_method_41_code
def yX7_rule : MethodName := ⟨RX7, "rule", "(II)I"⟩
abbrev cX7_sumOf : ByteArray := prog_9_method_42_code
def yX7_sumOf : MethodName := ⟨RX7, "sumOf", "(I)I"⟩
abbrev cX7_layRoute : ByteArray := prog_9_method_43_code
def yX7_layRoute : MethodName := ⟨RX7, "layRoute", "(II)V"⟩
abbrev cX7_route : ByteArray := prog_9_method_44_code
def yX7_route : MethodName := ⟨RX7, "route", "(II)I"⟩
abbrev cX7_bad : ByteArray := prog_9_method_45_code
def yX7_bad : MethodName := ⟨RX7, "bad", "(III)I"⟩
def RJ6 : String := "java/lang/Integer"
def TJ6 : u_T := fun k => match k with
  | _ => ("", "", "", false)
def tyJ6 : Nat → FieldType := fun k => match k with
  | _ => .int
abbrev wsJ60 : List Cond := u_ws RJ6 TJ6 0
theorem nmJ6 : ∀ a, a < 0 → ∀ b, b < 0 → a ≠ b → (TJ6 a).2.1 ≠ (TJ6 b).2.1 := by decide +kernel
theorem tyJ6_ok : ∀ k, k < 0 → parseFieldDescriptor (TJ6 k).2.2.1 = some (tyJ6 k) := by decide +kernel
abbrev cJ6_bitCount_0f7a4 : ByteArray := prog_10_method_49_code
def yJ6_bitCount_0f7a4 : MethodName := ⟨RJ6, "bitCount", "(I)I"⟩
def RJ9 : String := "java/lang/Math"
def TJ9 : u_T := fun k => match k with
  | _ => ("", "", "", false)
def tyJ9 : Nat → FieldType := fun k => match k with
  | _ => .int
abbrev wsJ90 : List Cond := u_ws RJ9 TJ9 0
theorem nmJ9 : ∀ a, a < 0 → ∀ b, b < 0 → a ≠ b → (TJ9 a).2.1 ≠ (TJ9 b).2.1 := by decide +kernel
theorem tyJ9_ok : ∀ k, k < 0 → parseFieldDescriptor (TJ9 k).2.2.1 = some (tyJ9 k) := by decide +kernel
abbrev cJ9_abs_0f7a4 : ByteArray := prog_11_method_59_code
def yJ9_abs_0f7a4 : MethodName := ⟨RJ9, "abs", "(I)I"⟩
abbrev cJ9_abs_067f4 : ByteArray := prog_11_method_61_code
def yJ9_abs_067f4 : MethodName := ⟨RJ9, "abs", "(J)J"⟩
abbrev cJ9_max_f86c9 : ByteArray := prog_11_method_66_code
def yJ9_max_f86c9 : MethodName := ⟨RJ9, "max", "(JJ)J"⟩
def RJ10 : String := "java/lang/System"
def TJ10 : u_T := fun k => match k with
  | _ => ("", "", "", false)
def tyJ10 : Nat → FieldType := fun k => match k with
  | _ => .int
abbrev wsJ100 : List Cond := u_ws RJ10 TJ10 0
theorem nmJ10 : ∀ a, a < 0 → ∀ b, b < 0 → a ≠ b → (TJ10 a).2.1 ≠ (TJ10 b).2.1 := by decide +kernel
theorem tyJ10_ok : ∀ k, k < 0 → parseFieldDescriptor (TJ10 k).2.2.1 = some (tyJ10 k) := by decide +kernel
def RL : String := "FieldAfterFieldLaw"
abbrev cL_law : ByteArray := code
def yL_law : MethodName := ⟨RL, "law", "([I)Z"⟩
abbrev vwCl : List vw_C := [(RX0, TX0, 7), (RX1, TX1, 4), (RX2, TX2, 8), (RX3, TX3, 5), (RX4, TX4, 7), (RX5, TX5, 13), (RX6, TX6, 5), (RX7, TX7, 23)]
/-- the good words of the tables: what every contract rests on -/
def WA : List Cond := lw_tbl.filter goodWord
theorem wa {w : Cond} (h : w ∈ tables_1) (g : goodWord w = true) : w ∈ WA := List.mem_filter.mpr ⟨List.mem_append_right _ h, g⟩
theorem was {w : Cond} (h : w ∈ k2_sels lw_privs) (g : goodWord w = true) : w ∈ WA := List.mem_filter.mpr ⟨List.mem_append_left _ h, g⟩
theorem WA_good : ∀ w ∈ WA, goodWord w = true := fun _ h => (List.mem_filter.mp h).2
theorem WA_in : ∀ w ∈ WA, w ∈ lw_tbl := fun _ h => (List.mem_filter.mp h).1
def nestW : Cond → Bool
  | .fieldLinkNest _ _ _ _ _ _ => true
  | .methodLinkNest _ _ _ _ => true
  | _ => false
/-- the words on nest mates -/
def nw (U : State) : Prop := ∀ w ∈ tables_1, nestW w = true → va_Nw w U
theorem nw.warm {s U : State} (hW : s.WarmedH U.vm) (h : nw s) : nw U := by
  intro w hw hn
  have h1 := h w hw hn
  cases w <;> first | (exact va_Nw.warmF hW h1) | (exact va_Nw.warmM hW h1) | (simp [nestW] at hn; done)
theorem nw.same {u U : State} (e : u.vm = U.vm) (h : nw u) : nw U := by
  intro w hw hn
  have h1 := h w hw hn
  cases w <;> first | (simp [nestW] at hn; done) | (exact va_Nw.same rfl e h1)
theorem nw.of {A : Array Value} {U : State} (h : ∀ w ∈ lw_tbl, w.before A U = true) : nw U := by
  intro w hw hn
  have h1 := h w (List.mem_append_right _ hw)
  cases w <;> first | (simp [nestW] at hn; done) | (exact va_Nw.of rfl h1)
theorem tw0 : (Cond.initialized "FieldAfterFieldLaw") ∈ tables_1 := List.mem_append_left _ (List.mem_of_getElem? (i := 0) rfl)
theorem tw1 : (Cond.initialized "FieldAfterField") ∈ tables_1 := List.mem_append_left _ (List.mem_of_getElem? (i := 1) rfl)
theorem tw2 : (Cond.initialized "FieldAfterField$Marks") ∈ tables_1 := List.mem_append_left _ (List.mem_of_getElem? (i := 2) rfl)
theorem tw3 : (Cond.initialized "FieldAfterField$Fit") ∈ tables_1 := List.mem_append_left _ (List.mem_of_getElem? (i := 3) rfl)
theorem tw4 : (Cond.initialized "FieldAfterField$Table") ∈ tables_1 := List.mem_append_left _ (List.mem_of_getElem? (i := 4) rfl)
theorem tw5 : (Cond.initialized "FieldAfterField$Planner") ∈ tables_1 := List.mem_append_left _ (List.mem_of_getElem? (i := 5) rfl)
theorem tw6 : (Cond.initialized "FieldAfterField$Book") ∈ tables_1 := List.mem_append_left _ (List.mem_of_getElem? (i := 6) rfl)
theorem tw7 : (Cond.initialized "FieldAfterField$Router") ∈ tables_1 := List.mem_append_left _ (List.mem_of_getElem? (i := 7) rfl)
theorem tw8 : (Cond.initialized "FieldAfterFieldModel") ∈ tables_1 := List.mem_append_left _ (List.mem_of_getElem? (i := 8) rfl)
theorem tw9 : (Cond.initialized "java/lang/Integer") ∈ tables_1 := List.mem_append_left _ (List.mem_of_getElem? (i := 9) rfl)
theorem tw10 : (Cond.initialized "java/lang/Math") ∈ tables_1 := List.mem_append_left _ (List.mem_of_getElem? (i := 10) rfl)
theorem tw11 : (Cond.initialized "java/lang/System") ∈ tables_1 := List.mem_append_left _ (List.mem_of_getElem? (i := 11) rfl)
theorem tw12 : (Cond.classLink "FieldAfterFieldLaw" 7 "FieldAfterField") ∈ tables_1 := List.mem_append_left _ (List.mem_of_getElem? (i := 12) rfl)
theorem tw13 : (Cond.instantiable "FieldAfterField" 5) ∈ tables_1 := List.mem_append_left _ (List.mem_of_getElem? (i := 13) rfl)
theorem tw14 : (Cond.methodLink "FieldAfterFieldLaw" 9 ⟨"FieldAfterField", "<init>", "()V"⟩) ∈ tables_1 := List.mem_append_left _ (List.mem_of_getElem? (i := 14) rfl)
theorem tw15 : (Cond.instanceMethod ⟨"FieldAfterField", "<init>", "()V"⟩) ∈ tables_1 := List.mem_append_left _ (List.mem_of_getElem? (i := 15) rfl)
theorem tw16 : (Cond.code ⟨"FieldAfterField", "<init>", "()V"⟩ prog_1_method_1_code 1 (none : Option Jvm.ClassFile.FieldType)) ∈ tables_1 := List.mem_append_left _ (List.mem_of_getElem? (i := 16) rfl)
theorem tw17 : (Cond.methodLink "FieldAfterField" 1 ⟨"java/lang/Object", "<init>", "()V"⟩) ∈ tables_1 := List.mem_append_left _ (List.mem_of_getElem? (i := 17) rfl)
theorem tw18 : (Cond.instanceMethod ⟨"java/lang/Object", "<init>", "()V"⟩) ∈ tables_1 := List.mem_append_left _ (List.mem_of_getElem? (i := 18) rfl)
theorem tw19 : (Cond.code ⟨"java/lang/Object", "<init>", "()V"⟩ object_method_1_code 1 (none : Option Jvm.ClassFile.FieldType)) ∈ tables_1 := List.mem_append_left _ (List.mem_of_getElem? (i := 19) rfl)
theorem tw20 : (Cond.classLink "FieldAfterField" 7 "FieldAfterField$Marks") ∈ tables_1 := List.mem_append_left _ (List.mem_of_getElem? (i := 20) rfl)
theorem tw21 : (Cond.instantiable "FieldAfterField$Marks" 8) ∈ tables_1 := List.mem_append_left _ (List.mem_of_getElem? (i := 21) rfl)
theorem tw22 : (Cond.methodLinkNest "FieldAfterField" 9 ⟨"FieldAfterField$Marks", "<init>", "()V"⟩ "FieldAfterField") ∈ tables_1 := List.mem_append_left _ (List.mem_of_getElem? (i := 22) rfl)
theorem tw23 : (Cond.instanceMethod ⟨"FieldAfterField$Marks", "<init>", "()V"⟩) ∈ tables_1 := List.mem_append_left _ (List.mem_of_getElem? (i := 23) rfl)
theorem tw24 : (Cond.code ⟨"FieldAfterField$Marks", "<init>", "()V"⟩ prog_4_method_1_code 1 (none : Option Jvm.ClassFile.FieldType)) ∈ tables_1 := List.mem_append_left _ (List.mem_of_getElem? (i := 24) rfl)
theorem tw25 : (Cond.methodLink "FieldAfterField$Marks" 3 ⟨"java/lang/Object", "<init>", "()V"⟩) ∈ tables_1 := List.mem_append_left _ (List.mem_of_getElem? (i := 25) rfl)
theorem tw26 : (Cond.classLink "FieldAfterField$Marks" 24 "[[I") ∈ tables_1 := List.mem_append_left _ (List.mem_of_getElem? (i := 26) rfl)
theorem tw27 : (Cond.arrayOver (.array .int)) ∈ tables_1 := List.mem_append_left _ (List.mem_of_getElem? (i := 27) rfl)
theorem tw28 : (Cond.fieldLink "FieldAfterField$Marks" 9 "FieldAfterField$Marks" "f" "[I") ∈ tables_1 := List.mem_append_left _ (List.mem_of_getElem? (i := 28) rfl)
theorem tw29 : (Cond.fieldLinkNest "FieldAfterField" 78 "FieldAfterField$Marks" "f" "[I" "FieldAfterField") ∈ tables_1 := List.mem_append_left _ (List.mem_of_getElem? (i := 29) rfl)
theorem tw30 : (Cond.fieldLink "FieldAfterField$Marks" 15 "FieldAfterField$Marks" "g" "[I") ∈ tables_1 := List.mem_append_left _ (List.mem_of_getElem? (i := 30) rfl)
theorem tw31 : (Cond.fieldLinkNest "FieldAfterField" 82 "FieldAfterField$Marks" "g" "[I" "FieldAfterField") ∈ tables_1 := List.mem_append_left _ (List.mem_of_getElem? (i := 31) rfl)
theorem tw32 : (Cond.fieldLink "FieldAfterField$Marks" 18 "FieldAfterField$Marks" "i" "[I") ∈ tables_1 := List.mem_append_left _ (List.mem_of_getElem? (i := 32) rfl)
theorem tw33 : (Cond.fieldLinkNest "FieldAfterField" 85 "FieldAfterField$Marks" "i" "[I" "FieldAfterField") ∈ tables_1 := List.mem_append_left _ (List.mem_of_getElem? (i := 33) rfl)
theorem tw34 : (Cond.fieldLink "FieldAfterField$Marks" 21 "FieldAfterField$Marks" "j" "[I") ∈ tables_1 := List.mem_append_left _ (List.mem_of_getElem? (i := 34) rfl)
theorem tw35 : (Cond.fieldLinkNest "FieldAfterField" 88 "FieldAfterField$Marks" "j" "[I" "FieldAfterField") ∈ tables_1 := List.mem_append_left _ (List.mem_of_getElem? (i := 35) rfl)
theorem tw36 : (Cond.fieldLink "FieldAfterField$Marks" 26 "FieldAfterField$Marks" "reads" "[[I") ∈ tables_1 := List.mem_append_left _ (List.mem_of_getElem? (i := 36) rfl)
theorem tw37 : (Cond.fieldLinkNest "FieldAfterField$Fit" 68 "FieldAfterField$Marks" "reads" "[[I" "FieldAfterField") ∈ tables_1 := List.mem_append_left _ (List.mem_of_getElem? (i := 37) rfl)
theorem tw38 : (Cond.fieldLinkNest "FieldAfterField" 91 "FieldAfterField$Marks" "reads" "[[I" "FieldAfterField") ∈ tables_1 := List.mem_append_left _ (List.mem_of_getElem? (i := 38) rfl)
theorem tw39 : (Cond.fieldLink "FieldAfterField$Marks" 29 "FieldAfterField$Marks" "many" "I") ∈ tables_1 := List.mem_append_left _ (List.mem_of_getElem? (i := 39) rfl)
theorem tw40 : (Cond.fieldLinkNest "FieldAfterField$Fit" 34 "FieldAfterField$Marks" "many" "I" "FieldAfterField") ∈ tables_1 := List.mem_append_left _ (List.mem_of_getElem? (i := 40) rfl)
theorem tw41 : (Cond.fieldLinkNest "FieldAfterField" 49 "FieldAfterField$Marks" "many" "I" "FieldAfterField") ∈ tables_1 := List.mem_append_left _ (List.mem_of_getElem? (i := 41) rfl)
theorem tw42 : (Cond.fieldLinkNest "FieldAfterField$Planner" 35 "FieldAfterField$Marks" "many" "I" "FieldAfterField") ∈ tables_1 := List.mem_append_left _ (List.mem_of_getElem? (i := 42) rfl)
theorem tw43 : (Cond.fieldLink "FieldAfterField$Marks" 33 "FieldAfterField$Marks" "lost" "I") ∈ tables_1 := List.mem_append_left _ (List.mem_of_getElem? (i := 43) rfl)
theorem tw44 : (Cond.fieldLinkNest "FieldAfterField" 67 "FieldAfterField$Marks" "lost" "I" "FieldAfterField") ∈ tables_1 := List.mem_append_left _ (List.mem_of_getElem? (i := 44) rfl)
theorem tw45 : (Cond.fieldLink "FieldAfterField$Marks" 36 "FieldAfterField$Marks" "out" "I") ∈ tables_1 := List.mem_append_left _ (List.mem_of_getElem? (i := 45) rfl)
theorem tw46 : (Cond.fieldLinkNest "FieldAfterField" 95 "FieldAfterField$Marks" "out" "I" "FieldAfterField") ∈ tables_1 := List.mem_append_left _ (List.mem_of_getElem? (i := 46) rfl)
theorem tw47 : (Cond.laysFinal "FieldAfterField$Marks" "FieldAfterField$Marks" "f" "[I") ∈ tables_1 := List.mem_append_left _ (List.mem_of_getElem? (i := 47) rfl)
theorem tw48 : (Cond.soleField "FieldAfterField$Marks" "f") ∈ tables_1 := List.mem_append_left _ (List.mem_of_getElem? (i := 48) rfl)
theorem tw49 : (Cond.laysFinal "FieldAfterField$Marks" "FieldAfterField$Marks" "g" "[I") ∈ tables_1 := List.mem_append_left _ (List.mem_of_getElem? (i := 49) rfl)
theorem tw50 : (Cond.soleField "FieldAfterField$Marks" "g") ∈ tables_1 := List.mem_append_left _ (List.mem_of_getElem? (i := 50) rfl)
theorem tw51 : (Cond.laysFinal "FieldAfterField$Marks" "FieldAfterField$Marks" "i" "[I") ∈ tables_1 := List.mem_append_left _ (List.mem_of_getElem? (i := 51) rfl)
theorem tw52 : (Cond.soleField "FieldAfterField$Marks" "i") ∈ tables_1 := List.mem_append_left _ (List.mem_of_getElem? (i := 52) rfl)
theorem tw53 : (Cond.laysFinal "FieldAfterField$Marks" "FieldAfterField$Marks" "j" "[I") ∈ tables_1 := List.mem_append_left _ (List.mem_of_getElem? (i := 53) rfl)
theorem tw54 : (Cond.soleField "FieldAfterField$Marks" "j") ∈ tables_1 := List.mem_append_left _ (List.mem_of_getElem? (i := 54) rfl)
theorem tw55 : (Cond.laysFinal "FieldAfterField$Marks" "FieldAfterField$Marks" "reads" "[[I") ∈ tables_1 := List.mem_append_left _ (List.mem_of_getElem? (i := 55) rfl)
theorem tw56 : (Cond.soleField "FieldAfterField$Marks" "reads") ∈ tables_1 := List.mem_append_left _ (List.mem_of_getElem? (i := 56) rfl)
theorem tw57 : (Cond.lays "FieldAfterField$Marks" "FieldAfterField$Marks" "many" "I") ∈ tables_1 := List.mem_append_left _ (List.mem_of_getElem? (i := 57) rfl)
theorem tw58 : (Cond.soleField "FieldAfterField$Marks" "many") ∈ tables_1 := List.mem_append_left _ (List.mem_of_getElem? (i := 58) rfl)
theorem tw59 : (Cond.lays "FieldAfterField$Marks" "FieldAfterField$Marks" "lost" "I") ∈ tables_1 := List.mem_append_left _ (List.mem_of_getElem? (i := 59) rfl)
theorem tw60 : (Cond.soleField "FieldAfterField$Marks" "lost") ∈ tables_1 := List.mem_append_left _ (List.mem_of_getElem? (i := 60) rfl)
theorem tw61 : (Cond.lays "FieldAfterField$Marks" "FieldAfterField$Marks" "out" "I") ∈ tables_1 := List.mem_append_left _ (List.mem_of_getElem? (i := 61) rfl)
theorem tw62 : (Cond.soleField "FieldAfterField$Marks" "out") ∈ tables_1 := List.mem_append_left _ (List.mem_of_getElem? (i := 62) rfl)
theorem tw63 : (Cond.superclass "FieldAfterField$Marks" "java/lang/Object") ∈ tables_1 := List.mem_append_left _ (List.mem_of_getElem? (i := 63) rfl)
theorem tw64 : (Cond.arrayClass .int) ∈ tables_1 := List.mem_append_left _ (List.mem_of_getElem? (i := 64) rfl)
theorem tw65 : (Cond.classLink "FieldAfterField" 16 "FieldAfterField$Fit") ∈ tables_1 := List.mem_append_left _ (List.mem_of_getElem? (i := 65) rfl)
theorem tw66 : (Cond.instantiable "FieldAfterField$Fit" 4) ∈ tables_1 := List.mem_append_left _ (List.mem_of_getElem? (i := 66) rfl)
theorem tw67 : (Cond.methodLinkNest "FieldAfterField" 18 ⟨"FieldAfterField$Fit", "<init>", "()V"⟩ "FieldAfterField") ∈ tables_1 := List.mem_append_left _ (List.mem_of_getElem? (i := 67) rfl)
theorem tw68 : (Cond.instanceMethod ⟨"FieldAfterField$Fit", "<init>", "()V"⟩) ∈ tables_1 := List.mem_append_left _ (List.mem_of_getElem? (i := 68) rfl)
theorem tw69 : (Cond.code ⟨"FieldAfterField$Fit", "<init>", "()V"⟩ prog_3_method_1_code 1 (none : Option Jvm.ClassFile.FieldType)) ∈ tables_1 := List.mem_append_left _ (List.mem_of_getElem? (i := 69) rfl)
theorem tw70 : (Cond.methodLink "FieldAfterField$Fit" 3 ⟨"java/lang/Object", "<init>", "()V"⟩) ∈ tables_1 := List.mem_append_left _ (List.mem_of_getElem? (i := 70) rfl)
theorem tw71 : (Cond.classLink "FieldAfterField$Fit" 9 "FieldAfterField$Table") ∈ tables_1 := List.mem_append_left _ (List.mem_of_getElem? (i := 71) rfl)
theorem tw72 : (Cond.instantiable "FieldAfterField$Table" 13) ∈ tables_1 := List.mem_append_left _ (List.mem_of_getElem? (i := 72) rfl)
theorem tw73 : (Cond.methodLinkNest "FieldAfterField$Fit" 11 ⟨"FieldAfterField$Table", "<init>", "()V"⟩ "FieldAfterField") ∈ tables_1 := List.mem_append_left _ (List.mem_of_getElem? (i := 73) rfl)
theorem tw74 : (Cond.instanceMethod ⟨"FieldAfterField$Table", "<init>", "()V"⟩) ∈ tables_1 := List.mem_append_left _ (List.mem_of_getElem? (i := 74) rfl)
theorem tw75 : (Cond.code ⟨"FieldAfterField$Table", "<init>", "()V"⟩ prog_7_method_1_code 1 (none : Option Jvm.ClassFile.FieldType)) ∈ tables_1 := List.mem_append_left _ (List.mem_of_getElem? (i := 75) rfl)
theorem tw76 : (Cond.methodLink "FieldAfterField$Table" 1 ⟨"java/lang/Object", "<init>", "()V"⟩) ∈ tables_1 := List.mem_append_left _ (List.mem_of_getElem? (i := 76) rfl)
theorem tw77 : (Cond.fieldLink "FieldAfterField$Table" 7 "FieldAfterField$Table" "s00" "J") ∈ tables_1 := List.mem_append_left _ (List.mem_of_getElem? (i := 77) rfl)
theorem tw78 : (Cond.fieldLink "FieldAfterField$Table" 13 "FieldAfterField$Table" "s01" "J") ∈ tables_1 := List.mem_append_left _ (List.mem_of_getElem? (i := 78) rfl)
theorem tw79 : (Cond.fieldLink "FieldAfterField$Table" 16 "FieldAfterField$Table" "s02" "J") ∈ tables_1 := List.mem_append_left _ (List.mem_of_getElem? (i := 79) rfl)
theorem tw80 : (Cond.fieldLink "FieldAfterField$Table" 22 "FieldAfterField$Table" "s11" "J") ∈ tables_1 := List.mem_append_left _ (List.mem_of_getElem? (i := 80) rfl)
theorem tw81 : (Cond.fieldLink "FieldAfterField$Table" 19 "FieldAfterField$Table" "s12" "J") ∈ tables_1 := List.mem_append_left _ (List.mem_of_getElem? (i := 81) rfl)
theorem tw82 : (Cond.fieldLink "FieldAfterField$Table" 25 "FieldAfterField$Table" "s22" "J") ∈ tables_1 := List.mem_append_left _ (List.mem_of_getElem? (i := 82) rfl)
theorem tw83 : (Cond.fieldLink "FieldAfterField$Table" 28 "FieldAfterField$Table" "v00" "J") ∈ tables_1 := List.mem_append_left _ (List.mem_of_getElem? (i := 83) rfl)
theorem tw84 : (Cond.fieldLinkNest "FieldAfterField$Fit" 72 "FieldAfterField$Table" "v00" "J" "FieldAfterField") ∈ tables_1 := List.mem_append_left _ (List.mem_of_getElem? (i := 84) rfl)
theorem tw85 : (Cond.fieldLinkNest "FieldAfterField$Fit" 75 "FieldAfterField$Table" "v01" "J" "FieldAfterField") ∈ tables_1 := List.mem_append_left _ (List.mem_of_getElem? (i := 85) rfl)
theorem tw86 : (Cond.fieldLink "FieldAfterField$Table" 31 "FieldAfterField$Table" "v01" "J") ∈ tables_1 := List.mem_append_left _ (List.mem_of_getElem? (i := 86) rfl)
theorem tw87 : (Cond.fieldLinkNest "FieldAfterField$Fit" 78 "FieldAfterField$Table" "v02" "J" "FieldAfterField") ∈ tables_1 := List.mem_append_left _ (List.mem_of_getElem? (i := 87) rfl)
theorem tw88 : (Cond.fieldLink "FieldAfterField$Table" 34 "FieldAfterField$Table" "v02" "J") ∈ tables_1 := List.mem_append_left _ (List.mem_of_getElem? (i := 88) rfl)
theorem tw89 : (Cond.fieldLinkNest "FieldAfterField$Fit" 81 "FieldAfterField$Table" "v11" "J" "FieldAfterField") ∈ tables_1 := List.mem_append_left _ (List.mem_of_getElem? (i := 89) rfl)
theorem tw90 : (Cond.fieldLink "FieldAfterField$Table" 37 "FieldAfterField$Table" "v11" "J") ∈ tables_1 := List.mem_append_left _ (List.mem_of_getElem? (i := 90) rfl)
theorem tw91 : (Cond.fieldLinkNest "FieldAfterField$Fit" 84 "FieldAfterField$Table" "v12" "J" "FieldAfterField") ∈ tables_1 := List.mem_append_left _ (List.mem_of_getElem? (i := 91) rfl)
theorem tw92 : (Cond.fieldLink "FieldAfterField$Table" 40 "FieldAfterField$Table" "v12" "J") ∈ tables_1 := List.mem_append_left _ (List.mem_of_getElem? (i := 92) rfl)
theorem tw93 : (Cond.fieldLinkNest "FieldAfterField$Fit" 87 "FieldAfterField$Table" "v22" "J" "FieldAfterField") ∈ tables_1 := List.mem_append_left _ (List.mem_of_getElem? (i := 93) rfl)
theorem tw94 : (Cond.fieldLink "FieldAfterField$Table" 43 "FieldAfterField$Table" "v22" "J") ∈ tables_1 := List.mem_append_left _ (List.mem_of_getElem? (i := 94) rfl)
theorem tw95 : (Cond.fieldLinkNest "FieldAfterField$Fit" 64 "FieldAfterField$Table" "det" "J" "FieldAfterField") ∈ tables_1 := List.mem_append_left _ (List.mem_of_getElem? (i := 95) rfl)
theorem tw96 : (Cond.fieldLink "FieldAfterField$Table" 46 "FieldAfterField$Table" "det" "J") ∈ tables_1 := List.mem_append_left _ (List.mem_of_getElem? (i := 96) rfl)
theorem tw97 : (Cond.fieldLinkNest "FieldAfterField$Planner" 57 "FieldAfterField$Table" "det" "J" "FieldAfterField") ∈ tables_1 := List.mem_append_left _ (List.mem_of_getElem? (i := 97) rfl)
theorem tw98 : (Cond.fieldLinkNest "FieldAfterField" 125 "FieldAfterField$Table" "det" "J" "FieldAfterField") ∈ tables_1 := List.mem_append_left _ (List.mem_of_getElem? (i := 98) rfl)
theorem tw99 : (Cond.lays "FieldAfterField$Table" "FieldAfterField$Table" "s00" "J") ∈ tables_1 := List.mem_append_left _ (List.mem_of_getElem? (i := 99) rfl)
theorem tw100 : (Cond.soleField "FieldAfterField$Table" "s00") ∈ tables_1 := List.mem_append_left _ (List.mem_of_getElem? (i := 100) rfl)
theorem tw101 : (Cond.lays "FieldAfterField$Table" "FieldAfterField$Table" "s01" "J") ∈ tables_1 := List.mem_append_left _ (List.mem_of_getElem? (i := 101) rfl)
theorem tw102 : (Cond.soleField "FieldAfterField$Table" "s01") ∈ tables_1 := List.mem_append_left _ (List.mem_of_getElem? (i := 102) rfl)
theorem tw103 : (Cond.lays "FieldAfterField$Table" "FieldAfterField$Table" "s02" "J") ∈ tables_1 := List.mem_append_left _ (List.mem_of_getElem? (i := 103) rfl)
theorem tw104 : (Cond.soleField "FieldAfterField$Table" "s02") ∈ tables_1 := List.mem_append_left _ (List.mem_of_getElem? (i := 104) rfl)
theorem tw105 : (Cond.lays "FieldAfterField$Table" "FieldAfterField$Table" "s11" "J") ∈ tables_1 := List.mem_append_left _ (List.mem_of_getElem? (i := 105) rfl)
theorem tw106 : (Cond.soleField "FieldAfterField$Table" "s11") ∈ tables_1 := List.mem_append_left _ (List.mem_of_getElem? (i := 106) rfl)
theorem tw107 : (Cond.lays "FieldAfterField$Table" "FieldAfterField$Table" "s12" "J") ∈ tables_1 := List.mem_append_left _ (List.mem_of_getElem? (i := 107) rfl)
theorem tw108 : (Cond.soleField "FieldAfterField$Table" "s12") ∈ tables_1 := List.mem_append_left _ (List.mem_of_getElem? (i := 108) rfl)
theorem tw109 : (Cond.lays "FieldAfterField$Table" "FieldAfterField$Table" "s22" "J") ∈ tables_1 := List.mem_append_left _ (List.mem_of_getElem? (i := 109) rfl)
theorem tw110 : (Cond.soleField "FieldAfterField$Table" "s22") ∈ tables_1 := List.mem_append_left _ (List.mem_of_getElem? (i := 110) rfl)
theorem tw111 : (Cond.lays "FieldAfterField$Table" "FieldAfterField$Table" "v00" "J") ∈ tables_1 := List.mem_append_left _ (List.mem_of_getElem? (i := 111) rfl)
theorem tw112 : (Cond.soleField "FieldAfterField$Table" "v00") ∈ tables_1 := List.mem_append_left _ (List.mem_of_getElem? (i := 112) rfl)
theorem tw113 : (Cond.lays "FieldAfterField$Table" "FieldAfterField$Table" "v01" "J") ∈ tables_1 := List.mem_append_left _ (List.mem_of_getElem? (i := 113) rfl)
theorem tw114 : (Cond.soleField "FieldAfterField$Table" "v01") ∈ tables_1 := List.mem_append_left _ (List.mem_of_getElem? (i := 114) rfl)
theorem tw115 : (Cond.lays "FieldAfterField$Table" "FieldAfterField$Table" "v02" "J") ∈ tables_1 := List.mem_append_left _ (List.mem_of_getElem? (i := 115) rfl)
theorem tw116 : (Cond.soleField "FieldAfterField$Table" "v02") ∈ tables_1 := List.mem_append_left _ (List.mem_of_getElem? (i := 116) rfl)
theorem tw117 : (Cond.lays "FieldAfterField$Table" "FieldAfterField$Table" "v11" "J") ∈ tables_1 := List.mem_append_left _ (List.mem_of_getElem? (i := 117) rfl)
theorem tw118 : (Cond.soleField "FieldAfterField$Table" "v11") ∈ tables_1 := List.mem_append_left _ (List.mem_of_getElem? (i := 118) rfl)
theorem tw119 : (Cond.lays "FieldAfterField$Table" "FieldAfterField$Table" "v12" "J") ∈ tables_1 := List.mem_append_left _ (List.mem_of_getElem? (i := 119) rfl)
theorem tw120 : (Cond.soleField "FieldAfterField$Table" "v12") ∈ tables_1 := List.mem_append_left _ (List.mem_of_getElem? (i := 120) rfl)
theorem tw121 : (Cond.lays "FieldAfterField$Table" "FieldAfterField$Table" "v22" "J") ∈ tables_1 := List.mem_append_left _ (List.mem_of_getElem? (i := 121) rfl)
theorem tw122 : (Cond.soleField "FieldAfterField$Table" "v22") ∈ tables_1 := List.mem_append_left _ (List.mem_of_getElem? (i := 122) rfl)
theorem tw123 : (Cond.lays "FieldAfterField$Table" "FieldAfterField$Table" "det" "J") ∈ tables_1 := List.mem_append_left _ (List.mem_of_getElem? (i := 123) rfl)
theorem tw124 : (Cond.soleField "FieldAfterField$Table" "det") ∈ tables_1 := List.mem_append_left _ (List.mem_of_getElem? (i := 124) rfl)
theorem tw125 : (Cond.superclass "FieldAfterField$Table" "java/lang/Object") ∈ tables_1 := List.mem_append_left _ (List.mem_of_getElem? (i := 125) rfl)
theorem tw126 : (Cond.classLink "FieldAfterField$Fit" 18 "[[J") ∈ tables_1 := List.mem_append_left _ (List.mem_of_getElem? (i := 126) rfl)
theorem tw127 : (Cond.arrayOver (.array .long)) ∈ tables_1 := List.mem_append_left _ (List.mem_of_getElem? (i := 127) rfl)
theorem tw128 : (Cond.fieldLink "FieldAfterField$Fit" 12 "FieldAfterField$Fit" "table" "LFieldAfterField$Table;") ∈ tables_1 := List.mem_append_left _ (List.mem_of_getElem? (i := 128) rfl)
theorem tw129 : (Cond.fieldLinkNest "FieldAfterField" 121 "FieldAfterField$Fit" "table" "LFieldAfterField$Table;" "FieldAfterField") ∈ tables_1 := List.mem_append_left _ (List.mem_of_getElem? (i := 129) rfl)
theorem tw130 : (Cond.fieldLink "FieldAfterField$Fit" 20 "FieldAfterField$Fit" "sums" "[[J") ∈ tables_1 := List.mem_append_left _ (List.mem_of_getElem? (i := 130) rfl)
theorem tw131 : (Cond.fieldLink "FieldAfterField$Fit" 23 "FieldAfterField$Fit" "factors" "[[J") ∈ tables_1 := List.mem_append_left _ (List.mem_of_getElem? (i := 131) rfl)
theorem tw132 : (Cond.fieldLinkNest "FieldAfterField" 139 "FieldAfterField$Fit" "factors" "[[J" "FieldAfterField") ∈ tables_1 := List.mem_append_left _ (List.mem_of_getElem? (i := 132) rfl)
theorem tw133 : (Cond.fieldLink "FieldAfterField$Fit" 26 "FieldAfterField$Fit" "model" "I") ∈ tables_1 := List.mem_append_left _ (List.mem_of_getElem? (i := 133) rfl)
theorem tw134 : (Cond.laysFinal "FieldAfterField$Fit" "FieldAfterField$Fit" "table" "LFieldAfterField$Table;") ∈ tables_1 := List.mem_append_left _ (List.mem_of_getElem? (i := 134) rfl)
theorem tw135 : (Cond.soleField "FieldAfterField$Fit" "table") ∈ tables_1 := List.mem_append_left _ (List.mem_of_getElem? (i := 135) rfl)
theorem tw136 : (Cond.laysFinal "FieldAfterField$Fit" "FieldAfterField$Fit" "sums" "[[J") ∈ tables_1 := List.mem_append_left _ (List.mem_of_getElem? (i := 136) rfl)
theorem tw137 : (Cond.soleField "FieldAfterField$Fit" "sums") ∈ tables_1 := List.mem_append_left _ (List.mem_of_getElem? (i := 137) rfl)
theorem tw138 : (Cond.laysFinal "FieldAfterField$Fit" "FieldAfterField$Fit" "factors" "[[J") ∈ tables_1 := List.mem_append_left _ (List.mem_of_getElem? (i := 138) rfl)
theorem tw139 : (Cond.soleField "FieldAfterField$Fit" "factors") ∈ tables_1 := List.mem_append_left _ (List.mem_of_getElem? (i := 139) rfl)
theorem tw140 : (Cond.lays "FieldAfterField$Fit" "FieldAfterField$Fit" "model" "I") ∈ tables_1 := List.mem_append_left _ (List.mem_of_getElem? (i := 140) rfl)
theorem tw141 : (Cond.soleField "FieldAfterField$Fit" "model") ∈ tables_1 := List.mem_append_left _ (List.mem_of_getElem? (i := 141) rfl)
theorem tw142 : (Cond.superclass "FieldAfterField$Fit" "java/lang/Object") ∈ tables_1 := List.mem_append_left _ (List.mem_of_getElem? (i := 142) rfl)
theorem tw143 : (Cond.arrayClass .long) ∈ tables_1 := List.mem_append_left _ (List.mem_of_getElem? (i := 143) rfl)
theorem tw144 : (Cond.classLink "FieldAfterField" 23 "FieldAfterField$Planner") ∈ tables_1 := List.mem_append_left _ (List.mem_of_getElem? (i := 144) rfl)
theorem tw145 : (Cond.instantiable "FieldAfterField$Planner" 5) ∈ tables_1 := List.mem_append_left _ (List.mem_of_getElem? (i := 145) rfl)
theorem tw146 : (Cond.methodLinkNest "FieldAfterField" 25 ⟨"FieldAfterField$Planner", "<init>", "()V"⟩ "FieldAfterField") ∈ tables_1 := List.mem_append_left _ (List.mem_of_getElem? (i := 146) rfl)
theorem tw147 : (Cond.instanceMethod ⟨"FieldAfterField$Planner", "<init>", "()V"⟩) ∈ tables_1 := List.mem_append_left _ (List.mem_of_getElem? (i := 147) rfl)
theorem tw148 : (Cond.code ⟨"FieldAfterField$Planner", "<init>", "()V"⟩ prog_5_method_1_code 1 (none : Option Jvm.ClassFile.FieldType)) ∈ tables_1 := List.mem_append_left _ (List.mem_of_getElem? (i := 148) rfl)
theorem tw149 : (Cond.methodLink "FieldAfterField$Planner" 1 ⟨"java/lang/Object", "<init>", "()V"⟩) ∈ tables_1 := List.mem_append_left _ (List.mem_of_getElem? (i := 149) rfl)
theorem tw150 : (Cond.classLink "FieldAfterField$Planner" 7 "FieldAfterField$Table") ∈ tables_1 := List.mem_append_left _ (List.mem_of_getElem? (i := 150) rfl)
theorem tw151 : (Cond.methodLinkNest "FieldAfterField$Planner" 9 ⟨"FieldAfterField$Table", "<init>", "()V"⟩ "FieldAfterField") ∈ tables_1 := List.mem_append_left _ (List.mem_of_getElem? (i := 151) rfl)
theorem tw152 : (Cond.fieldLink "FieldAfterField$Planner" 10 "FieldAfterField$Planner" "table" "LFieldAfterField$Table;") ∈ tables_1 := List.mem_append_left _ (List.mem_of_getElem? (i := 152) rfl)
theorem tw153 : (Cond.fieldLink "FieldAfterField$Planner" 16 "FieldAfterField$Planner" "model" "I") ∈ tables_1 := List.mem_append_left _ (List.mem_of_getElem? (i := 153) rfl)
theorem tw154 : (Cond.fieldLink "FieldAfterField$Planner" 20 "FieldAfterField$Planner" "best" "I") ∈ tables_1 := List.mem_append_left _ (List.mem_of_getElem? (i := 154) rfl)
theorem tw155 : (Cond.fieldLinkNest "FieldAfterField" 166 "FieldAfterField$Planner" "best" "I" "FieldAfterField") ∈ tables_1 := List.mem_append_left _ (List.mem_of_getElem? (i := 155) rfl)
theorem tw156 : (Cond.fieldLink "FieldAfterField$Planner" 73 "FieldAfterField$Planner" "bestUpper" "J") ∈ tables_1 := List.mem_append_left _ (List.mem_of_getElem? (i := 156) rfl)
theorem tw157 : (Cond.fieldLinkNest "FieldAfterField" 169 "FieldAfterField$Planner" "bestUpper" "J" "FieldAfterField") ∈ tables_1 := List.mem_append_left _ (List.mem_of_getElem? (i := 157) rfl)
theorem tw158 : (Cond.fieldLink "FieldAfterField$Planner" 70 "FieldAfterField$Planner" "bestLower" "J") ∈ tables_1 := List.mem_append_left _ (List.mem_of_getElem? (i := 158) rfl)
theorem tw159 : (Cond.fieldLinkNest "FieldAfterField" 172 "FieldAfterField$Planner" "bestLower" "J" "FieldAfterField") ∈ tables_1 := List.mem_append_left _ (List.mem_of_getElem? (i := 159) rfl)
theorem tw160 : (Cond.laysFinal "FieldAfterField$Planner" "FieldAfterField$Planner" "table" "LFieldAfterField$Table;") ∈ tables_1 := List.mem_append_left _ (List.mem_of_getElem? (i := 160) rfl)
theorem tw161 : (Cond.soleField "FieldAfterField$Planner" "table") ∈ tables_1 := List.mem_append_left _ (List.mem_of_getElem? (i := 161) rfl)
theorem tw162 : (Cond.lays "FieldAfterField$Planner" "FieldAfterField$Planner" "model" "I") ∈ tables_1 := List.mem_append_left _ (List.mem_of_getElem? (i := 162) rfl)
theorem tw163 : (Cond.soleField "FieldAfterField$Planner" "model") ∈ tables_1 := List.mem_append_left _ (List.mem_of_getElem? (i := 163) rfl)
theorem tw164 : (Cond.lays "FieldAfterField$Planner" "FieldAfterField$Planner" "best" "I") ∈ tables_1 := List.mem_append_left _ (List.mem_of_getElem? (i := 164) rfl)
theorem tw165 : (Cond.soleField "FieldAfterField$Planner" "best") ∈ tables_1 := List.mem_append_left _ (List.mem_of_getElem? (i := 165) rfl)
theorem tw166 : (Cond.lays "FieldAfterField$Planner" "FieldAfterField$Planner" "bestUpper" "J") ∈ tables_1 := List.mem_append_left _ (List.mem_of_getElem? (i := 166) rfl)
theorem tw167 : (Cond.soleField "FieldAfterField$Planner" "bestUpper") ∈ tables_1 := List.mem_append_left _ (List.mem_of_getElem? (i := 167) rfl)
theorem tw168 : (Cond.lays "FieldAfterField$Planner" "FieldAfterField$Planner" "bestLower" "J") ∈ tables_1 := List.mem_append_left _ (List.mem_of_getElem? (i := 168) rfl)
theorem tw169 : (Cond.soleField "FieldAfterField$Planner" "bestLower") ∈ tables_1 := List.mem_append_left _ (List.mem_of_getElem? (i := 169) rfl)
theorem tw170 : (Cond.superclass "FieldAfterField$Planner" "java/lang/Object") ∈ tables_1 := List.mem_append_left _ (List.mem_of_getElem? (i := 170) rfl)
theorem tw171 : (Cond.classLink "FieldAfterField" 30 "FieldAfterField$Book") ∈ tables_1 := List.mem_append_left _ (List.mem_of_getElem? (i := 171) rfl)
theorem tw172 : (Cond.instantiable "FieldAfterField$Book" 7) ∈ tables_1 := List.mem_append_left _ (List.mem_of_getElem? (i := 172) rfl)
theorem tw173 : (Cond.methodLinkNest "FieldAfterField" 32 ⟨"FieldAfterField$Book", "<init>", "()V"⟩ "FieldAfterField") ∈ tables_1 := List.mem_append_left _ (List.mem_of_getElem? (i := 173) rfl)
theorem tw174 : (Cond.instanceMethod ⟨"FieldAfterField$Book", "<init>", "()V"⟩) ∈ tables_1 := List.mem_append_left _ (List.mem_of_getElem? (i := 174) rfl)
theorem tw175 : (Cond.code ⟨"FieldAfterField$Book", "<init>", "()V"⟩ prog_2_method_1_code 1 (none : Option Jvm.ClassFile.FieldType)) ∈ tables_1 := List.mem_append_left _ (List.mem_of_getElem? (i := 175) rfl)
theorem tw176 : (Cond.methodLink "FieldAfterField$Book" 3 ⟨"java/lang/Object", "<init>", "()V"⟩) ∈ tables_1 := List.mem_append_left _ (List.mem_of_getElem? (i := 176) rfl)
theorem tw177 : (Cond.classLink "FieldAfterField$Book" 25 "[[I") ∈ tables_1 := List.mem_append_left _ (List.mem_of_getElem? (i := 177) rfl)
theorem tw178 : (Cond.fieldLink "FieldAfterField$Book" 9 "FieldAfterField$Book" "tools" "[I") ∈ tables_1 := List.mem_append_left _ (List.mem_of_getElem? (i := 178) rfl)
theorem tw179 : (Cond.fieldLink "FieldAfterField$Book" 15 "FieldAfterField$Book" "shifts" "[I") ∈ tables_1 := List.mem_append_left _ (List.mem_of_getElem? (i := 179) rfl)
theorem tw180 : (Cond.fieldLink "FieldAfterField$Book" 18 "FieldAfterField$Book" "reads" "[I") ∈ tables_1 := List.mem_append_left _ (List.mem_of_getElem? (i := 180) rfl)
theorem tw181 : (Cond.fieldLink "FieldAfterField$Book" 21 "FieldAfterField$Book" "isRead" "[Z") ∈ tables_1 := List.mem_append_left _ (List.mem_of_getElem? (i := 181) rfl)
theorem tw182 : (Cond.fieldLink "FieldAfterField$Book" 27 "FieldAfterField$Book" "mended" "[[I") ∈ tables_1 := List.mem_append_left _ (List.mem_of_getElem? (i := 182) rfl)
theorem tw183 : (Cond.fieldLink "FieldAfterField$Book" 34 "FieldAfterField$Book" "many" "I") ∈ tables_1 := List.mem_append_left _ (List.mem_of_getElem? (i := 183) rfl)
theorem tw184 : (Cond.fieldLinkNest "FieldAfterField" 108 "FieldAfterField$Book" "many" "I" "FieldAfterField") ∈ tables_1 := List.mem_append_left _ (List.mem_of_getElem? (i := 184) rfl)
theorem tw185 : (Cond.fieldLink "FieldAfterField$Book" 30 "FieldAfterField$Book" "gain" "I") ∈ tables_1 := List.mem_append_left _ (List.mem_of_getElem? (i := 185) rfl)
theorem tw186 : (Cond.fieldLinkNest "FieldAfterField" 186 "FieldAfterField$Book" "gain" "I" "FieldAfterField") ∈ tables_1 := List.mem_append_left _ (List.mem_of_getElem? (i := 186) rfl)
theorem tw187 : (Cond.laysFinal "FieldAfterField$Book" "FieldAfterField$Book" "tools" "[I") ∈ tables_1 := List.mem_append_left _ (List.mem_of_getElem? (i := 187) rfl)
theorem tw188 : (Cond.soleField "FieldAfterField$Book" "tools") ∈ tables_1 := List.mem_append_left _ (List.mem_of_getElem? (i := 188) rfl)
theorem tw189 : (Cond.laysFinal "FieldAfterField$Book" "FieldAfterField$Book" "shifts" "[I") ∈ tables_1 := List.mem_append_left _ (List.mem_of_getElem? (i := 189) rfl)
theorem tw190 : (Cond.soleField "FieldAfterField$Book" "shifts") ∈ tables_1 := List.mem_append_left _ (List.mem_of_getElem? (i := 190) rfl)
theorem tw191 : (Cond.laysFinal "FieldAfterField$Book" "FieldAfterField$Book" "reads" "[I") ∈ tables_1 := List.mem_append_left _ (List.mem_of_getElem? (i := 191) rfl)
theorem tw192 : (Cond.soleField "FieldAfterField$Book" "reads") ∈ tables_1 := List.mem_append_left _ (List.mem_of_getElem? (i := 192) rfl)
theorem tw193 : (Cond.laysFinal "FieldAfterField$Book" "FieldAfterField$Book" "isRead" "[Z") ∈ tables_1 := List.mem_append_left _ (List.mem_of_getElem? (i := 193) rfl)
theorem tw194 : (Cond.soleField "FieldAfterField$Book" "isRead") ∈ tables_1 := List.mem_append_left _ (List.mem_of_getElem? (i := 194) rfl)
theorem tw195 : (Cond.laysFinal "FieldAfterField$Book" "FieldAfterField$Book" "mended" "[[I") ∈ tables_1 := List.mem_append_left _ (List.mem_of_getElem? (i := 195) rfl)
theorem tw196 : (Cond.soleField "FieldAfterField$Book" "mended") ∈ tables_1 := List.mem_append_left _ (List.mem_of_getElem? (i := 196) rfl)
theorem tw197 : (Cond.lays "FieldAfterField$Book" "FieldAfterField$Book" "many" "I") ∈ tables_1 := List.mem_append_left _ (List.mem_of_getElem? (i := 197) rfl)
theorem tw198 : (Cond.soleField "FieldAfterField$Book" "many") ∈ tables_1 := List.mem_append_left _ (List.mem_of_getElem? (i := 198) rfl)
theorem tw199 : (Cond.lays "FieldAfterField$Book" "FieldAfterField$Book" "gain" "I") ∈ tables_1 := List.mem_append_left _ (List.mem_of_getElem? (i := 199) rfl)
theorem tw200 : (Cond.soleField "FieldAfterField$Book" "gain") ∈ tables_1 := List.mem_append_left _ (List.mem_of_getElem? (i := 200) rfl)
theorem tw201 : (Cond.superclass "FieldAfterField$Book" "java/lang/Object") ∈ tables_1 := List.mem_append_left _ (List.mem_of_getElem? (i := 201) rfl)
theorem tw202 : (Cond.arrayClass .boolean) ∈ tables_1 := List.mem_append_left _ (List.mem_of_getElem? (i := 202) rfl)
theorem tw203 : (Cond.classLink "FieldAfterField" 37 "FieldAfterField$Router") ∈ tables_1 := List.mem_append_left _ (List.mem_of_getElem? (i := 203) rfl)
theorem tw204 : (Cond.instantiable "FieldAfterField$Router" 7) ∈ tables_1 := List.mem_append_left _ (List.mem_of_getElem? (i := 204) rfl)
theorem tw205 : (Cond.methodLinkNest "FieldAfterField" 39 ⟨"FieldAfterField$Router", "<init>", "()V"⟩ "FieldAfterField") ∈ tables_1 := List.mem_append_left _ (List.mem_of_getElem? (i := 205) rfl)
theorem tw206 : (Cond.instanceMethod ⟨"FieldAfterField$Router", "<init>", "()V"⟩) ∈ tables_1 := List.mem_append_left _ (List.mem_of_getElem? (i := 206) rfl)
theorem tw207 : (Cond.code ⟨"FieldAfterField$Router", "<init>", "()V"⟩ prog_6_method_1_code 1 (none : Option Jvm.ClassFile.FieldType)) ∈ tables_1 := List.mem_append_left _ (List.mem_of_getElem? (i := 207) rfl)
theorem tw208 : (Cond.methodLink "FieldAfterField$Router" 3 ⟨"java/lang/Object", "<init>", "()V"⟩) ∈ tables_1 := List.mem_append_left _ (List.mem_of_getElem? (i := 208) rfl)
theorem tw209 : (Cond.classLink "FieldAfterField$Router" 9 "[[I") ∈ tables_1 := List.mem_append_left _ (List.mem_of_getElem? (i := 209) rfl)
theorem tw210 : (Cond.fieldLink "FieldAfterField$Router" 11 "FieldAfterField$Router" "offsets" "[[I") ∈ tables_1 := List.mem_append_left _ (List.mem_of_getElem? (i := 210) rfl)
theorem tw211 : (Cond.fieldLinkNest "FieldAfterField" 192 "FieldAfterField$Router" "offsets" "[[I" "FieldAfterField") ∈ tables_1 := List.mem_append_left _ (List.mem_of_getElem? (i := 211) rfl)
theorem tw212 : (Cond.fieldLink "FieldAfterField$Router" 16 "FieldAfterField$Router" "tools" "[I") ∈ tables_1 := List.mem_append_left _ (List.mem_of_getElem? (i := 212) rfl)
theorem tw213 : (Cond.fieldLink "FieldAfterField$Router" 20 "FieldAfterField$Router" "best" "[I") ∈ tables_1 := List.mem_append_left _ (List.mem_of_getElem? (i := 213) rfl)
theorem tw214 : (Cond.fieldLinkNest "FieldAfterField" 206 "FieldAfterField$Router" "best" "[I" "FieldAfterField") ∈ tables_1 := List.mem_append_left _ (List.mem_of_getElem? (i := 214) rfl)
theorem tw215 : (Cond.fieldLink "FieldAfterField$Router" 23 "FieldAfterField$Router" "used" "[I") ∈ tables_1 := List.mem_append_left _ (List.mem_of_getElem? (i := 215) rfl)
theorem tw216 : (Cond.fieldLink "FieldAfterField$Router" 26 "FieldAfterField$Router" "budget" "I") ∈ tables_1 := List.mem_append_left _ (List.mem_of_getElem? (i := 216) rfl)
theorem tw217 : (Cond.fieldLinkNest "FieldAfterField" 195 "FieldAfterField$Router" "budget" "I" "FieldAfterField") ∈ tables_1 := List.mem_append_left _ (List.mem_of_getElem? (i := 217) rfl)
theorem tw218 : (Cond.fieldLink "FieldAfterField$Router" 30 "FieldAfterField$Router" "cap" "I") ∈ tables_1 := List.mem_append_left _ (List.mem_of_getElem? (i := 218) rfl)
theorem tw219 : (Cond.fieldLinkNest "FieldAfterField" 198 "FieldAfterField$Router" "cap" "I" "FieldAfterField") ∈ tables_1 := List.mem_append_left _ (List.mem_of_getElem? (i := 219) rfl)
theorem tw220 : (Cond.fieldLink "FieldAfterField$Router" 33 "FieldAfterField$Router" "bestSum" "I") ∈ tables_1 := List.mem_append_left _ (List.mem_of_getElem? (i := 220) rfl)
theorem tw221 : (Cond.fieldLinkNest "FieldAfterField" 203 "FieldAfterField$Router" "bestSum" "I" "FieldAfterField") ∈ tables_1 := List.mem_append_left _ (List.mem_of_getElem? (i := 221) rfl)
theorem tw222 : (Cond.laysFinal "FieldAfterField$Router" "FieldAfterField$Router" "offsets" "[[I") ∈ tables_1 := List.mem_append_left _ (List.mem_of_getElem? (i := 222) rfl)
theorem tw223 : (Cond.soleField "FieldAfterField$Router" "offsets") ∈ tables_1 := List.mem_append_left _ (List.mem_of_getElem? (i := 223) rfl)
theorem tw224 : (Cond.laysFinal "FieldAfterField$Router" "FieldAfterField$Router" "tools" "[I") ∈ tables_1 := List.mem_append_left _ (List.mem_of_getElem? (i := 224) rfl)
theorem tw225 : (Cond.soleField "FieldAfterField$Router" "tools") ∈ tables_1 := List.mem_append_left _ (List.mem_of_getElem? (i := 225) rfl)
theorem tw226 : (Cond.laysFinal "FieldAfterField$Router" "FieldAfterField$Router" "best" "[I") ∈ tables_1 := List.mem_append_left _ (List.mem_of_getElem? (i := 226) rfl)
theorem tw227 : (Cond.soleField "FieldAfterField$Router" "best") ∈ tables_1 := List.mem_append_left _ (List.mem_of_getElem? (i := 227) rfl)
theorem tw228 : (Cond.laysFinal "FieldAfterField$Router" "FieldAfterField$Router" "used" "[I") ∈ tables_1 := List.mem_append_left _ (List.mem_of_getElem? (i := 228) rfl)
theorem tw229 : (Cond.soleField "FieldAfterField$Router" "used") ∈ tables_1 := List.mem_append_left _ (List.mem_of_getElem? (i := 229) rfl)
theorem tw230 : (Cond.lays "FieldAfterField$Router" "FieldAfterField$Router" "budget" "I") ∈ tables_1 := List.mem_append_left _ (List.mem_of_getElem? (i := 230) rfl)
theorem tw231 : (Cond.soleField "FieldAfterField$Router" "budget") ∈ tables_1 := List.mem_append_left _ (List.mem_of_getElem? (i := 231) rfl)
theorem tw232 : (Cond.lays "FieldAfterField$Router" "FieldAfterField$Router" "cap" "I") ∈ tables_1 := List.mem_append_left _ (List.mem_of_getElem? (i := 232) rfl)
theorem tw233 : (Cond.soleField "FieldAfterField$Router" "cap") ∈ tables_1 := List.mem_append_left _ (List.mem_of_getElem? (i := 233) rfl)
theorem tw234 : (Cond.lays "FieldAfterField$Router" "FieldAfterField$Router" "bestSum" "I") ∈ tables_1 := List.mem_append_left _ (List.mem_of_getElem? (i := 234) rfl)
theorem tw235 : (Cond.soleField "FieldAfterField$Router" "bestSum") ∈ tables_1 := List.mem_append_left _ (List.mem_of_getElem? (i := 235) rfl)
theorem tw236 : (Cond.superclass "FieldAfterField$Router" "java/lang/Object") ∈ tables_1 := List.mem_append_left _ (List.mem_of_getElem? (i := 236) rfl)
theorem tw237 : (Cond.fieldLink "FieldAfterField" 10 "FieldAfterField" "marks" "LFieldAfterField$Marks;") ∈ tables_1 := List.mem_append_left _ (List.mem_of_getElem? (i := 237) rfl)
theorem tw238 : (Cond.fieldLink "FieldAfterField" 19 "FieldAfterField" "fitted" "LFieldAfterField$Fit;") ∈ tables_1 := List.mem_append_left _ (List.mem_of_getElem? (i := 238) rfl)
theorem tw239 : (Cond.fieldLink "FieldAfterField" 26 "FieldAfterField" "planner" "LFieldAfterField$Planner;") ∈ tables_1 := List.mem_append_left _ (List.mem_of_getElem? (i := 239) rfl)
theorem tw240 : (Cond.fieldLink "FieldAfterField" 33 "FieldAfterField" "book" "LFieldAfterField$Book;") ∈ tables_1 := List.mem_append_right _ (List.mem_append_left _ (List.mem_of_getElem? (i := 0) rfl))
theorem tw241 : (Cond.fieldLink "FieldAfterField" 40 "FieldAfterField" "router" "LFieldAfterField$Router;") ∈ tables_1 := List.mem_append_right _ (List.mem_append_left _ (List.mem_of_getElem? (i := 1) rfl))
theorem tw242 : (Cond.laysFinal "FieldAfterField" "FieldAfterField" "marks" "LFieldAfterField$Marks;") ∈ tables_1 := List.mem_append_right _ (List.mem_append_left _ (List.mem_of_getElem? (i := 2) rfl))
theorem tw243 : (Cond.soleField "FieldAfterField" "marks") ∈ tables_1 := List.mem_append_right _ (List.mem_append_left _ (List.mem_of_getElem? (i := 3) rfl))
theorem tw244 : (Cond.laysFinal "FieldAfterField" "FieldAfterField" "fitted" "LFieldAfterField$Fit;") ∈ tables_1 := List.mem_append_right _ (List.mem_append_left _ (List.mem_of_getElem? (i := 4) rfl))
theorem tw245 : (Cond.soleField "FieldAfterField" "fitted") ∈ tables_1 := List.mem_append_right _ (List.mem_append_left _ (List.mem_of_getElem? (i := 5) rfl))
theorem tw246 : (Cond.laysFinal "FieldAfterField" "FieldAfterField" "planner" "LFieldAfterField$Planner;") ∈ tables_1 := List.mem_append_right _ (List.mem_append_left _ (List.mem_of_getElem? (i := 6) rfl))
theorem tw247 : (Cond.soleField "FieldAfterField" "planner") ∈ tables_1 := List.mem_append_right _ (List.mem_append_left _ (List.mem_of_getElem? (i := 7) rfl))
theorem tw248 : (Cond.laysFinal "FieldAfterField" "FieldAfterField" "book" "LFieldAfterField$Book;") ∈ tables_1 := List.mem_append_right _ (List.mem_append_left _ (List.mem_of_getElem? (i := 8) rfl))
theorem tw249 : (Cond.soleField "FieldAfterField" "book") ∈ tables_1 := List.mem_append_right _ (List.mem_append_left _ (List.mem_of_getElem? (i := 9) rfl))
theorem tw250 : (Cond.laysFinal "FieldAfterField" "FieldAfterField" "router" "LFieldAfterField$Router;") ∈ tables_1 := List.mem_append_right _ (List.mem_append_left _ (List.mem_of_getElem? (i := 10) rfl))
theorem tw251 : (Cond.soleField "FieldAfterField" "router") ∈ tables_1 := List.mem_append_right _ (List.mem_append_left _ (List.mem_of_getElem? (i := 11) rfl))
theorem tw252 : (Cond.superclass "FieldAfterField" "java/lang/Object") ∈ tables_1 := List.mem_append_right _ (List.mem_append_left _ (List.mem_of_getElem? (i := 12) rfl))
theorem tw253 : (Cond.methodLink "FieldAfterFieldLaw" 13 ⟨"FieldAfterField", "mark", "(IIII)I"⟩) ∈ tables_1 := List.mem_append_right _ (List.mem_append_left _ (List.mem_of_getElem? (i := 13) rfl))
theorem tw254 : (Cond.instanceMethod ⟨"FieldAfterField", "mark", "(IIII)I"⟩) ∈ tables_1 := List.mem_append_right _ (List.mem_append_left _ (List.mem_of_getElem? (i := 14) rfl))
theorem tw255 : (Cond.selects "FieldAfterField" ⟨"FieldAfterField", "mark", "(IIII)I"⟩ ⟨"FieldAfterField", "mark", "(IIII)I"⟩) ∈ tables_1 := List.mem_append_right _ (List.mem_append_left _ (List.mem_of_getElem? (i := 15) rfl))
theorem tw256 : (Cond.code ⟨"FieldAfterField", "mark", "(IIII)I"⟩ prog_1_method_2_code 5 (some .int)) ∈ tables_1 := List.mem_append_right _ (List.mem_append_left _ (List.mem_of_getElem? (i := 16) rfl))
theorem tw257 : (Cond.methodLink "FieldAfterField" 44 ⟨"FieldAfterField", "outside", "(III)Z"⟩) ∈ tables_1 := List.mem_append_right _ (List.mem_append_left _ (List.mem_of_getElem? (i := 17) rfl))
theorem tw258 : (Cond.static ⟨"FieldAfterField", "outside", "(III)Z"⟩) ∈ tables_1 := List.mem_append_right _ (List.mem_append_left _ (List.mem_of_getElem? (i := 18) rfl))
theorem tw259 : (Cond.code ⟨"FieldAfterField", "outside", "(III)Z"⟩ prog_1_method_23_code 3 (some .boolean)) ∈ tables_1 := List.mem_append_right _ (List.mem_append_left _ (List.mem_of_getElem? (i := 19) rfl))
theorem tw260 : (Cond.constant "FieldAfterField" 48 (-100002)) ∈ tables_1 := List.mem_append_right _ (List.mem_append_left _ (List.mem_of_getElem? (i := 20) rfl))
theorem tw261 : (Cond.constant "FieldAfterField" 53 (-100004)) ∈ tables_1 := List.mem_append_right _ (List.mem_append_left _ (List.mem_of_getElem? (i := 21) rfl))
theorem tw262 : (Cond.methodLinkNest "FieldAfterField" 54 ⟨"FieldAfterField$Marks", "add", "(IIII)I"⟩ "FieldAfterField") ∈ tables_1 := List.mem_append_right _ (List.mem_append_left _ (List.mem_of_getElem? (i := 22) rfl))
theorem tw263 : (Cond.privateMethod ⟨"FieldAfterField$Marks", "add", "(IIII)I"⟩) ∈ tables_1 := List.mem_append_right _ (List.mem_append_left _ (List.mem_of_getElem? (i := 23) rfl))
theorem tw264 : (Cond.instanceMethod ⟨"FieldAfterField$Marks", "add", "(IIII)I"⟩) ∈ tables_1 := List.mem_append_right _ (List.mem_append_left _ (List.mem_of_getElem? (i := 24) rfl))
theorem tw265 : (Cond.code ⟨"FieldAfterField$Marks", "add", "(IIII)I"⟩ prog_4_method_3_code 6 (some .int)) ∈ tables_1 := List.mem_append_right _ (List.mem_append_left _ (List.mem_of_getElem? (i := 25) rfl))
theorem tw266 : (Cond.methodLink "FieldAfterFieldLaw" 18 ⟨"FieldAfterField", "read", "(III)I"⟩) ∈ tables_1 := List.mem_append_right _ (List.mem_append_left _ (List.mem_of_getElem? (i := 26) rfl))
theorem tw267 : (Cond.instanceMethod ⟨"FieldAfterField", "read", "(III)I"⟩) ∈ tables_1 := List.mem_append_right _ (List.mem_append_left _ (List.mem_of_getElem? (i := 27) rfl))
theorem tw268 : (Cond.selects "FieldAfterField" ⟨"FieldAfterField", "read", "(III)I"⟩ ⟨"FieldAfterField", "read", "(III)I"⟩) ∈ tables_1 := List.mem_append_right _ (List.mem_append_left _ (List.mem_of_getElem? (i := 28) rfl))
theorem tw269 : (Cond.code ⟨"FieldAfterField", "read", "(III)I"⟩ prog_1_method_3_code 4 (some .int)) ∈ tables_1 := List.mem_append_right _ (List.mem_append_left _ (List.mem_of_getElem? (i := 29) rfl))
theorem tw270 : (Cond.methodLinkNest "FieldAfterField" 58 ⟨"FieldAfterField$Marks", "has", "(I)Z"⟩ "FieldAfterField") ∈ tables_1 := List.mem_append_right _ (List.mem_append_left _ (List.mem_of_getElem? (i := 30) rfl))
theorem tw271 : (Cond.privateMethod ⟨"FieldAfterField$Marks", "has", "(I)Z"⟩) ∈ tables_1 := List.mem_append_right _ (List.mem_append_left _ (List.mem_of_getElem? (i := 31) rfl))
theorem tw272 : (Cond.instanceMethod ⟨"FieldAfterField$Marks", "has", "(I)Z"⟩) ∈ tables_1 := List.mem_append_right _ (List.mem_append_left _ (List.mem_of_getElem? (i := 32) rfl))
theorem tw273 : (Cond.code ⟨"FieldAfterField$Marks", "has", "(I)Z"⟩ prog_4_method_2_code 2 (some .boolean)) ∈ tables_1 := List.mem_append_right _ (List.mem_append_left _ (List.mem_of_getElem? (i := 33) rfl))
theorem tw274 : (Cond.constant "FieldAfterField" 62 (-100001)) ∈ tables_1 := List.mem_append_right _ (List.mem_append_left _ (List.mem_of_getElem? (i := 34) rfl))
theorem tw275 : (Cond.methodLinkNest "FieldAfterField" 63 ⟨"FieldAfterField$Marks", "setReads", "(III)V"⟩ "FieldAfterField") ∈ tables_1 := List.mem_append_right _ (List.mem_append_left _ (List.mem_of_getElem? (i := 35) rfl))
theorem tw276 : (Cond.privateMethod ⟨"FieldAfterField$Marks", "setReads", "(III)V"⟩) ∈ tables_1 := List.mem_append_right _ (List.mem_append_left _ (List.mem_of_getElem? (i := 36) rfl))
theorem tw277 : (Cond.instanceMethod ⟨"FieldAfterField$Marks", "setReads", "(III)V"⟩) ∈ tables_1 := List.mem_append_right _ (List.mem_append_left _ (List.mem_of_getElem? (i := 37) rfl))
theorem tw278 : (Cond.code ⟨"FieldAfterField$Marks", "setReads", "(III)V"⟩ prog_4_method_4_code 4 (none : Option Jvm.ClassFile.FieldType)) ∈ tables_1 := List.mem_append_right _ (List.mem_append_left _ (List.mem_of_getElem? (i := 38) rfl))
theorem tw279 : (Cond.methodLink "FieldAfterFieldLaw" 23 ⟨"FieldAfterField", "lose", "(I)I"⟩) ∈ tables_1 := List.mem_append_right _ (List.mem_append_left _ (List.mem_of_getElem? (i := 39) rfl))
theorem tw280 : (Cond.instanceMethod ⟨"FieldAfterField", "lose", "(I)I"⟩) ∈ tables_1 := List.mem_append_right _ (List.mem_append_left _ (List.mem_of_getElem? (i := 40) rfl))
theorem tw281 : (Cond.selects "FieldAfterField" ⟨"FieldAfterField", "lose", "(I)I"⟩ ⟨"FieldAfterField", "lose", "(I)I"⟩) ∈ tables_1 := List.mem_append_right _ (List.mem_append_left _ (List.mem_of_getElem? (i := 41) rfl))
theorem tw282 : (Cond.code ⟨"FieldAfterField", "lose", "(I)I"⟩ prog_1_method_4_code 2 (some .int)) ∈ tables_1 := List.mem_append_right _ (List.mem_append_left _ (List.mem_of_getElem? (i := 42) rfl))
theorem tw283 : (Cond.methodLink "FieldAfterField" 70 ⟨"FieldAfterField", "isIn", "(II)Z"⟩) ∈ tables_1 := List.mem_append_right _ (List.mem_append_left _ (List.mem_of_getElem? (i := 43) rfl))
theorem tw284 : (Cond.static ⟨"FieldAfterField", "isIn", "(II)Z"⟩) ∈ tables_1 := List.mem_append_right _ (List.mem_append_left _ (List.mem_of_getElem? (i := 44) rfl))
theorem tw285 : (Cond.code ⟨"FieldAfterField", "isIn", "(II)Z"⟩ prog_1_method_26_code 2 (some .boolean)) ∈ tables_1 := List.mem_append_right _ (List.mem_append_left _ (List.mem_of_getElem? (i := 45) rfl))
theorem tw286 : (Cond.methodLinkNest "FieldAfterField" 74 ⟨"FieldAfterField$Marks", "forget", "(I)V"⟩ "FieldAfterField") ∈ tables_1 := List.mem_append_right _ (List.mem_append_left _ (List.mem_of_getElem? (i := 46) rfl))
theorem tw287 : (Cond.privateMethod ⟨"FieldAfterField$Marks", "forget", "(I)V"⟩) ∈ tables_1 := List.mem_append_right _ (List.mem_append_left _ (List.mem_of_getElem? (i := 47) rfl))
theorem tw288 : (Cond.instanceMethod ⟨"FieldAfterField$Marks", "forget", "(I)V"⟩) ∈ tables_1 := List.mem_append_right _ (List.mem_append_left _ (List.mem_of_getElem? (i := 48) rfl))
theorem tw289 : (Cond.code ⟨"FieldAfterField$Marks", "forget", "(I)V"⟩ prog_4_method_5_code 2 (none : Option Jvm.ClassFile.FieldType)) ∈ tables_1 := List.mem_append_right _ (List.mem_append_left _ (List.mem_of_getElem? (i := 49) rfl))
theorem tw290 : (Cond.methodLink "FieldAfterField$Marks" 39 ⟨"FieldAfterField$Marks", "setReads", "(III)V"⟩) ∈ tables_1 := List.mem_append_right _ (List.mem_append_left _ (List.mem_of_getElem? (i := 50) rfl))
theorem tw291 : (Cond.methodLink "FieldAfterFieldLaw" 28 ⟨"FieldAfterField", "told", "(II)I"⟩) ∈ tables_1 := List.mem_append_right _ (List.mem_append_left _ (List.mem_of_getElem? (i := 51) rfl))
theorem tw292 : (Cond.instanceMethod ⟨"FieldAfterField", "told", "(II)I"⟩) ∈ tables_1 := List.mem_append_right _ (List.mem_append_left _ (List.mem_of_getElem? (i := 52) rfl))
theorem tw293 : (Cond.selects "FieldAfterField" ⟨"FieldAfterField", "told", "(II)I"⟩ ⟨"FieldAfterField", "told", "(II)I"⟩) ∈ tables_1 := List.mem_append_right _ (List.mem_append_left _ (List.mem_of_getElem? (i := 53) rfl))
theorem tw294 : (Cond.code ⟨"FieldAfterField", "told", "(II)I"⟩ prog_1_method_5_code 3 (some .int)) ∈ tables_1 := List.mem_append_right _ (List.mem_append_left _ (List.mem_of_getElem? (i := 54) rfl))
theorem tw295 : (Cond.methodLink "FieldAfterFieldLaw" 33 ⟨"FieldAfterField", "count", "(I)I"⟩) ∈ tables_1 := List.mem_append_right _ (List.mem_append_left _ (List.mem_of_getElem? (i := 55) rfl))
theorem tw296 : (Cond.instanceMethod ⟨"FieldAfterField", "count", "(I)I"⟩) ∈ tables_1 := List.mem_append_right _ (List.mem_append_left _ (List.mem_of_getElem? (i := 56) rfl))
theorem tw297 : (Cond.selects "FieldAfterField" ⟨"FieldAfterField", "count", "(I)I"⟩ ⟨"FieldAfterField", "count", "(I)I"⟩) ∈ tables_1 := List.mem_append_right _ (List.mem_append_left _ (List.mem_of_getElem? (i := 57) rfl))
theorem tw298 : (Cond.code ⟨"FieldAfterField", "count", "(I)I"⟩ prog_1_method_6_code 2 (some .int)) ∈ tables_1 := List.mem_append_right _ (List.mem_append_left _ (List.mem_of_getElem? (i := 58) rfl))
theorem tw299 : (Cond.methodLink "FieldAfterField" 98 ⟨"java/lang/Integer", "bitCount", "(I)I"⟩) ∈ tables_1 := List.mem_append_right _ (List.mem_append_left _ (List.mem_of_getElem? (i := 59) rfl))
theorem tw300 : (Cond.static ⟨"java/lang/Integer", "bitCount", "(I)I"⟩) ∈ tables_1 := List.mem_append_right _ (List.mem_append_left _ (List.mem_of_getElem? (i := 60) rfl))
theorem tw301 : (Cond.code ⟨"java/lang/Integer", "bitCount", "(I)I"⟩ prog_10_method_49_code 1 (some .int)) ∈ tables_1 := List.mem_append_right _ (List.mem_append_left _ (List.mem_of_getElem? (i := 61) rfl))
theorem tw302 : (Cond.constant "java/lang/Integer" 265 (1431655765)) ∈ tables_1 := List.mem_append_right _ (List.mem_append_left _ (List.mem_of_getElem? (i := 62) rfl))
theorem tw303 : (Cond.constant "java/lang/Integer" 266 (858993459)) ∈ tables_1 := List.mem_append_right _ (List.mem_append_left _ (List.mem_of_getElem? (i := 63) rfl))
theorem tw304 : (Cond.constant "java/lang/Integer" 267 (252645135)) ∈ tables_1 := List.mem_append_right _ (List.mem_append_left _ (List.mem_of_getElem? (i := 64) rfl))
theorem tw305 : (Cond.methodLinkNest "FieldAfterField" 104 ⟨"FieldAfterField$Marks", "counting", "()I"⟩ "FieldAfterField") ∈ tables_1 := List.mem_append_right _ (List.mem_append_left _ (List.mem_of_getElem? (i := 65) rfl))
theorem tw306 : (Cond.privateMethod ⟨"FieldAfterField$Marks", "counting", "()I"⟩) ∈ tables_1 := List.mem_append_right _ (List.mem_append_left _ (List.mem_of_getElem? (i := 66) rfl))
theorem tw307 : (Cond.instanceMethod ⟨"FieldAfterField$Marks", "counting", "()I"⟩) ∈ tables_1 := List.mem_append_right _ (List.mem_append_left _ (List.mem_of_getElem? (i := 67) rfl))
theorem tw308 : (Cond.code ⟨"FieldAfterField$Marks", "counting", "()I"⟩ prog_4_method_7_code 1 (some .int)) ∈ tables_1 := List.mem_append_right _ (List.mem_append_left _ (List.mem_of_getElem? (i := 68) rfl))
theorem tw309 : (Cond.methodLink "FieldAfterField$Marks" 43 ⟨"FieldAfterField$Marks", "notLost", "()I"⟩) ∈ tables_1 := List.mem_append_right _ (List.mem_append_left _ (List.mem_of_getElem? (i := 69) rfl))
theorem tw310 : (Cond.privateMethod ⟨"FieldAfterField$Marks", "notLost", "()I"⟩) ∈ tables_1 := List.mem_append_right _ (List.mem_append_left _ (List.mem_of_getElem? (i := 70) rfl))
theorem tw311 : (Cond.instanceMethod ⟨"FieldAfterField$Marks", "notLost", "()I"⟩) ∈ tables_1 := List.mem_append_right _ (List.mem_append_left _ (List.mem_of_getElem? (i := 71) rfl))
theorem tw312 : (Cond.code ⟨"FieldAfterField$Marks", "notLost", "()I"⟩ prog_4_method_6_code 1 (some .int)) ∈ tables_1 := List.mem_append_right _ (List.mem_append_left _ (List.mem_of_getElem? (i := 72) rfl))
theorem tw313 : (Cond.methodLinkNest "FieldAfterField" 109 ⟨"FieldAfterField$Book", "howManyRead", "()I"⟩ "FieldAfterField") ∈ tables_1 := List.mem_append_right _ (List.mem_append_left _ (List.mem_of_getElem? (i := 73) rfl))
theorem tw314 : (Cond.privateMethod ⟨"FieldAfterField$Book", "howManyRead", "()I"⟩) ∈ tables_1 := List.mem_append_right _ (List.mem_append_left _ (List.mem_of_getElem? (i := 74) rfl))
theorem tw315 : (Cond.instanceMethod ⟨"FieldAfterField$Book", "howManyRead", "()I"⟩) ∈ tables_1 := List.mem_append_right _ (List.mem_append_left _ (List.mem_of_getElem? (i := 75) rfl))
theorem tw316 : (Cond.code ⟨"FieldAfterField$Book", "howManyRead", "()I"⟩ prog_2_method_6_code 3 (some .int)) ∈ tables_1 := List.mem_append_right _ (List.mem_append_left _ (List.mem_of_getElem? (i := 76) rfl))
theorem tw317 : (Cond.methodLinkNest "FieldAfterField" 112 ⟨"FieldAfterField$Marks", "fieldsOf", "(I)I"⟩ "FieldAfterField") ∈ tables_1 := List.mem_append_right _ (List.mem_append_left _ (List.mem_of_getElem? (i := 77) rfl))
theorem tw318 : (Cond.privateMethod ⟨"FieldAfterField$Marks", "fieldsOf", "(I)I"⟩) ∈ tables_1 := List.mem_append_right _ (List.mem_append_left _ (List.mem_of_getElem? (i := 78) rfl))
theorem tw319 : (Cond.instanceMethod ⟨"FieldAfterField$Marks", "fieldsOf", "(I)I"⟩) ∈ tables_1 := List.mem_append_right _ (List.mem_append_left _ (List.mem_of_getElem? (i := 79) rfl))
theorem tw320 : (Cond.code ⟨"FieldAfterField$Marks", "fieldsOf", "(I)I"⟩ prog_4_method_10_code 4 (some .int)) ∈ tables_1 := List.mem_append_right _ (List.mem_append_left _ (List.mem_of_getElem? (i := 80) rfl))
theorem tw321 : (Cond.methodLinkNest "FieldAfterField$Marks" 47 ⟨"FieldAfterField", "isIn", "(II)Z"⟩ "FieldAfterField") ∈ tables_1 := List.mem_append_right _ (List.mem_append_left _ (List.mem_of_getElem? (i := 81) rfl))
theorem tw322 : (Cond.methodLink "FieldAfterField$Marks" 51 ⟨"FieldAfterField$Marks", "hasEarlierOfField", "(II)Z"⟩) ∈ tables_1 := List.mem_append_right _ (List.mem_append_left _ (List.mem_of_getElem? (i := 82) rfl))
theorem tw323 : (Cond.privateMethod ⟨"FieldAfterField$Marks", "hasEarlierOfField", "(II)Z"⟩) ∈ tables_1 := List.mem_append_right _ (List.mem_append_left _ (List.mem_of_getElem? (i := 83) rfl))
theorem tw324 : (Cond.instanceMethod ⟨"FieldAfterField$Marks", "hasEarlierOfField", "(II)Z"⟩) ∈ tables_1 := List.mem_append_right _ (List.mem_append_left _ (List.mem_of_getElem? (i := 84) rfl))
theorem tw325 : (Cond.code ⟨"FieldAfterField$Marks", "hasEarlierOfField", "(II)Z"⟩ prog_4_method_11_code 4 (some .boolean)) ∈ tables_1 := List.mem_append_right _ (List.mem_append_left _ (List.mem_of_getElem? (i := 85) rfl))
theorem tw326 : (Cond.methodLink "FieldAfterFieldLaw" 37 ⟨"FieldAfterField", "det", "(I)J"⟩) ∈ tables_1 := List.mem_append_right _ (List.mem_append_left _ (List.mem_of_getElem? (i := 86) rfl))
theorem tw327 : (Cond.instanceMethod ⟨"FieldAfterField", "det", "(I)J"⟩) ∈ tables_1 := List.mem_append_right _ (List.mem_append_left _ (List.mem_of_getElem? (i := 87) rfl))
theorem tw328 : (Cond.selects "FieldAfterField" ⟨"FieldAfterField", "det", "(I)J"⟩ ⟨"FieldAfterField", "det", "(I)J"⟩) ∈ tables_1 := List.mem_append_right _ (List.mem_append_left _ (List.mem_of_getElem? (i := 88) rfl))
theorem tw329 : (Cond.code ⟨"FieldAfterField", "det", "(I)J"⟩ prog_1_method_7_code 2 (some .long)) ∈ tables_1 := List.mem_append_right _ (List.mem_append_left _ (List.mem_of_getElem? (i := 89) rfl))
theorem tw330 : (Cond.constantLong "FieldAfterField" 115 (-100002)) ∈ tables_1 := List.mem_append_right _ (List.mem_append_left _ (List.mem_of_getElem? (i := 90) rfl))
theorem tw331 : (Cond.methodLinkNest "FieldAfterField" 117 ⟨"FieldAfterField$Fit", "make", "(LFieldAfterField$Marks;II)Z"⟩ "FieldAfterField") ∈ tables_1 := List.mem_append_right _ (List.mem_append_left _ (List.mem_of_getElem? (i := 91) rfl))
theorem tw332 : (Cond.privateMethod ⟨"FieldAfterField$Fit", "make", "(LFieldAfterField$Marks;II)Z"⟩) ∈ tables_1 := List.mem_append_right _ (List.mem_append_left _ (List.mem_of_getElem? (i := 92) rfl))
theorem tw333 : (Cond.instanceMethod ⟨"FieldAfterField$Fit", "make", "(LFieldAfterField$Marks;II)Z"⟩) ∈ tables_1 := List.mem_append_right _ (List.mem_append_left _ (List.mem_of_getElem? (i := 93) rfl))
theorem tw334 : (Cond.code ⟨"FieldAfterField$Fit", "make", "(LFieldAfterField$Marks;II)Z"⟩ prog_3_method_2_code 5 (some .boolean)) ∈ tables_1 := List.mem_append_right _ (List.mem_append_left _ (List.mem_of_getElem? (i := 94) rfl))
theorem tw335 : (Cond.methodLinkNest "FieldAfterField$Fit" 30 ⟨"FieldAfterField$Table", "clear", "(I)V"⟩ "FieldAfterField") ∈ tables_1 := List.mem_append_right _ (List.mem_append_left _ (List.mem_of_getElem? (i := 95) rfl))
theorem tw336 : (Cond.privateMethod ⟨"FieldAfterField$Table", "clear", "(I)V"⟩) ∈ tables_1 := List.mem_append_right _ (List.mem_append_left _ (List.mem_of_getElem? (i := 96) rfl))
theorem tw337 : (Cond.instanceMethod ⟨"FieldAfterField$Table", "clear", "(I)V"⟩) ∈ tables_1 := List.mem_append_right _ (List.mem_append_left _ (List.mem_of_getElem? (i := 97) rfl))
theorem tw338 : (Cond.code ⟨"FieldAfterField$Table", "clear", "(I)V"⟩ prog_7_method_2_code 2 (none : Option Jvm.ClassFile.FieldType)) ∈ tables_1 := List.mem_append_right _ (List.mem_append_left _ (List.mem_of_getElem? (i := 98) rfl))
theorem tw339 : (Cond.methodLinkNest "FieldAfterField$Fit" 39 ⟨"FieldAfterField", "isIn", "(II)Z"⟩ "FieldAfterField") ∈ tables_1 := List.mem_append_right _ (List.mem_append_left _ (List.mem_of_getElem? (i := 99) rfl))
theorem tw340 : (Cond.methodLinkNest "FieldAfterField$Fit" 43 ⟨"FieldAfterField$Marks", "secondTerm", "(II)I"⟩ "FieldAfterField") ∈ tables_1 := List.mem_append_right _ (List.mem_append_left _ (List.mem_of_getElem? (i := 100) rfl))
theorem tw341 : (Cond.privateMethod ⟨"FieldAfterField$Marks", "secondTerm", "(II)I"⟩) ∈ tables_1 := List.mem_append_right _ (List.mem_append_left _ (List.mem_of_getElem? (i := 101) rfl))
theorem tw342 : (Cond.instanceMethod ⟨"FieldAfterField$Marks", "secondTerm", "(II)I"⟩) ∈ tables_1 := List.mem_append_right _ (List.mem_append_left _ (List.mem_of_getElem? (i := 102) rfl))
theorem tw343 : (Cond.code ⟨"FieldAfterField$Marks", "secondTerm", "(II)I"⟩ prog_4_method_8_code 3 (some .int)) ∈ tables_1 := List.mem_append_right _ (List.mem_append_left _ (List.mem_of_getElem? (i := 103) rfl))
theorem tw344 : (Cond.methodLinkNest "FieldAfterField$Fit" 47 ⟨"FieldAfterField$Marks", "thirdTerm", "(II)I"⟩ "FieldAfterField") ∈ tables_1 := List.mem_append_right _ (List.mem_append_left _ (List.mem_of_getElem? (i := 104) rfl))
theorem tw345 : (Cond.privateMethod ⟨"FieldAfterField$Marks", "thirdTerm", "(II)I"⟩) ∈ tables_1 := List.mem_append_right _ (List.mem_append_left _ (List.mem_of_getElem? (i := 105) rfl))
theorem tw346 : (Cond.instanceMethod ⟨"FieldAfterField$Marks", "thirdTerm", "(II)I"⟩) ∈ tables_1 := List.mem_append_right _ (List.mem_append_left _ (List.mem_of_getElem? (i := 106) rfl))
theorem tw347 : (Cond.code ⟨"FieldAfterField$Marks", "thirdTerm", "(II)I"⟩ prog_4_method_9_code 3 (some .int)) ∈ tables_1 := List.mem_append_right _ (List.mem_append_left _ (List.mem_of_getElem? (i := 107) rfl))
theorem tw348 : (Cond.methodLinkNest "FieldAfterField$Fit" 50 ⟨"FieldAfterField$Table", "add", "(JJI)V"⟩ "FieldAfterField") ∈ tables_1 := List.mem_append_right _ (List.mem_append_left _ (List.mem_of_getElem? (i := 108) rfl))
theorem tw349 : (Cond.privateMethod ⟨"FieldAfterField$Table", "add", "(JJI)V"⟩) ∈ tables_1 := List.mem_append_right _ (List.mem_append_left _ (List.mem_of_getElem? (i := 109) rfl))
theorem tw350 : (Cond.instanceMethod ⟨"FieldAfterField$Table", "add", "(JJI)V"⟩) ∈ tables_1 := List.mem_append_right _ (List.mem_append_left _ (List.mem_of_getElem? (i := 110) rfl))
theorem tw351 : (Cond.code ⟨"FieldAfterField$Table", "add", "(JJI)V"⟩ prog_7_method_3_code 6 (none : Option Jvm.ClassFile.FieldType)) ∈ tables_1 := List.mem_append_right _ (List.mem_append_left _ (List.mem_of_getElem? (i := 111) rfl))
theorem tw352 : (Cond.methodLinkNest "FieldAfterField$Fit" 54 ⟨"FieldAfterField$Table", "turnBack", "()V"⟩ "FieldAfterField") ∈ tables_1 := List.mem_append_right _ (List.mem_append_left _ (List.mem_of_getElem? (i := 112) rfl))
theorem tw353 : (Cond.privateMethod ⟨"FieldAfterField$Table", "turnBack", "()V"⟩) ∈ tables_1 := List.mem_append_right _ (List.mem_append_left _ (List.mem_of_getElem? (i := 113) rfl))
theorem tw354 : (Cond.instanceMethod ⟨"FieldAfterField$Table", "turnBack", "()V"⟩) ∈ tables_1 := List.mem_append_right _ (List.mem_append_left _ (List.mem_of_getElem? (i := 114) rfl))
theorem tw355 : (Cond.code ⟨"FieldAfterField$Table", "turnBack", "()V"⟩ prog_7_method_4_code 1 (none : Option Jvm.ClassFile.FieldType)) ∈ tables_1 := List.mem_append_right _ (List.mem_append_left _ (List.mem_of_getElem? (i := 115) rfl))
theorem tw356 : (Cond.methodLink "FieldAfterField$Fit" 57 ⟨"FieldAfterField$Fit", "makeSums", "(LFieldAfterField$Marks;II)V"⟩) ∈ tables_1 := List.mem_append_right _ (List.mem_append_left _ (List.mem_of_getElem? (i := 116) rfl))
theorem tw357 : (Cond.privateMethod ⟨"FieldAfterField$Fit", "makeSums", "(LFieldAfterField$Marks;II)V"⟩) ∈ tables_1 := List.mem_append_right _ (List.mem_append_left _ (List.mem_of_getElem? (i := 117) rfl))
theorem tw358 : (Cond.instanceMethod ⟨"FieldAfterField$Fit", "makeSums", "(LFieldAfterField$Marks;II)V"⟩) ∈ tables_1 := List.mem_append_right _ (List.mem_append_left _ (List.mem_of_getElem? (i := 118) rfl))
theorem tw359 : (Cond.code ⟨"FieldAfterField$Fit", "makeSums", "(LFieldAfterField$Marks;II)V"⟩ prog_3_method_3_code 8 (none : Option Jvm.ClassFile.FieldType)) ∈ tables_1 := List.mem_append_right _ (List.mem_append_left _ (List.mem_of_getElem? (i := 119) rfl))
theorem tw360 : (Cond.methodLink "FieldAfterField$Fit" 61 ⟨"FieldAfterField$Fit", "makeFactors", "(I)V"⟩) ∈ tables_1 := List.mem_append_right _ (List.mem_append_left _ (List.mem_of_getElem? (i := 120) rfl))
theorem tw361 : (Cond.privateMethod ⟨"FieldAfterField$Fit", "makeFactors", "(I)V"⟩) ∈ tables_1 := List.mem_append_right _ (List.mem_append_left _ (List.mem_of_getElem? (i := 121) rfl))
theorem tw362 : (Cond.instanceMethod ⟨"FieldAfterField$Fit", "makeFactors", "(I)V"⟩) ∈ tables_1 := List.mem_append_right _ (List.mem_append_left _ (List.mem_of_getElem? (i := 122) rfl))
theorem tw363 : (Cond.code ⟨"FieldAfterField$Fit", "makeFactors", "(I)V"⟩ prog_3_method_4_code 4 (none : Option Jvm.ClassFile.FieldType)) ∈ tables_1 := List.mem_append_right _ (List.mem_append_left _ (List.mem_of_getElem? (i := 123) rfl))
theorem tw364 : (Cond.methodLink "FieldAfterFieldLaw" 42 ⟨"FieldAfterField", "fit", "(IIII)J"⟩) ∈ tables_1 := List.mem_append_right _ (List.mem_append_left _ (List.mem_of_getElem? (i := 124) rfl))
theorem tw365 : (Cond.instanceMethod ⟨"FieldAfterField", "fit", "(IIII)J"⟩) ∈ tables_1 := List.mem_append_right _ (List.mem_append_left _ (List.mem_of_getElem? (i := 125) rfl))
theorem tw366 : (Cond.selects "FieldAfterField" ⟨"FieldAfterField", "fit", "(IIII)J"⟩ ⟨"FieldAfterField", "fit", "(IIII)J"⟩) ∈ tables_1 := List.mem_append_right _ (List.mem_append_left _ (List.mem_of_getElem? (i := 126) rfl))
theorem tw367 : (Cond.code ⟨"FieldAfterField", "fit", "(IIII)J"⟩ prog_1_method_8_code 5 (some .long)) ∈ tables_1 := List.mem_append_right _ (List.mem_append_left _ (List.mem_of_getElem? (i := 127) rfl))
theorem tw368 : (Cond.methodLink "FieldAfterField" 131 ⟨"FieldAfterField", "outsideFit", "(III)Z"⟩) ∈ tables_1 := List.mem_append_right _ (List.mem_append_left _ (List.mem_of_getElem? (i := 128) rfl))
theorem tw369 : (Cond.static ⟨"FieldAfterField", "outsideFit", "(III)Z"⟩) ∈ tables_1 := List.mem_append_right _ (List.mem_append_left _ (List.mem_of_getElem? (i := 129) rfl))
theorem tw370 : (Cond.code ⟨"FieldAfterField", "outsideFit", "(III)Z"⟩ prog_1_method_24_code 3 (some .boolean)) ∈ tables_1 := List.mem_append_right _ (List.mem_append_left _ (List.mem_of_getElem? (i := 130) rfl))
theorem tw371 : (Cond.methodLink "FieldAfterField" 134 ⟨"FieldAfterField", "lastTerm", "(I)I"⟩) ∈ tables_1 := List.mem_append_right _ (List.mem_append_left _ (List.mem_of_getElem? (i := 131) rfl))
theorem tw372 : (Cond.static ⟨"FieldAfterField", "lastTerm", "(I)I"⟩) ∈ tables_1 := List.mem_append_right _ (List.mem_append_left _ (List.mem_of_getElem? (i := 132) rfl))
theorem tw373 : (Cond.code ⟨"FieldAfterField", "lastTerm", "(I)I"⟩ prog_1_method_25_code 1 (some .int)) ∈ tables_1 := List.mem_append_right _ (List.mem_append_left _ (List.mem_of_getElem? (i := 133) rfl))
theorem tw374 : (Cond.constantLong "FieldAfterField" 137 (-100003)) ∈ tables_1 := List.mem_append_right _ (List.mem_append_left _ (List.mem_of_getElem? (i := 134) rfl))
theorem tw375 : (Cond.methodLink "FieldAfterField" 143 ⟨"FieldAfterField", "partOf", "(JJI)J"⟩) ∈ tables_1 := List.mem_append_right _ (List.mem_append_left _ (List.mem_of_getElem? (i := 135) rfl))
theorem tw376 : (Cond.static ⟨"FieldAfterField", "partOf", "(JJI)J"⟩) ∈ tables_1 := List.mem_append_right _ (List.mem_append_left _ (List.mem_of_getElem? (i := 136) rfl))
theorem tw377 : (Cond.code ⟨"FieldAfterField", "partOf", "(JJI)J"⟩ prog_1_method_27_code 7 (some .long)) ∈ tables_1 := List.mem_append_right _ (List.mem_append_left _ (List.mem_of_getElem? (i := 137) rfl))
theorem tw378 : (Cond.methodLink "FieldAfterField" 211 ⟨"java/lang/Math", "abs", "(J)J"⟩) ∈ tables_1 := List.mem_append_right _ (List.mem_append_left _ (List.mem_of_getElem? (i := 138) rfl))
theorem tw379 : (Cond.static ⟨"java/lang/Math", "abs", "(J)J"⟩) ∈ tables_1 := List.mem_append_right _ (List.mem_append_left _ (List.mem_of_getElem? (i := 139) rfl))
theorem tw380 : (Cond.code ⟨"java/lang/Math", "abs", "(J)J"⟩ prog_11_method_61_code 2 (some .long)) ∈ tables_1 := List.mem_append_right _ (List.mem_append_left _ (List.mem_of_getElem? (i := 140) rfl))
theorem tw381 : (Cond.methodLink "FieldAfterField" 217 ⟨"FieldAfterField", "commonDivisor", "(JJ)J"⟩) ∈ tables_1 := List.mem_append_right _ (List.mem_append_left _ (List.mem_of_getElem? (i := 141) rfl))
theorem tw382 : (Cond.static ⟨"FieldAfterField", "commonDivisor", "(JJ)J"⟩) ∈ tables_1 := List.mem_append_right _ (List.mem_append_left _ (List.mem_of_getElem? (i := 142) rfl))
theorem tw383 : (Cond.code ⟨"FieldAfterField", "commonDivisor", "(JJ)J"⟩ prog_1_method_28_code 7 (some .long)) ∈ tables_1 := List.mem_append_right _ (List.mem_append_left _ (List.mem_of_getElem? (i := 143) rfl))
theorem tw384 : (Cond.methodLink "FieldAfterFieldLaw" 47 ⟨"FieldAfterField", "rest", "(IIII)J"⟩) ∈ tables_1 := List.mem_append_right _ (List.mem_append_left _ (List.mem_of_getElem? (i := 144) rfl))
theorem tw385 : (Cond.instanceMethod ⟨"FieldAfterField", "rest", "(IIII)J"⟩) ∈ tables_1 := List.mem_append_right _ (List.mem_append_left _ (List.mem_of_getElem? (i := 145) rfl))
theorem tw386 : (Cond.selects "FieldAfterField" ⟨"FieldAfterField", "rest", "(IIII)J"⟩ ⟨"FieldAfterField", "rest", "(IIII)J"⟩) ∈ tables_1 := List.mem_append_right _ (List.mem_append_left _ (List.mem_of_getElem? (i := 146) rfl))
theorem tw387 : (Cond.code ⟨"FieldAfterField", "rest", "(IIII)J"⟩ prog_1_method_9_code 5 (some .long)) ∈ tables_1 := List.mem_append_right _ (List.mem_append_left _ (List.mem_of_getElem? (i := 147) rfl))
theorem tw388 : (Cond.constantLong "FieldAfterField" 147 (-100001)) ∈ tables_1 := List.mem_append_right _ (List.mem_append_left _ (List.mem_of_getElem? (i := 148) rfl))
theorem tw389 : (Cond.methodLinkNest "FieldAfterField" 149 ⟨"FieldAfterField$Fit", "restOf", "(LFieldAfterField$Marks;II)J"⟩ "FieldAfterField") ∈ tables_1 := List.mem_append_right _ (List.mem_append_left _ (List.mem_of_getElem? (i := 149) rfl))
theorem tw390 : (Cond.privateMethod ⟨"FieldAfterField$Fit", "restOf", "(LFieldAfterField$Marks;II)J"⟩) ∈ tables_1 := List.mem_append_right _ (List.mem_append_left _ (List.mem_of_getElem? (i := 150) rfl))
theorem tw391 : (Cond.instanceMethod ⟨"FieldAfterField$Fit", "restOf", "(LFieldAfterField$Marks;II)J"⟩) ∈ tables_1 := List.mem_append_right _ (List.mem_append_left _ (List.mem_of_getElem? (i := 151) rfl))
theorem tw392 : (Cond.code ⟨"FieldAfterField$Fit", "restOf", "(LFieldAfterField$Marks;II)J"⟩ prog_3_method_5_code 7 (some .long)) ∈ tables_1 := List.mem_append_right _ (List.mem_append_left _ (List.mem_of_getElem? (i := 152) rfl))
theorem tw393 : (Cond.methodLink "FieldAfterFieldLaw" 51 ⟨"FieldAfterField", "spread", "(III)J"⟩) ∈ tables_1 := List.mem_append_right _ (List.mem_append_left _ (List.mem_of_getElem? (i := 153) rfl))
theorem tw394 : (Cond.instanceMethod ⟨"FieldAfterField", "spread", "(III)J"⟩) ∈ tables_1 := List.mem_append_right _ (List.mem_append_left _ (List.mem_of_getElem? (i := 154) rfl))
theorem tw395 : (Cond.selects "FieldAfterField" ⟨"FieldAfterField", "spread", "(III)J"⟩ ⟨"FieldAfterField", "spread", "(III)J"⟩) ∈ tables_1 := List.mem_append_right _ (List.mem_append_left _ (List.mem_of_getElem? (i := 155) rfl))
theorem tw396 : (Cond.code ⟨"FieldAfterField", "spread", "(III)J"⟩ prog_1_method_10_code 4 (some .long)) ∈ tables_1 := List.mem_append_right _ (List.mem_append_left _ (List.mem_of_getElem? (i := 156) rfl))
theorem tw397 : (Cond.methodLinkNest "FieldAfterField" 153 ⟨"FieldAfterField$Fit", "sumOfSquares", "(I)J"⟩ "FieldAfterField") ∈ tables_1 := List.mem_append_right _ (List.mem_append_left _ (List.mem_of_getElem? (i := 157) rfl))
theorem tw398 : (Cond.privateMethod ⟨"FieldAfterField$Fit", "sumOfSquares", "(I)J"⟩) ∈ tables_1 := List.mem_append_right _ (List.mem_append_left _ (List.mem_of_getElem? (i := 158) rfl))
theorem tw399 : (Cond.instanceMethod ⟨"FieldAfterField$Fit", "sumOfSquares", "(I)J"⟩) ∈ tables_1 := List.mem_append_right _ (List.mem_append_left _ (List.mem_of_getElem? (i := 159) rfl))
theorem tw400 : (Cond.code ⟨"FieldAfterField$Fit", "sumOfSquares", "(I)J"⟩ prog_3_method_7_code 4 (some .long)) ∈ tables_1 := List.mem_append_right _ (List.mem_append_left _ (List.mem_of_getElem? (i := 160) rfl))
theorem tw401 : (Cond.methodLink "FieldAfterFieldLaw" 56 ⟨"FieldAfterField", "judge", "(II)I"⟩) ∈ tables_1 := List.mem_append_right _ (List.mem_append_left _ (List.mem_of_getElem? (i := 161) rfl))
theorem tw402 : (Cond.instanceMethod ⟨"FieldAfterField", "judge", "(II)I"⟩) ∈ tables_1 := List.mem_append_right _ (List.mem_append_left _ (List.mem_of_getElem? (i := 162) rfl))
theorem tw403 : (Cond.selects "FieldAfterField" ⟨"FieldAfterField", "judge", "(II)I"⟩ ⟨"FieldAfterField", "judge", "(II)I"⟩) ∈ tables_1 := List.mem_append_right _ (List.mem_append_left _ (List.mem_of_getElem? (i := 163) rfl))
theorem tw404 : (Cond.code ⟨"FieldAfterField", "judge", "(II)I"⟩ prog_1_method_11_code 3 (some .int)) ∈ tables_1 := List.mem_append_right _ (List.mem_append_left _ (List.mem_of_getElem? (i := 164) rfl))
theorem tw405 : (Cond.methodLinkNest "FieldAfterField" 157 ⟨"FieldAfterField$Marks", "notLost", "()I"⟩ "FieldAfterField") ∈ tables_1 := List.mem_append_right _ (List.mem_append_left _ (List.mem_of_getElem? (i := 165) rfl))
theorem tw406 : (Cond.constant "FieldAfterField" 160 (-100003)) ∈ tables_1 := List.mem_append_right _ (List.mem_append_left _ (List.mem_of_getElem? (i := 166) rfl))
theorem tw407 : (Cond.methodLinkNest "FieldAfterField" 161 ⟨"FieldAfterField$Fit", "liars", "(LFieldAfterField$Marks;II)I"⟩ "FieldAfterField") ∈ tables_1 := List.mem_append_right _ (List.mem_append_left _ (List.mem_of_getElem? (i := 167) rfl))
theorem tw408 : (Cond.privateMethod ⟨"FieldAfterField$Fit", "liars", "(LFieldAfterField$Marks;II)I"⟩) ∈ tables_1 := List.mem_append_right _ (List.mem_append_left _ (List.mem_of_getElem? (i := 168) rfl))
theorem tw409 : (Cond.instanceMethod ⟨"FieldAfterField$Fit", "liars", "(LFieldAfterField$Marks;II)I"⟩) ∈ tables_1 := List.mem_append_right _ (List.mem_append_left _ (List.mem_of_getElem? (i := 169) rfl))
theorem tw410 : (Cond.code ⟨"FieldAfterField$Fit", "liars", "(LFieldAfterField$Marks;II)I"⟩ prog_3_method_9_code 7 (some .int)) ∈ tables_1 := List.mem_append_right _ (List.mem_append_left _ (List.mem_of_getElem? (i := 170) rfl))
theorem tw411 : (Cond.methodLinkNest "FieldAfterField$Fit" 108 ⟨"FieldAfterField$Marks", "notLost", "()I"⟩ "FieldAfterField") ∈ tables_1 := List.mem_append_right _ (List.mem_append_left _ (List.mem_of_getElem? (i := 171) rfl))
theorem tw412 : (Cond.methodLink "FieldAfterField$Fit" 112 ⟨"FieldAfterField$Fit", "make", "(LFieldAfterField$Marks;II)Z"⟩) ∈ tables_1 := List.mem_append_right _ (List.mem_append_left _ (List.mem_of_getElem? (i := 172) rfl))
theorem tw413 : (Cond.methodLink "FieldAfterField$Fit" 116 ⟨"FieldAfterField$Fit", "above", "(LFieldAfterField$Marks;II)I"⟩) ∈ tables_1 := List.mem_append_right _ (List.mem_append_left _ (List.mem_of_getElem? (i := 173) rfl))
theorem tw414 : (Cond.privateMethod ⟨"FieldAfterField$Fit", "above", "(LFieldAfterField$Marks;II)I"⟩) ∈ tables_1 := List.mem_append_right _ (List.mem_append_left _ (List.mem_of_getElem? (i := 174) rfl))
theorem tw415 : (Cond.instanceMethod ⟨"FieldAfterField$Fit", "above", "(LFieldAfterField$Marks;II)I"⟩) ∈ tables_1 := List.mem_append_right _ (List.mem_append_left _ (List.mem_of_getElem? (i := 175) rfl))
theorem tw416 : (Cond.code ⟨"FieldAfterField$Fit", "above", "(LFieldAfterField$Marks;II)I"⟩ prog_3_method_8_code 6 (some .int)) ∈ tables_1 := List.mem_append_right _ (List.mem_append_left _ (List.mem_of_getElem? (i := 176) rfl))
theorem tw417 : (Cond.methodLink "FieldAfterField$Fit" 104 ⟨"FieldAfterField$Fit", "greaterRestOf", "(LFieldAfterField$Marks;I)J"⟩) ∈ tables_1 := List.mem_append_right _ (List.mem_append_left _ (List.mem_of_getElem? (i := 177) rfl))
theorem tw418 : (Cond.privateMethod ⟨"FieldAfterField$Fit", "greaterRestOf", "(LFieldAfterField$Marks;I)J"⟩) ∈ tables_1 := List.mem_append_right _ (List.mem_append_left _ (List.mem_of_getElem? (i := 178) rfl))
theorem tw419 : (Cond.instanceMethod ⟨"FieldAfterField$Fit", "greaterRestOf", "(LFieldAfterField$Marks;I)J"⟩) ∈ tables_1 := List.mem_append_right _ (List.mem_append_left _ (List.mem_of_getElem? (i := 179) rfl))
theorem tw420 : (Cond.code ⟨"FieldAfterField$Fit", "greaterRestOf", "(LFieldAfterField$Marks;I)J"⟩ prog_3_method_6_code 3 (some .long)) ∈ tables_1 := List.mem_append_right _ (List.mem_append_left _ (List.mem_of_getElem? (i := 180) rfl))
theorem tw421 : (Cond.methodLink "FieldAfterField$Fit" 90 ⟨"FieldAfterField$Fit", "restOf", "(LFieldAfterField$Marks;II)J"⟩) ∈ tables_1 := List.mem_append_right _ (List.mem_append_left _ (List.mem_of_getElem? (i := 181) rfl))
theorem tw422 : (Cond.methodLink "FieldAfterField$Fit" 94 ⟨"java/lang/Math", "abs", "(J)J"⟩) ∈ tables_1 := List.mem_append_right _ (List.mem_append_left _ (List.mem_of_getElem? (i := 182) rfl))
theorem tw423 : (Cond.methodLink "FieldAfterField$Fit" 100 ⟨"java/lang/Math", "max", "(JJ)J"⟩) ∈ tables_1 := List.mem_append_right _ (List.mem_append_left _ (List.mem_of_getElem? (i := 183) rfl))
theorem tw424 : (Cond.static ⟨"java/lang/Math", "max", "(JJ)J"⟩) ∈ tables_1 := List.mem_append_right _ (List.mem_append_left _ (List.mem_of_getElem? (i := 184) rfl))
theorem tw425 : (Cond.code ⟨"java/lang/Math", "max", "(JJ)J"⟩ prog_11_method_66_code 4 (some .long)) ∈ tables_1 := List.mem_append_right _ (List.mem_append_left _ (List.mem_of_getElem? (i := 185) rfl))
theorem tw426 : (Cond.methodLink "FieldAfterField$Fit" 120 ⟨"FieldAfterField$Fit", "worstOf", "(LFieldAfterField$Marks;I)I"⟩) ∈ tables_1 := List.mem_append_right _ (List.mem_append_left _ (List.mem_of_getElem? (i := 186) rfl))
theorem tw427 : (Cond.privateMethod ⟨"FieldAfterField$Fit", "worstOf", "(LFieldAfterField$Marks;I)I"⟩) ∈ tables_1 := List.mem_append_right _ (List.mem_append_left _ (List.mem_of_getElem? (i := 187) rfl))
theorem tw428 : (Cond.instanceMethod ⟨"FieldAfterField$Fit", "worstOf", "(LFieldAfterField$Marks;I)I"⟩) ∈ tables_1 := List.mem_append_right _ (List.mem_append_left _ (List.mem_of_getElem? (i := 188) rfl))
theorem tw429 : (Cond.code ⟨"FieldAfterField$Fit", "worstOf", "(LFieldAfterField$Marks;I)I"⟩ prog_3_method_10_code 7 (some .int)) ∈ tables_1 := List.mem_append_right _ (List.mem_append_left _ (List.mem_of_getElem? (i := 189) rfl))
theorem tw430 : (Cond.methodLink "FieldAfterFieldLaw" 60 ⟨"FieldAfterField", "plan", "(III)J"⟩) ∈ tables_1 := List.mem_append_right _ (List.mem_append_left _ (List.mem_of_getElem? (i := 190) rfl))
theorem tw431 : (Cond.instanceMethod ⟨"FieldAfterField", "plan", "(III)J"⟩) ∈ tables_1 := List.mem_append_right _ (List.mem_append_left _ (List.mem_of_getElem? (i := 191) rfl))
theorem tw432 : (Cond.selects "FieldAfterField" ⟨"FieldAfterField", "plan", "(III)J"⟩ ⟨"FieldAfterField", "plan", "(III)J"⟩) ∈ tables_1 := List.mem_append_right _ (List.mem_append_left _ (List.mem_of_getElem? (i := 192) rfl))
theorem tw433 : (Cond.code ⟨"FieldAfterField", "plan", "(III)J"⟩ prog_1_method_12_code 4 (some .long)) ∈ tables_1 := List.mem_append_right _ (List.mem_append_left _ (List.mem_of_getElem? (i := 193) rfl))
theorem tw434 : (Cond.methodLinkNest "FieldAfterField" 165 ⟨"FieldAfterField$Planner", "make", "(LFieldAfterField$Marks;II)Z"⟩ "FieldAfterField") ∈ tables_1 := List.mem_append_right _ (List.mem_append_left _ (List.mem_of_getElem? (i := 194) rfl))
theorem tw435 : (Cond.privateMethod ⟨"FieldAfterField$Planner", "make", "(LFieldAfterField$Marks;II)Z"⟩) ∈ tables_1 := List.mem_append_right _ (List.mem_append_left _ (List.mem_of_getElem? (i := 195) rfl))
theorem tw436 : (Cond.instanceMethod ⟨"FieldAfterField$Planner", "make", "(LFieldAfterField$Marks;II)Z"⟩) ∈ tables_1 := List.mem_append_right _ (List.mem_append_left _ (List.mem_of_getElem? (i := 196) rfl))
theorem tw437 : (Cond.code ⟨"FieldAfterField$Planner", "make", "(LFieldAfterField$Marks;II)Z"⟩ prog_5_method_2_code 4 (some .boolean)) ∈ tables_1 := List.mem_append_right _ (List.mem_append_left _ (List.mem_of_getElem? (i := 197) rfl))
theorem tw438 : (Cond.methodLinkNest "FieldAfterField$Planner" 23 ⟨"FieldAfterField$Table", "clear", "(I)V"⟩ "FieldAfterField") ∈ tables_1 := List.mem_append_right _ (List.mem_append_left _ (List.mem_of_getElem? (i := 198) rfl))
theorem tw439 : (Cond.methodLink "FieldAfterField$Planner" 27 ⟨"FieldAfterField$Planner", "choose", "(LFieldAfterField$Marks;III)V"⟩) ∈ tables_1 := List.mem_append_right _ (List.mem_append_left _ (List.mem_of_getElem? (i := 199) rfl))
theorem tw440 : (Cond.privateMethod ⟨"FieldAfterField$Planner", "choose", "(LFieldAfterField$Marks;III)V"⟩) ∈ tables_1 := List.mem_append_right _ (List.mem_append_left _ (List.mem_of_getElem? (i := 200) rfl))
theorem tw441 : (Cond.instanceMethod ⟨"FieldAfterField$Planner", "choose", "(LFieldAfterField$Marks;III)V"⟩) ∈ tables_1 := List.mem_append_right _ (List.mem_append_left _ (List.mem_of_getElem? (i := 201) rfl))
theorem tw442 : (Cond.code ⟨"FieldAfterField$Planner", "choose", "(LFieldAfterField$Marks;III)V"⟩ prog_5_method_3_code 6 (none : Option Jvm.ClassFile.FieldType)) ∈ tables_1 := List.mem_append_right _ (List.mem_append_left _ (List.mem_of_getElem? (i := 202) rfl))
theorem tw443 : (Cond.methodLink "FieldAfterField$Planner" 31 ⟨"FieldAfterField$Planner", "weigh", "(LFieldAfterField$Marks;I)V"⟩) ∈ tables_1 := List.mem_append_right _ (List.mem_append_left _ (List.mem_of_getElem? (i := 203) rfl))
theorem tw444 : (Cond.privateMethod ⟨"FieldAfterField$Planner", "weigh", "(LFieldAfterField$Marks;I)V"⟩) ∈ tables_1 := List.mem_append_right _ (List.mem_append_left _ (List.mem_of_getElem? (i := 204) rfl))
theorem tw445 : (Cond.instanceMethod ⟨"FieldAfterField$Planner", "weigh", "(LFieldAfterField$Marks;I)V"⟩) ∈ tables_1 := List.mem_append_right _ (List.mem_append_left _ (List.mem_of_getElem? (i := 205) rfl))
theorem tw446 : (Cond.code ⟨"FieldAfterField$Planner", "weigh", "(LFieldAfterField$Marks;I)V"⟩ prog_5_method_5_code 6 (none : Option Jvm.ClassFile.FieldType)) ∈ tables_1 := List.mem_append_right _ (List.mem_append_left _ (List.mem_of_getElem? (i := 206) rfl))
theorem tw447 : (Cond.methodLinkNest "FieldAfterField$Planner" 54 ⟨"FieldAfterField$Table", "turnBack", "()V"⟩ "FieldAfterField") ∈ tables_1 := List.mem_append_right _ (List.mem_append_left _ (List.mem_of_getElem? (i := 207) rfl))
theorem tw448 : (Cond.methodLinkNest "FieldAfterField$Planner" 43 ⟨"FieldAfterField$Marks", "secondTerm", "(II)I"⟩ "FieldAfterField") ∈ tables_1 := List.mem_append_right _ (List.mem_append_left _ (List.mem_of_getElem? (i := 208) rfl))
theorem tw449 : (Cond.methodLinkNest "FieldAfterField$Planner" 47 ⟨"FieldAfterField$Marks", "thirdTerm", "(II)I"⟩ "FieldAfterField") ∈ tables_1 := List.mem_append_right _ (List.mem_append_left _ (List.mem_of_getElem? (i := 209) rfl))
theorem tw450 : (Cond.methodLinkNest "FieldAfterField$Planner" 61 ⟨"FieldAfterField$Table", "formOf", "(JJ)J"⟩ "FieldAfterField") ∈ tables_1 := List.mem_append_right _ (List.mem_append_left _ (List.mem_of_getElem? (i := 210) rfl))
theorem tw451 : (Cond.privateMethod ⟨"FieldAfterField$Table", "formOf", "(JJ)J"⟩) ∈ tables_1 := List.mem_append_right _ (List.mem_append_left _ (List.mem_of_getElem? (i := 211) rfl))
theorem tw452 : (Cond.instanceMethod ⟨"FieldAfterField$Table", "formOf", "(JJ)J"⟩) ∈ tables_1 := List.mem_append_right _ (List.mem_append_left _ (List.mem_of_getElem? (i := 212) rfl))
theorem tw453 : (Cond.code ⟨"FieldAfterField$Table", "formOf", "(JJ)J"⟩ prog_7_method_5_code 5 (some .long)) ∈ tables_1 := List.mem_append_right _ (List.mem_append_left _ (List.mem_of_getElem? (i := 213) rfl))
theorem tw454 : (Cond.constantLong "FieldAfterField$Table" 49 (2)) ∈ tables_1 := List.mem_append_right _ (List.mem_append_left _ (List.mem_of_getElem? (i := 214) rfl))
theorem tw455 : (Cond.methodLink "FieldAfterField$Planner" 65 ⟨"java/lang/Math", "max", "(JJ)J"⟩) ∈ tables_1 := List.mem_append_right _ (List.mem_append_left _ (List.mem_of_getElem? (i := 215) rfl))
theorem tw456 : (Cond.methodLink "FieldAfterField$Planner" 40 ⟨"FieldAfterField$Planner", "chooseWith", "(LFieldAfterField$Marks;III)V"⟩) ∈ tables_1 := List.mem_append_right _ (List.mem_append_left _ (List.mem_of_getElem? (i := 216) rfl))
theorem tw457 : (Cond.privateMethod ⟨"FieldAfterField$Planner", "chooseWith", "(LFieldAfterField$Marks;III)V"⟩) ∈ tables_1 := List.mem_append_right _ (List.mem_append_left _ (List.mem_of_getElem? (i := 217) rfl))
theorem tw458 : (Cond.instanceMethod ⟨"FieldAfterField$Planner", "chooseWith", "(LFieldAfterField$Marks;III)V"⟩) ∈ tables_1 := List.mem_append_right _ (List.mem_append_left _ (List.mem_of_getElem? (i := 218) rfl))
theorem tw459 : (Cond.code ⟨"FieldAfterField$Planner", "chooseWith", "(LFieldAfterField$Marks;III)V"⟩ prog_5_method_4_code 7 (none : Option Jvm.ClassFile.FieldType)) ∈ tables_1 := List.mem_append_right _ (List.mem_append_left _ (List.mem_of_getElem? (i := 219) rfl))
theorem tw460 : (Cond.methodLinkNest "FieldAfterField$Planner" 50 ⟨"FieldAfterField$Table", "add", "(JJI)V"⟩ "FieldAfterField") ∈ tables_1 := List.mem_append_right _ (List.mem_append_left _ (List.mem_of_getElem? (i := 220) rfl))
theorem tw461 : (Cond.methodLink "FieldAfterFieldLaw" 64 ⟨"FieldAfterField", "lot", "(II)I"⟩) ∈ tables_1 := List.mem_append_right _ (List.mem_append_left _ (List.mem_of_getElem? (i := 221) rfl))
theorem tw462 : (Cond.instanceMethod ⟨"FieldAfterField", "lot", "(II)I"⟩) ∈ tables_1 := List.mem_append_right _ (List.mem_append_left _ (List.mem_of_getElem? (i := 222) rfl))
theorem tw463 : (Cond.selects "FieldAfterField" ⟨"FieldAfterField", "lot", "(II)I"⟩ ⟨"FieldAfterField", "lot", "(II)I"⟩) ∈ tables_1 := List.mem_append_right _ (List.mem_append_left _ (List.mem_of_getElem? (i := 223) rfl))
theorem tw464 : (Cond.code ⟨"FieldAfterField", "lot", "(II)I"⟩ prog_1_method_13_code 3 (some .int)) ∈ tables_1 := List.mem_append_right _ (List.mem_append_left _ (List.mem_of_getElem? (i := 224) rfl))
theorem tw465 : (Cond.methodLinkNest "FieldAfterField" 175 ⟨"FieldAfterField$Book", "add", "(II)I"⟩ "FieldAfterField") ∈ tables_1 := List.mem_append_right _ (List.mem_append_left _ (List.mem_of_getElem? (i := 225) rfl))
theorem tw466 : (Cond.privateMethod ⟨"FieldAfterField$Book", "add", "(II)I"⟩) ∈ tables_1 := List.mem_append_right _ (List.mem_append_left _ (List.mem_of_getElem? (i := 226) rfl))
theorem tw467 : (Cond.instanceMethod ⟨"FieldAfterField$Book", "add", "(II)I"⟩) ∈ tables_1 := List.mem_append_right _ (List.mem_append_left _ (List.mem_of_getElem? (i := 227) rfl))
theorem tw468 : (Cond.code ⟨"FieldAfterField$Book", "add", "(II)I"⟩ prog_2_method_3_code 4 (some .int)) ∈ tables_1 := List.mem_append_right _ (List.mem_append_left _ (List.mem_of_getElem? (i := 228) rfl))
theorem tw469 : (Cond.methodLink "FieldAfterFieldLaw" 68 ⟨"FieldAfterField", "back", "(II)I"⟩) ∈ tables_1 := List.mem_append_right _ (List.mem_append_left _ (List.mem_of_getElem? (i := 229) rfl))
theorem tw470 : (Cond.instanceMethod ⟨"FieldAfterField", "back", "(II)I"⟩) ∈ tables_1 := List.mem_append_right _ (List.mem_append_left _ (List.mem_of_getElem? (i := 230) rfl))
theorem tw471 : (Cond.selects "FieldAfterField" ⟨"FieldAfterField", "back", "(II)I"⟩ ⟨"FieldAfterField", "back", "(II)I"⟩) ∈ tables_1 := List.mem_append_right _ (List.mem_append_left _ (List.mem_of_getElem? (i := 231) rfl))
theorem tw472 : (Cond.code ⟨"FieldAfterField", "back", "(II)I"⟩ prog_1_method_14_code 3 (some .int)) ∈ tables_1 := List.mem_append_right _ (List.mem_append_left _ (List.mem_of_getElem? (i := 232) rfl))
theorem tw473 : (Cond.methodLinkNest "FieldAfterField" 178 ⟨"FieldAfterField$Book", "has", "(I)Z"⟩ "FieldAfterField") ∈ tables_1 := List.mem_append_right _ (List.mem_append_left _ (List.mem_of_getElem? (i := 233) rfl))
theorem tw474 : (Cond.privateMethod ⟨"FieldAfterField$Book", "has", "(I)Z"⟩) ∈ tables_1 := List.mem_append_right _ (List.mem_append_left _ (List.mem_of_getElem? (i := 234) rfl))
theorem tw475 : (Cond.instanceMethod ⟨"FieldAfterField$Book", "has", "(I)Z"⟩) ∈ tables_1 := List.mem_append_right _ (List.mem_append_left _ (List.mem_of_getElem? (i := 235) rfl))
theorem tw476 : (Cond.code ⟨"FieldAfterField$Book", "has", "(I)Z"⟩ prog_2_method_2_code 2 (some .boolean)) ∈ tables_1 := List.mem_append_right _ (List.mem_append_left _ (List.mem_of_getElem? (i := 236) rfl))
theorem tw477 : (Cond.methodLinkNest "FieldAfterField" 179 ⟨"FieldAfterField$Book", "setRead", "(II)V"⟩ "FieldAfterField") ∈ tables_1 := List.mem_append_right _ (List.mem_append_left _ (List.mem_of_getElem? (i := 237) rfl))
theorem tw478 : (Cond.privateMethod ⟨"FieldAfterField$Book", "setRead", "(II)V"⟩) ∈ tables_1 := List.mem_append_right _ (List.mem_append_left _ (List.mem_of_getElem? (i := 238) rfl))
theorem tw479 : (Cond.instanceMethod ⟨"FieldAfterField$Book", "setRead", "(II)V"⟩) ∈ tables_1 := List.mem_append_right _ (List.mem_append_left _ (List.mem_of_getElem? (i := 239) rfl))
theorem tw480 : (Cond.code ⟨"FieldAfterField$Book", "setRead", "(II)V"⟩ prog_2_method_4_code 3 (none : Option Jvm.ClassFile.FieldType)) ∈ tables_1 := List.mem_append_right _ (List.mem_append_right _ (List.mem_append_left _ (List.mem_of_getElem? (i := 0) rfl)))
theorem tw481 : (Cond.methodLink "FieldAfterFieldLaw" 72 ⟨"FieldAfterField", "mend", "(I)I"⟩) ∈ tables_1 := List.mem_append_right _ (List.mem_append_right _ (List.mem_append_left _ (List.mem_of_getElem? (i := 1) rfl)))
theorem tw482 : (Cond.instanceMethod ⟨"FieldAfterField", "mend", "(I)I"⟩) ∈ tables_1 := List.mem_append_right _ (List.mem_append_right _ (List.mem_append_left _ (List.mem_of_getElem? (i := 2) rfl)))
theorem tw483 : (Cond.selects "FieldAfterField" ⟨"FieldAfterField", "mend", "(I)I"⟩ ⟨"FieldAfterField", "mend", "(I)I"⟩) ∈ tables_1 := List.mem_append_right _ (List.mem_append_right _ (List.mem_append_left _ (List.mem_of_getElem? (i := 3) rfl)))
theorem tw484 : (Cond.code ⟨"FieldAfterField", "mend", "(I)I"⟩ prog_1_method_15_code 2 (some .int)) ∈ tables_1 := List.mem_append_right _ (List.mem_append_right _ (List.mem_append_left _ (List.mem_of_getElem? (i := 4) rfl)))
theorem tw485 : (Cond.methodLinkNest "FieldAfterField" 183 ⟨"FieldAfterField$Book", "setMended", "(I)V"⟩ "FieldAfterField") ∈ tables_1 := List.mem_append_right _ (List.mem_append_right _ (List.mem_append_left _ (List.mem_of_getElem? (i := 5) rfl)))
theorem tw486 : (Cond.privateMethod ⟨"FieldAfterField$Book", "setMended", "(I)V"⟩) ∈ tables_1 := List.mem_append_right _ (List.mem_append_right _ (List.mem_append_left _ (List.mem_of_getElem? (i := 6) rfl)))
theorem tw487 : (Cond.instanceMethod ⟨"FieldAfterField$Book", "setMended", "(I)V"⟩) ∈ tables_1 := List.mem_append_right _ (List.mem_append_right _ (List.mem_append_left _ (List.mem_of_getElem? (i := 7) rfl)))
theorem tw488 : (Cond.code ⟨"FieldAfterField$Book", "setMended", "(I)V"⟩ prog_2_method_5_code 2 (none : Option Jvm.ClassFile.FieldType)) ∈ tables_1 := List.mem_append_right _ (List.mem_append_right _ (List.mem_append_left _ (List.mem_of_getElem? (i := 8) rfl)))
theorem tw489 : (Cond.methodLink "FieldAfterFieldLaw" 76 ⟨"FieldAfterField", "gain", "(I)I"⟩) ∈ tables_1 := List.mem_append_right _ (List.mem_append_right _ (List.mem_append_left _ (List.mem_of_getElem? (i := 9) rfl)))
theorem tw490 : (Cond.instanceMethod ⟨"FieldAfterField", "gain", "(I)I"⟩) ∈ tables_1 := List.mem_append_right _ (List.mem_append_right _ (List.mem_append_left _ (List.mem_of_getElem? (i := 10) rfl)))
theorem tw491 : (Cond.selects "FieldAfterField" ⟨"FieldAfterField", "gain", "(I)I"⟩ ⟨"FieldAfterField", "gain", "(I)I"⟩) ∈ tables_1 := List.mem_append_right _ (List.mem_append_right _ (List.mem_append_left _ (List.mem_of_getElem? (i := 11) rfl)))
theorem tw492 : (Cond.code ⟨"FieldAfterField", "gain", "(I)I"⟩ prog_1_method_16_code 3 (some .int)) ∈ tables_1 := List.mem_append_right _ (List.mem_append_right _ (List.mem_append_left _ (List.mem_of_getElem? (i := 12) rfl)))
theorem tw493 : (Cond.methodLink "FieldAfterFieldLaw" 80 ⟨"FieldAfterField", "state", "(II)I"⟩) ∈ tables_1 := List.mem_append_right _ (List.mem_append_right _ (List.mem_append_left _ (List.mem_of_getElem? (i := 13) rfl)))
theorem tw494 : (Cond.instanceMethod ⟨"FieldAfterField", "state", "(II)I"⟩) ∈ tables_1 := List.mem_append_right _ (List.mem_append_right _ (List.mem_append_left _ (List.mem_of_getElem? (i := 14) rfl)))
theorem tw495 : (Cond.selects "FieldAfterField" ⟨"FieldAfterField", "state", "(II)I"⟩ ⟨"FieldAfterField", "state", "(II)I"⟩) ∈ tables_1 := List.mem_append_right _ (List.mem_append_right _ (List.mem_append_left _ (List.mem_of_getElem? (i := 15) rfl)))
theorem tw496 : (Cond.code ⟨"FieldAfterField", "state", "(II)I"⟩ prog_1_method_17_code 3 (some .int)) ∈ tables_1 := List.mem_append_right _ (List.mem_append_right _ (List.mem_append_left _ (List.mem_of_getElem? (i := 16) rfl)))
theorem tw497 : (Cond.methodLinkNest "FieldAfterField" 189 ⟨"FieldAfterField$Book", "stateAhead", "(II)I"⟩ "FieldAfterField") ∈ tables_1 := List.mem_append_right _ (List.mem_append_right _ (List.mem_append_left _ (List.mem_of_getElem? (i := 17) rfl)))
theorem tw498 : (Cond.privateMethod ⟨"FieldAfterField$Book", "stateAhead", "(II)I"⟩) ∈ tables_1 := List.mem_append_right _ (List.mem_append_right _ (List.mem_append_left _ (List.mem_of_getElem? (i := 18) rfl)))
theorem tw499 : (Cond.instanceMethod ⟨"FieldAfterField$Book", "stateAhead", "(II)I"⟩) ∈ tables_1 := List.mem_append_right _ (List.mem_append_right _ (List.mem_append_left _ (List.mem_of_getElem? (i := 19) rfl)))
theorem tw500 : (Cond.code ⟨"FieldAfterField$Book", "stateAhead", "(II)I"⟩ prog_2_method_7_code 6 (some .int)) ∈ tables_1 := List.mem_append_right _ (List.mem_append_right _ (List.mem_append_left _ (List.mem_of_getElem? (i := 20) rfl)))
theorem tw501 : (Cond.methodLink "FieldAfterFieldLaw" 84 ⟨"FieldAfterField", "advice", "(I)I"⟩) ∈ tables_1 := List.mem_append_right _ (List.mem_append_right _ (List.mem_append_left _ (List.mem_of_getElem? (i := 21) rfl)))
theorem tw502 : (Cond.instanceMethod ⟨"FieldAfterField", "advice", "(I)I"⟩) ∈ tables_1 := List.mem_append_right _ (List.mem_append_right _ (List.mem_append_left _ (List.mem_of_getElem? (i := 22) rfl)))
theorem tw503 : (Cond.selects "FieldAfterField" ⟨"FieldAfterField", "advice", "(I)I"⟩ ⟨"FieldAfterField", "advice", "(I)I"⟩) ∈ tables_1 := List.mem_append_right _ (List.mem_append_right _ (List.mem_append_left _ (List.mem_of_getElem? (i := 23) rfl)))
theorem tw504 : (Cond.code ⟨"FieldAfterField", "advice", "(I)I"⟩ prog_1_method_18_code 2 (some .int)) ∈ tables_1 := List.mem_append_right _ (List.mem_append_right _ (List.mem_append_left _ (List.mem_of_getElem? (i := 24) rfl)))
theorem tw505 : (Cond.methodLink "FieldAfterFieldLaw" 88 ⟨"FieldAfterField", "offset", "(III)I"⟩) ∈ tables_1 := List.mem_append_right _ (List.mem_append_right _ (List.mem_append_left _ (List.mem_of_getElem? (i := 25) rfl)))
theorem tw506 : (Cond.instanceMethod ⟨"FieldAfterField", "offset", "(III)I"⟩) ∈ tables_1 := List.mem_append_right _ (List.mem_append_right _ (List.mem_append_left _ (List.mem_of_getElem? (i := 26) rfl)))
theorem tw507 : (Cond.selects "FieldAfterField" ⟨"FieldAfterField", "offset", "(III)I"⟩ ⟨"FieldAfterField", "offset", "(III)I"⟩) ∈ tables_1 := List.mem_append_right _ (List.mem_append_right _ (List.mem_append_left _ (List.mem_of_getElem? (i := 27) rfl)))
theorem tw508 : (Cond.code ⟨"FieldAfterField", "offset", "(III)I"⟩ prog_1_method_19_code 5 (some .int)) ∈ tables_1 := List.mem_append_right _ (List.mem_append_right _ (List.mem_append_left _ (List.mem_of_getElem? (i := 28) rfl)))
theorem tw509 : (Cond.methodLink "FieldAfterFieldLaw" 92 ⟨"FieldAfterField", "rule", "(II)I"⟩) ∈ tables_1 := List.mem_append_right _ (List.mem_append_right _ (List.mem_append_left _ (List.mem_of_getElem? (i := 29) rfl)))
theorem tw510 : (Cond.instanceMethod ⟨"FieldAfterField", "rule", "(II)I"⟩) ∈ tables_1 := List.mem_append_right _ (List.mem_append_right _ (List.mem_append_left _ (List.mem_of_getElem? (i := 30) rfl)))
theorem tw511 : (Cond.selects "FieldAfterField" ⟨"FieldAfterField", "rule", "(II)I"⟩ ⟨"FieldAfterField", "rule", "(II)I"⟩) ∈ tables_1 := List.mem_append_right _ (List.mem_append_right _ (List.mem_append_left _ (List.mem_of_getElem? (i := 31) rfl)))
theorem tw512 : (Cond.code ⟨"FieldAfterField", "rule", "(II)I"⟩ prog_1_method_20_code 4 (some .int)) ∈ tables_1 := List.mem_append_right _ (List.mem_append_right _ (List.mem_append_left _ (List.mem_of_getElem? (i := 32) rfl)))
theorem tw513 : (Cond.methodLink "FieldAfterFieldLaw" 96 ⟨"FieldAfterField", "route", "(II)I"⟩) ∈ tables_1 := List.mem_append_right _ (List.mem_append_right _ (List.mem_append_left _ (List.mem_of_getElem? (i := 33) rfl)))
theorem tw514 : (Cond.instanceMethod ⟨"FieldAfterField", "route", "(II)I"⟩) ∈ tables_1 := List.mem_append_right _ (List.mem_append_right _ (List.mem_append_left _ (List.mem_of_getElem? (i := 34) rfl)))
theorem tw515 : (Cond.selects "FieldAfterField" ⟨"FieldAfterField", "route", "(II)I"⟩ ⟨"FieldAfterField", "route", "(II)I"⟩) ∈ tables_1 := List.mem_append_right _ (List.mem_append_right _ (List.mem_append_left _ (List.mem_of_getElem? (i := 35) rfl)))
theorem tw516 : (Cond.code ⟨"FieldAfterField", "route", "(II)I"⟩ prog_1_method_21_code 3 (some .int)) ∈ tables_1 := List.mem_append_right _ (List.mem_append_right _ (List.mem_append_left _ (List.mem_of_getElem? (i := 36) rfl)))
theorem tw517 : (Cond.methodLinkNest "FieldAfterField" 201 ⟨"FieldAfterField$Router", "make", "(I)Z"⟩ "FieldAfterField") ∈ tables_1 := List.mem_append_right _ (List.mem_append_right _ (List.mem_append_left _ (List.mem_of_getElem? (i := 37) rfl)))
theorem tw518 : (Cond.privateMethod ⟨"FieldAfterField$Router", "make", "(I)Z"⟩) ∈ tables_1 := List.mem_append_right _ (List.mem_append_right _ (List.mem_append_left _ (List.mem_of_getElem? (i := 38) rfl)))
theorem tw519 : (Cond.instanceMethod ⟨"FieldAfterField$Router", "make", "(I)Z"⟩) ∈ tables_1 := List.mem_append_right _ (List.mem_append_right _ (List.mem_append_left _ (List.mem_of_getElem? (i := 39) rfl)))
theorem tw520 : (Cond.code ⟨"FieldAfterField$Router", "make", "(I)Z"⟩ prog_6_method_2_code 2 (some .boolean)) ∈ tables_1 := List.mem_append_right _ (List.mem_append_right _ (List.mem_append_left _ (List.mem_of_getElem? (i := 40) rfl)))
theorem tw521 : (Cond.methodLink "FieldAfterField$Router" 36 ⟨"FieldAfterField$Router", "send", "(III)V"⟩) ∈ tables_1 := List.mem_append_right _ (List.mem_append_right _ (List.mem_append_left _ (List.mem_of_getElem? (i := 41) rfl)))
theorem tw522 : (Cond.privateMethod ⟨"FieldAfterField$Router", "send", "(III)V"⟩) ∈ tables_1 := List.mem_append_right _ (List.mem_append_right _ (List.mem_append_left _ (List.mem_of_getElem? (i := 42) rfl)))
theorem tw523 : (Cond.instanceMethod ⟨"FieldAfterField$Router", "send", "(III)V"⟩) ∈ tables_1 := List.mem_append_right _ (List.mem_append_right _ (List.mem_append_left _ (List.mem_of_getElem? (i := 43) rfl)))
theorem tw524 : (Cond.code ⟨"FieldAfterField$Router", "send", "(III)V"⟩ prog_6_method_3_code 5 (none : Option Jvm.ClassFile.FieldType)) ∈ tables_1 := List.mem_append_right _ (List.mem_append_right _ (List.mem_append_left _ (List.mem_of_getElem? (i := 44) rfl)))
theorem tw525 : (Cond.methodLink "FieldAfterField$Router" 40 ⟨"java/lang/System", "arraycopy", "(Ljava/lang/Object;ILjava/lang/Object;II)V"⟩) ∈ tables_1 := List.mem_append_right _ (List.mem_append_right _ (List.mem_append_left _ (List.mem_of_getElem? (i := 45) rfl)))
theorem tw526 : (Cond.static ⟨"java/lang/System", "arraycopy", "(Ljava/lang/Object;ILjava/lang/Object;II)V"⟩) ∈ tables_1 := List.mem_append_right _ (List.mem_append_right _ (List.mem_append_left _ (List.mem_of_getElem? (i := 46) rfl)))
theorem tw527 : (Cond.native ⟨"java/lang/System", "arraycopy", "(Ljava/lang/Object;ILjava/lang/Object;II)V"⟩) ∈ tables_1 := List.mem_append_right _ (List.mem_append_right _ (List.mem_append_left _ (List.mem_of_getElem? (i := 47) rfl)))
theorem tw528 : (Cond.methodLink "FieldAfterField$Router" 46 ⟨"FieldAfterField$Router", "sendTo", "(IIII)V"⟩) ∈ tables_1 := List.mem_append_right _ (List.mem_append_right _ (List.mem_append_left _ (List.mem_of_getElem? (i := 48) rfl)))
theorem tw529 : (Cond.privateMethod ⟨"FieldAfterField$Router", "sendTo", "(IIII)V"⟩) ∈ tables_1 := List.mem_append_right _ (List.mem_append_right _ (List.mem_append_left _ (List.mem_of_getElem? (i := 49) rfl)))
theorem tw530 : (Cond.instanceMethod ⟨"FieldAfterField$Router", "sendTo", "(IIII)V"⟩) ∈ tables_1 := List.mem_append_right _ (List.mem_append_right _ (List.mem_append_left _ (List.mem_of_getElem? (i := 50) rfl)))
theorem tw531 : (Cond.code ⟨"FieldAfterField$Router", "sendTo", "(IIII)V"⟩ prog_6_method_4_code 6 (none : Option Jvm.ClassFile.FieldType)) ∈ tables_1 := List.mem_append_right _ (List.mem_append_right _ (List.mem_append_left _ (List.mem_of_getElem? (i := 51) rfl)))
theorem tw532 : (Cond.methodLink "FieldAfterField$Router" 50 ⟨"FieldAfterField$Router", "stepTo", "(II)I"⟩) ∈ tables_1 := List.mem_append_right _ (List.mem_append_right _ (List.mem_append_left _ (List.mem_of_getElem? (i := 52) rfl)))
theorem tw533 : (Cond.privateMethod ⟨"FieldAfterField$Router", "stepTo", "(II)I"⟩) ∈ tables_1 := List.mem_append_right _ (List.mem_append_right _ (List.mem_append_left _ (List.mem_of_getElem? (i := 53) rfl)))
theorem tw534 : (Cond.instanceMethod ⟨"FieldAfterField$Router", "stepTo", "(II)I"⟩) ∈ tables_1 := List.mem_append_right _ (List.mem_append_right _ (List.mem_append_left _ (List.mem_of_getElem? (i := 54) rfl)))
theorem tw535 : (Cond.code ⟨"FieldAfterField$Router", "stepTo", "(II)I"⟩ prog_6_method_5_code 4 (some .int)) ∈ tables_1 := List.mem_append_right _ (List.mem_append_right _ (List.mem_append_left _ (List.mem_of_getElem? (i := 55) rfl)))
theorem tw536 : (Cond.methodLink "FieldAfterField$Router" 54 ⟨"java/lang/Math", "abs", "(I)I"⟩) ∈ tables_1 := List.mem_append_right _ (List.mem_append_right _ (List.mem_append_left _ (List.mem_of_getElem? (i := 56) rfl)))
theorem tw537 : (Cond.static ⟨"java/lang/Math", "abs", "(I)I"⟩) ∈ tables_1 := List.mem_append_right _ (List.mem_append_right _ (List.mem_append_left _ (List.mem_of_getElem? (i := 57) rfl)))
theorem tw538 : (Cond.code ⟨"java/lang/Math", "abs", "(I)I"⟩ prog_11_method_59_code 1 (some .int)) ∈ tables_1 := List.mem_append_right _ (List.mem_append_right _ (List.mem_append_left _ (List.mem_of_getElem? (i := 58) rfl)))
theorem tw539 : (Cond.methodLink "FieldAfterFieldLaw" 100 ⟨"FieldAfterField", "bad", "(III)I"⟩) ∈ tables_1 := List.mem_append_right _ (List.mem_append_right _ (List.mem_append_left _ (List.mem_of_getElem? (i := 59) rfl)))
theorem tw540 : (Cond.instanceMethod ⟨"FieldAfterField", "bad", "(III)I"⟩) ∈ tables_1 := List.mem_append_right _ (List.mem_append_right _ (List.mem_append_left _ (List.mem_of_getElem? (i := 60) rfl)))
theorem tw541 : (Cond.selects "FieldAfterField" ⟨"FieldAfterField", "bad", "(III)I"⟩ ⟨"FieldAfterField", "bad", "(III)I"⟩) ∈ tables_1 := List.mem_append_right _ (List.mem_append_right _ (List.mem_append_left _ (List.mem_of_getElem? (i := 61) rfl)))
theorem tw542 : (Cond.code ⟨"FieldAfterField", "bad", "(III)I"⟩ prog_1_method_22_code 7 (some .int)) ∈ tables_1 := List.mem_append_right _ (List.mem_append_right _ (List.mem_append_left _ (List.mem_of_getElem? (i := 62) rfl)))
theorem tw543 : (Cond.methodLinkNest "FieldAfterField" 208 ⟨"FieldAfterField$Fit", "above", "(LFieldAfterField$Marks;II)I"⟩ "FieldAfterField") ∈ tables_1 := List.mem_append_right _ (List.mem_append_right _ (List.mem_append_left _ (List.mem_of_getElem? (i := 63) rfl)))
theorem tw544 : (Cond.classLink "FieldAfterFieldLaw" 10 "FieldAfterFieldModel") ∈ tables_1 := List.mem_append_right _ (List.mem_append_right _ (List.mem_append_left _ (List.mem_of_getElem? (i := 64) rfl)))
theorem tw545 : (Cond.instantiable "FieldAfterFieldModel" 23) ∈ tables_1 := List.mem_append_right _ (List.mem_append_right _ (List.mem_append_left _ (List.mem_of_getElem? (i := 65) rfl)))
theorem tw546 : (Cond.methodLink "FieldAfterFieldLaw" 12 ⟨"FieldAfterFieldModel", "<init>", "()V"⟩) ∈ tables_1 := List.mem_append_right _ (List.mem_append_right _ (List.mem_append_left _ (List.mem_of_getElem? (i := 66) rfl)))
theorem tw547 : (Cond.instanceMethod ⟨"FieldAfterFieldModel", "<init>", "()V"⟩) ∈ tables_1 := List.mem_append_right _ (List.mem_append_right _ (List.mem_append_left _ (List.mem_of_getElem? (i := 67) rfl)))
theorem tw548 : (Cond.code ⟨"FieldAfterFieldModel", "<init>", "()V"⟩ prog_9_method_1_code 1 (none : Option Jvm.ClassFile.FieldType)) ∈ tables_1 := List.mem_append_right _ (List.mem_append_right _ (List.mem_append_left _ (List.mem_of_getElem? (i := 68) rfl)))
theorem tw549 : (Cond.methodLink "FieldAfterFieldModel" 1 ⟨"java/lang/Object", "<init>", "()V"⟩) ∈ tables_1 := List.mem_append_right _ (List.mem_append_right _ (List.mem_append_left _ (List.mem_of_getElem? (i := 69) rfl)))
theorem tw550 : (Cond.fieldLink "FieldAfterFieldModel" 86 "FieldAfterFieldModel" "marks" "I") ∈ tables_1 := List.mem_append_right _ (List.mem_append_right _ (List.mem_append_left _ (List.mem_of_getElem? (i := 70) rfl)))
theorem tw551 : (Cond.fieldLink "FieldAfterFieldModel" 7 "FieldAfterFieldModel" "places" "[I") ∈ tables_1 := List.mem_append_right _ (List.mem_append_right _ (List.mem_append_left _ (List.mem_of_getElem? (i := 71) rfl)))
theorem tw552 : (Cond.fieldLink "FieldAfterFieldModel" 13 "FieldAfterFieldModel" "reads" "[I") ∈ tables_1 := List.mem_append_right _ (List.mem_append_right _ (List.mem_append_left _ (List.mem_of_getElem? (i := 72) rfl)))
theorem tw553 : (Cond.fieldLink "FieldAfterFieldModel" 16 "FieldAfterFieldModel" "isLost" "[Z") ∈ tables_1 := List.mem_append_right _ (List.mem_append_right _ (List.mem_append_left _ (List.mem_of_getElem? (i := 73) rfl)))
theorem tw554 : (Cond.fieldLink "FieldAfterFieldModel" 20 "FieldAfterFieldModel" "isOut" "[Z") ∈ tables_1 := List.mem_append_right _ (List.mem_append_right _ (List.mem_append_left _ (List.mem_of_getElem? (i := 74) rfl)))
theorem tw555 : (Cond.fieldLink "FieldAfterFieldModel" 104 "FieldAfterFieldModel" "lots" "I") ∈ tables_1 := List.mem_append_right _ (List.mem_append_right _ (List.mem_append_left _ (List.mem_of_getElem? (i := 75) rfl)))
theorem tw556 : (Cond.fieldLink "FieldAfterFieldModel" 23 "FieldAfterFieldModel" "lotTool" "[I") ∈ tables_1 := List.mem_append_right _ (List.mem_append_right _ (List.mem_append_left _ (List.mem_of_getElem? (i := 76) rfl)))
theorem tw557 : (Cond.fieldLink "FieldAfterFieldModel" 26 "FieldAfterFieldModel" "lotShift" "[I") ∈ tables_1 := List.mem_append_right _ (List.mem_append_right _ (List.mem_append_left _ (List.mem_of_getElem? (i := 77) rfl)))
theorem tw558 : (Cond.fieldLink "FieldAfterFieldModel" 29 "FieldAfterFieldModel" "lotRead" "[I") ∈ tables_1 := List.mem_append_right _ (List.mem_append_right _ (List.mem_append_left _ (List.mem_of_getElem? (i := 78) rfl)))
theorem tw559 : (Cond.fieldLink "FieldAfterFieldModel" 32 "FieldAfterFieldModel" "hasRead" "[Z") ∈ tables_1 := List.mem_append_right _ (List.mem_append_right _ (List.mem_append_left _ (List.mem_of_getElem? (i := 79) rfl)))
theorem tw560 : (Cond.fieldLink "FieldAfterFieldModel" 35 "FieldAfterFieldModel" "mended" "[Z") ∈ tables_1 := List.mem_append_right _ (List.mem_append_right _ (List.mem_append_left _ (List.mem_of_getElem? (i := 80) rfl)))
theorem tw561 : (Cond.fieldLink "FieldAfterFieldModel" 38 "FieldAfterFieldModel" "gain" "I") ∈ tables_1 := List.mem_append_right _ (List.mem_append_right _ (List.mem_append_left _ (List.mem_of_getElem? (i := 81) rfl)))
theorem tw562 : (Cond.fieldLink "FieldAfterFieldModel" 42 "FieldAfterFieldModel" "offsets" "[I") ∈ tables_1 := List.mem_append_right _ (List.mem_append_right _ (List.mem_append_left _ (List.mem_of_getElem? (i := 82) rfl)))
theorem tw563 : (Cond.fieldLink "FieldAfterFieldModel" 45 "FieldAfterFieldModel" "budget" "I") ∈ tables_1 := List.mem_append_right _ (List.mem_append_right _ (List.mem_append_left _ (List.mem_of_getElem? (i := 83) rfl)))
theorem tw564 : (Cond.fieldLink "FieldAfterFieldModel" 48 "FieldAfterFieldModel" "cap" "I") ∈ tables_1 := List.mem_append_right _ (List.mem_append_right _ (List.mem_append_left _ (List.mem_of_getElem? (i := 84) rfl)))
theorem tw565 : (Cond.fieldLink "FieldAfterFieldModel" 51 "FieldAfterFieldModel" "sums" "[J") ∈ tables_1 := List.mem_append_right _ (List.mem_append_right _ (List.mem_append_left _ (List.mem_of_getElem? (i := 85) rfl)))
theorem tw566 : (Cond.fieldLink "FieldAfterFieldModel" 55 "FieldAfterFieldModel" "turned" "[J") ∈ tables_1 := List.mem_append_right _ (List.mem_append_right _ (List.mem_append_left _ (List.mem_of_getElem? (i := 86) rfl)))
theorem tw567 : (Cond.fieldLink "FieldAfterFieldModel" 131 "FieldAfterFieldModel" "det" "J") ∈ tables_1 := List.mem_append_right _ (List.mem_append_right _ (List.mem_append_left _ (List.mem_of_getElem? (i := 87) rfl)))
theorem tw568 : (Cond.fieldLink "FieldAfterFieldModel" 58 "FieldAfterFieldModel" "sides" "[J") ∈ tables_1 := List.mem_append_right _ (List.mem_append_right _ (List.mem_append_left _ (List.mem_of_getElem? (i := 88) rfl)))
theorem tw569 : (Cond.fieldLink "FieldAfterFieldModel" 61 "FieldAfterFieldModel" "factors" "[J") ∈ tables_1 := List.mem_append_right _ (List.mem_append_right _ (List.mem_append_left _ (List.mem_of_getElem? (i := 89) rfl)))
theorem tw570 : (Cond.fieldLink "FieldAfterFieldModel" 64 "FieldAfterFieldModel" "worst" "[J") ∈ tables_1 := List.mem_append_right _ (List.mem_append_right _ (List.mem_append_left _ (List.mem_of_getElem? (i := 90) rfl)))
theorem tw571 : (Cond.fieldLink "FieldAfterFieldModel" 67 "FieldAfterFieldModel" "tools" "[I") ∈ tables_1 := List.mem_append_right _ (List.mem_append_right _ (List.mem_append_left _ (List.mem_of_getElem? (i := 91) rfl)))
theorem tw572 : (Cond.fieldLink "FieldAfterFieldModel" 70 "FieldAfterFieldModel" "loads" "[I") ∈ tables_1 := List.mem_append_right _ (List.mem_append_right _ (List.mem_append_left _ (List.mem_of_getElem? (i := 92) rfl)))
theorem tw573 : (Cond.lays "FieldAfterFieldModel" "FieldAfterFieldModel" "marks" "I") ∈ tables_1 := List.mem_append_right _ (List.mem_append_right _ (List.mem_append_left _ (List.mem_of_getElem? (i := 93) rfl)))
theorem tw574 : (Cond.soleField "FieldAfterFieldModel" "marks") ∈ tables_1 := List.mem_append_right _ (List.mem_append_right _ (List.mem_append_left _ (List.mem_of_getElem? (i := 94) rfl)))
theorem tw575 : (Cond.laysFinal "FieldAfterFieldModel" "FieldAfterFieldModel" "places" "[I") ∈ tables_1 := List.mem_append_right _ (List.mem_append_right _ (List.mem_append_left _ (List.mem_of_getElem? (i := 95) rfl)))
theorem tw576 : (Cond.soleField "FieldAfterFieldModel" "places") ∈ tables_1 := List.mem_append_right _ (List.mem_append_right _ (List.mem_append_left _ (List.mem_of_getElem? (i := 96) rfl)))
theorem tw577 : (Cond.laysFinal "FieldAfterFieldModel" "FieldAfterFieldModel" "reads" "[I") ∈ tables_1 := List.mem_append_right _ (List.mem_append_right _ (List.mem_append_left _ (List.mem_of_getElem? (i := 97) rfl)))
theorem tw578 : (Cond.soleField "FieldAfterFieldModel" "reads") ∈ tables_1 := List.mem_append_right _ (List.mem_append_right _ (List.mem_append_left _ (List.mem_of_getElem? (i := 98) rfl)))
theorem tw579 : (Cond.laysFinal "FieldAfterFieldModel" "FieldAfterFieldModel" "isLost" "[Z") ∈ tables_1 := List.mem_append_right _ (List.mem_append_right _ (List.mem_append_left _ (List.mem_of_getElem? (i := 99) rfl)))
theorem tw580 : (Cond.soleField "FieldAfterFieldModel" "isLost") ∈ tables_1 := List.mem_append_right _ (List.mem_append_right _ (List.mem_append_left _ (List.mem_of_getElem? (i := 100) rfl)))
theorem tw581 : (Cond.laysFinal "FieldAfterFieldModel" "FieldAfterFieldModel" "isOut" "[Z") ∈ tables_1 := List.mem_append_right _ (List.mem_append_right _ (List.mem_append_left _ (List.mem_of_getElem? (i := 101) rfl)))
theorem tw582 : (Cond.soleField "FieldAfterFieldModel" "isOut") ∈ tables_1 := List.mem_append_right _ (List.mem_append_right _ (List.mem_append_left _ (List.mem_of_getElem? (i := 102) rfl)))
theorem tw583 : (Cond.lays "FieldAfterFieldModel" "FieldAfterFieldModel" "lots" "I") ∈ tables_1 := List.mem_append_right _ (List.mem_append_right _ (List.mem_append_left _ (List.mem_of_getElem? (i := 103) rfl)))
theorem tw584 : (Cond.soleField "FieldAfterFieldModel" "lots") ∈ tables_1 := List.mem_append_right _ (List.mem_append_right _ (List.mem_append_left _ (List.mem_of_getElem? (i := 104) rfl)))
theorem tw585 : (Cond.laysFinal "FieldAfterFieldModel" "FieldAfterFieldModel" "lotTool" "[I") ∈ tables_1 := List.mem_append_right _ (List.mem_append_right _ (List.mem_append_left _ (List.mem_of_getElem? (i := 105) rfl)))
theorem tw586 : (Cond.soleField "FieldAfterFieldModel" "lotTool") ∈ tables_1 := List.mem_append_right _ (List.mem_append_right _ (List.mem_append_left _ (List.mem_of_getElem? (i := 106) rfl)))
theorem tw587 : (Cond.laysFinal "FieldAfterFieldModel" "FieldAfterFieldModel" "lotShift" "[I") ∈ tables_1 := List.mem_append_right _ (List.mem_append_right _ (List.mem_append_left _ (List.mem_of_getElem? (i := 107) rfl)))
theorem tw588 : (Cond.soleField "FieldAfterFieldModel" "lotShift") ∈ tables_1 := List.mem_append_right _ (List.mem_append_right _ (List.mem_append_left _ (List.mem_of_getElem? (i := 108) rfl)))
theorem tw589 : (Cond.laysFinal "FieldAfterFieldModel" "FieldAfterFieldModel" "lotRead" "[I") ∈ tables_1 := List.mem_append_right _ (List.mem_append_right _ (List.mem_append_left _ (List.mem_of_getElem? (i := 109) rfl)))
theorem tw590 : (Cond.soleField "FieldAfterFieldModel" "lotRead") ∈ tables_1 := List.mem_append_right _ (List.mem_append_right _ (List.mem_append_left _ (List.mem_of_getElem? (i := 110) rfl)))
theorem tw591 : (Cond.laysFinal "FieldAfterFieldModel" "FieldAfterFieldModel" "hasRead" "[Z") ∈ tables_1 := List.mem_append_right _ (List.mem_append_right _ (List.mem_append_left _ (List.mem_of_getElem? (i := 111) rfl)))
theorem tw592 : (Cond.soleField "FieldAfterFieldModel" "hasRead") ∈ tables_1 := List.mem_append_right _ (List.mem_append_right _ (List.mem_append_left _ (List.mem_of_getElem? (i := 112) rfl)))
theorem tw593 : (Cond.laysFinal "FieldAfterFieldModel" "FieldAfterFieldModel" "mended" "[Z") ∈ tables_1 := List.mem_append_right _ (List.mem_append_right _ (List.mem_append_left _ (List.mem_of_getElem? (i := 113) rfl)))
theorem tw594 : (Cond.soleField "FieldAfterFieldModel" "mended") ∈ tables_1 := List.mem_append_right _ (List.mem_append_right _ (List.mem_append_left _ (List.mem_of_getElem? (i := 114) rfl)))
theorem tw595 : (Cond.lays "FieldAfterFieldModel" "FieldAfterFieldModel" "gain" "I") ∈ tables_1 := List.mem_append_right _ (List.mem_append_right _ (List.mem_append_left _ (List.mem_of_getElem? (i := 115) rfl)))
theorem tw596 : (Cond.soleField "FieldAfterFieldModel" "gain") ∈ tables_1 := List.mem_append_right _ (List.mem_append_right _ (List.mem_append_left _ (List.mem_of_getElem? (i := 116) rfl)))
theorem tw597 : (Cond.laysFinal "FieldAfterFieldModel" "FieldAfterFieldModel" "offsets" "[I") ∈ tables_1 := List.mem_append_right _ (List.mem_append_right _ (List.mem_append_left _ (List.mem_of_getElem? (i := 117) rfl)))
theorem tw598 : (Cond.soleField "FieldAfterFieldModel" "offsets") ∈ tables_1 := List.mem_append_right _ (List.mem_append_right _ (List.mem_append_left _ (List.mem_of_getElem? (i := 118) rfl)))
theorem tw599 : (Cond.lays "FieldAfterFieldModel" "FieldAfterFieldModel" "budget" "I") ∈ tables_1 := List.mem_append_right _ (List.mem_append_right _ (List.mem_append_left _ (List.mem_of_getElem? (i := 119) rfl)))
theorem tw600 : (Cond.soleField "FieldAfterFieldModel" "budget") ∈ tables_1 := List.mem_append_right _ (List.mem_append_right _ (List.mem_append_left _ (List.mem_of_getElem? (i := 120) rfl)))
theorem tw601 : (Cond.lays "FieldAfterFieldModel" "FieldAfterFieldModel" "cap" "I") ∈ tables_1 := List.mem_append_right _ (List.mem_append_right _ (List.mem_append_left _ (List.mem_of_getElem? (i := 121) rfl)))
theorem tw602 : (Cond.soleField "FieldAfterFieldModel" "cap") ∈ tables_1 := List.mem_append_right _ (List.mem_append_right _ (List.mem_append_left _ (List.mem_of_getElem? (i := 122) rfl)))
theorem tw603 : (Cond.laysFinal "FieldAfterFieldModel" "FieldAfterFieldModel" "sums" "[J") ∈ tables_1 := List.mem_append_right _ (List.mem_append_right _ (List.mem_append_left _ (List.mem_of_getElem? (i := 123) rfl)))
theorem tw604 : (Cond.soleField "FieldAfterFieldModel" "sums") ∈ tables_1 := List.mem_append_right _ (List.mem_append_right _ (List.mem_append_left _ (List.mem_of_getElem? (i := 124) rfl)))
theorem tw605 : (Cond.laysFinal "FieldAfterFieldModel" "FieldAfterFieldModel" "turned" "[J") ∈ tables_1 := List.mem_append_right _ (List.mem_append_right _ (List.mem_append_left _ (List.mem_of_getElem? (i := 125) rfl)))
theorem tw606 : (Cond.soleField "FieldAfterFieldModel" "turned") ∈ tables_1 := List.mem_append_right _ (List.mem_append_right _ (List.mem_append_left _ (List.mem_of_getElem? (i := 126) rfl)))
theorem tw607 : (Cond.lays "FieldAfterFieldModel" "FieldAfterFieldModel" "det" "J") ∈ tables_1 := List.mem_append_right _ (List.mem_append_right _ (List.mem_append_left _ (List.mem_of_getElem? (i := 127) rfl)))
theorem tw608 : (Cond.soleField "FieldAfterFieldModel" "det") ∈ tables_1 := List.mem_append_right _ (List.mem_append_right _ (List.mem_append_left _ (List.mem_of_getElem? (i := 128) rfl)))
theorem tw609 : (Cond.laysFinal "FieldAfterFieldModel" "FieldAfterFieldModel" "sides" "[J") ∈ tables_1 := List.mem_append_right _ (List.mem_append_right _ (List.mem_append_left _ (List.mem_of_getElem? (i := 129) rfl)))
theorem tw610 : (Cond.soleField "FieldAfterFieldModel" "sides") ∈ tables_1 := List.mem_append_right _ (List.mem_append_right _ (List.mem_append_left _ (List.mem_of_getElem? (i := 130) rfl)))
theorem tw611 : (Cond.laysFinal "FieldAfterFieldModel" "FieldAfterFieldModel" "factors" "[J") ∈ tables_1 := List.mem_append_right _ (List.mem_append_right _ (List.mem_append_left _ (List.mem_of_getElem? (i := 131) rfl)))
theorem tw612 : (Cond.soleField "FieldAfterFieldModel" "factors") ∈ tables_1 := List.mem_append_right _ (List.mem_append_right _ (List.mem_append_left _ (List.mem_of_getElem? (i := 132) rfl)))
theorem tw613 : (Cond.laysFinal "FieldAfterFieldModel" "FieldAfterFieldModel" "worst" "[J") ∈ tables_1 := List.mem_append_right _ (List.mem_append_right _ (List.mem_append_left _ (List.mem_of_getElem? (i := 133) rfl)))
theorem tw614 : (Cond.soleField "FieldAfterFieldModel" "worst") ∈ tables_1 := List.mem_append_right _ (List.mem_append_right _ (List.mem_append_left _ (List.mem_of_getElem? (i := 134) rfl)))
theorem tw615 : (Cond.laysFinal "FieldAfterFieldModel" "FieldAfterFieldModel" "tools" "[I") ∈ tables_1 := List.mem_append_right _ (List.mem_append_right _ (List.mem_append_left _ (List.mem_of_getElem? (i := 135) rfl)))
theorem tw616 : (Cond.soleField "FieldAfterFieldModel" "tools") ∈ tables_1 := List.mem_append_right _ (List.mem_append_right _ (List.mem_append_left _ (List.mem_of_getElem? (i := 136) rfl)))
theorem tw617 : (Cond.laysFinal "FieldAfterFieldModel" "FieldAfterFieldModel" "loads" "[I") ∈ tables_1 := List.mem_append_right _ (List.mem_append_right _ (List.mem_append_left _ (List.mem_of_getElem? (i := 137) rfl)))
theorem tw618 : (Cond.soleField "FieldAfterFieldModel" "loads") ∈ tables_1 := List.mem_append_right _ (List.mem_append_right _ (List.mem_append_left _ (List.mem_of_getElem? (i := 138) rfl)))
theorem tw619 : (Cond.superclass "FieldAfterFieldModel" "java/lang/Object") ∈ tables_1 := List.mem_append_right _ (List.mem_append_right _ (List.mem_append_left _ (List.mem_of_getElem? (i := 139) rfl)))
theorem tw620 : (Cond.methodLink "FieldAfterFieldLaw" 17 ⟨"FieldAfterFieldModel", "mark", "(IIII)I"⟩) ∈ tables_1 := List.mem_append_right _ (List.mem_append_right _ (List.mem_append_left _ (List.mem_of_getElem? (i := 140) rfl)))
theorem tw621 : (Cond.instanceMethod ⟨"FieldAfterFieldModel", "mark", "(IIII)I"⟩) ∈ tables_1 := List.mem_append_right _ (List.mem_append_right _ (List.mem_append_left _ (List.mem_of_getElem? (i := 141) rfl)))
theorem tw622 : (Cond.selects "FieldAfterFieldModel" ⟨"FieldAfterFieldModel", "mark", "(IIII)I"⟩ ⟨"FieldAfterFieldModel", "mark", "(IIII)I"⟩) ∈ tables_1 := List.mem_append_right _ (List.mem_append_right _ (List.mem_append_left _ (List.mem_of_getElem? (i := 142) rfl)))
theorem tw623 : (Cond.code ⟨"FieldAfterFieldModel", "mark", "(IIII)I"⟩ prog_9_method_4_code 5 (some .int)) ∈ tables_1 := List.mem_append_right _ (List.mem_append_right _ (List.mem_append_left _ (List.mem_of_getElem? (i := 143) rfl)))
theorem tw624 : (Cond.constantLong "FieldAfterFieldModel" 73 (-5)) ∈ tables_1 := List.mem_append_right _ (List.mem_append_right _ (List.mem_append_left _ (List.mem_of_getElem? (i := 144) rfl)))
theorem tw625 : (Cond.constantLong "FieldAfterFieldModel" 75 (5)) ∈ tables_1 := List.mem_append_right _ (List.mem_append_right _ (List.mem_append_left _ (List.mem_of_getElem? (i := 145) rfl)))
theorem tw626 : (Cond.methodLink "FieldAfterFieldModel" 77 ⟨"FieldAfterFieldModel", "in", "(JJJ)Z"⟩) ∈ tables_1 := List.mem_append_right _ (List.mem_append_right _ (List.mem_append_left _ (List.mem_of_getElem? (i := 146) rfl)))
theorem tw627 : (Cond.static ⟨"FieldAfterFieldModel", "in", "(JJJ)Z"⟩) ∈ tables_1 := List.mem_append_right _ (List.mem_append_right _ (List.mem_append_left _ (List.mem_of_getElem? (i := 147) rfl)))
theorem tw628 : (Cond.code ⟨"FieldAfterFieldModel", "in", "(JJJ)Z"⟩ prog_9_method_3_code 6 (some .boolean)) ∈ tables_1 := List.mem_append_right _ (List.mem_append_right _ (List.mem_append_left _ (List.mem_of_getElem? (i := 148) rfl)))
theorem tw629 : (Cond.constantLong "FieldAfterFieldModel" 81 (-3)) ∈ tables_1 := List.mem_append_right _ (List.mem_append_right _ (List.mem_append_left _ (List.mem_of_getElem? (i := 149) rfl)))
theorem tw630 : (Cond.constantLong "FieldAfterFieldModel" 83 (3)) ∈ tables_1 := List.mem_append_right _ (List.mem_append_right _ (List.mem_append_left _ (List.mem_of_getElem? (i := 150) rfl)))
theorem tw631 : (Cond.constant "FieldAfterFieldModel" 85 (-100002)) ∈ tables_1 := List.mem_append_right _ (List.mem_append_right _ (List.mem_append_left _ (List.mem_of_getElem? (i := 151) rfl)))
theorem tw632 : (Cond.constant "FieldAfterFieldModel" 89 (-100004)) ∈ tables_1 := List.mem_append_right _ (List.mem_append_right _ (List.mem_append_left _ (List.mem_of_getElem? (i := 152) rfl)))
theorem tw633 : (Cond.methodLink "FieldAfterFieldLaw" 22 ⟨"FieldAfterFieldModel", "read", "(III)I"⟩) ∈ tables_1 := List.mem_append_right _ (List.mem_append_right _ (List.mem_append_left _ (List.mem_of_getElem? (i := 153) rfl)))
theorem tw634 : (Cond.instanceMethod ⟨"FieldAfterFieldModel", "read", "(III)I"⟩) ∈ tables_1 := List.mem_append_right _ (List.mem_append_right _ (List.mem_append_left _ (List.mem_of_getElem? (i := 154) rfl)))
theorem tw635 : (Cond.selects "FieldAfterFieldModel" ⟨"FieldAfterFieldModel", "read", "(III)I"⟩ ⟨"FieldAfterFieldModel", "read", "(III)I"⟩) ∈ tables_1 := List.mem_append_right _ (List.mem_append_right _ (List.mem_append_left _ (List.mem_of_getElem? (i := 155) rfl)))
theorem tw636 : (Cond.code ⟨"FieldAfterFieldModel", "read", "(III)I"⟩ prog_9_method_6_code 4 (some .int)) ∈ tables_1 := List.mem_append_right _ (List.mem_append_right _ (List.mem_append_left _ (List.mem_of_getElem? (i := 156) rfl)))
theorem tw637 : (Cond.methodLink "FieldAfterFieldModel" 90 ⟨"FieldAfterFieldModel", "isMark", "(I)Z"⟩) ∈ tables_1 := List.mem_append_right _ (List.mem_append_right _ (List.mem_append_left _ (List.mem_of_getElem? (i := 157) rfl)))
theorem tw638 : (Cond.privateMethod ⟨"FieldAfterFieldModel", "isMark", "(I)Z"⟩) ∈ tables_1 := List.mem_append_right _ (List.mem_append_right _ (List.mem_append_left _ (List.mem_of_getElem? (i := 158) rfl)))
theorem tw639 : (Cond.instanceMethod ⟨"FieldAfterFieldModel", "isMark", "(I)Z"⟩) ∈ tables_1 := List.mem_append_right _ (List.mem_append_right _ (List.mem_append_left _ (List.mem_of_getElem? (i := 159) rfl)))
theorem tw640 : (Cond.code ⟨"FieldAfterFieldModel", "isMark", "(I)Z"⟩ prog_9_method_5_code 2 (some .boolean)) ∈ tables_1 := List.mem_append_right _ (List.mem_append_right _ (List.mem_append_left _ (List.mem_of_getElem? (i := 160) rfl)))
theorem tw641 : (Cond.constant "FieldAfterFieldModel" 94 (-100001)) ∈ tables_1 := List.mem_append_right _ (List.mem_append_right _ (List.mem_append_left _ (List.mem_of_getElem? (i := 161) rfl)))
theorem tw642 : (Cond.constantLong "FieldAfterFieldModel" 95 (-999)) ∈ tables_1 := List.mem_append_right _ (List.mem_append_right _ (List.mem_append_left _ (List.mem_of_getElem? (i := 162) rfl)))
theorem tw643 : (Cond.constantLong "FieldAfterFieldModel" 97 (999)) ∈ tables_1 := List.mem_append_right _ (List.mem_append_right _ (List.mem_append_left _ (List.mem_of_getElem? (i := 163) rfl)))
theorem tw644 : (Cond.methodLink "FieldAfterFieldLaw" 27 ⟨"FieldAfterFieldModel", "lose", "(I)I"⟩) ∈ tables_1 := List.mem_append_right _ (List.mem_append_right _ (List.mem_append_left _ (List.mem_of_getElem? (i := 164) rfl)))
theorem tw645 : (Cond.instanceMethod ⟨"FieldAfterFieldModel", "lose", "(I)I"⟩) ∈ tables_1 := List.mem_append_right _ (List.mem_append_right _ (List.mem_append_left _ (List.mem_of_getElem? (i := 165) rfl)))
theorem tw646 : (Cond.selects "FieldAfterFieldModel" ⟨"FieldAfterFieldModel", "lose", "(I)I"⟩ ⟨"FieldAfterFieldModel", "lose", "(I)I"⟩) ∈ tables_1 := List.mem_append_right _ (List.mem_append_right _ (List.mem_append_left _ (List.mem_of_getElem? (i := 166) rfl)))
theorem tw647 : (Cond.code ⟨"FieldAfterFieldModel", "lose", "(I)I"⟩ prog_9_method_7_code 3 (some .int)) ∈ tables_1 := List.mem_append_right _ (List.mem_append_right _ (List.mem_append_left _ (List.mem_of_getElem? (i := 167) rfl)))
theorem tw648 : (Cond.methodLink "FieldAfterFieldLaw" 32 ⟨"FieldAfterFieldModel", "told", "(II)I"⟩) ∈ tables_1 := List.mem_append_right _ (List.mem_append_right _ (List.mem_append_left _ (List.mem_of_getElem? (i := 168) rfl)))
theorem tw649 : (Cond.instanceMethod ⟨"FieldAfterFieldModel", "told", "(II)I"⟩) ∈ tables_1 := List.mem_append_right _ (List.mem_append_right _ (List.mem_append_left _ (List.mem_of_getElem? (i := 169) rfl)))
theorem tw650 : (Cond.selects "FieldAfterFieldModel" ⟨"FieldAfterFieldModel", "told", "(II)I"⟩ ⟨"FieldAfterFieldModel", "told", "(II)I"⟩) ∈ tables_1 := List.mem_append_right _ (List.mem_append_right _ (List.mem_append_left _ (List.mem_of_getElem? (i := 170) rfl)))
theorem tw651 : (Cond.code ⟨"FieldAfterFieldModel", "told", "(II)I"⟩ prog_9_method_8_code 3 (some .int)) ∈ tables_1 := List.mem_append_right _ (List.mem_append_right _ (List.mem_append_left _ (List.mem_of_getElem? (i := 171) rfl)))
theorem tw652 : (Cond.constantLong "FieldAfterFieldModel" 99 (7)) ∈ tables_1 := List.mem_append_right _ (List.mem_append_right _ (List.mem_append_left _ (List.mem_of_getElem? (i := 172) rfl)))
theorem tw653 : (Cond.methodLink "FieldAfterFieldLaw" 36 ⟨"FieldAfterFieldModel", "count", "(I)I"⟩) ∈ tables_1 := List.mem_append_right _ (List.mem_append_right _ (List.mem_append_left _ (List.mem_of_getElem? (i := 173) rfl)))
theorem tw654 : (Cond.instanceMethod ⟨"FieldAfterFieldModel", "count", "(I)I"⟩) ∈ tables_1 := List.mem_append_right _ (List.mem_append_right _ (List.mem_append_left _ (List.mem_of_getElem? (i := 174) rfl)))
theorem tw655 : (Cond.selects "FieldAfterFieldModel" ⟨"FieldAfterFieldModel", "count", "(I)I"⟩ ⟨"FieldAfterFieldModel", "count", "(I)I"⟩) ∈ tables_1 := List.mem_append_right _ (List.mem_append_right _ (List.mem_append_left _ (List.mem_of_getElem? (i := 175) rfl)))
theorem tw656 : (Cond.code ⟨"FieldAfterFieldModel", "count", "(I)I"⟩ prog_9_method_13_code 6 (some .int)) ∈ tables_1 := List.mem_append_right _ (List.mem_append_right _ (List.mem_append_left _ (List.mem_of_getElem? (i := 176) rfl)))
theorem tw657 : (Cond.methodLink "FieldAfterFieldModel" 107 ⟨"FieldAfterFieldModel", "counting", "()I"⟩) ∈ tables_1 := List.mem_append_right _ (List.mem_append_right _ (List.mem_append_left _ (List.mem_of_getElem? (i := 177) rfl)))
theorem tw658 : (Cond.privateMethod ⟨"FieldAfterFieldModel", "counting", "()I"⟩) ∈ tables_1 := List.mem_append_right _ (List.mem_append_right _ (List.mem_append_left _ (List.mem_of_getElem? (i := 178) rfl)))
theorem tw659 : (Cond.instanceMethod ⟨"FieldAfterFieldModel", "counting", "()I"⟩) ∈ tables_1 := List.mem_append_right _ (List.mem_append_right _ (List.mem_append_left _ (List.mem_of_getElem? (i := 179) rfl)))
theorem tw660 : (Cond.code ⟨"FieldAfterFieldModel", "counting", "()I"⟩ prog_9_method_10_code 3 (some .int)) ∈ tables_1 := List.mem_append_right _ (List.mem_append_right _ (List.mem_append_left _ (List.mem_of_getElem? (i := 180) rfl)))
theorem tw661 : (Cond.methodLink "FieldAfterFieldModel" 101 ⟨"FieldAfterFieldModel", "counts", "(I)Z"⟩) ∈ tables_1 := List.mem_append_right _ (List.mem_append_right _ (List.mem_append_left _ (List.mem_of_getElem? (i := 181) rfl)))
theorem tw662 : (Cond.privateMethod ⟨"FieldAfterFieldModel", "counts", "(I)Z"⟩) ∈ tables_1 := List.mem_append_right _ (List.mem_append_right _ (List.mem_append_left _ (List.mem_of_getElem? (i := 182) rfl)))
theorem tw663 : (Cond.instanceMethod ⟨"FieldAfterFieldModel", "counts", "(I)Z"⟩) ∈ tables_1 := List.mem_append_right _ (List.mem_append_right _ (List.mem_append_left _ (List.mem_of_getElem? (i := 183) rfl)))
theorem tw664 : (Cond.code ⟨"FieldAfterFieldModel", "counts", "(I)Z"⟩ prog_9_method_9_code 2 (some .boolean)) ∈ tables_1 := List.mem_append_right _ (List.mem_append_right _ (List.mem_append_left _ (List.mem_of_getElem? (i := 184) rfl)))
theorem tw665 : (Cond.methodLink "FieldAfterFieldModel" 111 ⟨"FieldAfterFieldModel", "bits", "(I)I"⟩) ∈ tables_1 := List.mem_append_right _ (List.mem_append_right _ (List.mem_append_left _ (List.mem_of_getElem? (i := 185) rfl)))
theorem tw666 : (Cond.static ⟨"FieldAfterFieldModel", "bits", "(I)I"⟩) ∈ tables_1 := List.mem_append_right _ (List.mem_append_right _ (List.mem_append_left _ (List.mem_of_getElem? (i := 186) rfl)))
theorem tw667 : (Cond.code ⟨"FieldAfterFieldModel", "bits", "(I)I"⟩ prog_9_method_11_code 3 (some .int)) ∈ tables_1 := List.mem_append_right _ (List.mem_append_right _ (List.mem_append_left _ (List.mem_of_getElem? (i := 187) rfl)))
theorem tw668 : (Cond.methodLink "FieldAfterFieldModel" 115 ⟨"FieldAfterFieldModel", "fieldsOf", "(I)I"⟩) ∈ tables_1 := List.mem_append_right _ (List.mem_append_right _ (List.mem_append_left _ (List.mem_of_getElem? (i := 188) rfl)))
theorem tw669 : (Cond.privateMethod ⟨"FieldAfterFieldModel", "fieldsOf", "(I)I"⟩) ∈ tables_1 := List.mem_append_right _ (List.mem_append_right _ (List.mem_append_left _ (List.mem_of_getElem? (i := 189) rfl)))
theorem tw670 : (Cond.instanceMethod ⟨"FieldAfterFieldModel", "fieldsOf", "(I)I"⟩) ∈ tables_1 := List.mem_append_right _ (List.mem_append_right _ (List.mem_append_left _ (List.mem_of_getElem? (i := 190) rfl)))
theorem tw671 : (Cond.code ⟨"FieldAfterFieldModel", "fieldsOf", "(I)I"⟩ prog_9_method_12_code 6 (some .int)) ∈ tables_1 := List.mem_append_right _ (List.mem_append_right _ (List.mem_append_left _ (List.mem_of_getElem? (i := 191) rfl)))
theorem tw672 : (Cond.methodLink "FieldAfterFieldLaw" 41 ⟨"FieldAfterFieldModel", "det", "(I)J"⟩) ∈ tables_1 := List.mem_append_right _ (List.mem_append_right _ (List.mem_append_left _ (List.mem_of_getElem? (i := 192) rfl)))
theorem tw673 : (Cond.instanceMethod ⟨"FieldAfterFieldModel", "det", "(I)J"⟩) ∈ tables_1 := List.mem_append_right _ (List.mem_append_right _ (List.mem_append_left _ (List.mem_of_getElem? (i := 193) rfl)))
theorem tw674 : (Cond.selects "FieldAfterFieldModel" ⟨"FieldAfterFieldModel", "det", "(I)J"⟩ ⟨"FieldAfterFieldModel", "det", "(I)J"⟩) ∈ tables_1 := List.mem_append_right _ (List.mem_append_right _ (List.mem_append_left _ (List.mem_of_getElem? (i := 194) rfl)))
theorem tw675 : (Cond.code ⟨"FieldAfterFieldModel", "det", "(I)J"⟩ prog_9_method_19_code 2 (some .long)) ∈ tables_1 := List.mem_append_right _ (List.mem_append_right _ (List.mem_append_left _ (List.mem_of_getElem? (i := 195) rfl)))
theorem tw676 : (Cond.methodLink "FieldAfterFieldModel" 135 ⟨"FieldAfterFieldModel", "isModel", "(I)Z"⟩) ∈ tables_1 := List.mem_append_right _ (List.mem_append_right _ (List.mem_append_left _ (List.mem_of_getElem? (i := 196) rfl)))
theorem tw677 : (Cond.static ⟨"FieldAfterFieldModel", "isModel", "(I)Z"⟩) ∈ tables_1 := List.mem_append_right _ (List.mem_append_right _ (List.mem_append_left _ (List.mem_of_getElem? (i := 197) rfl)))
theorem tw678 : (Cond.code ⟨"FieldAfterFieldModel", "isModel", "(I)Z"⟩ prog_9_method_14_code 1 (some .boolean)) ∈ tables_1 := List.mem_append_right _ (List.mem_append_right _ (List.mem_append_left _ (List.mem_of_getElem? (i := 198) rfl)))
theorem tw679 : (Cond.constantLong "FieldAfterFieldModel" 118 (2)) ∈ tables_1 := List.mem_append_right _ (List.mem_append_right _ (List.mem_append_left _ (List.mem_of_getElem? (i := 199) rfl)))
theorem tw680 : (Cond.constantLong "FieldAfterFieldModel" 138 (-100002)) ∈ tables_1 := List.mem_append_right _ (List.mem_append_right _ (List.mem_append_left _ (List.mem_of_getElem? (i := 200) rfl)))
theorem tw681 : (Cond.methodLink "FieldAfterFieldModel" 140 ⟨"FieldAfterFieldModel", "lay", "(II)V"⟩) ∈ tables_1 := List.mem_append_right _ (List.mem_append_right _ (List.mem_append_left _ (List.mem_of_getElem? (i := 201) rfl)))
theorem tw682 : (Cond.privateMethod ⟨"FieldAfterFieldModel", "lay", "(II)V"⟩) ∈ tables_1 := List.mem_append_right _ (List.mem_append_right _ (List.mem_append_left _ (List.mem_of_getElem? (i := 202) rfl)))
theorem tw683 : (Cond.instanceMethod ⟨"FieldAfterFieldModel", "lay", "(II)V"⟩) ∈ tables_1 := List.mem_append_right _ (List.mem_append_right _ (List.mem_append_left _ (List.mem_of_getElem? (i := 203) rfl)))
theorem tw684 : (Cond.code ⟨"FieldAfterFieldModel", "lay", "(II)V"⟩ prog_9_method_18_code 6 (none : Option Jvm.ClassFile.FieldType)) ∈ tables_1 := List.mem_append_right _ (List.mem_append_right _ (List.mem_append_left _ (List.mem_of_getElem? (i := 204) rfl)))
theorem tw685 : (Cond.methodLink "FieldAfterFieldModel" 120 ⟨"FieldAfterFieldModel", "termsOf", "(I)I"⟩) ∈ tables_1 := List.mem_append_right _ (List.mem_append_right _ (List.mem_append_left _ (List.mem_of_getElem? (i := 205) rfl)))
theorem tw686 : (Cond.static ⟨"FieldAfterFieldModel", "termsOf", "(I)I"⟩) ∈ tables_1 := List.mem_append_right _ (List.mem_append_right _ (List.mem_append_left _ (List.mem_of_getElem? (i := 206) rfl)))
theorem tw687 : (Cond.code ⟨"FieldAfterFieldModel", "termsOf", "(I)I"⟩ prog_9_method_15_code 1 (some .int)) ∈ tables_1 := List.mem_append_right _ (List.mem_append_right _ (List.mem_append_left _ (List.mem_of_getElem? (i := 207) rfl)))
theorem tw688 : (Cond.methodLink "FieldAfterFieldModel" 123 ⟨"FieldAfterFieldModel", "term", "(III)J"⟩) ∈ tables_1 := List.mem_append_right _ (List.mem_append_right _ (List.mem_append_left _ (List.mem_of_getElem? (i := 208) rfl)))
theorem tw689 : (Cond.privateMethod ⟨"FieldAfterFieldModel", "term", "(III)J"⟩) ∈ tables_1 := List.mem_append_right _ (List.mem_append_right _ (List.mem_append_left _ (List.mem_of_getElem? (i := 209) rfl)))
theorem tw690 : (Cond.instanceMethod ⟨"FieldAfterFieldModel", "term", "(III)J"⟩) ∈ tables_1 := List.mem_append_right _ (List.mem_append_right _ (List.mem_append_left _ (List.mem_of_getElem? (i := 210) rfl)))
theorem tw691 : (Cond.code ⟨"FieldAfterFieldModel", "term", "(III)J"⟩ prog_9_method_16_code 4 (some .long)) ∈ tables_1 := List.mem_append_right _ (List.mem_append_right _ (List.mem_append_left _ (List.mem_of_getElem? (i := 211) rfl)))
theorem tw692 : (Cond.methodLink "FieldAfterFieldModel" 127 ⟨"FieldAfterFieldModel", "minor", "(II)J"⟩) ∈ tables_1 := List.mem_append_right _ (List.mem_append_right _ (List.mem_append_left _ (List.mem_of_getElem? (i := 212) rfl)))
theorem tw693 : (Cond.privateMethod ⟨"FieldAfterFieldModel", "minor", "(II)J"⟩) ∈ tables_1 := List.mem_append_right _ (List.mem_append_right _ (List.mem_append_left _ (List.mem_of_getElem? (i := 213) rfl)))
theorem tw694 : (Cond.instanceMethod ⟨"FieldAfterFieldModel", "minor", "(II)J"⟩) ∈ tables_1 := List.mem_append_right _ (List.mem_append_right _ (List.mem_append_left _ (List.mem_of_getElem? (i := 214) rfl)))
theorem tw695 : (Cond.code ⟨"FieldAfterFieldModel", "minor", "(II)J"⟩ prog_9_method_17_code 7 (some .long)) ∈ tables_1 := List.mem_append_right _ (List.mem_append_right _ (List.mem_append_left _ (List.mem_of_getElem? (i := 215) rfl)))
theorem tw696 : (Cond.methodLink "FieldAfterFieldLaw" 46 ⟨"FieldAfterFieldModel", "fit", "(IIII)J"⟩) ∈ tables_1 := List.mem_append_right _ (List.mem_append_right _ (List.mem_append_left _ (List.mem_of_getElem? (i := 216) rfl)))
theorem tw697 : (Cond.instanceMethod ⟨"FieldAfterFieldModel", "fit", "(IIII)J"⟩) ∈ tables_1 := List.mem_append_right _ (List.mem_append_right _ (List.mem_append_left _ (List.mem_of_getElem? (i := 217) rfl)))
theorem tw698 : (Cond.selects "FieldAfterFieldModel" ⟨"FieldAfterFieldModel", "fit", "(IIII)J"⟩ ⟨"FieldAfterFieldModel", "fit", "(IIII)J"⟩) ∈ tables_1 := List.mem_append_right _ (List.mem_append_right _ (List.mem_append_left _ (List.mem_of_getElem? (i := 218) rfl)))
theorem tw699 : (Cond.code ⟨"FieldAfterFieldModel", "fit", "(IIII)J"⟩ prog_9_method_24_code 5 (some .long)) ∈ tables_1 := List.mem_append_right _ (List.mem_append_right _ (List.mem_append_left _ (List.mem_of_getElem? (i := 219) rfl)))
theorem tw700 : (Cond.methodLink "FieldAfterFieldModel" 148 ⟨"FieldAfterFieldModel", "findFit", "(III)V"⟩) ∈ tables_1 := List.mem_append_right _ (List.mem_append_right _ (List.mem_append_left _ (List.mem_of_getElem? (i := 220) rfl)))
theorem tw701 : (Cond.privateMethod ⟨"FieldAfterFieldModel", "findFit", "(III)V"⟩) ∈ tables_1 := List.mem_append_right _ (List.mem_append_right _ (List.mem_append_left _ (List.mem_of_getElem? (i := 221) rfl)))
theorem tw702 : (Cond.instanceMethod ⟨"FieldAfterFieldModel", "findFit", "(III)V"⟩) ∈ tables_1 := List.mem_append_right _ (List.mem_append_right _ (List.mem_append_left _ (List.mem_of_getElem? (i := 222) rfl)))
theorem tw703 : (Cond.code ⟨"FieldAfterFieldModel", "findFit", "(III)V"⟩ prog_9_method_20_code 7 (none : Option Jvm.ClassFile.FieldType)) ∈ tables_1 := List.mem_append_right _ (List.mem_append_right _ (List.mem_append_left _ (List.mem_of_getElem? (i := 223) rfl)))
theorem tw704 : (Cond.constantLong "FieldAfterFieldModel" 152 (-100003)) ∈ tables_1 := List.mem_append_right _ (List.mem_append_right _ (List.mem_append_left _ (List.mem_of_getElem? (i := 224) rfl)))
theorem tw705 : (Cond.methodLink "FieldAfterFieldModel" 154 ⟨"FieldAfterFieldModel", "share", "(JJI)J"⟩) ∈ tables_1 := List.mem_append_right _ (List.mem_append_right _ (List.mem_append_left _ (List.mem_of_getElem? (i := 225) rfl)))
theorem tw706 : (Cond.static ⟨"FieldAfterFieldModel", "share", "(JJI)J"⟩) ∈ tables_1 := List.mem_append_right _ (List.mem_append_right _ (List.mem_append_left _ (List.mem_of_getElem? (i := 226) rfl)))
theorem tw707 : (Cond.code ⟨"FieldAfterFieldModel", "share", "(JJI)J"⟩ prog_9_method_23_code 11 (some .long)) ∈ tables_1 := List.mem_append_right _ (List.mem_append_right _ (List.mem_append_left _ (List.mem_of_getElem? (i := 227) rfl)))
theorem tw708 : (Cond.methodLink "FieldAfterFieldModel" 144 ⟨"FieldAfterFieldModel", "size", "(J)J"⟩) ∈ tables_1 := List.mem_append_right _ (List.mem_append_right _ (List.mem_append_left _ (List.mem_of_getElem? (i := 228) rfl)))
theorem tw709 : (Cond.static ⟨"FieldAfterFieldModel", "size", "(J)J"⟩) ∈ tables_1 := List.mem_append_right _ (List.mem_append_right _ (List.mem_append_left _ (List.mem_of_getElem? (i := 229) rfl)))
theorem tw710 : (Cond.code ⟨"FieldAfterFieldModel", "size", "(J)J"⟩ prog_9_method_22_code 2 (some .long)) ∈ tables_1 := List.mem_append_right _ (List.mem_append_right _ (List.mem_append_left _ (List.mem_of_getElem? (i := 230) rfl)))
theorem tw711 : (Cond.methodLink "FieldAfterFieldLaw" 50 ⟨"FieldAfterFieldModel", "rest", "(IIII)J"⟩) ∈ tables_1 := List.mem_append_right _ (List.mem_append_right _ (List.mem_append_left _ (List.mem_of_getElem? (i := 231) rfl)))
theorem tw712 : (Cond.instanceMethod ⟨"FieldAfterFieldModel", "rest", "(IIII)J"⟩) ∈ tables_1 := List.mem_append_right _ (List.mem_append_right _ (List.mem_append_left _ (List.mem_of_getElem? (i := 232) rfl)))
theorem tw713 : (Cond.selects "FieldAfterFieldModel" ⟨"FieldAfterFieldModel", "rest", "(IIII)J"⟩ ⟨"FieldAfterFieldModel", "rest", "(IIII)J"⟩) ∈ tables_1 := List.mem_append_right _ (List.mem_append_right _ (List.mem_append_left _ (List.mem_of_getElem? (i := 233) rfl)))
theorem tw714 : (Cond.code ⟨"FieldAfterFieldModel", "rest", "(IIII)J"⟩ prog_9_method_25_code 5 (some .long)) ∈ tables_1 := List.mem_append_right _ (List.mem_append_right _ (List.mem_append_left _ (List.mem_of_getElem? (i := 234) rfl)))
theorem tw715 : (Cond.constantLong "FieldAfterFieldModel" 158 (-100001)) ∈ tables_1 := List.mem_append_right _ (List.mem_append_right _ (List.mem_append_left _ (List.mem_of_getElem? (i := 235) rfl)))
theorem tw716 : (Cond.methodLink "FieldAfterFieldModel" 160 ⟨"FieldAfterFieldModel", "restOf", "(III)J"⟩) ∈ tables_1 := List.mem_append_right _ (List.mem_append_right _ (List.mem_append_left _ (List.mem_of_getElem? (i := 236) rfl)))
theorem tw717 : (Cond.privateMethod ⟨"FieldAfterFieldModel", "restOf", "(III)J"⟩) ∈ tables_1 := List.mem_append_right _ (List.mem_append_right _ (List.mem_append_left _ (List.mem_of_getElem? (i := 237) rfl)))
theorem tw718 : (Cond.instanceMethod ⟨"FieldAfterFieldModel", "restOf", "(III)J"⟩) ∈ tables_1 := List.mem_append_right _ (List.mem_append_right _ (List.mem_append_left _ (List.mem_of_getElem? (i := 238) rfl)))
theorem tw719 : (Cond.code ⟨"FieldAfterFieldModel", "restOf", "(III)J"⟩ prog_9_method_21_code 7 (some .long)) ∈ tables_1 := List.mem_append_right _ (List.mem_append_right _ (List.mem_append_left _ (List.mem_of_getElem? (i := 239) rfl)))
theorem tw720 : (Cond.methodLink "FieldAfterFieldLaw" 55 ⟨"FieldAfterFieldModel", "spread", "(III)J"⟩) ∈ tables_1 := List.mem_append_right _ (List.mem_append_right _ (List.mem_append_right _ (List.mem_of_getElem? (i := 0) rfl)))
theorem tw721 : (Cond.instanceMethod ⟨"FieldAfterFieldModel", "spread", "(III)J"⟩) ∈ tables_1 := List.mem_append_right _ (List.mem_append_right _ (List.mem_append_right _ (List.mem_of_getElem? (i := 1) rfl)))
theorem tw722 : (Cond.selects "FieldAfterFieldModel" ⟨"FieldAfterFieldModel", "spread", "(III)J"⟩ ⟨"FieldAfterFieldModel", "spread", "(III)J"⟩) ∈ tables_1 := List.mem_append_right _ (List.mem_append_right _ (List.mem_append_right _ (List.mem_of_getElem? (i := 2) rfl)))
theorem tw723 : (Cond.code ⟨"FieldAfterFieldModel", "spread", "(III)J"⟩ prog_9_method_26_code 9 (some .long)) ∈ tables_1 := List.mem_append_right _ (List.mem_append_right _ (List.mem_append_right _ (List.mem_of_getElem? (i := 3) rfl)))
theorem tw724 : (Cond.methodLink "FieldAfterFieldLaw" 59 ⟨"FieldAfterFieldModel", "judge", "(II)I"⟩) ∈ tables_1 := List.mem_append_right _ (List.mem_append_right _ (List.mem_append_right _ (List.mem_of_getElem? (i := 4) rfl)))
theorem tw725 : (Cond.instanceMethod ⟨"FieldAfterFieldModel", "judge", "(II)I"⟩) ∈ tables_1 := List.mem_append_right _ (List.mem_append_right _ (List.mem_append_right _ (List.mem_of_getElem? (i := 5) rfl)))
theorem tw726 : (Cond.selects "FieldAfterFieldModel" ⟨"FieldAfterFieldModel", "judge", "(II)I"⟩ ⟨"FieldAfterFieldModel", "judge", "(II)I"⟩) ∈ tables_1 := List.mem_append_right _ (List.mem_append_right _ (List.mem_append_right _ (List.mem_of_getElem? (i := 6) rfl)))
theorem tw727 : (Cond.code ⟨"FieldAfterFieldModel", "judge", "(II)I"⟩ prog_9_method_28_code 8 (some .int)) ∈ tables_1 := List.mem_append_right _ (List.mem_append_right _ (List.mem_append_right _ (List.mem_of_getElem? (i := 7) rfl)))
theorem tw728 : (Cond.constant "FieldAfterFieldModel" 165 (-100003)) ∈ tables_1 := List.mem_append_right _ (List.mem_append_right _ (List.mem_append_right _ (List.mem_of_getElem? (i := 8) rfl)))
theorem tw729 : (Cond.methodLink "FieldAfterFieldModel" 166 ⟨"FieldAfterFieldModel", "findWorst", "(II)V"⟩) ∈ tables_1 := List.mem_append_right _ (List.mem_append_right _ (List.mem_append_right _ (List.mem_of_getElem? (i := 9) rfl)))
theorem tw730 : (Cond.privateMethod ⟨"FieldAfterFieldModel", "findWorst", "(II)V"⟩) ∈ tables_1 := List.mem_append_right _ (List.mem_append_right _ (List.mem_append_right _ (List.mem_of_getElem? (i := 10) rfl)))
theorem tw731 : (Cond.instanceMethod ⟨"FieldAfterFieldModel", "findWorst", "(II)V"⟩) ∈ tables_1 := List.mem_append_right _ (List.mem_append_right _ (List.mem_append_right _ (List.mem_of_getElem? (i := 11) rfl)))
theorem tw732 : (Cond.code ⟨"FieldAfterFieldModel", "findWorst", "(II)V"⟩ prog_9_method_27_code 7 (none : Option Jvm.ClassFile.FieldType)) ∈ tables_1 := List.mem_append_right _ (List.mem_append_right _ (List.mem_append_right _ (List.mem_of_getElem? (i := 12) rfl)))
theorem tw733 : (Cond.constantLong "FieldAfterFieldModel" 163 (-1)) ∈ tables_1 := List.mem_append_right _ (List.mem_append_right _ (List.mem_append_right _ (List.mem_of_getElem? (i := 13) rfl)))
theorem tw734 : (Cond.methodLink "FieldAfterFieldLaw" 63 ⟨"FieldAfterFieldModel", "plan", "(III)J"⟩) ∈ tables_1 := List.mem_append_right _ (List.mem_append_right _ (List.mem_append_right _ (List.mem_of_getElem? (i := 14) rfl)))
theorem tw735 : (Cond.instanceMethod ⟨"FieldAfterFieldModel", "plan", "(III)J"⟩) ∈ tables_1 := List.mem_append_right _ (List.mem_append_right _ (List.mem_append_right _ (List.mem_of_getElem? (i := 15) rfl)))
theorem tw736 : (Cond.selects "FieldAfterFieldModel" ⟨"FieldAfterFieldModel", "plan", "(III)J"⟩ ⟨"FieldAfterFieldModel", "plan", "(III)J"⟩) ∈ tables_1 := List.mem_append_right _ (List.mem_append_right _ (List.mem_append_right _ (List.mem_of_getElem? (i := 16) rfl)))
theorem tw737 : (Cond.code ⟨"FieldAfterFieldModel", "plan", "(III)J"⟩ prog_9_method_30_code 14 (some .long)) ∈ tables_1 := List.mem_append_right _ (List.mem_append_right _ (List.mem_append_right _ (List.mem_of_getElem? (i := 17) rfl)))
theorem tw738 : (Cond.constantLong "FieldAfterFieldModel" 169 (6)) ∈ tables_1 := List.mem_append_right _ (List.mem_append_right _ (List.mem_append_right _ (List.mem_of_getElem? (i := 18) rfl)))
theorem tw739 : (Cond.methodLink "FieldAfterFieldModel" 171 ⟨"FieldAfterFieldModel", "worstOf", "(I)J"⟩) ∈ tables_1 := List.mem_append_right _ (List.mem_append_right _ (List.mem_append_right _ (List.mem_of_getElem? (i := 19) rfl)))
theorem tw740 : (Cond.privateMethod ⟨"FieldAfterFieldModel", "worstOf", "(I)J"⟩) ∈ tables_1 := List.mem_append_right _ (List.mem_append_right _ (List.mem_append_right _ (List.mem_of_getElem? (i := 20) rfl)))
theorem tw741 : (Cond.instanceMethod ⟨"FieldAfterFieldModel", "worstOf", "(I)J"⟩) ∈ tables_1 := List.mem_append_right _ (List.mem_append_right _ (List.mem_append_right _ (List.mem_of_getElem? (i := 21) rfl)))
theorem tw742 : (Cond.code ⟨"FieldAfterFieldModel", "worstOf", "(I)J"⟩ prog_9_method_29_code 8 (some .long)) ∈ tables_1 := List.mem_append_right _ (List.mem_append_right _ (List.mem_append_right _ (List.mem_of_getElem? (i := 22) rfl)))
theorem tw743 : (Cond.methodLink "FieldAfterFieldModel" 175 ⟨"FieldAfterFieldModel", "isAhead", "(II)Z"⟩) ∈ tables_1 := List.mem_append_right _ (List.mem_append_right _ (List.mem_append_right _ (List.mem_of_getElem? (i := 23) rfl)))
theorem tw744 : (Cond.static ⟨"FieldAfterFieldModel", "isAhead", "(II)Z"⟩) ∈ tables_1 := List.mem_append_right _ (List.mem_append_right _ (List.mem_append_right _ (List.mem_of_getElem? (i := 24) rfl)))
theorem tw745 : (Cond.code ⟨"FieldAfterFieldModel", "isAhead", "(II)Z"⟩ prog_9_method_31_code 3 (some .boolean)) ∈ tables_1 := List.mem_append_right _ (List.mem_append_right _ (List.mem_append_right _ (List.mem_of_getElem? (i := 25) rfl)))
theorem tw746 : (Cond.methodLink "FieldAfterFieldLaw" 67 ⟨"FieldAfterFieldModel", "lot", "(II)I"⟩) ∈ tables_1 := List.mem_append_right _ (List.mem_append_right _ (List.mem_append_right _ (List.mem_of_getElem? (i := 26) rfl)))
theorem tw747 : (Cond.instanceMethod ⟨"FieldAfterFieldModel", "lot", "(II)I"⟩) ∈ tables_1 := List.mem_append_right _ (List.mem_append_right _ (List.mem_append_right _ (List.mem_of_getElem? (i := 27) rfl)))
theorem tw748 : (Cond.selects "FieldAfterFieldModel" ⟨"FieldAfterFieldModel", "lot", "(II)I"⟩ ⟨"FieldAfterFieldModel", "lot", "(II)I"⟩) ∈ tables_1 := List.mem_append_right _ (List.mem_append_right _ (List.mem_append_right _ (List.mem_of_getElem? (i := 28) rfl)))
theorem tw749 : (Cond.code ⟨"FieldAfterFieldModel", "lot", "(II)I"⟩ prog_9_method_33_code 3 (some .int)) ∈ tables_1 := List.mem_append_right _ (List.mem_append_right _ (List.mem_append_right _ (List.mem_of_getElem? (i := 29) rfl)))
theorem tw750 : (Cond.methodLink "FieldAfterFieldModel" 179 ⟨"FieldAfterFieldModel", "isTool", "(I)Z"⟩) ∈ tables_1 := List.mem_append_right _ (List.mem_append_right _ (List.mem_append_right _ (List.mem_of_getElem? (i := 30) rfl)))
theorem tw751 : (Cond.static ⟨"FieldAfterFieldModel", "isTool", "(I)Z"⟩) ∈ tables_1 := List.mem_append_right _ (List.mem_append_right _ (List.mem_append_right _ (List.mem_of_getElem? (i := 31) rfl)))
theorem tw752 : (Cond.code ⟨"FieldAfterFieldModel", "isTool", "(I)Z"⟩ prog_9_method_32_code 1 (some .boolean)) ∈ tables_1 := List.mem_append_right _ (List.mem_append_right _ (List.mem_append_right _ (List.mem_of_getElem? (i := 32) rfl)))
theorem tw753 : (Cond.constantLong "FieldAfterFieldModel" 182 (-9999)) ∈ tables_1 := List.mem_append_right _ (List.mem_append_right _ (List.mem_append_right _ (List.mem_of_getElem? (i := 33) rfl)))
theorem tw754 : (Cond.constantLong "FieldAfterFieldModel" 184 (9999)) ∈ tables_1 := List.mem_append_right _ (List.mem_append_right _ (List.mem_append_right _ (List.mem_of_getElem? (i := 34) rfl)))
theorem tw755 : (Cond.methodLink "FieldAfterFieldLaw" 71 ⟨"FieldAfterFieldModel", "back", "(II)I"⟩) ∈ tables_1 := List.mem_append_right _ (List.mem_append_right _ (List.mem_append_right _ (List.mem_of_getElem? (i := 35) rfl)))
theorem tw756 : (Cond.instanceMethod ⟨"FieldAfterFieldModel", "back", "(II)I"⟩) ∈ tables_1 := List.mem_append_right _ (List.mem_append_right _ (List.mem_append_right _ (List.mem_of_getElem? (i := 36) rfl)))
theorem tw757 : (Cond.selects "FieldAfterFieldModel" ⟨"FieldAfterFieldModel", "back", "(II)I"⟩ ⟨"FieldAfterFieldModel", "back", "(II)I"⟩) ∈ tables_1 := List.mem_append_right _ (List.mem_append_right _ (List.mem_append_right _ (List.mem_of_getElem? (i := 37) rfl)))
theorem tw758 : (Cond.code ⟨"FieldAfterFieldModel", "back", "(II)I"⟩ prog_9_method_34_code 3 (some .int)) ∈ tables_1 := List.mem_append_right _ (List.mem_append_right _ (List.mem_append_right _ (List.mem_of_getElem? (i := 38) rfl)))
theorem tw759 : (Cond.methodLink "FieldAfterFieldLaw" 75 ⟨"FieldAfterFieldModel", "mend", "(I)I"⟩) ∈ tables_1 := List.mem_append_right _ (List.mem_append_right _ (List.mem_append_right _ (List.mem_of_getElem? (i := 39) rfl)))
theorem tw760 : (Cond.instanceMethod ⟨"FieldAfterFieldModel", "mend", "(I)I"⟩) ∈ tables_1 := List.mem_append_right _ (List.mem_append_right _ (List.mem_append_right _ (List.mem_of_getElem? (i := 40) rfl)))
theorem tw761 : (Cond.selects "FieldAfterFieldModel" ⟨"FieldAfterFieldModel", "mend", "(I)I"⟩ ⟨"FieldAfterFieldModel", "mend", "(I)I"⟩) ∈ tables_1 := List.mem_append_right _ (List.mem_append_right _ (List.mem_append_right _ (List.mem_of_getElem? (i := 41) rfl)))
theorem tw762 : (Cond.code ⟨"FieldAfterFieldModel", "mend", "(I)I"⟩ prog_9_method_35_code 2 (some .int)) ∈ tables_1 := List.mem_append_right _ (List.mem_append_right _ (List.mem_append_right _ (List.mem_of_getElem? (i := 42) rfl)))
theorem tw763 : (Cond.methodLink "FieldAfterFieldLaw" 79 ⟨"FieldAfterFieldModel", "gain", "(I)I"⟩) ∈ tables_1 := List.mem_append_right _ (List.mem_append_right _ (List.mem_append_right _ (List.mem_of_getElem? (i := 43) rfl)))
theorem tw764 : (Cond.instanceMethod ⟨"FieldAfterFieldModel", "gain", "(I)I"⟩) ∈ tables_1 := List.mem_append_right _ (List.mem_append_right _ (List.mem_append_right _ (List.mem_of_getElem? (i := 44) rfl)))
theorem tw765 : (Cond.selects "FieldAfterFieldModel" ⟨"FieldAfterFieldModel", "gain", "(I)I"⟩ ⟨"FieldAfterFieldModel", "gain", "(I)I"⟩) ∈ tables_1 := List.mem_append_right _ (List.mem_append_right _ (List.mem_append_right _ (List.mem_of_getElem? (i := 45) rfl)))
theorem tw766 : (Cond.code ⟨"FieldAfterFieldModel", "gain", "(I)I"⟩ prog_9_method_36_code 3 (some .int)) ∈ tables_1 := List.mem_append_right _ (List.mem_append_right _ (List.mem_append_right _ (List.mem_of_getElem? (i := 46) rfl)))
theorem tw767 : (Cond.constantLong "FieldAfterFieldModel" 186 (16)) ∈ tables_1 := List.mem_append_right _ (List.mem_append_right _ (List.mem_append_right _ (List.mem_of_getElem? (i := 47) rfl)))
theorem tw768 : (Cond.methodLink "FieldAfterFieldLaw" 83 ⟨"FieldAfterFieldModel", "state", "(II)I"⟩) ∈ tables_1 := List.mem_append_right _ (List.mem_append_right _ (List.mem_append_right _ (List.mem_of_getElem? (i := 48) rfl)))
theorem tw769 : (Cond.instanceMethod ⟨"FieldAfterFieldModel", "state", "(II)I"⟩) ∈ tables_1 := List.mem_append_right _ (List.mem_append_right _ (List.mem_append_right _ (List.mem_of_getElem? (i := 49) rfl)))
theorem tw770 : (Cond.selects "FieldAfterFieldModel" ⟨"FieldAfterFieldModel", "state", "(II)I"⟩ ⟨"FieldAfterFieldModel", "state", "(II)I"⟩) ∈ tables_1 := List.mem_append_right _ (List.mem_append_right _ (List.mem_append_right _ (List.mem_of_getElem? (i := 50) rfl)))
theorem tw771 : (Cond.code ⟨"FieldAfterFieldModel", "state", "(II)I"⟩ prog_9_method_38_code 3 (some .int)) ∈ tables_1 := List.mem_append_right _ (List.mem_append_right _ (List.mem_append_right _ (List.mem_of_getElem? (i := 51) rfl)))
theorem tw772 : (Cond.methodLink "FieldAfterFieldModel" 188 ⟨"FieldAfterFieldModel", "stateOf", "(II)I"⟩) ∈ tables_1 := List.mem_append_right _ (List.mem_append_right _ (List.mem_append_right _ (List.mem_of_getElem? (i := 52) rfl)))
theorem tw773 : (Cond.privateMethod ⟨"FieldAfterFieldModel", "stateOf", "(II)I"⟩) ∈ tables_1 := List.mem_append_right _ (List.mem_append_right _ (List.mem_append_right _ (List.mem_of_getElem? (i := 53) rfl)))
theorem tw774 : (Cond.instanceMethod ⟨"FieldAfterFieldModel", "stateOf", "(II)I"⟩) ∈ tables_1 := List.mem_append_right _ (List.mem_append_right _ (List.mem_append_right _ (List.mem_of_getElem? (i := 54) rfl)))
theorem tw775 : (Cond.code ⟨"FieldAfterFieldModel", "stateOf", "(II)I"⟩ prog_9_method_37_code 5 (some .int)) ∈ tables_1 := List.mem_append_right _ (List.mem_append_right _ (List.mem_append_right _ (List.mem_of_getElem? (i := 55) rfl)))
theorem tw776 : (Cond.methodLink "FieldAfterFieldLaw" 87 ⟨"FieldAfterFieldModel", "advice", "(I)I"⟩) ∈ tables_1 := List.mem_append_right _ (List.mem_append_right _ (List.mem_append_right _ (List.mem_of_getElem? (i := 56) rfl)))
theorem tw777 : (Cond.instanceMethod ⟨"FieldAfterFieldModel", "advice", "(I)I"⟩) ∈ tables_1 := List.mem_append_right _ (List.mem_append_right _ (List.mem_append_right _ (List.mem_of_getElem? (i := 57) rfl)))
theorem tw778 : (Cond.selects "FieldAfterFieldModel" ⟨"FieldAfterFieldModel", "advice", "(I)I"⟩ ⟨"FieldAfterFieldModel", "advice", "(I)I"⟩) ∈ tables_1 := List.mem_append_right _ (List.mem_append_right _ (List.mem_append_right _ (List.mem_of_getElem? (i := 58) rfl)))
theorem tw779 : (Cond.code ⟨"FieldAfterFieldModel", "advice", "(I)I"⟩ prog_9_method_39_code 2 (some .int)) ∈ tables_1 := List.mem_append_right _ (List.mem_append_right _ (List.mem_append_right _ (List.mem_of_getElem? (i := 59) rfl)))
theorem tw780 : (Cond.methodLink "FieldAfterFieldLaw" 91 ⟨"FieldAfterFieldModel", "offset", "(III)I"⟩) ∈ tables_1 := List.mem_append_right _ (List.mem_append_right _ (List.mem_append_right _ (List.mem_of_getElem? (i := 60) rfl)))
theorem tw781 : (Cond.instanceMethod ⟨"FieldAfterFieldModel", "offset", "(III)I"⟩) ∈ tables_1 := List.mem_append_right _ (List.mem_append_right _ (List.mem_append_right _ (List.mem_of_getElem? (i := 61) rfl)))
theorem tw782 : (Cond.selects "FieldAfterFieldModel" ⟨"FieldAfterFieldModel", "offset", "(III)I"⟩ ⟨"FieldAfterFieldModel", "offset", "(III)I"⟩) ∈ tables_1 := List.mem_append_right _ (List.mem_append_right _ (List.mem_append_right _ (List.mem_of_getElem? (i := 62) rfl)))
theorem tw783 : (Cond.code ⟨"FieldAfterFieldModel", "offset", "(III)I"⟩ prog_9_method_40_code 5 (some .int)) ∈ tables_1 := List.mem_append_right _ (List.mem_append_right _ (List.mem_append_right _ (List.mem_of_getElem? (i := 63) rfl)))
theorem tw784 : (Cond.methodLink "FieldAfterFieldLaw" 95 ⟨"FieldAfterFieldModel", "rule", "(II)I"⟩) ∈ tables_1 := List.mem_append_right _ (List.mem_append_right _ (List.mem_append_right _ (List.mem_of_getElem? (i := 64) rfl)))
theorem tw785 : (Cond.instanceMethod ⟨"FieldAfterFieldModel", "rule", "(II)I"⟩) ∈ tables_1 := List.mem_append_right _ (List.mem_append_right _ (List.mem_append_right _ (List.mem_of_getElem? (i := 65) rfl)))
theorem tw786 : (Cond.selects "FieldAfterFieldModel" ⟨"FieldAfterFieldModel", "rule", "(II)I"⟩ ⟨"FieldAfterFieldModel", "rule", "(II)I"⟩) ∈ tables_1 := List.mem_append_right _ (List.mem_append_right _ (List.mem_append_right _ (List.mem_of_getElem? (i := 66) rfl)))
theorem tw787 : (Cond.code ⟨"FieldAfterFieldModel", "rule", "(II)I"⟩ prog_9_method_41_code 4 (some .int)) ∈ tables_1 := List.mem_append_right _ (List.mem_append_right _ (List.mem_append_right _ (List.mem_of_getElem? (i := 67) rfl)))
theorem tw788 : (Cond.constantLong "FieldAfterFieldModel" 192 (1998)) ∈ tables_1 := List.mem_append_right _ (List.mem_append_right _ (List.mem_append_right _ (List.mem_of_getElem? (i := 68) rfl)))
theorem tw789 : (Cond.methodLink "FieldAfterFieldLaw" 99 ⟨"FieldAfterFieldModel", "route", "(II)I"⟩) ∈ tables_1 := List.mem_append_right _ (List.mem_append_right _ (List.mem_append_right _ (List.mem_of_getElem? (i := 69) rfl)))
theorem tw790 : (Cond.instanceMethod ⟨"FieldAfterFieldModel", "route", "(II)I"⟩) ∈ tables_1 := List.mem_append_right _ (List.mem_append_right _ (List.mem_append_right _ (List.mem_of_getElem? (i := 70) rfl)))
theorem tw791 : (Cond.selects "FieldAfterFieldModel" ⟨"FieldAfterFieldModel", "route", "(II)I"⟩ ⟨"FieldAfterFieldModel", "route", "(II)I"⟩) ∈ tables_1 := List.mem_append_right _ (List.mem_append_right _ (List.mem_append_right _ (List.mem_of_getElem? (i := 71) rfl)))
theorem tw792 : (Cond.code ⟨"FieldAfterFieldModel", "route", "(II)I"⟩ prog_9_method_44_code 7 (some .int)) ∈ tables_1 := List.mem_append_right _ (List.mem_append_right _ (List.mem_append_right _ (List.mem_of_getElem? (i := 72) rfl)))
theorem tw793 : (Cond.methodLink "FieldAfterFieldModel" 194 ⟨"FieldAfterFieldModel", "layRoute", "(II)V"⟩) ∈ tables_1 := List.mem_append_right _ (List.mem_append_right _ (List.mem_append_right _ (List.mem_of_getElem? (i := 73) rfl)))
theorem tw794 : (Cond.privateMethod ⟨"FieldAfterFieldModel", "layRoute", "(II)V"⟩) ∈ tables_1 := List.mem_append_right _ (List.mem_append_right _ (List.mem_append_right _ (List.mem_of_getElem? (i := 74) rfl)))
theorem tw795 : (Cond.instanceMethod ⟨"FieldAfterFieldModel", "layRoute", "(II)V"⟩) ∈ tables_1 := List.mem_append_right _ (List.mem_append_right _ (List.mem_append_right _ (List.mem_of_getElem? (i := 75) rfl)))
theorem tw796 : (Cond.code ⟨"FieldAfterFieldModel", "layRoute", "(II)V"⟩ prog_9_method_43_code 5 (none : Option Jvm.ClassFile.FieldType)) ∈ tables_1 := List.mem_append_right _ (List.mem_append_right _ (List.mem_append_right _ (List.mem_of_getElem? (i := 76) rfl)))
theorem tw797 : (Cond.methodLink "FieldAfterFieldModel" 197 ⟨"FieldAfterFieldModel", "sumOf", "(I)I"⟩) ∈ tables_1 := List.mem_append_right _ (List.mem_append_right _ (List.mem_append_right _ (List.mem_of_getElem? (i := 77) rfl)))
theorem tw798 : (Cond.privateMethod ⟨"FieldAfterFieldModel", "sumOf", "(I)I"⟩) ∈ tables_1 := List.mem_append_right _ (List.mem_append_right _ (List.mem_append_right _ (List.mem_of_getElem? (i := 78) rfl)))
theorem tw799 : (Cond.instanceMethod ⟨"FieldAfterFieldModel", "sumOf", "(I)I"⟩) ∈ tables_1 := List.mem_append_right _ (List.mem_append_right _ (List.mem_append_right _ (List.mem_of_getElem? (i := 79) rfl)))
theorem tw800 : (Cond.code ⟨"FieldAfterFieldModel", "sumOf", "(I)I"⟩ prog_9_method_42_code 5 (some .int)) ∈ tables_1 := List.mem_append_right _ (List.mem_append_right _ (List.mem_append_right _ (List.mem_of_getElem? (i := 80) rfl)))
theorem tw801 : (Cond.methodLink "FieldAfterFieldLaw" 103 ⟨"FieldAfterFieldModel", "bad", "(III)I"⟩) ∈ tables_1 := List.mem_append_right _ (List.mem_append_right _ (List.mem_append_right _ (List.mem_of_getElem? (i := 81) rfl)))
theorem tw802 : (Cond.instanceMethod ⟨"FieldAfterFieldModel", "bad", "(III)I"⟩) ∈ tables_1 := List.mem_append_right _ (List.mem_append_right _ (List.mem_append_right _ (List.mem_of_getElem? (i := 82) rfl)))
theorem tw803 : (Cond.selects "FieldAfterFieldModel" ⟨"FieldAfterFieldModel", "bad", "(III)I"⟩ ⟨"FieldAfterFieldModel", "bad", "(III)I"⟩) ∈ tables_1 := List.mem_append_right _ (List.mem_append_right _ (List.mem_append_right _ (List.mem_of_getElem? (i := 83) rfl)))
theorem tw804 : (Cond.code ⟨"FieldAfterFieldModel", "bad", "(III)I"⟩ prog_9_method_45_code 7 (some .int)) ∈ tables_1 := List.mem_append_right _ (List.mem_append_right _ (List.mem_append_right _ (List.mem_of_getElem? (i := 84) rfl)))
theorem ts0 : (Cond.selects "FieldAfterField$Marks" ⟨"FieldAfterField$Marks", "add", "(IIII)I"⟩ ⟨"FieldAfterField$Marks", "add", "(IIII)I"⟩) ∈ k2_sels lw_privs := List.mem_of_getElem? (i := 0) rfl
theorem ts1 : (Cond.selects "FieldAfterField$Marks" ⟨"FieldAfterField$Marks", "has", "(I)Z"⟩ ⟨"FieldAfterField$Marks", "has", "(I)Z"⟩) ∈ k2_sels lw_privs := List.mem_of_getElem? (i := 1) rfl
theorem ts2 : (Cond.selects "FieldAfterField$Marks" ⟨"FieldAfterField$Marks", "setReads", "(III)V"⟩ ⟨"FieldAfterField$Marks", "setReads", "(III)V"⟩) ∈ k2_sels lw_privs := List.mem_of_getElem? (i := 2) rfl
theorem ts3 : (Cond.selects "FieldAfterField$Marks" ⟨"FieldAfterField$Marks", "forget", "(I)V"⟩ ⟨"FieldAfterField$Marks", "forget", "(I)V"⟩) ∈ k2_sels lw_privs := List.mem_of_getElem? (i := 3) rfl
theorem ts4 : (Cond.selects "FieldAfterField$Marks" ⟨"FieldAfterField$Marks", "counting", "()I"⟩ ⟨"FieldAfterField$Marks", "counting", "()I"⟩) ∈ k2_sels lw_privs := List.mem_of_getElem? (i := 4) rfl
theorem ts5 : (Cond.selects "FieldAfterField$Marks" ⟨"FieldAfterField$Marks", "notLost", "()I"⟩ ⟨"FieldAfterField$Marks", "notLost", "()I"⟩) ∈ k2_sels lw_privs := List.mem_of_getElem? (i := 5) rfl
theorem ts6 : (Cond.selects "FieldAfterField$Book" ⟨"FieldAfterField$Book", "howManyRead", "()I"⟩ ⟨"FieldAfterField$Book", "howManyRead", "()I"⟩) ∈ k2_sels lw_privs := List.mem_of_getElem? (i := 6) rfl
theorem ts7 : (Cond.selects "FieldAfterField$Marks" ⟨"FieldAfterField$Marks", "fieldsOf", "(I)I"⟩ ⟨"FieldAfterField$Marks", "fieldsOf", "(I)I"⟩) ∈ k2_sels lw_privs := List.mem_of_getElem? (i := 7) rfl
theorem ts8 : (Cond.selects "FieldAfterField$Marks" ⟨"FieldAfterField$Marks", "hasEarlierOfField", "(II)Z"⟩ ⟨"FieldAfterField$Marks", "hasEarlierOfField", "(II)Z"⟩) ∈ k2_sels lw_privs := List.mem_of_getElem? (i := 8) rfl
theorem ts9 : (Cond.selects "FieldAfterField$Fit" ⟨"FieldAfterField$Fit", "make", "(LFieldAfterField$Marks;II)Z"⟩ ⟨"FieldAfterField$Fit", "make", "(LFieldAfterField$Marks;II)Z"⟩) ∈ k2_sels lw_privs := List.mem_of_getElem? (i := 9) rfl
theorem ts10 : (Cond.selects "FieldAfterField$Table" ⟨"FieldAfterField$Table", "clear", "(I)V"⟩ ⟨"FieldAfterField$Table", "clear", "(I)V"⟩) ∈ k2_sels lw_privs := List.mem_of_getElem? (i := 10) rfl
theorem ts11 : (Cond.selects "FieldAfterField$Marks" ⟨"FieldAfterField$Marks", "secondTerm", "(II)I"⟩ ⟨"FieldAfterField$Marks", "secondTerm", "(II)I"⟩) ∈ k2_sels lw_privs := List.mem_of_getElem? (i := 11) rfl
theorem ts12 : (Cond.selects "FieldAfterField$Marks" ⟨"FieldAfterField$Marks", "thirdTerm", "(II)I"⟩ ⟨"FieldAfterField$Marks", "thirdTerm", "(II)I"⟩) ∈ k2_sels lw_privs := List.mem_of_getElem? (i := 12) rfl
theorem ts13 : (Cond.selects "FieldAfterField$Table" ⟨"FieldAfterField$Table", "add", "(JJI)V"⟩ ⟨"FieldAfterField$Table", "add", "(JJI)V"⟩) ∈ k2_sels lw_privs := List.mem_of_getElem? (i := 13) rfl
theorem ts14 : (Cond.selects "FieldAfterField$Table" ⟨"FieldAfterField$Table", "turnBack", "()V"⟩ ⟨"FieldAfterField$Table", "turnBack", "()V"⟩) ∈ k2_sels lw_privs := List.mem_of_getElem? (i := 14) rfl
theorem ts15 : (Cond.selects "FieldAfterField$Fit" ⟨"FieldAfterField$Fit", "makeSums", "(LFieldAfterField$Marks;II)V"⟩ ⟨"FieldAfterField$Fit", "makeSums", "(LFieldAfterField$Marks;II)V"⟩) ∈ k2_sels lw_privs := List.mem_of_getElem? (i := 15) rfl
theorem ts16 : (Cond.selects "FieldAfterField$Fit" ⟨"FieldAfterField$Fit", "makeFactors", "(I)V"⟩ ⟨"FieldAfterField$Fit", "makeFactors", "(I)V"⟩) ∈ k2_sels lw_privs := List.mem_of_getElem? (i := 16) rfl
theorem ts17 : (Cond.selects "FieldAfterField$Fit" ⟨"FieldAfterField$Fit", "restOf", "(LFieldAfterField$Marks;II)J"⟩ ⟨"FieldAfterField$Fit", "restOf", "(LFieldAfterField$Marks;II)J"⟩) ∈ k2_sels lw_privs := List.mem_of_getElem? (i := 17) rfl
theorem ts18 : (Cond.selects "FieldAfterField$Fit" ⟨"FieldAfterField$Fit", "sumOfSquares", "(I)J"⟩ ⟨"FieldAfterField$Fit", "sumOfSquares", "(I)J"⟩) ∈ k2_sels lw_privs := List.mem_of_getElem? (i := 18) rfl
theorem ts19 : (Cond.selects "FieldAfterField$Fit" ⟨"FieldAfterField$Fit", "liars", "(LFieldAfterField$Marks;II)I"⟩ ⟨"FieldAfterField$Fit", "liars", "(LFieldAfterField$Marks;II)I"⟩) ∈ k2_sels lw_privs := List.mem_of_getElem? (i := 19) rfl
theorem ts20 : (Cond.selects "FieldAfterField$Fit" ⟨"FieldAfterField$Fit", "above", "(LFieldAfterField$Marks;II)I"⟩ ⟨"FieldAfterField$Fit", "above", "(LFieldAfterField$Marks;II)I"⟩) ∈ k2_sels lw_privs := List.mem_of_getElem? (i := 20) rfl
theorem ts21 : (Cond.selects "FieldAfterField$Fit" ⟨"FieldAfterField$Fit", "greaterRestOf", "(LFieldAfterField$Marks;I)J"⟩ ⟨"FieldAfterField$Fit", "greaterRestOf", "(LFieldAfterField$Marks;I)J"⟩) ∈ k2_sels lw_privs := List.mem_of_getElem? (i := 21) rfl
theorem ts22 : (Cond.selects "FieldAfterField$Fit" ⟨"FieldAfterField$Fit", "worstOf", "(LFieldAfterField$Marks;I)I"⟩ ⟨"FieldAfterField$Fit", "worstOf", "(LFieldAfterField$Marks;I)I"⟩) ∈ k2_sels lw_privs := List.mem_of_getElem? (i := 22) rfl
theorem ts23 : (Cond.selects "FieldAfterField$Planner" ⟨"FieldAfterField$Planner", "make", "(LFieldAfterField$Marks;II)Z"⟩ ⟨"FieldAfterField$Planner", "make", "(LFieldAfterField$Marks;II)Z"⟩) ∈ k2_sels lw_privs := List.mem_of_getElem? (i := 23) rfl
theorem ts24 : (Cond.selects "FieldAfterField$Planner" ⟨"FieldAfterField$Planner", "choose", "(LFieldAfterField$Marks;III)V"⟩ ⟨"FieldAfterField$Planner", "choose", "(LFieldAfterField$Marks;III)V"⟩) ∈ k2_sels lw_privs := List.mem_of_getElem? (i := 24) rfl
theorem ts25 : (Cond.selects "FieldAfterField$Planner" ⟨"FieldAfterField$Planner", "weigh", "(LFieldAfterField$Marks;I)V"⟩ ⟨"FieldAfterField$Planner", "weigh", "(LFieldAfterField$Marks;I)V"⟩) ∈ k2_sels lw_privs := List.mem_of_getElem? (i := 25) rfl
theorem ts26 : (Cond.selects "FieldAfterField$Table" ⟨"FieldAfterField$Table", "formOf", "(JJ)J"⟩ ⟨"FieldAfterField$Table", "formOf", "(JJ)J"⟩) ∈ k2_sels lw_privs := List.mem_of_getElem? (i := 26) rfl
theorem ts27 : (Cond.selects "FieldAfterField$Planner" ⟨"FieldAfterField$Planner", "chooseWith", "(LFieldAfterField$Marks;III)V"⟩ ⟨"FieldAfterField$Planner", "chooseWith", "(LFieldAfterField$Marks;III)V"⟩) ∈ k2_sels lw_privs := List.mem_of_getElem? (i := 27) rfl
theorem ts28 : (Cond.selects "FieldAfterField$Book" ⟨"FieldAfterField$Book", "add", "(II)I"⟩ ⟨"FieldAfterField$Book", "add", "(II)I"⟩) ∈ k2_sels lw_privs := List.mem_of_getElem? (i := 28) rfl
theorem ts29 : (Cond.selects "FieldAfterField$Book" ⟨"FieldAfterField$Book", "has", "(I)Z"⟩ ⟨"FieldAfterField$Book", "has", "(I)Z"⟩) ∈ k2_sels lw_privs := List.mem_of_getElem? (i := 29) rfl
theorem ts30 : (Cond.selects "FieldAfterField$Book" ⟨"FieldAfterField$Book", "setRead", "(II)V"⟩ ⟨"FieldAfterField$Book", "setRead", "(II)V"⟩) ∈ k2_sels lw_privs := List.mem_of_getElem? (i := 30) rfl
theorem ts31 : (Cond.selects "FieldAfterField$Book" ⟨"FieldAfterField$Book", "setMended", "(I)V"⟩ ⟨"FieldAfterField$Book", "setMended", "(I)V"⟩) ∈ k2_sels lw_privs := List.mem_of_getElem? (i := 31) rfl
theorem ts32 : (Cond.selects "FieldAfterField$Book" ⟨"FieldAfterField$Book", "stateAhead", "(II)I"⟩ ⟨"FieldAfterField$Book", "stateAhead", "(II)I"⟩) ∈ k2_sels lw_privs := List.mem_of_getElem? (i := 32) rfl
theorem ts33 : (Cond.selects "FieldAfterField$Router" ⟨"FieldAfterField$Router", "make", "(I)Z"⟩ ⟨"FieldAfterField$Router", "make", "(I)Z"⟩) ∈ k2_sels lw_privs := List.mem_of_getElem? (i := 33) rfl
theorem ts34 : (Cond.selects "FieldAfterField$Router" ⟨"FieldAfterField$Router", "send", "(III)V"⟩ ⟨"FieldAfterField$Router", "send", "(III)V"⟩) ∈ k2_sels lw_privs := List.mem_of_getElem? (i := 34) rfl
theorem ts35 : (Cond.selects "FieldAfterField$Router" ⟨"FieldAfterField$Router", "sendTo", "(IIII)V"⟩ ⟨"FieldAfterField$Router", "sendTo", "(IIII)V"⟩) ∈ k2_sels lw_privs := List.mem_of_getElem? (i := 35) rfl
theorem ts36 : (Cond.selects "FieldAfterField$Router" ⟨"FieldAfterField$Router", "stepTo", "(II)I"⟩ ⟨"FieldAfterField$Router", "stepTo", "(II)I"⟩) ∈ k2_sels lw_privs := List.mem_of_getElem? (i := 36) rfl
theorem ts37 : (Cond.selects "FieldAfterFieldModel" ⟨"FieldAfterFieldModel", "isMark", "(I)Z"⟩ ⟨"FieldAfterFieldModel", "isMark", "(I)Z"⟩) ∈ k2_sels lw_privs := List.mem_of_getElem? (i := 37) rfl
theorem ts38 : (Cond.selects "FieldAfterFieldModel" ⟨"FieldAfterFieldModel", "counting", "()I"⟩ ⟨"FieldAfterFieldModel", "counting", "()I"⟩) ∈ k2_sels lw_privs := List.mem_of_getElem? (i := 38) rfl
theorem ts39 : (Cond.selects "FieldAfterFieldModel" ⟨"FieldAfterFieldModel", "counts", "(I)Z"⟩ ⟨"FieldAfterFieldModel", "counts", "(I)Z"⟩) ∈ k2_sels lw_privs := List.mem_of_getElem? (i := 39) rfl
theorem ts40 : (Cond.selects "FieldAfterFieldModel" ⟨"FieldAfterFieldModel", "fieldsOf", "(I)I"⟩ ⟨"FieldAfterFieldModel", "fieldsOf", "(I)I"⟩) ∈ k2_sels lw_privs := List.mem_of_getElem? (i := 40) rfl
theorem ts41 : (Cond.selects "FieldAfterFieldModel" ⟨"FieldAfterFieldModel", "lay", "(II)V"⟩ ⟨"FieldAfterFieldModel", "lay", "(II)V"⟩) ∈ k2_sels lw_privs := List.mem_of_getElem? (i := 41) rfl
theorem ts42 : (Cond.selects "FieldAfterFieldModel" ⟨"FieldAfterFieldModel", "term", "(III)J"⟩ ⟨"FieldAfterFieldModel", "term", "(III)J"⟩) ∈ k2_sels lw_privs := List.mem_of_getElem? (i := 42) rfl
theorem ts43 : (Cond.selects "FieldAfterFieldModel" ⟨"FieldAfterFieldModel", "minor", "(II)J"⟩ ⟨"FieldAfterFieldModel", "minor", "(II)J"⟩) ∈ k2_sels lw_privs := List.mem_of_getElem? (i := 43) rfl
theorem ts44 : (Cond.selects "FieldAfterFieldModel" ⟨"FieldAfterFieldModel", "findFit", "(III)V"⟩ ⟨"FieldAfterFieldModel", "findFit", "(III)V"⟩) ∈ k2_sels lw_privs := List.mem_of_getElem? (i := 44) rfl
theorem ts45 : (Cond.selects "FieldAfterFieldModel" ⟨"FieldAfterFieldModel", "restOf", "(III)J"⟩ ⟨"FieldAfterFieldModel", "restOf", "(III)J"⟩) ∈ k2_sels lw_privs := List.mem_of_getElem? (i := 45) rfl
theorem ts46 : (Cond.selects "FieldAfterFieldModel" ⟨"FieldAfterFieldModel", "findWorst", "(II)V"⟩ ⟨"FieldAfterFieldModel", "findWorst", "(II)V"⟩) ∈ k2_sels lw_privs := List.mem_of_getElem? (i := 46) rfl
theorem ts47 : (Cond.selects "FieldAfterFieldModel" ⟨"FieldAfterFieldModel", "worstOf", "(I)J"⟩ ⟨"FieldAfterFieldModel", "worstOf", "(I)J"⟩) ∈ k2_sels lw_privs := List.mem_of_getElem? (i := 47) rfl
theorem ts48 : (Cond.selects "FieldAfterFieldModel" ⟨"FieldAfterFieldModel", "stateOf", "(II)I"⟩ ⟨"FieldAfterFieldModel", "stateOf", "(II)I"⟩) ∈ k2_sels lw_privs := List.mem_of_getElem? (i := 48) rfl
theorem ts49 : (Cond.selects "FieldAfterFieldModel" ⟨"FieldAfterFieldModel", "layRoute", "(II)V"⟩ ⟨"FieldAfterFieldModel", "layRoute", "(II)V"⟩) ∈ k2_sels lw_privs := List.mem_of_getElem? (i := 49) rfl
theorem ts50 : (Cond.selects "FieldAfterFieldModel" ⟨"FieldAfterFieldModel", "sumOf", "(I)I"⟩ ⟨"FieldAfterFieldModel", "sumOf", "(I)I"⟩) ∈ k2_sels lw_privs := List.mem_of_getElem? (i := 50) rfl
theorem inX0 : ∀ w ∈ wsX00, w ∈ WA := by
  intro w h
  obtain ⟨k, hk, rfl⟩ := List.mem_map.mp h
  have hk := List.mem_range.mp hk
  match k, hk with
  | 0, _ => exact wa tw187 rfl
  | 1, _ => exact wa tw189 rfl
  | 2, _ => exact wa tw191 rfl
  | 3, _ => exact wa tw193 rfl
  | 4, _ => exact wa tw195 rfl
  | 5, _ => exact wa tw197 rfl
  | 6, _ => exact wa tw199 rfl
  | n + 7, hk => exact absurd hk (by omega)
theorem inX1 : ∀ w ∈ wsX10, w ∈ WA := by
  intro w h
  obtain ⟨k, hk, rfl⟩ := List.mem_map.mp h
  have hk := List.mem_range.mp hk
  match k, hk with
  | 0, _ => exact wa tw134 rfl
  | 1, _ => exact wa tw136 rfl
  | 2, _ => exact wa tw138 rfl
  | 3, _ => exact wa tw140 rfl
  | n + 4, hk => exact absurd hk (by omega)
theorem inX2 : ∀ w ∈ wsX20, w ∈ WA := by
  intro w h
  obtain ⟨k, hk, rfl⟩ := List.mem_map.mp h
  have hk := List.mem_range.mp hk
  match k, hk with
  | 0, _ => exact wa tw47 rfl
  | 1, _ => exact wa tw49 rfl
  | 2, _ => exact wa tw51 rfl
  | 3, _ => exact wa tw53 rfl
  | 4, _ => exact wa tw55 rfl
  | 5, _ => exact wa tw57 rfl
  | 6, _ => exact wa tw59 rfl
  | 7, _ => exact wa tw61 rfl
  | n + 8, hk => exact absurd hk (by omega)
theorem inX3 : ∀ w ∈ wsX30, w ∈ WA := by
  intro w h
  obtain ⟨k, hk, rfl⟩ := List.mem_map.mp h
  have hk := List.mem_range.mp hk
  match k, hk with
  | 0, _ => exact wa tw160 rfl
  | 1, _ => exact wa tw162 rfl
  | 2, _ => exact wa tw164 rfl
  | 3, _ => exact wa tw166 rfl
  | 4, _ => exact wa tw168 rfl
  | n + 5, hk => exact absurd hk (by omega)
theorem inX4 : ∀ w ∈ wsX40, w ∈ WA := by
  intro w h
  obtain ⟨k, hk, rfl⟩ := List.mem_map.mp h
  have hk := List.mem_range.mp hk
  match k, hk with
  | 0, _ => exact wa tw222 rfl
  | 1, _ => exact wa tw224 rfl
  | 2, _ => exact wa tw226 rfl
  | 3, _ => exact wa tw228 rfl
  | 4, _ => exact wa tw230 rfl
  | 5, _ => exact wa tw232 rfl
  | 6, _ => exact wa tw234 rfl
  | n + 7, hk => exact absurd hk (by omega)
theorem inX5 : ∀ w ∈ wsX50, w ∈ WA := by
  intro w h
  obtain ⟨k, hk, rfl⟩ := List.mem_map.mp h
  have hk := List.mem_range.mp hk
  match k, hk with
  | 0, _ => exact wa tw99 rfl
  | 1, _ => exact wa tw101 rfl
  | 2, _ => exact wa tw103 rfl
  | 3, _ => exact wa tw105 rfl
  | 4, _ => exact wa tw107 rfl
  | 5, _ => exact wa tw109 rfl
  | 6, _ => exact wa tw111 rfl
  | 7, _ => exact wa tw113 rfl
  | 8, _ => exact wa tw115 rfl
  | 9, _ => exact wa tw117 rfl
  | 10, _ => exact wa tw119 rfl
  | 11, _ => exact wa tw121 rfl
  | 12, _ => exact wa tw123 rfl
  | n + 13, hk => exact absurd hk (by omega)
theorem inX6 : ∀ w ∈ wsX60, w ∈ WA := by
  intro w h
  obtain ⟨k, hk, rfl⟩ := List.mem_map.mp h
  have hk := List.mem_range.mp hk
  match k, hk with
  | 0, _ => exact wa tw242 rfl
  | 1, _ => exact wa tw244 rfl
  | 2, _ => exact wa tw246 rfl
  | 3, _ => exact wa tw248 rfl
  | 4, _ => exact wa tw250 rfl
  | n + 5, hk => exact absurd hk (by omega)
theorem inX7 : ∀ w ∈ wsX70, w ∈ WA := by
  intro w h
  obtain ⟨k, hk, rfl⟩ := List.mem_map.mp h
  have hk := List.mem_range.mp hk
  match k, hk with
  | 0, _ => exact wa tw573 rfl
  | 1, _ => exact wa tw575 rfl
  | 2, _ => exact wa tw577 rfl
  | 3, _ => exact wa tw579 rfl
  | 4, _ => exact wa tw581 rfl
  | 5, _ => exact wa tw583 rfl
  | 6, _ => exact wa tw585 rfl
  | 7, _ => exact wa tw587 rfl
  | 8, _ => exact wa tw589 rfl
  | 9, _ => exact wa tw591 rfl
  | 10, _ => exact wa tw593 rfl
  | 11, _ => exact wa tw595 rfl
  | 12, _ => exact wa tw597 rfl
  | 13, _ => exact wa tw599 rfl
  | 14, _ => exact wa tw601 rfl
  | 15, _ => exact wa tw603 rfl
  | 16, _ => exact wa tw605 rfl
  | 17, _ => exact wa tw607 rfl
  | 18, _ => exact wa tw609 rfl
  | 19, _ => exact wa tw611 rfl
  | 20, _ => exact wa tw613 rfl
  | 21, _ => exact wa tw615 rfl
  | 22, _ => exact wa tw617 rfl
  | n + 23, hk => exact absurd hk (by omega)
