/-! ===== BEGIN printed: names, fields, word lists, decode rows ===== -/
def RX0 : String := "QuipuKeepers$Calendar"
def TX0 : u_T := fun k => match k with
  | 0 => ("QuipuKeepers$Calendar", "stack", "[I", true)
  | _ => ("QuipuKeepers$Calendar", "height", "I", false)
def tyX0 : Nat → FieldType := fun k => match k with
  | 0 => .array .int
  | _ => .int
abbrev wsX00 : List Cond := u_ws RX0 TX0 2
theorem nmX0 : ∀ a, a < 2 → ∀ b, b < 2 → a ≠ b → (TX0 a).2.1 ≠ (TX0 b).2.1 := by decide +kernel
theorem tyX0_ok : ∀ k, k < 2 → parseFieldDescriptor (TX0 k).2.2.1 = some (tyX0 k) := by decide +kernel
abbrev cX0_init : ByteArray := prog_2_method_1_code
def yX0_init : MethodName := ⟨RX0, "<init>", "()V"⟩
abbrev cX0_letPass : ByteArray := prog_2_method_2_code
def yX0_letPass : MethodName := ⟨RX0, "letPass", "(LQuipuKeepers$State;I)V"⟩
abbrev cX0_letOrdersBeCarriedOut : ByteArray := prog_2_method_3_code
def yX0_letOrdersBeCarriedOut : MethodName := ⟨RX0, "letOrdersBeCarriedOut", "(LQuipuKeepers$State;)V"⟩
abbrev cX0_reckoned : ByteArray := prog_2_method_4_code
def yX0_reckoned : MethodName := ⟨RX0, "reckoned", "(LQuipuKeepers$State;II)I"⟩
abbrev cX0_operandOf : ByteArray := prog_2_method_5_code
def yX0_operandOf : MethodName := ⟨RX0, "operandOf", "(LQuipuKeepers$State;II)I"⟩
abbrev cX0_joined : ByteArray := prog_2_method_6_code
def yX0_joined : MethodName := ⟨RX0, "joined", "(III)I"⟩
abbrev cX0_compares : ByteArray := prog_2_method_7_code
def yX0_compares : MethodName := ⟨RX0, "compares", "(III)Z"⟩
abbrev cX0_push : ByteArray := prog_2_method_8_code
def yX0_push : MethodName := ⟨RX0, "push", "(I)V"⟩
abbrev cX0_pop : ByteArray := prog_2_method_9_code
def yX0_pop : MethodName := ⟨RX0, "pop", "()I"⟩
def RX1 : String := "QuipuKeepers$Code"
def TX1 : u_T := fun k => match k with
  | 0 => ("QuipuKeepers$Code", "step", "[I", true)
  | 1 => ("QuipuKeepers$Code", "operand", "[I", true)
  | _ => ("QuipuKeepers$Code", "size", "I", false)
def tyX1 : Nat → FieldType := fun k => match k with
  | 0 => .array .int
  | 1 => .array .int
  | _ => .int
abbrev wsX10 : List Cond := u_ws RX1 TX1 3
theorem nmX1 : ∀ a, a < 3 → ∀ b, b < 3 → a ≠ b → (TX1 a).2.1 ≠ (TX1 b).2.1 := by decide +kernel
theorem tyX1_ok : ∀ k, k < 3 → parseFieldDescriptor (TX1 k).2.2.1 = some (tyX1 k) := by decide +kernel
abbrev cX1_init : ByteArray := prog_3_method_1_code
def yX1_init : MethodName := ⟨RX1, "<init>", "()V"⟩
abbrev cX1_length : ByteArray := prog_3_method_2_code
def yX1_length : MethodName := ⟨RX1, "length", "()I"⟩
abbrev cX1_clear : ByteArray := prog_3_method_3_code
def yX1_clear : MethodName := ⟨RX1, "clear", "()V"⟩
abbrev cX1_append : ByteArray := prog_3_method_4_code
def yX1_append : MethodName := ⟨RX1, "append", "(II)Z"⟩
def RX2 : String := "QuipuKeepers$Kind"
def TX2 : u_T := fun k => match k with
  | _ => ("", "", "", false)
def tyX2 : Nat → FieldType := fun k => match k with
  | _ => .int
abbrev wsX20 : List Cond := u_ws RX2 TX2 0
theorem nmX2 : ∀ a, a < 0 → ∀ b, b < 0 → a ≠ b → (TX2 a).2.1 ≠ (TX2 b).2.1 := by decide +kernel
theorem tyX2_ok : ∀ k, k < 0 → parseFieldDescriptor (TX2 k).2.2.1 = some (tyX2 k) := by decide +kernel
def RX3 : String := "QuipuKeepers$Knots"
def TX3 : u_T := fun k => match k with
  | _ => ("", "", "", false)
def tyX3 : Nat → FieldType := fun k => match k with
  | _ => .int
abbrev wsX30 : List Cond := u_ws RX3 TX3 0
theorem nmX3 : ∀ a, a < 0 → ∀ b, b < 0 → a ≠ b → (TX3 a).2.1 ≠ (TX3 b).2.1 := by decide +kernel
theorem tyX3_ok : ∀ k, k < 0 → parseFieldDescriptor (TX3 k).2.2.1 = some (tyX3 k) := by decide +kernel
abbrev cX3_knotsOf : ByteArray := prog_5_method_2_code
def yX3_knotsOf : MethodName := ⟨RX3, "knotsOf", "(I)I"⟩
abbrev cX3_turnsOf : ByteArray := prog_5_method_3_code
def yX3_turnsOf : MethodName := ⟨RX3, "turnsOf", "(I)I"⟩
abbrev cX3_digitOf : ByteArray := prog_5_method_4_code
def yX3_digitOf : MethodName := ⟨RX3, "digitOf", "(II)I"⟩
abbrev cX3_eaten : ByteArray := prog_5_method_5_code
def yX3_eaten : MethodName := ⟨RX3, "eaten", "(I)I"⟩
abbrev cX3_singleKnotsOf : ByteArray := prog_5_method_6_code
def yX3_singleKnotsOf : MethodName := ⟨RX3, "singleKnotsOf", "(I)I"⟩
def RX4 : String := "QuipuKeepers$Parser"
def TX4 : u_T := fun k => match k with
  | 0 => ("QuipuKeepers$Parser", "codeAhead", "[I", true)
  | 1 => ("QuipuKeepers$Parser", "tokens", "LQuipuKeepers$Tokens;", true)
  | 2 => ("QuipuKeepers$Parser", "code", "LQuipuKeepers$Code;", false)
  | 3 => ("QuipuKeepers$Parser", "here", "I", false)
  | _ => ("QuipuKeepers$Parser", "next", "I", false)
def tyX4 : Nat → FieldType := fun k => match k with
  | 0 => .array .int
  | 1 => .object "QuipuKeepers$Tokens"
  | 2 => .object "QuipuKeepers$Code"
  | 3 => .int
  | _ => .int
abbrev wsX40 : List Cond := u_ws RX4 TX4 5
theorem nmX4 : ∀ a, a < 5 → ∀ b, b < 5 → a ≠ b → (TX4 a).2.1 ≠ (TX4 b).2.1 := by decide +kernel
theorem tyX4_ok : ∀ k, k < 5 → parseFieldDescriptor (TX4 k).2.2.1 = some (tyX4 k) := by decide +kernel
abbrev cX4_init : ByteArray := prog_6_method_1_code
def yX4_init : MethodName := ⟨RX4, "<init>", "(LQuipuKeepers$Tokens;LQuipuKeepers$Code;)V"⟩
abbrev cX4_firstFault : ByteArray := prog_6_method_2_code
def yX4_firstFault : MethodName := ⟨RX4, "firstFault", "(LQuipuKeepers$Code;)I"⟩
abbrev cX4_line : ByteArray := prog_6_method_3_code
def yX4_line : MethodName := ⟨RX4, "line", "()Z"⟩
abbrev cX4_otherNames : ByteArray := prog_6_method_4_code
def yX4_otherNames : MethodName := ⟨RX4, "otherNames", "()Z"⟩
abbrev cX4_testAt : ByteArray := prog_6_method_5_code
def yX4_testAt : MethodName := ⟨RX4, "testAt", "(I)Z"⟩
abbrev cX4_singleAt : ByteArray := prog_6_method_6_code
def yX4_singleAt : MethodName := ⟨RX4, "singleAt", "(I)Z"⟩
abbrev cX4_sumAt : ByteArray := prog_6_method_7_code
def yX4_sumAt : MethodName := ⟨RX4, "sumAt", "(I)Z"⟩
abbrev cX4_valueAt : ByteArray := prog_6_method_8_code
def yX4_valueAt : MethodName := ⟨RX4, "valueAt", "(I)Z"⟩
abbrev cX4_take : ByteArray := prog_6_method_9_code
def yX4_take : MethodName := ⟨RX4, "take", "(I)Z"⟩
def RX5 : String := "QuipuKeepers$State"
def TX5 : u_T := fun k => match k with
  | 0 => ("QuipuKeepers$State", "told", "LQuipuKeepers$Told;", false)
  | 1 => ("QuipuKeepers$State", "month", "I", false)
  | 2 => ("QuipuKeepers$State", "carried", "I", false)
  | 3 => ("QuipuKeepers$State", "eaten", "I", false)
  | 4 => ("QuipuKeepers$State", "colourOf", "[I", true)
  | 5 => ("QuipuKeepers$State", "under", "[I", true)
  | 6 => ("QuipuKeepers$State", "value", "[I", true)
  | 7 => ("QuipuKeepers$State", "sum", "[I", true)
  | 8 => ("QuipuKeepers$State", "record", "[I", true)
  | 9 => ("QuipuKeepers$State", "tired", "[I", true)
  | _ => ("QuipuKeepers$State", "carriedBy", "[I", true)
def tyX5 : Nat → FieldType := fun k => match k with
  | 0 => .object "QuipuKeepers$Told"
  | 1 => .int
  | 2 => .int
  | 3 => .int
  | 4 => .array .int
  | 5 => .array .int
  | 6 => .array .int
  | 7 => .array .int
  | 8 => .array .int
  | 9 => .array .int
  | _ => .array .int
abbrev wsX50 : List Cond := u_ws RX5 TX5 11
theorem nmX5 : ∀ a, a < 11 → ∀ b, b < 11 → a ≠ b → (TX5 a).2.1 ≠ (TX5 b).2.1 := by decide +kernel
theorem tyX5_ok : ∀ k, k < 11 → parseFieldDescriptor (TX5 k).2.2.1 = some (tyX5 k) := by decide +kernel
abbrev cX5_init : ByteArray := prog_7_method_1_code
def yX5_init : MethodName := ⟨RX5, "<init>", "(LQuipuKeepers$Told;)V"⟩
abbrev cX5_begin : ByteArray := prog_7_method_2_code
def yX5_begin : MethodName := ⟨RX5, "begin", "(LQuipuKeepers$Told;)V"⟩
abbrev cX5_copyFrom : ByteArray := prog_7_method_3_code
def yX5_copyFrom : MethodName := ⟨RX5, "copyFrom", "(LQuipuKeepers$State;)V"⟩
abbrev cX5_tieInto : ByteArray := prog_7_method_4_code
def yX5_tieInto : MethodName := ⟨RX5, "tieInto", "(II)V"⟩
abbrev cX5_addAbove : ByteArray := prog_7_method_5_code
def yX5_addAbove : MethodName := ⟨RX5, "addAbove", "(II)V"⟩
abbrev cX5_depthOf : ByteArray := prog_7_method_6_code
def yX5_depthOf : MethodName := ⟨RX5, "depthOf", "(I)I"⟩
abbrev cX5_isWithin : ByteArray := prog_7_method_7_code
def yX5_isWithin : MethodName := ⟨RX5, "isWithin", "(II)Z"⟩
abbrev cX5_heightOf : ByteArray := prog_7_method_8_code
def yX5_heightOf : MethodName := ⟨RX5, "heightOf", "(I)I"⟩
abbrev cX5_hangFrom : ByteArray := prog_7_method_9_code
def yX5_hangFrom : MethodName := ⟨RX5, "hangFrom", "(II)V"⟩
abbrev cX5_stepsBetween : ByteArray := prog_7_method_10_code
def yX5_stepsBetween : MethodName := ⟨RX5, "stepsBetween", "(II)I"⟩
abbrev cX5_above : ByteArray := prog_7_method_11_code
def yX5_above : MethodName := ⟨RX5, "above", "(I)I"⟩
abbrev cX5_cordsUnder : ByteArray := prog_7_method_12_code
def yX5_cordsUnder : MethodName := ⟨RX5, "cordsUnder", "(I)I"⟩
abbrev cX5_cordInPlace : ByteArray := prog_7_method_13_code
def yX5_cordInPlace : MethodName := ⟨RX5, "cordInPlace", "(I)I"⟩
abbrev cX5_standsAhead : ByteArray := prog_7_method_14_code
def yX5_standsAhead : MethodName := ⟨RX5, "standsAhead", "(II)Z"⟩
abbrev cX5_rankOf : ByteArray := prog_7_method_15_code
def yX5_rankOf : MethodName := ⟨RX5, "rankOf", "(I)I"⟩
abbrev cX5_cordWithSum : ByteArray := prog_7_method_16_code
def yX5_cordWithSum : MethodName := ⟨RX5, "cordWithSum", "(I)I"⟩
abbrev cX5_cordsOutOfOrder : ByteArray := prog_7_method_17_code
def yX5_cordsOutOfOrder : MethodName := ⟨RX5, "cordsOutOfOrder", "()I"⟩
abbrev cX5_neighbourAhead : ByteArray := prog_7_method_18_code
def yX5_neighbourAhead : MethodName := ⟨RX5, "neighbourAhead", "(I)I"⟩
abbrev cX5_countedBelow : ByteArray := prog_7_method_19_code
def yX5_countedBelow : MethodName := ⟨RX5, "countedBelow", "(I)I"⟩
abbrev cX5_isWrong : ByteArray := prog_7_method_20_code
def yX5_isWrong : MethodName := ⟨RX5, "isWrong", "(I)Z"⟩
abbrev cX5_wrongTops : ByteArray := prog_7_method_21_code
def yX5_wrongTops : MethodName := ⟨RX5, "wrongTops", "()I"⟩
abbrev cX5_isTooTired : ByteArray := prog_7_method_22_code
def yX5_isTooTired : MethodName := ⟨RX5, "isTooTired", "(I)Z"⟩
abbrev cX5_carryOut : ByteArray := prog_7_method_23_code
def yX5_carryOut : MethodName := ⟨RX5, "carryOut", "(II)V"⟩
abbrev cX5_endMonth : ByteArray := prog_7_method_24_code
def yX5_endMonth : MethodName := ⟨RX5, "endMonth", "()V"⟩
abbrev cX5_letMothsEat : ByteArray := prog_7_method_25_code
def yX5_letMothsEat : MethodName := ⟨RX5, "letMothsEat", "()V"⟩
abbrev cX5_countTells : ByteArray := prog_7_method_26_code
def yX5_countTells : MethodName := ⟨RX5, "countTells", "(I)I"⟩
abbrev cX5_valuesOfAll : ByteArray := prog_7_method_27_code
def yX5_valuesOfAll : MethodName := ⟨RX5, "valuesOfAll", "()I"⟩
abbrev cX5_knotsOfAll : ByteArray := prog_7_method_28_code
def yX5_knotsOfAll : MethodName := ⟨RX5, "knotsOfAll", "()I"⟩
abbrev cX5_turnsOfAll : ByteArray := prog_7_method_29_code
def yX5_turnsOfAll : MethodName := ⟨RX5, "turnsOfAll", "()I"⟩
abbrev cX5_colourTells : ByteArray := prog_7_method_30_code
def yX5_colourTells : MethodName := ⟨RX5, "colourTells", "(II)I"⟩
abbrev cX5_cordTells : ByteArray := prog_7_method_31_code
def yX5_cordTells : MethodName := ⟨RX5, "cordTells", "(II)I"⟩
abbrev cX5_topsOver : ByteArray := prog_7_method_32_code
def yX5_topsOver : MethodName := ⟨RX5, "topsOver", "(I)I"⟩
abbrev cX5_topTells : ByteArray := prog_7_method_33_code
def yX5_topTells : MethodName := ⟨RX5, "topTells", "(II)I"⟩
abbrev cX5_keeperTells : ByteArray := prog_7_method_34_code
def yX5_keeperTells : MethodName := ⟨RX5, "keeperTells", "(II)I"⟩
def RX6 : String := "QuipuKeepers$Tape"
def TX6 : u_T := fun k => match k with
  | 0 => ("QuipuKeepers$Tape", "bytes", "[B", true)
  | _ => ("QuipuKeepers$Tape", "size", "I", false)
def tyX6 : Nat → FieldType := fun k => match k with
  | 0 => .array .byte
  | _ => .int
abbrev wsX60 : List Cond := u_ws RX6 TX6 2
theorem nmX6 : ∀ a, a < 2 → ∀ b, b < 2 → a ≠ b → (TX6 a).2.1 ≠ (TX6 b).2.1 := by decide +kernel
theorem tyX6_ok : ∀ k, k < 2 → parseFieldDescriptor (TX6 k).2.2.1 = some (tyX6 k) := by decide +kernel
abbrev cX6_init : ByteArray := prog_8_method_1_code
def yX6_init : MethodName := ⟨RX6, "<init>", "()V"⟩
abbrev cX6_length : ByteArray := prog_8_method_2_code
def yX6_length : MethodName := ⟨RX6, "length", "()I"⟩
abbrev cX6_append : ByteArray := prog_8_method_3_code
def yX6_append : MethodName := ⟨RX6, "append", "(I)V"⟩
abbrev cX6_cut : ByteArray := prog_8_method_4_code
def yX6_cut : MethodName := ⟨RX6, "cut", "(I)V"⟩
abbrev cX6_signAt : ByteArray := prog_8_method_5_code
def yX6_signAt : MethodName := ⟨RX6, "signAt", "(I)I"⟩
abbrev cX6_behindBlanks : ByteArray := prog_8_method_6_code
def yX6_behindBlanks : MethodName := ⟨RX6, "behindBlanks", "(I)I"⟩
def RX7 : String := "QuipuKeepers$Teacher"
def TX7 : u_T := fun k => match k with
  | 0 => ("QuipuKeepers$Teacher", "error", "I", false)
  | 1 => ("QuipuKeepers$Teacher", "colourNames", "[J", true)
  | 2 => ("QuipuKeepers$Teacher", "cordNames", "[J", true)
  | 3 => ("QuipuKeepers$Teacher", "topNames", "[J", true)
  | 4 => ("QuipuKeepers$Teacher", "keeperNames", "[J", true)
  | 5 => ("QuipuKeepers$Teacher", "depth", "[I", true)
  | 6 => ("QuipuKeepers$Teacher", "meant", "[I", true)
  | 7 => ("QuipuKeepers$Teacher", "line", "I", false)
  | _ => ("QuipuKeepers$Teacher", "keyword", "I", false)
def tyX7 : Nat → FieldType := fun k => match k with
  | 0 => .int
  | 1 => .array .long
  | 2 => .array .long
  | 3 => .array .long
  | 4 => .array .long
  | 5 => .array .int
  | 6 => .array .int
  | 7 => .int
  | _ => .int
abbrev wsX70 : List Cond := u_ws RX7 TX7 9
theorem nmX7 : ∀ a, a < 9 → ∀ b, b < 9 → a ≠ b → (TX7 a).2.1 ≠ (TX7 b).2.1 := by decide +kernel
theorem tyX7_ok : ∀ k, k < 9 → parseFieldDescriptor (TX7 k).2.2.1 = some (tyX7 k) := by decide +kernel
abbrev cX7_init : ByteArray := prog_9_method_1_code
def yX7_init : MethodName := ⟨RX7, "<init>", "()V"⟩
abbrev cX7_firstFault : ByteArray := prog_9_method_2_code
def yX7_firstFault : MethodName := ⟨RX7, "firstFault", "(LQuipuKeepers$Tokens;[ILQuipuKeepers$Told;)I"⟩
abbrev cX7_errorOfKeyword : ByteArray := prog_9_method_3_code
def yX7_errorOfKeyword : MethodName := ⟨RX7, "errorOfKeyword", "(LQuipuKeepers$Told;II)I"⟩
abbrev cX7_errorOfNumber : ByteArray := prog_9_method_4_code
def yX7_errorOfNumber : MethodName := ⟨RX7, "errorOfNumber", "(LQuipuKeepers$Told;I)I"⟩
abbrev cX7_toldAhead : ByteArray := prog_9_method_5_code
def yX7_toldAhead : MethodName := ⟨RX7, "toldAhead", "(LQuipuKeepers$Told;J)I"⟩
abbrev cX7_placeOf : ByteArray := prog_9_method_6_code
def yX7_placeOf : MethodName := ⟨RX7, "placeOf", "(J[JI)I"⟩
abbrev cX7_errorOfName : ByteArray := prog_9_method_7_code
def yX7_errorOfName : MethodName := ⟨RX7, "errorOfName", "(LQuipuKeepers$Told;IJ)I"⟩
abbrev cX7_errorOfNewName : ByteArray := prog_9_method_8_code
def yX7_errorOfNewName : MethodName := ⟨RX7, "errorOfNewName", "(IJ[JI)I"⟩
abbrev cX7_errorOfNewCord : ByteArray := prog_9_method_9_code
def yX7_errorOfNewCord : MethodName := ⟨RX7, "errorOfNewCord", "(LQuipuKeepers$Told;IJ)I"⟩
abbrev cX7_errorOfUse : ByteArray := prog_9_method_10_code
def yX7_errorOfUse : MethodName := ⟨RX7, "errorOfUse", "(LQuipuKeepers$Told;I)I"⟩
abbrev cX7_errorOfHanging : ByteArray := prog_9_method_11_code
def yX7_errorOfHanging : MethodName := ⟨RX7, "errorOfHanging", "(LQuipuKeepers$Told;I)I"⟩
abbrev cX7_errorOfTopCord : ByteArray := prog_9_method_12_code
def yX7_errorOfTopCord : MethodName := ⟨RX7, "errorOfTopCord", "(LQuipuKeepers$Told;I)I"⟩
abbrev cX7_endLine : ByteArray := prog_9_method_13_code
def yX7_endLine : MethodName := ⟨RX7, "endLine", "(LQuipuKeepers$Told;I)V"⟩
abbrev cX7_endOrder : ByteArray := prog_9_method_14_code
def yX7_endOrder : MethodName := ⟨RX7, "endOrder", "(LQuipuKeepers$Told;I)V"⟩
abbrev cX7_tellCode : ByteArray := prog_9_method_15_code
def yX7_tellCode : MethodName := ⟨RX7, "tellCode", "(LQuipuKeepers$Code;)V"⟩
def RX8 : String := "QuipuKeepers$Tokens"
def TX8 : u_T := fun k => match k with
  | 0 => ("QuipuKeepers$Tokens", "kind", "[I", true)
  | 1 => ("QuipuKeepers$Tokens", "content", "[J", true)
  | 2 => ("QuipuKeepers$Tokens", "position", "[I", true)
  | 3 => ("QuipuKeepers$Tokens", "keyword", "[J", true)
  | 4 => ("QuipuKeepers$Tokens", "size", "I", false)
  | 5 => ("QuipuKeepers$Tokens", "found", "J", false)
  | _ => ("QuipuKeepers$Tokens", "behind", "I", false)
def tyX8 : Nat → FieldType := fun k => match k with
  | 0 => .array .int
  | 1 => .array .long
  | 2 => .array .int
  | 3 => .array .long
  | 4 => .int
  | 5 => .long
  | _ => .int
abbrev wsX80 : List Cond := u_ws RX8 TX8 7
theorem nmX8 : ∀ a, a < 7 → ∀ b, b < 7 → a ≠ b → (TX8 a).2.1 ≠ (TX8 b).2.1 := by decide +kernel
theorem tyX8_ok : ∀ k, k < 7 → parseFieldDescriptor (TX8 k).2.2.1 = some (tyX8 k) := by decide +kernel
abbrev cX8_init : ByteArray := prog_10_method_1_code
def yX8_init : MethodName := ⟨RX8, "<init>", "()V"⟩
abbrev cX8_readAll : ByteArray := prog_10_method_2_code
def yX8_readAll : MethodName := ⟨RX8, "readAll", "(LQuipuKeepers$Tape;)V"⟩
abbrev cX8_length : ByteArray := prog_10_method_3_code
def yX8_length : MethodName := ⟨RX8, "length", "()I"⟩
abbrev cX8_numberOf : ByteArray := prog_10_method_4_code
def yX8_numberOf : MethodName := ⟨RX8, "numberOf", "(I)I"⟩
abbrev cX8_kindOf : ByteArray := prog_10_method_5_code
def yX8_kindOf : MethodName := ⟨RX8, "kindOf", "(I)I"⟩
abbrev cX8_positionOf : ByteArray := prog_10_method_6_code
def yX8_positionOf : MethodName := ⟨RX8, "positionOf", "(I)I"⟩
abbrev cX8_kindOfNext : ByteArray := prog_10_method_7_code
def yX8_kindOfNext : MethodName := ⟨RX8, "kindOfNext", "(LQuipuKeepers$Tape;I)I"⟩
abbrev cX8_kindOfWord : ByteArray := prog_10_method_8_code
def yX8_kindOfWord : MethodName := ⟨RX8, "kindOfWord", "(LQuipuKeepers$Tape;I)I"⟩
abbrev cX8_kindOfNumber : ByteArray := prog_10_method_9_code
def yX8_kindOfNumber : MethodName := ⟨RX8, "kindOfNumber", "(LQuipuKeepers$Tape;I)I"⟩
abbrev cX8_kindOfSymbol : ByteArray := prog_10_method_10_code
def yX8_kindOfSymbol : MethodName := ⟨RX8, "kindOfSymbol", "(LQuipuKeepers$Tape;II)I"⟩
abbrev cX8_isLetter : ByteArray := prog_10_method_11_code
def yX8_isLetter : MethodName := ⟨RX8, "isLetter", "(I)Z"⟩
abbrev cX8_isDigit : ByteArray := prog_10_method_12_code
def yX8_isDigit : MethodName := ⟨RX8, "isDigit", "(I)Z"⟩
abbrev cX8_numberOfSign : ByteArray := prog_10_method_13_code
def yX8_numberOfSign : MethodName := ⟨RX8, "numberOfSign", "(I)I"⟩
def RX9 : String := "QuipuKeepers$Told"
def TX9 : u_T := fun k => match k with
  | 0 => ("QuipuKeepers$Told", "colours", "I", false)
  | 1 => ("QuipuKeepers$Told", "cords", "I", false)
  | 2 => ("QuipuKeepers$Told", "tops", "I", false)
  | 3 => ("QuipuKeepers$Told", "keepers", "I", false)
  | 4 => ("QuipuKeepers$Told", "orders", "I", false)
  | 5 => ("QuipuKeepers$Told", "rank", "[I", true)
  | 6 => ("QuipuKeepers$Told", "colourOf", "[I", true)
  | 7 => ("QuipuKeepers$Told", "under", "[I", true)
  | 8 => ("QuipuKeepers$Told", "value", "[I", true)
  | 9 => ("QuipuKeepers$Told", "topSize", "[I", true)
  | 10 => ("QuipuKeepers$Told", "topCords", "[[I", true)
  | 11 => ("QuipuKeepers$Told", "care", "[I", true)
  | 12 => ("QuipuKeepers$Told", "isTie", "[Z", true)
  | 13 => ("QuipuKeepers$Told", "target", "[I", true)
  | 14 => ("QuipuKeepers$Told", "keeperOf", "[I", true)
  | 15 => ("QuipuKeepers$Told", "testFrom", "[I", true)
  | 16 => ("QuipuKeepers$Told", "codeEnd", "[I", true)
  | _ => ("QuipuKeepers$Told", "code", "LQuipuKeepers$Code;", true)
def tyX9 : Nat → FieldType := fun k => match k with
  | 0 => .int
  | 1 => .int
  | 2 => .int
  | 3 => .int
  | 4 => .int
  | 5 => .array .int
  | 6 => .array .int
  | 7 => .array .int
  | 8 => .array .int
  | 9 => .array .int
  | 10 => .array (.array .int)
  | 11 => .array .int
  | 12 => .array .boolean
  | 13 => .array .int
  | 14 => .array .int
  | 15 => .array .int
  | 16 => .array .int
  | _ => .object "QuipuKeepers$Code"
abbrev wsX90 : List Cond := u_ws RX9 TX9 18
theorem nmX9 : ∀ a, a < 18 → ∀ b, b < 18 → a ≠ b → (TX9 a).2.1 ≠ (TX9 b).2.1 := by decide +kernel
theorem tyX9_ok : ∀ k, k < 18 → parseFieldDescriptor (TX9 k).2.2.1 = some (tyX9 k) := by decide +kernel
abbrev cX9_init : ByteArray := prog_11_method_1_code
def yX9_init : MethodName := ⟨RX9, "<init>", "()V"⟩
abbrev cX9_clear : ByteArray := prog_11_method_2_code
def yX9_clear : MethodName := ⟨RX9, "clear", "()V"⟩
abbrev cX9_hasColour : ByteArray := prog_11_method_3_code
def yX9_hasColour : MethodName := ⟨RX9, "hasColour", "(I)Z"⟩
abbrev cX9_hasCord : ByteArray := prog_11_method_4_code
def yX9_hasCord : MethodName := ⟨RX9, "hasCord", "(I)Z"⟩
abbrev cX9_hasTop : ByteArray := prog_11_method_5_code
def yX9_hasTop : MethodName := ⟨RX9, "hasTop", "(I)Z"⟩
abbrev cX9_hasKeeper : ByteArray := prog_11_method_6_code
def yX9_hasKeeper : MethodName := ⟨RX9, "hasKeeper", "(I)Z"⟩
abbrev cX9_isOver : ByteArray := prog_11_method_7_code
def yX9_isOver : MethodName := ⟨RX9, "isOver", "(II)Z"⟩
def RX10 : String := "QuipuKeepers"
def TX10 : u_T := fun k => match k with
  | 0 => ("QuipuKeepers", "told", "LQuipuKeepers$Told;", false)
  | 1 => ("QuipuKeepers", "draft", "LQuipuKeepers$Told;", false)
  | 2 => ("QuipuKeepers", "tape", "LQuipuKeepers$Tape;", true)
  | 3 => ("QuipuKeepers", "tokens", "LQuipuKeepers$Tokens;", true)
  | 4 => ("QuipuKeepers", "parser", "LQuipuKeepers$Parser;", true)
  | 5 => ("QuipuKeepers", "teacher", "LQuipuKeepers$Teacher;", true)
  | 6 => ("QuipuKeepers", "now", "LQuipuKeepers$State;", true)
  | 7 => ("QuipuKeepers", "trial", "LQuipuKeepers$State;", true)
  | 8 => ("QuipuKeepers", "calendar", "LQuipuKeepers$Calendar;", true)
  | _ => ("QuipuKeepers", "errorPosition", "I", false)
def tyX10 : Nat → FieldType := fun k => match k with
  | 0 => .object "QuipuKeepers$Told"
  | 1 => .object "QuipuKeepers$Told"
  | 2 => .object "QuipuKeepers$Tape"
  | 3 => .object "QuipuKeepers$Tokens"
  | 4 => .object "QuipuKeepers$Parser"
  | 5 => .object "QuipuKeepers$Teacher"
  | 6 => .object "QuipuKeepers$State"
  | 7 => .object "QuipuKeepers$State"
  | 8 => .object "QuipuKeepers$Calendar"
  | _ => .int
abbrev wsX100 : List Cond := u_ws RX10 TX10 10
theorem nmX10 : ∀ a, a < 10 → ∀ b, b < 10 → a ≠ b → (TX10 a).2.1 ≠ (TX10 b).2.1 := by decide +kernel
theorem tyX10_ok : ∀ k, k < 10 → parseFieldDescriptor (TX10 k).2.2.1 = some (tyX10 k) := by decide +kernel
abbrev cX10_init : ByteArray := prog_1_method_1_code
def yX10_init : MethodName := ⟨RX10, "<init>", "()V"⟩
abbrev cX10_feed : ByteArray := prog_1_method_2_code
def yX10_feed : MethodName := ⟨RX10, "feed", "(IIIII)I"⟩
abbrev cX10_trim : ByteArray := prog_1_method_3_code
def yX10_trim : MethodName := ⟨RX10, "trim", "(I)I"⟩
abbrev cX10_teach : ByteArray := prog_1_method_4_code
def yX10_teach : MethodName := ⟨RX10, "teach", "()I"⟩
abbrev cX10_count : ByteArray := prog_1_method_6_code
def yX10_count : MethodName := ⟨RX10, "count", "(I)I"⟩
abbrev cX10_colour : ByteArray := prog_1_method_7_code
def yX10_colour : MethodName := ⟨RX10, "colour", "(II)I"⟩
abbrev cX10_cord : ByteArray := prog_1_method_8_code
def yX10_cord : MethodName := ⟨RX10, "cord", "(II)I"⟩
abbrev cX10_digit : ByteArray := prog_1_method_9_code
def yX10_digit : MethodName := ⟨RX10, "digit", "(II)I"⟩
abbrev cX10_top : ByteArray := prog_1_method_10_code
def yX10_top : MethodName := ⟨RX10, "top", "(II)I"⟩
abbrev cX10_keeper : ByteArray := prog_1_method_11_code
def yX10_keeper : MethodName := ⟨RX10, "keeper", "(II)I"⟩
abbrev cX10_apart : ByteArray := prog_1_method_12_code
def yX10_apart : MethodName := ⟨RX10, "apart", "(II)I"⟩
abbrev cX10_order : ByteArray := prog_1_method_13_code
def yX10_order : MethodName := ⟨RX10, "order", "(I)I"⟩
abbrev cX10_find : ByteArray := prog_1_method_14_code
def yX10_find : MethodName := ⟨RX10, "find", "(I)I"⟩
abbrev cX10_set : ByteArray := prog_1_method_16_code
def yX10_set : MethodName := ⟨RX10, "set", "(II)I"⟩
abbrev cX10_rest : ByteArray := prog_1_method_17_code
def yX10_rest : MethodName := ⟨RX10, "rest", "(I)I"⟩
abbrev cX10_dye : ByteArray := prog_1_method_18_code
def yX10_dye : MethodName := ⟨RX10, "dye", "(II)I"⟩
abbrev cX10_hang : ByteArray := prog_1_method_19_code
def yX10_hang : MethodName := ⟨RX10, "hang", "(II)I"⟩
abbrev cX10_pass : ByteArray := prog_1_method_20_code
def yX10_pass : MethodName := ⟨RX10, "pass", "(I)I"⟩
abbrev cX10_until : ByteArray := prog_1_method_21_code
def yX10_until : MethodName := ⟨RX10, "until", "(I)I"⟩
abbrev cX10_foresee : ByteArray := prog_1_method_22_code
def yX10_foresee : MethodName := ⟨RX10, "foresee", "(II)I"⟩
abbrev cX10_advise : ByteArray := prog_1_method_23_code
def yX10_advise : MethodName := ⟨RX10, "advise", "(I)I"⟩
abbrev cX10_digest : ByteArray := prog_1_method_25_code
def yX10_digest : MethodName := ⟨RX10, "digest", "()J"⟩
abbrev cX10_wrongBehind : ByteArray := prog_1_method_26_code
def yX10_wrongBehind : MethodName := ⟨RX10, "wrongBehind", "(II)I"⟩
def RX11 : String := "QuipuKeepersModel$Book"
def TX11 : u_T := fun k => match k with
  | _ => ("", "", "", false)
def tyX11 : Nat → FieldType := fun k => match k with
  | _ => .int
abbrev wsX110 : List Cond := u_ws RX11 TX11 0
theorem nmX11 : ∀ a, a < 0 → ∀ b, b < 0 → a ≠ b → (TX11 a).2.1 ≠ (TX11 b).2.1 := by decide +kernel
theorem tyX11_ok : ∀ k, k < 0 → parseFieldDescriptor (TX11 k).2.2.1 = some (tyX11 k) := by decide +kernel
def RX12 : String := "QuipuKeepersModel"
def TX12 : u_T := fun k => match k with
  | _ => ("", "", "", false)
def tyX12 : Nat → FieldType := fun k => match k with
  | _ => .int
abbrev wsX120 : List Cond := u_ws RX12 TX12 0
theorem nmX12 : ∀ a, a < 0 → ∀ b, b < 0 → a ≠ b → (TX12 a).2.1 ≠ (TX12 b).2.1 := by decide +kernel
theorem tyX12_ok : ∀ k, k < 0 → parseFieldDescriptor (TX12 k).2.2.1 = some (tyX12 k) := by decide +kernel
def RJx145de : String := "java/io/Serializable"
def TJx145de : u_T := fun k => match k with
  | _ => ("", "", "", false)
def tyJx145de : Nat → FieldType := fun k => match k with
  | _ => .int
abbrev wsJx145de0 : List Cond := u_ws RJx145de TJx145de 0
theorem nmJx145de : ∀ a, a < 0 → ∀ b, b < 0 → a ≠ b → (TJx145de a).2.1 ≠ (TJx145de b).2.1 := by decide +kernel
theorem tyJx145de_ok : ∀ k, k < 0 → parseFieldDescriptor (TJx145de k).2.2.1 = some (tyJx145de k) := by decide +kernel
def RJ5 : String := "java/lang/AbstractStringBuilder"
def TJ5 : u_T := fun k => match k with
  | _ => ("", "", "", false)
def tyJ5 : Nat → FieldType := fun k => match k with
  | _ => .int
abbrev wsJ50 : List Cond := u_ws RJ5 TJ5 0
theorem nmJ5 : ∀ a, a < 0 → ∀ b, b < 0 → a ≠ b → (TJ5 a).2.1 ≠ (TJ5 b).2.1 := by decide +kernel
theorem tyJ5_ok : ∀ k, k < 0 → parseFieldDescriptor (TJ5 k).2.2.1 = some (tyJ5 k) := by decide +kernel
abbrev cJ5_init_d00df : ByteArray := prog_15_method_2_code
def yJ5_init_d00df : MethodName := ⟨RJ5, "<init>", "(I)V"⟩
abbrev cJ5_length_8abf5 : ByteArray := prog_15_method_6_code
def yJ5_length_8abf5 : MethodName := ⟨RJ5, "length", "()I"⟩
abbrev cJ5_ensureCapacityInternal_d00df : ByteArray := prog_15_method_9_code
def yJ5_ensureCapacityInternal_d00df : MethodName := ⟨RJ5, "ensureCapacityInternal", "(I)V"⟩
abbrev cJ5_newCapacity_0f7a4 : ByteArray := prog_15_method_10_code
def yJ5_newCapacity_0f7a4 : MethodName := ⟨RJ5, "newCapacity", "(I)I"⟩
abbrev cJ5_inflate_da8c8 : ByteArray := prog_15_method_11_code
def yJ5_inflate_da8c8 : MethodName := ⟨RJ5, "inflate", "()V"⟩
abbrev cJ5_append_cf1ce : ByteArray := prog_15_method_22_code
def yJ5_append_cf1ce : MethodName := ⟨RJ5, "append", "(Ljava/lang/String;)Ljava/lang/AbstractStringBuilder;"⟩
abbrev cJ5_appendNull_278bc : ByteArray := prog_15_method_26_code
def yJ5_appendNull_278bc : MethodName := ⟨RJ5, "appendNull", "()Ljava/lang/AbstractStringBuilder;"⟩
abbrev cJ5_getValue_6d5f1 : ByteArray := prog_15_method_64_code
def yJ5_getValue_6d5f1 : MethodName := ⟨RJ5, "getValue", "()[B"⟩
abbrev cJ5_isLatin1_aae02 : ByteArray := prog_15_method_68_code
def yJ5_isLatin1_aae02 : MethodName := ⟨RJ5, "isLatin1", "()Z"⟩
abbrev cJ5_inflateIfNeededFor_a7421 : ByteArray := prog_15_method_71_code
def yJ5_inflateIfNeededFor_a7421 : MethodName := ⟨RJ5, "inflateIfNeededFor", "(Ljava/lang/String;)V"⟩
abbrev cJ5_putStringAt_47b60 : ByteArray := prog_15_method_73_code
def yJ5_putStringAt_47b60 : MethodName := ⟨RJ5, "putStringAt", "(ILjava/lang/String;)V"⟩
def RJx2cfe8 : String := "java/lang/Appendable"
def TJx2cfe8 : u_T := fun k => match k with
  | _ => ("", "", "", false)
def tyJx2cfe8 : Nat → FieldType := fun k => match k with
  | _ => .int
abbrev wsJx2cfe80 : List Cond := u_ws RJx2cfe8 TJx2cfe8 0
theorem nmJx2cfe8 : ∀ a, a < 0 → ∀ b, b < 0 → a ≠ b → (TJx2cfe8 a).2.1 ≠ (TJx2cfe8 b).2.1 := by decide +kernel
theorem tyJx2cfe8_ok : ∀ k, k < 0 → parseFieldDescriptor (TJx2cfe8 k).2.2.1 = some (tyJx2cfe8 k) := by decide +kernel
def RJx9f9b0 : String := "java/lang/CharSequence"
def TJx9f9b0 : u_T := fun k => match k with
  | _ => ("", "", "", false)
def tyJx9f9b0 : Nat → FieldType := fun k => match k with
  | _ => .int
abbrev wsJx9f9b00 : List Cond := u_ws RJx9f9b0 TJx9f9b0 0
theorem nmJx9f9b0 : ∀ a, a < 0 → ∀ b, b < 0 → a ≠ b → (TJx9f9b0 a).2.1 ≠ (TJx9f9b0 b).2.1 := by decide +kernel
theorem tyJx9f9b0_ok : ∀ k, k < 0 → parseFieldDescriptor (TJx9f9b0 k).2.2.1 = some (tyJx9f9b0 k) := by decide +kernel
def RJ11 : String := "java/lang/Character"
def TJ11 : u_T := fun k => match k with
  | _ => ("", "", "", false)
def tyJ11 : Nat → FieldType := fun k => match k with
  | _ => .int
abbrev wsJ110 : List Cond := u_ws RJ11 TJ11 0
theorem nmJ11 : ∀ a, a < 0 → ∀ b, b < 0 → a ≠ b → (TJ11 a).2.1 ≠ (TJ11 b).2.1 := by decide +kernel
theorem tyJ11_ok : ∀ k, k < 0 → parseFieldDescriptor (TJ11 k).2.2.1 = some (tyJ11 k) := by decide +kernel
abbrev cJ11_isValidCodePoint_9a6ad : ByteArray := prog_16_method_11_code
def yJ11_isValidCodePoint_9a6ad : MethodName := ⟨RJ11, "isValidCodePoint", "(I)Z"⟩
abbrev cJ11_highSurrogate_5068e : ByteArray := prog_16_method_28_code
def yJ11_highSurrogate_5068e : MethodName := ⟨RJ11, "highSurrogate", "(I)C"⟩
abbrev cJ11_lowSurrogate_5068e : ByteArray := prog_16_method_29_code
def yJ11_lowSurrogate_5068e : MethodName := ⟨RJ11, "lowSurrogate", "(I)C"⟩
def RJx8e188 : String := "java/lang/Cloneable"
def TJx8e188 : u_T := fun k => match k with
  | _ => ("", "", "", false)
def tyJx8e188 : Nat → FieldType := fun k => match k with
  | _ => .int
abbrev wsJx8e1880 : List Cond := u_ws RJx8e188 TJx8e188 0
theorem nmJx8e188 : ∀ a, a < 0 → ∀ b, b < 0 → a ≠ b → (TJx8e188 a).2.1 ≠ (TJx8e188 b).2.1 := by decide +kernel
theorem tyJx8e188_ok : ∀ k, k < 0 → parseFieldDescriptor (TJx8e188 k).2.2.1 = some (tyJx8e188 k) := by decide +kernel
def RJxb160c : String := "java/lang/Comparable"
def TJxb160c : u_T := fun k => match k with
  | _ => ("", "", "", false)
def tyJxb160c : Nat → FieldType := fun k => match k with
  | _ => .int
abbrev wsJxb160c0 : List Cond := u_ws RJxb160c TJxb160c 0
theorem nmJxb160c : ∀ a, a < 0 → ∀ b, b < 0 → a ≠ b → (TJxb160c a).2.1 ≠ (TJxb160c b).2.1 := by decide +kernel
theorem tyJxb160c_ok : ∀ k, k < 0 → parseFieldDescriptor (TJxb160c k).2.2.1 = some (tyJxb160c k) := by decide +kernel
def RJ9 : String := "java/lang/Math"
def TJ9 : u_T := fun k => match k with
  | _ => ("", "", "", false)
def tyJ9 : Nat → FieldType := fun k => match k with
  | _ => .int
abbrev wsJ90 : List Cond := u_ws RJ9 TJ9 0
theorem nmJ9 : ∀ a, a < 0 → ∀ b, b < 0 → a ≠ b → (TJ9 a).2.1 ≠ (TJ9 b).2.1 := by decide +kernel
theorem tyJ9_ok : ∀ k, k < 0 → parseFieldDescriptor (TJ9 k).2.2.1 = some (tyJ9 k) := by decide +kernel
abbrev cJ9_max_7cf53 : ByteArray := prog_22_method_65_code
def yJ9_max_7cf53 : MethodName := ⟨RJ9, "max", "(II)I"⟩
abbrev cJ9_min_7cf53 : ByteArray := prog_22_method_69_code
def yJ9_min_7cf53 : MethodName := ⟨RJ9, "min", "(II)I"⟩
def RJ0 : String := "java/lang/String"
def TJ0 : u_T := fun k => match k with
  | 0 => ("java/lang/String", "value", "[B", true)
  | 1 => ("java/lang/String", "coder", "B", true)
  | 2 => ("java/lang/String", "hash", "I", false)
  | _ => ("java/lang/String", "hashIsZero", "Z", false)
def tyJ0 : Nat → FieldType := fun k => match k with
  | 0 => .array .byte
  | 1 => .byte
  | 2 => .int
  | _ => .boolean
abbrev wsJ00 : List Cond := u_ws RJ0 TJ0 4
theorem nmJ0 : ∀ a, a < 4 → ∀ b, b < 4 → a ≠ b → (TJ0 a).2.1 ≠ (TJ0 b).2.1 := by decide +kernel
theorem tyJ0_ok : ∀ k, k < 4 → parseFieldDescriptor (TJ0 k).2.2.1 = some (tyJ0 k) := by decide +kernel
abbrev cJ0_init_81219 : ByteArray := prog_24_method_53_code
def yJ0_init_81219 : MethodName := ⟨RJ0, "<init>", "(Ljava/lang/StringBuilder;)V"⟩
abbrev cJ0_length_8abf5 : ByteArray := prog_24_method_54_code
def yJ0_length_8abf5 : MethodName := ⟨RJ0, "length", "()I"⟩
abbrev cJ0_charAt_5068e : ByteArray := prog_24_method_56_code
def yJ0_charAt_5068e : MethodName := ⟨RJ0, "charAt", "(I)C"⟩
abbrev cJ0_indexOf_0f7a4 : ByteArray := prog_24_method_79_code
def yJ0_indexOf_0f7a4 : MethodName := ⟨RJ0, "indexOf", "(I)I"⟩
abbrev cJ0_indexOf_7cf53 : ByteArray := prog_24_method_80_code
def yJ0_indexOf_7cf53 : MethodName := ⟨RJ0, "indexOf", "(II)I"⟩
abbrev cJ0_substring_37a41 : ByteArray := prog_24_method_92_code
def yJ0_substring_37a41 : MethodName := ⟨RJ0, "substring", "(II)Ljava/lang/String;"⟩
abbrev cJ0_getBytes_840e7 : ByteArray := prog_24_method_147_code
def yJ0_getBytes_840e7 : MethodName := ⟨RJ0, "getBytes", "([BIB)V"⟩
abbrev cJ0_init_db425 : ByteArray := prog_24_method_150_code
def yJ0_init_db425 : MethodName := ⟨RJ0, "<init>", "(Ljava/lang/AbstractStringBuilder;Ljava/lang/Void;)V"⟩
abbrev cJ0_init_031fb : ByteArray := prog_24_method_151_code
def yJ0_init_031fb : MethodName := ⟨RJ0, "<init>", "([BB)V"⟩
abbrev cJ0_coder_7d493 : ByteArray := prog_24_method_152_code
def yJ0_coder_7d493 : MethodName := ⟨RJ0, "coder", "()B"⟩
abbrev cJ0_isLatin1_aae02 : ByteArray := prog_24_method_154_code
def yJ0_isLatin1_aae02 : MethodName := ⟨RJ0, "isLatin1", "()Z"⟩
abbrev cJ0_checkIndex_df160 : ByteArray := prog_24_method_155_code
def yJ0_checkIndex_df160 : MethodName := ⟨RJ0, "checkIndex", "(II)V"⟩
abbrev cJ0_checkBoundsOffCount_cabcc : ByteArray := prog_24_method_157_code
def yJ0_checkBoundsOffCount_cabcc : MethodName := ⟨RJ0, "checkBoundsOffCount", "(III)I"⟩
abbrev cJ0_checkBoundsBeginEnd_23922 : ByteArray := prog_24_method_158_code
def yJ0_checkBoundsBeginEnd_23922 : MethodName := ⟨RJ0, "checkBoundsBeginEnd", "(III)V"⟩
def RJ4 : String := "java/lang/StringBuilder"
def TJ4 : u_T := fun k => match k with
  | 0 => ("java/lang/AbstractStringBuilder", "value", "[B", false)
  | 1 => ("java/lang/AbstractStringBuilder", "coder", "B", false)
  | 2 => ("java/lang/AbstractStringBuilder", "maybeLatin1", "Z", false)
  | _ => ("java/lang/AbstractStringBuilder", "count", "I", false)
def tyJ4 : Nat → FieldType := fun k => match k with
  | 0 => .array .byte
  | 1 => .byte
  | 2 => .boolean
  | _ => .int
abbrev wsJ40 : List Cond := u_ws RJ4 TJ4 4
theorem nmJ4 : ∀ a, a < 4 → ∀ b, b < 4 → a ≠ b → (TJ4 a).2.1 ≠ (TJ4 b).2.1 := by decide +kernel
theorem tyJ4_ok : ∀ k, k < 4 → parseFieldDescriptor (TJ4 k).2.2.1 = some (tyJ4 k) := by decide +kernel
abbrev cJ4_init_da8c8 : ByteArray := prog_25_method_1_code
def yJ4_init_da8c8 : MethodName := ⟨RJ4, "<init>", "()V"⟩
abbrev cJ4_append_15ec4 : ByteArray := prog_25_method_7_code
def yJ4_append_15ec4 : MethodName := ⟨RJ4, "append", "(Ljava/lang/String;)Ljava/lang/StringBuilder;"⟩
abbrev cJ4_toString_0e30d : ByteArray := prog_25_method_42_code
def yJ4_toString_0e30d : MethodName := ⟨RJ4, "toString", "()Ljava/lang/String;"⟩
abbrev cJ4_length_8abf5 : ByteArray := prog_25_method_93_code
def yJ4_length_8abf5 : MethodName := ⟨RJ4, "length", "()I"⟩
def RJ1 : String := "java/lang/StringLatin1"
def TJ1 : u_T := fun k => match k with
  | _ => ("", "", "", false)
def tyJ1 : Nat → FieldType := fun k => match k with
  | _ => .int
abbrev wsJ10 : List Cond := u_ws RJ1 TJ1 0
theorem nmJ1 : ∀ a, a < 0 → ∀ b, b < 0 → a ≠ b → (TJ1 a).2.1 ≠ (TJ1 b).2.1 := by decide +kernel
theorem tyJ1_ok : ∀ k, k < 0 → parseFieldDescriptor (TJ1 k).2.2.1 = some (tyJ1 k) := by decide +kernel
abbrev cJ1_charAt_3b067 : ByteArray := prog_26_method_2_code
def yJ1_charAt_3b067 : MethodName := ⟨RJ1, "charAt", "([BI)C"⟩
abbrev cJ1_canEncode_9a6ad : ByteArray := prog_26_method_4_code
def yJ1_canEncode_9a6ad : MethodName := ⟨RJ1, "canEncode", "(I)Z"⟩
abbrev cJ1_indexOf_4cfef : ByteArray := prog_26_method_22_code
def yJ1_indexOf_4cfef : MethodName := ⟨RJ1, "indexOf", "([BIII)I"⟩
abbrev cJ1_indexOfChar_4cfef : ByteArray := prog_26_method_23_code
def yJ1_indexOfChar_4cfef : MethodName := ⟨RJ1, "indexOfChar", "([BIII)I"⟩
abbrev cJ1_newString_b4f7a : ByteArray := prog_26_method_47_code
def yJ1_newString_b4f7a : MethodName := ⟨RJ1, "newString", "([BII)Ljava/lang/String;"⟩
abbrev cJ1_inflate_0e8fd : ByteArray := prog_26_method_50_code
def yJ1_inflate_0e8fd : MethodName := ⟨RJ1, "inflate", "([BI[BII)V"⟩
def RJ2 : String := "java/lang/StringUTF16"
def TJ2 : u_T := fun k => match k with
  | _ => ("", "", "", false)
def tyJ2 : Nat → FieldType := fun k => match k with
  | _ => .int
abbrev wsJ20 : List Cond := u_ws RJ2 TJ2 0
theorem nmJ2 : ∀ a, a < 0 → ∀ b, b < 0 → a ≠ b → (TJ2 a).2.1 ≠ (TJ2 b).2.1 := by decide +kernel
theorem tyJ2_ok : ∀ k, k < 0 → parseFieldDescriptor (TJ2 k).2.2.1 = some (tyJ2 k) := by decide +kernel
abbrev cJ2_newBytesFor_77867 : ByteArray := prog_27_method_2_code
def yJ2_newBytesFor_77867 : MethodName := ⟨RJ2, "newBytesFor", "(I)[B"⟩
abbrev cJ2_newBytesLength_0f7a4 : ByteArray := prog_27_method_3_code
def yJ2_newBytesLength_0f7a4 : MethodName := ⟨RJ2, "newBytesLength", "(I)I"⟩
abbrev cJ2_putChar_b72d1 : ByteArray := prog_27_method_4_code
def yJ2_putChar_b72d1 : MethodName := ⟨RJ2, "putChar", "([BII)V"⟩
abbrev cJ2_getChar_3b067 : ByteArray := prog_27_method_5_code
def yJ2_getChar_3b067 : MethodName := ⟨RJ2, "getChar", "([BI)C"⟩
abbrev cJ2_length_9d52b : ByteArray := prog_27_method_6_code
def yJ2_length_9d52b : MethodName := ⟨RJ2, "length", "([B)I"⟩
abbrev cJ2_coderFromArrayLen_85cad : ByteArray := prog_27_method_15_code
def yJ2_coderFromArrayLen_85cad : MethodName := ⟨RJ2, "coderFromArrayLen", "([BI)B"⟩
abbrev cJ2_compress_39247 : ByteArray := prog_27_method_17_code
def yJ2_compress_39247 : MethodName := ⟨RJ2, "compress", "([BII)[B"⟩
abbrev cJ2_compress_5af95 : ByteArray := prog_27_method_22_code
def yJ2_compress_5af95 : MethodName := ⟨RJ2, "compress", "([BI[BII)I"⟩
abbrev cJ2_indexOf_4cfef : ByteArray := prog_27_method_40_code
def yJ2_indexOf_4cfef : MethodName := ⟨RJ2, "indexOf", "([BIII)I"⟩
abbrev cJ2_indexOfChar_4cfef : ByteArray := prog_27_method_47_code
def yJ2_indexOfChar_4cfef : MethodName := ⟨RJ2, "indexOfChar", "([BIII)I"⟩
abbrev cJ2_indexOfCharUnsafe_4cfef : ByteArray := prog_27_method_48_code
def yJ2_indexOfCharUnsafe_4cfef : MethodName := ⟨RJ2, "indexOfCharUnsafe", "([BIII)I"⟩
abbrev cJ2_indexOfSupplementary_4cfef : ByteArray := prog_27_method_49_code
def yJ2_indexOfSupplementary_4cfef : MethodName := ⟨RJ2, "indexOfSupplementary", "([BIII)I"⟩
abbrev cJ2_newString_b4f7a : ByteArray := prog_27_method_69_code
def yJ2_newString_b4f7a : MethodName := ⟨RJ2, "newString", "([BII)Ljava/lang/String;"⟩
abbrev cJ2_putCharsAt_cd4e5 : ByteArray := prog_27_method_81_code
def yJ2_putCharsAt_cd4e5 : MethodName := ⟨RJ2, "putCharsAt", "([BICCCC)I"⟩
abbrev cJ2_charAt_3b067 : ByteArray := prog_27_method_83_code
def yJ2_charAt_3b067 : MethodName := ⟨RJ2, "charAt", "([BI)C"⟩
abbrev cJ2_inflate_0e8fd : ByteArray := prog_27_method_86_code
def yJ2_inflate_0e8fd : MethodName := ⟨RJ2, "inflate", "([BI[BII)V"⟩
abbrev cJ2_checkIndex_2214a : ByteArray := prog_27_method_91_code
def yJ2_checkIndex_2214a : MethodName := ⟨RJ2, "checkIndex", "(I[B)V"⟩
abbrev cJ2_checkBoundsBeginEnd_d044e : ByteArray := prog_27_method_93_code
def yJ2_checkBoundsBeginEnd_d044e : MethodName := ⟨RJ2, "checkBoundsBeginEnd", "(II[B)V"⟩
abbrev cJ2_checkBoundsOffCount_d044e : ByteArray := prog_27_method_94_code
def yJ2_checkBoundsOffCount_d044e : MethodName := ⟨RJ2, "checkBoundsOffCount", "(II[B)V"⟩
def RJ10 : String := "java/lang/System"
def TJ10 : u_T := fun k => match k with
  | _ => ("", "", "", false)
def tyJ10 : Nat → FieldType := fun k => match k with
  | _ => .int
abbrev wsJ100 : List Cond := u_ws RJ10 TJ10 0
theorem nmJ10 : ∀ a, a < 0 → ∀ b, b < 0 → a ≠ b → (TJ10 a).2.1 ≠ (TJ10 b).2.1 := by decide +kernel
theorem tyJ10_ok : ∀ k, k < 0 → parseFieldDescriptor (TJ10 k).2.2.1 = some (tyJ10 k) := by decide +kernel
def RJxfd54e : String := "java/lang/constant/Constable"
def TJxfd54e : u_T := fun k => match k with
  | _ => ("", "", "", false)
def tyJxfd54e : Nat → FieldType := fun k => match k with
  | _ => .int
abbrev wsJxfd54e0 : List Cond := u_ws RJxfd54e TJxfd54e 0
theorem nmJxfd54e : ∀ a, a < 0 → ∀ b, b < 0 → a ≠ b → (TJxfd54e a).2.1 ≠ (TJxfd54e b).2.1 := by decide +kernel
theorem tyJxfd54e_ok : ∀ k, k < 0 → parseFieldDescriptor (TJxfd54e k).2.2.1 = some (tyJxfd54e k) := by decide +kernel
def RJx3cf43 : String := "java/lang/constant/ConstantDesc"
def TJx3cf43 : u_T := fun k => match k with
  | _ => ("", "", "", false)
def tyJx3cf43 : Nat → FieldType := fun k => match k with
  | _ => .int
abbrev wsJx3cf430 : List Cond := u_ws RJx3cf43 TJx3cf43 0
theorem nmJx3cf43 : ∀ a, a < 0 → ∀ b, b < 0 → a ≠ b → (TJx3cf43 a).2.1 ≠ (TJx3cf43 b).2.1 := by decide +kernel
theorem tyJx3cf43_ok : ∀ k, k < 0 → parseFieldDescriptor (TJx3cf43 k).2.2.1 = some (tyJx3cf43 k) := by decide +kernel
def RJ7 : String := "java/util/Arrays"
def TJ7 : u_T := fun k => match k with
  | _ => ("", "", "", false)
def tyJ7 : Nat → FieldType := fun k => match k with
  | _ => .int
abbrev wsJ70 : List Cond := u_ws RJ7 TJ7 0
theorem nmJ7 : ∀ a, a < 0 → ∀ b, b < 0 → a ≠ b → (TJ7 a).2.1 ≠ (TJ7 b).2.1 := by decide +kernel
theorem tyJ7_ok : ∀ k, k < 0 → parseFieldDescriptor (TJ7 k).2.2.1 = some (tyJ7 k) := by decide +kernel
abbrev cJ7_fill_53178 : ByteArray := prog_30_method_103_code
def yJ7_fill_53178 : MethodName := ⟨RJ7, "fill", "([II)V"⟩
abbrev cJ7_copyOf_9075b : ByteArray := prog_30_method_121_code
def yJ7_copyOf_9075b : MethodName := ⟨RJ7, "copyOf", "([BI)[B"⟩
abbrev cJ7_checkLength_df160 : ByteArray := prog_30_method_131_code
def yJ7_checkLength_df160 : MethodName := ⟨RJ7, "checkLength", "(II)V"⟩
abbrev cJ7_copyOfRange_39247 : ByteArray := prog_30_method_132_code
def yJ7_copyOfRange_39247 : MethodName := ⟨RJ7, "copyOfRange", "([BII)[B"⟩
abbrev cJ7_copyOfRangeByte_39247 : ByteArray := prog_30_method_133_code
def yJ7_copyOfRangeByte_39247 : MethodName := ⟨RJ7, "copyOfRangeByte", "([BII)[B"⟩
def RJ8 : String := "jdk/internal/util/ArraysSupport"
def TJ8 : u_T := fun k => match k with
  | _ => ("", "", "", false)
def tyJ8 : Nat → FieldType := fun k => match k with
  | _ => .int
abbrev wsJ80 : List Cond := u_ws RJ8 TJ8 0
theorem nmJ8 : ∀ a, a < 0 → ∀ b, b < 0 → a ≠ b → (TJ8 a).2.1 ≠ (TJ8 b).2.1 := by decide +kernel
theorem tyJ8_ok : ∀ k, k < 0 → parseFieldDescriptor (TJ8 k).2.2.1 = some (tyJ8 k) := by decide +kernel
abbrev cJ8_newLength_cabcc : ByteArray := prog_31_method_27_code
def yJ8_newLength_cabcc : MethodName := ⟨RJ8, "newLength", "(III)I"⟩
abbrev cJ8_hugeLength_7cf53 : ByteArray := prog_31_method_28_code
def yJ8_hugeLength_7cf53 : MethodName := ⟨RJ8, "hugeLength", "(II)I"⟩
def RJ3 : String := "jdk/internal/util/Preconditions"
def TJ3 : u_T := fun k => match k with
  | _ => ("", "", "", false)
def tyJ3 : Nat → FieldType := fun k => match k with
  | _ => .int
abbrev wsJ30 : List Cond := u_ws RJ3 TJ3 0
theorem nmJ3 : ∀ a, a < 0 → ∀ b, b < 0 → a ≠ b → (TJ3 a).2.1 ≠ (TJ3 b).2.1 := by decide +kernel
theorem tyJ3_ok : ∀ k, k < 0 → parseFieldDescriptor (TJ3 k).2.2.1 = some (tyJ3 k) := by decide +kernel
abbrev cJ3_checkIndex_8e157 : ByteArray := prog_32_method_11_code
def yJ3_checkIndex_8e157 : MethodName := ⟨RJ3, "checkIndex", "(IILjava/util/function/BiFunction;)I"⟩
abbrev cJ3_checkFromToIndex_8c36e : ByteArray := prog_32_method_12_code
def yJ3_checkFromToIndex_8c36e : MethodName := ⟨RJ3, "checkFromToIndex", "(IIILjava/util/function/BiFunction;)I"⟩
abbrev cJ3_checkFromIndexSize_8c36e : ByteArray := prog_32_method_13_code
def yJ3_checkFromIndexSize_8c36e : MethodName := ⟨RJ3, "checkFromIndexSize", "(IIILjava/util/function/BiFunction;)I"⟩
def RL : String := "QuipuKeepersLaw"
abbrev cL_below : ByteArray := method_2_code
def yL_below : MethodName := ⟨RL, "below", "(II)I"⟩
abbrev cL_cell : ByteArray := method_3_code
def yL_cell : MethodName := ⟨RL, "cell", "([II)I"⟩
abbrev cL_letter : ByteArray := method_4_code
def yL_letter : MethodName := ⟨RL, "letter", "(Ljava/lang/String;I)I"⟩
abbrev cL_four : ByteArray := method_5_code
def yL_four : MethodName := ⟨RL, "four", "(Ljava/lang/String;I)I"⟩
abbrev cL_say : ByteArray := method_6_code
def yL_say : MethodName := ⟨RL, "say", "(LQuipuKeepers;Ljava/lang/String;)V"⟩
abbrev cL_num : ByteArray := method_7_code
def yL_num : MethodName := ⟨RL, "num", "(I)Ljava/lang/String;"⟩
abbrev cL_places : ByteArray := method_8_code
def yL_places : MethodName := ⟨RL, "places", "(I)I"⟩
abbrev cL_knots : ByteArray := method_9_code
def yL_knots : MethodName := ⟨RL, "knots", "(I)I"⟩
abbrev cL_turns : ByteArray := method_10_code
def yL_turns : MethodName := ⟨RL, "turns", "(I)I"⟩
abbrev cL_first : ByteArray := method_11_code
def yL_first : MethodName := ⟨RL, "first", "([II)I"⟩
abbrev cL_care : ByteArray := method_12_code
def yL_care : MethodName := ⟨RL, "care", "([II)I"⟩
abbrev cL_rank : ByteArray := method_13_code
def yL_rank : MethodName := ⟨RL, "rank", "([II)I"⟩
abbrev cL_adds : ByteArray := method_14_code
def yL_adds : MethodName := ⟨RL, "adds", "([I)I"⟩
abbrev cL_since : ByteArray := method_15_code
def yL_since : MethodName := ⟨RL, "since", "([I)I"⟩
abbrev cL_part : ByteArray := method_16_code
def yL_part : MethodName := ⟨RL, "part", "([I)I"⟩
abbrev cL_each : ByteArray := method_17_code
def yL_each : MethodName := ⟨RL, "each", "([I)I"⟩
abbrev cL_list : ByteArray := method_18_code
def yL_list : MethodName := ⟨RL, "list", "([I[Ljava/lang/String;)Ljava/lang/String;"⟩
abbrev cL_quipu : ByteArray := method_19_code
def yL_quipu : MethodName := ⟨RL, "quipu", "([I)LQuipuKeepers;"⟩
abbrev cL_law : ByteArray := code
def yL_law : MethodName := ⟨RL, "law", "([I)Z"⟩
abbrev cL_canHang : ByteArray := method_21_code
def yL_canHang : MethodName := ⟨RL, "canHang", "(LQuipuKeepers;II)Z"⟩
abbrev cL_isAll : ByteArray := method_22_code
def yL_isAll : MethodName := ⟨RL, "isAll", "(LQuipuKeepers;)Z"⟩
abbrev vwCl : List vw_C := [(RX0, TX0, 2), (RX1, TX1, 3), (RX4, TX4, 5), (RX5, TX5, 11), (RX6, TX6, 2), (RX7, TX7, 9), (RX8, TX8, 7), (RX9, TX9, 18), (RX10, TX10, 10), (RJ0, TJ0, 4), (RJ4, TJ4, 4)]
