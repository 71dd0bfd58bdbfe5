/-! ===== BEGIN printed: names, fields, word lists, decode rows ===== -/
def RX0 : String := "OddRulers$CaseText"
def TX0 : u_T := fun k => match k with
  | 0 => ("OddRulers$CaseText", "signs", "[C", true)
  | 1 => ("OddRulers$CaseText", "size", "I", false)
  | 2 => ("OddRulers$CaseText", "at", "I", false)
  | 3 => ("OddRulers$CaseText", "fault", "I", false)
  | 4 => ("OddRulers$CaseText", "action", "I", false)
  | 5 => ("OddRulers$CaseText", "first", "I", false)
  | 6 => ("OddRulers$CaseText", "second", "I", false)
  | _ => ("OddRulers$CaseText", "on", "Z", false)
def tyX0 : Nat → FieldType := fun k => match k with
  | 0 => .array .char
  | 1 => .int
  | 2 => .int
  | 3 => .int
  | 4 => .int
  | 5 => .int
  | 6 => .int
  | _ => .boolean
abbrev wsX00 : List Cond := u_ws RX0 TX0 8
theorem nmX0 : ∀ a, a < 8 → ∀ b, b < 8 → a ≠ b → (TX0 a).2.1 ≠ (TX0 b).2.1 := by decide +kernel
theorem tyX0_ok : ∀ k, k < 8 → parseFieldDescriptor (TX0 k).2.2.1 = some (tyX0 k) := by decide +kernel
abbrev cX0_init : ByteArray := prog_2_method_1_code
def yX0_init : MethodName := ⟨RX0, "<init>", "()V"⟩
abbrev cX0_add : ByteArray := prog_2_method_2_code
def yX0_add : MethodName := ⟨RX0, "add", "(C)Z"⟩
abbrev cX0_size : ByteArray := prog_2_method_3_code
def yX0_size : MethodName := ⟨RX0, "size", "()I"⟩
abbrev cX0_empty : ByteArray := prog_2_method_4_code
def yX0_empty : MethodName := ⟨RX0, "empty", "()I"⟩
abbrev cX0_firstFault : ByteArray := prog_2_method_5_code
def yX0_firstFault : MethodName := ⟨RX0, "firstFault", "()I"⟩
abbrev cX0_doCommands : ByteArray := prog_2_method_6_code
def yX0_doCommands : MethodName := ⟨RX0, "doCommands", "(LOddRulers$State;)I"⟩
abbrev cX0_open : ByteArray := prog_2_method_7_code
def yX0_open : MethodName := ⟨RX0, "open", "()V"⟩
abbrev cX0_sign : ByteArray := prog_2_method_8_code
def yX0_sign : MethodName := ⟨RX0, "sign", "(I)C"⟩
abbrev cX0_readCommand : ByteArray := prog_2_method_9_code
def yX0_readCommand : MethodName := ⟨RX0, "readCommand", "()V"⟩
abbrev cX0_hold : ByteArray := prog_2_method_10_code
def yX0_hold : MethodName := ⟨RX0, "hold", "(III)V"⟩
abbrev cX0_rulerNumber : ByteArray := prog_2_method_11_code
def yX0_rulerNumber : MethodName := ⟨RX0, "rulerNumber", "()I"⟩
abbrev cX0_number : ByteArray := prog_2_method_12_code
def yX0_number : MethodName := ⟨RX0, "number", "(III)I"⟩
def RX1 : String := "OddRulers$Laid"
def TX1 : u_T := fun k => match k with
  | 0 => ("OddRulers$Laid", "ruler", "I", false)
  | 1 => ("OddRulers$Laid", "number", "I", false)
  | 2 => ("OddRulers$Laid", "forward", "Z", false)
  | _ => ("OddRulers$Laid", "end", "I", false)
def tyX1 : Nat → FieldType := fun k => match k with
  | 0 => .int
  | 1 => .int
  | 2 => .boolean
  | _ => .int
abbrev wsX10 : List Cond := u_ws RX1 TX1 4
theorem nmX1 : ∀ a, a < 4 → ∀ b, b < 4 → a ≠ b → (TX1 a).2.1 ≠ (TX1 b).2.1 := by decide +kernel
theorem tyX1_ok : ∀ k, k < 4 → parseFieldDescriptor (TX1 k).2.2.1 = some (tyX1 k) := by decide +kernel
abbrev cX1_init : ByteArray := prog_3_method_1_code
def yX1_init : MethodName := ⟨RX1, "<init>", "()V"⟩
abbrev cX1_begin : ByteArray := prog_3_method_2_code
def yX1_begin : MethodName := ⟨RX1, "begin", "()V"⟩
abbrev cX1_note : ByteArray := prog_3_method_3_code
def yX1_note : MethodName := ⟨RX1, "note", "(IIZI)V"⟩
abbrev cX1_end : ByteArray := prog_3_method_4_code
def yX1_end : MethodName := ⟨RX1, "end", "()I"⟩
abbrev cX1_number : ByteArray := prog_3_method_5_code
def yX1_number : MethodName := ⟨RX1, "number", "(I)I"⟩
def RX2 : String := "OddRulers$Memory"
def TX2 : u_T := fun k => match k with
  | 0 => ("OddRulers$Memory", "states", "[LOddRulers$State;", true)
  | 1 => ("OddRulers$Memory", "next", "I", false)
  | _ => ("OddRulers$Memory", "size", "I", false)
def tyX2 : Nat → FieldType := fun k => match k with
  | 0 => .array (.object "OddRulers$State")
  | 1 => .int
  | _ => .int
abbrev wsX20 : List Cond := u_ws RX2 TX2 3
theorem nmX2 : ∀ a, a < 3 → ∀ b, b < 3 → a ≠ b → (TX2 a).2.1 ≠ (TX2 b).2.1 := by decide +kernel
theorem tyX2_ok : ∀ k, k < 3 → parseFieldDescriptor (TX2 k).2.2.1 = some (tyX2 k) := by decide +kernel
abbrev cX2_init : ByteArray := prog_4_method_1_code
def yX2_init : MethodName := ⟨RX2, "<init>", "()V"⟩
abbrev cX2_keep : ByteArray := prog_4_method_2_code
def yX2_keep : MethodName := ⟨RX2, "keep", "(LOddRulers$State;)V"⟩
abbrev cX2_giveBack : ByteArray := prog_4_method_3_code
def yX2_giveBack : MethodName := ⟨RX2, "giveBack", "(LOddRulers$State;)Z"⟩
abbrev cX2_forget : ByteArray := prog_4_method_4_code
def yX2_forget : MethodName := ⟨RX2, "forget", "()V"⟩
abbrev cX2_size : ByteArray := prog_4_method_5_code
def yX2_size : MethodName := ⟨RX2, "size", "()I"⟩
def RX3 : String := "OddRulers$Reach"
def TX3 : u_T := fun k => match k with
  | 0 => ("OddRulers$Reach", "steps", "[I", true)
  | 1 => ("OddRulers$Reach", "line", "[I", true)
  | 2 => ("OddRulers$Reach", "lined", "I", false)
  | 3 => ("OddRulers$Reach", "reached", "[J", true)
  | _ => ("OddRulers$Reach", "grown", "[J", true)
def tyX3 : Nat → FieldType := fun k => match k with
  | 0 => .array .int
  | 1 => .array .int
  | 2 => .int
  | 3 => .array .long
  | _ => .array .long
abbrev wsX30 : List Cond := u_ws RX3 TX3 5
theorem nmX3 : ∀ a, a < 5 → ∀ b, b < 5 → a ≠ b → (TX3 a).2.1 ≠ (TX3 b).2.1 := by decide +kernel
theorem tyX3_ok : ∀ k, k < 5 → parseFieldDescriptor (TX3 k).2.2.1 = some (tyX3 k) := by decide +kernel
abbrev cX3_init : ByteArray := prog_5_method_1_code
def yX3_init : MethodName := ⟨RX3, "<init>", "()V"⟩
abbrev cX3_walk : ByteArray := prog_5_method_2_code
def yX3_walk : MethodName := ⟨RX3, "walk", "(IJ)V"⟩
abbrev cX3_visit : ByteArray := prog_5_method_3_code
def yX3_visit : MethodName := ⟨RX3, "visit", "(II)V"⟩
abbrev cX3_stepsTo : ByteArray := prog_5_method_4_code
def yX3_stepsTo : MethodName := ⟨RX3, "stepsTo", "(I)I"⟩
abbrev cX3_fewestByLengths : ByteArray := prog_5_method_5_code
def yX3_fewestByLengths : MethodName := ⟨RX3, "fewestByLengths", "(IJ)I"⟩
abbrev cX3_fewestBySets : ByteArray := prog_5_method_6_code
def yX3_fewestBySets : MethodName := ⟨RX3, "fewestBySets", "(IJ)I"⟩
abbrev cX3_layAtMost : ByteArray := prog_5_method_7_code
def yX3_layAtMost : MethodName := ⟨RX3, "layAtMost", "(IJ)V"⟩
abbrev cX3_layNothing : ByteArray := prog_5_method_8_code
def yX3_layNothing : MethodName := ⟨RX3, "layNothing", "()V"⟩
abbrev cX3_layOneMore : ByteArray := prog_5_method_9_code
def yX3_layOneMore : MethodName := ⟨RX3, "layOneMore", "(J)Z"⟩
abbrev cX3_addMoved : ByteArray := prog_5_method_10_code
def yX3_addMoved : MethodName := ⟨RX3, "addMoved", "(I)V"⟩
abbrev cX3_takeGrown : ByteArray := prog_5_method_11_code
def yX3_takeGrown : MethodName := ⟨RX3, "takeGrown", "()Z"⟩
abbrev cX3_word : ByteArray := prog_5_method_12_code
def yX3_word : MethodName := ⟨RX3, "word", "(I)J"⟩
abbrev cX3_setGrown : ByteArray := prog_5_method_13_code
def yX3_setGrown : MethodName := ⟨RX3, "setGrown", "(IJ)V"⟩
abbrev cX3_isLaid : ByteArray := prog_5_method_14_code
def yX3_isLaid : MethodName := ⟨RX3, "isLaid", "(I)Z"⟩
abbrev cX3_countLaid : ByteArray := prog_5_method_15_code
def yX3_countLaid : MethodName := ⟨RX3, "countLaid", "(I)I"⟩
abbrev cX3_startsGap : ByteArray := prog_5_method_16_code
def yX3_startsGap : MethodName := ⟨RX3, "startsGap", "(I)Z"⟩
abbrev cX3_countGaps : ByteArray := prog_5_method_17_code
def yX3_countGaps : MethodName := ⟨RX3, "countGaps", "(I)I"⟩
abbrev cX3_gapStart : ByteArray := prog_5_method_18_code
def yX3_gapStart : MethodName := ⟨RX3, "gapStart", "(II)I"⟩
abbrev cX3_gapLength : ByteArray := prog_5_method_19_code
def yX3_gapLength : MethodName := ⟨RX3, "gapLength", "(II)I"⟩
def RX4 : String := "OddRulers$State"
def TX4 : u_T := fun k => match k with
  | 0 => ("OddRulers$State", "sizes", "[I", true)
  | 1 => ("OddRulers$State", "rows", "[J", true)
  | 2 => ("OddRulers$State", "rulers", "I", false)
  | 3 => ("OddRulers$State", "allowed", "I", false)
  | _ => ("OddRulers$State", "range", "I", false)
def tyX4 : Nat → FieldType := fun k => match k with
  | 0 => .array .int
  | 1 => .array .long
  | 2 => .int
  | 3 => .int
  | _ => .int
abbrev wsX40 : List Cond := u_ws RX4 TX4 5
theorem nmX4 : ∀ a, a < 5 → ∀ b, b < 5 → a ≠ b → (TX4 a).2.1 ≠ (TX4 b).2.1 := by decide +kernel
theorem tyX4_ok : ∀ k, k < 5 → parseFieldDescriptor (TX4 k).2.2.1 = some (tyX4 k) := by decide +kernel
abbrev cX4_init : ByteArray := prog_6_method_1_code
def yX4_init : MethodName := ⟨RX4, "<init>", "()V"⟩
abbrev cX4_begin : ByteArray := prog_6_method_2_code
def yX4_begin : MethodName := ⟨RX4, "begin", "()V"⟩
abbrev cX4_become : ByteArray := prog_6_method_3_code
def yX4_become : MethodName := ⟨RX4, "become", "(LOddRulers$State;)V"⟩
abbrev cX4_put : ByteArray := prog_6_method_4_code
def yX4_put : MethodName := ⟨RX4, "put", "(IIJ)V"⟩
abbrev cX4_rulers : ByteArray := prog_6_method_5_code
def yX4_rulers : MethodName := ⟨RX4, "rulers", "()I"⟩
abbrev cX4_allowed : ByteArray := prog_6_method_6_code
def yX4_allowed : MethodName := ⟨RX4, "allowed", "()I"⟩
abbrev cX4_range : ByteArray := prog_6_method_7_code
def yX4_range : MethodName := ⟨RX4, "range", "()I"⟩
abbrev cX4_hasRuler : ByteArray := prog_6_method_8_code
def yX4_hasRuler : MethodName := ⟨RX4, "hasRuler", "(I)Z"⟩
abbrev cX4_size : ByteArray := prog_6_method_9_code
def yX4_size : MethodName := ⟨RX4, "size", "(I)I"⟩
abbrev cX4_row : ByteArray := prog_6_method_10_code
def yX4_row : MethodName := ⟨RX4, "row", "(I)J"⟩
abbrev cX4_hasPlace : ByteArray := prog_6_method_11_code
def yX4_hasPlace : MethodName := ⟨RX4, "hasPlace", "(II)Z"⟩
abbrev cX4_hasMark : ByteArray := prog_6_method_12_code
def yX4_hasMark : MethodName := ⟨RX4, "hasMark", "(II)Z"⟩
abbrev cX4_isEnd : ByteArray := prog_6_method_13_code
def yX4_isEnd : MethodName := ⟨RX4, "isEnd", "(II)Z"⟩
abbrev cX4_marksOf : ByteArray := prog_6_method_14_code
def yX4_marksOf : MethodName := ⟨RX4, "marksOf", "(I)I"⟩
abbrev cX4_innerMarks : ByteArray := prog_6_method_15_code
def yX4_innerMarks : MethodName := ⟨RX4, "innerMarks", "(I)J"⟩
abbrev cX4_spansOf : ByteArray := prog_6_method_16_code
def yX4_spansOf : MethodName := ⟨RX4, "spansOf", "(I)I"⟩
abbrev cX4_allMarks : ByteArray := prog_6_method_17_code
def yX4_allMarks : MethodName := ⟨RX4, "allMarks", "()I"⟩
abbrev cX4_allSpans : ByteArray := prog_6_method_18_code
def yX4_allSpans : MethodName := ⟨RX4, "allSpans", "()I"⟩
abbrev cX4_spansOfLength : ByteArray := prog_6_method_19_code
def yX4_spansOfLength : MethodName := ⟨RX4, "spansOfLength", "(I)I"⟩
abbrev cX4_spread : ByteArray := prog_6_method_20_code
def yX4_spread : MethodName := ⟨RX4, "spread", "()J"⟩
abbrev cX4_spreadWithout : ByteArray := prog_6_method_21_code
def yX4_spreadWithout : MethodName := ⟨RX4, "spreadWithout", "(I)J"⟩
abbrev cX4_lowerMark : ByteArray := prog_6_method_22_code
def yX4_lowerMark : MethodName := ⟨RX4, "lowerMark", "(II)I"⟩
abbrev cX4_greaterMark : ByteArray := prog_6_method_23_code
def yX4_greaterMark : MethodName := ⟨RX4, "greaterMark", "(II)I"⟩
abbrev cX4_refusal : ByteArray := prog_6_method_24_code
def yX4_refusal : MethodName := ⟨RX4, "refusal", "(IIIZ)I"⟩
abbrev cX4_isSetting : ByteArray := prog_6_method_25_code
def yX4_isSetting : MethodName := ⟨RX4, "isSetting", "(II)Z"⟩
abbrev cX4_attempt : ByteArray := prog_6_method_26_code
def yX4_attempt : MethodName := ⟨RX4, "attempt", "(IIIZ)Z"⟩
abbrev cX4_perform : ByteArray := prog_6_method_27_code
def yX4_perform : MethodName := ⟨RX4, "perform", "(IIIZ)I"⟩
abbrev cX4_addRuler : ByteArray := prog_6_method_28_code
def yX4_addRuler : MethodName := ⟨RX4, "addRuler", "(I)I"⟩
abbrev cX4_putMark : ByteArray := prog_6_method_29_code
def yX4_putMark : MethodName := ⟨RX4, "putMark", "(IIZ)I"⟩
abbrev cX4_shorten : ByteArray := prog_6_method_30_code
def yX4_shorten : MethodName := ⟨RX4, "shorten", "(II)I"⟩
abbrev cX4_reverse : ByteArray := prog_6_method_31_code
def yX4_reverse : MethodName := ⟨RX4, "reverse", "(I)I"⟩
abbrev cX4_adjust : ByteArray := prog_6_method_32_code
def yX4_adjust : MethodName := ⟨RX4, "adjust", "(II)I"⟩
def RX5 : String := "OddRulers"
def TX5 : u_T := fun k => match k with
  | 0 => ("OddRulers", "present", "LOddRulers$State;", true)
  | 1 => ("OddRulers", "copy", "LOddRulers$State;", true)
  | 2 => ("OddRulers", "firstSlot", "LOddRulers$State;", true)
  | 3 => ("OddRulers", "secondSlot", "LOddRulers$State;", true)
  | 4 => ("OddRulers", "firstFilled", "Z", false)
  | 5 => ("OddRulers", "secondFilled", "Z", false)
  | 6 => ("OddRulers", "memory", "LOddRulers$Memory;", true)
  | 7 => ("OddRulers", "text", "LOddRulers$CaseText;", true)
  | 8 => ("OddRulers", "reach", "LOddRulers$Reach;", true)
  | _ => ("OddRulers", "laid", "LOddRulers$Laid;", true)
def tyX5 : Nat → FieldType := fun k => match k with
  | 0 => .object "OddRulers$State"
  | 1 => .object "OddRulers$State"
  | 2 => .object "OddRulers$State"
  | 3 => .object "OddRulers$State"
  | 4 => .boolean
  | 5 => .boolean
  | 6 => .object "OddRulers$Memory"
  | 7 => .object "OddRulers$CaseText"
  | 8 => .object "OddRulers$Reach"
  | _ => .object "OddRulers$Laid"
abbrev wsX50 : List Cond := u_ws RX5 TX5 10
theorem nmX5 : ∀ a, a < 10 → ∀ b, b < 10 → a ≠ b → (TX5 a).2.1 ≠ (TX5 b).2.1 := by decide +kernel
theorem tyX5_ok : ∀ k, k < 10 → parseFieldDescriptor (TX5 k).2.2.1 = some (tyX5 k) := by decide +kernel
abbrev cX5_init : ByteArray := prog_1_method_1_code
def yX5_init : MethodName := ⟨RX5, "<init>", "()V"⟩
abbrev cX5_append : ByteArray := prog_1_method_2_code
def yX5_append : MethodName := ⟨RX5, "append", "(I)I"⟩
abbrev cX5_clearText : ByteArray := prog_1_method_3_code
def yX5_clearText : MethodName := ⟨RX5, "clearText", "()I"⟩
abbrev cX5_errorPosition : ByteArray := prog_1_method_4_code
def yX5_errorPosition : MethodName := ⟨RX5, "errorPosition", "()I"⟩
abbrev cX5_load : ByteArray := prog_1_method_5_code
def yX5_load : MethodName := ⟨RX5, "load", "()I"⟩
abbrev cX5_about : ByteArray := prog_1_method_6_code
def yX5_about : MethodName := ⟨RX5, "about", "(I)I"⟩
abbrev cX5_rulerOf : ByteArray := prog_1_method_7_code
def yX5_rulerOf : MethodName := ⟨RX5, "rulerOf", "(II)I"⟩
abbrev cX5_isMarked : ByteArray := prog_1_method_8_code
def yX5_isMarked : MethodName := ⟨RX5, "isMarked", "(II)I"⟩
abbrev cX5_span : ByteArray := prog_1_method_9_code
def yX5_span : MethodName := ⟨RX5, "span", "(III)I"⟩
abbrev cX5_gap : ByteArray := prog_1_method_10_code
def yX5_gap : MethodName := ⟨RX5, "gap", "(II)I"⟩
abbrev cX5_ruler : ByteArray := prog_1_method_11_code
def yX5_ruler : MethodName := ⟨RX5, "ruler", "(I)I"⟩
abbrev cX5_mark : ByteArray := prog_1_method_12_code
def yX5_mark : MethodName := ⟨RX5, "mark", "(IIZ)I"⟩
abbrev cX5_cut : ByteArray := prog_1_method_13_code
def yX5_cut : MethodName := ⟨RX5, "cut", "(II)I"⟩
abbrev cX5_turn : ByteArray := prog_1_method_14_code
def yX5_turn : MethodName := ⟨RX5, "turn", "(I)I"⟩
abbrev cX5_set : ByteArray := prog_1_method_15_code
def yX5_set : MethodName := ⟨RX5, "set", "(II)I"⟩
abbrev cX5_undo : ByteArray := prog_1_method_16_code
def yX5_undo : MethodName := ⟨RX5, "undo", "()I"⟩
abbrev cX5_act : ByteArray := prog_1_method_17_code
def yX5_act : MethodName := ⟨RX5, "act", "(IIIZ)I"⟩
abbrev cX5_refuse : ByteArray := prog_1_method_18_code
def yX5_refuse : MethodName := ⟨RX5, "refuse", "(I)V"⟩
abbrev cX5_checkRuler : ByteArray := prog_1_method_19_code
def yX5_checkRuler : MethodName := ⟨RX5, "checkRuler", "(I)V"⟩
abbrev cX5_fewest : ByteArray := prog_1_method_20_code
def yX5_fewest : MethodName := ⟨RX5, "fewest", "(II)I"⟩
abbrev cX5_laying : ByteArray := prog_1_method_21_code
def yX5_laying : MethodName := ⟨RX5, "laying", "(III)I"⟩
abbrev cX5_why : ByteArray := prog_1_method_22_code
def yX5_why : MethodName := ⟨RX5, "why", "(I)I"⟩
abbrev cX5_bestMark : ByteArray := prog_1_method_23_code
def yX5_bestMark : MethodName := ⟨RX5, "bestMark", "(II)I"⟩
abbrev cX5_needless : ByteArray := prog_1_method_24_code
def yX5_needless : MethodName := ⟨RX5, "needless", "(I)I"⟩
abbrev cX5_twin : ByteArray := prog_1_method_25_code
def yX5_twin : MethodName := ⟨RX5, "twin", "(IIZ)I"⟩
abbrev cX5_layings : ByteArray := prog_1_method_26_code
def yX5_layings : MethodName := ⟨RX5, "layings", "()I"⟩
abbrev cX5_checkLength : ByteArray := prog_1_method_27_code
def yX5_checkLength : MethodName := ⟨RX5, "checkLength", "(I)V"⟩
abbrev cX5_laidLengths : ByteArray := prog_1_method_28_code
def yX5_laidLengths : MethodName := ⟨RX5, "laidLengths", "(LOddRulers$State;)I"⟩
abbrev cX5_laidBy : ByteArray := prog_1_method_29_code
def yX5_laidBy : MethodName := ⟨RX5, "laidBy", "(J)I"⟩
abbrev cX5_gaps : ByteArray := prog_1_method_30_code
def yX5_gaps : MethodName := ⟨RX5, "gaps", "(LOddRulers$State;)I"⟩
abbrev cX5_layNext : ByteArray := prog_1_method_31_code
def yX5_layNext : MethodName := ⟨RX5, "layNext", "(I)V"⟩
abbrev cX5_runScript : ByteArray := prog_1_method_32_code
def yX5_runScript : MethodName := ⟨RX5, "runScript", "(IJ)I"⟩
abbrev cX5_simulate : ByteArray := prog_1_method_33_code
def yX5_simulate : MethodName := ⟨RX5, "simulate", "(JI)I"⟩
abbrev cX5_runGroup : ByteArray := prog_1_method_34_code
def yX5_runGroup : MethodName := ⟨RX5, "runGroup", "(ILOddRulers$State;)Z"⟩
abbrev cX5_laysWithin : ByteArray := prog_1_method_35_code
def yX5_laysWithin : MethodName := ⟨RX5, "laysWithin", "(IILOddRulers$State;)Z"⟩
abbrev cX5_marksAs : ByteArray := prog_1_method_36_code
def yX5_marksAs : MethodName := ⟨RX5, "marksAs", "(IIZLOddRulers$State;)Z"⟩
abbrev cX5_takeTurn : ByteArray := prog_1_method_37_code
def yX5_takeTurn : MethodName := ⟨RX5, "takeTurn", "(ILOddRulers$State;)V"⟩
abbrev cX5_save : ByteArray := prog_1_method_38_code
def yX5_save : MethodName := ⟨RX5, "save", "(I)I"⟩
abbrev cX5_restore : ByteArray := prog_1_method_39_code
def yX5_restore : MethodName := ⟨RX5, "restore", "(I)I"⟩
abbrev cX5_checkSlot : ByteArray := prog_1_method_40_code
def yX5_checkSlot : MethodName := ⟨RX5, "checkSlot", "(I)V"⟩
abbrev cX5_hasBit : ByteArray := prog_1_method_41_code
def yX5_hasBit : MethodName := ⟨RX5, "hasBit", "(JI)Z"⟩
abbrev cX5_lowest : ByteArray := prog_1_method_42_code
def yX5_lowest : MethodName := ⟨RX5, "lowest", "(J)I"⟩
abbrev cX5_reversed : ByteArray := prog_1_method_43_code
def yX5_reversed : MethodName := ⟨RX5, "reversed", "(JI)J"⟩
abbrev cX5_pairsApart : ByteArray := prog_1_method_44_code
def yX5_pairsApart : MethodName := ⟨RX5, "pairsApart", "(JI)I"⟩
abbrev cX5_spreadOf : ByteArray := prog_1_method_45_code
def yX5_spreadOf : MethodName := ⟨RX5, "spreadOf", "(J)J"⟩
abbrev cX5_commonest : ByteArray := prog_1_method_46_code
def yX5_commonest : MethodName := ⟨RX5, "commonest", "(J)I"⟩
abbrev cX5_leastMissing : ByteArray := prog_1_method_47_code
def yX5_leastMissing : MethodName := ⟨RX5, "leastMissing", "(J)I"⟩
abbrev cX5_commonDivisor : ByteArray := prog_1_method_48_code
def yX5_commonDivisor : MethodName := ⟨RX5, "commonDivisor", "(J)I"⟩
abbrev cX5_dividesAll : ByteArray := prog_1_method_49_code
def yX5_dividesAll : MethodName := ⟨RX5, "dividesAll", "(IJ)Z"⟩
def RX6 : String := "OddRulersModel"
def TX6 : u_T := fun k => match k with
  | 0 => ("OddRulersModel", "refusal", "I", false)
  | 1 => ("OddRulersModel", "text", "[I", true)
  | 2 => ("OddRulersModel", "size", "I", false)
  | 3 => ("OddRulersModel", "now", "[I", true)
  | 4 => ("OddRulersModel", "trial", "[I", true)
  | 5 => ("OddRulersModel", "diary", "[I", true)
  | 6 => ("OddRulersModel", "acts", "I", false)
  | 7 => ("OddRulersModel", "kept", "[I", true)
  | 8 => ("OddRulersModel", "isKept", "[Z", true)
  | 9 => ("OddRulersModel", "spans", "[I", true)
  | 10 => ("OddRulersModel", "far", "[I", true)
  | 11 => ("OddRulersModel", "row", "[I", true)
  | 12 => ("OddRulersModel", "spot", "I", false)
  | _ => ("OddRulersModel", "out", "I", false)
def tyX6 : Nat → FieldType := fun k => match k with
  | 0 => .int
  | 1 => .array .int
  | 2 => .int
  | 3 => .array .int
  | 4 => .array .int
  | 5 => .array .int
  | 6 => .int
  | 7 => .array .int
  | 8 => .array .boolean
  | 9 => .array .int
  | 10 => .array .int
  | 11 => .array .int
  | 12 => .int
  | _ => .int
abbrev wsX60 : List Cond := u_ws RX6 TX6 14
theorem nmX6 : ∀ a, a < 14 → ∀ b, b < 14 → a ≠ b → (TX6 a).2.1 ≠ (TX6 b).2.1 := by decide +kernel
theorem tyX6_ok : ∀ k, k < 14 → parseFieldDescriptor (TX6 k).2.2.1 = some (tyX6 k) := by decide +kernel
abbrev cX6_init : ByteArray := prog_8_method_1_code
def yX6_init : MethodName := ⟨RX6, "<init>", "()V"⟩
abbrev cX6_thrown : ByteArray := prog_8_method_2_code
def yX6_thrown : MethodName := ⟨RX6, "thrown", "()I"⟩
abbrev cX6_refused : ByteArray := prog_8_method_3_code
def yX6_refused : MethodName := ⟨RX6, "refused", "(I)Z"⟩
abbrev cX6_in : ByteArray := prog_8_method_4_code
def yX6_in : MethodName := ⟨RX6, "in", "(JJJ)Z"⟩
abbrev cX6_copyState : ByteArray := prog_8_method_5_code
def yX6_copyState : MethodName := ⟨RX6, "copyState", "([II[II)V"⟩
abbrev cX6_clear : ByteArray := prog_8_method_6_code
def yX6_clear : MethodName := ⟨RX6, "clear", "([I)V"⟩
abbrev cX6_length : ByteArray := prog_8_method_7_code
def yX6_length : MethodName := ⟨RX6, "length", "([II)I"⟩
abbrev cX6_at : ByteArray := prog_8_method_8_code
def yX6_at : MethodName := ⟨RX6, "at", "(II)I"⟩
abbrev cX6_isRuler : ByteArray := prog_8_method_9_code
def yX6_isRuler : MethodName := ⟨RX6, "isRuler", "([II)Z"⟩
abbrev cX6_isPlace : ByteArray := prog_8_method_10_code
def yX6_isPlace : MethodName := ⟨RX6, "isPlace", "([III)Z"⟩
abbrev cX6_isEnd : ByteArray := prog_8_method_11_code
def yX6_isEnd : MethodName := ⟨RX6, "isEnd", "([III)Z"⟩
abbrev cX6_isSetting : ByteArray := prog_8_method_12_code
def yX6_isSetting : MethodName := ⟨RX6, "isSetting", "(II)Z"⟩
abbrev cX6_marks : ByteArray := prog_8_method_13_code
def yX6_marks : MethodName := ⟨RX6, "marks", "([II)I"⟩
abbrev cX6_allMarks : ByteArray := prog_8_method_14_code
def yX6_allMarks : MethodName := ⟨RX6, "allMarks", "([I)I"⟩
abbrev cX6_noSpans : ByteArray := prog_8_method_15_code
def yX6_noSpans : MethodName := ⟨RX6, "noSpans", "()V"⟩
abbrev cX6_addSpans : ByteArray := prog_8_method_16_code
def yX6_addSpans : MethodName := ⟨RX6, "addSpans", "([II)V"⟩
abbrev cX6_findSpans : ByteArray := prog_8_method_17_code
def yX6_findSpans : MethodName := ⟨RX6, "findSpans", "([I)V"⟩
abbrev cX6_unlike : ByteArray := prog_8_method_18_code
def yX6_unlike : MethodName := ⟨RX6, "unlike", "()I"⟩
abbrev cX6_divisor : ByteArray := prog_8_method_19_code
def yX6_divisor : MethodName := ⟨RX6, "divisor", "()I"⟩
abbrev cX6_lowOf : ByteArray := prog_8_method_20_code
def yX6_lowOf : MethodName := ⟨RX6, "lowOf", "([III)I"⟩
abbrev cX6_highOf : ByteArray := prog_8_method_21_code
def yX6_highOf : MethodName := ⟨RX6, "highOf", "([III)I"⟩
abbrev cX6_spansOf : ByteArray := prog_8_method_22_code
def yX6_spansOf : MethodName := ⟨RX6, "spansOf", "([II)I"⟩
abbrev cX6_findFar : ByteArray := prog_8_method_23_code
def yX6_findFar : MethodName := ⟨RX6, "findFar", "(I)V"⟩
abbrev cX6_isLaid : ByteArray := prog_8_method_24_code
def yX6_isLaid : MethodName := ⟨RX6, "isLaid", "(II)Z"⟩
abbrev cX6_laid : ByteArray := prog_8_method_25_code
def yX6_laid : MethodName := ⟨RX6, "laid", "([I)I"⟩
abbrev cX6_begins : ByteArray := prog_8_method_26_code
def yX6_begins : MethodName := ⟨RX6, "begins", "([I[II)Z"⟩
abbrev cX6_gaps : ByteArray := prog_8_method_27_code
def yX6_gaps : MethodName := ⟨RX6, "gaps", "([I)I"⟩
abbrev cX6_rulerOn : ByteArray := prog_8_method_28_code
def yX6_rulerOn : MethodName := ⟨RX6, "rulerOn", "([II)I"⟩
abbrev cX6_markOn : ByteArray := prog_8_method_29_code
def yX6_markOn : MethodName := ⟨RX6, "markOn", "([IIIZ)I"⟩
abbrev cX6_canMark : ByteArray := prog_8_method_30_code
def yX6_canMark : MethodName := ⟨RX6, "canMark", "([IIIZ)Z"⟩
abbrev cX6_cutOn : ByteArray := prog_8_method_31_code
def yX6_cutOn : MethodName := ⟨RX6, "cutOn", "([III)I"⟩
abbrev cX6_turnOn : ByteArray := prog_8_method_32_code
def yX6_turnOn : MethodName := ⟨RX6, "turnOn", "([II)I"⟩
abbrev cX6_change : ByteArray := prog_8_method_33_code
def yX6_change : MethodName := ⟨RX6, "change", "([III)I"⟩
abbrev cX6_append : ByteArray := prog_8_method_34_code
def yX6_append : MethodName := ⟨RX6, "append", "(I)I"⟩
abbrev cX6_clearText : ByteArray := prog_8_method_35_code
def yX6_clearText : MethodName := ⟨RX6, "clearText", "()I"⟩
abbrev cX6_figures : ByteArray := prog_8_method_36_code
def yX6_figures : MethodName := ⟨RX6, "figures", "(IIII)I"⟩
abbrev cX6_done : ByteArray := prog_8_method_37_code
def yX6_done : MethodName := ⟨RX6, "done", "(Z)Z"⟩
abbrev cX6_readMark : ByteArray := prog_8_method_38_code
def yX6_readMark : MethodName := ⟨RX6, "readMark", "([IZ)Z"⟩
abbrev cX6_readCommand : ByteArray := prog_8_method_39_code
def yX6_readCommand : MethodName := ⟨RX6, "readCommand", "([I)Z"⟩
abbrev cX6_readText : ByteArray := prog_8_method_40_code
def yX6_readText : MethodName := ⟨RX6, "readText", "([I)I"⟩
abbrev cX6_errorPosition : ByteArray := prog_8_method_41_code
def yX6_errorPosition : MethodName := ⟨RX6, "errorPosition", "()I"⟩
abbrev cX6_load : ByteArray := prog_8_method_42_code
def yX6_load : MethodName := ⟨RX6, "load", "()I"⟩
abbrev cX6_about : ByteArray := prog_8_method_43_code
def yX6_about : MethodName := ⟨RX6, "about", "(I)I"⟩
abbrev cX6_rulerOf : ByteArray := prog_8_method_44_code
def yX6_rulerOf : MethodName := ⟨RX6, "rulerOf", "(II)I"⟩
abbrev cX6_isMarked : ByteArray := prog_8_method_45_code
def yX6_isMarked : MethodName := ⟨RX6, "isMarked", "(II)I"⟩
abbrev cX6_span : ByteArray := prog_8_method_46_code
def yX6_span : MethodName := ⟨RX6, "span", "(III)I"⟩
abbrev cX6_gapFrom : ByteArray := prog_8_method_47_code
def yX6_gapFrom : MethodName := ⟨RX6, "gapFrom", "(I)I"⟩
abbrev cX6_gap : ByteArray := prog_8_method_48_code
def yX6_gap : MethodName := ⟨RX6, "gap", "(II)I"⟩
abbrev cX6_remember : ByteArray := prog_8_method_49_code
def yX6_remember : MethodName := ⟨RX6, "remember", "()V"⟩
abbrev cX6_ruler : ByteArray := prog_8_method_50_code
def yX6_ruler : MethodName := ⟨RX6, "ruler", "(I)I"⟩
abbrev cX6_mark : ByteArray := prog_8_method_51_code
def yX6_mark : MethodName := ⟨RX6, "mark", "(IIZ)I"⟩
abbrev cX6_cut : ByteArray := prog_8_method_52_code
def yX6_cut : MethodName := ⟨RX6, "cut", "(II)I"⟩
abbrev cX6_turn : ByteArray := prog_8_method_53_code
def yX6_turn : MethodName := ⟨RX6, "turn", "(I)I"⟩
abbrev cX6_set : ByteArray := prog_8_method_54_code
def yX6_set : MethodName := ⟨RX6, "set", "(II)I"⟩
abbrev cX6_undo : ByteArray := prog_8_method_55_code
def yX6_undo : MethodName := ⟨RX6, "undo", "()I"⟩
abbrev cX6_fewest : ByteArray := prog_8_method_56_code
def yX6_fewest : MethodName := ⟨RX6, "fewest", "(II)I"⟩
abbrev cX6_nextLaying : ByteArray := prog_8_method_57_code
def yX6_nextLaying : MethodName := ⟨RX6, "nextLaying", "(I)I"⟩
abbrev cX6_ends : ByteArray := prog_8_method_58_code
def yX6_ends : MethodName := ⟨RX6, "ends", "(II)I"⟩
abbrev cX6_laying : ByteArray := prog_8_method_59_code
def yX6_laying : MethodName := ⟨RX6, "laying", "(III)I"⟩
abbrev cX6_why : ByteArray := prog_8_method_60_code
def yX6_why : MethodName := ⟨RX6, "why", "(I)I"⟩
abbrev cX6_bestMark : ByteArray := prog_8_method_61_code
def yX6_bestMark : MethodName := ⟨RX6, "bestMark", "(II)I"⟩
abbrev cX6_needless : ByteArray := prog_8_method_62_code
def yX6_needless : MethodName := ⟨RX6, "needless", "(I)I"⟩
abbrev cX6_inner : ByteArray := prog_8_method_63_code
def yX6_inner : MethodName := ⟨RX6, "inner", "([IIIZ)I"⟩
abbrev cX6_twin : ByteArray := prog_8_method_64_code
def yX6_twin : MethodName := ⟨RX6, "twin", "(IIZ)I"⟩
abbrev cX6_layings : ByteArray := prog_8_method_65_code
def yX6_layings : MethodName := ⟨RX6, "layings", "()I"⟩
abbrev cX6_command : ByteArray := prog_8_method_66_code
def yX6_command : MethodName := ⟨RX6, "command", "(II)Z"⟩
abbrev cX6_isReached : ByteArray := prog_8_method_67_code
def yX6_isReached : MethodName := ⟨RX6, "isReached", "(II)Z"⟩
abbrev cX6_runScript : ByteArray := prog_8_method_68_code
def yX6_runScript : MethodName := ⟨RX6, "runScript", "(IJ)I"⟩
abbrev cX6_turnOf : ByteArray := prog_8_method_69_code
def yX6_turnOf : MethodName := ⟨RX6, "turnOf", "([II)V"⟩
abbrev cX6_simulate : ByteArray := prog_8_method_70_code
def yX6_simulate : MethodName := ⟨RX6, "simulate", "(JI)I"⟩
abbrev cX6_save : ByteArray := prog_8_method_71_code
def yX6_save : MethodName := ⟨RX6, "save", "(I)I"⟩
abbrev cX6_restore : ByteArray := prog_8_method_72_code
def yX6_restore : MethodName := ⟨RX6, "restore", "(I)I"⟩
def RJx145de : String := "java/io/Serializable"
def TJx145de : u_T := fun k => match k with
  | _ => ("", "", "", false)
def tyJx145de : Nat → FieldType := fun k => match k with
  | _ => .int
abbrev wsJx145de0 : List Cond := u_ws RJx145de TJx145de 0
theorem nmJx145de : ∀ a, a < 0 → ∀ b, b < 0 → a ≠ b → (TJx145de a).2.1 ≠ (TJx145de b).2.1 := by decide +kernel
theorem tyJx145de_ok : ∀ k, k < 0 → parseFieldDescriptor (TJx145de k).2.2.1 = some (tyJx145de k) := by decide +kernel
def RJ13 : String := "java/lang/Long"
def TJ13 : u_T := fun k => match k with
  | _ => ("", "", "", false)
def tyJ13 : Nat → FieldType := fun k => match k with
  | _ => .int
abbrev wsJ130 : List Cond := u_ws RJ13 TJ13 0
theorem nmJ13 : ∀ a, a < 0 → ∀ b, b < 0 → a ≠ b → (TJ13 a).2.1 ≠ (TJ13 b).2.1 := by decide +kernel
theorem tyJ13_ok : ∀ k, k < 0 → parseFieldDescriptor (TJ13 k).2.2.1 = some (tyJ13 k) := by decide +kernel
abbrev cJ13_bitCount_95d88 : ByteArray := prog_13_method_50_code
def yJ13_bitCount_95d88 : MethodName := ⟨RJ13, "bitCount", "(J)I"⟩
def RJ9 : String := "java/lang/Math"
def TJ9 : u_T := fun k => match k with
  | _ => ("", "", "", false)
def tyJ9 : Nat → FieldType := fun k => match k with
  | _ => .int
abbrev wsJ90 : List Cond := u_ws RJ9 TJ9 0
theorem nmJ9 : ∀ a, a < 0 → ∀ b, b < 0 → a ≠ b → (TJ9 a).2.1 ≠ (TJ9 b).2.1 := by decide +kernel
theorem tyJ9_ok : ∀ k, k < 0 → parseFieldDescriptor (TJ9 k).2.2.1 = some (tyJ9 k) := by decide +kernel
abbrev cJ9_max_7cf53 : ByteArray := prog_14_method_65_code
def yJ9_max_7cf53 : MethodName := ⟨RJ9, "max", "(II)I"⟩
abbrev cJ9_max_f86c9 : ByteArray := prog_14_method_66_code
def yJ9_max_f86c9 : MethodName := ⟨RJ9, "max", "(JJ)J"⟩
abbrev cJ9_min_7cf53 : ByteArray := prog_14_method_69_code
def yJ9_min_7cf53 : MethodName := ⟨RJ9, "min", "(II)I"⟩
def RJ0 : String := "java/lang/String"
def TJ0 : u_T := fun k => match k with
  | _ => ("", "", "", false)
def tyJ0 : Nat → FieldType := fun k => match k with
  | _ => .int
abbrev wsJ00 : List Cond := u_ws RJ0 TJ0 0
theorem nmJ0 : ∀ a, a < 0 → ∀ b, b < 0 → a ≠ b → (TJ0 a).2.1 ≠ (TJ0 b).2.1 := by decide +kernel
theorem tyJ0_ok : ∀ k, k < 0 → parseFieldDescriptor (TJ0 k).2.2.1 = some (tyJ0 k) := by decide +kernel
def RJ7 : String := "java/util/Arrays"
def TJ7 : u_T := fun k => match k with
  | _ => ("", "", "", false)
def tyJ7 : Nat → FieldType := fun k => match k with
  | _ => .int
abbrev wsJ70 : List Cond := u_ws RJ7 TJ7 0
theorem nmJ7 : ∀ a, a < 0 → ∀ b, b < 0 → a ≠ b → (TJ7 a).2.1 ≠ (TJ7 b).2.1 := by decide +kernel
theorem tyJ7_ok : ∀ k, k < 0 → parseFieldDescriptor (TJ7 k).2.2.1 = some (tyJ7 k) := by decide +kernel
abbrev cJ7_fill_d0a16 : ByteArray := prog_18_method_101_code
def yJ7_fill_d0a16 : MethodName := ⟨RJ7, "fill", "([JJ)V"⟩
abbrev cJ7_fill_53178 : ByteArray := prog_18_method_103_code
def yJ7_fill_53178 : MethodName := ⟨RJ7, "fill", "([II)V"⟩
def RL : String := "OddRulersLaw"
abbrev cL_append : ByteArray := method_3_code
def yL_append : MethodName := ⟨RL, "append", "(LOddRulers;I[J)I"⟩
abbrev cL_load : ByteArray := method_4_code
def yL_load : MethodName := ⟨RL, "load", "(LOddRulers;[J)I"⟩
abbrev cL_about : ByteArray := method_5_code
def yL_about : MethodName := ⟨RL, "about", "(LOddRulers;I[J)I"⟩
abbrev cL_rulerOf : ByteArray := method_6_code
def yL_rulerOf : MethodName := ⟨RL, "rulerOf", "(LOddRulers;II[J)I"⟩
abbrev cL_isMarked : ByteArray := method_7_code
def yL_isMarked : MethodName := ⟨RL, "isMarked", "(LOddRulers;II[J)I"⟩
abbrev cL_span : ByteArray := method_8_code
def yL_span : MethodName := ⟨RL, "span", "(LOddRulers;III[J)I"⟩
abbrev cL_gap : ByteArray := method_9_code
def yL_gap : MethodName := ⟨RL, "gap", "(LOddRulers;II[J)I"⟩
abbrev cL_ruler : ByteArray := method_10_code
def yL_ruler : MethodName := ⟨RL, "ruler", "(LOddRulers;I[J)I"⟩
abbrev cL_mark : ByteArray := method_11_code
def yL_mark : MethodName := ⟨RL, "mark", "(LOddRulers;IIZ[J)I"⟩
abbrev cL_cut : ByteArray := method_12_code
def yL_cut : MethodName := ⟨RL, "cut", "(LOddRulers;II[J)I"⟩
abbrev cL_turn : ByteArray := method_13_code
def yL_turn : MethodName := ⟨RL, "turn", "(LOddRulers;I[J)I"⟩
abbrev cL_set : ByteArray := method_14_code
def yL_set : MethodName := ⟨RL, "set", "(LOddRulers;II[J)I"⟩
abbrev cL_undo : ByteArray := method_15_code
def yL_undo : MethodName := ⟨RL, "undo", "(LOddRulers;[J)I"⟩
abbrev cL_fewest : ByteArray := method_16_code
def yL_fewest : MethodName := ⟨RL, "fewest", "(LOddRulers;II[J)I"⟩
abbrev cL_laying : ByteArray := method_17_code
def yL_laying : MethodName := ⟨RL, "laying", "(LOddRulers;III[J)I"⟩
abbrev cL_why : ByteArray := method_18_code
def yL_why : MethodName := ⟨RL, "why", "(LOddRulers;I[J)I"⟩
abbrev cL_bestMark : ByteArray := method_19_code
def yL_bestMark : MethodName := ⟨RL, "bestMark", "(LOddRulers;II[J)I"⟩
abbrev cL_needless : ByteArray := method_20_code
def yL_needless : MethodName := ⟨RL, "needless", "(LOddRulers;I[J)I"⟩
abbrev cL_twin : ByteArray := method_21_code
def yL_twin : MethodName := ⟨RL, "twin", "(LOddRulers;IIZ[J)I"⟩
abbrev cL_runScript : ByteArray := method_22_code
def yL_runScript : MethodName := ⟨RL, "runScript", "(LOddRulers;IJ[J)I"⟩
abbrev cL_simulate : ByteArray := method_23_code
def yL_simulate : MethodName := ⟨RL, "simulate", "(LOddRulers;JI[J)I"⟩
abbrev cL_save : ByteArray := method_24_code
def yL_save : MethodName := ⟨RL, "save", "(LOddRulers;I[J)I"⟩
abbrev cL_restore : ByteArray := method_25_code
def yL_restore : MethodName := ⟨RL, "restore", "(LOddRulers;I[J)I"⟩
abbrev cL_law : ByteArray := code
def yL_law : MethodName := ⟨RL, "law", "([I)Z"⟩
def wsL_law0_r1 : List Cond := [Cond.classLink RL 8 RX5, Cond.instantiable RX5 10, Cond.initialized RX5, Cond.classLink RL 92 RX6, Cond.instantiable RX6 14, Cond.initialized RX6, Cond.arrayClass .long, Cond.constantLong RL 174 (4294967295), Cond.methodLink RL 91 yX5_init, Cond.instanceMethod yX5_init, Cond.code yX5_init cX5_init 1 none, Cond.methodLink RX5 1 objectInit, Cond.instanceMethod objectInit, Cond.code objectInit ⟨#[0xb1]⟩ 1 none, Cond.classLink RX5 7 RX4, Cond.instantiable RX4 5, Cond.initialized RX4, Cond.fieldLink RX5 10 "OddRulers" "present" "LOddRulers$State;", Cond.fieldLink RX5 16 "OddRulers" "copy" "LOddRulers$State;", Cond.fieldLink RX5 19 "OddRulers" "firstSlot" "LOddRulers$State;", Cond.fieldLink RX5 22 "OddRulers" "secondSlot" "LOddRulers$State;", Cond.classLink RX5 25 RX2, Cond.instantiable RX2 3, Cond.initialized RX2]
def wsL_law0_r2 : List Cond := [Cond.fieldLink RX5 28 "OddRulers" "memory" "LOddRulers$Memory;", Cond.classLink RX5 32 RX0, Cond.instantiable RX0 8, Cond.initialized RX0, Cond.fieldLink RX5 35 "OddRulers" "text" "LOddRulers$CaseText;", Cond.classLink RX5 39 RX3, Cond.instantiable RX3 5, Cond.initialized RX3, Cond.fieldLink RX5 42 "OddRulers" "reach" "LOddRulers$Reach;", Cond.classLink RX5 46 RX1, Cond.instantiable RX1 4, Cond.initialized RX1, Cond.fieldLink RX5 49 "OddRulers" "laid" "LOddRulers$Laid;", Cond.methodLink RX5 9 yX4_init, Cond.instanceMethod yX4_init, Cond.code yX4_init cX4_init 1 none, Cond.methodLink RX4 3 objectInit, Cond.arrayClass .int, Cond.fieldLink RX4 9 "OddRulers$State" "sizes" "[I", Cond.fieldLink RX4 15 "OddRulers$State" "rows" "[J", Cond.methodLink RX4 19 yX4_begin, Cond.instanceMethod yX4_begin, Cond.selects RX4 yX4_begin yX4_begin, Cond.code yX4_begin cX4_begin 1 none]
def wsL_law0_r3 : List Cond := [Cond.fieldLink RX4 22 "OddRulers$State" "rulers" "I", Cond.fieldLink RX4 26 "OddRulers$State" "allowed" "I", Cond.fieldLink RX4 29 "OddRulers$State" "range" "I", Cond.methodLink RX5 27 yX2_init, Cond.instanceMethod yX2_init, Cond.code yX2_init cX2_init 2 none, Cond.methodLink RX2 3 objectInit, Cond.classLink RX2 9 RX4, Cond.fieldLink RX2 11 "OddRulers$Memory" "states" "[LOddRulers$State;", Cond.methodLink RX2 17 yX4_init, Cond.instanceMethod yX0_init, Cond.code yX0_init cX0_init 1 none, Cond.methodLink RX0 3 objectInit, Cond.arrayClass .char, Cond.fieldLink RX0 9 "OddRulers$CaseText" "signs" "[C", Cond.instanceMethod yX3_init, Cond.code yX3_init cX3_init 1 none, Cond.methodLink RX3 3 objectInit, Cond.fieldLink RX3 9 "OddRulers$Reach" "steps" "[I", Cond.fieldLink RX3 15 "OddRulers$Reach" "line" "[I", Cond.fieldLink RX3 18 "OddRulers$Reach" "reached" "[J", Cond.fieldLink RX3 22 "OddRulers$Reach" "grown" "[J", Cond.instanceMethod yX1_init, Cond.code yX1_init cX1_init 1 none]
def wsL_law0_r4 : List Cond := [Cond.methodLink RX1 1 objectInit, Cond.methodLink RL 94 yX6_init, Cond.instanceMethod yX6_init, Cond.code yX6_init cX6_init 1 none, Cond.methodLink RX6 1 objectInit, Cond.fieldLink RX6 7 "OddRulersModel" "text" "[I", Cond.fieldLink RX6 13 "OddRulersModel" "now" "[I", Cond.fieldLink RX6 16 "OddRulersModel" "trial" "[I", Cond.fieldLink RX6 19 "OddRulersModel" "diary" "[I", Cond.fieldLink RX6 22 "OddRulersModel" "kept" "[I", Cond.arrayClass .boolean, Cond.fieldLink RX6 25 "OddRulersModel" "isKept" "[Z", Cond.fieldLink RX6 29 "OddRulersModel" "spans" "[I", Cond.fieldLink RX6 32 "OddRulersModel" "far" "[I", Cond.fieldLink RX6 35 "OddRulersModel" "row" "[I", Cond.methodLink RX6 38 yX6_clear, Cond.static yX6_clear, Cond.code yX6_clear cX6_clear 2 none, Cond.methodLink RL 95 yL_append, Cond.static yL_append, Cond.initialized RL, Cond.codeWith yL_append cL_append 4 (some .int) [(0, 9, 12, 13), (0, 9, 15, 15)], Cond.classLink RL 13 "java/lang/IllegalArgumentException", Cond.classLink RL 15 "java/lang/IllegalStateException"]
def wsL_law0_r5 : List Cond := [Cond.methodLink RL 7 yX5_append, Cond.instanceMethod yX5_append, Cond.selects RX5 yX5_append yX5_append, Cond.code yX5_append cX5_append 2 (some .int), Cond.classLink RX5 53 "java/lang/IllegalArgumentException", Cond.initialized "java/lang/IllegalArgumentException", Cond.classLink RX5 64 "java/lang/IllegalStateException", Cond.initialized "java/lang/IllegalStateException", Cond.methodLink RX5 60 yX0_add, Cond.instanceMethod yX0_add, Cond.selects RX0 yX0_add yX0_add, Cond.code yX0_add cX0_add 2 (some .boolean), Cond.fieldLink RX0 15 "OddRulers$CaseText" "size" "I", Cond.methodLink RX5 69 yX0_size, Cond.instanceMethod yX0_size, Cond.selects RX0 yX0_size yX0_size, Cond.code yX0_size cX0_size 1 (some .int), Cond.methodLink RL 100 yX6_append, Cond.instanceMethod yX6_append, Cond.selects RX6 yX6_append yX6_append, Cond.code yX6_append cX6_append 2 (some .int), Cond.constantLong RX6 106 (255), Cond.fieldLink RX6 108 "OddRulersModel" "size" "I", Cond.methodLink RX6 46 yX6_in]
def wsL_law0_r6 : List Cond := [Cond.static yX6_in, Cond.code yX6_in cX6_in 6 (some .boolean), Cond.methodLink RX6 111 yX6_refused, Cond.instanceMethod yX6_refused, Cond.selects RX6 yX6_refused yX6_refused, Cond.code yX6_refused cX6_refused 2 (some .boolean), Cond.fieldLink RX6 42 "OddRulersModel" "refusal" "I", Cond.methodLink RL 101 yX6_thrown, Cond.instanceMethod yX6_thrown, Cond.selects RX6 yX6_thrown yX6_thrown, Cond.code yX6_thrown cX6_thrown 1 (some .int), Cond.methodLink RL 104 yX5_clearText, Cond.instanceMethod yX5_clearText, Cond.selects RX5 yX5_clearText yX5_clearText, Cond.code yX5_clearText cX5_clearText 1 (some .int), Cond.methodLink RX5 73 yX0_empty, Cond.instanceMethod yX0_empty, Cond.selects RX0 yX0_empty yX0_empty, Cond.code yX0_empty cX0_empty 2 (some .int), Cond.methodLink RL 107 yX6_clearText, Cond.instanceMethod yX6_clearText, Cond.selects RX6 yX6_clearText yX6_clearText, Cond.code yX6_clearText cX6_clearText 2 (some .int), Cond.methodLink RL 108 yX5_errorPosition]
def wsL_law0_r7 : List Cond := [Cond.instanceMethod yX5_errorPosition, Cond.selects RX5 yX5_errorPosition yX5_errorPosition, Cond.code yX5_errorPosition cX5_errorPosition 1 (some .int), Cond.methodLink RX5 76 yX0_firstFault, Cond.instanceMethod yX0_firstFault, Cond.selects RX0 yX0_firstFault yX0_firstFault, Cond.code yX0_firstFault cX0_firstFault 2 (some .int), Cond.fieldLink RX0 22 "OddRulers$CaseText" "at" "I", Cond.fieldLink RX0 25 "OddRulers$CaseText" "fault" "I", Cond.methodLink RX0 19 yX0_open, Cond.instanceMethod yX0_open, Cond.selects RX0 yX0_open yX0_open, Cond.code yX0_open cX0_open 1 none, Cond.methodLink RX0 50 yX0_sign, Cond.instanceMethod yX0_sign, Cond.selects RX0 yX0_sign yX0_sign, Cond.code yX0_sign cX0_sign 2 (some .char), Cond.methodLink RX0 28 yX0_readCommand, Cond.instanceMethod yX0_readCommand, Cond.selects RX0 yX0_readCommand yX0_readCommand, Cond.code yX0_readCommand cX0_readCommand 2 none, Cond.fieldLink RX0 40 "OddRulers$CaseText" "on" "Z", Cond.methodLink RX0 54 yX0_number, Cond.instanceMethod yX0_number]
def wsL_law0_r8 : List Cond := [Cond.selects RX0 yX0_number yX0_number, Cond.code yX0_number cX0_number 9 (some .int), Cond.methodLink RX0 58 yX0_hold, Cond.instanceMethod yX0_hold, Cond.selects RX0 yX0_hold yX0_hold, Cond.code yX0_hold cX0_hold 4 none, Cond.fieldLink RX0 31 "OddRulers$CaseText" "action" "I", Cond.fieldLink RX0 34 "OddRulers$CaseText" "first" "I", Cond.fieldLink RX0 37 "OddRulers$CaseText" "second" "I", Cond.methodLink RX0 62 yX0_rulerNumber, Cond.instanceMethod yX0_rulerNumber, Cond.selects RX0 yX0_rulerNumber yX0_rulerNumber, Cond.code yX0_rulerNumber cX0_rulerNumber 1 (some .int), Cond.methodLink RL 111 yX6_errorPosition, Cond.instanceMethod yX6_errorPosition, Cond.selects RX6 yX6_errorPosition yX6_errorPosition, Cond.code yX6_errorPosition cX6_errorPosition 1 (some .int), Cond.methodLink RX6 160 yX6_readText, Cond.instanceMethod yX6_readText, Cond.selects RX6 yX6_readText yX6_readText, Cond.code yX6_readText cX6_readText 2 (some .int), Cond.fieldLink RX6 120 "OddRulersModel" "out" "I", Cond.fieldLink RX6 115 "OddRulersModel" "spot" "I", Cond.methodLink RX6 156 yX6_readCommand]
def wsL_law0_r9 : List Cond := [Cond.instanceMethod yX6_readCommand, Cond.selects RX6 yX6_readCommand yX6_readCommand, Cond.code yX6_readCommand cX6_readCommand 5 (some .boolean), Cond.methodLink RX6 123 yX6_figures, Cond.instanceMethod yX6_figures, Cond.selects RX6 yX6_figures yX6_figures, Cond.code yX6_figures cX6_figures 9 (some .int), Cond.constantLong RX6 118 (9), Cond.methodLink RX6 139 yX6_rulerOn, Cond.static yX6_rulerOn, Cond.code yX6_rulerOn cX6_rulerOn 4 (some .int), Cond.methodLink RX6 64 yX6_at, Cond.static yX6_at, Cond.code yX6_at cX6_at 2 (some .int), Cond.methodLink RX6 135 yX6_done, Cond.instanceMethod yX6_done, Cond.selects RX6 yX6_done yX6_done, Cond.code yX6_done cX6_done 2 (some .boolean), Cond.methodLink RX6 142 yX6_readMark, Cond.instanceMethod yX6_readMark, Cond.selects RX6 yX6_readMark yX6_readMark, Cond.code yX6_readMark cX6_readMark 5 (some .boolean), Cond.methodLink RX6 127 yX6_canMark, Cond.static yX6_canMark]
def wsL_law0_r10 : List Cond := [Cond.code yX6_canMark cX6_canMark 4 (some .boolean), Cond.methodLink RX6 99 yX6_isPlace, Cond.static yX6_isPlace, Cond.code yX6_isPlace cX6_isPlace 3 (some .boolean), Cond.methodLink RX6 50 yX6_isRuler, Cond.static yX6_isRuler, Cond.code yX6_isRuler cX6_isRuler 2 (some .boolean), Cond.methodLink RX6 54 yX6_length, Cond.static yX6_length, Cond.code yX6_length cX6_length 2 (some .int), Cond.methodLink RX6 103 yX6_isEnd, Cond.static yX6_isEnd, Cond.code yX6_isEnd cX6_isEnd 3 (some .boolean), Cond.methodLink RX6 131 yX6_markOn, Cond.static yX6_markOn, Cond.code yX6_markOn cX6_markOn 4 (some .int), Cond.methodLink RX6 68 yX6_marks, Cond.static yX6_marks, Cond.code yX6_marks cX6_marks 4 (some .int), Cond.methodLink RX6 146 yX6_cutOn, Cond.static yX6_cutOn, Cond.code yX6_cutOn cX6_cutOn 4 (some .int), Cond.methodLink RX6 150 yX6_turnOn, Cond.static yX6_turnOn]
def wsL_law0_r11 : List Cond := [Cond.code yX6_turnOn cX6_turnOn 5 (some .int), Cond.methodLink RX6 153 yX6_change, Cond.static yX6_change, Cond.code yX6_change cX6_change 4 (some .int), Cond.methodLink RL 112 yL_load, Cond.static yL_load, Cond.codeWith yL_load cL_load 3 (some .int) [(0, 8, 11, 15)], Cond.methodLink RL 17 yX5_load, Cond.instanceMethod yX5_load, Cond.selects RX5 yX5_load yX5_load, Cond.code yX5_load cX5_load 1 (some .int), Cond.fieldLink RX5 87 "OddRulers" "firstFilled" "Z", Cond.fieldLink RX5 91 "OddRulers" "secondFilled" "Z", Cond.methodLink RX5 81 yX4_begin, Cond.methodLink RX5 84 yX2_forget, Cond.instanceMethod yX2_forget, Cond.selects RX2 yX2_forget yX2_forget, Cond.code yX2_forget cX2_forget 1 none, Cond.fieldLink RX2 26 "OddRulers$Memory" "size" "I", Cond.methodLink RX5 94 yX0_doCommands, Cond.instanceMethod yX0_doCommands, Cond.selects RX0 yX0_doCommands yX0_doCommands, Cond.code yX0_doCommands cX0_doCommands 4 (some .int), Cond.methodLink RX0 44 yX4_attempt]
def wsL_law0_r12 : List Cond := [Cond.instanceMethod yX4_attempt, Cond.selects RX4 yX4_attempt yX4_attempt, Cond.code yX4_attempt cX4_attempt 5 (some .boolean), Cond.methodLink RX4 92 yX4_refusal, Cond.instanceMethod yX4_refusal, Cond.selects RX4 yX4_refusal yX4_refusal, Cond.code yX4_refusal cX4_refusal 5 (some .int), Cond.methodLink RX4 83 yX4_hasPlace, Cond.instanceMethod yX4_hasPlace, Cond.selects RX4 yX4_hasPlace yX4_hasPlace, Cond.code yX4_hasPlace cX4_hasPlace 3 (some .boolean), Cond.methodLink RX4 44 yX4_hasRuler, Cond.instanceMethod yX4_hasRuler, Cond.selects RX4 yX4_hasRuler yX4_hasRuler, Cond.code yX4_hasRuler cX4_hasRuler 2 (some .boolean), Cond.methodLink RX4 32 yX4_size, Cond.instanceMethod yX4_size, Cond.selects RX4 yX4_size yX4_size, Cond.code yX4_size cX4_size 2 (some .int), Cond.methodLink RX4 86 yX4_isEnd, Cond.instanceMethod yX4_isEnd, Cond.selects RX4 yX4_isEnd yX4_isEnd, Cond.code yX4_isEnd cX4_isEnd 3 (some .boolean), Cond.methodLink RX4 89 yX4_isSetting]
def wsL_law0_r13 : List Cond := [Cond.static yX4_isSetting, Cond.code yX4_isSetting cX4_isSetting 2 (some .boolean), Cond.methodLink RX4 96 yX4_perform, Cond.instanceMethod yX4_perform, Cond.selects RX4 yX4_perform yX4_perform, Cond.code yX4_perform cX4_perform 5 (some .int), Cond.methodLink RX4 99 yX4_addRuler, Cond.instanceMethod yX4_addRuler, Cond.selects RX4 yX4_addRuler yX4_addRuler, Cond.code yX4_addRuler cX4_addRuler 2 (some .int), Cond.methodLink RX4 40 yX4_put, Cond.instanceMethod yX4_put, Cond.selects RX4 yX4_put yX4_put, Cond.code yX4_put cX4_put 5 none, Cond.methodLink RX4 102 yX4_putMark, Cond.instanceMethod yX4_putMark, Cond.selects RX4 yX4_putMark yX4_putMark, Cond.code yX4_putMark cX4_putMark 6 (some .int), Cond.constantLong RX4 60 (-1), Cond.methodLink RX4 36 yX4_row, Cond.instanceMethod yX4_row, Cond.selects RX4 yX4_row yX4_row, Cond.code yX4_row cX4_row 2 (some .long), Cond.methodLink RX4 62 yX4_marksOf]
def wsL_law0_r14 : List Cond := [Cond.instanceMethod yX4_marksOf, Cond.selects RX4 yX4_marksOf yX4_marksOf, Cond.code yX4_marksOf cX4_marksOf 2 (some .int), Cond.methodLink RX4 52 yJ13_bitCount_95d88, Cond.static yJ13_bitCount_95d88, Cond.initialized RJ13, Cond.code yJ13_bitCount_95d88 cJ13_bitCount_95d88 2 (some .int), Cond.constantLong RJ13 314 (6148914691236517205), Cond.constantLong RJ13 316 (3689348814741910323), Cond.constantLong RJ13 318 (1085102592571150095), Cond.methodLink RX4 106 yX4_shorten, Cond.instanceMethod yX4_shorten, Cond.selects RX4 yX4_shorten yX4_shorten, Cond.code yX4_shorten cX4_shorten 5 (some .int), Cond.methodLink RX4 110 yX4_reverse, Cond.instanceMethod yX4_reverse, Cond.selects RX4 yX4_reverse yX4_reverse, Cond.code yX4_reverse cX4_reverse 2 (some .int), Cond.static yX5_reversed, Cond.code yX5_reversed cX5_reversed 6 (some .long), Cond.methodLink RX5 345 yX5_hasBit, Cond.static yX5_hasBit, Cond.code yX5_hasBit cX5_hasBit 3 (some .boolean), Cond.methodLink RX4 120 yX4_innerMarks]
def wsL_law0_r15 : List Cond := [Cond.instanceMethod yX4_innerMarks, Cond.selects RX4 yX4_innerMarks yX4_innerMarks, Cond.code yX4_innerMarks cX4_innerMarks 2 (some .long), Cond.constantLong RX4 58 (-2), Cond.static yX5_lowest, Cond.code yX5_lowest cX5_lowest 3 (some .int), Cond.methodLink RX4 113 yX4_adjust, Cond.instanceMethod yX4_adjust, Cond.selects RX4 yX4_adjust yX4_adjust, Cond.code yX4_adjust cX4_adjust 4 (some .int), Cond.methodLink RL 115 yX6_load, Cond.instanceMethod yX6_load, Cond.selects RX6 yX6_load yX6_load, Cond.code yX6_load cX6_load 1 (some .int), Cond.fieldLink RX6 167 "OddRulersModel" "acts" "I", Cond.methodLink RX6 163 yX6_copyState, Cond.static yX6_copyState, Cond.code yX6_copyState cX6_copyState 5 none, Cond.methodLink RL 116 yL_about, Cond.static yL_about, Cond.codeWith yL_about cL_about 4 (some .int) [(0, 9, 12, 13)], Cond.methodLink RL 21 yX5_about, Cond.instanceMethod yX5_about, Cond.selects RX5 yX5_about yX5_about]
def wsL_law0_r16 : List Cond := [Cond.code yX5_about cX5_about 2 (some .int), Cond.methodLink RX5 98 yX4_rulers, Cond.instanceMethod yX4_rulers, Cond.selects RX4 yX4_rulers yX4_rulers, Cond.code yX4_rulers cX4_rulers 1 (some .int), Cond.methodLink RX5 101 yX4_allMarks, Cond.instanceMethod yX4_allMarks, Cond.selects RX4 yX4_allMarks yX4_allMarks, Cond.code yX4_allMarks cX4_allMarks 3 (some .int), Cond.methodLink RX5 104 yX4_allSpans, Cond.instanceMethod yX4_allSpans, Cond.selects RX4 yX4_allSpans yX4_allSpans, Cond.code yX4_allSpans cX4_allSpans 3 (some .int), Cond.methodLink RX4 65 yX4_spansOf, Cond.instanceMethod yX4_spansOf, Cond.selects RX4 yX4_spansOf yX4_spansOf, Cond.code yX4_spansOf cX4_spansOf 2 (some .int), Cond.methodLink RX5 107 yX4_spread, Cond.instanceMethod yX4_spread, Cond.selects RX4 yX4_spread yX4_spread, Cond.code yX4_spread cX4_spread 1 (some .long), Cond.methodLink RX4 72 yX4_spreadWithout, Cond.instanceMethod yX4_spreadWithout, Cond.selects RX4 yX4_spreadWithout yX4_spreadWithout]
def wsL_law0_r17 : List Cond := [Cond.code yX4_spreadWithout cX4_spreadWithout 5 (some .long), Cond.static yX5_spreadOf, Cond.code yX5_spreadOf cX5_spreadOf 5 (some .long), Cond.methodLink RX5 111 yJ13_bitCount_95d88, Cond.methodLink RX5 117 yX5_commonDivisor, Cond.static yX5_commonDivisor, Cond.code yX5_commonDivisor cX5_commonDivisor 3 (some .int), Cond.methodLink RX5 353 yX5_dividesAll, Cond.static yX5_dividesAll, Cond.code yX5_dividesAll cX5_dividesAll 4 (some .boolean), Cond.methodLink RX5 120 yX5_laidLengths, Cond.instanceMethod yX5_laidLengths, Cond.selects RX5 yX5_laidLengths yX5_laidLengths, Cond.code yX5_laidLengths cX5_laidLengths 2 (some .int), Cond.methodLink RX5 126 yX4_allowed, Cond.instanceMethod yX4_allowed, Cond.selects RX4 yX4_allowed yX4_allowed, Cond.code yX4_allowed cX4_allowed 1 (some .int), Cond.methodLink RX5 283 yX3_layAtMost, Cond.instanceMethod yX3_layAtMost, Cond.selects RX3 yX3_layAtMost yX3_layAtMost, Cond.code yX3_layAtMost cX3_layAtMost 5 none, Cond.methodLink RX3 51 yX3_layNothing, Cond.instanceMethod yX3_layNothing]
def wsL_law0_r18 : List Cond := [Cond.selects RX3 yX3_layNothing yX3_layNothing, Cond.code yX3_layNothing cX3_layNothing 1 none, Cond.methodLink RX3 62 yJ7_fill_d0a16, Cond.static yJ7_fill_d0a16, Cond.initialized RJ7, Cond.code yJ7_fill_d0a16 cJ7_fill_d0a16 5 none, Cond.methodLink RX3 58 yX3_layOneMore, Cond.instanceMethod yX3_layOneMore, Cond.selects RX3 yX3_layOneMore yX3_layOneMore, Cond.code yX3_layOneMore cX3_layOneMore 4 (some .boolean), Cond.methodLink RX3 65 yX3_word, Cond.instanceMethod yX3_word, Cond.selects RX3 yX3_word yX3_word, Cond.code yX3_word cX3_word 2 (some .long), Cond.methodLink RX3 69 yX3_setGrown, Cond.instanceMethod yX3_setGrown, Cond.selects RX3 yX3_setGrown yX3_setGrown, Cond.code yX3_setGrown cX3_setGrown 4 none, Cond.methodLink RX3 72 yX3_addMoved, Cond.instanceMethod yX3_addMoved, Cond.selects RX3 yX3_addMoved yX3_addMoved, Cond.code yX3_addMoved cX3_addMoved 7 none, Cond.methodLink RX3 76 yX3_takeGrown, Cond.instanceMethod yX3_takeGrown]
def wsL_law0_r19 : List Cond := [Cond.selects RX3 yX3_takeGrown yX3_takeGrown, Cond.code yX3_takeGrown cX3_takeGrown 5 (some .boolean), Cond.constantLong RX3 80 (511), Cond.methodLink RX5 129 yX4_range, Cond.instanceMethod yX4_range, Cond.selects RX4 yX4_range yX4_range, Cond.code yX4_range cX4_range 1 (some .int), Cond.methodLink RX5 286 yX3_countLaid, Cond.instanceMethod yX3_countLaid, Cond.selects RX3 yX3_countLaid yX3_countLaid, Cond.code yX3_countLaid cX3_countLaid 4 (some .int), Cond.methodLink RX3 54 yX3_isLaid, Cond.instanceMethod yX3_isLaid, Cond.selects RX3 yX3_isLaid yX3_isLaid, Cond.code yX3_isLaid cX3_isLaid 2 (some .boolean), Cond.methodLink RX5 123 yX5_gaps, Cond.instanceMethod yX5_gaps, Cond.selects RX5 yX5_gaps yX5_gaps, Cond.code yX5_gaps cX5_gaps 2 (some .int), Cond.methodLink RX5 289 yX3_countGaps, Cond.instanceMethod yX3_countGaps, Cond.selects RX3 yX3_countGaps yX3_countGaps, Cond.code yX3_countGaps cX3_countGaps 4 (some .int), Cond.methodLink RX3 82 yX3_startsGap]
def wsL_law0_r20 : List Cond := [Cond.instanceMethod yX3_startsGap, Cond.selects RX3 yX3_startsGap yX3_startsGap, Cond.code yX3_startsGap cX3_startsGap 2 (some .boolean), Cond.methodLink RL 118 yX6_about, Cond.instanceMethod yX6_about, Cond.selects RX6 yX6_about yX6_about, Cond.code yX6_about cX6_about 4 (some .int), Cond.constantLong RX6 170 (8), Cond.methodLink RX6 80 yX6_findSpans, Cond.instanceMethod yX6_findSpans, Cond.selects RX6 yX6_findSpans yX6_findSpans, Cond.code yX6_findSpans cX6_findSpans 3 none, Cond.methodLink RX6 71 yX6_noSpans, Cond.instanceMethod yX6_noSpans, Cond.selects RX6 yX6_noSpans yX6_noSpans, Cond.code yX6_noSpans cX6_noSpans 2 none, Cond.methodLink RX6 74 yX6_addSpans, Cond.instanceMethod yX6_addSpans, Cond.selects RX6 yX6_addSpans yX6_addSpans, Cond.code yX6_addSpans cX6_addSpans 5 none, Cond.methodLink RX6 172 yX6_allMarks, Cond.static yX6_allMarks, Cond.code yX6_allMarks cX6_allMarks 3 (some .int), Cond.methodLink RX6 175 yX6_spansOf]
def wsL_law0_r21 : List Cond := [Cond.static yX6_spansOf, Cond.code yX6_spansOf cX6_spansOf 3 (some .int), Cond.methodLink RX6 178 yX6_unlike, Cond.instanceMethod yX6_unlike, Cond.selects RX6 yX6_unlike yX6_unlike, Cond.code yX6_unlike cX6_unlike 3 (some .int), Cond.methodLink RX6 182 yX6_divisor, Cond.instanceMethod yX6_divisor, Cond.selects RX6 yX6_divisor yX6_divisor, Cond.code yX6_divisor cX6_divisor 5 (some .int), Cond.methodLink RX6 91 yX6_laid, Cond.instanceMethod yX6_laid, Cond.selects RX6 yX6_laid yX6_laid, Cond.code yX6_laid cX6_laid 4 (some .int), Cond.methodLink RX6 83 yX6_findFar, Cond.instanceMethod yX6_findFar, Cond.selects RX6 yX6_findFar yX6_findFar, Cond.code yX6_findFar cX6_findFar 7 none, Cond.constantLong RX6 78 (200), Cond.methodLink RX6 87 yX6_isLaid, Cond.static yX6_isLaid, Cond.code yX6_isLaid cX6_isLaid 2 (some .boolean), Cond.methodLink RX6 185 yX6_gaps, Cond.instanceMethod yX6_gaps]
def wsL_law0_r22 : List Cond := [Cond.selects RX6 yX6_gaps yX6_gaps, Cond.code yX6_gaps cX6_gaps 4 (some .int), Cond.methodLink RX6 95 yX6_begins, Cond.static yX6_begins, Cond.code yX6_begins cX6_begins 3 (some .boolean), Cond.methodLink RL 119 yL_rulerOf, Cond.static yL_rulerOf, Cond.codeWith yL_rulerOf cL_rulerOf 5 (some .int) [(0, 10, 13, 28), (0, 10, 17, 13)], Cond.classLink RL 28 "java/lang/IndexOutOfBoundsException", Cond.methodLink RL 24 yX5_rulerOf, Cond.instanceMethod yX5_rulerOf, Cond.selects RX5 yX5_rulerOf yX5_rulerOf, Cond.code yX5_rulerOf cX5_rulerOf 3 (some .int), Cond.methodLink RX5 134 yX5_checkRuler, Cond.instanceMethod yX5_checkRuler, Cond.selects RX5 yX5_checkRuler yX5_checkRuler, Cond.code yX5_checkRuler cX5_checkRuler 2 none, Cond.classLink RX5 165 "java/lang/IndexOutOfBoundsException", Cond.initialized "java/lang/IndexOutOfBoundsException", Cond.methodLink RX5 173 yX4_hasRuler, Cond.methodLink RX5 138 yX4_size, Cond.methodLink RX5 141 yX4_marksOf, Cond.methodLink RX5 144 yX4_spansOf, Cond.methodLink RX5 147 yX4_row]
def wsL_law0_r23 : List Cond := [Cond.methodLink RX5 151 yX5_spreadOf, Cond.methodLink RX5 155 yX5_commonest, Cond.static yX5_commonest, Cond.code yX5_commonest cX5_commonest 6 (some .int), Cond.methodLink RX5 349 yX5_pairsApart, Cond.static yX5_pairsApart, Cond.code yX5_pairsApart cX5_pairsApart 3 (some .int), Cond.methodLink RX5 158 yX5_leastMissing, Cond.static yX5_leastMissing, Cond.code yX5_leastMissing cX5_leastMissing 3 (some .int), Cond.methodLink RL 122 yX6_rulerOf, Cond.instanceMethod yX6_rulerOf, Cond.selects RX6 yX6_rulerOf yX6_rulerOf, Cond.code yX6_rulerOf cX6_rulerOf 6 (some .int), Cond.constantLong RX6 188 (5), Cond.methodLink RL 123 yL_isMarked, Cond.static yL_isMarked, Cond.codeWith yL_isMarked cL_isMarked 5 (some .int) [(0, 10, 13, 28)], Cond.methodLink RL 30 yX5_isMarked, Cond.instanceMethod yX5_isMarked, Cond.selects RX5 yX5_isMarked yX5_isMarked, Cond.code yX5_isMarked cX5_isMarked 3 (some .int), Cond.methodLink RX5 161 yX4_hasPlace, Cond.methodLink RX5 170 yX4_hasMark]
def wsL_law0_r24 : List Cond := [Cond.instanceMethod yX4_hasMark, Cond.selects RX4 yX4_hasMark yX4_hasMark, Cond.code yX4_hasMark cX4_hasMark 3 (some .boolean), Cond.methodLink RL 125 yX6_isMarked, Cond.instanceMethod yX6_isMarked, Cond.selects RX6 yX6_isMarked yX6_isMarked, Cond.code yX6_isMarked cX6_isMarked 3 (some .int), Cond.methodLink RL 126 yL_span, Cond.static yL_span, Cond.codeWith yL_span cL_span 6 (some .int) [(0, 12, 15, 28), (0, 12, 19, 13)], Cond.methodLink RL 33 yX5_span, Cond.instanceMethod yX5_span, Cond.selects RX5 yX5_span yX5_span, Cond.code yX5_span cX5_span 6 (some .int), Cond.methodLink RX5 179 yX4_lowerMark, Cond.instanceMethod yX4_lowerMark, Cond.selects RX4 yX4_lowerMark yX4_lowerMark, Cond.code yX4_lowerMark cX4_lowerMark 6 (some .int), Cond.methodLink RX4 79 yX4_hasMark, Cond.methodLink RX5 183 yX4_greaterMark, Cond.instanceMethod yX4_greaterMark, Cond.selects RX4 yX4_greaterMark yX4_greaterMark, Cond.code yX4_greaterMark cX4_greaterMark 6 (some .int), Cond.methodLink RX5 186 yX4_spansOfLength]
def wsL_law0_r25 : List Cond := [Cond.instanceMethod yX4_spansOfLength, Cond.selects RX4 yX4_spansOfLength yX4_spansOfLength, Cond.code yX4_spansOfLength cX4_spansOfLength 4 (some .int), Cond.methodLink RL 129 yX6_span, Cond.instanceMethod yX6_span, Cond.selects RX6 yX6_span yX6_span, Cond.code yX6_span cX6_span 7 (some .int), Cond.constantLong RX6 190 (3), Cond.methodLink RX6 192 yX6_lowOf, Cond.static yX6_lowOf, Cond.code yX6_lowOf cX6_lowOf 7 (some .int), Cond.methodLink RX6 195 yX6_highOf, Cond.static yX6_highOf, Cond.code yX6_highOf cX6_highOf 6 (some .int), Cond.methodLink RL 130 yL_gap, Cond.static yL_gap, Cond.codeWith yL_gap cL_gap 5 (some .int) [(0, 10, 13, 28), (0, 10, 17, 13)], Cond.methodLink RL 37 yX5_gap, Cond.instanceMethod yX5_gap, Cond.selects RX5 yX5_gap yX5_gap, Cond.code yX5_gap cX5_gap 4 (some .int), Cond.methodLink RX5 191 yX3_gapStart, Cond.instanceMethod yX3_gapStart, Cond.selects RX3 yX3_gapStart yX3_gapStart]
def wsL_law0_r26 : List Cond := [Cond.code yX3_gapStart cX3_gapStart 5 (some .int), Cond.methodLink RX5 194 yX3_gapLength, Cond.instanceMethod yX3_gapLength, Cond.selects RX3 yX3_gapLength yX3_gapLength, Cond.code yX3_gapLength cX3_gapLength 5 (some .int), Cond.methodLink RL 132 yX6_gap, Cond.instanceMethod yX6_gap, Cond.selects RX6 yX6_gap yX6_gap, Cond.code yX6_gap cX6_gap 5 (some .int), Cond.methodLink RX6 198 yX6_gapFrom, Cond.instanceMethod yX6_gapFrom, Cond.selects RX6 yX6_gapFrom yX6_gapFrom, Cond.code yX6_gapFrom cX6_gapFrom 4 (some .int), Cond.methodLink RL 133 yL_ruler, Cond.static yL_ruler, Cond.codeWith yL_ruler cL_ruler 4 (some .int) [(0, 9, 12, 13), (0, 9, 15, 15)], Cond.methodLink RL 40 yX5_ruler, Cond.instanceMethod yX5_ruler, Cond.selects RX5 yX5_ruler yX5_ruler, Cond.code yX5_ruler cX5_ruler 2 (some .int), Cond.methodLink RX5 197 yX5_act, Cond.instanceMethod yX5_act, Cond.selects RX5 yX5_act yX5_act, Cond.code yX5_act cX5_act 5 (some .int)]
def wsL_law0_r27 : List Cond := [Cond.methodLink RX5 208 yX4_refusal, Cond.methodLink RX5 211 yX5_refuse, Cond.static yX5_refuse, Cond.code yX5_refuse cX5_refuse 1 none, Cond.methodLink RX5 214 yX2_keep, Cond.instanceMethod yX2_keep, Cond.selects RX2 yX2_keep yX2_keep, Cond.code yX2_keep cX2_keep 2 none, Cond.fieldLink RX2 18 "OddRulers$Memory" "next" "I", Cond.methodLink RX2 29 Lib.Math.min.name, Cond.static Lib.Math.min.name, Cond.initialized "java/lang/Math", Cond.code Lib.Math.min.name Lib.Math.min.code 2 (some .int), Cond.methodLink RX2 22 yX4_become, Cond.instanceMethod yX4_become, Cond.selects RX4 yX4_become yX4_become, Cond.code yX4_become cX4_become 3 none, Cond.methodLink RX5 218 yX4_perform, Cond.methodLink RL 135 yX6_ruler, Cond.instanceMethod yX6_ruler, Cond.selects RX6 yX6_ruler yX6_ruler, Cond.code yX6_ruler cX6_ruler 2 (some .int), Cond.constantLong RX6 202 (2), Cond.constantLong RX6 204 (40)]
def wsL_law0_r28 : List Cond := [Cond.methodLink RX6 206 yX6_remember, Cond.instanceMethod yX6_remember, Cond.selects RX6 yX6_remember yX6_remember, Cond.code yX6_remember cX6_remember 2 none, Cond.methodLink RL 136 yL_mark, Cond.static yL_mark, Cond.codeWith yL_mark cL_mark 6 (some .int) [(0, 12, 15, 28), (0, 12, 19, 15)], Cond.methodLink RL 43 yX5_mark, Cond.instanceMethod yX5_mark, Cond.selects RX5 yX5_mark yX5_mark, Cond.code yX5_mark cX5_mark 4 (some .int), Cond.methodLink RL 139 yX6_mark, Cond.instanceMethod yX6_mark, Cond.selects RX6 yX6_mark yX6_mark, Cond.code yX6_mark cX6_mark 4 (some .int), Cond.methodLink RL 140 yL_cut, Cond.static yL_cut, Cond.codeWith yL_cut cL_cut 5 (some .int) [(0, 10, 13, 28), (0, 10, 17, 13)], Cond.methodLink RL 47 yX5_cut, Cond.instanceMethod yX5_cut, Cond.selects RX5 yX5_cut yX5_cut, Cond.code yX5_cut cX5_cut 3 (some .int), Cond.methodLink RL 142 yX6_cut, Cond.instanceMethod yX6_cut]
def wsL_law0_r29 : List Cond := [Cond.selects RX6 yX6_cut yX6_cut, Cond.code yX6_cut cX6_cut 3 (some .int), Cond.methodLink RL 143 yL_turn, Cond.static yL_turn, Cond.codeWith yL_turn cL_turn 4 (some .int) [(0, 9, 12, 28)], Cond.methodLink RL 50 yX5_turn, Cond.instanceMethod yX5_turn, Cond.selects RX5 yX5_turn yX5_turn, Cond.code yX5_turn cX5_turn 2 (some .int), Cond.methodLink RL 145 yX6_turn, Cond.instanceMethod yX6_turn, Cond.selects RX6 yX6_turn yX6_turn, Cond.code yX6_turn cX6_turn 2 (some .int), Cond.methodLink RL 146 yL_set, Cond.static yL_set, Cond.codeWith yL_set cL_set 5 (some .int) [(0, 10, 13, 13)], Cond.methodLink RL 53 yX5_set, Cond.instanceMethod yX5_set, Cond.selects RX5 yX5_set yX5_set, Cond.code yX5_set cX5_set 3 (some .int), Cond.methodLink RL 148 yX6_set, Cond.instanceMethod yX6_set, Cond.selects RX6 yX6_set yX6_set, Cond.code yX6_set cX6_set 3 (some .int)]
def wsL_law0_r30 : List Cond := [Cond.methodLink RX6 209 yX6_isSetting, Cond.static yX6_isSetting, Cond.code yX6_isSetting cX6_isSetting 2 (some .boolean), Cond.constantLong RX6 58 (6), Cond.constantLong RX6 60 (10), Cond.constantLong RX6 62 (150), Cond.methodLink RL 149 yL_undo, Cond.static yL_undo, Cond.codeWith yL_undo cL_undo 3 (some .int) [(0, 8, 11, 15)], Cond.methodLink RL 56 yX5_undo, Cond.instanceMethod yX5_undo, Cond.selects RX5 yX5_undo yX5_undo, Cond.code yX5_undo cX5_undo 1 (some .int), Cond.methodLink RX5 201 yX2_giveBack, Cond.instanceMethod yX2_giveBack, Cond.selects RX2 yX2_giveBack yX2_giveBack, Cond.code yX2_giveBack cX2_giveBack 2 (some .boolean), Cond.methodLink RX5 207 yX2_size, Cond.instanceMethod yX2_size, Cond.selects RX2 yX2_size yX2_size, Cond.code yX2_size cX2_size 1 (some .int), Cond.methodLink RL 151 yX6_undo, Cond.instanceMethod yX6_undo, Cond.selects RX6 yX6_undo yX6_undo]
def wsL_law0_r31 : List Cond := [Cond.code yX6_undo cX6_undo 1 (some .int), Cond.methodLink RL 152 yL_fewest, Cond.static yL_fewest, Cond.codeWith yL_fewest cL_fewest 5 (some .int) [(0, 10, 13, 13)], Cond.methodLink RL 59 yX5_fewest, Cond.instanceMethod yX5_fewest, Cond.selects RX5 yX5_fewest yX5_fewest, Cond.code yX5_fewest cX5_fewest 5 (some .int), Cond.methodLink RX5 229 yX5_checkLength, Cond.static yX5_checkLength, Cond.code yX5_checkLength cX5_checkLength 1 none, Cond.methodLink RX5 234 yX3_fewestByLengths, Cond.instanceMethod yX3_fewestByLengths, Cond.selects RX3 yX3_fewestByLengths yX3_fewestByLengths, Cond.code yX3_fewestByLengths cX3_fewestByLengths 4 (some .int), Cond.methodLink RX3 47 yX3_walk, Cond.instanceMethod yX3_walk, Cond.selects RX3 yX3_walk yX3_walk, Cond.code yX3_walk cX3_walk 8 none, Cond.fieldLink RX3 31 "OddRulers$Reach" "lined" "I", Cond.methodLink RX3 25 yJ7_fill_53178, Cond.static yJ7_fill_53178, Cond.code yJ7_fill_53178 cJ7_fill_53178 4 none, Cond.methodLink RX3 35 yX3_visit]
def wsL_law0_r32 : List Cond := [Cond.instanceMethod yX3_visit, Cond.selects RX3 yX3_visit yX3_visit, Cond.code yX3_visit cX3_visit 3 none, Cond.methodLink RX3 39 yX3_stepsTo, Cond.instanceMethod yX3_stepsTo, Cond.selects RX3 yX3_stepsTo yX3_stepsTo, Cond.code yX3_stepsTo cX3_stepsTo 2 (some .int), Cond.methodLink RX5 238 yX3_fewestBySets, Cond.instanceMethod yX3_fewestBySets, Cond.selects RX3 yX3_fewestBySets yX3_fewestBySets, Cond.code yX3_fewestBySets cX3_fewestBySets 5 (some .int), Cond.methodLink RL 154 yX6_fewest, Cond.instanceMethod yX6_fewest, Cond.selects RX6 yX6_fewest yX6_fewest, Cond.code yX6_fewest cX6_fewest 3 (some .int), Cond.methodLink RL 155 yL_laying, Cond.static yL_laying, Cond.codeWith yL_laying cL_laying 6 (some .int) [(0, 12, 15, 13)], Cond.methodLink RL 62 yX5_laying, Cond.instanceMethod yX5_laying, Cond.selects RX5 yX5_laying yX5_laying, Cond.code yX5_laying cX5_laying 6 (some .int), Cond.methodLink RX5 241 yX3_walk, Cond.methodLink RX5 245 yX3_stepsTo]
def wsL_law0_r33 : List Cond := [Cond.methodLink RX5 248 yX1_begin, Cond.instanceMethod yX1_begin, Cond.selects RX1 yX1_begin yX1_begin, Cond.code yX1_begin cX1_begin 1 none, Cond.fieldLink RX1 7 "OddRulers$Laid" "end" "I", Cond.methodLink RX5 249 yX5_layNext, Cond.instanceMethod yX5_layNext, Cond.selects RX5 yX5_layNext yX5_layNext, Cond.code yX5_layNext cX5_layNext 7 none, Cond.methodLink RX5 292 yX1_end, Cond.instanceMethod yX1_end, Cond.selects RX1 yX1_end yX1_end, Cond.code yX1_end cX1_end 1 (some .int), Cond.methodLink RX5 295 yX1_note, Cond.instanceMethod yX1_note, Cond.selects RX1 yX1_note yX1_note, Cond.code yX1_note cX1_note 5 none, Cond.fieldLink RX1 13 "OddRulers$Laid" "ruler" "I", Cond.fieldLink RX1 16 "OddRulers$Laid" "number" "I", Cond.fieldLink RX1 19 "OddRulers$Laid" "forward" "Z", Cond.methodLink RX5 252 yX1_number, Cond.instanceMethod yX1_number, Cond.selects RX1 yX1_number yX1_number, Cond.code yX1_number cX1_number 2 (some .int)]
def wsL_law0_r34 : List Cond := [Cond.methodLink RL 157 yX6_laying, Cond.instanceMethod yX6_laying, Cond.selects RX6 yX6_laying yX6_laying, Cond.code yX6_laying cX6_laying 6 (some .int), Cond.methodLink RX6 212 yX6_nextLaying, Cond.instanceMethod yX6_nextLaying, Cond.selects RX6 yX6_nextLaying yX6_nextLaying, Cond.code yX6_nextLaying cX6_nextLaying 5 (some .int), Cond.methodLink RX6 215 yX6_ends, Cond.instanceMethod yX6_ends, Cond.selects RX6 yX6_ends yX6_ends, Cond.code yX6_ends cX6_ends 6 (some .int), Cond.methodLink RL 158 yL_why, Cond.static yL_why, Cond.codeWith yL_why cL_why 4 (some .int) [(0, 9, 12, 13)], Cond.methodLink RL 65 yX5_why, Cond.instanceMethod yX5_why, Cond.selects RX5 yX5_why yX5_why, Cond.code yX5_why cX5_why 4 (some .int), Cond.methodLink RL 160 yX6_why, Cond.instanceMethod yX6_why, Cond.selects RX6 yX6_why yX6_why, Cond.code yX6_why cX6_why 2 (some .int), Cond.methodLink RL 161 yL_bestMark]
def wsL_law0_r35 : List Cond := [Cond.static yL_bestMark, Cond.codeWith yL_bestMark cL_bestMark 5 (some .int) [(0, 10, 13, 28), (0, 10, 17, 13)], Cond.methodLink RL 68 yX5_bestMark, Cond.instanceMethod yX5_bestMark, Cond.selects RX5 yX5_bestMark yX5_bestMark, Cond.code yX5_bestMark cX5_bestMark 11 (some .int), Cond.methodLink RX5 255 yX4_spreadWithout, Cond.methodLink RX5 258 yX5_laidBy, Cond.instanceMethod yX5_laidBy, Cond.selects RX5 yX5_laidBy yX5_laidBy, Cond.code yX5_laidBy cX5_laidBy 3 (some .int), Cond.methodLink RL 163 yX6_bestMark, Cond.instanceMethod yX6_bestMark, Cond.selects RX6 yX6_bestMark yX6_bestMark, Cond.code yX6_bestMark cX6_bestMark 7 (some .int), Cond.methodLink RL 164 yL_needless, Cond.static yL_needless, Cond.codeWith yL_needless cL_needless 4 (some .int) [(0, 9, 12, 28)], Cond.methodLink RL 71 yX5_needless, Cond.instanceMethod yX5_needless, Cond.selects RX5 yX5_needless yX5_needless, Cond.code yX5_needless cX5_needless 9 (some .int), Cond.constantLong RX5 264 (-1), Cond.methodLink RX5 261 yX4_isEnd]
def wsL_law0_r36 : List Cond := [Cond.methodLink RL 166 yX6_needless, Cond.instanceMethod yX6_needless, Cond.selects RX6 yX6_needless yX6_needless, Cond.code yX6_needless cX6_needless 5 (some .int), Cond.methodLink RL 167 yL_twin, Cond.static yL_twin, Cond.codeWith yL_twin cL_twin 6 (some .int) [(0, 12, 15, 28)], Cond.methodLink RL 74 yX5_twin, Cond.instanceMethod yX5_twin, Cond.selects RX5 yX5_twin yX5_twin, Cond.code yX5_twin cX5_twin 11 (some .int), Cond.methodLink RX5 266 yX4_innerMarks, Cond.methodLink RX5 269 yX5_reversed, Cond.methodLink RX5 273 yX5_lowest, Cond.methodLink RL 169 yX6_twin, Cond.instanceMethod yX6_twin, Cond.selects RX6 yX6_twin yX6_twin, Cond.code yX6_twin cX6_twin 7 (some .int), Cond.methodLink RX6 218 yX6_inner, Cond.static yX6_inner, Cond.code yX6_inner cX6_inner 7 (some .int), Cond.methodLink RL 170 yX5_layings, Cond.instanceMethod yX5_layings, Cond.selects RX5 yX5_layings yX5_layings]
def wsL_law0_r37 : List Cond := [Cond.code yX5_layings cX5_layings 4 (some .int), Cond.methodLink RX5 276 Lib.Math.max.name, Cond.static Lib.Math.max.name, Cond.code Lib.Math.max.name Lib.Math.max.code 2 (some .int), Cond.methodLink RL 173 yX6_layings, Cond.instanceMethod yX6_layings, Cond.selects RX6 yX6_layings yX6_layings, Cond.code yX6_layings cX6_layings 3 (some .int), Cond.methodLink RL 176 yL_runScript, Cond.static yL_runScript, Cond.codeWith yL_runScript cL_runScript 6 (some .int) [(0, 11, 14, 13)], Cond.methodLink RL 77 yX5_runScript, Cond.instanceMethod yX5_runScript, Cond.selects RX5 yX5_runScript yX5_runScript, Cond.code yX5_runScript cX5_runScript 7 (some .int), Cond.constantLong RX5 301 (1000000), Cond.methodLink RX5 308 Lib.MathLoose.max_long.x, Cond.static Lib.MathLoose.max_long.x, Cond.code Lib.MathLoose.max_long.x Lib.MathLoose.max_long.code 4 (some .long), Cond.methodLink RX5 305 yX4_become, Cond.methodLink RX5 311 yX5_runGroup, Cond.instanceMethod yX5_runGroup, Cond.selects RX5 yX5_runGroup yX5_runGroup, Cond.code yX5_runGroup cX5_runGroup 6 (some .boolean)]
def wsL_law0_r38 : List Cond := [Cond.constant RX5 325 (100000), Cond.methodLink RX5 326 yX4_attempt, Cond.methodLink RX5 330 yX5_laysWithin, Cond.instanceMethod yX5_laysWithin, Cond.selects RX5 yX5_laysWithin yX5_laysWithin, Cond.code yX5_laysWithin cX5_laysWithin 5 (some .boolean), Cond.methodLink RX5 334 yX5_marksAs, Cond.static yX5_marksAs, Cond.code yX5_marksAs cX5_marksAs 4 (some .boolean), Cond.methodLink RL 179 yX6_runScript, Cond.instanceMethod yX6_runScript, Cond.selects RX6 yX6_runScript yX6_runScript, Cond.code yX6_runScript cX6_runScript 8 (some .int), Cond.constantLong RX6 224 (1000000), Cond.constant RX6 226 (100000), Cond.methodLink RX6 227 yX6_command, Cond.instanceMethod yX6_command, Cond.selects RX6 yX6_command yX6_command, Cond.code yX6_command cX6_command 9 (some .boolean), Cond.methodLink RX6 221 yX6_isReached, Cond.instanceMethod yX6_isReached, Cond.selects RX6 yX6_isReached yX6_isReached, Cond.code yX6_isReached cX6_isReached 3 (some .boolean), Cond.methodLink RL 180 yL_simulate]
def wsL_law0_r39 : List Cond := [Cond.static yL_simulate, Cond.codeWith yL_simulate cL_simulate 6 (some .int) [(0, 11, 14, 13)], Cond.methodLink RL 81 yX5_simulate, Cond.instanceMethod yX5_simulate, Cond.selects RX5 yX5_simulate yX5_simulate, Cond.code yX5_simulate cX5_simulate 7 (some .int), Cond.constantLong RX5 317 (6364136223846793005), Cond.constantLong RX5 319 (1442695040888963407), Cond.methodLink RX5 321 yX5_takeTurn, Cond.static yX5_takeTurn, Cond.code yX5_takeTurn cX5_takeTurn 3 none, Cond.methodLink RL 183 yX6_simulate, Cond.instanceMethod yX6_simulate, Cond.selects RX6 yX6_simulate yX6_simulate, Cond.code yX6_simulate cX6_simulate 7 (some .int), Cond.constantLong RX6 230 (60), Cond.constantLong RX6 232 (6364136223846793005), Cond.constantLong RX6 234 (1442695040888963407), Cond.methodLink RX6 236 yX6_turnOf, Cond.static yX6_turnOf, Cond.code yX6_turnOf cX6_turnOf 6 none, Cond.methodLink RL 184 yL_save, Cond.static yL_save, Cond.codeWith yL_save cL_save 4 (some .int) [(0, 9, 12, 28)]]
def wsL_law0_r40 : List Cond := [Cond.methodLink RL 85 yX5_save, Cond.instanceMethod yX5_save, Cond.selects RX5 yX5_save yX5_save, Cond.code yX5_save cX5_save 2 (some .int), Cond.methodLink RX5 338 yX5_checkSlot, Cond.static yX5_checkSlot, Cond.code yX5_checkSlot cX5_checkSlot 1 none, Cond.methodLink RL 186 yX6_save, Cond.instanceMethod yX6_save, Cond.selects RX6 yX6_save yX6_save, Cond.code yX6_save cX6_save 2 (some .int), Cond.methodLink RL 187 yL_restore, Cond.static yL_restore, Cond.codeWith yL_restore cL_restore 4 (some .int) [(0, 9, 12, 28), (0, 9, 15, 15)], Cond.methodLink RL 88 yX5_restore, Cond.instanceMethod yX5_restore, Cond.selects RX5 yX5_restore yX5_restore, Cond.code yX5_restore cX5_restore 2 (some .int), Cond.methodLink RL 189 yX6_restore, Cond.instanceMethod yX6_restore, Cond.selects RX6 yX6_restore yX6_restore, Cond.code yX6_restore cX6_restore 2 (some .int)]
def wsL_law0 : List Cond := (wsL_law0_r1 ++ (wsL_law0_r2 ++ (wsL_law0_r3 ++ (wsL_law0_r4 ++ (wsL_law0_r5 ++ (wsL_law0_r6 ++ (wsL_law0_r7 ++ (wsL_law0_r8 ++ (wsL_law0_r9 ++ (wsL_law0_r10 ++ (wsL_law0_r11 ++ (wsL_law0_r12 ++ (wsL_law0_r13 ++ (wsL_law0_r14 ++ (wsL_law0_r15 ++ (wsL_law0_r16 ++ (wsL_law0_r17 ++ (wsL_law0_r18 ++ (wsL_law0_r19 ++ (wsL_law0_r20 ++ (wsL_law0_r21 ++ (wsL_law0_r22 ++ (wsL_law0_r23 ++ (wsL_law0_r24 ++ (wsL_law0_r25 ++ (wsL_law0_r26 ++ (wsL_law0_r27 ++ (wsL_law0_r28 ++ (wsL_law0_r29 ++ (wsL_law0_r30 ++ (wsL_law0_r31 ++ (wsL_law0_r32 ++ (wsL_law0_r33 ++ (wsL_law0_r34 ++ (wsL_law0_r35 ++ (wsL_law0_r36 ++ (wsL_law0_r37 ++ (wsL_law0_r38 ++ (wsL_law0_r39 ++ wsL_law0_r40))))))))))))))))))))))))))))))))))))))) ++ wsX50 ++ wsX60 ++ wsX40 ++ wsX20 ++ wsX00 ++ wsX30 ++ wsX10 ++ ([] : List Cond)
def wsL_law : List Cond := wsL_law0 ++ (vx_atS RX5 57 "java/lang/IllegalArgumentException" ["java/lang/RuntimeException", "java/lang/Exception"]).filter goodWord ++ (vx_atS RX5 68 "java/lang/IllegalStateException" ["java/lang/RuntimeException", "java/lang/Exception"]).filter goodWord ++ (vx_atS RX5 169 "java/lang/IndexOutOfBoundsException" ["java/lang/RuntimeException", "java/lang/Exception"]).filter goodWord
set_option maxRecDepth 20000 in
theorem oin_r1 : ∀ w ∈ wsL_law0_r1, w ∈ lw_tbl := fun w h => (goodIn_r wsL_law0_r1 [66, 67, 50, 911, 912, 56, 101, 1237, 68, 69, 70, 71, 72, 73, 74, 75, 51, 194, 195, 196, 197, 102, 103, 52] (by decide +kernel) (by decide +kernel) w h).1
set_option maxRecDepth 20000 in
theorem oin_r2 : ∀ w ∈ wsL_law0_r2, w ∈ lw_tbl := fun w h => (goodIn_r wsL_law0_r2 [200, 121, 122, 53, 201, 153, 154, 54, 202, 175, 176, 55, 203, 76, 77, 78, 79, 100, 84, 85, 80, 81, 82, 83] (by decide +kernel) (by decide +kernel) w h).1
set_option maxRecDepth 20000 in
theorem oin_r3 : ∀ w ∈ wsL_law0_r3, w ∈ lw_tbl := fun w h => (goodIn_r wsL_law0_r3 [86, 87, 88, 104, 105, 106, 107, 108, 111, 110, 124, 125, 126, 152, 127, 156, 157, 158, 159, 160, 162, 163, 178, 179] (by decide +kernel) (by decide +kernel) w h).1
set_option maxRecDepth 20000 in
theorem oin_r4 : ∀ w ∈ wsL_law0_r4, w ∈ lw_tbl := fun w h => (goodIn_r wsL_law0_r4 [180, 913, 914, 915, 916, 921, 923, 924, 925, 927, 963, 928, 929, 930, 931, 917, 918, 919, 310, 311, 49, 312, 313, 314] (by decide +kernel) (by decide +kernel) w h).1
set_option maxRecDepth 20000 in
theorem oin_r5 : ∀ w ∈ wsL_law0_r5, w ∈ lw_tbl := fun w h => (goodIn_r wsL_law0_r5 [315, 316, 317, 318, 319, 60, 391, 61, 387, 388, 389, 390, 128, 407, 408, 409, 410, 968, 969, 970, 971, 972, 922, 973] (by decide +kernel) (by decide +kernel) w h).1
set_option maxRecDepth 20000 in
theorem oin_r6 : ∀ w ∈ wsL_law0_r6, w ∈ lw_tbl := fun w h => (goodIn_r wsL_law0_r6 [974, 975, 976, 978, 29, 979, 920, 964, 965, 966, 967, 225, 226, 227, 228, 229, 230, 231, 232, 980, 981, 982, 983, 233] (by decide +kernel) (by decide +kernel) w h).1
set_option maxRecDepth 20000 in
theorem oin_r7 : ∀ w ∈ wsL_law0_r7, w ∈ lw_tbl := fun w h => (goodIn_r wsL_law0_r7 [234, 235, 236, 237, 238, 239, 240, 129, 130, 241, 243, 0, 244, 245, 247, 1, 248, 249, 251, 2, 252, 134, 253, 255] (by decide +kernel) (by decide +kernel) w h).1
set_option maxRecDepth 20000 in
theorem oin_r8 : ∀ w ∈ wsL_law0_r8, w ∈ lw_tbl := fun w h => (goodIn_r wsL_law0_r8 [3, 256, 257, 259, 4, 260, 131, 132, 133, 261, 263, 5, 264, 984, 985, 986, 987, 988, 990, 30, 991, 933, 932, 992] (by decide +kernel) (by decide +kernel) w h).1
set_option maxRecDepth 20000 in
theorem oin_r9 : ∀ w ∈ wsL_law0_r9, w ∈ lw_tbl := fun w h => (goodIn_r wsL_law0_r9 [994, 31, 995, 996, 998, 32, 999, 1000, 1001, 1002, 1003, 1004, 1005, 1006, 1007, 1009, 33, 1010, 1011, 1013, 34, 1014, 1015, 1016] (by decide +kernel) (by decide +kernel) w h).1
set_option maxRecDepth 20000 in
theorem oin_r10 : ∀ w ∈ wsL_law0_r10, w ∈ lw_tbl := fun w h => (goodIn_r wsL_law0_r10 [1017, 1018, 1019, 1020, 1021, 1022, 1023, 1024, 1025, 1026, 1027, 1028, 1029, 1030, 1031, 1032, 1033, 1034, 1035, 1036, 1037, 1038, 1039, 1040] (by decide +kernel) (by decide +kernel) w h).1
set_option maxRecDepth 20000 in
theorem oin_r11 : ∀ w ∈ wsL_law0_r11, w ∈ lw_tbl := fun w h => (goodIn_r wsL_law0_r11 [1041, 1042, 1043, 1044, 411, 412, 413, 414, 415, 416, 417, 198, 199, 419, 420, 421, 422, 423, 113, 424, 425, 426, 427, 428] (by decide +kernel) (by decide +kernel) w h).1
set_option maxRecDepth 20000 in
theorem oin_r12 : ∀ w ∈ wsL_law0_r12, w ∈ lw_tbl := fun w h => (goodIn_r wsL_law0_r12 [429, 430, 431, 432, 433, 434, 435, 436, 437, 438, 439, 440, 441, 442, 443, 444, 445, 446, 447, 448, 449, 450, 451, 452] (by decide +kernel) (by decide +kernel) w h).1
set_option maxRecDepth 20000 in
theorem oin_r13 : ∀ w ∈ wsL_law0_r13, w ∈ lw_tbl := fun w h => (goodIn_r wsL_law0_r13 [453, 454, 455, 456, 457, 458, 459, 461, 8, 462, 463, 465, 9, 466, 467, 469, 10, 470, 471, 277, 278, 279, 280, 472] (by decide +kernel) (by decide +kernel) w h).1
set_option maxRecDepth 20000 in
theorem oin_r14 : ∀ w ∈ wsL_law0_r14, w ∈ lw_tbl := fun w h => (goodIn_r wsL_law0_r14 [473, 474, 475, 476, 477, 62, 478, 479, 480, 481, 482, 484, 11, 485, 486, 488, 12, 489, 491, 492, 493, 300, 301, 494] (by decide +kernel) (by decide +kernel) w h).1
set_option maxRecDepth 20000 in
theorem oin_r15 : ∀ w ∈ wsL_law0_r15, w ∈ lw_tbl := fun w h => (goodIn_r wsL_law0_r15 [495, 496, 497, 498, 500, 501, 502, 504, 13, 505, 1045, 1046, 1047, 1048, 926, 1049, 1050, 1051, 506, 507, 508, 509, 510, 511] (by decide +kernel) (by decide +kernel) w h).1
set_option maxRecDepth 20000 in
theorem oin_r16 : ∀ w ∈ wsL_law0_r16, w ∈ lw_tbl := fun w h => (goodIn_r wsL_law0_r16 [512, 513, 514, 515, 516, 517, 518, 519, 520, 521, 522, 523, 524, 525, 526, 527, 528, 269, 270, 271, 272, 273, 274, 275] (by decide +kernel) (by decide +kernel) w h).1
set_option maxRecDepth 20000 in
theorem oin_r17 : ∀ w ∈ wsL_law0_r17, w ∈ lw_tbl := fun w h => (goodIn_r wsL_law0_r17 [276, 282, 283, 529, 530, 531, 532, 533, 534, 535, 536, 538, 14, 539, 540, 541, 542, 543, 544, 545, 546, 547, 548, 550] (by decide +kernel) (by decide +kernel) w h).1
set_option maxRecDepth 20000 in
theorem oin_r18 : ∀ w ∈ wsL_law0_r18, w ∈ lw_tbl := fun w h => (goodIn_r wsL_law0_r18 [15, 551, 552, 553, 63, 554, 555, 557, 16, 558, 559, 561, 17, 562, 563, 565, 18, 566, 567, 569, 19, 570, 571, 573] (by decide +kernel) (by decide +kernel) w h).1
set_option maxRecDepth 20000 in
theorem oin_r19 : ∀ w ∈ wsL_law0_r19, w ∈ lw_tbl := fun w h => (goodIn_r wsL_law0_r19 [20, 574, 575, 302, 303, 304, 305, 576, 577, 578, 579, 580, 581, 582, 583, 584, 586, 21, 587, 588, 589, 590, 591, 592] (by decide +kernel) (by decide +kernel) w h).1
set_option maxRecDepth 20000 in
theorem oin_r20 : ∀ w ∈ wsL_law0_r20, w ∈ lw_tbl := fun w h => (goodIn_r wsL_law0_r20 [594, 22, 595, 1052, 1053, 1054, 1055, 1056, 1057, 1059, 35, 1060, 1061, 1063, 36, 1064, 1065, 1067, 37, 1068, 1069, 1070, 1071, 1072] (by decide +kernel) (by decide +kernel) w h).1
set_option maxRecDepth 20000 in
theorem oin_r21 : ∀ w ∈ wsL_law0_r21, w ∈ lw_tbl := fun w h => (goodIn_r wsL_law0_r21 [1073, 1074, 1075, 1077, 38, 1078, 1079, 1081, 39, 1082, 1083, 1085, 40, 1086, 1087, 1089, 41, 1090, 1091, 1092, 1093, 1094, 1095, 1097] (by decide +kernel) (by decide +kernel) w h).1
set_option maxRecDepth 20000 in
theorem oin_r22 : ∀ w ∈ wsL_law0_r22, w ∈ lw_tbl := fun w h => (goodIn_r wsL_law0_r22 [42, 1098, 1099, 1100, 1101, 597, 598, 599, 600, 601, 602, 603, 604, 605, 607, 23, 608, 610, 64, 609, 626, 627, 628, 629] (by decide +kernel) (by decide +kernel) w h).1
set_option maxRecDepth 20000 in
theorem oin_r23 : ∀ w ∈ wsL_law0_r23, w ∈ lw_tbl := fun w h => (goodIn_r wsL_law0_r23 [630, 631, 632, 633, 634, 635, 636, 637, 638, 639, 1102, 1103, 1104, 1105, 1106, 640, 641, 642, 643, 644, 645, 646, 647, 649] (by decide +kernel) (by decide +kernel) w h).1
set_option maxRecDepth 20000 in
theorem oin_r24 : ∀ w ∈ wsL_law0_r24, w ∈ lw_tbl := fun w h => (goodIn_r wsL_law0_r24 [650, 651, 652, 1107, 1108, 1109, 1110, 654, 655, 656, 657, 658, 659, 660, 662, 663, 664, 665, 666, 667, 668, 669, 670, 671] (by decide +kernel) (by decide +kernel) w h).1
set_option maxRecDepth 20000 in
theorem oin_r25 : ∀ w ∈ wsL_law0_r25, w ∈ lw_tbl := fun w h => (goodIn_r wsL_law0_r25 [672, 673, 674, 1111, 1112, 1113, 1114, 1115, 1116, 1117, 1118, 1119, 1120, 1121, 676, 677, 678, 679, 680, 681, 682, 684, 685, 686] (by decide +kernel) (by decide +kernel) w h).1
set_option maxRecDepth 20000 in
theorem oin_r26 : ∀ w ∈ wsL_law0_r26, w ∈ lw_tbl := fun w h => (goodIn_r wsL_law0_r26 [687, 688, 689, 690, 691, 1122, 1123, 1124, 1125, 1126, 1128, 43, 1129, 692, 693, 694, 695, 696, 697, 698, 699, 701, 24, 702] (by decide +kernel) (by decide +kernel) w h).1
set_option maxRecDepth 20000 in
theorem oin_r27 : ∀ w ∈ wsL_law0_r27, w ∈ lw_tbl := fun w h => (goodIn_r wsL_law0_r27 [703, 704, 705, 706, 710, 711, 712, 713, 112, 718, 719, 65, 720, 714, 715, 716, 717, 721, 1130, 1131, 1132, 1133, 1134, 1135] (by decide +kernel) (by decide +kernel) w h).1
set_option maxRecDepth 20000 in
theorem oin_r28 : ∀ w ∈ wsL_law0_r28, w ∈ lw_tbl := fun w h => (goodIn_r wsL_law0_r28 [1136, 1138, 44, 1139, 722, 723, 724, 725, 726, 727, 728, 1140, 1141, 1142, 1143, 729, 730, 731, 732, 733, 734, 735, 1144, 1145] (by decide +kernel) (by decide +kernel) w h).1
set_option maxRecDepth 20000 in
theorem oin_r29 : ∀ w ∈ wsL_law0_r29, w ∈ lw_tbl := fun w h => (goodIn_r wsL_law0_r29 [1146, 1147, 736, 737, 738, 739, 740, 741, 742, 1148, 1149, 1150, 1151, 743, 744, 745, 746, 747, 748, 749, 1152, 1153, 1154, 1155] (by decide +kernel) (by decide +kernel) w h).1
set_option maxRecDepth 20000 in
theorem oin_r30 : ∀ w ∈ wsL_law0_r30, w ∈ lw_tbl := fun w h => (goodIn_r wsL_law0_r30 [1156, 1157, 1158, 1159, 1160, 1161, 750, 751, 752, 753, 754, 755, 756, 757, 758, 759, 760, 762, 763, 764, 765, 1162, 1163, 1164] (by decide +kernel) (by decide +kernel) w h).1
set_option maxRecDepth 20000 in
theorem oin_r31 : ∀ w ∈ wsL_law0_r31, w ∈ lw_tbl := fun w h => (goodIn_r wsL_law0_r31 [1165, 766, 767, 768, 769, 770, 771, 772, 773, 774, 775, 778, 779, 780, 781, 782, 285, 286, 287, 161, 288, 289, 290, 291] (by decide +kernel) (by decide +kernel) w h).1
set_option maxRecDepth 20000 in
theorem oin_r32 : ∀ w ∈ wsL_law0_r32, w ∈ lw_tbl := fun w h => (goodIn_r wsL_law0_r32 [293, 6, 294, 295, 296, 297, 298, 783, 784, 785, 786, 1166, 1167, 1168, 1169, 787, 788, 789, 790, 791, 792, 793, 284, 306] (by decide +kernel) (by decide +kernel) w h).1
set_option maxRecDepth 20000 in
theorem oin_r33 : ∀ w ∈ wsL_law0_r33, w ∈ lw_tbl := fun w h => (goodIn_r wsL_law0_r33 [794, 795, 796, 797, 184, 798, 800, 25, 801, 802, 803, 804, 805, 806, 807, 808, 809, 181, 182, 183, 810, 811, 812, 813] (by decide +kernel) (by decide +kernel) w h).1
set_option maxRecDepth 20000 in
theorem oin_r34 : ∀ w ∈ wsL_law0_r34, w ∈ lw_tbl := fun w h => (goodIn_r wsL_law0_r34 [1170, 1171, 1172, 1173, 1174, 1176, 45, 1177, 1178, 1180, 46, 1181, 814, 815, 816, 817, 818, 819, 820, 1182, 1183, 1184, 1185, 821] (by decide +kernel) (by decide +kernel) w h).1
set_option maxRecDepth 20000 in
theorem oin_r35 : ∀ w ∈ wsL_law0_r35, w ∈ lw_tbl := fun w h => (goodIn_r wsL_law0_r35 [822, 823, 824, 825, 826, 827, 828, 829, 831, 26, 832, 1186, 1187, 1188, 1189, 833, 834, 835, 836, 837, 838, 839, 841, 840] (by decide +kernel) (by decide +kernel) w h).1
set_option maxRecDepth 20000 in
theorem oin_r36 : ∀ w ∈ wsL_law0_r36, w ∈ lw_tbl := fun w h => (goodIn_r wsL_law0_r36 [1190, 1191, 1192, 1193, 842, 843, 844, 845, 846, 847, 848, 849, 850, 851, 1194, 1195, 1196, 1197, 1198, 1199, 1200, 265, 266, 267] (by decide +kernel) (by decide +kernel) w h).1
set_option maxRecDepth 20000 in
theorem oin_r37 : ∀ w ∈ wsL_law0_r37, w ∈ lw_tbl := fun w h => (goodIn_r wsL_law0_r37 [268, 307, 308, 309, 1201, 1202, 1203, 1204, 852, 853, 854, 855, 856, 857, 858, 860, 863, 864, 865, 862, 866, 868, 27, 869] (by decide +kernel) (by decide +kernel) w h).1
set_option maxRecDepth 20000 in
theorem oin_r38 : ∀ w ∈ wsL_law0_r38, w ∈ lw_tbl := fun w h => (goodIn_r wsL_law0_r38 [870, 871, 872, 874, 28, 875, 876, 877, 878, 1205, 1206, 1207, 1208, 1209, 1210, 1211, 1213, 47, 1214, 1215, 1217, 48, 1218, 879] (by decide +kernel) (by decide +kernel) w h).1
set_option maxRecDepth 20000 in
theorem oin_r39 : ∀ w ∈ wsL_law0_r39, w ∈ lw_tbl := fun w h => (goodIn_r wsL_law0_r39 [880, 881, 882, 883, 884, 885, 887, 888, 889, 890, 891, 1219, 1220, 1221, 1222, 1223, 1224, 1225, 1226, 1227, 1228, 892, 893, 894] (by decide +kernel) (by decide +kernel) w h).1
set_option maxRecDepth 20000 in
theorem oin_r40 : ∀ w ∈ wsL_law0_r40, w ∈ lw_tbl := fun w h => (goodIn_r wsL_law0_r40 [895, 896, 897, 898, 899, 900, 901, 1229, 1230, 1231, 1232, 903, 904, 905, 906, 907, 908, 909, 1233, 1234, 1235, 1236] (by decide +kernel) (by decide +kernel) w h).1
theorem oin_x5 : ∀ w ∈ wsX50, w ∈ lw_tbl := by decide +kernel
theorem oin_x6 : ∀ w ∈ wsX60, w ∈ lw_tbl := by decide +kernel
theorem oin_x4 : ∀ w ∈ wsX40, w ∈ lw_tbl := by decide +kernel
theorem oin_x2 : ∀ w ∈ wsX20, w ∈ lw_tbl := by decide +kernel
theorem oin_x0 : ∀ w ∈ wsX00, w ∈ lw_tbl := by decide +kernel
theorem oin_x3 : ∀ w ∈ wsX30, w ∈ lw_tbl := by decide +kernel
theorem oin_x1 : ∀ w ∈ wsX10, w ∈ lw_tbl := by decide +kernel
theorem wsL_law_in0 : ∀ w ∈ wsL_law0, w ∈ lw_tbl := by
  have hr : ∀ w ∈ (wsL_law0_r1 ++ (wsL_law0_r2 ++ (wsL_law0_r3 ++ (wsL_law0_r4 ++ (wsL_law0_r5 ++ (wsL_law0_r6 ++ (wsL_law0_r7 ++ (wsL_law0_r8 ++ (wsL_law0_r9 ++ (wsL_law0_r10 ++ (wsL_law0_r11 ++ (wsL_law0_r12 ++ (wsL_law0_r13 ++ (wsL_law0_r14 ++ (wsL_law0_r15 ++ (wsL_law0_r16 ++ (wsL_law0_r17 ++ (wsL_law0_r18 ++ (wsL_law0_r19 ++ (wsL_law0_r20 ++ (wsL_law0_r21 ++ (wsL_law0_r22 ++ (wsL_law0_r23 ++ (wsL_law0_r24 ++ (wsL_law0_r25 ++ (wsL_law0_r26 ++ (wsL_law0_r27 ++ (wsL_law0_r28 ++ (wsL_law0_r29 ++ (wsL_law0_r30 ++ (wsL_law0_r31 ++ (wsL_law0_r32 ++ (wsL_law0_r33 ++ (wsL_law0_r34 ++ (wsL_law0_r35 ++ (wsL_law0_r36 ++ (wsL_law0_r37 ++ (wsL_law0_r38 ++ (wsL_law0_r39 ++ wsL_law0_r40))))))))))))))))))))))))))))))))))))))), w ∈ lw_tbl := by
    refine List.forall_mem_append.mpr ⟨oin_r1, ?_⟩
    refine List.forall_mem_append.mpr ⟨oin_r2, ?_⟩
    refine List.forall_mem_append.mpr ⟨oin_r3, ?_⟩
    refine List.forall_mem_append.mpr ⟨oin_r4, ?_⟩
    refine List.forall_mem_append.mpr ⟨oin_r5, ?_⟩
    refine List.forall_mem_append.mpr ⟨oin_r6, ?_⟩
    refine List.forall_mem_append.mpr ⟨oin_r7, ?_⟩
    refine List.forall_mem_append.mpr ⟨oin_r8, ?_⟩
    refine List.forall_mem_append.mpr ⟨oin_r9, ?_⟩
    refine List.forall_mem_append.mpr ⟨oin_r10, ?_⟩
    refine List.forall_mem_append.mpr ⟨oin_r11, ?_⟩
    refine List.forall_mem_append.mpr ⟨oin_r12, ?_⟩
    refine List.forall_mem_append.mpr ⟨oin_r13, ?_⟩
    refine List.forall_mem_append.mpr ⟨oin_r14, ?_⟩
    refine List.forall_mem_append.mpr ⟨oin_r15, ?_⟩
    refine List.forall_mem_append.mpr ⟨oin_r16, ?_⟩
    refine List.forall_mem_append.mpr ⟨oin_r17, ?_⟩
    refine List.forall_mem_append.mpr ⟨oin_r18, ?_⟩
    refine List.forall_mem_append.mpr ⟨oin_r19, ?_⟩
    refine List.forall_mem_append.mpr ⟨oin_r20, ?_⟩
    refine List.forall_mem_append.mpr ⟨oin_r21, ?_⟩
    refine List.forall_mem_append.mpr ⟨oin_r22, ?_⟩
    refine List.forall_mem_append.mpr ⟨oin_r23, ?_⟩
    refine List.forall_mem_append.mpr ⟨oin_r24, ?_⟩
    refine List.forall_mem_append.mpr ⟨oin_r25, ?_⟩
    refine List.forall_mem_append.mpr ⟨oin_r26, ?_⟩
    refine List.forall_mem_append.mpr ⟨oin_r27, ?_⟩
    refine List.forall_mem_append.mpr ⟨oin_r28, ?_⟩
    refine List.forall_mem_append.mpr ⟨oin_r29, ?_⟩
    refine List.forall_mem_append.mpr ⟨oin_r30, ?_⟩
    refine List.forall_mem_append.mpr ⟨oin_r31, ?_⟩
    refine List.forall_mem_append.mpr ⟨oin_r32, ?_⟩
    refine List.forall_mem_append.mpr ⟨oin_r33, ?_⟩
    refine List.forall_mem_append.mpr ⟨oin_r34, ?_⟩
    refine List.forall_mem_append.mpr ⟨oin_r35, ?_⟩
    refine List.forall_mem_append.mpr ⟨oin_r36, ?_⟩
    refine List.forall_mem_append.mpr ⟨oin_r37, ?_⟩
    refine List.forall_mem_append.mpr ⟨oin_r38, ?_⟩
    refine List.forall_mem_append.mpr ⟨oin_r39, ?_⟩
    exact oin_r40
  exact List.forall_mem_append.mpr ⟨List.forall_mem_append.mpr ⟨List.forall_mem_append.mpr ⟨List.forall_mem_append.mpr ⟨List.forall_mem_append.mpr ⟨List.forall_mem_append.mpr ⟨List.forall_mem_append.mpr ⟨List.forall_mem_append.mpr ⟨hr, oin_x5⟩, oin_x6⟩, oin_x4⟩, oin_x2⟩, oin_x0⟩, oin_x3⟩, oin_x1⟩, fun _ h => absurd h List.not_mem_nil⟩
theorem wsL_law_x0 : ∀ w ∈ (vx_atS RX5 57 "java/lang/IllegalArgumentException" ["java/lang/RuntimeException", "java/lang/Exception"]).filter goodWord, w ∈ lw_tbl := by decide +kernel
theorem wsL_law_x1 : ∀ w ∈ (vx_atS RX5 68 "java/lang/IllegalStateException" ["java/lang/RuntimeException", "java/lang/Exception"]).filter goodWord, w ∈ lw_tbl := by decide +kernel
theorem wsL_law_x2 : ∀ w ∈ (vx_atS RX5 169 "java/lang/IndexOutOfBoundsException" ["java/lang/RuntimeException", "java/lang/Exception"]).filter goodWord, w ∈ lw_tbl := by decide +kernel
theorem wsL_law_in : ∀ w ∈ wsL_law, w ∈ lw_tbl := fun w h => (List.mem_append.mp h).elim (fun h => (List.mem_append.mp h).elim (fun h => (List.mem_append.mp h).elim (fun h => wsL_law_in0 w h) (fun h => wsL_law_x0 w h)) (fun h => wsL_law_x1 w h)) (fun h => wsL_law_x2 w h)
theorem inlX0 : ∀ w ∈ wsX00, w ∈ wsL_law := fun _ h => List.mem_append_left _ (List.mem_append_left _ (List.mem_append_left _ (List.mem_append_left _ (List.mem_append_left _ (List.mem_append_left _ (List.mem_append_right _ h))))))
theorem inX0 : ∀ w ∈ wsX00, w ∈ lw_tbl := fun w h => wsL_law_in w (inlX0 w h)
theorem inlX1 : ∀ w ∈ wsX10, w ∈ wsL_law := fun _ h => List.mem_append_left _ (List.mem_append_left _ (List.mem_append_left _ (List.mem_append_left _ (List.mem_append_right _ h))))
theorem inX1 : ∀ w ∈ wsX10, w ∈ lw_tbl := fun w h => wsL_law_in w (inlX1 w h)
theorem inlX2 : ∀ w ∈ wsX20, w ∈ wsL_law := fun _ h => List.mem_append_left _ (List.mem_append_left _ (List.mem_append_left _ (List.mem_append_left _ (List.mem_append_left _ (List.mem_append_left _ (List.mem_append_left _ (List.mem_append_right _ h)))))))
theorem inX2 : ∀ w ∈ wsX20, w ∈ lw_tbl := fun w h => wsL_law_in w (inlX2 w h)
theorem inlX3 : ∀ w ∈ wsX30, w ∈ wsL_law := fun _ h => List.mem_append_left _ (List.mem_append_left _ (List.mem_append_left _ (List.mem_append_left _ (List.mem_append_left _ (List.mem_append_right _ h)))))
theorem inX3 : ∀ w ∈ wsX30, w ∈ lw_tbl := fun w h => wsL_law_in w (inlX3 w h)
theorem inlX4 : ∀ w ∈ wsX40, w ∈ wsL_law := fun _ h => List.mem_append_left _ (List.mem_append_left _ (List.mem_append_left _ (List.mem_append_left _ (List.mem_append_left _ (List.mem_append_left _ (List.mem_append_left _ (List.mem_append_left _ (List.mem_append_right _ h))))))))
theorem inX4 : ∀ w ∈ wsX40, w ∈ lw_tbl := fun w h => wsL_law_in w (inlX4 w h)
theorem inlX5 : ∀ w ∈ wsX50, w ∈ wsL_law := fun _ h => List.mem_append_left _ (List.mem_append_left _ (List.mem_append_left _ (List.mem_append_left _ (List.mem_append_left _ (List.mem_append_left _ (List.mem_append_left _ (List.mem_append_left _ (List.mem_append_left _ (List.mem_append_left _ (List.mem_append_right _ h))))))))))
theorem inX5 : ∀ w ∈ wsX50, w ∈ lw_tbl := fun w h => wsL_law_in w (inlX5 w h)
theorem inlX6 : ∀ w ∈ wsX60, w ∈ wsL_law := fun _ h => List.mem_append_left _ (List.mem_append_left _ (List.mem_append_left _ (List.mem_append_left _ (List.mem_append_left _ (List.mem_append_left _ (List.mem_append_left _ (List.mem_append_left _ (List.mem_append_left _ (List.mem_append_right _ h)))))))))
theorem inX6 : ∀ w ∈ wsX60, w ∈ lw_tbl := fun w h => wsL_law_in w (inlX6 w h)
theorem inJx145de : ∀ w ∈ wsJx145de0, w ∈ lw_tbl := by decide +kernel
theorem inJ13 : ∀ w ∈ wsJ130, w ∈ lw_tbl := by decide +kernel
theorem inJ9 : ∀ w ∈ wsJ90, w ∈ lw_tbl := by decide +kernel
theorem inJ0 : ∀ w ∈ wsJ00, w ∈ lw_tbl := by decide +kernel
theorem inJ7 : ∀ w ∈ wsJ70, w ∈ lw_tbl := by decide +kernel
abbrev vwCl : List vw_C := [(RX0, TX0, 8), (RX1, TX1, 4), (RX2, TX2, 3), (RX3, TX3, 5), (RX4, TX4, 5), (RX5, TX5, 10), (RX6, TX6, 14)]
/-! ===== END ===== -/
