/-! names, fields, codes (printed by TURN: claim/NAMES.whole) -/
def RX0 : String := "SharedEchoes$Fault"
def TX0 : u_T := fun k => match k with
  | 0 => ("SharedEchoes$Fault", "there", "Z", false)
  | 1 => ("SharedEchoes$Fault", "position", "I", false)
  | 2 => ("SharedEchoes$Fault", "reason", "I", false)
  | _ => ("SharedEchoes$Fault", "cause", "I", false)
def tyX0 : Nat → FieldType := fun k => match k with
  | 0 => .boolean
  | 1 => .int
  | 2 => .int
  | _ => .int
theorem nmX0 : ∀ a, a < 4 → ∀ b, b < 4 → a ≠ b → (TX0 a).2.1 ≠ (TX0 b).2.1 := by decide +kernel
theorem tyX0_ok : ∀ k, k < 4 → parseFieldDescriptor (TX0 k).2.2.1 = some (tyX0 k) := by decide +kernel
abbrev cX0_init : ByteArray := prog_2_method_1_code
def yX0_init : MethodName := ⟨RX0, "<init>", "()V"⟩
def RX1 : String := "SharedEchoes$History"
def TX1 : u_T := fun k => match k with
  | 0 => ("SharedEchoes$History", "states", "[LSharedEchoes$State;", true)
  | 1 => ("SharedEchoes$History", "oldest", "I", false)
  | _ => ("SharedEchoes$History", "kept", "I", false)
def tyX1 : Nat → FieldType := fun k => match k with
  | 0 => .array (.object "SharedEchoes$State")
  | 1 => .int
  | _ => .int
theorem nmX1 : ∀ a, a < 3 → ∀ b, b < 3 → a ≠ b → (TX1 a).2.1 ≠ (TX1 b).2.1 := by decide +kernel
theorem tyX1_ok : ∀ k, k < 3 → parseFieldDescriptor (TX1 k).2.2.1 = some (tyX1 k) := by decide +kernel
abbrev cX1_init : ByteArray := prog_3_method_1_code
def yX1_init : MethodName := ⟨RX1, "<init>", "()V"⟩
abbrev cX1_stateAt : ByteArray := prog_3_method_2_code
def yX1_stateAt : MethodName := ⟨RX1, "stateAt", "(I)LSharedEchoes$State;"⟩
abbrev cX1_keep : ByteArray := prog_3_method_3_code
def yX1_keep : MethodName := ⟨RX1, "keep", "(LSharedEchoes$State;)V"⟩
abbrev cX1_restoreInto : ByteArray := prog_3_method_4_code
def yX1_restoreInto : MethodName := ⟨RX1, "restoreInto", "(LSharedEchoes$State;)V"⟩
def RX2 : String := "SharedEchoes$Meters"
def TX2 : u_T := fun k => match k with
  | 0 => ("SharedEchoes$Meters", "samples", "I", false)
  | 1 => ("SharedEchoes$Meters", "greatest", "I", false)
  | 2 => ("SharedEchoes$Meters", "heldOutputs", "I", false)
  | 3 => ("SharedEchoes$Meters", "heldWords", "I", false)
  | _ => ("SharedEchoes$Meters", "sum", "J", false)
def tyX2 : Nat → FieldType := fun k => match k with
  | 0 => .int
  | 1 => .int
  | 2 => .int
  | 3 => .int
  | _ => .long
theorem nmX2 : ∀ a, a < 5 → ∀ b, b < 5 → a ≠ b → (TX2 a).2.1 ≠ (TX2 b).2.1 := by decide +kernel
theorem tyX2_ok : ∀ k, k < 5 → parseFieldDescriptor (TX2 k).2.2.1 = some (tyX2 k) := by decide +kernel
abbrev cX2_init : ByteArray := prog_4_method_1_code
def yX2_init : MethodName := ⟨RX2, "<init>", "()V"⟩
abbrev cX2_add : ByteArray := prog_4_method_2_code
def yX2_add : MethodName := ⟨RX2, "add", "(IZZ)V"⟩
abbrev cX2_bitsOfMean : ByteArray := prog_4_method_4_code
def yX2_bitsOfMean : MethodName := ⟨RX2, "bitsOfMean", "()I"⟩
abbrev cX2_bitsOf : ByteArray := prog_4_method_5_code
def yX2_bitsOf : MethodName := ⟨RX2, "bitsOf", "(F)I"⟩
abbrev cX2_takeOver : ByteArray := prog_4_method_6_code
def yX2_takeOver : MethodName := ⟨RX2, "takeOver", "(LSharedEchoes$Meters;)V"⟩
def RX3 : String := "SharedEchoes$Order"
def TX3 : u_T := fun k => match k with
  | 0 => ("SharedEchoes$Order", "numbers", "[I", true)
  | 1 => ("SharedEchoes$Order", "kind", "I", false)
  | 2 => ("SharedEchoes$Order", "end", "I", false)
  | _ => ("SharedEchoes$Order", "whole", "Z", false)
def tyX3 : Nat → FieldType := fun k => match k with
  | 0 => .array .int
  | 1 => .int
  | 2 => .int
  | _ => .boolean
theorem nmX3 : ∀ a, a < 4 → ∀ b, b < 4 → a ≠ b → (TX3 a).2.1 ≠ (TX3 b).2.1 := by decide +kernel
theorem tyX3_ok : ∀ k, k < 4 → parseFieldDescriptor (TX3 k).2.2.1 = some (tyX3 k) := by decide +kernel
abbrev cX3_init : ByteArray := prog_5_method_1_code
def yX3_init : MethodName := ⟨RX3, "<init>", "()V"⟩
def RX4 : String := "SharedEchoes$Outputs"
def TX4 : u_T := fun k => match k with
  | 0 => ("SharedEchoes$Outputs", "row", "[I", true)
  | 1 => ("SharedEchoes$Outputs", "next", "I", false)
  | _ => ("SharedEchoes$Outputs", "kept", "I", false)
def tyX4 : Nat → FieldType := fun k => match k with
  | 0 => .array .int
  | 1 => .int
  | _ => .int
theorem nmX4 : ∀ a, a < 3 → ∀ b, b < 3 → a ≠ b → (TX4 a).2.1 ≠ (TX4 b).2.1 := by decide +kernel
theorem tyX4_ok : ∀ k, k < 3 → parseFieldDescriptor (TX4 k).2.2.1 = some (tyX4 k) := by decide +kernel
abbrev cX4_init : ByteArray := prog_6_method_1_code
def yX4_init : MethodName := ⟨RX4, "<init>", "()V"⟩
abbrev cX4_add : ByteArray := prog_6_method_2_code
def yX4_add : MethodName := ⟨RX4, "add", "(I)V"⟩
abbrev cX4_latest : ByteArray := prog_6_method_3_code
def yX4_latest : MethodName := ⟨RX4, "latest", "(I)I"⟩
abbrev cX4_takeOver : ByteArray := prog_6_method_4_code
def yX4_takeOver : MethodName := ⟨RX4, "takeOver", "(LSharedEchoes$Outputs;)V"⟩
def RX5 : String := "SharedEchoes$Ring"
def TX5 : u_T := fun k => match k with
  | 0 => ("SharedEchoes$Ring", "words", "[I", true)
  | 1 => ("SharedEchoes$Ring", "first", "I", false)
  | _ => ("SharedEchoes$Ring", "length", "I", false)
def tyX5 : Nat → FieldType := fun k => match k with
  | 0 => .array .int
  | 1 => .int
  | _ => .int
theorem nmX5 : ∀ a, a < 3 → ∀ b, b < 3 → a ≠ b → (TX5 a).2.1 ≠ (TX5 b).2.1 := by decide +kernel
theorem tyX5_ok : ∀ k, k < 3 → parseFieldDescriptor (TX5 k).2.2.1 = some (tyX5 k) := by decide +kernel
abbrev cX5_init : ByteArray := prog_7_method_1_code
def yX5_init : MethodName := ⟨RX5, "<init>", "()V"⟩
abbrev cX5_wordAt : ByteArray := prog_7_method_2_code
def yX5_wordAt : MethodName := ⟨RX5, "wordAt", "(I)I"⟩
abbrev cX5_write : ByteArray := prog_7_method_3_code
def yX5_write : MethodName := ⟨RX5, "write", "(I)V"⟩
abbrev cX5_shorten : ByteArray := prog_7_method_4_code
def yX5_shorten : MethodName := ⟨RX5, "shorten", "(I)V"⟩
abbrev cX5_lengthen : ByteArray := prog_7_method_5_code
def yX5_lengthen : MethodName := ⟨RX5, "lengthen", "(I)V"⟩
abbrev cX5_wordsAbove : ByteArray := prog_7_method_7_code
def yX5_wordsAbove : MethodName := ⟨RX5, "wordsAbove", "(I)I"⟩
abbrev cX5_sumOfAmounts : ByteArray := prog_7_method_8_code
def yX5_sumOfAmounts : MethodName := ⟨RX5, "sumOfAmounts", "()I"⟩
abbrev cX5_takeOver : ByteArray := prog_7_method_9_code
def yX5_takeOver : MethodName := ⟨RX5, "takeOver", "(LSharedEchoes$Ring;)V"⟩
def RX6 : String := "SharedEchoes$State"
def TX6 : u_T := fun k => match k with
  | 0 => ("SharedEchoes$State", "ring", "LSharedEchoes$Ring;", true)
  | 1 => ("SharedEchoes$State", "outputs", "LSharedEchoes$Outputs;", true)
  | 2 => ("SharedEchoes$State", "meters", "LSharedEchoes$Meters;", true)
  | 3 => ("SharedEchoes$State", "delays", "[I", true)
  | 4 => ("SharedEchoes$State", "gains", "[I", true)
  | 5 => ("SharedEchoes$State", "limit", "I", false)
  | 6 => ("SharedEchoes$State", "shape", "I", false)
  | _ => ("SharedEchoes$State", "stolenSoFar", "I", false)
def tyX6 : Nat → FieldType := fun k => match k with
  | 0 => .object "SharedEchoes$Ring"
  | 1 => .object "SharedEchoes$Outputs"
  | 2 => .object "SharedEchoes$Meters"
  | 3 => .array .int
  | 4 => .array .int
  | 5 => .int
  | 6 => .int
  | _ => .int
theorem nmX6 : ∀ a, a < 8 → ∀ b, b < 8 → a ≠ b → (TX6 a).2.1 ≠ (TX6 b).2.1 := by decide +kernel
theorem tyX6_ok : ∀ k, k < 8 → parseFieldDescriptor (TX6 k).2.2.1 = some (tyX6 k) := by decide +kernel
abbrev cX6_init : ByteArray := prog_8_method_1_code
def yX6_init : MethodName := ⟨RX6, "<init>", "()V"⟩
abbrev cX6_isRow : ByteArray := prog_8_method_2_code
def yX6_isRow : MethodName := ⟨RX6, "isRow", "(I)Z"⟩
abbrev cX6_delayOf : ByteArray := prog_8_method_3_code
def yX6_delayOf : MethodName := ⟨RX6, "delayOf", "(I)I"⟩
abbrev cX6_gainOf : ByteArray := prog_8_method_4_code
def yX6_gainOf : MethodName := ⟨RX6, "gainOf", "(I)I"⟩
abbrev cX6_putRow : ByteArray := prog_8_method_5_code
def yX6_putRow : MethodName := ⟨RX6, "putRow", "(III)V"⟩
abbrev cX6_isOn : ByteArray := prog_8_method_6_code
def yX6_isOn : MethodName := ⟨RX6, "isOn", "(I)Z"⟩
abbrev cX6_isLost : ByteArray := prog_8_method_7_code
def yX6_isLost : MethodName := ⟨RX6, "isLost", "(I)Z"⟩
abbrev cX6_readingOf : ByteArray := prog_8_method_8_code
def yX6_readingOf : MethodName := ⟨RX6, "readingOf", "(I)I"⟩
abbrev cX6_shareOf : ByteArray := prog_8_method_9_code
def yX6_shareOf : MethodName := ⟨RX6, "shareOf", "(I)I"⟩
abbrev cX6_letThrough : ByteArray := prog_8_method_10_code
def yX6_letThrough : MethodName := ⟨RX6, "letThrough", "(I)I"⟩
abbrev cX6_wordsOfProgram : ByteArray := prog_8_method_13_code
def yX6_wordsOfProgram : MethodName := ⟨RX6, "wordsOfProgram", "()I"⟩
abbrev cX6_takeWords : ByteArray := prog_8_method_14_code
def yX6_takeWords : MethodName := ⟨RX6, "takeWords", "(I)V"⟩
abbrev cX6_putSetting : ByteArray := prog_8_method_15_code
def yX6_putSetting : MethodName := ⟨RX6, "putSetting", "(II)I"⟩
abbrev cX6_takeOver : ByteArray := prog_8_method_16_code
def yX6_takeOver : MethodName := ⟨RX6, "takeOver", "(LSharedEchoes$State;)V"⟩
def RX7 : String := "SharedEchoes$Text"
def TX7 : u_T := fun k => match k with
  | 0 => ("SharedEchoes$Text", "characters", "[I", true)
  | _ => ("SharedEchoes$Text", "length", "I", false)
def tyX7 : Nat → FieldType := fun k => match k with
  | 0 => .array .int
  | _ => .int
theorem nmX7 : ∀ a, a < 2 → ∀ b, b < 2 → a ≠ b → (TX7 a).2.1 ≠ (TX7 b).2.1 := by decide +kernel
theorem tyX7_ok : ∀ k, k < 2 → parseFieldDescriptor (TX7 k).2.2.1 = some (tyX7 k) := by decide +kernel
abbrev cX7_init : ByteArray := prog_9_method_1_code
def yX7_init : MethodName := ⟨RX7, "<init>", "()V"⟩
def RX8 : String := "SharedEchoes"
def TX8 : u_T := fun k => match k with
  | 0 => ("SharedEchoes", "now", "LSharedEchoes$State;", true)
  | 1 => ("SharedEchoes", "trial", "LSharedEchoes$State;", true)
  | 2 => ("SharedEchoes", "history", "LSharedEchoes$History;", true)
  | 3 => ("SharedEchoes", "text", "LSharedEchoes$Text;", true)
  | 4 => ("SharedEchoes", "order", "LSharedEchoes$Order;", true)
  | _ => ("SharedEchoes", "found", "LSharedEchoes$Fault;", true)
def tyX8 : Nat → FieldType := fun k => match k with
  | 0 => .object "SharedEchoes$State"
  | 1 => .object "SharedEchoes$State"
  | 2 => .object "SharedEchoes$History"
  | 3 => .object "SharedEchoes$Text"
  | 4 => .object "SharedEchoes$Order"
  | _ => .object "SharedEchoes$Fault"
theorem nmX8 : ∀ a, a < 6 → ∀ b, b < 6 → a ≠ b → (TX8 a).2.1 ≠ (TX8 b).2.1 := by decide +kernel
theorem tyX8_ok : ∀ k, k < 6 → parseFieldDescriptor (TX8 k).2.2.1 = some (tyX8 k) := by decide +kernel
abbrev cX8_init : ByteArray := prog_1_method_1_code
def yX8_init : MethodName := ⟨RX8, "<init>", "()V"⟩
abbrev cX8_sample : ByteArray := prog_1_method_2_code
def yX8_sample : MethodName := ⟨RX8, "sample", "(I)I"⟩
abbrev cX8_tap : ByteArray := prog_1_method_4_code
def yX8_tap : MethodName := ⟨RX8, "tap", "(III)I"⟩
abbrev cX8_off : ByteArray := prog_1_method_5_code
def yX8_off : MethodName := ⟨RX8, "off", "(I)I"⟩
abbrev cX8_feedback : ByteArray := prog_1_method_6_code
def yX8_feedback : MethodName := ⟨RX8, "feedback", "(II)I"⟩
abbrev cX8_steal : ByteArray := prog_1_method_7_code
def yX8_steal : MethodName := ⟨RX8, "steal", "(I)I"⟩
abbrev cX8_giveBack : ByteArray := prog_1_method_8_code
def yX8_giveBack : MethodName := ⟨RX8, "giveBack", "(I)I"⟩
abbrev cX8_set : ByteArray := prog_1_method_9_code
def yX8_set : MethodName := ⟨RX8, "set", "(II)I"⟩
abbrev cX8_tapOf : ByteArray := prog_1_method_11_code
def yX8_tapOf : MethodName := ⟨RX8, "tapOf", "(II)I"⟩
abbrev cX8_wordOf : ByteArray := prog_1_method_12_code
def yX8_wordOf : MethodName := ⟨RX8, "wordOf", "(I)I"⟩
abbrev cX8_outputOf : ByteArray := prog_1_method_13_code
def yX8_outputOf : MethodName := ⟨RX8, "outputOf", "(I)I"⟩
abbrev cX8_meter : ByteArray := prog_1_method_14_code
def yX8_meter : MethodName := ⟨RX8, "meter", "(I)I"⟩
abbrev cX8_loudest : ByteArray := prog_1_method_17_code
def yX8_loudest : MethodName := ⟨RX8, "loudest", "()I"⟩
abbrev cX8_count : ByteArray := prog_1_method_19_code
def yX8_count : MethodName := ⟨RX8, "count", "(I)I"⟩
abbrev cX8_undo : ByteArray := prog_1_method_20_code
def yX8_undo : MethodName := ⟨RX8, "undo", "()I"⟩
abbrev cX8_isWithin : ByteArray := prog_1_method_25_code
def yX8_isWithin : MethodName := ⟨RX8, "isWithin", "(III)Z"⟩
abbrev cX8_isTap : ByteArray := prog_1_method_26_code
def yX8_isTap : MethodName := ⟨RX8, "isTap", "(I)Z"⟩
abbrev cX8_isSample : ByteArray := prog_1_method_27_code
def yX8_isSample : MethodName := ⟨RX8, "isSample", "(I)Z"⟩
abbrev cX8_isSetting : ByteArray := prog_1_method_28_code
def yX8_isSetting : MethodName := ⟨RX8, "isSetting", "(II)Z"⟩
abbrev cX8_sampleError : ByteArray := prog_1_method_29_code
def yX8_sampleError : MethodName := ⟨RX8, "sampleError", "(I)I"⟩
abbrev cX8_tapError : ByteArray := prog_1_method_31_code
def yX8_tapError : MethodName := ⟨RX8, "tapError", "(III)I"⟩
abbrev cX8_feedbackError : ByteArray := prog_1_method_32_code
def yX8_feedbackError : MethodName := ⟨RX8, "feedbackError", "(II)I"⟩
abbrev cX8_stealError : ByteArray := prog_1_method_33_code
def yX8_stealError : MethodName := ⟨RX8, "stealError", "(II)I"⟩
abbrev cX8_giveBackError : ByteArray := prog_1_method_34_code
def yX8_giveBackError : MethodName := ⟨RX8, "giveBackError", "(II)I"⟩
abbrev cX8_thousandths : ByteArray := prog_1_method_35_code
def yX8_thousandths : MethodName := ⟨RX8, "thousandths", "(II)I"⟩
abbrev cX8_shaped : ByteArray := prog_1_method_36_code
def yX8_shaped : MethodName := ⟨RX8, "shaped", "(III)I"⟩
abbrev cX8_tapsOn : ByteArray := prog_1_method_38_code
def yX8_tapsOn : MethodName := ⟨RX8, "tapsOn", "()I"⟩
abbrev cX8_tapsLost : ByteArray := prog_1_method_39_code
def yX8_tapsLost : MethodName := ⟨RX8, "tapsLost", "()I"⟩
def RX9 : String := "SharedEchoesModel"
def TX9 : u_T := fun k => match k with
  | _ => ("", "", "", false)
def tyX9 : Nat → FieldType := fun k => match k with
  | _ => .int
theorem nmX9 : ∀ a, a < 0 → ∀ b, b < 0 → a ≠ b → (TX9 a).2.1 ≠ (TX9 b).2.1 := by decide +kernel
theorem tyX9_ok : ∀ k, k < 0 → parseFieldDescriptor (TX9 k).2.2.1 = some (tyX9 k) := by decide +kernel
def RJ9 : String := "java/lang/Math"
def TJ9 : u_T := fun k => match k with
  | _ => ("", "", "", false)
def tyJ9 : Nat → FieldType := fun k => match k with
  | _ => .int
theorem nmJ9 : ∀ a, a < 0 → ∀ b, b < 0 → a ≠ b → (TJ9 a).2.1 ≠ (TJ9 b).2.1 := by decide +kernel
theorem tyJ9_ok : ∀ k, k < 0 → parseFieldDescriptor (TJ9 k).2.2.1 = some (tyJ9 k) := by decide +kernel
abbrev cJ9_floorMod_7cf53 : ByteArray := prog_12_method_50_code
def yJ9_floorMod_7cf53 : MethodName := ⟨RJ9, "floorMod", "(II)I"⟩
abbrev cJ9_abs_0f7a4 : ByteArray := prog_12_method_59_code
def yJ9_abs_0f7a4 : MethodName := ⟨RJ9, "abs", "(I)I"⟩
abbrev cJ9_max_7cf53 : ByteArray := prog_12_method_65_code
def yJ9_max_7cf53 : MethodName := ⟨RJ9, "max", "(II)I"⟩
abbrev cJ9_min_7cf53 : ByteArray := prog_12_method_69_code
def yJ9_min_7cf53 : MethodName := ⟨RJ9, "min", "(II)I"⟩
def RJ10 : String := "java/lang/System"
def TJ10 : u_T := fun k => match k with
  | _ => ("", "", "", false)
def tyJ10 : Nat → FieldType := fun k => match k with
  | _ => .int
theorem nmJ10 : ∀ a, a < 0 → ∀ b, b < 0 → a ≠ b → (TJ10 a).2.1 ≠ (TJ10 b).2.1 := by decide +kernel
theorem tyJ10_ok : ∀ k, k < 0 → parseFieldDescriptor (TJ10 k).2.2.1 = some (tyJ10 k) := by decide +kernel
def RL : String := "SharedEchoesLaw"
abbrev cL_cell : ByteArray := method_2_code
def yL_cell : MethodName := ⟨RL, "cell", "([II)I"⟩
abbrev cL_isThere : ByteArray := method_3_code
def yL_isThere : MethodName := ⟨RL, "isThere", "(LSharedEchoes;[II)Z"⟩
abbrev cL_law : ByteArray := code
def yL_law : MethodName := ⟨RL, "law", "([I)Z"⟩
abbrev vwCl : List vw_C := [(RX0, TX0, 4), (RX1, TX1, 3), (RX2, TX2, 5), (RX3, TX3, 4), (RX4, TX4, 3), (RX5, TX5, 3), (RX6, TX6, 8), (RX7, TX7, 2), (RX8, TX8, 6)]
