/-! names, fields, codes (printed by TURN: claim/NAMES.whole) -/
def RX0 : String := "SharedEchoes$Fault"
def TX0 : u_T := fun k => match k with
  | 0 => ("SharedEchoes$Fault", "there", "Z", false)
  | 1 => ("SharedEchoes$Fault", "position", "I", false)
  | 2 => ("SharedEchoes$Fault", "reason", "I", false)
  | _ => ("SharedEchoes$Fault", "cause", "I", false)
def tyX0 : Nat → FieldType := fun k => match k with
  | 0 => .boolean
  | 1 => .int
  | 2 => .int
  | _ => .int
theorem nmX0 : ∀ a, a < 4 → ∀ b, b < 4 → a ≠ b → (TX0 a).2.1 ≠ (TX0 b).2.1 := by decide +kernel
theorem tyX0_ok : ∀ k, k < 4 → parseFieldDescriptor (TX0 k).2.2.1 = some (tyX0 k) := by decide +kernel
abbrev cX0_init : ByteArray := prog_2_method_1_code
def yX0_init : MethodName := ⟨RX0, "<init>", "()V"⟩
abbrev cX0_put : ByteArray := prog_2_method_2_code
def yX0_put : MethodName := ⟨RX0, "put", "(III)V"⟩
def RX1 : String := "SharedEchoes$History"
def TX1 : u_T := fun k => match k with
  | 0 => ("SharedEchoes$History", "states", "[LSharedEchoes$State;", true)
  | 1 => ("SharedEchoes$History", "oldest", "I", false)
  | _ => ("SharedEchoes$History", "kept", "I", false)
def tyX1 : Nat → FieldType := fun k => match k with
  | 0 => .array (.object "SharedEchoes$State")
  | 1 => .int
  | _ => .int
theorem nmX1 : ∀ a, a < 3 → ∀ b, b < 3 → a ≠ b → (TX1 a).2.1 ≠ (TX1 b).2.1 := by decide +kernel
theorem tyX1_ok : ∀ k, k < 3 → parseFieldDescriptor (TX1 k).2.2.1 = some (tyX1 k) := by decide +kernel
abbrev cX1_init : ByteArray := prog_3_method_1_code
def yX1_init : MethodName := ⟨RX1, "<init>", "()V"⟩
abbrev cX1_stateAt : ByteArray := prog_3_method_2_code
def yX1_stateAt : MethodName := ⟨RX1, "stateAt", "(I)LSharedEchoes$State;"⟩
abbrev cX1_keep : ByteArray := prog_3_method_3_code
def yX1_keep : MethodName := ⟨RX1, "keep", "(LSharedEchoes$State;)V"⟩
abbrev cX1_restoreInto : ByteArray := prog_3_method_4_code
def yX1_restoreInto : MethodName := ⟨RX1, "restoreInto", "(LSharedEchoes$State;)V"⟩
def RX2 : String := "SharedEchoes$Meters"
def TX2 : u_T := fun k => match k with
  | 0 => ("SharedEchoes$Meters", "samples", "I", false)
  | 1 => ("SharedEchoes$Meters", "greatest", "I", false)
  | 2 => ("SharedEchoes$Meters", "heldOutputs", "I", false)
  | 3 => ("SharedEchoes$Meters", "heldWords", "I", false)
  | _ => ("SharedEchoes$Meters", "sum", "J", false)
def tyX2 : Nat → FieldType := fun k => match k with
  | 0 => .int
  | 1 => .int
  | 2 => .int
  | 3 => .int
  | _ => .long
theorem nmX2 : ∀ a, a < 5 → ∀ b, b < 5 → a ≠ b → (TX2 a).2.1 ≠ (TX2 b).2.1 := by decide +kernel
theorem tyX2_ok : ∀ k, k < 5 → parseFieldDescriptor (TX2 k).2.2.1 = some (tyX2 k) := by decide +kernel
abbrev cX2_init : ByteArray := prog_4_method_1_code
def yX2_init : MethodName := ⟨RX2, "<init>", "()V"⟩
abbrev cX2_add : ByteArray := prog_4_method_2_code
def yX2_add : MethodName := ⟨RX2, "add", "(IZZ)V"⟩
abbrev cX2_startAnew : ByteArray := prog_4_method_3_code
def yX2_startAnew : MethodName := ⟨RX2, "startAnew", "()V"⟩
abbrev cX2_bitsOfMean : ByteArray := prog_4_method_4_code
def yX2_bitsOfMean : MethodName := ⟨RX2, "bitsOfMean", "()I"⟩
abbrev cX2_bitsOf : ByteArray := prog_4_method_5_code
def yX2_bitsOf : MethodName := ⟨RX2, "bitsOf", "(F)I"⟩
abbrev cX2_takeOver : ByteArray := prog_4_method_6_code
def yX2_takeOver : MethodName := ⟨RX2, "takeOver", "(LSharedEchoes$Meters;)V"⟩
def RX3 : String := "SharedEchoes$Order"
def TX3 : u_T := fun k => match k with
  | 0 => ("SharedEchoes$Order", "numbers", "[I", true)
  | 1 => ("SharedEchoes$Order", "kind", "I", false)
  | 2 => ("SharedEchoes$Order", "end", "I", false)
  | _ => ("SharedEchoes$Order", "whole", "Z", false)
def tyX3 : Nat → FieldType := fun k => match k with
  | 0 => .array .int
  | 1 => .int
  | 2 => .int
  | _ => .boolean
theorem nmX3 : ∀ a, a < 4 → ∀ b, b < 4 → a ≠ b → (TX3 a).2.1 ≠ (TX3 b).2.1 := by decide +kernel
theorem tyX3_ok : ∀ k, k < 4 → parseFieldDescriptor (TX3 k).2.2.1 = some (tyX3 k) := by decide +kernel
abbrev cX3_init : ByteArray := prog_5_method_1_code
def yX3_init : MethodName := ⟨RX3, "<init>", "()V"⟩
abbrev cX3_numberAt : ByteArray := prog_5_method_2_code
def yX3_numberAt : MethodName := ⟨RX3, "numberAt", "(I)I"⟩
abbrev cX3_read : ByteArray := prog_5_method_3_code
def yX3_read : MethodName := ⟨RX3, "read", "(LSharedEchoes$Text;I)V"⟩
abbrev cX3_numbersOfKind : ByteArray := prog_5_method_4_code
def yX3_numbersOfKind : MethodName := ⟨RX3, "numbersOfKind", "()I"⟩
abbrev cX3_readNumber : ByteArray := prog_5_method_5_code
def yX3_readNumber : MethodName := ⟨RX3, "readNumber", "(LSharedEchoes$Text;IZ)V"⟩
abbrev cX3_readSign : ByteArray := prog_5_method_6_code
def yX3_readSign : MethodName := ⟨RX3, "readSign", "(LSharedEchoes$Text;I)V"⟩
abbrev cX3_isDigit : ByteArray := prog_5_method_7_code
def yX3_isDigit : MethodName := ⟨RX3, "isDigit", "(I)Z"⟩
def RX4 : String := "SharedEchoes$Outputs"
def TX4 : u_T := fun k => match k with
  | 0 => ("SharedEchoes$Outputs", "row", "[I", true)
  | 1 => ("SharedEchoes$Outputs", "next", "I", false)
  | _ => ("SharedEchoes$Outputs", "kept", "I", false)
def tyX4 : Nat → FieldType := fun k => match k with
  | 0 => .array .int
  | 1 => .int
  | _ => .int
theorem nmX4 : ∀ a, a < 3 → ∀ b, b < 3 → a ≠ b → (TX4 a).2.1 ≠ (TX4 b).2.1 := by decide +kernel
theorem tyX4_ok : ∀ k, k < 3 → parseFieldDescriptor (TX4 k).2.2.1 = some (tyX4 k) := by decide +kernel
abbrev cX4_init : ByteArray := prog_6_method_1_code
def yX4_init : MethodName := ⟨RX4, "<init>", "()V"⟩
abbrev cX4_add : ByteArray := prog_6_method_2_code
def yX4_add : MethodName := ⟨RX4, "add", "(I)V"⟩
abbrev cX4_latest : ByteArray := prog_6_method_3_code
def yX4_latest : MethodName := ⟨RX4, "latest", "(I)I"⟩
abbrev cX4_takeOver : ByteArray := prog_6_method_4_code
def yX4_takeOver : MethodName := ⟨RX4, "takeOver", "(LSharedEchoes$Outputs;)V"⟩
def RX5 : String := "SharedEchoes$Ring"
def TX5 : u_T := fun k => match k with
  | 0 => ("SharedEchoes$Ring", "words", "[I", true)
  | 1 => ("SharedEchoes$Ring", "first", "I", false)
  | _ => ("SharedEchoes$Ring", "length", "I", false)
def tyX5 : Nat → FieldType := fun k => match k with
  | 0 => .array .int
  | 1 => .int
  | _ => .int
theorem nmX5 : ∀ a, a < 3 → ∀ b, b < 3 → a ≠ b → (TX5 a).2.1 ≠ (TX5 b).2.1 := by decide +kernel
theorem tyX5_ok : ∀ k, k < 3 → parseFieldDescriptor (TX5 k).2.2.1 = some (tyX5 k) := by decide +kernel
abbrev cX5_init : ByteArray := prog_7_method_1_code
def yX5_init : MethodName := ⟨RX5, "<init>", "()V"⟩
abbrev cX5_wordAt : ByteArray := prog_7_method_2_code
def yX5_wordAt : MethodName := ⟨RX5, "wordAt", "(I)I"⟩
abbrev cX5_write : ByteArray := prog_7_method_3_code
def yX5_write : MethodName := ⟨RX5, "write", "(I)V"⟩
abbrev cX5_shorten : ByteArray := prog_7_method_4_code
def yX5_shorten : MethodName := ⟨RX5, "shorten", "(I)V"⟩
abbrev cX5_lengthen : ByteArray := prog_7_method_5_code
def yX5_lengthen : MethodName := ⟨RX5, "lengthen", "(I)V"⟩
abbrev cX5_fillWithZeros : ByteArray := prog_7_method_6_code
def yX5_fillWithZeros : MethodName := ⟨RX5, "fillWithZeros", "()V"⟩
abbrev cX5_wordsAbove : ByteArray := prog_7_method_7_code
def yX5_wordsAbove : MethodName := ⟨RX5, "wordsAbove", "(I)I"⟩
abbrev cX5_sumOfAmounts : ByteArray := prog_7_method_8_code
def yX5_sumOfAmounts : MethodName := ⟨RX5, "sumOfAmounts", "()I"⟩
abbrev cX5_takeOver : ByteArray := prog_7_method_9_code
def yX5_takeOver : MethodName := ⟨RX5, "takeOver", "(LSharedEchoes$Ring;)V"⟩
def RX6 : String := "SharedEchoes$State"
def TX6 : u_T := fun k => match k with
  | 0 => ("SharedEchoes$State", "ring", "LSharedEchoes$Ring;", true)
  | 1 => ("SharedEchoes$State", "outputs", "LSharedEchoes$Outputs;", true)
  | 2 => ("SharedEchoes$State", "meters", "LSharedEchoes$Meters;", true)
  | 3 => ("SharedEchoes$State", "delays", "[I", true)
  | 4 => ("SharedEchoes$State", "gains", "[I", true)
  | 5 => ("SharedEchoes$State", "limit", "I", false)
  | 6 => ("SharedEchoes$State", "shape", "I", false)
  | _ => ("SharedEchoes$State", "stolenSoFar", "I", false)
def tyX6 : Nat → FieldType := fun k => match k with
  | 0 => .object "SharedEchoes$Ring"
  | 1 => .object "SharedEchoes$Outputs"
  | 2 => .object "SharedEchoes$Meters"
  | 3 => .array .int
  | 4 => .array .int
  | 5 => .int
  | 6 => .int
  | _ => .int
theorem nmX6 : ∀ a, a < 8 → ∀ b, b < 8 → a ≠ b → (TX6 a).2.1 ≠ (TX6 b).2.1 := by decide +kernel
theorem tyX6_ok : ∀ k, k < 8 → parseFieldDescriptor (TX6 k).2.2.1 = some (tyX6 k) := by decide +kernel
abbrev cX6_init : ByteArray := prog_8_method_1_code
def yX6_init : MethodName := ⟨RX6, "<init>", "()V"⟩
abbrev cX6_isRow : ByteArray := prog_8_method_2_code
def yX6_isRow : MethodName := ⟨RX6, "isRow", "(I)Z"⟩
abbrev cX6_delayOf : ByteArray := prog_8_method_3_code
def yX6_delayOf : MethodName := ⟨RX6, "delayOf", "(I)I"⟩
abbrev cX6_gainOf : ByteArray := prog_8_method_4_code
def yX6_gainOf : MethodName := ⟨RX6, "gainOf", "(I)I"⟩
abbrev cX6_putRow : ByteArray := prog_8_method_5_code
def yX6_putRow : MethodName := ⟨RX6, "putRow", "(III)V"⟩
abbrev cX6_isOn : ByteArray := prog_8_method_6_code
def yX6_isOn : MethodName := ⟨RX6, "isOn", "(I)Z"⟩
abbrev cX6_isLost : ByteArray := prog_8_method_7_code
def yX6_isLost : MethodName := ⟨RX6, "isLost", "(I)Z"⟩
abbrev cX6_readingOf : ByteArray := prog_8_method_8_code
def yX6_readingOf : MethodName := ⟨RX6, "readingOf", "(I)I"⟩
abbrev cX6_shareOf : ByteArray := prog_8_method_9_code
def yX6_shareOf : MethodName := ⟨RX6, "shareOf", "(I)I"⟩
abbrev cX6_letThrough : ByteArray := prog_8_method_10_code
def yX6_letThrough : MethodName := ⟨RX6, "letThrough", "(I)I"⟩
abbrev cX6_letSilenceThrough : ByteArray := prog_8_method_11_code
def yX6_letSilenceThrough : MethodName := ⟨RX6, "letSilenceThrough", "(I)I"⟩
abbrev cX6_feedRing : ByteArray := prog_8_method_12_code
def yX6_feedRing : MethodName := ⟨RX6, "feedRing", "(I)I"⟩
abbrev cX6_wordsOfProgram : ByteArray := prog_8_method_13_code
def yX6_wordsOfProgram : MethodName := ⟨RX6, "wordsOfProgram", "()I"⟩
abbrev cX6_takeWords : ByteArray := prog_8_method_14_code
def yX6_takeWords : MethodName := ⟨RX6, "takeWords", "(I)V"⟩
abbrev cX6_putSetting : ByteArray := prog_8_method_15_code
def yX6_putSetting : MethodName := ⟨RX6, "putSetting", "(II)I"⟩
abbrev cX6_takeOver : ByteArray := prog_8_method_16_code
def yX6_takeOver : MethodName := ⟨RX6, "takeOver", "(LSharedEchoes$State;)V"⟩
def RX7 : String := "SharedEchoes$Text"
def TX7 : u_T := fun k => match k with
  | 0 => ("SharedEchoes$Text", "characters", "[I", true)
  | _ => ("SharedEchoes$Text", "length", "I", false)
def tyX7 : Nat → FieldType := fun k => match k with
  | 0 => .array .int
  | _ => .int
theorem nmX7 : ∀ a, a < 2 → ∀ b, b < 2 → a ≠ b → (TX7 a).2.1 ≠ (TX7 b).2.1 := by decide +kernel
theorem tyX7_ok : ∀ k, k < 2 → parseFieldDescriptor (TX7 k).2.2.1 = some (tyX7 k) := by decide +kernel
abbrev cX7_init : ByteArray := prog_9_method_1_code
def yX7_init : MethodName := ⟨RX7, "<init>", "()V"⟩
abbrev cX7_characterAt : ByteArray := prog_9_method_2_code
def yX7_characterAt : MethodName := ⟨RX7, "characterAt", "(I)I"⟩
abbrev cX7_append : ByteArray := prog_9_method_3_code
def yX7_append : MethodName := ⟨RX7, "append", "(I)V"⟩
def RX8 : String := "SharedEchoes"
def TX8 : u_T := fun k => match k with
  | 0 => ("SharedEchoes", "now", "LSharedEchoes$State;", true)
  | 1 => ("SharedEchoes", "trial", "LSharedEchoes$State;", true)
  | 2 => ("SharedEchoes", "history", "LSharedEchoes$History;", true)
  | 3 => ("SharedEchoes", "text", "LSharedEchoes$Text;", true)
  | 4 => ("SharedEchoes", "order", "LSharedEchoes$Order;", true)
  | _ => ("SharedEchoes", "found", "LSharedEchoes$Fault;", true)
def tyX8 : Nat → FieldType := fun k => match k with
  | 0 => .object "SharedEchoes$State"
  | 1 => .object "SharedEchoes$State"
  | 2 => .object "SharedEchoes$History"
  | 3 => .object "SharedEchoes$Text"
  | 4 => .object "SharedEchoes$Order"
  | _ => .object "SharedEchoes$Fault"
theorem nmX8 : ∀ a, a < 6 → ∀ b, b < 6 → a ≠ b → (TX8 a).2.1 ≠ (TX8 b).2.1 := by decide +kernel
theorem tyX8_ok : ∀ k, k < 6 → parseFieldDescriptor (TX8 k).2.2.1 = some (tyX8 k) := by decide +kernel
abbrev cX8_init : ByteArray := prog_1_method_1_code
def yX8_init : MethodName := ⟨RX8, "<init>", "()V"⟩
abbrev cX8_sample : ByteArray := prog_1_method_2_code
def yX8_sample : MethodName := ⟨RX8, "sample", "(I)I"⟩
abbrev cX8_silence : ByteArray := prog_1_method_3_code
def yX8_silence : MethodName := ⟨RX8, "silence", "(I)I"⟩
abbrev cX8_tap : ByteArray := prog_1_method_4_code
def yX8_tap : MethodName := ⟨RX8, "tap", "(III)I"⟩
abbrev cX8_off : ByteArray := prog_1_method_5_code
def yX8_off : MethodName := ⟨RX8, "off", "(I)I"⟩
abbrev cX8_feedback : ByteArray := prog_1_method_6_code
def yX8_feedback : MethodName := ⟨RX8, "feedback", "(II)I"⟩
abbrev cX8_steal : ByteArray := prog_1_method_7_code
def yX8_steal : MethodName := ⟨RX8, "steal", "(I)I"⟩
abbrev cX8_giveBack : ByteArray := prog_1_method_8_code
def yX8_giveBack : MethodName := ⟨RX8, "giveBack", "(I)I"⟩
abbrev cX8_set : ByteArray := prog_1_method_9_code
def yX8_set : MethodName := ⟨RX8, "set", "(II)I"⟩
abbrev cX8_reset : ByteArray := prog_1_method_10_code
def yX8_reset : MethodName := ⟨RX8, "reset", "()I"⟩
abbrev cX8_tapOf : ByteArray := prog_1_method_11_code
def yX8_tapOf : MethodName := ⟨RX8, "tapOf", "(II)I"⟩
abbrev cX8_wordOf : ByteArray := prog_1_method_12_code
def yX8_wordOf : MethodName := ⟨RX8, "wordOf", "(I)I"⟩
abbrev cX8_outputOf : ByteArray := prog_1_method_13_code
def yX8_outputOf : MethodName := ⟨RX8, "outputOf", "(I)I"⟩
abbrev cX8_meter : ByteArray := prog_1_method_14_code
def yX8_meter : MethodName := ⟨RX8, "meter", "(I)I"⟩
abbrev cX8_echo : ByteArray := prog_1_method_15_code
def yX8_echo : MethodName := ⟨RX8, "echo", "(II)I"⟩
abbrev cX8_quietAfter : ByteArray := prog_1_method_16_code
def yX8_quietAfter : MethodName := ⟨RX8, "quietAfter", "(I)I"⟩
abbrev cX8_loudest : ByteArray := prog_1_method_17_code
def yX8_loudest : MethodName := ⟨RX8, "loudest", "()I"⟩
abbrev cX8_safeGain : ByteArray := prog_1_method_18_code
def yX8_safeGain : MethodName := ⟨RX8, "safeGain", "(II)I"⟩
abbrev cX8_count : ByteArray := prog_1_method_19_code
def yX8_count : MethodName := ⟨RX8, "count", "(I)I"⟩
abbrev cX8_undo : ByteArray := prog_1_method_20_code
def yX8_undo : MethodName := ⟨RX8, "undo", "()I"⟩
abbrev cX8_type : ByteArray := prog_1_method_21_code
def yX8_type : MethodName := ⟨RX8, "type", "(I)I"⟩
abbrev cX8_clearText : ByteArray := prog_1_method_22_code
def yX8_clearText : MethodName := ⟨RX8, "clearText", "()I"⟩
abbrev cX8_fault : ByteArray := prog_1_method_23_code
def yX8_fault : MethodName := ⟨RX8, "fault", "(I)I"⟩
abbrev cX8_play : ByteArray := prog_1_method_24_code
def yX8_play : MethodName := ⟨RX8, "play", "()I"⟩
abbrev cX8_isWithin : ByteArray := prog_1_method_25_code
def yX8_isWithin : MethodName := ⟨RX8, "isWithin", "(III)Z"⟩
abbrev cX8_isTap : ByteArray := prog_1_method_26_code
def yX8_isTap : MethodName := ⟨RX8, "isTap", "(I)Z"⟩
abbrev cX8_isSample : ByteArray := prog_1_method_27_code
def yX8_isSample : MethodName := ⟨RX8, "isSample", "(I)Z"⟩
abbrev cX8_isSetting : ByteArray := prog_1_method_28_code
def yX8_isSetting : MethodName := ⟨RX8, "isSetting", "(II)Z"⟩
abbrev cX8_sampleError : ByteArray := prog_1_method_29_code
def yX8_sampleError : MethodName := ⟨RX8, "sampleError", "(I)I"⟩
abbrev cX8_silenceError : ByteArray := prog_1_method_30_code
def yX8_silenceError : MethodName := ⟨RX8, "silenceError", "(I)I"⟩
abbrev cX8_tapError : ByteArray := prog_1_method_31_code
def yX8_tapError : MethodName := ⟨RX8, "tapError", "(III)I"⟩
abbrev cX8_feedbackError : ByteArray := prog_1_method_32_code
def yX8_feedbackError : MethodName := ⟨RX8, "feedbackError", "(II)I"⟩
abbrev cX8_stealError : ByteArray := prog_1_method_33_code
def yX8_stealError : MethodName := ⟨RX8, "stealError", "(II)I"⟩
abbrev cX8_giveBackError : ByteArray := prog_1_method_34_code
def yX8_giveBackError : MethodName := ⟨RX8, "giveBackError", "(II)I"⟩
abbrev cX8_thousandths : ByteArray := prog_1_method_35_code
def yX8_thousandths : MethodName := ⟨RX8, "thousandths", "(II)I"⟩
abbrev cX8_shaped : ByteArray := prog_1_method_36_code
def yX8_shaped : MethodName := ⟨RX8, "shaped", "(III)I"⟩
abbrev cX8_wouldBeQuiet : ByteArray := prog_1_method_37_code
def yX8_wouldBeQuiet : MethodName := ⟨RX8, "wouldBeQuiet", "(III)Z"⟩
abbrev cX8_tapsOn : ByteArray := prog_1_method_38_code
def yX8_tapsOn : MethodName := ⟨RX8, "tapsOn", "()I"⟩
abbrev cX8_tapsLost : ByteArray := prog_1_method_39_code
def yX8_tapsLost : MethodName := ⟨RX8, "tapsLost", "()I"⟩
abbrev cX8_findFault : ByteArray := prog_1_method_40_code
def yX8_findFault : MethodName := ⟨RX8, "findFault", "()V"⟩
abbrev cX8_orderError : ByteArray := prog_1_method_41_code
def yX8_orderError : MethodName := ⟨RX8, "orderError", "(I)I"⟩
abbrev cX8_wordsThatGo : ByteArray := prog_1_method_42_code
def yX8_wordsThatGo : MethodName := ⟨RX8, "wordsThatGo", "()I"⟩
abbrev cX8_doOrder : ByteArray := prog_1_method_43_code
def yX8_doOrder : MethodName := ⟨RX8, "doOrder", "()V"⟩
def RX9 : String := "SharedEchoesModel"
def TX9 : u_T := fun k => match k with
  | 0 => ("SharedEchoesModel", "s", "[I", true)
  | 1 => ("SharedEchoesModel", "sums", "[J", true)
  | 2 => ("SharedEchoesModel", "states", "I", false)
  | 3 => ("SharedEchoesModel", "text", "[C", true)
  | 4 => ("SharedEchoesModel", "typed", "I", false)
  | 5 => ("SharedEchoesModel", "reason", "I", false)
  | 6 => ("SharedEchoesModel", "cause", "I", false)
  | 7 => ("SharedEchoesModel", "at", "I", false)
  | _ => ("SharedEchoesModel", "told", "[I", true)
def tyX9 : Nat → FieldType := fun k => match k with
  | 0 => .array .int
  | 1 => .array .long
  | 2 => .int
  | 3 => .array .char
  | 4 => .int
  | 5 => .int
  | 6 => .int
  | 7 => .int
  | _ => .array .int
theorem nmX9 : ∀ a, a < 9 → ∀ b, b < 9 → a ≠ b → (TX9 a).2.1 ≠ (TX9 b).2.1 := by decide +kernel
theorem tyX9_ok : ∀ k, k < 9 → parseFieldDescriptor (TX9 k).2.2.1 = some (tyX9 k) := by decide +kernel
abbrev cX9_init : ByteArray := prog_11_method_1_code
def yX9_init : MethodName := ⟨RX9, "<init>", "()V"⟩
abbrev cX9_in : ByteArray := prog_11_method_2_code
def yX9_in : MethodName := ⟨RX9, "in", "(III)Z"⟩
abbrev cX9_amount : ByteArray := prog_11_method_3_code
def yX9_amount : MethodName := ⟨RX9, "amount", "(I)I"⟩
abbrev cX9_copies : ByteArray := prog_11_method_4_code
def yX9_copies : MethodName := ⟨RX9, "copies", "(II)V"⟩
abbrev cX9_keeps : ByteArray := prog_11_method_5_code
def yX9_keeps : MethodName := ⟨RX9, "keeps", "()V"⟩
abbrev cX9_acted : ByteArray := prog_11_method_6_code
def yX9_acted : MethodName := ⟨RX9, "acted", "(I)I"⟩
abbrev cX9_length : ByteArray := prog_11_method_7_code
def yX9_length : MethodName := ⟨RX9, "length", "(I)I"⟩
abbrev cX9_isLost : ByteArray := prog_11_method_8_code
def yX9_isLost : MethodName := ⟨RX9, "isLost", "(II)Z"⟩
abbrev cX9_reads : ByteArray := prog_11_method_9_code
def yX9_reads : MethodName := ⟨RX9, "reads", "(II)I"⟩
abbrev cX9_share : ByteArray := prog_11_method_10_code
def yX9_share : MethodName := ⟨RX9, "share", "(II)I"⟩
abbrev cX9_shaped : ByteArray := prog_11_method_11_code
def yX9_shaped : MethodName := ⟨RX9, "shaped", "(II)I"⟩
abbrev cX9_goes : ByteArray := prog_11_method_12_code
def yX9_goes : MethodName := ⟨RX9, "goes", "(II)I"⟩
abbrev cX9_greatestWord : ByteArray := prog_11_method_13_code
def yX9_greatestWord : MethodName := ⟨RX9, "greatestWord", "(I)I"⟩
abbrev cX9_doSample : ByteArray := prog_11_method_14_code
def yX9_doSample : MethodName := ⟨RX9, "doSample", "(I)I"⟩
abbrev cX9_doSilence : ByteArray := prog_11_method_15_code
def yX9_doSilence : MethodName := ⟨RX9, "doSilence", "(I)I"⟩
abbrev cX9_doTap : ByteArray := prog_11_method_16_code
def yX9_doTap : MethodName := ⟨RX9, "doTap", "(III)I"⟩
abbrev cX9_doFeedback : ByteArray := prog_11_method_17_code
def yX9_doFeedback : MethodName := ⟨RX9, "doFeedback", "(II)I"⟩
abbrev cX9_doSteal : ByteArray := prog_11_method_18_code
def yX9_doSteal : MethodName := ⟨RX9, "doSteal", "(I)I"⟩
abbrev cX9_doGive : ByteArray := prog_11_method_19_code
def yX9_doGive : MethodName := ⟨RX9, "doGive", "(I)I"⟩
abbrev cX9_sample : ByteArray := prog_11_method_20_code
def yX9_sample : MethodName := ⟨RX9, "sample", "(I)I"⟩
abbrev cX9_silence : ByteArray := prog_11_method_21_code
def yX9_silence : MethodName := ⟨RX9, "silence", "(I)I"⟩
abbrev cX9_tap : ByteArray := prog_11_method_22_code
def yX9_tap : MethodName := ⟨RX9, "tap", "(III)I"⟩
abbrev cX9_off : ByteArray := prog_11_method_23_code
def yX9_off : MethodName := ⟨RX9, "off", "(I)I"⟩
abbrev cX9_feedback : ByteArray := prog_11_method_24_code
def yX9_feedback : MethodName := ⟨RX9, "feedback", "(II)I"⟩
abbrev cX9_steal : ByteArray := prog_11_method_25_code
def yX9_steal : MethodName := ⟨RX9, "steal", "(I)I"⟩
abbrev cX9_giveBack : ByteArray := prog_11_method_26_code
def yX9_giveBack : MethodName := ⟨RX9, "giveBack", "(I)I"⟩
abbrev cX9_set : ByteArray := prog_11_method_27_code
def yX9_set : MethodName := ⟨RX9, "set", "(II)I"⟩
abbrev cX9_reset : ByteArray := prog_11_method_28_code
def yX9_reset : MethodName := ⟨RX9, "reset", "()I"⟩
abbrev cX9_tapOf : ByteArray := prog_11_method_29_code
def yX9_tapOf : MethodName := ⟨RX9, "tapOf", "(II)I"⟩
abbrev cX9_wordOf : ByteArray := prog_11_method_30_code
def yX9_wordOf : MethodName := ⟨RX9, "wordOf", "(I)I"⟩
abbrev cX9_outputOf : ByteArray := prog_11_method_31_code
def yX9_outputOf : MethodName := ⟨RX9, "outputOf", "(I)I"⟩
abbrev cX9_meter : ByteArray := prog_11_method_32_code
def yX9_meter : MethodName := ⟨RX9, "meter", "(I)I"⟩
abbrev cX9_silenced : ByteArray := prog_11_method_33_code
def yX9_silenced : MethodName := ⟨RX9, "silenced", "()V"⟩
abbrev cX9_echo : ByteArray := prog_11_method_34_code
def yX9_echo : MethodName := ⟨RX9, "echo", "(II)I"⟩
abbrev cX9_quietAfter : ByteArray := prog_11_method_35_code
def yX9_quietAfter : MethodName := ⟨RX9, "quietAfter", "(I)I"⟩
abbrev cX9_loudest : ByteArray := prog_11_method_36_code
def yX9_loudest : MethodName := ⟨RX9, "loudest", "()I"⟩
abbrev cX9_isQuiet : ByteArray := prog_11_method_37_code
def yX9_isQuiet : MethodName := ⟨RX9, "isQuiet", "(III)Z"⟩
abbrev cX9_safeGain : ByteArray := prog_11_method_38_code
def yX9_safeGain : MethodName := ⟨RX9, "safeGain", "(II)I"⟩
abbrev cX9_words : ByteArray := prog_11_method_39_code
def yX9_words : MethodName := ⟨RX9, "words", "(Z)I"⟩
abbrev cX9_taps : ByteArray := prog_11_method_40_code
def yX9_taps : MethodName := ⟨RX9, "taps", "(Z)I"⟩
abbrev cX9_count : ByteArray := prog_11_method_41_code
def yX9_count : MethodName := ⟨RX9, "count", "(I)I"⟩
abbrev cX9_undo : ByteArray := prog_11_method_42_code
def yX9_undo : MethodName := ⟨RX9, "undo", "()I"⟩
abbrev cX9_type : ByteArray := prog_11_method_43_code
def yX9_type : MethodName := ⟨RX9, "type", "(I)I"⟩
abbrev cX9_clearText : ByteArray := prog_11_method_44_code
def yX9_clearText : MethodName := ⟨RX9, "clearText", "()I"⟩
abbrev cX9_sign : ByteArray := prog_11_method_45_code
def yX9_sign : MethodName := ⟨RX9, "sign", "()I"⟩
abbrev cX9_number : ByteArray := prog_11_method_46_code
def yX9_number : MethodName := ⟨RX9, "number", "(IZ)Z"⟩
abbrev cX9_takes : ByteArray := prog_11_method_47_code
def yX9_takes : MethodName := ⟨RX9, "takes", "(I)Z"⟩
abbrev cX9_order : ByteArray := prog_11_method_48_code
def yX9_order : MethodName := ⟨RX9, "order", "(I)Z"⟩
abbrev cX9_does : ByteArray := prog_11_method_49_code
def yX9_does : MethodName := ⟨RX9, "does", "(I)I"⟩
abbrev cX9_goesOn : ByteArray := prog_11_method_50_code
def yX9_goesOn : MethodName := ⟨RX9, "goesOn", "()I"⟩
abbrev cX9_fault : ByteArray := prog_11_method_51_code
def yX9_fault : MethodName := ⟨RX9, "fault", "(I)I"⟩
abbrev cX9_play : ByteArray := prog_11_method_52_code
def yX9_play : MethodName := ⟨RX9, "play", "()I"⟩
def RJx145de : String := "java/io/Serializable"
def TJx145de : u_T := fun k => match k with
  | _ => ("", "", "", false)
def tyJx145de : Nat → FieldType := fun k => match k with
  | _ => .int
theorem nmJx145de : ∀ a, a < 0 → ∀ b, b < 0 → a ≠ b → (TJx145de a).2.1 ≠ (TJx145de b).2.1 := by decide +kernel
theorem tyJx145de_ok : ∀ k, k < 0 → parseFieldDescriptor (TJx145de k).2.2.1 = some (tyJx145de k) := by decide +kernel
def RJxb160c : String := "java/lang/Comparable"
def TJxb160c : u_T := fun k => match k with
  | _ => ("", "", "", false)
def tyJxb160c : Nat → FieldType := fun k => match k with
  | _ => .int
theorem nmJxb160c : ∀ a, a < 0 → ∀ b, b < 0 → a ≠ b → (TJxb160c a).2.1 ≠ (TJxb160c b).2.1 := by decide +kernel
theorem tyJxb160c_ok : ∀ k, k < 0 → parseFieldDescriptor (TJxb160c k).2.2.1 = some (tyJxb160c k) := by decide +kernel
def RJxf58ca : String := "java/lang/Float"
def TJxf58ca : u_T := fun k => match k with
  | _ => ("", "", "", false)
def tyJxf58ca : Nat → FieldType := fun k => match k with
  | _ => .int
theorem nmJxf58ca : ∀ a, a < 0 → ∀ b, b < 0 → a ≠ b → (TJxf58ca a).2.1 ≠ (TJxf58ca b).2.1 := by decide +kernel
theorem tyJxf58ca_ok : ∀ k, k < 0 → parseFieldDescriptor (TJxf58ca k).2.2.1 = some (tyJxf58ca k) := by decide +kernel
abbrev cJxf58ca_isNaN_12338 : ByteArray := prog_12_method_6_code
def yJxf58ca_isNaN_12338 : MethodName := ⟨RJxf58ca, "isNaN", "(F)Z"⟩
abbrev cJxf58ca_floatToIntBits_5c35a : ByteArray := prog_12_method_24_code
def yJxf58ca_floatToIntBits_5c35a : MethodName := ⟨RJxf58ca, "floatToIntBits", "(F)I"⟩
def RJ9 : String := "java/lang/Math"
def TJ9 : u_T := fun k => match k with
  | _ => ("", "", "", false)
def tyJ9 : Nat → FieldType := fun k => match k with
  | _ => .int
theorem nmJ9 : ∀ a, a < 0 → ∀ b, b < 0 → a ≠ b → (TJ9 a).2.1 ≠ (TJ9 b).2.1 := by decide +kernel
theorem tyJ9_ok : ∀ k, k < 0 → parseFieldDescriptor (TJ9 k).2.2.1 = some (tyJ9 k) := by decide +kernel
abbrev cJ9_floorMod_7cf53 : ByteArray := prog_13_method_50_code
def yJ9_floorMod_7cf53 : MethodName := ⟨RJ9, "floorMod", "(II)I"⟩
abbrev cJ9_abs_0f7a4 : ByteArray := prog_13_method_59_code
def yJ9_abs_0f7a4 : MethodName := ⟨RJ9, "abs", "(I)I"⟩
abbrev cJ9_max_7cf53 : ByteArray := prog_13_method_65_code
def yJ9_max_7cf53 : MethodName := ⟨RJ9, "max", "(II)I"⟩
abbrev cJ9_min_7cf53 : ByteArray := prog_13_method_69_code
def yJ9_min_7cf53 : MethodName := ⟨RJ9, "min", "(II)I"⟩
def RJxd2413 : String := "java/lang/Number"
def TJxd2413 : u_T := fun k => match k with
  | _ => ("", "", "", false)
def tyJxd2413 : Nat → FieldType := fun k => match k with
  | _ => .int
theorem nmJxd2413 : ∀ a, a < 0 → ∀ b, b < 0 → a ≠ b → (TJxd2413 a).2.1 ≠ (TJxd2413 b).2.1 := by decide +kernel
theorem tyJxd2413_ok : ∀ k, k < 0 → parseFieldDescriptor (TJxd2413 k).2.2.1 = some (tyJxd2413 k) := by decide +kernel
def RJ10 : String := "java/lang/System"
def TJ10 : u_T := fun k => match k with
  | _ => ("", "", "", false)
def tyJ10 : Nat → FieldType := fun k => match k with
  | _ => .int
theorem nmJ10 : ∀ a, a < 0 → ∀ b, b < 0 → a ≠ b → (TJ10 a).2.1 ≠ (TJ10 b).2.1 := by decide +kernel
theorem tyJ10_ok : ∀ k, k < 0 → parseFieldDescriptor (TJ10 k).2.2.1 = some (tyJ10 k) := by decide +kernel
def RJxfd54e : String := "java/lang/constant/Constable"
def TJxfd54e : u_T := fun k => match k with
  | _ => ("", "", "", false)
def tyJxfd54e : Nat → FieldType := fun k => match k with
  | _ => .int
theorem nmJxfd54e : ∀ a, a < 0 → ∀ b, b < 0 → a ≠ b → (TJxfd54e a).2.1 ≠ (TJxfd54e b).2.1 := by decide +kernel
theorem tyJxfd54e_ok : ∀ k, k < 0 → parseFieldDescriptor (TJxfd54e k).2.2.1 = some (tyJxfd54e k) := by decide +kernel
def RJx3cf43 : String := "java/lang/constant/ConstantDesc"
def TJx3cf43 : u_T := fun k => match k with
  | _ => ("", "", "", false)
def tyJx3cf43 : Nat → FieldType := fun k => match k with
  | _ => .int
theorem nmJx3cf43 : ∀ a, a < 0 → ∀ b, b < 0 → a ≠ b → (TJx3cf43 a).2.1 ≠ (TJx3cf43 b).2.1 := by decide +kernel
theorem tyJx3cf43_ok : ∀ k, k < 0 → parseFieldDescriptor (TJx3cf43 k).2.2.1 = some (tyJx3cf43 k) := by decide +kernel
def RJ7 : String := "java/util/Arrays"
def TJ7 : u_T := fun k => match k with
  | _ => ("", "", "", false)
def tyJ7 : Nat → FieldType := fun k => match k with
  | _ => .int
theorem nmJ7 : ∀ a, a < 0 → ∀ b, b < 0 → a ≠ b → (TJ7 a).2.1 ≠ (TJ7 b).2.1 := by decide +kernel
theorem tyJ7_ok : ∀ k, k < 0 → parseFieldDescriptor (TJ7 k).2.2.1 = some (tyJ7 k) := by decide +kernel
abbrev cJ7_fill_53178 : ByteArray := prog_16_method_103_code
def yJ7_fill_53178 : MethodName := ⟨RJ7, "fill", "([II)V"⟩
def RL : String := "SharedEchoesLaw"
abbrev cL_law : ByteArray := code
def yL_law : MethodName := ⟨RL, "law", "([I)Z"⟩
abbrev vwCl : List vw_C := [(RX0, TX0, 4), (RX1, TX1, 3), (RX2, TX2, 5), (RX3, TX3, 4), (RX4, TX4, 3), (RX5, TX5, 3), (RX6, TX6, 8), (RX7, TX7, 2), (RX8, TX8, 6), (RX9, TX9, 9)]
