def RX0 : String := "MirrorCards$Card"
def TX0 : u_T := fun k => match k with
  | 0 => ("MirrorCards$Card", "front", "J", false)
  | 1 => ("MirrorCards$Card", "back", "J", false)
  | _ => ("MirrorCards$Card", "lies", "I", false)
def tyX0 : Nat → FieldType := fun k => match k with
  | 0 => .long
  | 1 => .long
  | _ => .int
abbrev wsX00 : List Cond := u_ws RX0 TX0 3
theorem nmX0 : ∀ a, a < 3 → ∀ b, b < 3 → a ≠ b → (TX0 a).2.1 ≠ (TX0 b).2.1 := by decide +kernel
theorem tyX0_ok : ∀ k, k < 3 → parseFieldDescriptor (TX0 k).2.2.1 = some (tyX0 k) := by decide +kernel
abbrev cX0_init : ByteArray := prog_2_method_1_code
def yX0_init : MethodName := ⟨RX0, "<init>", "()V"⟩
abbrev cX0_clear : ByteArray := prog_2_method_2_code
def yX0_clear : MethodName := ⟨RX0, "clear", "()V"⟩
abbrev cX0_become : ByteArray := prog_2_method_3_code
def yX0_become : MethodName := ⟨RX0, "become", "(LMirrorCards$Card;)V"⟩
abbrev cX0_sound : ByteArray := prog_2_method_4_code
def yX0_sound : MethodName := ⟨RX0, "sound", "()J"⟩
abbrev cX0_ones : ByteArray := prog_2_method_5_code
def yX0_ones : MethodName := ⟨RX0, "ones", "()J"⟩
abbrev cX0_blank : ByteArray := prog_2_method_6_code
def yX0_blank : MethodName := ⟨RX0, "blank", "()J"⟩
abbrev cX0_cellsOfKind : ByteArray := prog_2_method_7_code
def yX0_cellsOfKind : MethodName := ⟨RX0, "cellsOfKind", "(I)J"⟩
abbrev cX0_kindAt : ByteArray := prog_2_method_8_code
def yX0_kindAt : MethodName := ⟨RX0, "kindAt", "(I)I"⟩
abbrev cX0_hasHole : ByteArray := prog_2_method_9_code
def yX0_hasHole : MethodName := ⟨RX0, "hasHole", "(ZI)Z"⟩
abbrev cX0_setHole : ByteArray := prog_2_method_10_code
def yX0_setHole : MethodName := ⟨RX0, "setHole", "(ZIZ)V"⟩
abbrev cX0_punchBit : ByteArray := prog_2_method_11_code
def yX0_punchBit : MethodName := ⟨RX0, "punchBit", "(III)V"⟩
abbrev cX0_canPunch : ByteArray := prog_2_method_12_code
def yX0_canPunch : MethodName := ⟨RX0, "canPunch", "(I)Z"⟩
abbrev cX0_punchRow : ByteArray := prog_2_method_13_code
def yX0_punchRow : MethodName := ⟨RX0, "punchRow", "(II)I"⟩
abbrev cX0_canClose : ByteArray := prog_2_method_14_code
def yX0_canClose : MethodName := ⟨RX0, "canClose", "()Z"⟩
abbrev cX0_punchCheckRow : ByteArray := prog_2_method_15_code
def yX0_punchCheckRow : MethodName := ⟨RX0, "punchCheckRow", "()I"⟩
abbrev cX0_showsBack : ByteArray := prog_2_method_16_code
def yX0_showsBack : MethodName := ⟨RX0, "showsBack", "()Z"⟩
abbrev cX0_seenCell : ByteArray := prog_2_method_17_code
def yX0_seenCell : MethodName := ⟨RX0, "seenCell", "(II)I"⟩
abbrev cX0_showsHole : ByteArray := prog_2_method_18_code
def yX0_showsHole : MethodName := ⟨RX0, "showsHole", "(II)Z"⟩
abbrev cX0_rawNumber : ByteArray := prog_2_method_19_code
def yX0_rawNumber : MethodName := ⟨RX0, "rawNumber", "(I)I"⟩
def RX1 : String := "MirrorCards$History"
def TX1 : u_T := fun k => match k with
  | 0 => ("MirrorCards$History", "saved", "[LMirrorCards$Card;", true)
  | _ => ("MirrorCards$History", "kept", "I", false)
def tyX1 : Nat → FieldType := fun k => match k with
  | 0 => .array (.object "MirrorCards$Card")
  | _ => .int
abbrev wsX10 : List Cond := u_ws RX1 TX1 2
theorem nmX1 : ∀ a, a < 2 → ∀ b, b < 2 → a ≠ b → (TX1 a).2.1 ≠ (TX1 b).2.1 := by decide +kernel
theorem tyX1_ok : ∀ k, k < 2 → parseFieldDescriptor (TX1 k).2.2.1 = some (tyX1 k) := by decide +kernel
abbrev cX1_init : ByteArray := prog_3_method_1_code
def yX1_init : MethodName := ⟨RX1, "<init>", "()V"⟩
abbrev cX1_save : ByteArray := prog_3_method_2_code
def yX1_save : MethodName := ⟨RX1, "save", "([LMirrorCards$Card;)V"⟩
abbrev cX1_discardOldest : ByteArray := prog_3_method_3_code
def yX1_discardOldest : MethodName := ⟨RX1, "discardOldest", "()V"⟩
abbrev cX1_restores : ByteArray := prog_3_method_4_code
def yX1_restores : MethodName := ⟨RX1, "restores", "([LMirrorCards$Card;)Z"⟩
def RX2 : String := "MirrorCards$PartReader"
def TX2 : u_T := fun k => match k with
  | 0 => ("MirrorCards$PartReader", "step", "I", false)
  | 1 => ("MirrorCards$PartReader", "letter", "C", false)
  | 2 => ("MirrorCards$PartReader", "inBack", "Z", false)
  | 3 => ("MirrorCards$PartReader", "row", "I", false)
  | 4 => ("MirrorCards$PartReader", "column", "I", false)
  | _ => ("MirrorCards$PartReader", "number", "I", false)
def tyX2 : Nat → FieldType := fun k => match k with
  | 0 => .int
  | 1 => .char
  | 2 => .boolean
  | 3 => .int
  | 4 => .int
  | _ => .int
abbrev wsX20 : List Cond := u_ws RX2 TX2 6
theorem nmX2 : ∀ a, a < 6 → ∀ b, b < 6 → a ≠ b → (TX2 a).2.1 ≠ (TX2 b).2.1 := by decide +kernel
theorem tyX2_ok : ∀ k, k < 6 → parseFieldDescriptor (TX2 k).2.2.1 = some (tyX2 k) := by decide +kernel
abbrev cX2_init : ByteArray := prog_4_method_1_code
def yX2_init : MethodName := ⟨RX2, "<init>", "()V"⟩
def RX3 : String := "MirrorCards$Telling"
def TX3 : u_T := fun k => match k with
  | 0 => ("MirrorCards$Telling", "known", "J", false)
  | _ => ("MirrorCards$Telling", "ones", "J", false)
def tyX3 : Nat → FieldType := fun k => match k with
  | 0 => .long
  | _ => .long
abbrev wsX30 : List Cond := u_ws RX3 TX3 2
theorem nmX3 : ∀ a, a < 2 → ∀ b, b < 2 → a ≠ b → (TX3 a).2.1 ≠ (TX3 b).2.1 := by decide +kernel
theorem tyX3_ok : ∀ k, k < 2 → parseFieldDescriptor (TX3 k).2.2.1 = some (tyX3 k) := by decide +kernel
abbrev cX3_init : ByteArray := prog_5_method_1_code
def yX3_init : MethodName := ⟨RX3, "<init>", "()V"⟩
abbrev cX3_findAll : ByteArray := prog_5_method_2_code
def yX3_findAll : MethodName := ⟨RX3, "findAll", "(JJ)V"⟩
abbrev cX3_tellLastOf : ByteArray := prog_5_method_3_code
def yX3_tellLastOf : MethodName := ⟨RX3, "tellLastOf", "(J)V"⟩
abbrev cX3_unknownCells : ByteArray := prog_5_method_4_code
def yX3_unknownCells : MethodName := ⟨RX3, "unknownCells", "()I"⟩
abbrev cX3_bitAt : ByteArray := prog_5_method_5_code
def yX3_bitAt : MethodName := ⟨RX3, "bitAt", "(I)I"⟩
abbrev cX3_disagrees : ByteArray := prog_5_method_6_code
def yX3_disagrees : MethodName := ⟨RX3, "disagrees", "(I)Z"⟩
abbrev cX3_disagreeingLines : ByteArray := prog_5_method_7_code
def yX3_disagreeingLines : MethodName := ⟨RX3, "disagreeingLines", "()I"⟩
abbrev cX3_disagreeingLine : ByteArray := prog_5_method_8_code
def yX3_disagreeingLine : MethodName := ⟨RX3, "disagreeingLine", "(I)I"⟩
def RX4 : String := "MirrorCards"
def TX4 : u_T := fun k => match k with
  | 0 => ("MirrorCards", "cards", "[LMirrorCards$Card;", true)
  | 1 => ("MirrorCards", "telling", "LMirrorCards$Telling;", true)
  | 2 => ("MirrorCards", "forecast", "LMirrorCards$Telling;", true)
  | 3 => ("MirrorCards", "history", "LMirrorCards$History;", true)
  | 4 => ("MirrorCards", "reader", "LMirrorCards$PartReader;", true)
  | _ => ("MirrorCards", "text", "Ljava/lang/StringBuilder;", true)
def tyX4 : Nat → FieldType := fun k => match k with
  | 0 => .array (.object "MirrorCards$Card")
  | 1 => .object "MirrorCards$Telling"
  | 2 => .object "MirrorCards$Telling"
  | 3 => .object "MirrorCards$History"
  | 4 => .object "MirrorCards$PartReader"
  | _ => .object "java/lang/StringBuilder"
abbrev wsX40 : List Cond := u_ws RX4 TX4 6
theorem nmX4 : ∀ a, a < 6 → ∀ b, b < 6 → a ≠ b → (TX4 a).2.1 ≠ (TX4 b).2.1 := by decide +kernel
theorem tyX4_ok : ∀ k, k < 6 → parseFieldDescriptor (TX4 k).2.2.1 = some (tyX4 k) := by decide +kernel
abbrev cX4_init : ByteArray := prog_1_method_1_code
def yX4_init : MethodName := ⟨RX4, "<init>", "()V"⟩
abbrev cX4_punch : ByteArray := prog_1_method_2_code
def yX4_punch : MethodName := ⟨RX4, "punch", "(III)I"⟩
abbrev cX4_close : ByteArray := prog_1_method_3_code
def yX4_close : MethodName := ⟨RX4, "close", "(I)I"⟩
abbrev cX4_renew : ByteArray := prog_1_method_4_code
def yX4_renew : MethodName := ⟨RX4, "renew", "(I)I"⟩
abbrev cX4_copy : ByteArray := prog_1_method_5_code
def yX4_copy : MethodName := ⟨RX4, "copy", "(II)I"⟩
abbrev cX4_wear : ByteArray := prog_1_method_6_code
def yX4_wear : MethodName := ⟨RX4, "wear", "(III)I"⟩
abbrev cX4_lose : ByteArray := prog_1_method_7_code
def yX4_lose : MethodName := ⟨RX4, "lose", "(III)I"⟩
abbrev cX4_turn : ByteArray := prog_1_method_8_code
def yX4_turn : MethodName := ⟨RX4, "turn", "(II)I"⟩
abbrev cX4_view : ByteArray := prog_1_method_9_code
def yX4_view : MethodName := ⟨RX4, "view", "(I)I"⟩
abbrev cX4_sees : ByteArray := prog_1_method_10_code
def yX4_sees : MethodName := ⟨RX4, "sees", "(III)Z"⟩
abbrev cX4_raw : ByteArray := prog_1_method_11_code
def yX4_raw : MethodName := ⟨RX4, "raw", "(II)I"⟩
abbrev cX4_kind : ByteArray := prog_1_method_12_code
def yX4_kind : MethodName := ⟨RX4, "kind", "(III)I"⟩
abbrev cX4_told : ByteArray := prog_1_method_13_code
def yX4_told : MethodName := ⟨RX4, "told", "(III)I"⟩
abbrev cX4_count : ByteArray := prog_1_method_14_code
def yX4_count : MethodName := ⟨RX4, "count", "(II)I"⟩
abbrev cX4_read : ByteArray := prog_1_method_15_code
def yX4_read : MethodName := ⟨RX4, "read", "(II)I"⟩
abbrev cX4_value : ByteArray := prog_1_method_16_code
def yX4_value : MethodName := ⟨RX4, "value", "(II)I"⟩
abbrev cX4_untold : ByteArray := prog_1_method_17_code
def yX4_untold : MethodName := ⟨RX4, "untold", "(I)I"⟩
abbrev cX4_disagreements : ByteArray := prog_1_method_18_code
def yX4_disagreements : MethodName := ⟨RX4, "disagreements", "(I)I"⟩
abbrev cX4_disagreement : ByteArray := prog_1_method_19_code
def yX4_disagreement : MethodName := ⟨RX4, "disagreement", "(II)I"⟩
abbrev cX4_soundShare : ByteArray := prog_1_method_20_code
def yX4_soundShare : MethodName := ⟨RX4, "soundShare", "(I)D"⟩
abbrev cX4_untoldIf : ByteArray := prog_1_method_21_code
def yX4_untoldIf : MethodName := ⟨RX4, "untoldIf", "(III)I"⟩
abbrev cX4_worst : ByteArray := prog_1_method_22_code
def yX4_worst : MethodName := ⟨RX4, "worst", "(I)I"⟩
abbrev cX4_difference : ByteArray := prog_1_method_23_code
def yX4_difference : MethodName := ⟨RX4, "difference", "(II)I"⟩
abbrev cX4_undo : ByteArray := prog_1_method_28_code
def yX4_undo : MethodName := ⟨RX4, "undo", "()I"⟩
abbrev cX4_savedStates : ByteArray := prog_1_method_29_code
def yX4_savedStates : MethodName := ⟨RX4, "savedStates", "()I"⟩
abbrev cX4_digest : ByteArray := prog_1_method_30_code
def yX4_digest : MethodName := ⟨RX4, "digest", "()J"⟩
abbrev cX4_mixed : ByteArray := prog_1_method_31_code
def yX4_mixed : MethodName := ⟨RX4, "mixed", "(JI)J"⟩
abbrev cX4_mixedWithCounts : ByteArray := prog_1_method_32_code
def yX4_mixedWithCounts : MethodName := ⟨RX4, "mixedWithCounts", "(JLMirrorCards$Card;)J"⟩
abbrev cX4_mixedWithRows : ByteArray := prog_1_method_33_code
def yX4_mixedWithRows : MethodName := ⟨RX4, "mixedWithRows", "(JLMirrorCards$Card;LMirrorCards$Telling;)J"⟩
abbrev cX4_mixedWithCells : ByteArray := prog_1_method_34_code
def yX4_mixedWithCells : MethodName := ⟨RX4, "mixedWithCells", "(JLMirrorCards$Card;LMirrorCards$Telling;)J"⟩
abbrev cX4_cardAt : ByteArray := prog_1_method_35_code
def yX4_cardAt : MethodName := ⟨RX4, "cardAt", "(I)LMirrorCards$Card;"⟩
abbrev cX4_tellingOf : ByteArray := prog_1_method_36_code
def yX4_tellingOf : MethodName := ⟨RX4, "tellingOf", "(LMirrorCards$Card;)LMirrorCards$Telling;"⟩
abbrev cX4_requireInSide : ByteArray := prog_1_method_37_code
def yX4_requireInSide : MethodName := ⟨RX4, "requireInSide", "(I)V"⟩
abbrev cX4_requireCell : ByteArray := prog_1_method_38_code
def yX4_requireCell : MethodName := ⟨RX4, "requireCell", "(II)V"⟩
abbrev cX4_requireRowWithValue : ByteArray := prog_1_method_39_code
def yX4_requireRowWithValue : MethodName := ⟨RX4, "requireRowWithValue", "(I)V"⟩
abbrev cX4_cellNumber : ByteArray := prog_1_method_40_code
def yX4_cellNumber : MethodName := ⟨RX4, "cellNumber", "(II)I"⟩
abbrev cX4_isIn : ByteArray := prog_1_method_41_code
def yX4_isIn : MethodName := ⟨RX4, "isIn", "(JI)Z"⟩
abbrev cX4_isOdd : ByteArray := prog_1_method_42_code
def yX4_isOdd : MethodName := ⟨RX4, "isOdd", "(J)Z"⟩
abbrev cX4_rowCells : ByteArray := prog_1_method_43_code
def yX4_rowCells : MethodName := ⟨RX4, "rowCells", "(I)J"⟩
abbrev cX4_columnCells : ByteArray := prog_1_method_44_code
def yX4_columnCells : MethodName := ⟨RX4, "columnCells", "(I)J"⟩
abbrev cX4_rowValue : ByteArray := prog_1_method_45_code
def yX4_rowValue : MethodName := ⟨RX4, "rowValue", "(JJI)I"⟩
abbrev cX4_untoldWithout : ByteArray := prog_1_method_46_code
def yX4_untoldWithout : MethodName := ⟨RX4, "untoldWithout", "(LMirrorCards$Card;I)I"⟩
abbrev cX4_worstCell : ByteArray := prog_1_method_47_code
def yX4_worstCell : MethodName := ⟨RX4, "worstCell", "(LMirrorCards$Card;)I"⟩
def RX5 : String := "MirrorCardsModel"
def TX5 : u_T := fun k => match k with
  | _ => ("", "", "", false)
def tyX5 : Nat → FieldType := fun k => match k with
  | _ => .int
abbrev wsX50 : List Cond := u_ws RX5 TX5 0
theorem nmX5 : ∀ a, a < 0 → ∀ b, b < 0 → a ≠ b → (TX5 a).2.1 ≠ (TX5 b).2.1 := by decide +kernel
theorem tyX5_ok : ∀ k, k < 0 → parseFieldDescriptor (TX5 k).2.2.1 = some (tyX5 k) := by decide +kernel
def RJ5 : String := "java/lang/AbstractStringBuilder"
def TJ5 : u_T := fun k => match k with
  | _ => ("", "", "", false)
def tyJ5 : Nat → FieldType := fun k => match k with
  | _ => .int
abbrev wsJ50 : List Cond := u_ws RJ5 TJ5 0
theorem nmJ5 : ∀ a, a < 0 → ∀ b, b < 0 → a ≠ b → (TJ5 a).2.1 ≠ (TJ5 b).2.1 := by decide +kernel
theorem tyJ5_ok : ∀ k, k < 0 → parseFieldDescriptor (TJ5 k).2.2.1 = some (tyJ5 k) := by decide +kernel
abbrev cJ5_init_d00df : ByteArray := prog_8_method_2_code
def yJ5_init_d00df : MethodName := ⟨RJ5, "<init>", "(I)V"⟩
def RJ6 : String := "java/lang/Integer"
def TJ6 : u_T := fun k => match k with
  | _ => ("", "", "", false)
def tyJ6 : Nat → FieldType := fun k => match k with
  | _ => .int
abbrev wsJ60 : List Cond := u_ws RJ6 TJ6 0
theorem nmJ6 : ∀ a, a < 0 → ∀ b, b < 0 → a ≠ b → (TJ6 a).2.1 ≠ (TJ6 b).2.1 := by decide +kernel
theorem tyJ6_ok : ∀ k, k < 0 → parseFieldDescriptor (TJ6 k).2.2.1 = some (tyJ6 k) := by decide +kernel
abbrev cJ6_bitCount_0f7a4 : ByteArray := prog_13_method_49_code
def yJ6_bitCount_0f7a4 : MethodName := ⟨RJ6, "bitCount", "(I)I"⟩
def RJ13 : String := "java/lang/Long"
def TJ13 : u_T := fun k => match k with
  | _ => ("", "", "", false)
def tyJ13 : Nat → FieldType := fun k => match k with
  | _ => .int
abbrev wsJ130 : List Cond := u_ws RJ13 TJ13 0
theorem nmJ13 : ∀ a, a < 0 → ∀ b, b < 0 → a ≠ b → (TJ13 a).2.1 ≠ (TJ13 b).2.1 := by decide +kernel
theorem tyJ13_ok : ∀ k, k < 0 → parseFieldDescriptor (TJ13 k).2.2.1 = some (tyJ13 k) := by decide +kernel
abbrev cJ13_bitCount_95d88 : ByteArray := prog_14_method_50_code
def yJ13_bitCount_95d88 : MethodName := ⟨RJ13, "bitCount", "(J)I"⟩
def RJ0 : String := "java/lang/String"
def TJ0 : u_T := fun k => match k with
  | _ => ("", "", "", false)
def tyJ0 : Nat → FieldType := fun k => match k with
  | _ => .int
abbrev wsJ00 : List Cond := u_ws RJ0 TJ0 0
theorem nmJ0 : ∀ a, a < 0 → ∀ b, b < 0 → a ≠ b → (TJ0 a).2.1 ≠ (TJ0 b).2.1 := by decide +kernel
theorem tyJ0_ok : ∀ k, k < 0 → parseFieldDescriptor (TJ0 k).2.2.1 = some (tyJ0 k) := by decide +kernel
def RJ4 : String := "java/lang/StringBuilder"
def TJ4 : u_T := fun k => match k with
  | 0 => ("java/lang/AbstractStringBuilder", "value", "[B", false)
  | 1 => ("java/lang/AbstractStringBuilder", "coder", "B", false)
  | 2 => ("java/lang/AbstractStringBuilder", "maybeLatin1", "Z", false)
  | _ => ("java/lang/AbstractStringBuilder", "count", "I", false)
def tyJ4 : Nat → FieldType := fun k => match k with
  | 0 => .array .byte
  | 1 => .byte
  | 2 => .boolean
  | _ => .int
abbrev wsJ40 : List Cond := u_ws RJ4 TJ4 4
theorem nmJ4 : ∀ a, a < 4 → ∀ b, b < 4 → a ≠ b → (TJ4 a).2.1 ≠ (TJ4 b).2.1 := by decide +kernel
theorem tyJ4_ok : ∀ k, k < 4 → parseFieldDescriptor (TJ4 k).2.2.1 = some (tyJ4 k) := by decide +kernel
abbrev cJ4_init_da8c8 : ByteArray := prog_17_method_1_code
def yJ4_init_da8c8 : MethodName := ⟨RJ4, "<init>", "()V"⟩
def RJ2 : String := "java/lang/StringUTF16"
def TJ2 : u_T := fun k => match k with
  | _ => ("", "", "", false)
def tyJ2 : Nat → FieldType := fun k => match k with
  | _ => .int
abbrev wsJ20 : List Cond := u_ws RJ2 TJ2 0
theorem nmJ2 : ∀ a, a < 0 → ∀ b, b < 0 → a ≠ b → (TJ2 a).2.1 ≠ (TJ2 b).2.1 := by decide +kernel
theorem tyJ2_ok : ∀ k, k < 0 → parseFieldDescriptor (TJ2 k).2.2.1 = some (tyJ2 k) := by decide +kernel
abbrev cJ2_newBytesFor_77867 : ByteArray := prog_18_method_2_code
def yJ2_newBytesFor_77867 : MethodName := ⟨RJ2, "newBytesFor", "(I)[B"⟩
abbrev cJ2_newBytesLength_0f7a4 : ByteArray := prog_18_method_3_code
def yJ2_newBytesLength_0f7a4 : MethodName := ⟨RJ2, "newBytesLength", "(I)I"⟩
def RL : String := "MirrorCardsLaw"
abbrev cL_cell : ByteArray := method_2_code
def yL_cell : MethodName := ⟨RL, "cell", "([II)I"⟩
abbrev cL_up : ByteArray := method_3_code
def yL_up : MethodName := ⟨RL, "up", "(II)I"⟩
abbrev cL_kinds : ByteArray := method_4_code
def yL_kinds : MethodName := ⟨RL, "kinds", "(LMirrorCards;)J"⟩
abbrev cL_isBlank : ByteArray := method_5_code
def yL_isBlank : MethodName := ⟨RL, "isBlank", "(LMirrorCards;II)Z"⟩
abbrev cL_canClose : ByteArray := method_6_code
def yL_canClose : MethodName := ⟨RL, "canClose", "(LMirrorCards;I)Z"⟩
abbrev cL_acts : ByteArray := method_7_code
def yL_acts : MethodName := ⟨RL, "acts", "(LMirrorCards;II)Z"⟩
abbrev cL_reversed : ByteArray := method_8_code
def yL_reversed : MethodName := ⟨RL, "reversed", "(I)I"⟩
abbrev cL_holds : ByteArray := method_9_code
def yL_holds : MethodName := ⟨RL, "holds", "(LMirrorCards;I)Z"⟩
abbrev cL_isSeen : ByteArray := method_10_code
def yL_isSeen : MethodName := ⟨RL, "isSeen", "(LMirrorCards;II)Z"⟩
abbrev cL_isAhead : ByteArray := method_11_code
def yL_isAhead : MethodName := ⟨RL, "isAhead", "(LMirrorCards;II)Z"⟩
abbrev cL_law : ByteArray := code
def yL_law : MethodName := ⟨RL, "law", "([I)Z"⟩
abbrev vwCl : List vw_C := [(RJ4, TJ4, 4), (RX0, TX0, 3), (RX1, TX1, 2), (RX2, TX2, 6), (RX3, TX3, 2), (RX4, TX4, 6)]
