/-! ===== BEGIN printed: names, fields, word lists, decode rows ===== -/
def RX0 : String := "PosterTypes$Fount"
def TX0 : u_T := fun k => match k with
  | 0 => ("PosterTypes$Fount", "number", "I", true)
  | 1 => ("PosterTypes$Fount", "height", "I", true)
  | 2 => ("PosterTypes$Fount", "blocks", "[I", true)
  | 3 => ("PosterTypes$Fount", "free", "[I", true)
  | 4 => ("PosterTypes$Fount", "wear", "[I", true)
  | _ => ("PosterTypes$Fount", "left", "[I", true)
def tyX0 : Nat → FieldType := fun k => match k with
  | 0 => .int
  | 1 => .int
  | 2 => .array .int
  | 3 => .array .int
  | 4 => .array .int
  | _ => .array .int
abbrev wsX00 : List Cond := u_ws RX0 TX0 6
theorem nmX0 : ∀ a, a < 6 → ∀ b, b < 6 → a ≠ b → (TX0 a).2.1 ≠ (TX0 b).2.1 := by decide +kernel
theorem tyX0_ok : ∀ k, k < 6 → parseFieldDescriptor (TX0 k).2.2.1 = some (tyX0 k) := by decide +kernel
abbrev cX0_init : ByteArray := prog_2_method_1_code
def yX0_init : MethodName := ⟨RX0, "<init>", "(II)V"⟩
abbrev cX0_addBlocks : ByteArray := prog_2_method_2_code
def yX0_addBlocks : MethodName := ⟨RX0, "addBlocks", "(II)V"⟩
abbrev cX0_leaveFree : ByteArray := prog_2_method_3_code
def yX0_leaveFree : MethodName := ⟨RX0, "leaveFree", "()V"⟩
abbrev cX0_spendOn : ByteArray := prog_2_method_4_code
def yX0_spendOn : MethodName := ⟨RX0, "spendOn", "(LPosterTypes$Line;)V"⟩
abbrev cX0_breakWorn : ByteArray := prog_2_method_5_code
def yX0_breakWorn : MethodName := ⟨RX0, "breakWorn", "()I"⟩
def RX1 : String := "PosterTypes$Line"
def TX1 : u_T := fun k => match k with
  | 0 => ("PosterTypes$Line", "letters", "[I", true)
  | 1 => ("PosterTypes$Line", "size", "I", true)
  | 2 => ("PosterTypes$Line", "takes", "[I", true)
  | 3 => ("PosterTypes$Line", "fount", "LPosterTypes$Fount;", false)
  | 4 => ("PosterTypes$Line", "flaws", "I", false)
  | _ => ("PosterTypes$Line", "laidWord", "I", false)
def tyX1 : Nat → FieldType := fun k => match k with
  | 0 => .array .int
  | 1 => .int
  | 2 => .array .int
  | 3 => .object "PosterTypes$Fount"
  | 4 => .int
  | _ => .int
abbrev wsX10 : List Cond := u_ws RX1 TX1 6
theorem nmX1 : ∀ a, a < 6 → ∀ b, b < 6 → a ≠ b → (TX1 a).2.1 ≠ (TX1 b).2.1 := by decide +kernel
theorem tyX1_ok : ∀ k, k < 6 → parseFieldDescriptor (TX1 k).2.2.1 = some (tyX1 k) := by decide +kernel
abbrev cX1_init : ByteArray := prog_3_method_1_code
def yX1_init : MethodName := ⟨RX1, "<init>", "(I)V"⟩
abbrev cX1_startIn : ByteArray := prog_3_method_2_code
def yX1_startIn : MethodName := ⟨RX1, "startIn", "(LPosterTypes$Fount;)V"⟩
abbrev cX1_put : ByteArray := prog_3_method_3_code
def yX1_put : MethodName := ⟨RX1, "put", "(IZ)V"⟩
abbrev cX1_fountNumber : ByteArray := prog_3_method_4_code
def yX1_fountNumber : MethodName := ⟨RX1, "fountNumber", "()I"⟩
abbrev cX1_sizeAsLaid : ByteArray := prog_3_method_5_code
def yX1_sizeAsLaid : MethodName := ⟨RX1, "sizeAsLaid", "()I"⟩
abbrev cX1_takeOut : ByteArray := prog_3_method_6_code
def yX1_takeOut : MethodName := ⟨RX1, "takeOut", "()V"⟩
abbrev cX1_putBack : ByteArray := prog_3_method_7_code
def yX1_putBack : MethodName := ⟨RX1, "putBack", "()V"⟩
abbrev cX1_wearBy : ByteArray := prog_3_method_8_code
def yX1_wearBy : MethodName := ⟨RX1, "wearBy", "(I)V"⟩
def RX2 : String := "PosterTypes$Poster"
def TX2 : u_T := fun k => match k with
  | 0 => ("PosterTypes$Poster", "town", "I", true)
  | 1 => ("PosterTypes$Poster", "tall", "I", true)
  | 2 => ("PosterTypes$Poster", "lines", "Ljava/util/ArrayList;", true)
  | 3 => ("PosterTypes$Poster", "isSet", "Z", false)
  | _ => ("PosterTypes$Poster", "copies", "I", false)
def tyX2 : Nat → FieldType := fun k => match k with
  | 0 => .int
  | 1 => .int
  | 2 => .object "java/util/ArrayList"
  | 3 => .boolean
  | _ => .int
abbrev wsX20 : List Cond := u_ws RX2 TX2 5
theorem nmX2 : ∀ a, a < 5 → ∀ b, b < 5 → a ≠ b → (TX2 a).2.1 ≠ (TX2 b).2.1 := by decide +kernel
theorem tyX2_ok : ∀ k, k < 5 → parseFieldDescriptor (TX2 k).2.2.1 = some (tyX2 k) := by decide +kernel
abbrev cX2_init : ByteArray := prog_4_method_1_code
def yX2_init : MethodName := ⟨RX2, "<init>", "(II)V"⟩
abbrev cX2_isReady : ByteArray := prog_4_method_2_code
def yX2_isReady : MethodName := ⟨RX2, "isReady", "()Z"⟩
abbrev cX2_letters : ByteArray := prog_4_method_3_code
def yX2_letters : MethodName := ⟨RX2, "letters", "()I"⟩
abbrev cX2_flawsAsLaid : ByteArray := prog_4_method_4_code
def yX2_flawsAsLaid : MethodName := ⟨RX2, "flawsAsLaid", "()I"⟩
abbrev cX2_sizeAsLaid : ByteArray := prog_4_method_5_code
def yX2_sizeAsLaid : MethodName := ⟨RX2, "sizeAsLaid", "()I"⟩
abbrev cX2_blocksLaid : ByteArray := prog_4_method_6_code
def yX2_blocksLaid : MethodName := ⟨RX2, "blocksLaid", "(LPosterTypes$Fount;I)I"⟩
def RX3 : String := "PosterTypes"
def TX3 : u_T := fun k => match k with
  | 0 => ("PosterTypes", "founts", "Ljava/util/ArrayList;", true)
  | 1 => ("PosterTypes", "posters", "Ljava/util/ArrayList;", true)
  | 2 => ("PosterTypes", "others", "[I", true)
  | 3 => ("PosterTypes", "pays", "[I", true)
  | 4 => ("PosterTypes", "stricts", "[I", true)
  | 5 => ("PosterTypes", "coins", "I", false)
  | _ => ("PosterTypes", "broken", "I", false)
def tyX3 : Nat → FieldType := fun k => match k with
  | 0 => .object "java/util/ArrayList"
  | 1 => .object "java/util/ArrayList"
  | 2 => .array .int
  | 3 => .array .int
  | 4 => .array .int
  | 5 => .int
  | _ => .int
abbrev wsX30 : List Cond := u_ws RX3 TX3 7
theorem nmX3 : ∀ a, a < 7 → ∀ b, b < 7 → a ≠ b → (TX3 a).2.1 ≠ (TX3 b).2.1 := by decide +kernel
theorem tyX3_ok : ∀ k, k < 7 → parseFieldDescriptor (TX3 k).2.2.1 = some (tyX3 k) := by decide +kernel
abbrev cX3_init : ByteArray := prog_1_method_1_code
def yX3_init : MethodName := ⟨RX3, "<init>", "()V"⟩
abbrev cX3_fount : ByteArray := prog_1_method_2_code
def yX3_fount : MethodName := ⟨RX3, "fount", "(I)I"⟩
abbrev cX3_buy : ByteArray := prog_1_method_3_code
def yX3_buy : MethodName := ⟨RX3, "buy", "(III)I"⟩
abbrev cX3_buyAll : ByteArray := prog_1_method_4_code
def yX3_buyAll : MethodName := ⟨RX3, "buyAll", "(II)I"⟩
abbrev cX3_setOther : ByteArray := prog_1_method_5_code
def yX3_setOther : MethodName := ⟨RX3, "setOther", "(II)I"⟩
abbrev cX3_setTown : ByteArray := prog_1_method_6_code
def yX3_setTown : MethodName := ⟨RX3, "setTown", "(III)I"⟩
abbrev cX3_poster : ByteArray := prog_1_method_7_code
def yX3_poster : MethodName := ⟨RX3, "poster", "(II)I"⟩
abbrev cX3_line : ByteArray := prog_1_method_8_code
def yX3_line : MethodName := ⟨RX3, "line", "(II)I"⟩
abbrev cX3_set : ByteArray := prog_1_method_9_code
def yX3_set : MethodName := ⟨RX3, "set", "(I)I"⟩
abbrev cX3_print : ByteArray := prog_1_method_10_code
def yX3_print : MethodName := ⟨RX3, "print", "(II)I"⟩
abbrev cX3_strike : ByteArray := prog_1_method_11_code
def yX3_strike : MethodName := ⟨RX3, "strike", "(I)I"⟩
abbrev cX3_block : ByteArray := prog_1_method_12_code
def yX3_block : MethodName := ⟨RX3, "block", "(III)I"⟩
abbrev cX3_told : ByteArray := prog_1_method_13_code
def yX3_told : MethodName := ⟨RX3, "told", "(II)I"⟩
abbrev cX3_about : ByteArray := prog_1_method_14_code
def yX3_about : MethodName := ⟨RX3, "about", "(III)I"⟩
abbrev cX3_count : ByteArray := prog_1_method_15_code
def yX3_count : MethodName := ⟨RX3, "count", "(I)I"⟩
abbrev cX3_would : ByteArray := prog_1_method_16_code
def yX3_would : MethodName := ⟨RX3, "would", "(II)I"⟩
abbrev cX3_next : ByteArray := prog_1_method_17_code
def yX3_next : MethodName := ⟨RX3, "next", "()I"⟩
abbrev cX3_lasts : ByteArray := prog_1_method_19_code
def yX3_lasts : MethodName := ⟨RX3, "lasts", "(I)I"⟩
abbrev cX3_mean : ByteArray := prog_1_method_20_code
def yX3_mean : MethodName := ⟨RX3, "mean", "()D"⟩
abbrev cX3_digest : ByteArray := prog_1_method_21_code
def yX3_digest : MethodName := ⟨RX3, "digest", "()J"⟩
abbrev cX3_mixed : ByteArray := prog_1_method_22_code
def yX3_mixed : MethodName := ⟨RX3, "mixed", "(JI)J"⟩
abbrev cX3_mixedWithFount : ByteArray := prog_1_method_23_code
def yX3_mixedWithFount : MethodName := ⟨RX3, "mixedWithFount", "(JI)J"⟩
abbrev cX3_mixedWithPoster : ByteArray := prog_1_method_24_code
def yX3_mixedWithPoster : MethodName := ⟨RX3, "mixedWithPoster", "(JI)J"⟩
abbrev cX3_isFount : ByteArray := prog_1_method_25_code
def yX3_isFount : MethodName := ⟨RX3, "isFount", "(I)Z"⟩
abbrev cX3_isPoster : ByteArray := prog_1_method_26_code
def yX3_isPoster : MethodName := ⟨RX3, "isPoster", "(I)Z"⟩
abbrev cX3_isLetter : ByteArray := prog_1_method_27_code
def yX3_isLetter : MethodName := ⟨RX3, "isLetter", "(I)Z"⟩
abbrev cX3_isTown : ByteArray := prog_1_method_28_code
def yX3_isTown : MethodName := ⟨RX3, "isTown", "(I)Z"⟩
abbrev cX3_postersSet : ByteArray := prog_1_method_29_code
def yX3_postersSet : MethodName := ⟨RX3, "postersSet", "()I"⟩
abbrev cX3_blocksInAll : ByteArray := prog_1_method_30_code
def yX3_blocksInAll : MethodName := ⟨RX3, "blocksInAll", "()I"⟩
abbrev cX3_freeInAll : ByteArray := prog_1_method_31_code
def yX3_freeInAll : MethodName := ⟨RX3, "freeInAll", "()I"⟩
abbrev cX3_copiesUntilWorn : ByteArray := prog_1_method_33_code
def yX3_copiesUntilWorn : MethodName := ⟨RX3, "copiesUntilWorn", "(LPosterTypes$Poster;LPosterTypes$Fount;I)I"⟩
abbrev cX3_proofIfSet : ByteArray := prog_1_method_34_code
def yX3_proofIfSet : MethodName := ⟨RX3, "proofIfSet", "(LPosterTypes$Poster;)I"⟩
abbrev cX3_proofAsLaid : ByteArray := prog_1_method_35_code
def yX3_proofAsLaid : MethodName := ⟨RX3, "proofAsLaid", "(LPosterTypes$Poster;)I"⟩
abbrev cX3_plan : ByteArray := prog_1_method_36_code
def yX3_plan : MethodName := ⟨RX3, "plan", "(LPosterTypes$Poster;)I"⟩
abbrev cX3_leaveAllFree : ByteArray := prog_1_method_38_code
def yX3_leaveAllFree : MethodName := ⟨RX3, "leaveAllFree", "()V"⟩
abbrev cX3_layLines : ByteArray := prog_1_method_39_code
def yX3_layLines : MethodName := ⟨RX3, "layLines", "(LPosterTypes$Poster;)I"⟩
abbrev cX3_bestFount : ByteArray := prog_1_method_40_code
def yX3_bestFount : MethodName := ⟨RX3, "bestFount", "(LPosterTypes$Line;I)LPosterTypes$Fount;"⟩
abbrev cX3_lay : ByteArray := prog_1_method_41_code
def yX3_lay : MethodName := ⟨RX3, "lay", "(LPosterTypes$Line;LPosterTypes$Fount;)Z"⟩
abbrev cX3_blockFor : ByteArray := prog_1_method_42_code
def yX3_blockFor : MethodName := ⟨RX3, "blockFor", "(ILPosterTypes$Line;LPosterTypes$Fount;)I"⟩
def RX4 : String := "PosterTypesLaw$Poster"
def TX4 : u_T := fun k => match k with
  | 0 => ("PosterTypesLaw$Poster", "town", "I", false)
  | 1 => ("PosterTypesLaw$Poster", "tall", "I", false)
  | 2 => ("PosterTypesLaw$Poster", "lines", "[[I", false)
  | 3 => ("PosterTypesLaw$Poster", "isSet", "Z", false)
  | 4 => ("PosterTypesLaw$Poster", "copies", "I", false)
  | 5 => ("PosterTypesLaw$Poster", "founts", "[I", false)
  | 6 => ("PosterTypesLaw$Poster", "flaws", "[I", false)
  | _ => ("PosterTypesLaw$Poster", "takes", "[[I", false)
def tyX4 : Nat → FieldType := fun k => match k with
  | 0 => .int
  | 1 => .int
  | 2 => .array (.array .int)
  | 3 => .boolean
  | 4 => .int
  | 5 => .array .int
  | 6 => .array .int
  | _ => .array (.array .int)
abbrev wsX40 : List Cond := u_ws RX4 TX4 8
theorem nmX4 : ∀ a, a < 8 → ∀ b, b < 8 → a ≠ b → (TX4 a).2.1 ≠ (TX4 b).2.1 := by decide +kernel
theorem tyX4_ok : ∀ k, k < 8 → parseFieldDescriptor (TX4 k).2.2.1 = some (tyX4 k) := by decide +kernel
abbrev cX4_init : ByteArray := prog_6_method_1_code
def yX4_init : MethodName := ⟨RX4, "<init>", "()V"⟩
abbrev cX4_copy : ByteArray := prog_6_method_2_code
def yX4_copy : MethodName := ⟨RX4, "copy", "()LPosterTypesLaw$Poster;"⟩
abbrev cX4_letters : ByteArray := prog_6_method_3_code
def yX4_letters : MethodName := ⟨RX4, "letters", "()I"⟩
abbrev cX4_wrong : ByteArray := prog_6_method_4_code
def yX4_wrong : MethodName := ⟨RX4, "wrong", "()I"⟩
def RX5 : String := "PosterTypesLaw$Sim"
def TX5 : u_T := fun k => match k with
  | 0 => ("PosterTypesLaw$Sim", "coins", "I", false)
  | 1 => ("PosterTypesLaw$Sim", "broken", "I", false)
  | 2 => ("PosterTypesLaw$Sim", "heights", "[I", false)
  | 3 => ("PosterTypesLaw$Sim", "founts", "[[[I", false)
  | 4 => ("PosterTypesLaw$Sim", "other", "[I", false)
  | 5 => ("PosterTypesLaw$Sim", "towns", "[[I", false)
  | _ => ("PosterTypesLaw$Sim", "posters", "[LPosterTypesLaw$Poster;", false)
def tyX5 : Nat → FieldType := fun k => match k with
  | 0 => .int
  | 1 => .int
  | 2 => .array .int
  | 3 => .array (.array (.array .int))
  | 4 => .array .int
  | 5 => .array (.array .int)
  | _ => .array (.object "PosterTypesLaw$Poster")
abbrev wsX50 : List Cond := u_ws RX5 TX5 7
theorem nmX5 : ∀ a, a < 7 → ∀ b, b < 7 → a ≠ b → (TX5 a).2.1 ≠ (TX5 b).2.1 := by decide +kernel
theorem tyX5_ok : ∀ k, k < 7 → parseFieldDescriptor (TX5 k).2.2.1 = some (tyX5 k) := by decide +kernel
abbrev cX5_init : ByteArray := prog_7_method_1_code
def yX5_init : MethodName := ⟨RX5, "<init>", "()V"⟩
abbrev cX5_more : ByteArray := prog_7_method_2_code
def yX5_more : MethodName := ⟨RX5, "more", "([LPosterTypesLaw$Poster;LPosterTypesLaw$Poster;)[LPosterTypesLaw$Poster;"⟩
abbrev cX5_more_ : ByteArray := prog_7_method_3_code
def yX5_more_ : MethodName := ⟨RX5, "more", "([[I[I)[[I"⟩
abbrev cX5_letters : ByteArray := prog_7_method_4_code
def yX5_letters : MethodName := ⟨RX5, "letters", "(I)[I"⟩
abbrev cX5_word : ByteArray := prog_7_method_5_code
def yX5_word : MethodName := ⟨RX5, "word", "([I)I"⟩
abbrev cX5_take : ByteArray := prog_7_method_6_code
def yX5_take : MethodName := ⟨RX5, "take", "([I[I)[I"⟩
abbrev cX5_wrong : ByteArray := prog_7_method_7_code
def yX5_wrong : MethodName := ⟨RX5, "wrong", "([I[I)I"⟩
abbrev cX5_tried : ByteArray := prog_7_method_8_code
def yX5_tried : MethodName := ⟨RX5, "tried", "(I)LPosterTypesLaw$Poster;"⟩
abbrev cX5_proof : ByteArray := prog_7_method_9_code
def yX5_proof : MethodName := ⟨RX5, "proof", "(LPosterTypesLaw$Poster;)I"⟩
abbrev cX5_set : ByteArray := prog_7_method_10_code
def yX5_set : MethodName := ⟨RX5, "set", "(I)I"⟩
abbrev cX5_print : ByteArray := prog_7_method_11_code
def yX5_print : MethodName := ⟨RX5, "print", "(II)I"⟩
abbrev cX5_strike : ByteArray := prog_7_method_12_code
def yX5_strike : MethodName := ⟨RX5, "strike", "(I)I"⟩
abbrev cX5_isSame : ByteArray := prog_7_method_14_code
def yX5_isSame : MethodName := ⟨RX5, "isSame", "(LPosterTypes;)Z"⟩
def RX6 : String := "PosterTypesModel"
def TX6 : u_T := fun k => match k with
  | _ => ("", "", "", false)
def tyX6 : Nat → FieldType := fun k => match k with
  | _ => .int
abbrev wsX60 : List Cond := u_ws RX6 TX6 0
theorem nmX6 : ∀ a, a < 0 → ∀ b, b < 0 → a ≠ b → (TX6 a).2.1 ≠ (TX6 b).2.1 := by decide +kernel
theorem tyX6_ok : ∀ k, k < 0 → parseFieldDescriptor (TX6 k).2.2.1 = some (tyX6 k) := by decide +kernel
def RJx145de : String := "java/io/Serializable"
def TJx145de : u_T := fun k => match k with
  | _ => ("", "", "", false)
def tyJx145de : Nat → FieldType := fun k => match k with
  | _ => .int
abbrev wsJx145de0 : List Cond := u_ws RJx145de TJx145de 0
theorem nmJx145de : ∀ a, a < 0 → ∀ b, b < 0 → a ≠ b → (TJx145de a).2.1 ≠ (TJx145de b).2.1 := by decide +kernel
theorem tyJx145de_ok : ∀ k, k < 0 → parseFieldDescriptor (TJx145de k).2.2.1 = some (tyJx145de k) := by decide +kernel
def RJ5 : String := "java/lang/AbstractStringBuilder"
def TJ5 : u_T := fun k => match k with
  | _ => ("", "", "", false)
def tyJ5 : Nat → FieldType := fun k => match k with
  | _ => .int
abbrev wsJ50 : List Cond := u_ws RJ5 TJ5 0
theorem nmJ5 : ∀ a, a < 0 → ∀ b, b < 0 → a ≠ b → (TJ5 a).2.1 ≠ (TJ5 b).2.1 := by decide +kernel
theorem tyJ5_ok : ∀ k, k < 0 → parseFieldDescriptor (TJ5 k).2.2.1 = some (tyJ5 k) := by decide +kernel
abbrev cJ5_init_d00df : ByteArray := prog_10_method_2_code
def yJ5_init_d00df : MethodName := ⟨RJ5, "<init>", "(I)V"⟩
abbrev cJ5_length_8abf5 : ByteArray := prog_10_method_6_code
def yJ5_length_8abf5 : MethodName := ⟨RJ5, "length", "()I"⟩
abbrev cJ5_ensureCapacityInternal_d00df : ByteArray := prog_10_method_9_code
def yJ5_ensureCapacityInternal_d00df : MethodName := ⟨RJ5, "ensureCapacityInternal", "(I)V"⟩
abbrev cJ5_newCapacity_0f7a4 : ByteArray := prog_10_method_10_code
def yJ5_newCapacity_0f7a4 : MethodName := ⟨RJ5, "newCapacity", "(I)I"⟩
abbrev cJ5_inflate_da8c8 : ByteArray := prog_10_method_11_code
def yJ5_inflate_da8c8 : MethodName := ⟨RJ5, "inflate", "()V"⟩
abbrev cJ5_append_cf1ce : ByteArray := prog_10_method_22_code
def yJ5_append_cf1ce : MethodName := ⟨RJ5, "append", "(Ljava/lang/String;)Ljava/lang/AbstractStringBuilder;"⟩
abbrev cJ5_appendNull_278bc : ByteArray := prog_10_method_26_code
def yJ5_appendNull_278bc : MethodName := ⟨RJ5, "appendNull", "()Ljava/lang/AbstractStringBuilder;"⟩
abbrev cJ5_append_c97b9 : ByteArray := prog_10_method_32_code
def yJ5_append_c97b9 : MethodName := ⟨RJ5, "append", "(I)Ljava/lang/AbstractStringBuilder;"⟩
abbrev cJ5_getValue_6d5f1 : ByteArray := prog_10_method_64_code
def yJ5_getValue_6d5f1 : MethodName := ⟨RJ5, "getValue", "()[B"⟩
abbrev cJ5_isLatin1_aae02 : ByteArray := prog_10_method_68_code
def yJ5_isLatin1_aae02 : MethodName := ⟨RJ5, "isLatin1", "()Z"⟩
abbrev cJ5_inflateIfNeededFor_a7421 : ByteArray := prog_10_method_71_code
def yJ5_inflateIfNeededFor_a7421 : MethodName := ⟨RJ5, "inflateIfNeededFor", "(Ljava/lang/String;)V"⟩
abbrev cJ5_putStringAt_47b60 : ByteArray := prog_10_method_73_code
def yJ5_putStringAt_47b60 : MethodName := ⟨RJ5, "putStringAt", "(ILjava/lang/String;)V"⟩
def RJx2cfe8 : String := "java/lang/Appendable"
def TJx2cfe8 : u_T := fun k => match k with
  | _ => ("", "", "", false)
def tyJx2cfe8 : Nat → FieldType := fun k => match k with
  | _ => .int
abbrev wsJx2cfe80 : List Cond := u_ws RJx2cfe8 TJx2cfe8 0
theorem nmJx2cfe8 : ∀ a, a < 0 → ∀ b, b < 0 → a ≠ b → (TJx2cfe8 a).2.1 ≠ (TJx2cfe8 b).2.1 := by decide +kernel
theorem tyJx2cfe8_ok : ∀ k, k < 0 → parseFieldDescriptor (TJx2cfe8 k).2.2.1 = some (tyJx2cfe8 k) := by decide +kernel
def RJx9f9b0 : String := "java/lang/CharSequence"
def TJx9f9b0 : u_T := fun k => match k with
  | _ => ("", "", "", false)
def tyJx9f9b0 : Nat → FieldType := fun k => match k with
  | _ => .int
abbrev wsJx9f9b00 : List Cond := u_ws RJx9f9b0 TJx9f9b0 0
theorem nmJx9f9b0 : ∀ a, a < 0 → ∀ b, b < 0 → a ≠ b → (TJx9f9b0 a).2.1 ≠ (TJx9f9b0 b).2.1 := by decide +kernel
theorem tyJx9f9b0_ok : ∀ k, k < 0 → parseFieldDescriptor (TJx9f9b0 k).2.2.1 = some (tyJx9f9b0 k) := by decide +kernel
def RJx8e188 : String := "java/lang/Cloneable"
def TJx8e188 : u_T := fun k => match k with
  | _ => ("", "", "", false)
def tyJx8e188 : Nat → FieldType := fun k => match k with
  | _ => .int
abbrev wsJx8e1880 : List Cond := u_ws RJx8e188 TJx8e188 0
theorem nmJx8e188 : ∀ a, a < 0 → ∀ b, b < 0 → a ≠ b → (TJx8e188 a).2.1 ≠ (TJx8e188 b).2.1 := by decide +kernel
theorem tyJx8e188_ok : ∀ k, k < 0 → parseFieldDescriptor (TJx8e188 k).2.2.1 = some (tyJx8e188 k) := by decide +kernel
def RJxb160c : String := "java/lang/Comparable"
def TJxb160c : u_T := fun k => match k with
  | _ => ("", "", "", false)
def tyJxb160c : Nat → FieldType := fun k => match k with
  | _ => .int
abbrev wsJxb160c0 : List Cond := u_ws RJxb160c TJxb160c 0
theorem nmJxb160c : ∀ a, a < 0 → ∀ b, b < 0 → a ≠ b → (TJxb160c a).2.1 ≠ (TJxb160c b).2.1 := by decide +kernel
theorem tyJxb160c_ok : ∀ k, k < 0 → parseFieldDescriptor (TJxb160c k).2.2.1 = some (tyJxb160c k) := by decide +kernel
def RJ6 : String := "java/lang/Integer"
def TJ6 : u_T := fun k => match k with
  | _ => ("", "", "", false)
def tyJ6 : Nat → FieldType := fun k => match k with
  | _ => .int
abbrev wsJ60 : List Cond := u_ws RJ6 TJ6 0
theorem nmJ6 : ∀ a, a < 0 → ∀ b, b < 0 → a ≠ b → (TJ6 a).2.1 ≠ (TJ6 b).2.1 := by decide +kernel
theorem tyJ6_ok : ∀ k, k < 0 → parseFieldDescriptor (TJ6 k).2.2.1 = some (tyJ6 k) := by decide +kernel
abbrev cJ6_getChars_ba4f3 : ByteArray := prog_19_method_12_code
def yJ6_getChars_ba4f3 : MethodName := ⟨RJ6, "getChars", "(II[B)I"⟩
abbrev cJ6_stringSize_0f7a4 : ByteArray := prog_19_method_13_code
def yJ6_stringSize_0f7a4 : MethodName := ⟨RJ6, "stringSize", "(I)I"⟩
def RJxab1ab : String := "java/lang/Iterable"
def TJxab1ab : u_T := fun k => match k with
  | _ => ("", "", "", false)
def tyJxab1ab : Nat → FieldType := fun k => match k with
  | _ => .int
abbrev wsJxab1ab0 : List Cond := u_ws RJxab1ab TJxab1ab 0
theorem nmJxab1ab : ∀ a, a < 0 → ∀ b, b < 0 → a ≠ b → (TJxab1ab a).2.1 ≠ (TJxab1ab b).2.1 := by decide +kernel
theorem tyJxab1ab_ok : ∀ k, k < 0 → parseFieldDescriptor (TJxab1ab k).2.2.1 = some (tyJxab1ab k) := by decide +kernel
def RJ9 : String := "java/lang/Math"
def TJ9 : u_T := fun k => match k with
  | _ => ("", "", "", false)
def tyJ9 : Nat → FieldType := fun k => match k with
  | _ => .int
abbrev wsJ90 : List Cond := u_ws RJ9 TJ9 0
theorem nmJ9 : ∀ a, a < 0 → ∀ b, b < 0 → a ≠ b → (TJ9 a).2.1 ≠ (TJ9 b).2.1 := by decide +kernel
theorem tyJ9_ok : ∀ k, k < 0 → parseFieldDescriptor (TJ9 k).2.2.1 = some (tyJ9 k) := by decide +kernel
abbrev cJ9_max_7cf53 : ByteArray := prog_21_method_65_code
def yJ9_max_7cf53 : MethodName := ⟨RJ9, "max", "(II)I"⟩
abbrev cJ9_min_7cf53 : ByteArray := prog_21_method_69_code
def yJ9_min_7cf53 : MethodName := ⟨RJ9, "min", "(II)I"⟩
def RJxd2413 : String := "java/lang/Number"
def TJxd2413 : u_T := fun k => match k with
  | _ => ("", "", "", false)
def tyJxd2413 : Nat → FieldType := fun k => match k with
  | _ => .int
abbrev wsJxd24130 : List Cond := u_ws RJxd2413 TJxd2413 0
theorem nmJxd2413 : ∀ a, a < 0 → ∀ b, b < 0 → a ≠ b → (TJxd2413 a).2.1 ≠ (TJxd2413 b).2.1 := by decide +kernel
theorem tyJxd2413_ok : ∀ k, k < 0 → parseFieldDescriptor (TJxd2413 k).2.2.1 = some (tyJxd2413 k) := by decide +kernel
def RJ0 : String := "java/lang/String"
def TJ0 : u_T := fun k => match k with
  | 0 => ("java/lang/String", "value", "[B", true)
  | 1 => ("java/lang/String", "coder", "B", true)
  | 2 => ("java/lang/String", "hash", "I", false)
  | _ => ("java/lang/String", "hashIsZero", "Z", false)
def tyJ0 : Nat → FieldType := fun k => match k with
  | 0 => .array .byte
  | 1 => .byte
  | 2 => .int
  | _ => .boolean
abbrev wsJ00 : List Cond := u_ws RJ0 TJ0 4
theorem nmJ0 : ∀ a, a < 4 → ∀ b, b < 4 → a ≠ b → (TJ0 a).2.1 ≠ (TJ0 b).2.1 := by decide +kernel
theorem tyJ0_ok : ∀ k, k < 4 → parseFieldDescriptor (TJ0 k).2.2.1 = some (tyJ0 k) := by decide +kernel
abbrev cJ0_init_81219 : ByteArray := prog_24_method_53_code
def yJ0_init_81219 : MethodName := ⟨RJ0, "<init>", "(Ljava/lang/StringBuilder;)V"⟩
abbrev cJ0_length_8abf5 : ByteArray := prog_24_method_54_code
def yJ0_length_8abf5 : MethodName := ⟨RJ0, "length", "()I"⟩
abbrev cJ0_charAt_5068e : ByteArray := prog_24_method_56_code
def yJ0_charAt_5068e : MethodName := ⟨RJ0, "charAt", "(I)C"⟩
abbrev cJ0_getBytes_840e7 : ByteArray := prog_24_method_147_code
def yJ0_getBytes_840e7 : MethodName := ⟨RJ0, "getBytes", "([BIB)V"⟩
abbrev cJ0_init_db425 : ByteArray := prog_24_method_150_code
def yJ0_init_db425 : MethodName := ⟨RJ0, "<init>", "(Ljava/lang/AbstractStringBuilder;Ljava/lang/Void;)V"⟩
abbrev cJ0_coder_7d493 : ByteArray := prog_24_method_152_code
def yJ0_coder_7d493 : MethodName := ⟨RJ0, "coder", "()B"⟩
abbrev cJ0_isLatin1_aae02 : ByteArray := prog_24_method_154_code
def yJ0_isLatin1_aae02 : MethodName := ⟨RJ0, "isLatin1", "()Z"⟩
abbrev cJ0_checkIndex_df160 : ByteArray := prog_24_method_155_code
def yJ0_checkIndex_df160 : MethodName := ⟨RJ0, "checkIndex", "(II)V"⟩
abbrev cJ0_checkBoundsOffCount_cabcc : ByteArray := prog_24_method_157_code
def yJ0_checkBoundsOffCount_cabcc : MethodName := ⟨RJ0, "checkBoundsOffCount", "(III)I"⟩
abbrev cJ0_checkBoundsBeginEnd_23922 : ByteArray := prog_24_method_158_code
def yJ0_checkBoundsBeginEnd_23922 : MethodName := ⟨RJ0, "checkBoundsBeginEnd", "(III)V"⟩
def RJ4 : String := "java/lang/StringBuilder"
def TJ4 : u_T := fun k => match k with
  | 0 => ("java/lang/AbstractStringBuilder", "value", "[B", false)
  | 1 => ("java/lang/AbstractStringBuilder", "coder", "B", false)
  | 2 => ("java/lang/AbstractStringBuilder", "maybeLatin1", "Z", false)
  | _ => ("java/lang/AbstractStringBuilder", "count", "I", false)
def tyJ4 : Nat → FieldType := fun k => match k with
  | 0 => .array .byte
  | 1 => .byte
  | 2 => .boolean
  | _ => .int
abbrev wsJ40 : List Cond := u_ws RJ4 TJ4 4
theorem nmJ4 : ∀ a, a < 4 → ∀ b, b < 4 → a ≠ b → (TJ4 a).2.1 ≠ (TJ4 b).2.1 := by decide +kernel
theorem tyJ4_ok : ∀ k, k < 4 → parseFieldDescriptor (TJ4 k).2.2.1 = some (tyJ4 k) := by decide +kernel
abbrev cJ4_init_da8c8 : ByteArray := prog_25_method_1_code
def yJ4_init_da8c8 : MethodName := ⟨RJ4, "<init>", "()V"⟩
abbrev cJ4_append_15ec4 : ByteArray := prog_25_method_7_code
def yJ4_append_15ec4 : MethodName := ⟨RJ4, "append", "(Ljava/lang/String;)Ljava/lang/StringBuilder;"⟩
abbrev cJ4_append_bf812 : ByteArray := prog_25_method_15_code
def yJ4_append_bf812 : MethodName := ⟨RJ4, "append", "(I)Ljava/lang/StringBuilder;"⟩
abbrev cJ4_toString_0e30d : ByteArray := prog_25_method_42_code
def yJ4_toString_0e30d : MethodName := ⟨RJ4, "toString", "()Ljava/lang/String;"⟩
abbrev cJ4_length_8abf5 : ByteArray := prog_25_method_93_code
def yJ4_length_8abf5 : MethodName := ⟨RJ4, "length", "()I"⟩
def RJ1 : String := "java/lang/StringLatin1"
def TJ1 : u_T := fun k => match k with
  | _ => ("", "", "", false)
def tyJ1 : Nat → FieldType := fun k => match k with
  | _ => .int
abbrev wsJ10 : List Cond := u_ws RJ1 TJ1 0
theorem nmJ1 : ∀ a, a < 0 → ∀ b, b < 0 → a ≠ b → (TJ1 a).2.1 ≠ (TJ1 b).2.1 := by decide +kernel
theorem tyJ1_ok : ∀ k, k < 0 → parseFieldDescriptor (TJ1 k).2.2.1 = some (tyJ1 k) := by decide +kernel
abbrev cJ1_charAt_3b067 : ByteArray := prog_26_method_2_code
def yJ1_charAt_3b067 : MethodName := ⟨RJ1, "charAt", "([BI)C"⟩
abbrev cJ1_inflate_0e8fd : ByteArray := prog_26_method_50_code
def yJ1_inflate_0e8fd : MethodName := ⟨RJ1, "inflate", "([BI[BII)V"⟩
def RJ2 : String := "java/lang/StringUTF16"
def TJ2 : u_T := fun k => match k with
  | _ => ("", "", "", false)
def tyJ2 : Nat → FieldType := fun k => match k with
  | _ => .int
abbrev wsJ20 : List Cond := u_ws RJ2 TJ2 0
theorem nmJ2 : ∀ a, a < 0 → ∀ b, b < 0 → a ≠ b → (TJ2 a).2.1 ≠ (TJ2 b).2.1 := by decide +kernel
theorem tyJ2_ok : ∀ k, k < 0 → parseFieldDescriptor (TJ2 k).2.2.1 = some (tyJ2 k) := by decide +kernel
abbrev cJ2_newBytesFor_77867 : ByteArray := prog_27_method_2_code
def yJ2_newBytesFor_77867 : MethodName := ⟨RJ2, "newBytesFor", "(I)[B"⟩
abbrev cJ2_newBytesLength_0f7a4 : ByteArray := prog_27_method_3_code
def yJ2_newBytesLength_0f7a4 : MethodName := ⟨RJ2, "newBytesLength", "(I)I"⟩
abbrev cJ2_putChar_b72d1 : ByteArray := prog_27_method_4_code
def yJ2_putChar_b72d1 : MethodName := ⟨RJ2, "putChar", "([BII)V"⟩
abbrev cJ2_getChar_3b067 : ByteArray := prog_27_method_5_code
def yJ2_getChar_3b067 : MethodName := ⟨RJ2, "getChar", "([BI)C"⟩
abbrev cJ2_length_9d52b : ByteArray := prog_27_method_6_code
def yJ2_length_9d52b : MethodName := ⟨RJ2, "length", "([B)I"⟩
abbrev cJ2_coderFromArrayLen_85cad : ByteArray := prog_27_method_15_code
def yJ2_coderFromArrayLen_85cad : MethodName := ⟨RJ2, "coderFromArrayLen", "([BI)B"⟩
abbrev cJ2_compress_39247 : ByteArray := prog_27_method_17_code
def yJ2_compress_39247 : MethodName := ⟨RJ2, "compress", "([BII)[B"⟩
abbrev cJ2_compress_5af95 : ByteArray := prog_27_method_22_code
def yJ2_compress_5af95 : MethodName := ⟨RJ2, "compress", "([BI[BII)I"⟩
abbrev cJ2_getChars_46870 : ByteArray := prog_27_method_77_code
def yJ2_getChars_46870 : MethodName := ⟨RJ2, "getChars", "(III[B)I"⟩
abbrev cJ2_putCharsAt_cd4e5 : ByteArray := prog_27_method_81_code
def yJ2_putCharsAt_cd4e5 : MethodName := ⟨RJ2, "putCharsAt", "([BICCCC)I"⟩
abbrev cJ2_charAt_3b067 : ByteArray := prog_27_method_83_code
def yJ2_charAt_3b067 : MethodName := ⟨RJ2, "charAt", "([BI)C"⟩
abbrev cJ2_inflate_0e8fd : ByteArray := prog_27_method_86_code
def yJ2_inflate_0e8fd : MethodName := ⟨RJ2, "inflate", "([BI[BII)V"⟩
abbrev cJ2_getChars_ba4f3 : ByteArray := prog_27_method_89_code
def yJ2_getChars_ba4f3 : MethodName := ⟨RJ2, "getChars", "(II[B)I"⟩
abbrev cJ2_checkIndex_2214a : ByteArray := prog_27_method_91_code
def yJ2_checkIndex_2214a : MethodName := ⟨RJ2, "checkIndex", "(I[B)V"⟩
abbrev cJ2_checkBoundsBeginEnd_d044e : ByteArray := prog_27_method_93_code
def yJ2_checkBoundsBeginEnd_d044e : MethodName := ⟨RJ2, "checkBoundsBeginEnd", "(II[B)V"⟩
abbrev cJ2_checkBoundsOffCount_d044e : ByteArray := prog_27_method_94_code
def yJ2_checkBoundsOffCount_d044e : MethodName := ⟨RJ2, "checkBoundsOffCount", "(II[B)V"⟩
def RJ10 : String := "java/lang/System"
def TJ10 : u_T := fun k => match k with
  | _ => ("", "", "", false)
def tyJ10 : Nat → FieldType := fun k => match k with
  | _ => .int
abbrev wsJ100 : List Cond := u_ws RJ10 TJ10 0
theorem nmJ10 : ∀ a, a < 0 → ∀ b, b < 0 → a ≠ b → (TJ10 a).2.1 ≠ (TJ10 b).2.1 := by decide +kernel
theorem tyJ10_ok : ∀ k, k < 0 → parseFieldDescriptor (TJ10 k).2.2.1 = some (tyJ10 k) := by decide +kernel
def RJxfd54e : String := "java/lang/constant/Constable"
def TJxfd54e : u_T := fun k => match k with
  | _ => ("", "", "", false)
def tyJxfd54e : Nat → FieldType := fun k => match k with
  | _ => .int
abbrev wsJxfd54e0 : List Cond := u_ws RJxfd54e TJxfd54e 0
theorem nmJxfd54e : ∀ a, a < 0 → ∀ b, b < 0 → a ≠ b → (TJxfd54e a).2.1 ≠ (TJxfd54e b).2.1 := by decide +kernel
theorem tyJxfd54e_ok : ∀ k, k < 0 → parseFieldDescriptor (TJxfd54e k).2.2.1 = some (tyJxfd54e k) := by decide +kernel
def RJx3cf43 : String := "java/lang/constant/ConstantDesc"
def TJx3cf43 : u_T := fun k => match k with
  | _ => ("", "", "", false)
def tyJx3cf43 : Nat → FieldType := fun k => match k with
  | _ => .int
abbrev wsJx3cf430 : List Cond := u_ws RJx3cf43 TJx3cf43 0
theorem nmJx3cf43 : ∀ a, a < 0 → ∀ b, b < 0 → a ≠ b → (TJx3cf43 a).2.1 ≠ (TJx3cf43 b).2.1 := by decide +kernel
theorem tyJx3cf43_ok : ∀ k, k < 0 → parseFieldDescriptor (TJx3cf43 k).2.2.1 = some (tyJx3cf43 k) := by decide +kernel
def RJxa1e45 : String := "java/util/AbstractCollection"
def TJxa1e45 : u_T := fun k => match k with
  | _ => ("", "", "", false)
def tyJxa1e45 : Nat → FieldType := fun k => match k with
  | _ => .int
abbrev wsJxa1e450 : List Cond := u_ws RJxa1e45 TJxa1e45 0
theorem nmJxa1e45 : ∀ a, a < 0 → ∀ b, b < 0 → a ≠ b → (TJxa1e45 a).2.1 ≠ (TJxa1e45 b).2.1 := by decide +kernel
theorem tyJxa1e45_ok : ∀ k, k < 0 → parseFieldDescriptor (TJxa1e45 k).2.2.1 = some (tyJxa1e45 k) := by decide +kernel
abbrev cJxa1e45_init_da8c8 : ByteArray := prog_32_method_1_code
def yJxa1e45_init_da8c8 : MethodName := ⟨RJxa1e45, "<init>", "()V"⟩
def RJxc12de : String := "java/util/AbstractList"
def TJxc12de : u_T := fun k => match k with
  | _ => ("", "", "", false)
def tyJxc12de : Nat → FieldType := fun k => match k with
  | _ => .int
abbrev wsJxc12de0 : List Cond := u_ws RJxc12de TJxc12de 0
theorem nmJxc12de : ∀ a, a < 0 → ∀ b, b < 0 → a ≠ b → (TJxc12de a).2.1 ≠ (TJxc12de b).2.1 := by decide +kernel
theorem tyJxc12de_ok : ∀ k, k < 0 → parseFieldDescriptor (TJxc12de k).2.2.1 = some (tyJxc12de k) := by decide +kernel
abbrev cJxc12de_init_da8c8 : ByteArray := prog_33_method_1_code
def yJxc12de_init_da8c8 : MethodName := ⟨RJxc12de, "<init>", "()V"⟩
def RJx4a65c : String := "java/util/ArrayList"
def TJx4a65c : u_T := fun k => match k with
  | 0 => ("java/util/AbstractList", "modCount", "I", false)
  | 1 => ("java/util/ArrayList", "elementData", "[Ljava/lang/Object;", false)
  | _ => ("java/util/ArrayList", "size", "I", false)
def tyJx4a65c : Nat → FieldType := fun k => match k with
  | 0 => .int
  | 1 => .array (.object "java/lang/Object")
  | _ => .int
abbrev wsJx4a65c0 : List Cond := u_ws RJx4a65c TJx4a65c 3
theorem nmJx4a65c : ∀ a, a < 3 → ∀ b, b < 3 → a ≠ b → (TJx4a65c a).2.1 ≠ (TJx4a65c b).2.1 := by decide +kernel
theorem tyJx4a65c_ok : ∀ k, k < 3 → parseFieldDescriptor (TJx4a65c k).2.2.1 = some (tyJx4a65c k) := by decide +kernel
abbrev cJx4a65c_init_da8c8 : ByteArray := prog_34_method_2_code
def yJx4a65c_init_da8c8 : MethodName := ⟨RJx4a65c, "<init>", "()V"⟩
abbrev cJx4a65c_grow_92f84 : ByteArray := prog_34_method_6_code
def yJx4a65c_grow_92f84 : MethodName := ⟨RJx4a65c, "grow", "(I)[Ljava/lang/Object;"⟩
abbrev cJx4a65c_grow_d5877 : ByteArray := prog_34_method_7_code
def yJx4a65c_grow_d5877 : MethodName := ⟨RJx4a65c, "grow", "()[Ljava/lang/Object;"⟩
abbrev cJx4a65c_size_8abf5 : ByteArray := prog_34_method_8_code
def yJx4a65c_size_8abf5 : MethodName := ⟨RJx4a65c, "size", "()I"⟩
abbrev cJx4a65c_isEmpty_aae02 : ByteArray := prog_34_method_9_code
def yJx4a65c_isEmpty_aae02 : MethodName := ⟨RJx4a65c, "isEmpty", "()Z"⟩
abbrev cJx4a65c_elementData_915e3 : ByteArray := prog_34_method_18_code
def yJx4a65c_elementData_915e3 : MethodName := ⟨RJx4a65c, "elementData", "(I)Ljava/lang/Object;"⟩
abbrev cJx4a65c_get_915e3 : ByteArray := prog_34_method_20_code
def yJx4a65c_get_915e3 : MethodName := ⟨RJx4a65c, "get", "(I)Ljava/lang/Object;"⟩
abbrev cJx4a65c_add_72be8 : ByteArray := prog_34_method_24_code
def yJx4a65c_add_72be8 : MethodName := ⟨RJx4a65c, "add", "(Ljava/lang/Object;[Ljava/lang/Object;I)V"⟩
abbrev cJx4a65c_add_9ea2d : ByteArray := prog_34_method_25_code
def yJx4a65c_add_9ea2d : MethodName := ⟨RJx4a65c, "add", "(Ljava/lang/Object;)Z"⟩
def RJ7 : String := "java/util/Arrays"
def TJ7 : u_T := fun k => match k with
  | _ => ("", "", "", false)
def tyJ7 : Nat → FieldType := fun k => match k with
  | _ => .int
abbrev wsJ70 : List Cond := u_ws RJ7 TJ7 0
theorem nmJ7 : ∀ a, a < 0 → ∀ b, b < 0 → a ≠ b → (TJ7 a).2.1 ≠ (TJ7 b).2.1 := by decide +kernel
theorem tyJ7_ok : ∀ k, k < 0 → parseFieldDescriptor (TJ7 k).2.2.1 = some (tyJ7 k) := by decide +kernel
abbrev cJ7_fill_53178 : ByteArray := prog_35_method_103_code
def yJ7_fill_53178 : MethodName := ⟨RJ7, "fill", "([II)V"⟩
abbrev cJ7_copyOf_1904c : ByteArray := prog_35_method_119_code
def yJ7_copyOf_1904c : MethodName := ⟨RJ7, "copyOf", "([Ljava/lang/Object;I)[Ljava/lang/Object;"⟩
abbrev cJ7_copyOf_6403c : ByteArray := prog_35_method_120_code
def yJ7_copyOf_6403c : MethodName := ⟨RJ7, "copyOf", "([Ljava/lang/Object;ILjava/lang/Class;)[Ljava/lang/Object;"⟩
abbrev cJ7_copyOf_9075b : ByteArray := prog_35_method_121_code
def yJ7_copyOf_9075b : MethodName := ⟨RJ7, "copyOf", "([BI)[B"⟩
abbrev cJ7_checkLength_df160 : ByteArray := prog_35_method_131_code
def yJ7_checkLength_df160 : MethodName := ⟨RJ7, "checkLength", "(II)V"⟩
abbrev cJ7_copyOfRange_39247 : ByteArray := prog_35_method_132_code
def yJ7_copyOfRange_39247 : MethodName := ⟨RJ7, "copyOfRange", "([BII)[B"⟩
abbrev cJ7_copyOfRangeByte_39247 : ByteArray := prog_35_method_133_code
def yJ7_copyOfRangeByte_39247 : MethodName := ⟨RJ7, "copyOfRangeByte", "([BII)[B"⟩
def RJx5ef63 : String := "java/util/Collection"
def TJx5ef63 : u_T := fun k => match k with
  | _ => ("", "", "", false)
def tyJx5ef63 : Nat → FieldType := fun k => match k with
  | _ => .int
abbrev wsJx5ef630 : List Cond := u_ws RJx5ef63 TJx5ef63 0
theorem nmJx5ef63 : ∀ a, a < 0 → ∀ b, b < 0 → a ≠ b → (TJx5ef63 a).2.1 ≠ (TJx5ef63 b).2.1 := by decide +kernel
theorem tyJx5ef63_ok : ∀ k, k < 0 → parseFieldDescriptor (TJx5ef63 k).2.2.1 = some (tyJx5ef63 k) := by decide +kernel
def RJxbd725 : String := "java/util/List"
def TJxbd725 : u_T := fun k => match k with
  | _ => ("", "", "", false)
def tyJxbd725 : Nat → FieldType := fun k => match k with
  | _ => .int
abbrev wsJxbd7250 : List Cond := u_ws RJxbd725 TJxbd725 0
theorem nmJxbd725 : ∀ a, a < 0 → ∀ b, b < 0 → a ≠ b → (TJxbd725 a).2.1 ≠ (TJxbd725 b).2.1 := by decide +kernel
theorem tyJxbd725_ok : ∀ k, k < 0 → parseFieldDescriptor (TJxbd725 k).2.2.1 = some (tyJxbd725 k) := by decide +kernel
def RJ15 : String := "java/util/Objects"
def TJ15 : u_T := fun k => match k with
  | _ => ("", "", "", false)
def tyJ15 : Nat → FieldType := fun k => match k with
  | _ => .int
abbrev wsJ150 : List Cond := u_ws RJ15 TJ15 0
theorem nmJ15 : ∀ a, a < 0 → ∀ b, b < 0 → a ≠ b → (TJ15 a).2.1 ≠ (TJ15 b).2.1 := by decide +kernel
theorem tyJ15_ok : ∀ k, k < 0 → parseFieldDescriptor (TJ15 k).2.2.1 = some (tyJ15 k) := by decide +kernel
abbrev cJ15_checkIndex_7cf53 : ByteArray := prog_38_method_17_code
def yJ15_checkIndex_7cf53 : MethodName := ⟨RJ15, "checkIndex", "(II)I"⟩
def RJxf0a74 : String := "java/util/RandomAccess"
def TJxf0a74 : u_T := fun k => match k with
  | _ => ("", "", "", false)
def tyJxf0a74 : Nat → FieldType := fun k => match k with
  | _ => .int
abbrev wsJxf0a740 : List Cond := u_ws RJxf0a74 TJxf0a74 0
theorem nmJxf0a74 : ∀ a, a < 0 → ∀ b, b < 0 → a ≠ b → (TJxf0a74 a).2.1 ≠ (TJxf0a74 b).2.1 := by decide +kernel
theorem tyJxf0a74_ok : ∀ k, k < 0 → parseFieldDescriptor (TJxf0a74 k).2.2.1 = some (tyJxf0a74 k) := by decide +kernel
def RJxa66e6 : String := "java/util/SequencedCollection"
def TJxa66e6 : u_T := fun k => match k with
  | _ => ("", "", "", false)
def tyJxa66e6 : Nat → FieldType := fun k => match k with
  | _ => .int
abbrev wsJxa66e60 : List Cond := u_ws RJxa66e6 TJxa66e6 0
theorem nmJxa66e6 : ∀ a, a < 0 → ∀ b, b < 0 → a ≠ b → (TJxa66e6 a).2.1 ≠ (TJxa66e6 b).2.1 := by decide +kernel
theorem tyJxa66e6_ok : ∀ k, k < 0 → parseFieldDescriptor (TJxa66e6 k).2.2.1 = some (tyJxa66e6 k) := by decide +kernel
def RJ8 : String := "jdk/internal/util/ArraysSupport"
def TJ8 : u_T := fun k => match k with
  | _ => ("", "", "", false)
def tyJ8 : Nat → FieldType := fun k => match k with
  | _ => .int
abbrev wsJ80 : List Cond := u_ws RJ8 TJ8 0
theorem nmJ8 : ∀ a, a < 0 → ∀ b, b < 0 → a ≠ b → (TJ8 a).2.1 ≠ (TJ8 b).2.1 := by decide +kernel
theorem tyJ8_ok : ∀ k, k < 0 → parseFieldDescriptor (TJ8 k).2.2.1 = some (tyJ8 k) := by decide +kernel
abbrev cJ8_newLength_cabcc : ByteArray := prog_41_method_27_code
def yJ8_newLength_cabcc : MethodName := ⟨RJ8, "newLength", "(III)I"⟩
abbrev cJ8_hugeLength_7cf53 : ByteArray := prog_41_method_28_code
def yJ8_hugeLength_7cf53 : MethodName := ⟨RJ8, "hugeLength", "(II)I"⟩
def RJ3 : String := "jdk/internal/util/Preconditions"
def TJ3 : u_T := fun k => match k with
  | _ => ("", "", "", false)
def tyJ3 : Nat → FieldType := fun k => match k with
  | _ => .int
abbrev wsJ30 : List Cond := u_ws RJ3 TJ3 0
theorem nmJ3 : ∀ a, a < 0 → ∀ b, b < 0 → a ≠ b → (TJ3 a).2.1 ≠ (TJ3 b).2.1 := by decide +kernel
theorem tyJ3_ok : ∀ k, k < 0 → parseFieldDescriptor (TJ3 k).2.2.1 = some (tyJ3 k) := by decide +kernel
abbrev cJ3_checkIndex_8e157 : ByteArray := prog_42_method_11_code
def yJ3_checkIndex_8e157 : MethodName := ⟨RJ3, "checkIndex", "(IILjava/util/function/BiFunction;)I"⟩
abbrev cJ3_checkFromToIndex_8c36e : ByteArray := prog_42_method_12_code
def yJ3_checkFromToIndex_8c36e : MethodName := ⟨RJ3, "checkFromToIndex", "(IIILjava/util/function/BiFunction;)I"⟩
abbrev cJ3_checkFromIndexSize_8c36e : ByteArray := prog_42_method_13_code
def yJ3_checkFromIndexSize_8c36e : MethodName := ⟨RJ3, "checkFromIndexSize", "(IIILjava/util/function/BiFunction;)I"⟩
def RL : String := "PosterTypesLaw"
abbrev cL_below : ByteArray := method_2_code
def yL_below : MethodName := ⟨RL, "below", "(II)I"⟩
abbrev cL_cell : ByteArray := method_3_code
def yL_cell : MethodName := ⟨RL, "cell", "([II)I"⟩
abbrev cL_word : ByteArray := method_4_code
def yL_word : MethodName := ⟨RL, "word", "(I)I"⟩
abbrev cL_act : ByteArray := method_5_code
def yL_act : MethodName := ⟨RL, "act", "(LPosterTypes;LPosterTypesLaw$Sim;I)Z"⟩
abbrev cL_build : ByteArray := method_6_code
def yL_build : MethodName := ⟨RL, "build", "(LPosterTypes;[I)LPosterTypesLaw$Sim;"⟩
abbrev cL_law : ByteArray := code
def yL_law : MethodName := ⟨RL, "law", "([I)Z"⟩
theorem dX0_init_0 : decode cX0_init 0 = .ok (.aload_n 0, 1) := by decide +kernel
theorem dX0_init_1 : decode cX0_init 1 = .ok (.invokespecial 3, 3) := by decide +kernel
theorem dX0_init_4 : decode cX0_init 4 = .ok (.aload_n 0, 1) := by decide +kernel
theorem dX0_init_5 : decode cX0_init 5 = .ok (.bipush 10, 2) := by decide +kernel
theorem dX0_init_7 : decode cX0_init 7 = .ok (.newarray .int, 2) := by decide +kernel
theorem dX0_init_9 : decode cX0_init 9 = .ok (.putfield 9, 3) := by decide +kernel
theorem dX0_init_12 : decode cX0_init 12 = .ok (.aload_n 0, 1) := by decide +kernel
theorem dX0_init_13 : decode cX0_init 13 = .ok (.bipush 10, 2) := by decide +kernel
theorem dX0_init_15 : decode cX0_init 15 = .ok (.newarray .int, 2) := by decide +kernel
theorem dX0_init_17 : decode cX0_init 17 = .ok (.putfield 15, 3) := by decide +kernel
theorem dX0_init_20 : decode cX0_init 20 = .ok (.aload_n 0, 1) := by decide +kernel
theorem dX0_init_21 : decode cX0_init 21 = .ok (.bipush 10, 2) := by decide +kernel
theorem dX0_init_23 : decode cX0_init 23 = .ok (.newarray .int, 2) := by decide +kernel
theorem dX0_init_25 : decode cX0_init 25 = .ok (.putfield 18, 3) := by decide +kernel
theorem dX0_init_28 : decode cX0_init 28 = .ok (.aload_n 0, 1) := by decide +kernel
theorem dX0_init_29 : decode cX0_init 29 = .ok (.bipush 10, 2) := by decide +kernel
theorem dX0_init_31 : decode cX0_init 31 = .ok (.newarray .int, 2) := by decide +kernel
theorem dX0_init_33 : decode cX0_init 33 = .ok (.putfield 21, 3) := by decide +kernel
theorem dX0_init_36 : decode cX0_init 36 = .ok (.aload_n 0, 1) := by decide +kernel
theorem dX0_init_37 : decode cX0_init 37 = .ok (.iload_n 1, 1) := by decide +kernel
theorem dX0_init_38 : decode cX0_init 38 = .ok (.putfield 24, 3) := by decide +kernel
theorem dX0_init_41 : decode cX0_init 41 = .ok (.aload_n 0, 1) := by decide +kernel
theorem dX0_init_42 : decode cX0_init 42 = .ok (.iload_n 2, 1) := by decide +kernel
theorem dX0_init_43 : decode cX0_init 43 = .ok (.putfield 28, 3) := by decide +kernel
theorem dX0_init_46 : decode cX0_init 46 = .ok (.return_, 1) := by decide +kernel
theorem dX0_addBlocks_0 : decode cX0_addBlocks 0 = .ok (.aload_n 0, 1) := by decide +kernel
theorem dX0_addBlocks_1 : decode cX0_addBlocks 1 = .ok (.getfield 9, 3) := by decide +kernel
theorem dX0_addBlocks_4 : decode cX0_addBlocks 4 = .ok (.iload_n 1, 1) := by decide +kernel
theorem dX0_addBlocks_5 : decode cX0_addBlocks 5 = .ok (.dup2, 1) := by decide +kernel
theorem dX0_addBlocks_6 : decode cX0_addBlocks 6 = .ok (.iaload, 1) := by decide +kernel
theorem dX0_addBlocks_7 : decode cX0_addBlocks 7 = .ok (.iload_n 2, 1) := by decide +kernel
theorem dX0_addBlocks_8 : decode cX0_addBlocks 8 = .ok (.iadd, 1) := by decide +kernel
theorem dX0_addBlocks_9 : decode cX0_addBlocks 9 = .ok (.iastore, 1) := by decide +kernel
theorem dX0_addBlocks_10 : decode cX0_addBlocks 10 = .ok (.aload_n 0, 1) := by decide +kernel
theorem dX0_addBlocks_11 : decode cX0_addBlocks 11 = .ok (.getfield 15, 3) := by decide +kernel
theorem dX0_addBlocks_14 : decode cX0_addBlocks 14 = .ok (.iload_n 1, 1) := by decide +kernel
theorem dX0_addBlocks_15 : decode cX0_addBlocks 15 = .ok (.dup2, 1) := by decide +kernel
theorem dX0_addBlocks_16 : decode cX0_addBlocks 16 = .ok (.iaload, 1) := by decide +kernel
theorem dX0_addBlocks_17 : decode cX0_addBlocks 17 = .ok (.iload_n 2, 1) := by decide +kernel
theorem dX0_addBlocks_18 : decode cX0_addBlocks 18 = .ok (.iadd, 1) := by decide +kernel
theorem dX0_addBlocks_19 : decode cX0_addBlocks 19 = .ok (.iastore, 1) := by decide +kernel
theorem dX0_addBlocks_20 : decode cX0_addBlocks 20 = .ok (.return_, 1) := by decide +kernel
theorem dX0_leaveFree_0 : decode cX0_leaveFree 0 = .ok (.aload_n 0, 1) := by decide +kernel
theorem dX0_leaveFree_1 : decode cX0_leaveFree 1 = .ok (.getfield 15, 3) := by decide +kernel
theorem dX0_leaveFree_4 : decode cX0_leaveFree 4 = .ok (.iconst 0, 1) := by decide +kernel
theorem dX0_leaveFree_5 : decode cX0_leaveFree 5 = .ok (.aload_n 0, 1) := by decide +kernel
theorem dX0_leaveFree_6 : decode cX0_leaveFree 6 = .ok (.getfield 21, 3) := by decide +kernel
theorem dX0_leaveFree_9 : decode cX0_leaveFree 9 = .ok (.iconst 0, 1) := by decide +kernel
theorem dX0_leaveFree_10 : decode cX0_leaveFree 10 = .ok (.bipush 10, 2) := by decide +kernel
theorem dX0_leaveFree_12 : decode cX0_leaveFree 12 = .ok (.invokestatic 31, 3) := by decide +kernel
theorem dX0_leaveFree_15 : decode cX0_leaveFree 15 = .ok (.return_, 1) := by decide +kernel
theorem dX0_spendOn_0 : decode cX0_spendOn 0 = .ok (.iconst 0, 1) := by decide +kernel
theorem dX0_spendOn_1 : decode cX0_spendOn 1 = .ok (.istore_n 2, 1) := by decide +kernel
theorem dX0_spendOn_2 : decode cX0_spendOn 2 = .ok (.iload_n 2, 1) := by decide +kernel
theorem dX0_spendOn_3 : decode cX0_spendOn 3 = .ok (.bipush 10, 2) := by decide +kernel
theorem dX0_spendOn_5 : decode cX0_spendOn 5 = .ok (.if_icmp .ge 24, 3) := by decide +kernel
theorem dX0_spendOn_8 : decode cX0_spendOn 8 = .ok (.aload_n 0, 1) := by decide +kernel
theorem dX0_spendOn_9 : decode cX0_spendOn 9 = .ok (.getfield 21, 3) := by decide +kernel
theorem dX0_spendOn_12 : decode cX0_spendOn 12 = .ok (.iload_n 2, 1) := by decide +kernel
theorem dX0_spendOn_13 : decode cX0_spendOn 13 = .ok (.dup2, 1) := by decide +kernel
theorem dX0_spendOn_14 : decode cX0_spendOn 14 = .ok (.iaload, 1) := by decide +kernel
theorem dX0_spendOn_15 : decode cX0_spendOn 15 = .ok (.aload_n 1, 1) := by decide +kernel
theorem dX0_spendOn_16 : decode cX0_spendOn 16 = .ok (.getfield 37, 3) := by decide +kernel
theorem dX0_spendOn_19 : decode cX0_spendOn 19 = .ok (.iload_n 2, 1) := by decide +kernel
theorem dX0_spendOn_20 : decode cX0_spendOn 20 = .ok (.iaload, 1) := by decide +kernel
theorem dX0_spendOn_21 : decode cX0_spendOn 21 = .ok (.isub, 1) := by decide +kernel
theorem dX0_spendOn_22 : decode cX0_spendOn 22 = .ok (.iastore, 1) := by decide +kernel
theorem dX0_spendOn_23 : decode cX0_spendOn 23 = .ok (.iinc 2 1, 3) := by decide +kernel
theorem dX0_spendOn_26 : decode cX0_spendOn 26 = .ok (.goto (-24), 3) := by decide +kernel
theorem dX0_spendOn_29 : decode cX0_spendOn 29 = .ok (.return_, 1) := by decide +kernel
theorem dX0_breakWorn_0 : decode cX0_breakWorn 0 = .ok (.iconst 0, 1) := by decide +kernel
theorem dX0_breakWorn_1 : decode cX0_breakWorn 1 = .ok (.istore_n 1, 1) := by decide +kernel
theorem dX0_breakWorn_2 : decode cX0_breakWorn 2 = .ok (.iconst 0, 1) := by decide +kernel
theorem dX0_breakWorn_3 : decode cX0_breakWorn 3 = .ok (.istore_n 2, 1) := by decide +kernel
theorem dX0_breakWorn_4 : decode cX0_breakWorn 4 = .ok (.iload_n 2, 1) := by decide +kernel
theorem dX0_breakWorn_5 : decode cX0_breakWorn 5 = .ok (.bipush 10, 2) := by decide +kernel
theorem dX0_breakWorn_7 : decode cX0_breakWorn 7 = .ok (.if_icmp .ge 67, 3) := by decide +kernel
theorem dX0_breakWorn_10 : decode cX0_breakWorn 10 = .ok (.aload_n 0, 1) := by decide +kernel
theorem dX0_breakWorn_11 : decode cX0_breakWorn 11 = .ok (.getfield 18, 3) := by decide +kernel
theorem dX0_breakWorn_14 : decode cX0_breakWorn 14 = .ok (.iload_n 2, 1) := by decide +kernel
theorem dX0_breakWorn_15 : decode cX0_breakWorn 15 = .ok (.iaload, 1) := by decide +kernel
theorem dX0_breakWorn_16 : decode cX0_breakWorn 16 = .ok (.sipush 400, 3) := by decide +kernel
theorem dX0_breakWorn_19 : decode cX0_breakWorn 19 = .ok (.idiv, 1) := by decide +kernel
theorem dX0_breakWorn_20 : decode cX0_breakWorn 20 = .ok (.aload_n 0, 1) := by decide +kernel
theorem dX0_breakWorn_21 : decode cX0_breakWorn 21 = .ok (.getfield 15, 3) := by decide +kernel
theorem dX0_breakWorn_24 : decode cX0_breakWorn 24 = .ok (.iload_n 2, 1) := by decide +kernel
theorem dX0_breakWorn_25 : decode cX0_breakWorn 25 = .ok (.iaload, 1) := by decide +kernel
theorem dX0_breakWorn_26 : decode cX0_breakWorn 26 = .ok (.invokestatic 42, 3) := by decide +kernel
theorem dX0_breakWorn_29 : decode cX0_breakWorn 29 = .ok (.istore_n 3, 1) := by decide +kernel
theorem dX0_breakWorn_30 : decode cX0_breakWorn 30 = .ok (.aload_n 0, 1) := by decide +kernel
theorem dX0_breakWorn_31 : decode cX0_breakWorn 31 = .ok (.getfield 9, 3) := by decide +kernel
theorem dX0_breakWorn_34 : decode cX0_breakWorn 34 = .ok (.iload_n 2, 1) := by decide +kernel
theorem dX0_breakWorn_35 : decode cX0_breakWorn 35 = .ok (.dup2, 1) := by decide +kernel
theorem dX0_breakWorn_36 : decode cX0_breakWorn 36 = .ok (.iaload, 1) := by decide +kernel
theorem dX0_breakWorn_37 : decode cX0_breakWorn 37 = .ok (.iload_n 3, 1) := by decide +kernel
theorem dX0_breakWorn_38 : decode cX0_breakWorn 38 = .ok (.isub, 1) := by decide +kernel
theorem dX0_breakWorn_39 : decode cX0_breakWorn 39 = .ok (.iastore, 1) := by decide +kernel
theorem dX0_breakWorn_40 : decode cX0_breakWorn 40 = .ok (.aload_n 0, 1) := by decide +kernel
theorem dX0_breakWorn_41 : decode cX0_breakWorn 41 = .ok (.getfield 15, 3) := by decide +kernel
theorem dX0_breakWorn_44 : decode cX0_breakWorn 44 = .ok (.iload_n 2, 1) := by decide +kernel
theorem dX0_breakWorn_45 : decode cX0_breakWorn 45 = .ok (.dup2, 1) := by decide +kernel
theorem dX0_breakWorn_46 : decode cX0_breakWorn 46 = .ok (.iaload, 1) := by decide +kernel
theorem dX0_breakWorn_47 : decode cX0_breakWorn 47 = .ok (.iload_n 3, 1) := by decide +kernel
theorem dX0_breakWorn_48 : decode cX0_breakWorn 48 = .ok (.isub, 1) := by decide +kernel
theorem dX0_breakWorn_49 : decode cX0_breakWorn 49 = .ok (.iastore, 1) := by decide +kernel
theorem dX0_breakWorn_50 : decode cX0_breakWorn 50 = .ok (.aload_n 0, 1) := by decide +kernel
theorem dX0_breakWorn_51 : decode cX0_breakWorn 51 = .ok (.getfield 18, 3) := by decide +kernel
theorem dX0_breakWorn_54 : decode cX0_breakWorn 54 = .ok (.iload_n 2, 1) := by decide +kernel
theorem dX0_breakWorn_55 : decode cX0_breakWorn 55 = .ok (.dup2, 1) := by decide +kernel
theorem dX0_breakWorn_56 : decode cX0_breakWorn 56 = .ok (.iaload, 1) := by decide +kernel
theorem dX0_breakWorn_57 : decode cX0_breakWorn 57 = .ok (.iload_n 3, 1) := by decide +kernel
theorem dX0_breakWorn_58 : decode cX0_breakWorn 58 = .ok (.sipush 400, 3) := by decide +kernel
theorem dX0_breakWorn_61 : decode cX0_breakWorn 61 = .ok (.imul, 1) := by decide +kernel
theorem dX0_breakWorn_62 : decode cX0_breakWorn 62 = .ok (.isub, 1) := by decide +kernel
theorem dX0_breakWorn_63 : decode cX0_breakWorn 63 = .ok (.iastore, 1) := by decide +kernel
theorem dX0_breakWorn_64 : decode cX0_breakWorn 64 = .ok (.iload_n 1, 1) := by decide +kernel
theorem dX0_breakWorn_65 : decode cX0_breakWorn 65 = .ok (.iload_n 3, 1) := by decide +kernel
theorem dX0_breakWorn_66 : decode cX0_breakWorn 66 = .ok (.iadd, 1) := by decide +kernel
theorem dX0_breakWorn_67 : decode cX0_breakWorn 67 = .ok (.istore_n 1, 1) := by decide +kernel
theorem dX0_breakWorn_68 : decode cX0_breakWorn 68 = .ok (.iinc 2 1, 3) := by decide +kernel
theorem dX0_breakWorn_71 : decode cX0_breakWorn 71 = .ok (.goto (-67), 3) := by decide +kernel
theorem dX0_breakWorn_74 : decode cX0_breakWorn 74 = .ok (.iload_n 1, 1) := by decide +kernel
theorem dX0_breakWorn_75 : decode cX0_breakWorn 75 = .ok (.ireturn, 1) := by decide +kernel
theorem dX1_init_0 : decode cX1_init 0 = .ok (.aload_n 0, 1) := by decide +kernel
theorem dX1_init_1 : decode cX1_init 1 = .ok (.invokespecial 3, 3) := by decide +kernel
theorem dX1_init_4 : decode cX1_init 4 = .ok (.aload_n 0, 1) := by decide +kernel
theorem dX1_init_5 : decode cX1_init 5 = .ok (.bipush 8, 2) := by decide +kernel
theorem dX1_init_7 : decode cX1_init 7 = .ok (.newarray .int, 2) := by decide +kernel
theorem dX1_init_9 : decode cX1_init 9 = .ok (.putfield 9, 3) := by decide +kernel
theorem dX1_init_12 : decode cX1_init 12 = .ok (.aload_n 0, 1) := by decide +kernel
theorem dX1_init_13 : decode cX1_init 13 = .ok (.bipush 10, 2) := by decide +kernel
theorem dX1_init_15 : decode cX1_init 15 = .ok (.newarray .int, 2) := by decide +kernel
theorem dX1_init_17 : decode cX1_init 17 = .ok (.putfield 15, 3) := by decide +kernel
theorem dX1_init_20 : decode cX1_init 20 = .ok (.iconst 1, 1) := by decide +kernel
theorem dX1_init_21 : decode cX1_init 21 = .ok (.istore_n 2, 1) := by decide +kernel
theorem dX1_init_22 : decode cX1_init 22 = .ok (.iload_n 1, 1) := by decide +kernel
theorem dX1_init_23 : decode cX1_init 23 = .ok (.bipush 10, 2) := by decide +kernel
theorem dX1_init_25 : decode cX1_init 25 = .ok (.idiv, 1) := by decide +kernel
theorem dX1_init_26 : decode cX1_init 26 = .ok (.istore_n 3, 1) := by decide +kernel
theorem dX1_init_27 : decode cX1_init 27 = .ok (.iload_n 3, 1) := by decide +kernel
theorem dX1_init_28 : decode cX1_init 28 = .ok (.ifCond .le 20, 3) := by decide +kernel
theorem dX1_init_31 : decode cX1_init 31 = .ok (.iload_n 2, 1) := by decide +kernel
theorem dX1_init_32 : decode cX1_init 32 = .ok (.bipush 8, 2) := by decide +kernel
theorem dX1_init_34 : decode cX1_init 34 = .ok (.if_icmp .ge 14, 3) := by decide +kernel
theorem dX1_init_37 : decode cX1_init 37 = .ok (.iinc 2 1, 3) := by decide +kernel
theorem dX1_init_40 : decode cX1_init 40 = .ok (.iload_n 3, 1) := by decide +kernel
theorem dX1_init_41 : decode cX1_init 41 = .ok (.bipush 10, 2) := by decide +kernel
theorem dX1_init_43 : decode cX1_init 43 = .ok (.idiv, 1) := by decide +kernel
theorem dX1_init_44 : decode cX1_init 44 = .ok (.istore_n 3, 1) := by decide +kernel
theorem dX1_init_45 : decode cX1_init 45 = .ok (.goto (-18), 3) := by decide +kernel
theorem dX1_init_48 : decode cX1_init 48 = .ok (.aload_n 0, 1) := by decide +kernel
theorem dX1_init_49 : decode cX1_init 49 = .ok (.iload_n 2, 1) := by decide +kernel
theorem dX1_init_50 : decode cX1_init 50 = .ok (.putfield 18, 3) := by decide +kernel
theorem dX1_init_53 : decode cX1_init 53 = .ok (.iload_n 1, 1) := by decide +kernel
theorem dX1_init_54 : decode cX1_init 54 = .ok (.istore_n 3, 1) := by decide +kernel
theorem dX1_init_55 : decode cX1_init 55 = .ok (.iload_n 2, 1) := by decide +kernel
theorem dX1_init_56 : decode cX1_init 56 = .ok (.iconst 1, 1) := by decide +kernel
theorem dX1_init_57 : decode cX1_init 57 = .ok (.isub, 1) := by decide +kernel
theorem dX1_init_58 : decode cX1_init 58 = .ok (.istore 4, 2) := by decide +kernel
theorem dX1_init_60 : decode cX1_init 60 = .ok (.iload 4, 2) := by decide +kernel
theorem dX1_init_62 : decode cX1_init 62 = .ok (.ifCond .lt 25, 3) := by decide +kernel
theorem dX1_init_65 : decode cX1_init 65 = .ok (.aload_n 0, 1) := by decide +kernel
theorem dX1_init_66 : decode cX1_init 66 = .ok (.getfield 9, 3) := by decide +kernel
theorem dX1_init_69 : decode cX1_init 69 = .ok (.iload 4, 2) := by decide +kernel
theorem dX1_init_71 : decode cX1_init 71 = .ok (.iload_n 3, 1) := by decide +kernel
theorem dX1_init_72 : decode cX1_init 72 = .ok (.bipush 10, 2) := by decide +kernel
theorem dX1_init_74 : decode cX1_init 74 = .ok (.irem, 1) := by decide +kernel
theorem dX1_init_75 : decode cX1_init 75 = .ok (.iastore, 1) := by decide +kernel
theorem dX1_init_76 : decode cX1_init 76 = .ok (.iload_n 3, 1) := by decide +kernel
theorem dX1_init_77 : decode cX1_init 77 = .ok (.bipush 10, 2) := by decide +kernel
theorem dX1_init_79 : decode cX1_init 79 = .ok (.idiv, 1) := by decide +kernel
theorem dX1_init_80 : decode cX1_init 80 = .ok (.istore_n 3, 1) := by decide +kernel
theorem dX1_init_81 : decode cX1_init 81 = .ok (.iinc 4 (-1), 3) := by decide +kernel
theorem dX1_init_84 : decode cX1_init 84 = .ok (.goto (-24), 3) := by decide +kernel
theorem dX1_init_87 : decode cX1_init 87 = .ok (.return_, 1) := by decide +kernel
theorem dX1_startIn_0 : decode cX1_startIn 0 = .ok (.aload_n 0, 1) := by decide +kernel
theorem dX1_startIn_1 : decode cX1_startIn 1 = .ok (.getfield 15, 3) := by decide +kernel
theorem dX1_startIn_4 : decode cX1_startIn 4 = .ok (.iconst 0, 1) := by decide +kernel
theorem dX1_startIn_5 : decode cX1_startIn 5 = .ok (.invokestatic 22, 3) := by decide +kernel
theorem dX1_startIn_8 : decode cX1_startIn 8 = .ok (.aload_n 0, 1) := by decide +kernel
theorem dX1_startIn_9 : decode cX1_startIn 9 = .ok (.aload_n 1, 1) := by decide +kernel
theorem dX1_startIn_10 : decode cX1_startIn 10 = .ok (.putfield 28, 3) := by decide +kernel
theorem dX1_startIn_13 : decode cX1_startIn 13 = .ok (.aload_n 0, 1) := by decide +kernel
theorem dX1_startIn_14 : decode cX1_startIn 14 = .ok (.iconst 0, 1) := by decide +kernel
theorem dX1_startIn_15 : decode cX1_startIn 15 = .ok (.putfield 32, 3) := by decide +kernel
theorem dX1_startIn_18 : decode cX1_startIn 18 = .ok (.aload_n 0, 1) := by decide +kernel
theorem dX1_startIn_19 : decode cX1_startIn 19 = .ok (.iconst 0, 1) := by decide +kernel
theorem dX1_startIn_20 : decode cX1_startIn 20 = .ok (.putfield 35, 3) := by decide +kernel
theorem dX1_startIn_23 : decode cX1_startIn 23 = .ok (.return_, 1) := by decide +kernel
theorem dX1_put_0 : decode cX1_put 0 = .ok (.aload_n 0, 1) := by decide +kernel
theorem dX1_put_1 : decode cX1_put 1 = .ok (.getfield 15, 3) := by decide +kernel
theorem dX1_put_4 : decode cX1_put 4 = .ok (.iload_n 1, 1) := by decide +kernel
theorem dX1_put_5 : decode cX1_put 5 = .ok (.dup2, 1) := by decide +kernel
theorem dX1_put_6 : decode cX1_put 6 = .ok (.iaload, 1) := by decide +kernel
theorem dX1_put_7 : decode cX1_put 7 = .ok (.iconst 1, 1) := by decide +kernel
theorem dX1_put_8 : decode cX1_put 8 = .ok (.iadd, 1) := by decide +kernel
theorem dX1_put_9 : decode cX1_put 9 = .ok (.iastore, 1) := by decide +kernel
theorem dX1_put_10 : decode cX1_put 10 = .ok (.aload_n 0, 1) := by decide +kernel
theorem dX1_put_11 : decode cX1_put 11 = .ok (.aload_n 0, 1) := by decide +kernel
theorem dX1_put_12 : decode cX1_put 12 = .ok (.getfield 35, 3) := by decide +kernel
theorem dX1_put_15 : decode cX1_put 15 = .ok (.bipush 10, 2) := by decide +kernel
theorem dX1_put_17 : decode cX1_put 17 = .ok (.imul, 1) := by decide +kernel
theorem dX1_put_18 : decode cX1_put 18 = .ok (.iload_n 1, 1) := by decide +kernel
theorem dX1_put_19 : decode cX1_put 19 = .ok (.iadd, 1) := by decide +kernel
theorem dX1_put_20 : decode cX1_put 20 = .ok (.putfield 35, 3) := by decide +kernel
theorem dX1_put_23 : decode cX1_put 23 = .ok (.aload_n 0, 1) := by decide +kernel
theorem dX1_put_24 : decode cX1_put 24 = .ok (.dup, 1) := by decide +kernel
theorem dX1_put_25 : decode cX1_put 25 = .ok (.getfield 32, 3) := by decide +kernel
theorem dX1_put_28 : decode cX1_put 28 = .ok (.iload_n 2, 1) := by decide +kernel
theorem dX1_put_29 : decode cX1_put 29 = .ok (.ifCond .eq 7, 3) := by decide +kernel
theorem dX1_put_32 : decode cX1_put 32 = .ok (.iconst 1, 1) := by decide +kernel
theorem dX1_put_33 : decode cX1_put 33 = .ok (.goto 4, 3) := by decide +kernel
theorem dX1_put_36 : decode cX1_put 36 = .ok (.iconst 0, 1) := by decide +kernel
theorem dX1_put_37 : decode cX1_put 37 = .ok (.iadd, 1) := by decide +kernel
theorem dX1_put_38 : decode cX1_put 38 = .ok (.putfield 32, 3) := by decide +kernel
theorem dX1_put_41 : decode cX1_put 41 = .ok (.return_, 1) := by decide +kernel
theorem dX1_fountNumber_0 : decode cX1_fountNumber 0 = .ok (.aload_n 0, 1) := by decide +kernel
theorem dX1_fountNumber_1 : decode cX1_fountNumber 1 = .ok (.getfield 28, 3) := by decide +kernel
theorem dX1_fountNumber_4 : decode cX1_fountNumber 4 = .ok (.ifnonnull 7, 3) := by decide +kernel
theorem dX1_fountNumber_7 : decode cX1_fountNumber 7 = .ok (.iconst (-1), 1) := by decide +kernel
theorem dX1_fountNumber_8 : decode cX1_fountNumber 8 = .ok (.goto 10, 3) := by decide +kernel
theorem dX1_fountNumber_11 : decode cX1_fountNumber 11 = .ok (.aload_n 0, 1) := by decide +kernel
theorem dX1_fountNumber_12 : decode cX1_fountNumber 12 = .ok (.getfield 28, 3) := by decide +kernel
theorem dX1_fountNumber_15 : decode cX1_fountNumber 15 = .ok (.getfield 38, 3) := by decide +kernel
theorem dX1_fountNumber_18 : decode cX1_fountNumber 18 = .ok (.ireturn, 1) := by decide +kernel
theorem dX1_sizeAsLaid_0 : decode cX1_sizeAsLaid 0 = .ok (.aload_n 0, 1) := by decide +kernel
theorem dX1_sizeAsLaid_1 : decode cX1_sizeAsLaid 1 = .ok (.getfield 28, 3) := by decide +kernel
theorem dX1_sizeAsLaid_4 : decode cX1_sizeAsLaid 4 = .ok (.ifnonnull 7, 3) := by decide +kernel
theorem dX1_sizeAsLaid_7 : decode cX1_sizeAsLaid 7 = .ok (.iconst 0, 1) := by decide +kernel
theorem dX1_sizeAsLaid_8 : decode cX1_sizeAsLaid 8 = .ok (.goto 15, 3) := by decide +kernel
theorem dX1_sizeAsLaid_11 : decode cX1_sizeAsLaid 11 = .ok (.aload_n 0, 1) := by decide +kernel
theorem dX1_sizeAsLaid_12 : decode cX1_sizeAsLaid 12 = .ok (.getfield 28, 3) := by decide +kernel
theorem dX1_sizeAsLaid_15 : decode cX1_sizeAsLaid 15 = .ok (.getfield 43, 3) := by decide +kernel
theorem dX1_sizeAsLaid_18 : decode cX1_sizeAsLaid 18 = .ok (.aload_n 0, 1) := by decide +kernel
theorem dX1_sizeAsLaid_19 : decode cX1_sizeAsLaid 19 = .ok (.getfield 18, 3) := by decide +kernel
theorem dX1_sizeAsLaid_22 : decode cX1_sizeAsLaid 22 = .ok (.imul, 1) := by decide +kernel
theorem dX1_sizeAsLaid_23 : decode cX1_sizeAsLaid 23 = .ok (.ireturn, 1) := by decide +kernel
theorem dX1_takeOut_0 : decode cX1_takeOut 0 = .ok (.aload_n 0, 1) := by decide +kernel
theorem dX1_takeOut_1 : decode cX1_takeOut 1 = .ok (.getfield 28, 3) := by decide +kernel
theorem dX1_takeOut_4 : decode cX1_takeOut 4 = .ok (.ifnonnull 4, 3) := by decide +kernel
theorem dX1_takeOut_7 : decode cX1_takeOut 7 = .ok (.return_, 1) := by decide +kernel
theorem dX1_takeOut_8 : decode cX1_takeOut 8 = .ok (.iconst 0, 1) := by decide +kernel
theorem dX1_takeOut_9 : decode cX1_takeOut 9 = .ok (.istore_n 1, 1) := by decide +kernel
theorem dX1_takeOut_10 : decode cX1_takeOut 10 = .ok (.iload_n 1, 1) := by decide +kernel
theorem dX1_takeOut_11 : decode cX1_takeOut 11 = .ok (.bipush 10, 2) := by decide +kernel
theorem dX1_takeOut_13 : decode cX1_takeOut 13 = .ok (.if_icmp .ge 27, 3) := by decide +kernel
theorem dX1_takeOut_16 : decode cX1_takeOut 16 = .ok (.aload_n 0, 1) := by decide +kernel
theorem dX1_takeOut_17 : decode cX1_takeOut 17 = .ok (.getfield 28, 3) := by decide +kernel
theorem dX1_takeOut_20 : decode cX1_takeOut 20 = .ok (.getfield 46, 3) := by decide +kernel
theorem dX1_takeOut_23 : decode cX1_takeOut 23 = .ok (.iload_n 1, 1) := by decide +kernel
theorem dX1_takeOut_24 : decode cX1_takeOut 24 = .ok (.dup2, 1) := by decide +kernel
theorem dX1_takeOut_25 : decode cX1_takeOut 25 = .ok (.iaload, 1) := by decide +kernel
theorem dX1_takeOut_26 : decode cX1_takeOut 26 = .ok (.aload_n 0, 1) := by decide +kernel
theorem dX1_takeOut_27 : decode cX1_takeOut 27 = .ok (.getfield 15, 3) := by decide +kernel
theorem dX1_takeOut_30 : decode cX1_takeOut 30 = .ok (.iload_n 1, 1) := by decide +kernel
theorem dX1_takeOut_31 : decode cX1_takeOut 31 = .ok (.iaload, 1) := by decide +kernel
theorem dX1_takeOut_32 : decode cX1_takeOut 32 = .ok (.isub, 1) := by decide +kernel
theorem dX1_takeOut_33 : decode cX1_takeOut 33 = .ok (.iastore, 1) := by decide +kernel
theorem dX1_takeOut_34 : decode cX1_takeOut 34 = .ok (.iinc 1 1, 3) := by decide +kernel
theorem dX1_takeOut_37 : decode cX1_takeOut 37 = .ok (.goto (-27), 3) := by decide +kernel
theorem dX1_takeOut_40 : decode cX1_takeOut 40 = .ok (.return_, 1) := by decide +kernel
theorem dX1_putBack_0 : decode cX1_putBack 0 = .ok (.aload_n 0, 1) := by decide +kernel
theorem dX1_putBack_1 : decode cX1_putBack 1 = .ok (.getfield 28, 3) := by decide +kernel
theorem dX1_putBack_4 : decode cX1_putBack 4 = .ok (.ifnonnull 4, 3) := by decide +kernel
theorem dX1_putBack_7 : decode cX1_putBack 7 = .ok (.return_, 1) := by decide +kernel
theorem dX1_putBack_8 : decode cX1_putBack 8 = .ok (.iconst 0, 1) := by decide +kernel
theorem dX1_putBack_9 : decode cX1_putBack 9 = .ok (.istore_n 1, 1) := by decide +kernel
theorem dX1_putBack_10 : decode cX1_putBack 10 = .ok (.iload_n 1, 1) := by decide +kernel
theorem dX1_putBack_11 : decode cX1_putBack 11 = .ok (.bipush 10, 2) := by decide +kernel
theorem dX1_putBack_13 : decode cX1_putBack 13 = .ok (.if_icmp .ge 27, 3) := by decide +kernel
theorem dX1_putBack_16 : decode cX1_putBack 16 = .ok (.aload_n 0, 1) := by decide +kernel
theorem dX1_putBack_17 : decode cX1_putBack 17 = .ok (.getfield 28, 3) := by decide +kernel
theorem dX1_putBack_20 : decode cX1_putBack 20 = .ok (.getfield 46, 3) := by decide +kernel
theorem dX1_putBack_23 : decode cX1_putBack 23 = .ok (.iload_n 1, 1) := by decide +kernel
theorem dX1_putBack_24 : decode cX1_putBack 24 = .ok (.dup2, 1) := by decide +kernel
theorem dX1_putBack_25 : decode cX1_putBack 25 = .ok (.iaload, 1) := by decide +kernel
theorem dX1_putBack_26 : decode cX1_putBack 26 = .ok (.aload_n 0, 1) := by decide +kernel
theorem dX1_putBack_27 : decode cX1_putBack 27 = .ok (.getfield 15, 3) := by decide +kernel
theorem dX1_putBack_30 : decode cX1_putBack 30 = .ok (.iload_n 1, 1) := by decide +kernel
theorem dX1_putBack_31 : decode cX1_putBack 31 = .ok (.iaload, 1) := by decide +kernel
theorem dX1_putBack_32 : decode cX1_putBack 32 = .ok (.iadd, 1) := by decide +kernel
theorem dX1_putBack_33 : decode cX1_putBack 33 = .ok (.iastore, 1) := by decide +kernel
theorem dX1_putBack_34 : decode cX1_putBack 34 = .ok (.iinc 1 1, 3) := by decide +kernel
theorem dX1_putBack_37 : decode cX1_putBack 37 = .ok (.goto (-27), 3) := by decide +kernel
theorem dX1_putBack_40 : decode cX1_putBack 40 = .ok (.return_, 1) := by decide +kernel
theorem dX1_wearBy_0 : decode cX1_wearBy 0 = .ok (.aload_n 0, 1) := by decide +kernel
theorem dX1_wearBy_1 : decode cX1_wearBy 1 = .ok (.getfield 28, 3) := by decide +kernel
theorem dX1_wearBy_4 : decode cX1_wearBy 4 = .ok (.ifnonnull 4, 3) := by decide +kernel
theorem dX1_wearBy_7 : decode cX1_wearBy 7 = .ok (.return_, 1) := by decide +kernel
theorem dX1_wearBy_8 : decode cX1_wearBy 8 = .ok (.iconst 0, 1) := by decide +kernel
theorem dX1_wearBy_9 : decode cX1_wearBy 9 = .ok (.istore_n 2, 1) := by decide +kernel
theorem dX1_wearBy_10 : decode cX1_wearBy 10 = .ok (.iload_n 2, 1) := by decide +kernel
theorem dX1_wearBy_11 : decode cX1_wearBy 11 = .ok (.bipush 10, 2) := by decide +kernel
theorem dX1_wearBy_13 : decode cX1_wearBy 13 = .ok (.if_icmp .ge 29, 3) := by decide +kernel
theorem dX1_wearBy_16 : decode cX1_wearBy 16 = .ok (.aload_n 0, 1) := by decide +kernel
theorem dX1_wearBy_17 : decode cX1_wearBy 17 = .ok (.getfield 28, 3) := by decide +kernel
theorem dX1_wearBy_20 : decode cX1_wearBy 20 = .ok (.getfield 49, 3) := by decide +kernel
theorem dX1_wearBy_23 : decode cX1_wearBy 23 = .ok (.iload_n 2, 1) := by decide +kernel
theorem dX1_wearBy_24 : decode cX1_wearBy 24 = .ok (.dup2, 1) := by decide +kernel
theorem dX1_wearBy_25 : decode cX1_wearBy 25 = .ok (.iaload, 1) := by decide +kernel
theorem dX1_wearBy_26 : decode cX1_wearBy 26 = .ok (.aload_n 0, 1) := by decide +kernel
theorem dX1_wearBy_27 : decode cX1_wearBy 27 = .ok (.getfield 15, 3) := by decide +kernel
theorem dX1_wearBy_30 : decode cX1_wearBy 30 = .ok (.iload_n 2, 1) := by decide +kernel
theorem dX1_wearBy_31 : decode cX1_wearBy 31 = .ok (.iaload, 1) := by decide +kernel
theorem dX1_wearBy_32 : decode cX1_wearBy 32 = .ok (.iload_n 1, 1) := by decide +kernel
theorem dX1_wearBy_33 : decode cX1_wearBy 33 = .ok (.imul, 1) := by decide +kernel
theorem dX1_wearBy_34 : decode cX1_wearBy 34 = .ok (.iadd, 1) := by decide +kernel
theorem dX1_wearBy_35 : decode cX1_wearBy 35 = .ok (.iastore, 1) := by decide +kernel
theorem dX1_wearBy_36 : decode cX1_wearBy 36 = .ok (.iinc 2 1, 3) := by decide +kernel
theorem dX1_wearBy_39 : decode cX1_wearBy 39 = .ok (.goto (-29), 3) := by decide +kernel
theorem dX1_wearBy_42 : decode cX1_wearBy 42 = .ok (.return_, 1) := by decide +kernel
theorem dX2_init_0 : decode cX2_init 0 = .ok (.aload_n 0, 1) := by decide +kernel
theorem dX2_init_1 : decode cX2_init 1 = .ok (.invokespecial 1, 3) := by decide +kernel
theorem dX2_init_4 : decode cX2_init 4 = .ok (.aload_n 0, 1) := by decide +kernel
theorem dX2_init_5 : decode cX2_init 5 = .ok (.new 7, 3) := by decide +kernel
theorem dX2_init_8 : decode cX2_init 8 = .ok (.dup, 1) := by decide +kernel
theorem dX2_init_9 : decode cX2_init 9 = .ok (.invokespecial 9, 3) := by decide +kernel
theorem dX2_init_12 : decode cX2_init 12 = .ok (.putfield 10, 3) := by decide +kernel
theorem dX2_init_15 : decode cX2_init 15 = .ok (.aload_n 0, 1) := by decide +kernel
theorem dX2_init_16 : decode cX2_init 16 = .ok (.iload_n 1, 1) := by decide +kernel
theorem dX2_init_17 : decode cX2_init 17 = .ok (.putfield 16, 3) := by decide +kernel
theorem dX2_init_20 : decode cX2_init 20 = .ok (.aload_n 0, 1) := by decide +kernel
theorem dX2_init_21 : decode cX2_init 21 = .ok (.iload_n 2, 1) := by decide +kernel
theorem dX2_init_22 : decode cX2_init 22 = .ok (.putfield 20, 3) := by decide +kernel
theorem dX2_init_25 : decode cX2_init 25 = .ok (.return_, 1) := by decide +kernel
theorem dX2_isReady_0 : decode cX2_isReady 0 = .ok (.aload_n 0, 1) := by decide +kernel
theorem dX2_isReady_1 : decode cX2_isReady 1 = .ok (.getfield 23, 3) := by decide +kernel
theorem dX2_isReady_4 : decode cX2_isReady 4 = .ok (.ifCond .ne 17, 3) := by decide +kernel
theorem dX2_isReady_7 : decode cX2_isReady 7 = .ok (.aload_n 0, 1) := by decide +kernel
theorem dX2_isReady_8 : decode cX2_isReady 8 = .ok (.getfield 10, 3) := by decide +kernel
theorem dX2_isReady_11 : decode cX2_isReady 11 = .ok (.invokevirtual 27, 3) := by decide +kernel
theorem dX2_isReady_14 : decode cX2_isReady 14 = .ok (.ifCond .ne 7, 3) := by decide +kernel
theorem dX2_isReady_17 : decode cX2_isReady 17 = .ok (.iconst 1, 1) := by decide +kernel
theorem dX2_isReady_18 : decode cX2_isReady 18 = .ok (.goto 4, 3) := by decide +kernel
theorem dX2_isReady_21 : decode cX2_isReady 21 = .ok (.iconst 0, 1) := by decide +kernel
theorem dX2_isReady_22 : decode cX2_isReady 22 = .ok (.ireturn, 1) := by decide +kernel
theorem dX2_letters_0 : decode cX2_letters 0 = .ok (.iconst 0, 1) := by decide +kernel
theorem dX2_letters_1 : decode cX2_letters 1 = .ok (.istore_n 1, 1) := by decide +kernel
theorem dX2_letters_2 : decode cX2_letters 2 = .ok (.iconst 0, 1) := by decide +kernel
theorem dX2_letters_3 : decode cX2_letters 3 = .ok (.istore_n 2, 1) := by decide +kernel
theorem dX2_letters_4 : decode cX2_letters 4 = .ok (.iload_n 2, 1) := by decide +kernel
theorem dX2_letters_5 : decode cX2_letters 5 = .ok (.aload_n 0, 1) := by decide +kernel
theorem dX2_letters_6 : decode cX2_letters 6 = .ok (.getfield 10, 3) := by decide +kernel
theorem dX2_letters_9 : decode cX2_letters 9 = .ok (.invokevirtual 31, 3) := by decide +kernel
theorem dX2_letters_12 : decode cX2_letters 12 = .ok (.if_icmp .ge 26, 3) := by decide +kernel
theorem dX2_letters_15 : decode cX2_letters 15 = .ok (.iload_n 1, 1) := by decide +kernel
theorem dX2_letters_16 : decode cX2_letters 16 = .ok (.aload_n 0, 1) := by decide +kernel
theorem dX2_letters_17 : decode cX2_letters 17 = .ok (.getfield 10, 3) := by decide +kernel
theorem dX2_letters_20 : decode cX2_letters 20 = .ok (.iload_n 2, 1) := by decide +kernel
theorem dX2_letters_21 : decode cX2_letters 21 = .ok (.invokevirtual 35, 3) := by decide +kernel
theorem dX2_letters_24 : decode cX2_letters 24 = .ok (.checkcast 39, 3) := by decide +kernel
theorem dX2_letters_27 : decode cX2_letters 27 = .ok (.getfield 41, 3) := by decide +kernel
theorem dX2_letters_30 : decode cX2_letters 30 = .ok (.iadd, 1) := by decide +kernel
theorem dX2_letters_31 : decode cX2_letters 31 = .ok (.istore_n 1, 1) := by decide +kernel
theorem dX2_letters_32 : decode cX2_letters 32 = .ok (.iinc 2 1, 3) := by decide +kernel
theorem dX2_letters_35 : decode cX2_letters 35 = .ok (.goto (-31), 3) := by decide +kernel
theorem dX2_letters_38 : decode cX2_letters 38 = .ok (.iload_n 1, 1) := by decide +kernel
theorem dX2_letters_39 : decode cX2_letters 39 = .ok (.ireturn, 1) := by decide +kernel
theorem dX2_flawsAsLaid_0 : decode cX2_flawsAsLaid 0 = .ok (.iconst 0, 1) := by decide +kernel
theorem dX2_flawsAsLaid_1 : decode cX2_flawsAsLaid 1 = .ok (.istore_n 1, 1) := by decide +kernel
theorem dX2_flawsAsLaid_2 : decode cX2_flawsAsLaid 2 = .ok (.iconst 0, 1) := by decide +kernel
theorem dX2_flawsAsLaid_3 : decode cX2_flawsAsLaid 3 = .ok (.istore_n 2, 1) := by decide +kernel
theorem dX2_flawsAsLaid_4 : decode cX2_flawsAsLaid 4 = .ok (.iload_n 2, 1) := by decide +kernel
theorem dX2_flawsAsLaid_5 : decode cX2_flawsAsLaid 5 = .ok (.aload_n 0, 1) := by decide +kernel
theorem dX2_flawsAsLaid_6 : decode cX2_flawsAsLaid 6 = .ok (.getfield 10, 3) := by decide +kernel
theorem dX2_flawsAsLaid_9 : decode cX2_flawsAsLaid 9 = .ok (.invokevirtual 31, 3) := by decide +kernel
theorem dX2_flawsAsLaid_12 : decode cX2_flawsAsLaid 12 = .ok (.if_icmp .ge 26, 3) := by decide +kernel
theorem dX2_flawsAsLaid_15 : decode cX2_flawsAsLaid 15 = .ok (.iload_n 1, 1) := by decide +kernel
theorem dX2_flawsAsLaid_16 : decode cX2_flawsAsLaid 16 = .ok (.aload_n 0, 1) := by decide +kernel
theorem dX2_flawsAsLaid_17 : decode cX2_flawsAsLaid 17 = .ok (.getfield 10, 3) := by decide +kernel
theorem dX2_flawsAsLaid_20 : decode cX2_flawsAsLaid 20 = .ok (.iload_n 2, 1) := by decide +kernel
theorem dX2_flawsAsLaid_21 : decode cX2_flawsAsLaid 21 = .ok (.invokevirtual 35, 3) := by decide +kernel
theorem dX2_flawsAsLaid_24 : decode cX2_flawsAsLaid 24 = .ok (.checkcast 39, 3) := by decide +kernel
theorem dX2_flawsAsLaid_27 : decode cX2_flawsAsLaid 27 = .ok (.getfield 43, 3) := by decide +kernel
theorem dX2_flawsAsLaid_30 : decode cX2_flawsAsLaid 30 = .ok (.iadd, 1) := by decide +kernel
theorem dX2_flawsAsLaid_31 : decode cX2_flawsAsLaid 31 = .ok (.istore_n 1, 1) := by decide +kernel
theorem dX2_flawsAsLaid_32 : decode cX2_flawsAsLaid 32 = .ok (.iinc 2 1, 3) := by decide +kernel
theorem dX2_flawsAsLaid_35 : decode cX2_flawsAsLaid 35 = .ok (.goto (-31), 3) := by decide +kernel
theorem dX2_flawsAsLaid_38 : decode cX2_flawsAsLaid 38 = .ok (.iload_n 1, 1) := by decide +kernel
theorem dX2_flawsAsLaid_39 : decode cX2_flawsAsLaid 39 = .ok (.ireturn, 1) := by decide +kernel
theorem dX2_sizeAsLaid_0 : decode cX2_sizeAsLaid 0 = .ok (.iconst 0, 1) := by decide +kernel
theorem dX2_sizeAsLaid_1 : decode cX2_sizeAsLaid 1 = .ok (.istore_n 1, 1) := by decide +kernel
theorem dX2_sizeAsLaid_2 : decode cX2_sizeAsLaid 2 = .ok (.iconst 0, 1) := by decide +kernel
theorem dX2_sizeAsLaid_3 : decode cX2_sizeAsLaid 3 = .ok (.istore_n 2, 1) := by decide +kernel
theorem dX2_sizeAsLaid_4 : decode cX2_sizeAsLaid 4 = .ok (.iload_n 2, 1) := by decide +kernel
theorem dX2_sizeAsLaid_5 : decode cX2_sizeAsLaid 5 = .ok (.aload_n 0, 1) := by decide +kernel
theorem dX2_sizeAsLaid_6 : decode cX2_sizeAsLaid 6 = .ok (.getfield 10, 3) := by decide +kernel
theorem dX2_sizeAsLaid_9 : decode cX2_sizeAsLaid 9 = .ok (.invokevirtual 31, 3) := by decide +kernel
theorem dX2_sizeAsLaid_12 : decode cX2_sizeAsLaid 12 = .ok (.if_icmp .ge 26, 3) := by decide +kernel
theorem dX2_sizeAsLaid_15 : decode cX2_sizeAsLaid 15 = .ok (.iload_n 1, 1) := by decide +kernel
theorem dX2_sizeAsLaid_16 : decode cX2_sizeAsLaid 16 = .ok (.aload_n 0, 1) := by decide +kernel
theorem dX2_sizeAsLaid_17 : decode cX2_sizeAsLaid 17 = .ok (.getfield 10, 3) := by decide +kernel
theorem dX2_sizeAsLaid_20 : decode cX2_sizeAsLaid 20 = .ok (.iload_n 2, 1) := by decide +kernel
theorem dX2_sizeAsLaid_21 : decode cX2_sizeAsLaid 21 = .ok (.invokevirtual 35, 3) := by decide +kernel
theorem dX2_sizeAsLaid_24 : decode cX2_sizeAsLaid 24 = .ok (.checkcast 39, 3) := by decide +kernel
theorem dX2_sizeAsLaid_27 : decode cX2_sizeAsLaid 27 = .ok (.invokevirtual 46, 3) := by decide +kernel
theorem dX2_sizeAsLaid_30 : decode cX2_sizeAsLaid 30 = .ok (.iadd, 1) := by decide +kernel
theorem dX2_sizeAsLaid_31 : decode cX2_sizeAsLaid 31 = .ok (.istore_n 1, 1) := by decide +kernel
theorem dX2_sizeAsLaid_32 : decode cX2_sizeAsLaid 32 = .ok (.iinc 2 1, 3) := by decide +kernel
theorem dX2_sizeAsLaid_35 : decode cX2_sizeAsLaid 35 = .ok (.goto (-31), 3) := by decide +kernel
theorem dX2_sizeAsLaid_38 : decode cX2_sizeAsLaid 38 = .ok (.iload_n 1, 1) := by decide +kernel
theorem dX2_sizeAsLaid_39 : decode cX2_sizeAsLaid 39 = .ok (.ireturn, 1) := by decide +kernel
theorem dX2_blocksLaid_0 : decode cX2_blocksLaid 0 = .ok (.iconst 0, 1) := by decide +kernel
theorem dX2_blocksLaid_1 : decode cX2_blocksLaid 1 = .ok (.istore_n 3, 1) := by decide +kernel
theorem dX2_blocksLaid_2 : decode cX2_blocksLaid 2 = .ok (.iconst 0, 1) := by decide +kernel
theorem dX2_blocksLaid_3 : decode cX2_blocksLaid 3 = .ok (.istore 4, 2) := by decide +kernel
theorem dX2_blocksLaid_5 : decode cX2_blocksLaid 5 = .ok (.iload 4, 2) := by decide +kernel
theorem dX2_blocksLaid_7 : decode cX2_blocksLaid 7 = .ok (.aload_n 0, 1) := by decide +kernel
theorem dX2_blocksLaid_8 : decode cX2_blocksLaid 8 = .ok (.getfield 10, 3) := by decide +kernel
theorem dX2_blocksLaid_11 : decode cX2_blocksLaid 11 = .ok (.invokevirtual 31, 3) := by decide +kernel
theorem dX2_blocksLaid_14 : decode cX2_blocksLaid 14 = .ok (.if_icmp .ge 42, 3) := by decide +kernel
theorem dX2_blocksLaid_17 : decode cX2_blocksLaid 17 = .ok (.aload_n 0, 1) := by decide +kernel
theorem dX2_blocksLaid_18 : decode cX2_blocksLaid 18 = .ok (.getfield 10, 3) := by decide +kernel
theorem dX2_blocksLaid_21 : decode cX2_blocksLaid 21 = .ok (.iload 4, 2) := by decide +kernel
theorem dX2_blocksLaid_23 : decode cX2_blocksLaid 23 = .ok (.invokevirtual 35, 3) := by decide +kernel
theorem dX2_blocksLaid_26 : decode cX2_blocksLaid 26 = .ok (.checkcast 39, 3) := by decide +kernel
theorem dX2_blocksLaid_29 : decode cX2_blocksLaid 29 = .ok (.astore 5, 2) := by decide +kernel
theorem dX2_blocksLaid_31 : decode cX2_blocksLaid 31 = .ok (.aload 5, 2) := by decide +kernel
theorem dX2_blocksLaid_33 : decode cX2_blocksLaid 33 = .ok (.getfield 49, 3) := by decide +kernel
theorem dX2_blocksLaid_36 : decode cX2_blocksLaid 36 = .ok (.aload_n 1, 1) := by decide +kernel
theorem dX2_blocksLaid_37 : decode cX2_blocksLaid 37 = .ok (.if_acmp .ne 13, 3) := by decide +kernel
theorem dX2_blocksLaid_40 : decode cX2_blocksLaid 40 = .ok (.iload_n 3, 1) := by decide +kernel
theorem dX2_blocksLaid_41 : decode cX2_blocksLaid 41 = .ok (.aload 5, 2) := by decide +kernel
theorem dX2_blocksLaid_43 : decode cX2_blocksLaid 43 = .ok (.getfield 53, 3) := by decide +kernel
theorem dX2_blocksLaid_46 : decode cX2_blocksLaid 46 = .ok (.iload_n 2, 1) := by decide +kernel
theorem dX2_blocksLaid_47 : decode cX2_blocksLaid 47 = .ok (.iaload, 1) := by decide +kernel
theorem dX2_blocksLaid_48 : decode cX2_blocksLaid 48 = .ok (.iadd, 1) := by decide +kernel
theorem dX2_blocksLaid_49 : decode cX2_blocksLaid 49 = .ok (.istore_n 3, 1) := by decide +kernel
theorem dX2_blocksLaid_50 : decode cX2_blocksLaid 50 = .ok (.iinc 4 1, 3) := by decide +kernel
theorem dX2_blocksLaid_53 : decode cX2_blocksLaid 53 = .ok (.goto (-48), 3) := by decide +kernel
theorem dX2_blocksLaid_56 : decode cX2_blocksLaid 56 = .ok (.iload_n 3, 1) := by decide +kernel
theorem dX2_blocksLaid_57 : decode cX2_blocksLaid 57 = .ok (.ireturn, 1) := by decide +kernel
theorem dX3_init_0 : decode cX3_init 0 = .ok (.aload_n 0, 1) := by decide +kernel
theorem dX3_init_1 : decode cX3_init 1 = .ok (.invokespecial 1, 3) := by decide +kernel
theorem dX3_init_4 : decode cX3_init 4 = .ok (.aload_n 0, 1) := by decide +kernel
theorem dX3_init_5 : decode cX3_init 5 = .ok (.new 7, 3) := by decide +kernel
theorem dX3_init_8 : decode cX3_init 8 = .ok (.dup, 1) := by decide +kernel
theorem dX3_init_9 : decode cX3_init 9 = .ok (.invokespecial 9, 3) := by decide +kernel
theorem dX3_init_12 : decode cX3_init 12 = .ok (.putfield 10, 3) := by decide +kernel
theorem dX3_init_15 : decode cX3_init 15 = .ok (.aload_n 0, 1) := by decide +kernel
theorem dX3_init_16 : decode cX3_init 16 = .ok (.new 7, 3) := by decide +kernel
theorem dX3_init_19 : decode cX3_init 19 = .ok (.dup, 1) := by decide +kernel
theorem dX3_init_20 : decode cX3_init 20 = .ok (.invokespecial 9, 3) := by decide +kernel
theorem dX3_init_23 : decode cX3_init 23 = .ok (.putfield 16, 3) := by decide +kernel
theorem dX3_init_26 : decode cX3_init 26 = .ok (.aload_n 0, 1) := by decide +kernel
theorem dX3_init_27 : decode cX3_init 27 = .ok (.bipush 10, 2) := by decide +kernel
theorem dX3_init_29 : decode cX3_init 29 = .ok (.newarray .int, 2) := by decide +kernel
theorem dX3_init_31 : decode cX3_init 31 = .ok (.putfield 19, 3) := by decide +kernel
theorem dX3_init_34 : decode cX3_init 34 = .ok (.aload_n 0, 1) := by decide +kernel
theorem dX3_init_35 : decode cX3_init 35 = .ok (.iconst 4, 1) := by decide +kernel
theorem dX3_init_36 : decode cX3_init 36 = .ok (.newarray .int, 2) := by decide +kernel
theorem dX3_init_38 : decode cX3_init 38 = .ok (.putfield 23, 3) := by decide +kernel
theorem dX3_init_41 : decode cX3_init 41 = .ok (.aload_n 0, 1) := by decide +kernel
theorem dX3_init_42 : decode cX3_init 42 = .ok (.iconst 4, 1) := by decide +kernel
theorem dX3_init_43 : decode cX3_init 43 = .ok (.newarray .int, 2) := by decide +kernel
theorem dX3_init_45 : decode cX3_init 45 = .ok (.putfield 26, 3) := by decide +kernel
theorem dX3_init_48 : decode cX3_init 48 = .ok (.aload_n 0, 1) := by decide +kernel
theorem dX3_init_49 : decode cX3_init 49 = .ok (.getfield 19, 3) := by decide +kernel
theorem dX3_init_52 : decode cX3_init 52 = .ok (.iconst (-1), 1) := by decide +kernel
theorem dX3_init_53 : decode cX3_init 53 = .ok (.invokestatic 29, 3) := by decide +kernel
theorem dX3_init_56 : decode cX3_init 56 = .ok (.aload_n 0, 1) := by decide +kernel
theorem dX3_init_57 : decode cX3_init 57 = .ok (.getfield 23, 3) := by decide +kernel
theorem dX3_init_60 : decode cX3_init 60 = .ok (.iconst 3, 1) := by decide +kernel
theorem dX3_init_61 : decode cX3_init 61 = .ok (.invokestatic 29, 3) := by decide +kernel
theorem dX3_init_64 : decode cX3_init 64 = .ok (.aload_n 0, 1) := by decide +kernel
theorem dX3_init_65 : decode cX3_init 65 = .ok (.getfield 26, 3) := by decide +kernel
theorem dX3_init_68 : decode cX3_init 68 = .ok (.iconst 5, 1) := by decide +kernel
theorem dX3_init_69 : decode cX3_init 69 = .ok (.invokestatic 29, 3) := by decide +kernel
theorem dX3_init_72 : decode cX3_init 72 = .ok (.return_, 1) := by decide +kernel
theorem dX3_fount_0 : decode cX3_fount 0 = .ok (.iload_n 1, 1) := by decide +kernel
theorem dX3_fount_1 : decode cX3_fount 1 = .ok (.iconst 1, 1) := by decide +kernel
theorem dX3_fount_2 : decode cX3_fount 2 = .ok (.if_icmp .lt 9, 3) := by decide +kernel
theorem dX3_fount_5 : decode cX3_fount 5 = .ok (.iload_n 1, 1) := by decide +kernel
theorem dX3_fount_6 : decode cX3_fount 6 = .ok (.bipush 20, 2) := by decide +kernel
theorem dX3_fount_8 : decode cX3_fount 8 = .ok (.if_icmp .le 13, 3) := by decide +kernel
theorem dX3_fount_11 : decode cX3_fount 11 = .ok (.new 35, 3) := by decide +kernel
theorem dX3_fount_14 : decode cX3_fount 14 = .ok (.dup, 1) := by decide +kernel
theorem dX3_fount_15 : decode cX3_fount 15 = .ok (.ldc 37, 2) := by decide +kernel
theorem dX3_fount_17 : decode cX3_fount 17 = .ok (.invokespecial 39, 3) := by decide +kernel
theorem dX3_fount_20 : decode cX3_fount 20 = .ok (.athrow, 1) := by decide +kernel
theorem dX3_fount_21 : decode cX3_fount 21 = .ok (.aload_n 0, 1) := by decide +kernel
theorem dX3_fount_22 : decode cX3_fount 22 = .ok (.getfield 10, 3) := by decide +kernel
theorem dX3_fount_25 : decode cX3_fount 25 = .ok (.invokevirtual 42, 3) := by decide +kernel
theorem dX3_fount_28 : decode cX3_fount 28 = .ok (.iconst 5, 1) := by decide +kernel
theorem dX3_fount_29 : decode cX3_fount 29 = .ok (.if_icmp .lt 13, 3) := by decide +kernel
theorem dX3_fount_32 : decode cX3_fount 32 = .ok (.new 46, 3) := by decide +kernel
theorem dX3_fount_35 : decode cX3_fount 35 = .ok (.dup, 1) := by decide +kernel
theorem dX3_fount_36 : decode cX3_fount 36 = .ok (.ldc 48, 2) := by decide +kernel
theorem dX3_fount_38 : decode cX3_fount 38 = .ok (.invokespecial 50, 3) := by decide +kernel
theorem dX3_fount_41 : decode cX3_fount 41 = .ok (.athrow, 1) := by decide +kernel
theorem dX3_fount_42 : decode cX3_fount 42 = .ok (.aload_n 0, 1) := by decide +kernel
theorem dX3_fount_43 : decode cX3_fount 43 = .ok (.getfield 10, 3) := by decide +kernel
theorem dX3_fount_46 : decode cX3_fount 46 = .ok (.invokevirtual 42, 3) := by decide +kernel
theorem dX3_fount_49 : decode cX3_fount 49 = .ok (.istore_n 2, 1) := by decide +kernel
theorem dX3_fount_50 : decode cX3_fount 50 = .ok (.aload_n 0, 1) := by decide +kernel
theorem dX3_fount_51 : decode cX3_fount 51 = .ok (.getfield 10, 3) := by decide +kernel
theorem dX3_fount_54 : decode cX3_fount 54 = .ok (.new 51, 3) := by decide +kernel
theorem dX3_fount_57 : decode cX3_fount 57 = .ok (.dup, 1) := by decide +kernel
theorem dX3_fount_58 : decode cX3_fount 58 = .ok (.iload_n 2, 1) := by decide +kernel
theorem dX3_fount_59 : decode cX3_fount 59 = .ok (.iload_n 1, 1) := by decide +kernel
theorem dX3_fount_60 : decode cX3_fount 60 = .ok (.invokespecial 53, 3) := by decide +kernel
theorem dX3_fount_63 : decode cX3_fount 63 = .ok (.invokevirtual 56, 3) := by decide +kernel
theorem dX3_fount_66 : decode cX3_fount 66 = .ok (.pop, 1) := by decide +kernel
theorem dX3_fount_67 : decode cX3_fount 67 = .ok (.iload_n 2, 1) := by decide +kernel
theorem dX3_fount_68 : decode cX3_fount 68 = .ok (.ireturn, 1) := by decide +kernel
theorem dX3_buy_0 : decode cX3_buy 0 = .ok (.aload_n 0, 1) := by decide +kernel
theorem dX3_buy_1 : decode cX3_buy 1 = .ok (.iload_n 1, 1) := by decide +kernel
theorem dX3_buy_2 : decode cX3_buy 2 = .ok (.invokevirtual 60, 3) := by decide +kernel
theorem dX3_buy_5 : decode cX3_buy 5 = .ok (.ifCond .eq 10, 3) := by decide +kernel
theorem dX3_buy_8 : decode cX3_buy 8 = .ok (.iload_n 2, 1) := by decide +kernel
theorem dX3_buy_9 : decode cX3_buy 9 = .ok (.invokestatic 64, 3) := by decide +kernel
theorem dX3_buy_12 : decode cX3_buy 12 = .ok (.ifCond .ne 13, 3) := by decide +kernel
theorem dX3_buy_15 : decode cX3_buy 15 = .ok (.new 67, 3) := by decide +kernel
theorem dX3_buy_18 : decode cX3_buy 18 = .ok (.dup, 1) := by decide +kernel
theorem dX3_buy_19 : decode cX3_buy 19 = .ok (.ldc 69, 2) := by decide +kernel
theorem dX3_buy_21 : decode cX3_buy 21 = .ok (.invokespecial 71, 3) := by decide +kernel
theorem dX3_buy_24 : decode cX3_buy 24 = .ok (.athrow, 1) := by decide +kernel
theorem dX3_buy_25 : decode cX3_buy 25 = .ok (.iload_n 3, 1) := by decide +kernel
theorem dX3_buy_26 : decode cX3_buy 26 = .ok (.iconst 1, 1) := by decide +kernel
theorem dX3_buy_27 : decode cX3_buy 27 = .ok (.if_icmp .lt 9, 3) := by decide +kernel
theorem dX3_buy_30 : decode cX3_buy 30 = .ok (.iload_n 3, 1) := by decide +kernel
theorem dX3_buy_31 : decode cX3_buy 31 = .ok (.bipush 9, 2) := by decide +kernel
theorem dX3_buy_33 : decode cX3_buy 33 = .ok (.if_icmp .le 13, 3) := by decide +kernel
theorem dX3_buy_36 : decode cX3_buy 36 = .ok (.new 35, 3) := by decide +kernel
theorem dX3_buy_39 : decode cX3_buy 39 = .ok (.dup, 1) := by decide +kernel
theorem dX3_buy_40 : decode cX3_buy 40 = .ok (.ldc 72, 2) := by decide +kernel
theorem dX3_buy_42 : decode cX3_buy 42 = .ok (.invokespecial 39, 3) := by decide +kernel
theorem dX3_buy_45 : decode cX3_buy 45 = .ok (.athrow, 1) := by decide +kernel
theorem dX3_buy_46 : decode cX3_buy 46 = .ok (.aload_n 0, 1) := by decide +kernel
theorem dX3_buy_47 : decode cX3_buy 47 = .ok (.getfield 10, 3) := by decide +kernel
theorem dX3_buy_50 : decode cX3_buy 50 = .ok (.iload_n 1, 1) := by decide +kernel
theorem dX3_buy_51 : decode cX3_buy 51 = .ok (.invokevirtual 74, 3) := by decide +kernel
theorem dX3_buy_54 : decode cX3_buy 54 = .ok (.checkcast 51, 3) := by decide +kernel
theorem dX3_buy_57 : decode cX3_buy 57 = .ok (.astore 4, 2) := by decide +kernel
theorem dX3_buy_59 : decode cX3_buy 59 = .ok (.aload 4, 2) := by decide +kernel
theorem dX3_buy_61 : decode cX3_buy 61 = .ok (.getfield 78, 3) := by decide +kernel
theorem dX3_buy_64 : decode cX3_buy 64 = .ok (.iload_n 2, 1) := by decide +kernel
theorem dX3_buy_65 : decode cX3_buy 65 = .ok (.iaload, 1) := by decide +kernel
theorem dX3_buy_66 : decode cX3_buy 66 = .ok (.iload_n 3, 1) := by decide +kernel
theorem dX3_buy_67 : decode cX3_buy 67 = .ok (.iadd, 1) := by decide +kernel
theorem dX3_buy_68 : decode cX3_buy 68 = .ok (.bipush 9, 2) := by decide +kernel
theorem dX3_buy_70 : decode cX3_buy 70 = .ok (.if_icmp .le 13, 3) := by decide +kernel
theorem dX3_buy_73 : decode cX3_buy 73 = .ok (.new 46, 3) := by decide +kernel
theorem dX3_buy_76 : decode cX3_buy 76 = .ok (.dup, 1) := by decide +kernel
theorem dX3_buy_77 : decode cX3_buy 77 = .ok (.ldc 81, 2) := by decide +kernel
theorem dX3_buy_79 : decode cX3_buy 79 = .ok (.invokespecial 50, 3) := by decide +kernel
theorem dX3_buy_82 : decode cX3_buy 82 = .ok (.athrow, 1) := by decide +kernel
theorem dX3_buy_83 : decode cX3_buy 83 = .ok (.aload 4, 2) := by decide +kernel
theorem dX3_buy_85 : decode cX3_buy 85 = .ok (.iload_n 2, 1) := by decide +kernel
theorem dX3_buy_86 : decode cX3_buy 86 = .ok (.iload_n 3, 1) := by decide +kernel
theorem dX3_buy_87 : decode cX3_buy 87 = .ok (.invokevirtual 83, 3) := by decide +kernel
theorem dX3_buy_90 : decode cX3_buy 90 = .ok (.aload 4, 2) := by decide +kernel
theorem dX3_buy_92 : decode cX3_buy 92 = .ok (.getfield 78, 3) := by decide +kernel
theorem dX3_buy_95 : decode cX3_buy 95 = .ok (.iload_n 2, 1) := by decide +kernel
theorem dX3_buy_96 : decode cX3_buy 96 = .ok (.iaload, 1) := by decide +kernel
theorem dX3_buy_97 : decode cX3_buy 97 = .ok (.ireturn, 1) := by decide +kernel
theorem dX3_buyAll_0 : decode cX3_buyAll 0 = .ok (.aload_n 0, 1) := by decide +kernel
theorem dX3_buyAll_1 : decode cX3_buyAll 1 = .ok (.iload_n 1, 1) := by decide +kernel
theorem dX3_buyAll_2 : decode cX3_buyAll 2 = .ok (.invokevirtual 60, 3) := by decide +kernel
theorem dX3_buyAll_5 : decode cX3_buyAll 5 = .ok (.ifCond .ne 13, 3) := by decide +kernel
theorem dX3_buyAll_8 : decode cX3_buyAll 8 = .ok (.new 67, 3) := by decide +kernel
theorem dX3_buyAll_11 : decode cX3_buyAll 11 = .ok (.dup, 1) := by decide +kernel
theorem dX3_buyAll_12 : decode cX3_buyAll 12 = .ok (.ldc 86, 2) := by decide +kernel
theorem dX3_buyAll_14 : decode cX3_buyAll 14 = .ok (.invokespecial 71, 3) := by decide +kernel
theorem dX3_buyAll_17 : decode cX3_buyAll 17 = .ok (.athrow, 1) := by decide +kernel
theorem dX3_buyAll_18 : decode cX3_buyAll 18 = .ok (.iload_n 2, 1) := by decide +kernel
theorem dX3_buyAll_19 : decode cX3_buyAll 19 = .ok (.iconst 1, 1) := by decide +kernel
theorem dX3_buyAll_20 : decode cX3_buyAll 20 = .ok (.if_icmp .lt 9, 3) := by decide +kernel
theorem dX3_buyAll_23 : decode cX3_buyAll 23 = .ok (.iload_n 2, 1) := by decide +kernel
theorem dX3_buyAll_24 : decode cX3_buyAll 24 = .ok (.bipush 9, 2) := by decide +kernel
theorem dX3_buyAll_26 : decode cX3_buyAll 26 = .ok (.if_icmp .le 13, 3) := by decide +kernel
theorem dX3_buyAll_29 : decode cX3_buyAll 29 = .ok (.new 35, 3) := by decide +kernel
theorem dX3_buyAll_32 : decode cX3_buyAll 32 = .ok (.dup, 1) := by decide +kernel
theorem dX3_buyAll_33 : decode cX3_buyAll 33 = .ok (.ldc 72, 2) := by decide +kernel
theorem dX3_buyAll_35 : decode cX3_buyAll 35 = .ok (.invokespecial 39, 3) := by decide +kernel
theorem dX3_buyAll_38 : decode cX3_buyAll 38 = .ok (.athrow, 1) := by decide +kernel
theorem dX3_buyAll_39 : decode cX3_buyAll 39 = .ok (.aload_n 0, 1) := by decide +kernel
theorem dX3_buyAll_40 : decode cX3_buyAll 40 = .ok (.getfield 10, 3) := by decide +kernel
theorem dX3_buyAll_43 : decode cX3_buyAll 43 = .ok (.iload_n 1, 1) := by decide +kernel
theorem dX3_buyAll_44 : decode cX3_buyAll 44 = .ok (.invokevirtual 74, 3) := by decide +kernel
theorem dX3_buyAll_47 : decode cX3_buyAll 47 = .ok (.checkcast 51, 3) := by decide +kernel
theorem dX3_buyAll_50 : decode cX3_buyAll 50 = .ok (.astore_n 3, 1) := by decide +kernel
theorem dX3_buyAll_51 : decode cX3_buyAll 51 = .ok (.iconst 0, 1) := by decide +kernel
theorem dX3_buyAll_52 : decode cX3_buyAll 52 = .ok (.istore 4, 2) := by decide +kernel
theorem dX3_buyAll_54 : decode cX3_buyAll 54 = .ok (.iconst 0, 1) := by decide +kernel
theorem dX3_buyAll_55 : decode cX3_buyAll 55 = .ok (.istore 5, 2) := by decide +kernel
theorem dX3_buyAll_57 : decode cX3_buyAll 57 = .ok (.iload 5, 2) := by decide +kernel
theorem dX3_buyAll_59 : decode cX3_buyAll 59 = .ok (.bipush 10, 2) := by decide +kernel
theorem dX3_buyAll_61 : decode cX3_buyAll 61 = .ok (.if_icmp .ge 40, 3) := by decide +kernel
theorem dX3_buyAll_64 : decode cX3_buyAll 64 = .ok (.iload_n 2, 1) := by decide +kernel
theorem dX3_buyAll_65 : decode cX3_buyAll 65 = .ok (.bipush 9, 2) := by decide +kernel
theorem dX3_buyAll_67 : decode cX3_buyAll 67 = .ok (.aload_n 3, 1) := by decide +kernel
theorem dX3_buyAll_68 : decode cX3_buyAll 68 = .ok (.getfield 78, 3) := by decide +kernel
theorem dX3_buyAll_71 : decode cX3_buyAll 71 = .ok (.iload 5, 2) := by decide +kernel
theorem dX3_buyAll_73 : decode cX3_buyAll 73 = .ok (.iaload, 1) := by decide +kernel
theorem dX3_buyAll_74 : decode cX3_buyAll 74 = .ok (.isub, 1) := by decide +kernel
theorem dX3_buyAll_75 : decode cX3_buyAll 75 = .ok (.invokestatic 88, 3) := by decide +kernel
theorem dX3_buyAll_78 : decode cX3_buyAll 78 = .ok (.istore 6, 2) := by decide +kernel
theorem dX3_buyAll_80 : decode cX3_buyAll 80 = .ok (.aload_n 3, 1) := by decide +kernel
theorem dX3_buyAll_81 : decode cX3_buyAll 81 = .ok (.iload 5, 2) := by decide +kernel
theorem dX3_buyAll_83 : decode cX3_buyAll 83 = .ok (.iload 6, 2) := by decide +kernel
theorem dX3_buyAll_85 : decode cX3_buyAll 85 = .ok (.invokevirtual 83, 3) := by decide +kernel
theorem dX3_buyAll_88 : decode cX3_buyAll 88 = .ok (.iload 4, 2) := by decide +kernel
theorem dX3_buyAll_90 : decode cX3_buyAll 90 = .ok (.iload 6, 2) := by decide +kernel
theorem dX3_buyAll_92 : decode cX3_buyAll 92 = .ok (.iadd, 1) := by decide +kernel
theorem dX3_buyAll_93 : decode cX3_buyAll 93 = .ok (.istore 4, 2) := by decide +kernel
theorem dX3_buyAll_95 : decode cX3_buyAll 95 = .ok (.iinc 5 1, 3) := by decide +kernel
theorem dX3_buyAll_98 : decode cX3_buyAll 98 = .ok (.goto (-41), 3) := by decide +kernel
theorem dX3_buyAll_101 : decode cX3_buyAll 101 = .ok (.iload 4, 2) := by decide +kernel
theorem dX3_buyAll_103 : decode cX3_buyAll 103 = .ok (.ireturn, 1) := by decide +kernel
theorem dX3_setOther_0 : decode cX3_setOther 0 = .ok (.iload_n 1, 1) := by decide +kernel
theorem dX3_setOther_1 : decode cX3_setOther 1 = .ok (.invokestatic 64, 3) := by decide +kernel
theorem dX3_setOther_4 : decode cX3_setOther 4 = .ok (.ifCond .eq 15, 3) := by decide +kernel
theorem dX3_setOther_7 : decode cX3_setOther 7 = .ok (.iload_n 2, 1) := by decide +kernel
theorem dX3_setOther_8 : decode cX3_setOther 8 = .ok (.iconst (-1), 1) := by decide +kernel
theorem dX3_setOther_9 : decode cX3_setOther 9 = .ok (.if_icmp .eq 20, 3) := by decide +kernel
theorem dX3_setOther_12 : decode cX3_setOther 12 = .ok (.iload_n 2, 1) := by decide +kernel
theorem dX3_setOther_13 : decode cX3_setOther 13 = .ok (.invokestatic 64, 3) := by decide +kernel
theorem dX3_setOther_16 : decode cX3_setOther 16 = .ok (.ifCond .ne 13, 3) := by decide +kernel
theorem dX3_setOther_19 : decode cX3_setOther 19 = .ok (.new 67, 3) := by decide +kernel
theorem dX3_setOther_22 : decode cX3_setOther 22 = .ok (.dup, 1) := by decide +kernel
theorem dX3_setOther_23 : decode cX3_setOther 23 = .ok (.ldc 94, 2) := by decide +kernel
theorem dX3_setOther_25 : decode cX3_setOther 25 = .ok (.invokespecial 71, 3) := by decide +kernel
theorem dX3_setOther_28 : decode cX3_setOther 28 = .ok (.athrow, 1) := by decide +kernel
theorem dX3_setOther_29 : decode cX3_setOther 29 = .ok (.iload_n 1, 1) := by decide +kernel
theorem dX3_setOther_30 : decode cX3_setOther 30 = .ok (.iload_n 2, 1) := by decide +kernel
theorem dX3_setOther_31 : decode cX3_setOther 31 = .ok (.if_icmp .ne 13, 3) := by decide +kernel
theorem dX3_setOther_34 : decode cX3_setOther 34 = .ok (.new 35, 3) := by decide +kernel
theorem dX3_setOther_37 : decode cX3_setOther 37 = .ok (.dup, 1) := by decide +kernel
theorem dX3_setOther_38 : decode cX3_setOther 38 = .ok (.ldc 96, 2) := by decide +kernel
theorem dX3_setOther_40 : decode cX3_setOther 40 = .ok (.invokespecial 39, 3) := by decide +kernel
theorem dX3_setOther_43 : decode cX3_setOther 43 = .ok (.athrow, 1) := by decide +kernel
theorem dX3_setOther_44 : decode cX3_setOther 44 = .ok (.aload_n 0, 1) := by decide +kernel
theorem dX3_setOther_45 : decode cX3_setOther 45 = .ok (.getfield 19, 3) := by decide +kernel
theorem dX3_setOther_48 : decode cX3_setOther 48 = .ok (.iload_n 1, 1) := by decide +kernel
theorem dX3_setOther_49 : decode cX3_setOther 49 = .ok (.iaload, 1) := by decide +kernel
theorem dX3_setOther_50 : decode cX3_setOther 50 = .ok (.istore_n 3, 1) := by decide +kernel
theorem dX3_setOther_51 : decode cX3_setOther 51 = .ok (.aload_n 0, 1) := by decide +kernel
theorem dX3_setOther_52 : decode cX3_setOther 52 = .ok (.getfield 19, 3) := by decide +kernel
theorem dX3_setOther_55 : decode cX3_setOther 55 = .ok (.iload_n 1, 1) := by decide +kernel
theorem dX3_setOther_56 : decode cX3_setOther 56 = .ok (.iload_n 2, 1) := by decide +kernel
theorem dX3_setOther_57 : decode cX3_setOther 57 = .ok (.iastore, 1) := by decide +kernel
theorem dX3_setOther_58 : decode cX3_setOther 58 = .ok (.iload_n 3, 1) := by decide +kernel
theorem dX3_setOther_59 : decode cX3_setOther 59 = .ok (.ireturn, 1) := by decide +kernel
theorem dX3_setTown_0 : decode cX3_setTown 0 = .ok (.iload_n 1, 1) := by decide +kernel
theorem dX3_setTown_1 : decode cX3_setTown 1 = .ok (.invokestatic 98, 3) := by decide +kernel
theorem dX3_setTown_4 : decode cX3_setTown 4 = .ok (.ifCond .ne 13, 3) := by decide +kernel
theorem dX3_setTown_7 : decode cX3_setTown 7 = .ok (.new 67, 3) := by decide +kernel
theorem dX3_setTown_10 : decode cX3_setTown 10 = .ok (.dup, 1) := by decide +kernel
theorem dX3_setTown_11 : decode cX3_setTown 11 = .ok (.ldc 101, 2) := by decide +kernel
theorem dX3_setTown_13 : decode cX3_setTown 13 = .ok (.invokespecial 71, 3) := by decide +kernel
theorem dX3_setTown_16 : decode cX3_setTown 16 = .ok (.athrow, 1) := by decide +kernel
theorem dX3_setTown_17 : decode cX3_setTown 17 = .ok (.iload_n 2, 1) := by decide +kernel
theorem dX3_setTown_18 : decode cX3_setTown 18 = .ok (.ifCond .lt 19, 3) := by decide +kernel
theorem dX3_setTown_21 : decode cX3_setTown 21 = .ok (.iload_n 2, 1) := by decide +kernel
theorem dX3_setTown_22 : decode cX3_setTown 22 = .ok (.bipush 9, 2) := by decide +kernel
theorem dX3_setTown_24 : decode cX3_setTown 24 = .ok (.if_icmp .gt 13, 3) := by decide +kernel
theorem dX3_setTown_27 : decode cX3_setTown 27 = .ok (.iload_n 3, 1) := by decide +kernel
theorem dX3_setTown_28 : decode cX3_setTown 28 = .ok (.ifCond .lt 9, 3) := by decide +kernel
theorem dX3_setTown_31 : decode cX3_setTown 31 = .ok (.iload_n 3, 1) := by decide +kernel
theorem dX3_setTown_32 : decode cX3_setTown 32 = .ok (.bipush 30, 2) := by decide +kernel
theorem dX3_setTown_34 : decode cX3_setTown 34 = .ok (.if_icmp .le 13, 3) := by decide +kernel
theorem dX3_setTown_37 : decode cX3_setTown 37 = .ok (.new 35, 3) := by decide +kernel
theorem dX3_setTown_40 : decode cX3_setTown 40 = .ok (.dup, 1) := by decide +kernel
theorem dX3_setTown_41 : decode cX3_setTown 41 = .ok (.ldc 103, 2) := by decide +kernel
theorem dX3_setTown_43 : decode cX3_setTown 43 = .ok (.invokespecial 39, 3) := by decide +kernel
theorem dX3_setTown_46 : decode cX3_setTown 46 = .ok (.athrow, 1) := by decide +kernel
theorem dX3_setTown_47 : decode cX3_setTown 47 = .ok (.bipush 100, 2) := by decide +kernel
theorem dX3_setTown_49 : decode cX3_setTown 49 = .ok (.aload_n 0, 1) := by decide +kernel
theorem dX3_setTown_50 : decode cX3_setTown 50 = .ok (.getfield 23, 3) := by decide +kernel
theorem dX3_setTown_53 : decode cX3_setTown 53 = .ok (.iload_n 1, 1) := by decide +kernel
theorem dX3_setTown_54 : decode cX3_setTown 54 = .ok (.iaload, 1) := by decide +kernel
theorem dX3_setTown_55 : decode cX3_setTown 55 = .ok (.imul, 1) := by decide +kernel
theorem dX3_setTown_56 : decode cX3_setTown 56 = .ok (.aload_n 0, 1) := by decide +kernel
theorem dX3_setTown_57 : decode cX3_setTown 57 = .ok (.getfield 26, 3) := by decide +kernel
theorem dX3_setTown_60 : decode cX3_setTown 60 = .ok (.iload_n 1, 1) := by decide +kernel
theorem dX3_setTown_61 : decode cX3_setTown 61 = .ok (.iaload, 1) := by decide +kernel
theorem dX3_setTown_62 : decode cX3_setTown 62 = .ok (.iadd, 1) := by decide +kernel
theorem dX3_setTown_63 : decode cX3_setTown 63 = .ok (.istore 4, 2) := by decide +kernel
theorem dX3_setTown_65 : decode cX3_setTown 65 = .ok (.aload_n 0, 1) := by decide +kernel
theorem dX3_setTown_66 : decode cX3_setTown 66 = .ok (.getfield 23, 3) := by decide +kernel
theorem dX3_setTown_69 : decode cX3_setTown 69 = .ok (.iload_n 1, 1) := by decide +kernel
theorem dX3_setTown_70 : decode cX3_setTown 70 = .ok (.iload_n 2, 1) := by decide +kernel
theorem dX3_setTown_71 : decode cX3_setTown 71 = .ok (.iastore, 1) := by decide +kernel
theorem dX3_setTown_72 : decode cX3_setTown 72 = .ok (.aload_n 0, 1) := by decide +kernel
theorem dX3_setTown_73 : decode cX3_setTown 73 = .ok (.getfield 26, 3) := by decide +kernel
theorem dX3_setTown_76 : decode cX3_setTown 76 = .ok (.iload_n 1, 1) := by decide +kernel
theorem dX3_setTown_77 : decode cX3_setTown 77 = .ok (.iload_n 3, 1) := by decide +kernel
theorem dX3_setTown_78 : decode cX3_setTown 78 = .ok (.iastore, 1) := by decide +kernel
theorem dX3_setTown_79 : decode cX3_setTown 79 = .ok (.iload 4, 2) := by decide +kernel
theorem dX3_setTown_81 : decode cX3_setTown 81 = .ok (.ireturn, 1) := by decide +kernel
theorem dX3_poster_0 : decode cX3_poster 0 = .ok (.iload_n 1, 1) := by decide +kernel
theorem dX3_poster_1 : decode cX3_poster 1 = .ok (.invokestatic 98, 3) := by decide +kernel
theorem dX3_poster_4 : decode cX3_poster 4 = .ok (.ifCond .ne 13, 3) := by decide +kernel
theorem dX3_poster_7 : decode cX3_poster 7 = .ok (.new 67, 3) := by decide +kernel
theorem dX3_poster_10 : decode cX3_poster 10 = .ok (.dup, 1) := by decide +kernel
theorem dX3_poster_11 : decode cX3_poster 11 = .ok (.ldc 101, 2) := by decide +kernel
theorem dX3_poster_13 : decode cX3_poster 13 = .ok (.invokespecial 71, 3) := by decide +kernel
theorem dX3_poster_16 : decode cX3_poster 16 = .ok (.athrow, 1) := by decide +kernel
theorem dX3_poster_17 : decode cX3_poster 17 = .ok (.iload_n 2, 1) := by decide +kernel
theorem dX3_poster_18 : decode cX3_poster 18 = .ok (.iconst 1, 1) := by decide +kernel
theorem dX3_poster_19 : decode cX3_poster 19 = .ok (.if_icmp .lt 9, 3) := by decide +kernel
theorem dX3_poster_22 : decode cX3_poster 22 = .ok (.iload_n 2, 1) := by decide +kernel
theorem dX3_poster_23 : decode cX3_poster 23 = .ok (.bipush 20, 2) := by decide +kernel
theorem dX3_poster_25 : decode cX3_poster 25 = .ok (.if_icmp .le 13, 3) := by decide +kernel
theorem dX3_poster_28 : decode cX3_poster 28 = .ok (.new 35, 3) := by decide +kernel
theorem dX3_poster_31 : decode cX3_poster 31 = .ok (.dup, 1) := by decide +kernel
theorem dX3_poster_32 : decode cX3_poster 32 = .ok (.ldc 105, 2) := by decide +kernel
theorem dX3_poster_34 : decode cX3_poster 34 = .ok (.invokespecial 39, 3) := by decide +kernel
theorem dX3_poster_37 : decode cX3_poster 37 = .ok (.athrow, 1) := by decide +kernel
theorem dX3_poster_38 : decode cX3_poster 38 = .ok (.aload_n 0, 1) := by decide +kernel
theorem dX3_poster_39 : decode cX3_poster 39 = .ok (.getfield 16, 3) := by decide +kernel
theorem dX3_poster_42 : decode cX3_poster 42 = .ok (.invokevirtual 42, 3) := by decide +kernel
theorem dX3_poster_45 : decode cX3_poster 45 = .ok (.bipush 6, 2) := by decide +kernel
theorem dX3_poster_47 : decode cX3_poster 47 = .ok (.if_icmp .lt 13, 3) := by decide +kernel
theorem dX3_poster_50 : decode cX3_poster 50 = .ok (.new 46, 3) := by decide +kernel
theorem dX3_poster_53 : decode cX3_poster 53 = .ok (.dup, 1) := by decide +kernel
theorem dX3_poster_54 : decode cX3_poster 54 = .ok (.ldc 107, 2) := by decide +kernel
theorem dX3_poster_56 : decode cX3_poster 56 = .ok (.invokespecial 50, 3) := by decide +kernel
theorem dX3_poster_59 : decode cX3_poster 59 = .ok (.athrow, 1) := by decide +kernel
theorem dX3_poster_60 : decode cX3_poster 60 = .ok (.aload_n 0, 1) := by decide +kernel
theorem dX3_poster_61 : decode cX3_poster 61 = .ok (.getfield 16, 3) := by decide +kernel
theorem dX3_poster_64 : decode cX3_poster 64 = .ok (.invokevirtual 42, 3) := by decide +kernel
theorem dX3_poster_67 : decode cX3_poster 67 = .ok (.istore_n 3, 1) := by decide +kernel
theorem dX3_poster_68 : decode cX3_poster 68 = .ok (.aload_n 0, 1) := by decide +kernel
theorem dX3_poster_69 : decode cX3_poster 69 = .ok (.getfield 16, 3) := by decide +kernel
theorem dX3_poster_72 : decode cX3_poster 72 = .ok (.new 109, 3) := by decide +kernel
theorem dX3_poster_75 : decode cX3_poster 75 = .ok (.dup, 1) := by decide +kernel
theorem dX3_poster_76 : decode cX3_poster 76 = .ok (.iload_n 1, 1) := by decide +kernel
theorem dX3_poster_77 : decode cX3_poster 77 = .ok (.iload_n 2, 1) := by decide +kernel
theorem dX3_poster_78 : decode cX3_poster 78 = .ok (.invokespecial 111, 3) := by decide +kernel
theorem dX3_poster_81 : decode cX3_poster 81 = .ok (.invokevirtual 56, 3) := by decide +kernel
theorem dX3_poster_84 : decode cX3_poster 84 = .ok (.pop, 1) := by decide +kernel
theorem dX3_poster_85 : decode cX3_poster 85 = .ok (.iload_n 3, 1) := by decide +kernel
theorem dX3_poster_86 : decode cX3_poster 86 = .ok (.ireturn, 1) := by decide +kernel
theorem dX3_line_0 : decode cX3_line 0 = .ok (.aload_n 0, 1) := by decide +kernel
theorem dX3_line_1 : decode cX3_line 1 = .ok (.iload_n 1, 1) := by decide +kernel
theorem dX3_line_2 : decode cX3_line 2 = .ok (.invokevirtual 112, 3) := by decide +kernel
theorem dX3_line_5 : decode cX3_line 5 = .ok (.ifCond .ne 13, 3) := by decide +kernel
theorem dX3_line_8 : decode cX3_line 8 = .ok (.new 67, 3) := by decide +kernel
theorem dX3_line_11 : decode cX3_line 11 = .ok (.dup, 1) := by decide +kernel
theorem dX3_line_12 : decode cX3_line 12 = .ok (.ldc 115, 2) := by decide +kernel
theorem dX3_line_14 : decode cX3_line 14 = .ok (.invokespecial 71, 3) := by decide +kernel
theorem dX3_line_17 : decode cX3_line 17 = .ok (.athrow, 1) := by decide +kernel
theorem dX3_line_18 : decode cX3_line 18 = .ok (.iload_n 2, 1) := by decide +kernel
theorem dX3_line_19 : decode cX3_line 19 = .ok (.ifCond .lt 9, 3) := by decide +kernel
theorem dX3_line_22 : decode cX3_line 22 = .ok (.iload_n 2, 1) := by decide +kernel
theorem dX3_line_23 : decode cX3_line 23 = .ok (.ldc 117, 2) := by decide +kernel
theorem dX3_line_25 : decode cX3_line 25 = .ok (.if_icmp .le 13, 3) := by decide +kernel
theorem dX3_line_28 : decode cX3_line 28 = .ok (.new 35, 3) := by decide +kernel
theorem dX3_line_31 : decode cX3_line 31 = .ok (.dup, 1) := by decide +kernel
theorem dX3_line_32 : decode cX3_line 32 = .ok (.ldc 118, 2) := by decide +kernel
theorem dX3_line_34 : decode cX3_line 34 = .ok (.invokespecial 39, 3) := by decide +kernel
theorem dX3_line_37 : decode cX3_line 37 = .ok (.athrow, 1) := by decide +kernel
theorem dX3_line_38 : decode cX3_line 38 = .ok (.aload_n 0, 1) := by decide +kernel
theorem dX3_line_39 : decode cX3_line 39 = .ok (.getfield 16, 3) := by decide +kernel
theorem dX3_line_42 : decode cX3_line 42 = .ok (.iload_n 1, 1) := by decide +kernel
theorem dX3_line_43 : decode cX3_line 43 = .ok (.invokevirtual 74, 3) := by decide +kernel
theorem dX3_line_46 : decode cX3_line 46 = .ok (.checkcast 109, 3) := by decide +kernel
theorem dX3_line_49 : decode cX3_line 49 = .ok (.astore_n 3, 1) := by decide +kernel
theorem dX3_line_50 : decode cX3_line 50 = .ok (.aload_n 3, 1) := by decide +kernel
theorem dX3_line_51 : decode cX3_line 51 = .ok (.getfield 120, 3) := by decide +kernel
theorem dX3_line_54 : decode cX3_line 54 = .ok (.ifCond .ne 14, 3) := by decide +kernel
theorem dX3_line_57 : decode cX3_line 57 = .ok (.aload_n 3, 1) := by decide +kernel
theorem dX3_line_58 : decode cX3_line 58 = .ok (.getfield 124, 3) := by decide +kernel
theorem dX3_line_61 : decode cX3_line 61 = .ok (.invokevirtual 42, 3) := by decide +kernel
theorem dX3_line_64 : decode cX3_line 64 = .ok (.iconst 4, 1) := by decide +kernel
theorem dX3_line_65 : decode cX3_line 65 = .ok (.if_icmp .lt 13, 3) := by decide +kernel
theorem dX3_line_68 : decode cX3_line 68 = .ok (.new 46, 3) := by decide +kernel
theorem dX3_line_71 : decode cX3_line 71 = .ok (.dup, 1) := by decide +kernel
theorem dX3_line_72 : decode cX3_line 72 = .ok (.ldc 127, 2) := by decide +kernel
theorem dX3_line_74 : decode cX3_line 74 = .ok (.invokespecial 50, 3) := by decide +kernel
theorem dX3_line_77 : decode cX3_line 77 = .ok (.athrow, 1) := by decide +kernel
theorem dX3_line_78 : decode cX3_line 78 = .ok (.aload_n 3, 1) := by decide +kernel
theorem dX3_line_79 : decode cX3_line 79 = .ok (.getfield 124, 3) := by decide +kernel
theorem dX3_line_82 : decode cX3_line 82 = .ok (.invokevirtual 42, 3) := by decide +kernel
theorem dX3_line_85 : decode cX3_line 85 = .ok (.istore 4, 2) := by decide +kernel
theorem dX3_line_87 : decode cX3_line 87 = .ok (.aload_n 3, 1) := by decide +kernel
theorem dX3_line_88 : decode cX3_line 88 = .ok (.getfield 124, 3) := by decide +kernel
theorem dX3_line_91 : decode cX3_line 91 = .ok (.new 129, 3) := by decide +kernel
theorem dX3_line_94 : decode cX3_line 94 = .ok (.dup, 1) := by decide +kernel
theorem dX3_line_95 : decode cX3_line 95 = .ok (.iload_n 2, 1) := by decide +kernel
theorem dX3_line_96 : decode cX3_line 96 = .ok (.invokespecial 131, 3) := by decide +kernel
theorem dX3_line_99 : decode cX3_line 99 = .ok (.invokevirtual 56, 3) := by decide +kernel
theorem dX3_line_102 : decode cX3_line 102 = .ok (.pop, 1) := by decide +kernel
theorem dX3_line_103 : decode cX3_line 103 = .ok (.iload 4, 2) := by decide +kernel
theorem dX3_line_105 : decode cX3_line 105 = .ok (.ireturn, 1) := by decide +kernel
theorem dX3_set_0 : decode cX3_set 0 = .ok (.aload_n 0, 1) := by decide +kernel
theorem dX3_set_1 : decode cX3_set 1 = .ok (.iload_n 1, 1) := by decide +kernel
theorem dX3_set_2 : decode cX3_set 2 = .ok (.invokevirtual 112, 3) := by decide +kernel
theorem dX3_set_5 : decode cX3_set 5 = .ok (.ifCond .ne 13, 3) := by decide +kernel
theorem dX3_set_8 : decode cX3_set 8 = .ok (.new 67, 3) := by decide +kernel
theorem dX3_set_11 : decode cX3_set 11 = .ok (.dup, 1) := by decide +kernel
theorem dX3_set_12 : decode cX3_set 12 = .ok (.ldc 115, 2) := by decide +kernel
theorem dX3_set_14 : decode cX3_set 14 = .ok (.invokespecial 71, 3) := by decide +kernel
theorem dX3_set_17 : decode cX3_set 17 = .ok (.athrow, 1) := by decide +kernel
theorem dX3_set_18 : decode cX3_set 18 = .ok (.aload_n 0, 1) := by decide +kernel
theorem dX3_set_19 : decode cX3_set 19 = .ok (.getfield 16, 3) := by decide +kernel
theorem dX3_set_22 : decode cX3_set 22 = .ok (.iload_n 1, 1) := by decide +kernel
theorem dX3_set_23 : decode cX3_set 23 = .ok (.invokevirtual 74, 3) := by decide +kernel
theorem dX3_set_26 : decode cX3_set 26 = .ok (.checkcast 109, 3) := by decide +kernel
theorem dX3_set_29 : decode cX3_set 29 = .ok (.astore_n 2, 1) := by decide +kernel
theorem dX3_set_30 : decode cX3_set 30 = .ok (.aload_n 0, 1) := by decide +kernel
theorem dX3_set_31 : decode cX3_set 31 = .ok (.aload_n 2, 1) := by decide +kernel
theorem dX3_set_32 : decode cX3_set 32 = .ok (.invokevirtual 134, 3) := by decide +kernel
theorem dX3_set_35 : decode cX3_set 35 = .ok (.istore_n 3, 1) := by decide +kernel
theorem dX3_set_36 : decode cX3_set 36 = .ok (.iload_n 3, 1) := by decide +kernel
theorem dX3_set_37 : decode cX3_set 37 = .ok (.iconst (-1), 1) := by decide +kernel
theorem dX3_set_38 : decode cX3_set 38 = .ok (.if_icmp .ne 13, 3) := by decide +kernel
theorem dX3_set_41 : decode cX3_set 41 = .ok (.new 46, 3) := by decide +kernel
theorem dX3_set_44 : decode cX3_set 44 = .ok (.dup, 1) := by decide +kernel
theorem dX3_set_45 : decode cX3_set 45 = .ok (.ldc 138, 2) := by decide +kernel
theorem dX3_set_47 : decode cX3_set 47 = .ok (.invokespecial 50, 3) := by decide +kernel
theorem dX3_set_50 : decode cX3_set 50 = .ok (.athrow, 1) := by decide +kernel
theorem dX3_set_51 : decode cX3_set 51 = .ok (.iconst 0, 1) := by decide +kernel
theorem dX3_set_52 : decode cX3_set 52 = .ok (.istore 4, 2) := by decide +kernel
theorem dX3_set_54 : decode cX3_set 54 = .ok (.iload 4, 2) := by decide +kernel
theorem dX3_set_56 : decode cX3_set 56 = .ok (.aload_n 2, 1) := by decide +kernel
theorem dX3_set_57 : decode cX3_set 57 = .ok (.getfield 124, 3) := by decide +kernel
theorem dX3_set_60 : decode cX3_set 60 = .ok (.invokevirtual 42, 3) := by decide +kernel
theorem dX3_set_63 : decode cX3_set 63 = .ok (.if_icmp .ge 24, 3) := by decide +kernel
theorem dX3_set_66 : decode cX3_set 66 = .ok (.aload_n 2, 1) := by decide +kernel
theorem dX3_set_67 : decode cX3_set 67 = .ok (.getfield 124, 3) := by decide +kernel
theorem dX3_set_70 : decode cX3_set 70 = .ok (.iload 4, 2) := by decide +kernel
theorem dX3_set_72 : decode cX3_set 72 = .ok (.invokevirtual 74, 3) := by decide +kernel
theorem dX3_set_75 : decode cX3_set 75 = .ok (.checkcast 129, 3) := by decide +kernel
theorem dX3_set_78 : decode cX3_set 78 = .ok (.invokevirtual 140, 3) := by decide +kernel
theorem dX3_set_81 : decode cX3_set 81 = .ok (.iinc 4 1, 3) := by decide +kernel
theorem dX3_set_84 : decode cX3_set 84 = .ok (.goto (-30), 3) := by decide +kernel
theorem dX3_set_87 : decode cX3_set 87 = .ok (.aload_n 2, 1) := by decide +kernel
theorem dX3_set_88 : decode cX3_set 88 = .ok (.iconst 1, 1) := by decide +kernel
theorem dX3_set_89 : decode cX3_set 89 = .ok (.putfield 120, 3) := by decide +kernel
theorem dX3_set_92 : decode cX3_set 92 = .ok (.iload_n 3, 1) := by decide +kernel
theorem dX3_set_93 : decode cX3_set 93 = .ok (.ireturn, 1) := by decide +kernel
theorem dX3_print_0 : decode cX3_print 0 = .ok (.aload_n 0, 1) := by decide +kernel
theorem dX3_print_1 : decode cX3_print 1 = .ok (.iload_n 1, 1) := by decide +kernel
theorem dX3_print_2 : decode cX3_print 2 = .ok (.invokevirtual 112, 3) := by decide +kernel
theorem dX3_print_5 : decode cX3_print 5 = .ok (.ifCond .ne 13, 3) := by decide +kernel
theorem dX3_print_8 : decode cX3_print 8 = .ok (.new 67, 3) := by decide +kernel
theorem dX3_print_11 : decode cX3_print 11 = .ok (.dup, 1) := by decide +kernel
theorem dX3_print_12 : decode cX3_print 12 = .ok (.ldc 115, 2) := by decide +kernel
theorem dX3_print_14 : decode cX3_print 14 = .ok (.invokespecial 71, 3) := by decide +kernel
theorem dX3_print_17 : decode cX3_print 17 = .ok (.athrow, 1) := by decide +kernel
theorem dX3_print_18 : decode cX3_print 18 = .ok (.iload_n 2, 1) := by decide +kernel
theorem dX3_print_19 : decode cX3_print 19 = .ok (.iconst 1, 1) := by decide +kernel
theorem dX3_print_20 : decode cX3_print 20 = .ok (.if_icmp .lt 10, 3) := by decide +kernel
theorem dX3_print_23 : decode cX3_print 23 = .ok (.iload_n 2, 1) := by decide +kernel
theorem dX3_print_24 : decode cX3_print 24 = .ok (.sipush 500, 3) := by decide +kernel
theorem dX3_print_27 : decode cX3_print 27 = .ok (.if_icmp .le 13, 3) := by decide +kernel
theorem dX3_print_30 : decode cX3_print 30 = .ok (.new 35, 3) := by decide +kernel
theorem dX3_print_33 : decode cX3_print 33 = .ok (.dup, 1) := by decide +kernel
theorem dX3_print_34 : decode cX3_print 34 = .ok (.ldc 143, 2) := by decide +kernel
theorem dX3_print_36 : decode cX3_print 36 = .ok (.invokespecial 39, 3) := by decide +kernel
theorem dX3_print_39 : decode cX3_print 39 = .ok (.athrow, 1) := by decide +kernel
theorem dX3_print_40 : decode cX3_print 40 = .ok (.aload_n 0, 1) := by decide +kernel
theorem dX3_print_41 : decode cX3_print 41 = .ok (.getfield 16, 3) := by decide +kernel
theorem dX3_print_44 : decode cX3_print 44 = .ok (.iload_n 1, 1) := by decide +kernel
theorem dX3_print_45 : decode cX3_print 45 = .ok (.invokevirtual 74, 3) := by decide +kernel
theorem dX3_print_48 : decode cX3_print 48 = .ok (.checkcast 109, 3) := by decide +kernel
theorem dX3_print_51 : decode cX3_print 51 = .ok (.astore_n 3, 1) := by decide +kernel
theorem dX3_print_52 : decode cX3_print 52 = .ok (.aload_n 3, 1) := by decide +kernel
theorem dX3_print_53 : decode cX3_print 53 = .ok (.getfield 120, 3) := by decide +kernel
theorem dX3_print_56 : decode cX3_print 56 = .ok (.ifCond .ne 13, 3) := by decide +kernel
theorem dX3_print_59 : decode cX3_print 59 = .ok (.new 46, 3) := by decide +kernel
theorem dX3_print_62 : decode cX3_print 62 = .ok (.dup, 1) := by decide +kernel
theorem dX3_print_63 : decode cX3_print 63 = .ok (.ldc 145, 2) := by decide +kernel
theorem dX3_print_65 : decode cX3_print 65 = .ok (.invokespecial 50, 3) := by decide +kernel
theorem dX3_print_68 : decode cX3_print 68 = .ok (.athrow, 1) := by decide +kernel
theorem dX3_print_69 : decode cX3_print 69 = .ok (.iconst 0, 1) := by decide +kernel
theorem dX3_print_70 : decode cX3_print 70 = .ok (.istore 4, 2) := by decide +kernel
theorem dX3_print_72 : decode cX3_print 72 = .ok (.iload 4, 2) := by decide +kernel
theorem dX3_print_74 : decode cX3_print 74 = .ok (.aload_n 3, 1) := by decide +kernel
theorem dX3_print_75 : decode cX3_print 75 = .ok (.getfield 124, 3) := by decide +kernel
theorem dX3_print_78 : decode cX3_print 78 = .ok (.invokevirtual 42, 3) := by decide +kernel
theorem dX3_print_81 : decode cX3_print 81 = .ok (.if_icmp .ge 25, 3) := by decide +kernel
theorem dX3_print_84 : decode cX3_print 84 = .ok (.aload_n 3, 1) := by decide +kernel
theorem dX3_print_85 : decode cX3_print 85 = .ok (.getfield 124, 3) := by decide +kernel
theorem dX3_print_88 : decode cX3_print 88 = .ok (.iload 4, 2) := by decide +kernel
theorem dX3_print_90 : decode cX3_print 90 = .ok (.invokevirtual 74, 3) := by decide +kernel
theorem dX3_print_93 : decode cX3_print 93 = .ok (.checkcast 129, 3) := by decide +kernel
theorem dX3_print_96 : decode cX3_print 96 = .ok (.iload_n 2, 1) := by decide +kernel
theorem dX3_print_97 : decode cX3_print 97 = .ok (.invokevirtual 147, 3) := by decide +kernel
theorem dX3_print_100 : decode cX3_print 100 = .ok (.iinc 4 1, 3) := by decide +kernel
theorem dX3_print_103 : decode cX3_print 103 = .ok (.goto (-31), 3) := by decide +kernel
theorem dX3_print_106 : decode cX3_print 106 = .ok (.aload_n 0, 1) := by decide +kernel
theorem dX3_print_107 : decode cX3_print 107 = .ok (.aload_n 3, 1) := by decide +kernel
theorem dX3_print_108 : decode cX3_print 108 = .ok (.invokevirtual 150, 3) := by decide +kernel
theorem dX3_print_111 : decode cX3_print 111 = .ok (.iload_n 2, 1) := by decide +kernel
theorem dX3_print_112 : decode cX3_print 112 = .ok (.imul, 1) := by decide +kernel
theorem dX3_print_113 : decode cX3_print 113 = .ok (.bipush 100, 2) := by decide +kernel
theorem dX3_print_115 : decode cX3_print 115 = .ok (.idiv, 1) := by decide +kernel
theorem dX3_print_116 : decode cX3_print 116 = .ok (.istore 4, 2) := by decide +kernel
theorem dX3_print_118 : decode cX3_print 118 = .ok (.aload_n 3, 1) := by decide +kernel
theorem dX3_print_119 : decode cX3_print 119 = .ok (.dup, 1) := by decide +kernel
theorem dX3_print_120 : decode cX3_print 120 = .ok (.getfield 153, 3) := by decide +kernel
theorem dX3_print_123 : decode cX3_print 123 = .ok (.iload_n 2, 1) := by decide +kernel
theorem dX3_print_124 : decode cX3_print 124 = .ok (.iadd, 1) := by decide +kernel
theorem dX3_print_125 : decode cX3_print 125 = .ok (.putfield 153, 3) := by decide +kernel
theorem dX3_print_128 : decode cX3_print 128 = .ok (.aload_n 0, 1) := by decide +kernel
theorem dX3_print_129 : decode cX3_print 129 = .ok (.dup, 1) := by decide +kernel
theorem dX3_print_130 : decode cX3_print 130 = .ok (.getfield 157, 3) := by decide +kernel
theorem dX3_print_133 : decode cX3_print 133 = .ok (.iload 4, 2) := by decide +kernel
theorem dX3_print_135 : decode cX3_print 135 = .ok (.iadd, 1) := by decide +kernel
theorem dX3_print_136 : decode cX3_print 136 = .ok (.putfield 157, 3) := by decide +kernel
theorem dX3_print_139 : decode cX3_print 139 = .ok (.iload 4, 2) := by decide +kernel
theorem dX3_print_141 : decode cX3_print 141 = .ok (.ireturn, 1) := by decide +kernel
theorem dX3_strike_0 : decode cX3_strike 0 = .ok (.aload_n 0, 1) := by decide +kernel
theorem dX3_strike_1 : decode cX3_strike 1 = .ok (.iload_n 1, 1) := by decide +kernel
theorem dX3_strike_2 : decode cX3_strike 2 = .ok (.invokevirtual 112, 3) := by decide +kernel
theorem dX3_strike_5 : decode cX3_strike 5 = .ok (.ifCond .ne 13, 3) := by decide +kernel
theorem dX3_strike_8 : decode cX3_strike 8 = .ok (.new 67, 3) := by decide +kernel
theorem dX3_strike_11 : decode cX3_strike 11 = .ok (.dup, 1) := by decide +kernel
theorem dX3_strike_12 : decode cX3_strike 12 = .ok (.ldc 115, 2) := by decide +kernel
theorem dX3_strike_14 : decode cX3_strike 14 = .ok (.invokespecial 71, 3) := by decide +kernel
theorem dX3_strike_17 : decode cX3_strike 17 = .ok (.athrow, 1) := by decide +kernel
theorem dX3_strike_18 : decode cX3_strike 18 = .ok (.aload_n 0, 1) := by decide +kernel
theorem dX3_strike_19 : decode cX3_strike 19 = .ok (.getfield 16, 3) := by decide +kernel
theorem dX3_strike_22 : decode cX3_strike 22 = .ok (.iload_n 1, 1) := by decide +kernel
theorem dX3_strike_23 : decode cX3_strike 23 = .ok (.invokevirtual 74, 3) := by decide +kernel
theorem dX3_strike_26 : decode cX3_strike 26 = .ok (.checkcast 109, 3) := by decide +kernel
theorem dX3_strike_29 : decode cX3_strike 29 = .ok (.astore_n 2, 1) := by decide +kernel
theorem dX3_strike_30 : decode cX3_strike 30 = .ok (.aload_n 2, 1) := by decide +kernel
theorem dX3_strike_31 : decode cX3_strike 31 = .ok (.getfield 120, 3) := by decide +kernel
theorem dX3_strike_34 : decode cX3_strike 34 = .ok (.ifCond .ne 13, 3) := by decide +kernel
theorem dX3_strike_37 : decode cX3_strike 37 = .ok (.new 46, 3) := by decide +kernel
theorem dX3_strike_40 : decode cX3_strike 40 = .ok (.dup, 1) := by decide +kernel
theorem dX3_strike_41 : decode cX3_strike 41 = .ok (.ldc 145, 2) := by decide +kernel
theorem dX3_strike_43 : decode cX3_strike 43 = .ok (.invokespecial 50, 3) := by decide +kernel
theorem dX3_strike_46 : decode cX3_strike 46 = .ok (.athrow, 1) := by decide +kernel
theorem dX3_strike_47 : decode cX3_strike 47 = .ok (.iconst 0, 1) := by decide +kernel
theorem dX3_strike_48 : decode cX3_strike 48 = .ok (.istore_n 3, 1) := by decide +kernel
theorem dX3_strike_49 : decode cX3_strike 49 = .ok (.iload_n 3, 1) := by decide +kernel
theorem dX3_strike_50 : decode cX3_strike 50 = .ok (.aload_n 2, 1) := by decide +kernel
theorem dX3_strike_51 : decode cX3_strike 51 = .ok (.getfield 124, 3) := by decide +kernel
theorem dX3_strike_54 : decode cX3_strike 54 = .ok (.invokevirtual 42, 3) := by decide +kernel
theorem dX3_strike_57 : decode cX3_strike 57 = .ok (.if_icmp .ge 23, 3) := by decide +kernel
theorem dX3_strike_60 : decode cX3_strike 60 = .ok (.aload_n 2, 1) := by decide +kernel
theorem dX3_strike_61 : decode cX3_strike 61 = .ok (.getfield 124, 3) := by decide +kernel
theorem dX3_strike_64 : decode cX3_strike 64 = .ok (.iload_n 3, 1) := by decide +kernel
theorem dX3_strike_65 : decode cX3_strike 65 = .ok (.invokevirtual 74, 3) := by decide +kernel
theorem dX3_strike_68 : decode cX3_strike 68 = .ok (.checkcast 129, 3) := by decide +kernel
theorem dX3_strike_71 : decode cX3_strike 71 = .ok (.invokevirtual 160, 3) := by decide +kernel
theorem dX3_strike_74 : decode cX3_strike 74 = .ok (.iinc 3 1, 3) := by decide +kernel
theorem dX3_strike_77 : decode cX3_strike 77 = .ok (.goto (-28), 3) := by decide +kernel
theorem dX3_strike_80 : decode cX3_strike 80 = .ok (.aload_n 2, 1) := by decide +kernel
theorem dX3_strike_81 : decode cX3_strike 81 = .ok (.iconst 0, 1) := by decide +kernel
theorem dX3_strike_82 : decode cX3_strike 82 = .ok (.putfield 120, 3) := by decide +kernel
theorem dX3_strike_85 : decode cX3_strike 85 = .ok (.iconst 0, 1) := by decide +kernel
theorem dX3_strike_86 : decode cX3_strike 86 = .ok (.istore_n 3, 1) := by decide +kernel
theorem dX3_strike_87 : decode cX3_strike 87 = .ok (.iconst 0, 1) := by decide +kernel
theorem dX3_strike_88 : decode cX3_strike 88 = .ok (.istore 4, 2) := by decide +kernel
theorem dX3_strike_90 : decode cX3_strike 90 = .ok (.iload 4, 2) := by decide +kernel
theorem dX3_strike_92 : decode cX3_strike 92 = .ok (.aload_n 0, 1) := by decide +kernel
theorem dX3_strike_93 : decode cX3_strike 93 = .ok (.getfield 10, 3) := by decide +kernel
theorem dX3_strike_96 : decode cX3_strike 96 = .ok (.invokevirtual 42, 3) := by decide +kernel
theorem dX3_strike_99 : decode cX3_strike 99 = .ok (.if_icmp .ge 27, 3) := by decide +kernel
theorem dX3_strike_102 : decode cX3_strike 102 = .ok (.iload_n 3, 1) := by decide +kernel
theorem dX3_strike_103 : decode cX3_strike 103 = .ok (.aload_n 0, 1) := by decide +kernel
theorem dX3_strike_104 : decode cX3_strike 104 = .ok (.getfield 10, 3) := by decide +kernel
theorem dX3_strike_107 : decode cX3_strike 107 = .ok (.iload 4, 2) := by decide +kernel
theorem dX3_strike_109 : decode cX3_strike 109 = .ok (.invokevirtual 74, 3) := by decide +kernel
theorem dX3_strike_112 : decode cX3_strike 112 = .ok (.checkcast 51, 3) := by decide +kernel
theorem dX3_strike_115 : decode cX3_strike 115 = .ok (.invokevirtual 163, 3) := by decide +kernel
theorem dX3_strike_118 : decode cX3_strike 118 = .ok (.iadd, 1) := by decide +kernel
theorem dX3_strike_119 : decode cX3_strike 119 = .ok (.istore_n 3, 1) := by decide +kernel
theorem dX3_strike_120 : decode cX3_strike 120 = .ok (.iinc 4 1, 3) := by decide +kernel
theorem dX3_strike_123 : decode cX3_strike 123 = .ok (.goto (-33), 3) := by decide +kernel
theorem dX3_strike_126 : decode cX3_strike 126 = .ok (.aload_n 0, 1) := by decide +kernel
theorem dX3_strike_127 : decode cX3_strike 127 = .ok (.dup, 1) := by decide +kernel
theorem dX3_strike_128 : decode cX3_strike 128 = .ok (.getfield 166, 3) := by decide +kernel
theorem dX3_strike_131 : decode cX3_strike 131 = .ok (.iload_n 3, 1) := by decide +kernel
theorem dX3_strike_132 : decode cX3_strike 132 = .ok (.iadd, 1) := by decide +kernel
theorem dX3_strike_133 : decode cX3_strike 133 = .ok (.putfield 166, 3) := by decide +kernel
theorem dX3_strike_136 : decode cX3_strike 136 = .ok (.iload_n 3, 1) := by decide +kernel
theorem dX3_strike_137 : decode cX3_strike 137 = .ok (.ireturn, 1) := by decide +kernel
theorem dX3_block_0 : decode cX3_block 0 = .ok (.aload_n 0, 1) := by decide +kernel
theorem dX3_block_1 : decode cX3_block 1 = .ok (.iload_n 1, 1) := by decide +kernel
theorem dX3_block_2 : decode cX3_block 2 = .ok (.invokevirtual 60, 3) := by decide +kernel
theorem dX3_block_5 : decode cX3_block 5 = .ok (.ifCond .eq 10, 3) := by decide +kernel
theorem dX3_block_8 : decode cX3_block 8 = .ok (.iload_n 2, 1) := by decide +kernel
theorem dX3_block_9 : decode cX3_block 9 = .ok (.invokestatic 64, 3) := by decide +kernel
theorem dX3_block_12 : decode cX3_block 12 = .ok (.ifCond .ne 13, 3) := by decide +kernel
theorem dX3_block_15 : decode cX3_block 15 = .ok (.new 67, 3) := by decide +kernel
theorem dX3_block_18 : decode cX3_block 18 = .ok (.dup, 1) := by decide +kernel
theorem dX3_block_19 : decode cX3_block 19 = .ok (.ldc 69, 2) := by decide +kernel
theorem dX3_block_21 : decode cX3_block 21 = .ok (.invokespecial 71, 3) := by decide +kernel
theorem dX3_block_24 : decode cX3_block 24 = .ok (.athrow, 1) := by decide +kernel
theorem dX3_block_25 : decode cX3_block 25 = .ok (.aload_n 0, 1) := by decide +kernel
theorem dX3_block_26 : decode cX3_block 26 = .ok (.getfield 10, 3) := by decide +kernel
theorem dX3_block_29 : decode cX3_block 29 = .ok (.iload_n 1, 1) := by decide +kernel
theorem dX3_block_30 : decode cX3_block 30 = .ok (.invokevirtual 74, 3) := by decide +kernel
theorem dX3_block_33 : decode cX3_block 33 = .ok (.checkcast 51, 3) := by decide +kernel
theorem dX3_block_36 : decode cX3_block 36 = .ok (.astore 4, 2) := by decide +kernel
theorem dX3_block_38 : decode cX3_block 38 = .ok (.iload_n 3, 1) := by decide +kernel
theorem dX3_block_39 : decode cX3_block 39 = .ok (.tableswitch 49 0 2 #[25, 33, 41], 25) := by decide +kernel
theorem dX3_block_64 : decode cX3_block 64 = .ok (.aload 4, 2) := by decide +kernel
theorem dX3_block_66 : decode cX3_block 66 = .ok (.getfield 78, 3) := by decide +kernel
theorem dX3_block_69 : decode cX3_block 69 = .ok (.iload_n 2, 1) := by decide +kernel
theorem dX3_block_70 : decode cX3_block 70 = .ok (.iaload, 1) := by decide +kernel
theorem dX3_block_71 : decode cX3_block 71 = .ok (.ireturn, 1) := by decide +kernel
theorem dX3_block_72 : decode cX3_block 72 = .ok (.aload 4, 2) := by decide +kernel
theorem dX3_block_74 : decode cX3_block 74 = .ok (.getfield 169, 3) := by decide +kernel
theorem dX3_block_77 : decode cX3_block 77 = .ok (.iload_n 2, 1) := by decide +kernel
theorem dX3_block_78 : decode cX3_block 78 = .ok (.iaload, 1) := by decide +kernel
theorem dX3_block_79 : decode cX3_block 79 = .ok (.ireturn, 1) := by decide +kernel
theorem dX3_block_80 : decode cX3_block 80 = .ok (.aload 4, 2) := by decide +kernel
theorem dX3_block_82 : decode cX3_block 82 = .ok (.getfield 172, 3) := by decide +kernel
theorem dX3_block_85 : decode cX3_block 85 = .ok (.iload_n 2, 1) := by decide +kernel
theorem dX3_block_86 : decode cX3_block 86 = .ok (.iaload, 1) := by decide +kernel
theorem dX3_block_87 : decode cX3_block 87 = .ok (.ireturn, 1) := by decide +kernel
theorem dX3_block_88 : decode cX3_block 88 = .ok (.new 67, 3) := by decide +kernel
theorem dX3_block_91 : decode cX3_block 91 = .ok (.dup, 1) := by decide +kernel
theorem dX3_block_92 : decode cX3_block 92 = .ok (.ldc 175, 2) := by decide +kernel
theorem dX3_block_94 : decode cX3_block 94 = .ok (.invokespecial 71, 3) := by decide +kernel
theorem dX3_block_97 : decode cX3_block 97 = .ok (.athrow, 1) := by decide +kernel
theorem dX3_told_0 : decode cX3_told 0 = .ok (.aload_n 0, 1) := by decide +kernel
theorem dX3_told_1 : decode cX3_told 1 = .ok (.iload_n 1, 1) := by decide +kernel
theorem dX3_told_2 : decode cX3_told 2 = .ok (.invokevirtual 112, 3) := by decide +kernel
theorem dX3_told_5 : decode cX3_told 5 = .ok (.ifCond .ne 13, 3) := by decide +kernel
theorem dX3_told_8 : decode cX3_told 8 = .ok (.new 67, 3) := by decide +kernel
theorem dX3_told_11 : decode cX3_told 11 = .ok (.dup, 1) := by decide +kernel
theorem dX3_told_12 : decode cX3_told 12 = .ok (.ldc 115, 2) := by decide +kernel
theorem dX3_told_14 : decode cX3_told 14 = .ok (.invokespecial 71, 3) := by decide +kernel
theorem dX3_told_17 : decode cX3_told 17 = .ok (.athrow, 1) := by decide +kernel
theorem dX3_told_18 : decode cX3_told 18 = .ok (.aload_n 0, 1) := by decide +kernel
theorem dX3_told_19 : decode cX3_told 19 = .ok (.getfield 16, 3) := by decide +kernel
theorem dX3_told_22 : decode cX3_told 22 = .ok (.iload_n 1, 1) := by decide +kernel
theorem dX3_told_23 : decode cX3_told 23 = .ok (.invokevirtual 74, 3) := by decide +kernel
theorem dX3_told_26 : decode cX3_told 26 = .ok (.checkcast 109, 3) := by decide +kernel
theorem dX3_told_29 : decode cX3_told 29 = .ok (.astore_n 3, 1) := by decide +kernel
theorem dX3_told_30 : decode cX3_told 30 = .ok (.iload_n 2, 1) := by decide +kernel
theorem dX3_told_31 : decode cX3_told 31 = .ok (.tableswitch 119 0 7 #[45, 50, 55, 63, 68, 81, 97, 102], 45) := by decide +kernel
theorem dX3_told_76 : decode cX3_told 76 = .ok (.aload_n 3, 1) := by decide +kernel
theorem dX3_told_77 : decode cX3_told 77 = .ok (.getfield 177, 3) := by decide +kernel
theorem dX3_told_80 : decode cX3_told 80 = .ok (.ireturn, 1) := by decide +kernel
theorem dX3_told_81 : decode cX3_told 81 = .ok (.aload_n 3, 1) := by decide +kernel
theorem dX3_told_82 : decode cX3_told 82 = .ok (.getfield 180, 3) := by decide +kernel
theorem dX3_told_85 : decode cX3_told 85 = .ok (.ireturn, 1) := by decide +kernel
theorem dX3_told_86 : decode cX3_told 86 = .ok (.aload_n 3, 1) := by decide +kernel
theorem dX3_told_87 : decode cX3_told 87 = .ok (.getfield 124, 3) := by decide +kernel
theorem dX3_told_90 : decode cX3_told 90 = .ok (.invokevirtual 42, 3) := by decide +kernel
theorem dX3_told_93 : decode cX3_told 93 = .ok (.ireturn, 1) := by decide +kernel
theorem dX3_told_94 : decode cX3_told 94 = .ok (.aload_n 3, 1) := by decide +kernel
theorem dX3_told_95 : decode cX3_told 95 = .ok (.invokevirtual 183, 3) := by decide +kernel
theorem dX3_told_98 : decode cX3_told 98 = .ok (.ireturn, 1) := by decide +kernel
theorem dX3_told_99 : decode cX3_told 99 = .ok (.aload_n 3, 1) := by decide +kernel
theorem dX3_told_100 : decode cX3_told 100 = .ok (.getfield 120, 3) := by decide +kernel
theorem dX3_told_103 : decode cX3_told 103 = .ok (.ifCond .eq 7, 3) := by decide +kernel
theorem dX3_told_106 : decode cX3_told 106 = .ok (.iconst 1, 1) := by decide +kernel
theorem dX3_told_107 : decode cX3_told 107 = .ok (.goto 4, 3) := by decide +kernel
theorem dX3_told_110 : decode cX3_told 110 = .ok (.iconst 0, 1) := by decide +kernel
theorem dX3_told_111 : decode cX3_told 111 = .ok (.ireturn, 1) := by decide +kernel
theorem dX3_told_112 : decode cX3_told 112 = .ok (.aload_n 3, 1) := by decide +kernel
theorem dX3_told_113 : decode cX3_told 113 = .ok (.getfield 120, 3) := by decide +kernel
theorem dX3_told_116 : decode cX3_told 116 = .ok (.ifCond .eq 10, 3) := by decide +kernel
theorem dX3_told_119 : decode cX3_told 119 = .ok (.aload_n 3, 1) := by decide +kernel
theorem dX3_told_120 : decode cX3_told 120 = .ok (.invokevirtual 186, 3) := by decide +kernel
theorem dX3_told_123 : decode cX3_told 123 = .ok (.goto 4, 3) := by decide +kernel
theorem dX3_told_126 : decode cX3_told 126 = .ok (.iconst 0, 1) := by decide +kernel
theorem dX3_told_127 : decode cX3_told 127 = .ok (.ireturn, 1) := by decide +kernel
theorem dX3_told_128 : decode cX3_told 128 = .ok (.aload_n 3, 1) := by decide +kernel
theorem dX3_told_129 : decode cX3_told 129 = .ok (.getfield 153, 3) := by decide +kernel
theorem dX3_told_132 : decode cX3_told 132 = .ok (.ireturn, 1) := by decide +kernel
theorem dX3_told_133 : decode cX3_told 133 = .ok (.aload_n 3, 1) := by decide +kernel
theorem dX3_told_134 : decode cX3_told 134 = .ok (.getfield 120, 3) := by decide +kernel
theorem dX3_told_137 : decode cX3_told 137 = .ok (.ifCond .eq 11, 3) := by decide +kernel
theorem dX3_told_140 : decode cX3_told 140 = .ok (.aload_n 0, 1) := by decide +kernel
theorem dX3_told_141 : decode cX3_told 141 = .ok (.aload_n 3, 1) := by decide +kernel
theorem dX3_told_142 : decode cX3_told 142 = .ok (.invokevirtual 150, 3) := by decide +kernel
theorem dX3_told_145 : decode cX3_told 145 = .ok (.goto 4, 3) := by decide +kernel
theorem dX3_told_148 : decode cX3_told 148 = .ok (.iconst 0, 1) := by decide +kernel
theorem dX3_told_149 : decode cX3_told 149 = .ok (.ireturn, 1) := by decide +kernel
theorem dX3_told_150 : decode cX3_told 150 = .ok (.new 67, 3) := by decide +kernel
theorem dX3_told_153 : decode cX3_told 153 = .ok (.dup, 1) := by decide +kernel
theorem dX3_told_154 : decode cX3_told 154 = .ok (.ldc 189, 2) := by decide +kernel
theorem dX3_told_156 : decode cX3_told 156 = .ok (.invokespecial 71, 3) := by decide +kernel
theorem dX3_told_159 : decode cX3_told 159 = .ok (.athrow, 1) := by decide +kernel
theorem dX3_about_0 : decode cX3_about 0 = .ok (.aload_n 0, 1) := by decide +kernel
theorem dX3_about_1 : decode cX3_about 1 = .ok (.iload_n 1, 1) := by decide +kernel
theorem dX3_about_2 : decode cX3_about 2 = .ok (.invokevirtual 112, 3) := by decide +kernel
theorem dX3_about_5 : decode cX3_about 5 = .ok (.ifCond .ne 13, 3) := by decide +kernel
theorem dX3_about_8 : decode cX3_about 8 = .ok (.new 67, 3) := by decide +kernel
theorem dX3_about_11 : decode cX3_about 11 = .ok (.dup, 1) := by decide +kernel
theorem dX3_about_12 : decode cX3_about 12 = .ok (.ldc 115, 2) := by decide +kernel
theorem dX3_about_14 : decode cX3_about 14 = .ok (.invokespecial 71, 3) := by decide +kernel
theorem dX3_about_17 : decode cX3_about 17 = .ok (.athrow, 1) := by decide +kernel
theorem dX3_about_18 : decode cX3_about 18 = .ok (.aload_n 0, 1) := by decide +kernel
theorem dX3_about_19 : decode cX3_about 19 = .ok (.getfield 16, 3) := by decide +kernel
theorem dX3_about_22 : decode cX3_about 22 = .ok (.iload_n 1, 1) := by decide +kernel
theorem dX3_about_23 : decode cX3_about 23 = .ok (.invokevirtual 74, 3) := by decide +kernel
theorem dX3_about_26 : decode cX3_about 26 = .ok (.checkcast 109, 3) := by decide +kernel
theorem dX3_about_29 : decode cX3_about 29 = .ok (.astore 4, 2) := by decide +kernel
theorem dX3_about_31 : decode cX3_about 31 = .ok (.iload_n 2, 1) := by decide +kernel
theorem dX3_about_32 : decode cX3_about 32 = .ok (.ifCond .lt 15, 3) := by decide +kernel
theorem dX3_about_35 : decode cX3_about 35 = .ok (.iload_n 2, 1) := by decide +kernel
theorem dX3_about_36 : decode cX3_about 36 = .ok (.aload 4, 2) := by decide +kernel
theorem dX3_about_38 : decode cX3_about 38 = .ok (.getfield 124, 3) := by decide +kernel
theorem dX3_about_41 : decode cX3_about 41 = .ok (.invokevirtual 42, 3) := by decide +kernel
theorem dX3_about_44 : decode cX3_about 44 = .ok (.if_icmp .lt 13, 3) := by decide +kernel
theorem dX3_about_47 : decode cX3_about 47 = .ok (.new 67, 3) := by decide +kernel
theorem dX3_about_50 : decode cX3_about 50 = .ok (.dup, 1) := by decide +kernel
theorem dX3_about_51 : decode cX3_about 51 = .ok (.ldc 191, 2) := by decide +kernel
theorem dX3_about_53 : decode cX3_about 53 = .ok (.invokespecial 71, 3) := by decide +kernel
theorem dX3_about_56 : decode cX3_about 56 = .ok (.athrow, 1) := by decide +kernel
theorem dX3_about_57 : decode cX3_about 57 = .ok (.aload 4, 2) := by decide +kernel
theorem dX3_about_59 : decode cX3_about 59 = .ok (.getfield 124, 3) := by decide +kernel
theorem dX3_about_62 : decode cX3_about 62 = .ok (.iload_n 2, 1) := by decide +kernel
theorem dX3_about_63 : decode cX3_about 63 = .ok (.invokevirtual 74, 3) := by decide +kernel
theorem dX3_about_66 : decode cX3_about 66 = .ok (.checkcast 129, 3) := by decide +kernel
theorem dX3_about_69 : decode cX3_about 69 = .ok (.astore 5, 2) := by decide +kernel
theorem dX3_about_71 : decode cX3_about 71 = .ok (.iload_n 3, 1) := by decide +kernel
theorem dX3_about_72 : decode cX3_about 72 = .ok (.tableswitch 92 0 3 #[32, 38, 56, 74], 32) := by decide +kernel
theorem dX3_about_104 : decode cX3_about 104 = .ok (.aload 5, 2) := by decide +kernel
theorem dX3_about_106 : decode cX3_about 106 = .ok (.getfield 193, 3) := by decide +kernel
theorem dX3_about_109 : decode cX3_about 109 = .ok (.ireturn, 1) := by decide +kernel
theorem dX3_about_110 : decode cX3_about 110 = .ok (.aload 4, 2) := by decide +kernel
theorem dX3_about_112 : decode cX3_about 112 = .ok (.getfield 120, 3) := by decide +kernel
theorem dX3_about_115 : decode cX3_about 115 = .ok (.ifCond .eq 11, 3) := by decide +kernel
theorem dX3_about_118 : decode cX3_about 118 = .ok (.aload 5, 2) := by decide +kernel
theorem dX3_about_120 : decode cX3_about 120 = .ok (.invokevirtual 195, 3) := by decide +kernel
theorem dX3_about_123 : decode cX3_about 123 = .ok (.goto 4, 3) := by decide +kernel
theorem dX3_about_126 : decode cX3_about 126 = .ok (.iconst (-1), 1) := by decide +kernel
theorem dX3_about_127 : decode cX3_about 127 = .ok (.ireturn, 1) := by decide +kernel
theorem dX3_about_128 : decode cX3_about 128 = .ok (.aload 4, 2) := by decide +kernel
theorem dX3_about_130 : decode cX3_about 130 = .ok (.getfield 120, 3) := by decide +kernel
theorem dX3_about_133 : decode cX3_about 133 = .ok (.ifCond .eq 11, 3) := by decide +kernel
theorem dX3_about_136 : decode cX3_about 136 = .ok (.aload 5, 2) := by decide +kernel
theorem dX3_about_138 : decode cX3_about 138 = .ok (.getfield 198, 3) := by decide +kernel
theorem dX3_about_141 : decode cX3_about 141 = .ok (.goto 4, 3) := by decide +kernel
theorem dX3_about_144 : decode cX3_about 144 = .ok (.iconst (-1), 1) := by decide +kernel
theorem dX3_about_145 : decode cX3_about 145 = .ok (.ireturn, 1) := by decide +kernel
theorem dX3_about_146 : decode cX3_about 146 = .ok (.aload 4, 2) := by decide +kernel
theorem dX3_about_148 : decode cX3_about 148 = .ok (.getfield 120, 3) := by decide +kernel
theorem dX3_about_151 : decode cX3_about 151 = .ok (.ifCond .eq 11, 3) := by decide +kernel
theorem dX3_about_154 : decode cX3_about 154 = .ok (.aload 5, 2) := by decide +kernel
theorem dX3_about_156 : decode cX3_about 156 = .ok (.getfield 201, 3) := by decide +kernel
theorem dX3_about_159 : decode cX3_about 159 = .ok (.goto 4, 3) := by decide +kernel
theorem dX3_about_162 : decode cX3_about 162 = .ok (.iconst (-1), 1) := by decide +kernel
theorem dX3_about_163 : decode cX3_about 163 = .ok (.ireturn, 1) := by decide +kernel
theorem dX3_about_164 : decode cX3_about 164 = .ok (.new 67, 3) := by decide +kernel
theorem dX3_about_167 : decode cX3_about 167 = .ok (.dup, 1) := by decide +kernel
theorem dX3_about_168 : decode cX3_about 168 = .ok (.ldc 204, 2) := by decide +kernel
theorem dX3_about_170 : decode cX3_about 170 = .ok (.invokespecial 71, 3) := by decide +kernel
theorem dX3_about_173 : decode cX3_about 173 = .ok (.athrow, 1) := by decide +kernel
theorem dX3_count_0 : decode cX3_count 0 = .ok (.iload_n 1, 1) := by decide +kernel
theorem dX3_count_1 : decode cX3_count 1 = .ok (.tableswitch 89 0 6 #[43, 51, 59, 64, 69, 74, 79], 43) := by decide +kernel
theorem dX3_count_44 : decode cX3_count 44 = .ok (.aload_n 0, 1) := by decide +kernel
theorem dX3_count_45 : decode cX3_count 45 = .ok (.getfield 10, 3) := by decide +kernel
theorem dX3_count_48 : decode cX3_count 48 = .ok (.invokevirtual 42, 3) := by decide +kernel
theorem dX3_count_51 : decode cX3_count 51 = .ok (.ireturn, 1) := by decide +kernel
theorem dX3_count_52 : decode cX3_count 52 = .ok (.aload_n 0, 1) := by decide +kernel
theorem dX3_count_53 : decode cX3_count 53 = .ok (.getfield 16, 3) := by decide +kernel
theorem dX3_count_56 : decode cX3_count 56 = .ok (.invokevirtual 42, 3) := by decide +kernel
theorem dX3_count_59 : decode cX3_count 59 = .ok (.ireturn, 1) := by decide +kernel
theorem dX3_count_60 : decode cX3_count 60 = .ok (.aload_n 0, 1) := by decide +kernel
theorem dX3_count_61 : decode cX3_count 61 = .ok (.invokevirtual 206, 3) := by decide +kernel
theorem dX3_count_64 : decode cX3_count 64 = .ok (.ireturn, 1) := by decide +kernel
theorem dX3_count_65 : decode cX3_count 65 = .ok (.aload_n 0, 1) := by decide +kernel
theorem dX3_count_66 : decode cX3_count 66 = .ok (.getfield 157, 3) := by decide +kernel
theorem dX3_count_69 : decode cX3_count 69 = .ok (.ireturn, 1) := by decide +kernel
theorem dX3_count_70 : decode cX3_count 70 = .ok (.aload_n 0, 1) := by decide +kernel
theorem dX3_count_71 : decode cX3_count 71 = .ok (.getfield 166, 3) := by decide +kernel
theorem dX3_count_74 : decode cX3_count 74 = .ok (.ireturn, 1) := by decide +kernel
theorem dX3_count_75 : decode cX3_count 75 = .ok (.aload_n 0, 1) := by decide +kernel
theorem dX3_count_76 : decode cX3_count 76 = .ok (.invokevirtual 209, 3) := by decide +kernel
theorem dX3_count_79 : decode cX3_count 79 = .ok (.ireturn, 1) := by decide +kernel
theorem dX3_count_80 : decode cX3_count 80 = .ok (.aload_n 0, 1) := by decide +kernel
theorem dX3_count_81 : decode cX3_count 81 = .ok (.invokevirtual 209, 3) := by decide +kernel
theorem dX3_count_84 : decode cX3_count 84 = .ok (.aload_n 0, 1) := by decide +kernel
theorem dX3_count_85 : decode cX3_count 85 = .ok (.invokevirtual 212, 3) := by decide +kernel
theorem dX3_count_88 : decode cX3_count 88 = .ok (.isub, 1) := by decide +kernel
theorem dX3_count_89 : decode cX3_count 89 = .ok (.ireturn, 1) := by decide +kernel
theorem dX3_count_90 : decode cX3_count 90 = .ok (.new 67, 3) := by decide +kernel
theorem dX3_count_93 : decode cX3_count 93 = .ok (.dup, 1) := by decide +kernel
theorem dX3_count_94 : decode cX3_count 94 = .ok (.ldc 215, 2) := by decide +kernel
theorem dX3_count_96 : decode cX3_count 96 = .ok (.invokespecial 71, 3) := by decide +kernel
theorem dX3_count_99 : decode cX3_count 99 = .ok (.athrow, 1) := by decide +kernel
theorem dX3_would_0 : decode cX3_would 0 = .ok (.aload_n 0, 1) := by decide +kernel
theorem dX3_would_1 : decode cX3_would 1 = .ok (.iload_n 1, 1) := by decide +kernel
theorem dX3_would_2 : decode cX3_would 2 = .ok (.invokevirtual 112, 3) := by decide +kernel
theorem dX3_would_5 : decode cX3_would 5 = .ok (.ifCond .eq 12, 3) := by decide +kernel
theorem dX3_would_8 : decode cX3_would 8 = .ok (.iload_n 2, 1) := by decide +kernel
theorem dX3_would_9 : decode cX3_would 9 = .ok (.ifCond .lt 8, 3) := by decide +kernel
theorem dX3_would_12 : decode cX3_would 12 = .ok (.iload_n 2, 1) := by decide +kernel
theorem dX3_would_13 : decode cX3_would 13 = .ok (.iconst 1, 1) := by decide +kernel
theorem dX3_would_14 : decode cX3_would 14 = .ok (.if_icmp .le 13, 3) := by decide +kernel
theorem dX3_would_17 : decode cX3_would 17 = .ok (.new 67, 3) := by decide +kernel
theorem dX3_would_20 : decode cX3_would 20 = .ok (.dup, 1) := by decide +kernel
theorem dX3_would_21 : decode cX3_would 21 = .ok (.ldc 217, 2) := by decide +kernel
theorem dX3_would_23 : decode cX3_would 23 = .ok (.invokespecial 71, 3) := by decide +kernel
theorem dX3_would_26 : decode cX3_would 26 = .ok (.athrow, 1) := by decide +kernel
theorem dX3_would_27 : decode cX3_would 27 = .ok (.aload_n 0, 1) := by decide +kernel
theorem dX3_would_28 : decode cX3_would 28 = .ok (.getfield 16, 3) := by decide +kernel
theorem dX3_would_31 : decode cX3_would 31 = .ok (.iload_n 1, 1) := by decide +kernel
theorem dX3_would_32 : decode cX3_would 32 = .ok (.invokevirtual 74, 3) := by decide +kernel
theorem dX3_would_35 : decode cX3_would 35 = .ok (.checkcast 109, 3) := by decide +kernel
theorem dX3_would_38 : decode cX3_would 38 = .ok (.astore_n 3, 1) := by decide +kernel
theorem dX3_would_39 : decode cX3_would 39 = .ok (.iload_n 2, 1) := by decide +kernel
theorem dX3_would_40 : decode cX3_would 40 = .ok (.ifCond .ne 11, 3) := by decide +kernel
theorem dX3_would_43 : decode cX3_would 43 = .ok (.aload_n 0, 1) := by decide +kernel
theorem dX3_would_44 : decode cX3_would 44 = .ok (.aload_n 3, 1) := by decide +kernel
theorem dX3_would_45 : decode cX3_would 45 = .ok (.invokevirtual 219, 3) := by decide +kernel
theorem dX3_would_48 : decode cX3_would 48 = .ok (.goto 8, 3) := by decide +kernel
theorem dX3_would_51 : decode cX3_would 51 = .ok (.aload_n 0, 1) := by decide +kernel
theorem dX3_would_52 : decode cX3_would 52 = .ok (.aload_n 3, 1) := by decide +kernel
theorem dX3_would_53 : decode cX3_would 53 = .ok (.invokevirtual 134, 3) := by decide +kernel
theorem dX3_would_56 : decode cX3_would 56 = .ok (.ireturn, 1) := by decide +kernel
theorem dX3_next_0 : decode cX3_next 0 = .ok (.iconst (-1), 1) := by decide +kernel
theorem dX3_next_1 : decode cX3_next 1 = .ok (.istore_n 1, 1) := by decide +kernel
theorem dX3_next_2 : decode cX3_next 2 = .ok (.iconst (-1), 1) := by decide +kernel
theorem dX3_next_3 : decode cX3_next 3 = .ok (.istore_n 2, 1) := by decide +kernel
theorem dX3_next_4 : decode cX3_next 4 = .ok (.iconst 0, 1) := by decide +kernel
theorem dX3_next_5 : decode cX3_next 5 = .ok (.istore_n 3, 1) := by decide +kernel
theorem dX3_next_6 : decode cX3_next 6 = .ok (.iload_n 3, 1) := by decide +kernel
theorem dX3_next_7 : decode cX3_next 7 = .ok (.aload_n 0, 1) := by decide +kernel
theorem dX3_next_8 : decode cX3_next 8 = .ok (.getfield 16, 3) := by decide +kernel
theorem dX3_next_11 : decode cX3_next 11 = .ok (.invokevirtual 42, 3) := by decide +kernel
theorem dX3_next_14 : decode cX3_next 14 = .ok (.if_icmp .ge 37, 3) := by decide +kernel
theorem dX3_next_17 : decode cX3_next 17 = .ok (.aload_n 0, 1) := by decide +kernel
theorem dX3_next_18 : decode cX3_next 18 = .ok (.aload_n 0, 1) := by decide +kernel
theorem dX3_next_19 : decode cX3_next 19 = .ok (.getfield 16, 3) := by decide +kernel
theorem dX3_next_22 : decode cX3_next 22 = .ok (.iload_n 3, 1) := by decide +kernel
theorem dX3_next_23 : decode cX3_next 23 = .ok (.invokevirtual 74, 3) := by decide +kernel
theorem dX3_next_26 : decode cX3_next 26 = .ok (.checkcast 109, 3) := by decide +kernel
theorem dX3_next_29 : decode cX3_next 29 = .ok (.invokevirtual 219, 3) := by decide +kernel
theorem dX3_next_32 : decode cX3_next 32 = .ok (.istore 4, 2) := by decide +kernel
theorem dX3_next_34 : decode cX3_next 34 = .ok (.iload 4, 2) := by decide +kernel
theorem dX3_next_36 : decode cX3_next 36 = .ok (.iload_n 2, 1) := by decide +kernel
theorem dX3_next_37 : decode cX3_next 37 = .ok (.if_icmp .le 8, 3) := by decide +kernel
theorem dX3_next_40 : decode cX3_next 40 = .ok (.iload_n 3, 1) := by decide +kernel
theorem dX3_next_41 : decode cX3_next 41 = .ok (.istore_n 1, 1) := by decide +kernel
theorem dX3_next_42 : decode cX3_next 42 = .ok (.iload 4, 2) := by decide +kernel
theorem dX3_next_44 : decode cX3_next 44 = .ok (.istore_n 2, 1) := by decide +kernel
theorem dX3_next_45 : decode cX3_next 45 = .ok (.iinc 3 1, 3) := by decide +kernel
theorem dX3_next_48 : decode cX3_next 48 = .ok (.goto (-42), 3) := by decide +kernel
theorem dX3_next_51 : decode cX3_next 51 = .ok (.iload_n 1, 1) := by decide +kernel
theorem dX3_next_52 : decode cX3_next 52 = .ok (.ireturn, 1) := by decide +kernel
theorem dX3_lasts_0 : decode cX3_lasts 0 = .ok (.aload_n 0, 1) := by decide +kernel
theorem dX3_lasts_1 : decode cX3_lasts 1 = .ok (.iload_n 1, 1) := by decide +kernel
theorem dX3_lasts_2 : decode cX3_lasts 2 = .ok (.invokevirtual 112, 3) := by decide +kernel
theorem dX3_lasts_5 : decode cX3_lasts 5 = .ok (.ifCond .ne 13, 3) := by decide +kernel
theorem dX3_lasts_8 : decode cX3_lasts 8 = .ok (.new 67, 3) := by decide +kernel
theorem dX3_lasts_11 : decode cX3_lasts 11 = .ok (.dup, 1) := by decide +kernel
theorem dX3_lasts_12 : decode cX3_lasts 12 = .ok (.ldc 115, 2) := by decide +kernel
theorem dX3_lasts_14 : decode cX3_lasts 14 = .ok (.invokespecial 71, 3) := by decide +kernel
theorem dX3_lasts_17 : decode cX3_lasts 17 = .ok (.athrow, 1) := by decide +kernel
theorem dX3_lasts_18 : decode cX3_lasts 18 = .ok (.aload_n 0, 1) := by decide +kernel
theorem dX3_lasts_19 : decode cX3_lasts 19 = .ok (.getfield 16, 3) := by decide +kernel
theorem dX3_lasts_22 : decode cX3_lasts 22 = .ok (.iload_n 1, 1) := by decide +kernel
theorem dX3_lasts_23 : decode cX3_lasts 23 = .ok (.invokevirtual 74, 3) := by decide +kernel
theorem dX3_lasts_26 : decode cX3_lasts 26 = .ok (.checkcast 109, 3) := by decide +kernel
theorem dX3_lasts_29 : decode cX3_lasts 29 = .ok (.astore_n 2, 1) := by decide +kernel
theorem dX3_lasts_30 : decode cX3_lasts 30 = .ok (.aload_n 2, 1) := by decide +kernel
theorem dX3_lasts_31 : decode cX3_lasts 31 = .ok (.getfield 120, 3) := by decide +kernel
theorem dX3_lasts_34 : decode cX3_lasts 34 = .ok (.ifCond .ne 13, 3) := by decide +kernel
theorem dX3_lasts_37 : decode cX3_lasts 37 = .ok (.new 46, 3) := by decide +kernel
theorem dX3_lasts_40 : decode cX3_lasts 40 = .ok (.dup, 1) := by decide +kernel
theorem dX3_lasts_41 : decode cX3_lasts 41 = .ok (.ldc 145, 2) := by decide +kernel
theorem dX3_lasts_43 : decode cX3_lasts 43 = .ok (.invokespecial 50, 3) := by decide +kernel
theorem dX3_lasts_46 : decode cX3_lasts 46 = .ok (.athrow, 1) := by decide +kernel
theorem dX3_lasts_47 : decode cX3_lasts 47 = .ok (.sipush 400, 3) := by decide +kernel
theorem dX3_lasts_50 : decode cX3_lasts 50 = .ok (.istore_n 3, 1) := by decide +kernel
theorem dX3_lasts_51 : decode cX3_lasts 51 = .ok (.iconst 0, 1) := by decide +kernel
theorem dX3_lasts_52 : decode cX3_lasts 52 = .ok (.istore 4, 2) := by decide +kernel
theorem dX3_lasts_54 : decode cX3_lasts 54 = .ok (.iload 4, 2) := by decide +kernel
theorem dX3_lasts_56 : decode cX3_lasts 56 = .ok (.aload_n 0, 1) := by decide +kernel
theorem dX3_lasts_57 : decode cX3_lasts 57 = .ok (.getfield 10, 3) := by decide +kernel
theorem dX3_lasts_60 : decode cX3_lasts 60 = .ok (.invokevirtual 42, 3) := by decide +kernel
theorem dX3_lasts_63 : decode cX3_lasts 63 = .ok (.if_icmp .ge 48, 3) := by decide +kernel
theorem dX3_lasts_66 : decode cX3_lasts 66 = .ok (.iconst 0, 1) := by decide +kernel
theorem dX3_lasts_67 : decode cX3_lasts 67 = .ok (.istore 5, 2) := by decide +kernel
theorem dX3_lasts_69 : decode cX3_lasts 69 = .ok (.iload 5, 2) := by decide +kernel
theorem dX3_lasts_71 : decode cX3_lasts 71 = .ok (.bipush 10, 2) := by decide +kernel
theorem dX3_lasts_73 : decode cX3_lasts 73 = .ok (.if_icmp .ge 32, 3) := by decide +kernel
theorem dX3_lasts_76 : decode cX3_lasts 76 = .ok (.iload_n 3, 1) := by decide +kernel
theorem dX3_lasts_77 : decode cX3_lasts 77 = .ok (.aload_n 2, 1) := by decide +kernel
theorem dX3_lasts_78 : decode cX3_lasts 78 = .ok (.aload_n 0, 1) := by decide +kernel
theorem dX3_lasts_79 : decode cX3_lasts 79 = .ok (.getfield 10, 3) := by decide +kernel
theorem dX3_lasts_82 : decode cX3_lasts 82 = .ok (.iload 4, 2) := by decide +kernel
theorem dX3_lasts_84 : decode cX3_lasts 84 = .ok (.invokevirtual 74, 3) := by decide +kernel
theorem dX3_lasts_87 : decode cX3_lasts 87 = .ok (.checkcast 51, 3) := by decide +kernel
theorem dX3_lasts_90 : decode cX3_lasts 90 = .ok (.iload 5, 2) := by decide +kernel
theorem dX3_lasts_92 : decode cX3_lasts 92 = .ok (.invokestatic 234, 3) := by decide +kernel
theorem dX3_lasts_95 : decode cX3_lasts 95 = .ok (.invokestatic 88, 3) := by decide +kernel
theorem dX3_lasts_98 : decode cX3_lasts 98 = .ok (.istore_n 3, 1) := by decide +kernel
theorem dX3_lasts_99 : decode cX3_lasts 99 = .ok (.iinc 5 1, 3) := by decide +kernel
theorem dX3_lasts_102 : decode cX3_lasts 102 = .ok (.goto (-33), 3) := by decide +kernel
theorem dX3_lasts_105 : decode cX3_lasts 105 = .ok (.iinc 4 1, 3) := by decide +kernel
theorem dX3_lasts_108 : decode cX3_lasts 108 = .ok (.goto (-54), 3) := by decide +kernel
theorem dX3_lasts_111 : decode cX3_lasts 111 = .ok (.iload_n 3, 1) := by decide +kernel
theorem dX3_lasts_112 : decode cX3_lasts 112 = .ok (.ireturn, 1) := by decide +kernel
theorem dX3_mean_0 : decode cX3_mean 0 = .ok (.iconst 0, 1) := by decide +kernel
theorem dX3_mean_1 : decode cX3_mean 1 = .ok (.istore_n 1, 1) := by decide +kernel
theorem dX3_mean_2 : decode cX3_mean 2 = .ok (.iconst 0, 1) := by decide +kernel
theorem dX3_mean_3 : decode cX3_mean 3 = .ok (.istore_n 2, 1) := by decide +kernel
theorem dX3_mean_4 : decode cX3_mean 4 = .ok (.iconst 0, 1) := by decide +kernel
theorem dX3_mean_5 : decode cX3_mean 5 = .ok (.istore_n 3, 1) := by decide +kernel
theorem dX3_mean_6 : decode cX3_mean 6 = .ok (.iload_n 3, 1) := by decide +kernel
theorem dX3_mean_7 : decode cX3_mean 7 = .ok (.aload_n 0, 1) := by decide +kernel
theorem dX3_mean_8 : decode cX3_mean 8 = .ok (.getfield 16, 3) := by decide +kernel
theorem dX3_mean_11 : decode cX3_mean 11 = .ok (.invokevirtual 42, 3) := by decide +kernel
theorem dX3_mean_14 : decode cX3_mean 14 = .ok (.if_icmp .ge 46, 3) := by decide +kernel
theorem dX3_mean_17 : decode cX3_mean 17 = .ok (.aload_n 0, 1) := by decide +kernel
theorem dX3_mean_18 : decode cX3_mean 18 = .ok (.getfield 16, 3) := by decide +kernel
theorem dX3_mean_21 : decode cX3_mean 21 = .ok (.iload_n 3, 1) := by decide +kernel
theorem dX3_mean_22 : decode cX3_mean 22 = .ok (.invokevirtual 74, 3) := by decide +kernel
theorem dX3_mean_25 : decode cX3_mean 25 = .ok (.checkcast 109, 3) := by decide +kernel
theorem dX3_mean_28 : decode cX3_mean 28 = .ok (.astore 4, 2) := by decide +kernel
theorem dX3_mean_30 : decode cX3_mean 30 = .ok (.aload 4, 2) := by decide +kernel
theorem dX3_mean_32 : decode cX3_mean 32 = .ok (.getfield 120, 3) := by decide +kernel
theorem dX3_mean_35 : decode cX3_mean 35 = .ok (.ifCond .eq 19, 3) := by decide +kernel
theorem dX3_mean_38 : decode cX3_mean 38 = .ok (.iload_n 1, 1) := by decide +kernel
theorem dX3_mean_39 : decode cX3_mean 39 = .ok (.aload 4, 2) := by decide +kernel
theorem dX3_mean_41 : decode cX3_mean 41 = .ok (.invokevirtual 186, 3) := by decide +kernel
theorem dX3_mean_44 : decode cX3_mean 44 = .ok (.iadd, 1) := by decide +kernel
theorem dX3_mean_45 : decode cX3_mean 45 = .ok (.istore_n 1, 1) := by decide +kernel
theorem dX3_mean_46 : decode cX3_mean 46 = .ok (.iload_n 2, 1) := by decide +kernel
theorem dX3_mean_47 : decode cX3_mean 47 = .ok (.aload 4, 2) := by decide +kernel
theorem dX3_mean_49 : decode cX3_mean 49 = .ok (.invokevirtual 183, 3) := by decide +kernel
theorem dX3_mean_52 : decode cX3_mean 52 = .ok (.iadd, 1) := by decide +kernel
theorem dX3_mean_53 : decode cX3_mean 53 = .ok (.istore_n 2, 1) := by decide +kernel
theorem dX3_mean_54 : decode cX3_mean 54 = .ok (.iinc 3 1, 3) := by decide +kernel
theorem dX3_mean_57 : decode cX3_mean 57 = .ok (.goto (-51), 3) := by decide +kernel
theorem dX3_mean_60 : decode cX3_mean 60 = .ok (.iload_n 2, 1) := by decide +kernel
theorem dX3_mean_61 : decode cX3_mean 61 = .ok (.ifCond .le 11, 3) := by decide +kernel
theorem dX3_mean_64 : decode cX3_mean 64 = .ok (.iload_n 1, 1) := by decide +kernel
theorem dX3_mean_65 : decode cX3_mean 65 = .ok (.i2d, 1) := by decide +kernel
theorem dX3_mean_66 : decode cX3_mean 66 = .ok (.iload_n 2, 1) := by decide +kernel
theorem dX3_mean_67 : decode cX3_mean 67 = .ok (.i2d, 1) := by decide +kernel
theorem dX3_mean_68 : decode cX3_mean 68 = .ok (.ddiv, 1) := by decide +kernel
theorem dX3_mean_69 : decode cX3_mean 69 = .ok (.goto 4, 3) := by decide +kernel
theorem dX3_mean_72 : decode cX3_mean 72 = .ok (.dconst 0, 1) := by decide +kernel
theorem dX3_mean_73 : decode cX3_mean 73 = .ok (.dreturn, 1) := by decide +kernel
theorem dX3_digest_0 : decode cX3_digest 0 = .ok (.ldc2_w 237, 3) := by decide +kernel
theorem dX3_digest_3 : decode cX3_digest 3 = .ok (.lstore_n 1, 1) := by decide +kernel
theorem dX3_digest_4 : decode cX3_digest 4 = .ok (.iconst 0, 1) := by decide +kernel
theorem dX3_digest_5 : decode cX3_digest 5 = .ok (.istore_n 3, 1) := by decide +kernel
theorem dX3_digest_6 : decode cX3_digest 6 = .ok (.iload_n 3, 1) := by decide +kernel
theorem dX3_digest_7 : decode cX3_digest 7 = .ok (.bipush 7, 2) := by decide +kernel
theorem dX3_digest_9 : decode cX3_digest 9 = .ok (.if_icmp .ge 19, 3) := by decide +kernel
theorem dX3_digest_12 : decode cX3_digest 12 = .ok (.lload_n 1, 1) := by decide +kernel
theorem dX3_digest_13 : decode cX3_digest 13 = .ok (.aload_n 0, 1) := by decide +kernel
theorem dX3_digest_14 : decode cX3_digest 14 = .ok (.iload_n 3, 1) := by decide +kernel
theorem dX3_digest_15 : decode cX3_digest 15 = .ok (.invokevirtual 239, 3) := by decide +kernel
theorem dX3_digest_18 : decode cX3_digest 18 = .ok (.invokestatic 243, 3) := by decide +kernel
theorem dX3_digest_21 : decode cX3_digest 21 = .ok (.lstore_n 1, 1) := by decide +kernel
theorem dX3_digest_22 : decode cX3_digest 22 = .ok (.iinc 3 1, 3) := by decide +kernel
theorem dX3_digest_25 : decode cX3_digest 25 = .ok (.goto (-19), 3) := by decide +kernel
theorem dX3_digest_28 : decode cX3_digest 28 = .ok (.iconst 0, 1) := by decide +kernel
theorem dX3_digest_29 : decode cX3_digest 29 = .ok (.istore_n 3, 1) := by decide +kernel
theorem dX3_digest_30 : decode cX3_digest 30 = .ok (.iload_n 3, 1) := by decide +kernel
theorem dX3_digest_31 : decode cX3_digest 31 = .ok (.bipush 10, 2) := by decide +kernel
theorem dX3_digest_33 : decode cX3_digest 33 = .ok (.if_icmp .ge 20, 3) := by decide +kernel
theorem dX3_digest_36 : decode cX3_digest 36 = .ok (.lload_n 1, 1) := by decide +kernel
theorem dX3_digest_37 : decode cX3_digest 37 = .ok (.aload_n 0, 1) := by decide +kernel
theorem dX3_digest_38 : decode cX3_digest 38 = .ok (.getfield 19, 3) := by decide +kernel
theorem dX3_digest_41 : decode cX3_digest 41 = .ok (.iload_n 3, 1) := by decide +kernel
theorem dX3_digest_42 : decode cX3_digest 42 = .ok (.iaload, 1) := by decide +kernel
theorem dX3_digest_43 : decode cX3_digest 43 = .ok (.invokestatic 243, 3) := by decide +kernel
theorem dX3_digest_46 : decode cX3_digest 46 = .ok (.lstore_n 1, 1) := by decide +kernel
theorem dX3_digest_47 : decode cX3_digest 47 = .ok (.iinc 3 1, 3) := by decide +kernel
theorem dX3_digest_50 : decode cX3_digest 50 = .ok (.goto (-20), 3) := by decide +kernel
theorem dX3_digest_53 : decode cX3_digest 53 = .ok (.iconst 0, 1) := by decide +kernel
theorem dX3_digest_54 : decode cX3_digest 54 = .ok (.istore_n 3, 1) := by decide +kernel
theorem dX3_digest_55 : decode cX3_digest 55 = .ok (.iload_n 3, 1) := by decide +kernel
theorem dX3_digest_56 : decode cX3_digest 56 = .ok (.aload_n 0, 1) := by decide +kernel
theorem dX3_digest_57 : decode cX3_digest 57 = .ok (.getfield 10, 3) := by decide +kernel
theorem dX3_digest_60 : decode cX3_digest 60 = .ok (.invokevirtual 42, 3) := by decide +kernel
theorem dX3_digest_63 : decode cX3_digest 63 = .ok (.if_icmp .ge 16, 3) := by decide +kernel
theorem dX3_digest_66 : decode cX3_digest 66 = .ok (.aload_n 0, 1) := by decide +kernel
theorem dX3_digest_67 : decode cX3_digest 67 = .ok (.lload_n 1, 1) := by decide +kernel
theorem dX3_digest_68 : decode cX3_digest 68 = .ok (.iload_n 3, 1) := by decide +kernel
theorem dX3_digest_69 : decode cX3_digest 69 = .ok (.invokevirtual 247, 3) := by decide +kernel
theorem dX3_digest_72 : decode cX3_digest 72 = .ok (.lstore_n 1, 1) := by decide +kernel
theorem dX3_digest_73 : decode cX3_digest 73 = .ok (.iinc 3 1, 3) := by decide +kernel
theorem dX3_digest_76 : decode cX3_digest 76 = .ok (.goto (-21), 3) := by decide +kernel
theorem dX3_digest_79 : decode cX3_digest 79 = .ok (.iconst 0, 1) := by decide +kernel
theorem dX3_digest_80 : decode cX3_digest 80 = .ok (.istore_n 3, 1) := by decide +kernel
theorem dX3_digest_81 : decode cX3_digest 81 = .ok (.iload_n 3, 1) := by decide +kernel
theorem dX3_digest_82 : decode cX3_digest 82 = .ok (.aload_n 0, 1) := by decide +kernel
theorem dX3_digest_83 : decode cX3_digest 83 = .ok (.getfield 16, 3) := by decide +kernel
theorem dX3_digest_86 : decode cX3_digest 86 = .ok (.invokevirtual 42, 3) := by decide +kernel
theorem dX3_digest_89 : decode cX3_digest 89 = .ok (.if_icmp .ge 16, 3) := by decide +kernel
theorem dX3_digest_92 : decode cX3_digest 92 = .ok (.aload_n 0, 1) := by decide +kernel
theorem dX3_digest_93 : decode cX3_digest 93 = .ok (.lload_n 1, 1) := by decide +kernel
theorem dX3_digest_94 : decode cX3_digest 94 = .ok (.iload_n 3, 1) := by decide +kernel
theorem dX3_digest_95 : decode cX3_digest 95 = .ok (.invokevirtual 250, 3) := by decide +kernel
theorem dX3_digest_98 : decode cX3_digest 98 = .ok (.lstore_n 1, 1) := by decide +kernel
theorem dX3_digest_99 : decode cX3_digest 99 = .ok (.iinc 3 1, 3) := by decide +kernel
theorem dX3_digest_102 : decode cX3_digest 102 = .ok (.goto (-21), 3) := by decide +kernel
theorem dX3_digest_105 : decode cX3_digest 105 = .ok (.lload_n 1, 1) := by decide +kernel
theorem dX3_digest_106 : decode cX3_digest 106 = .ok (.lreturn, 1) := by decide +kernel
theorem dX3_mixed_0 : decode cX3_mixed 0 = .ok (.lload_n 0, 1) := by decide +kernel
theorem dX3_mixed_1 : decode cX3_mixed 1 = .ok (.ldc2_w 253, 3) := by decide +kernel
theorem dX3_mixed_4 : decode cX3_mixed 4 = .ok (.lmul, 1) := by decide +kernel
theorem dX3_mixed_5 : decode cX3_mixed 5 = .ok (.iload_n 2, 1) := by decide +kernel
theorem dX3_mixed_6 : decode cX3_mixed 6 = .ok (.i2l, 1) := by decide +kernel
theorem dX3_mixed_7 : decode cX3_mixed 7 = .ok (.ladd, 1) := by decide +kernel
theorem dX3_mixed_8 : decode cX3_mixed 8 = .ok (.lreturn, 1) := by decide +kernel
theorem dX3_mixedWithFount_0 : decode cX3_mixedWithFount 0 = .ok (.lload_n 1, 1) := by decide +kernel
theorem dX3_mixedWithFount_1 : decode cX3_mixedWithFount 1 = .ok (.aload_n 0, 1) := by decide +kernel
theorem dX3_mixedWithFount_2 : decode cX3_mixedWithFount 2 = .ok (.getfield 10, 3) := by decide +kernel
theorem dX3_mixedWithFount_5 : decode cX3_mixedWithFount 5 = .ok (.iload_n 3, 1) := by decide +kernel
theorem dX3_mixedWithFount_6 : decode cX3_mixedWithFount 6 = .ok (.invokevirtual 74, 3) := by decide +kernel
theorem dX3_mixedWithFount_9 : decode cX3_mixedWithFount 9 = .ok (.checkcast 51, 3) := by decide +kernel
theorem dX3_mixedWithFount_12 : decode cX3_mixedWithFount 12 = .ok (.getfield 255, 3) := by decide +kernel
theorem dX3_mixedWithFount_15 : decode cX3_mixedWithFount 15 = .ok (.invokestatic 243, 3) := by decide +kernel
theorem dX3_mixedWithFount_18 : decode cX3_mixedWithFount 18 = .ok (.lstore 4, 2) := by decide +kernel
theorem dX3_mixedWithFount_20 : decode cX3_mixedWithFount 20 = .ok (.iconst 0, 1) := by decide +kernel
theorem dX3_mixedWithFount_21 : decode cX3_mixedWithFount 21 = .ok (.istore 6, 2) := by decide +kernel
theorem dX3_mixedWithFount_23 : decode cX3_mixedWithFount 23 = .ok (.iload 6, 2) := by decide +kernel
theorem dX3_mixedWithFount_25 : decode cX3_mixedWithFount 25 = .ok (.bipush 10, 2) := by decide +kernel
theorem dX3_mixedWithFount_27 : decode cX3_mixedWithFount 27 = .ok (.if_icmp .ge 40, 3) := by decide +kernel
theorem dX3_mixedWithFount_30 : decode cX3_mixedWithFount 30 = .ok (.iconst 0, 1) := by decide +kernel
theorem dX3_mixedWithFount_31 : decode cX3_mixedWithFount 31 = .ok (.istore 7, 2) := by decide +kernel
theorem dX3_mixedWithFount_33 : decode cX3_mixedWithFount 33 = .ok (.iload 7, 2) := by decide +kernel
theorem dX3_mixedWithFount_35 : decode cX3_mixedWithFount 35 = .ok (.iconst 3, 1) := by decide +kernel
theorem dX3_mixedWithFount_36 : decode cX3_mixedWithFount 36 = .ok (.if_icmp .ge 25, 3) := by decide +kernel
theorem dX3_mixedWithFount_39 : decode cX3_mixedWithFount 39 = .ok (.lload 4, 2) := by decide +kernel
theorem dX3_mixedWithFount_41 : decode cX3_mixedWithFount 41 = .ok (.aload_n 0, 1) := by decide +kernel
theorem dX3_mixedWithFount_42 : decode cX3_mixedWithFount 42 = .ok (.iload_n 3, 1) := by decide +kernel
theorem dX3_mixedWithFount_43 : decode cX3_mixedWithFount 43 = .ok (.iload 6, 2) := by decide +kernel
theorem dX3_mixedWithFount_45 : decode cX3_mixedWithFount 45 = .ok (.iload 7, 2) := by decide +kernel
theorem dX3_mixedWithFount_47 : decode cX3_mixedWithFount 47 = .ok (.invokevirtual 258, 3) := by decide +kernel
theorem dX3_mixedWithFount_50 : decode cX3_mixedWithFount 50 = .ok (.invokestatic 243, 3) := by decide +kernel
theorem dX3_mixedWithFount_53 : decode cX3_mixedWithFount 53 = .ok (.lstore 4, 2) := by decide +kernel
theorem dX3_mixedWithFount_55 : decode cX3_mixedWithFount 55 = .ok (.iinc 7 1, 3) := by decide +kernel
theorem dX3_mixedWithFount_58 : decode cX3_mixedWithFount 58 = .ok (.goto (-25), 3) := by decide +kernel
theorem dX3_mixedWithFount_61 : decode cX3_mixedWithFount 61 = .ok (.iinc 6 1, 3) := by decide +kernel
theorem dX3_mixedWithFount_64 : decode cX3_mixedWithFount 64 = .ok (.goto (-41), 3) := by decide +kernel
theorem dX3_mixedWithFount_67 : decode cX3_mixedWithFount 67 = .ok (.lload 4, 2) := by decide +kernel
theorem dX3_mixedWithFount_69 : decode cX3_mixedWithFount 69 = .ok (.lreturn, 1) := by decide +kernel
theorem dX3_mixedWithPoster_0 : decode cX3_mixedWithPoster 0 = .ok (.lload_n 1, 1) := by decide +kernel
theorem dX3_mixedWithPoster_1 : decode cX3_mixedWithPoster 1 = .ok (.lstore 4, 2) := by decide +kernel
theorem dX3_mixedWithPoster_3 : decode cX3_mixedWithPoster 3 = .ok (.iconst 0, 1) := by decide +kernel
theorem dX3_mixedWithPoster_4 : decode cX3_mixedWithPoster 4 = .ok (.istore 6, 2) := by decide +kernel
theorem dX3_mixedWithPoster_6 : decode cX3_mixedWithPoster 6 = .ok (.iload 6, 2) := by decide +kernel
theorem dX3_mixedWithPoster_8 : decode cX3_mixedWithPoster 8 = .ok (.bipush 8, 2) := by decide +kernel
theorem dX3_mixedWithPoster_10 : decode cX3_mixedWithPoster 10 = .ok (.if_icmp .ge 23, 3) := by decide +kernel
theorem dX3_mixedWithPoster_13 : decode cX3_mixedWithPoster 13 = .ok (.lload 4, 2) := by decide +kernel
theorem dX3_mixedWithPoster_15 : decode cX3_mixedWithPoster 15 = .ok (.aload_n 0, 1) := by decide +kernel
theorem dX3_mixedWithPoster_16 : decode cX3_mixedWithPoster 16 = .ok (.iload_n 3, 1) := by decide +kernel
theorem dX3_mixedWithPoster_17 : decode cX3_mixedWithPoster 17 = .ok (.iload 6, 2) := by decide +kernel
theorem dX3_mixedWithPoster_19 : decode cX3_mixedWithPoster 19 = .ok (.invokevirtual 262, 3) := by decide +kernel
theorem dX3_mixedWithPoster_22 : decode cX3_mixedWithPoster 22 = .ok (.invokestatic 243, 3) := by decide +kernel
theorem dX3_mixedWithPoster_25 : decode cX3_mixedWithPoster 25 = .ok (.lstore 4, 2) := by decide +kernel
theorem dX3_mixedWithPoster_27 : decode cX3_mixedWithPoster 27 = .ok (.iinc 6 1, 3) := by decide +kernel
theorem dX3_mixedWithPoster_30 : decode cX3_mixedWithPoster 30 = .ok (.goto (-24), 3) := by decide +kernel
theorem dX3_mixedWithPoster_33 : decode cX3_mixedWithPoster 33 = .ok (.aload_n 0, 1) := by decide +kernel
theorem dX3_mixedWithPoster_34 : decode cX3_mixedWithPoster 34 = .ok (.getfield 16, 3) := by decide +kernel
theorem dX3_mixedWithPoster_37 : decode cX3_mixedWithPoster 37 = .ok (.iload_n 3, 1) := by decide +kernel
theorem dX3_mixedWithPoster_38 : decode cX3_mixedWithPoster 38 = .ok (.invokevirtual 74, 3) := by decide +kernel
theorem dX3_mixedWithPoster_41 : decode cX3_mixedWithPoster 41 = .ok (.checkcast 109, 3) := by decide +kernel
theorem dX3_mixedWithPoster_44 : decode cX3_mixedWithPoster 44 = .ok (.getfield 124, 3) := by decide +kernel
theorem dX3_mixedWithPoster_47 : decode cX3_mixedWithPoster 47 = .ok (.invokevirtual 42, 3) := by decide +kernel
theorem dX3_mixedWithPoster_50 : decode cX3_mixedWithPoster 50 = .ok (.istore 6, 2) := by decide +kernel
theorem dX3_mixedWithPoster_52 : decode cX3_mixedWithPoster 52 = .ok (.iconst 0, 1) := by decide +kernel
theorem dX3_mixedWithPoster_53 : decode cX3_mixedWithPoster 53 = .ok (.istore 7, 2) := by decide +kernel
theorem dX3_mixedWithPoster_55 : decode cX3_mixedWithPoster 55 = .ok (.iload 7, 2) := by decide +kernel
theorem dX3_mixedWithPoster_57 : decode cX3_mixedWithPoster 57 = .ok (.iload 6, 2) := by decide +kernel
theorem dX3_mixedWithPoster_59 : decode cX3_mixedWithPoster 59 = .ok (.if_icmp .ge 40, 3) := by decide +kernel
theorem dX3_mixedWithPoster_62 : decode cX3_mixedWithPoster 62 = .ok (.iconst 0, 1) := by decide +kernel
theorem dX3_mixedWithPoster_63 : decode cX3_mixedWithPoster 63 = .ok (.istore 8, 2) := by decide +kernel
theorem dX3_mixedWithPoster_65 : decode cX3_mixedWithPoster 65 = .ok (.iload 8, 2) := by decide +kernel
theorem dX3_mixedWithPoster_67 : decode cX3_mixedWithPoster 67 = .ok (.iconst 4, 1) := by decide +kernel
theorem dX3_mixedWithPoster_68 : decode cX3_mixedWithPoster 68 = .ok (.if_icmp .ge 25, 3) := by decide +kernel
theorem dX3_mixedWithPoster_71 : decode cX3_mixedWithPoster 71 = .ok (.lload 4, 2) := by decide +kernel
theorem dX3_mixedWithPoster_73 : decode cX3_mixedWithPoster 73 = .ok (.aload_n 0, 1) := by decide +kernel
theorem dX3_mixedWithPoster_74 : decode cX3_mixedWithPoster 74 = .ok (.iload_n 3, 1) := by decide +kernel
theorem dX3_mixedWithPoster_75 : decode cX3_mixedWithPoster 75 = .ok (.iload 7, 2) := by decide +kernel
theorem dX3_mixedWithPoster_77 : decode cX3_mixedWithPoster 77 = .ok (.iload 8, 2) := by decide +kernel
theorem dX3_mixedWithPoster_79 : decode cX3_mixedWithPoster 79 = .ok (.invokevirtual 265, 3) := by decide +kernel
theorem dX3_mixedWithPoster_82 : decode cX3_mixedWithPoster 82 = .ok (.invokestatic 243, 3) := by decide +kernel
theorem dX3_mixedWithPoster_85 : decode cX3_mixedWithPoster 85 = .ok (.lstore 4, 2) := by decide +kernel
theorem dX3_mixedWithPoster_87 : decode cX3_mixedWithPoster 87 = .ok (.iinc 8 1, 3) := by decide +kernel
theorem dX3_mixedWithPoster_90 : decode cX3_mixedWithPoster 90 = .ok (.goto (-25), 3) := by decide +kernel
theorem dX3_mixedWithPoster_93 : decode cX3_mixedWithPoster 93 = .ok (.iinc 7 1, 3) := by decide +kernel
theorem dX3_mixedWithPoster_96 : decode cX3_mixedWithPoster 96 = .ok (.goto (-41), 3) := by decide +kernel
theorem dX3_mixedWithPoster_99 : decode cX3_mixedWithPoster 99 = .ok (.lload 4, 2) := by decide +kernel
theorem dX3_mixedWithPoster_101 : decode cX3_mixedWithPoster 101 = .ok (.lreturn, 1) := by decide +kernel
theorem dX3_isFount_0 : decode cX3_isFount 0 = .ok (.iload_n 1, 1) := by decide +kernel
theorem dX3_isFount_1 : decode cX3_isFount 1 = .ok (.ifCond .lt 18, 3) := by decide +kernel
theorem dX3_isFount_4 : decode cX3_isFount 4 = .ok (.iload_n 1, 1) := by decide +kernel
theorem dX3_isFount_5 : decode cX3_isFount 5 = .ok (.aload_n 0, 1) := by decide +kernel
theorem dX3_isFount_6 : decode cX3_isFount 6 = .ok (.getfield 10, 3) := by decide +kernel
theorem dX3_isFount_9 : decode cX3_isFount 9 = .ok (.invokevirtual 42, 3) := by decide +kernel
theorem dX3_isFount_12 : decode cX3_isFount 12 = .ok (.if_icmp .ge 7, 3) := by decide +kernel
theorem dX3_isFount_15 : decode cX3_isFount 15 = .ok (.iconst 1, 1) := by decide +kernel
theorem dX3_isFount_16 : decode cX3_isFount 16 = .ok (.goto 4, 3) := by decide +kernel
theorem dX3_isFount_19 : decode cX3_isFount 19 = .ok (.iconst 0, 1) := by decide +kernel
theorem dX3_isFount_20 : decode cX3_isFount 20 = .ok (.ireturn, 1) := by decide +kernel
theorem dX3_isPoster_0 : decode cX3_isPoster 0 = .ok (.iload_n 1, 1) := by decide +kernel
theorem dX3_isPoster_1 : decode cX3_isPoster 1 = .ok (.ifCond .lt 18, 3) := by decide +kernel
theorem dX3_isPoster_4 : decode cX3_isPoster 4 = .ok (.iload_n 1, 1) := by decide +kernel
theorem dX3_isPoster_5 : decode cX3_isPoster 5 = .ok (.aload_n 0, 1) := by decide +kernel
theorem dX3_isPoster_6 : decode cX3_isPoster 6 = .ok (.getfield 16, 3) := by decide +kernel
theorem dX3_isPoster_9 : decode cX3_isPoster 9 = .ok (.invokevirtual 42, 3) := by decide +kernel
theorem dX3_isPoster_12 : decode cX3_isPoster 12 = .ok (.if_icmp .ge 7, 3) := by decide +kernel
theorem dX3_isPoster_15 : decode cX3_isPoster 15 = .ok (.iconst 1, 1) := by decide +kernel
theorem dX3_isPoster_16 : decode cX3_isPoster 16 = .ok (.goto 4, 3) := by decide +kernel
theorem dX3_isPoster_19 : decode cX3_isPoster 19 = .ok (.iconst 0, 1) := by decide +kernel
theorem dX3_isPoster_20 : decode cX3_isPoster 20 = .ok (.ireturn, 1) := by decide +kernel
theorem dX3_isLetter_0 : decode cX3_isLetter 0 = .ok (.iload_n 0, 1) := by decide +kernel
theorem dX3_isLetter_1 : decode cX3_isLetter 1 = .ok (.ifCond .lt 13, 3) := by decide +kernel
theorem dX3_isLetter_4 : decode cX3_isLetter 4 = .ok (.iload_n 0, 1) := by decide +kernel
theorem dX3_isLetter_5 : decode cX3_isLetter 5 = .ok (.bipush 10, 2) := by decide +kernel
theorem dX3_isLetter_7 : decode cX3_isLetter 7 = .ok (.if_icmp .ge 7, 3) := by decide +kernel
theorem dX3_isLetter_10 : decode cX3_isLetter 10 = .ok (.iconst 1, 1) := by decide +kernel
theorem dX3_isLetter_11 : decode cX3_isLetter 11 = .ok (.goto 4, 3) := by decide +kernel
theorem dX3_isLetter_14 : decode cX3_isLetter 14 = .ok (.iconst 0, 1) := by decide +kernel
theorem dX3_isLetter_15 : decode cX3_isLetter 15 = .ok (.ireturn, 1) := by decide +kernel
theorem dX3_isTown_0 : decode cX3_isTown 0 = .ok (.iload_n 0, 1) := by decide +kernel
theorem dX3_isTown_1 : decode cX3_isTown 1 = .ok (.ifCond .lt 12, 3) := by decide +kernel
theorem dX3_isTown_4 : decode cX3_isTown 4 = .ok (.iload_n 0, 1) := by decide +kernel
theorem dX3_isTown_5 : decode cX3_isTown 5 = .ok (.iconst 4, 1) := by decide +kernel
theorem dX3_isTown_6 : decode cX3_isTown 6 = .ok (.if_icmp .ge 7, 3) := by decide +kernel
theorem dX3_isTown_9 : decode cX3_isTown 9 = .ok (.iconst 1, 1) := by decide +kernel
theorem dX3_isTown_10 : decode cX3_isTown 10 = .ok (.goto 4, 3) := by decide +kernel
theorem dX3_isTown_13 : decode cX3_isTown 13 = .ok (.iconst 0, 1) := by decide +kernel
theorem dX3_isTown_14 : decode cX3_isTown 14 = .ok (.ireturn, 1) := by decide +kernel
theorem dX3_postersSet_0 : decode cX3_postersSet 0 = .ok (.iconst 0, 1) := by decide +kernel
theorem dX3_postersSet_1 : decode cX3_postersSet 1 = .ok (.istore_n 1, 1) := by decide +kernel
theorem dX3_postersSet_2 : decode cX3_postersSet 2 = .ok (.iconst 0, 1) := by decide +kernel
theorem dX3_postersSet_3 : decode cX3_postersSet 3 = .ok (.istore_n 2, 1) := by decide +kernel
theorem dX3_postersSet_4 : decode cX3_postersSet 4 = .ok (.iload_n 2, 1) := by decide +kernel
theorem dX3_postersSet_5 : decode cX3_postersSet 5 = .ok (.aload_n 0, 1) := by decide +kernel
theorem dX3_postersSet_6 : decode cX3_postersSet 6 = .ok (.getfield 16, 3) := by decide +kernel
theorem dX3_postersSet_9 : decode cX3_postersSet 9 = .ok (.invokevirtual 42, 3) := by decide +kernel
theorem dX3_postersSet_12 : decode cX3_postersSet 12 = .ok (.if_icmp .ge 29, 3) := by decide +kernel
theorem dX3_postersSet_15 : decode cX3_postersSet 15 = .ok (.aload_n 0, 1) := by decide +kernel
theorem dX3_postersSet_16 : decode cX3_postersSet 16 = .ok (.getfield 16, 3) := by decide +kernel
theorem dX3_postersSet_19 : decode cX3_postersSet 19 = .ok (.iload_n 2, 1) := by decide +kernel
theorem dX3_postersSet_20 : decode cX3_postersSet 20 = .ok (.invokevirtual 74, 3) := by decide +kernel
theorem dX3_postersSet_23 : decode cX3_postersSet 23 = .ok (.checkcast 109, 3) := by decide +kernel
theorem dX3_postersSet_26 : decode cX3_postersSet 26 = .ok (.getfield 120, 3) := by decide +kernel
theorem dX3_postersSet_29 : decode cX3_postersSet 29 = .ok (.ifCond .eq 6, 3) := by decide +kernel
theorem dX3_postersSet_32 : decode cX3_postersSet 32 = .ok (.iinc 1 1, 3) := by decide +kernel
theorem dX3_postersSet_35 : decode cX3_postersSet 35 = .ok (.iinc 2 1, 3) := by decide +kernel
theorem dX3_postersSet_38 : decode cX3_postersSet 38 = .ok (.goto (-34), 3) := by decide +kernel
theorem dX3_postersSet_41 : decode cX3_postersSet 41 = .ok (.iload_n 1, 1) := by decide +kernel
theorem dX3_postersSet_42 : decode cX3_postersSet 42 = .ok (.ireturn, 1) := by decide +kernel
theorem dX3_blocksInAll_0 : decode cX3_blocksInAll 0 = .ok (.iconst 0, 1) := by decide +kernel
theorem dX3_blocksInAll_1 : decode cX3_blocksInAll 1 = .ok (.istore_n 1, 1) := by decide +kernel
theorem dX3_blocksInAll_2 : decode cX3_blocksInAll 2 = .ok (.iconst 0, 1) := by decide +kernel
theorem dX3_blocksInAll_3 : decode cX3_blocksInAll 3 = .ok (.istore_n 2, 1) := by decide +kernel
theorem dX3_blocksInAll_4 : decode cX3_blocksInAll 4 = .ok (.iload_n 2, 1) := by decide +kernel
theorem dX3_blocksInAll_5 : decode cX3_blocksInAll 5 = .ok (.aload_n 0, 1) := by decide +kernel
theorem dX3_blocksInAll_6 : decode cX3_blocksInAll 6 = .ok (.getfield 10, 3) := by decide +kernel
theorem dX3_blocksInAll_9 : decode cX3_blocksInAll 9 = .ok (.invokevirtual 42, 3) := by decide +kernel
theorem dX3_blocksInAll_12 : decode cX3_blocksInAll 12 = .ok (.if_icmp .ge 42, 3) := by decide +kernel
theorem dX3_blocksInAll_15 : decode cX3_blocksInAll 15 = .ok (.iconst 0, 1) := by decide +kernel
theorem dX3_blocksInAll_16 : decode cX3_blocksInAll 16 = .ok (.istore_n 3, 1) := by decide +kernel
theorem dX3_blocksInAll_17 : decode cX3_blocksInAll 17 = .ok (.iload_n 3, 1) := by decide +kernel
theorem dX3_blocksInAll_18 : decode cX3_blocksInAll 18 = .ok (.bipush 10, 2) := by decide +kernel
theorem dX3_blocksInAll_20 : decode cX3_blocksInAll 20 = .ok (.if_icmp .ge 28, 3) := by decide +kernel
theorem dX3_blocksInAll_23 : decode cX3_blocksInAll 23 = .ok (.iload_n 1, 1) := by decide +kernel
theorem dX3_blocksInAll_24 : decode cX3_blocksInAll 24 = .ok (.aload_n 0, 1) := by decide +kernel
theorem dX3_blocksInAll_25 : decode cX3_blocksInAll 25 = .ok (.getfield 10, 3) := by decide +kernel
theorem dX3_blocksInAll_28 : decode cX3_blocksInAll 28 = .ok (.iload_n 2, 1) := by decide +kernel
theorem dX3_blocksInAll_29 : decode cX3_blocksInAll 29 = .ok (.invokevirtual 74, 3) := by decide +kernel
theorem dX3_blocksInAll_32 : decode cX3_blocksInAll 32 = .ok (.checkcast 51, 3) := by decide +kernel
theorem dX3_blocksInAll_35 : decode cX3_blocksInAll 35 = .ok (.getfield 78, 3) := by decide +kernel
theorem dX3_blocksInAll_38 : decode cX3_blocksInAll 38 = .ok (.iload_n 3, 1) := by decide +kernel
theorem dX3_blocksInAll_39 : decode cX3_blocksInAll 39 = .ok (.iaload, 1) := by decide +kernel
theorem dX3_blocksInAll_40 : decode cX3_blocksInAll 40 = .ok (.iadd, 1) := by decide +kernel
theorem dX3_blocksInAll_41 : decode cX3_blocksInAll 41 = .ok (.istore_n 1, 1) := by decide +kernel
theorem dX3_blocksInAll_42 : decode cX3_blocksInAll 42 = .ok (.iinc 3 1, 3) := by decide +kernel
theorem dX3_blocksInAll_45 : decode cX3_blocksInAll 45 = .ok (.goto (-28), 3) := by decide +kernel
theorem dX3_blocksInAll_48 : decode cX3_blocksInAll 48 = .ok (.iinc 2 1, 3) := by decide +kernel
theorem dX3_blocksInAll_51 : decode cX3_blocksInAll 51 = .ok (.goto (-47), 3) := by decide +kernel
theorem dX3_blocksInAll_54 : decode cX3_blocksInAll 54 = .ok (.iload_n 1, 1) := by decide +kernel
theorem dX3_blocksInAll_55 : decode cX3_blocksInAll 55 = .ok (.ireturn, 1) := by decide +kernel
theorem dX3_freeInAll_0 : decode cX3_freeInAll 0 = .ok (.iconst 0, 1) := by decide +kernel
theorem dX3_freeInAll_1 : decode cX3_freeInAll 1 = .ok (.istore_n 1, 1) := by decide +kernel
theorem dX3_freeInAll_2 : decode cX3_freeInAll 2 = .ok (.iconst 0, 1) := by decide +kernel
theorem dX3_freeInAll_3 : decode cX3_freeInAll 3 = .ok (.istore_n 2, 1) := by decide +kernel
theorem dX3_freeInAll_4 : decode cX3_freeInAll 4 = .ok (.iload_n 2, 1) := by decide +kernel
theorem dX3_freeInAll_5 : decode cX3_freeInAll 5 = .ok (.aload_n 0, 1) := by decide +kernel
theorem dX3_freeInAll_6 : decode cX3_freeInAll 6 = .ok (.getfield 10, 3) := by decide +kernel
theorem dX3_freeInAll_9 : decode cX3_freeInAll 9 = .ok (.invokevirtual 42, 3) := by decide +kernel
theorem dX3_freeInAll_12 : decode cX3_freeInAll 12 = .ok (.if_icmp .ge 42, 3) := by decide +kernel
theorem dX3_freeInAll_15 : decode cX3_freeInAll 15 = .ok (.iconst 0, 1) := by decide +kernel
theorem dX3_freeInAll_16 : decode cX3_freeInAll 16 = .ok (.istore_n 3, 1) := by decide +kernel
theorem dX3_freeInAll_17 : decode cX3_freeInAll 17 = .ok (.iload_n 3, 1) := by decide +kernel
theorem dX3_freeInAll_18 : decode cX3_freeInAll 18 = .ok (.bipush 10, 2) := by decide +kernel
theorem dX3_freeInAll_20 : decode cX3_freeInAll 20 = .ok (.if_icmp .ge 28, 3) := by decide +kernel
theorem dX3_freeInAll_23 : decode cX3_freeInAll 23 = .ok (.iload_n 1, 1) := by decide +kernel
theorem dX3_freeInAll_24 : decode cX3_freeInAll 24 = .ok (.aload_n 0, 1) := by decide +kernel
theorem dX3_freeInAll_25 : decode cX3_freeInAll 25 = .ok (.getfield 10, 3) := by decide +kernel
theorem dX3_freeInAll_28 : decode cX3_freeInAll 28 = .ok (.iload_n 2, 1) := by decide +kernel
theorem dX3_freeInAll_29 : decode cX3_freeInAll 29 = .ok (.invokevirtual 74, 3) := by decide +kernel
theorem dX3_freeInAll_32 : decode cX3_freeInAll 32 = .ok (.checkcast 51, 3) := by decide +kernel
theorem dX3_freeInAll_35 : decode cX3_freeInAll 35 = .ok (.getfield 169, 3) := by decide +kernel
theorem dX3_freeInAll_38 : decode cX3_freeInAll 38 = .ok (.iload_n 3, 1) := by decide +kernel
theorem dX3_freeInAll_39 : decode cX3_freeInAll 39 = .ok (.iaload, 1) := by decide +kernel
theorem dX3_freeInAll_40 : decode cX3_freeInAll 40 = .ok (.iadd, 1) := by decide +kernel
theorem dX3_freeInAll_41 : decode cX3_freeInAll 41 = .ok (.istore_n 1, 1) := by decide +kernel
theorem dX3_freeInAll_42 : decode cX3_freeInAll 42 = .ok (.iinc 3 1, 3) := by decide +kernel
theorem dX3_freeInAll_45 : decode cX3_freeInAll 45 = .ok (.goto (-28), 3) := by decide +kernel
theorem dX3_freeInAll_48 : decode cX3_freeInAll 48 = .ok (.iinc 2 1, 3) := by decide +kernel
theorem dX3_freeInAll_51 : decode cX3_freeInAll 51 = .ok (.goto (-47), 3) := by decide +kernel
theorem dX3_freeInAll_54 : decode cX3_freeInAll 54 = .ok (.iload_n 1, 1) := by decide +kernel
theorem dX3_freeInAll_55 : decode cX3_freeInAll 55 = .ok (.ireturn, 1) := by decide +kernel
theorem dX3_copiesUntilWorn_0 : decode cX3_copiesUntilWorn 0 = .ok (.aload_n 0, 1) := by decide +kernel
theorem dX3_copiesUntilWorn_1 : decode cX3_copiesUntilWorn 1 = .ok (.aload_n 1, 1) := by decide +kernel
theorem dX3_copiesUntilWorn_2 : decode cX3_copiesUntilWorn 2 = .ok (.iload_n 2, 1) := by decide +kernel
theorem dX3_copiesUntilWorn_3 : decode cX3_copiesUntilWorn 3 = .ok (.invokevirtual 268, 3) := by decide +kernel
theorem dX3_copiesUntilWorn_6 : decode cX3_copiesUntilWorn 6 = .ok (.istore_n 3, 1) := by decide +kernel
theorem dX3_copiesUntilWorn_7 : decode cX3_copiesUntilWorn 7 = .ok (.iload_n 3, 1) := by decide +kernel
theorem dX3_copiesUntilWorn_8 : decode cX3_copiesUntilWorn 8 = .ok (.ifCond .gt 7, 3) := by decide +kernel
theorem dX3_copiesUntilWorn_11 : decode cX3_copiesUntilWorn 11 = .ok (.sipush 400, 3) := by decide +kernel
theorem dX3_copiesUntilWorn_14 : decode cX3_copiesUntilWorn 14 = .ok (.ireturn, 1) := by decide +kernel
theorem dX3_copiesUntilWorn_15 : decode cX3_copiesUntilWorn 15 = .ok (.sipush 400, 3) := by decide +kernel
theorem dX3_copiesUntilWorn_18 : decode cX3_copiesUntilWorn 18 = .ok (.aload_n 1, 1) := by decide +kernel
theorem dX3_copiesUntilWorn_19 : decode cX3_copiesUntilWorn 19 = .ok (.getfield 172, 3) := by decide +kernel
theorem dX3_copiesUntilWorn_22 : decode cX3_copiesUntilWorn 22 = .ok (.iload_n 2, 1) := by decide +kernel
theorem dX3_copiesUntilWorn_23 : decode cX3_copiesUntilWorn 23 = .ok (.iaload, 1) := by decide +kernel
theorem dX3_copiesUntilWorn_24 : decode cX3_copiesUntilWorn 24 = .ok (.isub, 1) := by decide +kernel
theorem dX3_copiesUntilWorn_25 : decode cX3_copiesUntilWorn 25 = .ok (.istore 4, 2) := by decide +kernel
theorem dX3_copiesUntilWorn_27 : decode cX3_copiesUntilWorn 27 = .ok (.iload 4, 2) := by decide +kernel
theorem dX3_copiesUntilWorn_29 : decode cX3_copiesUntilWorn 29 = .ok (.ifCond .gt 7, 3) := by decide +kernel
theorem dX3_copiesUntilWorn_32 : decode cX3_copiesUntilWorn 32 = .ok (.iconst 0, 1) := by decide +kernel
theorem dX3_copiesUntilWorn_33 : decode cX3_copiesUntilWorn 33 = .ok (.goto 11, 3) := by decide +kernel
theorem dX3_copiesUntilWorn_36 : decode cX3_copiesUntilWorn 36 = .ok (.iload 4, 2) := by decide +kernel
theorem dX3_copiesUntilWorn_38 : decode cX3_copiesUntilWorn 38 = .ok (.iload_n 3, 1) := by decide +kernel
theorem dX3_copiesUntilWorn_39 : decode cX3_copiesUntilWorn 39 = .ok (.iadd, 1) := by decide +kernel
theorem dX3_copiesUntilWorn_40 : decode cX3_copiesUntilWorn 40 = .ok (.iconst 1, 1) := by decide +kernel
theorem dX3_copiesUntilWorn_41 : decode cX3_copiesUntilWorn 41 = .ok (.isub, 1) := by decide +kernel
theorem dX3_copiesUntilWorn_42 : decode cX3_copiesUntilWorn 42 = .ok (.iload_n 3, 1) := by decide +kernel
theorem dX3_copiesUntilWorn_43 : decode cX3_copiesUntilWorn 43 = .ok (.idiv, 1) := by decide +kernel
theorem dX3_copiesUntilWorn_44 : decode cX3_copiesUntilWorn 44 = .ok (.ireturn, 1) := by decide +kernel
theorem dX3_proofIfSet_0 : decode cX3_proofIfSet 0 = .ok (.aload_n 0, 1) := by decide +kernel
theorem dX3_proofIfSet_1 : decode cX3_proofIfSet 1 = .ok (.aload_n 1, 1) := by decide +kernel
theorem dX3_proofIfSet_2 : decode cX3_proofIfSet 2 = .ok (.invokevirtual 134, 3) := by decide +kernel
theorem dX3_proofIfSet_5 : decode cX3_proofIfSet 5 = .ok (.iconst (-1), 1) := by decide +kernel
theorem dX3_proofIfSet_6 : decode cX3_proofIfSet 6 = .ok (.if_icmp .ne 7, 3) := by decide +kernel
theorem dX3_proofIfSet_9 : decode cX3_proofIfSet 9 = .ok (.iconst (-1), 1) := by decide +kernel
theorem dX3_proofIfSet_10 : decode cX3_proofIfSet 10 = .ok (.goto 8, 3) := by decide +kernel
theorem dX3_proofIfSet_13 : decode cX3_proofIfSet 13 = .ok (.aload_n 0, 1) := by decide +kernel
theorem dX3_proofIfSet_14 : decode cX3_proofIfSet 14 = .ok (.aload_n 1, 1) := by decide +kernel
theorem dX3_proofIfSet_15 : decode cX3_proofIfSet 15 = .ok (.invokevirtual 150, 3) := by decide +kernel
theorem dX3_proofIfSet_18 : decode cX3_proofIfSet 18 = .ok (.ireturn, 1) := by decide +kernel
theorem dX3_proofAsLaid_0 : decode cX3_proofAsLaid 0 = .ok (.aload_n 1, 1) := by decide +kernel
theorem dX3_proofAsLaid_1 : decode cX3_proofAsLaid 1 = .ok (.invokevirtual 272, 3) := by decide +kernel
theorem dX3_proofAsLaid_4 : decode cX3_proofAsLaid 4 = .ok (.aload_n 0, 1) := by decide +kernel
theorem dX3_proofAsLaid_5 : decode cX3_proofAsLaid 5 = .ok (.getfield 23, 3) := by decide +kernel
theorem dX3_proofAsLaid_8 : decode cX3_proofAsLaid 8 = .ok (.aload_n 1, 1) := by decide +kernel
theorem dX3_proofAsLaid_9 : decode cX3_proofAsLaid 9 = .ok (.getfield 177, 3) := by decide +kernel
theorem dX3_proofAsLaid_12 : decode cX3_proofAsLaid 12 = .ok (.iaload, 1) := by decide +kernel
theorem dX3_proofAsLaid_13 : decode cX3_proofAsLaid 13 = .ok (.imul, 1) := by decide +kernel
theorem dX3_proofAsLaid_14 : decode cX3_proofAsLaid 14 = .ok (.aload_n 1, 1) := by decide +kernel
theorem dX3_proofAsLaid_15 : decode cX3_proofAsLaid 15 = .ok (.invokevirtual 186, 3) := by decide +kernel
theorem dX3_proofAsLaid_18 : decode cX3_proofAsLaid 18 = .ok (.aload_n 0, 1) := by decide +kernel
theorem dX3_proofAsLaid_19 : decode cX3_proofAsLaid 19 = .ok (.getfield 26, 3) := by decide +kernel
theorem dX3_proofAsLaid_22 : decode cX3_proofAsLaid 22 = .ok (.aload_n 1, 1) := by decide +kernel
theorem dX3_proofAsLaid_23 : decode cX3_proofAsLaid 23 = .ok (.getfield 177, 3) := by decide +kernel
theorem dX3_proofAsLaid_26 : decode cX3_proofAsLaid 26 = .ok (.iaload, 1) := by decide +kernel
theorem dX3_proofAsLaid_27 : decode cX3_proofAsLaid 27 = .ok (.imul, 1) := by decide +kernel
theorem dX3_proofAsLaid_28 : decode cX3_proofAsLaid 28 = .ok (.isub, 1) := by decide +kernel
theorem dX3_proofAsLaid_29 : decode cX3_proofAsLaid 29 = .ok (.istore_n 2, 1) := by decide +kernel
theorem dX3_proofAsLaid_30 : decode cX3_proofAsLaid 30 = .ok (.iload_n 2, 1) := by decide +kernel
theorem dX3_proofAsLaid_31 : decode cX3_proofAsLaid 31 = .ok (.iconst 0, 1) := by decide +kernel
theorem dX3_proofAsLaid_32 : decode cX3_proofAsLaid 32 = .ok (.invokestatic 275, 3) := by decide +kernel
theorem dX3_proofAsLaid_35 : decode cX3_proofAsLaid 35 = .ok (.ireturn, 1) := by decide +kernel
theorem dX3_plan_0 : decode cX3_plan 0 = .ok (.aload_n 1, 1) := by decide +kernel
theorem dX3_plan_1 : decode cX3_plan 1 = .ok (.invokevirtual 222, 3) := by decide +kernel
theorem dX3_plan_4 : decode cX3_plan 4 = .ok (.ifCond .ne 5, 3) := by decide +kernel
theorem dX3_plan_7 : decode cX3_plan 7 = .ok (.iconst (-1), 1) := by decide +kernel
theorem dX3_plan_8 : decode cX3_plan 8 = .ok (.ireturn, 1) := by decide +kernel
theorem dX3_plan_9 : decode cX3_plan 9 = .ok (.aload_n 0, 1) := by decide +kernel
theorem dX3_plan_10 : decode cX3_plan 10 = .ok (.invokevirtual 278, 3) := by decide +kernel
theorem dX3_plan_13 : decode cX3_plan 13 = .ok (.aload_n 0, 1) := by decide +kernel
theorem dX3_plan_14 : decode cX3_plan 14 = .ok (.aload_n 1, 1) := by decide +kernel
theorem dX3_plan_15 : decode cX3_plan 15 = .ok (.invokevirtual 281, 3) := by decide +kernel
theorem dX3_plan_18 : decode cX3_plan 18 = .ok (.ireturn, 1) := by decide +kernel
theorem dX3_leaveAllFree_0 : decode cX3_leaveAllFree 0 = .ok (.iconst 0, 1) := by decide +kernel
theorem dX3_leaveAllFree_1 : decode cX3_leaveAllFree 1 = .ok (.istore_n 1, 1) := by decide +kernel
theorem dX3_leaveAllFree_2 : decode cX3_leaveAllFree 2 = .ok (.iload_n 1, 1) := by decide +kernel
theorem dX3_leaveAllFree_3 : decode cX3_leaveAllFree 3 = .ok (.aload_n 0, 1) := by decide +kernel
theorem dX3_leaveAllFree_4 : decode cX3_leaveAllFree 4 = .ok (.getfield 10, 3) := by decide +kernel
theorem dX3_leaveAllFree_7 : decode cX3_leaveAllFree 7 = .ok (.invokevirtual 42, 3) := by decide +kernel
theorem dX3_leaveAllFree_10 : decode cX3_leaveAllFree 10 = .ok (.if_icmp .ge 23, 3) := by decide +kernel
theorem dX3_leaveAllFree_13 : decode cX3_leaveAllFree 13 = .ok (.aload_n 0, 1) := by decide +kernel
theorem dX3_leaveAllFree_14 : decode cX3_leaveAllFree 14 = .ok (.getfield 10, 3) := by decide +kernel
theorem dX3_leaveAllFree_17 : decode cX3_leaveAllFree 17 = .ok (.iload_n 1, 1) := by decide +kernel
theorem dX3_leaveAllFree_18 : decode cX3_leaveAllFree 18 = .ok (.invokevirtual 74, 3) := by decide +kernel
theorem dX3_leaveAllFree_21 : decode cX3_leaveAllFree 21 = .ok (.checkcast 51, 3) := by decide +kernel
theorem dX3_leaveAllFree_24 : decode cX3_leaveAllFree 24 = .ok (.invokevirtual 287, 3) := by decide +kernel
theorem dX3_leaveAllFree_27 : decode cX3_leaveAllFree 27 = .ok (.iinc 1 1, 3) := by decide +kernel
theorem dX3_leaveAllFree_30 : decode cX3_leaveAllFree 30 = .ok (.goto (-28), 3) := by decide +kernel
theorem dX3_leaveAllFree_33 : decode cX3_leaveAllFree 33 = .ok (.return_, 1) := by decide +kernel
theorem dX3_layLines_0 : decode cX3_layLines 0 = .ok (.iconst 0, 1) := by decide +kernel
theorem dX3_layLines_1 : decode cX3_layLines 1 = .ok (.istore_n 2, 1) := by decide +kernel
theorem dX3_layLines_2 : decode cX3_layLines 2 = .ok (.iconst 0, 1) := by decide +kernel
theorem dX3_layLines_3 : decode cX3_layLines 3 = .ok (.istore_n 3, 1) := by decide +kernel
theorem dX3_layLines_4 : decode cX3_layLines 4 = .ok (.iload_n 3, 1) := by decide +kernel
theorem dX3_layLines_5 : decode cX3_layLines 5 = .ok (.aload_n 1, 1) := by decide +kernel
theorem dX3_layLines_6 : decode cX3_layLines 6 = .ok (.getfield 124, 3) := by decide +kernel
theorem dX3_layLines_9 : decode cX3_layLines 9 = .ok (.invokevirtual 42, 3) := by decide +kernel
theorem dX3_layLines_12 : decode cX3_layLines 12 = .ok (.if_icmp .ge 67, 3) := by decide +kernel
theorem dX3_layLines_15 : decode cX3_layLines 15 = .ok (.aload_n 1, 1) := by decide +kernel
theorem dX3_layLines_16 : decode cX3_layLines 16 = .ok (.getfield 124, 3) := by decide +kernel
theorem dX3_layLines_19 : decode cX3_layLines 19 = .ok (.iload_n 3, 1) := by decide +kernel
theorem dX3_layLines_20 : decode cX3_layLines 20 = .ok (.invokevirtual 74, 3) := by decide +kernel
theorem dX3_layLines_23 : decode cX3_layLines 23 = .ok (.checkcast 129, 3) := by decide +kernel
theorem dX3_layLines_26 : decode cX3_layLines 26 = .ok (.astore 4, 2) := by decide +kernel
theorem dX3_layLines_28 : decode cX3_layLines 28 = .ok (.aload_n 0, 1) := by decide +kernel
theorem dX3_layLines_29 : decode cX3_layLines 29 = .ok (.aload 4, 2) := by decide +kernel
theorem dX3_layLines_31 : decode cX3_layLines 31 = .ok (.aload_n 1, 1) := by decide +kernel
theorem dX3_layLines_32 : decode cX3_layLines 32 = .ok (.getfield 180, 3) := by decide +kernel
theorem dX3_layLines_35 : decode cX3_layLines 35 = .ok (.invokevirtual 290, 3) := by decide +kernel
theorem dX3_layLines_38 : decode cX3_layLines 38 = .ok (.astore 5, 2) := by decide +kernel
theorem dX3_layLines_40 : decode cX3_layLines 40 = .ok (.aload 5, 2) := by decide +kernel
theorem dX3_layLines_42 : decode cX3_layLines 42 = .ok (.ifnull 14, 3) := by decide +kernel
theorem dX3_layLines_45 : decode cX3_layLines 45 = .ok (.aload_n 0, 1) := by decide +kernel
theorem dX3_layLines_46 : decode cX3_layLines 46 = .ok (.aload 4, 2) := by decide +kernel
theorem dX3_layLines_48 : decode cX3_layLines 48 = .ok (.aload 5, 2) := by decide +kernel
theorem dX3_layLines_50 : decode cX3_layLines 50 = .ok (.invokevirtual 294, 3) := by decide +kernel
theorem dX3_layLines_53 : decode cX3_layLines 53 = .ok (.ifCond .ne 5, 3) := by decide +kernel
theorem dX3_layLines_56 : decode cX3_layLines 56 = .ok (.iconst (-1), 1) := by decide +kernel
theorem dX3_layLines_57 : decode cX3_layLines 57 = .ok (.ireturn, 1) := by decide +kernel
theorem dX3_layLines_58 : decode cX3_layLines 58 = .ok (.aload 5, 2) := by decide +kernel
theorem dX3_layLines_60 : decode cX3_layLines 60 = .ok (.aload 4, 2) := by decide +kernel
theorem dX3_layLines_62 : decode cX3_layLines 62 = .ok (.invokevirtual 298, 3) := by decide +kernel
theorem dX3_layLines_65 : decode cX3_layLines 65 = .ok (.iload_n 2, 1) := by decide +kernel
theorem dX3_layLines_66 : decode cX3_layLines 66 = .ok (.aload 4, 2) := by decide +kernel
theorem dX3_layLines_68 : decode cX3_layLines 68 = .ok (.getfield 198, 3) := by decide +kernel
theorem dX3_layLines_71 : decode cX3_layLines 71 = .ok (.iadd, 1) := by decide +kernel
theorem dX3_layLines_72 : decode cX3_layLines 72 = .ok (.istore_n 2, 1) := by decide +kernel
theorem dX3_layLines_73 : decode cX3_layLines 73 = .ok (.iinc 3 1, 3) := by decide +kernel
theorem dX3_layLines_76 : decode cX3_layLines 76 = .ok (.goto (-72), 3) := by decide +kernel
theorem dX3_layLines_79 : decode cX3_layLines 79 = .ok (.iload_n 2, 1) := by decide +kernel
theorem dX3_layLines_80 : decode cX3_layLines 80 = .ok (.ireturn, 1) := by decide +kernel
theorem dX3_bestFount_0 : decode cX3_bestFount 0 = .ok (.aconst_null, 1) := by decide +kernel
theorem dX3_bestFount_1 : decode cX3_bestFount 1 = .ok (.astore_n 3, 1) := by decide +kernel
theorem dX3_bestFount_2 : decode cX3_bestFount 2 = .ok (.iconst (-1), 1) := by decide +kernel
theorem dX3_bestFount_3 : decode cX3_bestFount 3 = .ok (.istore 4, 2) := by decide +kernel
theorem dX3_bestFount_5 : decode cX3_bestFount 5 = .ok (.iconst 0, 1) := by decide +kernel
theorem dX3_bestFount_6 : decode cX3_bestFount 6 = .ok (.istore 5, 2) := by decide +kernel
theorem dX3_bestFount_8 : decode cX3_bestFount 8 = .ok (.iload 5, 2) := by decide +kernel
theorem dX3_bestFount_10 : decode cX3_bestFount 10 = .ok (.aload_n 0, 1) := by decide +kernel
theorem dX3_bestFount_11 : decode cX3_bestFount 11 = .ok (.getfield 10, 3) := by decide +kernel
theorem dX3_bestFount_14 : decode cX3_bestFount 14 = .ok (.invokevirtual 42, 3) := by decide +kernel
theorem dX3_bestFount_17 : decode cX3_bestFount 17 = .ok (.if_icmp .ge 85, 3) := by decide +kernel
theorem dX3_bestFount_20 : decode cX3_bestFount 20 = .ok (.aload_n 0, 1) := by decide +kernel
theorem dX3_bestFount_21 : decode cX3_bestFount 21 = .ok (.getfield 10, 3) := by decide +kernel
theorem dX3_bestFount_24 : decode cX3_bestFount 24 = .ok (.iload 5, 2) := by decide +kernel
theorem dX3_bestFount_26 : decode cX3_bestFount 26 = .ok (.invokevirtual 74, 3) := by decide +kernel
theorem dX3_bestFount_29 : decode cX3_bestFount 29 = .ok (.checkcast 51, 3) := by decide +kernel
theorem dX3_bestFount_32 : decode cX3_bestFount 32 = .ok (.astore 6, 2) := by decide +kernel
theorem dX3_bestFount_34 : decode cX3_bestFount 34 = .ok (.aload 6, 2) := by decide +kernel
theorem dX3_bestFount_36 : decode cX3_bestFount 36 = .ok (.getfield 255, 3) := by decide +kernel
theorem dX3_bestFount_39 : decode cX3_bestFount 39 = .ok (.iload_n 2, 1) := by decide +kernel
theorem dX3_bestFount_40 : decode cX3_bestFount 40 = .ok (.if_icmp .lt 56, 3) := by decide +kernel
theorem dX3_bestFount_43 : decode cX3_bestFount 43 = .ok (.aload_n 0, 1) := by decide +kernel
theorem dX3_bestFount_44 : decode cX3_bestFount 44 = .ok (.aload_n 1, 1) := by decide +kernel
theorem dX3_bestFount_45 : decode cX3_bestFount 45 = .ok (.aload 6, 2) := by decide +kernel
theorem dX3_bestFount_47 : decode cX3_bestFount 47 = .ok (.invokevirtual 294, 3) := by decide +kernel
theorem dX3_bestFount_50 : decode cX3_bestFount 50 = .ok (.ifCond .eq 46, 3) := by decide +kernel
theorem dX3_bestFount_53 : decode cX3_bestFount 53 = .ok (.aload_n 3, 1) := by decide +kernel
theorem dX3_bestFount_54 : decode cX3_bestFount 54 = .ok (.ifnull 33, 3) := by decide +kernel
theorem dX3_bestFount_57 : decode cX3_bestFount 57 = .ok (.aload_n 1, 1) := by decide +kernel
theorem dX3_bestFount_58 : decode cX3_bestFount 58 = .ok (.getfield 198, 3) := by decide +kernel
theorem dX3_bestFount_61 : decode cX3_bestFount 61 = .ok (.iload 4, 2) := by decide +kernel
theorem dX3_bestFount_63 : decode cX3_bestFount 63 = .ok (.if_icmp .lt 24, 3) := by decide +kernel
theorem dX3_bestFount_66 : decode cX3_bestFount 66 = .ok (.aload_n 1, 1) := by decide +kernel
theorem dX3_bestFount_67 : decode cX3_bestFount 67 = .ok (.getfield 198, 3) := by decide +kernel
theorem dX3_bestFount_70 : decode cX3_bestFount 70 = .ok (.iload 4, 2) := by decide +kernel
theorem dX3_bestFount_72 : decode cX3_bestFount 72 = .ok (.if_icmp .ne 24, 3) := by decide +kernel
theorem dX3_bestFount_75 : decode cX3_bestFount 75 = .ok (.aload 6, 2) := by decide +kernel
theorem dX3_bestFount_77 : decode cX3_bestFount 77 = .ok (.getfield 255, 3) := by decide +kernel
theorem dX3_bestFount_80 : decode cX3_bestFount 80 = .ok (.aload_n 3, 1) := by decide +kernel
theorem dX3_bestFount_81 : decode cX3_bestFount 81 = .ok (.getfield 255, 3) := by decide +kernel
theorem dX3_bestFount_84 : decode cX3_bestFount 84 = .ok (.if_icmp .le 12, 3) := by decide +kernel
theorem dX3_bestFount_87 : decode cX3_bestFount 87 = .ok (.aload 6, 2) := by decide +kernel
theorem dX3_bestFount_89 : decode cX3_bestFount 89 = .ok (.astore_n 3, 1) := by decide +kernel
theorem dX3_bestFount_90 : decode cX3_bestFount 90 = .ok (.aload_n 1, 1) := by decide +kernel
theorem dX3_bestFount_91 : decode cX3_bestFount 91 = .ok (.getfield 198, 3) := by decide +kernel
theorem dX3_bestFount_94 : decode cX3_bestFount 94 = .ok (.istore 4, 2) := by decide +kernel
theorem dX3_bestFount_96 : decode cX3_bestFount 96 = .ok (.iinc 5 1, 3) := by decide +kernel
theorem dX3_bestFount_99 : decode cX3_bestFount 99 = .ok (.goto (-91), 3) := by decide +kernel
theorem dX3_bestFount_102 : decode cX3_bestFount 102 = .ok (.aload_n 3, 1) := by decide +kernel
theorem dX3_bestFount_103 : decode cX3_bestFount 103 = .ok (.areturn, 1) := by decide +kernel
theorem dX3_lay_0 : decode cX3_lay 0 = .ok (.aload_n 1, 1) := by decide +kernel
theorem dX3_lay_1 : decode cX3_lay 1 = .ok (.aload_n 2, 1) := by decide +kernel
theorem dX3_lay_2 : decode cX3_lay 2 = .ok (.invokevirtual 302, 3) := by decide +kernel
theorem dX3_lay_5 : decode cX3_lay 5 = .ok (.iconst 0, 1) := by decide +kernel
theorem dX3_lay_6 : decode cX3_lay 6 = .ok (.istore_n 3, 1) := by decide +kernel
theorem dX3_lay_7 : decode cX3_lay 7 = .ok (.iload_n 3, 1) := by decide +kernel
theorem dX3_lay_8 : decode cX3_lay 8 = .ok (.aload_n 1, 1) := by decide +kernel
theorem dX3_lay_9 : decode cX3_lay 9 = .ok (.getfield 193, 3) := by decide +kernel
theorem dX3_lay_12 : decode cX3_lay 12 = .ok (.if_icmp .ge 53, 3) := by decide +kernel
theorem dX3_lay_15 : decode cX3_lay 15 = .ok (.aload_n 1, 1) := by decide +kernel
theorem dX3_lay_16 : decode cX3_lay 16 = .ok (.getfield 306, 3) := by decide +kernel
theorem dX3_lay_19 : decode cX3_lay 19 = .ok (.iload_n 3, 1) := by decide +kernel
theorem dX3_lay_20 : decode cX3_lay 20 = .ok (.iaload, 1) := by decide +kernel
theorem dX3_lay_21 : decode cX3_lay 21 = .ok (.istore 4, 2) := by decide +kernel
theorem dX3_lay_23 : decode cX3_lay 23 = .ok (.aload_n 0, 1) := by decide +kernel
theorem dX3_lay_24 : decode cX3_lay 24 = .ok (.iload 4, 2) := by decide +kernel
theorem dX3_lay_26 : decode cX3_lay 26 = .ok (.aload_n 1, 1) := by decide +kernel
theorem dX3_lay_27 : decode cX3_lay 27 = .ok (.aload_n 2, 1) := by decide +kernel
theorem dX3_lay_28 : decode cX3_lay 28 = .ok (.invokevirtual 308, 3) := by decide +kernel
theorem dX3_lay_31 : decode cX3_lay 31 = .ok (.istore 5, 2) := by decide +kernel
theorem dX3_lay_33 : decode cX3_lay 33 = .ok (.iload 5, 2) := by decide +kernel
theorem dX3_lay_35 : decode cX3_lay 35 = .ok (.iconst (-1), 1) := by decide +kernel
theorem dX3_lay_36 : decode cX3_lay 36 = .ok (.if_icmp .ne 5, 3) := by decide +kernel
theorem dX3_lay_39 : decode cX3_lay 39 = .ok (.iconst 0, 1) := by decide +kernel
theorem dX3_lay_40 : decode cX3_lay 40 = .ok (.ireturn, 1) := by decide +kernel
theorem dX3_lay_41 : decode cX3_lay 41 = .ok (.aload_n 1, 1) := by decide +kernel
theorem dX3_lay_42 : decode cX3_lay 42 = .ok (.iload 5, 2) := by decide +kernel
theorem dX3_lay_44 : decode cX3_lay 44 = .ok (.iload 5, 2) := by decide +kernel
theorem dX3_lay_46 : decode cX3_lay 46 = .ok (.iload 4, 2) := by decide +kernel
theorem dX3_lay_48 : decode cX3_lay 48 = .ok (.if_icmp .eq 7, 3) := by decide +kernel
theorem dX3_lay_51 : decode cX3_lay 51 = .ok (.iconst 1, 1) := by decide +kernel
theorem dX3_lay_52 : decode cX3_lay 52 = .ok (.goto 4, 3) := by decide +kernel
theorem dX3_lay_55 : decode cX3_lay 55 = .ok (.iconst 0, 1) := by decide +kernel
theorem dX3_lay_56 : decode cX3_lay 56 = .ok (.invokevirtual 312, 3) := by decide +kernel
theorem dX3_lay_59 : decode cX3_lay 59 = .ok (.iinc 3 1, 3) := by decide +kernel
theorem dX3_lay_62 : decode cX3_lay 62 = .ok (.goto (-55), 3) := by decide +kernel
theorem dX3_lay_65 : decode cX3_lay 65 = .ok (.iconst 1, 1) := by decide +kernel
theorem dX3_lay_66 : decode cX3_lay 66 = .ok (.ireturn, 1) := by decide +kernel
theorem dX3_blockFor_0 : decode cX3_blockFor 0 = .ok (.aload_n 2, 1) := by decide +kernel
theorem dX3_blockFor_1 : decode cX3_blockFor 1 = .ok (.getfield 316, 3) := by decide +kernel
theorem dX3_blockFor_4 : decode cX3_blockFor 4 = .ok (.iload_n 1, 1) := by decide +kernel
theorem dX3_blockFor_5 : decode cX3_blockFor 5 = .ok (.iaload, 1) := by decide +kernel
theorem dX3_blockFor_6 : decode cX3_blockFor 6 = .ok (.aload_n 3, 1) := by decide +kernel
theorem dX3_blockFor_7 : decode cX3_blockFor 7 = .ok (.getfield 284, 3) := by decide +kernel
theorem dX3_blockFor_10 : decode cX3_blockFor 10 = .ok (.iload_n 1, 1) := by decide +kernel
theorem dX3_blockFor_11 : decode cX3_blockFor 11 = .ok (.iaload, 1) := by decide +kernel
theorem dX3_blockFor_12 : decode cX3_blockFor 12 = .ok (.if_icmp .ge 5, 3) := by decide +kernel
theorem dX3_blockFor_15 : decode cX3_blockFor 15 = .ok (.iload_n 1, 1) := by decide +kernel
theorem dX3_blockFor_16 : decode cX3_blockFor 16 = .ok (.ireturn, 1) := by decide +kernel
theorem dX3_blockFor_17 : decode cX3_blockFor 17 = .ok (.aload_n 0, 1) := by decide +kernel
theorem dX3_blockFor_18 : decode cX3_blockFor 18 = .ok (.getfield 19, 3) := by decide +kernel
theorem dX3_blockFor_21 : decode cX3_blockFor 21 = .ok (.iload_n 1, 1) := by decide +kernel
theorem dX3_blockFor_22 : decode cX3_blockFor 22 = .ok (.iaload, 1) := by decide +kernel
theorem dX3_blockFor_23 : decode cX3_blockFor 23 = .ok (.istore 4, 2) := by decide +kernel
theorem dX3_blockFor_25 : decode cX3_blockFor 25 = .ok (.iload 4, 2) := by decide +kernel
theorem dX3_blockFor_27 : decode cX3_blockFor 27 = .ok (.ifCond .lt 23, 3) := by decide +kernel
theorem dX3_blockFor_30 : decode cX3_blockFor 30 = .ok (.aload_n 2, 1) := by decide +kernel
theorem dX3_blockFor_31 : decode cX3_blockFor 31 = .ok (.getfield 316, 3) := by decide +kernel
theorem dX3_blockFor_34 : decode cX3_blockFor 34 = .ok (.iload 4, 2) := by decide +kernel
theorem dX3_blockFor_36 : decode cX3_blockFor 36 = .ok (.iaload, 1) := by decide +kernel
theorem dX3_blockFor_37 : decode cX3_blockFor 37 = .ok (.aload_n 3, 1) := by decide +kernel
theorem dX3_blockFor_38 : decode cX3_blockFor 38 = .ok (.getfield 284, 3) := by decide +kernel
theorem dX3_blockFor_41 : decode cX3_blockFor 41 = .ok (.iload 4, 2) := by decide +kernel
theorem dX3_blockFor_43 : decode cX3_blockFor 43 = .ok (.iaload, 1) := by decide +kernel
theorem dX3_blockFor_44 : decode cX3_blockFor 44 = .ok (.if_icmp .ge 6, 3) := by decide +kernel
theorem dX3_blockFor_47 : decode cX3_blockFor 47 = .ok (.iload 4, 2) := by decide +kernel
theorem dX3_blockFor_49 : decode cX3_blockFor 49 = .ok (.ireturn, 1) := by decide +kernel
theorem dX3_blockFor_50 : decode cX3_blockFor 50 = .ok (.iconst (-1), 1) := by decide +kernel
theorem dX3_blockFor_51 : decode cX3_blockFor 51 = .ok (.ireturn, 1) := by decide +kernel
theorem dX4_init_0 : decode cX4_init 0 = .ok (.aload_n 0, 1) := by decide +kernel
theorem dX4_init_1 : decode cX4_init 1 = .ok (.invokespecial 1, 3) := by decide +kernel
theorem dX4_init_4 : decode cX4_init 4 = .ok (.aload_n 0, 1) := by decide +kernel
theorem dX4_init_5 : decode cX4_init 5 = .ok (.iconst 0, 1) := by decide +kernel
theorem dX4_init_6 : decode cX4_init 6 = .ok (.anewarray 7, 3) := by decide +kernel
theorem dX4_init_9 : decode cX4_init 9 = .ok (.putfield 9, 3) := by decide +kernel
theorem dX4_init_12 : decode cX4_init 12 = .ok (.aload_n 0, 1) := by decide +kernel
theorem dX4_init_13 : decode cX4_init 13 = .ok (.iconst 0, 1) := by decide +kernel
theorem dX4_init_14 : decode cX4_init 14 = .ok (.newarray .int, 2) := by decide +kernel
theorem dX4_init_16 : decode cX4_init 16 = .ok (.putfield 15, 3) := by decide +kernel
theorem dX4_init_19 : decode cX4_init 19 = .ok (.aload_n 0, 1) := by decide +kernel
theorem dX4_init_20 : decode cX4_init 20 = .ok (.iconst 0, 1) := by decide +kernel
theorem dX4_init_21 : decode cX4_init 21 = .ok (.newarray .int, 2) := by decide +kernel
theorem dX4_init_23 : decode cX4_init 23 = .ok (.putfield 18, 3) := by decide +kernel
theorem dX4_init_26 : decode cX4_init 26 = .ok (.aload_n 0, 1) := by decide +kernel
theorem dX4_init_27 : decode cX4_init 27 = .ok (.iconst 0, 1) := by decide +kernel
theorem dX4_init_28 : decode cX4_init 28 = .ok (.anewarray 7, 3) := by decide +kernel
theorem dX4_init_31 : decode cX4_init 31 = .ok (.putfield 21, 3) := by decide +kernel
theorem dX4_init_34 : decode cX4_init 34 = .ok (.return_, 1) := by decide +kernel
theorem dX4_copy_0 : decode cX4_copy 0 = .ok (.new 10, 3) := by decide +kernel
theorem dX4_copy_3 : decode cX4_copy 3 = .ok (.dup, 1) := by decide +kernel
theorem dX4_copy_4 : decode cX4_copy 4 = .ok (.invokespecial 24, 3) := by decide +kernel
theorem dX4_copy_7 : decode cX4_copy 7 = .ok (.astore_n 1, 1) := by decide +kernel
theorem dX4_copy_8 : decode cX4_copy 8 = .ok (.aload_n 1, 1) := by decide +kernel
theorem dX4_copy_9 : decode cX4_copy 9 = .ok (.aload_n 0, 1) := by decide +kernel
theorem dX4_copy_10 : decode cX4_copy 10 = .ok (.getfield 25, 3) := by decide +kernel
theorem dX4_copy_13 : decode cX4_copy 13 = .ok (.putfield 25, 3) := by decide +kernel
theorem dX4_copy_16 : decode cX4_copy 16 = .ok (.aload_n 1, 1) := by decide +kernel
theorem dX4_copy_17 : decode cX4_copy 17 = .ok (.aload_n 0, 1) := by decide +kernel
theorem dX4_copy_18 : decode cX4_copy 18 = .ok (.getfield 29, 3) := by decide +kernel
theorem dX4_copy_21 : decode cX4_copy 21 = .ok (.putfield 29, 3) := by decide +kernel
theorem dX4_copy_24 : decode cX4_copy 24 = .ok (.aload_n 1, 1) := by decide +kernel
theorem dX4_copy_25 : decode cX4_copy 25 = .ok (.aload_n 0, 1) := by decide +kernel
theorem dX4_copy_26 : decode cX4_copy 26 = .ok (.getfield 9, 3) := by decide +kernel
theorem dX4_copy_29 : decode cX4_copy 29 = .ok (.putfield 9, 3) := by decide +kernel
theorem dX4_copy_32 : decode cX4_copy 32 = .ok (.aload_n 1, 1) := by decide +kernel
theorem dX4_copy_33 : decode cX4_copy 33 = .ok (.aload_n 0, 1) := by decide +kernel
theorem dX4_copy_34 : decode cX4_copy 34 = .ok (.getfield 32, 3) := by decide +kernel
theorem dX4_copy_37 : decode cX4_copy 37 = .ok (.putfield 32, 3) := by decide +kernel
theorem dX4_copy_40 : decode cX4_copy 40 = .ok (.aload_n 1, 1) := by decide +kernel
theorem dX4_copy_41 : decode cX4_copy 41 = .ok (.aload_n 0, 1) := by decide +kernel
theorem dX4_copy_42 : decode cX4_copy 42 = .ok (.getfield 36, 3) := by decide +kernel
theorem dX4_copy_45 : decode cX4_copy 45 = .ok (.putfield 36, 3) := by decide +kernel
theorem dX4_copy_48 : decode cX4_copy 48 = .ok (.aload_n 1, 1) := by decide +kernel
theorem dX4_copy_49 : decode cX4_copy 49 = .ok (.aload_n 0, 1) := by decide +kernel
theorem dX4_copy_50 : decode cX4_copy 50 = .ok (.getfield 15, 3) := by decide +kernel
theorem dX4_copy_53 : decode cX4_copy 53 = .ok (.putfield 15, 3) := by decide +kernel
theorem dX4_copy_56 : decode cX4_copy 56 = .ok (.aload_n 1, 1) := by decide +kernel
theorem dX4_copy_57 : decode cX4_copy 57 = .ok (.aload_n 0, 1) := by decide +kernel
theorem dX4_copy_58 : decode cX4_copy 58 = .ok (.getfield 18, 3) := by decide +kernel
theorem dX4_copy_61 : decode cX4_copy 61 = .ok (.putfield 18, 3) := by decide +kernel
theorem dX4_copy_64 : decode cX4_copy 64 = .ok (.aload_n 1, 1) := by decide +kernel
theorem dX4_copy_65 : decode cX4_copy 65 = .ok (.aload_n 0, 1) := by decide +kernel
theorem dX4_copy_66 : decode cX4_copy 66 = .ok (.getfield 21, 3) := by decide +kernel
theorem dX4_copy_69 : decode cX4_copy 69 = .ok (.putfield 21, 3) := by decide +kernel
theorem dX4_copy_72 : decode cX4_copy 72 = .ok (.aload_n 1, 1) := by decide +kernel
theorem dX4_copy_73 : decode cX4_copy 73 = .ok (.areturn, 1) := by decide +kernel
theorem dX4_letters_0 : decode cX4_letters 0 = .ok (.iconst 0, 1) := by decide +kernel
theorem dX4_letters_1 : decode cX4_letters 1 = .ok (.istore_n 1, 1) := by decide +kernel
theorem dX4_letters_2 : decode cX4_letters 2 = .ok (.aload_n 0, 1) := by decide +kernel
theorem dX4_letters_3 : decode cX4_letters 3 = .ok (.getfield 9, 3) := by decide +kernel
theorem dX4_letters_6 : decode cX4_letters 6 = .ok (.astore_n 2, 1) := by decide +kernel
theorem dX4_letters_7 : decode cX4_letters 7 = .ok (.aload_n 2, 1) := by decide +kernel
theorem dX4_letters_8 : decode cX4_letters 8 = .ok (.arraylength, 1) := by decide +kernel
theorem dX4_letters_9 : decode cX4_letters 9 = .ok (.istore_n 3, 1) := by decide +kernel
theorem dX4_letters_10 : decode cX4_letters 10 = .ok (.iconst 0, 1) := by decide +kernel
theorem dX4_letters_11 : decode cX4_letters 11 = .ok (.istore 4, 2) := by decide +kernel
theorem dX4_letters_13 : decode cX4_letters 13 = .ok (.iload 4, 2) := by decide +kernel
theorem dX4_letters_15 : decode cX4_letters 15 = .ok (.iload_n 3, 1) := by decide +kernel
theorem dX4_letters_16 : decode cX4_letters 16 = .ok (.if_icmp .ge 21, 3) := by decide +kernel
theorem dX4_letters_19 : decode cX4_letters 19 = .ok (.aload_n 2, 1) := by decide +kernel
theorem dX4_letters_20 : decode cX4_letters 20 = .ok (.iload 4, 2) := by decide +kernel
theorem dX4_letters_22 : decode cX4_letters 22 = .ok (.aaload, 1) := by decide +kernel
theorem dX4_letters_23 : decode cX4_letters 23 = .ok (.astore 5, 2) := by decide +kernel
theorem dX4_letters_25 : decode cX4_letters 25 = .ok (.iload_n 1, 1) := by decide +kernel
theorem dX4_letters_26 : decode cX4_letters 26 = .ok (.aload 5, 2) := by decide +kernel
theorem dX4_letters_28 : decode cX4_letters 28 = .ok (.arraylength, 1) := by decide +kernel
theorem dX4_letters_29 : decode cX4_letters 29 = .ok (.iadd, 1) := by decide +kernel
theorem dX4_letters_30 : decode cX4_letters 30 = .ok (.istore_n 1, 1) := by decide +kernel
theorem dX4_letters_31 : decode cX4_letters 31 = .ok (.iinc 4 1, 3) := by decide +kernel
theorem dX4_letters_34 : decode cX4_letters 34 = .ok (.goto (-21), 3) := by decide +kernel
theorem dX4_letters_37 : decode cX4_letters 37 = .ok (.iload_n 1, 1) := by decide +kernel
theorem dX4_letters_38 : decode cX4_letters 38 = .ok (.ireturn, 1) := by decide +kernel
theorem dX4_wrong_0 : decode cX4_wrong 0 = .ok (.iconst 0, 1) := by decide +kernel
theorem dX4_wrong_1 : decode cX4_wrong 1 = .ok (.istore_n 1, 1) := by decide +kernel
theorem dX4_wrong_2 : decode cX4_wrong 2 = .ok (.aload_n 0, 1) := by decide +kernel
theorem dX4_wrong_3 : decode cX4_wrong 3 = .ok (.getfield 18, 3) := by decide +kernel
theorem dX4_wrong_6 : decode cX4_wrong 6 = .ok (.astore_n 2, 1) := by decide +kernel
theorem dX4_wrong_7 : decode cX4_wrong 7 = .ok (.aload_n 2, 1) := by decide +kernel
theorem dX4_wrong_8 : decode cX4_wrong 8 = .ok (.arraylength, 1) := by decide +kernel
theorem dX4_wrong_9 : decode cX4_wrong 9 = .ok (.istore_n 3, 1) := by decide +kernel
theorem dX4_wrong_10 : decode cX4_wrong 10 = .ok (.iconst 0, 1) := by decide +kernel
theorem dX4_wrong_11 : decode cX4_wrong 11 = .ok (.istore 4, 2) := by decide +kernel
theorem dX4_wrong_13 : decode cX4_wrong 13 = .ok (.iload 4, 2) := by decide +kernel
theorem dX4_wrong_15 : decode cX4_wrong 15 = .ok (.iload_n 3, 1) := by decide +kernel
theorem dX4_wrong_16 : decode cX4_wrong 16 = .ok (.if_icmp .ge 20, 3) := by decide +kernel
theorem dX4_wrong_19 : decode cX4_wrong 19 = .ok (.aload_n 2, 1) := by decide +kernel
theorem dX4_wrong_20 : decode cX4_wrong 20 = .ok (.iload 4, 2) := by decide +kernel
theorem dX4_wrong_22 : decode cX4_wrong 22 = .ok (.iaload, 1) := by decide +kernel
theorem dX4_wrong_23 : decode cX4_wrong 23 = .ok (.istore 5, 2) := by decide +kernel
theorem dX4_wrong_25 : decode cX4_wrong 25 = .ok (.iload_n 1, 1) := by decide +kernel
theorem dX4_wrong_26 : decode cX4_wrong 26 = .ok (.iload 5, 2) := by decide +kernel
theorem dX4_wrong_28 : decode cX4_wrong 28 = .ok (.iadd, 1) := by decide +kernel
theorem dX4_wrong_29 : decode cX4_wrong 29 = .ok (.istore_n 1, 1) := by decide +kernel
theorem dX4_wrong_30 : decode cX4_wrong 30 = .ok (.iinc 4 1, 3) := by decide +kernel
theorem dX4_wrong_33 : decode cX4_wrong 33 = .ok (.goto (-20), 3) := by decide +kernel
theorem dX4_wrong_36 : decode cX4_wrong 36 = .ok (.aload_n 0, 1) := by decide +kernel
theorem dX4_wrong_37 : decode cX4_wrong 37 = .ok (.getfield 32, 3) := by decide +kernel
theorem dX4_wrong_40 : decode cX4_wrong 40 = .ok (.ifCond .eq 7, 3) := by decide +kernel
theorem dX4_wrong_43 : decode cX4_wrong 43 = .ok (.iload_n 1, 1) := by decide +kernel
theorem dX4_wrong_44 : decode cX4_wrong 44 = .ok (.goto 4, 3) := by decide +kernel
theorem dX4_wrong_47 : decode cX4_wrong 47 = .ok (.iconst 0, 1) := by decide +kernel
theorem dX4_wrong_48 : decode cX4_wrong 48 = .ok (.ireturn, 1) := by decide +kernel
theorem dX5_init_0 : decode cX5_init 0 = .ok (.aload_n 0, 1) := by decide +kernel
theorem dX5_init_1 : decode cX5_init 1 = .ok (.invokespecial 1, 3) := by decide +kernel
theorem dX5_init_4 : decode cX5_init 4 = .ok (.aload_n 0, 1) := by decide +kernel
theorem dX5_init_5 : decode cX5_init 5 = .ok (.iconst 0, 1) := by decide +kernel
theorem dX5_init_6 : decode cX5_init 6 = .ok (.newarray .int, 2) := by decide +kernel
theorem dX5_init_8 : decode cX5_init 8 = .ok (.putfield 7, 3) := by decide +kernel
theorem dX5_init_11 : decode cX5_init 11 = .ok (.aload_n 0, 1) := by decide +kernel
theorem dX5_init_12 : decode cX5_init 12 = .ok (.iconst 0, 1) := by decide +kernel
theorem dX5_init_13 : decode cX5_init 13 = .ok (.anewarray 13, 3) := by decide +kernel
theorem dX5_init_16 : decode cX5_init 16 = .ok (.putfield 15, 3) := by decide +kernel
theorem dX5_init_19 : decode cX5_init 19 = .ok (.aload_n 0, 1) := by decide +kernel
theorem dX5_init_20 : decode cX5_init 20 = .ok (.bipush 10, 2) := by decide +kernel
theorem dX5_init_22 : decode cX5_init 22 = .ok (.newarray .int, 2) := by decide +kernel
theorem dX5_init_24 : decode cX5_init 24 = .ok (.dup, 1) := by decide +kernel
theorem dX5_init_25 : decode cX5_init 25 = .ok (.iconst 0, 1) := by decide +kernel
theorem dX5_init_26 : decode cX5_init 26 = .ok (.iconst (-1), 1) := by decide +kernel
theorem dX5_init_27 : decode cX5_init 27 = .ok (.iastore, 1) := by decide +kernel
theorem dX5_init_28 : decode cX5_init 28 = .ok (.dup, 1) := by decide +kernel
theorem dX5_init_29 : decode cX5_init 29 = .ok (.iconst 1, 1) := by decide +kernel
theorem dX5_init_30 : decode cX5_init 30 = .ok (.iconst (-1), 1) := by decide +kernel
theorem dX5_init_31 : decode cX5_init 31 = .ok (.iastore, 1) := by decide +kernel
theorem dX5_init_32 : decode cX5_init 32 = .ok (.dup, 1) := by decide +kernel
theorem dX5_init_33 : decode cX5_init 33 = .ok (.iconst 2, 1) := by decide +kernel
theorem dX5_init_34 : decode cX5_init 34 = .ok (.iconst (-1), 1) := by decide +kernel
theorem dX5_init_35 : decode cX5_init 35 = .ok (.iastore, 1) := by decide +kernel
theorem dX5_init_36 : decode cX5_init 36 = .ok (.dup, 1) := by decide +kernel
theorem dX5_init_37 : decode cX5_init 37 = .ok (.iconst 3, 1) := by decide +kernel
theorem dX5_init_38 : decode cX5_init 38 = .ok (.iconst (-1), 1) := by decide +kernel
theorem dX5_init_39 : decode cX5_init 39 = .ok (.iastore, 1) := by decide +kernel
theorem dX5_init_40 : decode cX5_init 40 = .ok (.dup, 1) := by decide +kernel
theorem dX5_init_41 : decode cX5_init 41 = .ok (.iconst 4, 1) := by decide +kernel
theorem dX5_init_42 : decode cX5_init 42 = .ok (.iconst (-1), 1) := by decide +kernel
theorem dX5_init_43 : decode cX5_init 43 = .ok (.iastore, 1) := by decide +kernel
theorem dX5_init_44 : decode cX5_init 44 = .ok (.dup, 1) := by decide +kernel
theorem dX5_init_45 : decode cX5_init 45 = .ok (.iconst 5, 1) := by decide +kernel
theorem dX5_init_46 : decode cX5_init 46 = .ok (.iconst (-1), 1) := by decide +kernel
theorem dX5_init_47 : decode cX5_init 47 = .ok (.iastore, 1) := by decide +kernel
theorem dX5_init_48 : decode cX5_init 48 = .ok (.dup, 1) := by decide +kernel
theorem dX5_init_49 : decode cX5_init 49 = .ok (.bipush 6, 2) := by decide +kernel
theorem dX5_init_51 : decode cX5_init 51 = .ok (.iconst (-1), 1) := by decide +kernel
theorem dX5_init_52 : decode cX5_init 52 = .ok (.iastore, 1) := by decide +kernel
theorem dX5_init_53 : decode cX5_init 53 = .ok (.dup, 1) := by decide +kernel
theorem dX5_init_54 : decode cX5_init 54 = .ok (.bipush 7, 2) := by decide +kernel
theorem dX5_init_56 : decode cX5_init 56 = .ok (.iconst (-1), 1) := by decide +kernel
theorem dX5_init_57 : decode cX5_init 57 = .ok (.iastore, 1) := by decide +kernel
theorem dX5_init_58 : decode cX5_init 58 = .ok (.dup, 1) := by decide +kernel
theorem dX5_init_59 : decode cX5_init 59 = .ok (.bipush 8, 2) := by decide +kernel
theorem dX5_init_61 : decode cX5_init 61 = .ok (.iconst (-1), 1) := by decide +kernel
theorem dX5_init_62 : decode cX5_init 62 = .ok (.iastore, 1) := by decide +kernel
theorem dX5_init_63 : decode cX5_init 63 = .ok (.dup, 1) := by decide +kernel
theorem dX5_init_64 : decode cX5_init 64 = .ok (.bipush 9, 2) := by decide +kernel
theorem dX5_init_66 : decode cX5_init 66 = .ok (.iconst (-1), 1) := by decide +kernel
theorem dX5_init_67 : decode cX5_init 67 = .ok (.iastore, 1) := by decide +kernel
theorem dX5_init_68 : decode cX5_init 68 = .ok (.putfield 19, 3) := by decide +kernel
theorem dX5_init_71 : decode cX5_init 71 = .ok (.aload_n 0, 1) := by decide +kernel
theorem dX5_init_72 : decode cX5_init 72 = .ok (.iconst 4, 1) := by decide +kernel
theorem dX5_init_73 : decode cX5_init 73 = .ok (.anewarray 22, 3) := by decide +kernel
theorem dX5_init_76 : decode cX5_init 76 = .ok (.dup, 1) := by decide +kernel
theorem dX5_init_77 : decode cX5_init 77 = .ok (.iconst 0, 1) := by decide +kernel
theorem dX5_init_78 : decode cX5_init 78 = .ok (.iconst 2, 1) := by decide +kernel
theorem dX5_init_79 : decode cX5_init 79 = .ok (.newarray .int, 2) := by decide +kernel
theorem dX5_init_81 : decode cX5_init 81 = .ok (.dup, 1) := by decide +kernel
theorem dX5_init_82 : decode cX5_init 82 = .ok (.iconst 0, 1) := by decide +kernel
theorem dX5_init_83 : decode cX5_init 83 = .ok (.iconst 3, 1) := by decide +kernel
theorem dX5_init_84 : decode cX5_init 84 = .ok (.iastore, 1) := by decide +kernel
theorem dX5_init_85 : decode cX5_init 85 = .ok (.dup, 1) := by decide +kernel
theorem dX5_init_86 : decode cX5_init 86 = .ok (.iconst 1, 1) := by decide +kernel
theorem dX5_init_87 : decode cX5_init 87 = .ok (.iconst 5, 1) := by decide +kernel
theorem dX5_init_88 : decode cX5_init 88 = .ok (.iastore, 1) := by decide +kernel
theorem dX5_init_89 : decode cX5_init 89 = .ok (.aastore, 1) := by decide +kernel
theorem dX5_init_90 : decode cX5_init 90 = .ok (.dup, 1) := by decide +kernel
theorem dX5_init_91 : decode cX5_init 91 = .ok (.iconst 1, 1) := by decide +kernel
theorem dX5_init_92 : decode cX5_init 92 = .ok (.iconst 2, 1) := by decide +kernel
theorem dX5_init_93 : decode cX5_init 93 = .ok (.newarray .int, 2) := by decide +kernel
theorem dX5_init_95 : decode cX5_init 95 = .ok (.dup, 1) := by decide +kernel
theorem dX5_init_96 : decode cX5_init 96 = .ok (.iconst 0, 1) := by decide +kernel
theorem dX5_init_97 : decode cX5_init 97 = .ok (.iconst 3, 1) := by decide +kernel
theorem dX5_init_98 : decode cX5_init 98 = .ok (.iastore, 1) := by decide +kernel
theorem dX5_init_99 : decode cX5_init 99 = .ok (.dup, 1) := by decide +kernel
theorem dX5_init_100 : decode cX5_init 100 = .ok (.iconst 1, 1) := by decide +kernel
theorem dX5_init_101 : decode cX5_init 101 = .ok (.iconst 5, 1) := by decide +kernel
theorem dX5_init_102 : decode cX5_init 102 = .ok (.iastore, 1) := by decide +kernel
theorem dX5_init_103 : decode cX5_init 103 = .ok (.aastore, 1) := by decide +kernel
theorem dX5_init_104 : decode cX5_init 104 = .ok (.dup, 1) := by decide +kernel
theorem dX5_init_105 : decode cX5_init 105 = .ok (.iconst 2, 1) := by decide +kernel
theorem dX5_init_106 : decode cX5_init 106 = .ok (.iconst 2, 1) := by decide +kernel
theorem dX5_init_107 : decode cX5_init 107 = .ok (.newarray .int, 2) := by decide +kernel
theorem dX5_init_109 : decode cX5_init 109 = .ok (.dup, 1) := by decide +kernel
theorem dX5_init_110 : decode cX5_init 110 = .ok (.iconst 0, 1) := by decide +kernel
theorem dX5_init_111 : decode cX5_init 111 = .ok (.iconst 3, 1) := by decide +kernel
theorem dX5_init_112 : decode cX5_init 112 = .ok (.iastore, 1) := by decide +kernel
theorem dX5_init_113 : decode cX5_init 113 = .ok (.dup, 1) := by decide +kernel
theorem dX5_init_114 : decode cX5_init 114 = .ok (.iconst 1, 1) := by decide +kernel
theorem dX5_init_115 : decode cX5_init 115 = .ok (.iconst 5, 1) := by decide +kernel
theorem dX5_init_116 : decode cX5_init 116 = .ok (.iastore, 1) := by decide +kernel
theorem dX5_init_117 : decode cX5_init 117 = .ok (.aastore, 1) := by decide +kernel
theorem dX5_init_118 : decode cX5_init 118 = .ok (.dup, 1) := by decide +kernel
theorem dX5_init_119 : decode cX5_init 119 = .ok (.iconst 3, 1) := by decide +kernel
theorem dX5_init_120 : decode cX5_init 120 = .ok (.iconst 2, 1) := by decide +kernel
theorem dX5_init_121 : decode cX5_init 121 = .ok (.newarray .int, 2) := by decide +kernel
theorem dX5_init_123 : decode cX5_init 123 = .ok (.dup, 1) := by decide +kernel
theorem dX5_init_124 : decode cX5_init 124 = .ok (.iconst 0, 1) := by decide +kernel
theorem dX5_init_125 : decode cX5_init 125 = .ok (.iconst 3, 1) := by decide +kernel
theorem dX5_init_126 : decode cX5_init 126 = .ok (.iastore, 1) := by decide +kernel
theorem dX5_init_127 : decode cX5_init 127 = .ok (.dup, 1) := by decide +kernel
theorem dX5_init_128 : decode cX5_init 128 = .ok (.iconst 1, 1) := by decide +kernel
theorem dX5_init_129 : decode cX5_init 129 = .ok (.iconst 5, 1) := by decide +kernel
theorem dX5_init_130 : decode cX5_init 130 = .ok (.iastore, 1) := by decide +kernel
theorem dX5_init_131 : decode cX5_init 131 = .ok (.aastore, 1) := by decide +kernel
theorem dX5_init_132 : decode cX5_init 132 = .ok (.putfield 23, 3) := by decide +kernel
theorem dX5_init_135 : decode cX5_init 135 = .ok (.aload_n 0, 1) := by decide +kernel
theorem dX5_init_136 : decode cX5_init 136 = .ok (.iconst 0, 1) := by decide +kernel
theorem dX5_init_137 : decode cX5_init 137 = .ok (.anewarray 26, 3) := by decide +kernel
theorem dX5_init_140 : decode cX5_init 140 = .ok (.putfield 28, 3) := by decide +kernel
theorem dX5_init_143 : decode cX5_init 143 = .ok (.return_, 1) := by decide +kernel
theorem dX5_more_0 : decode cX5_more 0 = .ok (.aload_n 0, 1) := by decide +kernel
theorem dX5_more_1 : decode cX5_more 1 = .ok (.arraylength, 1) := by decide +kernel
theorem dX5_more_2 : decode cX5_more 2 = .ok (.iconst 1, 1) := by decide +kernel
theorem dX5_more_3 : decode cX5_more 3 = .ok (.iadd, 1) := by decide +kernel
theorem dX5_more_4 : decode cX5_more 4 = .ok (.anewarray 26, 3) := by decide +kernel
theorem dX5_more_7 : decode cX5_more 7 = .ok (.astore_n 2, 1) := by decide +kernel
theorem dX5_more_8 : decode cX5_more 8 = .ok (.iconst 0, 1) := by decide +kernel
theorem dX5_more_9 : decode cX5_more 9 = .ok (.istore_n 3, 1) := by decide +kernel
theorem dX5_more_10 : decode cX5_more 10 = .ok (.iload_n 3, 1) := by decide +kernel
theorem dX5_more_11 : decode cX5_more 11 = .ok (.aload_n 0, 1) := by decide +kernel
theorem dX5_more_12 : decode cX5_more 12 = .ok (.arraylength, 1) := by decide +kernel
theorem dX5_more_13 : decode cX5_more 13 = .ok (.if_icmp .ge 15, 3) := by decide +kernel
theorem dX5_more_16 : decode cX5_more 16 = .ok (.aload_n 2, 1) := by decide +kernel
theorem dX5_more_17 : decode cX5_more 17 = .ok (.iload_n 3, 1) := by decide +kernel
theorem dX5_more_18 : decode cX5_more 18 = .ok (.aload_n 0, 1) := by decide +kernel
theorem dX5_more_19 : decode cX5_more 19 = .ok (.iload_n 3, 1) := by decide +kernel
theorem dX5_more_20 : decode cX5_more 20 = .ok (.aaload, 1) := by decide +kernel
theorem dX5_more_21 : decode cX5_more 21 = .ok (.aastore, 1) := by decide +kernel
theorem dX5_more_22 : decode cX5_more 22 = .ok (.iinc 3 1, 3) := by decide +kernel
theorem dX5_more_25 : decode cX5_more 25 = .ok (.goto (-15), 3) := by decide +kernel
theorem dX5_more_28 : decode cX5_more 28 = .ok (.aload_n 2, 1) := by decide +kernel
theorem dX5_more_29 : decode cX5_more 29 = .ok (.aload_n 0, 1) := by decide +kernel
theorem dX5_more_30 : decode cX5_more 30 = .ok (.arraylength, 1) := by decide +kernel
theorem dX5_more_31 : decode cX5_more 31 = .ok (.aload_n 1, 1) := by decide +kernel
theorem dX5_more_32 : decode cX5_more 32 = .ok (.aastore, 1) := by decide +kernel
theorem dX5_more_33 : decode cX5_more 33 = .ok (.aload_n 2, 1) := by decide +kernel
theorem dX5_more_34 : decode cX5_more 34 = .ok (.areturn, 1) := by decide +kernel
theorem dX5_more__0 : decode cX5_more_ 0 = .ok (.aload_n 0, 1) := by decide +kernel
theorem dX5_more__1 : decode cX5_more_ 1 = .ok (.arraylength, 1) := by decide +kernel
theorem dX5_more__2 : decode cX5_more_ 2 = .ok (.iconst 1, 1) := by decide +kernel
theorem dX5_more__3 : decode cX5_more_ 3 = .ok (.iadd, 1) := by decide +kernel
theorem dX5_more__4 : decode cX5_more_ 4 = .ok (.anewarray 22, 3) := by decide +kernel
theorem dX5_more__7 : decode cX5_more_ 7 = .ok (.astore_n 2, 1) := by decide +kernel
theorem dX5_more__8 : decode cX5_more_ 8 = .ok (.iconst 0, 1) := by decide +kernel
theorem dX5_more__9 : decode cX5_more_ 9 = .ok (.istore_n 3, 1) := by decide +kernel
theorem dX5_more__10 : decode cX5_more_ 10 = .ok (.iload_n 3, 1) := by decide +kernel
theorem dX5_more__11 : decode cX5_more_ 11 = .ok (.aload_n 0, 1) := by decide +kernel
theorem dX5_more__12 : decode cX5_more_ 12 = .ok (.arraylength, 1) := by decide +kernel
theorem dX5_more__13 : decode cX5_more_ 13 = .ok (.if_icmp .ge 15, 3) := by decide +kernel
theorem dX5_more__16 : decode cX5_more_ 16 = .ok (.aload_n 2, 1) := by decide +kernel
theorem dX5_more__17 : decode cX5_more_ 17 = .ok (.iload_n 3, 1) := by decide +kernel
theorem dX5_more__18 : decode cX5_more_ 18 = .ok (.aload_n 0, 1) := by decide +kernel
theorem dX5_more__19 : decode cX5_more_ 19 = .ok (.iload_n 3, 1) := by decide +kernel
theorem dX5_more__20 : decode cX5_more_ 20 = .ok (.aaload, 1) := by decide +kernel
theorem dX5_more__21 : decode cX5_more_ 21 = .ok (.aastore, 1) := by decide +kernel
theorem dX5_more__22 : decode cX5_more_ 22 = .ok (.iinc 3 1, 3) := by decide +kernel
theorem dX5_more__25 : decode cX5_more_ 25 = .ok (.goto (-15), 3) := by decide +kernel
theorem dX5_more__28 : decode cX5_more_ 28 = .ok (.aload_n 2, 1) := by decide +kernel
theorem dX5_more__29 : decode cX5_more_ 29 = .ok (.aload_n 0, 1) := by decide +kernel
theorem dX5_more__30 : decode cX5_more_ 30 = .ok (.arraylength, 1) := by decide +kernel
theorem dX5_more__31 : decode cX5_more_ 31 = .ok (.aload_n 1, 1) := by decide +kernel
theorem dX5_more__32 : decode cX5_more_ 32 = .ok (.aastore, 1) := by decide +kernel
theorem dX5_more__33 : decode cX5_more_ 33 = .ok (.aload_n 2, 1) := by decide +kernel
theorem dX5_more__34 : decode cX5_more_ 34 = .ok (.areturn, 1) := by decide +kernel
theorem dX5_letters_0 : decode cX5_letters 0 = .ok (.new 32, 3) := by decide +kernel
theorem dX5_letters_3 : decode cX5_letters 3 = .ok (.dup, 1) := by decide +kernel
theorem dX5_letters_4 : decode cX5_letters 4 = .ok (.invokespecial 34, 3) := by decide +kernel
theorem dX5_letters_7 : decode cX5_letters 7 = .ok (.ldc 35, 2) := by decide +kernel
theorem dX5_letters_9 : decode cX5_letters 9 = .ok (.invokevirtual 37, 3) := by decide +kernel
theorem dX5_letters_12 : decode cX5_letters 12 = .ok (.iload_n 0, 1) := by decide +kernel
theorem dX5_letters_13 : decode cX5_letters 13 = .ok (.invokevirtual 41, 3) := by decide +kernel
theorem dX5_letters_16 : decode cX5_letters 16 = .ok (.invokevirtual 44, 3) := by decide +kernel
theorem dX5_letters_19 : decode cX5_letters 19 = .ok (.astore_n 1, 1) := by decide +kernel
theorem dX5_letters_20 : decode cX5_letters 20 = .ok (.aload_n 1, 1) := by decide +kernel
theorem dX5_letters_21 : decode cX5_letters 21 = .ok (.invokevirtual 48, 3) := by decide +kernel
theorem dX5_letters_24 : decode cX5_letters 24 = .ok (.newarray .int, 2) := by decide +kernel
theorem dX5_letters_26 : decode cX5_letters 26 = .ok (.astore_n 2, 1) := by decide +kernel
theorem dX5_letters_27 : decode cX5_letters 27 = .ok (.iconst 0, 1) := by decide +kernel
theorem dX5_letters_28 : decode cX5_letters 28 = .ok (.istore_n 3, 1) := by decide +kernel
theorem dX5_letters_29 : decode cX5_letters 29 = .ok (.iload_n 3, 1) := by decide +kernel
theorem dX5_letters_30 : decode cX5_letters 30 = .ok (.aload_n 2, 1) := by decide +kernel
theorem dX5_letters_31 : decode cX5_letters 31 = .ok (.arraylength, 1) := by decide +kernel
theorem dX5_letters_32 : decode cX5_letters 32 = .ok (.if_icmp .ge 20, 3) := by decide +kernel
theorem dX5_letters_35 : decode cX5_letters 35 = .ok (.aload_n 2, 1) := by decide +kernel
theorem dX5_letters_36 : decode cX5_letters 36 = .ok (.iload_n 3, 1) := by decide +kernel
theorem dX5_letters_37 : decode cX5_letters 37 = .ok (.aload_n 1, 1) := by decide +kernel
theorem dX5_letters_38 : decode cX5_letters 38 = .ok (.iload_n 3, 1) := by decide +kernel
theorem dX5_letters_39 : decode cX5_letters 39 = .ok (.invokevirtual 54, 3) := by decide +kernel
theorem dX5_letters_42 : decode cX5_letters 42 = .ok (.bipush 48, 2) := by decide +kernel
theorem dX5_letters_44 : decode cX5_letters 44 = .ok (.isub, 1) := by decide +kernel
theorem dX5_letters_45 : decode cX5_letters 45 = .ok (.iastore, 1) := by decide +kernel
theorem dX5_letters_46 : decode cX5_letters 46 = .ok (.iinc 3 1, 3) := by decide +kernel
theorem dX5_letters_49 : decode cX5_letters 49 = .ok (.goto (-20), 3) := by decide +kernel
theorem dX5_letters_52 : decode cX5_letters 52 = .ok (.aload_n 2, 1) := by decide +kernel
theorem dX5_letters_53 : decode cX5_letters 53 = .ok (.areturn, 1) := by decide +kernel
theorem dX5_word_0 : decode cX5_word 0 = .ok (.iconst 0, 1) := by decide +kernel
theorem dX5_word_1 : decode cX5_word 1 = .ok (.istore_n 1, 1) := by decide +kernel
theorem dX5_word_2 : decode cX5_word 2 = .ok (.aload_n 0, 1) := by decide +kernel
theorem dX5_word_3 : decode cX5_word 3 = .ok (.astore_n 2, 1) := by decide +kernel
theorem dX5_word_4 : decode cX5_word 4 = .ok (.aload_n 2, 1) := by decide +kernel
theorem dX5_word_5 : decode cX5_word 5 = .ok (.arraylength, 1) := by decide +kernel
theorem dX5_word_6 : decode cX5_word 6 = .ok (.istore_n 3, 1) := by decide +kernel
theorem dX5_word_7 : decode cX5_word 7 = .ok (.iconst 0, 1) := by decide +kernel
theorem dX5_word_8 : decode cX5_word 8 = .ok (.istore 4, 2) := by decide +kernel
theorem dX5_word_10 : decode cX5_word 10 = .ok (.iload 4, 2) := by decide +kernel
theorem dX5_word_12 : decode cX5_word 12 = .ok (.iload_n 3, 1) := by decide +kernel
theorem dX5_word_13 : decode cX5_word 13 = .ok (.if_icmp .ge 23, 3) := by decide +kernel
theorem dX5_word_16 : decode cX5_word 16 = .ok (.aload_n 2, 1) := by decide +kernel
theorem dX5_word_17 : decode cX5_word 17 = .ok (.iload 4, 2) := by decide +kernel
theorem dX5_word_19 : decode cX5_word 19 = .ok (.iaload, 1) := by decide +kernel
theorem dX5_word_20 : decode cX5_word 20 = .ok (.istore 5, 2) := by decide +kernel
theorem dX5_word_22 : decode cX5_word 22 = .ok (.bipush 10, 2) := by decide +kernel
theorem dX5_word_24 : decode cX5_word 24 = .ok (.iload_n 1, 1) := by decide +kernel
theorem dX5_word_25 : decode cX5_word 25 = .ok (.imul, 1) := by decide +kernel
theorem dX5_word_26 : decode cX5_word 26 = .ok (.iload 5, 2) := by decide +kernel
theorem dX5_word_28 : decode cX5_word 28 = .ok (.iadd, 1) := by decide +kernel
theorem dX5_word_29 : decode cX5_word 29 = .ok (.istore_n 1, 1) := by decide +kernel
theorem dX5_word_30 : decode cX5_word 30 = .ok (.iinc 4 1, 3) := by decide +kernel
theorem dX5_word_33 : decode cX5_word 33 = .ok (.goto (-23), 3) := by decide +kernel
theorem dX5_word_36 : decode cX5_word 36 = .ok (.iload_n 1, 1) := by decide +kernel
theorem dX5_word_37 : decode cX5_word 37 = .ok (.ireturn, 1) := by decide +kernel
theorem dX5_take_0 : decode cX5_take 0 = .ok (.aload_n 2, 1) := by decide +kernel
theorem dX5_take_1 : decode cX5_take 1 = .ok (.invokevirtual 58, 3) := by decide +kernel
theorem dX5_take_4 : decode cX5_take 4 = .ok (.checkcast 22, 3) := by decide +kernel
theorem dX5_take_7 : decode cX5_take 7 = .ok (.astore_n 3, 1) := by decide +kernel
theorem dX5_take_8 : decode cX5_take 8 = .ok (.aload_n 1, 1) := by decide +kernel
theorem dX5_take_9 : decode cX5_take 9 = .ok (.arraylength, 1) := by decide +kernel
theorem dX5_take_10 : decode cX5_take 10 = .ok (.newarray .int, 2) := by decide +kernel
theorem dX5_take_12 : decode cX5_take 12 = .ok (.astore 4, 2) := by decide +kernel
theorem dX5_take_14 : decode cX5_take 14 = .ok (.iconst 0, 1) := by decide +kernel
theorem dX5_take_15 : decode cX5_take 15 = .ok (.istore 5, 2) := by decide +kernel
theorem dX5_take_17 : decode cX5_take 17 = .ok (.iload 5, 2) := by decide +kernel
theorem dX5_take_19 : decode cX5_take 19 = .ok (.aload_n 1, 1) := by decide +kernel
theorem dX5_take_20 : decode cX5_take 20 = .ok (.arraylength, 1) := by decide +kernel
theorem dX5_take_21 : decode cX5_take 21 = .ok (.if_icmp .ge 66, 3) := by decide +kernel
theorem dX5_take_24 : decode cX5_take 24 = .ok (.aload_n 3, 1) := by decide +kernel
theorem dX5_take_25 : decode cX5_take 25 = .ok (.aload_n 1, 1) := by decide +kernel
theorem dX5_take_26 : decode cX5_take 26 = .ok (.iload 5, 2) := by decide +kernel
theorem dX5_take_28 : decode cX5_take 28 = .ok (.iaload, 1) := by decide +kernel
theorem dX5_take_29 : decode cX5_take 29 = .ok (.iaload, 1) := by decide +kernel
theorem dX5_take_30 : decode cX5_take 30 = .ok (.ifCond .le 10, 3) := by decide +kernel
theorem dX5_take_33 : decode cX5_take 33 = .ok (.aload_n 1, 1) := by decide +kernel
theorem dX5_take_34 : decode cX5_take 34 = .ok (.iload 5, 2) := by decide +kernel
theorem dX5_take_36 : decode cX5_take 36 = .ok (.iaload, 1) := by decide +kernel
theorem dX5_take_37 : decode cX5_take 37 = .ok (.goto 12, 3) := by decide +kernel
theorem dX5_take_40 : decode cX5_take 40 = .ok (.aload_n 0, 1) := by decide +kernel
theorem dX5_take_41 : decode cX5_take 41 = .ok (.getfield 19, 3) := by decide +kernel
theorem dX5_take_44 : decode cX5_take 44 = .ok (.aload_n 1, 1) := by decide +kernel
theorem dX5_take_45 : decode cX5_take 45 = .ok (.iload 5, 2) := by decide +kernel
theorem dX5_take_47 : decode cX5_take 47 = .ok (.iaload, 1) := by decide +kernel
theorem dX5_take_48 : decode cX5_take 48 = .ok (.iaload, 1) := by decide +kernel
theorem dX5_take_49 : decode cX5_take 49 = .ok (.istore 6, 2) := by decide +kernel
theorem dX5_take_51 : decode cX5_take 51 = .ok (.iload 6, 2) := by decide +kernel
theorem dX5_take_53 : decode cX5_take 53 = .ok (.ifCond .lt 11, 3) := by decide +kernel
theorem dX5_take_56 : decode cX5_take 56 = .ok (.aload_n 3, 1) := by decide +kernel
theorem dX5_take_57 : decode cX5_take 57 = .ok (.iload 6, 2) := by decide +kernel
theorem dX5_take_59 : decode cX5_take 59 = .ok (.iaload, 1) := by decide +kernel
theorem dX5_take_60 : decode cX5_take 60 = .ok (.iconst 1, 1) := by decide +kernel
theorem dX5_take_61 : decode cX5_take 61 = .ok (.if_icmp .ge 5, 3) := by decide +kernel
theorem dX5_take_64 : decode cX5_take 64 = .ok (.aconst_null, 1) := by decide +kernel
theorem dX5_take_65 : decode cX5_take 65 = .ok (.areturn, 1) := by decide +kernel
theorem dX5_take_66 : decode cX5_take 66 = .ok (.aload_n 3, 1) := by decide +kernel
theorem dX5_take_67 : decode cX5_take 67 = .ok (.iload 6, 2) := by decide +kernel
theorem dX5_take_69 : decode cX5_take 69 = .ok (.dup2, 1) := by decide +kernel
theorem dX5_take_70 : decode cX5_take 70 = .ok (.iaload, 1) := by decide +kernel
theorem dX5_take_71 : decode cX5_take 71 = .ok (.iconst 1, 1) := by decide +kernel
theorem dX5_take_72 : decode cX5_take 72 = .ok (.isub, 1) := by decide +kernel
theorem dX5_take_73 : decode cX5_take 73 = .ok (.iastore, 1) := by decide +kernel
theorem dX5_take_74 : decode cX5_take 74 = .ok (.aload 4, 2) := by decide +kernel
theorem dX5_take_76 : decode cX5_take 76 = .ok (.iload 5, 2) := by decide +kernel
theorem dX5_take_78 : decode cX5_take 78 = .ok (.iload 6, 2) := by decide +kernel
theorem dX5_take_80 : decode cX5_take 80 = .ok (.iastore, 1) := by decide +kernel
theorem dX5_take_81 : decode cX5_take 81 = .ok (.iinc 5 1, 3) := by decide +kernel
theorem dX5_take_84 : decode cX5_take 84 = .ok (.goto (-67), 3) := by decide +kernel
theorem dX5_take_87 : decode cX5_take 87 = .ok (.aload 4, 2) := by decide +kernel
theorem dX5_take_89 : decode cX5_take 89 = .ok (.areturn, 1) := by decide +kernel
theorem dX5_wrong_0 : decode cX5_wrong 0 = .ok (.iconst 0, 1) := by decide +kernel
theorem dX5_wrong_1 : decode cX5_wrong 1 = .ok (.istore_n 2, 1) := by decide +kernel
theorem dX5_wrong_2 : decode cX5_wrong 2 = .ok (.iconst 0, 1) := by decide +kernel
theorem dX5_wrong_3 : decode cX5_wrong 3 = .ok (.istore_n 3, 1) := by decide +kernel
theorem dX5_wrong_4 : decode cX5_wrong 4 = .ok (.iload_n 3, 1) := by decide +kernel
theorem dX5_wrong_5 : decode cX5_wrong 5 = .ok (.aload_n 0, 1) := by decide +kernel
theorem dX5_wrong_6 : decode cX5_wrong 6 = .ok (.arraylength, 1) := by decide +kernel
theorem dX5_wrong_7 : decode cX5_wrong 7 = .ok (.if_icmp .ge 26, 3) := by decide +kernel
theorem dX5_wrong_10 : decode cX5_wrong 10 = .ok (.iload_n 2, 1) := by decide +kernel
theorem dX5_wrong_11 : decode cX5_wrong 11 = .ok (.aload_n 0, 1) := by decide +kernel
theorem dX5_wrong_12 : decode cX5_wrong 12 = .ok (.iload_n 3, 1) := by decide +kernel
theorem dX5_wrong_13 : decode cX5_wrong 13 = .ok (.iaload, 1) := by decide +kernel
theorem dX5_wrong_14 : decode cX5_wrong 14 = .ok (.aload_n 1, 1) := by decide +kernel
theorem dX5_wrong_15 : decode cX5_wrong 15 = .ok (.iload_n 3, 1) := by decide +kernel
theorem dX5_wrong_16 : decode cX5_wrong 16 = .ok (.iaload, 1) := by decide +kernel
theorem dX5_wrong_17 : decode cX5_wrong 17 = .ok (.if_icmp .ne 7, 3) := by decide +kernel
theorem dX5_wrong_20 : decode cX5_wrong 20 = .ok (.iconst 0, 1) := by decide +kernel
theorem dX5_wrong_21 : decode cX5_wrong 21 = .ok (.goto 4, 3) := by decide +kernel
theorem dX5_wrong_24 : decode cX5_wrong 24 = .ok (.iconst 1, 1) := by decide +kernel
theorem dX5_wrong_25 : decode cX5_wrong 25 = .ok (.iadd, 1) := by decide +kernel
theorem dX5_wrong_26 : decode cX5_wrong 26 = .ok (.istore_n 2, 1) := by decide +kernel
theorem dX5_wrong_27 : decode cX5_wrong 27 = .ok (.iinc 3 1, 3) := by decide +kernel
theorem dX5_wrong_30 : decode cX5_wrong 30 = .ok (.goto (-26), 3) := by decide +kernel
theorem dX5_wrong_33 : decode cX5_wrong 33 = .ok (.iload_n 2, 1) := by decide +kernel
theorem dX5_wrong_34 : decode cX5_wrong 34 = .ok (.ireturn, 1) := by decide +kernel
theorem dX5_tried_0 : decode cX5_tried 0 = .ok (.aload_n 0, 1) := by decide +kernel
theorem dX5_tried_1 : decode cX5_tried 1 = .ok (.getfield 28, 3) := by decide +kernel
theorem dX5_tried_4 : decode cX5_tried 4 = .ok (.iload_n 1, 1) := by decide +kernel
theorem dX5_tried_5 : decode cX5_tried 5 = .ok (.aaload, 1) := by decide +kernel
theorem dX5_tried_6 : decode cX5_tried 6 = .ok (.invokevirtual 62, 3) := by decide +kernel
theorem dX5_tried_9 : decode cX5_tried 9 = .ok (.astore_n 2, 1) := by decide +kernel
theorem dX5_tried_10 : decode cX5_tried 10 = .ok (.aload_n 2, 1) := by decide +kernel
theorem dX5_tried_11 : decode cX5_tried 11 = .ok (.getfield 66, 3) := by decide +kernel
theorem dX5_tried_14 : decode cX5_tried 14 = .ok (.ifCond .ne 11, 3) := by decide +kernel
theorem dX5_tried_17 : decode cX5_tried 17 = .ok (.aload_n 2, 1) := by decide +kernel
theorem dX5_tried_18 : decode cX5_tried 18 = .ok (.getfield 70, 3) := by decide +kernel
theorem dX5_tried_21 : decode cX5_tried 21 = .ok (.arraylength, 1) := by decide +kernel
theorem dX5_tried_22 : decode cX5_tried 22 = .ok (.ifCond .ne 5, 3) := by decide +kernel
theorem dX5_tried_25 : decode cX5_tried 25 = .ok (.aconst_null, 1) := by decide +kernel
theorem dX5_tried_26 : decode cX5_tried 26 = .ok (.areturn, 1) := by decide +kernel
theorem dX5_tried_27 : decode cX5_tried 27 = .ok (.aload_n 0, 1) := by decide +kernel
theorem dX5_tried_28 : decode cX5_tried 28 = .ok (.getfield 15, 3) := by decide +kernel
theorem dX5_tried_31 : decode cX5_tried 31 = .ok (.arraylength, 1) := by decide +kernel
theorem dX5_tried_32 : decode cX5_tried 32 = .ok (.bipush 10, 2) := by decide +kernel
theorem dX5_tried_34 : decode cX5_tried 34 = .ok (.multianewarray 13 2, 4) := by decide +kernel
theorem dX5_tried_38 : decode cX5_tried 38 = .ok (.astore_n 3, 1) := by decide +kernel
theorem dX5_tried_39 : decode cX5_tried 39 = .ok (.iconst 0, 1) := by decide +kernel
theorem dX5_tried_40 : decode cX5_tried 40 = .ok (.istore 4, 2) := by decide +kernel
theorem dX5_tried_42 : decode cX5_tried 42 = .ok (.iload 4, 2) := by decide +kernel
theorem dX5_tried_44 : decode cX5_tried 44 = .ok (.aload_n 0, 1) := by decide +kernel
theorem dX5_tried_45 : decode cX5_tried 45 = .ok (.getfield 15, 3) := by decide +kernel
theorem dX5_tried_48 : decode cX5_tried 48 = .ok (.arraylength, 1) := by decide +kernel
theorem dX5_tried_49 : decode cX5_tried 49 = .ok (.if_icmp .ge 57, 3) := by decide +kernel
theorem dX5_tried_52 : decode cX5_tried 52 = .ok (.iconst 0, 1) := by decide +kernel
theorem dX5_tried_53 : decode cX5_tried 53 = .ok (.istore 5, 2) := by decide +kernel
theorem dX5_tried_55 : decode cX5_tried 55 = .ok (.iload 5, 2) := by decide +kernel
theorem dX5_tried_57 : decode cX5_tried 57 = .ok (.bipush 10, 2) := by decide +kernel
theorem dX5_tried_59 : decode cX5_tried 59 = .ok (.if_icmp .ge 41, 3) := by decide +kernel
theorem dX5_tried_62 : decode cX5_tried 62 = .ok (.aload_n 3, 1) := by decide +kernel
theorem dX5_tried_63 : decode cX5_tried 63 = .ok (.iload 4, 2) := by decide +kernel
theorem dX5_tried_65 : decode cX5_tried 65 = .ok (.aaload, 1) := by decide +kernel
theorem dX5_tried_66 : decode cX5_tried 66 = .ok (.iload 5, 2) := by decide +kernel
theorem dX5_tried_68 : decode cX5_tried 68 = .ok (.aload_n 0, 1) := by decide +kernel
theorem dX5_tried_69 : decode cX5_tried 69 = .ok (.getfield 15, 3) := by decide +kernel
theorem dX5_tried_72 : decode cX5_tried 72 = .ok (.iload 4, 2) := by decide +kernel
theorem dX5_tried_74 : decode cX5_tried 74 = .ok (.aaload, 1) := by decide +kernel
theorem dX5_tried_75 : decode cX5_tried 75 = .ok (.iload 5, 2) := by decide +kernel
theorem dX5_tried_77 : decode cX5_tried 77 = .ok (.aaload, 1) := by decide +kernel
theorem dX5_tried_78 : decode cX5_tried 78 = .ok (.iconst 0, 1) := by decide +kernel
theorem dX5_tried_79 : decode cX5_tried 79 = .ok (.iaload, 1) := by decide +kernel
theorem dX5_tried_80 : decode cX5_tried 80 = .ok (.aload_n 0, 1) := by decide +kernel
theorem dX5_tried_81 : decode cX5_tried 81 = .ok (.getfield 15, 3) := by decide +kernel
theorem dX5_tried_84 : decode cX5_tried 84 = .ok (.iload 4, 2) := by decide +kernel
theorem dX5_tried_86 : decode cX5_tried 86 = .ok (.aaload, 1) := by decide +kernel
theorem dX5_tried_87 : decode cX5_tried 87 = .ok (.iload 5, 2) := by decide +kernel
theorem dX5_tried_89 : decode cX5_tried 89 = .ok (.aaload, 1) := by decide +kernel
theorem dX5_tried_90 : decode cX5_tried 90 = .ok (.iconst 1, 1) := by decide +kernel
theorem dX5_tried_91 : decode cX5_tried 91 = .ok (.iaload, 1) := by decide +kernel
theorem dX5_tried_92 : decode cX5_tried 92 = .ok (.isub, 1) := by decide +kernel
theorem dX5_tried_93 : decode cX5_tried 93 = .ok (.iastore, 1) := by decide +kernel
theorem dX5_tried_94 : decode cX5_tried 94 = .ok (.iinc 5 1, 3) := by decide +kernel
theorem dX5_tried_97 : decode cX5_tried 97 = .ok (.goto (-42), 3) := by decide +kernel
theorem dX5_tried_100 : decode cX5_tried 100 = .ok (.iinc 4 1, 3) := by decide +kernel
theorem dX5_tried_103 : decode cX5_tried 103 = .ok (.goto (-61), 3) := by decide +kernel
theorem dX5_tried_106 : decode cX5_tried 106 = .ok (.aload_n 2, 1) := by decide +kernel
theorem dX5_tried_107 : decode cX5_tried 107 = .ok (.aload_n 2, 1) := by decide +kernel
theorem dX5_tried_108 : decode cX5_tried 108 = .ok (.getfield 70, 3) := by decide +kernel
theorem dX5_tried_111 : decode cX5_tried 111 = .ok (.arraylength, 1) := by decide +kernel
theorem dX5_tried_112 : decode cX5_tried 112 = .ok (.newarray .int, 2) := by decide +kernel
theorem dX5_tried_114 : decode cX5_tried 114 = .ok (.putfield 73, 3) := by decide +kernel
theorem dX5_tried_117 : decode cX5_tried 117 = .ok (.aload_n 2, 1) := by decide +kernel
theorem dX5_tried_118 : decode cX5_tried 118 = .ok (.aload_n 2, 1) := by decide +kernel
theorem dX5_tried_119 : decode cX5_tried 119 = .ok (.getfield 70, 3) := by decide +kernel
theorem dX5_tried_122 : decode cX5_tried 122 = .ok (.arraylength, 1) := by decide +kernel
theorem dX5_tried_123 : decode cX5_tried 123 = .ok (.newarray .int, 2) := by decide +kernel
theorem dX5_tried_125 : decode cX5_tried 125 = .ok (.putfield 75, 3) := by decide +kernel
theorem dX5_tried_128 : decode cX5_tried 128 = .ok (.aload_n 2, 1) := by decide +kernel
theorem dX5_tried_129 : decode cX5_tried 129 = .ok (.aload_n 2, 1) := by decide +kernel
theorem dX5_tried_130 : decode cX5_tried 130 = .ok (.getfield 70, 3) := by decide +kernel
theorem dX5_tried_133 : decode cX5_tried 133 = .ok (.arraylength, 1) := by decide +kernel
theorem dX5_tried_134 : decode cX5_tried 134 = .ok (.anewarray 22, 3) := by decide +kernel
theorem dX5_tried_137 : decode cX5_tried 137 = .ok (.putfield 78, 3) := by decide +kernel
theorem dX5_tried_140 : decode cX5_tried 140 = .ok (.aload_n 2, 1) := by decide +kernel
theorem dX5_tried_141 : decode cX5_tried 141 = .ok (.iconst 1, 1) := by decide +kernel
theorem dX5_tried_142 : decode cX5_tried 142 = .ok (.putfield 66, 3) := by decide +kernel
theorem dX5_tried_145 : decode cX5_tried 145 = .ok (.iconst 0, 1) := by decide +kernel
theorem dX5_tried_146 : decode cX5_tried 146 = .ok (.istore 4, 2) := by decide +kernel
theorem dX5_tried_148 : decode cX5_tried 148 = .ok (.iload 4, 2) := by decide +kernel
theorem dX5_tried_150 : decode cX5_tried 150 = .ok (.aload_n 2, 1) := by decide +kernel
theorem dX5_tried_151 : decode cX5_tried 151 = .ok (.getfield 70, 3) := by decide +kernel
theorem dX5_tried_154 : decode cX5_tried 154 = .ok (.arraylength, 1) := by decide +kernel
theorem dX5_tried_155 : decode cX5_tried 155 = .ok (.if_icmp .ge 223, 3) := by decide +kernel
theorem dX5_tried_158 : decode cX5_tried 158 = .ok (.iconst (-1), 1) := by decide +kernel
theorem dX5_tried_159 : decode cX5_tried 159 = .ok (.istore 5, 2) := by decide +kernel
theorem dX5_tried_161 : decode cX5_tried 161 = .ok (.aload_n 0, 1) := by decide +kernel
theorem dX5_tried_162 : decode cX5_tried 162 = .ok (.getfield 15, 3) := by decide +kernel
theorem dX5_tried_165 : decode cX5_tried 165 = .ok (.arraylength, 1) := by decide +kernel
theorem dX5_tried_166 : decode cX5_tried 166 = .ok (.iconst 1, 1) := by decide +kernel
theorem dX5_tried_167 : decode cX5_tried 167 = .ok (.isub, 1) := by decide +kernel
theorem dX5_tried_168 : decode cX5_tried 168 = .ok (.istore 6, 2) := by decide +kernel
theorem dX5_tried_170 : decode cX5_tried 170 = .ok (.iload 6, 2) := by decide +kernel
theorem dX5_tried_172 : decode cX5_tried 172 = .ok (.ifCond .lt 136, 3) := by decide +kernel
theorem dX5_tried_175 : decode cX5_tried 175 = .ok (.aload_n 0, 1) := by decide +kernel
theorem dX5_tried_176 : decode cX5_tried 176 = .ok (.getfield 7, 3) := by decide +kernel
theorem dX5_tried_179 : decode cX5_tried 179 = .ok (.iload 6, 2) := by decide +kernel
theorem dX5_tried_181 : decode cX5_tried 181 = .ok (.iaload, 1) := by decide +kernel
theorem dX5_tried_182 : decode cX5_tried 182 = .ok (.aload_n 2, 1) := by decide +kernel
theorem dX5_tried_183 : decode cX5_tried 183 = .ok (.getfield 81, 3) := by decide +kernel
theorem dX5_tried_186 : decode cX5_tried 186 = .ok (.if_icmp .ge 6, 3) := by decide +kernel
theorem dX5_tried_189 : decode cX5_tried 189 = .ok (.goto 113, 3) := by decide +kernel
theorem dX5_tried_192 : decode cX5_tried 192 = .ok (.aload_n 0, 1) := by decide +kernel
theorem dX5_tried_193 : decode cX5_tried 193 = .ok (.aload_n 2, 1) := by decide +kernel
theorem dX5_tried_194 : decode cX5_tried 194 = .ok (.getfield 70, 3) := by decide +kernel
theorem dX5_tried_197 : decode cX5_tried 197 = .ok (.iload 4, 2) := by decide +kernel
theorem dX5_tried_199 : decode cX5_tried 199 = .ok (.aaload, 1) := by decide +kernel
theorem dX5_tried_200 : decode cX5_tried 200 = .ok (.aload_n 3, 1) := by decide +kernel
theorem dX5_tried_201 : decode cX5_tried 201 = .ok (.iload 6, 2) := by decide +kernel
theorem dX5_tried_203 : decode cX5_tried 203 = .ok (.aaload, 1) := by decide +kernel
theorem dX5_tried_204 : decode cX5_tried 204 = .ok (.invokevirtual 85, 3) := by decide +kernel
theorem dX5_tried_207 : decode cX5_tried 207 = .ok (.astore 7, 2) := by decide +kernel
theorem dX5_tried_209 : decode cX5_tried 209 = .ok (.aload 7, 2) := by decide +kernel
theorem dX5_tried_211 : decode cX5_tried 211 = .ok (.ifnonnull 6, 3) := by decide +kernel
theorem dX5_tried_214 : decode cX5_tried 214 = .ok (.goto 88, 3) := by decide +kernel
theorem dX5_tried_217 : decode cX5_tried 217 = .ok (.aload_n 2, 1) := by decide +kernel
theorem dX5_tried_218 : decode cX5_tried 218 = .ok (.getfield 70, 3) := by decide +kernel
theorem dX5_tried_221 : decode cX5_tried 221 = .ok (.iload 4, 2) := by decide +kernel
theorem dX5_tried_223 : decode cX5_tried 223 = .ok (.aaload, 1) := by decide +kernel
theorem dX5_tried_224 : decode cX5_tried 224 = .ok (.aload 7, 2) := by decide +kernel
theorem dX5_tried_226 : decode cX5_tried 226 = .ok (.invokestatic 89, 3) := by decide +kernel
theorem dX5_tried_229 : decode cX5_tried 229 = .ok (.istore 8, 2) := by decide +kernel
theorem dX5_tried_231 : decode cX5_tried 231 = .ok (.iload 5, 2) := by decide +kernel
theorem dX5_tried_233 : decode cX5_tried 233 = .ok (.ifCond .lt 47, 3) := by decide +kernel
theorem dX5_tried_236 : decode cX5_tried 236 = .ok (.iload 8, 2) := by decide +kernel
theorem dX5_tried_238 : decode cX5_tried 238 = .ok (.aload_n 2, 1) := by decide +kernel
theorem dX5_tried_239 : decode cX5_tried 239 = .ok (.getfield 75, 3) := by decide +kernel
theorem dX5_tried_242 : decode cX5_tried 242 = .ok (.iload 4, 2) := by decide +kernel
theorem dX5_tried_244 : decode cX5_tried 244 = .ok (.iaload, 1) := by decide +kernel
theorem dX5_tried_245 : decode cX5_tried 245 = .ok (.if_icmp .gt 57, 3) := by decide +kernel
theorem dX5_tried_248 : decode cX5_tried 248 = .ok (.iload 8, 2) := by decide +kernel
theorem dX5_tried_250 : decode cX5_tried 250 = .ok (.aload_n 2, 1) := by decide +kernel
theorem dX5_tried_251 : decode cX5_tried 251 = .ok (.getfield 75, 3) := by decide +kernel
theorem dX5_tried_254 : decode cX5_tried 254 = .ok (.iload 4, 2) := by decide +kernel
theorem dX5_tried_256 : decode cX5_tried 256 = .ok (.iaload, 1) := by decide +kernel
theorem dX5_tried_257 : decode cX5_tried 257 = .ok (.if_icmp .ne 23, 3) := by decide +kernel
theorem dX5_tried_260 : decode cX5_tried 260 = .ok (.aload_n 0, 1) := by decide +kernel
theorem dX5_tried_261 : decode cX5_tried 261 = .ok (.getfield 7, 3) := by decide +kernel
theorem dX5_tried_264 : decode cX5_tried 264 = .ok (.iload 6, 2) := by decide +kernel
theorem dX5_tried_266 : decode cX5_tried 266 = .ok (.iaload, 1) := by decide +kernel
theorem dX5_tried_267 : decode cX5_tried 267 = .ok (.aload_n 0, 1) := by decide +kernel
theorem dX5_tried_268 : decode cX5_tried 268 = .ok (.getfield 7, 3) := by decide +kernel
theorem dX5_tried_271 : decode cX5_tried 271 = .ok (.iload 5, 2) := by decide +kernel
theorem dX5_tried_273 : decode cX5_tried 273 = .ok (.iaload, 1) := by decide +kernel
theorem dX5_tried_274 : decode cX5_tried 274 = .ok (.if_icmp .ge 6, 3) := by decide +kernel
theorem dX5_tried_277 : decode cX5_tried 277 = .ok (.goto 25, 3) := by decide +kernel
theorem dX5_tried_280 : decode cX5_tried 280 = .ok (.iload 6, 2) := by decide +kernel
theorem dX5_tried_282 : decode cX5_tried 282 = .ok (.istore 5, 2) := by decide +kernel
theorem dX5_tried_284 : decode cX5_tried 284 = .ok (.aload_n 2, 1) := by decide +kernel
theorem dX5_tried_285 : decode cX5_tried 285 = .ok (.getfield 75, 3) := by decide +kernel
theorem dX5_tried_288 : decode cX5_tried 288 = .ok (.iload 4, 2) := by decide +kernel
theorem dX5_tried_290 : decode cX5_tried 290 = .ok (.iload 8, 2) := by decide +kernel
theorem dX5_tried_292 : decode cX5_tried 292 = .ok (.iastore, 1) := by decide +kernel
theorem dX5_tried_293 : decode cX5_tried 293 = .ok (.aload_n 2, 1) := by decide +kernel
theorem dX5_tried_294 : decode cX5_tried 294 = .ok (.getfield 78, 3) := by decide +kernel
theorem dX5_tried_297 : decode cX5_tried 297 = .ok (.iload 4, 2) := by decide +kernel
theorem dX5_tried_299 : decode cX5_tried 299 = .ok (.aload 7, 2) := by decide +kernel
theorem dX5_tried_301 : decode cX5_tried 301 = .ok (.aastore, 1) := by decide +kernel
theorem dX5_tried_302 : decode cX5_tried 302 = .ok (.iinc 6 (-1), 3) := by decide +kernel
theorem dX5_tried_305 : decode cX5_tried 305 = .ok (.goto (-135), 3) := by decide +kernel
theorem dX5_tried_308 : decode cX5_tried 308 = .ok (.iload 5, 2) := by decide +kernel
theorem dX5_tried_310 : decode cX5_tried 310 = .ok (.ifCond .ge 5, 3) := by decide +kernel
theorem dX5_tried_313 : decode cX5_tried 313 = .ok (.aconst_null, 1) := by decide +kernel
theorem dX5_tried_314 : decode cX5_tried 314 = .ok (.areturn, 1) := by decide +kernel
theorem dX5_tried_315 : decode cX5_tried 315 = .ok (.aload_n 2, 1) := by decide +kernel
theorem dX5_tried_316 : decode cX5_tried 316 = .ok (.getfield 73, 3) := by decide +kernel
theorem dX5_tried_319 : decode cX5_tried 319 = .ok (.iload 4, 2) := by decide +kernel
theorem dX5_tried_321 : decode cX5_tried 321 = .ok (.iload 5, 2) := by decide +kernel
theorem dX5_tried_323 : decode cX5_tried 323 = .ok (.iastore, 1) := by decide +kernel
theorem dX5_tried_324 : decode cX5_tried 324 = .ok (.aload_n 2, 1) := by decide +kernel
theorem dX5_tried_325 : decode cX5_tried 325 = .ok (.getfield 78, 3) := by decide +kernel
theorem dX5_tried_328 : decode cX5_tried 328 = .ok (.iload 4, 2) := by decide +kernel
theorem dX5_tried_330 : decode cX5_tried 330 = .ok (.aaload, 1) := by decide +kernel
theorem dX5_tried_331 : decode cX5_tried 331 = .ok (.astore 6, 2) := by decide +kernel
theorem dX5_tried_333 : decode cX5_tried 333 = .ok (.aload 6, 2) := by decide +kernel
theorem dX5_tried_335 : decode cX5_tried 335 = .ok (.arraylength, 1) := by decide +kernel
theorem dX5_tried_336 : decode cX5_tried 336 = .ok (.istore 7, 2) := by decide +kernel
theorem dX5_tried_338 : decode cX5_tried 338 = .ok (.iconst 0, 1) := by decide +kernel
theorem dX5_tried_339 : decode cX5_tried 339 = .ok (.istore 8, 2) := by decide +kernel
theorem dX5_tried_341 : decode cX5_tried 341 = .ok (.iload 8, 2) := by decide +kernel
theorem dX5_tried_343 : decode cX5_tried 343 = .ok (.iload 7, 2) := by decide +kernel
theorem dX5_tried_345 : decode cX5_tried 345 = .ok (.if_icmp .ge 27, 3) := by decide +kernel
theorem dX5_tried_348 : decode cX5_tried 348 = .ok (.aload 6, 2) := by decide +kernel
theorem dX5_tried_350 : decode cX5_tried 350 = .ok (.iload 8, 2) := by decide +kernel
theorem dX5_tried_352 : decode cX5_tried 352 = .ok (.iaload, 1) := by decide +kernel
theorem dX5_tried_353 : decode cX5_tried 353 = .ok (.istore 9, 2) := by decide +kernel
theorem dX5_tried_355 : decode cX5_tried 355 = .ok (.aload_n 3, 1) := by decide +kernel
theorem dX5_tried_356 : decode cX5_tried 356 = .ok (.iload 5, 2) := by decide +kernel
theorem dX5_tried_358 : decode cX5_tried 358 = .ok (.aaload, 1) := by decide +kernel
theorem dX5_tried_359 : decode cX5_tried 359 = .ok (.iload 9, 2) := by decide +kernel
theorem dX5_tried_361 : decode cX5_tried 361 = .ok (.dup2, 1) := by decide +kernel
theorem dX5_tried_362 : decode cX5_tried 362 = .ok (.iaload, 1) := by decide +kernel
theorem dX5_tried_363 : decode cX5_tried 363 = .ok (.iconst 1, 1) := by decide +kernel
theorem dX5_tried_364 : decode cX5_tried 364 = .ok (.isub, 1) := by decide +kernel
theorem dX5_tried_365 : decode cX5_tried 365 = .ok (.iastore, 1) := by decide +kernel
theorem dX5_tried_366 : decode cX5_tried 366 = .ok (.iinc 8 1, 3) := by decide +kernel
theorem dX5_tried_369 : decode cX5_tried 369 = .ok (.goto (-28), 3) := by decide +kernel
theorem dX5_tried_372 : decode cX5_tried 372 = .ok (.iinc 4 1, 3) := by decide +kernel
theorem dX5_tried_375 : decode cX5_tried 375 = .ok (.goto (-227), 3) := by decide +kernel
theorem dX5_tried_378 : decode cX5_tried 378 = .ok (.aload_n 2, 1) := by decide +kernel
theorem dX5_tried_379 : decode cX5_tried 379 = .ok (.areturn, 1) := by decide +kernel
theorem dX5_proof_0 : decode cX5_proof 0 = .ok (.aload_n 1, 1) := by decide +kernel
theorem dX5_proof_1 : decode cX5_proof 1 = .ok (.getfield 66, 3) := by decide +kernel
theorem dX5_proof_4 : decode cX5_proof 4 = .ok (.ifCond .ne 5, 3) := by decide +kernel
theorem dX5_proof_7 : decode cX5_proof 7 = .ok (.iconst 0, 1) := by decide +kernel
theorem dX5_proof_8 : decode cX5_proof 8 = .ok (.ireturn, 1) := by decide +kernel
theorem dX5_proof_9 : decode cX5_proof 9 = .ok (.iconst 0, 1) := by decide +kernel
theorem dX5_proof_10 : decode cX5_proof 10 = .ok (.istore_n 2, 1) := by decide +kernel
theorem dX5_proof_11 : decode cX5_proof 11 = .ok (.iconst 0, 1) := by decide +kernel
theorem dX5_proof_12 : decode cX5_proof 12 = .ok (.istore_n 3, 1) := by decide +kernel
theorem dX5_proof_13 : decode cX5_proof 13 = .ok (.iload_n 3, 1) := by decide +kernel
theorem dX5_proof_14 : decode cX5_proof 14 = .ok (.aload_n 1, 1) := by decide +kernel
theorem dX5_proof_15 : decode cX5_proof 15 = .ok (.getfield 70, 3) := by decide +kernel
theorem dX5_proof_18 : decode cX5_proof 18 = .ok (.arraylength, 1) := by decide +kernel
theorem dX5_proof_19 : decode cX5_proof 19 = .ok (.if_icmp .ge 31, 3) := by decide +kernel
theorem dX5_proof_22 : decode cX5_proof 22 = .ok (.iload_n 2, 1) := by decide +kernel
theorem dX5_proof_23 : decode cX5_proof 23 = .ok (.aload_n 0, 1) := by decide +kernel
theorem dX5_proof_24 : decode cX5_proof 24 = .ok (.getfield 7, 3) := by decide +kernel
theorem dX5_proof_27 : decode cX5_proof 27 = .ok (.aload_n 1, 1) := by decide +kernel
theorem dX5_proof_28 : decode cX5_proof 28 = .ok (.getfield 73, 3) := by decide +kernel
theorem dX5_proof_31 : decode cX5_proof 31 = .ok (.iload_n 3, 1) := by decide +kernel
theorem dX5_proof_32 : decode cX5_proof 32 = .ok (.iaload, 1) := by decide +kernel
theorem dX5_proof_33 : decode cX5_proof 33 = .ok (.iaload, 1) := by decide +kernel
theorem dX5_proof_34 : decode cX5_proof 34 = .ok (.aload_n 1, 1) := by decide +kernel
theorem dX5_proof_35 : decode cX5_proof 35 = .ok (.getfield 70, 3) := by decide +kernel
theorem dX5_proof_38 : decode cX5_proof 38 = .ok (.iload_n 3, 1) := by decide +kernel
theorem dX5_proof_39 : decode cX5_proof 39 = .ok (.aaload, 1) := by decide +kernel
theorem dX5_proof_40 : decode cX5_proof 40 = .ok (.arraylength, 1) := by decide +kernel
theorem dX5_proof_41 : decode cX5_proof 41 = .ok (.imul, 1) := by decide +kernel
theorem dX5_proof_42 : decode cX5_proof 42 = .ok (.iadd, 1) := by decide +kernel
theorem dX5_proof_43 : decode cX5_proof 43 = .ok (.istore_n 2, 1) := by decide +kernel
theorem dX5_proof_44 : decode cX5_proof 44 = .ok (.iinc 3 1, 3) := by decide +kernel
theorem dX5_proof_47 : decode cX5_proof 47 = .ok (.goto (-34), 3) := by decide +kernel
theorem dX5_proof_50 : decode cX5_proof 50 = .ok (.iconst 0, 1) := by decide +kernel
theorem dX5_proof_51 : decode cX5_proof 51 = .ok (.aload_n 0, 1) := by decide +kernel
theorem dX5_proof_52 : decode cX5_proof 52 = .ok (.getfield 23, 3) := by decide +kernel
theorem dX5_proof_55 : decode cX5_proof 55 = .ok (.aload_n 1, 1) := by decide +kernel
theorem dX5_proof_56 : decode cX5_proof 56 = .ok (.getfield 93, 3) := by decide +kernel
theorem dX5_proof_59 : decode cX5_proof 59 = .ok (.aaload, 1) := by decide +kernel
theorem dX5_proof_60 : decode cX5_proof 60 = .ok (.iconst 0, 1) := by decide +kernel
theorem dX5_proof_61 : decode cX5_proof 61 = .ok (.iaload, 1) := by decide +kernel
theorem dX5_proof_62 : decode cX5_proof 62 = .ok (.iload_n 2, 1) := by decide +kernel
theorem dX5_proof_63 : decode cX5_proof 63 = .ok (.imul, 1) := by decide +kernel
theorem dX5_proof_64 : decode cX5_proof 64 = .ok (.aload_n 0, 1) := by decide +kernel
theorem dX5_proof_65 : decode cX5_proof 65 = .ok (.getfield 23, 3) := by decide +kernel
theorem dX5_proof_68 : decode cX5_proof 68 = .ok (.aload_n 1, 1) := by decide +kernel
theorem dX5_proof_69 : decode cX5_proof 69 = .ok (.getfield 93, 3) := by decide +kernel
theorem dX5_proof_72 : decode cX5_proof 72 = .ok (.aaload, 1) := by decide +kernel
theorem dX5_proof_73 : decode cX5_proof 73 = .ok (.iconst 1, 1) := by decide +kernel
theorem dX5_proof_74 : decode cX5_proof 74 = .ok (.iaload, 1) := by decide +kernel
theorem dX5_proof_75 : decode cX5_proof 75 = .ok (.aload_n 1, 1) := by decide +kernel
theorem dX5_proof_76 : decode cX5_proof 76 = .ok (.invokevirtual 96, 3) := by decide +kernel
theorem dX5_proof_79 : decode cX5_proof 79 = .ok (.imul, 1) := by decide +kernel
theorem dX5_proof_80 : decode cX5_proof 80 = .ok (.isub, 1) := by decide +kernel
theorem dX5_proof_81 : decode cX5_proof 81 = .ok (.invokestatic 98, 3) := by decide +kernel
theorem dX5_proof_84 : decode cX5_proof 84 = .ok (.ireturn, 1) := by decide +kernel
theorem dX5_set_0 : decode cX5_set 0 = .ok (.aload_n 0, 1) := by decide +kernel
theorem dX5_set_1 : decode cX5_set 1 = .ok (.iload_n 1, 1) := by decide +kernel
theorem dX5_set_2 : decode cX5_set 2 = .ok (.invokevirtual 104, 3) := by decide +kernel
theorem dX5_set_5 : decode cX5_set 5 = .ok (.astore_n 2, 1) := by decide +kernel
theorem dX5_set_6 : decode cX5_set 6 = .ok (.aload_n 2, 1) := by decide +kernel
theorem dX5_set_7 : decode cX5_set 7 = .ok (.ifnonnull 5, 3) := by decide +kernel
theorem dX5_set_10 : decode cX5_set 10 = .ok (.iconst (-1), 1) := by decide +kernel
theorem dX5_set_11 : decode cX5_set 11 = .ok (.ireturn, 1) := by decide +kernel
theorem dX5_set_12 : decode cX5_set 12 = .ok (.aload_n 0, 1) := by decide +kernel
theorem dX5_set_13 : decode cX5_set 13 = .ok (.getfield 28, 3) := by decide +kernel
theorem dX5_set_16 : decode cX5_set 16 = .ok (.iload_n 1, 1) := by decide +kernel
theorem dX5_set_17 : decode cX5_set 17 = .ok (.aload_n 2, 1) := by decide +kernel
theorem dX5_set_18 : decode cX5_set 18 = .ok (.aastore, 1) := by decide +kernel
theorem dX5_set_19 : decode cX5_set 19 = .ok (.iconst 0, 1) := by decide +kernel
theorem dX5_set_20 : decode cX5_set 20 = .ok (.istore_n 3, 1) := by decide +kernel
theorem dX5_set_21 : decode cX5_set 21 = .ok (.iload_n 3, 1) := by decide +kernel
theorem dX5_set_22 : decode cX5_set 22 = .ok (.aload_n 2, 1) := by decide +kernel
theorem dX5_set_23 : decode cX5_set 23 = .ok (.getfield 70, 3) := by decide +kernel
theorem dX5_set_26 : decode cX5_set 26 = .ok (.arraylength, 1) := by decide +kernel
theorem dX5_set_27 : decode cX5_set 27 = .ok (.if_icmp .ge 65, 3) := by decide +kernel
theorem dX5_set_30 : decode cX5_set 30 = .ok (.aload_n 2, 1) := by decide +kernel
theorem dX5_set_31 : decode cX5_set 31 = .ok (.getfield 78, 3) := by decide +kernel
theorem dX5_set_34 : decode cX5_set 34 = .ok (.iload_n 3, 1) := by decide +kernel
theorem dX5_set_35 : decode cX5_set 35 = .ok (.aaload, 1) := by decide +kernel
theorem dX5_set_36 : decode cX5_set 36 = .ok (.astore 4, 2) := by decide +kernel
theorem dX5_set_38 : decode cX5_set 38 = .ok (.aload 4, 2) := by decide +kernel
theorem dX5_set_40 : decode cX5_set 40 = .ok (.arraylength, 1) := by decide +kernel
theorem dX5_set_41 : decode cX5_set 41 = .ok (.istore 5, 2) := by decide +kernel
theorem dX5_set_43 : decode cX5_set 43 = .ok (.iconst 0, 1) := by decide +kernel
theorem dX5_set_44 : decode cX5_set 44 = .ok (.istore 6, 2) := by decide +kernel
theorem dX5_set_46 : decode cX5_set 46 = .ok (.iload 6, 2) := by decide +kernel
theorem dX5_set_48 : decode cX5_set 48 = .ok (.iload 5, 2) := by decide +kernel
theorem dX5_set_50 : decode cX5_set 50 = .ok (.if_icmp .ge 36, 3) := by decide +kernel
theorem dX5_set_53 : decode cX5_set 53 = .ok (.aload 4, 2) := by decide +kernel
theorem dX5_set_55 : decode cX5_set 55 = .ok (.iload 6, 2) := by decide +kernel
theorem dX5_set_57 : decode cX5_set 57 = .ok (.iaload, 1) := by decide +kernel
theorem dX5_set_58 : decode cX5_set 58 = .ok (.istore 7, 2) := by decide +kernel
theorem dX5_set_60 : decode cX5_set 60 = .ok (.aload_n 0, 1) := by decide +kernel
theorem dX5_set_61 : decode cX5_set 61 = .ok (.getfield 15, 3) := by decide +kernel
theorem dX5_set_64 : decode cX5_set 64 = .ok (.aload_n 2, 1) := by decide +kernel
theorem dX5_set_65 : decode cX5_set 65 = .ok (.getfield 73, 3) := by decide +kernel
theorem dX5_set_68 : decode cX5_set 68 = .ok (.iload_n 3, 1) := by decide +kernel
theorem dX5_set_69 : decode cX5_set 69 = .ok (.iaload, 1) := by decide +kernel
theorem dX5_set_70 : decode cX5_set 70 = .ok (.aaload, 1) := by decide +kernel
theorem dX5_set_71 : decode cX5_set 71 = .ok (.iload 7, 2) := by decide +kernel
theorem dX5_set_73 : decode cX5_set 73 = .ok (.aaload, 1) := by decide +kernel
theorem dX5_set_74 : decode cX5_set 74 = .ok (.iconst 1, 1) := by decide +kernel
theorem dX5_set_75 : decode cX5_set 75 = .ok (.dup2, 1) := by decide +kernel
theorem dX5_set_76 : decode cX5_set 76 = .ok (.iaload, 1) := by decide +kernel
theorem dX5_set_77 : decode cX5_set 77 = .ok (.iconst 1, 1) := by decide +kernel
theorem dX5_set_78 : decode cX5_set 78 = .ok (.iadd, 1) := by decide +kernel
theorem dX5_set_79 : decode cX5_set 79 = .ok (.iastore, 1) := by decide +kernel
theorem dX5_set_80 : decode cX5_set 80 = .ok (.iinc 6 1, 3) := by decide +kernel
theorem dX5_set_83 : decode cX5_set 83 = .ok (.goto (-37), 3) := by decide +kernel
theorem dX5_set_86 : decode cX5_set 86 = .ok (.iinc 3 1, 3) := by decide +kernel
theorem dX5_set_89 : decode cX5_set 89 = .ok (.goto (-68), 3) := by decide +kernel
theorem dX5_set_92 : decode cX5_set 92 = .ok (.aload_n 2, 1) := by decide +kernel
theorem dX5_set_93 : decode cX5_set 93 = .ok (.invokevirtual 96, 3) := by decide +kernel
theorem dX5_set_96 : decode cX5_set 96 = .ok (.ireturn, 1) := by decide +kernel
theorem dX5_print_0 : decode cX5_print 0 = .ok (.aload_n 0, 1) := by decide +kernel
theorem dX5_print_1 : decode cX5_print 1 = .ok (.getfield 28, 3) := by decide +kernel
theorem dX5_print_4 : decode cX5_print 4 = .ok (.iload_n 1, 1) := by decide +kernel
theorem dX5_print_5 : decode cX5_print 5 = .ok (.aaload, 1) := by decide +kernel
theorem dX5_print_6 : decode cX5_print 6 = .ok (.astore_n 3, 1) := by decide +kernel
theorem dX5_print_7 : decode cX5_print 7 = .ok (.iconst 0, 1) := by decide +kernel
theorem dX5_print_8 : decode cX5_print 8 = .ok (.istore 4, 2) := by decide +kernel
theorem dX5_print_10 : decode cX5_print 10 = .ok (.iload 4, 2) := by decide +kernel
theorem dX5_print_12 : decode cX5_print 12 = .ok (.aload_n 3, 1) := by decide +kernel
theorem dX5_print_13 : decode cX5_print 13 = .ok (.getfield 70, 3) := by decide +kernel
theorem dX5_print_16 : decode cX5_print 16 = .ok (.arraylength, 1) := by decide +kernel
theorem dX5_print_17 : decode cX5_print 17 = .ok (.if_icmp .ge 67, 3) := by decide +kernel
theorem dX5_print_20 : decode cX5_print 20 = .ok (.aload_n 3, 1) := by decide +kernel
theorem dX5_print_21 : decode cX5_print 21 = .ok (.getfield 78, 3) := by decide +kernel
theorem dX5_print_24 : decode cX5_print 24 = .ok (.iload 4, 2) := by decide +kernel
theorem dX5_print_26 : decode cX5_print 26 = .ok (.aaload, 1) := by decide +kernel
theorem dX5_print_27 : decode cX5_print 27 = .ok (.astore 5, 2) := by decide +kernel
theorem dX5_print_29 : decode cX5_print 29 = .ok (.aload 5, 2) := by decide +kernel
theorem dX5_print_31 : decode cX5_print 31 = .ok (.arraylength, 1) := by decide +kernel
theorem dX5_print_32 : decode cX5_print 32 = .ok (.istore 6, 2) := by decide +kernel
theorem dX5_print_34 : decode cX5_print 34 = .ok (.iconst 0, 1) := by decide +kernel
theorem dX5_print_35 : decode cX5_print 35 = .ok (.istore 7, 2) := by decide +kernel
theorem dX5_print_37 : decode cX5_print 37 = .ok (.iload 7, 2) := by decide +kernel
theorem dX5_print_39 : decode cX5_print 39 = .ok (.iload 6, 2) := by decide +kernel
theorem dX5_print_41 : decode cX5_print 41 = .ok (.if_icmp .ge 37, 3) := by decide +kernel
theorem dX5_print_44 : decode cX5_print 44 = .ok (.aload 5, 2) := by decide +kernel
theorem dX5_print_46 : decode cX5_print 46 = .ok (.iload 7, 2) := by decide +kernel
theorem dX5_print_48 : decode cX5_print 48 = .ok (.iaload, 1) := by decide +kernel
theorem dX5_print_49 : decode cX5_print 49 = .ok (.istore 8, 2) := by decide +kernel
theorem dX5_print_51 : decode cX5_print 51 = .ok (.aload_n 0, 1) := by decide +kernel
theorem dX5_print_52 : decode cX5_print 52 = .ok (.getfield 15, 3) := by decide +kernel
theorem dX5_print_55 : decode cX5_print 55 = .ok (.aload_n 3, 1) := by decide +kernel
theorem dX5_print_56 : decode cX5_print 56 = .ok (.getfield 73, 3) := by decide +kernel
theorem dX5_print_59 : decode cX5_print 59 = .ok (.iload 4, 2) := by decide +kernel
theorem dX5_print_61 : decode cX5_print 61 = .ok (.iaload, 1) := by decide +kernel
theorem dX5_print_62 : decode cX5_print 62 = .ok (.aaload, 1) := by decide +kernel
theorem dX5_print_63 : decode cX5_print 63 = .ok (.iload 8, 2) := by decide +kernel
theorem dX5_print_65 : decode cX5_print 65 = .ok (.aaload, 1) := by decide +kernel
theorem dX5_print_66 : decode cX5_print 66 = .ok (.iconst 2, 1) := by decide +kernel
theorem dX5_print_67 : decode cX5_print 67 = .ok (.dup2, 1) := by decide +kernel
theorem dX5_print_68 : decode cX5_print 68 = .ok (.iaload, 1) := by decide +kernel
theorem dX5_print_69 : decode cX5_print 69 = .ok (.iload_n 2, 1) := by decide +kernel
theorem dX5_print_70 : decode cX5_print 70 = .ok (.iadd, 1) := by decide +kernel
theorem dX5_print_71 : decode cX5_print 71 = .ok (.iastore, 1) := by decide +kernel
theorem dX5_print_72 : decode cX5_print 72 = .ok (.iinc 7 1, 3) := by decide +kernel
theorem dX5_print_75 : decode cX5_print 75 = .ok (.goto (-38), 3) := by decide +kernel
theorem dX5_print_78 : decode cX5_print 78 = .ok (.iinc 4 1, 3) := by decide +kernel
theorem dX5_print_81 : decode cX5_print 81 = .ok (.goto (-71), 3) := by decide +kernel
theorem dX5_print_84 : decode cX5_print 84 = .ok (.aload_n 3, 1) := by decide +kernel
theorem dX5_print_85 : decode cX5_print 85 = .ok (.dup, 1) := by decide +kernel
theorem dX5_print_86 : decode cX5_print 86 = .ok (.getfield 108, 3) := by decide +kernel
theorem dX5_print_89 : decode cX5_print 89 = .ok (.iload_n 2, 1) := by decide +kernel
theorem dX5_print_90 : decode cX5_print 90 = .ok (.iadd, 1) := by decide +kernel
theorem dX5_print_91 : decode cX5_print 91 = .ok (.putfield 108, 3) := by decide +kernel
theorem dX5_print_94 : decode cX5_print 94 = .ok (.iload_n 2, 1) := by decide +kernel
theorem dX5_print_95 : decode cX5_print 95 = .ok (.aload_n 0, 1) := by decide +kernel
theorem dX5_print_96 : decode cX5_print 96 = .ok (.aload_n 3, 1) := by decide +kernel
theorem dX5_print_97 : decode cX5_print 97 = .ok (.invokevirtual 111, 3) := by decide +kernel
theorem dX5_print_100 : decode cX5_print 100 = .ok (.imul, 1) := by decide +kernel
theorem dX5_print_101 : decode cX5_print 101 = .ok (.bipush 100, 2) := by decide +kernel
theorem dX5_print_103 : decode cX5_print 103 = .ok (.idiv, 1) := by decide +kernel
theorem dX5_print_104 : decode cX5_print 104 = .ok (.istore 4, 2) := by decide +kernel
theorem dX5_print_106 : decode cX5_print 106 = .ok (.aload_n 0, 1) := by decide +kernel
theorem dX5_print_107 : decode cX5_print 107 = .ok (.dup, 1) := by decide +kernel
theorem dX5_print_108 : decode cX5_print 108 = .ok (.getfield 115, 3) := by decide +kernel
theorem dX5_print_111 : decode cX5_print 111 = .ok (.iload 4, 2) := by decide +kernel
theorem dX5_print_113 : decode cX5_print 113 = .ok (.iadd, 1) := by decide +kernel
theorem dX5_print_114 : decode cX5_print 114 = .ok (.putfield 115, 3) := by decide +kernel
theorem dX5_print_117 : decode cX5_print 117 = .ok (.iload 4, 2) := by decide +kernel
theorem dX5_print_119 : decode cX5_print 119 = .ok (.ireturn, 1) := by decide +kernel
theorem dX5_strike_0 : decode cX5_strike 0 = .ok (.aload_n 0, 1) := by decide +kernel
theorem dX5_strike_1 : decode cX5_strike 1 = .ok (.getfield 28, 3) := by decide +kernel
theorem dX5_strike_4 : decode cX5_strike 4 = .ok (.iload_n 1, 1) := by decide +kernel
theorem dX5_strike_5 : decode cX5_strike 5 = .ok (.aaload, 1) := by decide +kernel
theorem dX5_strike_6 : decode cX5_strike 6 = .ok (.astore_n 2, 1) := by decide +kernel
theorem dX5_strike_7 : decode cX5_strike 7 = .ok (.iconst 0, 1) := by decide +kernel
theorem dX5_strike_8 : decode cX5_strike 8 = .ok (.istore_n 3, 1) := by decide +kernel
theorem dX5_strike_9 : decode cX5_strike 9 = .ok (.iload_n 3, 1) := by decide +kernel
theorem dX5_strike_10 : decode cX5_strike 10 = .ok (.aload_n 2, 1) := by decide +kernel
theorem dX5_strike_11 : decode cX5_strike 11 = .ok (.getfield 70, 3) := by decide +kernel
theorem dX5_strike_14 : decode cX5_strike 14 = .ok (.arraylength, 1) := by decide +kernel
theorem dX5_strike_15 : decode cX5_strike 15 = .ok (.if_icmp .ge 65, 3) := by decide +kernel
theorem dX5_strike_18 : decode cX5_strike 18 = .ok (.aload_n 2, 1) := by decide +kernel
theorem dX5_strike_19 : decode cX5_strike 19 = .ok (.getfield 78, 3) := by decide +kernel
theorem dX5_strike_22 : decode cX5_strike 22 = .ok (.iload_n 3, 1) := by decide +kernel
theorem dX5_strike_23 : decode cX5_strike 23 = .ok (.aaload, 1) := by decide +kernel
theorem dX5_strike_24 : decode cX5_strike 24 = .ok (.astore 4, 2) := by decide +kernel
theorem dX5_strike_26 : decode cX5_strike 26 = .ok (.aload 4, 2) := by decide +kernel
theorem dX5_strike_28 : decode cX5_strike 28 = .ok (.arraylength, 1) := by decide +kernel
theorem dX5_strike_29 : decode cX5_strike 29 = .ok (.istore 5, 2) := by decide +kernel
theorem dX5_strike_31 : decode cX5_strike 31 = .ok (.iconst 0, 1) := by decide +kernel
theorem dX5_strike_32 : decode cX5_strike 32 = .ok (.istore 6, 2) := by decide +kernel
theorem dX5_strike_34 : decode cX5_strike 34 = .ok (.iload 6, 2) := by decide +kernel
theorem dX5_strike_36 : decode cX5_strike 36 = .ok (.iload 5, 2) := by decide +kernel
theorem dX5_strike_38 : decode cX5_strike 38 = .ok (.if_icmp .ge 36, 3) := by decide +kernel
theorem dX5_strike_41 : decode cX5_strike 41 = .ok (.aload 4, 2) := by decide +kernel
theorem dX5_strike_43 : decode cX5_strike 43 = .ok (.iload 6, 2) := by decide +kernel
theorem dX5_strike_45 : decode cX5_strike 45 = .ok (.iaload, 1) := by decide +kernel
theorem dX5_strike_46 : decode cX5_strike 46 = .ok (.istore 7, 2) := by decide +kernel
theorem dX5_strike_48 : decode cX5_strike 48 = .ok (.aload_n 0, 1) := by decide +kernel
theorem dX5_strike_49 : decode cX5_strike 49 = .ok (.getfield 15, 3) := by decide +kernel
theorem dX5_strike_52 : decode cX5_strike 52 = .ok (.aload_n 2, 1) := by decide +kernel
theorem dX5_strike_53 : decode cX5_strike 53 = .ok (.getfield 73, 3) := by decide +kernel
theorem dX5_strike_56 : decode cX5_strike 56 = .ok (.iload_n 3, 1) := by decide +kernel
theorem dX5_strike_57 : decode cX5_strike 57 = .ok (.iaload, 1) := by decide +kernel
theorem dX5_strike_58 : decode cX5_strike 58 = .ok (.aaload, 1) := by decide +kernel
theorem dX5_strike_59 : decode cX5_strike 59 = .ok (.iload 7, 2) := by decide +kernel
theorem dX5_strike_61 : decode cX5_strike 61 = .ok (.aaload, 1) := by decide +kernel
theorem dX5_strike_62 : decode cX5_strike 62 = .ok (.iconst 1, 1) := by decide +kernel
theorem dX5_strike_63 : decode cX5_strike 63 = .ok (.dup2, 1) := by decide +kernel
theorem dX5_strike_64 : decode cX5_strike 64 = .ok (.iaload, 1) := by decide +kernel
theorem dX5_strike_65 : decode cX5_strike 65 = .ok (.iconst 1, 1) := by decide +kernel
theorem dX5_strike_66 : decode cX5_strike 66 = .ok (.isub, 1) := by decide +kernel
theorem dX5_strike_67 : decode cX5_strike 67 = .ok (.iastore, 1) := by decide +kernel
theorem dX5_strike_68 : decode cX5_strike 68 = .ok (.iinc 6 1, 3) := by decide +kernel
theorem dX5_strike_71 : decode cX5_strike 71 = .ok (.goto (-37), 3) := by decide +kernel
theorem dX5_strike_74 : decode cX5_strike 74 = .ok (.iinc 3 1, 3) := by decide +kernel
theorem dX5_strike_77 : decode cX5_strike 77 = .ok (.goto (-68), 3) := by decide +kernel
theorem dX5_strike_80 : decode cX5_strike 80 = .ok (.aload_n 2, 1) := by decide +kernel
theorem dX5_strike_81 : decode cX5_strike 81 = .ok (.iconst 0, 1) := by decide +kernel
theorem dX5_strike_82 : decode cX5_strike 82 = .ok (.putfield 66, 3) := by decide +kernel
theorem dX5_strike_85 : decode cX5_strike 85 = .ok (.iconst 0, 1) := by decide +kernel
theorem dX5_strike_86 : decode cX5_strike 86 = .ok (.istore_n 3, 1) := by decide +kernel
theorem dX5_strike_87 : decode cX5_strike 87 = .ok (.aload_n 0, 1) := by decide +kernel
theorem dX5_strike_88 : decode cX5_strike 88 = .ok (.getfield 15, 3) := by decide +kernel
theorem dX5_strike_91 : decode cX5_strike 91 = .ok (.astore 4, 2) := by decide +kernel
theorem dX5_strike_93 : decode cX5_strike 93 = .ok (.aload 4, 2) := by decide +kernel
theorem dX5_strike_95 : decode cX5_strike 95 = .ok (.arraylength, 1) := by decide +kernel
theorem dX5_strike_96 : decode cX5_strike 96 = .ok (.istore 5, 2) := by decide +kernel
theorem dX5_strike_98 : decode cX5_strike 98 = .ok (.iconst 0, 1) := by decide +kernel
theorem dX5_strike_99 : decode cX5_strike 99 = .ok (.istore 6, 2) := by decide +kernel
theorem dX5_strike_101 : decode cX5_strike 101 = .ok (.iload 6, 2) := by decide +kernel
theorem dX5_strike_103 : decode cX5_strike 103 = .ok (.iload 5, 2) := by decide +kernel
theorem dX5_strike_105 : decode cX5_strike 105 = .ok (.if_icmp .ge 93, 3) := by decide +kernel
theorem dX5_strike_108 : decode cX5_strike 108 = .ok (.aload 4, 2) := by decide +kernel
theorem dX5_strike_110 : decode cX5_strike 110 = .ok (.iload 6, 2) := by decide +kernel
theorem dX5_strike_112 : decode cX5_strike 112 = .ok (.aaload, 1) := by decide +kernel
theorem dX5_strike_113 : decode cX5_strike 113 = .ok (.astore 7, 2) := by decide +kernel
theorem dX5_strike_115 : decode cX5_strike 115 = .ok (.aload 7, 2) := by decide +kernel
theorem dX5_strike_117 : decode cX5_strike 117 = .ok (.astore 8, 2) := by decide +kernel
theorem dX5_strike_119 : decode cX5_strike 119 = .ok (.aload 8, 2) := by decide +kernel
theorem dX5_strike_121 : decode cX5_strike 121 = .ok (.arraylength, 1) := by decide +kernel
theorem dX5_strike_122 : decode cX5_strike 122 = .ok (.istore 9, 2) := by decide +kernel
theorem dX5_strike_124 : decode cX5_strike 124 = .ok (.iconst 0, 1) := by decide +kernel
theorem dX5_strike_125 : decode cX5_strike 125 = .ok (.istore 10, 2) := by decide +kernel
theorem dX5_strike_127 : decode cX5_strike 127 = .ok (.iload 10, 2) := by decide +kernel
theorem dX5_strike_129 : decode cX5_strike 129 = .ok (.iload 9, 2) := by decide +kernel
theorem dX5_strike_131 : decode cX5_strike 131 = .ok (.if_icmp .ge 61, 3) := by decide +kernel
theorem dX5_strike_134 : decode cX5_strike 134 = .ok (.aload 8, 2) := by decide +kernel
theorem dX5_strike_136 : decode cX5_strike 136 = .ok (.iload 10, 2) := by decide +kernel
theorem dX5_strike_138 : decode cX5_strike 138 = .ok (.aaload, 1) := by decide +kernel
theorem dX5_strike_139 : decode cX5_strike 139 = .ok (.astore 11, 2) := by decide +kernel
theorem dX5_strike_141 : decode cX5_strike 141 = .ok (.aload 11, 2) := by decide +kernel
theorem dX5_strike_143 : decode cX5_strike 143 = .ok (.iconst 2, 1) := by decide +kernel
theorem dX5_strike_144 : decode cX5_strike 144 = .ok (.iaload, 1) := by decide +kernel
theorem dX5_strike_145 : decode cX5_strike 145 = .ok (.sipush 400, 3) := by decide +kernel
theorem dX5_strike_148 : decode cX5_strike 148 = .ok (.if_icmp .lt 38, 3) := by decide +kernel
theorem dX5_strike_151 : decode cX5_strike 151 = .ok (.aload 11, 2) := by decide +kernel
theorem dX5_strike_153 : decode cX5_strike 153 = .ok (.iconst 0, 1) := by decide +kernel
theorem dX5_strike_154 : decode cX5_strike 154 = .ok (.iaload, 1) := by decide +kernel
theorem dX5_strike_155 : decode cX5_strike 155 = .ok (.aload 11, 2) := by decide +kernel
theorem dX5_strike_157 : decode cX5_strike 157 = .ok (.iconst 1, 1) := by decide +kernel
theorem dX5_strike_158 : decode cX5_strike 158 = .ok (.iaload, 1) := by decide +kernel
theorem dX5_strike_159 : decode cX5_strike 159 = .ok (.if_icmp .le 27, 3) := by decide +kernel
theorem dX5_strike_162 : decode cX5_strike 162 = .ok (.aload 11, 2) := by decide +kernel
theorem dX5_strike_164 : decode cX5_strike 164 = .ok (.iconst 0, 1) := by decide +kernel
theorem dX5_strike_165 : decode cX5_strike 165 = .ok (.dup2, 1) := by decide +kernel
theorem dX5_strike_166 : decode cX5_strike 166 = .ok (.iaload, 1) := by decide +kernel
theorem dX5_strike_167 : decode cX5_strike 167 = .ok (.iconst 1, 1) := by decide +kernel
theorem dX5_strike_168 : decode cX5_strike 168 = .ok (.isub, 1) := by decide +kernel
theorem dX5_strike_169 : decode cX5_strike 169 = .ok (.iastore, 1) := by decide +kernel
theorem dX5_strike_170 : decode cX5_strike 170 = .ok (.aload 11, 2) := by decide +kernel
theorem dX5_strike_172 : decode cX5_strike 172 = .ok (.iconst 2, 1) := by decide +kernel
theorem dX5_strike_173 : decode cX5_strike 173 = .ok (.dup2, 1) := by decide +kernel
theorem dX5_strike_174 : decode cX5_strike 174 = .ok (.iaload, 1) := by decide +kernel
theorem dX5_strike_175 : decode cX5_strike 175 = .ok (.sipush 400, 3) := by decide +kernel
theorem dX5_strike_178 : decode cX5_strike 178 = .ok (.isub, 1) := by decide +kernel
theorem dX5_strike_179 : decode cX5_strike 179 = .ok (.iastore, 1) := by decide +kernel
theorem dX5_strike_180 : decode cX5_strike 180 = .ok (.iinc 3 1, 3) := by decide +kernel
theorem dX5_strike_183 : decode cX5_strike 183 = .ok (.goto (-42), 3) := by decide +kernel
theorem dX5_strike_186 : decode cX5_strike 186 = .ok (.iinc 10 1, 3) := by decide +kernel
theorem dX5_strike_189 : decode cX5_strike 189 = .ok (.goto (-62), 3) := by decide +kernel
theorem dX5_strike_192 : decode cX5_strike 192 = .ok (.iinc 6 1, 3) := by decide +kernel
theorem dX5_strike_195 : decode cX5_strike 195 = .ok (.goto (-94), 3) := by decide +kernel
theorem dX5_strike_198 : decode cX5_strike 198 = .ok (.aload_n 0, 1) := by decide +kernel
theorem dX5_strike_199 : decode cX5_strike 199 = .ok (.dup, 1) := by decide +kernel
theorem dX5_strike_200 : decode cX5_strike 200 = .ok (.getfield 118, 3) := by decide +kernel
theorem dX5_strike_203 : decode cX5_strike 203 = .ok (.iload_n 3, 1) := by decide +kernel
theorem dX5_strike_204 : decode cX5_strike 204 = .ok (.iadd, 1) := by decide +kernel
theorem dX5_strike_205 : decode cX5_strike 205 = .ok (.putfield 118, 3) := by decide +kernel
theorem dX5_strike_208 : decode cX5_strike 208 = .ok (.iload_n 3, 1) := by decide +kernel
theorem dX5_strike_209 : decode cX5_strike 209 = .ok (.ireturn, 1) := by decide +kernel
theorem dX5_isSame_0 : decode cX5_isSame 0 = .ok (.bipush 7, 2) := by decide +kernel
theorem dX5_isSame_2 : decode cX5_isSame 2 = .ok (.newarray .int, 2) := by decide +kernel
theorem dX5_isSame_4 : decode cX5_isSame 4 = .ok (.dup, 1) := by decide +kernel
theorem dX5_isSame_5 : decode cX5_isSame 5 = .ok (.iconst 0, 1) := by decide +kernel
theorem dX5_isSame_6 : decode cX5_isSame 6 = .ok (.aload_n 0, 1) := by decide +kernel
theorem dX5_isSame_7 : decode cX5_isSame 7 = .ok (.getfield 7, 3) := by decide +kernel
theorem dX5_isSame_10 : decode cX5_isSame 10 = .ok (.arraylength, 1) := by decide +kernel
theorem dX5_isSame_11 : decode cX5_isSame 11 = .ok (.iastore, 1) := by decide +kernel
theorem dX5_isSame_12 : decode cX5_isSame 12 = .ok (.dup, 1) := by decide +kernel
theorem dX5_isSame_13 : decode cX5_isSame 13 = .ok (.iconst 1, 1) := by decide +kernel
theorem dX5_isSame_14 : decode cX5_isSame 14 = .ok (.aload_n 0, 1) := by decide +kernel
theorem dX5_isSame_15 : decode cX5_isSame 15 = .ok (.getfield 28, 3) := by decide +kernel
theorem dX5_isSame_18 : decode cX5_isSame 18 = .ok (.arraylength, 1) := by decide +kernel
theorem dX5_isSame_19 : decode cX5_isSame 19 = .ok (.iastore, 1) := by decide +kernel
theorem dX5_isSame_20 : decode cX5_isSame 20 = .ok (.dup, 1) := by decide +kernel
theorem dX5_isSame_21 : decode cX5_isSame 21 = .ok (.iconst 2, 1) := by decide +kernel
theorem dX5_isSame_22 : decode cX5_isSame 22 = .ok (.iconst 0, 1) := by decide +kernel
theorem dX5_isSame_23 : decode cX5_isSame 23 = .ok (.iastore, 1) := by decide +kernel
theorem dX5_isSame_24 : decode cX5_isSame 24 = .ok (.dup, 1) := by decide +kernel
theorem dX5_isSame_25 : decode cX5_isSame 25 = .ok (.iconst 3, 1) := by decide +kernel
theorem dX5_isSame_26 : decode cX5_isSame 26 = .ok (.aload_n 0, 1) := by decide +kernel
theorem dX5_isSame_27 : decode cX5_isSame 27 = .ok (.getfield 115, 3) := by decide +kernel
theorem dX5_isSame_30 : decode cX5_isSame 30 = .ok (.iastore, 1) := by decide +kernel
theorem dX5_isSame_31 : decode cX5_isSame 31 = .ok (.dup, 1) := by decide +kernel
theorem dX5_isSame_32 : decode cX5_isSame 32 = .ok (.iconst 4, 1) := by decide +kernel
theorem dX5_isSame_33 : decode cX5_isSame 33 = .ok (.aload_n 0, 1) := by decide +kernel
theorem dX5_isSame_34 : decode cX5_isSame 34 = .ok (.getfield 118, 3) := by decide +kernel
theorem dX5_isSame_37 : decode cX5_isSame 37 = .ok (.iastore, 1) := by decide +kernel
theorem dX5_isSame_38 : decode cX5_isSame 38 = .ok (.dup, 1) := by decide +kernel
theorem dX5_isSame_39 : decode cX5_isSame 39 = .ok (.iconst 5, 1) := by decide +kernel
theorem dX5_isSame_40 : decode cX5_isSame 40 = .ok (.iconst 0, 1) := by decide +kernel
theorem dX5_isSame_41 : decode cX5_isSame 41 = .ok (.iastore, 1) := by decide +kernel
theorem dX5_isSame_42 : decode cX5_isSame 42 = .ok (.dup, 1) := by decide +kernel
theorem dX5_isSame_43 : decode cX5_isSame 43 = .ok (.bipush 6, 2) := by decide +kernel
theorem dX5_isSame_45 : decode cX5_isSame 45 = .ok (.iconst 0, 1) := by decide +kernel
theorem dX5_isSame_46 : decode cX5_isSame 46 = .ok (.iastore, 1) := by decide +kernel
theorem dX5_isSame_47 : decode cX5_isSame 47 = .ok (.astore_n 2, 1) := by decide +kernel
theorem dX5_isSame_48 : decode cX5_isSame 48 = .ok (.iconst 0, 1) := by decide +kernel
theorem dX5_isSame_49 : decode cX5_isSame 49 = .ok (.istore_n 3, 1) := by decide +kernel
theorem dX5_isSame_50 : decode cX5_isSame 50 = .ok (.iconst 0, 1) := by decide +kernel
theorem dX5_isSame_51 : decode cX5_isSame 51 = .ok (.istore 4, 2) := by decide +kernel
theorem dX5_isSame_53 : decode cX5_isSame 53 = .ok (.iconst 0, 1) := by decide +kernel
theorem dX5_isSame_54 : decode cX5_isSame 54 = .ok (.istore 5, 2) := by decide +kernel
theorem dX5_isSame_56 : decode cX5_isSame 56 = .ok (.iload 5, 2) := by decide +kernel
theorem dX5_isSame_58 : decode cX5_isSame 58 = .ok (.aload_n 0, 1) := by decide +kernel
theorem dX5_isSame_59 : decode cX5_isSame 59 = .ok (.getfield 7, 3) := by decide +kernel
theorem dX5_isSame_62 : decode cX5_isSame 62 = .ok (.arraylength, 1) := by decide +kernel
theorem dX5_isSame_63 : decode cX5_isSame 63 = .ok (.if_icmp .ge 113, 3) := by decide +kernel
theorem dX5_isSame_66 : decode cX5_isSame 66 = .ok (.iconst 0, 1) := by decide +kernel
theorem dX5_isSame_67 : decode cX5_isSame 67 = .ok (.istore 6, 2) := by decide +kernel
theorem dX5_isSame_69 : decode cX5_isSame 69 = .ok (.iload 6, 2) := by decide +kernel
theorem dX5_isSame_71 : decode cX5_isSame 71 = .ok (.bipush 10, 2) := by decide +kernel
theorem dX5_isSame_73 : decode cX5_isSame 73 = .ok (.if_icmp .ge 97, 3) := by decide +kernel
theorem dX5_isSame_76 : decode cX5_isSame 76 = .ok (.aload_n 0, 1) := by decide +kernel
theorem dX5_isSame_77 : decode cX5_isSame 77 = .ok (.getfield 15, 3) := by decide +kernel
theorem dX5_isSame_80 : decode cX5_isSame 80 = .ok (.iload 5, 2) := by decide +kernel
theorem dX5_isSame_82 : decode cX5_isSame 82 = .ok (.aaload, 1) := by decide +kernel
theorem dX5_isSame_83 : decode cX5_isSame 83 = .ok (.iload 6, 2) := by decide +kernel
theorem dX5_isSame_85 : decode cX5_isSame 85 = .ok (.aaload, 1) := by decide +kernel
theorem dX5_isSame_86 : decode cX5_isSame 86 = .ok (.astore 7, 2) := by decide +kernel
theorem dX5_isSame_88 : decode cX5_isSame 88 = .ok (.aload_n 2, 1) := by decide +kernel
theorem dX5_isSame_89 : decode cX5_isSame 89 = .ok (.iconst 5, 1) := by decide +kernel
theorem dX5_isSame_90 : decode cX5_isSame 90 = .ok (.dup2, 1) := by decide +kernel
theorem dX5_isSame_91 : decode cX5_isSame 91 = .ok (.iaload, 1) := by decide +kernel
theorem dX5_isSame_92 : decode cX5_isSame 92 = .ok (.aload 7, 2) := by decide +kernel
theorem dX5_isSame_94 : decode cX5_isSame 94 = .ok (.iconst 0, 1) := by decide +kernel
theorem dX5_isSame_95 : decode cX5_isSame 95 = .ok (.iaload, 1) := by decide +kernel
theorem dX5_isSame_96 : decode cX5_isSame 96 = .ok (.iadd, 1) := by decide +kernel
theorem dX5_isSame_97 : decode cX5_isSame 97 = .ok (.iastore, 1) := by decide +kernel
theorem dX5_isSame_98 : decode cX5_isSame 98 = .ok (.aload_n 2, 1) := by decide +kernel
theorem dX5_isSame_99 : decode cX5_isSame 99 = .ok (.bipush 6, 2) := by decide +kernel
theorem dX5_isSame_101 : decode cX5_isSame 101 = .ok (.dup2, 1) := by decide +kernel
theorem dX5_isSame_102 : decode cX5_isSame 102 = .ok (.iaload, 1) := by decide +kernel
theorem dX5_isSame_103 : decode cX5_isSame 103 = .ok (.aload 7, 2) := by decide +kernel
theorem dX5_isSame_105 : decode cX5_isSame 105 = .ok (.iconst 1, 1) := by decide +kernel
theorem dX5_isSame_106 : decode cX5_isSame 106 = .ok (.iaload, 1) := by decide +kernel
theorem dX5_isSame_107 : decode cX5_isSame 107 = .ok (.iadd, 1) := by decide +kernel
theorem dX5_isSame_108 : decode cX5_isSame 108 = .ok (.iastore, 1) := by decide +kernel
theorem dX5_isSame_109 : decode cX5_isSame 109 = .ok (.aload_n 1, 1) := by decide +kernel
theorem dX5_isSame_110 : decode cX5_isSame 110 = .ok (.iload 5, 2) := by decide +kernel
theorem dX5_isSame_112 : decode cX5_isSame 112 = .ok (.iload 6, 2) := by decide +kernel
theorem dX5_isSame_114 : decode cX5_isSame 114 = .ok (.iconst 0, 1) := by decide +kernel
theorem dX5_isSame_115 : decode cX5_isSame 115 = .ok (.invokevirtual 121, 3) := by decide +kernel
theorem dX5_isSame_118 : decode cX5_isSame 118 = .ok (.aload 7, 2) := by decide +kernel
theorem dX5_isSame_120 : decode cX5_isSame 120 = .ok (.iconst 0, 1) := by decide +kernel
theorem dX5_isSame_121 : decode cX5_isSame 121 = .ok (.iaload, 1) := by decide +kernel
theorem dX5_isSame_122 : decode cX5_isSame 122 = .ok (.if_icmp .ne 40, 3) := by decide +kernel
theorem dX5_isSame_125 : decode cX5_isSame 125 = .ok (.aload_n 1, 1) := by decide +kernel
theorem dX5_isSame_126 : decode cX5_isSame 126 = .ok (.iload 5, 2) := by decide +kernel
theorem dX5_isSame_128 : decode cX5_isSame 128 = .ok (.iload 6, 2) := by decide +kernel
theorem dX5_isSame_130 : decode cX5_isSame 130 = .ok (.iconst 1, 1) := by decide +kernel
theorem dX5_isSame_131 : decode cX5_isSame 131 = .ok (.invokevirtual 121, 3) := by decide +kernel
theorem dX5_isSame_134 : decode cX5_isSame 134 = .ok (.aload 7, 2) := by decide +kernel
theorem dX5_isSame_136 : decode cX5_isSame 136 = .ok (.iconst 0, 1) := by decide +kernel
theorem dX5_isSame_137 : decode cX5_isSame 137 = .ok (.iaload, 1) := by decide +kernel
theorem dX5_isSame_138 : decode cX5_isSame 138 = .ok (.aload 7, 2) := by decide +kernel
theorem dX5_isSame_140 : decode cX5_isSame 140 = .ok (.iconst 1, 1) := by decide +kernel
theorem dX5_isSame_141 : decode cX5_isSame 141 = .ok (.iaload, 1) := by decide +kernel
theorem dX5_isSame_142 : decode cX5_isSame 142 = .ok (.isub, 1) := by decide +kernel
theorem dX5_isSame_143 : decode cX5_isSame 143 = .ok (.if_icmp .ne 19, 3) := by decide +kernel
theorem dX5_isSame_146 : decode cX5_isSame 146 = .ok (.aload_n 1, 1) := by decide +kernel
theorem dX5_isSame_147 : decode cX5_isSame 147 = .ok (.iload 5, 2) := by decide +kernel
theorem dX5_isSame_149 : decode cX5_isSame 149 = .ok (.iload 6, 2) := by decide +kernel
theorem dX5_isSame_151 : decode cX5_isSame 151 = .ok (.iconst 2, 1) := by decide +kernel
theorem dX5_isSame_152 : decode cX5_isSame 152 = .ok (.invokevirtual 121, 3) := by decide +kernel
theorem dX5_isSame_155 : decode cX5_isSame 155 = .ok (.aload 7, 2) := by decide +kernel
theorem dX5_isSame_157 : decode cX5_isSame 157 = .ok (.iconst 2, 1) := by decide +kernel
theorem dX5_isSame_158 : decode cX5_isSame 158 = .ok (.iaload, 1) := by decide +kernel
theorem dX5_isSame_159 : decode cX5_isSame 159 = .ok (.if_icmp .eq 5, 3) := by decide +kernel
theorem dX5_isSame_162 : decode cX5_isSame 162 = .ok (.iconst 0, 1) := by decide +kernel
theorem dX5_isSame_163 : decode cX5_isSame 163 = .ok (.ireturn, 1) := by decide +kernel
theorem dX5_isSame_164 : decode cX5_isSame 164 = .ok (.iinc 6 1, 3) := by decide +kernel
theorem dX5_isSame_167 : decode cX5_isSame 167 = .ok (.goto (-98), 3) := by decide +kernel
theorem dX5_isSame_170 : decode cX5_isSame 170 = .ok (.iinc 5 1, 3) := by decide +kernel
theorem dX5_isSame_173 : decode cX5_isSame 173 = .ok (.goto (-117), 3) := by decide +kernel
theorem dX5_isSame_176 : decode cX5_isSame 176 = .ok (.iconst 0, 1) := by decide +kernel
theorem dX5_isSame_177 : decode cX5_isSame 177 = .ok (.istore 5, 2) := by decide +kernel
theorem dX5_isSame_179 : decode cX5_isSame 179 = .ok (.iload 5, 2) := by decide +kernel
theorem dX5_isSame_181 : decode cX5_isSame 181 = .ok (.aload_n 0, 1) := by decide +kernel
theorem dX5_isSame_182 : decode cX5_isSame 182 = .ok (.getfield 28, 3) := by decide +kernel
theorem dX5_isSame_185 : decode cX5_isSame 185 = .ok (.arraylength, 1) := by decide +kernel
theorem dX5_isSame_186 : decode cX5_isSame 186 = .ok (.if_icmp .ge 316, 3) := by decide +kernel
theorem dX5_isSame_189 : decode cX5_isSame 189 = .ok (.aload_n 0, 1) := by decide +kernel
theorem dX5_isSame_190 : decode cX5_isSame 190 = .ok (.getfield 28, 3) := by decide +kernel
theorem dX5_isSame_193 : decode cX5_isSame 193 = .ok (.iload 5, 2) := by decide +kernel
theorem dX5_isSame_195 : decode cX5_isSame 195 = .ok (.aaload, 1) := by decide +kernel
theorem dX5_isSame_196 : decode cX5_isSame 196 = .ok (.astore 6, 2) := by decide +kernel
theorem dX5_isSame_198 : decode cX5_isSame 198 = .ok (.bipush 8, 2) := by decide +kernel
theorem dX5_isSame_200 : decode cX5_isSame 200 = .ok (.newarray .int, 2) := by decide +kernel
theorem dX5_isSame_202 : decode cX5_isSame 202 = .ok (.dup, 1) := by decide +kernel
theorem dX5_isSame_203 : decode cX5_isSame 203 = .ok (.iconst 0, 1) := by decide +kernel
theorem dX5_isSame_204 : decode cX5_isSame 204 = .ok (.aload 6, 2) := by decide +kernel
theorem dX5_isSame_206 : decode cX5_isSame 206 = .ok (.getfield 93, 3) := by decide +kernel
theorem dX5_isSame_209 : decode cX5_isSame 209 = .ok (.iastore, 1) := by decide +kernel
theorem dX5_isSame_210 : decode cX5_isSame 210 = .ok (.dup, 1) := by decide +kernel
theorem dX5_isSame_211 : decode cX5_isSame 211 = .ok (.iconst 1, 1) := by decide +kernel
theorem dX5_isSame_212 : decode cX5_isSame 212 = .ok (.aload 6, 2) := by decide +kernel
theorem dX5_isSame_214 : decode cX5_isSame 214 = .ok (.getfield 81, 3) := by decide +kernel
theorem dX5_isSame_217 : decode cX5_isSame 217 = .ok (.iastore, 1) := by decide +kernel
theorem dX5_isSame_218 : decode cX5_isSame 218 = .ok (.dup, 1) := by decide +kernel
theorem dX5_isSame_219 : decode cX5_isSame 219 = .ok (.iconst 2, 1) := by decide +kernel
theorem dX5_isSame_220 : decode cX5_isSame 220 = .ok (.aload 6, 2) := by decide +kernel
theorem dX5_isSame_222 : decode cX5_isSame 222 = .ok (.getfield 70, 3) := by decide +kernel
theorem dX5_isSame_225 : decode cX5_isSame 225 = .ok (.arraylength, 1) := by decide +kernel
theorem dX5_isSame_226 : decode cX5_isSame 226 = .ok (.iastore, 1) := by decide +kernel
theorem dX5_isSame_227 : decode cX5_isSame 227 = .ok (.dup, 1) := by decide +kernel
theorem dX5_isSame_228 : decode cX5_isSame 228 = .ok (.iconst 3, 1) := by decide +kernel
theorem dX5_isSame_229 : decode cX5_isSame 229 = .ok (.aload 6, 2) := by decide +kernel
theorem dX5_isSame_231 : decode cX5_isSame 231 = .ok (.invokevirtual 127, 3) := by decide +kernel
theorem dX5_isSame_234 : decode cX5_isSame 234 = .ok (.iastore, 1) := by decide +kernel
theorem dX5_isSame_235 : decode cX5_isSame 235 = .ok (.dup, 1) := by decide +kernel
theorem dX5_isSame_236 : decode cX5_isSame 236 = .ok (.iconst 4, 1) := by decide +kernel
theorem dX5_isSame_237 : decode cX5_isSame 237 = .ok (.aload 6, 2) := by decide +kernel
theorem dX5_isSame_239 : decode cX5_isSame 239 = .ok (.getfield 66, 3) := by decide +kernel
theorem dX5_isSame_242 : decode cX5_isSame 242 = .ok (.ifCond .eq 7, 3) := by decide +kernel
theorem dX5_isSame_245 : decode cX5_isSame 245 = .ok (.iconst 1, 1) := by decide +kernel
theorem dX5_isSame_246 : decode cX5_isSame 246 = .ok (.goto 4, 3) := by decide +kernel
theorem dX5_isSame_249 : decode cX5_isSame 249 = .ok (.iconst 0, 1) := by decide +kernel
theorem dX5_isSame_250 : decode cX5_isSame 250 = .ok (.iastore, 1) := by decide +kernel
theorem dX5_isSame_251 : decode cX5_isSame 251 = .ok (.dup, 1) := by decide +kernel
theorem dX5_isSame_252 : decode cX5_isSame 252 = .ok (.iconst 5, 1) := by decide +kernel
theorem dX5_isSame_253 : decode cX5_isSame 253 = .ok (.aload 6, 2) := by decide +kernel
theorem dX5_isSame_255 : decode cX5_isSame 255 = .ok (.invokevirtual 96, 3) := by decide +kernel
theorem dX5_isSame_258 : decode cX5_isSame 258 = .ok (.iastore, 1) := by decide +kernel
theorem dX5_isSame_259 : decode cX5_isSame 259 = .ok (.dup, 1) := by decide +kernel
theorem dX5_isSame_260 : decode cX5_isSame 260 = .ok (.bipush 6, 2) := by decide +kernel
theorem dX5_isSame_262 : decode cX5_isSame 262 = .ok (.aload 6, 2) := by decide +kernel
theorem dX5_isSame_264 : decode cX5_isSame 264 = .ok (.getfield 108, 3) := by decide +kernel
theorem dX5_isSame_267 : decode cX5_isSame 267 = .ok (.iastore, 1) := by decide +kernel
theorem dX5_isSame_268 : decode cX5_isSame 268 = .ok (.dup, 1) := by decide +kernel
theorem dX5_isSame_269 : decode cX5_isSame 269 = .ok (.bipush 7, 2) := by decide +kernel
theorem dX5_isSame_271 : decode cX5_isSame 271 = .ok (.aload_n 0, 1) := by decide +kernel
theorem dX5_isSame_272 : decode cX5_isSame 272 = .ok (.aload 6, 2) := by decide +kernel
theorem dX5_isSame_274 : decode cX5_isSame 274 = .ok (.invokevirtual 111, 3) := by decide +kernel
theorem dX5_isSame_277 : decode cX5_isSame 277 = .ok (.iastore, 1) := by decide +kernel
theorem dX5_isSame_278 : decode cX5_isSame 278 = .ok (.astore 7, 2) := by decide +kernel
theorem dX5_isSame_280 : decode cX5_isSame 280 = .ok (.iconst 0, 1) := by decide +kernel
theorem dX5_isSame_281 : decode cX5_isSame 281 = .ok (.istore 8, 2) := by decide +kernel
theorem dX5_isSame_283 : decode cX5_isSame 283 = .ok (.iload 8, 2) := by decide +kernel
theorem dX5_isSame_285 : decode cX5_isSame 285 = .ok (.bipush 8, 2) := by decide +kernel
theorem dX5_isSame_287 : decode cX5_isSame 287 = .ok (.if_icmp .ge 27, 3) := by decide +kernel
theorem dX5_isSame_290 : decode cX5_isSame 290 = .ok (.aload_n 1, 1) := by decide +kernel
theorem dX5_isSame_291 : decode cX5_isSame 291 = .ok (.iload 5, 2) := by decide +kernel
theorem dX5_isSame_293 : decode cX5_isSame 293 = .ok (.iload 8, 2) := by decide +kernel
theorem dX5_isSame_295 : decode cX5_isSame 295 = .ok (.invokevirtual 130, 3) := by decide +kernel
theorem dX5_isSame_298 : decode cX5_isSame 298 = .ok (.aload 7, 2) := by decide +kernel
theorem dX5_isSame_300 : decode cX5_isSame 300 = .ok (.iload 8, 2) := by decide +kernel
theorem dX5_isSame_302 : decode cX5_isSame 302 = .ok (.iaload, 1) := by decide +kernel
theorem dX5_isSame_303 : decode cX5_isSame 303 = .ok (.if_icmp .eq 5, 3) := by decide +kernel
theorem dX5_isSame_306 : decode cX5_isSame 306 = .ok (.iconst 0, 1) := by decide +kernel
theorem dX5_isSame_307 : decode cX5_isSame 307 = .ok (.ireturn, 1) := by decide +kernel
theorem dX5_isSame_308 : decode cX5_isSame 308 = .ok (.iinc 8 1, 3) := by decide +kernel
theorem dX5_isSame_311 : decode cX5_isSame 311 = .ok (.goto (-28), 3) := by decide +kernel
theorem dX5_isSame_314 : decode cX5_isSame 314 = .ok (.iconst 0, 1) := by decide +kernel
theorem dX5_isSame_315 : decode cX5_isSame 315 = .ok (.istore 8, 2) := by decide +kernel
theorem dX5_isSame_317 : decode cX5_isSame 317 = .ok (.iload 8, 2) := by decide +kernel
theorem dX5_isSame_319 : decode cX5_isSame 319 = .ok (.aload 6, 2) := by decide +kernel
theorem dX5_isSame_321 : decode cX5_isSame 321 = .ok (.getfield 70, 3) := by decide +kernel
theorem dX5_isSame_324 : decode cX5_isSame 324 = .ok (.arraylength, 1) := by decide +kernel
theorem dX5_isSame_325 : decode cX5_isSame 325 = .ok (.if_icmp .ge 133, 3) := by decide +kernel
theorem dX5_isSame_328 : decode cX5_isSame 328 = .ok (.iconst 4, 1) := by decide +kernel
theorem dX5_isSame_329 : decode cX5_isSame 329 = .ok (.newarray .int, 2) := by decide +kernel
theorem dX5_isSame_331 : decode cX5_isSame 331 = .ok (.dup, 1) := by decide +kernel
theorem dX5_isSame_332 : decode cX5_isSame 332 = .ok (.iconst 0, 1) := by decide +kernel
theorem dX5_isSame_333 : decode cX5_isSame 333 = .ok (.aload 6, 2) := by decide +kernel
theorem dX5_isSame_335 : decode cX5_isSame 335 = .ok (.getfield 70, 3) := by decide +kernel
theorem dX5_isSame_338 : decode cX5_isSame 338 = .ok (.iload 8, 2) := by decide +kernel
theorem dX5_isSame_340 : decode cX5_isSame 340 = .ok (.aaload, 1) := by decide +kernel
theorem dX5_isSame_341 : decode cX5_isSame 341 = .ok (.arraylength, 1) := by decide +kernel
theorem dX5_isSame_342 : decode cX5_isSame 342 = .ok (.iastore, 1) := by decide +kernel
theorem dX5_isSame_343 : decode cX5_isSame 343 = .ok (.dup, 1) := by decide +kernel
theorem dX5_isSame_344 : decode cX5_isSame 344 = .ok (.iconst 1, 1) := by decide +kernel
theorem dX5_isSame_345 : decode cX5_isSame 345 = .ok (.aload 6, 2) := by decide +kernel
theorem dX5_isSame_347 : decode cX5_isSame 347 = .ok (.getfield 66, 3) := by decide +kernel
theorem dX5_isSame_350 : decode cX5_isSame 350 = .ok (.ifCond .eq 14, 3) := by decide +kernel
theorem dX5_isSame_353 : decode cX5_isSame 353 = .ok (.aload 6, 2) := by decide +kernel
theorem dX5_isSame_355 : decode cX5_isSame 355 = .ok (.getfield 73, 3) := by decide +kernel
theorem dX5_isSame_358 : decode cX5_isSame 358 = .ok (.iload 8, 2) := by decide +kernel
theorem dX5_isSame_360 : decode cX5_isSame 360 = .ok (.iaload, 1) := by decide +kernel
theorem dX5_isSame_361 : decode cX5_isSame 361 = .ok (.goto 4, 3) := by decide +kernel
theorem dX5_isSame_364 : decode cX5_isSame 364 = .ok (.iconst (-1), 1) := by decide +kernel
theorem dX5_isSame_365 : decode cX5_isSame 365 = .ok (.iastore, 1) := by decide +kernel
theorem dX5_isSame_366 : decode cX5_isSame 366 = .ok (.dup, 1) := by decide +kernel
theorem dX5_isSame_367 : decode cX5_isSame 367 = .ok (.iconst 2, 1) := by decide +kernel
theorem dX5_isSame_368 : decode cX5_isSame 368 = .ok (.aload 6, 2) := by decide +kernel
theorem dX5_isSame_370 : decode cX5_isSame 370 = .ok (.getfield 66, 3) := by decide +kernel
theorem dX5_isSame_373 : decode cX5_isSame 373 = .ok (.ifCond .eq 14, 3) := by decide +kernel
theorem dX5_isSame_376 : decode cX5_isSame 376 = .ok (.aload 6, 2) := by decide +kernel
theorem dX5_isSame_378 : decode cX5_isSame 378 = .ok (.getfield 75, 3) := by decide +kernel
theorem dX5_isSame_381 : decode cX5_isSame 381 = .ok (.iload 8, 2) := by decide +kernel
theorem dX5_isSame_383 : decode cX5_isSame 383 = .ok (.iaload, 1) := by decide +kernel
theorem dX5_isSame_384 : decode cX5_isSame 384 = .ok (.goto 4, 3) := by decide +kernel
theorem dX5_isSame_387 : decode cX5_isSame 387 = .ok (.iconst (-1), 1) := by decide +kernel
theorem dX5_isSame_388 : decode cX5_isSame 388 = .ok (.iastore, 1) := by decide +kernel
theorem dX5_isSame_389 : decode cX5_isSame 389 = .ok (.dup, 1) := by decide +kernel
theorem dX5_isSame_390 : decode cX5_isSame 390 = .ok (.iconst 3, 1) := by decide +kernel
theorem dX5_isSame_391 : decode cX5_isSame 391 = .ok (.aload 6, 2) := by decide +kernel
theorem dX5_isSame_393 : decode cX5_isSame 393 = .ok (.getfield 66, 3) := by decide +kernel
theorem dX5_isSame_396 : decode cX5_isSame 396 = .ok (.ifCond .eq 17, 3) := by decide +kernel
theorem dX5_isSame_399 : decode cX5_isSame 399 = .ok (.aload 6, 2) := by decide +kernel
theorem dX5_isSame_401 : decode cX5_isSame 401 = .ok (.getfield 78, 3) := by decide +kernel
theorem dX5_isSame_404 : decode cX5_isSame 404 = .ok (.iload 8, 2) := by decide +kernel
theorem dX5_isSame_406 : decode cX5_isSame 406 = .ok (.aaload, 1) := by decide +kernel
theorem dX5_isSame_407 : decode cX5_isSame 407 = .ok (.invokestatic 133, 3) := by decide +kernel
theorem dX5_isSame_410 : decode cX5_isSame 410 = .ok (.goto 4, 3) := by decide +kernel
theorem dX5_isSame_413 : decode cX5_isSame 413 = .ok (.iconst (-1), 1) := by decide +kernel
theorem dX5_isSame_414 : decode cX5_isSame 414 = .ok (.iastore, 1) := by decide +kernel
theorem dX5_isSame_415 : decode cX5_isSame 415 = .ok (.astore 9, 2) := by decide +kernel
theorem dX5_isSame_417 : decode cX5_isSame 417 = .ok (.iconst 0, 1) := by decide +kernel
theorem dX5_isSame_418 : decode cX5_isSame 418 = .ok (.istore 10, 2) := by decide +kernel
theorem dX5_isSame_420 : decode cX5_isSame 420 = .ok (.iload 10, 2) := by decide +kernel
theorem dX5_isSame_422 : decode cX5_isSame 422 = .ok (.iconst 4, 1) := by decide +kernel
theorem dX5_isSame_423 : decode cX5_isSame 423 = .ok (.if_icmp .ge 29, 3) := by decide +kernel
theorem dX5_isSame_426 : decode cX5_isSame 426 = .ok (.aload_n 1, 1) := by decide +kernel
theorem dX5_isSame_427 : decode cX5_isSame 427 = .ok (.iload 5, 2) := by decide +kernel
theorem dX5_isSame_429 : decode cX5_isSame 429 = .ok (.iload 8, 2) := by decide +kernel
theorem dX5_isSame_431 : decode cX5_isSame 431 = .ok (.iload 10, 2) := by decide +kernel
theorem dX5_isSame_433 : decode cX5_isSame 433 = .ok (.invokevirtual 137, 3) := by decide +kernel
theorem dX5_isSame_436 : decode cX5_isSame 436 = .ok (.aload 9, 2) := by decide +kernel
theorem dX5_isSame_438 : decode cX5_isSame 438 = .ok (.iload 10, 2) := by decide +kernel
theorem dX5_isSame_440 : decode cX5_isSame 440 = .ok (.iaload, 1) := by decide +kernel
theorem dX5_isSame_441 : decode cX5_isSame 441 = .ok (.if_icmp .eq 5, 3) := by decide +kernel
theorem dX5_isSame_444 : decode cX5_isSame 444 = .ok (.iconst 0, 1) := by decide +kernel
theorem dX5_isSame_445 : decode cX5_isSame 445 = .ok (.ireturn, 1) := by decide +kernel
theorem dX5_isSame_446 : decode cX5_isSame 446 = .ok (.iinc 10 1, 3) := by decide +kernel
theorem dX5_isSame_449 : decode cX5_isSame 449 = .ok (.goto (-29), 3) := by decide +kernel
theorem dX5_isSame_452 : decode cX5_isSame 452 = .ok (.iinc 8 1, 3) := by decide +kernel
theorem dX5_isSame_455 : decode cX5_isSame 455 = .ok (.goto (-138), 3) := by decide +kernel
theorem dX5_isSame_458 : decode cX5_isSame 458 = .ok (.aload_n 2, 1) := by decide +kernel
theorem dX5_isSame_459 : decode cX5_isSame 459 = .ok (.iconst 2, 1) := by decide +kernel
theorem dX5_isSame_460 : decode cX5_isSame 460 = .ok (.dup2, 1) := by decide +kernel
theorem dX5_isSame_461 : decode cX5_isSame 461 = .ok (.iaload, 1) := by decide +kernel
theorem dX5_isSame_462 : decode cX5_isSame 462 = .ok (.aload 7, 2) := by decide +kernel
theorem dX5_isSame_464 : decode cX5_isSame 464 = .ok (.iconst 4, 1) := by decide +kernel
theorem dX5_isSame_465 : decode cX5_isSame 465 = .ok (.iaload, 1) := by decide +kernel
theorem dX5_isSame_466 : decode cX5_isSame 466 = .ok (.iadd, 1) := by decide +kernel
theorem dX5_isSame_467 : decode cX5_isSame 467 = .ok (.iastore, 1) := by decide +kernel
theorem dX5_isSame_468 : decode cX5_isSame 468 = .ok (.iload 4, 2) := by decide +kernel
theorem dX5_isSame_470 : decode cX5_isSame 470 = .ok (.aload 7, 2) := by decide +kernel
theorem dX5_isSame_472 : decode cX5_isSame 472 = .ok (.iconst 5, 1) := by decide +kernel
theorem dX5_isSame_473 : decode cX5_isSame 473 = .ok (.iaload, 1) := by decide +kernel
theorem dX5_isSame_474 : decode cX5_isSame 474 = .ok (.iadd, 1) := by decide +kernel
theorem dX5_isSame_475 : decode cX5_isSame 475 = .ok (.istore 4, 2) := by decide +kernel
theorem dX5_isSame_477 : decode cX5_isSame 477 = .ok (.iload_n 3, 1) := by decide +kernel
theorem dX5_isSame_478 : decode cX5_isSame 478 = .ok (.aload 6, 2) := by decide +kernel
theorem dX5_isSame_480 : decode cX5_isSame 480 = .ok (.getfield 66, 3) := by decide +kernel
theorem dX5_isSame_483 : decode cX5_isSame 483 = .ok (.ifCond .eq 10, 3) := by decide +kernel
theorem dX5_isSame_486 : decode cX5_isSame 486 = .ok (.aload 7, 2) := by decide +kernel
theorem dX5_isSame_488 : decode cX5_isSame 488 = .ok (.iconst 3, 1) := by decide +kernel
theorem dX5_isSame_489 : decode cX5_isSame 489 = .ok (.iaload, 1) := by decide +kernel
theorem dX5_isSame_490 : decode cX5_isSame 490 = .ok (.goto 4, 3) := by decide +kernel
theorem dX5_isSame_493 : decode cX5_isSame 493 = .ok (.iconst 0, 1) := by decide +kernel
theorem dX5_isSame_494 : decode cX5_isSame 494 = .ok (.iadd, 1) := by decide +kernel
theorem dX5_isSame_495 : decode cX5_isSame 495 = .ok (.istore_n 3, 1) := by decide +kernel
theorem dX5_isSame_496 : decode cX5_isSame 496 = .ok (.iinc 5 1, 3) := by decide +kernel
theorem dX5_isSame_499 : decode cX5_isSame 499 = .ok (.goto (-320), 3) := by decide +kernel
theorem dX5_isSame_502 : decode cX5_isSame 502 = .ok (.iconst 0, 1) := by decide +kernel
theorem dX5_isSame_503 : decode cX5_isSame 503 = .ok (.istore 5, 2) := by decide +kernel
theorem dX5_isSame_505 : decode cX5_isSame 505 = .ok (.iload 5, 2) := by decide +kernel
theorem dX5_isSame_507 : decode cX5_isSame 507 = .ok (.bipush 7, 2) := by decide +kernel
theorem dX5_isSame_509 : decode cX5_isSame 509 = .ok (.if_icmp .ge 24, 3) := by decide +kernel
theorem dX5_isSame_512 : decode cX5_isSame 512 = .ok (.aload_n 1, 1) := by decide +kernel
theorem dX5_isSame_513 : decode cX5_isSame 513 = .ok (.iload 5, 2) := by decide +kernel
theorem dX5_isSame_515 : decode cX5_isSame 515 = .ok (.invokevirtual 140, 3) := by decide +kernel
theorem dX5_isSame_518 : decode cX5_isSame 518 = .ok (.aload_n 2, 1) := by decide +kernel
theorem dX5_isSame_519 : decode cX5_isSame 519 = .ok (.iload 5, 2) := by decide +kernel
theorem dX5_isSame_521 : decode cX5_isSame 521 = .ok (.iaload, 1) := by decide +kernel
theorem dX5_isSame_522 : decode cX5_isSame 522 = .ok (.if_icmp .eq 5, 3) := by decide +kernel
theorem dX5_isSame_525 : decode cX5_isSame 525 = .ok (.iconst 0, 1) := by decide +kernel
theorem dX5_isSame_526 : decode cX5_isSame 526 = .ok (.ireturn, 1) := by decide +kernel
theorem dX5_isSame_527 : decode cX5_isSame 527 = .ok (.iinc 5 1, 3) := by decide +kernel
theorem dX5_isSame_530 : decode cX5_isSame 530 = .ok (.goto (-25), 3) := by decide +kernel
theorem dX5_isSame_533 : decode cX5_isSame 533 = .ok (.aload_n 1, 1) := by decide +kernel
theorem dX5_isSame_534 : decode cX5_isSame 534 = .ok (.invokevirtual 144, 3) := by decide +kernel
theorem dX5_isSame_537 : decode cX5_isSame 537 = .ok (.iload_n 3, 1) := by decide +kernel
theorem dX5_isSame_538 : decode cX5_isSame 538 = .ok (.ifCond .ne 7, 3) := by decide +kernel
theorem dX5_isSame_541 : decode cX5_isSame 541 = .ok (.dconst 0, 1) := by decide +kernel
theorem dX5_isSame_542 : decode cX5_isSame 542 = .ok (.goto 9, 3) := by decide +kernel
theorem dX5_isSame_545 : decode cX5_isSame 545 = .ok (.iload 4, 2) := by decide +kernel
theorem dX5_isSame_547 : decode cX5_isSame 547 = .ok (.i2d, 1) := by decide +kernel
theorem dX5_isSame_548 : decode cX5_isSame 548 = .ok (.iload_n 3, 1) := by decide +kernel
theorem dX5_isSame_549 : decode cX5_isSame 549 = .ok (.i2d, 1) := by decide +kernel
theorem dX5_isSame_550 : decode cX5_isSame 550 = .ok (.ddiv, 1) := by decide +kernel
theorem dX5_isSame_551 : decode cX5_isSame 551 = .ok (.dcmp .l, 1) := by decide +kernel
theorem dX5_isSame_552 : decode cX5_isSame 552 = .ok (.ifCond .ne 7, 3) := by decide +kernel
theorem dX5_isSame_555 : decode cX5_isSame 555 = .ok (.iconst 1, 1) := by decide +kernel
theorem dX5_isSame_556 : decode cX5_isSame 556 = .ok (.goto 4, 3) := by decide +kernel
theorem dX5_isSame_559 : decode cX5_isSame 559 = .ok (.iconst 0, 1) := by decide +kernel
theorem dX5_isSame_560 : decode cX5_isSame 560 = .ok (.ireturn, 1) := by decide +kernel
theorem dJ5_init_d00df_0 : decode cJ5_init_d00df 0 = .ok (.aload_n 0, 1) := by decide +kernel
theorem dJ5_init_d00df_1 : decode cJ5_init_d00df 1 = .ok (.invokespecial 3, 3) := by decide +kernel
theorem dJ5_init_d00df_4 : decode cJ5_init_d00df 4 = .ok (.getstatic 18, 3) := by decide +kernel
theorem dJ5_init_d00df_7 : decode cJ5_init_d00df 7 = .ok (.ifCond .eq 18, 3) := by decide +kernel
theorem dJ5_init_d00df_10 : decode cJ5_init_d00df 10 = .ok (.aload_n 0, 1) := by decide +kernel
theorem dJ5_init_d00df_11 : decode cJ5_init_d00df 11 = .ok (.iload_n 1, 1) := by decide +kernel
theorem dJ5_init_d00df_12 : decode cJ5_init_d00df 12 = .ok (.newarray .byte, 2) := by decide +kernel
theorem dJ5_init_d00df_14 : decode cJ5_init_d00df 14 = .ok (.putfield 15, 3) := by decide +kernel
theorem dJ5_init_d00df_17 : decode cJ5_init_d00df 17 = .ok (.aload_n 0, 1) := by decide +kernel
theorem dJ5_init_d00df_18 : decode cJ5_init_d00df 18 = .ok (.iconst 0, 1) := by decide +kernel
theorem dJ5_init_d00df_19 : decode cJ5_init_d00df 19 = .ok (.putfield 22, 3) := by decide +kernel
theorem dJ5_init_d00df_22 : decode cJ5_init_d00df 22 = .ok (.goto 16, 3) := by decide +kernel
theorem dJ5_init_d00df_25 : decode cJ5_init_d00df 25 = .ok (.aload_n 0, 1) := by decide +kernel
theorem dJ5_init_d00df_26 : decode cJ5_init_d00df 26 = .ok (.iload_n 1, 1) := by decide +kernel
theorem dJ5_init_d00df_27 : decode cJ5_init_d00df 27 = .ok (.invokestatic 26, 3) := by decide +kernel
theorem dJ5_init_d00df_30 : decode cJ5_init_d00df 30 = .ok (.putfield 15, 3) := by decide +kernel
theorem dJ5_init_d00df_33 : decode cJ5_init_d00df 33 = .ok (.aload_n 0, 1) := by decide +kernel
theorem dJ5_init_d00df_34 : decode cJ5_init_d00df 34 = .ok (.iconst 1, 1) := by decide +kernel
theorem dJ5_init_d00df_35 : decode cJ5_init_d00df 35 = .ok (.putfield 22, 3) := by decide +kernel
theorem dJ5_init_d00df_38 : decode cJ5_init_d00df 38 = .ok (.return_, 1) := by decide +kernel
theorem dJ5_length_8abf5_0 : decode cJ5_length_8abf5 0 = .ok (.aload_n 0, 1) := by decide +kernel
theorem dJ5_length_8abf5_1 : decode cJ5_length_8abf5 1 = .ok (.getfield 79, 3) := by decide +kernel
theorem dJ5_length_8abf5_4 : decode cJ5_length_8abf5 4 = .ok (.ireturn, 1) := by decide +kernel
theorem dJ5_ensureCapacityInternal_d00df_0 : decode cJ5_ensureCapacityInternal_d00df 0 = .ok (.aload_n 0, 1) := by decide +kernel
theorem dJ5_ensureCapacityInternal_d00df_1 : decode cJ5_ensureCapacityInternal_d00df 1 = .ok (.getfield 15, 3) := by decide +kernel
theorem dJ5_ensureCapacityInternal_d00df_4 : decode cJ5_ensureCapacityInternal_d00df 4 = .ok (.arraylength, 1) := by decide +kernel
theorem dJ5_ensureCapacityInternal_d00df_5 : decode cJ5_ensureCapacityInternal_d00df 5 = .ok (.aload_n 0, 1) := by decide +kernel
theorem dJ5_ensureCapacityInternal_d00df_6 : decode cJ5_ensureCapacityInternal_d00df 6 = .ok (.getfield 22, 3) := by decide +kernel
theorem dJ5_ensureCapacityInternal_d00df_9 : decode cJ5_ensureCapacityInternal_d00df 9 = .ok (.ishr, 1) := by decide +kernel
theorem dJ5_ensureCapacityInternal_d00df_10 : decode cJ5_ensureCapacityInternal_d00df 10 = .ok (.istore_n 2, 1) := by decide +kernel
theorem dJ5_ensureCapacityInternal_d00df_11 : decode cJ5_ensureCapacityInternal_d00df 11 = .ok (.iload_n 1, 1) := by decide +kernel
theorem dJ5_ensureCapacityInternal_d00df_12 : decode cJ5_ensureCapacityInternal_d00df 12 = .ok (.iload_n 2, 1) := by decide +kernel
theorem dJ5_ensureCapacityInternal_d00df_13 : decode cJ5_ensureCapacityInternal_d00df 13 = .ok (.isub, 1) := by decide +kernel
theorem dJ5_ensureCapacityInternal_d00df_14 : decode cJ5_ensureCapacityInternal_d00df 14 = .ok (.ifCond .le 24, 3) := by decide +kernel
theorem dJ5_ensureCapacityInternal_d00df_17 : decode cJ5_ensureCapacityInternal_d00df 17 = .ok (.aload_n 0, 1) := by decide +kernel
theorem dJ5_ensureCapacityInternal_d00df_18 : decode cJ5_ensureCapacityInternal_d00df 18 = .ok (.aload_n 0, 1) := by decide +kernel
theorem dJ5_ensureCapacityInternal_d00df_19 : decode cJ5_ensureCapacityInternal_d00df 19 = .ok (.getfield 15, 3) := by decide +kernel
theorem dJ5_ensureCapacityInternal_d00df_22 : decode cJ5_ensureCapacityInternal_d00df 22 = .ok (.aload_n 0, 1) := by decide +kernel
theorem dJ5_ensureCapacityInternal_d00df_23 : decode cJ5_ensureCapacityInternal_d00df 23 = .ok (.iload_n 1, 1) := by decide +kernel
theorem dJ5_ensureCapacityInternal_d00df_24 : decode cJ5_ensureCapacityInternal_d00df 24 = .ok (.invokevirtual 104, 3) := by decide +kernel
theorem dJ5_ensureCapacityInternal_d00df_27 : decode cJ5_ensureCapacityInternal_d00df 27 = .ok (.aload_n 0, 1) := by decide +kernel
theorem dJ5_ensureCapacityInternal_d00df_28 : decode cJ5_ensureCapacityInternal_d00df 28 = .ok (.getfield 22, 3) := by decide +kernel
theorem dJ5_ensureCapacityInternal_d00df_31 : decode cJ5_ensureCapacityInternal_d00df 31 = .ok (.ishl, 1) := by decide +kernel
theorem dJ5_ensureCapacityInternal_d00df_32 : decode cJ5_ensureCapacityInternal_d00df 32 = .ok (.invokestatic 108, 3) := by decide +kernel
theorem dJ5_ensureCapacityInternal_d00df_35 : decode cJ5_ensureCapacityInternal_d00df 35 = .ok (.putfield 15, 3) := by decide +kernel
theorem dJ5_ensureCapacityInternal_d00df_38 : decode cJ5_ensureCapacityInternal_d00df 38 = .ok (.return_, 1) := by decide +kernel
theorem dJ5_newCapacity_0f7a4_0 : decode cJ5_newCapacity_0f7a4 0 = .ok (.aload_n 0, 1) := by decide +kernel
theorem dJ5_newCapacity_0f7a4_1 : decode cJ5_newCapacity_0f7a4 1 = .ok (.getfield 15, 3) := by decide +kernel
theorem dJ5_newCapacity_0f7a4_4 : decode cJ5_newCapacity_0f7a4 4 = .ok (.arraylength, 1) := by decide +kernel
theorem dJ5_newCapacity_0f7a4_5 : decode cJ5_newCapacity_0f7a4 5 = .ok (.istore_n 2, 1) := by decide +kernel
theorem dJ5_newCapacity_0f7a4_6 : decode cJ5_newCapacity_0f7a4 6 = .ok (.iload_n 1, 1) := by decide +kernel
theorem dJ5_newCapacity_0f7a4_7 : decode cJ5_newCapacity_0f7a4 7 = .ok (.aload_n 0, 1) := by decide +kernel
theorem dJ5_newCapacity_0f7a4_8 : decode cJ5_newCapacity_0f7a4 8 = .ok (.getfield 22, 3) := by decide +kernel
theorem dJ5_newCapacity_0f7a4_11 : decode cJ5_newCapacity_0f7a4 11 = .ok (.ishl, 1) := by decide +kernel
theorem dJ5_newCapacity_0f7a4_12 : decode cJ5_newCapacity_0f7a4 12 = .ok (.istore_n 3, 1) := by decide +kernel
theorem dJ5_newCapacity_0f7a4_13 : decode cJ5_newCapacity_0f7a4 13 = .ok (.iload_n 3, 1) := by decide +kernel
theorem dJ5_newCapacity_0f7a4_14 : decode cJ5_newCapacity_0f7a4 14 = .ok (.iload_n 2, 1) := by decide +kernel
theorem dJ5_newCapacity_0f7a4_15 : decode cJ5_newCapacity_0f7a4 15 = .ok (.isub, 1) := by decide +kernel
theorem dJ5_newCapacity_0f7a4_16 : decode cJ5_newCapacity_0f7a4 16 = .ok (.istore 4, 2) := by decide +kernel
theorem dJ5_newCapacity_0f7a4_18 : decode cJ5_newCapacity_0f7a4 18 = .ok (.iload_n 2, 1) := by decide +kernel
theorem dJ5_newCapacity_0f7a4_19 : decode cJ5_newCapacity_0f7a4 19 = .ok (.iload 4, 2) := by decide +kernel
theorem dJ5_newCapacity_0f7a4_21 : decode cJ5_newCapacity_0f7a4 21 = .ok (.iload_n 2, 1) := by decide +kernel
theorem dJ5_newCapacity_0f7a4_22 : decode cJ5_newCapacity_0f7a4 22 = .ok (.iconst 2, 1) := by decide +kernel
theorem dJ5_newCapacity_0f7a4_23 : decode cJ5_newCapacity_0f7a4 23 = .ok (.aload_n 0, 1) := by decide +kernel
theorem dJ5_newCapacity_0f7a4_24 : decode cJ5_newCapacity_0f7a4 24 = .ok (.getfield 22, 3) := by decide +kernel
theorem dJ5_newCapacity_0f7a4_27 : decode cJ5_newCapacity_0f7a4 27 = .ok (.ishl, 1) := by decide +kernel
theorem dJ5_newCapacity_0f7a4_28 : decode cJ5_newCapacity_0f7a4 28 = .ok (.iadd, 1) := by decide +kernel
theorem dJ5_newCapacity_0f7a4_29 : decode cJ5_newCapacity_0f7a4 29 = .ok (.invokestatic 114, 3) := by decide +kernel
theorem dJ5_newCapacity_0f7a4_32 : decode cJ5_newCapacity_0f7a4 32 = .ok (.istore 5, 2) := by decide +kernel
theorem dJ5_newCapacity_0f7a4_34 : decode cJ5_newCapacity_0f7a4 34 = .ok (.iload 5, 2) := by decide +kernel
theorem dJ5_newCapacity_0f7a4_36 : decode cJ5_newCapacity_0f7a4 36 = .ok (.ldc 39, 2) := by decide +kernel
theorem dJ5_newCapacity_0f7a4_38 : decode cJ5_newCapacity_0f7a4 38 = .ok (.if_icmp .ne 13, 3) := by decide +kernel
theorem dJ5_newCapacity_0f7a4_41 : decode cJ5_newCapacity_0f7a4 41 = .ok (.new 120, 3) := by decide +kernel
theorem dJ5_newCapacity_0f7a4_44 : decode cJ5_newCapacity_0f7a4 44 = .ok (.dup, 1) := by decide +kernel
theorem dJ5_newCapacity_0f7a4_45 : decode cJ5_newCapacity_0f7a4 45 = .ok (.ldc 122, 2) := by decide +kernel
theorem dJ5_newCapacity_0f7a4_47 : decode cJ5_newCapacity_0f7a4 47 = .ok (.invokespecial 124, 3) := by decide +kernel
theorem dJ5_newCapacity_0f7a4_50 : decode cJ5_newCapacity_0f7a4 50 = .ok (.athrow, 1) := by decide +kernel
theorem dJ5_newCapacity_0f7a4_51 : decode cJ5_newCapacity_0f7a4 51 = .ok (.iload 5, 2) := by decide +kernel
theorem dJ5_newCapacity_0f7a4_53 : decode cJ5_newCapacity_0f7a4 53 = .ok (.aload_n 0, 1) := by decide +kernel
theorem dJ5_newCapacity_0f7a4_54 : decode cJ5_newCapacity_0f7a4 54 = .ok (.getfield 22, 3) := by decide +kernel
theorem dJ5_newCapacity_0f7a4_57 : decode cJ5_newCapacity_0f7a4 57 = .ok (.ishr, 1) := by decide +kernel
theorem dJ5_newCapacity_0f7a4_58 : decode cJ5_newCapacity_0f7a4 58 = .ok (.ireturn, 1) := by decide +kernel
theorem dJ5_inflate_da8c8_0 : decode cJ5_inflate_da8c8 0 = .ok (.aload_n 0, 1) := by decide +kernel
theorem dJ5_inflate_da8c8_1 : decode cJ5_inflate_da8c8 1 = .ok (.invokevirtual 83, 3) := by decide +kernel
theorem dJ5_inflate_da8c8_4 : decode cJ5_inflate_da8c8 4 = .ok (.ifCond .ne 4, 3) := by decide +kernel
theorem dJ5_inflate_da8c8_7 : decode cJ5_inflate_da8c8 7 = .ok (.return_, 1) := by decide +kernel
theorem dJ5_inflate_da8c8_8 : decode cJ5_inflate_da8c8 8 = .ok (.aload_n 0, 1) := by decide +kernel
theorem dJ5_inflate_da8c8_9 : decode cJ5_inflate_da8c8 9 = .ok (.getfield 15, 3) := by decide +kernel
theorem dJ5_inflate_da8c8_12 : decode cJ5_inflate_da8c8 12 = .ok (.arraylength, 1) := by decide +kernel
theorem dJ5_inflate_da8c8_13 : decode cJ5_inflate_da8c8 13 = .ok (.invokestatic 26, 3) := by decide +kernel
theorem dJ5_inflate_da8c8_16 : decode cJ5_inflate_da8c8 16 = .ok (.astore_n 1, 1) := by decide +kernel
theorem dJ5_inflate_da8c8_17 : decode cJ5_inflate_da8c8 17 = .ok (.aload_n 0, 1) := by decide +kernel
theorem dJ5_inflate_da8c8_18 : decode cJ5_inflate_da8c8 18 = .ok (.getfield 15, 3) := by decide +kernel
theorem dJ5_inflate_da8c8_21 : decode cJ5_inflate_da8c8 21 = .ok (.iconst 0, 1) := by decide +kernel
theorem dJ5_inflate_da8c8_22 : decode cJ5_inflate_da8c8 22 = .ok (.aload_n 1, 1) := by decide +kernel
theorem dJ5_inflate_da8c8_23 : decode cJ5_inflate_da8c8 23 = .ok (.iconst 0, 1) := by decide +kernel
theorem dJ5_inflate_da8c8_24 : decode cJ5_inflate_da8c8 24 = .ok (.aload_n 0, 1) := by decide +kernel
theorem dJ5_inflate_da8c8_25 : decode cJ5_inflate_da8c8 25 = .ok (.getfield 79, 3) := by decide +kernel
theorem dJ5_inflate_da8c8_28 : decode cJ5_inflate_da8c8 28 = .ok (.invokestatic 125, 3) := by decide +kernel
theorem dJ5_inflate_da8c8_31 : decode cJ5_inflate_da8c8 31 = .ok (.aload_n 0, 1) := by decide +kernel
theorem dJ5_inflate_da8c8_32 : decode cJ5_inflate_da8c8 32 = .ok (.aload_n 1, 1) := by decide +kernel
theorem dJ5_inflate_da8c8_33 : decode cJ5_inflate_da8c8 33 = .ok (.putfield 15, 3) := by decide +kernel
theorem dJ5_inflate_da8c8_36 : decode cJ5_inflate_da8c8 36 = .ok (.aload_n 0, 1) := by decide +kernel
theorem dJ5_inflate_da8c8_37 : decode cJ5_inflate_da8c8 37 = .ok (.iconst 1, 1) := by decide +kernel
theorem dJ5_inflate_da8c8_38 : decode cJ5_inflate_da8c8 38 = .ok (.putfield 22, 3) := by decide +kernel
theorem dJ5_inflate_da8c8_41 : decode cJ5_inflate_da8c8 41 = .ok (.return_, 1) := by decide +kernel
theorem dJ5_append_cf1ce_0 : decode cJ5_append_cf1ce 0 = .ok (.aload_n 1, 1) := by decide +kernel
theorem dJ5_append_cf1ce_1 : decode cJ5_append_cf1ce 1 = .ok (.ifnonnull 8, 3) := by decide +kernel
theorem dJ5_append_cf1ce_4 : decode cJ5_append_cf1ce 4 = .ok (.aload_n 0, 1) := by decide +kernel
theorem dJ5_append_cf1ce_5 : decode cJ5_append_cf1ce 5 = .ok (.invokevirtual 204, 3) := by decide +kernel
theorem dJ5_append_cf1ce_8 : decode cJ5_append_cf1ce 8 = .ok (.areturn, 1) := by decide +kernel
theorem dJ5_append_cf1ce_9 : decode cJ5_append_cf1ce 9 = .ok (.aload_n 1, 1) := by decide +kernel
theorem dJ5_append_cf1ce_10 : decode cJ5_append_cf1ce 10 = .ok (.invokevirtual 32, 3) := by decide +kernel
theorem dJ5_append_cf1ce_13 : decode cJ5_append_cf1ce 13 = .ok (.istore_n 2, 1) := by decide +kernel
theorem dJ5_append_cf1ce_14 : decode cJ5_append_cf1ce 14 = .ok (.aload_n 0, 1) := by decide +kernel
theorem dJ5_append_cf1ce_15 : decode cJ5_append_cf1ce 15 = .ok (.aload_n 0, 1) := by decide +kernel
theorem dJ5_append_cf1ce_16 : decode cJ5_append_cf1ce 16 = .ok (.getfield 79, 3) := by decide +kernel
theorem dJ5_append_cf1ce_19 : decode cJ5_append_cf1ce 19 = .ok (.iload_n 2, 1) := by decide +kernel
theorem dJ5_append_cf1ce_20 : decode cJ5_append_cf1ce 20 = .ok (.iadd, 1) := by decide +kernel
theorem dJ5_append_cf1ce_21 : decode cJ5_append_cf1ce 21 = .ok (.invokevirtual 100, 3) := by decide +kernel
theorem dJ5_append_cf1ce_24 : decode cJ5_append_cf1ce 24 = .ok (.aload_n 0, 1) := by decide +kernel
theorem dJ5_append_cf1ce_25 : decode cJ5_append_cf1ce 25 = .ok (.aload_n 0, 1) := by decide +kernel
theorem dJ5_append_cf1ce_26 : decode cJ5_append_cf1ce 26 = .ok (.getfield 79, 3) := by decide +kernel
theorem dJ5_append_cf1ce_29 : decode cJ5_append_cf1ce 29 = .ok (.aload_n 1, 1) := by decide +kernel
theorem dJ5_append_cf1ce_30 : decode cJ5_append_cf1ce 30 = .ok (.invokevirtual 208, 3) := by decide +kernel
theorem dJ5_append_cf1ce_33 : decode cJ5_append_cf1ce 33 = .ok (.aload_n 0, 1) := by decide +kernel
theorem dJ5_append_cf1ce_34 : decode cJ5_append_cf1ce 34 = .ok (.dup, 1) := by decide +kernel
theorem dJ5_append_cf1ce_35 : decode cJ5_append_cf1ce 35 = .ok (.getfield 79, 3) := by decide +kernel
theorem dJ5_append_cf1ce_38 : decode cJ5_append_cf1ce 38 = .ok (.iload_n 2, 1) := by decide +kernel
theorem dJ5_append_cf1ce_39 : decode cJ5_append_cf1ce 39 = .ok (.iadd, 1) := by decide +kernel
theorem dJ5_append_cf1ce_40 : decode cJ5_append_cf1ce 40 = .ok (.putfield 79, 3) := by decide +kernel
theorem dJ5_append_cf1ce_43 : decode cJ5_append_cf1ce 43 = .ok (.aload_n 0, 1) := by decide +kernel
theorem dJ5_append_cf1ce_44 : decode cJ5_append_cf1ce 44 = .ok (.areturn, 1) := by decide +kernel
theorem dJ5_appendNull_278bc_0 : decode cJ5_appendNull_278bc 0 = .ok (.aload_n 0, 1) := by decide +kernel
theorem dJ5_appendNull_278bc_1 : decode cJ5_appendNull_278bc 1 = .ok (.aload_n 0, 1) := by decide +kernel
theorem dJ5_appendNull_278bc_2 : decode cJ5_appendNull_278bc 2 = .ok (.getfield 79, 3) := by decide +kernel
theorem dJ5_appendNull_278bc_5 : decode cJ5_appendNull_278bc 5 = .ok (.iconst 4, 1) := by decide +kernel
theorem dJ5_appendNull_278bc_6 : decode cJ5_appendNull_278bc 6 = .ok (.iadd, 1) := by decide +kernel
theorem dJ5_appendNull_278bc_7 : decode cJ5_appendNull_278bc 7 = .ok (.invokevirtual 100, 3) := by decide +kernel
theorem dJ5_appendNull_278bc_10 : decode cJ5_appendNull_278bc 10 = .ok (.aload_n 0, 1) := by decide +kernel
theorem dJ5_appendNull_278bc_11 : decode cJ5_appendNull_278bc 11 = .ok (.getfield 79, 3) := by decide +kernel
theorem dJ5_appendNull_278bc_14 : decode cJ5_appendNull_278bc 14 = .ok (.istore_n 1, 1) := by decide +kernel
theorem dJ5_appendNull_278bc_15 : decode cJ5_appendNull_278bc 15 = .ok (.aload_n 0, 1) := by decide +kernel
theorem dJ5_appendNull_278bc_16 : decode cJ5_appendNull_278bc 16 = .ok (.getfield 15, 3) := by decide +kernel
theorem dJ5_appendNull_278bc_19 : decode cJ5_appendNull_278bc 19 = .ok (.astore_n 2, 1) := by decide +kernel
theorem dJ5_appendNull_278bc_20 : decode cJ5_appendNull_278bc 20 = .ok (.aload_n 0, 1) := by decide +kernel
theorem dJ5_appendNull_278bc_21 : decode cJ5_appendNull_278bc 21 = .ok (.invokevirtual 83, 3) := by decide +kernel
theorem dJ5_appendNull_278bc_24 : decode cJ5_appendNull_278bc 24 = .ok (.ifCond .eq 38, 3) := by decide +kernel
theorem dJ5_appendNull_278bc_27 : decode cJ5_appendNull_278bc 27 = .ok (.aload_n 2, 1) := by decide +kernel
theorem dJ5_appendNull_278bc_28 : decode cJ5_appendNull_278bc 28 = .ok (.iload_n 1, 1) := by decide +kernel
theorem dJ5_appendNull_278bc_29 : decode cJ5_appendNull_278bc 29 = .ok (.iinc 1 1, 3) := by decide +kernel
theorem dJ5_appendNull_278bc_32 : decode cJ5_appendNull_278bc 32 = .ok (.bipush 110, 2) := by decide +kernel
theorem dJ5_appendNull_278bc_34 : decode cJ5_appendNull_278bc 34 = .ok (.bastore, 1) := by decide +kernel
theorem dJ5_appendNull_278bc_35 : decode cJ5_appendNull_278bc 35 = .ok (.aload_n 2, 1) := by decide +kernel
theorem dJ5_appendNull_278bc_36 : decode cJ5_appendNull_278bc 36 = .ok (.iload_n 1, 1) := by decide +kernel
theorem dJ5_appendNull_278bc_37 : decode cJ5_appendNull_278bc 37 = .ok (.iinc 1 1, 3) := by decide +kernel
theorem dJ5_appendNull_278bc_40 : decode cJ5_appendNull_278bc 40 = .ok (.bipush 117, 2) := by decide +kernel
theorem dJ5_appendNull_278bc_42 : decode cJ5_appendNull_278bc 42 = .ok (.bastore, 1) := by decide +kernel
theorem dJ5_appendNull_278bc_43 : decode cJ5_appendNull_278bc 43 = .ok (.aload_n 2, 1) := by decide +kernel
theorem dJ5_appendNull_278bc_44 : decode cJ5_appendNull_278bc 44 = .ok (.iload_n 1, 1) := by decide +kernel
theorem dJ5_appendNull_278bc_45 : decode cJ5_appendNull_278bc 45 = .ok (.iinc 1 1, 3) := by decide +kernel
theorem dJ5_appendNull_278bc_48 : decode cJ5_appendNull_278bc 48 = .ok (.bipush 108, 2) := by decide +kernel
theorem dJ5_appendNull_278bc_50 : decode cJ5_appendNull_278bc 50 = .ok (.bastore, 1) := by decide +kernel
theorem dJ5_appendNull_278bc_51 : decode cJ5_appendNull_278bc 51 = .ok (.aload_n 2, 1) := by decide +kernel
theorem dJ5_appendNull_278bc_52 : decode cJ5_appendNull_278bc 52 = .ok (.iload_n 1, 1) := by decide +kernel
theorem dJ5_appendNull_278bc_53 : decode cJ5_appendNull_278bc 53 = .ok (.iinc 1 1, 3) := by decide +kernel
theorem dJ5_appendNull_278bc_56 : decode cJ5_appendNull_278bc 56 = .ok (.bipush 108, 2) := by decide +kernel
theorem dJ5_appendNull_278bc_58 : decode cJ5_appendNull_278bc 58 = .ok (.bastore, 1) := by decide +kernel
theorem dJ5_appendNull_278bc_59 : decode cJ5_appendNull_278bc 59 = .ok (.goto 17, 3) := by decide +kernel
theorem dJ5_appendNull_278bc_62 : decode cJ5_appendNull_278bc 62 = .ok (.aload_n 2, 1) := by decide +kernel
theorem dJ5_appendNull_278bc_63 : decode cJ5_appendNull_278bc 63 = .ok (.iload_n 1, 1) := by decide +kernel
theorem dJ5_appendNull_278bc_64 : decode cJ5_appendNull_278bc 64 = .ok (.bipush 110, 2) := by decide +kernel
theorem dJ5_appendNull_278bc_66 : decode cJ5_appendNull_278bc 66 = .ok (.bipush 117, 2) := by decide +kernel
theorem dJ5_appendNull_278bc_68 : decode cJ5_appendNull_278bc 68 = .ok (.bipush 108, 2) := by decide +kernel
theorem dJ5_appendNull_278bc_70 : decode cJ5_appendNull_278bc 70 = .ok (.bipush 108, 2) := by decide +kernel
theorem dJ5_appendNull_278bc_72 : decode cJ5_appendNull_278bc 72 = .ok (.invokestatic 226, 3) := by decide +kernel
theorem dJ5_appendNull_278bc_75 : decode cJ5_appendNull_278bc 75 = .ok (.istore_n 1, 1) := by decide +kernel
theorem dJ5_appendNull_278bc_76 : decode cJ5_appendNull_278bc 76 = .ok (.aload_n 0, 1) := by decide +kernel
theorem dJ5_appendNull_278bc_77 : decode cJ5_appendNull_278bc 77 = .ok (.iload_n 1, 1) := by decide +kernel
theorem dJ5_appendNull_278bc_78 : decode cJ5_appendNull_278bc 78 = .ok (.putfield 79, 3) := by decide +kernel
theorem dJ5_appendNull_278bc_81 : decode cJ5_appendNull_278bc 81 = .ok (.aload_n 0, 1) := by decide +kernel
theorem dJ5_appendNull_278bc_82 : decode cJ5_appendNull_278bc 82 = .ok (.areturn, 1) := by decide +kernel
theorem dJ5_append_c97b9_0 : decode cJ5_append_c97b9 0 = .ok (.aload_n 0, 1) := by decide +kernel
theorem dJ5_append_c97b9_1 : decode cJ5_append_c97b9 1 = .ok (.getfield 79, 3) := by decide +kernel
theorem dJ5_append_c97b9_4 : decode cJ5_append_c97b9 4 = .ok (.istore_n 2, 1) := by decide +kernel
theorem dJ5_append_c97b9_5 : decode cJ5_append_c97b9 5 = .ok (.iload_n 2, 1) := by decide +kernel
theorem dJ5_append_c97b9_6 : decode cJ5_append_c97b9 6 = .ok (.iload_n 1, 1) := by decide +kernel
theorem dJ5_append_c97b9_7 : decode cJ5_append_c97b9 7 = .ok (.invokestatic 245, 3) := by decide +kernel
theorem dJ5_append_c97b9_10 : decode cJ5_append_c97b9 10 = .ok (.iadd, 1) := by decide +kernel
theorem dJ5_append_c97b9_11 : decode cJ5_append_c97b9 11 = .ok (.istore_n 3, 1) := by decide +kernel
theorem dJ5_append_c97b9_12 : decode cJ5_append_c97b9 12 = .ok (.aload_n 0, 1) := by decide +kernel
theorem dJ5_append_c97b9_13 : decode cJ5_append_c97b9 13 = .ok (.iload_n 3, 1) := by decide +kernel
theorem dJ5_append_c97b9_14 : decode cJ5_append_c97b9 14 = .ok (.invokevirtual 100, 3) := by decide +kernel
theorem dJ5_append_c97b9_17 : decode cJ5_append_c97b9 17 = .ok (.aload_n 0, 1) := by decide +kernel
theorem dJ5_append_c97b9_18 : decode cJ5_append_c97b9 18 = .ok (.invokevirtual 83, 3) := by decide +kernel
theorem dJ5_append_c97b9_21 : decode cJ5_append_c97b9 21 = .ok (.ifCond .eq 16, 3) := by decide +kernel
theorem dJ5_append_c97b9_24 : decode cJ5_append_c97b9 24 = .ok (.iload_n 1, 1) := by decide +kernel
theorem dJ5_append_c97b9_25 : decode cJ5_append_c97b9 25 = .ok (.iload_n 3, 1) := by decide +kernel
theorem dJ5_append_c97b9_26 : decode cJ5_append_c97b9 26 = .ok (.aload_n 0, 1) := by decide +kernel
theorem dJ5_append_c97b9_27 : decode cJ5_append_c97b9 27 = .ok (.getfield 15, 3) := by decide +kernel
theorem dJ5_append_c97b9_30 : decode cJ5_append_c97b9 30 = .ok (.invokestatic 248, 3) := by decide +kernel
theorem dJ5_append_c97b9_33 : decode cJ5_append_c97b9 33 = .ok (.pop, 1) := by decide +kernel
theorem dJ5_append_c97b9_34 : decode cJ5_append_c97b9 34 = .ok (.goto 14, 3) := by decide +kernel
theorem dJ5_append_c97b9_37 : decode cJ5_append_c97b9 37 = .ok (.iload_n 1, 1) := by decide +kernel
theorem dJ5_append_c97b9_38 : decode cJ5_append_c97b9 38 = .ok (.iload_n 2, 1) := by decide +kernel
theorem dJ5_append_c97b9_39 : decode cJ5_append_c97b9 39 = .ok (.iload_n 3, 1) := by decide +kernel
theorem dJ5_append_c97b9_40 : decode cJ5_append_c97b9 40 = .ok (.aload_n 0, 1) := by decide +kernel
theorem dJ5_append_c97b9_41 : decode cJ5_append_c97b9 41 = .ok (.getfield 15, 3) := by decide +kernel
theorem dJ5_append_c97b9_44 : decode cJ5_append_c97b9 44 = .ok (.invokestatic 251, 3) := by decide +kernel
theorem dJ5_append_c97b9_47 : decode cJ5_append_c97b9 47 = .ok (.pop, 1) := by decide +kernel
theorem dJ5_append_c97b9_48 : decode cJ5_append_c97b9 48 = .ok (.aload_n 0, 1) := by decide +kernel
theorem dJ5_append_c97b9_49 : decode cJ5_append_c97b9 49 = .ok (.iload_n 3, 1) := by decide +kernel
theorem dJ5_append_c97b9_50 : decode cJ5_append_c97b9 50 = .ok (.putfield 79, 3) := by decide +kernel
theorem dJ5_append_c97b9_53 : decode cJ5_append_c97b9 53 = .ok (.aload_n 0, 1) := by decide +kernel
theorem dJ5_append_c97b9_54 : decode cJ5_append_c97b9 54 = .ok (.areturn, 1) := by decide +kernel
theorem dJ5_getValue_6d5f1_0 : decode cJ5_getValue_6d5f1 0 = .ok (.aload_n 0, 1) := by decide +kernel
theorem dJ5_getValue_6d5f1_1 : decode cJ5_getValue_6d5f1 1 = .ok (.getfield 15, 3) := by decide +kernel
theorem dJ5_getValue_6d5f1_4 : decode cJ5_getValue_6d5f1 4 = .ok (.areturn, 1) := by decide +kernel
theorem dJ5_isLatin1_aae02_0 : decode cJ5_isLatin1_aae02 0 = .ok (.getstatic 18, 3) := by decide +kernel
theorem dJ5_isLatin1_aae02_3 : decode cJ5_isLatin1_aae02 3 = .ok (.ifCond .eq 14, 3) := by decide +kernel
theorem dJ5_isLatin1_aae02_6 : decode cJ5_isLatin1_aae02 6 = .ok (.aload_n 0, 1) := by decide +kernel
theorem dJ5_isLatin1_aae02_7 : decode cJ5_isLatin1_aae02 7 = .ok (.getfield 22, 3) := by decide +kernel
theorem dJ5_isLatin1_aae02_10 : decode cJ5_isLatin1_aae02 10 = .ok (.ifCond .ne 7, 3) := by decide +kernel
theorem dJ5_isLatin1_aae02_13 : decode cJ5_isLatin1_aae02 13 = .ok (.iconst 1, 1) := by decide +kernel
theorem dJ5_isLatin1_aae02_14 : decode cJ5_isLatin1_aae02 14 = .ok (.goto 4, 3) := by decide +kernel
theorem dJ5_isLatin1_aae02_17 : decode cJ5_isLatin1_aae02 17 = .ok (.iconst 0, 1) := by decide +kernel
theorem dJ5_isLatin1_aae02_18 : decode cJ5_isLatin1_aae02 18 = .ok (.ireturn, 1) := by decide +kernel
theorem dJ5_inflateIfNeededFor_a7421_0 : decode cJ5_inflateIfNeededFor_a7421 0 = .ok (.getstatic 18, 3) := by decide +kernel
theorem dJ5_inflateIfNeededFor_a7421_3 : decode cJ5_inflateIfNeededFor_a7421 3 = .ok (.ifCond .eq 18, 3) := by decide +kernel
theorem dJ5_inflateIfNeededFor_a7421_6 : decode cJ5_inflateIfNeededFor_a7421 6 = .ok (.aload_n 0, 1) := by decide +kernel
theorem dJ5_inflateIfNeededFor_a7421_7 : decode cJ5_inflateIfNeededFor_a7421 7 = .ok (.getfield 22, 3) := by decide +kernel
theorem dJ5_inflateIfNeededFor_a7421_10 : decode cJ5_inflateIfNeededFor_a7421 10 = .ok (.aload_n 1, 1) := by decide +kernel
theorem dJ5_inflateIfNeededFor_a7421_11 : decode cJ5_inflateIfNeededFor_a7421 11 = .ok (.invokevirtual 40, 3) := by decide +kernel
theorem dJ5_inflateIfNeededFor_a7421_14 : decode cJ5_inflateIfNeededFor_a7421 14 = .ok (.if_icmp .eq 7, 3) := by decide +kernel
theorem dJ5_inflateIfNeededFor_a7421_17 : decode cJ5_inflateIfNeededFor_a7421 17 = .ok (.aload_n 0, 1) := by decide +kernel
theorem dJ5_inflateIfNeededFor_a7421_18 : decode cJ5_inflateIfNeededFor_a7421 18 = .ok (.invokevirtual 195, 3) := by decide +kernel
theorem dJ5_inflateIfNeededFor_a7421_21 : decode cJ5_inflateIfNeededFor_a7421 21 = .ok (.return_, 1) := by decide +kernel
theorem dJ5_putStringAt_47b60_0 : decode cJ5_putStringAt_47b60 0 = .ok (.aload_n 0, 1) := by decide +kernel
theorem dJ5_putStringAt_47b60_1 : decode cJ5_putStringAt_47b60 1 = .ok (.aload_n 2, 1) := by decide +kernel
theorem dJ5_putStringAt_47b60_2 : decode cJ5_putStringAt_47b60 2 = .ok (.invokevirtual 397, 3) := by decide +kernel
theorem dJ5_putStringAt_47b60_5 : decode cJ5_putStringAt_47b60 5 = .ok (.aload_n 2, 1) := by decide +kernel
theorem dJ5_putStringAt_47b60_6 : decode cJ5_putStringAt_47b60 6 = .ok (.aload_n 0, 1) := by decide +kernel
theorem dJ5_putStringAt_47b60_7 : decode cJ5_putStringAt_47b60 7 = .ok (.getfield 15, 3) := by decide +kernel
theorem dJ5_putStringAt_47b60_10 : decode cJ5_putStringAt_47b60 10 = .ok (.iload_n 1, 1) := by decide +kernel
theorem dJ5_putStringAt_47b60_11 : decode cJ5_putStringAt_47b60 11 = .ok (.aload_n 0, 1) := by decide +kernel
theorem dJ5_putStringAt_47b60_12 : decode cJ5_putStringAt_47b60 12 = .ok (.getfield 22, 3) := by decide +kernel
theorem dJ5_putStringAt_47b60_15 : decode cJ5_putStringAt_47b60 15 = .ok (.invokevirtual 399, 3) := by decide +kernel
theorem dJ5_putStringAt_47b60_18 : decode cJ5_putStringAt_47b60 18 = .ok (.return_, 1) := by decide +kernel
theorem dJ6_getChars_ba4f3_0 : decode cJ6_getChars_ba4f3 0 = .ok (.iload_n 1, 1) := by decide +kernel
theorem dJ6_getChars_ba4f3_1 : decode cJ6_getChars_ba4f3 1 = .ok (.istore 5, 2) := by decide +kernel
theorem dJ6_getChars_ba4f3_3 : decode cJ6_getChars_ba4f3 3 = .ok (.iload_n 0, 1) := by decide +kernel
theorem dJ6_getChars_ba4f3_4 : decode cJ6_getChars_ba4f3 4 = .ok (.ifCond .ge 7, 3) := by decide +kernel
theorem dJ6_getChars_ba4f3_7 : decode cJ6_getChars_ba4f3 7 = .ok (.iconst 1, 1) := by decide +kernel
theorem dJ6_getChars_ba4f3_8 : decode cJ6_getChars_ba4f3 8 = .ok (.goto 4, 3) := by decide +kernel
theorem dJ6_getChars_ba4f3_11 : decode cJ6_getChars_ba4f3 11 = .ok (.iconst 0, 1) := by decide +kernel
theorem dJ6_getChars_ba4f3_12 : decode cJ6_getChars_ba4f3 12 = .ok (.istore 6, 2) := by decide +kernel
theorem dJ6_getChars_ba4f3_14 : decode cJ6_getChars_ba4f3 14 = .ok (.iload 6, 2) := by decide +kernel
theorem dJ6_getChars_ba4f3_16 : decode cJ6_getChars_ba4f3 16 = .ok (.ifCond .ne 6, 3) := by decide +kernel
theorem dJ6_getChars_ba4f3_19 : decode cJ6_getChars_ba4f3 19 = .ok (.iload_n 0, 1) := by decide +kernel
theorem dJ6_getChars_ba4f3_20 : decode cJ6_getChars_ba4f3 20 = .ok (.ineg, 1) := by decide +kernel
theorem dJ6_getChars_ba4f3_21 : decode cJ6_getChars_ba4f3 21 = .ok (.istore_n 0, 1) := by decide +kernel
theorem dJ6_getChars_ba4f3_22 : decode cJ6_getChars_ba4f3 22 = .ok (.iload_n 0, 1) := by decide +kernel
theorem dJ6_getChars_ba4f3_23 : decode cJ6_getChars_ba4f3 23 = .ok (.bipush (-100), 2) := by decide +kernel
theorem dJ6_getChars_ba4f3_25 : decode cJ6_getChars_ba4f3 25 = .ok (.if_icmp .gt 47, 3) := by decide +kernel
theorem dJ6_getChars_ba4f3_28 : decode cJ6_getChars_ba4f3 28 = .ok (.iload_n 0, 1) := by decide +kernel
theorem dJ6_getChars_ba4f3_29 : decode cJ6_getChars_ba4f3 29 = .ok (.bipush 100, 2) := by decide +kernel
theorem dJ6_getChars_ba4f3_31 : decode cJ6_getChars_ba4f3 31 = .ok (.idiv, 1) := by decide +kernel
theorem dJ6_getChars_ba4f3_32 : decode cJ6_getChars_ba4f3 32 = .ok (.istore_n 3, 1) := by decide +kernel
theorem dJ6_getChars_ba4f3_33 : decode cJ6_getChars_ba4f3 33 = .ok (.iload_n 3, 1) := by decide +kernel
theorem dJ6_getChars_ba4f3_34 : decode cJ6_getChars_ba4f3 34 = .ok (.bipush 100, 2) := by decide +kernel
theorem dJ6_getChars_ba4f3_36 : decode cJ6_getChars_ba4f3 36 = .ok (.imul, 1) := by decide +kernel
theorem dJ6_getChars_ba4f3_37 : decode cJ6_getChars_ba4f3 37 = .ok (.iload_n 0, 1) := by decide +kernel
theorem dJ6_getChars_ba4f3_38 : decode cJ6_getChars_ba4f3 38 = .ok (.isub, 1) := by decide +kernel
theorem dJ6_getChars_ba4f3_39 : decode cJ6_getChars_ba4f3 39 = .ok (.istore 4, 2) := by decide +kernel
theorem dJ6_getChars_ba4f3_41 : decode cJ6_getChars_ba4f3 41 = .ok (.iload_n 3, 1) := by decide +kernel
theorem dJ6_getChars_ba4f3_42 : decode cJ6_getChars_ba4f3 42 = .ok (.istore_n 0, 1) := by decide +kernel
theorem dJ6_getChars_ba4f3_43 : decode cJ6_getChars_ba4f3 43 = .ok (.aload_n 2, 1) := by decide +kernel
theorem dJ6_getChars_ba4f3_44 : decode cJ6_getChars_ba4f3 44 = .ok (.iinc 5 (-1), 3) := by decide +kernel
theorem dJ6_getChars_ba4f3_47 : decode cJ6_getChars_ba4f3 47 = .ok (.iload 5, 2) := by decide +kernel
theorem dJ6_getChars_ba4f3_49 : decode cJ6_getChars_ba4f3 49 = .ok (.getstatic 83, 3) := by decide +kernel
theorem dJ6_getChars_ba4f3_52 : decode cJ6_getChars_ba4f3 52 = .ok (.iload 4, 2) := by decide +kernel
theorem dJ6_getChars_ba4f3_54 : decode cJ6_getChars_ba4f3 54 = .ok (.baload, 1) := by decide +kernel
theorem dJ6_getChars_ba4f3_55 : decode cJ6_getChars_ba4f3 55 = .ok (.bastore, 1) := by decide +kernel
theorem dJ6_getChars_ba4f3_56 : decode cJ6_getChars_ba4f3 56 = .ok (.aload_n 2, 1) := by decide +kernel
theorem dJ6_getChars_ba4f3_57 : decode cJ6_getChars_ba4f3 57 = .ok (.iinc 5 (-1), 3) := by decide +kernel
theorem dJ6_getChars_ba4f3_60 : decode cJ6_getChars_ba4f3 60 = .ok (.iload 5, 2) := by decide +kernel
theorem dJ6_getChars_ba4f3_62 : decode cJ6_getChars_ba4f3 62 = .ok (.getstatic 87, 3) := by decide +kernel
theorem dJ6_getChars_ba4f3_65 : decode cJ6_getChars_ba4f3 65 = .ok (.iload 4, 2) := by decide +kernel
theorem dJ6_getChars_ba4f3_67 : decode cJ6_getChars_ba4f3 67 = .ok (.baload, 1) := by decide +kernel
theorem dJ6_getChars_ba4f3_68 : decode cJ6_getChars_ba4f3 68 = .ok (.bastore, 1) := by decide +kernel
theorem dJ6_getChars_ba4f3_69 : decode cJ6_getChars_ba4f3 69 = .ok (.goto (-47), 3) := by decide +kernel
theorem dJ6_getChars_ba4f3_72 : decode cJ6_getChars_ba4f3 72 = .ok (.aload_n 2, 1) := by decide +kernel
theorem dJ6_getChars_ba4f3_73 : decode cJ6_getChars_ba4f3 73 = .ok (.iinc 5 (-1), 3) := by decide +kernel
theorem dJ6_getChars_ba4f3_76 : decode cJ6_getChars_ba4f3 76 = .ok (.iload 5, 2) := by decide +kernel
theorem dJ6_getChars_ba4f3_78 : decode cJ6_getChars_ba4f3 78 = .ok (.getstatic 83, 3) := by decide +kernel
theorem dJ6_getChars_ba4f3_81 : decode cJ6_getChars_ba4f3 81 = .ok (.iload_n 0, 1) := by decide +kernel
theorem dJ6_getChars_ba4f3_82 : decode cJ6_getChars_ba4f3 82 = .ok (.ineg, 1) := by decide +kernel
theorem dJ6_getChars_ba4f3_83 : decode cJ6_getChars_ba4f3 83 = .ok (.baload, 1) := by decide +kernel
theorem dJ6_getChars_ba4f3_84 : decode cJ6_getChars_ba4f3 84 = .ok (.bastore, 1) := by decide +kernel
theorem dJ6_getChars_ba4f3_85 : decode cJ6_getChars_ba4f3 85 = .ok (.iload_n 0, 1) := by decide +kernel
theorem dJ6_getChars_ba4f3_86 : decode cJ6_getChars_ba4f3 86 = .ok (.bipush (-9), 2) := by decide +kernel
theorem dJ6_getChars_ba4f3_88 : decode cJ6_getChars_ba4f3 88 = .ok (.if_icmp .ge 16, 3) := by decide +kernel
theorem dJ6_getChars_ba4f3_91 : decode cJ6_getChars_ba4f3 91 = .ok (.aload_n 2, 1) := by decide +kernel
theorem dJ6_getChars_ba4f3_92 : decode cJ6_getChars_ba4f3 92 = .ok (.iinc 5 (-1), 3) := by decide +kernel
theorem dJ6_getChars_ba4f3_95 : decode cJ6_getChars_ba4f3 95 = .ok (.iload 5, 2) := by decide +kernel
theorem dJ6_getChars_ba4f3_97 : decode cJ6_getChars_ba4f3 97 = .ok (.getstatic 87, 3) := by decide +kernel
theorem dJ6_getChars_ba4f3_100 : decode cJ6_getChars_ba4f3 100 = .ok (.iload_n 0, 1) := by decide +kernel
theorem dJ6_getChars_ba4f3_101 : decode cJ6_getChars_ba4f3 101 = .ok (.ineg, 1) := by decide +kernel
theorem dJ6_getChars_ba4f3_102 : decode cJ6_getChars_ba4f3 102 = .ok (.baload, 1) := by decide +kernel
theorem dJ6_getChars_ba4f3_103 : decode cJ6_getChars_ba4f3 103 = .ok (.bastore, 1) := by decide +kernel
theorem dJ6_getChars_ba4f3_104 : decode cJ6_getChars_ba4f3 104 = .ok (.iload 6, 2) := by decide +kernel
theorem dJ6_getChars_ba4f3_106 : decode cJ6_getChars_ba4f3 106 = .ok (.ifCond .eq 12, 3) := by decide +kernel
theorem dJ6_getChars_ba4f3_109 : decode cJ6_getChars_ba4f3 109 = .ok (.aload_n 2, 1) := by decide +kernel
theorem dJ6_getChars_ba4f3_110 : decode cJ6_getChars_ba4f3 110 = .ok (.iinc 5 (-1), 3) := by decide +kernel
theorem dJ6_getChars_ba4f3_113 : decode cJ6_getChars_ba4f3 113 = .ok (.iload 5, 2) := by decide +kernel
theorem dJ6_getChars_ba4f3_115 : decode cJ6_getChars_ba4f3 115 = .ok (.bipush 45, 2) := by decide +kernel
theorem dJ6_getChars_ba4f3_117 : decode cJ6_getChars_ba4f3 117 = .ok (.bastore, 1) := by decide +kernel
theorem dJ6_getChars_ba4f3_118 : decode cJ6_getChars_ba4f3 118 = .ok (.iload 5, 2) := by decide +kernel
theorem dJ6_getChars_ba4f3_120 : decode cJ6_getChars_ba4f3 120 = .ok (.ireturn, 1) := by decide +kernel
theorem dJ6_stringSize_0f7a4_0 : decode cJ6_stringSize_0f7a4 0 = .ok (.iconst 1, 1) := by decide +kernel
theorem dJ6_stringSize_0f7a4_1 : decode cJ6_stringSize_0f7a4 1 = .ok (.istore_n 1, 1) := by decide +kernel
theorem dJ6_stringSize_0f7a4_2 : decode cJ6_stringSize_0f7a4 2 = .ok (.iload_n 0, 1) := by decide +kernel
theorem dJ6_stringSize_0f7a4_3 : decode cJ6_stringSize_0f7a4 3 = .ok (.ifCond .lt 8, 3) := by decide +kernel
theorem dJ6_stringSize_0f7a4_6 : decode cJ6_stringSize_0f7a4 6 = .ok (.iconst 0, 1) := by decide +kernel
theorem dJ6_stringSize_0f7a4_7 : decode cJ6_stringSize_0f7a4 7 = .ok (.istore_n 1, 1) := by decide +kernel
theorem dJ6_stringSize_0f7a4_8 : decode cJ6_stringSize_0f7a4 8 = .ok (.iload_n 0, 1) := by decide +kernel
theorem dJ6_stringSize_0f7a4_9 : decode cJ6_stringSize_0f7a4 9 = .ok (.ineg, 1) := by decide +kernel
theorem dJ6_stringSize_0f7a4_10 : decode cJ6_stringSize_0f7a4 10 = .ok (.istore_n 0, 1) := by decide +kernel
theorem dJ6_stringSize_0f7a4_11 : decode cJ6_stringSize_0f7a4 11 = .ok (.bipush (-10), 2) := by decide +kernel
theorem dJ6_stringSize_0f7a4_13 : decode cJ6_stringSize_0f7a4 13 = .ok (.istore_n 2, 1) := by decide +kernel
theorem dJ6_stringSize_0f7a4_14 : decode cJ6_stringSize_0f7a4 14 = .ok (.iconst 1, 1) := by decide +kernel
theorem dJ6_stringSize_0f7a4_15 : decode cJ6_stringSize_0f7a4 15 = .ok (.istore_n 3, 1) := by decide +kernel
theorem dJ6_stringSize_0f7a4_16 : decode cJ6_stringSize_0f7a4 16 = .ok (.iload_n 3, 1) := by decide +kernel
theorem dJ6_stringSize_0f7a4_17 : decode cJ6_stringSize_0f7a4 17 = .ok (.bipush 10, 2) := by decide +kernel
theorem dJ6_stringSize_0f7a4_19 : decode cJ6_stringSize_0f7a4 19 = .ok (.if_icmp .ge 23, 3) := by decide +kernel
theorem dJ6_stringSize_0f7a4_22 : decode cJ6_stringSize_0f7a4 22 = .ok (.iload_n 0, 1) := by decide +kernel
theorem dJ6_stringSize_0f7a4_23 : decode cJ6_stringSize_0f7a4 23 = .ok (.iload_n 2, 1) := by decide +kernel
theorem dJ6_stringSize_0f7a4_24 : decode cJ6_stringSize_0f7a4 24 = .ok (.if_icmp .le 7, 3) := by decide +kernel
theorem dJ6_stringSize_0f7a4_27 : decode cJ6_stringSize_0f7a4 27 = .ok (.iload_n 3, 1) := by decide +kernel
theorem dJ6_stringSize_0f7a4_28 : decode cJ6_stringSize_0f7a4 28 = .ok (.iload_n 1, 1) := by decide +kernel
theorem dJ6_stringSize_0f7a4_29 : decode cJ6_stringSize_0f7a4 29 = .ok (.iadd, 1) := by decide +kernel
theorem dJ6_stringSize_0f7a4_30 : decode cJ6_stringSize_0f7a4 30 = .ok (.ireturn, 1) := by decide +kernel
theorem dJ6_stringSize_0f7a4_31 : decode cJ6_stringSize_0f7a4 31 = .ok (.bipush 10, 2) := by decide +kernel
theorem dJ6_stringSize_0f7a4_33 : decode cJ6_stringSize_0f7a4 33 = .ok (.iload_n 2, 1) := by decide +kernel
theorem dJ6_stringSize_0f7a4_34 : decode cJ6_stringSize_0f7a4 34 = .ok (.imul, 1) := by decide +kernel
theorem dJ6_stringSize_0f7a4_35 : decode cJ6_stringSize_0f7a4 35 = .ok (.istore_n 2, 1) := by decide +kernel
theorem dJ6_stringSize_0f7a4_36 : decode cJ6_stringSize_0f7a4 36 = .ok (.iinc 3 1, 3) := by decide +kernel
theorem dJ6_stringSize_0f7a4_39 : decode cJ6_stringSize_0f7a4 39 = .ok (.goto (-23), 3) := by decide +kernel
theorem dJ6_stringSize_0f7a4_42 : decode cJ6_stringSize_0f7a4 42 = .ok (.bipush 10, 2) := by decide +kernel
theorem dJ6_stringSize_0f7a4_44 : decode cJ6_stringSize_0f7a4 44 = .ok (.iload_n 1, 1) := by decide +kernel
theorem dJ6_stringSize_0f7a4_45 : decode cJ6_stringSize_0f7a4 45 = .ok (.iadd, 1) := by decide +kernel
theorem dJ6_stringSize_0f7a4_46 : decode cJ6_stringSize_0f7a4 46 = .ok (.ireturn, 1) := by decide +kernel
theorem dJ9_max_7cf53_0 : decode cJ9_max_7cf53 0 = .ok (.iload_n 0, 1) := by decide +kernel
theorem dJ9_max_7cf53_1 : decode cJ9_max_7cf53 1 = .ok (.iload_n 1, 1) := by decide +kernel
theorem dJ9_max_7cf53_2 : decode cJ9_max_7cf53 2 = .ok (.if_icmp .lt 7, 3) := by decide +kernel
theorem dJ9_max_7cf53_5 : decode cJ9_max_7cf53 5 = .ok (.iload_n 0, 1) := by decide +kernel
theorem dJ9_max_7cf53_6 : decode cJ9_max_7cf53 6 = .ok (.goto 4, 3) := by decide +kernel
theorem dJ9_max_7cf53_9 : decode cJ9_max_7cf53 9 = .ok (.iload_n 1, 1) := by decide +kernel
theorem dJ9_max_7cf53_10 : decode cJ9_max_7cf53 10 = .ok (.ireturn, 1) := by decide +kernel
theorem dJ9_min_7cf53_0 : decode cJ9_min_7cf53 0 = .ok (.iload_n 0, 1) := by decide +kernel
theorem dJ9_min_7cf53_1 : decode cJ9_min_7cf53 1 = .ok (.iload_n 1, 1) := by decide +kernel
theorem dJ9_min_7cf53_2 : decode cJ9_min_7cf53 2 = .ok (.if_icmp .gt 7, 3) := by decide +kernel
theorem dJ9_min_7cf53_5 : decode cJ9_min_7cf53 5 = .ok (.iload_n 0, 1) := by decide +kernel
theorem dJ9_min_7cf53_6 : decode cJ9_min_7cf53 6 = .ok (.goto 4, 3) := by decide +kernel
theorem dJ9_min_7cf53_9 : decode cJ9_min_7cf53 9 = .ok (.iload_n 1, 1) := by decide +kernel
theorem dJ9_min_7cf53_10 : decode cJ9_min_7cf53 10 = .ok (.ireturn, 1) := by decide +kernel
theorem dJ0_init_81219_0 : decode cJ0_init_81219 0 = .ok (.aload_n 0, 1) := by decide +kernel
theorem dJ0_init_81219_1 : decode cJ0_init_81219 1 = .ok (.aload_n 1, 1) := by decide +kernel
theorem dJ0_init_81219_2 : decode cJ0_init_81219 2 = .ok (.aconst_null, 1) := by decide +kernel
theorem dJ0_init_81219_3 : decode cJ0_init_81219 3 = .ok (.invokespecial 489, 3) := by decide +kernel
theorem dJ0_init_81219_6 : decode cJ0_init_81219 6 = .ok (.return_, 1) := by decide +kernel
theorem dJ0_length_8abf5_0 : decode cJ0_length_8abf5 0 = .ok (.aload_n 0, 1) := by decide +kernel
theorem dJ0_length_8abf5_1 : decode cJ0_length_8abf5 1 = .ok (.getfield 9, 3) := by decide +kernel
theorem dJ0_length_8abf5_4 : decode cJ0_length_8abf5 4 = .ok (.arraylength, 1) := by decide +kernel
theorem dJ0_length_8abf5_5 : decode cJ0_length_8abf5 5 = .ok (.aload_n 0, 1) := by decide +kernel
theorem dJ0_length_8abf5_6 : decode cJ0_length_8abf5 6 = .ok (.invokevirtual 335, 3) := by decide +kernel
theorem dJ0_length_8abf5_9 : decode cJ0_length_8abf5 9 = .ok (.ishr, 1) := by decide +kernel
theorem dJ0_length_8abf5_10 : decode cJ0_length_8abf5 10 = .ok (.ireturn, 1) := by decide +kernel
theorem dJ0_charAt_5068e_0 : decode cJ0_charAt_5068e 0 = .ok (.aload_n 0, 1) := by decide +kernel
theorem dJ0_charAt_5068e_1 : decode cJ0_charAt_5068e 1 = .ok (.invokevirtual 492, 3) := by decide +kernel
theorem dJ0_charAt_5068e_4 : decode cJ0_charAt_5068e 4 = .ok (.ifCond .eq 12, 3) := by decide +kernel
theorem dJ0_charAt_5068e_7 : decode cJ0_charAt_5068e 7 = .ok (.aload_n 0, 1) := by decide +kernel
theorem dJ0_charAt_5068e_8 : decode cJ0_charAt_5068e 8 = .ok (.getfield 9, 3) := by decide +kernel
theorem dJ0_charAt_5068e_11 : decode cJ0_charAt_5068e 11 = .ok (.iload_n 1, 1) := by decide +kernel
theorem dJ0_charAt_5068e_12 : decode cJ0_charAt_5068e 12 = .ok (.invokestatic 495, 3) := by decide +kernel
theorem dJ0_charAt_5068e_15 : decode cJ0_charAt_5068e 15 = .ok (.ireturn, 1) := by decide +kernel
theorem dJ0_charAt_5068e_16 : decode cJ0_charAt_5068e 16 = .ok (.aload_n 0, 1) := by decide +kernel
theorem dJ0_charAt_5068e_17 : decode cJ0_charAt_5068e 17 = .ok (.getfield 9, 3) := by decide +kernel
theorem dJ0_charAt_5068e_20 : decode cJ0_charAt_5068e 20 = .ok (.iload_n 1, 1) := by decide +kernel
theorem dJ0_charAt_5068e_21 : decode cJ0_charAt_5068e 21 = .ok (.invokestatic 498, 3) := by decide +kernel
theorem dJ0_charAt_5068e_24 : decode cJ0_charAt_5068e 24 = .ok (.ireturn, 1) := by decide +kernel
theorem dJ0_getBytes_840e7_0 : decode cJ0_getBytes_840e7 0 = .ok (.aload_n 0, 1) := by decide +kernel
theorem dJ0_getBytes_840e7_1 : decode cJ0_getBytes_840e7 1 = .ok (.invokevirtual 335, 3) := by decide +kernel
theorem dJ0_getBytes_840e7_4 : decode cJ0_getBytes_840e7 4 = .ok (.iload_n 3, 1) := by decide +kernel
theorem dJ0_getBytes_840e7_5 : decode cJ0_getBytes_840e7 5 = .ok (.if_icmp .ne 23, 3) := by decide +kernel
theorem dJ0_getBytes_840e7_8 : decode cJ0_getBytes_840e7 8 = .ok (.aload_n 0, 1) := by decide +kernel
theorem dJ0_getBytes_840e7_9 : decode cJ0_getBytes_840e7 9 = .ok (.getfield 9, 3) := by decide +kernel
theorem dJ0_getBytes_840e7_12 : decode cJ0_getBytes_840e7 12 = .ok (.iconst 0, 1) := by decide +kernel
theorem dJ0_getBytes_840e7_13 : decode cJ0_getBytes_840e7 13 = .ok (.aload_n 1, 1) := by decide +kernel
theorem dJ0_getBytes_840e7_14 : decode cJ0_getBytes_840e7 14 = .ok (.iload_n 2, 1) := by decide +kernel
theorem dJ0_getBytes_840e7_15 : decode cJ0_getBytes_840e7 15 = .ok (.iload_n 3, 1) := by decide +kernel
theorem dJ0_getBytes_840e7_16 : decode cJ0_getBytes_840e7 16 = .ok (.ishl, 1) := by decide +kernel
theorem dJ0_getBytes_840e7_17 : decode cJ0_getBytes_840e7 17 = .ok (.aload_n 0, 1) := by decide +kernel
theorem dJ0_getBytes_840e7_18 : decode cJ0_getBytes_840e7 18 = .ok (.getfield 9, 3) := by decide +kernel
theorem dJ0_getBytes_840e7_21 : decode cJ0_getBytes_840e7 21 = .ok (.arraylength, 1) := by decide +kernel
theorem dJ0_getBytes_840e7_22 : decode cJ0_getBytes_840e7 22 = .ok (.invokestatic 212, 3) := by decide +kernel
theorem dJ0_getBytes_840e7_25 : decode cJ0_getBytes_840e7 25 = .ok (.goto 18, 3) := by decide +kernel
theorem dJ0_getBytes_840e7_28 : decode cJ0_getBytes_840e7 28 = .ok (.aload_n 0, 1) := by decide +kernel
theorem dJ0_getBytes_840e7_29 : decode cJ0_getBytes_840e7 29 = .ok (.getfield 9, 3) := by decide +kernel
theorem dJ0_getBytes_840e7_32 : decode cJ0_getBytes_840e7 32 = .ok (.iconst 0, 1) := by decide +kernel
theorem dJ0_getBytes_840e7_33 : decode cJ0_getBytes_840e7 33 = .ok (.aload_n 1, 1) := by decide +kernel
theorem dJ0_getBytes_840e7_34 : decode cJ0_getBytes_840e7 34 = .ok (.iload_n 2, 1) := by decide +kernel
theorem dJ0_getBytes_840e7_35 : decode cJ0_getBytes_840e7 35 = .ok (.aload_n 0, 1) := by decide +kernel
theorem dJ0_getBytes_840e7_36 : decode cJ0_getBytes_840e7 36 = .ok (.getfield 9, 3) := by decide +kernel
theorem dJ0_getBytes_840e7_39 : decode cJ0_getBytes_840e7 39 = .ok (.arraylength, 1) := by decide +kernel
theorem dJ0_getBytes_840e7_40 : decode cJ0_getBytes_840e7 40 = .ok (.invokestatic 106, 3) := by decide +kernel
theorem dJ0_getBytes_840e7_43 : decode cJ0_getBytes_840e7 43 = .ok (.return_, 1) := by decide +kernel
theorem dJ0_init_db425_0 : decode cJ0_init_db425 0 = .ok (.aload_n 0, 1) := by decide +kernel
theorem dJ0_init_db425_1 : decode cJ0_init_db425 1 = .ok (.invokespecial 1, 3) := by decide +kernel
theorem dJ0_init_db425_4 : decode cJ0_init_db425 4 = .ok (.aload_n 1, 1) := by decide +kernel
theorem dJ0_init_db425_5 : decode cJ0_init_db425 5 = .ok (.invokevirtual 552, 3) := by decide +kernel
theorem dJ0_init_db425_8 : decode cJ0_init_db425 8 = .ok (.astore_n 3, 1) := by decide +kernel
theorem dJ0_init_db425_9 : decode cJ0_init_db425 9 = .ok (.aload_n 1, 1) := by decide +kernel
theorem dJ0_init_db425_10 : decode cJ0_init_db425 10 = .ok (.invokevirtual 549, 3) := by decide +kernel
theorem dJ0_init_db425_13 : decode cJ0_init_db425 13 = .ok (.istore 4, 2) := by decide +kernel
theorem dJ0_init_db425_15 : decode cJ0_init_db425 15 = .ok (.aload_n 1, 1) := by decide +kernel
theorem dJ0_init_db425_16 : decode cJ0_init_db425 16 = .ok (.invokevirtual 1047, 3) := by decide +kernel
theorem dJ0_init_db425_19 : decode cJ0_init_db425 19 = .ok (.ifCond .eq 22, 3) := by decide +kernel
theorem dJ0_init_db425_22 : decode cJ0_init_db425 22 = .ok (.aload_n 0, 1) := by decide +kernel
theorem dJ0_init_db425_23 : decode cJ0_init_db425 23 = .ok (.iconst 0, 1) := by decide +kernel
theorem dJ0_init_db425_24 : decode cJ0_init_db425 24 = .ok (.putfield 15, 3) := by decide +kernel
theorem dJ0_init_db425_27 : decode cJ0_init_db425 27 = .ok (.aload_n 0, 1) := by decide +kernel
theorem dJ0_init_db425_28 : decode cJ0_init_db425 28 = .ok (.aload_n 3, 1) := by decide +kernel
theorem dJ0_init_db425_29 : decode cJ0_init_db425 29 = .ok (.iconst 0, 1) := by decide +kernel
theorem dJ0_init_db425_30 : decode cJ0_init_db425 30 = .ok (.iload 4, 2) := by decide +kernel
theorem dJ0_init_db425_32 : decode cJ0_init_db425 32 = .ok (.invokestatic 54, 3) := by decide +kernel
theorem dJ0_init_db425_35 : decode cJ0_init_db425 35 = .ok (.putfield 9, 3) := by decide +kernel
theorem dJ0_init_db425_38 : decode cJ0_init_db425 38 = .ok (.goto 59, 3) := by decide +kernel
theorem dJ0_init_db425_41 : decode cJ0_init_db425 41 = .ok (.getstatic 38, 3) := by decide +kernel
theorem dJ0_init_db425_44 : decode cJ0_init_db425 44 = .ok (.ifCond .eq 35, 3) := by decide +kernel
theorem dJ0_init_db425_47 : decode cJ0_init_db425 47 = .ok (.aload_n 1, 1) := by decide +kernel
theorem dJ0_init_db425_48 : decode cJ0_init_db425 48 = .ok (.getfield 1048, 3) := by decide +kernel
theorem dJ0_init_db425_51 : decode cJ0_init_db425 51 = .ok (.ifCond .eq 28, 3) := by decide +kernel
theorem dJ0_init_db425_54 : decode cJ0_init_db425 54 = .ok (.aload_n 0, 1) := by decide +kernel
theorem dJ0_init_db425_55 : decode cJ0_init_db425 55 = .ok (.aload_n 3, 1) := by decide +kernel
theorem dJ0_init_db425_56 : decode cJ0_init_db425 56 = .ok (.iconst 0, 1) := by decide +kernel
theorem dJ0_init_db425_57 : decode cJ0_init_db425 57 = .ok (.iload 4, 2) := by decide +kernel
theorem dJ0_init_db425_59 : decode cJ0_init_db425 59 = .ok (.invokestatic 1051, 3) := by decide +kernel
theorem dJ0_init_db425_62 : decode cJ0_init_db425 62 = .ok (.putfield 9, 3) := by decide +kernel
theorem dJ0_init_db425_65 : decode cJ0_init_db425 65 = .ok (.aload_n 0, 1) := by decide +kernel
theorem dJ0_init_db425_66 : decode cJ0_init_db425 66 = .ok (.aload_n 0, 1) := by decide +kernel
theorem dJ0_init_db425_67 : decode cJ0_init_db425 67 = .ok (.getfield 9, 3) := by decide +kernel
theorem dJ0_init_db425_70 : decode cJ0_init_db425 70 = .ok (.iload 4, 2) := by decide +kernel
theorem dJ0_init_db425_72 : decode cJ0_init_db425 72 = .ok (.invokestatic 47, 3) := by decide +kernel
theorem dJ0_init_db425_75 : decode cJ0_init_db425 75 = .ok (.putfield 15, 3) := by decide +kernel
theorem dJ0_init_db425_78 : decode cJ0_init_db425 78 = .ok (.return_, 1) := by decide +kernel
theorem dJ0_init_db425_79 : decode cJ0_init_db425 79 = .ok (.aload_n 0, 1) := by decide +kernel
theorem dJ0_init_db425_80 : decode cJ0_init_db425 80 = .ok (.iconst 1, 1) := by decide +kernel
theorem dJ0_init_db425_81 : decode cJ0_init_db425 81 = .ok (.putfield 15, 3) := by decide +kernel
theorem dJ0_init_db425_84 : decode cJ0_init_db425 84 = .ok (.aload_n 0, 1) := by decide +kernel
theorem dJ0_init_db425_85 : decode cJ0_init_db425 85 = .ok (.aload_n 3, 1) := by decide +kernel
theorem dJ0_init_db425_86 : decode cJ0_init_db425 86 = .ok (.iconst 0, 1) := by decide +kernel
theorem dJ0_init_db425_87 : decode cJ0_init_db425 87 = .ok (.iload 4, 2) := by decide +kernel
theorem dJ0_init_db425_89 : decode cJ0_init_db425 89 = .ok (.iconst 1, 1) := by decide +kernel
theorem dJ0_init_db425_90 : decode cJ0_init_db425 90 = .ok (.ishl, 1) := by decide +kernel
theorem dJ0_init_db425_91 : decode cJ0_init_db425 91 = .ok (.invokestatic 54, 3) := by decide +kernel
theorem dJ0_init_db425_94 : decode cJ0_init_db425 94 = .ok (.putfield 9, 3) := by decide +kernel
theorem dJ0_init_db425_97 : decode cJ0_init_db425 97 = .ok (.return_, 1) := by decide +kernel
theorem dJ0_coder_7d493_0 : decode cJ0_coder_7d493 0 = .ok (.getstatic 38, 3) := by decide +kernel
theorem dJ0_coder_7d493_3 : decode cJ0_coder_7d493 3 = .ok (.ifCond .eq 10, 3) := by decide +kernel
theorem dJ0_coder_7d493_6 : decode cJ0_coder_7d493 6 = .ok (.aload_n 0, 1) := by decide +kernel
theorem dJ0_coder_7d493_7 : decode cJ0_coder_7d493 7 = .ok (.getfield 15, 3) := by decide +kernel
theorem dJ0_coder_7d493_10 : decode cJ0_coder_7d493 10 = .ok (.goto 4, 3) := by decide +kernel
theorem dJ0_coder_7d493_13 : decode cJ0_coder_7d493 13 = .ok (.iconst 1, 1) := by decide +kernel
theorem dJ0_coder_7d493_14 : decode cJ0_coder_7d493 14 = .ok (.ireturn, 1) := by decide +kernel
theorem dJ0_isLatin1_aae02_0 : decode cJ0_isLatin1_aae02 0 = .ok (.getstatic 38, 3) := by decide +kernel
theorem dJ0_isLatin1_aae02_3 : decode cJ0_isLatin1_aae02 3 = .ok (.ifCond .eq 14, 3) := by decide +kernel
theorem dJ0_isLatin1_aae02_6 : decode cJ0_isLatin1_aae02 6 = .ok (.aload_n 0, 1) := by decide +kernel
theorem dJ0_isLatin1_aae02_7 : decode cJ0_isLatin1_aae02 7 = .ok (.getfield 15, 3) := by decide +kernel
theorem dJ0_isLatin1_aae02_10 : decode cJ0_isLatin1_aae02 10 = .ok (.ifCond .ne 7, 3) := by decide +kernel
theorem dJ0_isLatin1_aae02_13 : decode cJ0_isLatin1_aae02 13 = .ok (.iconst 1, 1) := by decide +kernel
theorem dJ0_isLatin1_aae02_14 : decode cJ0_isLatin1_aae02 14 = .ok (.goto 4, 3) := by decide +kernel
theorem dJ0_isLatin1_aae02_17 : decode cJ0_isLatin1_aae02 17 = .ok (.iconst 0, 1) := by decide +kernel
theorem dJ0_isLatin1_aae02_18 : decode cJ0_isLatin1_aae02 18 = .ok (.ireturn, 1) := by decide +kernel
theorem dJ0_checkIndex_df160_0 : decode cJ0_checkIndex_df160 0 = .ok (.iload_n 0, 1) := by decide +kernel
theorem dJ0_checkIndex_df160_1 : decode cJ0_checkIndex_df160 1 = .ok (.iload_n 1, 1) := by decide +kernel
theorem dJ0_checkIndex_df160_2 : decode cJ0_checkIndex_df160 2 = .ok (.getstatic 1053, 3) := by decide +kernel
theorem dJ0_checkIndex_df160_5 : decode cJ0_checkIndex_df160 5 = .ok (.invokestatic 1059, 3) := by decide +kernel
theorem dJ0_checkIndex_df160_8 : decode cJ0_checkIndex_df160 8 = .ok (.pop, 1) := by decide +kernel
theorem dJ0_checkIndex_df160_9 : decode cJ0_checkIndex_df160 9 = .ok (.return_, 1) := by decide +kernel
theorem dJ0_checkBoundsOffCount_cabcc_0 : decode cJ0_checkBoundsOffCount_cabcc 0 = .ok (.iload_n 0, 1) := by decide +kernel
theorem dJ0_checkBoundsOffCount_cabcc_1 : decode cJ0_checkBoundsOffCount_cabcc 1 = .ok (.iload_n 1, 1) := by decide +kernel
theorem dJ0_checkBoundsOffCount_cabcc_2 : decode cJ0_checkBoundsOffCount_cabcc 2 = .ok (.iload_n 2, 1) := by decide +kernel
theorem dJ0_checkBoundsOffCount_cabcc_3 : decode cJ0_checkBoundsOffCount_cabcc 3 = .ok (.getstatic 1053, 3) := by decide +kernel
theorem dJ0_checkBoundsOffCount_cabcc_6 : decode cJ0_checkBoundsOffCount_cabcc 6 = .ok (.invokestatic 1065, 3) := by decide +kernel
theorem dJ0_checkBoundsOffCount_cabcc_9 : decode cJ0_checkBoundsOffCount_cabcc 9 = .ok (.ireturn, 1) := by decide +kernel
theorem dJ0_checkBoundsBeginEnd_23922_0 : decode cJ0_checkBoundsBeginEnd_23922 0 = .ok (.iload_n 0, 1) := by decide +kernel
theorem dJ0_checkBoundsBeginEnd_23922_1 : decode cJ0_checkBoundsBeginEnd_23922 1 = .ok (.iload_n 1, 1) := by decide +kernel
theorem dJ0_checkBoundsBeginEnd_23922_2 : decode cJ0_checkBoundsBeginEnd_23922 2 = .ok (.iload_n 2, 1) := by decide +kernel
theorem dJ0_checkBoundsBeginEnd_23922_3 : decode cJ0_checkBoundsBeginEnd_23922 3 = .ok (.getstatic 1053, 3) := by decide +kernel
theorem dJ0_checkBoundsBeginEnd_23922_6 : decode cJ0_checkBoundsBeginEnd_23922 6 = .ok (.invokestatic 1062, 3) := by decide +kernel
theorem dJ0_checkBoundsBeginEnd_23922_9 : decode cJ0_checkBoundsBeginEnd_23922 9 = .ok (.pop, 1) := by decide +kernel
theorem dJ0_checkBoundsBeginEnd_23922_10 : decode cJ0_checkBoundsBeginEnd_23922 10 = .ok (.return_, 1) := by decide +kernel
theorem dJ4_init_da8c8_0 : decode cJ4_init_da8c8 0 = .ok (.aload_n 0, 1) := by decide +kernel
theorem dJ4_init_da8c8_1 : decode cJ4_init_da8c8 1 = .ok (.bipush 16, 2) := by decide +kernel
theorem dJ4_init_da8c8_3 : decode cJ4_init_da8c8 3 = .ok (.invokespecial 1, 3) := by decide +kernel
theorem dJ4_init_da8c8_6 : decode cJ4_init_da8c8 6 = .ok (.return_, 1) := by decide +kernel
theorem dJ4_append_15ec4_0 : decode cJ4_append_15ec4 0 = .ok (.aload_n 0, 1) := by decide +kernel
theorem dJ4_append_15ec4_1 : decode cJ4_append_15ec4 1 = .ok (.aload_n 1, 1) := by decide +kernel
theorem dJ4_append_15ec4_2 : decode cJ4_append_15ec4 2 = .ok (.invokespecial 29, 3) := by decide +kernel
theorem dJ4_append_15ec4_5 : decode cJ4_append_15ec4 5 = .ok (.pop, 1) := by decide +kernel
theorem dJ4_append_15ec4_6 : decode cJ4_append_15ec4 6 = .ok (.aload_n 0, 1) := by decide +kernel
theorem dJ4_append_15ec4_7 : decode cJ4_append_15ec4 7 = .ok (.areturn, 1) := by decide +kernel
theorem dJ4_append_bf812_0 : decode cJ4_append_bf812 0 = .ok (.aload_n 0, 1) := by decide +kernel
theorem dJ4_append_bf812_1 : decode cJ4_append_bf812 1 = .ok (.iload_n 1, 1) := by decide +kernel
theorem dJ4_append_bf812_2 : decode cJ4_append_bf812 2 = .ok (.invokespecial 53, 3) := by decide +kernel
theorem dJ4_append_bf812_5 : decode cJ4_append_bf812 5 = .ok (.pop, 1) := by decide +kernel
theorem dJ4_append_bf812_6 : decode cJ4_append_bf812 6 = .ok (.aload_n 0, 1) := by decide +kernel
theorem dJ4_append_bf812_7 : decode cJ4_append_bf812 7 = .ok (.areturn, 1) := by decide +kernel
theorem dJ4_toString_0e30d_0 : decode cJ4_toString_0e30d 0 = .ok (.new 18, 3) := by decide +kernel
theorem dJ4_toString_0e30d_3 : decode cJ4_toString_0e30d 3 = .ok (.dup, 1) := by decide +kernel
theorem dJ4_toString_0e30d_4 : decode cJ4_toString_0e30d 4 = .ok (.aload_n 0, 1) := by decide +kernel
theorem dJ4_toString_0e30d_5 : decode cJ4_toString_0e30d 5 = .ok (.invokespecial 137, 3) := by decide +kernel
theorem dJ4_toString_0e30d_8 : decode cJ4_toString_0e30d 8 = .ok (.areturn, 1) := by decide +kernel
theorem dJ4_length_8abf5_0 : decode cJ4_length_8abf5 0 = .ok (.aload_n 0, 1) := by decide +kernel
theorem dJ4_length_8abf5_1 : decode cJ4_length_8abf5 1 = .ok (.invokespecial 343, 3) := by decide +kernel
theorem dJ4_length_8abf5_4 : decode cJ4_length_8abf5 4 = .ok (.ireturn, 1) := by decide +kernel
theorem dJ1_charAt_3b067_0 : decode cJ1_charAt_3b067 0 = .ok (.iload_n 1, 1) := by decide +kernel
theorem dJ1_charAt_3b067_1 : decode cJ1_charAt_3b067 1 = .ok (.aload_n 0, 1) := by decide +kernel
theorem dJ1_charAt_3b067_2 : decode cJ1_charAt_3b067 2 = .ok (.arraylength, 1) := by decide +kernel
theorem dJ1_charAt_3b067_3 : decode cJ1_charAt_3b067 3 = .ok (.invokestatic 9, 3) := by decide +kernel
theorem dJ1_charAt_3b067_6 : decode cJ1_charAt_3b067 6 = .ok (.aload_n 0, 1) := by decide +kernel
theorem dJ1_charAt_3b067_7 : decode cJ1_charAt_3b067 7 = .ok (.iload_n 1, 1) := by decide +kernel
theorem dJ1_charAt_3b067_8 : decode cJ1_charAt_3b067 8 = .ok (.baload, 1) := by decide +kernel
theorem dJ1_charAt_3b067_9 : decode cJ1_charAt_3b067 9 = .ok (.sipush 255, 3) := by decide +kernel
theorem dJ1_charAt_3b067_12 : decode cJ1_charAt_3b067 12 = .ok (.iand, 1) := by decide +kernel
theorem dJ1_charAt_3b067_13 : decode cJ1_charAt_3b067 13 = .ok (.i2c, 1) := by decide +kernel
theorem dJ1_charAt_3b067_14 : decode cJ1_charAt_3b067 14 = .ok (.ireturn, 1) := by decide +kernel
theorem dJ1_inflate_0e8fd_0 : decode cJ1_inflate_0e8fd 0 = .ok (.aload_n 0, 1) := by decide +kernel
theorem dJ1_inflate_0e8fd_1 : decode cJ1_inflate_0e8fd 1 = .ok (.iload_n 1, 1) := by decide +kernel
theorem dJ1_inflate_0e8fd_2 : decode cJ1_inflate_0e8fd 2 = .ok (.aload_n 2, 1) := by decide +kernel
theorem dJ1_inflate_0e8fd_3 : decode cJ1_inflate_0e8fd 3 = .ok (.iload_n 3, 1) := by decide +kernel
theorem dJ1_inflate_0e8fd_4 : decode cJ1_inflate_0e8fd 4 = .ok (.iload 4, 2) := by decide +kernel
theorem dJ1_inflate_0e8fd_6 : decode cJ1_inflate_0e8fd 6 = .ok (.invokestatic 240, 3) := by decide +kernel
theorem dJ1_inflate_0e8fd_9 : decode cJ1_inflate_0e8fd 9 = .ok (.return_, 1) := by decide +kernel
theorem dJ2_newBytesFor_77867_0 : decode cJ2_newBytesFor_77867 0 = .ok (.iload_n 0, 1) := by decide +kernel
theorem dJ2_newBytesFor_77867_1 : decode cJ2_newBytesFor_77867 1 = .ok (.invokestatic 11, 3) := by decide +kernel
theorem dJ2_newBytesFor_77867_4 : decode cJ2_newBytesFor_77867 4 = .ok (.newarray .byte, 2) := by decide +kernel
theorem dJ2_newBytesFor_77867_6 : decode cJ2_newBytesFor_77867 6 = .ok (.areturn, 1) := by decide +kernel
theorem dJ2_newBytesLength_0f7a4_0 : decode cJ2_newBytesLength_0f7a4 0 = .ok (.iload_n 0, 1) := by decide +kernel
theorem dJ2_newBytesLength_0f7a4_1 : decode cJ2_newBytesLength_0f7a4 1 = .ok (.ifCond .ge 11, 3) := by decide +kernel
theorem dJ2_newBytesLength_0f7a4_4 : decode cJ2_newBytesLength_0f7a4 4 = .ok (.new 17, 3) := by decide +kernel
theorem dJ2_newBytesLength_0f7a4_7 : decode cJ2_newBytesLength_0f7a4 7 = .ok (.dup, 1) := by decide +kernel
theorem dJ2_newBytesLength_0f7a4_8 : decode cJ2_newBytesLength_0f7a4 8 = .ok (.invokespecial 19, 3) := by decide +kernel
theorem dJ2_newBytesLength_0f7a4_11 : decode cJ2_newBytesLength_0f7a4 11 = .ok (.athrow, 1) := by decide +kernel
theorem dJ2_newBytesLength_0f7a4_12 : decode cJ2_newBytesLength_0f7a4 12 = .ok (.iload_n 0, 1) := by decide +kernel
theorem dJ2_newBytesLength_0f7a4_13 : decode cJ2_newBytesLength_0f7a4 13 = .ok (.ldc 20, 2) := by decide +kernel
theorem dJ2_newBytesLength_0f7a4_15 : decode cJ2_newBytesLength_0f7a4 15 = .ok (.if_icmp .lt 40, 3) := by decide +kernel
theorem dJ2_newBytesLength_0f7a4_18 : decode cJ2_newBytesLength_0f7a4 18 = .ok (.new 21, 3) := by decide +kernel
theorem dJ2_newBytesLength_0f7a4_21 : decode cJ2_newBytesLength_0f7a4 21 = .ok (.dup, 1) := by decide +kernel
theorem dJ2_newBytesLength_0f7a4_22 : decode cJ2_newBytesLength_0f7a4 22 = .ok (.new 23, 3) := by decide +kernel
theorem dJ2_newBytesLength_0f7a4_25 : decode cJ2_newBytesLength_0f7a4 25 = .ok (.dup, 1) := by decide +kernel
theorem dJ2_newBytesLength_0f7a4_26 : decode cJ2_newBytesLength_0f7a4 26 = .ok (.invokespecial 25, 3) := by decide +kernel
theorem dJ2_newBytesLength_0f7a4_29 : decode cJ2_newBytesLength_0f7a4 29 = .ok (.ldc 26, 2) := by decide +kernel
theorem dJ2_newBytesLength_0f7a4_31 : decode cJ2_newBytesLength_0f7a4 31 = .ok (.invokevirtual 28, 3) := by decide +kernel
theorem dJ2_newBytesLength_0f7a4_34 : decode cJ2_newBytesLength_0f7a4 34 = .ok (.iload_n 0, 1) := by decide +kernel
theorem dJ2_newBytesLength_0f7a4_35 : decode cJ2_newBytesLength_0f7a4 35 = .ok (.invokevirtual 32, 3) := by decide +kernel
theorem dJ2_newBytesLength_0f7a4_38 : decode cJ2_newBytesLength_0f7a4 38 = .ok (.ldc 35, 2) := by decide +kernel
theorem dJ2_newBytesLength_0f7a4_40 : decode cJ2_newBytesLength_0f7a4 40 = .ok (.invokevirtual 28, 3) := by decide +kernel
theorem dJ2_newBytesLength_0f7a4_43 : decode cJ2_newBytesLength_0f7a4 43 = .ok (.ldc 20, 2) := by decide +kernel
theorem dJ2_newBytesLength_0f7a4_45 : decode cJ2_newBytesLength_0f7a4 45 = .ok (.invokevirtual 32, 3) := by decide +kernel
theorem dJ2_newBytesLength_0f7a4_48 : decode cJ2_newBytesLength_0f7a4 48 = .ok (.invokevirtual 37, 3) := by decide +kernel
theorem dJ2_newBytesLength_0f7a4_51 : decode cJ2_newBytesLength_0f7a4 51 = .ok (.invokespecial 41, 3) := by decide +kernel
theorem dJ2_newBytesLength_0f7a4_54 : decode cJ2_newBytesLength_0f7a4 54 = .ok (.athrow, 1) := by decide +kernel
theorem dJ2_newBytesLength_0f7a4_55 : decode cJ2_newBytesLength_0f7a4 55 = .ok (.iload_n 0, 1) := by decide +kernel
theorem dJ2_newBytesLength_0f7a4_56 : decode cJ2_newBytesLength_0f7a4 56 = .ok (.iconst 1, 1) := by decide +kernel
theorem dJ2_newBytesLength_0f7a4_57 : decode cJ2_newBytesLength_0f7a4 57 = .ok (.ishl, 1) := by decide +kernel
theorem dJ2_newBytesLength_0f7a4_58 : decode cJ2_newBytesLength_0f7a4 58 = .ok (.ireturn, 1) := by decide +kernel
theorem dJ2_putChar_b72d1_0 : decode cJ2_putChar_b72d1 0 = .ok (.getstatic 44, 3) := by decide +kernel
theorem dJ2_putChar_b72d1_3 : decode cJ2_putChar_b72d1 3 = .ok (.ifCond .ne 25, 3) := by decide +kernel
theorem dJ2_putChar_b72d1_6 : decode cJ2_putChar_b72d1 6 = .ok (.iload_n 1, 1) := by decide +kernel
theorem dJ2_putChar_b72d1_7 : decode cJ2_putChar_b72d1 7 = .ok (.ifCond .lt 11, 3) := by decide +kernel
theorem dJ2_putChar_b72d1_10 : decode cJ2_putChar_b72d1 10 = .ok (.iload_n 1, 1) := by decide +kernel
theorem dJ2_putChar_b72d1_11 : decode cJ2_putChar_b72d1 11 = .ok (.aload_n 0, 1) := by decide +kernel
theorem dJ2_putChar_b72d1_12 : decode cJ2_putChar_b72d1 12 = .ok (.invokestatic 48, 3) := by decide +kernel
theorem dJ2_putChar_b72d1_15 : decode cJ2_putChar_b72d1 15 = .ok (.if_icmp .lt 13, 3) := by decide +kernel
theorem dJ2_putChar_b72d1_18 : decode cJ2_putChar_b72d1 18 = .ok (.new 52, 3) := by decide +kernel
theorem dJ2_putChar_b72d1_21 : decode cJ2_putChar_b72d1 21 = .ok (.dup, 1) := by decide +kernel
theorem dJ2_putChar_b72d1_22 : decode cJ2_putChar_b72d1 22 = .ok (.ldc 54, 2) := by decide +kernel
theorem dJ2_putChar_b72d1_24 : decode cJ2_putChar_b72d1 24 = .ok (.invokespecial 56, 3) := by decide +kernel
theorem dJ2_putChar_b72d1_27 : decode cJ2_putChar_b72d1 27 = .ok (.athrow, 1) := by decide +kernel
theorem dJ2_putChar_b72d1_28 : decode cJ2_putChar_b72d1 28 = .ok (.iload_n 1, 1) := by decide +kernel
theorem dJ2_putChar_b72d1_29 : decode cJ2_putChar_b72d1 29 = .ok (.iconst 1, 1) := by decide +kernel
theorem dJ2_putChar_b72d1_30 : decode cJ2_putChar_b72d1 30 = .ok (.ishl, 1) := by decide +kernel
theorem dJ2_putChar_b72d1_31 : decode cJ2_putChar_b72d1 31 = .ok (.istore_n 1, 1) := by decide +kernel
theorem dJ2_putChar_b72d1_32 : decode cJ2_putChar_b72d1 32 = .ok (.aload_n 0, 1) := by decide +kernel
theorem dJ2_putChar_b72d1_33 : decode cJ2_putChar_b72d1 33 = .ok (.iload_n 1, 1) := by decide +kernel
theorem dJ2_putChar_b72d1_34 : decode cJ2_putChar_b72d1 34 = .ok (.iinc 1 1, 3) := by decide +kernel
theorem dJ2_putChar_b72d1_37 : decode cJ2_putChar_b72d1 37 = .ok (.iload_n 2, 1) := by decide +kernel
theorem dJ2_putChar_b72d1_38 : decode cJ2_putChar_b72d1 38 = .ok (.getstatic 59, 3) := by decide +kernel
theorem dJ2_putChar_b72d1_41 : decode cJ2_putChar_b72d1 41 = .ok (.ishr, 1) := by decide +kernel
theorem dJ2_putChar_b72d1_42 : decode cJ2_putChar_b72d1 42 = .ok (.i2b, 1) := by decide +kernel
theorem dJ2_putChar_b72d1_43 : decode cJ2_putChar_b72d1 43 = .ok (.bastore, 1) := by decide +kernel
theorem dJ2_putChar_b72d1_44 : decode cJ2_putChar_b72d1 44 = .ok (.aload_n 0, 1) := by decide +kernel
theorem dJ2_putChar_b72d1_45 : decode cJ2_putChar_b72d1 45 = .ok (.iload_n 1, 1) := by decide +kernel
theorem dJ2_putChar_b72d1_46 : decode cJ2_putChar_b72d1 46 = .ok (.iload_n 2, 1) := by decide +kernel
theorem dJ2_putChar_b72d1_47 : decode cJ2_putChar_b72d1 47 = .ok (.getstatic 63, 3) := by decide +kernel
theorem dJ2_putChar_b72d1_50 : decode cJ2_putChar_b72d1 50 = .ok (.ishr, 1) := by decide +kernel
theorem dJ2_putChar_b72d1_51 : decode cJ2_putChar_b72d1 51 = .ok (.i2b, 1) := by decide +kernel
theorem dJ2_putChar_b72d1_52 : decode cJ2_putChar_b72d1 52 = .ok (.bastore, 1) := by decide +kernel
theorem dJ2_putChar_b72d1_53 : decode cJ2_putChar_b72d1 53 = .ok (.return_, 1) := by decide +kernel
theorem dJ2_getChar_3b067_0 : decode cJ2_getChar_3b067 0 = .ok (.getstatic 44, 3) := by decide +kernel
theorem dJ2_getChar_3b067_3 : decode cJ2_getChar_3b067 3 = .ok (.ifCond .ne 25, 3) := by decide +kernel
theorem dJ2_getChar_3b067_6 : decode cJ2_getChar_3b067 6 = .ok (.iload_n 1, 1) := by decide +kernel
theorem dJ2_getChar_3b067_7 : decode cJ2_getChar_3b067 7 = .ok (.ifCond .lt 11, 3) := by decide +kernel
theorem dJ2_getChar_3b067_10 : decode cJ2_getChar_3b067 10 = .ok (.iload_n 1, 1) := by decide +kernel
theorem dJ2_getChar_3b067_11 : decode cJ2_getChar_3b067 11 = .ok (.aload_n 0, 1) := by decide +kernel
theorem dJ2_getChar_3b067_12 : decode cJ2_getChar_3b067 12 = .ok (.invokestatic 48, 3) := by decide +kernel
theorem dJ2_getChar_3b067_15 : decode cJ2_getChar_3b067 15 = .ok (.if_icmp .lt 13, 3) := by decide +kernel
theorem dJ2_getChar_3b067_18 : decode cJ2_getChar_3b067 18 = .ok (.new 52, 3) := by decide +kernel
theorem dJ2_getChar_3b067_21 : decode cJ2_getChar_3b067 21 = .ok (.dup, 1) := by decide +kernel
theorem dJ2_getChar_3b067_22 : decode cJ2_getChar_3b067 22 = .ok (.ldc 54, 2) := by decide +kernel
theorem dJ2_getChar_3b067_24 : decode cJ2_getChar_3b067 24 = .ok (.invokespecial 56, 3) := by decide +kernel
theorem dJ2_getChar_3b067_27 : decode cJ2_getChar_3b067 27 = .ok (.athrow, 1) := by decide +kernel
theorem dJ2_getChar_3b067_28 : decode cJ2_getChar_3b067 28 = .ok (.iload_n 1, 1) := by decide +kernel
theorem dJ2_getChar_3b067_29 : decode cJ2_getChar_3b067 29 = .ok (.iconst 1, 1) := by decide +kernel
theorem dJ2_getChar_3b067_30 : decode cJ2_getChar_3b067 30 = .ok (.ishl, 1) := by decide +kernel
theorem dJ2_getChar_3b067_31 : decode cJ2_getChar_3b067 31 = .ok (.istore_n 1, 1) := by decide +kernel
theorem dJ2_getChar_3b067_32 : decode cJ2_getChar_3b067 32 = .ok (.aload_n 0, 1) := by decide +kernel
theorem dJ2_getChar_3b067_33 : decode cJ2_getChar_3b067 33 = .ok (.iload_n 1, 1) := by decide +kernel
theorem dJ2_getChar_3b067_34 : decode cJ2_getChar_3b067 34 = .ok (.iinc 1 1, 3) := by decide +kernel
theorem dJ2_getChar_3b067_37 : decode cJ2_getChar_3b067 37 = .ok (.baload, 1) := by decide +kernel
theorem dJ2_getChar_3b067_38 : decode cJ2_getChar_3b067 38 = .ok (.sipush 255, 3) := by decide +kernel
theorem dJ2_getChar_3b067_41 : decode cJ2_getChar_3b067 41 = .ok (.iand, 1) := by decide +kernel
theorem dJ2_getChar_3b067_42 : decode cJ2_getChar_3b067 42 = .ok (.getstatic 59, 3) := by decide +kernel
theorem dJ2_getChar_3b067_45 : decode cJ2_getChar_3b067 45 = .ok (.ishl, 1) := by decide +kernel
theorem dJ2_getChar_3b067_46 : decode cJ2_getChar_3b067 46 = .ok (.aload_n 0, 1) := by decide +kernel
theorem dJ2_getChar_3b067_47 : decode cJ2_getChar_3b067 47 = .ok (.iload_n 1, 1) := by decide +kernel
theorem dJ2_getChar_3b067_48 : decode cJ2_getChar_3b067 48 = .ok (.baload, 1) := by decide +kernel
theorem dJ2_getChar_3b067_49 : decode cJ2_getChar_3b067 49 = .ok (.sipush 255, 3) := by decide +kernel
theorem dJ2_getChar_3b067_52 : decode cJ2_getChar_3b067 52 = .ok (.iand, 1) := by decide +kernel
theorem dJ2_getChar_3b067_53 : decode cJ2_getChar_3b067 53 = .ok (.getstatic 63, 3) := by decide +kernel
theorem dJ2_getChar_3b067_56 : decode cJ2_getChar_3b067 56 = .ok (.ishl, 1) := by decide +kernel
theorem dJ2_getChar_3b067_57 : decode cJ2_getChar_3b067 57 = .ok (.ior, 1) := by decide +kernel
theorem dJ2_getChar_3b067_58 : decode cJ2_getChar_3b067 58 = .ok (.i2c, 1) := by decide +kernel
theorem dJ2_getChar_3b067_59 : decode cJ2_getChar_3b067 59 = .ok (.ireturn, 1) := by decide +kernel
theorem dJ2_length_9d52b_0 : decode cJ2_length_9d52b 0 = .ok (.aload_n 0, 1) := by decide +kernel
theorem dJ2_length_9d52b_1 : decode cJ2_length_9d52b 1 = .ok (.arraylength, 1) := by decide +kernel
theorem dJ2_length_9d52b_2 : decode cJ2_length_9d52b 2 = .ok (.iconst 1, 1) := by decide +kernel
theorem dJ2_length_9d52b_3 : decode cJ2_length_9d52b 3 = .ok (.ishr, 1) := by decide +kernel
theorem dJ2_length_9d52b_4 : decode cJ2_length_9d52b 4 = .ok (.ireturn, 1) := by decide +kernel
theorem dJ2_coderFromArrayLen_85cad_0 : decode cJ2_coderFromArrayLen_85cad 0 = .ok (.iload_n 1, 1) := by decide +kernel
theorem dJ2_coderFromArrayLen_85cad_1 : decode cJ2_coderFromArrayLen_85cad 1 = .ok (.aload_n 0, 1) := by decide +kernel
theorem dJ2_coderFromArrayLen_85cad_2 : decode cJ2_coderFromArrayLen_85cad 2 = .ok (.arraylength, 1) := by decide +kernel
theorem dJ2_coderFromArrayLen_85cad_3 : decode cJ2_coderFromArrayLen_85cad 3 = .ok (.isub, 1) := by decide +kernel
theorem dJ2_coderFromArrayLen_85cad_4 : decode cJ2_coderFromArrayLen_85cad 4 = .ok (.bipush 31, 2) := by decide +kernel
theorem dJ2_coderFromArrayLen_85cad_6 : decode cJ2_coderFromArrayLen_85cad 6 = .ok (.iushr, 1) := by decide +kernel
theorem dJ2_coderFromArrayLen_85cad_7 : decode cJ2_coderFromArrayLen_85cad 7 = .ok (.i2b, 1) := by decide +kernel
theorem dJ2_coderFromArrayLen_85cad_8 : decode cJ2_coderFromArrayLen_85cad 8 = .ok (.ireturn, 1) := by decide +kernel
theorem dJ2_compress_39247_0 : decode cJ2_compress_39247 0 = .ok (.iload_n 2, 1) := by decide +kernel
theorem dJ2_compress_39247_1 : decode cJ2_compress_39247 1 = .ok (.newarray .byte, 2) := by decide +kernel
theorem dJ2_compress_39247_3 : decode cJ2_compress_39247 3 = .ok (.astore_n 3, 1) := by decide +kernel
theorem dJ2_compress_39247_4 : decode cJ2_compress_39247 4 = .ok (.aload_n 0, 1) := by decide +kernel
theorem dJ2_compress_39247_5 : decode cJ2_compress_39247 5 = .ok (.iload_n 1, 1) := by decide +kernel
theorem dJ2_compress_39247_6 : decode cJ2_compress_39247 6 = .ok (.aload_n 3, 1) := by decide +kernel
theorem dJ2_compress_39247_7 : decode cJ2_compress_39247 7 = .ok (.iconst 0, 1) := by decide +kernel
theorem dJ2_compress_39247_8 : decode cJ2_compress_39247 8 = .ok (.iload_n 2, 1) := by decide +kernel
theorem dJ2_compress_39247_9 : decode cJ2_compress_39247 9 = .ok (.invokestatic 123, 3) := by decide +kernel
theorem dJ2_compress_39247_12 : decode cJ2_compress_39247 12 = .ok (.istore 4, 2) := by decide +kernel
theorem dJ2_compress_39247_14 : decode cJ2_compress_39247 14 = .ok (.iload 4, 2) := by decide +kernel
theorem dJ2_compress_39247_16 : decode cJ2_compress_39247 16 = .ok (.iload_n 2, 1) := by decide +kernel
theorem dJ2_compress_39247_17 : decode cJ2_compress_39247 17 = .ok (.if_icmp .eq 47, 3) := by decide +kernel
theorem dJ2_compress_39247_20 : decode cJ2_compress_39247 20 = .ok (.aload_n 0, 1) := by decide +kernel
theorem dJ2_compress_39247_21 : decode cJ2_compress_39247 21 = .ok (.iload_n 1, 1) := by decide +kernel
theorem dJ2_compress_39247_22 : decode cJ2_compress_39247 22 = .ok (.iconst 1, 1) := by decide +kernel
theorem dJ2_compress_39247_23 : decode cJ2_compress_39247 23 = .ok (.ishl, 1) := by decide +kernel
theorem dJ2_compress_39247_24 : decode cJ2_compress_39247 24 = .ok (.iload_n 1, 1) := by decide +kernel
theorem dJ2_compress_39247_25 : decode cJ2_compress_39247 25 = .ok (.iload_n 2, 1) := by decide +kernel
theorem dJ2_compress_39247_26 : decode cJ2_compress_39247 26 = .ok (.iadd, 1) := by decide +kernel
theorem dJ2_compress_39247_27 : decode cJ2_compress_39247 27 = .ok (.invokestatic 11, 3) := by decide +kernel
theorem dJ2_compress_39247_30 : decode cJ2_compress_39247 30 = .ok (.invokestatic 126, 3) := by decide +kernel
theorem dJ2_compress_39247_33 : decode cJ2_compress_39247 33 = .ok (.astore 5, 2) := by decide +kernel
theorem dJ2_compress_39247_35 : decode cJ2_compress_39247 35 = .ok (.aload 5, 2) := by decide +kernel
theorem dJ2_compress_39247_37 : decode cJ2_compress_39247 37 = .ok (.iload 4, 2) := by decide +kernel
theorem dJ2_compress_39247_39 : decode cJ2_compress_39247 39 = .ok (.invokestatic 71, 3) := by decide +kernel
theorem dJ2_compress_39247_42 : decode cJ2_compress_39247 42 = .ok (.sipush 255, 3) := by decide +kernel
theorem dJ2_compress_39247_45 : decode cJ2_compress_39247 45 = .ok (.if_icmp .gt 16, 3) := by decide +kernel
theorem dJ2_compress_39247_48 : decode cJ2_compress_39247 48 = .ok (.aload 5, 2) := by decide +kernel
theorem dJ2_compress_39247_50 : decode cJ2_compress_39247 50 = .ok (.iconst 0, 1) := by decide +kernel
theorem dJ2_compress_39247_51 : decode cJ2_compress_39247 51 = .ok (.aload_n 3, 1) := by decide +kernel
theorem dJ2_compress_39247_52 : decode cJ2_compress_39247 52 = .ok (.iconst 0, 1) := by decide +kernel
theorem dJ2_compress_39247_53 : decode cJ2_compress_39247 53 = .ok (.iload_n 2, 1) := by decide +kernel
theorem dJ2_compress_39247_54 : decode cJ2_compress_39247 54 = .ok (.invokestatic 123, 3) := by decide +kernel
theorem dJ2_compress_39247_57 : decode cJ2_compress_39247 57 = .ok (.iload_n 2, 1) := by decide +kernel
theorem dJ2_compress_39247_58 : decode cJ2_compress_39247 58 = .ok (.if_icmp .eq 6, 3) := by decide +kernel
theorem dJ2_compress_39247_61 : decode cJ2_compress_39247 61 = .ok (.aload 5, 2) := by decide +kernel
theorem dJ2_compress_39247_63 : decode cJ2_compress_39247 63 = .ok (.areturn, 1) := by decide +kernel
theorem dJ2_compress_39247_64 : decode cJ2_compress_39247 64 = .ok (.aload_n 3, 1) := by decide +kernel
theorem dJ2_compress_39247_65 : decode cJ2_compress_39247 65 = .ok (.areturn, 1) := by decide +kernel
theorem dJ2_compress_5af95_0 : decode cJ2_compress_5af95 0 = .ok (.iload_n 1, 1) := by decide +kernel
theorem dJ2_compress_5af95_1 : decode cJ2_compress_5af95 1 = .ok (.iload 4, 2) := by decide +kernel
theorem dJ2_compress_5af95_3 : decode cJ2_compress_5af95 3 = .ok (.aload_n 0, 1) := by decide +kernel
theorem dJ2_compress_5af95_4 : decode cJ2_compress_5af95 4 = .ok (.invokestatic 173, 3) := by decide +kernel
theorem dJ2_compress_5af95_7 : decode cJ2_compress_5af95 7 = .ok (.iconst 0, 1) := by decide +kernel
theorem dJ2_compress_5af95_8 : decode cJ2_compress_5af95 8 = .ok (.istore 5, 2) := by decide +kernel
theorem dJ2_compress_5af95_10 : decode cJ2_compress_5af95 10 = .ok (.iload 5, 2) := by decide +kernel
theorem dJ2_compress_5af95_12 : decode cJ2_compress_5af95 12 = .ok (.iload 4, 2) := by decide +kernel
theorem dJ2_compress_5af95_14 : decode cJ2_compress_5af95 14 = .ok (.if_icmp .ge 39, 3) := by decide +kernel
theorem dJ2_compress_5af95_17 : decode cJ2_compress_5af95 17 = .ok (.aload_n 0, 1) := by decide +kernel
theorem dJ2_compress_5af95_18 : decode cJ2_compress_5af95 18 = .ok (.iload_n 1, 1) := by decide +kernel
theorem dJ2_compress_5af95_19 : decode cJ2_compress_5af95 19 = .ok (.invokestatic 71, 3) := by decide +kernel
theorem dJ2_compress_5af95_22 : decode cJ2_compress_5af95 22 = .ok (.istore 6, 2) := by decide +kernel
theorem dJ2_compress_5af95_24 : decode cJ2_compress_5af95 24 = .ok (.iload 6, 2) := by decide +kernel
theorem dJ2_compress_5af95_26 : decode cJ2_compress_5af95 26 = .ok (.sipush 255, 3) := by decide +kernel
theorem dJ2_compress_5af95_29 : decode cJ2_compress_5af95 29 = .ok (.if_icmp .le 6, 3) := by decide +kernel
theorem dJ2_compress_5af95_32 : decode cJ2_compress_5af95 32 = .ok (.iload 5, 2) := by decide +kernel
theorem dJ2_compress_5af95_34 : decode cJ2_compress_5af95 34 = .ok (.ireturn, 1) := by decide +kernel
theorem dJ2_compress_5af95_35 : decode cJ2_compress_5af95 35 = .ok (.aload_n 2, 1) := by decide +kernel
theorem dJ2_compress_5af95_36 : decode cJ2_compress_5af95 36 = .ok (.iload_n 3, 1) := by decide +kernel
theorem dJ2_compress_5af95_37 : decode cJ2_compress_5af95 37 = .ok (.iload 6, 2) := by decide +kernel
theorem dJ2_compress_5af95_39 : decode cJ2_compress_5af95 39 = .ok (.i2b, 1) := by decide +kernel
theorem dJ2_compress_5af95_40 : decode cJ2_compress_5af95 40 = .ok (.bastore, 1) := by decide +kernel
theorem dJ2_compress_5af95_41 : decode cJ2_compress_5af95 41 = .ok (.iinc 1 1, 3) := by decide +kernel
theorem dJ2_compress_5af95_44 : decode cJ2_compress_5af95 44 = .ok (.iinc 3 1, 3) := by decide +kernel
theorem dJ2_compress_5af95_47 : decode cJ2_compress_5af95 47 = .ok (.iinc 5 1, 3) := by decide +kernel
theorem dJ2_compress_5af95_50 : decode cJ2_compress_5af95 50 = .ok (.goto (-40), 3) := by decide +kernel
theorem dJ2_compress_5af95_53 : decode cJ2_compress_5af95 53 = .ok (.iload 4, 2) := by decide +kernel
theorem dJ2_compress_5af95_55 : decode cJ2_compress_5af95 55 = .ok (.ireturn, 1) := by decide +kernel
theorem dJ2_getChars_46870_0 : decode cJ2_getChars_46870 0 = .ok (.iload_n 1, 1) := by decide +kernel
theorem dJ2_getChars_46870_1 : decode cJ2_getChars_46870 1 = .ok (.iload_n 2, 1) := by decide +kernel
theorem dJ2_getChars_46870_2 : decode cJ2_getChars_46870 2 = .ok (.aload_n 3, 1) := by decide +kernel
theorem dJ2_getChars_46870_3 : decode cJ2_getChars_46870 3 = .ok (.invokestatic 96, 3) := by decide +kernel
theorem dJ2_getChars_46870_6 : decode cJ2_getChars_46870 6 = .ok (.iload_n 0, 1) := by decide +kernel
theorem dJ2_getChars_46870_7 : decode cJ2_getChars_46870 7 = .ok (.iload_n 2, 1) := by decide +kernel
theorem dJ2_getChars_46870_8 : decode cJ2_getChars_46870 8 = .ok (.aload_n 3, 1) := by decide +kernel
theorem dJ2_getChars_46870_9 : decode cJ2_getChars_46870 9 = .ok (.invokestatic 393, 3) := by decide +kernel
theorem dJ2_getChars_46870_12 : decode cJ2_getChars_46870 12 = .ok (.istore 4, 2) := by decide +kernel
theorem dJ2_getChars_46870_14 : decode cJ2_getChars_46870 14 = .ok (.getstatic 44, 3) := by decide +kernel
theorem dJ2_getChars_46870_17 : decode cJ2_getChars_46870 17 = .ok (.ifCond .ne 17, 3) := by decide +kernel
theorem dJ2_getChars_46870_20 : decode cJ2_getChars_46870 20 = .ok (.iload_n 1, 1) := by decide +kernel
theorem dJ2_getChars_46870_21 : decode cJ2_getChars_46870 21 = .ok (.iload 4, 2) := by decide +kernel
theorem dJ2_getChars_46870_23 : decode cJ2_getChars_46870 23 = .ok (.if_icmp .eq 11, 3) := by decide +kernel
theorem dJ2_getChars_46870_26 : decode cJ2_getChars_46870 26 = .ok (.new 52, 3) := by decide +kernel
theorem dJ2_getChars_46870_29 : decode cJ2_getChars_46870 29 = .ok (.dup, 1) := by decide +kernel
theorem dJ2_getChars_46870_30 : decode cJ2_getChars_46870 30 = .ok (.invokespecial 66, 3) := by decide +kernel
theorem dJ2_getChars_46870_33 : decode cJ2_getChars_46870 33 = .ok (.athrow, 1) := by decide +kernel
theorem dJ2_getChars_46870_34 : decode cJ2_getChars_46870 34 = .ok (.iload 4, 2) := by decide +kernel
theorem dJ2_getChars_46870_36 : decode cJ2_getChars_46870 36 = .ok (.ireturn, 1) := by decide +kernel
theorem dJ2_putCharsAt_cd4e5_0 : decode cJ2_putCharsAt_cd4e5 0 = .ok (.iload_n 1, 1) := by decide +kernel
theorem dJ2_putCharsAt_cd4e5_1 : decode cJ2_putCharsAt_cd4e5 1 = .ok (.iconst 4, 1) := by decide +kernel
theorem dJ2_putCharsAt_cd4e5_2 : decode cJ2_putCharsAt_cd4e5 2 = .ok (.iadd, 1) := by decide +kernel
theorem dJ2_putCharsAt_cd4e5_3 : decode cJ2_putCharsAt_cd4e5 3 = .ok (.istore 6, 2) := by decide +kernel
theorem dJ2_putCharsAt_cd4e5_5 : decode cJ2_putCharsAt_cd4e5 5 = .ok (.iload_n 1, 1) := by decide +kernel
theorem dJ2_putCharsAt_cd4e5_6 : decode cJ2_putCharsAt_cd4e5 6 = .ok (.iload 6, 2) := by decide +kernel
theorem dJ2_putCharsAt_cd4e5_8 : decode cJ2_putCharsAt_cd4e5 8 = .ok (.aload_n 0, 1) := by decide +kernel
theorem dJ2_putCharsAt_cd4e5_9 : decode cJ2_putCharsAt_cd4e5 9 = .ok (.invokestatic 96, 3) := by decide +kernel
theorem dJ2_putCharsAt_cd4e5_12 : decode cJ2_putCharsAt_cd4e5 12 = .ok (.aload_n 0, 1) := by decide +kernel
theorem dJ2_putCharsAt_cd4e5_13 : decode cJ2_putCharsAt_cd4e5 13 = .ok (.iload_n 1, 1) := by decide +kernel
theorem dJ2_putCharsAt_cd4e5_14 : decode cJ2_putCharsAt_cd4e5 14 = .ok (.iinc 1 1, 3) := by decide +kernel
theorem dJ2_putCharsAt_cd4e5_17 : decode cJ2_putCharsAt_cd4e5 17 = .ok (.iload_n 2, 1) := by decide +kernel
theorem dJ2_putCharsAt_cd4e5_18 : decode cJ2_putCharsAt_cd4e5 18 = .ok (.invokestatic 111, 3) := by decide +kernel
theorem dJ2_putCharsAt_cd4e5_21 : decode cJ2_putCharsAt_cd4e5 21 = .ok (.aload_n 0, 1) := by decide +kernel
theorem dJ2_putCharsAt_cd4e5_22 : decode cJ2_putCharsAt_cd4e5 22 = .ok (.iload_n 1, 1) := by decide +kernel
theorem dJ2_putCharsAt_cd4e5_23 : decode cJ2_putCharsAt_cd4e5 23 = .ok (.iinc 1 1, 3) := by decide +kernel
theorem dJ2_putCharsAt_cd4e5_26 : decode cJ2_putCharsAt_cd4e5 26 = .ok (.iload_n 3, 1) := by decide +kernel
theorem dJ2_putCharsAt_cd4e5_27 : decode cJ2_putCharsAt_cd4e5 27 = .ok (.invokestatic 111, 3) := by decide +kernel
theorem dJ2_putCharsAt_cd4e5_30 : decode cJ2_putCharsAt_cd4e5 30 = .ok (.aload_n 0, 1) := by decide +kernel
theorem dJ2_putCharsAt_cd4e5_31 : decode cJ2_putCharsAt_cd4e5 31 = .ok (.iload_n 1, 1) := by decide +kernel
theorem dJ2_putCharsAt_cd4e5_32 : decode cJ2_putCharsAt_cd4e5 32 = .ok (.iinc 1 1, 3) := by decide +kernel
theorem dJ2_putCharsAt_cd4e5_35 : decode cJ2_putCharsAt_cd4e5 35 = .ok (.iload 4, 2) := by decide +kernel
theorem dJ2_putCharsAt_cd4e5_37 : decode cJ2_putCharsAt_cd4e5 37 = .ok (.invokestatic 111, 3) := by decide +kernel
theorem dJ2_putCharsAt_cd4e5_40 : decode cJ2_putCharsAt_cd4e5 40 = .ok (.aload_n 0, 1) := by decide +kernel
theorem dJ2_putCharsAt_cd4e5_41 : decode cJ2_putCharsAt_cd4e5 41 = .ok (.iload_n 1, 1) := by decide +kernel
theorem dJ2_putCharsAt_cd4e5_42 : decode cJ2_putCharsAt_cd4e5 42 = .ok (.iinc 1 1, 3) := by decide +kernel
theorem dJ2_putCharsAt_cd4e5_45 : decode cJ2_putCharsAt_cd4e5 45 = .ok (.iload 5, 2) := by decide +kernel
theorem dJ2_putCharsAt_cd4e5_47 : decode cJ2_putCharsAt_cd4e5 47 = .ok (.invokestatic 111, 3) := by decide +kernel
theorem dJ2_putCharsAt_cd4e5_50 : decode cJ2_putCharsAt_cd4e5 50 = .ok (.getstatic 44, 3) := by decide +kernel
theorem dJ2_putCharsAt_cd4e5_53 : decode cJ2_putCharsAt_cd4e5 53 = .ok (.ifCond .ne 17, 3) := by decide +kernel
theorem dJ2_putCharsAt_cd4e5_56 : decode cJ2_putCharsAt_cd4e5 56 = .ok (.iload_n 1, 1) := by decide +kernel
theorem dJ2_putCharsAt_cd4e5_57 : decode cJ2_putCharsAt_cd4e5 57 = .ok (.iload 6, 2) := by decide +kernel
theorem dJ2_putCharsAt_cd4e5_59 : decode cJ2_putCharsAt_cd4e5 59 = .ok (.if_icmp .eq 11, 3) := by decide +kernel
theorem dJ2_putCharsAt_cd4e5_62 : decode cJ2_putCharsAt_cd4e5 62 = .ok (.new 52, 3) := by decide +kernel
theorem dJ2_putCharsAt_cd4e5_65 : decode cJ2_putCharsAt_cd4e5 65 = .ok (.dup, 1) := by decide +kernel
theorem dJ2_putCharsAt_cd4e5_66 : decode cJ2_putCharsAt_cd4e5 66 = .ok (.invokespecial 66, 3) := by decide +kernel
theorem dJ2_putCharsAt_cd4e5_69 : decode cJ2_putCharsAt_cd4e5 69 = .ok (.athrow, 1) := by decide +kernel
theorem dJ2_putCharsAt_cd4e5_70 : decode cJ2_putCharsAt_cd4e5 70 = .ok (.iload 6, 2) := by decide +kernel
theorem dJ2_putCharsAt_cd4e5_72 : decode cJ2_putCharsAt_cd4e5 72 = .ok (.ireturn, 1) := by decide +kernel
theorem dJ2_charAt_3b067_0 : decode cJ2_charAt_3b067 0 = .ok (.iload_n 1, 1) := by decide +kernel
theorem dJ2_charAt_3b067_1 : decode cJ2_charAt_3b067 1 = .ok (.aload_n 0, 1) := by decide +kernel
theorem dJ2_charAt_3b067_2 : decode cJ2_charAt_3b067 2 = .ok (.invokestatic 67, 3) := by decide +kernel
theorem dJ2_charAt_3b067_5 : decode cJ2_charAt_3b067 5 = .ok (.aload_n 0, 1) := by decide +kernel
theorem dJ2_charAt_3b067_6 : decode cJ2_charAt_3b067 6 = .ok (.iload_n 1, 1) := by decide +kernel
theorem dJ2_charAt_3b067_7 : decode cJ2_charAt_3b067 7 = .ok (.invokestatic 71, 3) := by decide +kernel
theorem dJ2_charAt_3b067_10 : decode cJ2_charAt_3b067 10 = .ok (.ireturn, 1) := by decide +kernel
theorem dJ2_inflate_0e8fd_0 : decode cJ2_inflate_0e8fd 0 = .ok (.iload_n 3, 1) := by decide +kernel
theorem dJ2_inflate_0e8fd_1 : decode cJ2_inflate_0e8fd 1 = .ok (.iload 4, 2) := by decide +kernel
theorem dJ2_inflate_0e8fd_3 : decode cJ2_inflate_0e8fd 3 = .ok (.aload_n 2, 1) := by decide +kernel
theorem dJ2_inflate_0e8fd_4 : decode cJ2_inflate_0e8fd 4 = .ok (.invokestatic 173, 3) := by decide +kernel
theorem dJ2_inflate_0e8fd_7 : decode cJ2_inflate_0e8fd 7 = .ok (.iconst 0, 1) := by decide +kernel
theorem dJ2_inflate_0e8fd_8 : decode cJ2_inflate_0e8fd 8 = .ok (.istore 5, 2) := by decide +kernel
theorem dJ2_inflate_0e8fd_10 : decode cJ2_inflate_0e8fd 10 = .ok (.iload 5, 2) := by decide +kernel
theorem dJ2_inflate_0e8fd_12 : decode cJ2_inflate_0e8fd 12 = .ok (.iload 4, 2) := by decide +kernel
theorem dJ2_inflate_0e8fd_14 : decode cJ2_inflate_0e8fd 14 = .ok (.if_icmp .ge 27, 3) := by decide +kernel
theorem dJ2_inflate_0e8fd_17 : decode cJ2_inflate_0e8fd 17 = .ok (.aload_n 2, 1) := by decide +kernel
theorem dJ2_inflate_0e8fd_18 : decode cJ2_inflate_0e8fd 18 = .ok (.iload_n 3, 1) := by decide +kernel
theorem dJ2_inflate_0e8fd_19 : decode cJ2_inflate_0e8fd 19 = .ok (.iinc 3 1, 3) := by decide +kernel
theorem dJ2_inflate_0e8fd_22 : decode cJ2_inflate_0e8fd 22 = .ok (.aload_n 0, 1) := by decide +kernel
theorem dJ2_inflate_0e8fd_23 : decode cJ2_inflate_0e8fd 23 = .ok (.iload_n 1, 1) := by decide +kernel
theorem dJ2_inflate_0e8fd_24 : decode cJ2_inflate_0e8fd 24 = .ok (.iinc 1 1, 3) := by decide +kernel
theorem dJ2_inflate_0e8fd_27 : decode cJ2_inflate_0e8fd 27 = .ok (.baload, 1) := by decide +kernel
theorem dJ2_inflate_0e8fd_28 : decode cJ2_inflate_0e8fd 28 = .ok (.sipush 255, 3) := by decide +kernel
theorem dJ2_inflate_0e8fd_31 : decode cJ2_inflate_0e8fd 31 = .ok (.iand, 1) := by decide +kernel
theorem dJ2_inflate_0e8fd_32 : decode cJ2_inflate_0e8fd 32 = .ok (.invokestatic 111, 3) := by decide +kernel
theorem dJ2_inflate_0e8fd_35 : decode cJ2_inflate_0e8fd 35 = .ok (.iinc 5 1, 3) := by decide +kernel
theorem dJ2_inflate_0e8fd_38 : decode cJ2_inflate_0e8fd 38 = .ok (.goto (-28), 3) := by decide +kernel
theorem dJ2_inflate_0e8fd_41 : decode cJ2_inflate_0e8fd 41 = .ok (.return_, 1) := by decide +kernel
theorem dJ2_getChars_ba4f3_0 : decode cJ2_getChars_ba4f3 0 = .ok (.iload_n 1, 1) := by decide +kernel
theorem dJ2_getChars_ba4f3_1 : decode cJ2_getChars_ba4f3 1 = .ok (.istore 5, 2) := by decide +kernel
theorem dJ2_getChars_ba4f3_3 : decode cJ2_getChars_ba4f3 3 = .ok (.iload_n 0, 1) := by decide +kernel
theorem dJ2_getChars_ba4f3_4 : decode cJ2_getChars_ba4f3 4 = .ok (.ifCond .ge 7, 3) := by decide +kernel
theorem dJ2_getChars_ba4f3_7 : decode cJ2_getChars_ba4f3 7 = .ok (.iconst 1, 1) := by decide +kernel
theorem dJ2_getChars_ba4f3_8 : decode cJ2_getChars_ba4f3 8 = .ok (.goto 4, 3) := by decide +kernel
theorem dJ2_getChars_ba4f3_11 : decode cJ2_getChars_ba4f3 11 = .ok (.iconst 0, 1) := by decide +kernel
theorem dJ2_getChars_ba4f3_12 : decode cJ2_getChars_ba4f3 12 = .ok (.istore 6, 2) := by decide +kernel
theorem dJ2_getChars_ba4f3_14 : decode cJ2_getChars_ba4f3 14 = .ok (.iload 6, 2) := by decide +kernel
theorem dJ2_getChars_ba4f3_16 : decode cJ2_getChars_ba4f3 16 = .ok (.ifCond .ne 6, 3) := by decide +kernel
theorem dJ2_getChars_ba4f3_19 : decode cJ2_getChars_ba4f3 19 = .ok (.iload_n 0, 1) := by decide +kernel
theorem dJ2_getChars_ba4f3_20 : decode cJ2_getChars_ba4f3 20 = .ok (.ineg, 1) := by decide +kernel
theorem dJ2_getChars_ba4f3_21 : decode cJ2_getChars_ba4f3 21 = .ok (.istore_n 0, 1) := by decide +kernel
theorem dJ2_getChars_ba4f3_22 : decode cJ2_getChars_ba4f3 22 = .ok (.iload_n 0, 1) := by decide +kernel
theorem dJ2_getChars_ba4f3_23 : decode cJ2_getChars_ba4f3 23 = .ok (.bipush (-100), 2) := by decide +kernel
theorem dJ2_getChars_ba4f3_25 : decode cJ2_getChars_ba4f3 25 = .ok (.if_icmp .gt 51, 3) := by decide +kernel
theorem dJ2_getChars_ba4f3_28 : decode cJ2_getChars_ba4f3 28 = .ok (.iload_n 0, 1) := by decide +kernel
theorem dJ2_getChars_ba4f3_29 : decode cJ2_getChars_ba4f3 29 = .ok (.bipush 100, 2) := by decide +kernel
theorem dJ2_getChars_ba4f3_31 : decode cJ2_getChars_ba4f3 31 = .ok (.idiv, 1) := by decide +kernel
theorem dJ2_getChars_ba4f3_32 : decode cJ2_getChars_ba4f3 32 = .ok (.istore_n 3, 1) := by decide +kernel
theorem dJ2_getChars_ba4f3_33 : decode cJ2_getChars_ba4f3 33 = .ok (.iload_n 3, 1) := by decide +kernel
theorem dJ2_getChars_ba4f3_34 : decode cJ2_getChars_ba4f3 34 = .ok (.bipush 100, 2) := by decide +kernel
theorem dJ2_getChars_ba4f3_36 : decode cJ2_getChars_ba4f3 36 = .ok (.imul, 1) := by decide +kernel
theorem dJ2_getChars_ba4f3_37 : decode cJ2_getChars_ba4f3 37 = .ok (.iload_n 0, 1) := by decide +kernel
theorem dJ2_getChars_ba4f3_38 : decode cJ2_getChars_ba4f3 38 = .ok (.isub, 1) := by decide +kernel
theorem dJ2_getChars_ba4f3_39 : decode cJ2_getChars_ba4f3 39 = .ok (.istore 4, 2) := by decide +kernel
theorem dJ2_getChars_ba4f3_41 : decode cJ2_getChars_ba4f3 41 = .ok (.iload_n 3, 1) := by decide +kernel
theorem dJ2_getChars_ba4f3_42 : decode cJ2_getChars_ba4f3 42 = .ok (.istore_n 0, 1) := by decide +kernel
theorem dJ2_getChars_ba4f3_43 : decode cJ2_getChars_ba4f3 43 = .ok (.aload_n 2, 1) := by decide +kernel
theorem dJ2_getChars_ba4f3_44 : decode cJ2_getChars_ba4f3 44 = .ok (.iinc 5 (-1), 3) := by decide +kernel
theorem dJ2_getChars_ba4f3_47 : decode cJ2_getChars_ba4f3 47 = .ok (.iload 5, 2) := by decide +kernel
theorem dJ2_getChars_ba4f3_49 : decode cJ2_getChars_ba4f3 49 = .ok (.getstatic 403, 3) := by decide +kernel
theorem dJ2_getChars_ba4f3_52 : decode cJ2_getChars_ba4f3 52 = .ok (.iload 4, 2) := by decide +kernel
theorem dJ2_getChars_ba4f3_54 : decode cJ2_getChars_ba4f3 54 = .ok (.baload, 1) := by decide +kernel
theorem dJ2_getChars_ba4f3_55 : decode cJ2_getChars_ba4f3 55 = .ok (.invokestatic 111, 3) := by decide +kernel
theorem dJ2_getChars_ba4f3_58 : decode cJ2_getChars_ba4f3 58 = .ok (.aload_n 2, 1) := by decide +kernel
theorem dJ2_getChars_ba4f3_59 : decode cJ2_getChars_ba4f3 59 = .ok (.iinc 5 (-1), 3) := by decide +kernel
theorem dJ2_getChars_ba4f3_62 : decode cJ2_getChars_ba4f3 62 = .ok (.iload 5, 2) := by decide +kernel
theorem dJ2_getChars_ba4f3_64 : decode cJ2_getChars_ba4f3 64 = .ok (.getstatic 407, 3) := by decide +kernel
theorem dJ2_getChars_ba4f3_67 : decode cJ2_getChars_ba4f3 67 = .ok (.iload 4, 2) := by decide +kernel
theorem dJ2_getChars_ba4f3_69 : decode cJ2_getChars_ba4f3 69 = .ok (.baload, 1) := by decide +kernel
theorem dJ2_getChars_ba4f3_70 : decode cJ2_getChars_ba4f3 70 = .ok (.invokestatic 111, 3) := by decide +kernel
theorem dJ2_getChars_ba4f3_73 : decode cJ2_getChars_ba4f3 73 = .ok (.goto (-51), 3) := by decide +kernel
theorem dJ2_getChars_ba4f3_76 : decode cJ2_getChars_ba4f3 76 = .ok (.aload_n 2, 1) := by decide +kernel
theorem dJ2_getChars_ba4f3_77 : decode cJ2_getChars_ba4f3 77 = .ok (.iinc 5 (-1), 3) := by decide +kernel
theorem dJ2_getChars_ba4f3_80 : decode cJ2_getChars_ba4f3 80 = .ok (.iload 5, 2) := by decide +kernel
theorem dJ2_getChars_ba4f3_82 : decode cJ2_getChars_ba4f3 82 = .ok (.getstatic 403, 3) := by decide +kernel
theorem dJ2_getChars_ba4f3_85 : decode cJ2_getChars_ba4f3 85 = .ok (.iload_n 0, 1) := by decide +kernel
theorem dJ2_getChars_ba4f3_86 : decode cJ2_getChars_ba4f3 86 = .ok (.ineg, 1) := by decide +kernel
theorem dJ2_getChars_ba4f3_87 : decode cJ2_getChars_ba4f3 87 = .ok (.baload, 1) := by decide +kernel
theorem dJ2_getChars_ba4f3_88 : decode cJ2_getChars_ba4f3 88 = .ok (.invokestatic 111, 3) := by decide +kernel
theorem dJ2_getChars_ba4f3_91 : decode cJ2_getChars_ba4f3 91 = .ok (.iload_n 0, 1) := by decide +kernel
theorem dJ2_getChars_ba4f3_92 : decode cJ2_getChars_ba4f3 92 = .ok (.bipush (-9), 2) := by decide +kernel
theorem dJ2_getChars_ba4f3_94 : decode cJ2_getChars_ba4f3 94 = .ok (.if_icmp .ge 18, 3) := by decide +kernel
theorem dJ2_getChars_ba4f3_97 : decode cJ2_getChars_ba4f3 97 = .ok (.aload_n 2, 1) := by decide +kernel
theorem dJ2_getChars_ba4f3_98 : decode cJ2_getChars_ba4f3 98 = .ok (.iinc 5 (-1), 3) := by decide +kernel
theorem dJ2_getChars_ba4f3_101 : decode cJ2_getChars_ba4f3 101 = .ok (.iload 5, 2) := by decide +kernel
theorem dJ2_getChars_ba4f3_103 : decode cJ2_getChars_ba4f3 103 = .ok (.getstatic 407, 3) := by decide +kernel
theorem dJ2_getChars_ba4f3_106 : decode cJ2_getChars_ba4f3 106 = .ok (.iload_n 0, 1) := by decide +kernel
theorem dJ2_getChars_ba4f3_107 : decode cJ2_getChars_ba4f3 107 = .ok (.ineg, 1) := by decide +kernel
theorem dJ2_getChars_ba4f3_108 : decode cJ2_getChars_ba4f3 108 = .ok (.baload, 1) := by decide +kernel
theorem dJ2_getChars_ba4f3_109 : decode cJ2_getChars_ba4f3 109 = .ok (.invokestatic 111, 3) := by decide +kernel
theorem dJ2_getChars_ba4f3_112 : decode cJ2_getChars_ba4f3 112 = .ok (.iload 6, 2) := by decide +kernel
theorem dJ2_getChars_ba4f3_114 : decode cJ2_getChars_ba4f3 114 = .ok (.ifCond .eq 14, 3) := by decide +kernel
theorem dJ2_getChars_ba4f3_117 : decode cJ2_getChars_ba4f3 117 = .ok (.aload_n 2, 1) := by decide +kernel
theorem dJ2_getChars_ba4f3_118 : decode cJ2_getChars_ba4f3 118 = .ok (.iinc 5 (-1), 3) := by decide +kernel
theorem dJ2_getChars_ba4f3_121 : decode cJ2_getChars_ba4f3 121 = .ok (.iload 5, 2) := by decide +kernel
theorem dJ2_getChars_ba4f3_123 : decode cJ2_getChars_ba4f3 123 = .ok (.bipush 45, 2) := by decide +kernel
theorem dJ2_getChars_ba4f3_125 : decode cJ2_getChars_ba4f3 125 = .ok (.invokestatic 111, 3) := by decide +kernel
theorem dJ2_getChars_ba4f3_128 : decode cJ2_getChars_ba4f3 128 = .ok (.iload 5, 2) := by decide +kernel
theorem dJ2_getChars_ba4f3_130 : decode cJ2_getChars_ba4f3 130 = .ok (.ireturn, 1) := by decide +kernel
theorem dJ2_checkIndex_2214a_0 : decode cJ2_checkIndex_2214a 0 = .ok (.iload_n 0, 1) := by decide +kernel
theorem dJ2_checkIndex_2214a_1 : decode cJ2_checkIndex_2214a 1 = .ok (.aload_n 1, 1) := by decide +kernel
theorem dJ2_checkIndex_2214a_2 : decode cJ2_checkIndex_2214a 2 = .ok (.invokestatic 48, 3) := by decide +kernel
theorem dJ2_checkIndex_2214a_5 : decode cJ2_checkIndex_2214a 5 = .ok (.invokestatic 414, 3) := by decide +kernel
theorem dJ2_checkIndex_2214a_8 : decode cJ2_checkIndex_2214a 8 = .ok (.return_, 1) := by decide +kernel
theorem dJ2_checkBoundsBeginEnd_d044e_0 : decode cJ2_checkBoundsBeginEnd_d044e 0 = .ok (.iload_n 0, 1) := by decide +kernel
theorem dJ2_checkBoundsBeginEnd_d044e_1 : decode cJ2_checkBoundsBeginEnd_d044e 1 = .ok (.iload_n 1, 1) := by decide +kernel
theorem dJ2_checkBoundsBeginEnd_d044e_2 : decode cJ2_checkBoundsBeginEnd_d044e 2 = .ok (.aload_n 2, 1) := by decide +kernel
theorem dJ2_checkBoundsBeginEnd_d044e_3 : decode cJ2_checkBoundsBeginEnd_d044e 3 = .ok (.invokestatic 48, 3) := by decide +kernel
theorem dJ2_checkBoundsBeginEnd_d044e_6 : decode cJ2_checkBoundsBeginEnd_d044e 6 = .ok (.invokestatic 241, 3) := by decide +kernel
theorem dJ2_checkBoundsBeginEnd_d044e_9 : decode cJ2_checkBoundsBeginEnd_d044e 9 = .ok (.return_, 1) := by decide +kernel
theorem dJ2_checkBoundsOffCount_d044e_0 : decode cJ2_checkBoundsOffCount_d044e 0 = .ok (.iload_n 0, 1) := by decide +kernel
theorem dJ2_checkBoundsOffCount_d044e_1 : decode cJ2_checkBoundsOffCount_d044e 1 = .ok (.iload_n 1, 1) := by decide +kernel
theorem dJ2_checkBoundsOffCount_d044e_2 : decode cJ2_checkBoundsOffCount_d044e 2 = .ok (.aload_n 2, 1) := by decide +kernel
theorem dJ2_checkBoundsOffCount_d044e_3 : decode cJ2_checkBoundsOffCount_d044e 3 = .ok (.invokestatic 48, 3) := by decide +kernel
theorem dJ2_checkBoundsOffCount_d044e_6 : decode cJ2_checkBoundsOffCount_d044e 6 = .ok (.invokestatic 419, 3) := by decide +kernel
theorem dJ2_checkBoundsOffCount_d044e_9 : decode cJ2_checkBoundsOffCount_d044e 9 = .ok (.pop, 1) := by decide +kernel
theorem dJ2_checkBoundsOffCount_d044e_10 : decode cJ2_checkBoundsOffCount_d044e 10 = .ok (.return_, 1) := by decide +kernel
theorem dJxa1e45_init_da8c8_0 : decode cJxa1e45_init_da8c8 0 = .ok (.aload_n 0, 1) := by decide +kernel
theorem dJxa1e45_init_da8c8_1 : decode cJxa1e45_init_da8c8 1 = .ok (.invokespecial 1, 3) := by decide +kernel
theorem dJxa1e45_init_da8c8_4 : decode cJxa1e45_init_da8c8 4 = .ok (.return_, 1) := by decide +kernel
theorem dJxc12de_init_da8c8_0 : decode cJxc12de_init_da8c8 0 = .ok (.aload_n 0, 1) := by decide +kernel
theorem dJxc12de_init_da8c8_1 : decode cJxc12de_init_da8c8 1 = .ok (.invokespecial 1, 3) := by decide +kernel
theorem dJxc12de_init_da8c8_4 : decode cJxc12de_init_da8c8 4 = .ok (.aload_n 0, 1) := by decide +kernel
theorem dJxc12de_init_da8c8_5 : decode cJxc12de_init_da8c8 5 = .ok (.iconst 0, 1) := by decide +kernel
theorem dJxc12de_init_da8c8_6 : decode cJxc12de_init_da8c8 6 = .ok (.putfield 7, 3) := by decide +kernel
theorem dJxc12de_init_da8c8_9 : decode cJxc12de_init_da8c8 9 = .ok (.return_, 1) := by decide +kernel
theorem dJx4a65c_init_da8c8_0 : decode cJx4a65c_init_da8c8 0 = .ok (.aload_n 0, 1) := by decide +kernel
theorem dJx4a65c_init_da8c8_1 : decode cJx4a65c_init_da8c8 1 = .ok (.invokespecial 1, 3) := by decide +kernel
theorem dJx4a65c_init_da8c8_4 : decode cJx4a65c_init_da8c8 4 = .ok (.aload_n 0, 1) := by decide +kernel
theorem dJx4a65c_init_da8c8_5 : decode cJx4a65c_init_da8c8 5 = .ok (.getstatic 39, 3) := by decide +kernel
theorem dJx4a65c_init_da8c8_8 : decode cJx4a65c_init_da8c8 8 = .ok (.putfield 9, 3) := by decide +kernel
theorem dJx4a65c_init_da8c8_11 : decode cJx4a65c_init_da8c8 11 = .ok (.return_, 1) := by decide +kernel
theorem dJx4a65c_grow_92f84_0 : decode cJx4a65c_grow_92f84 0 = .ok (.aload_n 0, 1) := by decide +kernel
theorem dJx4a65c_grow_92f84_1 : decode cJx4a65c_grow_92f84 1 = .ok (.getfield 9, 3) := by decide +kernel
theorem dJx4a65c_grow_92f84_4 : decode cJx4a65c_grow_92f84 4 = .ok (.arraylength, 1) := by decide +kernel
theorem dJx4a65c_grow_92f84_5 : decode cJx4a65c_grow_92f84 5 = .ok (.istore_n 2, 1) := by decide +kernel
theorem dJx4a65c_grow_92f84_6 : decode cJx4a65c_grow_92f84 6 = .ok (.iload_n 2, 1) := by decide +kernel
theorem dJx4a65c_grow_92f84_7 : decode cJx4a65c_grow_92f84 7 = .ok (.ifCond .gt 13, 3) := by decide +kernel
theorem dJx4a65c_grow_92f84_10 : decode cJx4a65c_grow_92f84 10 = .ok (.aload_n 0, 1) := by decide +kernel
theorem dJx4a65c_grow_92f84_11 : decode cJx4a65c_grow_92f84 11 = .ok (.getfield 9, 3) := by decide +kernel
theorem dJx4a65c_grow_92f84_14 : decode cJx4a65c_grow_92f84 14 = .ok (.getstatic 39, 3) := by decide +kernel
theorem dJx4a65c_grow_92f84_17 : decode cJx4a65c_grow_92f84 17 = .ok (.if_acmp .eq 28, 3) := by decide +kernel
theorem dJx4a65c_grow_92f84_20 : decode cJx4a65c_grow_92f84 20 = .ok (.iload_n 2, 1) := by decide +kernel
theorem dJx4a65c_grow_92f84_21 : decode cJx4a65c_grow_92f84 21 = .ok (.iload_n 1, 1) := by decide +kernel
theorem dJx4a65c_grow_92f84_22 : decode cJx4a65c_grow_92f84 22 = .ok (.iload_n 2, 1) := by decide +kernel
theorem dJx4a65c_grow_92f84_23 : decode cJx4a65c_grow_92f84 23 = .ok (.isub, 1) := by decide +kernel
theorem dJx4a65c_grow_92f84_24 : decode cJx4a65c_grow_92f84 24 = .ok (.iload_n 2, 1) := by decide +kernel
theorem dJx4a65c_grow_92f84_25 : decode cJx4a65c_grow_92f84 25 = .ok (.iconst 1, 1) := by decide +kernel
theorem dJx4a65c_grow_92f84_26 : decode cJx4a65c_grow_92f84 26 = .ok (.ishr, 1) := by decide +kernel
theorem dJx4a65c_grow_92f84_27 : decode cJx4a65c_grow_92f84 27 = .ok (.invokestatic 73, 3) := by decide +kernel
theorem dJx4a65c_grow_92f84_30 : decode cJx4a65c_grow_92f84 30 = .ok (.istore_n 3, 1) := by decide +kernel
theorem dJx4a65c_grow_92f84_31 : decode cJx4a65c_grow_92f84 31 = .ok (.aload_n 0, 1) := by decide +kernel
theorem dJx4a65c_grow_92f84_32 : decode cJx4a65c_grow_92f84 32 = .ok (.aload_n 0, 1) := by decide +kernel
theorem dJx4a65c_grow_92f84_33 : decode cJx4a65c_grow_92f84 33 = .ok (.getfield 9, 3) := by decide +kernel
theorem dJx4a65c_grow_92f84_36 : decode cJx4a65c_grow_92f84 36 = .ok (.iload_n 3, 1) := by decide +kernel
theorem dJx4a65c_grow_92f84_37 : decode cJx4a65c_grow_92f84 37 = .ok (.invokestatic 66, 3) := by decide +kernel
theorem dJx4a65c_grow_92f84_40 : decode cJx4a65c_grow_92f84 40 = .ok (.dup_x1, 1) := by decide +kernel
theorem dJx4a65c_grow_92f84_41 : decode cJx4a65c_grow_92f84 41 = .ok (.putfield 9, 3) := by decide +kernel
theorem dJx4a65c_grow_92f84_44 : decode cJx4a65c_grow_92f84 44 = .ok (.areturn, 1) := by decide +kernel
theorem dJx4a65c_grow_92f84_45 : decode cJx4a65c_grow_92f84 45 = .ok (.aload_n 0, 1) := by decide +kernel
theorem dJx4a65c_grow_92f84_46 : decode cJx4a65c_grow_92f84 46 = .ok (.bipush 10, 2) := by decide +kernel
theorem dJx4a65c_grow_92f84_48 : decode cJx4a65c_grow_92f84 48 = .ok (.iload_n 1, 1) := by decide +kernel
theorem dJx4a65c_grow_92f84_49 : decode cJx4a65c_grow_92f84 49 = .ok (.invokestatic 79, 3) := by decide +kernel
theorem dJx4a65c_grow_92f84_52 : decode cJx4a65c_grow_92f84 52 = .ok (.anewarray 7, 3) := by decide +kernel
theorem dJx4a65c_grow_92f84_55 : decode cJx4a65c_grow_92f84 55 = .ok (.dup_x1, 1) := by decide +kernel
theorem dJx4a65c_grow_92f84_56 : decode cJx4a65c_grow_92f84 56 = .ok (.putfield 9, 3) := by decide +kernel
theorem dJx4a65c_grow_92f84_59 : decode cJx4a65c_grow_92f84 59 = .ok (.areturn, 1) := by decide +kernel
theorem dJx4a65c_grow_d5877_0 : decode cJx4a65c_grow_d5877 0 = .ok (.aload_n 0, 1) := by decide +kernel
theorem dJx4a65c_grow_d5877_1 : decode cJx4a65c_grow_d5877 1 = .ok (.aload_n 0, 1) := by decide +kernel
theorem dJx4a65c_grow_d5877_2 : decode cJx4a65c_grow_d5877 2 = .ok (.getfield 48, 3) := by decide +kernel
theorem dJx4a65c_grow_d5877_5 : decode cJx4a65c_grow_d5877 5 = .ok (.iconst 1, 1) := by decide +kernel
theorem dJx4a65c_grow_d5877_6 : decode cJx4a65c_grow_d5877 6 = .ok (.iadd, 1) := by decide +kernel
theorem dJx4a65c_grow_d5877_7 : decode cJx4a65c_grow_d5877 7 = .ok (.invokevirtual 69, 3) := by decide +kernel
theorem dJx4a65c_grow_d5877_10 : decode cJx4a65c_grow_d5877 10 = .ok (.areturn, 1) := by decide +kernel
theorem dJx4a65c_size_8abf5_0 : decode cJx4a65c_size_8abf5 0 = .ok (.aload_n 0, 1) := by decide +kernel
theorem dJx4a65c_size_8abf5_1 : decode cJx4a65c_size_8abf5 1 = .ok (.getfield 48, 3) := by decide +kernel
theorem dJx4a65c_size_8abf5_4 : decode cJx4a65c_size_8abf5 4 = .ok (.ireturn, 1) := by decide +kernel
theorem dJx4a65c_isEmpty_aae02_0 : decode cJx4a65c_isEmpty_aae02 0 = .ok (.aload_n 0, 1) := by decide +kernel
theorem dJx4a65c_isEmpty_aae02_1 : decode cJx4a65c_isEmpty_aae02 1 = .ok (.getfield 48, 3) := by decide +kernel
theorem dJx4a65c_isEmpty_aae02_4 : decode cJx4a65c_isEmpty_aae02 4 = .ok (.ifCond .ne 7, 3) := by decide +kernel
theorem dJx4a65c_isEmpty_aae02_7 : decode cJx4a65c_isEmpty_aae02 7 = .ok (.iconst 1, 1) := by decide +kernel
theorem dJx4a65c_isEmpty_aae02_8 : decode cJx4a65c_isEmpty_aae02 8 = .ok (.goto 4, 3) := by decide +kernel
theorem dJx4a65c_isEmpty_aae02_11 : decode cJx4a65c_isEmpty_aae02 11 = .ok (.iconst 0, 1) := by decide +kernel
theorem dJx4a65c_isEmpty_aae02_12 : decode cJx4a65c_isEmpty_aae02 12 = .ok (.ireturn, 1) := by decide +kernel
theorem dJx4a65c_elementData_915e3_0 : decode cJx4a65c_elementData_915e3 0 = .ok (.aload_n 0, 1) := by decide +kernel
theorem dJx4a65c_elementData_915e3_1 : decode cJx4a65c_elementData_915e3 1 = .ok (.getfield 9, 3) := by decide +kernel
theorem dJx4a65c_elementData_915e3_4 : decode cJx4a65c_elementData_915e3 4 = .ok (.iload_n 1, 1) := by decide +kernel
theorem dJx4a65c_elementData_915e3_5 : decode cJx4a65c_elementData_915e3 5 = .ok (.aaload, 1) := by decide +kernel
theorem dJx4a65c_elementData_915e3_6 : decode cJx4a65c_elementData_915e3 6 = .ok (.areturn, 1) := by decide +kernel
theorem dJx4a65c_get_915e3_0 : decode cJx4a65c_get_915e3 0 = .ok (.iload_n 1, 1) := by decide +kernel
theorem dJx4a65c_get_915e3_1 : decode cJx4a65c_get_915e3 1 = .ok (.aload_n 0, 1) := by decide +kernel
theorem dJx4a65c_get_915e3_2 : decode cJx4a65c_get_915e3 2 = .ok (.getfield 48, 3) := by decide +kernel
theorem dJx4a65c_get_915e3_5 : decode cJx4a65c_get_915e3 5 = .ok (.invokestatic 118, 3) := by decide +kernel
theorem dJx4a65c_get_915e3_8 : decode cJx4a65c_get_915e3 8 = .ok (.pop, 1) := by decide +kernel
theorem dJx4a65c_get_915e3_9 : decode cJx4a65c_get_915e3 9 = .ok (.aload_n 0, 1) := by decide +kernel
theorem dJx4a65c_get_915e3_10 : decode cJx4a65c_get_915e3 10 = .ok (.iload_n 1, 1) := by decide +kernel
theorem dJx4a65c_get_915e3_11 : decode cJx4a65c_get_915e3 11 = .ok (.invokevirtual 123, 3) := by decide +kernel
theorem dJx4a65c_get_915e3_14 : decode cJx4a65c_get_915e3 14 = .ok (.areturn, 1) := by decide +kernel
theorem dJx4a65c_add_72be8_0 : decode cJx4a65c_add_72be8 0 = .ok (.iload_n 3, 1) := by decide +kernel
theorem dJx4a65c_add_72be8_1 : decode cJx4a65c_add_72be8 1 = .ok (.aload_n 2, 1) := by decide +kernel
theorem dJx4a65c_add_72be8_2 : decode cJx4a65c_add_72be8 2 = .ok (.arraylength, 1) := by decide +kernel
theorem dJx4a65c_add_72be8_3 : decode cJx4a65c_add_72be8 3 = .ok (.if_icmp .ne 8, 3) := by decide +kernel
theorem dJx4a65c_add_72be8_6 : decode cJx4a65c_add_72be8 6 = .ok (.aload_n 0, 1) := by decide +kernel
theorem dJx4a65c_add_72be8_7 : decode cJx4a65c_add_72be8 7 = .ok (.invokevirtual 129, 3) := by decide +kernel
theorem dJx4a65c_add_72be8_10 : decode cJx4a65c_add_72be8 10 = .ok (.astore_n 2, 1) := by decide +kernel
theorem dJx4a65c_add_72be8_11 : decode cJx4a65c_add_72be8 11 = .ok (.aload_n 2, 1) := by decide +kernel
theorem dJx4a65c_add_72be8_12 : decode cJx4a65c_add_72be8 12 = .ok (.iload_n 3, 1) := by decide +kernel
theorem dJx4a65c_add_72be8_13 : decode cJx4a65c_add_72be8 13 = .ok (.aload_n 1, 1) := by decide +kernel
theorem dJx4a65c_add_72be8_14 : decode cJx4a65c_add_72be8 14 = .ok (.aastore, 1) := by decide +kernel
theorem dJx4a65c_add_72be8_15 : decode cJx4a65c_add_72be8 15 = .ok (.aload_n 0, 1) := by decide +kernel
theorem dJx4a65c_add_72be8_16 : decode cJx4a65c_add_72be8 16 = .ok (.iload_n 3, 1) := by decide +kernel
theorem dJx4a65c_add_72be8_17 : decode cJx4a65c_add_72be8 17 = .ok (.iconst 1, 1) := by decide +kernel
theorem dJx4a65c_add_72be8_18 : decode cJx4a65c_add_72be8 18 = .ok (.iadd, 1) := by decide +kernel
theorem dJx4a65c_add_72be8_19 : decode cJx4a65c_add_72be8 19 = .ok (.putfield 48, 3) := by decide +kernel
theorem dJx4a65c_add_72be8_22 : decode cJx4a65c_add_72be8 22 = .ok (.return_, 1) := by decide +kernel
theorem dJx4a65c_add_9ea2d_0 : decode cJx4a65c_add_9ea2d 0 = .ok (.aload_n 0, 1) := by decide +kernel
theorem dJx4a65c_add_9ea2d_1 : decode cJx4a65c_add_9ea2d 1 = .ok (.dup, 1) := by decide +kernel
theorem dJx4a65c_add_9ea2d_2 : decode cJx4a65c_add_9ea2d 2 = .ok (.getfield 63, 3) := by decide +kernel
theorem dJx4a65c_add_9ea2d_5 : decode cJx4a65c_add_9ea2d 5 = .ok (.iconst 1, 1) := by decide +kernel
theorem dJx4a65c_add_9ea2d_6 : decode cJx4a65c_add_9ea2d 6 = .ok (.iadd, 1) := by decide +kernel
theorem dJx4a65c_add_9ea2d_7 : decode cJx4a65c_add_9ea2d 7 = .ok (.putfield 63, 3) := by decide +kernel
theorem dJx4a65c_add_9ea2d_10 : decode cJx4a65c_add_9ea2d 10 = .ok (.aload_n 0, 1) := by decide +kernel
theorem dJx4a65c_add_9ea2d_11 : decode cJx4a65c_add_9ea2d 11 = .ok (.aload_n 1, 1) := by decide +kernel
theorem dJx4a65c_add_9ea2d_12 : decode cJx4a65c_add_9ea2d 12 = .ok (.aload_n 0, 1) := by decide +kernel
theorem dJx4a65c_add_9ea2d_13 : decode cJx4a65c_add_9ea2d 13 = .ok (.getfield 9, 3) := by decide +kernel
theorem dJx4a65c_add_9ea2d_16 : decode cJx4a65c_add_9ea2d 16 = .ok (.aload_n 0, 1) := by decide +kernel
theorem dJx4a65c_add_9ea2d_17 : decode cJx4a65c_add_9ea2d 17 = .ok (.getfield 48, 3) := by decide +kernel
theorem dJx4a65c_add_9ea2d_20 : decode cJx4a65c_add_9ea2d 20 = .ok (.invokevirtual 131, 3) := by decide +kernel
theorem dJx4a65c_add_9ea2d_23 : decode cJx4a65c_add_9ea2d 23 = .ok (.iconst 1, 1) := by decide +kernel
theorem dJx4a65c_add_9ea2d_24 : decode cJx4a65c_add_9ea2d 24 = .ok (.ireturn, 1) := by decide +kernel
theorem dJ7_fill_53178_0 : decode cJ7_fill_53178 0 = .ok (.iconst 0, 1) := by decide +kernel
theorem dJ7_fill_53178_1 : decode cJ7_fill_53178 1 = .ok (.istore_n 2, 1) := by decide +kernel
theorem dJ7_fill_53178_2 : decode cJ7_fill_53178 2 = .ok (.aload_n 0, 1) := by decide +kernel
theorem dJ7_fill_53178_3 : decode cJ7_fill_53178 3 = .ok (.arraylength, 1) := by decide +kernel
theorem dJ7_fill_53178_4 : decode cJ7_fill_53178 4 = .ok (.istore_n 3, 1) := by decide +kernel
theorem dJ7_fill_53178_5 : decode cJ7_fill_53178 5 = .ok (.iload_n 2, 1) := by decide +kernel
theorem dJ7_fill_53178_6 : decode cJ7_fill_53178 6 = .ok (.iload_n 3, 1) := by decide +kernel
theorem dJ7_fill_53178_7 : decode cJ7_fill_53178 7 = .ok (.if_icmp .ge 13, 3) := by decide +kernel
theorem dJ7_fill_53178_10 : decode cJ7_fill_53178 10 = .ok (.aload_n 0, 1) := by decide +kernel
theorem dJ7_fill_53178_11 : decode cJ7_fill_53178 11 = .ok (.iload_n 2, 1) := by decide +kernel
theorem dJ7_fill_53178_12 : decode cJ7_fill_53178 12 = .ok (.iload_n 1, 1) := by decide +kernel
theorem dJ7_fill_53178_13 : decode cJ7_fill_53178 13 = .ok (.iastore, 1) := by decide +kernel
theorem dJ7_fill_53178_14 : decode cJ7_fill_53178 14 = .ok (.iinc 2 1, 3) := by decide +kernel
theorem dJ7_fill_53178_17 : decode cJ7_fill_53178 17 = .ok (.goto (-12), 3) := by decide +kernel
theorem dJ7_fill_53178_20 : decode cJ7_fill_53178 20 = .ok (.return_, 1) := by decide +kernel
theorem dJ7_copyOf_1904c_0 : decode cJ7_copyOf_1904c 0 = .ok (.aload_n 0, 1) := by decide +kernel
theorem dJ7_copyOf_1904c_1 : decode cJ7_copyOf_1904c 1 = .ok (.iload_n 1, 1) := by decide +kernel
theorem dJ7_copyOf_1904c_2 : decode cJ7_copyOf_1904c 2 = .ok (.aload_n 0, 1) := by decide +kernel
theorem dJ7_copyOf_1904c_3 : decode cJ7_copyOf_1904c 3 = .ok (.invokevirtual 86, 3) := by decide +kernel
theorem dJ7_copyOf_1904c_6 : decode cJ7_copyOf_1904c 6 = .ok (.invokestatic 300, 3) := by decide +kernel
theorem dJ7_copyOf_1904c_9 : decode cJ7_copyOf_1904c 9 = .ok (.areturn, 1) := by decide +kernel
theorem dJ7_copyOf_6403c_0 : decode cJ7_copyOf_6403c 0 = .ok (.aload_n 2, 1) := by decide +kernel
theorem dJ7_copyOf_6403c_1 : decode cJ7_copyOf_6403c 1 = .ok (.ldc 110, 2) := by decide +kernel
theorem dJ7_copyOf_6403c_3 : decode cJ7_copyOf_6403c 3 = .ok (.if_acmp .ne 10, 3) := by decide +kernel
theorem dJ7_copyOf_6403c_6 : decode cJ7_copyOf_6403c 6 = .ok (.iload_n 1, 1) := by decide +kernel
theorem dJ7_copyOf_6403c_7 : decode cJ7_copyOf_6403c 7 = .ok (.anewarray 2, 3) := by decide +kernel
theorem dJ7_copyOf_6403c_10 : decode cJ7_copyOf_6403c 10 = .ok (.goto 14, 3) := by decide +kernel
theorem dJ7_copyOf_6403c_13 : decode cJ7_copyOf_6403c 13 = .ok (.aload_n 2, 1) := by decide +kernel
theorem dJ7_copyOf_6403c_14 : decode cJ7_copyOf_6403c 14 = .ok (.invokevirtual 90, 3) := by decide +kernel
theorem dJ7_copyOf_6403c_17 : decode cJ7_copyOf_6403c 17 = .ok (.iload_n 1, 1) := by decide +kernel
theorem dJ7_copyOf_6403c_18 : decode cJ7_copyOf_6403c 18 = .ok (.invokestatic 95, 3) := by decide +kernel
theorem dJ7_copyOf_6403c_21 : decode cJ7_copyOf_6403c 21 = .ok (.checkcast 110, 3) := by decide +kernel
theorem dJ7_copyOf_6403c_24 : decode cJ7_copyOf_6403c 24 = .ok (.astore_n 3, 1) := by decide +kernel
theorem dJ7_copyOf_6403c_25 : decode cJ7_copyOf_6403c 25 = .ok (.aload_n 0, 1) := by decide +kernel
theorem dJ7_copyOf_6403c_26 : decode cJ7_copyOf_6403c 26 = .ok (.iconst 0, 1) := by decide +kernel
theorem dJ7_copyOf_6403c_27 : decode cJ7_copyOf_6403c 27 = .ok (.aload_n 3, 1) := by decide +kernel
theorem dJ7_copyOf_6403c_28 : decode cJ7_copyOf_6403c 28 = .ok (.iconst 0, 1) := by decide +kernel
theorem dJ7_copyOf_6403c_29 : decode cJ7_copyOf_6403c 29 = .ok (.aload_n 0, 1) := by decide +kernel
theorem dJ7_copyOf_6403c_30 : decode cJ7_copyOf_6403c 30 = .ok (.arraylength, 1) := by decide +kernel
theorem dJ7_copyOf_6403c_31 : decode cJ7_copyOf_6403c 31 = .ok (.iload_n 1, 1) := by decide +kernel
theorem dJ7_copyOf_6403c_32 : decode cJ7_copyOf_6403c 32 = .ok (.invokestatic 304, 3) := by decide +kernel
theorem dJ7_copyOf_6403c_35 : decode cJ7_copyOf_6403c 35 = .ok (.invokestatic 150, 3) := by decide +kernel
theorem dJ7_copyOf_6403c_38 : decode cJ7_copyOf_6403c 38 = .ok (.aload_n 3, 1) := by decide +kernel
theorem dJ7_copyOf_6403c_39 : decode cJ7_copyOf_6403c 39 = .ok (.areturn, 1) := by decide +kernel
theorem dJ7_copyOf_9075b_0 : decode cJ7_copyOf_9075b 0 = .ok (.iload_n 1, 1) := by decide +kernel
theorem dJ7_copyOf_9075b_1 : decode cJ7_copyOf_9075b 1 = .ok (.aload_n 0, 1) := by decide +kernel
theorem dJ7_copyOf_9075b_2 : decode cJ7_copyOf_9075b 2 = .ok (.arraylength, 1) := by decide +kernel
theorem dJ7_copyOf_9075b_3 : decode cJ7_copyOf_9075b 3 = .ok (.if_icmp .ne 11, 3) := by decide +kernel
theorem dJ7_copyOf_9075b_6 : decode cJ7_copyOf_9075b 6 = .ok (.aload_n 0, 1) := by decide +kernel
theorem dJ7_copyOf_9075b_7 : decode cJ7_copyOf_9075b 7 = .ok (.invokevirtual 310, 3) := by decide +kernel
theorem dJ7_copyOf_9075b_10 : decode cJ7_copyOf_9075b 10 = .ok (.checkcast 311, 3) := by decide +kernel
theorem dJ7_copyOf_9075b_13 : decode cJ7_copyOf_9075b 13 = .ok (.areturn, 1) := by decide +kernel
theorem dJ7_copyOf_9075b_14 : decode cJ7_copyOf_9075b 14 = .ok (.iload_n 1, 1) := by decide +kernel
theorem dJ7_copyOf_9075b_15 : decode cJ7_copyOf_9075b 15 = .ok (.newarray .byte, 2) := by decide +kernel
theorem dJ7_copyOf_9075b_17 : decode cJ7_copyOf_9075b 17 = .ok (.astore_n 2, 1) := by decide +kernel
theorem dJ7_copyOf_9075b_18 : decode cJ7_copyOf_9075b 18 = .ok (.aload_n 0, 1) := by decide +kernel
theorem dJ7_copyOf_9075b_19 : decode cJ7_copyOf_9075b 19 = .ok (.iconst 0, 1) := by decide +kernel
theorem dJ7_copyOf_9075b_20 : decode cJ7_copyOf_9075b 20 = .ok (.aload_n 2, 1) := by decide +kernel
theorem dJ7_copyOf_9075b_21 : decode cJ7_copyOf_9075b 21 = .ok (.iconst 0, 1) := by decide +kernel
theorem dJ7_copyOf_9075b_22 : decode cJ7_copyOf_9075b 22 = .ok (.aload_n 0, 1) := by decide +kernel
theorem dJ7_copyOf_9075b_23 : decode cJ7_copyOf_9075b 23 = .ok (.arraylength, 1) := by decide +kernel
theorem dJ7_copyOf_9075b_24 : decode cJ7_copyOf_9075b 24 = .ok (.iload_n 1, 1) := by decide +kernel
theorem dJ7_copyOf_9075b_25 : decode cJ7_copyOf_9075b 25 = .ok (.invokestatic 304, 3) := by decide +kernel
theorem dJ7_copyOf_9075b_28 : decode cJ7_copyOf_9075b 28 = .ok (.invokestatic 150, 3) := by decide +kernel
theorem dJ7_copyOf_9075b_31 : decode cJ7_copyOf_9075b 31 = .ok (.aload_n 2, 1) := by decide +kernel
theorem dJ7_copyOf_9075b_32 : decode cJ7_copyOf_9075b 32 = .ok (.areturn, 1) := by decide +kernel
theorem dJ7_checkLength_df160_0 : decode cJ7_checkLength_df160 0 = .ok (.iload_n 1, 1) := by decide +kernel
theorem dJ7_checkLength_df160_1 : decode cJ7_checkLength_df160 1 = .ok (.iload_n 0, 1) := by decide +kernel
theorem dJ7_checkLength_df160_2 : decode cJ7_checkLength_df160 2 = .ok (.if_icmp .ge 35, 3) := by decide +kernel
theorem dJ7_checkLength_df160_5 : decode cJ7_checkLength_df160 5 = .ok (.new 43, 3) := by decide +kernel
theorem dJ7_checkLength_df160_8 : decode cJ7_checkLength_df160 8 = .ok (.dup, 1) := by decide +kernel
theorem dJ7_checkLength_df160_9 : decode cJ7_checkLength_df160 9 = .ok (.new 45, 3) := by decide +kernel
theorem dJ7_checkLength_df160_12 : decode cJ7_checkLength_df160 12 = .ok (.dup, 1) := by decide +kernel
theorem dJ7_checkLength_df160_13 : decode cJ7_checkLength_df160 13 = .ok (.invokespecial 47, 3) := by decide +kernel
theorem dJ7_checkLength_df160_16 : decode cJ7_checkLength_df160 16 = .ok (.iload_n 0, 1) := by decide +kernel
theorem dJ7_checkLength_df160_17 : decode cJ7_checkLength_df160 17 = .ok (.invokevirtual 54, 3) := by decide +kernel
theorem dJ7_checkLength_df160_20 : decode cJ7_checkLength_df160 20 = .ok (.ldc_w 337, 3) := by decide +kernel
theorem dJ7_checkLength_df160_23 : decode cJ7_checkLength_df160 23 = .ok (.invokevirtual 50, 3) := by decide +kernel
theorem dJ7_checkLength_df160_26 : decode cJ7_checkLength_df160 26 = .ok (.iload_n 1, 1) := by decide +kernel
theorem dJ7_checkLength_df160_27 : decode cJ7_checkLength_df160 27 = .ok (.invokevirtual 54, 3) := by decide +kernel
theorem dJ7_checkLength_df160_30 : decode cJ7_checkLength_df160 30 = .ok (.invokevirtual 61, 3) := by decide +kernel
theorem dJ7_checkLength_df160_33 : decode cJ7_checkLength_df160 33 = .ok (.invokespecial 65, 3) := by decide +kernel
theorem dJ7_checkLength_df160_36 : decode cJ7_checkLength_df160 36 = .ok (.athrow, 1) := by decide +kernel
theorem dJ7_checkLength_df160_37 : decode cJ7_checkLength_df160 37 = .ok (.return_, 1) := by decide +kernel
theorem dJ7_copyOfRange_39247_0 : decode cJ7_copyOfRange_39247 0 = .ok (.iload_n 1, 1) := by decide +kernel
theorem dJ7_copyOfRange_39247_1 : decode cJ7_copyOfRange_39247 1 = .ok (.ifCond .ne 9, 3) := by decide +kernel
theorem dJ7_copyOfRange_39247_4 : decode cJ7_copyOfRange_39247 4 = .ok (.iload_n 2, 1) := by decide +kernel
theorem dJ7_copyOfRange_39247_5 : decode cJ7_copyOfRange_39247 5 = .ok (.aload_n 0, 1) := by decide +kernel
theorem dJ7_copyOfRange_39247_6 : decode cJ7_copyOfRange_39247 6 = .ok (.arraylength, 1) := by decide +kernel
theorem dJ7_copyOfRange_39247_7 : decode cJ7_copyOfRange_39247 7 = .ok (.if_icmp .eq 10, 3) := by decide +kernel
theorem dJ7_copyOfRange_39247_10 : decode cJ7_copyOfRange_39247 10 = .ok (.aload_n 0, 1) := by decide +kernel
theorem dJ7_copyOfRange_39247_11 : decode cJ7_copyOfRange_39247 11 = .ok (.iload_n 1, 1) := by decide +kernel
theorem dJ7_copyOfRange_39247_12 : decode cJ7_copyOfRange_39247 12 = .ok (.iload_n 2, 1) := by decide +kernel
theorem dJ7_copyOfRange_39247_13 : decode cJ7_copyOfRange_39247 13 = .ok (.invokestatic 339, 3) := by decide +kernel
theorem dJ7_copyOfRange_39247_16 : decode cJ7_copyOfRange_39247 16 = .ok (.areturn, 1) := by decide +kernel
theorem dJ7_copyOfRange_39247_17 : decode cJ7_copyOfRange_39247 17 = .ok (.aload_n 0, 1) := by decide +kernel
theorem dJ7_copyOfRange_39247_18 : decode cJ7_copyOfRange_39247 18 = .ok (.invokevirtual 310, 3) := by decide +kernel
theorem dJ7_copyOfRange_39247_21 : decode cJ7_copyOfRange_39247 21 = .ok (.checkcast 311, 3) := by decide +kernel
theorem dJ7_copyOfRange_39247_24 : decode cJ7_copyOfRange_39247 24 = .ok (.areturn, 1) := by decide +kernel
theorem dJ7_copyOfRangeByte_39247_0 : decode cJ7_copyOfRangeByte_39247 0 = .ok (.iload_n 1, 1) := by decide +kernel
theorem dJ7_copyOfRangeByte_39247_1 : decode cJ7_copyOfRangeByte_39247 1 = .ok (.iload_n 2, 1) := by decide +kernel
theorem dJ7_copyOfRangeByte_39247_2 : decode cJ7_copyOfRangeByte_39247 2 = .ok (.invokestatic 343, 3) := by decide +kernel
theorem dJ7_copyOfRangeByte_39247_5 : decode cJ7_copyOfRangeByte_39247 5 = .ok (.iload_n 2, 1) := by decide +kernel
theorem dJ7_copyOfRangeByte_39247_6 : decode cJ7_copyOfRangeByte_39247 6 = .ok (.iload_n 1, 1) := by decide +kernel
theorem dJ7_copyOfRangeByte_39247_7 : decode cJ7_copyOfRangeByte_39247 7 = .ok (.isub, 1) := by decide +kernel
theorem dJ7_copyOfRangeByte_39247_8 : decode cJ7_copyOfRangeByte_39247 8 = .ok (.istore_n 3, 1) := by decide +kernel
theorem dJ7_copyOfRangeByte_39247_9 : decode cJ7_copyOfRangeByte_39247 9 = .ok (.iload_n 3, 1) := by decide +kernel
theorem dJ7_copyOfRangeByte_39247_10 : decode cJ7_copyOfRangeByte_39247 10 = .ok (.newarray .byte, 2) := by decide +kernel
theorem dJ7_copyOfRangeByte_39247_12 : decode cJ7_copyOfRangeByte_39247 12 = .ok (.astore 4, 2) := by decide +kernel
theorem dJ7_copyOfRangeByte_39247_14 : decode cJ7_copyOfRangeByte_39247 14 = .ok (.aload_n 0, 1) := by decide +kernel
theorem dJ7_copyOfRangeByte_39247_15 : decode cJ7_copyOfRangeByte_39247 15 = .ok (.iload_n 1, 1) := by decide +kernel
theorem dJ7_copyOfRangeByte_39247_16 : decode cJ7_copyOfRangeByte_39247 16 = .ok (.aload 4, 2) := by decide +kernel
theorem dJ7_copyOfRangeByte_39247_18 : decode cJ7_copyOfRangeByte_39247 18 = .ok (.iconst 0, 1) := by decide +kernel
theorem dJ7_copyOfRangeByte_39247_19 : decode cJ7_copyOfRangeByte_39247 19 = .ok (.aload_n 0, 1) := by decide +kernel
theorem dJ7_copyOfRangeByte_39247_20 : decode cJ7_copyOfRangeByte_39247 20 = .ok (.arraylength, 1) := by decide +kernel
theorem dJ7_copyOfRangeByte_39247_21 : decode cJ7_copyOfRangeByte_39247 21 = .ok (.iload_n 1, 1) := by decide +kernel
theorem dJ7_copyOfRangeByte_39247_22 : decode cJ7_copyOfRangeByte_39247 22 = .ok (.isub, 1) := by decide +kernel
theorem dJ7_copyOfRangeByte_39247_23 : decode cJ7_copyOfRangeByte_39247 23 = .ok (.iload_n 3, 1) := by decide +kernel
theorem dJ7_copyOfRangeByte_39247_24 : decode cJ7_copyOfRangeByte_39247 24 = .ok (.invokestatic 304, 3) := by decide +kernel
theorem dJ7_copyOfRangeByte_39247_27 : decode cJ7_copyOfRangeByte_39247 27 = .ok (.invokestatic 150, 3) := by decide +kernel
theorem dJ7_copyOfRangeByte_39247_30 : decode cJ7_copyOfRangeByte_39247 30 = .ok (.aload 4, 2) := by decide +kernel
theorem dJ7_copyOfRangeByte_39247_32 : decode cJ7_copyOfRangeByte_39247 32 = .ok (.areturn, 1) := by decide +kernel
theorem dJ15_checkIndex_7cf53_0 : decode cJ15_checkIndex_7cf53 0 = .ok (.iload_n 0, 1) := by decide +kernel
theorem dJ15_checkIndex_7cf53_1 : decode cJ15_checkIndex_7cf53 1 = .ok (.iload_n 1, 1) := by decide +kernel
theorem dJ15_checkIndex_7cf53_2 : decode cJ15_checkIndex_7cf53 2 = .ok (.aconst_null, 1) := by decide +kernel
theorem dJ15_checkIndex_7cf53_3 : decode cJ15_checkIndex_7cf53 3 = .ok (.invokestatic 105, 3) := by decide +kernel
theorem dJ15_checkIndex_7cf53_6 : decode cJ15_checkIndex_7cf53 6 = .ok (.ireturn, 1) := by decide +kernel
theorem dJ8_newLength_cabcc_0 : decode cJ8_newLength_cabcc 0 = .ok (.iload_n 0, 1) := by decide +kernel
theorem dJ8_newLength_cabcc_1 : decode cJ8_newLength_cabcc 1 = .ok (.iload_n 1, 1) := by decide +kernel
theorem dJ8_newLength_cabcc_2 : decode cJ8_newLength_cabcc 2 = .ok (.iload_n 2, 1) := by decide +kernel
theorem dJ8_newLength_cabcc_3 : decode cJ8_newLength_cabcc 3 = .ok (.invokestatic 194, 3) := by decide +kernel
theorem dJ8_newLength_cabcc_6 : decode cJ8_newLength_cabcc 6 = .ok (.iadd, 1) := by decide +kernel
theorem dJ8_newLength_cabcc_7 : decode cJ8_newLength_cabcc 7 = .ok (.istore_n 3, 1) := by decide +kernel
theorem dJ8_newLength_cabcc_8 : decode cJ8_newLength_cabcc 8 = .ok (.iconst 0, 1) := by decide +kernel
theorem dJ8_newLength_cabcc_9 : decode cJ8_newLength_cabcc 9 = .ok (.iload_n 3, 1) := by decide +kernel
theorem dJ8_newLength_cabcc_10 : decode cJ8_newLength_cabcc 10 = .ok (.if_icmp .ge 11, 3) := by decide +kernel
theorem dJ8_newLength_cabcc_13 : decode cJ8_newLength_cabcc 13 = .ok (.iload_n 3, 1) := by decide +kernel
theorem dJ8_newLength_cabcc_14 : decode cJ8_newLength_cabcc 14 = .ok (.ldc 200, 2) := by decide +kernel
theorem dJ8_newLength_cabcc_16 : decode cJ8_newLength_cabcc 16 = .ok (.if_icmp .gt 5, 3) := by decide +kernel
theorem dJ8_newLength_cabcc_19 : decode cJ8_newLength_cabcc 19 = .ok (.iload_n 3, 1) := by decide +kernel
theorem dJ8_newLength_cabcc_20 : decode cJ8_newLength_cabcc 20 = .ok (.ireturn, 1) := by decide +kernel
theorem dJ8_newLength_cabcc_21 : decode cJ8_newLength_cabcc 21 = .ok (.iload_n 0, 1) := by decide +kernel
theorem dJ8_newLength_cabcc_22 : decode cJ8_newLength_cabcc 22 = .ok (.iload_n 1, 1) := by decide +kernel
theorem dJ8_newLength_cabcc_23 : decode cJ8_newLength_cabcc 23 = .ok (.invokestatic 201, 3) := by decide +kernel
theorem dJ8_newLength_cabcc_26 : decode cJ8_newLength_cabcc 26 = .ok (.ireturn, 1) := by decide +kernel
theorem dJ8_hugeLength_7cf53_0 : decode cJ8_hugeLength_7cf53 0 = .ok (.iload_n 0, 1) := by decide +kernel
theorem dJ8_hugeLength_7cf53_1 : decode cJ8_hugeLength_7cf53 1 = .ok (.iload_n 1, 1) := by decide +kernel
theorem dJ8_hugeLength_7cf53_2 : decode cJ8_hugeLength_7cf53 2 = .ok (.iadd, 1) := by decide +kernel
theorem dJ8_hugeLength_7cf53_3 : decode cJ8_hugeLength_7cf53 3 = .ok (.istore_n 2, 1) := by decide +kernel
theorem dJ8_hugeLength_7cf53_4 : decode cJ8_hugeLength_7cf53 4 = .ok (.iload_n 2, 1) := by decide +kernel
theorem dJ8_hugeLength_7cf53_5 : decode cJ8_hugeLength_7cf53 5 = .ok (.ifCond .ge 44, 3) := by decide +kernel
theorem dJ8_hugeLength_7cf53_8 : decode cJ8_hugeLength_7cf53 8 = .ok (.new 204, 3) := by decide +kernel
theorem dJ8_hugeLength_7cf53_11 : decode cJ8_hugeLength_7cf53 11 = .ok (.dup, 1) := by decide +kernel
theorem dJ8_hugeLength_7cf53_12 : decode cJ8_hugeLength_7cf53 12 = .ok (.new 89, 3) := by decide +kernel
theorem dJ8_hugeLength_7cf53_15 : decode cJ8_hugeLength_7cf53 15 = .ok (.dup, 1) := by decide +kernel
theorem dJ8_hugeLength_7cf53_16 : decode cJ8_hugeLength_7cf53 16 = .ok (.invokespecial 91, 3) := by decide +kernel
theorem dJ8_hugeLength_7cf53_19 : decode cJ8_hugeLength_7cf53 19 = .ok (.ldc 206, 2) := by decide +kernel
theorem dJ8_hugeLength_7cf53_21 : decode cJ8_hugeLength_7cf53 21 = .ok (.invokevirtual 94, 3) := by decide +kernel
theorem dJ8_hugeLength_7cf53_24 : decode cJ8_hugeLength_7cf53 24 = .ok (.iload_n 0, 1) := by decide +kernel
theorem dJ8_hugeLength_7cf53_25 : decode cJ8_hugeLength_7cf53 25 = .ok (.invokevirtual 98, 3) := by decide +kernel
theorem dJ8_hugeLength_7cf53_28 : decode cJ8_hugeLength_7cf53 28 = .ok (.ldc 208, 2) := by decide +kernel
theorem dJ8_hugeLength_7cf53_30 : decode cJ8_hugeLength_7cf53 30 = .ok (.invokevirtual 94, 3) := by decide +kernel
theorem dJ8_hugeLength_7cf53_33 : decode cJ8_hugeLength_7cf53 33 = .ok (.iload_n 1, 1) := by decide +kernel
theorem dJ8_hugeLength_7cf53_34 : decode cJ8_hugeLength_7cf53 34 = .ok (.invokevirtual 98, 3) := by decide +kernel
theorem dJ8_hugeLength_7cf53_37 : decode cJ8_hugeLength_7cf53 37 = .ok (.ldc 210, 2) := by decide +kernel
theorem dJ8_hugeLength_7cf53_39 : decode cJ8_hugeLength_7cf53 39 = .ok (.invokevirtual 94, 3) := by decide +kernel
theorem dJ8_hugeLength_7cf53_42 : decode cJ8_hugeLength_7cf53 42 = .ok (.invokevirtual 101, 3) := by decide +kernel
theorem dJ8_hugeLength_7cf53_45 : decode cJ8_hugeLength_7cf53 45 = .ok (.invokespecial 212, 3) := by decide +kernel
theorem dJ8_hugeLength_7cf53_48 : decode cJ8_hugeLength_7cf53 48 = .ok (.athrow, 1) := by decide +kernel
theorem dJ8_hugeLength_7cf53_49 : decode cJ8_hugeLength_7cf53 49 = .ok (.iload_n 2, 1) := by decide +kernel
theorem dJ8_hugeLength_7cf53_50 : decode cJ8_hugeLength_7cf53 50 = .ok (.ldc 200, 2) := by decide +kernel
theorem dJ8_hugeLength_7cf53_52 : decode cJ8_hugeLength_7cf53 52 = .ok (.if_icmp .gt 6, 3) := by decide +kernel
theorem dJ8_hugeLength_7cf53_55 : decode cJ8_hugeLength_7cf53 55 = .ok (.ldc 200, 2) := by decide +kernel
theorem dJ8_hugeLength_7cf53_57 : decode cJ8_hugeLength_7cf53 57 = .ok (.ireturn, 1) := by decide +kernel
theorem dJ8_hugeLength_7cf53_58 : decode cJ8_hugeLength_7cf53 58 = .ok (.iload_n 2, 1) := by decide +kernel
theorem dJ8_hugeLength_7cf53_59 : decode cJ8_hugeLength_7cf53 59 = .ok (.ireturn, 1) := by decide +kernel
theorem dJ3_checkIndex_8e157_0 : decode cJ3_checkIndex_8e157 0 = .ok (.iload_n 0, 1) := by decide +kernel
theorem dJ3_checkIndex_8e157_1 : decode cJ3_checkIndex_8e157 1 = .ok (.ifCond .lt 8, 3) := by decide +kernel
theorem dJ3_checkIndex_8e157_4 : decode cJ3_checkIndex_8e157 4 = .ok (.iload_n 0, 1) := by decide +kernel
theorem dJ3_checkIndex_8e157_5 : decode cJ3_checkIndex_8e157 5 = .ok (.iload_n 1, 1) := by decide +kernel
theorem dJ3_checkIndex_8e157_6 : decode cJ3_checkIndex_8e157 6 = .ok (.if_icmp .lt 10, 3) := by decide +kernel
theorem dJ3_checkIndex_8e157_9 : decode cJ3_checkIndex_8e157 9 = .ok (.aload_n 2, 1) := by decide +kernel
theorem dJ3_checkIndex_8e157_10 : decode cJ3_checkIndex_8e157 10 = .ok (.iload_n 0, 1) := by decide +kernel
theorem dJ3_checkIndex_8e157_11 : decode cJ3_checkIndex_8e157 11 = .ok (.iload_n 1, 1) := by decide +kernel
theorem dJ3_checkIndex_8e157_12 : decode cJ3_checkIndex_8e157 12 = .ok (.invokestatic 95, 3) := by decide +kernel
theorem dJ3_checkIndex_8e157_15 : decode cJ3_checkIndex_8e157 15 = .ok (.athrow, 1) := by decide +kernel
theorem dJ3_checkIndex_8e157_16 : decode cJ3_checkIndex_8e157 16 = .ok (.iload_n 0, 1) := by decide +kernel
theorem dJ3_checkIndex_8e157_17 : decode cJ3_checkIndex_8e157 17 = .ok (.ireturn, 1) := by decide +kernel
theorem dJ3_checkFromToIndex_8c36e_0 : decode cJ3_checkFromToIndex_8c36e 0 = .ok (.iload_n 0, 1) := by decide +kernel
theorem dJ3_checkFromToIndex_8c36e_1 : decode cJ3_checkFromToIndex_8c36e 1 = .ok (.ifCond .lt 13, 3) := by decide +kernel
theorem dJ3_checkFromToIndex_8c36e_4 : decode cJ3_checkFromToIndex_8c36e 4 = .ok (.iload_n 0, 1) := by decide +kernel
theorem dJ3_checkFromToIndex_8c36e_5 : decode cJ3_checkFromToIndex_8c36e 5 = .ok (.iload_n 1, 1) := by decide +kernel
theorem dJ3_checkFromToIndex_8c36e_6 : decode cJ3_checkFromToIndex_8c36e 6 = .ok (.if_icmp .gt 8, 3) := by decide +kernel
theorem dJ3_checkFromToIndex_8c36e_9 : decode cJ3_checkFromToIndex_8c36e 9 = .ok (.iload_n 1, 1) := by decide +kernel
theorem dJ3_checkFromToIndex_8c36e_10 : decode cJ3_checkFromToIndex_8c36e 10 = .ok (.iload_n 2, 1) := by decide +kernel
theorem dJ3_checkFromToIndex_8c36e_11 : decode cJ3_checkFromToIndex_8c36e 11 = .ok (.if_icmp .le 11, 3) := by decide +kernel
theorem dJ3_checkFromToIndex_8c36e_14 : decode cJ3_checkFromToIndex_8c36e 14 = .ok (.aload_n 3, 1) := by decide +kernel
theorem dJ3_checkFromToIndex_8c36e_15 : decode cJ3_checkFromToIndex_8c36e 15 = .ok (.iload_n 0, 1) := by decide +kernel
theorem dJ3_checkFromToIndex_8c36e_16 : decode cJ3_checkFromToIndex_8c36e 16 = .ok (.iload_n 1, 1) := by decide +kernel
theorem dJ3_checkFromToIndex_8c36e_17 : decode cJ3_checkFromToIndex_8c36e 17 = .ok (.iload_n 2, 1) := by decide +kernel
theorem dJ3_checkFromToIndex_8c36e_18 : decode cJ3_checkFromToIndex_8c36e 18 = .ok (.invokestatic 99, 3) := by decide +kernel
theorem dJ3_checkFromToIndex_8c36e_21 : decode cJ3_checkFromToIndex_8c36e 21 = .ok (.athrow, 1) := by decide +kernel
theorem dJ3_checkFromToIndex_8c36e_22 : decode cJ3_checkFromToIndex_8c36e 22 = .ok (.iload_n 0, 1) := by decide +kernel
theorem dJ3_checkFromToIndex_8c36e_23 : decode cJ3_checkFromToIndex_8c36e 23 = .ok (.ireturn, 1) := by decide +kernel
theorem dJ3_checkFromIndexSize_8c36e_0 : decode cJ3_checkFromIndexSize_8c36e 0 = .ok (.iload_n 2, 1) := by decide +kernel
theorem dJ3_checkFromIndexSize_8c36e_1 : decode cJ3_checkFromIndexSize_8c36e 1 = .ok (.iload_n 0, 1) := by decide +kernel
theorem dJ3_checkFromIndexSize_8c36e_2 : decode cJ3_checkFromIndexSize_8c36e 2 = .ok (.ior, 1) := by decide +kernel
theorem dJ3_checkFromIndexSize_8c36e_3 : decode cJ3_checkFromIndexSize_8c36e 3 = .ok (.iload_n 1, 1) := by decide +kernel
theorem dJ3_checkFromIndexSize_8c36e_4 : decode cJ3_checkFromIndexSize_8c36e 4 = .ok (.ior, 1) := by decide +kernel
theorem dJ3_checkFromIndexSize_8c36e_5 : decode cJ3_checkFromIndexSize_8c36e 5 = .ok (.ifCond .lt 10, 3) := by decide +kernel
theorem dJ3_checkFromIndexSize_8c36e_8 : decode cJ3_checkFromIndexSize_8c36e 8 = .ok (.iload_n 1, 1) := by decide +kernel
theorem dJ3_checkFromIndexSize_8c36e_9 : decode cJ3_checkFromIndexSize_8c36e 9 = .ok (.iload_n 2, 1) := by decide +kernel
theorem dJ3_checkFromIndexSize_8c36e_10 : decode cJ3_checkFromIndexSize_8c36e 10 = .ok (.iload_n 0, 1) := by decide +kernel
theorem dJ3_checkFromIndexSize_8c36e_11 : decode cJ3_checkFromIndexSize_8c36e 11 = .ok (.isub, 1) := by decide +kernel
theorem dJ3_checkFromIndexSize_8c36e_12 : decode cJ3_checkFromIndexSize_8c36e 12 = .ok (.if_icmp .le 11, 3) := by decide +kernel
theorem dJ3_checkFromIndexSize_8c36e_15 : decode cJ3_checkFromIndexSize_8c36e 15 = .ok (.aload_n 3, 1) := by decide +kernel
theorem dJ3_checkFromIndexSize_8c36e_16 : decode cJ3_checkFromIndexSize_8c36e 16 = .ok (.iload_n 0, 1) := by decide +kernel
theorem dJ3_checkFromIndexSize_8c36e_17 : decode cJ3_checkFromIndexSize_8c36e 17 = .ok (.iload_n 1, 1) := by decide +kernel
theorem dJ3_checkFromIndexSize_8c36e_18 : decode cJ3_checkFromIndexSize_8c36e 18 = .ok (.iload_n 2, 1) := by decide +kernel
theorem dJ3_checkFromIndexSize_8c36e_19 : decode cJ3_checkFromIndexSize_8c36e 19 = .ok (.invokestatic 103, 3) := by decide +kernel
theorem dJ3_checkFromIndexSize_8c36e_22 : decode cJ3_checkFromIndexSize_8c36e 22 = .ok (.athrow, 1) := by decide +kernel
theorem dJ3_checkFromIndexSize_8c36e_23 : decode cJ3_checkFromIndexSize_8c36e 23 = .ok (.iload_n 0, 1) := by decide +kernel
theorem dJ3_checkFromIndexSize_8c36e_24 : decode cJ3_checkFromIndexSize_8c36e 24 = .ok (.ireturn, 1) := by decide +kernel
theorem dL_below_0 : decode cL_below 0 = .ok (.iload_n 0, 1) := by decide +kernel
theorem dL_below_1 : decode cL_below 1 = .ok (.ldc 7, 2) := by decide +kernel
theorem dL_below_3 : decode cL_below 3 = .ok (.iand, 1) := by decide +kernel
theorem dL_below_4 : decode cL_below 4 = .ok (.iload_n 1, 1) := by decide +kernel
theorem dL_below_5 : decode cL_below 5 = .ok (.irem, 1) := by decide +kernel
theorem dL_below_6 : decode cL_below 6 = .ok (.ireturn, 1) := by decide +kernel
theorem dL_cell_0 : decode cL_cell 0 = .ok (.iload_n 1, 1) := by decide +kernel
theorem dL_cell_1 : decode cL_cell 1 = .ok (.aload_n 0, 1) := by decide +kernel
theorem dL_cell_2 : decode cL_cell 2 = .ok (.arraylength, 1) := by decide +kernel
theorem dL_cell_3 : decode cL_cell 3 = .ok (.if_icmp .ge 9, 3) := by decide +kernel
theorem dL_cell_6 : decode cL_cell 6 = .ok (.aload_n 0, 1) := by decide +kernel
theorem dL_cell_7 : decode cL_cell 7 = .ok (.iload_n 1, 1) := by decide +kernel
theorem dL_cell_8 : decode cL_cell 8 = .ok (.iaload, 1) := by decide +kernel
theorem dL_cell_9 : decode cL_cell 9 = .ok (.goto 9, 3) := by decide +kernel
theorem dL_cell_12 : decode cL_cell 12 = .ok (.ldc 8, 2) := by decide +kernel
theorem dL_cell_14 : decode cL_cell 14 = .ok (.iload_n 1, 1) := by decide +kernel
theorem dL_cell_15 : decode cL_cell 15 = .ok (.iconst 3, 1) := by decide +kernel
theorem dL_cell_16 : decode cL_cell 16 = .ok (.iadd, 1) := by decide +kernel
theorem dL_cell_17 : decode cL_cell 17 = .ok (.imul, 1) := by decide +kernel
theorem dL_cell_18 : decode cL_cell 18 = .ok (.ireturn, 1) := by decide +kernel
theorem dL_word_0 : decode cL_word 0 = .ok (.iconst 2, 1) := by decide +kernel
theorem dL_word_1 : decode cL_word 1 = .ok (.iload_n 0, 1) := by decide +kernel
theorem dL_word_2 : decode cL_word 2 = .ok (.bipush 9, 2) := by decide +kernel
theorem dL_word_4 : decode cL_word 4 = .ok (.ishr, 1) := by decide +kernel
theorem dL_word_5 : decode cL_word 5 = .ok (.iconst 4, 1) := by decide +kernel
theorem dL_word_6 : decode cL_word 6 = .ok (.invokestatic 9, 3) := by decide +kernel
theorem dL_word_9 : decode cL_word 9 = .ok (.iadd, 1) := by decide +kernel
theorem dL_word_10 : decode cL_word 10 = .ok (.istore_n 1, 1) := by decide +kernel
theorem dL_word_11 : decode cL_word 11 = .ok (.iconst 0, 1) := by decide +kernel
theorem dL_word_12 : decode cL_word 12 = .ok (.istore_n 2, 1) := by decide +kernel
theorem dL_word_13 : decode cL_word 13 = .ok (.iconst 1, 1) := by decide +kernel
theorem dL_word_14 : decode cL_word 14 = .ok (.iload_n 0, 1) := by decide +kernel
theorem dL_word_15 : decode cL_word 15 = .ok (.bipush 8, 2) := by decide +kernel
theorem dL_word_17 : decode cL_word 17 = .ok (.invokestatic 9, 3) := by decide +kernel
theorem dL_word_20 : decode cL_word 20 = .ok (.iadd, 1) := by decide +kernel
theorem dL_word_21 : decode cL_word 21 = .ok (.istore_n 3, 1) := by decide +kernel
theorem dL_word_22 : decode cL_word 22 = .ok (.iload_n 3, 1) := by decide +kernel
theorem dL_word_23 : decode cL_word 23 = .ok (.ifCond .le 39, 3) := by decide +kernel
theorem dL_word_26 : decode cL_word 26 = .ok (.bipush 10, 2) := by decide +kernel
theorem dL_word_28 : decode cL_word 28 = .ok (.iload_n 2, 1) := by decide +kernel
theorem dL_word_29 : decode cL_word 29 = .ok (.imul, 1) := by decide +kernel
theorem dL_word_30 : decode cL_word 30 = .ok (.iload_n 0, 1) := by decide +kernel
theorem dL_word_31 : decode cL_word 31 = .ok (.iconst 2, 1) := by decide +kernel
theorem dL_word_32 : decode cL_word 32 = .ok (.iload_n 3, 1) := by decide +kernel
theorem dL_word_33 : decode cL_word 33 = .ok (.imul, 1) := by decide +kernel
theorem dL_word_34 : decode cL_word 34 = .ok (.ishr, 1) := by decide +kernel
theorem dL_word_35 : decode cL_word 35 = .ok (.iload_n 0, 1) := by decide +kernel
theorem dL_word_36 : decode cL_word 36 = .ok (.iconst 5, 1) := by decide +kernel
theorem dL_word_37 : decode cL_word 37 = .ok (.ishr, 1) := by decide +kernel
theorem dL_word_38 : decode cL_word 38 = .ok (.iconst 3, 1) := by decide +kernel
theorem dL_word_39 : decode cL_word 39 = .ok (.invokestatic 9, 3) := by decide +kernel
theorem dL_word_42 : decode cL_word 42 = .ok (.ifCond .ne 8, 3) := by decide +kernel
theorem dL_word_45 : decode cL_word 45 = .ok (.bipush 10, 2) := by decide +kernel
theorem dL_word_47 : decode cL_word 47 = .ok (.goto 4, 3) := by decide +kernel
theorem dL_word_50 : decode cL_word 50 = .ok (.iload_n 1, 1) := by decide +kernel
theorem dL_word_51 : decode cL_word 51 = .ok (.invokestatic 9, 3) := by decide +kernel
theorem dL_word_54 : decode cL_word 54 = .ok (.iadd, 1) := by decide +kernel
theorem dL_word_55 : decode cL_word 55 = .ok (.istore_n 2, 1) := by decide +kernel
theorem dL_word_56 : decode cL_word 56 = .ok (.iinc 3 (-1), 3) := by decide +kernel
theorem dL_word_59 : decode cL_word 59 = .ok (.goto (-37), 3) := by decide +kernel
theorem dL_word_62 : decode cL_word 62 = .ok (.iload_n 2, 1) := by decide +kernel
theorem dL_word_63 : decode cL_word 63 = .ok (.ireturn, 1) := by decide +kernel
theorem dL_act_0 : decode cL_act 0 = .ok (.iload_n 2, 1) := by decide +kernel
theorem dL_act_1 : decode cL_act 1 = .ok (.iconst 4, 1) := by decide +kernel
theorem dL_act_2 : decode cL_act 2 = .ok (.ishr, 1) := by decide +kernel
theorem dL_act_3 : decode cL_act 3 = .ok (.aload_n 1, 1) := by decide +kernel
theorem dL_act_4 : decode cL_act 4 = .ok (.getfield 15, 3) := by decide +kernel
theorem dL_act_7 : decode cL_act 7 = .ok (.arraylength, 1) := by decide +kernel
theorem dL_act_8 : decode cL_act 8 = .ok (.invokestatic 9, 3) := by decide +kernel
theorem dL_act_11 : decode cL_act 11 = .ok (.istore_n 3, 1) := by decide +kernel
theorem dL_act_12 : decode cL_act 12 = .ok (.iload_n 2, 1) := by decide +kernel
theorem dL_act_13 : decode cL_act 13 = .ok (.bipush 6, 2) := by decide +kernel
theorem dL_act_15 : decode cL_act 15 = .ok (.ishr, 1) := by decide +kernel
theorem dL_act_16 : decode cL_act 16 = .ok (.iload_n 2, 1) := by decide +kernel
theorem dL_act_17 : decode cL_act 17 = .ok (.iconst 3, 1) := by decide +kernel
theorem dL_act_18 : decode cL_act 18 = .ok (.invokestatic 9, 3) := by decide +kernel
theorem dL_act_21 : decode cL_act 21 = .ok (.ifCond .ne 8, 3) := by decide +kernel
theorem dL_act_24 : decode cL_act 24 = .ok (.bipush 10, 2) := by decide +kernel
theorem dL_act_26 : decode cL_act 26 = .ok (.goto 4, 3) := by decide +kernel
theorem dL_act_29 : decode cL_act 29 = .ok (.iconst 4, 1) := by decide +kernel
theorem dL_act_30 : decode cL_act 30 = .ok (.invokestatic 9, 3) := by decide +kernel
theorem dL_act_33 : decode cL_act 33 = .ok (.istore 4, 2) := by decide +kernel
theorem dL_act_35 : decode cL_act 35 = .ok (.aload_n 1, 1) := by decide +kernel
theorem dL_act_36 : decode cL_act 36 = .ok (.getfield 21, 3) := by decide +kernel
theorem dL_act_39 : decode cL_act 39 = .ok (.arraylength, 1) := by decide +kernel
theorem dL_act_40 : decode cL_act 40 = .ok (.ifCond .ne 7, 3) := by decide +kernel
theorem dL_act_43 : decode cL_act 43 = .ok (.iconst 0, 1) := by decide +kernel
theorem dL_act_44 : decode cL_act 44 = .ok (.goto 14, 3) := by decide +kernel
theorem dL_act_47 : decode cL_act 47 = .ok (.iload_n 2, 1) := by decide +kernel
theorem dL_act_48 : decode cL_act 48 = .ok (.iconst 4, 1) := by decide +kernel
theorem dL_act_49 : decode cL_act 49 = .ok (.ishr, 1) := by decide +kernel
theorem dL_act_50 : decode cL_act 50 = .ok (.aload_n 1, 1) := by decide +kernel
theorem dL_act_51 : decode cL_act 51 = .ok (.getfield 21, 3) := by decide +kernel
theorem dL_act_54 : decode cL_act 54 = .ok (.arraylength, 1) := by decide +kernel
theorem dL_act_55 : decode cL_act 55 = .ok (.invokestatic 9, 3) := by decide +kernel
theorem dL_act_58 : decode cL_act 58 = .ok (.istore 5, 2) := by decide +kernel
theorem dL_act_60 : decode cL_act 60 = .ok (.aload_n 1, 1) := by decide +kernel
theorem dL_act_61 : decode cL_act 61 = .ok (.getfield 21, 3) := by decide +kernel
theorem dL_act_64 : decode cL_act 64 = .ok (.arraylength, 1) := by decide +kernel
theorem dL_act_65 : decode cL_act 65 = .ok (.ifCond .ne 13, 3) := by decide +kernel
theorem dL_act_68 : decode cL_act 68 = .ok (.new 25, 3) := by decide +kernel
theorem dL_act_71 : decode cL_act 71 = .ok (.dup, 1) := by decide +kernel
theorem dL_act_72 : decode cL_act 72 = .ok (.invokespecial 27, 3) := by decide +kernel
theorem dL_act_75 : decode cL_act 75 = .ok (.goto 10, 3) := by decide +kernel
theorem dL_act_78 : decode cL_act 78 = .ok (.aload_n 1, 1) := by decide +kernel
theorem dL_act_79 : decode cL_act 79 = .ok (.getfield 21, 3) := by decide +kernel
theorem dL_act_82 : decode cL_act 82 = .ok (.iload 5, 2) := by decide +kernel
theorem dL_act_84 : decode cL_act 84 = .ok (.aaload, 1) := by decide +kernel
theorem dL_act_85 : decode cL_act 85 = .ok (.astore 6, 2) := by decide +kernel
theorem dL_act_87 : decode cL_act 87 = .ok (.iload_n 2, 1) := by decide +kernel
theorem dL_act_88 : decode cL_act 88 = .ok (.bipush 16, 2) := by decide +kernel
theorem dL_act_90 : decode cL_act 90 = .ok (.invokestatic 9, 3) := by decide +kernel
theorem dL_act_93 : decode cL_act 93 = .ok (.tableswitch 707 0 14 #[75, 176, 176, 235, 332, 461, 461, 563, 563, 563, 563, 610, 610, 610, 676], 75) := by decide +kernel
theorem dL_act_168 : decode cL_act 168 = .ok (.iconst 1, 1) := by decide +kernel
theorem dL_act_169 : decode cL_act 169 = .ok (.iload_n 2, 1) := by decide +kernel
theorem dL_act_170 : decode cL_act 170 = .ok (.bipush 8, 2) := by decide +kernel
theorem dL_act_172 : decode cL_act 172 = .ok (.ishr, 1) := by decide +kernel
theorem dL_act_173 : decode cL_act 173 = .ok (.iconst 3, 1) := by decide +kernel
theorem dL_act_174 : decode cL_act 174 = .ok (.invokestatic 9, 3) := by decide +kernel
theorem dL_act_177 : decode cL_act 177 = .ok (.iadd, 1) := by decide +kernel
theorem dL_act_178 : decode cL_act 178 = .ok (.istore 9, 2) := by decide +kernel
theorem dL_act_180 : decode cL_act 180 = .ok (.aload_n 1, 1) := by decide +kernel
theorem dL_act_181 : decode cL_act 181 = .ok (.getfield 28, 3) := by decide +kernel
theorem dL_act_184 : decode cL_act 184 = .ok (.iload_n 3, 1) := by decide +kernel
theorem dL_act_185 : decode cL_act 185 = .ok (.aaload, 1) := by decide +kernel
theorem dL_act_186 : decode cL_act 186 = .ok (.iload 4, 2) := by decide +kernel
theorem dL_act_188 : decode cL_act 188 = .ok (.aaload, 1) := by decide +kernel
theorem dL_act_189 : decode cL_act 189 = .ok (.iconst 0, 1) := by decide +kernel
theorem dL_act_190 : decode cL_act 190 = .ok (.iaload, 1) := by decide +kernel
theorem dL_act_191 : decode cL_act 191 = .ok (.iload 9, 2) := by decide +kernel
theorem dL_act_193 : decode cL_act 193 = .ok (.iadd, 1) := by decide +kernel
theorem dL_act_194 : decode cL_act 194 = .ok (.bipush 9, 2) := by decide +kernel
theorem dL_act_196 : decode cL_act 196 = .ok (.if_icmp .le 7, 3) := by decide +kernel
theorem dL_act_199 : decode cL_act 199 = .ok (.iconst (-1), 1) := by decide +kernel
theorem dL_act_200 : decode cL_act 200 = .ok (.goto 17, 3) := by decide +kernel
theorem dL_act_203 : decode cL_act 203 = .ok (.aload_n 1, 1) := by decide +kernel
theorem dL_act_204 : decode cL_act 204 = .ok (.getfield 28, 3) := by decide +kernel
theorem dL_act_207 : decode cL_act 207 = .ok (.iload_n 3, 1) := by decide +kernel
theorem dL_act_208 : decode cL_act 208 = .ok (.aaload, 1) := by decide +kernel
theorem dL_act_209 : decode cL_act 209 = .ok (.iload 4, 2) := by decide +kernel
theorem dL_act_211 : decode cL_act 211 = .ok (.aaload, 1) := by decide +kernel
theorem dL_act_212 : decode cL_act 212 = .ok (.iconst 0, 1) := by decide +kernel
theorem dL_act_213 : decode cL_act 213 = .ok (.iaload, 1) := by decide +kernel
theorem dL_act_214 : decode cL_act 214 = .ok (.iload 9, 2) := by decide +kernel
theorem dL_act_216 : decode cL_act 216 = .ok (.iadd, 1) := by decide +kernel
theorem dL_act_217 : decode cL_act 217 = .ok (.istore 8, 2) := by decide +kernel
theorem dL_act_219 : decode cL_act 219 = .ok (.iload 8, 2) := by decide +kernel
theorem dL_act_221 : decode cL_act 221 = .ok (.ifCond .le 16, 3) := by decide +kernel
theorem dL_act_224 : decode cL_act 224 = .ok (.aload_n 1, 1) := by decide +kernel
theorem dL_act_225 : decode cL_act 225 = .ok (.getfield 28, 3) := by decide +kernel
theorem dL_act_228 : decode cL_act 228 = .ok (.iload_n 3, 1) := by decide +kernel
theorem dL_act_229 : decode cL_act 229 = .ok (.aaload, 1) := by decide +kernel
theorem dL_act_230 : decode cL_act 230 = .ok (.iload 4, 2) := by decide +kernel
theorem dL_act_232 : decode cL_act 232 = .ok (.aaload, 1) := by decide +kernel
theorem dL_act_233 : decode cL_act 233 = .ok (.iconst 0, 1) := by decide +kernel
theorem dL_act_234 : decode cL_act 234 = .ok (.iload 8, 2) := by decide +kernel
theorem dL_act_236 : decode cL_act 236 = .ok (.iastore, 1) := by decide +kernel
theorem dL_act_237 : decode cL_act 237 = .ok (.aload_n 0, 1) := by decide +kernel
theorem dL_act_238 : decode cL_act 238 = .ok (.iload_n 3, 1) := by decide +kernel
theorem dL_act_239 : decode cL_act 239 = .ok (.iload 4, 2) := by decide +kernel
theorem dL_act_241 : decode cL_act 241 = .ok (.iload 9, 2) := by decide +kernel
theorem dL_act_243 : decode cL_act 243 = .ok (.invokevirtual 32, 3) := by decide +kernel
theorem dL_act_246 : decode cL_act 246 = .ok (.istore 7, 2) := by decide +kernel
theorem dL_act_248 : decode cL_act 248 = .ok (.goto 8, 3) := by decide +kernel
theorem dL_act_251 : decode cL_act 251 = .ok (.astore 10, 2) := by decide +kernel
theorem dL_act_253 : decode cL_act 253 = .ok (.iconst (-1), 1) := by decide +kernel
theorem dL_act_254 : decode cL_act 254 = .ok (.istore 7, 2) := by decide +kernel
theorem dL_act_256 : decode cL_act 256 = .ok (.iload 7, 2) := by decide +kernel
theorem dL_act_258 : decode cL_act 258 = .ok (.iload 8, 2) := by decide +kernel
theorem dL_act_260 : decode cL_act 260 = .ok (.if_icmp .ne 7, 3) := by decide +kernel
theorem dL_act_263 : decode cL_act 263 = .ok (.iconst 1, 1) := by decide +kernel
theorem dL_act_264 : decode cL_act 264 = .ok (.goto 4, 3) := by decide +kernel
theorem dL_act_267 : decode cL_act 267 = .ok (.iconst 0, 1) := by decide +kernel
theorem dL_act_268 : decode cL_act 268 = .ok (.ireturn, 1) := by decide +kernel
theorem dL_act_269 : decode cL_act 269 = .ok (.iload_n 2, 1) := by decide +kernel
theorem dL_act_270 : decode cL_act 270 = .ok (.bipush 8, 2) := by decide +kernel
theorem dL_act_272 : decode cL_act 272 = .ok (.ishr, 1) := by decide +kernel
theorem dL_act_273 : decode cL_act 273 = .ok (.bipush 6, 2) := by decide +kernel
theorem dL_act_275 : decode cL_act 275 = .ok (.invokestatic 9, 3) := by decide +kernel
theorem dL_act_278 : decode cL_act 278 = .ok (.iconst 1, 1) := by decide +kernel
theorem dL_act_279 : decode cL_act 279 = .ok (.isub, 1) := by decide +kernel
theorem dL_act_280 : decode cL_act 280 = .ok (.istore 9, 2) := by decide +kernel
theorem dL_act_282 : decode cL_act 282 = .ok (.iload 9, 2) := by decide +kernel
theorem dL_act_284 : decode cL_act 284 = .ok (.iload 4, 2) := by decide +kernel
theorem dL_act_286 : decode cL_act 286 = .ok (.if_icmp .ne 5, 3) := by decide +kernel
theorem dL_act_289 : decode cL_act 289 = .ok (.iconst 1, 1) := by decide +kernel
theorem dL_act_290 : decode cL_act 290 = .ok (.ireturn, 1) := by decide +kernel
theorem dL_act_291 : decode cL_act 291 = .ok (.aload_n 1, 1) := by decide +kernel
theorem dL_act_292 : decode cL_act 292 = .ok (.getfield 40, 3) := by decide +kernel
theorem dL_act_295 : decode cL_act 295 = .ok (.iload 4, 2) := by decide +kernel
theorem dL_act_297 : decode cL_act 297 = .ok (.iaload, 1) := by decide +kernel
theorem dL_act_298 : decode cL_act 298 = .ok (.istore 8, 2) := by decide +kernel
theorem dL_act_300 : decode cL_act 300 = .ok (.aload_n 1, 1) := by decide +kernel
theorem dL_act_301 : decode cL_act 301 = .ok (.getfield 40, 3) := by decide +kernel
theorem dL_act_304 : decode cL_act 304 = .ok (.iload 4, 2) := by decide +kernel
theorem dL_act_306 : decode cL_act 306 = .ok (.iload 9, 2) := by decide +kernel
theorem dL_act_308 : decode cL_act 308 = .ok (.iastore, 1) := by decide +kernel
theorem dL_act_309 : decode cL_act 309 = .ok (.aload_n 0, 1) := by decide +kernel
theorem dL_act_310 : decode cL_act 310 = .ok (.iload 4, 2) := by decide +kernel
theorem dL_act_312 : decode cL_act 312 = .ok (.iload 9, 2) := by decide +kernel
theorem dL_act_314 : decode cL_act 314 = .ok (.invokevirtual 43, 3) := by decide +kernel
theorem dL_act_317 : decode cL_act 317 = .ok (.iload 8, 2) := by decide +kernel
theorem dL_act_319 : decode cL_act 319 = .ok (.if_icmp .ne 7, 3) := by decide +kernel
theorem dL_act_322 : decode cL_act 322 = .ok (.iconst 1, 1) := by decide +kernel
theorem dL_act_323 : decode cL_act 323 = .ok (.goto 4, 3) := by decide +kernel
theorem dL_act_326 : decode cL_act 326 = .ok (.iconst 0, 1) := by decide +kernel
theorem dL_act_327 : decode cL_act 327 = .ok (.ireturn, 1) := by decide +kernel
theorem dL_act_328 : decode cL_act 328 = .ok (.iload_n 2, 1) := by decide +kernel
theorem dL_act_329 : decode cL_act 329 = .ok (.iconst 4, 1) := by decide +kernel
theorem dL_act_330 : decode cL_act 330 = .ok (.ishr, 1) := by decide +kernel
theorem dL_act_331 : decode cL_act 331 = .ok (.iconst 4, 1) := by decide +kernel
theorem dL_act_332 : decode cL_act 332 = .ok (.invokestatic 9, 3) := by decide +kernel
theorem dL_act_335 : decode cL_act 335 = .ok (.istore 9, 2) := by decide +kernel
theorem dL_act_337 : decode cL_act 337 = .ok (.aload_n 1, 1) := by decide +kernel
theorem dL_act_338 : decode cL_act 338 = .ok (.getfield 46, 3) := by decide +kernel
theorem dL_act_341 : decode cL_act 341 = .ok (.iload 9, 2) := by decide +kernel
theorem dL_act_343 : decode cL_act 343 = .ok (.aaload, 1) := by decide +kernel
theorem dL_act_344 : decode cL_act 344 = .ok (.astore 10, 2) := by decide +kernel
theorem dL_act_346 : decode cL_act 346 = .ok (.aload_n 1, 1) := by decide +kernel
theorem dL_act_347 : decode cL_act 347 = .ok (.getfield 46, 3) := by decide +kernel
theorem dL_act_350 : decode cL_act 350 = .ok (.iload 9, 2) := by decide +kernel
theorem dL_act_352 : decode cL_act 352 = .ok (.iconst 2, 1) := by decide +kernel
theorem dL_act_353 : decode cL_act 353 = .ok (.newarray .int, 2) := by decide +kernel
theorem dL_act_355 : decode cL_act 355 = .ok (.dup, 1) := by decide +kernel
theorem dL_act_356 : decode cL_act 356 = .ok (.iconst 0, 1) := by decide +kernel
theorem dL_act_357 : decode cL_act 357 = .ok (.iload_n 2, 1) := by decide +kernel
theorem dL_act_358 : decode cL_act 358 = .ok (.bipush 6, 2) := by decide +kernel
theorem dL_act_360 : decode cL_act 360 = .ok (.ishr, 1) := by decide +kernel
theorem dL_act_361 : decode cL_act 361 = .ok (.bipush 10, 2) := by decide +kernel
theorem dL_act_363 : decode cL_act 363 = .ok (.invokestatic 9, 3) := by decide +kernel
theorem dL_act_366 : decode cL_act 366 = .ok (.iastore, 1) := by decide +kernel
theorem dL_act_367 : decode cL_act 367 = .ok (.dup, 1) := by decide +kernel
theorem dL_act_368 : decode cL_act 368 = .ok (.iconst 1, 1) := by decide +kernel
theorem dL_act_369 : decode cL_act 369 = .ok (.iload_n 2, 1) := by decide +kernel
theorem dL_act_370 : decode cL_act 370 = .ok (.bipush 8, 2) := by decide +kernel
theorem dL_act_372 : decode cL_act 372 = .ok (.ishr, 1) := by decide +kernel
theorem dL_act_373 : decode cL_act 373 = .ok (.bipush 31, 2) := by decide +kernel
theorem dL_act_375 : decode cL_act 375 = .ok (.invokestatic 9, 3) := by decide +kernel
theorem dL_act_378 : decode cL_act 378 = .ok (.iastore, 1) := by decide +kernel
theorem dL_act_379 : decode cL_act 379 = .ok (.aastore, 1) := by decide +kernel
theorem dL_act_380 : decode cL_act 380 = .ok (.aload_n 0, 1) := by decide +kernel
theorem dL_act_381 : decode cL_act 381 = .ok (.iload 9, 2) := by decide +kernel
theorem dL_act_383 : decode cL_act 383 = .ok (.aload_n 1, 1) := by decide +kernel
theorem dL_act_384 : decode cL_act 384 = .ok (.getfield 46, 3) := by decide +kernel
theorem dL_act_387 : decode cL_act 387 = .ok (.iload 9, 2) := by decide +kernel
theorem dL_act_389 : decode cL_act 389 = .ok (.aaload, 1) := by decide +kernel
theorem dL_act_390 : decode cL_act 390 = .ok (.iconst 0, 1) := by decide +kernel
theorem dL_act_391 : decode cL_act 391 = .ok (.iaload, 1) := by decide +kernel
theorem dL_act_392 : decode cL_act 392 = .ok (.aload_n 1, 1) := by decide +kernel
theorem dL_act_393 : decode cL_act 393 = .ok (.getfield 46, 3) := by decide +kernel
theorem dL_act_396 : decode cL_act 396 = .ok (.iload 9, 2) := by decide +kernel
theorem dL_act_398 : decode cL_act 398 = .ok (.aaload, 1) := by decide +kernel
theorem dL_act_399 : decode cL_act 399 = .ok (.iconst 1, 1) := by decide +kernel
theorem dL_act_400 : decode cL_act 400 = .ok (.iaload, 1) := by decide +kernel
theorem dL_act_401 : decode cL_act 401 = .ok (.invokevirtual 50, 3) := by decide +kernel
theorem dL_act_404 : decode cL_act 404 = .ok (.bipush 100, 2) := by decide +kernel
theorem dL_act_406 : decode cL_act 406 = .ok (.aload 10, 2) := by decide +kernel
theorem dL_act_408 : decode cL_act 408 = .ok (.iconst 0, 1) := by decide +kernel
theorem dL_act_409 : decode cL_act 409 = .ok (.iaload, 1) := by decide +kernel
theorem dL_act_410 : decode cL_act 410 = .ok (.imul, 1) := by decide +kernel
theorem dL_act_411 : decode cL_act 411 = .ok (.aload 10, 2) := by decide +kernel
theorem dL_act_413 : decode cL_act 413 = .ok (.iconst 1, 1) := by decide +kernel
theorem dL_act_414 : decode cL_act 414 = .ok (.iaload, 1) := by decide +kernel
theorem dL_act_415 : decode cL_act 415 = .ok (.iadd, 1) := by decide +kernel
theorem dL_act_416 : decode cL_act 416 = .ok (.if_icmp .ne 7, 3) := by decide +kernel
theorem dL_act_419 : decode cL_act 419 = .ok (.iconst 1, 1) := by decide +kernel
theorem dL_act_420 : decode cL_act 420 = .ok (.goto 4, 3) := by decide +kernel
theorem dL_act_423 : decode cL_act 423 = .ok (.iconst 0, 1) := by decide +kernel
theorem dL_act_424 : decode cL_act 424 = .ok (.ireturn, 1) := by decide +kernel
theorem dL_act_425 : decode cL_act 425 = .ok (.new 25, 3) := by decide +kernel
theorem dL_act_428 : decode cL_act 428 = .ok (.dup, 1) := by decide +kernel
theorem dL_act_429 : decode cL_act 429 = .ok (.invokespecial 27, 3) := by decide +kernel
theorem dL_act_432 : decode cL_act 432 = .ok (.astore 9, 2) := by decide +kernel
theorem dL_act_434 : decode cL_act 434 = .ok (.aload 9, 2) := by decide +kernel
theorem dL_act_436 : decode cL_act 436 = .ok (.iload_n 2, 1) := by decide +kernel
theorem dL_act_437 : decode cL_act 437 = .ok (.iconst 4, 1) := by decide +kernel
theorem dL_act_438 : decode cL_act 438 = .ok (.ishr, 1) := by decide +kernel
theorem dL_act_439 : decode cL_act 439 = .ok (.iconst 4, 1) := by decide +kernel
theorem dL_act_440 : decode cL_act 440 = .ok (.invokestatic 9, 3) := by decide +kernel
theorem dL_act_443 : decode cL_act 443 = .ok (.putfield 53, 3) := by decide +kernel
theorem dL_act_446 : decode cL_act 446 = .ok (.aload 9, 2) := by decide +kernel
theorem dL_act_448 : decode cL_act 448 = .ok (.iconst 1, 1) := by decide +kernel
theorem dL_act_449 : decode cL_act 449 = .ok (.iload_n 2, 1) := by decide +kernel
theorem dL_act_450 : decode cL_act 450 = .ok (.bipush 6, 2) := by decide +kernel
theorem dL_act_452 : decode cL_act 452 = .ok (.ishr, 1) := by decide +kernel
theorem dL_act_453 : decode cL_act 453 = .ok (.iload_n 2, 1) := by decide +kernel
theorem dL_act_454 : decode cL_act 454 = .ok (.bipush 8, 2) := by decide +kernel
theorem dL_act_456 : decode cL_act 456 = .ok (.ishr, 1) := by decide +kernel
theorem dL_act_457 : decode cL_act 457 = .ok (.iconst 3, 1) := by decide +kernel
theorem dL_act_458 : decode cL_act 458 = .ok (.invokestatic 9, 3) := by decide +kernel
theorem dL_act_461 : decode cL_act 461 = .ok (.ifCond .ne 8, 3) := by decide +kernel
theorem dL_act_464 : decode cL_act 464 = .ok (.bipush 20, 2) := by decide +kernel
theorem dL_act_466 : decode cL_act 466 = .ok (.goto 5, 3) := by decide +kernel
theorem dL_act_469 : decode cL_act 469 = .ok (.bipush 8, 2) := by decide +kernel
theorem dL_act_471 : decode cL_act 471 = .ok (.invokestatic 9, 3) := by decide +kernel
theorem dL_act_474 : decode cL_act 474 = .ok (.iadd, 1) := by decide +kernel
theorem dL_act_475 : decode cL_act 475 = .ok (.putfield 57, 3) := by decide +kernel
theorem dL_act_478 : decode cL_act 478 = .ok (.aload_n 1, 1) := by decide +kernel
theorem dL_act_479 : decode cL_act 479 = .ok (.getfield 21, 3) := by decide +kernel
theorem dL_act_482 : decode cL_act 482 = .ok (.arraylength, 1) := by decide +kernel
theorem dL_act_483 : decode cL_act 483 = .ok (.bipush 6, 2) := by decide +kernel
theorem dL_act_485 : decode cL_act 485 = .ok (.if_icmp .ge 11, 3) := by decide +kernel
theorem dL_act_488 : decode cL_act 488 = .ok (.aload_n 1, 1) := by decide +kernel
theorem dL_act_489 : decode cL_act 489 = .ok (.getfield 21, 3) := by decide +kernel
theorem dL_act_492 : decode cL_act 492 = .ok (.arraylength, 1) := by decide +kernel
theorem dL_act_493 : decode cL_act 493 = .ok (.goto 4, 3) := by decide +kernel
theorem dL_act_496 : decode cL_act 496 = .ok (.iconst (-1), 1) := by decide +kernel
theorem dL_act_497 : decode cL_act 497 = .ok (.istore 8, 2) := by decide +kernel
theorem dL_act_499 : decode cL_act 499 = .ok (.iload 8, 2) := by decide +kernel
theorem dL_act_501 : decode cL_act 501 = .ok (.ifCond .lt 16, 3) := by decide +kernel
theorem dL_act_504 : decode cL_act 504 = .ok (.aload_n 1, 1) := by decide +kernel
theorem dL_act_505 : decode cL_act 505 = .ok (.aload_n 1, 1) := by decide +kernel
theorem dL_act_506 : decode cL_act 506 = .ok (.getfield 21, 3) := by decide +kernel
theorem dL_act_509 : decode cL_act 509 = .ok (.aload 9, 2) := by decide +kernel
theorem dL_act_511 : decode cL_act 511 = .ok (.invokestatic 60, 3) := by decide +kernel
theorem dL_act_514 : decode cL_act 514 = .ok (.putfield 21, 3) := by decide +kernel
theorem dL_act_517 : decode cL_act 517 = .ok (.aload_n 0, 1) := by decide +kernel
theorem dL_act_518 : decode cL_act 518 = .ok (.aload 9, 2) := by decide +kernel
theorem dL_act_520 : decode cL_act 520 = .ok (.getfield 53, 3) := by decide +kernel
theorem dL_act_523 : decode cL_act 523 = .ok (.aload 9, 2) := by decide +kernel
theorem dL_act_525 : decode cL_act 525 = .ok (.getfield 57, 3) := by decide +kernel
theorem dL_act_528 : decode cL_act 528 = .ok (.invokevirtual 64, 3) := by decide +kernel
theorem dL_act_531 : decode cL_act 531 = .ok (.istore 7, 2) := by decide +kernel
theorem dL_act_533 : decode cL_act 533 = .ok (.goto 8, 3) := by decide +kernel
theorem dL_act_536 : decode cL_act 536 = .ok (.astore 10, 2) := by decide +kernel
theorem dL_act_538 : decode cL_act 538 = .ok (.iconst (-1), 1) := by decide +kernel
theorem dL_act_539 : decode cL_act 539 = .ok (.istore 7, 2) := by decide +kernel
theorem dL_act_541 : decode cL_act 541 = .ok (.iload 7, 2) := by decide +kernel
theorem dL_act_543 : decode cL_act 543 = .ok (.iload 8, 2) := by decide +kernel
theorem dL_act_545 : decode cL_act 545 = .ok (.if_icmp .ne 7, 3) := by decide +kernel
theorem dL_act_548 : decode cL_act 548 = .ok (.iconst 1, 1) := by decide +kernel
theorem dL_act_549 : decode cL_act 549 = .ok (.goto 4, 3) := by decide +kernel
theorem dL_act_552 : decode cL_act 552 = .ok (.iconst 0, 1) := by decide +kernel
theorem dL_act_553 : decode cL_act 553 = .ok (.ireturn, 1) := by decide +kernel
theorem dL_act_554 : decode cL_act 554 = .ok (.aload_n 1, 1) := by decide +kernel
theorem dL_act_555 : decode cL_act 555 = .ok (.getfield 21, 3) := by decide +kernel
theorem dL_act_558 : decode cL_act 558 = .ok (.arraylength, 1) := by decide +kernel
theorem dL_act_559 : decode cL_act 559 = .ok (.ifCond .ne 5, 3) := by decide +kernel
theorem dL_act_562 : decode cL_act 562 = .ok (.iconst 1, 1) := by decide +kernel
theorem dL_act_563 : decode cL_act 563 = .ok (.ireturn, 1) := by decide +kernel
theorem dL_act_564 : decode cL_act 564 = .ok (.iload_n 2, 1) := by decide +kernel
theorem dL_act_565 : decode cL_act 565 = .ok (.iconst 3, 1) := by decide +kernel
theorem dL_act_566 : decode cL_act 566 = .ok (.ishr, 1) := by decide +kernel
theorem dL_act_567 : decode cL_act 567 = .ok (.invokestatic 67, 3) := by decide +kernel
theorem dL_act_570 : decode cL_act 570 = .ok (.istore 9, 2) := by decide +kernel
theorem dL_act_572 : decode cL_act 572 = .ok (.aload 6, 2) := by decide +kernel
theorem dL_act_574 : decode cL_act 574 = .ok (.getfield 71, 3) := by decide +kernel
theorem dL_act_577 : decode cL_act 577 = .ok (.ifCond .ne 13, 3) := by decide +kernel
theorem dL_act_580 : decode cL_act 580 = .ok (.aload 6, 2) := by decide +kernel
theorem dL_act_582 : decode cL_act 582 = .ok (.getfield 75, 3) := by decide +kernel
theorem dL_act_585 : decode cL_act 585 = .ok (.arraylength, 1) := by decide +kernel
theorem dL_act_586 : decode cL_act 586 = .ok (.iconst 4, 1) := by decide +kernel
theorem dL_act_587 : decode cL_act 587 = .ok (.if_icmp .ne 7, 3) := by decide +kernel
theorem dL_act_590 : decode cL_act 590 = .ok (.iconst (-1), 1) := by decide +kernel
theorem dL_act_591 : decode cL_act 591 = .ok (.goto 9, 3) := by decide +kernel
theorem dL_act_594 : decode cL_act 594 = .ok (.aload 6, 2) := by decide +kernel
theorem dL_act_596 : decode cL_act 596 = .ok (.getfield 75, 3) := by decide +kernel
theorem dL_act_599 : decode cL_act 599 = .ok (.arraylength, 1) := by decide +kernel
theorem dL_act_600 : decode cL_act 600 = .ok (.istore 8, 2) := by decide +kernel
theorem dL_act_602 : decode cL_act 602 = .ok (.iload 8, 2) := by decide +kernel
theorem dL_act_604 : decode cL_act 604 = .ok (.ifCond .lt 21, 3) := by decide +kernel
theorem dL_act_607 : decode cL_act 607 = .ok (.aload 6, 2) := by decide +kernel
theorem dL_act_609 : decode cL_act 609 = .ok (.aload 6, 2) := by decide +kernel
theorem dL_act_611 : decode cL_act 611 = .ok (.getfield 75, 3) := by decide +kernel
theorem dL_act_614 : decode cL_act 614 = .ok (.iload 9, 2) := by decide +kernel
theorem dL_act_616 : decode cL_act 616 = .ok (.invokestatic 78, 3) := by decide +kernel
theorem dL_act_619 : decode cL_act 619 = .ok (.invokestatic 82, 3) := by decide +kernel
theorem dL_act_622 : decode cL_act 622 = .ok (.putfield 75, 3) := by decide +kernel
theorem dL_act_625 : decode cL_act 625 = .ok (.aload_n 0, 1) := by decide +kernel
theorem dL_act_626 : decode cL_act 626 = .ok (.iload 5, 2) := by decide +kernel
theorem dL_act_628 : decode cL_act 628 = .ok (.iload 9, 2) := by decide +kernel
theorem dL_act_630 : decode cL_act 630 = .ok (.invokevirtual 85, 3) := by decide +kernel
theorem dL_act_633 : decode cL_act 633 = .ok (.istore 7, 2) := by decide +kernel
theorem dL_act_635 : decode cL_act 635 = .ok (.goto 8, 3) := by decide +kernel
theorem dL_act_638 : decode cL_act 638 = .ok (.astore 10, 2) := by decide +kernel
theorem dL_act_640 : decode cL_act 640 = .ok (.iconst (-1), 1) := by decide +kernel
theorem dL_act_641 : decode cL_act 641 = .ok (.istore 7, 2) := by decide +kernel
theorem dL_act_643 : decode cL_act 643 = .ok (.iload 7, 2) := by decide +kernel
theorem dL_act_645 : decode cL_act 645 = .ok (.iload 8, 2) := by decide +kernel
theorem dL_act_647 : decode cL_act 647 = .ok (.if_icmp .ne 7, 3) := by decide +kernel
theorem dL_act_650 : decode cL_act 650 = .ok (.iconst 1, 1) := by decide +kernel
theorem dL_act_651 : decode cL_act 651 = .ok (.goto 4, 3) := by decide +kernel
theorem dL_act_654 : decode cL_act 654 = .ok (.iconst 0, 1) := by decide +kernel
theorem dL_act_655 : decode cL_act 655 = .ok (.ireturn, 1) := by decide +kernel
theorem dL_act_656 : decode cL_act 656 = .ok (.aload_n 1, 1) := by decide +kernel
theorem dL_act_657 : decode cL_act 657 = .ok (.getfield 21, 3) := by decide +kernel
theorem dL_act_660 : decode cL_act 660 = .ok (.arraylength, 1) := by decide +kernel
theorem dL_act_661 : decode cL_act 661 = .ok (.ifCond .ne 5, 3) := by decide +kernel
theorem dL_act_664 : decode cL_act 664 = .ok (.iconst 1, 1) := by decide +kernel
theorem dL_act_665 : decode cL_act 665 = .ok (.ireturn, 1) := by decide +kernel
theorem dL_act_666 : decode cL_act 666 = .ok (.aload_n 1, 1) := by decide +kernel
theorem dL_act_667 : decode cL_act 667 = .ok (.iload 5, 2) := by decide +kernel
theorem dL_act_669 : decode cL_act 669 = .ok (.invokevirtual 88, 3) := by decide +kernel
theorem dL_act_672 : decode cL_act 672 = .ok (.istore 8, 2) := by decide +kernel
theorem dL_act_674 : decode cL_act 674 = .ok (.aload_n 0, 1) := by decide +kernel
theorem dL_act_675 : decode cL_act 675 = .ok (.iload 5, 2) := by decide +kernel
theorem dL_act_677 : decode cL_act 677 = .ok (.invokevirtual 91, 3) := by decide +kernel
theorem dL_act_680 : decode cL_act 680 = .ok (.istore 7, 2) := by decide +kernel
theorem dL_act_682 : decode cL_act 682 = .ok (.goto 8, 3) := by decide +kernel
theorem dL_act_685 : decode cL_act 685 = .ok (.astore 9, 2) := by decide +kernel
theorem dL_act_687 : decode cL_act 687 = .ok (.iconst (-1), 1) := by decide +kernel
theorem dL_act_688 : decode cL_act 688 = .ok (.istore 7, 2) := by decide +kernel
theorem dL_act_690 : decode cL_act 690 = .ok (.iload 7, 2) := by decide +kernel
theorem dL_act_692 : decode cL_act 692 = .ok (.iload 8, 2) := by decide +kernel
theorem dL_act_694 : decode cL_act 694 = .ok (.if_icmp .ne 7, 3) := by decide +kernel
theorem dL_act_697 : decode cL_act 697 = .ok (.iconst 1, 1) := by decide +kernel
theorem dL_act_698 : decode cL_act 698 = .ok (.goto 4, 3) := by decide +kernel
theorem dL_act_701 : decode cL_act 701 = .ok (.iconst 0, 1) := by decide +kernel
theorem dL_act_702 : decode cL_act 702 = .ok (.ireturn, 1) := by decide +kernel
theorem dL_act_703 : decode cL_act 703 = .ok (.aload 6, 2) := by decide +kernel
theorem dL_act_705 : decode cL_act 705 = .ok (.getfield 71, 3) := by decide +kernel
theorem dL_act_708 : decode cL_act 708 = .ok (.ifCond .ne 5, 3) := by decide +kernel
theorem dL_act_711 : decode cL_act 711 = .ok (.iconst 1, 1) := by decide +kernel
theorem dL_act_712 : decode cL_act 712 = .ok (.ireturn, 1) := by decide +kernel
theorem dL_act_713 : decode cL_act 713 = .ok (.iconst 1, 1) := by decide +kernel
theorem dL_act_714 : decode cL_act 714 = .ok (.iload_n 2, 1) := by decide +kernel
theorem dL_act_715 : decode cL_act 715 = .ok (.bipush 6, 2) := by decide +kernel
theorem dL_act_717 : decode cL_act 717 = .ok (.ishr, 1) := by decide +kernel
theorem dL_act_718 : decode cL_act 718 = .ok (.iload_n 2, 1) := by decide +kernel
theorem dL_act_719 : decode cL_act 719 = .ok (.bipush 8, 2) := by decide +kernel
theorem dL_act_721 : decode cL_act 721 = .ok (.ishr, 1) := by decide +kernel
theorem dL_act_722 : decode cL_act 722 = .ok (.iconst 3, 1) := by decide +kernel
theorem dL_act_723 : decode cL_act 723 = .ok (.invokestatic 9, 3) := by decide +kernel
theorem dL_act_726 : decode cL_act 726 = .ok (.ifCond .ne 9, 3) := by decide +kernel
theorem dL_act_729 : decode cL_act 729 = .ok (.sipush 500, 3) := by decide +kernel
theorem dL_act_732 : decode cL_act 732 = .ok (.goto 6, 3) := by decide +kernel
theorem dL_act_735 : decode cL_act 735 = .ok (.sipush 150, 3) := by decide +kernel
theorem dL_act_738 : decode cL_act 738 = .ok (.invokestatic 9, 3) := by decide +kernel
theorem dL_act_741 : decode cL_act 741 = .ok (.iadd, 1) := by decide +kernel
theorem dL_act_742 : decode cL_act 742 = .ok (.istore 9, 2) := by decide +kernel
theorem dL_act_744 : decode cL_act 744 = .ok (.aload_n 0, 1) := by decide +kernel
theorem dL_act_745 : decode cL_act 745 = .ok (.iload 5, 2) := by decide +kernel
theorem dL_act_747 : decode cL_act 747 = .ok (.iload 9, 2) := by decide +kernel
theorem dL_act_749 : decode cL_act 749 = .ok (.invokevirtual 92, 3) := by decide +kernel
theorem dL_act_752 : decode cL_act 752 = .ok (.aload_n 1, 1) := by decide +kernel
theorem dL_act_753 : decode cL_act 753 = .ok (.iload 5, 2) := by decide +kernel
theorem dL_act_755 : decode cL_act 755 = .ok (.iload 9, 2) := by decide +kernel
theorem dL_act_757 : decode cL_act 757 = .ok (.invokevirtual 95, 3) := by decide +kernel
theorem dL_act_760 : decode cL_act 760 = .ok (.if_icmp .ne 7, 3) := by decide +kernel
theorem dL_act_763 : decode cL_act 763 = .ok (.iconst 1, 1) := by decide +kernel
theorem dL_act_764 : decode cL_act 764 = .ok (.goto 4, 3) := by decide +kernel
theorem dL_act_767 : decode cL_act 767 = .ok (.iconst 0, 1) := by decide +kernel
theorem dL_act_768 : decode cL_act 768 = .ok (.ireturn, 1) := by decide +kernel
theorem dL_act_769 : decode cL_act 769 = .ok (.aload 6, 2) := by decide +kernel
theorem dL_act_771 : decode cL_act 771 = .ok (.getfield 71, 3) := by decide +kernel
theorem dL_act_774 : decode cL_act 774 = .ok (.ifCond .ne 5, 3) := by decide +kernel
theorem dL_act_777 : decode cL_act 777 = .ok (.iconst 1, 1) := by decide +kernel
theorem dL_act_778 : decode cL_act 778 = .ok (.ireturn, 1) := by decide +kernel
theorem dL_act_779 : decode cL_act 779 = .ok (.aload_n 0, 1) := by decide +kernel
theorem dL_act_780 : decode cL_act 780 = .ok (.iload 5, 2) := by decide +kernel
theorem dL_act_782 : decode cL_act 782 = .ok (.invokevirtual 96, 3) := by decide +kernel
theorem dL_act_785 : decode cL_act 785 = .ok (.aload_n 1, 1) := by decide +kernel
theorem dL_act_786 : decode cL_act 786 = .ok (.iload 5, 2) := by decide +kernel
theorem dL_act_788 : decode cL_act 788 = .ok (.invokevirtual 99, 3) := by decide +kernel
theorem dL_act_791 : decode cL_act 791 = .ok (.if_icmp .ne 7, 3) := by decide +kernel
theorem dL_act_794 : decode cL_act 794 = .ok (.iconst 1, 1) := by decide +kernel
theorem dL_act_795 : decode cL_act 795 = .ok (.goto 4, 3) := by decide +kernel
theorem dL_act_798 : decode cL_act 798 = .ok (.iconst 0, 1) := by decide +kernel
theorem dL_act_799 : decode cL_act 799 = .ok (.ireturn, 1) := by decide +kernel
theorem dL_act_800 : decode cL_act 800 = .ok (.iconst 1, 1) := by decide +kernel
theorem dL_act_801 : decode cL_act 801 = .ok (.iload_n 2, 1) := by decide +kernel
theorem dL_act_802 : decode cL_act 802 = .ok (.bipush 6, 2) := by decide +kernel
theorem dL_act_804 : decode cL_act 804 = .ok (.ishr, 1) := by decide +kernel
theorem dL_act_805 : decode cL_act 805 = .ok (.iconst 4, 1) := by decide +kernel
theorem dL_act_806 : decode cL_act 806 = .ok (.invokestatic 9, 3) := by decide +kernel
theorem dL_act_809 : decode cL_act 809 = .ok (.iadd, 1) := by decide +kernel
theorem dL_act_810 : decode cL_act 810 = .ok (.istore 9, 2) := by decide +kernel
theorem dL_act_812 : decode cL_act 812 = .ok (.iconst 0, 1) := by decide +kernel
theorem dL_act_813 : decode cL_act 813 = .ok (.istore 8, 2) := by decide +kernel
theorem dL_act_815 : decode cL_act 815 = .ok (.aload_n 1, 1) := by decide +kernel
theorem dL_act_816 : decode cL_act 816 = .ok (.getfield 28, 3) := by decide +kernel
theorem dL_act_819 : decode cL_act 819 = .ok (.iload_n 3, 1) := by decide +kernel
theorem dL_act_820 : decode cL_act 820 = .ok (.aaload, 1) := by decide +kernel
theorem dL_act_821 : decode cL_act 821 = .ok (.astore 10, 2) := by decide +kernel
theorem dL_act_823 : decode cL_act 823 = .ok (.aload 10, 2) := by decide +kernel
theorem dL_act_825 : decode cL_act 825 = .ok (.arraylength, 1) := by decide +kernel
theorem dL_act_826 : decode cL_act 826 = .ok (.istore 11, 2) := by decide +kernel
theorem dL_act_828 : decode cL_act 828 = .ok (.iconst 0, 1) := by decide +kernel
theorem dL_act_829 : decode cL_act 829 = .ok (.istore 12, 2) := by decide +kernel
theorem dL_act_831 : decode cL_act 831 = .ok (.iload 12, 2) := by decide +kernel
theorem dL_act_833 : decode cL_act 833 = .ok (.iload 11, 2) := by decide +kernel
theorem dL_act_835 : decode cL_act 835 = .ok (.if_icmp .ge 46, 3) := by decide +kernel
theorem dL_act_838 : decode cL_act 838 = .ok (.aload 10, 2) := by decide +kernel
theorem dL_act_840 : decode cL_act 840 = .ok (.iload 12, 2) := by decide +kernel
theorem dL_act_842 : decode cL_act 842 = .ok (.aaload, 1) := by decide +kernel
theorem dL_act_843 : decode cL_act 843 = .ok (.astore 13, 2) := by decide +kernel
theorem dL_act_845 : decode cL_act 845 = .ok (.iload 9, 2) := by decide +kernel
theorem dL_act_847 : decode cL_act 847 = .ok (.bipush 9, 2) := by decide +kernel
theorem dL_act_849 : decode cL_act 849 = .ok (.aload 13, 2) := by decide +kernel
theorem dL_act_851 : decode cL_act 851 = .ok (.iconst 0, 1) := by decide +kernel
theorem dL_act_852 : decode cL_act 852 = .ok (.iaload, 1) := by decide +kernel
theorem dL_act_853 : decode cL_act 853 = .ok (.isub, 1) := by decide +kernel
theorem dL_act_854 : decode cL_act 854 = .ok (.invokestatic 100, 3) := by decide +kernel
theorem dL_act_857 : decode cL_act 857 = .ok (.istore 14, 2) := by decide +kernel
theorem dL_act_859 : decode cL_act 859 = .ok (.aload 13, 2) := by decide +kernel
theorem dL_act_861 : decode cL_act 861 = .ok (.iconst 0, 1) := by decide +kernel
theorem dL_act_862 : decode cL_act 862 = .ok (.dup2, 1) := by decide +kernel
theorem dL_act_863 : decode cL_act 863 = .ok (.iaload, 1) := by decide +kernel
theorem dL_act_864 : decode cL_act 864 = .ok (.iload 14, 2) := by decide +kernel
theorem dL_act_866 : decode cL_act 866 = .ok (.iadd, 1) := by decide +kernel
theorem dL_act_867 : decode cL_act 867 = .ok (.iastore, 1) := by decide +kernel
theorem dL_act_868 : decode cL_act 868 = .ok (.iload 8, 2) := by decide +kernel
theorem dL_act_870 : decode cL_act 870 = .ok (.iload 14, 2) := by decide +kernel
theorem dL_act_872 : decode cL_act 872 = .ok (.iadd, 1) := by decide +kernel
theorem dL_act_873 : decode cL_act 873 = .ok (.istore 8, 2) := by decide +kernel
theorem dL_act_875 : decode cL_act 875 = .ok (.iinc 12 1, 3) := by decide +kernel
theorem dL_act_878 : decode cL_act 878 = .ok (.goto (-47), 3) := by decide +kernel
theorem dL_act_881 : decode cL_act 881 = .ok (.aload_n 0, 1) := by decide +kernel
theorem dL_act_882 : decode cL_act 882 = .ok (.iload_n 3, 1) := by decide +kernel
theorem dL_act_883 : decode cL_act 883 = .ok (.iload 9, 2) := by decide +kernel
theorem dL_act_885 : decode cL_act 885 = .ok (.invokevirtual 105, 3) := by decide +kernel
theorem dL_act_888 : decode cL_act 888 = .ok (.iload 8, 2) := by decide +kernel
theorem dL_act_890 : decode cL_act 890 = .ok (.if_icmp .ne 7, 3) := by decide +kernel
theorem dL_act_893 : decode cL_act 893 = .ok (.iconst 1, 1) := by decide +kernel
theorem dL_act_894 : decode cL_act 894 = .ok (.goto 4, 3) := by decide +kernel
theorem dL_act_897 : decode cL_act 897 = .ok (.iconst 0, 1) := by decide +kernel
theorem dL_act_898 : decode cL_act 898 = .ok (.ireturn, 1) := by decide +kernel
theorem dL_build_0 : decode cL_build 0 = .ok (.new 16, 3) := by decide +kernel
theorem dL_build_3 : decode cL_build 3 = .ok (.dup, 1) := by decide +kernel
theorem dL_build_4 : decode cL_build 4 = .ok (.invokespecial 108, 3) := by decide +kernel
theorem dL_build_7 : decode cL_build 7 = .ok (.astore_n 2, 1) := by decide +kernel
theorem dL_build_8 : decode cL_build 8 = .ok (.iconst 1, 1) := by decide +kernel
theorem dL_build_9 : decode cL_build 9 = .ok (.aload_n 1, 1) := by decide +kernel
theorem dL_build_10 : decode cL_build 10 = .ok (.iconst 0, 1) := by decide +kernel
theorem dL_build_11 : decode cL_build 11 = .ok (.invokestatic 109, 3) := by decide +kernel
theorem dL_build_14 : decode cL_build 14 = .ok (.iconst 4, 1) := by decide +kernel
theorem dL_build_15 : decode cL_build 15 = .ok (.invokestatic 9, 3) := by decide +kernel
theorem dL_build_18 : decode cL_build 18 = .ok (.iadd, 1) := by decide +kernel
theorem dL_build_19 : decode cL_build 19 = .ok (.istore_n 3, 1) := by decide +kernel
theorem dL_build_20 : decode cL_build 20 = .ok (.aload_n 2, 1) := by decide +kernel
theorem dL_build_21 : decode cL_build 21 = .ok (.iload_n 3, 1) := by decide +kernel
theorem dL_build_22 : decode cL_build 22 = .ok (.newarray .int, 2) := by decide +kernel
theorem dL_build_24 : decode cL_build 24 = .ok (.putfield 15, 3) := by decide +kernel
theorem dL_build_27 : decode cL_build 27 = .ok (.aload_n 2, 1) := by decide +kernel
theorem dL_build_28 : decode cL_build 28 = .ok (.iload_n 3, 1) := by decide +kernel
theorem dL_build_29 : decode cL_build 29 = .ok (.bipush 10, 2) := by decide +kernel
theorem dL_build_31 : decode cL_build 31 = .ok (.iconst 3, 1) := by decide +kernel
theorem dL_build_32 : decode cL_build 32 = .ok (.multianewarray 113 3, 4) := by decide +kernel
theorem dL_build_36 : decode cL_build 36 = .ok (.putfield 28, 3) := by decide +kernel
theorem dL_build_39 : decode cL_build 39 = .ok (.iconst 0, 1) := by decide +kernel
theorem dL_build_40 : decode cL_build 40 = .ok (.istore 4, 2) := by decide +kernel
theorem dL_build_42 : decode cL_build 42 = .ok (.iload 4, 2) := by decide +kernel
theorem dL_build_44 : decode cL_build 44 = .ok (.iload_n 3, 1) := by decide +kernel
theorem dL_build_45 : decode cL_build 45 = .ok (.if_icmp .ge 143, 3) := by decide +kernel
theorem dL_build_48 : decode cL_build 48 = .ok (.aload_n 1, 1) := by decide +kernel
theorem dL_build_49 : decode cL_build 49 = .ok (.iconst 0, 1) := by decide +kernel
theorem dL_build_50 : decode cL_build 50 = .ok (.invokestatic 109, 3) := by decide +kernel
theorem dL_build_53 : decode cL_build 53 = .ok (.iconst 2, 1) := by decide +kernel
theorem dL_build_54 : decode cL_build 54 = .ok (.iconst 4, 1) := by decide +kernel
theorem dL_build_55 : decode cL_build 55 = .ok (.iload 4, 2) := by decide +kernel
theorem dL_build_57 : decode cL_build 57 = .ok (.imul, 1) := by decide +kernel
theorem dL_build_58 : decode cL_build 58 = .ok (.iadd, 1) := by decide +kernel
theorem dL_build_59 : decode cL_build 59 = .ok (.ishr, 1) := by decide +kernel
theorem dL_build_60 : decode cL_build 60 = .ok (.istore 5, 2) := by decide +kernel
theorem dL_build_62 : decode cL_build 62 = .ok (.iconst 1, 1) := by decide +kernel
theorem dL_build_63 : decode cL_build 63 = .ok (.iload 5, 2) := by decide +kernel
theorem dL_build_65 : decode cL_build 65 = .ok (.iload 5, 2) := by decide +kernel
theorem dL_build_67 : decode cL_build 67 = .ok (.iconst 5, 1) := by decide +kernel
theorem dL_build_68 : decode cL_build 68 = .ok (.ishr, 1) := by decide +kernel
theorem dL_build_69 : decode cL_build 69 = .ok (.iconst 3, 1) := by decide +kernel
theorem dL_build_70 : decode cL_build 70 = .ok (.invokestatic 9, 3) := by decide +kernel
theorem dL_build_73 : decode cL_build 73 = .ok (.ifCond .ne 8, 3) := by decide +kernel
theorem dL_build_76 : decode cL_build 76 = .ok (.bipush 20, 2) := by decide +kernel
theorem dL_build_78 : decode cL_build 78 = .ok (.goto 5, 3) := by decide +kernel
theorem dL_build_81 : decode cL_build 81 = .ok (.bipush 9, 2) := by decide +kernel
theorem dL_build_83 : decode cL_build 83 = .ok (.invokestatic 9, 3) := by decide +kernel
theorem dL_build_86 : decode cL_build 86 = .ok (.iadd, 1) := by decide +kernel
theorem dL_build_87 : decode cL_build 87 = .ok (.istore 6, 2) := by decide +kernel
theorem dL_build_89 : decode cL_build 89 = .ok (.aload_n 2, 1) := by decide +kernel
theorem dL_build_90 : decode cL_build 90 = .ok (.getfield 15, 3) := by decide +kernel
theorem dL_build_93 : decode cL_build 93 = .ok (.iload 4, 2) := by decide +kernel
theorem dL_build_95 : decode cL_build 95 = .ok (.iload 6, 2) := by decide +kernel
theorem dL_build_97 : decode cL_build 97 = .ok (.iastore, 1) := by decide +kernel
theorem dL_build_98 : decode cL_build 98 = .ok (.iconst 1, 1) := by decide +kernel
theorem dL_build_99 : decode cL_build 99 = .ok (.iload 5, 2) := by decide +kernel
theorem dL_build_101 : decode cL_build 101 = .ok (.iconst 3, 1) := by decide +kernel
theorem dL_build_102 : decode cL_build 102 = .ok (.ishr, 1) := by decide +kernel
theorem dL_build_103 : decode cL_build 103 = .ok (.iconst 4, 1) := by decide +kernel
theorem dL_build_104 : decode cL_build 104 = .ok (.invokestatic 9, 3) := by decide +kernel
theorem dL_build_107 : decode cL_build 107 = .ok (.iadd, 1) := by decide +kernel
theorem dL_build_108 : decode cL_build 108 = .ok (.istore 7, 2) := by decide +kernel
theorem dL_build_110 : decode cL_build 110 = .ok (.aload_n 2, 1) := by decide +kernel
theorem dL_build_111 : decode cL_build 111 = .ok (.getfield 28, 3) := by decide +kernel
theorem dL_build_114 : decode cL_build 114 = .ok (.iload 4, 2) := by decide +kernel
theorem dL_build_116 : decode cL_build 116 = .ok (.aaload, 1) := by decide +kernel
theorem dL_build_117 : decode cL_build 117 = .ok (.astore 8, 2) := by decide +kernel
theorem dL_build_119 : decode cL_build 119 = .ok (.aload 8, 2) := by decide +kernel
theorem dL_build_121 : decode cL_build 121 = .ok (.arraylength, 1) := by decide +kernel
theorem dL_build_122 : decode cL_build 122 = .ok (.istore 9, 2) := by decide +kernel
theorem dL_build_124 : decode cL_build 124 = .ok (.iconst 0, 1) := by decide +kernel
theorem dL_build_125 : decode cL_build 125 = .ok (.istore 10, 2) := by decide +kernel
theorem dL_build_127 : decode cL_build 127 = .ok (.iload 10, 2) := by decide +kernel
theorem dL_build_129 : decode cL_build 129 = .ok (.iload 9, 2) := by decide +kernel
theorem dL_build_131 : decode cL_build 131 = .ok (.if_icmp .ge 22, 3) := by decide +kernel
theorem dL_build_134 : decode cL_build 134 = .ok (.aload 8, 2) := by decide +kernel
theorem dL_build_136 : decode cL_build 136 = .ok (.iload 10, 2) := by decide +kernel
theorem dL_build_138 : decode cL_build 138 = .ok (.aaload, 1) := by decide +kernel
theorem dL_build_139 : decode cL_build 139 = .ok (.astore 11, 2) := by decide +kernel
theorem dL_build_141 : decode cL_build 141 = .ok (.aload 11, 2) := by decide +kernel
theorem dL_build_143 : decode cL_build 143 = .ok (.iconst 0, 1) := by decide +kernel
theorem dL_build_144 : decode cL_build 144 = .ok (.iload 7, 2) := by decide +kernel
theorem dL_build_146 : decode cL_build 146 = .ok (.iastore, 1) := by decide +kernel
theorem dL_build_147 : decode cL_build 147 = .ok (.iinc 10 1, 3) := by decide +kernel
theorem dL_build_150 : decode cL_build 150 = .ok (.goto (-23), 3) := by decide +kernel
theorem dL_build_153 : decode cL_build 153 = .ok (.aload_n 0, 1) := by decide +kernel
theorem dL_build_154 : decode cL_build 154 = .ok (.iload 6, 2) := by decide +kernel
theorem dL_build_156 : decode cL_build 156 = .ok (.invokevirtual 114, 3) := by decide +kernel
theorem dL_build_159 : decode cL_build 159 = .ok (.iload 4, 2) := by decide +kernel
theorem dL_build_161 : decode cL_build 161 = .ok (.if_icmp .ne 19, 3) := by decide +kernel
theorem dL_build_164 : decode cL_build 164 = .ok (.aload_n 0, 1) := by decide +kernel
theorem dL_build_165 : decode cL_build 165 = .ok (.iload 4, 2) := by decide +kernel
theorem dL_build_167 : decode cL_build 167 = .ok (.iload 7, 2) := by decide +kernel
theorem dL_build_169 : decode cL_build 169 = .ok (.invokevirtual 105, 3) := by decide +kernel
theorem dL_build_172 : decode cL_build 172 = .ok (.bipush 10, 2) := by decide +kernel
theorem dL_build_174 : decode cL_build 174 = .ok (.iload 7, 2) := by decide +kernel
theorem dL_build_176 : decode cL_build 176 = .ok (.imul, 1) := by decide +kernel
theorem dL_build_177 : decode cL_build 177 = .ok (.if_icmp .eq 5, 3) := by decide +kernel
theorem dL_build_180 : decode cL_build 180 = .ok (.aconst_null, 1) := by decide +kernel
theorem dL_build_181 : decode cL_build 181 = .ok (.areturn, 1) := by decide +kernel
theorem dL_build_182 : decode cL_build 182 = .ok (.iinc 4 1, 3) := by decide +kernel
theorem dL_build_185 : decode cL_build 185 = .ok (.goto (-143), 3) := by decide +kernel
theorem dL_build_188 : decode cL_build 188 = .ok (.iconst 1, 1) := by decide +kernel
theorem dL_build_189 : decode cL_build 189 = .ok (.aload_n 1, 1) := by decide +kernel
theorem dL_build_190 : decode cL_build 190 = .ok (.iconst 1, 1) := by decide +kernel
theorem dL_build_191 : decode cL_build 191 = .ok (.invokestatic 109, 3) := by decide +kernel
theorem dL_build_194 : decode cL_build 194 = .ok (.iconst 4, 1) := by decide +kernel
theorem dL_build_195 : decode cL_build 195 = .ok (.invokestatic 9, 3) := by decide +kernel
theorem dL_build_198 : decode cL_build 198 = .ok (.iadd, 1) := by decide +kernel
theorem dL_build_199 : decode cL_build 199 = .ok (.istore 4, 2) := by decide +kernel
theorem dL_build_201 : decode cL_build 201 = .ok (.iconst 0, 1) := by decide +kernel
theorem dL_build_202 : decode cL_build 202 = .ok (.istore 5, 2) := by decide +kernel
theorem dL_build_204 : decode cL_build 204 = .ok (.iload 5, 2) := by decide +kernel
theorem dL_build_206 : decode cL_build 206 = .ok (.iload 4, 2) := by decide +kernel
theorem dL_build_208 : decode cL_build 208 = .ok (.if_icmp .ge 173, 3) := by decide +kernel
theorem dL_build_211 : decode cL_build 211 = .ok (.aload_n 1, 1) := by decide +kernel
theorem dL_build_212 : decode cL_build 212 = .ok (.iconst 2, 1) := by decide +kernel
theorem dL_build_213 : decode cL_build 213 = .ok (.iload 5, 2) := by decide +kernel
theorem dL_build_215 : decode cL_build 215 = .ok (.iadd, 1) := by decide +kernel
theorem dL_build_216 : decode cL_build 216 = .ok (.invokestatic 109, 3) := by decide +kernel
theorem dL_build_219 : decode cL_build 219 = .ok (.iconst 1, 1) := by decide +kernel
theorem dL_build_220 : decode cL_build 220 = .ok (.ishr, 1) := by decide +kernel
theorem dL_build_221 : decode cL_build 221 = .ok (.istore 6, 2) := by decide +kernel
theorem dL_build_223 : decode cL_build 223 = .ok (.new 25, 3) := by decide +kernel
theorem dL_build_226 : decode cL_build 226 = .ok (.dup, 1) := by decide +kernel
theorem dL_build_227 : decode cL_build 227 = .ok (.invokespecial 27, 3) := by decide +kernel
theorem dL_build_230 : decode cL_build 230 = .ok (.astore 7, 2) := by decide +kernel
theorem dL_build_232 : decode cL_build 232 = .ok (.aload 7, 2) := by decide +kernel
theorem dL_build_234 : decode cL_build 234 = .ok (.iload 6, 2) := by decide +kernel
theorem dL_build_236 : decode cL_build 236 = .ok (.iconst 4, 1) := by decide +kernel
theorem dL_build_237 : decode cL_build 237 = .ok (.invokestatic 9, 3) := by decide +kernel
theorem dL_build_240 : decode cL_build 240 = .ok (.putfield 53, 3) := by decide +kernel
theorem dL_build_243 : decode cL_build 243 = .ok (.aload 7, 2) := by decide +kernel
theorem dL_build_245 : decode cL_build 245 = .ok (.iconst 1, 1) := by decide +kernel
theorem dL_build_246 : decode cL_build 246 = .ok (.iload 6, 2) := by decide +kernel
theorem dL_build_248 : decode cL_build 248 = .ok (.iconst 2, 1) := by decide +kernel
theorem dL_build_249 : decode cL_build 249 = .ok (.ishr, 1) := by decide +kernel
theorem dL_build_250 : decode cL_build 250 = .ok (.bipush 7, 2) := by decide +kernel
theorem dL_build_252 : decode cL_build 252 = .ok (.invokestatic 9, 3) := by decide +kernel
theorem dL_build_255 : decode cL_build 255 = .ok (.iadd, 1) := by decide +kernel
theorem dL_build_256 : decode cL_build 256 = .ok (.putfield 57, 3) := by decide +kernel
theorem dL_build_259 : decode cL_build 259 = .ok (.aload 7, 2) := by decide +kernel
theorem dL_build_261 : decode cL_build 261 = .ok (.iconst 1, 1) := by decide +kernel
theorem dL_build_262 : decode cL_build 262 = .ok (.iload 6, 2) := by decide +kernel
theorem dL_build_264 : decode cL_build 264 = .ok (.iconst 4, 1) := by decide +kernel
theorem dL_build_265 : decode cL_build 265 = .ok (.ishr, 1) := by decide +kernel
theorem dL_build_266 : decode cL_build 266 = .ok (.iconst 3, 1) := by decide +kernel
theorem dL_build_267 : decode cL_build 267 = .ok (.invokestatic 9, 3) := by decide +kernel
theorem dL_build_270 : decode cL_build 270 = .ok (.iadd, 1) := by decide +kernel
theorem dL_build_271 : decode cL_build 271 = .ok (.anewarray 117, 3) := by decide +kernel
theorem dL_build_274 : decode cL_build 274 = .ok (.putfield 75, 3) := by decide +kernel
theorem dL_build_277 : decode cL_build 277 = .ok (.aload_n 0, 1) := by decide +kernel
theorem dL_build_278 : decode cL_build 278 = .ok (.aload 7, 2) := by decide +kernel
theorem dL_build_280 : decode cL_build 280 = .ok (.getfield 53, 3) := by decide +kernel
theorem dL_build_283 : decode cL_build 283 = .ok (.aload 7, 2) := by decide +kernel
theorem dL_build_285 : decode cL_build 285 = .ok (.getfield 57, 3) := by decide +kernel
theorem dL_build_288 : decode cL_build 288 = .ok (.invokevirtual 64, 3) := by decide +kernel
theorem dL_build_291 : decode cL_build 291 = .ok (.iload 5, 2) := by decide +kernel
theorem dL_build_293 : decode cL_build 293 = .ok (.if_icmp .eq 5, 3) := by decide +kernel
theorem dL_build_296 : decode cL_build 296 = .ok (.aconst_null, 1) := by decide +kernel
theorem dL_build_297 : decode cL_build 297 = .ok (.areturn, 1) := by decide +kernel
theorem dL_build_298 : decode cL_build 298 = .ok (.iconst 0, 1) := by decide +kernel
theorem dL_build_299 : decode cL_build 299 = .ok (.istore 8, 2) := by decide +kernel
theorem dL_build_301 : decode cL_build 301 = .ok (.iload 8, 2) := by decide +kernel
theorem dL_build_303 : decode cL_build 303 = .ok (.aload 7, 2) := by decide +kernel
theorem dL_build_305 : decode cL_build 305 = .ok (.getfield 75, 3) := by decide +kernel
theorem dL_build_308 : decode cL_build 308 = .ok (.arraylength, 1) := by decide +kernel
theorem dL_build_309 : decode cL_build 309 = .ok (.if_icmp .ge 53, 3) := by decide +kernel
theorem dL_build_312 : decode cL_build 312 = .ok (.iload 6, 2) := by decide +kernel
theorem dL_build_314 : decode cL_build 314 = .ok (.iload 8, 2) := by decide +kernel
theorem dL_build_316 : decode cL_build 316 = .ok (.ishr, 1) := by decide +kernel
theorem dL_build_317 : decode cL_build 317 = .ok (.bipush 97, 2) := by decide +kernel
theorem dL_build_319 : decode cL_build 319 = .ok (.iload 8, 2) := by decide +kernel
theorem dL_build_321 : decode cL_build 321 = .ok (.imul, 1) := by decide +kernel
theorem dL_build_322 : decode cL_build 322 = .ok (.iadd, 1) := by decide +kernel
theorem dL_build_323 : decode cL_build 323 = .ok (.invokestatic 67, 3) := by decide +kernel
theorem dL_build_326 : decode cL_build 326 = .ok (.istore 9, 2) := by decide +kernel
theorem dL_build_328 : decode cL_build 328 = .ok (.aload 7, 2) := by decide +kernel
theorem dL_build_330 : decode cL_build 330 = .ok (.getfield 75, 3) := by decide +kernel
theorem dL_build_333 : decode cL_build 333 = .ok (.iload 8, 2) := by decide +kernel
theorem dL_build_335 : decode cL_build 335 = .ok (.iload 9, 2) := by decide +kernel
theorem dL_build_337 : decode cL_build 337 = .ok (.invokestatic 78, 3) := by decide +kernel
theorem dL_build_340 : decode cL_build 340 = .ok (.aastore, 1) := by decide +kernel
theorem dL_build_341 : decode cL_build 341 = .ok (.aload_n 0, 1) := by decide +kernel
theorem dL_build_342 : decode cL_build 342 = .ok (.iload 5, 2) := by decide +kernel
theorem dL_build_344 : decode cL_build 344 = .ok (.iload 9, 2) := by decide +kernel
theorem dL_build_346 : decode cL_build 346 = .ok (.invokevirtual 85, 3) := by decide +kernel
theorem dL_build_349 : decode cL_build 349 = .ok (.iload 8, 2) := by decide +kernel
theorem dL_build_351 : decode cL_build 351 = .ok (.if_icmp .eq 5, 3) := by decide +kernel
theorem dL_build_354 : decode cL_build 354 = .ok (.aconst_null, 1) := by decide +kernel
theorem dL_build_355 : decode cL_build 355 = .ok (.areturn, 1) := by decide +kernel
theorem dL_build_356 : decode cL_build 356 = .ok (.iinc 8 1, 3) := by decide +kernel
theorem dL_build_359 : decode cL_build 359 = .ok (.goto (-58), 3) := by decide +kernel
theorem dL_build_362 : decode cL_build 362 = .ok (.aload_n 2, 1) := by decide +kernel
theorem dL_build_363 : decode cL_build 363 = .ok (.aload_n 2, 1) := by decide +kernel
theorem dL_build_364 : decode cL_build 364 = .ok (.getfield 21, 3) := by decide +kernel
theorem dL_build_367 : decode cL_build 367 = .ok (.aload 7, 2) := by decide +kernel
theorem dL_build_369 : decode cL_build 369 = .ok (.invokestatic 60, 3) := by decide +kernel
theorem dL_build_372 : decode cL_build 372 = .ok (.putfield 21, 3) := by decide +kernel
theorem dL_build_375 : decode cL_build 375 = .ok (.iinc 5 1, 3) := by decide +kernel
theorem dL_build_378 : decode cL_build 378 = .ok (.goto (-174), 3) := by decide +kernel
theorem dL_build_381 : decode cL_build 381 = .ok (.iconst 0, 1) := by decide +kernel
theorem dL_build_382 : decode cL_build 382 = .ok (.istore 5, 2) := by decide +kernel
theorem dL_build_384 : decode cL_build 384 = .ok (.iload 5, 2) := by decide +kernel
theorem dL_build_386 : decode cL_build 386 = .ok (.iconst 4, 1) := by decide +kernel
theorem dL_build_387 : decode cL_build 387 = .ok (.if_icmp .ge 61, 3) := by decide +kernel
theorem dL_build_390 : decode cL_build 390 = .ok (.aload_n 1, 1) := by decide +kernel
theorem dL_build_391 : decode cL_build 391 = .ok (.bipush 6, 2) := by decide +kernel
theorem dL_build_393 : decode cL_build 393 = .ok (.invokestatic 109, 3) := by decide +kernel
theorem dL_build_396 : decode cL_build 396 = .ok (.iconst 3, 1) := by decide +kernel
theorem dL_build_397 : decode cL_build 397 = .ok (.iload 5, 2) := by decide +kernel
theorem dL_build_399 : decode cL_build 399 = .ok (.imul, 1) := by decide +kernel
theorem dL_build_400 : decode cL_build 400 = .ok (.ishr, 1) := by decide +kernel
theorem dL_build_401 : decode cL_build 401 = .ok (.iconst 5, 1) := by decide +kernel
theorem dL_build_402 : decode cL_build 402 = .ok (.invokestatic 9, 3) := by decide +kernel
theorem dL_build_405 : decode cL_build 405 = .ok (.iconst 1, 1) := by decide +kernel
theorem dL_build_406 : decode cL_build 406 = .ok (.isub, 1) := by decide +kernel
theorem dL_build_407 : decode cL_build 407 = .ok (.istore 6, 2) := by decide +kernel
theorem dL_build_409 : decode cL_build 409 = .ok (.iload 6, 2) := by decide +kernel
theorem dL_build_411 : decode cL_build 411 = .ok (.iload 5, 2) := by decide +kernel
theorem dL_build_413 : decode cL_build 413 = .ok (.if_icmp .ne 6, 3) := by decide +kernel
theorem dL_build_416 : decode cL_build 416 = .ok (.goto 26, 3) := by decide +kernel
theorem dL_build_419 : decode cL_build 419 = .ok (.aload_n 2, 1) := by decide +kernel
theorem dL_build_420 : decode cL_build 420 = .ok (.getfield 40, 3) := by decide +kernel
theorem dL_build_423 : decode cL_build 423 = .ok (.iload 5, 2) := by decide +kernel
theorem dL_build_425 : decode cL_build 425 = .ok (.iload 6, 2) := by decide +kernel
theorem dL_build_427 : decode cL_build 427 = .ok (.iastore, 1) := by decide +kernel
theorem dL_build_428 : decode cL_build 428 = .ok (.aload_n 0, 1) := by decide +kernel
theorem dL_build_429 : decode cL_build 429 = .ok (.iload 5, 2) := by decide +kernel
theorem dL_build_431 : decode cL_build 431 = .ok (.iload 6, 2) := by decide +kernel
theorem dL_build_433 : decode cL_build 433 = .ok (.invokevirtual 43, 3) := by decide +kernel
theorem dL_build_436 : decode cL_build 436 = .ok (.iconst (-1), 1) := by decide +kernel
theorem dL_build_437 : decode cL_build 437 = .ok (.if_icmp .eq 5, 3) := by decide +kernel
theorem dL_build_440 : decode cL_build 440 = .ok (.aconst_null, 1) := by decide +kernel
theorem dL_build_441 : decode cL_build 441 = .ok (.areturn, 1) := by decide +kernel
theorem dL_build_442 : decode cL_build 442 = .ok (.iinc 5 1, 3) := by decide +kernel
theorem dL_build_445 : decode cL_build 445 = .ok (.goto (-61), 3) := by decide +kernel
theorem dL_build_448 : decode cL_build 448 = .ok (.aload_n 2, 1) := by decide +kernel
theorem dL_build_449 : decode cL_build 449 = .ok (.areturn, 1) := by decide +kernel
/-- the good words of the tables: every contract's words, behind its own code -/
def wsG : List Cond := lw_tbl.filter goodWord
theorem tG {w : Cond} (h : w ∈ tables_1) (hg : goodWord w = true) : w ∈ wsG := List.mem_filter.mpr ⟨List.mem_append_right _ h, hg⟩
theorem tg1 {w : Cond} (i : Nat) (h : tables_1_1[i]? = some w) (hg : goodWord w = true) : w ∈ wsG := tG (List.mem_append_left _ (List.mem_of_getElem? h)) hg
theorem tg2 {w : Cond} (i : Nat) (h : tables_1_2[i]? = some w) (hg : goodWord w = true) : w ∈ wsG := tG (List.mem_append_right _ (List.mem_append_left _ (List.mem_of_getElem? h))) hg
theorem tg3 {w : Cond} (i : Nat) (h : tables_1_3[i]? = some w) (hg : goodWord w = true) : w ∈ wsG := tG (List.mem_append_right _ (List.mem_append_right _ (List.mem_append_left _ (List.mem_of_getElem? h)))) hg
theorem tg4 {w : Cond} (i : Nat) (h : tables_1_4[i]? = some w) (hg : goodWord w = true) : w ∈ wsG := tG (List.mem_append_right _ (List.mem_append_right _ (List.mem_append_right _ (List.mem_append_left _ (List.mem_of_getElem? h))))) hg
theorem tg0 {w : Cond} (i : Nat) (h : (k2_sels lw_privs)[i]? = some w) (hg : goodWord w = true) : w ∈ wsG := List.mem_filter.mpr ⟨List.mem_append_left _ (List.mem_of_getElem? h), hg⟩
theorem good_all {w : Cond} (h : w ∈ wsG) : (w.onTables && w.keeps) = true ∨ ∃ ty, w = .arrayClass ty := good_of_word (List.mem_filter.mp h).2
set_option maxRecDepth 100000 in
theorem inG0 : ∀ w ∈ wsX00, w ∈ wsG := by decide +kernel
set_option maxRecDepth 100000 in
theorem inG1 : ∀ w ∈ wsX10, w ∈ wsG := by decide +kernel
set_option maxRecDepth 100000 in
theorem inG2 : ∀ w ∈ wsX20, w ∈ wsG := by decide +kernel
set_option maxRecDepth 100000 in
theorem inG3 : ∀ w ∈ wsX30, w ∈ wsG := by decide +kernel
set_option maxRecDepth 100000 in
theorem inG4 : ∀ w ∈ wsX40, w ∈ wsG := by decide +kernel
set_option maxRecDepth 100000 in
theorem inG5 : ∀ w ∈ wsX50, w ∈ wsG := by decide +kernel
set_option maxRecDepth 100000 in
theorem inGL : ∀ w ∈ wsJx4a65c0, w ∈ wsG := by decide +kernel
set_option maxRecDepth 100000 in
theorem inGS : ∀ w ∈ wsJ00, w ∈ wsG := by decide +kernel
set_option maxRecDepth 100000 in
theorem inGB : ∀ w ∈ wsJ40, w ∈ wsG := by decide +kernel
