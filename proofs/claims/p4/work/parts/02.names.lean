def RX0 : String := "Bestratios$Fraction"
def TX0 : u_T := fun k => match k with
  | 0 => ("Bestratios$Fraction", "top", "J", false)
  | _ => ("Bestratios$Fraction", "bottom", "J", false)
def tyX0 : Nat → FieldType := fun k => match k with
  | 0 => .long
  | _ => .long
theorem nmX0 : ∀ a, a < 2 → ∀ b, b < 2 → a ≠ b → (TX0 a).2.1 ≠ (TX0 b).2.1 := by decide +kernel
theorem tyX0_ok : ∀ k, k < 2 → parseFieldDescriptor (TX0 k).2.2.1 = some (tyX0 k) := by decide +kernel
abbrev cX0_init : ByteArray := prog_2_method_1_code
def yX0_init : MethodName := ⟨RX0, "<init>", "()V"⟩
abbrev cX0_assign : ByteArray := prog_2_method_2_code
def yX0_assign : MethodName := ⟨RX0, "assign", "(LBestratios$Fraction;)V"⟩
abbrev cX0_become : ByteArray := prog_2_method_3_code
def yX0_become : MethodName := ⟨RX0, "become", "(JJ)V"⟩
abbrev cX0_isFitting : ByteArray := prog_2_method_4_code
def yX0_isFitting : MethodName := ⟨RX0, "isFitting", "()Z"⟩
abbrev cX0_isSameAs : ByteArray := prog_2_method_5_code
def yX0_isSameAs : MethodName := ⟨RX0, "isSameAs", "(LBestratios$Fraction;)Z"⟩
abbrev cX0_isOne : ByteArray := prog_2_method_6_code
def yX0_isOne : MethodName := ⟨RX0, "isOne", "()Z"⟩
abbrev cX0_sign : ByteArray := prog_2_method_7_code
def yX0_sign : MethodName := ⟨RX0, "sign", "()I"⟩
abbrev cX0_floorPart : ByteArray := prog_2_method_8_code
def yX0_floorPart : MethodName := ⟨RX0, "floorPart", "()J"⟩
abbrev cX0_cutTo : ByteArray := prog_2_method_9_code
def yX0_cutTo : MethodName := ⟨RX0, "cutTo", "(II)J"⟩
abbrev cX0_compareWith : ByteArray := prog_2_method_10_code
def yX0_compareWith : MethodName := ⟨RX0, "compareWith", "(LBestratios$Fraction;)I"⟩
abbrev cX0_isNextTo : ByteArray := prog_2_method_11_code
def yX0_isNextTo : MethodName := ⟨RX0, "isNextTo", "(LBestratios$Fraction;)Z"⟩
abbrev cX0_becomeSum : ByteArray := prog_2_method_12_code
def yX0_becomeSum : MethodName := ⟨RX0, "becomeSum", "(LBestratios$Fraction;LBestratios$Fraction;)V"⟩
abbrev cX0_becomeDifference : ByteArray := prog_2_method_13_code
def yX0_becomeDifference : MethodName := ⟨RX0, "becomeDifference", "(LBestratios$Fraction;LBestratios$Fraction;)V"⟩
abbrev cX0_gather : ByteArray := prog_2_method_14_code
def yX0_gather : MethodName := ⟨RX0, "gather", "(LBestratios$Fraction;JJ)V"⟩
abbrev cX0_becomeProduct : ByteArray := prog_2_method_15_code
def yX0_becomeProduct : MethodName := ⟨RX0, "becomeProduct", "(LBestratios$Fraction;LBestratios$Fraction;)V"⟩
abbrev cX0_becomeQuotient : ByteArray := prog_2_method_16_code
def yX0_becomeQuotient : MethodName := ⟨RX0, "becomeQuotient", "(LBestratios$Fraction;LBestratios$Fraction;)V"⟩
abbrev cX0_becomeMediant : ByteArray := prog_2_method_17_code
def yX0_becomeMediant : MethodName := ⟨RX0, "becomeMediant", "(LBestratios$Fraction;LBestratios$Fraction;)V"⟩
abbrev cX0_becomePower : ByteArray := prog_2_method_18_code
def yX0_becomePower : MethodName := ⟨RX0, "becomePower", "(LBestratios$Fraction;I)V"⟩
abbrev cX0_becomeNeighbour : ByteArray := prog_2_method_19_code
def yX0_becomeNeighbour : MethodName := ⟨RX0, "becomeNeighbour", "(LBestratios$Fraction;II)V"⟩
abbrev cX0_becomeFollower : ByteArray := prog_2_method_20_code
def yX0_becomeFollower : MethodName := ⟨RX0, "becomeFollower", "(LBestratios$Fraction;)V"⟩
abbrev cX0_becomeForerunner : ByteArray := prog_2_method_21_code
def yX0_becomeForerunner : MethodName := ⟨RX0, "becomeForerunner", "(LBestratios$Fraction;)V"⟩
abbrev cX0_becomeSimplest : ByteArray := prog_2_method_22_code
def yX0_becomeSimplest : MethodName := ⟨RX0, "becomeSimplest", "(LBestratios$Fraction;II)V"⟩
def RX1 : String := "Bestratios$Tally"
def TX1 : u_T := fun k => match k with
  | 0 => ("Bestratios$Tally", "exactSum", "LBestratios$Fraction;", true)
  | 1 => ("Bestratios$Tally", "roundedSum", "LBestratios$Fraction;", true)
  | 2 => ("Bestratios$Tally", "difference", "LBestratios$Fraction;", true)
  | 3 => ("Bestratios$Tally", "newExact", "LBestratios$Fraction;", true)
  | 4 => ("Bestratios$Tally", "newRounded", "LBestratios$Fraction;", true)
  | 5 => ("Bestratios$Tally", "newDifference", "LBestratios$Fraction;", true)
  | 6 => ("Bestratios$Tally", "came", "I", false)
  | _ => ("Bestratios$Tally", "places", "I", false)
def tyX1 : Nat → FieldType := fun k => match k with
  | 0 => .object "Bestratios$Fraction"
  | 1 => .object "Bestratios$Fraction"
  | 2 => .object "Bestratios$Fraction"
  | 3 => .object "Bestratios$Fraction"
  | 4 => .object "Bestratios$Fraction"
  | 5 => .object "Bestratios$Fraction"
  | 6 => .int
  | _ => .int
theorem nmX1 : ∀ a, a < 8 → ∀ b, b < 8 → a ≠ b → (TX1 a).2.1 ≠ (TX1 b).2.1 := by decide +kernel
theorem tyX1_ok : ∀ k, k < 8 → parseFieldDescriptor (TX1 k).2.2.1 = some (tyX1 k) := by decide +kernel
abbrev cX1_init : ByteArray := prog_3_method_1_code
def yX1_init : MethodName := ⟨RX1, "<init>", "()V"⟩
abbrev cX1_clear : ByteArray := prog_3_method_2_code
def yX1_clear : MethodName := ⟨RX1, "clear", "()V"⟩
abbrev cX1_takeIn : ByteArray := prog_3_method_3_code
def yX1_takeIn : MethodName := ⟨RX1, "takeIn", "(LBestratios$Fraction;II)Z"⟩
abbrev cX1_isEven : ByteArray := prog_3_method_4_code
def yX1_isEven : MethodName := ⟨RX1, "isEven", "(LBestratios$Fraction;)Z"⟩
def RX2 : String := "Bestratios$Terms"
def TX2 : u_T := fun k => match k with
  | 0 => ("Bestratios$Terms", "values", "[J", true)
  | _ => ("Bestratios$Terms", "count", "I", false)
def tyX2 : Nat → FieldType := fun k => match k with
  | 0 => .array .long
  | _ => .int
theorem nmX2 : ∀ a, a < 2 → ∀ b, b < 2 → a ≠ b → (TX2 a).2.1 ≠ (TX2 b).2.1 := by decide +kernel
theorem tyX2_ok : ∀ k, k < 2 → parseFieldDescriptor (TX2 k).2.2.1 = some (tyX2 k) := by decide +kernel
abbrev cX2_init : ByteArray := prog_4_method_1_code
def yX2_init : MethodName := ⟨RX2, "<init>", "()V"⟩
abbrev cX2_at : ByteArray := prog_4_method_2_code
def yX2_at : MethodName := ⟨RX2, "at", "(I)J"⟩
abbrev cX2_addLast : ByteArray := prog_4_method_3_code
def yX2_addLast : MethodName := ⟨RX2, "addLast", "(J)V"⟩
abbrev cX2_addToLast : ByteArray := prog_4_method_4_code
def yX2_addToLast : MethodName := ⟨RX2, "addToLast", "(J)V"⟩
abbrev cX2_keepFirst : ByteArray := prog_4_method_5_code
def yX2_keepFirst : MethodName := ⟨RX2, "keepFirst", "(I)V"⟩
abbrev cX2_total : ByteArray := prog_4_method_6_code
def yX2_total : MethodName := ⟨RX2, "total", "()J"⟩
abbrev cX2_takeApart : ByteArray := prog_4_method_7_code
def yX2_takeApart : MethodName := ⟨RX2, "takeApart", "(LBestratios$Fraction;)V"⟩
abbrev cX2_foldInto : ByteArray := prog_4_method_8_code
def yX2_foldInto : MethodName := ⟨RX2, "foldInto", "(LBestratios$Fraction;)Z"⟩
def RX3 : String := "Bestratios"
def TX3 : u_T := fun k => match k with
  | 0 => ("Bestratios", "ratios", "[LBestratios$Fraction;", true)
  | 1 => ("Bestratios", "said", "LBestratios$Terms;", true)
  | 2 => ("Bestratios", "tallied", "LBestratios$Tally;", true)
  | 3 => ("Bestratios", "refusals", "I", false)
  | 4 => ("Bestratios", "knocks", "I", false)
  | 5 => ("Bestratios", "made", "LBestratios$Fraction;", true)
  | 6 => ("Bestratios", "below", "LBestratios$Fraction;", true)
  | 7 => ("Bestratios", "above", "LBestratios$Fraction;", true)
  | _ => ("Bestratios", "found", "LBestratios$Terms;", true)
def tyX3 : Nat → FieldType := fun k => match k with
  | 0 => .array (.object "Bestratios$Fraction")
  | 1 => .object "Bestratios$Terms"
  | 2 => .object "Bestratios$Tally"
  | 3 => .int
  | 4 => .int
  | 5 => .object "Bestratios$Fraction"
  | 6 => .object "Bestratios$Fraction"
  | 7 => .object "Bestratios$Fraction"
  | _ => .object "Bestratios$Terms"
theorem nmX3 : ∀ a, a < 9 → ∀ b, b < 9 → a ≠ b → (TX3 a).2.1 ≠ (TX3 b).2.1 := by decide +kernel
theorem tyX3_ok : ∀ k, k < 9 → parseFieldDescriptor (TX3 k).2.2.1 = some (tyX3 k) := by decide +kernel
abbrev cX3_init : ByteArray := prog_1_method_1_code
def yX3_init : MethodName := ⟨RX3, "<init>", "()V"⟩
abbrev cX3_put : ByteArray := prog_1_method_2_code
def yX3_put : MethodName := ⟨RX3, "put", "(III)I"⟩
abbrev cX3_putDecimal : ByteArray := prog_1_method_3_code
def yX3_putDecimal : MethodName := ⟨RX3, "putDecimal", "(III)I"⟩
abbrev cX3_copy : ByteArray := prog_1_method_4_code
def yX3_copy : MethodName := ⟨RX3, "copy", "(II)I"⟩
abbrev cX3_swap : ByteArray := prog_1_method_5_code
def yX3_swap : MethodName := ⟨RX3, "swap", "(II)I"⟩
abbrev cX3_plus : ByteArray := prog_1_method_6_code
def yX3_plus : MethodName := ⟨RX3, "plus", "(III)I"⟩
abbrev cX3_minus : ByteArray := prog_1_method_7_code
def yX3_minus : MethodName := ⟨RX3, "minus", "(III)I"⟩
abbrev cX3_times : ByteArray := prog_1_method_8_code
def yX3_times : MethodName := ⟨RX3, "times", "(III)I"⟩
abbrev cX3_over : ByteArray := prog_1_method_9_code
def yX3_over : MethodName := ⟨RX3, "over", "(III)I"⟩
abbrev cX3_negate : ByteArray := prog_1_method_10_code
def yX3_negate : MethodName := ⟨RX3, "negate", "(I)I"⟩
abbrev cX3_invert : ByteArray := prog_1_method_11_code
def yX3_invert : MethodName := ⟨RX3, "invert", "(I)I"⟩
abbrev cX3_raise : ByteArray := prog_1_method_12_code
def yX3_raise : MethodName := ⟨RX3, "raise", "(II)I"⟩
abbrev cX3_mediant : ByteArray := prog_1_method_13_code
def yX3_mediant : MethodName := ⟨RX3, "mediant", "(III)I"⟩
abbrev cX3_text : ByteArray := prog_1_method_14_code
def yX3_text : MethodName := ⟨RX3, "text", "(I)Ljava/lang/String;"⟩
abbrev cX3_part : ByteArray := prog_1_method_15_code
def yX3_part : MethodName := ⟨RX3, "part", "(II)I"⟩
abbrev cX3_compare : ByteArray := prog_1_method_16_code
def yX3_compare : MethodName := ⟨RX3, "compare", "(II)I"⟩
abbrev cX3_areNext : ByteArray := prog_1_method_17_code
def yX3_areNext : MethodName := ⟨RX3, "areNext", "(II)Z"⟩
abbrev cX3_terms : ByteArray := prog_1_method_18_code
def yX3_terms : MethodName := ⟨RX3, "terms", "(I)Ljava/lang/String;"⟩
abbrev cX3_term : ByteArray := prog_1_method_19_code
def yX3_term : MethodName := ⟨RX3, "term", "(II)I"⟩
abbrev cX3_convergent : ByteArray := prog_1_method_20_code
def yX3_convergent : MethodName := ⟨RX3, "convergent", "(III)I"⟩
abbrev cX3_say : ByteArray := prog_1_method_21_code
def yX3_say : MethodName := ⟨RX3, "say", "(I)I"⟩
abbrev cX3_unsay : ByteArray := prog_1_method_22_code
def yX3_unsay : MethodName := ⟨RX3, "unsay", "(I)I"⟩
abbrev cX3_row : ByteArray := prog_1_method_23_code
def yX3_row : MethodName := ⟨RX3, "row", "()Ljava/lang/String;"⟩
abbrev cX3_fold : ByteArray := prog_1_method_24_code
def yX3_fold : MethodName := ⟨RX3, "fold", "(I)I"⟩
abbrev cX3_lower : ByteArray := prog_1_method_25_code
def yX3_lower : MethodName := ⟨RX3, "lower", "(III)I"⟩
abbrev cX3_upper : ByteArray := prog_1_method_26_code
def yX3_upper : MethodName := ⟨RX3, "upper", "(III)I"⟩
abbrev cX3_best : ByteArray := prog_1_method_27_code
def yX3_best : MethodName := ⟨RX3, "best", "(III)I"⟩
abbrev cX3_up : ByteArray := prog_1_method_28_code
def yX3_up : MethodName := ⟨RX3, "up", "(I)I"⟩
abbrev cX3_down : ByteArray := prog_1_method_29_code
def yX3_down : MethodName := ⟨RX3, "down", "(IZ)I"⟩
abbrev cX3_depth : ByteArray := prog_1_method_30_code
def yX3_depth : MethodName := ⟨RX3, "depth", "(I)I"⟩
abbrev cX3_way : ByteArray := prog_1_method_31_code
def yX3_way : MethodName := ⟨RX3, "way", "(I)Ljava/lang/String;"⟩
abbrev cX3_next : ByteArray := prog_1_method_32_code
def yX3_next : MethodName := ⟨RX3, "next", "(II)I"⟩
abbrev cX3_before : ByteArray := prog_1_method_33_code
def yX3_before : MethodName := ⟨RX3, "before", "(I)I"⟩
abbrev cX3_cut : ByteArray := prog_1_method_34_code
def yX3_cut : MethodName := ⟨RX3, "cut", "(III)Ljava/lang/String;"⟩
abbrev cX3_simplest : ByteArray := prog_1_method_35_code
def yX3_simplest : MethodName := ⟨RX3, "simplest", "(IIII)I"⟩
abbrev cX3_tally : ByteArray := prog_1_method_36_code
def yX3_tally : MethodName := ⟨RX3, "tally", "(III)I"⟩
abbrev cX3_wipe : ByteArray := prog_1_method_37_code
def yX3_wipe : MethodName := ⟨RX3, "wipe", "()I"⟩
abbrev cX3_exact : ByteArray := prog_1_method_38_code
def yX3_exact : MethodName := ⟨RX3, "exact", "()Ljava/lang/String;"⟩
abbrev cX3_rounded : ByteArray := prog_1_method_39_code
def yX3_rounded : MethodName := ⟨RX3, "rounded", "()Ljava/lang/String;"⟩
abbrev cX3_error : ByteArray := prog_1_method_40_code
def yX3_error : MethodName := ⟨RX3, "error", "()Ljava/lang/String;"⟩
abbrev cX3_knock : ByteArray := prog_1_method_41_code
def yX3_knock : MethodName := ⟨RX3, "knock", "()I"⟩
abbrev cX3_house : ByteArray := prog_1_method_42_code
def yX3_house : MethodName := ⟨RX3, "house", "(I)I"⟩
abbrev cX3_isSound : ByteArray := prog_1_method_43_code
def yX3_isSound : MethodName := ⟨RX3, "isSound", "()Z"⟩
abbrev cX3_digest : ByteArray := prog_1_method_44_code
def yX3_digest : MethodName := ⟨RX3, "digest", "()J"⟩
abbrev cX3_ratioAt : ByteArray := prog_1_method_45_code
def yX3_ratioAt : MethodName := ⟨RX3, "ratioAt", "(I)LBestratios$Fraction;"⟩
abbrev cX3_requireWithin : ByteArray := prog_1_method_46_code
def yX3_requireWithin : MethodName := ⟨RX3, "requireWithin", "(III)V"⟩
abbrev cX3_requireNotBelow0 : ByteArray := prog_1_method_47_code
def yX3_requireNotBelow0 : MethodName := ⟨RX3, "requireNotBelow0", "(I)V"⟩
abbrev cX3_refuse : ByteArray := prog_1_method_48_code
def yX3_refuse : MethodName := ⟨RX3, "refuse", "()I"⟩
abbrev cX3_settle : ByteArray := prog_1_method_49_code
def yX3_settle : MethodName := ⟨RX3, "settle", "(LBestratios$Fraction;)I"⟩
abbrev cX3_partOf : ByteArray := prog_1_method_50_code
def yX3_partOf : MethodName := ⟨RX3, "partOf", "(LBestratios$Fraction;I)J"⟩
abbrev cX3_countOf : ByteArray := prog_1_method_51_code
def yX3_countOf : MethodName := ⟨RX3, "countOf", "(I)I"⟩
abbrev cX3_wholeCount : ByteArray := prog_1_method_52_code
def yX3_wholeCount : MethodName := ⟨RX3, "wholeCount", "()I"⟩
abbrev cX3_takeNeighbour : ByteArray := prog_1_method_53_code
def yX3_takeNeighbour : MethodName := ⟨RX3, "takeNeighbour", "(IIII)I"⟩
abbrev cX3_isLowerBetter : ByteArray := prog_1_method_54_code
def yX3_isLowerBetter : MethodName := ⟨RX3, "isLowerBetter", "(LBestratios$Fraction;)Z"⟩
abbrev cX3_stepUp : ByteArray := prog_1_method_55_code
def yX3_stepUp : MethodName := ⟨RX3, "stepUp", "(LBestratios$Fraction;)Z"⟩
abbrev cX3_stepDown : ByteArray := prog_1_method_56_code
def yX3_stepDown : MethodName := ⟨RX3, "stepDown", "(LBestratios$Fraction;Z)Z"⟩
abbrev cX3_depthOf : ByteArray := prog_1_method_57_code
def yX3_depthOf : MethodName := ⟨RX3, "depthOf", "(LBestratios$Fraction;)J"⟩
abbrev cX3_writeWay : ByteArray := prog_1_method_58_code
def yX3_writeWay : MethodName := ⟨RX3, "writeWay", "(Ljava/lang/StringBuilder;LBestratios$Fraction;)V"⟩
abbrev cX3_textOf : ByteArray := prog_1_method_59_code
def yX3_textOf : MethodName := ⟨RX3, "textOf", "(LBestratios$Fraction;)Ljava/lang/String;"⟩
abbrev cX3_rowText : ByteArray := prog_1_method_60_code
def yX3_rowText : MethodName := ⟨RX3, "rowText", "(LBestratios$Terms;)Ljava/lang/String;"⟩
abbrev cX3_writeFraction : ByteArray := prog_1_method_61_code
def yX3_writeFraction : MethodName := ⟨RX3, "writeFraction", "(Ljava/lang/StringBuilder;LBestratios$Fraction;)V"⟩
abbrev cX3_writeRounded : ByteArray := prog_1_method_62_code
def yX3_writeRounded : MethodName := ⟨RX3, "writeRounded", "(Ljava/lang/StringBuilder;)V"⟩
abbrev cX3_writeDecimal : ByteArray := prog_1_method_63_code
def yX3_writeDecimal : MethodName := ⟨RX3, "writeDecimal", "(Ljava/lang/StringBuilder;JI)V"⟩
abbrev cX3_isFoldSound : ByteArray := prog_1_method_64_code
def yX3_isFoldSound : MethodName := ⟨RX3, "isFoldSound", "(LBestratios$Fraction;)Z"⟩
abbrev cX3_areNeighboursSound : ByteArray := prog_1_method_65_code
def yX3_areNeighboursSound : MethodName := ⟨RX3, "areNeighboursSound", "(LBestratios$Fraction;)Z"⟩
abbrev cX3_isCutSound : ByteArray := prog_1_method_66_code
def yX3_isCutSound : MethodName := ⟨RX3, "isCutSound", "(LBestratios$Fraction;I)Z"⟩
abbrev cX3_isTreeSound : ByteArray := prog_1_method_67_code
def yX3_isTreeSound : MethodName := ⟨RX3, "isTreeSound", "(LBestratios$Fraction;)Z"⟩
abbrev cX3_areSoundInPairs : ByteArray := prog_1_method_68_code
def yX3_areSoundInPairs : MethodName := ⟨RX3, "areSoundInPairs", "()Z"⟩
abbrev cX3_mixed : ByteArray := prog_1_method_69_code
def yX3_mixed : MethodName := ⟨RX3, "mixed", "(JJ)J"⟩
abbrev cX3_mixedWithRatio : ByteArray := prog_1_method_70_code
def yX3_mixedWithRatio : MethodName := ⟨RX3, "mixedWithRatio", "(JLBestratios$Fraction;Ljava/lang/StringBuilder;)J"⟩
abbrev cX3_mixedWithPairs : ByteArray := prog_1_method_71_code
def yX3_mixedWithPairs : MethodName := ⟨RX3, "mixedWithPairs", "(J)J"⟩
abbrev cX3_mixedWithTally : ByteArray := prog_1_method_72_code
def yX3_mixedWithTally : MethodName := ⟨RX3, "mixedWithTally", "(JLjava/lang/StringBuilder;)J"⟩
abbrev cX3_floorOf : ByteArray := prog_1_method_73_code
def yX3_floorOf : MethodName := ⟨RX3, "floorOf", "(JJ)J"⟩
abbrev cX3_commonDivisor : ByteArray := prog_1_method_74_code
def yX3_commonDivisor : MethodName := ⟨RX3, "commonDivisor", "(JJ)J"⟩
abbrev cX3_powerOfTen : ByteArray := prog_1_method_75_code
def yX3_powerOfTen : MethodName := ⟨RX3, "powerOfTen", "(I)J"⟩
abbrev cX3_powerToLimit : ByteArray := prog_1_method_76_code
def yX3_powerToLimit : MethodName := ⟨RX3, "powerToLimit", "(JI)J"⟩
abbrev cX3_cutNumber : ByteArray := prog_1_method_77_code
def yX3_cutNumber : MethodName := ⟨RX3, "cutNumber", "(JJII)J"⟩
abbrev cX3_isCutUpward : ByteArray := prog_1_method_78_code
def yX3_isCutUpward : MethodName := ⟨RX3, "isCutUpward", "(JJJI)Z"⟩
def RX4 : String := "BestratiosLaw$Out"
def TX4 : u_T := fun k => match k with
  | 0 => ("BestratiosLaw$Out", "n", "J", false)
  | _ => ("BestratiosLaw$Out", "s", "Ljava/lang/String;", false)
def tyX4 : Nat → FieldType := fun k => match k with
  | 0 => .long
  | _ => .object "java/lang/String"
theorem nmX4 : ∀ a, a < 2 → ∀ b, b < 2 → a ≠ b → (TX4 a).2.1 ≠ (TX4 b).2.1 := by decide +kernel
theorem tyX4_ok : ∀ k, k < 2 → parseFieldDescriptor (TX4 k).2.2.1 = some (tyX4 k) := by decide +kernel
abbrev cX4_init : ByteArray := prog_6_method_1_code
def yX4_init : MethodName := ⟨RX4, "<init>", "()V"⟩
def RX5 : String := "BestratiosModel"
def TX5 : u_T := fun k => match k with
  | 0 => ("BestratiosModel", "ratios", "[[J", true)
  | 1 => ("BestratiosModel", "row", "Ljava/util/ArrayList;", true)
  | 2 => ("BestratiosModel", "exact", "[J", false)
  | 3 => ("BestratiosModel", "rounded", "[J", false)
  | 4 => ("BestratiosModel", "places", "I", false)
  | 5 => ("BestratiosModel", "came", "I", false)
  | 6 => ("BestratiosModel", "refused", "I", false)
  | 7 => ("BestratiosModel", "knocks", "I", false)
  | _ => ("BestratiosModel", "thrown", "I", false)
def tyX5 : Nat → FieldType := fun k => match k with
  | 0 => .array (.array .long)
  | 1 => .object "java/util/ArrayList"
  | 2 => .array .long
  | 3 => .array .long
  | 4 => .int
  | 5 => .int
  | 6 => .int
  | 7 => .int
  | _ => .int
theorem nmX5 : ∀ a, a < 9 → ∀ b, b < 9 → a ≠ b → (TX5 a).2.1 ≠ (TX5 b).2.1 := by decide +kernel
theorem tyX5_ok : ∀ k, k < 9 → parseFieldDescriptor (TX5 k).2.2.1 = some (tyX5 k) := by decide +kernel
abbrev cX5_init : ByteArray := prog_7_method_1_code
def yX5_init : MethodName := ⟨RX5, "<init>", "()V"⟩
abbrev cX5_thrown : ByteArray := prog_7_method_2_code
def yX5_thrown : MethodName := ⟨RX5, "thrown", "()I"⟩
abbrev cX5_isIn : ByteArray := prog_7_method_3_code
def yX5_isIn : MethodName := ⟨RX5, "isIn", "(III)Z"⟩
abbrev cX5_bit : ByteArray := prog_7_method_4_code
def yX5_bit : MethodName := ⟨RX5, "bit", "(Z)I"⟩
abbrev cX5_fails : ByteArray := prog_7_method_5_code
def yX5_fails : MethodName := ⟨RX5, "fails", "(ZZ)Z"⟩
abbrev cX5_isNo : ByteArray := prog_7_method_6_code
def yX5_isNo : MethodName := ⟨RX5, "isNo", "(I)Z"⟩
abbrev cX5_areNo : ByteArray := prog_7_method_7_code
def yX5_areNo : MethodName := ⟨RX5, "areNo", "(II)Z"⟩
abbrev cX5_divisor : ByteArray := prog_7_method_8_code
def yX5_divisor : MethodName := ⟨RX5, "divisor", "(JJ)J"⟩
abbrev cX5_lowest : ByteArray := prog_7_method_9_code
def yX5_lowest : MethodName := ⟨RX5, "lowest", "(JJ)[J"⟩
abbrev cX5_isFit : ByteArray := prog_7_method_10_code
def yX5_isFit : MethodName := ⟨RX5, "isFit", "([J)Z"⟩
abbrev cX5_floor : ByteArray := prog_7_method_11_code
def yX5_floor : MethodName := ⟨RX5, "floor", "(JJ)J"⟩
abbrev cX5_sum : ByteArray := prog_7_method_12_code
def yX5_sum : MethodName := ⟨RX5, "sum", "([J[JI)[J"⟩
abbrev cX5_product : ByteArray := prog_7_method_13_code
def yX5_product : MethodName := ⟨RX5, "product", "([J[J)[J"⟩
abbrev cX5_order : ByteArray := prog_7_method_14_code
def yX5_order : MethodName := ⟨RX5, "order", "([J[J)I"⟩
abbrev cX5_text : ByteArray := prog_7_method_15_code
def yX5_text : MethodName := ⟨RX5, "text", "([J)Ljava/lang/String;"⟩
abbrev cX5_no : ByteArray := prog_7_method_16_code
def yX5_no : MethodName := ⟨RX5, "no", "()I"⟩
abbrev cX5_become : ByteArray := prog_7_method_17_code
def yX5_become : MethodName := ⟨RX5, "become", "(I[J)I"⟩
abbrev cX5_put : ByteArray := prog_7_method_18_code
def yX5_put : MethodName := ⟨RX5, "put", "(III)I"⟩
abbrev cX5_power : ByteArray := prog_7_method_19_code
def yX5_power : MethodName := ⟨RX5, "power", "(I)J"⟩
abbrev cX5_putDecimal : ByteArray := prog_7_method_20_code
def yX5_putDecimal : MethodName := ⟨RX5, "putDecimal", "(III)I"⟩
abbrev cX5_copy : ByteArray := prog_7_method_21_code
def yX5_copy : MethodName := ⟨RX5, "copy", "(II)I"⟩
abbrev cX5_swap : ByteArray := prog_7_method_22_code
def yX5_swap : MethodName := ⟨RX5, "swap", "(II)I"⟩
abbrev cX5_plus : ByteArray := prog_7_method_23_code
def yX5_plus : MethodName := ⟨RX5, "plus", "(III)I"⟩
abbrev cX5_minus : ByteArray := prog_7_method_24_code
def yX5_minus : MethodName := ⟨RX5, "minus", "(III)I"⟩
abbrev cX5_times : ByteArray := prog_7_method_25_code
def yX5_times : MethodName := ⟨RX5, "times", "(III)I"⟩
abbrev cX5_inverse : ByteArray := prog_7_method_26_code
def yX5_inverse : MethodName := ⟨RX5, "inverse", "([J)[J"⟩
abbrev cX5_over : ByteArray := prog_7_method_27_code
def yX5_over : MethodName := ⟨RX5, "over", "(III)I"⟩
abbrev cX5_negate : ByteArray := prog_7_method_28_code
def yX5_negate : MethodName := ⟨RX5, "negate", "(I)I"⟩
abbrev cX5_invert : ByteArray := prog_7_method_29_code
def yX5_invert : MethodName := ⟨RX5, "invert", "(I)I"⟩
abbrev cX5_raised : ByteArray := prog_7_method_30_code
def yX5_raised : MethodName := ⟨RX5, "raised", "([JI)[J"⟩
abbrev cX5_raise : ByteArray := prog_7_method_31_code
def yX5_raise : MethodName := ⟨RX5, "raise", "(II)I"⟩
abbrev cX5_between : ByteArray := prog_7_method_32_code
def yX5_between : MethodName := ⟨RX5, "between", "([J[J)[J"⟩
abbrev cX5_mediant : ByteArray := prog_7_method_33_code
def yX5_mediant : MethodName := ⟨RX5, "mediant", "(III)I"⟩
abbrev cX5_text_ : ByteArray := prog_7_method_34_code
def yX5_text_ : MethodName := ⟨RX5, "text", "(I)Ljava/lang/String;"⟩
abbrev cX5_partNow : ByteArray := prog_7_method_35_code
def yX5_partNow : MethodName := ⟨RX5, "partNow", "(II)I"⟩
abbrev cX5_part : ByteArray := prog_7_method_36_code
def yX5_part : MethodName := ⟨RX5, "part", "(II)I"⟩
abbrev cX5_compare : ByteArray := prog_7_method_37_code
def yX5_compare : MethodName := ⟨RX5, "compare", "(II)I"⟩
abbrev cX5_areNextNow : ByteArray := prog_7_method_38_code
def yX5_areNextNow : MethodName := ⟨RX5, "areNextNow", "(II)Z"⟩
abbrev cX5_areNext : ByteArray := prog_7_method_39_code
def yX5_areNext : MethodName := ⟨RX5, "areNext", "(II)Z"⟩
abbrev cX5_termsOf : ByteArray := prog_7_method_40_code
def yX5_termsOf : MethodName := ⟨RX5, "termsOf", "([J)Ljava/util/ArrayList;"⟩
abbrev cX5_folded : ByteArray := prog_7_method_41_code
def yX5_folded : MethodName := ⟨RX5, "folded", "(Ljava/util/ArrayList;I)[J"⟩
abbrev cX5_told : ByteArray := prog_7_method_42_code
def yX5_told : MethodName := ⟨RX5, "told", "(Ljava/util/ArrayList;)Ljava/lang/String;"⟩
abbrev cX5_terms : ByteArray := prog_7_method_43_code
def yX5_terms : MethodName := ⟨RX5, "terms", "(I)Ljava/lang/String;"⟩
abbrev cX5_term : ByteArray := prog_7_method_44_code
def yX5_term : MethodName := ⟨RX5, "term", "(II)I"⟩
abbrev cX5_convergent : ByteArray := prog_7_method_45_code
def yX5_convergent : MethodName := ⟨RX5, "convergent", "(III)I"⟩
abbrev cX5_say : ByteArray := prog_7_method_46_code
def yX5_say : MethodName := ⟨RX5, "say", "(I)I"⟩
abbrev cX5_unsay : ByteArray := prog_7_method_47_code
def yX5_unsay : MethodName := ⟨RX5, "unsay", "(I)I"⟩
abbrev cX5_rowNow : ByteArray := prog_7_method_48_code
def yX5_rowNow : MethodName := ⟨RX5, "rowNow", "()Ljava/util/ArrayList;"⟩
abbrev cX5_row : ByteArray := prog_7_method_49_code
def yX5_row : MethodName := ⟨RX5, "row", "()Ljava/lang/String;"⟩
abbrev cX5_fold : ByteArray := prog_7_method_50_code
def yX5_fold : MethodName := ⟨RX5, "fold", "(I)I"⟩
abbrev cX5_neighbour : ByteArray := prog_7_method_51_code
def yX5_neighbour : MethodName := ⟨RX5, "neighbour", "([JIZ)[J"⟩
abbrev cX5_lower : ByteArray := prog_7_method_52_code
def yX5_lower : MethodName := ⟨RX5, "lower", "(III)I"⟩
abbrev cX5_upper : ByteArray := prog_7_method_53_code
def yX5_upper : MethodName := ⟨RX5, "upper", "(III)I"⟩
abbrev cX5_bestOf : ByteArray := prog_7_method_54_code
def yX5_bestOf : MethodName := ⟨RX5, "bestOf", "([JI)[J"⟩
abbrev cX5_best : ByteArray := prog_7_method_55_code
def yX5_best : MethodName := ⟨RX5, "best", "(III)I"⟩
abbrev cX5_isAbove : ByteArray := prog_7_method_56_code
def yX5_isAbove : MethodName := ⟨RX5, "isAbove", "([J)Z"⟩
abbrev cX5_isOne : ByteArray := prog_7_method_57_code
def yX5_isOne : MethodName := ⟨RX5, "isOne", "([J)Z"⟩
abbrev cX5_withLast : ByteArray := prog_7_method_58_code
def yX5_withLast : MethodName := ⟨RX5, "withLast", "([JI)[J"⟩
abbrev cX5_up : ByteArray := prog_7_method_59_code
def yX5_up : MethodName := ⟨RX5, "up", "(I)I"⟩
abbrev cX5_below : ByteArray := prog_7_method_60_code
def yX5_below : MethodName := ⟨RX5, "below", "([JZ)[J"⟩
abbrev cX5_down : ByteArray := prog_7_method_61_code
def yX5_down : MethodName := ⟨RX5, "down", "(IZ)I"⟩
abbrev cX5_depthNow : ByteArray := prog_7_method_62_code
def yX5_depthNow : MethodName := ⟨RX5, "depthNow", "(I)I"⟩
abbrev cX5_depth : ByteArray := prog_7_method_63_code
def yX5_depth : MethodName := ⟨RX5, "depth", "(I)I"⟩
abbrev cX5_wayNow : ByteArray := prog_7_method_64_code
def yX5_wayNow : MethodName := ⟨RX5, "wayNow", "(I)Ljava/lang/String;"⟩
abbrev cX5_way : ByteArray := prog_7_method_65_code
def yX5_way : MethodName := ⟨RX5, "way", "(I)Ljava/lang/String;"⟩
abbrev cX5_nextOf : ByteArray := prog_7_method_66_code
def yX5_nextOf : MethodName := ⟨RX5, "nextOf", "([J)[J"⟩
abbrev cX5_next : ByteArray := prog_7_method_67_code
def yX5_next : MethodName := ⟨RX5, "next", "(II)I"⟩
abbrev cX5_before : ByteArray := prog_7_method_68_code
def yX5_before : MethodName := ⟨RX5, "before", "(I)I"⟩
abbrev cX5_cutOf : ByteArray := prog_7_method_69_code
def yX5_cutOf : MethodName := ⟨RX5, "cutOf", "(JJII)J"⟩
abbrev cX5_decimal : ByteArray := prog_7_method_70_code
def yX5_decimal : MethodName := ⟨RX5, "decimal", "(JI)Ljava/lang/String;"⟩
abbrev cX5_cutNow : ByteArray := prog_7_method_71_code
def yX5_cutNow : MethodName := ⟨RX5, "cutNow", "(III)Ljava/lang/String;"⟩
abbrev cX5_cut : ByteArray := prog_7_method_72_code
def yX5_cut : MethodName := ⟨RX5, "cut", "(III)Ljava/lang/String;"⟩
abbrev cX5_simplestOf : ByteArray := prog_7_method_73_code
def yX5_simplestOf : MethodName := ⟨RX5, "simplestOf", "([JII)[J"⟩
abbrev cX5_simplest : ByteArray := prog_7_method_74_code
def yX5_simplest : MethodName := ⟨RX5, "simplest", "(IIII)I"⟩
abbrev cX5_tally : ByteArray := prog_7_method_75_code
def yX5_tally : MethodName := ⟨RX5, "tally", "(III)I"⟩
abbrev cX5_wipe : ByteArray := prog_7_method_76_code
def yX5_wipe : MethodName := ⟨RX5, "wipe", "()I"⟩
abbrev cX5_exact : ByteArray := prog_7_method_77_code
def yX5_exact : MethodName := ⟨RX5, "exact", "()Ljava/lang/String;"⟩
abbrev cX5_roundedNow : ByteArray := prog_7_method_78_code
def yX5_roundedNow : MethodName := ⟨RX5, "roundedNow", "()Ljava/lang/String;"⟩
abbrev cX5_rounded : ByteArray := prog_7_method_79_code
def yX5_rounded : MethodName := ⟨RX5, "rounded", "()Ljava/lang/String;"⟩
abbrev cX5_errorNow : ByteArray := prog_7_method_80_code
def yX5_errorNow : MethodName := ⟨RX5, "errorNow", "()Ljava/lang/String;"⟩
abbrev cX5_error : ByteArray := prog_7_method_81_code
def yX5_error : MethodName := ⟨RX5, "error", "()Ljava/lang/String;"⟩
abbrev cX5_knock : ByteArray := prog_7_method_82_code
def yX5_knock : MethodName := ⟨RX5, "knock", "()I"⟩
abbrev cX5_houseNow : ByteArray := prog_7_method_83_code
def yX5_houseNow : MethodName := ⟨RX5, "houseNow", "(I)I"⟩
abbrev cX5_house : ByteArray := prog_7_method_84_code
def yX5_house : MethodName := ⟨RX5, "house", "(I)I"⟩
abbrev cX5_isSound : ByteArray := prog_7_method_85_code
def yX5_isSound : MethodName := ⟨RX5, "isSound", "()Z"⟩
abbrev cX5_add : ByteArray := prog_7_method_86_code
def yX5_add : MethodName := ⟨RX5, "add", "(JJ)J"⟩
abbrev cX5_digest : ByteArray := prog_7_method_87_code
def yX5_digest : MethodName := ⟨RX5, "digest", "()J"⟩
def RJx145de : String := "java/io/Serializable"
def TJx145de : u_T := fun k => match k with
  | _ => ("", "", "", false)
def tyJx145de : Nat → FieldType := fun k => match k with
  | _ => .int
theorem nmJx145de : ∀ a, a < 0 → ∀ b, b < 0 → a ≠ b → (TJx145de a).2.1 ≠ (TJx145de b).2.1 := by decide +kernel
theorem tyJx145de_ok : ∀ k, k < 0 → parseFieldDescriptor (TJx145de k).2.2.1 = some (tyJx145de k) := by decide +kernel
def RJ5 : String := "java/lang/AbstractStringBuilder"
def TJ5 : u_T := fun k => match k with
  | _ => ("", "", "", false)
def tyJ5 : Nat → FieldType := fun k => match k with
  | _ => .int
theorem nmJ5 : ∀ a, a < 0 → ∀ b, b < 0 → a ≠ b → (TJ5 a).2.1 ≠ (TJ5 b).2.1 := by decide +kernel
theorem tyJ5_ok : ∀ k, k < 0 → parseFieldDescriptor (TJ5 k).2.2.1 = some (tyJ5 k) := by decide +kernel
abbrev cJ5_init_d00df : ByteArray := prog_9_method_2_code
def yJ5_init_d00df : MethodName := ⟨RJ5, "<init>", "(I)V"⟩
abbrev cJ5_length_8abf5 : ByteArray := prog_9_method_6_code
def yJ5_length_8abf5 : MethodName := ⟨RJ5, "length", "()I"⟩
abbrev cJ5_ensureCapacityInternal_d00df : ByteArray := prog_9_method_9_code
def yJ5_ensureCapacityInternal_d00df : MethodName := ⟨RJ5, "ensureCapacityInternal", "(I)V"⟩
abbrev cJ5_newCapacity_0f7a4 : ByteArray := prog_9_method_10_code
def yJ5_newCapacity_0f7a4 : MethodName := ⟨RJ5, "newCapacity", "(I)I"⟩
abbrev cJ5_inflate_da8c8 : ByteArray := prog_9_method_11_code
def yJ5_inflate_da8c8 : MethodName := ⟨RJ5, "inflate", "()V"⟩
abbrev cJ5_setLength_d00df : ByteArray := prog_9_method_13_code
def yJ5_setLength_d00df : MethodName := ⟨RJ5, "setLength", "(I)V"⟩
abbrev cJ5_append_cf1ce : ByteArray := prog_9_method_22_code
def yJ5_append_cf1ce : MethodName := ⟨RJ5, "append", "(Ljava/lang/String;)Ljava/lang/AbstractStringBuilder;"⟩
abbrev cJ5_appendNull_278bc : ByteArray := prog_9_method_26_code
def yJ5_appendNull_278bc : MethodName := ⟨RJ5, "appendNull", "()Ljava/lang/AbstractStringBuilder;"⟩
abbrev cJ5_append_3fe6f : ByteArray := prog_9_method_31_code
def yJ5_append_3fe6f : MethodName := ⟨RJ5, "append", "(C)Ljava/lang/AbstractStringBuilder;"⟩
abbrev cJ5_append_c97b9 : ByteArray := prog_9_method_32_code
def yJ5_append_c97b9 : MethodName := ⟨RJ5, "append", "(I)Ljava/lang/AbstractStringBuilder;"⟩
abbrev cJ5_append_66267 : ByteArray := prog_9_method_33_code
def yJ5_append_66267 : MethodName := ⟨RJ5, "append", "(J)Ljava/lang/AbstractStringBuilder;"⟩
abbrev cJ5_getValue_6d5f1 : ByteArray := prog_9_method_64_code
def yJ5_getValue_6d5f1 : MethodName := ⟨RJ5, "getValue", "()[B"⟩
abbrev cJ5_isLatin1_aae02 : ByteArray := prog_9_method_68_code
def yJ5_isLatin1_aae02 : MethodName := ⟨RJ5, "isLatin1", "()Z"⟩
abbrev cJ5_inflateIfNeededFor_a7421 : ByteArray := prog_9_method_71_code
def yJ5_inflateIfNeededFor_a7421 : MethodName := ⟨RJ5, "inflateIfNeededFor", "(Ljava/lang/String;)V"⟩
abbrev cJ5_putStringAt_47b60 : ByteArray := prog_9_method_73_code
def yJ5_putStringAt_47b60 : MethodName := ⟨RJ5, "putStringAt", "(ILjava/lang/String;)V"⟩
def RJx2cfe8 : String := "java/lang/Appendable"
def TJx2cfe8 : u_T := fun k => match k with
  | _ => ("", "", "", false)
def tyJx2cfe8 : Nat → FieldType := fun k => match k with
  | _ => .int
theorem nmJx2cfe8 : ∀ a, a < 0 → ∀ b, b < 0 → a ≠ b → (TJx2cfe8 a).2.1 ≠ (TJx2cfe8 b).2.1 := by decide +kernel
theorem tyJx2cfe8_ok : ∀ k, k < 0 → parseFieldDescriptor (TJx2cfe8 k).2.2.1 = some (tyJx2cfe8 k) := by decide +kernel
def RJx00060 : String := "java/lang/ArrayIndexOutOfBoundsException"
def TJx00060 : u_T := fun k => match k with
  | 0 => ("java/lang/Throwable", "cause", "Ljava/lang/Throwable;", false)
  | 1 => ("java/lang/Throwable", "stackTrace", "[Ljava/lang/StackTraceElement;", false)
  | 2 => ("java/lang/Throwable", "suppressedExceptions", "Ljava/util/List;", false)
  | 3 => ("java/lang/Throwable", "detailMessage", "Ljava/lang/String;", false)
  | 4 => ("java/lang/Throwable", "backtrace", "Ljava/lang/Object;", false)
  | _ => ("java/lang/Throwable", "depth", "I", false)
def tyJx00060 : Nat → FieldType := fun k => match k with
  | 0 => .object "java/lang/Throwable"
  | 1 => .array (.object "java/lang/StackTraceElement")
  | 2 => .object "java/util/List"
  | 3 => .object "java/lang/String"
  | 4 => .object "java/lang/Object"
  | _ => .int
theorem nmJx00060 : ∀ a, a < 6 → ∀ b, b < 6 → a ≠ b → (TJx00060 a).2.1 ≠ (TJx00060 b).2.1 := by decide +kernel
theorem tyJx00060_ok : ∀ k, k < 6 → parseFieldDescriptor (TJx00060 k).2.2.1 = some (tyJx00060 k) := by decide +kernel
abbrev cJx00060_init_d00df : ByteArray := prog_11_method_3_code
def yJx00060_init_d00df : MethodName := ⟨RJx00060, "<init>", "(I)V"⟩
def RJx9f9b0 : String := "java/lang/CharSequence"
def TJx9f9b0 : u_T := fun k => match k with
  | _ => ("", "", "", false)
def tyJx9f9b0 : Nat → FieldType := fun k => match k with
  | _ => .int
theorem nmJx9f9b0 : ∀ a, a < 0 → ∀ b, b < 0 → a ≠ b → (TJx9f9b0 a).2.1 ≠ (TJx9f9b0 b).2.1 := by decide +kernel
theorem tyJx9f9b0_ok : ∀ k, k < 0 → parseFieldDescriptor (TJx9f9b0 k).2.2.1 = some (tyJx9f9b0 k) := by decide +kernel
def RJx8e188 : String := "java/lang/Cloneable"
def TJx8e188 : u_T := fun k => match k with
  | _ => ("", "", "", false)
def tyJx8e188 : Nat → FieldType := fun k => match k with
  | _ => .int
theorem nmJx8e188 : ∀ a, a < 0 → ∀ b, b < 0 → a ≠ b → (TJx8e188 a).2.1 ≠ (TJx8e188 b).2.1 := by decide +kernel
theorem tyJx8e188_ok : ∀ k, k < 0 → parseFieldDescriptor (TJx8e188 k).2.2.1 = some (tyJx8e188 k) := by decide +kernel
def RJxb160c : String := "java/lang/Comparable"
def TJxb160c : u_T := fun k => match k with
  | _ => ("", "", "", false)
def tyJxb160c : Nat → FieldType := fun k => match k with
  | _ => .int
theorem nmJxb160c : ∀ a, a < 0 → ∀ b, b < 0 → a ≠ b → (TJxb160c a).2.1 ≠ (TJxb160c b).2.1 := by decide +kernel
theorem tyJxb160c_ok : ∀ k, k < 0 → parseFieldDescriptor (TJxb160c k).2.2.1 = some (tyJxb160c k) := by decide +kernel
def RJxabbfe : String := "java/lang/Integer$IntegerCache"
def TJxabbfe : u_T := fun k => match k with
  | _ => ("", "", "", false)
def tyJxabbfe : Nat → FieldType := fun k => match k with
  | _ => .int
theorem nmJxabbfe : ∀ a, a < 0 → ∀ b, b < 0 → a ≠ b → (TJxabbfe a).2.1 ≠ (TJxabbfe b).2.1 := by decide +kernel
theorem tyJxabbfe_ok : ∀ k, k < 0 → parseFieldDescriptor (TJxabbfe k).2.2.1 = some (tyJxabbfe k) := by decide +kernel
def RJ6 : String := "java/lang/Integer"
def TJ6 : u_T := fun k => match k with
  | _ => ("java/lang/Integer", "value", "I", true)
def tyJ6 : Nat → FieldType := fun k => match k with
  | _ => .int
theorem nmJ6 : ∀ a, a < 1 → ∀ b, b < 1 → a ≠ b → (TJ6 a).2.1 ≠ (TJ6 b).2.1 := by decide +kernel
theorem tyJ6_ok : ∀ k, k < 1 → parseFieldDescriptor (TJ6 k).2.2.1 = some (tyJ6 k) := by decide +kernel
abbrev cJ6_getChars_ba4f3 : ByteArray := prog_19_method_12_code
def yJ6_getChars_ba4f3 : MethodName := ⟨RJ6, "getChars", "(II[B)I"⟩
abbrev cJ6_stringSize_0f7a4 : ByteArray := prog_19_method_13_code
def yJ6_stringSize_0f7a4 : MethodName := ⟨RJ6, "stringSize", "(I)I"⟩
abbrev cJ6_valueOf_2dffe : ByteArray := prog_19_method_22_code
def yJ6_valueOf_2dffe : MethodName := ⟨RJ6, "valueOf", "(I)Ljava/lang/Integer;"⟩
abbrev cJ6_init_d00df : ByteArray := prog_19_method_23_code
def yJ6_init_d00df : MethodName := ⟨RJ6, "<init>", "(I)V"⟩
abbrev cJ6_intValue_8abf5 : ByteArray := prog_19_method_27_code
def yJ6_intValue_8abf5 : MethodName := ⟨RJ6, "intValue", "()I"⟩
def RJxab1ab : String := "java/lang/Iterable"
def TJxab1ab : u_T := fun k => match k with
  | _ => ("", "", "", false)
def tyJxab1ab : Nat → FieldType := fun k => match k with
  | _ => .int
theorem nmJxab1ab : ∀ a, a < 0 → ∀ b, b < 0 → a ≠ b → (TJxab1ab a).2.1 ≠ (TJxab1ab b).2.1 := by decide +kernel
theorem tyJxab1ab_ok : ∀ k, k < 0 → parseFieldDescriptor (TJxab1ab k).2.2.1 = some (tyJxab1ab k) := by decide +kernel
def RJxdb0fc : String := "java/lang/Long$LongCache"
def TJxdb0fc : u_T := fun k => match k with
  | _ => ("", "", "", false)
def tyJxdb0fc : Nat → FieldType := fun k => match k with
  | _ => .int
theorem nmJxdb0fc : ∀ a, a < 0 → ∀ b, b < 0 → a ≠ b → (TJxdb0fc a).2.1 ≠ (TJxdb0fc b).2.1 := by decide +kernel
theorem tyJxdb0fc_ok : ∀ k, k < 0 → parseFieldDescriptor (TJxdb0fc k).2.2.1 = some (tyJxdb0fc k) := by decide +kernel
def RJ13 : String := "java/lang/Long"
def TJ13 : u_T := fun k => match k with
  | _ => ("java/lang/Long", "value", "J", true)
def tyJ13 : Nat → FieldType := fun k => match k with
  | _ => .long
theorem nmJ13 : ∀ a, a < 1 → ∀ b, b < 1 → a ≠ b → (TJ13 a).2.1 ≠ (TJ13 b).2.1 := by decide +kernel
theorem tyJ13_ok : ∀ k, k < 1 → parseFieldDescriptor (TJ13 k).2.2.1 = some (tyJ13 k) := by decide +kernel
abbrev cJ13_getChars_11360 : ByteArray := prog_22_method_14_code
def yJ13_getChars_11360 : MethodName := ⟨RJ13, "getChars", "(JI[B)I"⟩
abbrev cJ13_stringSize_95d88 : ByteArray := prog_22_method_15_code
def yJ13_stringSize_95d88 : MethodName := ⟨RJ13, "stringSize", "(J)I"⟩
abbrev cJ13_valueOf_928b6 : ByteArray := prog_22_method_24_code
def yJ13_valueOf_928b6 : MethodName := ⟨RJ13, "valueOf", "(J)Ljava/lang/Long;"⟩
abbrev cJ13_init_e45a9 : ByteArray := prog_22_method_26_code
def yJ13_init_e45a9 : MethodName := ⟨RJ13, "<init>", "(J)V"⟩
abbrev cJ13_longValue_f9912 : ByteArray := prog_22_method_31_code
def yJ13_longValue_f9912 : MethodName := ⟨RJ13, "longValue", "()J"⟩
abbrev cJ13_compare_74951 : ByteArray := prog_22_method_42_code
def yJ13_compare_74951 : MethodName := ⟨RJ13, "compare", "(JJ)I"⟩
def RJ9 : String := "java/lang/Math"
def TJ9 : u_T := fun k => match k with
  | _ => ("", "", "", false)
def tyJ9 : Nat → FieldType := fun k => match k with
  | _ => .int
theorem nmJ9 : ∀ a, a < 0 → ∀ b, b < 0 → a ≠ b → (TJ9 a).2.1 ≠ (TJ9 b).2.1 := by decide +kernel
theorem tyJ9_ok : ∀ k, k < 0 → parseFieldDescriptor (TJ9 k).2.2.1 = some (tyJ9 k) := by decide +kernel
abbrev cJ9_floorDiv_f86c9 : ByteArray := prog_24_method_49_code
def yJ9_floorDiv_f86c9 : MethodName := ⟨RJ9, "floorDiv", "(JJ)J"⟩
abbrev cJ9_abs_0f7a4 : ByteArray := prog_24_method_59_code
def yJ9_abs_0f7a4 : MethodName := ⟨RJ9, "abs", "(I)I"⟩
abbrev cJ9_abs_067f4 : ByteArray := prog_24_method_61_code
def yJ9_abs_067f4 : MethodName := ⟨RJ9, "abs", "(J)J"⟩
abbrev cJ9_max_7cf53 : ByteArray := prog_24_method_65_code
def yJ9_max_7cf53 : MethodName := ⟨RJ9, "max", "(II)I"⟩
abbrev cJ9_min_7cf53 : ByteArray := prog_24_method_69_code
def yJ9_min_7cf53 : MethodName := ⟨RJ9, "min", "(II)I"⟩
def RJxd2413 : String := "java/lang/Number"
def TJxd2413 : u_T := fun k => match k with
  | _ => ("", "", "", false)
def tyJxd2413 : Nat → FieldType := fun k => match k with
  | _ => .int
theorem nmJxd2413 : ∀ a, a < 0 → ∀ b, b < 0 → a ≠ b → (TJxd2413 a).2.1 ≠ (TJxd2413 b).2.1 := by decide +kernel
theorem tyJxd2413_ok : ∀ k, k < 0 → parseFieldDescriptor (TJxd2413 k).2.2.1 = some (tyJxd2413 k) := by decide +kernel
abbrev cJxd2413_init_da8c8 : ByteArray := prog_25_method_1_code
def yJxd2413_init_da8c8 : MethodName := ⟨RJxd2413, "<init>", "()V"⟩
def RJ0 : String := "java/lang/String"
def TJ0 : u_T := fun k => match k with
  | 0 => ("java/lang/String", "value", "[B", true)
  | 1 => ("java/lang/String", "coder", "B", true)
  | 2 => ("java/lang/String", "hash", "I", false)
  | _ => ("java/lang/String", "hashIsZero", "Z", false)
def tyJ0 : Nat → FieldType := fun k => match k with
  | 0 => .array .byte
  | 1 => .byte
  | 2 => .int
  | _ => .boolean
theorem nmJ0 : ∀ a, a < 4 → ∀ b, b < 4 → a ≠ b → (TJ0 a).2.1 ≠ (TJ0 b).2.1 := by decide +kernel
theorem tyJ0_ok : ∀ k, k < 4 → parseFieldDescriptor (TJ0 k).2.2.1 = some (tyJ0 k) := by decide +kernel
abbrev cJ0_init_81219 : ByteArray := prog_27_method_53_code
def yJ0_init_81219 : MethodName := ⟨RJ0, "<init>", "(Ljava/lang/StringBuilder;)V"⟩
abbrev cJ0_length_8abf5 : ByteArray := prog_27_method_54_code
def yJ0_length_8abf5 : MethodName := ⟨RJ0, "length", "()I"⟩
abbrev cJ0_isEmpty_aae02 : ByteArray := prog_27_method_55_code
def yJ0_isEmpty_aae02 : MethodName := ⟨RJ0, "isEmpty", "()Z"⟩
abbrev cJ0_substring_b52d3 : ByteArray := prog_27_method_91_code
def yJ0_substring_b52d3 : MethodName := ⟨RJ0, "substring", "(I)Ljava/lang/String;"⟩
abbrev cJ0_substring_37a41 : ByteArray := prog_27_method_92_code
def yJ0_substring_37a41 : MethodName := ⟨RJ0, "substring", "(II)Ljava/lang/String;"⟩
abbrev cJ0_getBytes_840e7 : ByteArray := prog_27_method_147_code
def yJ0_getBytes_840e7 : MethodName := ⟨RJ0, "getBytes", "([BIB)V"⟩
abbrev cJ0_init_db425 : ByteArray := prog_27_method_150_code
def yJ0_init_db425 : MethodName := ⟨RJ0, "<init>", "(Ljava/lang/AbstractStringBuilder;Ljava/lang/Void;)V"⟩
abbrev cJ0_init_031fb : ByteArray := prog_27_method_151_code
def yJ0_init_031fb : MethodName := ⟨RJ0, "<init>", "([BB)V"⟩
abbrev cJ0_coder_7d493 : ByteArray := prog_27_method_152_code
def yJ0_coder_7d493 : MethodName := ⟨RJ0, "coder", "()B"⟩
abbrev cJ0_isLatin1_aae02 : ByteArray := prog_27_method_154_code
def yJ0_isLatin1_aae02 : MethodName := ⟨RJ0, "isLatin1", "()Z"⟩
abbrev cJ0_checkIndex_df160 : ByteArray := prog_27_method_155_code
def yJ0_checkIndex_df160 : MethodName := ⟨RJ0, "checkIndex", "(II)V"⟩
abbrev cJ0_checkBoundsOffCount_cabcc : ByteArray := prog_27_method_157_code
def yJ0_checkBoundsOffCount_cabcc : MethodName := ⟨RJ0, "checkBoundsOffCount", "(III)I"⟩
abbrev cJ0_checkBoundsBeginEnd_23922 : ByteArray := prog_27_method_158_code
def yJ0_checkBoundsBeginEnd_23922 : MethodName := ⟨RJ0, "checkBoundsBeginEnd", "(III)V"⟩
def RJ4 : String := "java/lang/StringBuilder"
def TJ4 : u_T := fun k => match k with
  | 0 => ("java/lang/AbstractStringBuilder", "value", "[B", false)
  | 1 => ("java/lang/AbstractStringBuilder", "coder", "B", false)
  | 2 => ("java/lang/AbstractStringBuilder", "maybeLatin1", "Z", false)
  | _ => ("java/lang/AbstractStringBuilder", "count", "I", false)
def tyJ4 : Nat → FieldType := fun k => match k with
  | 0 => .array .byte
  | 1 => .byte
  | 2 => .boolean
  | _ => .int
theorem nmJ4 : ∀ a, a < 4 → ∀ b, b < 4 → a ≠ b → (TJ4 a).2.1 ≠ (TJ4 b).2.1 := by decide +kernel
theorem tyJ4_ok : ∀ k, k < 4 → parseFieldDescriptor (TJ4 k).2.2.1 = some (tyJ4 k) := by decide +kernel
abbrev cJ4_init_da8c8 : ByteArray := prog_28_method_1_code
def yJ4_init_da8c8 : MethodName := ⟨RJ4, "<init>", "()V"⟩
abbrev cJ4_append_15ec4 : ByteArray := prog_28_method_7_code
def yJ4_append_15ec4 : MethodName := ⟨RJ4, "append", "(Ljava/lang/String;)Ljava/lang/StringBuilder;"⟩
abbrev cJ4_append_cf468 : ByteArray := prog_28_method_14_code
def yJ4_append_cf468 : MethodName := ⟨RJ4, "append", "(C)Ljava/lang/StringBuilder;"⟩
abbrev cJ4_append_bf812 : ByteArray := prog_28_method_15_code
def yJ4_append_bf812 : MethodName := ⟨RJ4, "append", "(I)Ljava/lang/StringBuilder;"⟩
abbrev cJ4_append_f7089 : ByteArray := prog_28_method_16_code
def yJ4_append_f7089 : MethodName := ⟨RJ4, "append", "(J)Ljava/lang/StringBuilder;"⟩
abbrev cJ4_toString_0e30d : ByteArray := prog_28_method_42_code
def yJ4_toString_0e30d : MethodName := ⟨RJ4, "toString", "()Ljava/lang/String;"⟩
abbrev cJ4_setLength_d00df : ByteArray := prog_28_method_89_code
def yJ4_setLength_d00df : MethodName := ⟨RJ4, "setLength", "(I)V"⟩
abbrev cJ4_length_8abf5 : ByteArray := prog_28_method_93_code
def yJ4_length_8abf5 : MethodName := ⟨RJ4, "length", "()I"⟩
def RJx7c733 : String := "java/lang/StringIndexOutOfBoundsException"
def TJx7c733 : u_T := fun k => match k with
  | 0 => ("java/lang/Throwable", "backtrace", "Ljava/lang/Object;", false)
  | 1 => ("java/lang/Throwable", "detailMessage", "Ljava/lang/String;", false)
  | 2 => ("java/lang/Throwable", "cause", "Ljava/lang/Throwable;", false)
  | 3 => ("java/lang/Throwable", "stackTrace", "[Ljava/lang/StackTraceElement;", false)
  | 4 => ("java/lang/Throwable", "depth", "I", false)
  | _ => ("java/lang/Throwable", "suppressedExceptions", "Ljava/util/List;", false)
def tyJx7c733 : Nat → FieldType := fun k => match k with
  | 0 => .object "java/lang/Object"
  | 1 => .object "java/lang/String"
  | 2 => .object "java/lang/Throwable"
  | 3 => .array (.object "java/lang/StackTraceElement")
  | 4 => .int
  | _ => .object "java/util/List"
theorem nmJx7c733 : ∀ a, a < 6 → ∀ b, b < 6 → a ≠ b → (TJx7c733 a).2.1 ≠ (TJx7c733 b).2.1 := by decide +kernel
theorem tyJx7c733_ok : ∀ k, k < 6 → parseFieldDescriptor (TJx7c733 k).2.2.1 = some (tyJx7c733 k) := by decide +kernel
abbrev cJx7c733_init_d00df : ByteArray := prog_29_method_3_code
def yJx7c733_init_d00df : MethodName := ⟨RJx7c733, "<init>", "(I)V"⟩
def RJ1 : String := "java/lang/StringLatin1"
def TJ1 : u_T := fun k => match k with
  | _ => ("", "", "", false)
def tyJ1 : Nat → FieldType := fun k => match k with
  | _ => .int
theorem nmJ1 : ∀ a, a < 0 → ∀ b, b < 0 → a ≠ b → (TJ1 a).2.1 ≠ (TJ1 b).2.1 := by decide +kernel
theorem tyJ1_ok : ∀ k, k < 0 → parseFieldDescriptor (TJ1 k).2.2.1 = some (tyJ1 k) := by decide +kernel
abbrev cJ1_canEncode_fc78d : ByteArray := prog_30_method_3_code
def yJ1_canEncode_fc78d : MethodName := ⟨RJ1, "canEncode", "(C)Z"⟩
abbrev cJ1_newString_b4f7a : ByteArray := prog_30_method_47_code
def yJ1_newString_b4f7a : MethodName := ⟨RJ1, "newString", "([BII)Ljava/lang/String;"⟩
abbrev cJ1_fillNull_b72d1 : ByteArray := prog_30_method_48_code
def yJ1_fillNull_b72d1 : MethodName := ⟨RJ1, "fillNull", "([BII)V"⟩
abbrev cJ1_inflate_0e8fd : ByteArray := prog_30_method_50_code
def yJ1_inflate_0e8fd : MethodName := ⟨RJ1, "inflate", "([BI[BII)V"⟩
def RJ2 : String := "java/lang/StringUTF16"
def TJ2 : u_T := fun k => match k with
  | _ => ("", "", "", false)
def tyJ2 : Nat → FieldType := fun k => match k with
  | _ => .int
theorem nmJ2 : ∀ a, a < 0 → ∀ b, b < 0 → a ≠ b → (TJ2 a).2.1 ≠ (TJ2 b).2.1 := by decide +kernel
theorem tyJ2_ok : ∀ k, k < 0 → parseFieldDescriptor (TJ2 k).2.2.1 = some (tyJ2 k) := by decide +kernel
abbrev cJ2_newBytesFor_77867 : ByteArray := prog_31_method_2_code
def yJ2_newBytesFor_77867 : MethodName := ⟨RJ2, "newBytesFor", "(I)[B"⟩
abbrev cJ2_newBytesLength_0f7a4 : ByteArray := prog_31_method_3_code
def yJ2_newBytesLength_0f7a4 : MethodName := ⟨RJ2, "newBytesLength", "(I)I"⟩
abbrev cJ2_putChar_b72d1 : ByteArray := prog_31_method_4_code
def yJ2_putChar_b72d1 : MethodName := ⟨RJ2, "putChar", "([BII)V"⟩
abbrev cJ2_getChar_3b067 : ByteArray := prog_31_method_5_code
def yJ2_getChar_3b067 : MethodName := ⟨RJ2, "getChar", "([BI)C"⟩
abbrev cJ2_length_9d52b : ByteArray := prog_31_method_6_code
def yJ2_length_9d52b : MethodName := ⟨RJ2, "length", "([B)I"⟩
abbrev cJ2_coderFromArrayLen_85cad : ByteArray := prog_31_method_15_code
def yJ2_coderFromArrayLen_85cad : MethodName := ⟨RJ2, "coderFromArrayLen", "([BI)B"⟩
abbrev cJ2_compress_39247 : ByteArray := prog_31_method_17_code
def yJ2_compress_39247 : MethodName := ⟨RJ2, "compress", "([BII)[B"⟩
abbrev cJ2_compress_5af95 : ByteArray := prog_31_method_22_code
def yJ2_compress_5af95 : MethodName := ⟨RJ2, "compress", "([BI[BII)I"⟩
abbrev cJ2_newString_b4f7a : ByteArray := prog_31_method_69_code
def yJ2_newString_b4f7a : MethodName := ⟨RJ2, "newString", "([BII)Ljava/lang/String;"⟩
abbrev cJ2_fillNull_b72d1 : ByteArray := prog_31_method_70_code
def yJ2_fillNull_b72d1 : MethodName := ⟨RJ2, "fillNull", "([BII)V"⟩
abbrev cJ2_putCharSB_b72d1 : ByteArray := prog_31_method_71_code
def yJ2_putCharSB_b72d1 : MethodName := ⟨RJ2, "putCharSB", "([BII)V"⟩
abbrev cJ2_getChars_46870 : ByteArray := prog_31_method_77_code
def yJ2_getChars_46870 : MethodName := ⟨RJ2, "getChars", "(III[B)I"⟩
abbrev cJ2_getChars_1ba55 : ByteArray := prog_31_method_78_code
def yJ2_getChars_1ba55 : MethodName := ⟨RJ2, "getChars", "(JII[B)I"⟩
abbrev cJ2_putCharsAt_cd4e5 : ByteArray := prog_31_method_81_code
def yJ2_putCharsAt_cd4e5 : MethodName := ⟨RJ2, "putCharsAt", "([BICCCC)I"⟩
abbrev cJ2_inflate_0e8fd : ByteArray := prog_31_method_86_code
def yJ2_inflate_0e8fd : MethodName := ⟨RJ2, "inflate", "([BI[BII)V"⟩
abbrev cJ2_getChars_ba4f3 : ByteArray := prog_31_method_89_code
def yJ2_getChars_ba4f3 : MethodName := ⟨RJ2, "getChars", "(II[B)I"⟩
abbrev cJ2_getChars_11360 : ByteArray := prog_31_method_90_code
def yJ2_getChars_11360 : MethodName := ⟨RJ2, "getChars", "(JI[B)I"⟩
abbrev cJ2_checkIndex_2214a : ByteArray := prog_31_method_91_code
def yJ2_checkIndex_2214a : MethodName := ⟨RJ2, "checkIndex", "(I[B)V"⟩
abbrev cJ2_checkBoundsBeginEnd_d044e : ByteArray := prog_31_method_93_code
def yJ2_checkBoundsBeginEnd_d044e : MethodName := ⟨RJ2, "checkBoundsBeginEnd", "(II[B)V"⟩
abbrev cJ2_checkBoundsOffCount_d044e : ByteArray := prog_31_method_94_code
def yJ2_checkBoundsOffCount_d044e : MethodName := ⟨RJ2, "checkBoundsOffCount", "(II[B)V"⟩
def RJ10 : String := "java/lang/System"
def TJ10 : u_T := fun k => match k with
  | _ => ("", "", "", false)
def tyJ10 : Nat → FieldType := fun k => match k with
  | _ => .int
theorem nmJ10 : ∀ a, a < 0 → ∀ b, b < 0 → a ≠ b → (TJ10 a).2.1 ≠ (TJ10 b).2.1 := by decide +kernel
theorem tyJ10_ok : ∀ k, k < 0 → parseFieldDescriptor (TJ10 k).2.2.1 = some (tyJ10 k) := by decide +kernel
def RJxfd54e : String := "java/lang/constant/Constable"
def TJxfd54e : u_T := fun k => match k with
  | _ => ("", "", "", false)
def tyJxfd54e : Nat → FieldType := fun k => match k with
  | _ => .int
theorem nmJxfd54e : ∀ a, a < 0 → ∀ b, b < 0 → a ≠ b → (TJxfd54e a).2.1 ≠ (TJxfd54e b).2.1 := by decide +kernel
theorem tyJxfd54e_ok : ∀ k, k < 0 → parseFieldDescriptor (TJxfd54e k).2.2.1 = some (tyJxfd54e k) := by decide +kernel
def RJx3cf43 : String := "java/lang/constant/ConstantDesc"
def TJx3cf43 : u_T := fun k => match k with
  | _ => ("", "", "", false)
def tyJx3cf43 : Nat → FieldType := fun k => match k with
  | _ => .int
theorem nmJx3cf43 : ∀ a, a < 0 → ∀ b, b < 0 → a ≠ b → (TJx3cf43 a).2.1 ≠ (TJx3cf43 b).2.1 := by decide +kernel
theorem tyJx3cf43_ok : ∀ k, k < 0 → parseFieldDescriptor (TJx3cf43 k).2.2.1 = some (tyJx3cf43 k) := by decide +kernel
def RJxa1e45 : String := "java/util/AbstractCollection"
def TJxa1e45 : u_T := fun k => match k with
  | _ => ("", "", "", false)
def tyJxa1e45 : Nat → FieldType := fun k => match k with
  | _ => .int
theorem nmJxa1e45 : ∀ a, a < 0 → ∀ b, b < 0 → a ≠ b → (TJxa1e45 a).2.1 ≠ (TJxa1e45 b).2.1 := by decide +kernel
theorem tyJxa1e45_ok : ∀ k, k < 0 → parseFieldDescriptor (TJxa1e45 k).2.2.1 = some (tyJxa1e45 k) := by decide +kernel
abbrev cJxa1e45_init_da8c8 : ByteArray := prog_36_method_1_code
def yJxa1e45_init_da8c8 : MethodName := ⟨RJxa1e45, "<init>", "()V"⟩
def RJxc12de : String := "java/util/AbstractList"
def TJxc12de : u_T := fun k => match k with
  | _ => ("", "", "", false)
def tyJxc12de : Nat → FieldType := fun k => match k with
  | _ => .int
theorem nmJxc12de : ∀ a, a < 0 → ∀ b, b < 0 → a ≠ b → (TJxc12de a).2.1 ≠ (TJxc12de b).2.1 := by decide +kernel
theorem tyJxc12de_ok : ∀ k, k < 0 → parseFieldDescriptor (TJxc12de k).2.2.1 = some (tyJxc12de k) := by decide +kernel
abbrev cJxc12de_init_da8c8 : ByteArray := prog_37_method_1_code
def yJxc12de_init_da8c8 : MethodName := ⟨RJxc12de, "<init>", "()V"⟩
def RJx35411 : String := "java/util/ArrayList$Itr"
def TJx35411 : u_T := fun k => match k with
  | 0 => ("java/util/ArrayList$Itr", "cursor", "I", false)
  | 1 => ("java/util/ArrayList$Itr", "lastRet", "I", false)
  | 2 => ("java/util/ArrayList$Itr", "expectedModCount", "I", false)
  | _ => ("java/util/ArrayList$Itr", "this$0", "Ljava/util/ArrayList;", true)
def tyJx35411 : Nat → FieldType := fun k => match k with
  | 0 => .int
  | 1 => .int
  | 2 => .int
  | _ => .object "java/util/ArrayList"
theorem nmJx35411 : ∀ a, a < 4 → ∀ b, b < 4 → a ≠ b → (TJx35411 a).2.1 ≠ (TJx35411 b).2.1 := by decide +kernel
theorem tyJx35411_ok : ∀ k, k < 4 → parseFieldDescriptor (TJx35411 k).2.2.1 = some (tyJx35411 k) := by decide +kernel
abbrev cJx35411_init_45d68 : ByteArray := prog_39_method_1_code
def yJx35411_init_45d68 : MethodName := ⟨RJx35411, "<init>", "(Ljava/util/ArrayList;)V"⟩
abbrev cJx35411_hasNext_aae02 : ByteArray := prog_39_method_2_code
def yJx35411_hasNext_aae02 : MethodName := ⟨RJx35411, "hasNext", "()Z"⟩
abbrev cJx35411_next_0502b : ByteArray := prog_39_method_3_code
def yJx35411_next_0502b : MethodName := ⟨RJx35411, "next", "()Ljava/lang/Object;"⟩
abbrev cJx35411_checkForComodification_da8c8 : ByteArray := prog_39_method_6_code
def yJx35411_checkForComodification_da8c8 : MethodName := ⟨RJx35411, "checkForComodification", "()V"⟩
def RJx4a65c : String := "java/util/ArrayList"
def TJx4a65c : u_T := fun k => match k with
  | 0 => ("java/util/AbstractList", "modCount", "I", false)
  | 1 => ("java/util/ArrayList", "elementData", "[Ljava/lang/Object;", false)
  | _ => ("java/util/ArrayList", "size", "I", false)
def tyJx4a65c : Nat → FieldType := fun k => match k with
  | 0 => .int
  | 1 => .array (.object "java/lang/Object")
  | _ => .int
theorem nmJx4a65c : ∀ a, a < 3 → ∀ b, b < 3 → a ≠ b → (TJx4a65c a).2.1 ≠ (TJx4a65c b).2.1 := by decide +kernel
theorem tyJx4a65c_ok : ∀ k, k < 3 → parseFieldDescriptor (TJx4a65c k).2.2.1 = some (tyJx4a65c k) := by decide +kernel
abbrev cJx4a65c_init_da8c8 : ByteArray := prog_38_method_2_code
def yJx4a65c_init_da8c8 : MethodName := ⟨RJx4a65c, "<init>", "()V"⟩
abbrev cJx4a65c_grow_92f84 : ByteArray := prog_38_method_6_code
def yJx4a65c_grow_92f84 : MethodName := ⟨RJx4a65c, "grow", "(I)[Ljava/lang/Object;"⟩
abbrev cJx4a65c_grow_d5877 : ByteArray := prog_38_method_7_code
def yJx4a65c_grow_d5877 : MethodName := ⟨RJx4a65c, "grow", "()[Ljava/lang/Object;"⟩
abbrev cJx4a65c_size_8abf5 : ByteArray := prog_38_method_8_code
def yJx4a65c_size_8abf5 : MethodName := ⟨RJx4a65c, "size", "()I"⟩
abbrev cJx4a65c_elementData_915e3 : ByteArray := prog_38_method_18_code
def yJx4a65c_elementData_915e3 : MethodName := ⟨RJx4a65c, "elementData", "(I)Ljava/lang/Object;"⟩
abbrev cJx4a65c_get_915e3 : ByteArray := prog_38_method_20_code
def yJx4a65c_get_915e3 : MethodName := ⟨RJx4a65c, "get", "(I)Ljava/lang/Object;"⟩
abbrev cJx4a65c_set_bcc79 : ByteArray := prog_38_method_23_code
def yJx4a65c_set_bcc79 : MethodName := ⟨RJx4a65c, "set", "(ILjava/lang/Object;)Ljava/lang/Object;"⟩
abbrev cJx4a65c_add_72be8 : ByteArray := prog_38_method_24_code
def yJx4a65c_add_72be8 : MethodName := ⟨RJx4a65c, "add", "(Ljava/lang/Object;[Ljava/lang/Object;I)V"⟩
abbrev cJx4a65c_add_9ea2d : ByteArray := prog_38_method_25_code
def yJx4a65c_add_9ea2d : MethodName := ⟨RJx4a65c, "add", "(Ljava/lang/Object;)Z"⟩
abbrev cJx4a65c_remove_915e3 : ByteArray := prog_38_method_29_code
def yJx4a65c_remove_915e3 : MethodName := ⟨RJx4a65c, "remove", "(I)Ljava/lang/Object;"⟩
abbrev cJx4a65c_fastRemove_b59b0 : ByteArray := prog_38_method_39_code
def yJx4a65c_fastRemove_b59b0 : MethodName := ⟨RJx4a65c, "fastRemove", "([Ljava/lang/Object;I)V"⟩
abbrev cJx4a65c_iterator_32c93 : ByteArray := prog_38_method_55_code
def yJx4a65c_iterator_32c93 : MethodName := ⟨RJx4a65c, "iterator", "()Ljava/util/Iterator;"⟩
def RJ7 : String := "java/util/Arrays"
def TJ7 : u_T := fun k => match k with
  | _ => ("", "", "", false)
def tyJ7 : Nat → FieldType := fun k => match k with
  | _ => .int
theorem nmJ7 : ∀ a, a < 0 → ∀ b, b < 0 → a ≠ b → (TJ7 a).2.1 ≠ (TJ7 b).2.1 := by decide +kernel
theorem tyJ7_ok : ∀ k, k < 0 → parseFieldDescriptor (TJ7 k).2.2.1 = some (tyJ7 k) := by decide +kernel
abbrev cJ7_rangeCheck_23922 : ByteArray := prog_40_method_30_code
def yJ7_rangeCheck_23922 : MethodName := ⟨RJ7, "rangeCheck", "(III)V"⟩
abbrev cJ7_fill_eb02e : ByteArray := prog_40_method_110_code
def yJ7_fill_eb02e : MethodName := ⟨RJ7, "fill", "([BIIB)V"⟩
abbrev cJ7_copyOf_1904c : ByteArray := prog_40_method_119_code
def yJ7_copyOf_1904c : MethodName := ⟨RJ7, "copyOf", "([Ljava/lang/Object;I)[Ljava/lang/Object;"⟩
abbrev cJ7_copyOf_6403c : ByteArray := prog_40_method_120_code
def yJ7_copyOf_6403c : MethodName := ⟨RJ7, "copyOf", "([Ljava/lang/Object;ILjava/lang/Class;)[Ljava/lang/Object;"⟩
abbrev cJ7_copyOf_9075b : ByteArray := prog_40_method_121_code
def yJ7_copyOf_9075b : MethodName := ⟨RJ7, "copyOf", "([BI)[B"⟩
abbrev cJ7_checkLength_df160 : ByteArray := prog_40_method_131_code
def yJ7_checkLength_df160 : MethodName := ⟨RJ7, "checkLength", "(II)V"⟩
abbrev cJ7_copyOfRange_39247 : ByteArray := prog_40_method_132_code
def yJ7_copyOfRange_39247 : MethodName := ⟨RJ7, "copyOfRange", "([BII)[B"⟩
abbrev cJ7_copyOfRangeByte_39247 : ByteArray := prog_40_method_133_code
def yJ7_copyOfRangeByte_39247 : MethodName := ⟨RJ7, "copyOfRangeByte", "([BII)[B"⟩
def RJx5ef63 : String := "java/util/Collection"
def TJx5ef63 : u_T := fun k => match k with
  | _ => ("", "", "", false)
def tyJx5ef63 : Nat → FieldType := fun k => match k with
  | _ => .int
theorem nmJx5ef63 : ∀ a, a < 0 → ∀ b, b < 0 → a ≠ b → (TJx5ef63 a).2.1 ≠ (TJx5ef63 b).2.1 := by decide +kernel
theorem tyJx5ef63_ok : ∀ k, k < 0 → parseFieldDescriptor (TJx5ef63 k).2.2.1 = some (tyJx5ef63 k) := by decide +kernel
def RJx4d0d8 : String := "java/util/Iterator"
def TJx4d0d8 : u_T := fun k => match k with
  | _ => ("", "", "", false)
def tyJx4d0d8 : Nat → FieldType := fun k => match k with
  | _ => .int
theorem nmJx4d0d8 : ∀ a, a < 0 → ∀ b, b < 0 → a ≠ b → (TJx4d0d8 a).2.1 ≠ (TJx4d0d8 b).2.1 := by decide +kernel
theorem tyJx4d0d8_ok : ∀ k, k < 0 → parseFieldDescriptor (TJx4d0d8 k).2.2.1 = some (tyJx4d0d8 k) := by decide +kernel
def RJxbd725 : String := "java/util/List"
def TJxbd725 : u_T := fun k => match k with
  | _ => ("", "", "", false)
def tyJxbd725 : Nat → FieldType := fun k => match k with
  | _ => .int
theorem nmJxbd725 : ∀ a, a < 0 → ∀ b, b < 0 → a ≠ b → (TJxbd725 a).2.1 ≠ (TJxbd725 b).2.1 := by decide +kernel
theorem tyJxbd725_ok : ∀ k, k < 0 → parseFieldDescriptor (TJxbd725 k).2.2.1 = some (tyJxbd725 k) := by decide +kernel
def RJ15 : String := "java/util/Objects"
def TJ15 : u_T := fun k => match k with
  | _ => ("", "", "", false)
def tyJ15 : Nat → FieldType := fun k => match k with
  | _ => .int
theorem nmJ15 : ∀ a, a < 0 → ∀ b, b < 0 → a ≠ b → (TJ15 a).2.1 ≠ (TJ15 b).2.1 := by decide +kernel
theorem tyJ15_ok : ∀ k, k < 0 → parseFieldDescriptor (TJ15 k).2.2.1 = some (tyJ15 k) := by decide +kernel
abbrev cJ15_checkIndex_7cf53 : ByteArray := prog_44_method_17_code
def yJ15_checkIndex_7cf53 : MethodName := ⟨RJ15, "checkIndex", "(II)I"⟩
def RJxf0a74 : String := "java/util/RandomAccess"
def TJxf0a74 : u_T := fun k => match k with
  | _ => ("", "", "", false)
def tyJxf0a74 : Nat → FieldType := fun k => match k with
  | _ => .int
theorem nmJxf0a74 : ∀ a, a < 0 → ∀ b, b < 0 → a ≠ b → (TJxf0a74 a).2.1 ≠ (TJxf0a74 b).2.1 := by decide +kernel
theorem tyJxf0a74_ok : ∀ k, k < 0 → parseFieldDescriptor (TJxf0a74 k).2.2.1 = some (tyJxf0a74 k) := by decide +kernel
def RJxa66e6 : String := "java/util/SequencedCollection"
def TJxa66e6 : u_T := fun k => match k with
  | _ => ("", "", "", false)
def tyJxa66e6 : Nat → FieldType := fun k => match k with
  | _ => .int
theorem nmJxa66e6 : ∀ a, a < 0 → ∀ b, b < 0 → a ≠ b → (TJxa66e6 a).2.1 ≠ (TJxa66e6 b).2.1 := by decide +kernel
theorem tyJxa66e6_ok : ∀ k, k < 0 → parseFieldDescriptor (TJxa66e6 k).2.2.1 = some (tyJxa66e6 k) := by decide +kernel
def RJ8 : String := "jdk/internal/util/ArraysSupport"
def TJ8 : u_T := fun k => match k with
  | _ => ("", "", "", false)
def tyJ8 : Nat → FieldType := fun k => match k with
  | _ => .int
theorem nmJ8 : ∀ a, a < 0 → ∀ b, b < 0 → a ≠ b → (TJ8 a).2.1 ≠ (TJ8 b).2.1 := by decide +kernel
theorem tyJ8_ok : ∀ k, k < 0 → parseFieldDescriptor (TJ8 k).2.2.1 = some (tyJ8 k) := by decide +kernel
abbrev cJ8_newLength_cabcc : ByteArray := prog_47_method_27_code
def yJ8_newLength_cabcc : MethodName := ⟨RJ8, "newLength", "(III)I"⟩
abbrev cJ8_hugeLength_7cf53 : ByteArray := prog_47_method_28_code
def yJ8_hugeLength_7cf53 : MethodName := ⟨RJ8, "hugeLength", "(II)I"⟩
def RJ3 : String := "jdk/internal/util/Preconditions"
def TJ3 : u_T := fun k => match k with
  | _ => ("", "", "", false)
def tyJ3 : Nat → FieldType := fun k => match k with
  | _ => .int
theorem nmJ3 : ∀ a, a < 0 → ∀ b, b < 0 → a ≠ b → (TJ3 a).2.1 ≠ (TJ3 b).2.1 := by decide +kernel
theorem tyJ3_ok : ∀ k, k < 0 → parseFieldDescriptor (TJ3 k).2.2.1 = some (tyJ3 k) := by decide +kernel
abbrev cJ3_checkIndex_8e157 : ByteArray := prog_48_method_11_code
def yJ3_checkIndex_8e157 : MethodName := ⟨RJ3, "checkIndex", "(IILjava/util/function/BiFunction;)I"⟩
abbrev cJ3_checkFromToIndex_8c36e : ByteArray := prog_48_method_12_code
def yJ3_checkFromToIndex_8c36e : MethodName := ⟨RJ3, "checkFromToIndex", "(IIILjava/util/function/BiFunction;)I"⟩
abbrev cJ3_checkFromIndexSize_8c36e : ByteArray := prog_48_method_13_code
def yJ3_checkFromIndexSize_8c36e : MethodName := ⟨RJ3, "checkFromIndexSize", "(IIILjava/util/function/BiFunction;)I"⟩
def RL : String := "BestratiosLaw"
abbrev cL_put : ByteArray := method_2_code
def yL_put : MethodName := ⟨RL, "put", "(LBestratios;IIILBestratiosLaw$Out;)I"⟩
abbrev cL_putDecimal : ByteArray := method_3_code
def yL_putDecimal : MethodName := ⟨RL, "putDecimal", "(LBestratios;IIILBestratiosLaw$Out;)I"⟩
abbrev cL_copy : ByteArray := method_4_code
def yL_copy : MethodName := ⟨RL, "copy", "(LBestratios;IILBestratiosLaw$Out;)I"⟩
abbrev cL_swap : ByteArray := method_5_code
def yL_swap : MethodName := ⟨RL, "swap", "(LBestratios;IILBestratiosLaw$Out;)I"⟩
abbrev cL_plus : ByteArray := method_6_code
def yL_plus : MethodName := ⟨RL, "plus", "(LBestratios;IIILBestratiosLaw$Out;)I"⟩
abbrev cL_minus : ByteArray := method_7_code
def yL_minus : MethodName := ⟨RL, "minus", "(LBestratios;IIILBestratiosLaw$Out;)I"⟩
abbrev cL_times : ByteArray := method_8_code
def yL_times : MethodName := ⟨RL, "times", "(LBestratios;IIILBestratiosLaw$Out;)I"⟩
abbrev cL_over : ByteArray := method_9_code
def yL_over : MethodName := ⟨RL, "over", "(LBestratios;IIILBestratiosLaw$Out;)I"⟩
abbrev cL_negate : ByteArray := method_10_code
def yL_negate : MethodName := ⟨RL, "negate", "(LBestratios;ILBestratiosLaw$Out;)I"⟩
abbrev cL_invert : ByteArray := method_11_code
def yL_invert : MethodName := ⟨RL, "invert", "(LBestratios;ILBestratiosLaw$Out;)I"⟩
abbrev cL_raise : ByteArray := method_12_code
def yL_raise : MethodName := ⟨RL, "raise", "(LBestratios;IILBestratiosLaw$Out;)I"⟩
abbrev cL_mediant : ByteArray := method_13_code
def yL_mediant : MethodName := ⟨RL, "mediant", "(LBestratios;IIILBestratiosLaw$Out;)I"⟩
abbrev cL_text : ByteArray := method_14_code
def yL_text : MethodName := ⟨RL, "text", "(LBestratios;ILBestratiosLaw$Out;)I"⟩
abbrev cL_part : ByteArray := method_15_code
def yL_part : MethodName := ⟨RL, "part", "(LBestratios;IILBestratiosLaw$Out;)I"⟩
abbrev cL_compare : ByteArray := method_16_code
def yL_compare : MethodName := ⟨RL, "compare", "(LBestratios;IILBestratiosLaw$Out;)I"⟩
abbrev cL_areNext : ByteArray := method_17_code
def yL_areNext : MethodName := ⟨RL, "areNext", "(LBestratios;IILBestratiosLaw$Out;)I"⟩
abbrev cL_terms : ByteArray := method_18_code
def yL_terms : MethodName := ⟨RL, "terms", "(LBestratios;ILBestratiosLaw$Out;)I"⟩
abbrev cL_term : ByteArray := method_19_code
def yL_term : MethodName := ⟨RL, "term", "(LBestratios;IILBestratiosLaw$Out;)I"⟩
abbrev cL_convergent : ByteArray := method_20_code
def yL_convergent : MethodName := ⟨RL, "convergent", "(LBestratios;IIILBestratiosLaw$Out;)I"⟩
abbrev cL_say : ByteArray := method_21_code
def yL_say : MethodName := ⟨RL, "say", "(LBestratios;ILBestratiosLaw$Out;)I"⟩
abbrev cL_unsay : ByteArray := method_22_code
def yL_unsay : MethodName := ⟨RL, "unsay", "(LBestratios;ILBestratiosLaw$Out;)I"⟩
abbrev cL_fold : ByteArray := method_23_code
def yL_fold : MethodName := ⟨RL, "fold", "(LBestratios;ILBestratiosLaw$Out;)I"⟩
abbrev cL_lower : ByteArray := method_24_code
def yL_lower : MethodName := ⟨RL, "lower", "(LBestratios;IIILBestratiosLaw$Out;)I"⟩
abbrev cL_upper : ByteArray := method_25_code
def yL_upper : MethodName := ⟨RL, "upper", "(LBestratios;IIILBestratiosLaw$Out;)I"⟩
abbrev cL_best : ByteArray := method_26_code
def yL_best : MethodName := ⟨RL, "best", "(LBestratios;IIILBestratiosLaw$Out;)I"⟩
abbrev cL_up : ByteArray := method_27_code
def yL_up : MethodName := ⟨RL, "up", "(LBestratios;ILBestratiosLaw$Out;)I"⟩
abbrev cL_down : ByteArray := method_28_code
def yL_down : MethodName := ⟨RL, "down", "(LBestratios;IZLBestratiosLaw$Out;)I"⟩
abbrev cL_depth : ByteArray := method_29_code
def yL_depth : MethodName := ⟨RL, "depth", "(LBestratios;ILBestratiosLaw$Out;)I"⟩
abbrev cL_way : ByteArray := method_30_code
def yL_way : MethodName := ⟨RL, "way", "(LBestratios;ILBestratiosLaw$Out;)I"⟩
abbrev cL_next : ByteArray := method_31_code
def yL_next : MethodName := ⟨RL, "next", "(LBestratios;IILBestratiosLaw$Out;)I"⟩
abbrev cL_before : ByteArray := method_32_code
def yL_before : MethodName := ⟨RL, "before", "(LBestratios;ILBestratiosLaw$Out;)I"⟩
abbrev cL_cut : ByteArray := method_33_code
def yL_cut : MethodName := ⟨RL, "cut", "(LBestratios;IIILBestratiosLaw$Out;)I"⟩
abbrev cL_simplest : ByteArray := method_34_code
def yL_simplest : MethodName := ⟨RL, "simplest", "(LBestratios;IIIILBestratiosLaw$Out;)I"⟩
abbrev cL_tally : ByteArray := method_35_code
def yL_tally : MethodName := ⟨RL, "tally", "(LBestratios;IIILBestratiosLaw$Out;)I"⟩
abbrev cL_house : ByteArray := method_36_code
def yL_house : MethodName := ⟨RL, "house", "(LBestratios;ILBestratiosLaw$Out;)I"⟩
abbrev cL_law : ByteArray := code
def yL_law : MethodName := ⟨RL, "law", "([I)Z"⟩
abbrev vwCl : List vw_C := [(RJ0, TJ0, 4), (RJ4, TJ4, 4), (RJ6, TJ6, 1), (RJ13, TJ13, 1), (RJx00060, TJx00060, 6), (RJx7c733, TJx7c733, 6), (RJx35411, TJx35411, 4), (RJx4a65c, TJx4a65c, 3), (RX0, TX0, 2), (RX1, TX1, 8), (RX2, TX2, 2), (RX3, TX3, 9), (RX4, TX4, 2), (RX5, TX5, 9)]
