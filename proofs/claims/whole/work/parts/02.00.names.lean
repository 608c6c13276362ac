/-! ===== names of classes, fields, methods (printed) ===== -/
def RX0 : String := "YesterStreet$Almanac"
def TX0 : u_T := fun k => match k with
  | 0 => ("YesterStreet$Almanac", "holdsFor", "[J", true)
  | _ => ("YesterStreet$Almanac", "bringers", "[J", true)
def tyX0 : Nat → FieldType := fun k => match k with
  | 0 => .array .long
  | _ => .array .long
theorem nmX0 : ∀ a, a < 2 → ∀ b, b < 2 → a ≠ b → (TX0 a).2.1 ≠ (TX0 b).2.1 := by decide +kernel
theorem tyX0_ok : ∀ k, k < 2 → parseFieldDescriptor (TX0 k).2.2.1 = some (tyX0 k) := by decide +kernel
abbrev cX0_init : ByteArray := prog_2_method_1_code
def yX0_init : MethodName := ⟨RX0, "<init>", "()V"⟩
abbrev cX0_agreeingNow : ByteArray := prog_2_method_2_code
def yX0_agreeingNow : MethodName := ⟨RX0, "agreeingNow", "(LYesterStreet$Street;)J"⟩
abbrev cX0_open : ByteArray := prog_2_method_3_code
def yX0_open : MethodName := ⟨RX0, "open", "(LYesterStreet$Street;I)V"⟩
abbrev cX0_agreeing : ByteArray := prog_2_method_4_code
def yX0_agreeing : MethodName := ⟨RX0, "agreeing", "(LYesterStreet$Street;II)J"⟩
abbrev cX0_setsOf : ByteArray := prog_2_method_5_code
def yX0_setsOf : MethodName := ⟨RX0, "setsOf", "(II)J"⟩
def RX1 : String := "YesterStreet$Row"
def TX1 : u_T := fun k => match k with
  | 0 => ("YesterStreet$Row", "lane", "I", false)
  | 1 => ("YesterStreet$Row", "size", "I", false)
  | _ => ("YesterStreet$Row", "cells", "[I", true)
def tyX1 : Nat → FieldType := fun k => match k with
  | 0 => .int
  | 1 => .int
  | _ => .array .int
theorem nmX1 : ∀ a, a < 3 → ∀ b, b < 3 → a ≠ b → (TX1 a).2.1 ≠ (TX1 b).2.1 := by decide +kernel
theorem tyX1_ok : ∀ k, k < 3 → parseFieldDescriptor (TX1 k).2.2.1 = some (tyX1 k) := by decide +kernel
abbrev cX1_init : ByteArray := prog_3_method_1_code
def yX1_init : MethodName := ⟨RX1, "<init>", "()V"⟩
abbrev cX1_renew : ByteArray := prog_3_method_2_code
def yX1_renew : MethodName := ⟨RX1, "renew", "(II)V"⟩
abbrev cX1_faultAt : ByteArray := prog_3_method_3_code
def yX1_faultAt : MethodName := ⟨RX1, "faultAt", "(II)I"⟩
abbrev cX1_faultAtPair : ByteArray := prog_3_method_4_code
def yX1_faultAtPair : MethodName := ⟨RX1, "faultAtPair", "(II)I"⟩
abbrev cX1_put : ByteArray := prog_3_method_5_code
def yX1_put : MethodName := ⟨RX1, "put", "(II)V"⟩
abbrev cX1_cellAt : ByteArray := prog_3_method_6_code
def yX1_cellAt : MethodName := ⟨RX1, "cellAt", "(I)I"⟩
def RX2 : String := "YesterStreet$Street"
def TX2 : u_T := fun k => match k with
  | 0 => ("YesterStreet$Street", "notes", "I", false)
  | 1 => ("YesterStreet$Street", "people", "I", false)
  | 2 => ("YesterStreet$Street", "rules", "I", false)
  | 3 => ("YesterStreet$Street", "home", "I", false)
  | 4 => ("YesterStreet$Street", "stopped", "I", false)
  | 5 => ("YesterStreet$Street", "today", "I", false)
  | 6 => ("YesterStreet$Street", "date", "I", false)
  | 7 => ("YesterStreet$Street", "ones", "[I", true)
  | 8 => ("YesterStreet$Street", "writes", "[I", true)
  | 9 => ("YesterStreet$Street", "needs", "[I", true)
  | 10 => ("YesterStreet$Street", "bars", "[I", true)
  | _ => ("YesterStreet$Street", "worths", "[I", true)
def tyX2 : Nat → FieldType := fun k => match k with
  | 0 => .int
  | 1 => .int
  | 2 => .int
  | 3 => .int
  | 4 => .int
  | 5 => .int
  | 6 => .int
  | 7 => .array .int
  | 8 => .array .int
  | 9 => .array .int
  | 10 => .array .int
  | _ => .array .int
theorem nmX2 : ∀ a, a < 12 → ∀ b, b < 12 → a ≠ b → (TX2 a).2.1 ≠ (TX2 b).2.1 := by decide +kernel
theorem tyX2_ok : ∀ k, k < 12 → parseFieldDescriptor (TX2 k).2.2.1 = some (tyX2 k) := by decide +kernel
abbrev cX2_init : ByteArray := prog_4_method_1_code
def yX2_init : MethodName := ⟨RX2, "<init>", "()V"⟩
abbrev cX2_clear : ByteArray := prog_4_method_2_code
def yX2_clear : MethodName := ⟨RX2, "clear", "()V"⟩
abbrev cX2_become : ByteArray := prog_4_method_3_code
def yX2_become : MethodName := ⟨RX2, "become", "(LYesterStreet$Street;)V"⟩
abbrev cX2_addRule : ByteArray := prog_4_method_4_code
def yX2_addRule : MethodName := ⟨RX2, "addRule", "(IIII)V"⟩
abbrev cX2_hasNote : ByteArray := prog_4_method_5_code
def yX2_hasNote : MethodName := ⟨RX2, "hasNote", "(I)Z"⟩
abbrev cX2_hasRule : ByteArray := prog_4_method_6_code
def yX2_hasRule : MethodName := ⟨RX2, "hasRule", "(I)Z"⟩
abbrev cX2_hasSet : ByteArray := prog_4_method_7_code
def yX2_hasSet : MethodName := ⟨RX2, "hasSet", "(I)Z"⟩
abbrev cX2_allNotes : ByteArray := prog_4_method_8_code
def yX2_allNotes : MethodName := ⟨RX2, "allNotes", "()I"⟩
abbrev cX2_allRules : ByteArray := prog_4_method_9_code
def yX2_allRules : MethodName := ⟨RX2, "allRules", "()I"⟩
abbrev cX2_holds : ByteArray := prog_4_method_10_code
def yX2_holds : MethodName := ⟨RX2, "holds", "(II)Z"⟩
abbrev cX2_holding : ByteArray := prog_4_method_11_code
def yX2_holding : MethodName := ⟨RX2, "holding", "(I)I"⟩
abbrev cX2_outcome : ByteArray := prog_4_method_12_code
def yX2_outcome : MethodName := ⟨RX2, "outcome", "(I)I"⟩
abbrev cX2_beginnings : ByteArray := prog_4_method_13_code
def yX2_beginnings : MethodName := ⟨RX2, "beginnings", "(I)I"⟩
abbrev cX2_writers : ByteArray := prog_4_method_14_code
def yX2_writers : MethodName := ⟨RX2, "writers", "(II)I"⟩
abbrev cX2_sumOfWorths : ByteArray := prog_4_method_15_code
def yX2_sumOfWorths : MethodName := ⟨RX2, "sumOfWorths", "(I)I"⟩
def RX3 : String := "YesterStreet$Tape"
def TX3 : u_T := fun k => match k with
  | 0 => ("YesterStreet$Tape", "told", "LYesterStreet$Street;", true)
  | 1 => ("YesterStreet$Tape", "length", "I", false)
  | 2 => ("YesterStreet$Tape", "fault", "I", false)
  | 3 => ("YesterStreet$Tape", "place", "I", false)
  | 4 => ("YesterStreet$Tape", "bytes", "[B", true)
  | 5 => ("YesterStreet$Tape", "next", "I", false)
  | 6 => ("YesterStreet$Tape", "kind", "I", false)
  | 7 => ("YesterStreet$Tape", "start", "I", false)
  | 8 => ("YesterStreet$Tape", "value", "I", false)
  | 9 => ("YesterStreet$Tape", "hasStreet", "Z", false)
  | 10 => ("YesterStreet$Tape", "namedNotes", "I", false)
  | 11 => ("YesterStreet$Tape", "namedOnes", "I", false)
  | _ => ("YesterStreet$Tape", "paid", "I", false)
def tyX3 : Nat → FieldType := fun k => match k with
  | 0 => .object "YesterStreet$Street"
  | 1 => .int
  | 2 => .int
  | 3 => .int
  | 4 => .array .byte
  | 5 => .int
  | 6 => .int
  | 7 => .int
  | 8 => .int
  | 9 => .boolean
  | 10 => .int
  | 11 => .int
  | _ => .int
theorem nmX3 : ∀ a, a < 13 → ∀ b, b < 13 → a ≠ b → (TX3 a).2.1 ≠ (TX3 b).2.1 := by decide +kernel
theorem tyX3_ok : ∀ k, k < 13 → parseFieldDescriptor (TX3 k).2.2.1 = some (tyX3 k) := by decide +kernel
abbrev cX3_init : ByteArray := prog_5_method_1_code
def yX3_init : MethodName := ⟨RX3, "<init>", "()V"⟩
abbrev cX3_append : ByteArray := prog_5_method_2_code
def yX3_append : MethodName := ⟨RX3, "append", "(I)V"⟩
abbrev cX3_tell : ByteArray := prog_5_method_3_code
def yX3_tell : MethodName := ⟨RX3, "tell", "()I"⟩
abbrev cX3_fail : ByteArray := prog_5_method_4_code
def yX3_fail : MethodName := ⟨RX3, "fail", "(II)Z"⟩
abbrev cX3_lookBehind : ByteArray := prog_5_method_5_code
def yX3_lookBehind : MethodName := ⟨RX3, "lookBehind", "()V"⟩
abbrev cX3_takeToken : ByteArray := prog_5_method_6_code
def yX3_takeToken : MethodName := ⟨RX3, "takeToken", "()Z"⟩
abbrev cX3_isLetter : ByteArray := prog_5_method_7_code
def yX3_isLetter : MethodName := ⟨RX3, "isLetter", "(I)Z"⟩
abbrev cX3_isFigure : ByteArray := prog_5_method_8_code
def yX3_isFigure : MethodName := ⟨RX3, "isFigure", "(I)Z"⟩
abbrev cX3_isName : ByteArray := prog_5_method_9_code
def yX3_isName : MethodName := ⟨RX3, "isName", "(Ljava/lang/String;)Z"⟩
abbrev cX3_takeLine : ByteArray := prog_5_method_10_code
def yX3_takeLine : MethodName := ⟨RX3, "takeLine", "()Z"⟩
abbrev cX3_takeStreet : ByteArray := prog_5_method_11_code
def yX3_takeStreet : MethodName := ⟨RX3, "takeStreet", "()Z"⟩
abbrev cX3_takeRule : ByteArray := prog_5_method_12_code
def yX3_takeRule : MethodName := ⟨RX3, "takeRule", "()Z"⟩
abbrev cX3_takeWorth : ByteArray := prog_5_method_13_code
def yX3_takeWorth : MethodName := ⟨RX3, "takeWorth", "(I)Z"⟩
abbrev cX3_takeHome : ByteArray := prog_5_method_14_code
def yX3_takeHome : MethodName := ⟨RX3, "takeHome", "()Z"⟩
abbrev cX3_takeStop : ByteArray := prog_5_method_15_code
def yX3_takeStop : MethodName := ⟨RX3, "takeStop", "()Z"⟩
abbrev cX3_takeToday : ByteArray := prog_5_method_16_code
def yX3_takeToday : MethodName := ⟨RX3, "takeToday", "()Z"⟩
abbrev cX3_takeClosing : ByteArray := prog_5_method_17_code
def yX3_takeClosing : MethodName := ⟨RX3, "takeClosing", "()Z"⟩
abbrev cX3_isOne : ByteArray := prog_5_method_18_code
def yX3_isOne : MethodName := ⟨RX3, "isOne", "()Z"⟩
abbrev cX3_isNoteNotIn : ByteArray := prog_5_method_19_code
def yX3_isNoteNotIn : MethodName := ⟨RX3, "isNoteNotIn", "(I)Z"⟩
abbrev cX3_isNumber : ByteArray := prog_5_method_20_code
def yX3_isNumber : MethodName := ⟨RX3, "isNumber", "(II)Z"⟩
def RX4 : String := "YesterStreet"
def TX4 : u_T := fun k => match k with
  | 0 => ("YesterStreet", "street", "LYesterStreet$Street;", true)
  | 1 => ("YesterStreet", "images", "[LYesterStreet$Street;", true)
  | 2 => ("YesterStreet", "kept", "[Z", true)
  | 3 => ("YesterStreet", "almanac", "LYesterStreet$Almanac;", true)
  | 4 => ("YesterStreet", "tape", "LYesterStreet$Tape;", true)
  | 5 => ("YesterStreet", "seenNotes", "[I", true)
  | 6 => ("YesterStreet", "seenThere", "[Z", true)
  | 7 => ("YesterStreet", "seen", "I", false)
  | 8 => ("YesterStreet", "sheets", "[LYesterStreet$Row;", true)
  | 9 => ("YesterStreet", "torn", "I", false)
  | _ => ("YesterStreet", "metAt", "[I", true)
def tyX4 : Nat → FieldType := fun k => match k with
  | 0 => .object "YesterStreet$Street"
  | 1 => .array (.object "YesterStreet$Street")
  | 2 => .array .boolean
  | 3 => .object "YesterStreet$Almanac"
  | 4 => .object "YesterStreet$Tape"
  | 5 => .array .int
  | 6 => .array .boolean
  | 7 => .int
  | 8 => .array (.object "YesterStreet$Row")
  | 9 => .int
  | _ => .array .int
theorem nmX4 : ∀ a, a < 11 → ∀ b, b < 11 → a ≠ b → (TX4 a).2.1 ≠ (TX4 b).2.1 := by decide +kernel
theorem tyX4_ok : ∀ k, k < 11 → parseFieldDescriptor (TX4 k).2.2.1 = some (tyX4 k) := by decide +kernel
abbrev cX4_init : ByteArray := prog_1_method_1_code
def yX4_init : MethodName := ⟨RX4, "<init>", "()V"⟩
abbrev cX4_feed : ByteArray := prog_1_method_2_code
def yX4_feed : MethodName := ⟨RX4, "feed", "(I)I"⟩
abbrev cX4_end : ByteArray := prog_1_method_3_code
def yX4_end : MethodName := ⟨RX4, "end", "(I)I"⟩
abbrev cX4_text : ByteArray := prog_1_method_4_code
def yX4_text : MethodName := ⟨RX4, "text", "()I"⟩
abbrev cX4_fault : ByteArray := prog_1_method_5_code
def yX4_fault : MethodName := ⟨RX4, "fault", "()I"⟩
abbrev cX4_rule : ByteArray := prog_1_method_6_code
def yX4_rule : MethodName := ⟨RX4, "rule", "(I)I"⟩
abbrev cX4_law : ByteArray := prog_1_method_7_code
def yX4_law : MethodName := ⟨RX4, "law", "(II)I"⟩
abbrev cX4_worth : ByteArray := prog_1_method_8_code
def yX4_worth : MethodName := ⟨RX4, "worth", "(I)I"⟩
abbrev cX4_write : ByteArray := prog_1_method_9_code
def yX4_write : MethodName := ⟨RX4, "write", "(IZ)I"⟩
abbrev cX4_home : ByteArray := prog_1_method_10_code
def yX4_home : MethodName := ⟨RX4, "home", "(IZ)I"⟩
abbrev cX4_stop : ByteArray := prog_1_method_11_code
def yX4_stop : MethodName := ⟨RX4, "stop", "(IZ)I"⟩
abbrev cX4_need : ByteArray := prog_1_method_12_code
def yX4_need : MethodName := ⟨RX4, "need", "(IIZ)I"⟩
abbrev cX4_bar : ByteArray := prog_1_method_13_code
def yX4_bar : MethodName := ⟨RX4, "bar", "(IIZ)I"⟩
abbrev cX4_pay : ByteArray := prog_1_method_14_code
def yX4_pay : MethodName := ⟨RX4, "pay", "(II)I"⟩
abbrev cX4_cut : ByteArray := prog_1_method_15_code
def yX4_cut : MethodName := ⟨RX4, "cut", "(I)I"⟩
abbrev cX4_brings : ByteArray := prog_1_method_16_code
def yX4_brings : MethodName := ⟨RX4, "brings", "(I)I"⟩
abbrev cX4_day : ByteArray := prog_1_method_17_code
def yX4_day : MethodName := ⟨RX4, "day", "(I)I"⟩
abbrev cX4_round : ByteArray := prog_1_method_18_code
def yX4_round : MethodName := ⟨RX4, "round", "(II)I"⟩
abbrev cX4_days : ByteArray := prog_1_method_19_code
def yX4_days : MethodName := ⟨RX4, "days", "(I)I"⟩
abbrev cX4_first : ByteArray := prog_1_method_20_code
def yX4_first : MethodName := ⟨RX4, "first", "()I"⟩
abbrev cX4_less : ByteArray := prog_1_method_21_code
def yX4_less : MethodName := ⟨RX4, "less", "()I"⟩
abbrev cX4_begins : ByteArray := prog_1_method_22_code
def yX4_begins : MethodName := ⟨RX4, "begins", "(I)I"⟩
abbrev cX4_pure : ByteArray := prog_1_method_23_code
def yX4_pure : MethodName := ⟨RX4, "pure", "(I)I"⟩
abbrev cX4_wrote : ByteArray := prog_1_method_24_code
def yX4_wrote : MethodName := ⟨RX4, "wrote", "(II)I"⟩
abbrev cX4_could : ByteArray := prog_1_method_25_code
def yX4_could : MethodName := ⟨RX4, "could", "(I)I"⟩
abbrev cX4_fewest : ByteArray := prog_1_method_26_code
def yX4_fewest : MethodName := ⟨RX4, "fewest", "(IZI)I"⟩
abbrev cX4_police : ByteArray := prog_1_method_27_code
def yX4_police : MethodName := ⟨RX4, "police", "(II)I"⟩
abbrev cX4_comes : ByteArray := prog_1_method_28_code
def yX4_comes : MethodName := ⟨RX4, "comes", "()I"⟩
abbrev cX4_richest : ByteArray := prog_1_method_29_code
def yX4_richest : MethodName := ⟨RX4, "richest", "(I)I"⟩
abbrev cX4_odds : ByteArray := prog_1_method_30_code
def yX4_odds : MethodName := ⟨RX4, "odds", "(III)J"⟩
abbrev cX4_none : ByteArray := prog_1_method_31_code
def yX4_none : MethodName := ⟨RX4, "none", "(II)J"⟩
abbrev cX4_mean : ByteArray := prog_1_method_32_code
def yX4_mean : MethodName := ⟨RX4, "mean", "(II)J"⟩
abbrev cX4_see : ByteArray := prog_1_method_33_code
def yX4_see : MethodName := ⟨RX4, "see", "(IZ)I"⟩
abbrev cX4_forget : ByteArray := prog_1_method_34_code
def yX4_forget : MethodName := ⟨RX4, "forget", "(I)I"⟩
abbrev cX4_fits : ByteArray := prog_1_method_35_code
def yX4_fits : MethodName := ⟨RX4, "fits", "(I)I"⟩
abbrev cX4_ask : ByteArray := prog_1_method_36_code
def yX4_ask : MethodName := ⟨RX4, "ask", "(I)I"⟩
abbrev cX4_drift : ByteArray := prog_1_method_37_code
def yX4_drift : MethodName := ⟨RX4, "drift", "(III)I"⟩
abbrev cX4_keep : ByteArray := prog_1_method_38_code
def yX4_keep : MethodName := ⟨RX4, "keep", "(I)I"⟩
abbrev cX4_back : ByteArray := prog_1_method_39_code
def yX4_back : MethodName := ⟨RX4, "back", "(I)I"⟩
abbrev cX4_sheet : ByteArray := prog_1_method_40_code
def yX4_sheet : MethodName := ⟨RX4, "sheet", "(III)I"⟩
abbrev cX4_lay : ByteArray := prog_1_method_41_code
def yX4_lay : MethodName := ⟨RX4, "lay", "(III)I"⟩
abbrev cX4_read : ByteArray := prog_1_method_42_code
def yX4_read : MethodName := ⟨RX4, "read", "(IIII)I"⟩
abbrev cX4_torn : ByteArray := prog_1_method_43_code
def yX4_torn : MethodName := ⟨RX4, "torn", "()I"⟩
abbrev cX4_count : ByteArray := prog_1_method_44_code
def yX4_count : MethodName := ⟨RX4, "count", "(I)I"⟩
abbrev cX4_refusal : ByteArray := prog_1_method_45_code
def yX4_refusal : MethodName := ⟨RX4, "refusal", "(IZ)I"⟩
abbrev cX4_change : ByteArray := prog_1_method_46_code
def yX4_change : MethodName := ⟨RX4, "change", "([I[IIIZ)I"⟩
abbrev cX4_imagesKept : ByteArray := prog_1_method_47_code
def yX4_imagesKept : MethodName := ⟨RX4, "imagesKept", "()I"⟩
abbrev cX4_fitting : ByteArray := prog_1_method_48_code
def yX4_fitting : MethodName := ⟨RX4, "fitting", "()J"⟩
abbrev cX4_expected : ByteArray := prog_1_method_49_code
def yX4_expected : MethodName := ⟨RX4, "expected", "(IIII)J"⟩
abbrev cX4_weightOf : ByteArray := prog_1_method_50_code
def yX4_weightOf : MethodName := ⟨RX4, "weightOf", "(II)J"⟩
abbrev cX4_measure : ByteArray := prog_1_method_51_code
def yX4_measure : MethodName := ⟨RX4, "measure", "(JII)I"⟩
abbrev cX4_power : ByteArray := prog_1_method_52_code
def yX4_power : MethodName := ⟨RX4, "power", "(JI)J"⟩
abbrev cX4_inLowestTerms : ByteArray := prog_1_method_53_code
def yX4_inLowestTerms : MethodName := ⟨RX4, "inLowestTerms", "(JJI)J"⟩
abbrev cX4_leastOf : ByteArray := prog_1_method_54_code
def yX4_leastOf : MethodName := ⟨RX4, "leastOf", "(J)I"⟩
abbrev cX4_greatestOf : ByteArray := prog_1_method_55_code
def yX4_greatestOf : MethodName := ⟨RX4, "greatestOf", "(J)I"⟩
abbrev cX4_inAll : ByteArray := prog_1_method_56_code
def yX4_inAll : MethodName := ⟨RX4, "inAll", "(J)I"⟩
abbrev cX4_inNone : ByteArray := prog_1_method_57_code
def yX4_inNone : MethodName := ⟨RX4, "inNone", "(J)I"⟩
abbrev cX4_isAmong : ByteArray := prog_1_method_58_code
def yX4_isAmong : MethodName := ⟨RX4, "isAmong", "(IJ)Z"⟩
abbrev cX4_isFewer : ByteArray := prog_1_method_59_code
def yX4_isFewer : MethodName := ⟨RX4, "isFewer", "(II)Z"⟩
abbrev cX4_sizeOf : ByteArray := prog_1_method_60_code
def yX4_sizeOf : MethodName := ⟨RX4, "sizeOf", "(I)I"⟩
abbrev cX4_bitOf : ByteArray := prog_1_method_61_code
def yX4_bitOf : MethodName := ⟨RX4, "bitOf", "(II)I"⟩
abbrev cX4_withBit : ByteArray := prog_1_method_62_code
def yX4_withBit : MethodName := ⟨RX4, "withBit", "(IIZ)I"⟩
abbrev cX4_isYesNo : ByteArray := prog_1_method_63_code
def yX4_isYesNo : MethodName := ⟨RX4, "isYesNo", "(I)Z"⟩
abbrev cX4_isSheet : ByteArray := prog_1_method_64_code
def yX4_isSheet : MethodName := ⟨RX4, "isSheet", "(I)Z"⟩
abbrev cX4_isLane : ByteArray := prog_1_method_65_code
def yX4_isLane : MethodName := ⟨RX4, "isLane", "(I)Z"⟩
def RX5 : String := "YesterStreetModel"
def TX5 : u_T := fun k => match k with
  | 0 => ("YesterStreetModel", "state", "[I", true)
  | 1 => ("YesterStreetModel", "noteMany", "I", false)
  | 2 => ("YesterStreetModel", "oneMany", "I", false)
  | 3 => ("YesterStreetModel", "there", "I", false)
  | 4 => ("YesterStreetModel", "readPage", "[I", true)
  | 5 => ("YesterStreetModel", "readNotes", "I", false)
  | 6 => ("YesterStreetModel", "readOnes", "I", false)
  | 7 => ("YesterStreetModel", "toldOnce", "I", false)
  | 8 => ("YesterStreetModel", "worthTold", "I", false)
  | 9 => ("YesterStreetModel", "highNote", "I", false)
  | 10 => ("YesterStreetModel", "highOne", "I", false)
  | 11 => ("YesterStreetModel", "tape", "[I", true)
  | 12 => ("YesterStreetModel", "taped", "I", false)
  | 13 => ("YesterStreetModel", "fault", "I", false)
  | 14 => ("YesterStreetModel", "broken", "I", false)
  | 15 => ("YesterStreetModel", "brokenAt", "I", false)
  | 16 => ("YesterStreetModel", "spot", "I", false)
  | 17 => ("YesterStreetModel", "here", "I", false)
  | 18 => ("YesterStreetModel", "token", "I", false)
  | 19 => ("YesterStreetModel", "value", "I", false)
  | 20 => ("YesterStreetModel", "cuts", "[I", true)
  | 21 => ("YesterStreetModel", "letters", "[I", true)
  | 22 => ("YesterStreetModel", "seen", "[I", true)
  | 23 => ("YesterStreetModel", "seenMany", "I", false)
  | 24 => ("YesterStreetModel", "isKept", "[Z", true)
  | 25 => ("YesterStreetModel", "lanes", "[I", true)
  | 26 => ("YesterStreetModel", "lengths", "[I", true)
  | 27 => ("YesterStreetModel", "cells", "[I", true)
  | _ => ("YesterStreetModel", "torn", "I", false)
def tyX5 : Nat → FieldType := fun k => match k with
  | 0 => .array .int
  | 1 => .int
  | 2 => .int
  | 3 => .int
  | 4 => .array .int
  | 5 => .int
  | 6 => .int
  | 7 => .int
  | 8 => .int
  | 9 => .int
  | 10 => .int
  | 11 => .array .int
  | 12 => .int
  | 13 => .int
  | 14 => .int
  | 15 => .int
  | 16 => .int
  | 17 => .int
  | 18 => .int
  | 19 => .int
  | 20 => .array .int
  | 21 => .array .int
  | 22 => .array .int
  | 23 => .int
  | 24 => .array .boolean
  | 25 => .array .int
  | 26 => .array .int
  | 27 => .array .int
  | _ => .int
theorem nmX5 : ∀ a, a < 29 → ∀ b, b < 29 → a ≠ b → (TX5 a).2.1 ≠ (TX5 b).2.1 := by decide +kernel
theorem tyX5_ok : ∀ k, k < 29 → parseFieldDescriptor (TX5 k).2.2.1 = some (tyX5 k) := by decide +kernel
abbrev cX5_init : ByteArray := prog_7_method_1_code
def yX5_init : MethodName := ⟨RX5, "<init>", "()V"⟩
abbrev cX5_in : ByteArray := prog_7_method_3_code
def yX5_in : MethodName := ⟨RX5, "in", "(JJJ)Z"⟩
abbrev cX5_feed : ByteArray := prog_7_method_4_code
def yX5_feed : MethodName := ⟨RX5, "feed", "(I)I"⟩
abbrev cX5_end : ByteArray := prog_7_method_5_code
def yX5_end : MethodName := ⟨RX5, "end", "(I)I"⟩
abbrev cX5_byteAt : ByteArray := prog_7_method_6_code
def yX5_byteAt : MethodName := ⟨RX5, "byteAt", "(I)I"⟩
abbrev cX5_fails : ByteArray := prog_7_method_7_code
def yX5_fails : MethodName := ⟨RX5, "fails", "(I)V"⟩
abbrev cX5_nameHere : ByteArray := prog_7_method_8_code
def yX5_nameHere : MethodName := ⟨RX5, "nameHere", "()I"⟩
abbrev cX5_step : ByteArray := prog_7_method_9_code
def yX5_step : MethodName := ⟨RX5, "step", "()V"⟩
abbrev cX5_other : ByteArray := prog_7_method_10_code
def yX5_other : MethodName := ⟨RX5, "other", "(III)I"⟩
abbrev cX5_noteHere : ByteArray := prog_7_method_11_code
def yX5_noteHere : MethodName := ⟨RX5, "noteHere", "(I)I"⟩
abbrev cX5_oneHere : ByteArray := prog_7_method_12_code
def yX5_oneHere : MethodName := ⟨RX5, "oneHere", "(I)I"⟩
abbrev cX5_isNumber : ByteArray := prog_7_method_13_code
def yX5_isNumber : MethodName := ⟨RX5, "isNumber", "()Z"⟩
abbrev cX5_readRule : ByteArray := prog_7_method_14_code
def yX5_readRule : MethodName := ⟨RX5, "readRule", "()V"⟩
abbrev cX5_readMore : ByteArray := prog_7_method_15_code
def yX5_readMore : MethodName := ⟨RX5, "readMore", "(I)V"⟩
abbrev cX5_readLine : ByteArray := prog_7_method_16_code
def yX5_readLine : MethodName := ⟨RX5, "readLine", "()V"⟩
abbrev cX5_text : ByteArray := prog_7_method_17_code
def yX5_text : MethodName := ⟨RX5, "text", "()I"⟩
abbrev cX5_fault : ByteArray := prog_7_method_18_code
def yX5_fault : MethodName := ⟨RX5, "fault", "()I"⟩
abbrev cX5_isNote : ByteArray := prog_7_method_19_code
def yX5_isNote : MethodName := ⟨RX5, "isNote", "(I)Z"⟩
abbrev cX5_isOne : ByteArray := prog_7_method_20_code
def yX5_isOne : MethodName := ⟨RX5, "isOne", "(I)Z"⟩
abbrev cX5_isRule : ByteArray := prog_7_method_21_code
def yX5_isRule : MethodName := ⟨RX5, "isRule", "(I)Z"⟩
abbrev cX5_sets : ByteArray := prog_7_method_22_code
def yX5_sets : MethodName := ⟨RX5, "sets", "()I"⟩
abbrev cX5_isSet : ByteArray := prog_7_method_23_code
def yX5_isSet : MethodName := ⟨RX5, "isSet", "(I)Z"⟩
abbrev cX5_rule : ByteArray := prog_7_method_24_code
def yX5_rule : MethodName := ⟨RX5, "rule", "(I)I"⟩
abbrev cX5_holds : ByteArray := prog_7_method_25_code
def yX5_holds : MethodName := ⟨RX5, "holds", "(II)Z"⟩
abbrev cX5_noteOf : ByteArray := prog_7_method_26_code
def yX5_noteOf : MethodName := ⟨RX5, "noteOf", "(I)I"⟩
abbrev cX5_broughtBy : ByteArray := prog_7_method_27_code
def yX5_broughtBy : MethodName := ⟨RX5, "broughtBy", "(I)I"⟩
abbrev cX5_agrees : ByteArray := prog_7_method_28_code
def yX5_agrees : MethodName := ⟨RX5, "agrees", "(I)Z"⟩
abbrev cX5_law : ByteArray := prog_7_method_29_code
def yX5_law : MethodName := ⟨RX5, "law", "(II)I"⟩
abbrev cX5_worth : ByteArray := prog_7_method_30_code
def yX5_worth : MethodName := ⟨RX5, "worth", "(I)I"⟩
abbrev cX5_marks : ByteArray := prog_7_method_31_code
def yX5_marks : MethodName := ⟨RX5, "marks", "(IIZ)I"⟩
abbrev cX5_writes : ByteArray := prog_7_method_32_code
def yX5_writes : MethodName := ⟨RX5, "writes", "(IZ)I"⟩
abbrev cX5_write : ByteArray := prog_7_method_33_code
def yX5_write : MethodName := ⟨RX5, "write", "(IZ)I"⟩
abbrev cX5_home : ByteArray := prog_7_method_34_code
def yX5_home : MethodName := ⟨RX5, "home", "(IZ)I"⟩
abbrev cX5_stop : ByteArray := prog_7_method_35_code
def yX5_stop : MethodName := ⟨RX5, "stop", "(IZ)I"⟩
abbrev cX5_among : ByteArray := prog_7_method_36_code
def yX5_among : MethodName := ⟨RX5, "among", "(IIZII)I"⟩
abbrev cX5_need : ByteArray := prog_7_method_37_code
def yX5_need : MethodName := ⟨RX5, "need", "(IIZ)I"⟩
abbrev cX5_bar : ByteArray := prog_7_method_38_code
def yX5_bar : MethodName := ⟨RX5, "bar", "(IIZ)I"⟩
abbrev cX5_pay : ByteArray := prog_7_method_39_code
def yX5_pay : MethodName := ⟨RX5, "pay", "(II)I"⟩
abbrev cX5_cut : ByteArray := prog_7_method_40_code
def yX5_cut : MethodName := ⟨RX5, "cut", "(I)I"⟩
abbrev cX5_brings : ByteArray := prog_7_method_41_code
def yX5_brings : MethodName := ⟨RX5, "brings", "(I)I"⟩
abbrev cX5_daysOn : ByteArray := prog_7_method_42_code
def yX5_daysOn : MethodName := ⟨RX5, "daysOn", "(II)I"⟩
abbrev cX5_day : ByteArray := prog_7_method_43_code
def yX5_day : MethodName := ⟨RX5, "day", "(I)I"⟩
abbrev cX5_comesAgain : ByteArray := prog_7_method_44_code
def yX5_comesAgain : MethodName := ⟨RX5, "comesAgain", "(I)I"⟩
abbrev cX5_round : ByteArray := prog_7_method_45_code
def yX5_round : MethodName := ⟨RX5, "round", "(II)I"⟩
abbrev cX5_agreeing : ByteArray := prog_7_method_46_code
def yX5_agreeing : MethodName := ⟨RX5, "agreeing", "()I"⟩
abbrev cX5_days : ByteArray := prog_7_method_47_code
def yX5_days : MethodName := ⟨RX5, "days", "(I)I"⟩
abbrev cX5_canBy : ByteArray := prog_7_method_48_code
def yX5_canBy : MethodName := ⟨RX5, "canBy", "(I)Z"⟩
abbrev cX5_first : ByteArray := prog_7_method_49_code
def yX5_first : MethodName := ⟨RX5, "first", "()I"⟩
abbrev cX5_less : ByteArray := prog_7_method_50_code
def yX5_less : MethodName := ⟨RX5, "less", "()I"⟩
abbrev cX5_begun : ByteArray := prog_7_method_51_code
def yX5_begun : MethodName := ⟨RX5, "begun", "(I)I"⟩
abbrev cX5_begins : ByteArray := prog_7_method_52_code
def yX5_begins : MethodName := ⟨RX5, "begins", "(I)I"⟩
abbrev cX5_pure : ByteArray := prog_7_method_53_code
def yX5_pure : MethodName := ⟨RX5, "pure", "(I)I"⟩
abbrev cX5_writers : ByteArray := prog_7_method_54_code
def yX5_writers : MethodName := ⟨RX5, "writers", "(II)I"⟩
abbrev cX5_wrote : ByteArray := prog_7_method_55_code
def yX5_wrote : MethodName := ⟨RX5, "wrote", "(II)I"⟩
abbrev cX5_could : ByteArray := prog_7_method_56_code
def yX5_could : MethodName := ⟨RX5, "could", "(I)I"⟩
abbrev cX5_bitsOf : ByteArray := prog_7_method_57_code
def yX5_bitsOf : MethodName := ⟨RX5, "bitsOf", "(I)I"⟩
abbrev cX5_canBe : ByteArray := prog_7_method_58_code
def yX5_canBe : MethodName := ⟨RX5, "canBe", "(IZ)Z"⟩
abbrev cX5_fewest : ByteArray := prog_7_method_59_code
def yX5_fewest : MethodName := ⟨RX5, "fewest", "(IZI)I"⟩
abbrev cX5_police : ByteArray := prog_7_method_60_code
def yX5_police : MethodName := ⟨RX5, "police", "(II)I"⟩
abbrev cX5_comes : ByteArray := prog_7_method_61_code
def yX5_comes : MethodName := ⟨RX5, "comes", "()I"⟩
abbrev cX5_worthOf : ByteArray := prog_7_method_62_code
def yX5_worthOf : MethodName := ⟨RX5, "worthOf", "(I)I"⟩
abbrev cX5_richest : ByteArray := prog_7_method_63_code
def yX5_richest : MethodName := ⟨RX5, "richest", "(I)I"⟩
abbrev cX5_lowest : ByteArray := prog_7_method_64_code
def yX5_lowest : MethodName := ⟨RX5, "lowest", "(JJI)J"⟩
abbrev cX5_meanOf : ByteArray := prog_7_method_65_code
def yX5_meanOf : MethodName := ⟨RX5, "meanOf", "(IIII)J"⟩
abbrev cX5_odds : ByteArray := prog_7_method_66_code
def yX5_odds : MethodName := ⟨RX5, "odds", "(III)J"⟩
abbrev cX5_none : ByteArray := prog_7_method_67_code
def yX5_none : MethodName := ⟨RX5, "none", "(II)J"⟩
abbrev cX5_mean : ByteArray := prog_7_method_68_code
def yX5_mean : MethodName := ⟨RX5, "mean", "(II)J"⟩
abbrev cX5_see : ByteArray := prog_7_method_69_code
def yX5_see : MethodName := ⟨RX5, "see", "(IZ)I"⟩
abbrev cX5_forget : ByteArray := prog_7_method_70_code
def yX5_forget : MethodName := ⟨RX5, "forget", "(I)I"⟩
abbrev cX5_isFit : ByteArray := prog_7_method_71_code
def yX5_isFit : MethodName := ⟨RX5, "isFit", "(I)Z"⟩
abbrev cX5_fits : ByteArray := prog_7_method_72_code
def yX5_fits : MethodName := ⟨RX5, "fits", "(I)I"⟩
abbrev cX5_ask : ByteArray := prog_7_method_73_code
def yX5_ask : MethodName := ⟨RX5, "ask", "(I)I"⟩
abbrev cX5_drift : ByteArray := prog_7_method_74_code
def yX5_drift : MethodName := ⟨RX5, "drift", "(III)I"⟩
abbrev cX5_copies : ByteArray := prog_7_method_75_code
def yX5_copies : MethodName := ⟨RX5, "copies", "(II)V"⟩
abbrev cX5_keep : ByteArray := prog_7_method_76_code
def yX5_keep : MethodName := ⟨RX5, "keep", "(I)I"⟩
abbrev cX5_back : ByteArray := prog_7_method_77_code
def yX5_back : MethodName := ⟨RX5, "back", "(I)I"⟩
abbrev cX5_sheet : ByteArray := prog_7_method_78_code
def yX5_sheet : MethodName := ⟨RX5, "sheet", "(III)I"⟩
abbrev cX5_lay : ByteArray := prog_7_method_79_code
def yX5_lay : MethodName := ⟨RX5, "lay", "(III)I"⟩
abbrev cX5_read : ByteArray := prog_7_method_80_code
def yX5_read : MethodName := ⟨RX5, "read", "(IIII)I"⟩
abbrev cX5_torn : ByteArray := prog_7_method_81_code
def yX5_torn : MethodName := ⟨RX5, "torn", "()I"⟩
abbrev cX5_count : ByteArray := prog_7_method_82_code
def yX5_count : MethodName := ⟨RX5, "count", "(I)I"⟩
def RJx145de : String := "java/io/Serializable"
def TJx145de : u_T := fun k => match k with
  | _ => ("", "", "", false)
def tyJx145de : Nat → FieldType := fun k => match k with
  | _ => .int
theorem nmJx145de : ∀ a, a < 0 → ∀ b, b < 0 → a ≠ b → (TJx145de a).2.1 ≠ (TJx145de b).2.1 := by decide +kernel
theorem tyJx145de_ok : ∀ k, k < 0 → parseFieldDescriptor (TJx145de k).2.2.1 = some (tyJx145de k) := by decide +kernel
def RJx9f9b0 : String := "java/lang/CharSequence"
def TJx9f9b0 : u_T := fun k => match k with
  | _ => ("", "", "", false)
def tyJx9f9b0 : Nat → FieldType := fun k => match k with
  | _ => .int
theorem nmJx9f9b0 : ∀ a, a < 0 → ∀ b, b < 0 → a ≠ b → (TJx9f9b0 a).2.1 ≠ (TJx9f9b0 b).2.1 := by decide +kernel
theorem tyJx9f9b0_ok : ∀ k, k < 0 → parseFieldDescriptor (TJx9f9b0 k).2.2.1 = some (tyJx9f9b0 k) := by decide +kernel
def RJxb160c : String := "java/lang/Comparable"
def TJxb160c : u_T := fun k => match k with
  | _ => ("", "", "", false)
def tyJxb160c : Nat → FieldType := fun k => match k with
  | _ => .int
theorem nmJxb160c : ∀ a, a < 0 → ∀ b, b < 0 → a ≠ b → (TJxb160c a).2.1 ≠ (TJxb160c b).2.1 := by decide +kernel
theorem tyJxb160c_ok : ∀ k, k < 0 → parseFieldDescriptor (TJxb160c k).2.2.1 = some (tyJxb160c k) := by decide +kernel
def RJ6 : String := "java/lang/Integer"
def TJ6 : u_T := fun k => match k with
  | _ => ("", "", "", false)
def tyJ6 : Nat → FieldType := fun k => match k with
  | _ => .int
theorem nmJ6 : ∀ a, a < 0 → ∀ b, b < 0 → a ≠ b → (TJ6 a).2.1 ≠ (TJ6 b).2.1 := by decide +kernel
theorem tyJ6_ok : ∀ k, k < 0 → parseFieldDescriptor (TJ6 k).2.2.1 = some (tyJ6 k) := by decide +kernel
abbrev cJ6_bitCount_0f7a4 : ByteArray := prog_8_method_49_code
def yJ6_bitCount_0f7a4 : MethodName := ⟨RJ6, "bitCount", "(I)I"⟩
def RJ13 : String := "java/lang/Long"
def TJ13 : u_T := fun k => match k with
  | _ => ("", "", "", false)
def tyJ13 : Nat → FieldType := fun k => match k with
  | _ => .int
theorem nmJ13 : ∀ a, a < 0 → ∀ b, b < 0 → a ≠ b → (TJ13 a).2.1 ≠ (TJ13 b).2.1 := by decide +kernel
theorem tyJ13_ok : ∀ k, k < 0 → parseFieldDescriptor (TJ13 k).2.2.1 = some (tyJ13 k) := by decide +kernel
abbrev cJ13_bitCount_95d88 : ByteArray := prog_9_method_50_code
def yJ13_bitCount_95d88 : MethodName := ⟨RJ13, "bitCount", "(J)I"⟩
def RJ9 : String := "java/lang/Math"
def TJ9 : u_T := fun k => match k with
  | _ => ("", "", "", false)
def tyJ9 : Nat → FieldType := fun k => match k with
  | _ => .int
theorem nmJ9 : ∀ a, a < 0 → ∀ b, b < 0 → a ≠ b → (TJ9 a).2.1 ≠ (TJ9 b).2.1 := by decide +kernel
theorem tyJ9_ok : ∀ k, k < 0 → parseFieldDescriptor (TJ9 k).2.2.1 = some (tyJ9 k) := by decide +kernel
abbrev cJ9_max_7cf53 : ByteArray := prog_10_method_65_code
def yJ9_max_7cf53 : MethodName := ⟨RJ9, "max", "(II)I"⟩
def RJ0 : String := "java/lang/String"
def TJ0 : u_T := fun k => match k with
  | _ => ("", "", "", false)
def tyJ0 : Nat → FieldType := fun k => match k with
  | _ => .int
theorem nmJ0 : ∀ a, a < 0 → ∀ b, b < 0 → a ≠ b → (TJ0 a).2.1 ≠ (TJ0 b).2.1 := by decide +kernel
theorem tyJ0_ok : ∀ k, k < 0 → parseFieldDescriptor (TJ0 k).2.2.1 = some (tyJ0 k) := by decide +kernel
abbrev cJ0_length_8abf5 : ByteArray := prog_11_method_54_code
def yJ0_length_8abf5 : MethodName := ⟨RJ0, "length", "()I"⟩
abbrev cJ0_charAt_5068e : ByteArray := prog_11_method_56_code
def yJ0_charAt_5068e : MethodName := ⟨RJ0, "charAt", "(I)C"⟩
abbrev cJ0_coder_7d493 : ByteArray := prog_11_method_152_code
def yJ0_coder_7d493 : MethodName := ⟨RJ0, "coder", "()B"⟩
abbrev cJ0_isLatin1_aae02 : ByteArray := prog_11_method_154_code
def yJ0_isLatin1_aae02 : MethodName := ⟨RJ0, "isLatin1", "()Z"⟩
abbrev cJ0_checkIndex_df160 : ByteArray := prog_11_method_155_code
def yJ0_checkIndex_df160 : MethodName := ⟨RJ0, "checkIndex", "(II)V"⟩
def RJ1 : String := "java/lang/StringLatin1"
def TJ1 : u_T := fun k => match k with
  | _ => ("", "", "", false)
def tyJ1 : Nat → FieldType := fun k => match k with
  | _ => .int
theorem nmJ1 : ∀ a, a < 0 → ∀ b, b < 0 → a ≠ b → (TJ1 a).2.1 ≠ (TJ1 b).2.1 := by decide +kernel
theorem tyJ1_ok : ∀ k, k < 0 → parseFieldDescriptor (TJ1 k).2.2.1 = some (tyJ1 k) := by decide +kernel
abbrev cJ1_charAt_3b067 : ByteArray := prog_12_method_2_code
def yJ1_charAt_3b067 : MethodName := ⟨RJ1, "charAt", "([BI)C"⟩
def RJ2 : String := "java/lang/StringUTF16"
def TJ2 : u_T := fun k => match k with
  | _ => ("", "", "", false)
def tyJ2 : Nat → FieldType := fun k => match k with
  | _ => .int
theorem nmJ2 : ∀ a, a < 0 → ∀ b, b < 0 → a ≠ b → (TJ2 a).2.1 ≠ (TJ2 b).2.1 := by decide +kernel
theorem tyJ2_ok : ∀ k, k < 0 → parseFieldDescriptor (TJ2 k).2.2.1 = some (tyJ2 k) := by decide +kernel
abbrev cJ2_getChar_3b067 : ByteArray := prog_13_method_5_code
def yJ2_getChar_3b067 : MethodName := ⟨RJ2, "getChar", "([BI)C"⟩
abbrev cJ2_length_9d52b : ByteArray := prog_13_method_6_code
def yJ2_length_9d52b : MethodName := ⟨RJ2, "length", "([B)I"⟩
abbrev cJ2_charAt_3b067 : ByteArray := prog_13_method_83_code
def yJ2_charAt_3b067 : MethodName := ⟨RJ2, "charAt", "([BI)C"⟩
abbrev cJ2_checkIndex_2214a : ByteArray := prog_13_method_91_code
def yJ2_checkIndex_2214a : MethodName := ⟨RJ2, "checkIndex", "(I[B)V"⟩
def RJ10 : String := "java/lang/System"
def TJ10 : u_T := fun k => match k with
  | _ => ("", "", "", false)
def tyJ10 : Nat → FieldType := fun k => match k with
  | _ => .int
theorem nmJ10 : ∀ a, a < 0 → ∀ b, b < 0 → a ≠ b → (TJ10 a).2.1 ≠ (TJ10 b).2.1 := by decide +kernel
theorem tyJ10_ok : ∀ k, k < 0 → parseFieldDescriptor (TJ10 k).2.2.1 = some (tyJ10 k) := by decide +kernel
def RJxfd54e : String := "java/lang/constant/Constable"
def TJxfd54e : u_T := fun k => match k with
  | _ => ("", "", "", false)
def tyJxfd54e : Nat → FieldType := fun k => match k with
  | _ => .int
theorem nmJxfd54e : ∀ a, a < 0 → ∀ b, b < 0 → a ≠ b → (TJxfd54e a).2.1 ≠ (TJxfd54e b).2.1 := by decide +kernel
theorem tyJxfd54e_ok : ∀ k, k < 0 → parseFieldDescriptor (TJxfd54e k).2.2.1 = some (tyJxfd54e k) := by decide +kernel
def RJx3cf43 : String := "java/lang/constant/ConstantDesc"
def TJx3cf43 : u_T := fun k => match k with
  | _ => ("", "", "", false)
def tyJx3cf43 : Nat → FieldType := fun k => match k with
  | _ => .int
theorem nmJx3cf43 : ∀ a, a < 0 → ∀ b, b < 0 → a ≠ b → (TJx3cf43 a).2.1 ≠ (TJx3cf43 b).2.1 := by decide +kernel
theorem tyJx3cf43_ok : ∀ k, k < 0 → parseFieldDescriptor (TJx3cf43 k).2.2.1 = some (tyJx3cf43 k) := by decide +kernel
def RJ7 : String := "java/util/Arrays"
def TJ7 : u_T := fun k => match k with
  | _ => ("", "", "", false)
def tyJ7 : Nat → FieldType := fun k => match k with
  | _ => .int
theorem nmJ7 : ∀ a, a < 0 → ∀ b, b < 0 → a ≠ b → (TJ7 a).2.1 ≠ (TJ7 b).2.1 := by decide +kernel
theorem tyJ7_ok : ∀ k, k < 0 → parseFieldDescriptor (TJ7 k).2.2.1 = some (tyJ7 k) := by decide +kernel
abbrev cJ7_fill_d0a16 : ByteArray := prog_15_method_101_code
def yJ7_fill_d0a16 : MethodName := ⟨RJ7, "fill", "([JJ)V"⟩
abbrev cJ7_fill_53178 : ByteArray := prog_15_method_103_code
def yJ7_fill_53178 : MethodName := ⟨RJ7, "fill", "([II)V"⟩
def RJ3 : String := "jdk/internal/util/Preconditions"
def TJ3 : u_T := fun k => match k with
  | _ => ("", "", "", false)
def tyJ3 : Nat → FieldType := fun k => match k with
  | _ => .int
theorem nmJ3 : ∀ a, a < 0 → ∀ b, b < 0 → a ≠ b → (TJ3 a).2.1 ≠ (TJ3 b).2.1 := by decide +kernel
theorem tyJ3_ok : ∀ k, k < 0 → parseFieldDescriptor (TJ3 k).2.2.1 = some (tyJ3 k) := by decide +kernel
abbrev cJ3_checkIndex_8e157 : ByteArray := prog_16_method_11_code
def yJ3_checkIndex_8e157 : MethodName := ⟨RJ3, "checkIndex", "(IILjava/util/function/BiFunction;)I"⟩
def RL : String := "YesterStreetLaw"
abbrev cL_law : ByteArray := code
def yL_law : MethodName := ⟨RL, "law", "([I)Z"⟩
abbrev vwCl : List vw_C := [(RX0, TX0, 2), (RX1, TX1, 3), (RX2, TX2, 12), (RX3, TX3, 13), (RX4, TX4, 11), (RX5, TX5, 29)]
/-! ===== the tables' words: those that last ===== -/
def gT : List Cond := lw_tbl.filter goodWord
theorem gT_good {w : Cond} (h : w ∈ gT) : goodWord w = true := (List.mem_filter.mp h).2
theorem gT_of {w : Cond} (i : Nat) (h : lw_tbl[i]? = some w) (g : goodWord w = true) : w ∈ gT := List.mem_filter.mpr ⟨List.mem_of_getElem? h, g⟩
theorem gC {y : MethodName} {c : ByteArray} {n : Nat} {r : Option FieldType} (h : Cond.code y c n r ∈ gT) : GoodIn gT (Cond.code y c n r :: gT) := by
  intro w hw
  rcases List.mem_cons.mp hw with rfl | h1
  · exact ⟨h, good_of_word (gT_good h)⟩
  · exact ⟨h1, good_of_word (gT_good h1)⟩
theorem g1 {w : Cond} (h : w ∈ gT) : w ∈ gT ∧ ((w.onTables && w.keeps) = true ∨ ∃ ty, w = .arrayClass ty) := ⟨h, good_of_word (gT_good h)⟩
theorem gV {own C : String} {idx : Nat} {y : MethodName} {ws : List Cond} (h : GoodIn gT ws) (h1 : Cond.methodLink own idx y ∈ gT) (h2 : Cond.instanceMethod y ∈ gT) (h3 : Cond.selects C y y ∈ gT) (h4 : Cond.initialized C ∈ gT) : GoodIn gT (wsV own idx C y ws) := by
  intro w hw
  rcases List.mem_append.mp hw with hw | hw
  · simp only [List.mem_cons, List.not_mem_nil, or_false] at hw
    rcases hw with rfl | rfl | rfl | rfl
    · exact g1 h1
    · exact g1 h2
    · exact g1 h3
    · exact g1 h4
  · exact h w hw
theorem gS {own : String} {idx : Nat} {y : MethodName} {ws : List Cond} (h : GoodIn gT ws) (h1 : Cond.methodLink own idx y ∈ gT) (h2 : Cond.static y ∈ gT) (h3 : Cond.initialized y.cls ∈ gT) : GoodIn gT (va_wsS own idx y ws) := by
  intro w hw
  rcases List.mem_append.mp hw with hw | hw
  · simp only [List.mem_cons, List.not_mem_nil, or_false] at hw
    rcases hw with rfl | rfl | rfl
    · exact g1 h1
    · exact g1 h2
    · exact g1 h3
  · exact h w hw
theorem in_of {ws : List Cond} (ps : List Nat) (hp : ws = ps.filterMap (fun i => lw_tbl[i]?)) (h : ws.all goodWord = true) : ∀ w ∈ ws, w ∈ gT := by
  intro w hw
  have h1 := List.all_eq_true.mp h w hw
  rw [hp] at hw
  obtain ⟨i, -, hi⟩ := List.mem_filterMap.mp hw
  exact gT_of i hi h1
