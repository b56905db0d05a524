def RX0 : String := "ScorePress$EventRows"
def TX0 : u_T := fun k => match k with
  | 0 => ("ScorePress$EventRows", "told", "[[I", true)
  | _ => ("ScorePress$EventRows", "done", "[I", true)
def tyX0 : Nat → FieldType := fun k => match k with
  | 0 => .array (.array .int)
  | _ => .array .int
abbrev wsX00 : List Cond := u_ws RX0 TX0 2
theorem nmX0 : ∀ a, a < 2 → ∀ b, b < 2 → a ≠ b → (TX0 a).2.1 ≠ (TX0 b).2.1 := by decide +kernel
theorem tyX0_ok : ∀ k, k < 2 → parseFieldDescriptor (TX0 k).2.2.1 = some (tyX0 k) := by decide +kernel
abbrev cX0_init : ByteArray := prog_2_method_1_code
def yX0_init : MethodName := ⟨RX0, "<init>", "()V"⟩
abbrev cX0_merge : ByteArray := prog_2_method_2_code
def yX0_merge : MethodName := ⟨RX0, "merge", "([LScorePress$Voice;II)V"⟩
abbrev cX0_findEarliest : ByteArray := prog_2_method_3_code
def yX0_findEarliest : MethodName := ⟨RX0, "findEarliest", "([LScorePress$Voice;I)I"⟩
abbrev cX0_rankOf : ByteArray := prog_2_method_4_code
def yX0_rankOf : MethodName := ⟨RX0, "rankOf", "(LScorePress$Voice;I)I"⟩
abbrev cX0_isBeginning : ByteArray := prog_2_method_5_code
def yX0_isBeginning : MethodName := ⟨RX0, "isBeginning", "(I)Z"⟩
abbrev cX0_tickOf : ByteArray := prog_2_method_6_code
def yX0_tickOf : MethodName := ⟨RX0, "tickOf", "(LScorePress$Voice;I)I"⟩
abbrev cX0_put : ByteArray := prog_2_method_7_code
def yX0_put : MethodName := ⟨RX0, "put", "(IILScorePress$Voice;)V"⟩
def RX1 : String := "ScorePress$Voice"
def TX1 : u_T := fun k => match k with
  | 0 => ("ScorePress$Voice", "told", "[[I", true)
  | 1 => ("ScorePress$Voice", "pitches", "[[I", true)
  | 2 => ("ScorePress$Voice", "sounds", "[[I", true)
  | 3 => ("ScorePress$Voice", "heldBars", "[I", true)
  | 4 => ("ScorePress$Voice", "heldSigns", "[I", true)
  | 5 => ("ScorePress$Voice", "count", "I", false)
  | 6 => ("ScorePress$Voice", "end", "I", false)
  | 7 => ("ScorePress$Voice", "soundCount", "I", false)
  | 8 => ("ScorePress$Voice", "beamCount", "I", false)
  | 9 => ("ScorePress$Voice", "shownCount", "I", false)
  | 10 => ("ScorePress$Voice", "greatestTone", "I", false)
  | _ => ("ScorePress$Voice", "leastTone", "I", false)
def tyX1 : Nat → FieldType := fun k => match k with
  | 0 => .array (.array .int)
  | 1 => .array (.array .int)
  | 2 => .array (.array .int)
  | 3 => .array .int
  | 4 => .array .int
  | 5 => .int
  | 6 => .int
  | 7 => .int
  | 8 => .int
  | 9 => .int
  | 10 => .int
  | _ => .int
abbrev wsX10 : List Cond := u_ws RX1 TX1 12
theorem nmX1 : ∀ a, a < 12 → ∀ b, b < 12 → a ≠ b → (TX1 a).2.1 ≠ (TX1 b).2.1 := by decide +kernel
theorem tyX1_ok : ∀ k, k < 12 → parseFieldDescriptor (TX1 k).2.2.1 = some (tyX1 k) := by decide +kernel
abbrev cX1_init : ByteArray := prog_3_method_1_code
def yX1_init : MethodName := ⟨RX1, "<init>", "()V"⟩
abbrev cX1_tell : ByteArray := prog_3_method_2_code
def yX1_tell : MethodName := ⟨RX1, "tell", "(I)I"⟩
abbrev cX1_isNote : ByteArray := prog_3_method_3_code
def yX1_isNote : MethodName := ⟨RX1, "isNote", "(I)Z"⟩
abbrev cX1_isTied : ByteArray := prog_3_method_4_code
def yX1_isTied : MethodName := ⟨RX1, "isTied", "(I)Z"⟩
abbrev cX1_isJoinedToNext : ByteArray := prog_3_method_5_code
def yX1_isJoinedToNext : MethodName := ⟨RX1, "isJoinedToNext", "(I)Z"⟩
abbrev cX1_placeOf : ByteArray := prog_3_method_6_code
def yX1_placeOf : MethodName := ⟨RX1, "placeOf", "(I)I"⟩
abbrev cX1_append : ByteArray := prog_3_method_7_code
def yX1_append : MethodName := ⟨RX1, "append", "(II)V"⟩
abbrev cX1_putPitch : ByteArray := prog_3_method_9_code
def yX1_putPitch : MethodName := ⟨RX1, "putPitch", "(IIII)V"⟩
abbrev cX1_countLooseTies : ByteArray := prog_3_method_12_code
def yX1_countLooseTies : MethodName := ⟨RX1, "countLooseTies", "()I"⟩
abbrev cX1_arrange : ByteArray := prog_3_method_14_code
def yX1_arrange : MethodName := ⟨RX1, "arrange", "(II)V"⟩
abbrev cX1_arrangeTones : ByteArray := prog_3_method_15_code
def yX1_arrangeTones : MethodName := ⟨RX1, "arrangeTones", "()V"⟩
abbrev cX1_arrangeSounds : ByteArray := prog_3_method_16_code
def yX1_arrangeSounds : MethodName := ⟨RX1, "arrangeSounds", "()V"⟩
abbrev cX1_arrangeSigns : ByteArray := prog_3_method_17_code
def yX1_arrangeSigns : MethodName := ⟨RX1, "arrangeSigns", "(I)V"⟩
abbrev cX1_arrangeBeams : ByteArray := prog_3_method_18_code
def yX1_arrangeBeams : MethodName := ⟨RX1, "arrangeBeams", "(I)V"⟩
abbrev cX1_isGrouped : ByteArray := prog_3_method_19_code
def yX1_isGrouped : MethodName := ⟨RX1, "isGrouped", "(II)Z"⟩
abbrev cX1_isShortNote : ByteArray := prog_3_method_20_code
def yX1_isShortNote : MethodName := ⟨RX1, "isShortNote", "(I)Z"⟩
def RX2 : String := "ScorePress"
def TX2 : u_T := fun k => match k with
  | 0 => ("ScorePress", "voices", "[LScorePress$Voice;", true)
  | 1 => ("ScorePress", "eventRows", "LScorePress$EventRows;", true)
  | 2 => ("ScorePress", "pieces", "[I", true)
  | 3 => ("ScorePress", "voiceCount", "I", false)
  | 4 => ("ScorePress", "beatTicks", "I", false)
  | 5 => ("ScorePress", "barTicks", "I", false)
  | 6 => ("ScorePress", "key", "I", false)
  | _ => ("ScorePress", "eventsStand", "Z", false)
def tyX2 : Nat → FieldType := fun k => match k with
  | 0 => .array (.object "ScorePress$Voice")
  | 1 => .object "ScorePress$EventRows"
  | 2 => .array .int
  | 3 => .int
  | 4 => .int
  | 5 => .int
  | 6 => .int
  | _ => .boolean
abbrev wsX20 : List Cond := u_ws RX2 TX2 8
theorem nmX2 : ∀ a, a < 8 → ∀ b, b < 8 → a ≠ b → (TX2 a).2.1 ≠ (TX2 b).2.1 := by decide +kernel
theorem tyX2_ok : ∀ k, k < 8 → parseFieldDescriptor (TX2 k).2.2.1 = some (tyX2 k) := by decide +kernel
abbrev cX2_init : ByteArray := prog_1_method_1_code
def yX2_init : MethodName := ⟨RX2, "<init>", "()V"⟩
abbrev cX2_setBars : ByteArray := prog_1_method_2_code
def yX2_setBars : MethodName := ⟨RX2, "setBars", "(II)I"⟩
abbrev cX2_setKey : ByteArray := prog_1_method_3_code
def yX2_setKey : MethodName := ⟨RX2, "setKey", "(I)I"⟩
abbrev cX2_addVoice : ByteArray := prog_1_method_4_code
def yX2_addVoice : MethodName := ⟨RX2, "addVoice", "()I"⟩
abbrev cX2_score : ByteArray := prog_1_method_5_code
def yX2_score : MethodName := ⟨RX2, "score", "(I)I"⟩
abbrev cX2_ticks : ByteArray := prog_1_method_7_code
def yX2_ticks : MethodName := ⟨RX2, "ticks", "(II)I"⟩
abbrev cX2_addNote : ByteArray := prog_1_method_8_code
def yX2_addNote : MethodName := ⟨RX2, "addNote", "(IIIIIIZ)I"⟩
abbrev cX2_addRest : ByteArray := prog_1_method_9_code
def yX2_addRest : MethodName := ⟨RX2, "addRest", "(III)I"⟩
abbrev cX2_element : ByteArray := prog_1_method_12_code
def yX2_element : MethodName := ⟨RX2, "element", "(III)I"⟩
abbrev cX2_pitch : ByteArray := prog_1_method_13_code
def yX2_pitch : MethodName := ⟨RX2, "pitch", "(III)I"⟩
abbrev cX2_voice : ByteArray := prog_1_method_14_code
def yX2_voice : MethodName := ⟨RX2, "voice", "(II)I"⟩
abbrev cX2_faults : ByteArray := prog_1_method_16_code
def yX2_faults : MethodName := ⟨RX2, "faults", "()I"⟩
abbrev cX2_event : ByteArray := prog_1_method_18_code
def yX2_event : MethodName := ⟨RX2, "event", "(II)I"⟩
abbrev cX2_events : ByteArray := prog_1_method_19_code
def yX2_events : MethodName := ⟨RX2, "events", "()I"⟩
abbrev cX2_digest : ByteArray := prog_1_method_22_code
def yX2_digest : MethodName := ⟨RX2, "digest", "()J"⟩
abbrev cX2_requireVoice : ByteArray := prog_1_method_23_code
def yX2_requireVoice : MethodName := ⟨RX2, "requireVoice", "(I)V"⟩
abbrev cX2_requireElement : ByteArray := prog_1_method_24_code
def yX2_requireElement : MethodName := ⟨RX2, "requireElement", "(II)V"⟩
abbrev cX2_greatestEnd : ByteArray := prog_1_method_25_code
def yX2_greatestEnd : MethodName := ⟨RX2, "greatestEnd", "()I"⟩
abbrev cX2_barsBegun : ByteArray := prog_1_method_26_code
def yX2_barsBegun : MethodName := ⟨RX2, "barsBegun", "()I"⟩
abbrev cX2_arrangeOne : ByteArray := prog_1_method_27_code
def yX2_arrangeOne : MethodName := ⟨RX2, "arrangeOne", "(LScorePress$Voice;)V"⟩
abbrev cX2_arrangeAll : ByteArray := prog_1_method_28_code
def yX2_arrangeAll : MethodName := ⟨RX2, "arrangeAll", "()V"⟩
abbrev cX2_addPieces : ByteArray := prog_1_method_29_code
def yX2_addPieces : MethodName := ⟨RX2, "addPieces", "(LScorePress$Voice;I)I"⟩
abbrev cX2_planPieces : ByteArray := prog_1_method_30_code
def yX2_planPieces : MethodName := ⟨RX2, "planPieces", "(II)I"⟩
abbrev cX2_greatestValue : ByteArray := prog_1_method_31_code
def yX2_greatestValue : MethodName := ⟨RX2, "greatestValue", "(I)I"⟩
abbrev cX2_findValue : ByteArray := prog_1_method_32_code
def yX2_findValue : MethodName := ⟨RX2, "findValue", "(II)I"⟩
abbrev cX2_wholeParts : ByteArray := prog_1_method_33_code
def yX2_wholeParts : MethodName := ⟨RX2, "wholeParts", "(II)I"⟩
abbrev cX2_isKey : ByteArray := prog_1_method_34_code
def yX2_isKey : MethodName := ⟨RX2, "isKey", "(I)Z"⟩
abbrev cX2_signOfKey : ByteArray := prog_1_method_35_code
def yX2_signOfKey : MethodName := ⟨RX2, "signOfKey", "(II)I"⟩
abbrev cX2_toneOf : ByteArray := prog_1_method_36_code
def yX2_toneOf : MethodName := ⟨RX2, "toneOf", "(III)I"⟩
abbrev cX2_isPitch : ByteArray := prog_1_method_40_code
def yX2_isPitch : MethodName := ⟨RX2, "isPitch", "(III)Z"⟩
abbrev cX2_countParallels : ByteArray := prog_1_method_41_code
def yX2_countParallels : MethodName := ⟨RX2, "countParallels", "(LScorePress$Voice;LScorePress$Voice;)I"⟩
abbrev cX2_isParallel : ByteArray := prog_1_method_42_code
def yX2_isParallel : MethodName := ⟨RX2, "isParallel", "(IIII)Z"⟩
abbrev cX2_countEvents : ByteArray := prog_1_method_43_code
def yX2_countEvents : MethodName := ⟨RX2, "countEvents", "()I"⟩
abbrev cX2_refreshEvents : ByteArray := prog_1_method_44_code
def yX2_refreshEvents : MethodName := ⟨RX2, "refreshEvents", "()V"⟩
abbrev cX2_digestVoice : ByteArray := prog_1_method_45_code
def yX2_digestVoice : MethodName := ⟨RX2, "digestVoice", "(JLScorePress$Voice;)J"⟩
abbrev cX2_digestEvents : ByteArray := prog_1_method_46_code
def yX2_digestEvents : MethodName := ⟨RX2, "digestEvents", "(J)J"⟩
def RX3 : String := "ScorePressLaw$Hand"
def TX3 : u_T := fun k => match k with
  | 0 => ("ScorePressLaw$Hand", "beats", "I", false)
  | 1 => ("ScorePressLaw$Hand", "part", "I", false)
  | 2 => ("ScorePressLaw$Hand", "key", "I", false)
  | _ => ("ScorePressLaw$Hand", "voices", "[[[I", false)
def tyX3 : Nat → FieldType := fun k => match k with
  | 0 => .int
  | 1 => .int
  | 2 => .int
  | _ => .array (.array (.array .int))
abbrev wsX30 : List Cond := u_ws RX3 TX3 4
theorem nmX3 : ∀ a, a < 4 → ∀ b, b < 4 → a ≠ b → (TX3 a).2.1 ≠ (TX3 b).2.1 := by decide +kernel
theorem tyX3_ok : ∀ k, k < 4 → parseFieldDescriptor (TX3 k).2.2.1 = some (tyX3 k) := by decide +kernel
abbrev cX3_init : ByteArray := prog_5_method_1_code
def yX3_init : MethodName := ⟨RX3, "<init>", "()V"⟩
abbrev cX3_bar : ByteArray := prog_5_method_2_code
def yX3_bar : MethodName := ⟨RX3, "bar", "()I"⟩
abbrev cX3_ticks : ByteArray := prog_5_method_4_code
def yX3_ticks : MethodName := ⟨RX3, "ticks", "(II)I"⟩
abbrev cX3_more : ByteArray := prog_5_method_5_code
def yX3_more : MethodName := ⟨RX3, "more", "([[I[I)[[I"⟩
abbrev cX3_addVoice : ByteArray := prog_5_method_6_code
def yX3_addVoice : MethodName := ⟨RX3, "addVoice", "()V"⟩
abbrev cX3_end : ByteArray := prog_5_method_7_code
def yX3_end : MethodName := ⟨RX3, "end", "(I)I"⟩
abbrev cX3_add : ByteArray := prog_5_method_8_code
def yX3_add : MethodName := ⟨RX3, "add", "(IIIIIIII)I"⟩
abbrev cX3_keySign : ByteArray := prog_5_method_10_code
def yX3_keySign : MethodName := ⟨RX3, "keySign", "(I)I"⟩
def RX4 : String := "ScorePressModel"
def TX4 : u_T := fun k => match k with
  | _ => ("", "", "", false)
def tyX4 : Nat → FieldType := fun k => match k with
  | _ => .int
abbrev wsX40 : List Cond := u_ws RX4 TX4 0
theorem nmX4 : ∀ a, a < 0 → ∀ b, b < 0 → a ≠ b → (TX4 a).2.1 ≠ (TX4 b).2.1 := by decide +kernel
theorem tyX4_ok : ∀ k, k < 0 → parseFieldDescriptor (TX4 k).2.2.1 = some (tyX4 k) := by decide +kernel
def RJ11 : String := "java/lang/Character"
def TJ11 : u_T := fun k => match k with
  | _ => ("", "", "", false)
def tyJ11 : Nat → FieldType := fun k => match k with
  | _ => .int
abbrev wsJ110 : List Cond := u_ws RJ11 TJ11 0
theorem nmJ11 : ∀ a, a < 0 → ∀ b, b < 0 → a ≠ b → (TJ11 a).2.1 ≠ (TJ11 b).2.1 := by decide +kernel
theorem tyJ11_ok : ∀ k, k < 0 → parseFieldDescriptor (TJ11 k).2.2.1 = some (tyJ11 k) := by decide +kernel
abbrev cJ11_isValidCodePoint_9a6ad : ByteArray := prog_7_method_11_code
def yJ11_isValidCodePoint_9a6ad : MethodName := ⟨RJ11, "isValidCodePoint", "(I)Z"⟩
abbrev cJ11_highSurrogate_5068e : ByteArray := prog_7_method_28_code
def yJ11_highSurrogate_5068e : MethodName := ⟨RJ11, "highSurrogate", "(I)C"⟩
abbrev cJ11_lowSurrogate_5068e : ByteArray := prog_7_method_29_code
def yJ11_lowSurrogate_5068e : MethodName := ⟨RJ11, "lowSurrogate", "(I)C"⟩
def RJ9 : String := "java/lang/Math"
def TJ9 : u_T := fun k => match k with
  | _ => ("", "", "", false)
def tyJ9 : Nat → FieldType := fun k => match k with
  | _ => .int
abbrev wsJ90 : List Cond := u_ws RJ9 TJ9 0
theorem nmJ9 : ∀ a, a < 0 → ∀ b, b < 0 → a ≠ b → (TJ9 a).2.1 ≠ (TJ9 b).2.1 := by decide +kernel
theorem tyJ9_ok : ∀ k, k < 0 → parseFieldDescriptor (TJ9 k).2.2.1 = some (tyJ9 k) := by decide +kernel
abbrev cJ9_floorMod_7cf53 : ByteArray := prog_12_method_50_code
def yJ9_floorMod_7cf53 : MethodName := ⟨RJ9, "floorMod", "(II)I"⟩
abbrev cJ9_max_7cf53 : ByteArray := prog_12_method_65_code
def yJ9_max_7cf53 : MethodName := ⟨RJ9, "max", "(II)I"⟩
abbrev cJ9_min_7cf53 : ByteArray := prog_12_method_69_code
def yJ9_min_7cf53 : MethodName := ⟨RJ9, "min", "(II)I"⟩
def RJ0 : String := "java/lang/String"
def TJ0 : u_T := fun k => match k with
  | _ => ("", "", "", false)
def tyJ0 : Nat → FieldType := fun k => match k with
  | _ => .int
abbrev wsJ00 : List Cond := u_ws RJ0 TJ0 0
theorem nmJ0 : ∀ a, a < 0 → ∀ b, b < 0 → a ≠ b → (TJ0 a).2.1 ≠ (TJ0 b).2.1 := by decide +kernel
theorem tyJ0_ok : ∀ k, k < 0 → parseFieldDescriptor (TJ0 k).2.2.1 = some (tyJ0 k) := by decide +kernel
abbrev cJ0_length_8abf5 : ByteArray := prog_14_method_54_code
def yJ0_length_8abf5 : MethodName := ⟨RJ0, "length", "()I"⟩
abbrev cJ0_indexOf_0f7a4 : ByteArray := prog_14_method_79_code
def yJ0_indexOf_0f7a4 : MethodName := ⟨RJ0, "indexOf", "(I)I"⟩
abbrev cJ0_indexOf_7cf53 : ByteArray := prog_14_method_80_code
def yJ0_indexOf_7cf53 : MethodName := ⟨RJ0, "indexOf", "(II)I"⟩
abbrev cJ0_coder_7d493 : ByteArray := prog_14_method_152_code
def yJ0_coder_7d493 : MethodName := ⟨RJ0, "coder", "()B"⟩
abbrev cJ0_isLatin1_aae02 : ByteArray := prog_14_method_154_code
def yJ0_isLatin1_aae02 : MethodName := ⟨RJ0, "isLatin1", "()Z"⟩
abbrev cJ0_checkBoundsBeginEnd_23922 : ByteArray := prog_14_method_158_code
def yJ0_checkBoundsBeginEnd_23922 : MethodName := ⟨RJ0, "checkBoundsBeginEnd", "(III)V"⟩
def RJ1 : String := "java/lang/StringLatin1"
def TJ1 : u_T := fun k => match k with
  | _ => ("", "", "", false)
def tyJ1 : Nat → FieldType := fun k => match k with
  | _ => .int
abbrev wsJ10 : List Cond := u_ws RJ1 TJ1 0
theorem nmJ1 : ∀ a, a < 0 → ∀ b, b < 0 → a ≠ b → (TJ1 a).2.1 ≠ (TJ1 b).2.1 := by decide +kernel
theorem tyJ1_ok : ∀ k, k < 0 → parseFieldDescriptor (TJ1 k).2.2.1 = some (tyJ1 k) := by decide +kernel
abbrev cJ1_canEncode_9a6ad : ByteArray := prog_15_method_4_code
def yJ1_canEncode_9a6ad : MethodName := ⟨RJ1, "canEncode", "(I)Z"⟩
abbrev cJ1_indexOf_4cfef : ByteArray := prog_15_method_22_code
def yJ1_indexOf_4cfef : MethodName := ⟨RJ1, "indexOf", "([BIII)I"⟩
abbrev cJ1_indexOfChar_4cfef : ByteArray := prog_15_method_23_code
def yJ1_indexOfChar_4cfef : MethodName := ⟨RJ1, "indexOfChar", "([BIII)I"⟩
def RJ2 : String := "java/lang/StringUTF16"
def TJ2 : u_T := fun k => match k with
  | _ => ("", "", "", false)
def tyJ2 : Nat → FieldType := fun k => match k with
  | _ => .int
abbrev wsJ20 : List Cond := u_ws RJ2 TJ2 0
theorem nmJ2 : ∀ a, a < 0 → ∀ b, b < 0 → a ≠ b → (TJ2 a).2.1 ≠ (TJ2 b).2.1 := by decide +kernel
theorem tyJ2_ok : ∀ k, k < 0 → parseFieldDescriptor (TJ2 k).2.2.1 = some (tyJ2 k) := by decide +kernel
abbrev cJ2_getChar_3b067 : ByteArray := prog_16_method_5_code
def yJ2_getChar_3b067 : MethodName := ⟨RJ2, "getChar", "([BI)C"⟩
abbrev cJ2_length_9d52b : ByteArray := prog_16_method_6_code
def yJ2_length_9d52b : MethodName := ⟨RJ2, "length", "([B)I"⟩
abbrev cJ2_indexOf_4cfef : ByteArray := prog_16_method_40_code
def yJ2_indexOf_4cfef : MethodName := ⟨RJ2, "indexOf", "([BIII)I"⟩
abbrev cJ2_indexOfChar_4cfef : ByteArray := prog_16_method_47_code
def yJ2_indexOfChar_4cfef : MethodName := ⟨RJ2, "indexOfChar", "([BIII)I"⟩
abbrev cJ2_indexOfCharUnsafe_4cfef : ByteArray := prog_16_method_48_code
def yJ2_indexOfCharUnsafe_4cfef : MethodName := ⟨RJ2, "indexOfCharUnsafe", "([BIII)I"⟩
abbrev cJ2_indexOfSupplementary_4cfef : ByteArray := prog_16_method_49_code
def yJ2_indexOfSupplementary_4cfef : MethodName := ⟨RJ2, "indexOfSupplementary", "([BIII)I"⟩
abbrev cJ2_checkBoundsBeginEnd_d044e : ByteArray := prog_16_method_93_code
def yJ2_checkBoundsBeginEnd_d044e : MethodName := ⟨RJ2, "checkBoundsBeginEnd", "(II[B)V"⟩
def RJ3 : String := "jdk/internal/util/Preconditions"
def TJ3 : u_T := fun k => match k with
  | _ => ("", "", "", false)
def tyJ3 : Nat → FieldType := fun k => match k with
  | _ => .int
abbrev wsJ30 : List Cond := u_ws RJ3 TJ3 0
theorem nmJ3 : ∀ a, a < 0 → ∀ b, b < 0 → a ≠ b → (TJ3 a).2.1 ≠ (TJ3 b).2.1 := by decide +kernel
theorem tyJ3_ok : ∀ k, k < 0 → parseFieldDescriptor (TJ3 k).2.2.1 = some (tyJ3 k) := by decide +kernel
abbrev cJ3_checkFromToIndex_8c36e : ByteArray := prog_18_method_12_code
def yJ3_checkFromToIndex_8c36e : MethodName := ⟨RJ3, "checkFromToIndex", "(IIILjava/util/function/BiFunction;)I"⟩
def RL : String := "ScorePressLaw"
abbrev cL_below : ByteArray := method_2_code
def yL_below : MethodName := ⟨RL, "below", "(II)I"⟩
abbrev cL_cell : ByteArray := method_3_code
def yL_cell : MethodName := ⟨RL, "cell", "([II)I"⟩
abbrev cL_build : ByteArray := method_4_code
def yL_build : MethodName := ⟨RL, "build", "(LScorePress;[II)LScorePressLaw$Hand;"⟩
abbrev cL_law : ByteArray := code
def yL_law : MethodName := ⟨RL, "law", "([I)Z"⟩
abbrev vwCl : List vw_C := [(RX0, TX0, 2), (RX1, TX1, 12), (RX2, TX2, 8), (RX3, TX3, 4)]
