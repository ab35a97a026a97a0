/-! ===== BEGIN printed: names, fields, word lists, decode rows ===== -/
def RX0 : String := "MinsterClock$Bells"
def TX0 : u_T := fun k => match k with
  | 0 => ("MinsterClock$Bells", "drums", "Ljava/util/ArrayList;", true)
  | 1 => ("MinsterClock$Bells", "tunes", "[LMinsterClock$Drum;", true)
  | 2 => ("MinsterClock$Bells", "strokesOfBells", "[I", true)
  | 3 => ("MinsterClock$Bells", "silentFrom", "I", false)
  | 4 => ("MinsterClock$Bells", "silentTo", "I", false)
  | _ => ("MinsterClock$Bells", "areQuartersOn", "Z", false)
def tyX0 : Nat → FieldType := fun k => match k with
  | 0 => .object "java/util/ArrayList"
  | 1 => .array (.object "MinsterClock$Drum")
  | 2 => .array .int
  | 3 => .int
  | 4 => .int
  | _ => .boolean
theorem nmX0 : ∀ a, a < 6 → ∀ b, b < 6 → a ≠ b → (TX0 a).2.1 ≠ (TX0 b).2.1 := by decide +kernel
theorem tyX0_ok : ∀ k, k < 6 → parseFieldDescriptor (TX0 k).2.2.1 = some (tyX0 k) := by decide +kernel
abbrev cX0_init : ByteArray := prog_2_method_1_code
def yX0_init : MethodName := ⟨RX0, "<init>", "()V"⟩
abbrev cX0_drumCount : ByteArray := prog_2_method_2_code
def yX0_drumCount : MethodName := ⟨RX0, "drumCount", "()I"⟩
abbrev cX0_makeDrum : ByteArray := prog_2_method_3_code
def yX0_makeDrum : MethodName := ⟨RX0, "makeDrum", "()I"⟩
abbrev cX0_drumOrNull : ByteArray := prog_2_method_4_code
def yX0_drumOrNull : MethodName := ⟨RX0, "drumOrNull", "(I)LMinsterClock$Drum;"⟩
abbrev cX0_changeTune : ByteArray := prog_2_method_5_code
def yX0_changeTune : MethodName := ⟨RX0, "changeTune", "(ILMinsterClock$Drum;)LMinsterClock$Drum;"⟩
abbrev cX0_changeSilence : ByteArray := prog_2_method_6_code
def yX0_changeSilence : MethodName := ⟨RX0, "changeSilence", "(II)I"⟩
abbrev cX0_changeQuarters : ByteArray := prog_2_method_7_code
def yX0_changeQuarters : MethodName := ⟨RX0, "changeQuarters", "(Z)Z"⟩
abbrev cX0_strokesOfBell : ByteArray := prog_2_method_8_code
def yX0_strokesOfBell : MethodName := ⟨RX0, "strokesOfBell", "(I)I"⟩
abbrev cX0_strokesOfAllBells : ByteArray := prog_2_method_9_code
def yX0_strokesOfAllBells : MethodName := ⟨RX0, "strokesOfAllBells", "()J"⟩
abbrev cX0_strokesDue : ByteArray := prog_2_method_10_code
def yX0_strokesDue : MethodName := ⟨RX0, "strokesDue", "(I)I"⟩
abbrev cX0_ring : ByteArray := prog_2_method_11_code
def yX0_ring : MethodName := ⟨RX0, "ring", "(I)V"⟩
abbrev cX0_tuneOrNull : ByteArray := prog_2_method_12_code
def yX0_tuneOrNull : MethodName := ⟨RX0, "tuneOrNull", "(I)LMinsterClock$Drum;"⟩
abbrev cX0_isSilent : ByteArray := prog_2_method_13_code
def yX0_isSilent : MethodName := ⟨RX0, "isSilent", "(I)Z"⟩
abbrev cX0_strokesOfHour : ByteArray := prog_2_method_14_code
def yX0_strokesOfHour : MethodName := ⟨RX0, "strokesOfHour", "(I)I"⟩
abbrev cX0_quarterOf : ByteArray := prog_2_method_15_code
def yX0_quarterOf : MethodName := ⟨RX0, "quarterOf", "(I)I"⟩
def RX1 : String := "MinsterClock$Dates"
def TX1 : u_T := fun k => match k with
  | _ => ("", "", "", false)
def tyX1 : Nat → FieldType := fun k => match k with
  | _ => .int
theorem nmX1 : ∀ a, a < 0 → ∀ b, b < 0 → a ≠ b → (TX1 a).2.1 ≠ (TX1 b).2.1 := by decide +kernel
theorem tyX1_ok : ∀ k, k < 0 → parseFieldDescriptor (TX1 k).2.2.1 = some (tyX1 k) := by decide +kernel
abbrev cX1_hasLeapDay : ByteArray := prog_3_method_2_code
def yX1_hasLeapDay : MethodName := ⟨RX1, "hasLeapDay", "(I)Z"⟩
abbrev cX1_isDate : ByteArray := prog_3_method_3_code
def yX1_isDate : MethodName := ⟨RX1, "isDate", "(III)Z"⟩
abbrev cX1_numberByYears : ByteArray := prog_3_method_4_code
def yX1_numberByYears : MethodName := ⟨RX1, "numberByYears", "(III)J"⟩
abbrev cX1_numberOneByOne : ByteArray := prog_3_method_5_code
def yX1_numberOneByOne : MethodName := ⟨RX1, "numberOneByOne", "(III)J"⟩
abbrev cX1_weekdayOf : ByteArray := prog_3_method_6_code
def yX1_weekdayOf : MethodName := ⟨RX1, "weekdayOf", "(J)I"⟩
abbrev cX1_yearOf : ByteArray := prog_3_method_7_code
def yX1_yearOf : MethodName := ⟨RX1, "yearOf", "(J)I"⟩
abbrev cX1_monthOf : ByteArray := prog_3_method_8_code
def yX1_monthOf : MethodName := ⟨RX1, "monthOf", "(J)I"⟩
abbrev cX1_dayOf : ByteArray := prog_3_method_9_code
def yX1_dayOf : MethodName := ⟨RX1, "dayOf", "(J)I"⟩
abbrev cX1_daysOfMonth : ByteArray := prog_3_method_10_code
def yX1_daysOfMonth : MethodName := ⟨RX1, "daysOfMonth", "(II)I"⟩
abbrev cX1_daysBeforeMonth : ByteArray := prog_3_method_11_code
def yX1_daysBeforeMonth : MethodName := ⟨RX1, "daysBeforeMonth", "(II)I"⟩
abbrev cX1_daysBeforeYear : ByteArray := prog_3_method_12_code
def yX1_daysBeforeYear : MethodName := ⟨RX1, "daysBeforeYear", "(I)J"⟩
def RX2 : String := "MinsterClock$Drum"
def TX2 : u_T := fun k => match k with
  | 0 => ("MinsterClock$Drum", "number", "I", true)
  | 1 => ("MinsterClock$Drum", "bellsOfSteps", "[I", true)
  | _ => ("MinsterClock$Drum", "pins", "I", false)
def tyX2 : Nat → FieldType := fun k => match k with
  | 0 => .int
  | 1 => .array .int
  | _ => .int
theorem nmX2 : ∀ a, a < 3 → ∀ b, b < 3 → a ≠ b → (TX2 a).2.1 ≠ (TX2 b).2.1 := by decide +kernel
theorem tyX2_ok : ∀ k, k < 3 → parseFieldDescriptor (TX2 k).2.2.1 = some (tyX2 k) := by decide +kernel
abbrev cX2_init : ByteArray := prog_4_method_1_code
def yX2_init : MethodName := ⟨RX2, "<init>", "(I)V"⟩
abbrev cX2_ownNumber : ByteArray := prog_4_method_2_code
def yX2_ownNumber : MethodName := ⟨RX2, "ownNumber", "()I"⟩
abbrev cX2_pinCount : ByteArray := prog_4_method_3_code
def yX2_pinCount : MethodName := ⟨RX2, "pinCount", "()I"⟩
abbrev cX2_changePin : ByteArray := prog_4_method_4_code
def yX2_changePin : MethodName := ⟨RX2, "changePin", "(IIZ)Z"⟩
abbrev cX2_bellOfPin : ByteArray := prog_4_method_5_code
def yX2_bellOfPin : MethodName := ⟨RX2, "bellOfPin", "(I)I"⟩
abbrev cX2_play : ByteArray := prog_4_method_6_code
def yX2_play : MethodName := ⟨RX2, "play", "([I)V"⟩
abbrev cX2_hasPin : ByteArray := prog_4_method_7_code
def yX2_hasPin : MethodName := ⟨RX2, "hasPin", "(II)Z"⟩
def RX3 : String := "MinsterClock$Hands"
def TX3 : u_T := fun k => match k with
  | 0 => ("MinsterClock$Hands", "shown", "I", false)
  | 1 => ("MinsterClock$Hands", "owed", "I", false)
  | 2 => ("MinsterClock$Hands", "bound", "I", false)
  | _ => ("MinsterClock$Hands", "reached", "I", false)
def tyX3 : Nat → FieldType := fun k => match k with
  | 0 => .int
  | 1 => .int
  | 2 => .int
  | _ => .int
theorem nmX3 : ∀ a, a < 4 → ∀ b, b < 4 → a ≠ b → (TX3 a).2.1 ≠ (TX3 b).2.1 := by decide +kernel
theorem tyX3_ok : ∀ k, k < 4 → parseFieldDescriptor (TX3 k).2.2.1 = some (tyX3 k) := by decide +kernel
abbrev cX3_init : ByteArray := prog_5_method_1_code
def yX3_init : MethodName := ⟨RX3, "<init>", "()V"⟩
abbrev cX3_copyFrom : ByteArray := prog_5_method_2_code
def yX3_copyFrom : MethodName := ⟨RX3, "copyFrom", "(LMinsterClock$Hands;)V"⟩
abbrev cX3_seconds : ByteArray := prog_5_method_3_code
def yX3_seconds : MethodName := ⟨RX3, "seconds", "()I"⟩
abbrev cX3_owedSeconds : ByteArray := prog_5_method_4_code
def yX3_owedSeconds : MethodName := ⟨RX3, "owedSeconds", "()I"⟩
abbrev cX3_greatestMark : ByteArray := prog_5_method_5_code
def yX3_greatestMark : MethodName := ⟨RX3, "greatestMark", "()I"⟩
abbrev cX3_addOwed : ByteArray := prog_5_method_6_code
def yX3_addOwed : MethodName := ⟨RX3, "addOwed", "(I)I"⟩
abbrev cX3_changeBound : ByteArray := prog_5_method_7_code
def yX3_changeBound : MethodName := ⟨RX3, "changeBound", "(I)I"⟩
abbrev cX3_secondsToFullMinute : ByteArray := prog_5_method_8_code
def yX3_secondsToFullMinute : MethodName := ⟨RX3, "secondsToFullMinute", "()I"⟩
abbrev cX3_addSeconds : ByteArray := prog_5_method_9_code
def yX3_addSeconds : MethodName := ⟨RX3, "addSeconds", "(I)V"⟩
abbrev cX3_isFullMinute : ByteArray := prog_5_method_10_code
def yX3_isFullMinute : MethodName := ⟨RX3, "isFullMinute", "()Z"⟩
abbrev cX3_reachMark : ByteArray := prog_5_method_11_code
def yX3_reachMark : MethodName := ⟨RX3, "reachMark", "()Z"⟩
abbrev cX3_correct : ByteArray := prog_5_method_12_code
def yX3_correct : MethodName := ⟨RX3, "correct", "()V"⟩
def RX4 : String := "MinsterClock$Pace"
def TX4 : u_T := fun k => match k with
  | 0 => ("MinsterClock$Pace", "numerator", "I", false)
  | 1 => ("MinsterClock$Pace", "denominator", "I", false)
  | _ => ("MinsterClock$Pace", "rest", "I", false)
def tyX4 : Nat → FieldType := fun k => match k with
  | 0 => .int
  | 1 => .int
  | _ => .int
theorem nmX4 : ∀ a, a < 3 → ∀ b, b < 3 → a ≠ b → (TX4 a).2.1 ≠ (TX4 b).2.1 := by decide +kernel
theorem tyX4_ok : ∀ k, k < 3 → parseFieldDescriptor (TX4 k).2.2.1 = some (tyX4 k) := by decide +kernel
abbrev cX4_init : ByteArray := prog_6_method_1_code
def yX4_init : MethodName := ⟨RX4, "<init>", "()V"⟩
abbrev cX4_copyFrom : ByteArray := prog_6_method_2_code
def yX4_copyFrom : MethodName := ⟨RX4, "copyFrom", "(LMinsterClock$Pace;)V"⟩
abbrev cX4_change : ByteArray := prog_6_method_3_code
def yX4_change : MethodName := ⟨RX4, "change", "(II)I"⟩
abbrev cX4_secondsOf : ByteArray := prog_6_method_4_code
def yX4_secondsOf : MethodName := ⟨RX4, "secondsOf", "(I)I"⟩
abbrev cX4_letPass : ByteArray := prog_6_method_5_code
def yX4_letPass : MethodName := ⟨RX4, "letPass", "(I)I"⟩
def RX5 : String := "MinsterClock$StrikeLog"
def TX5 : u_T := fun k => match k with
  | 0 => ("MinsterClock$StrikeLog", "marks", "[I", true)
  | 1 => ("MinsterClock$StrikeLog", "strokesOfMarks", "[I", true)
  | 2 => ("MinsterClock$StrikeLog", "struck", "I", false)
  | _ => ("MinsterClock$StrikeLog", "allStrokes", "J", false)
def tyX5 : Nat → FieldType := fun k => match k with
  | 0 => .array .int
  | 1 => .array .int
  | 2 => .int
  | _ => .long
theorem nmX5 : ∀ a, a < 4 → ∀ b, b < 4 → a ≠ b → (TX5 a).2.1 ≠ (TX5 b).2.1 := by decide +kernel
theorem tyX5_ok : ∀ k, k < 4 → parseFieldDescriptor (TX5 k).2.2.1 = some (tyX5 k) := by decide +kernel
abbrev cX5_init : ByteArray := prog_7_method_1_code
def yX5_init : MethodName := ⟨RX5, "<init>", "()V"⟩
abbrev cX5_keep : ByteArray := prog_7_method_2_code
def yX5_keep : MethodName := ⟨RX5, "keep", "(II)V"⟩
abbrev cX5_struckMarks : ByteArray := prog_7_method_3_code
def yX5_struckMarks : MethodName := ⟨RX5, "struckMarks", "()I"⟩
abbrev cX5_keptMarks : ByteArray := prog_7_method_4_code
def yX5_keptMarks : MethodName := ⟨RX5, "keptMarks", "()I"⟩
abbrev cX5_strokesOfAllStrikes : ByteArray := prog_7_method_5_code
def yX5_strokesOfAllStrikes : MethodName := ⟨RX5, "strokesOfAllStrikes", "()J"⟩
abbrev cX5_markOfRank : ByteArray := prog_7_method_6_code
def yX5_markOfRank : MethodName := ⟨RX5, "markOfRank", "(I)I"⟩
abbrev cX5_strokesOfRank : ByteArray := prog_7_method_7_code
def yX5_strokesOfRank : MethodName := ⟨RX5, "strokesOfRank", "(I)I"⟩
abbrev cX5_rankOfMark : ByteArray := prog_7_method_8_code
def yX5_rankOfMark : MethodName := ⟨RX5, "rankOfMark", "(I)I"⟩
abbrev cX5_isFalling : ByteArray := prog_7_method_9_code
def yX5_isFalling : MethodName := ⟨RX5, "isFalling", "()Z"⟩
abbrev cX5_slotOf : ByteArray := prog_7_method_10_code
def yX5_slotOf : MethodName := ⟨RX5, "slotOf", "(I)I"⟩
def RX6 : String := "MinsterClock$Train"
def TX6 : u_T := fun k => match k with
  | _ => ("MinsterClock$Train", "wheels", "Ljava/util/ArrayList;", true)
def tyX6 : Nat → FieldType := fun k => match k with
  | _ => .object "java/util/ArrayList"
theorem nmX6 : ∀ a, a < 1 → ∀ b, b < 1 → a ≠ b → (TX6 a).2.1 ≠ (TX6 b).2.1 := by decide +kernel
theorem tyX6_ok : ∀ k, k < 1 → parseFieldDescriptor (TX6 k).2.2.1 = some (tyX6 k) := by decide +kernel
abbrev cX6_init : ByteArray := prog_8_method_1_code
def yX6_init : MethodName := ⟨RX6, "<init>", "()V"⟩
abbrev cX6_size : ByteArray := prog_8_method_2_code
def yX6_size : MethodName := ⟨RX6, "size", "()I"⟩
abbrev cX6_add : ByteArray := prog_8_method_3_code
def yX6_add : MethodName := ⟨RX6, "add", "(IIJ)I"⟩
abbrev cX6_movedByRatios : ByteArray := prog_8_method_4_code
def yX6_movedByRatios : MethodName := ⟨RX6, "movedByRatios", "(IJ)J"⟩
abbrev cX6_turnsByRatios : ByteArray := prog_8_method_5_code
def yX6_turnsByRatios : MethodName := ⟨RX6, "turnsByRatios", "(IJ)J"⟩
abbrev cX6_beatsOfTurn : ByteArray := prog_8_method_6_code
def yX6_beatsOfTurn : MethodName := ⟨RX6, "beatsOfTurn", "(I)D"⟩
abbrev cX6_movedByWalking : ByteArray := prog_8_method_7_code
def yX6_movedByWalking : MethodName := ⟨RX6, "movedByWalking", "(IJI)J"⟩
abbrev cX6_startWalk : ByteArray := prog_8_method_8_code
def yX6_startWalk : MethodName := ⟨RX6, "startWalk", "(IJ)J"⟩
abbrev cX6_walkOneBeat : ByteArray := prog_8_method_9_code
def yX6_walkOneBeat : MethodName := ⟨RX6, "walkOneBeat", "(I)J"⟩
abbrev cX6_teethOf : ByteArray := prog_8_method_10_code
def yX6_teethOf : MethodName := ⟨RX6, "teethOf", "(I)I"⟩
def RX7 : String := "MinsterClock$Wheel"
def TX7 : u_T := fun k => match k with
  | 0 => ("MinsterClock$Wheel", "teeth", "I", true)
  | 1 => ("MinsterClock$Wheel", "leaves", "I", true)
  | 2 => ("MinsterClock$Wheel", "teethBefore", "I", true)
  | 3 => ("MinsterClock$Wheel", "movedBeforeAtStart", "J", true)
  | _ => ("MinsterClock$Wheel", "walkRest", "J", false)
def tyX7 : Nat → FieldType := fun k => match k with
  | 0 => .int
  | 1 => .int
  | 2 => .int
  | 3 => .long
  | _ => .long
theorem nmX7 : ∀ a, a < 5 → ∀ b, b < 5 → a ≠ b → (TX7 a).2.1 ≠ (TX7 b).2.1 := by decide +kernel
theorem tyX7_ok : ∀ k, k < 5 → parseFieldDescriptor (TX7 k).2.2.1 = some (tyX7 k) := by decide +kernel
abbrev cX7_init : ByteArray := prog_9_method_1_code
def yX7_init : MethodName := ⟨RX7, "<init>", "(IIIJ)V"⟩
abbrev cX7_toothCount : ByteArray := prog_9_method_2_code
def yX7_toothCount : MethodName := ⟨RX7, "toothCount", "()I"⟩
abbrev cX7_leafCount : ByteArray := prog_9_method_3_code
def yX7_leafCount : MethodName := ⟨RX7, "leafCount", "()I"⟩
abbrev cX7_movedWhen : ByteArray := prog_9_method_4_code
def yX7_movedWhen : MethodName := ⟨RX7, "movedWhen", "(J)J"⟩
abbrev cX7_startWalk : ByteArray := prog_9_method_5_code
def yX7_startWalk : MethodName := ⟨RX7, "startWalk", "(J)V"⟩
abbrev cX7_walk : ByteArray := prog_9_method_6_code
def yX7_walk : MethodName := ⟨RX7, "walk", "(J)J"⟩
def RX8 : String := "MinsterClock"
def TX8 : u_T := fun k => match k with
  | 0 => ("MinsterClock", "train", "LMinsterClock$Train;", true)
  | 1 => ("MinsterClock", "pace", "LMinsterClock$Pace;", true)
  | 2 => ("MinsterClock", "hands", "LMinsterClock$Hands;", true)
  | 3 => ("MinsterClock", "bells", "LMinsterClock$Bells;", true)
  | 4 => ("MinsterClock", "log", "LMinsterClock$StrikeLog;", true)
  | 5 => ("MinsterClock", "trialPace", "LMinsterClock$Pace;", true)
  | 6 => ("MinsterClock", "trialHands", "LMinsterClock$Hands;", true)
  | 7 => ("MinsterClock", "beatsPassed", "J", false)
  | _ => ("MinsterClock", "dateOfShownZero", "J", false)
def tyX8 : Nat → FieldType := fun k => match k with
  | 0 => .object "MinsterClock$Train"
  | 1 => .object "MinsterClock$Pace"
  | 2 => .object "MinsterClock$Hands"
  | 3 => .object "MinsterClock$Bells"
  | 4 => .object "MinsterClock$StrikeLog"
  | 5 => .object "MinsterClock$Pace"
  | 6 => .object "MinsterClock$Hands"
  | 7 => .long
  | _ => .long
theorem nmX8 : ∀ a, a < 9 → ∀ b, b < 9 → a ≠ b → (TX8 a).2.1 ≠ (TX8 b).2.1 := by decide +kernel
theorem tyX8_ok : ∀ k, k < 9 → parseFieldDescriptor (TX8 k).2.2.1 = some (tyX8 k) := by decide +kernel
abbrev cX8_init : ByteArray := prog_1_method_1_code
def yX8_init : MethodName := ⟨RX8, "<init>", "()V"⟩
abbrev cX8_addWheel : ByteArray := prog_1_method_2_code
def yX8_addWheel : MethodName := ⟨RX8, "addWheel", "(II)I"⟩
abbrev cX8_wheels : ByteArray := prog_1_method_3_code
def yX8_wheels : MethodName := ⟨RX8, "wheels", "()I"⟩
abbrev cX8_moved : ByteArray := prog_1_method_4_code
def yX8_moved : MethodName := ⟨RX8, "moved", "(I)I"⟩
abbrev cX8_wholeTurns : ByteArray := prog_1_method_5_code
def yX8_wholeTurns : MethodName := ⟨RX8, "wholeTurns", "(I)I"⟩
abbrev cX8_beatsForTurn : ByteArray := prog_1_method_6_code
def yX8_beatsForTurn : MethodName := ⟨RX8, "beatsForTurn", "(I)D"⟩
abbrev cX8_movedAhead : ByteArray := prog_1_method_7_code
def yX8_movedAhead : MethodName := ⟨RX8, "movedAhead", "(II)I"⟩
abbrev cX8_movedByBeats : ByteArray := prog_1_method_8_code
def yX8_movedByBeats : MethodName := ⟨RX8, "movedByBeats", "(II)I"⟩
abbrev cX8_setBeat : ByteArray := prog_1_method_9_code
def yX8_setBeat : MethodName := ⟨RX8, "setBeat", "(II)I"⟩
abbrev cX8_pass : ByteArray := prog_1_method_10_code
def yX8_pass : MethodName := ⟨RX8, "pass", "(I)I"⟩
abbrev cX8_beats : ByteArray := prog_1_method_11_code
def yX8_beats : MethodName := ⟨RX8, "beats", "()J"⟩
abbrev cX8_shown : ByteArray := prog_1_method_12_code
def yX8_shown : MethodName := ⟨RX8, "shown", "()I"⟩
abbrev cX8_hour : ByteArray := prog_1_method_13_code
def yX8_hour : MethodName := ⟨RX8, "hour", "()I"⟩
abbrev cX8_minute : ByteArray := prog_1_method_14_code
def yX8_minute : MethodName := ⟨RX8, "minute", "()I"⟩
abbrev cX8_owe : ByteArray := prog_1_method_15_code
def yX8_owe : MethodName := ⟨RX8, "owe", "(I)I"⟩
abbrev cX8_setBound : ByteArray := prog_1_method_16_code
def yX8_setBound : MethodName := ⟨RX8, "setBound", "(I)I"⟩
abbrev cX8_setDate : ByteArray := prog_1_method_17_code
def yX8_setDate : MethodName := ⟨RX8, "setDate", "(III)I"⟩
abbrev cX8_year : ByteArray := prog_1_method_18_code
def yX8_year : MethodName := ⟨RX8, "year", "()I"⟩
abbrev cX8_month : ByteArray := prog_1_method_19_code
def yX8_month : MethodName := ⟨RX8, "month", "()I"⟩
abbrev cX8_day : ByteArray := prog_1_method_20_code
def yX8_day : MethodName := ⟨RX8, "day", "()I"⟩
abbrev cX8_weekday : ByteArray := prog_1_method_21_code
def yX8_weekday : MethodName := ⟨RX8, "weekday", "()I"⟩
abbrev cX8_isLeap : ByteArray := prog_1_method_22_code
def yX8_isLeap : MethodName := ⟨RX8, "isLeap", "(I)Z"⟩
abbrev cX8_numberOf : ByteArray := prog_1_method_23_code
def yX8_numberOf : MethodName := ⟨RX8, "numberOf", "(III)J"⟩
abbrev cX8_numberByCounting : ByteArray := prog_1_method_24_code
def yX8_numberByCounting : MethodName := ⟨RX8, "numberByCounting", "(III)J"⟩
abbrev cX8_setSilence : ByteArray := prog_1_method_25_code
def yX8_setSilence : MethodName := ⟨RX8, "setSilence", "(II)I"⟩
abbrev cX8_setQuarters : ByteArray := prog_1_method_26_code
def yX8_setQuarters : MethodName := ⟨RX8, "setQuarters", "(Z)Z"⟩
abbrev cX8_addDrum : ByteArray := prog_1_method_27_code
def yX8_addDrum : MethodName := ⟨RX8, "addDrum", "()I"⟩
abbrev cX8_setPin : ByteArray := prog_1_method_28_code
def yX8_setPin : MethodName := ⟨RX8, "setPin", "(IIIZ)Z"⟩
abbrev cX8_pins : ByteArray := prog_1_method_29_code
def yX8_pins : MethodName := ⟨RX8, "pins", "(I)I"⟩
abbrev cX8_bellAt : ByteArray := prog_1_method_30_code
def yX8_bellAt : MethodName := ⟨RX8, "bellAt", "(II)I"⟩
abbrev cX8_setTune : ByteArray := prog_1_method_31_code
def yX8_setTune : MethodName := ⟨RX8, "setTune", "(II)I"⟩
abbrev cX8_strokes : ByteArray := prog_1_method_32_code
def yX8_strokes : MethodName := ⟨RX8, "strokes", "(I)I"⟩
abbrev cX8_strikes : ByteArray := prog_1_method_33_code
def yX8_strikes : MethodName := ⟨RX8, "strikes", "()I"⟩
abbrev cX8_markAt : ByteArray := prog_1_method_34_code
def yX8_markAt : MethodName := ⟨RX8, "markAt", "(I)I"⟩
abbrev cX8_strokesAt : ByteArray := prog_1_method_35_code
def yX8_strokesAt : MethodName := ⟨RX8, "strokesAt", "(I)I"⟩
abbrev cX8_strokesAhead : ByteArray := prog_1_method_36_code
def yX8_strokesAhead : MethodName := ⟨RX8, "strokesAhead", "(I)I"⟩
abbrev cX8_strokesByBeats : ByteArray := prog_1_method_37_code
def yX8_strokesByBeats : MethodName := ⟨RX8, "strokesByBeats", "(I)I"⟩
abbrev cX8_struckShare : ByteArray := prog_1_method_38_code
def yX8_struckShare : MethodName := ⟨RX8, "struckShare", "()F"⟩
abbrev cX8_isOnce : ByteArray := prog_1_method_39_code
def yX8_isOnce : MethodName := ⟨RX8, "isOnce", "()Z"⟩
abbrev cX8_isWithin : ByteArray := prog_1_method_40_code
def yX8_isWithin : MethodName := ⟨RX8, "isWithin", "(III)Z"⟩
abbrev cX8_isHour : ByteArray := prog_1_method_41_code
def yX8_isHour : MethodName := ⟨RX8, "isHour", "(I)Z"⟩
abbrev cX8_hourOf : ByteArray := prog_1_method_42_code
def yX8_hourOf : MethodName := ⟨RX8, "hourOf", "(I)I"⟩
abbrev cX8_wholePart : ByteArray := prog_1_method_43_code
def yX8_wholePart : MethodName := ⟨RX8, "wholePart", "(JJ)J"⟩
abbrev cX8_requireWheel : ByteArray := prog_1_method_44_code
def yX8_requireWheel : MethodName := ⟨RX8, "requireWheel", "(I)V"⟩
abbrev cX8_requireBeats : ByteArray := prog_1_method_45_code
def yX8_requireBeats : MethodName := ⟨RX8, "requireBeats", "(I)V"⟩
abbrev cX8_requireDate : ByteArray := prog_1_method_46_code
def yX8_requireDate : MethodName := ⟨RX8, "requireDate", "(III)V"⟩
abbrev cX8_requireDrum : ByteArray := prog_1_method_47_code
def yX8_requireDrum : MethodName := ⟨RX8, "requireDrum", "(I)LMinsterClock$Drum;"⟩
abbrev cX8_wholeDaysShown : ByteArray := prog_1_method_48_code
def yX8_wholeDaysShown : MethodName := ⟨RX8, "wholeDaysShown", "()I"⟩
abbrev cX8_dateShown : ByteArray := prog_1_method_49_code
def yX8_dateShown : MethodName := ⟨RX8, "dateShown", "()J"⟩
abbrev cX8_countByMinutes : ByteArray := prog_1_method_50_code
def yX8_countByMinutes : MethodName := ⟨RX8, "countByMinutes", "(I)I"⟩
abbrev cX8_countBySeconds : ByteArray := prog_1_method_51_code
def yX8_countBySeconds : MethodName := ⟨RX8, "countBySeconds", "(I)I"⟩
abbrev cX8_goByMinutes : ByteArray := prog_1_method_52_code
def yX8_goByMinutes : MethodName := ⟨RX8, "goByMinutes", "(LMinsterClock$Hands;IZ)I"⟩
abbrev cX8_comeToFullMinute : ByteArray := prog_1_method_53_code
def yX8_comeToFullMinute : MethodName := ⟨RX8, "comeToFullMinute", "(LMinsterClock$Hands;Z)I"⟩
abbrev cX8_strike : ByteArray := prog_1_method_54_code
def yX8_strike : MethodName := ⟨RX8, "strike", "(LMinsterClock$Hands;)I"⟩
def RX9 : String := "MinsterClockLaw$Draw"
def TX9 : u_T := fun k => match k with
  | _ => ("MinsterClockLaw$Draw", "state", "I", false)
def tyX9 : Nat → FieldType := fun k => match k with
  | _ => .int
theorem nmX9 : ∀ a, a < 1 → ∀ b, b < 1 → a ≠ b → (TX9 a).2.1 ≠ (TX9 b).2.1 := by decide +kernel
theorem tyX9_ok : ∀ k, k < 1 → parseFieldDescriptor (TX9 k).2.2.1 = some (tyX9 k) := by decide +kernel
abbrev cX9_init : ByteArray := prog_11_method_1_code
def yX9_init : MethodName := ⟨RX9, "<init>", "(I)V"⟩
abbrev cX9_next : ByteArray := prog_11_method_2_code
def yX9_next : MethodName := ⟨RX9, "next", "(I)I"⟩
def RX10 : String := "MinsterClockModel"
def TX10 : u_T := fun k => match k with
  | _ => ("", "", "", false)
def tyX10 : Nat → FieldType := fun k => match k with
  | _ => .int
theorem nmX10 : ∀ a, a < 0 → ∀ b, b < 0 → a ≠ b → (TX10 a).2.1 ≠ (TX10 b).2.1 := by decide +kernel
theorem tyX10_ok : ∀ k, k < 0 → parseFieldDescriptor (TX10 k).2.2.1 = some (tyX10 k) := by decide +kernel
def RJx145de : String := "java/io/Serializable"
def TJx145de : u_T := fun k => match k with
  | _ => ("", "", "", false)
def tyJx145de : Nat → FieldType := fun k => match k with
  | _ => .int
theorem nmJx145de : ∀ a, a < 0 → ∀ b, b < 0 → a ≠ b → (TJx145de a).2.1 ≠ (TJx145de b).2.1 := by decide +kernel
theorem tyJx145de_ok : ∀ k, k < 0 → parseFieldDescriptor (TJx145de k).2.2.1 = some (tyJx145de k) := by decide +kernel
def RJ5 : String := "java/lang/AbstractStringBuilder"
def TJ5 : u_T := fun k => match k with
  | _ => ("", "", "", false)
def tyJ5 : Nat → FieldType := fun k => match k with
  | _ => .int
theorem nmJ5 : ∀ a, a < 0 → ∀ b, b < 0 → a ≠ b → (TJ5 a).2.1 ≠ (TJ5 b).2.1 := by decide +kernel
theorem tyJ5_ok : ∀ k, k < 0 → parseFieldDescriptor (TJ5 k).2.2.1 = some (tyJ5 k) := by decide +kernel
abbrev cJ5_init_d00df : ByteArray := prog_14_method_2_code
def yJ5_init_d00df : MethodName := ⟨RJ5, "<init>", "(I)V"⟩
abbrev cJ5_length_8abf5 : ByteArray := prog_14_method_6_code
def yJ5_length_8abf5 : MethodName := ⟨RJ5, "length", "()I"⟩
abbrev cJ5_ensureCapacityInternal_d00df : ByteArray := prog_14_method_9_code
def yJ5_ensureCapacityInternal_d00df : MethodName := ⟨RJ5, "ensureCapacityInternal", "(I)V"⟩
abbrev cJ5_newCapacity_0f7a4 : ByteArray := prog_14_method_10_code
def yJ5_newCapacity_0f7a4 : MethodName := ⟨RJ5, "newCapacity", "(I)I"⟩
abbrev cJ5_inflate_da8c8 : ByteArray := prog_14_method_11_code
def yJ5_inflate_da8c8 : MethodName := ⟨RJ5, "inflate", "()V"⟩
abbrev cJ5_charAt_5068e : ByteArray := prog_14_method_14_code
def yJ5_charAt_5068e : MethodName := ⟨RJ5, "charAt", "(I)C"⟩
abbrev cJ5_append_cf1ce : ByteArray := prog_14_method_22_code
def yJ5_append_cf1ce : MethodName := ⟨RJ5, "append", "(Ljava/lang/String;)Ljava/lang/AbstractStringBuilder;"⟩
abbrev cJ5_append_2ceeb : ByteArray := prog_14_method_24_code
def yJ5_append_2ceeb : MethodName := ⟨RJ5, "append", "(Ljava/lang/AbstractStringBuilder;)Ljava/lang/AbstractStringBuilder;"⟩
abbrev cJ5_append_8f9a3 : ByteArray := prog_14_method_25_code
def yJ5_append_8f9a3 : MethodName := ⟨RJ5, "append", "(Ljava/lang/CharSequence;)Ljava/lang/AbstractStringBuilder;"⟩
abbrev cJ5_appendNull_278bc : ByteArray := prog_14_method_26_code
def yJ5_appendNull_278bc : MethodName := ⟨RJ5, "appendNull", "()Ljava/lang/AbstractStringBuilder;"⟩
abbrev cJ5_append_e1f22 : ByteArray := prog_14_method_27_code
def yJ5_append_e1f22 : MethodName := ⟨RJ5, "append", "(Ljava/lang/CharSequence;II)Ljava/lang/AbstractStringBuilder;"⟩
abbrev cJ5_append_a1634 : ByteArray := prog_14_method_28_code
def yJ5_append_a1634 : MethodName := ⟨RJ5, "append", "([C)Ljava/lang/AbstractStringBuilder;"⟩
abbrev cJ5_append_3fe6f : ByteArray := prog_14_method_31_code
def yJ5_append_3fe6f : MethodName := ⟨RJ5, "append", "(C)Ljava/lang/AbstractStringBuilder;"⟩
abbrev cJ5_append_c97b9 : ByteArray := prog_14_method_32_code
def yJ5_append_c97b9 : MethodName := ⟨RJ5, "append", "(I)Ljava/lang/AbstractStringBuilder;"⟩
abbrev cJ5_append_66267 : ByteArray := prog_14_method_33_code
def yJ5_append_66267 : MethodName := ⟨RJ5, "append", "(J)Ljava/lang/AbstractStringBuilder;"⟩
abbrev cJ5_append_b089e : ByteArray := prog_14_method_34_code
def yJ5_append_b089e : MethodName := ⟨RJ5, "append", "(F)Ljava/lang/AbstractStringBuilder;"⟩
abbrev cJ5_getValue_6d5f1 : ByteArray := prog_14_method_64_code
def yJ5_getValue_6d5f1 : MethodName := ⟨RJ5, "getValue", "()[B"⟩
abbrev cJ5_getBytes_840e7 : ByteArray := prog_14_method_65_code
def yJ5_getBytes_840e7 : MethodName := ⟨RJ5, "getBytes", "([BIB)V"⟩
abbrev cJ5_getCoder_7d493 : ByteArray := prog_14_method_67_code
def yJ5_getCoder_7d493 : MethodName := ⟨RJ5, "getCoder", "()B"⟩
abbrev cJ5_isLatin1_aae02 : ByteArray := prog_14_method_68_code
def yJ5_isLatin1_aae02 : MethodName := ⟨RJ5, "isLatin1", "()Z"⟩
abbrev cJ5_inflateIfNeededFor_a7421 : ByteArray := prog_14_method_71_code
def yJ5_inflateIfNeededFor_a7421 : MethodName := ⟨RJ5, "inflateIfNeededFor", "(Ljava/lang/String;)V"⟩
abbrev cJ5_inflateIfNeededFor_56e69 : ByteArray := prog_14_method_72_code
def yJ5_inflateIfNeededFor_56e69 : MethodName := ⟨RJ5, "inflateIfNeededFor", "(Ljava/lang/AbstractStringBuilder;)V"⟩
abbrev cJ5_putStringAt_47b60 : ByteArray := prog_14_method_73_code
def yJ5_putStringAt_47b60 : MethodName := ⟨RJ5, "putStringAt", "(ILjava/lang/String;)V"⟩
abbrev cJ5_appendChars_0ad70 : ByteArray := prog_14_method_74_code
def yJ5_appendChars_0ad70 : MethodName := ⟨RJ5, "appendChars", "([CII)V"⟩
abbrev cJ5_appendChars_3135b : ByteArray := prog_14_method_75_code
def yJ5_appendChars_3135b : MethodName := ⟨RJ5, "appendChars", "(Ljava/lang/String;II)V"⟩
abbrev cJ5_appendChars_a91ff : ByteArray := prog_14_method_76_code
def yJ5_appendChars_a91ff : MethodName := ⟨RJ5, "appendChars", "(Ljava/lang/CharSequence;II)V"⟩
def RJx2cfe8 : String := "java/lang/Appendable"
def TJx2cfe8 : u_T := fun k => match k with
  | _ => ("", "", "", false)
def tyJx2cfe8 : Nat → FieldType := fun k => match k with
  | _ => .int
theorem nmJx2cfe8 : ∀ a, a < 0 → ∀ b, b < 0 → a ≠ b → (TJx2cfe8 a).2.1 ≠ (TJx2cfe8 b).2.1 := by decide +kernel
theorem tyJx2cfe8_ok : ∀ k, k < 0 → parseFieldDescriptor (TJx2cfe8 k).2.2.1 = some (tyJx2cfe8 k) := by decide +kernel
def RJx00060 : String := "java/lang/ArrayIndexOutOfBoundsException"
def TJx00060 : u_T := fun k => match k with
  | 0 => ("java/lang/Throwable", "backtrace", "Ljava/lang/Object;", false)
  | 1 => ("java/lang/Throwable", "detailMessage", "Ljava/lang/String;", false)
  | 2 => ("java/lang/Throwable", "cause", "Ljava/lang/Throwable;", false)
  | 3 => ("java/lang/Throwable", "stackTrace", "[Ljava/lang/StackTraceElement;", false)
  | 4 => ("java/lang/Throwable", "depth", "I", false)
  | _ => ("java/lang/Throwable", "suppressedExceptions", "Ljava/util/List;", false)
def tyJx00060 : Nat → FieldType := fun k => match k with
  | 0 => .object "java/lang/Object"
  | 1 => .object "java/lang/String"
  | 2 => .object "java/lang/Throwable"
  | 3 => .array (.object "java/lang/StackTraceElement")
  | 4 => .int
  | _ => .object "java/util/List"
theorem nmJx00060 : ∀ a, a < 6 → ∀ b, b < 6 → a ≠ b → (TJx00060 a).2.1 ≠ (TJx00060 b).2.1 := by decide +kernel
theorem tyJx00060_ok : ∀ k, k < 6 → parseFieldDescriptor (TJx00060 k).2.2.1 = some (tyJx00060 k) := by decide +kernel
abbrev cJx00060_init_a7421 : ByteArray := prog_17_method_2_code
def yJx00060_init_a7421 : MethodName := ⟨RJx00060, "<init>", "(Ljava/lang/String;)V"⟩
def RJx9f9b0 : String := "java/lang/CharSequence"
def TJx9f9b0 : u_T := fun k => match k with
  | _ => ("", "", "", false)
def tyJx9f9b0 : Nat → FieldType := fun k => match k with
  | _ => .int
theorem nmJx9f9b0 : ∀ a, a < 0 → ∀ b, b < 0 → a ≠ b → (TJx9f9b0 a).2.1 ≠ (TJx9f9b0 b).2.1 := by decide +kernel
theorem tyJx9f9b0_ok : ∀ k, k < 0 → parseFieldDescriptor (TJx9f9b0 k).2.2.1 = some (tyJx9f9b0 k) := by decide +kernel
def RJx8e188 : String := "java/lang/Cloneable"
def TJx8e188 : u_T := fun k => match k with
  | _ => ("", "", "", false)
def tyJx8e188 : Nat → FieldType := fun k => match k with
  | _ => .int
theorem nmJx8e188 : ∀ a, a < 0 → ∀ b, b < 0 → a ≠ b → (TJx8e188 a).2.1 ≠ (TJx8e188 b).2.1 := by decide +kernel
theorem tyJx8e188_ok : ∀ k, k < 0 → parseFieldDescriptor (TJx8e188 k).2.2.1 = some (tyJx8e188 k) := by decide +kernel
def RJxb160c : String := "java/lang/Comparable"
def TJxb160c : u_T := fun k => match k with
  | _ => ("", "", "", false)
def tyJxb160c : Nat → FieldType := fun k => match k with
  | _ => .int
theorem nmJxb160c : ∀ a, a < 0 → ∀ b, b < 0 → a ≠ b → (TJxb160c a).2.1 ≠ (TJxb160c b).2.1 := by decide +kernel
theorem tyJxb160c_ok : ∀ k, k < 0 → parseFieldDescriptor (TJxb160c k).2.2.1 = some (tyJxb160c k) := by decide +kernel
def RJxf58ca : String := "java/lang/Float"
def TJxf58ca : u_T := fun k => match k with
  | _ => ("", "", "", false)
def tyJxf58ca : Nat → FieldType := fun k => match k with
  | _ => .int
theorem nmJxf58ca : ∀ a, a < 0 → ∀ b, b < 0 → a ≠ b → (TJxf58ca a).2.1 ≠ (TJxf58ca b).2.1 := by decide +kernel
theorem tyJxf58ca_ok : ∀ k, k < 0 → parseFieldDescriptor (TJxf58ca k).2.2.1 = some (tyJxf58ca k) := by decide +kernel
def RJ6 : String := "java/lang/Integer"
def TJ6 : u_T := fun k => match k with
  | _ => ("", "", "", false)
def tyJ6 : Nat → FieldType := fun k => match k with
  | _ => .int
theorem nmJ6 : ∀ a, a < 0 → ∀ b, b < 0 → a ≠ b → (TJ6 a).2.1 ≠ (TJ6 b).2.1 := by decide +kernel
theorem tyJ6_ok : ∀ k, k < 0 → parseFieldDescriptor (TJ6 k).2.2.1 = some (tyJ6 k) := by decide +kernel
abbrev cJ6_getChars_ba4f3 : ByteArray := prog_26_method_12_code
def yJ6_getChars_ba4f3 : MethodName := ⟨RJ6, "getChars", "(II[B)I"⟩
abbrev cJ6_stringSize_0f7a4 : ByteArray := prog_26_method_13_code
def yJ6_stringSize_0f7a4 : MethodName := ⟨RJ6, "stringSize", "(I)I"⟩
abbrev cJ6_numberOfLeadingZeros_0f7a4 : ByteArray := prog_26_method_47_code
def yJ6_numberOfLeadingZeros_0f7a4 : MethodName := ⟨RJ6, "numberOfLeadingZeros", "(I)I"⟩
def RJxab1ab : String := "java/lang/Iterable"
def TJxab1ab : u_T := fun k => match k with
  | _ => ("", "", "", false)
def tyJxab1ab : Nat → FieldType := fun k => match k with
  | _ => .int
theorem nmJxab1ab : ∀ a, a < 0 → ∀ b, b < 0 → a ≠ b → (TJxab1ab a).2.1 ≠ (TJxab1ab b).2.1 := by decide +kernel
theorem tyJxab1ab_ok : ∀ k, k < 0 → parseFieldDescriptor (TJxab1ab k).2.2.1 = some (tyJxab1ab k) := by decide +kernel
def RJ13 : String := "java/lang/Long"
def TJ13 : u_T := fun k => match k with
  | _ => ("", "", "", false)
def tyJ13 : Nat → FieldType := fun k => match k with
  | _ => .int
theorem nmJ13 : ∀ a, a < 0 → ∀ b, b < 0 → a ≠ b → (TJ13 a).2.1 ≠ (TJ13 b).2.1 := by decide +kernel
theorem tyJ13_ok : ∀ k, k < 0 → parseFieldDescriptor (TJ13 k).2.2.1 = some (tyJ13 k) := by decide +kernel
abbrev cJ13_getChars_11360 : ByteArray := prog_28_method_14_code
def yJ13_getChars_11360 : MethodName := ⟨RJ13, "getChars", "(JI[B)I"⟩
abbrev cJ13_stringSize_95d88 : ByteArray := prog_28_method_15_code
def yJ13_stringSize_95d88 : MethodName := ⟨RJ13, "stringSize", "(J)I"⟩
def RJ9 : String := "java/lang/Math"
def TJ9 : u_T := fun k => match k with
  | _ => ("", "", "", false)
def tyJ9 : Nat → FieldType := fun k => match k with
  | _ => .int
theorem nmJ9 : ∀ a, a < 0 → ∀ b, b < 0 → a ≠ b → (TJ9 a).2.1 ≠ (TJ9 b).2.1 := by decide +kernel
theorem tyJ9_ok : ∀ k, k < 0 → parseFieldDescriptor (TJ9 k).2.2.1 = some (tyJ9 k) := by decide +kernel
abbrev cJ9_multiplyHigh_f86c9 : ByteArray := prog_29_method_45_code
def yJ9_multiplyHigh_f86c9 : MethodName := ⟨RJ9, "multiplyHigh", "(JJ)J"⟩
abbrev cJ9_floorDiv_7cf53 : ByteArray := prog_29_method_47_code
def yJ9_floorDiv_7cf53 : MethodName := ⟨RJ9, "floorDiv", "(II)I"⟩
abbrev cJ9_floorDiv_f86c9 : ByteArray := prog_29_method_49_code
def yJ9_floorDiv_f86c9 : MethodName := ⟨RJ9, "floorDiv", "(JJ)J"⟩
abbrev cJ9_floorMod_7cf53 : ByteArray := prog_29_method_50_code
def yJ9_floorMod_7cf53 : MethodName := ⟨RJ9, "floorMod", "(II)I"⟩
abbrev cJ9_floorMod_f86c9 : ByteArray := prog_29_method_52_code
def yJ9_floorMod_f86c9 : MethodName := ⟨RJ9, "floorMod", "(JJ)J"⟩
abbrev cJ9_abs_0f7a4 : ByteArray := prog_29_method_59_code
def yJ9_abs_0f7a4 : MethodName := ⟨RJ9, "abs", "(I)I"⟩
abbrev cJ9_max_7cf53 : ByteArray := prog_29_method_65_code
def yJ9_max_7cf53 : MethodName := ⟨RJ9, "max", "(II)I"⟩
abbrev cJ9_min_7cf53 : ByteArray := prog_29_method_69_code
def yJ9_min_7cf53 : MethodName := ⟨RJ9, "min", "(II)I"⟩
abbrev cJ9_min_f86c9 : ByteArray := prog_29_method_70_code
def yJ9_min_f86c9 : MethodName := ⟨RJ9, "min", "(JJ)J"⟩
def RJxd2413 : String := "java/lang/Number"
def TJxd2413 : u_T := fun k => match k with
  | _ => ("", "", "", false)
def tyJxd2413 : Nat → FieldType := fun k => match k with
  | _ => .int
theorem nmJxd2413 : ∀ a, a < 0 → ∀ b, b < 0 → a ≠ b → (TJxd2413 a).2.1 ≠ (TJxd2413 b).2.1 := by decide +kernel
theorem tyJxd2413_ok : ∀ k, k < 0 → parseFieldDescriptor (TJxd2413 k).2.2.1 = some (tyJxd2413 k) := by decide +kernel
def RJ0 : String := "java/lang/String"
def TJ0 : u_T := fun k => match k with
  | 0 => ("java/lang/String", "value", "[B", true)
  | 1 => ("java/lang/String", "coder", "B", true)
  | 2 => ("java/lang/String", "hash", "I", false)
  | _ => ("java/lang/String", "hashIsZero", "Z", false)
def tyJ0 : Nat → FieldType := fun k => match k with
  | 0 => .array .byte
  | 1 => .byte
  | 2 => .int
  | _ => .boolean
theorem nmJ0 : ∀ a, a < 4 → ∀ b, b < 4 → a ≠ b → (TJ0 a).2.1 ≠ (TJ0 b).2.1 := by decide +kernel
theorem tyJ0_ok : ∀ k, k < 4 → parseFieldDescriptor (TJ0 k).2.2.1 = some (tyJ0 k) := by decide +kernel
abbrev cJ0_init_81219 : ByteArray := prog_32_method_53_code
def yJ0_init_81219 : MethodName := ⟨RJ0, "<init>", "(Ljava/lang/StringBuilder;)V"⟩
abbrev cJ0_length_8abf5 : ByteArray := prog_32_method_54_code
def yJ0_length_8abf5 : MethodName := ⟨RJ0, "length", "()I"⟩
abbrev cJ0_charAt_5068e : ByteArray := prog_32_method_56_code
def yJ0_charAt_5068e : MethodName := ⟨RJ0, "charAt", "(I)C"⟩
abbrev cJ0_equals_9ea2d : ByteArray := prog_32_method_66_code
def yJ0_equals_9ea2d : MethodName := ⟨RJ0, "equals", "(Ljava/lang/Object;)Z"⟩
abbrev cJ0_getBytes_840e7 : ByteArray := prog_32_method_147_code
def yJ0_getBytes_840e7 : MethodName := ⟨RJ0, "getBytes", "([BIB)V"⟩
abbrev cJ0_init_db425 : ByteArray := prog_32_method_150_code
def yJ0_init_db425 : MethodName := ⟨RJ0, "<init>", "(Ljava/lang/AbstractStringBuilder;Ljava/lang/Void;)V"⟩
abbrev cJ0_coder_7d493 : ByteArray := prog_32_method_152_code
def yJ0_coder_7d493 : MethodName := ⟨RJ0, "coder", "()B"⟩
abbrev cJ0_value_6d5f1 : ByteArray := prog_32_method_153_code
def yJ0_value_6d5f1 : MethodName := ⟨RJ0, "value", "()[B"⟩
abbrev cJ0_isLatin1_aae02 : ByteArray := prog_32_method_154_code
def yJ0_isLatin1_aae02 : MethodName := ⟨RJ0, "isLatin1", "()Z"⟩
abbrev cJ0_checkIndex_df160 : ByteArray := prog_32_method_155_code
def yJ0_checkIndex_df160 : MethodName := ⟨RJ0, "checkIndex", "(II)V"⟩
abbrev cJ0_checkBoundsOffCount_cabcc : ByteArray := prog_32_method_157_code
def yJ0_checkBoundsOffCount_cabcc : MethodName := ⟨RJ0, "checkBoundsOffCount", "(III)I"⟩
abbrev cJ0_checkBoundsBeginEnd_23922 : ByteArray := prog_32_method_158_code
def yJ0_checkBoundsBeginEnd_23922 : MethodName := ⟨RJ0, "checkBoundsBeginEnd", "(III)V"⟩
def RJxe8eeb : String := "java/lang/StringBuffer"
def TJxe8eeb : u_T := fun k => match k with
  | _ => ("", "", "", false)
def tyJxe8eeb : Nat → FieldType := fun k => match k with
  | _ => .int
theorem nmJxe8eeb : ∀ a, a < 0 → ∀ b, b < 0 → a ≠ b → (TJxe8eeb a).2.1 ≠ (TJxe8eeb b).2.1 := by decide +kernel
theorem tyJxe8eeb_ok : ∀ k, k < 0 → parseFieldDescriptor (TJxe8eeb k).2.2.1 = some (tyJxe8eeb k) := by decide +kernel
abbrev cJxe8eeb_append_b568b : ByteArray := prog_33_method_24_code
def yJxe8eeb_append_b568b : MethodName := ⟨RJxe8eeb, "append", "([C)Ljava/lang/StringBuffer;"⟩
def RJ4 : String := "java/lang/StringBuilder"
def TJ4 : u_T := fun k => match k with
  | 0 => ("java/lang/AbstractStringBuilder", "value", "[B", false)
  | 1 => ("java/lang/AbstractStringBuilder", "coder", "B", false)
  | 2 => ("java/lang/AbstractStringBuilder", "maybeLatin1", "Z", false)
  | _ => ("java/lang/AbstractStringBuilder", "count", "I", false)
def tyJ4 : Nat → FieldType := fun k => match k with
  | 0 => .array .byte
  | 1 => .byte
  | 2 => .boolean
  | _ => .int
theorem nmJ4 : ∀ a, a < 4 → ∀ b, b < 4 → a ≠ b → (TJ4 a).2.1 ≠ (TJ4 b).2.1 := by decide +kernel
theorem tyJ4_ok : ∀ k, k < 4 → parseFieldDescriptor (TJ4 k).2.2.1 = some (tyJ4 k) := by decide +kernel
abbrev cJ4_init_da8c8 : ByteArray := prog_34_method_1_code
def yJ4_init_da8c8 : MethodName := ⟨RJ4, "<init>", "()V"⟩
abbrev cJ4_append_15ec4 : ByteArray := prog_34_method_7_code
def yJ4_append_15ec4 : MethodName := ⟨RJ4, "append", "(Ljava/lang/String;)Ljava/lang/StringBuilder;"⟩
abbrev cJ4_append_1fab5 : ByteArray := prog_34_method_9_code
def yJ4_append_1fab5 : MethodName := ⟨RJ4, "append", "(Ljava/lang/CharSequence;)Ljava/lang/StringBuilder;"⟩
abbrev cJ4_append_69d29 : ByteArray := prog_34_method_10_code
def yJ4_append_69d29 : MethodName := ⟨RJ4, "append", "(Ljava/lang/CharSequence;II)Ljava/lang/StringBuilder;"⟩
abbrev cJ4_append_37e8c : ByteArray := prog_34_method_11_code
def yJ4_append_37e8c : MethodName := ⟨RJ4, "append", "([C)Ljava/lang/StringBuilder;"⟩
abbrev cJ4_append_cf468 : ByteArray := prog_34_method_14_code
def yJ4_append_cf468 : MethodName := ⟨RJ4, "append", "(C)Ljava/lang/StringBuilder;"⟩
abbrev cJ4_append_bf812 : ByteArray := prog_34_method_15_code
def yJ4_append_bf812 : MethodName := ⟨RJ4, "append", "(I)Ljava/lang/StringBuilder;"⟩
abbrev cJ4_append_f7089 : ByteArray := prog_34_method_16_code
def yJ4_append_f7089 : MethodName := ⟨RJ4, "append", "(J)Ljava/lang/StringBuilder;"⟩
abbrev cJ4_append_9d4c8 : ByteArray := prog_34_method_17_code
def yJ4_append_9d4c8 : MethodName := ⟨RJ4, "append", "(F)Ljava/lang/StringBuilder;"⟩
abbrev cJ4_toString_0e30d : ByteArray := prog_34_method_42_code
def yJ4_toString_0e30d : MethodName := ⟨RJ4, "toString", "()Ljava/lang/String;"⟩
abbrev cJ4_append_e1f22 : ByteArray := prog_34_method_77_code
def yJ4_append_e1f22 : MethodName := ⟨RJ4, "append", "(Ljava/lang/CharSequence;II)Ljava/lang/AbstractStringBuilder;"⟩
abbrev cJ4_append_cf1ce : ByteArray := prog_34_method_80_code
def yJ4_append_cf1ce : MethodName := ⟨RJ4, "append", "(Ljava/lang/String;)Ljava/lang/AbstractStringBuilder;"⟩
abbrev cJ4_charAt_5068e : ByteArray := prog_34_method_88_code
def yJ4_charAt_5068e : MethodName := ⟨RJ4, "charAt", "(I)C"⟩
abbrev cJ4_length_8abf5 : ByteArray := prog_34_method_93_code
def yJ4_length_8abf5 : MethodName := ⟨RJ4, "length", "()I"⟩
abbrev cJ4_append_b3078 : ByteArray := prog_34_method_94_code
def yJ4_append_b3078 : MethodName := ⟨RJ4, "append", "(C)Ljava/lang/Appendable;"⟩
abbrev cJ4_append_996db : ByteArray := prog_34_method_96_code
def yJ4_append_996db : MethodName := ⟨RJ4, "append", "(Ljava/lang/CharSequence;)Ljava/lang/Appendable;"⟩
def RJ1 : String := "java/lang/StringLatin1"
def TJ1 : u_T := fun k => match k with
  | _ => ("", "", "", false)
def tyJ1 : Nat → FieldType := fun k => match k with
  | _ => .int
theorem nmJ1 : ∀ a, a < 0 → ∀ b, b < 0 → a ≠ b → (TJ1 a).2.1 ≠ (TJ1 b).2.1 := by decide +kernel
theorem tyJ1_ok : ∀ k, k < 0 → parseFieldDescriptor (TJ1 k).2.2.1 = some (tyJ1 k) := by decide +kernel
abbrev cJ1_charAt_3b067 : ByteArray := prog_35_method_2_code
def yJ1_charAt_3b067 : MethodName := ⟨RJ1, "charAt", "([BI)C"⟩
abbrev cJ1_canEncode_fc78d : ByteArray := prog_35_method_3_code
def yJ1_canEncode_fc78d : MethodName := ⟨RJ1, "canEncode", "(C)Z"⟩
abbrev cJ1_equals_b5fdf : ByteArray := prog_35_method_13_code
def yJ1_equals_b5fdf : MethodName := ⟨RJ1, "equals", "([B[B)Z"⟩
abbrev cJ1_inflate_0e8fd : ByteArray := prog_35_method_50_code
def yJ1_inflate_0e8fd : MethodName := ⟨RJ1, "inflate", "([BI[BII)V"⟩
def RJ2 : String := "java/lang/StringUTF16"
def TJ2 : u_T := fun k => match k with
  | _ => ("", "", "", false)
def tyJ2 : Nat → FieldType := fun k => match k with
  | _ => .int
theorem nmJ2 : ∀ a, a < 0 → ∀ b, b < 0 → a ≠ b → (TJ2 a).2.1 ≠ (TJ2 b).2.1 := by decide +kernel
theorem tyJ2_ok : ∀ k, k < 0 → parseFieldDescriptor (TJ2 k).2.2.1 = some (tyJ2 k) := by decide +kernel
abbrev cJ2_newBytesFor_77867 : ByteArray := prog_36_method_2_code
def yJ2_newBytesFor_77867 : MethodName := ⟨RJ2, "newBytesFor", "(I)[B"⟩
abbrev cJ2_newBytesLength_0f7a4 : ByteArray := prog_36_method_3_code
def yJ2_newBytesLength_0f7a4 : MethodName := ⟨RJ2, "newBytesLength", "(I)I"⟩
abbrev cJ2_putChar_b72d1 : ByteArray := prog_36_method_4_code
def yJ2_putChar_b72d1 : MethodName := ⟨RJ2, "putChar", "([BII)V"⟩
abbrev cJ2_getChar_3b067 : ByteArray := prog_36_method_5_code
def yJ2_getChar_3b067 : MethodName := ⟨RJ2, "getChar", "([BI)C"⟩
abbrev cJ2_length_9d52b : ByteArray := prog_36_method_6_code
def yJ2_length_9d52b : MethodName := ⟨RJ2, "length", "([B)I"⟩
abbrev cJ2_coderFromArrayLen_85cad : ByteArray := prog_36_method_15_code
def yJ2_coderFromArrayLen_85cad : MethodName := ⟨RJ2, "coderFromArrayLen", "([BI)B"⟩
abbrev cJ2_compress_39247 : ByteArray := prog_36_method_17_code
def yJ2_compress_39247 : MethodName := ⟨RJ2, "compress", "([BII)[B"⟩
abbrev cJ2_compress_5af95 : ByteArray := prog_36_method_22_code
def yJ2_compress_5af95 : MethodName := ⟨RJ2, "compress", "([BI[BII)I"⟩
abbrev cJ2_putChars_03870 : ByteArray := prog_36_method_68_code
def yJ2_putChars_03870 : MethodName := ⟨RJ2, "putChars", "([BI[CII)V"⟩
abbrev cJ2_putCharSB_b72d1 : ByteArray := prog_36_method_71_code
def yJ2_putCharSB_b72d1 : MethodName := ⟨RJ2, "putCharSB", "([BII)V"⟩
abbrev cJ2_putCharsSB_03870 : ByteArray := prog_36_method_72_code
def yJ2_putCharsSB_03870 : MethodName := ⟨RJ2, "putCharsSB", "([BI[CII)V"⟩
abbrev cJ2_putCharsSB_8fd6a : ByteArray := prog_36_method_73_code
def yJ2_putCharsSB_8fd6a : MethodName := ⟨RJ2, "putCharsSB", "([BILjava/lang/CharSequence;II)V"⟩
abbrev cJ2_getChars_46870 : ByteArray := prog_36_method_77_code
def yJ2_getChars_46870 : MethodName := ⟨RJ2, "getChars", "(III[B)I"⟩
abbrev cJ2_getChars_1ba55 : ByteArray := prog_36_method_78_code
def yJ2_getChars_1ba55 : MethodName := ⟨RJ2, "getChars", "(JII[B)I"⟩
abbrev cJ2_putCharsAt_cd4e5 : ByteArray := prog_36_method_81_code
def yJ2_putCharsAt_cd4e5 : MethodName := ⟨RJ2, "putCharsAt", "([BICCCC)I"⟩
abbrev cJ2_charAt_3b067 : ByteArray := prog_36_method_83_code
def yJ2_charAt_3b067 : MethodName := ⟨RJ2, "charAt", "([BI)C"⟩
abbrev cJ2_inflate_0e8fd : ByteArray := prog_36_method_86_code
def yJ2_inflate_0e8fd : MethodName := ⟨RJ2, "inflate", "([BI[BII)V"⟩
abbrev cJ2_getChars_ba4f3 : ByteArray := prog_36_method_89_code
def yJ2_getChars_ba4f3 : MethodName := ⟨RJ2, "getChars", "(II[B)I"⟩
abbrev cJ2_getChars_11360 : ByteArray := prog_36_method_90_code
def yJ2_getChars_11360 : MethodName := ⟨RJ2, "getChars", "(JI[B)I"⟩
abbrev cJ2_checkIndex_2214a : ByteArray := prog_36_method_91_code
def yJ2_checkIndex_2214a : MethodName := ⟨RJ2, "checkIndex", "(I[B)V"⟩
abbrev cJ2_checkBoundsBeginEnd_d044e : ByteArray := prog_36_method_93_code
def yJ2_checkBoundsBeginEnd_d044e : MethodName := ⟨RJ2, "checkBoundsBeginEnd", "(II[B)V"⟩
abbrev cJ2_checkBoundsOffCount_d044e : ByteArray := prog_36_method_94_code
def yJ2_checkBoundsOffCount_d044e : MethodName := ⟨RJ2, "checkBoundsOffCount", "(II[B)V"⟩
def RJ10 : String := "java/lang/System"
def TJ10 : u_T := fun k => match k with
  | _ => ("", "", "", false)
def tyJ10 : Nat → FieldType := fun k => match k with
  | _ => .int
theorem nmJ10 : ∀ a, a < 0 → ∀ b, b < 0 → a ≠ b → (TJ10 a).2.1 ≠ (TJ10 b).2.1 := by decide +kernel
theorem tyJ10_ok : ∀ k, k < 0 → parseFieldDescriptor (TJ10 k).2.2.1 = some (tyJ10 k) := by decide +kernel
def RJxfd54e : String := "java/lang/constant/Constable"
def TJxfd54e : u_T := fun k => match k with
  | _ => ("", "", "", false)
def tyJxfd54e : Nat → FieldType := fun k => match k with
  | _ => .int
theorem nmJxfd54e : ∀ a, a < 0 → ∀ b, b < 0 → a ≠ b → (TJxfd54e a).2.1 ≠ (TJxfd54e b).2.1 := by decide +kernel
theorem tyJxfd54e_ok : ∀ k, k < 0 → parseFieldDescriptor (TJxfd54e k).2.2.1 = some (tyJxfd54e k) := by decide +kernel
def RJx3cf43 : String := "java/lang/constant/ConstantDesc"
def TJx3cf43 : u_T := fun k => match k with
  | _ => ("", "", "", false)
def tyJx3cf43 : Nat → FieldType := fun k => match k with
  | _ => .int
theorem nmJx3cf43 : ∀ a, a < 0 → ∀ b, b < 0 → a ≠ b → (TJx3cf43 a).2.1 ≠ (TJx3cf43 b).2.1 := by decide +kernel
theorem tyJx3cf43_ok : ∀ k, k < 0 → parseFieldDescriptor (TJx3cf43 k).2.2.1 = some (tyJx3cf43 k) := by decide +kernel
def RJxa1e45 : String := "java/util/AbstractCollection"
def TJxa1e45 : u_T := fun k => match k with
  | _ => ("", "", "", false)
def tyJxa1e45 : Nat → FieldType := fun k => match k with
  | _ => .int
theorem nmJxa1e45 : ∀ a, a < 0 → ∀ b, b < 0 → a ≠ b → (TJxa1e45 a).2.1 ≠ (TJxa1e45 b).2.1 := by decide +kernel
theorem tyJxa1e45_ok : ∀ k, k < 0 → parseFieldDescriptor (TJxa1e45 k).2.2.1 = some (tyJxa1e45 k) := by decide +kernel
abbrev cJxa1e45_init_da8c8 : ByteArray := prog_41_method_1_code
def yJxa1e45_init_da8c8 : MethodName := ⟨RJxa1e45, "<init>", "()V"⟩
def RJxc12de : String := "java/util/AbstractList"
def TJxc12de : u_T := fun k => match k with
  | _ => ("", "", "", false)
def tyJxc12de : Nat → FieldType := fun k => match k with
  | _ => .int
theorem nmJxc12de : ∀ a, a < 0 → ∀ b, b < 0 → a ≠ b → (TJxc12de a).2.1 ≠ (TJxc12de b).2.1 := by decide +kernel
theorem tyJxc12de_ok : ∀ k, k < 0 → parseFieldDescriptor (TJxc12de k).2.2.1 = some (tyJxc12de k) := by decide +kernel
abbrev cJxc12de_init_da8c8 : ByteArray := prog_42_method_1_code
def yJxc12de_init_da8c8 : MethodName := ⟨RJxc12de, "<init>", "()V"⟩
def RJx4a65c : String := "java/util/ArrayList"
def TJx4a65c : u_T := fun k => match k with
  | 0 => ("java/util/AbstractList", "modCount", "I", false)
  | 1 => ("java/util/ArrayList", "elementData", "[Ljava/lang/Object;", false)
  | _ => ("java/util/ArrayList", "size", "I", false)
def tyJx4a65c : Nat → FieldType := fun k => match k with
  | 0 => .int
  | 1 => .array (.object "java/lang/Object")
  | _ => .int
theorem nmJx4a65c : ∀ a, a < 3 → ∀ b, b < 3 → a ≠ b → (TJx4a65c a).2.1 ≠ (TJx4a65c b).2.1 := by decide +kernel
theorem tyJx4a65c_ok : ∀ k, k < 3 → parseFieldDescriptor (TJx4a65c k).2.2.1 = some (tyJx4a65c k) := by decide +kernel
abbrev cJx4a65c_init_da8c8 : ByteArray := prog_43_method_2_code
def yJx4a65c_init_da8c8 : MethodName := ⟨RJx4a65c, "<init>", "()V"⟩
abbrev cJx4a65c_grow_92f84 : ByteArray := prog_43_method_6_code
def yJx4a65c_grow_92f84 : MethodName := ⟨RJx4a65c, "grow", "(I)[Ljava/lang/Object;"⟩
abbrev cJx4a65c_grow_d5877 : ByteArray := prog_43_method_7_code
def yJx4a65c_grow_d5877 : MethodName := ⟨RJx4a65c, "grow", "()[Ljava/lang/Object;"⟩
abbrev cJx4a65c_size_8abf5 : ByteArray := prog_43_method_8_code
def yJx4a65c_size_8abf5 : MethodName := ⟨RJx4a65c, "size", "()I"⟩
abbrev cJx4a65c_elementData_915e3 : ByteArray := prog_43_method_18_code
def yJx4a65c_elementData_915e3 : MethodName := ⟨RJx4a65c, "elementData", "(I)Ljava/lang/Object;"⟩
abbrev cJx4a65c_get_915e3 : ByteArray := prog_43_method_20_code
def yJx4a65c_get_915e3 : MethodName := ⟨RJx4a65c, "get", "(I)Ljava/lang/Object;"⟩
abbrev cJx4a65c_add_72be8 : ByteArray := prog_43_method_24_code
def yJx4a65c_add_72be8 : MethodName := ⟨RJx4a65c, "add", "(Ljava/lang/Object;[Ljava/lang/Object;I)V"⟩
abbrev cJx4a65c_add_9ea2d : ByteArray := prog_43_method_25_code
def yJx4a65c_add_9ea2d : MethodName := ⟨RJx4a65c, "add", "(Ljava/lang/Object;)Z"⟩
def RJ7 : String := "java/util/Arrays"
def TJ7 : u_T := fun k => match k with
  | _ => ("", "", "", false)
def tyJ7 : Nat → FieldType := fun k => match k with
  | _ => .int
theorem nmJ7 : ∀ a, a < 0 → ∀ b, b < 0 → a ≠ b → (TJ7 a).2.1 ≠ (TJ7 b).2.1 := by decide +kernel
theorem tyJ7_ok : ∀ k, k < 0 → parseFieldDescriptor (TJ7 k).2.2.1 = some (tyJ7 k) := by decide +kernel
abbrev cJ7_copyOf_1904c : ByteArray := prog_44_method_119_code
def yJ7_copyOf_1904c : MethodName := ⟨RJ7, "copyOf", "([Ljava/lang/Object;I)[Ljava/lang/Object;"⟩
abbrev cJ7_copyOf_6403c : ByteArray := prog_44_method_120_code
def yJ7_copyOf_6403c : MethodName := ⟨RJ7, "copyOf", "([Ljava/lang/Object;ILjava/lang/Class;)[Ljava/lang/Object;"⟩
abbrev cJ7_copyOf_9075b : ByteArray := prog_44_method_121_code
def yJ7_copyOf_9075b : MethodName := ⟨RJ7, "copyOf", "([BI)[B"⟩
abbrev cJ7_checkLength_df160 : ByteArray := prog_44_method_131_code
def yJ7_checkLength_df160 : MethodName := ⟨RJ7, "checkLength", "(II)V"⟩
abbrev cJ7_copyOfRange_39247 : ByteArray := prog_44_method_132_code
def yJ7_copyOfRange_39247 : MethodName := ⟨RJ7, "copyOfRange", "([BII)[B"⟩
abbrev cJ7_copyOfRangeByte_39247 : ByteArray := prog_44_method_133_code
def yJ7_copyOfRangeByte_39247 : MethodName := ⟨RJ7, "copyOfRangeByte", "([BII)[B"⟩
def RJx5ef63 : String := "java/util/Collection"
def TJx5ef63 : u_T := fun k => match k with
  | _ => ("", "", "", false)
def tyJx5ef63 : Nat → FieldType := fun k => match k with
  | _ => .int
theorem nmJx5ef63 : ∀ a, a < 0 → ∀ b, b < 0 → a ≠ b → (TJx5ef63 a).2.1 ≠ (TJx5ef63 b).2.1 := by decide +kernel
theorem tyJx5ef63_ok : ∀ k, k < 0 → parseFieldDescriptor (TJx5ef63 k).2.2.1 = some (tyJx5ef63 k) := by decide +kernel
def RJxbd725 : String := "java/util/List"
def TJxbd725 : u_T := fun k => match k with
  | _ => ("", "", "", false)
def tyJxbd725 : Nat → FieldType := fun k => match k with
  | _ => .int
theorem nmJxbd725 : ∀ a, a < 0 → ∀ b, b < 0 → a ≠ b → (TJxbd725 a).2.1 ≠ (TJxbd725 b).2.1 := by decide +kernel
theorem tyJxbd725_ok : ∀ k, k < 0 → parseFieldDescriptor (TJxbd725 k).2.2.1 = some (tyJxbd725 k) := by decide +kernel
def RJ15 : String := "java/util/Objects"
def TJ15 : u_T := fun k => match k with
  | _ => ("", "", "", false)
def tyJ15 : Nat → FieldType := fun k => match k with
  | _ => .int
theorem nmJ15 : ∀ a, a < 0 → ∀ b, b < 0 → a ≠ b → (TJ15 a).2.1 ≠ (TJ15 b).2.1 := by decide +kernel
theorem tyJ15_ok : ∀ k, k < 0 → parseFieldDescriptor (TJ15 k).2.2.1 = some (tyJ15 k) := by decide +kernel
abbrev cJ15_checkIndex_7cf53 : ByteArray := prog_48_method_17_code
def yJ15_checkIndex_7cf53 : MethodName := ⟨RJ15, "checkIndex", "(II)I"⟩
def RJxf0a74 : String := "java/util/RandomAccess"
def TJxf0a74 : u_T := fun k => match k with
  | _ => ("", "", "", false)
def tyJxf0a74 : Nat → FieldType := fun k => match k with
  | _ => .int
theorem nmJxf0a74 : ∀ a, a < 0 → ∀ b, b < 0 → a ≠ b → (TJxf0a74 a).2.1 ≠ (TJxf0a74 b).2.1 := by decide +kernel
theorem tyJxf0a74_ok : ∀ k, k < 0 → parseFieldDescriptor (TJxf0a74 k).2.2.1 = some (tyJxf0a74 k) := by decide +kernel
def RJxa66e6 : String := "java/util/SequencedCollection"
def TJxa66e6 : u_T := fun k => match k with
  | _ => ("", "", "", false)
def tyJxa66e6 : Nat → FieldType := fun k => match k with
  | _ => .int
theorem nmJxa66e6 : ∀ a, a < 0 → ∀ b, b < 0 → a ≠ b → (TJxa66e6 a).2.1 ≠ (TJxa66e6 b).2.1 := by decide +kernel
theorem tyJxa66e6_ok : ∀ k, k < 0 → parseFieldDescriptor (TJxa66e6 k).2.2.1 = some (tyJxa66e6 k) := by decide +kernel
def RJx40b00 : String := "jdk/internal/math/FloatToDecimal"
def TJx40b00 : u_T := fun k => match k with
  | 0 => ("jdk/internal/math/FloatToDecimal", "bytes", "[B", true)
  | _ => ("jdk/internal/math/FloatToDecimal", "index", "I", false)
def tyJx40b00 : Nat → FieldType := fun k => match k with
  | 0 => .array .byte
  | _ => .int
theorem nmJx40b00 : ∀ a, a < 2 → ∀ b, b < 2 → a ≠ b → (TJx40b00 a).2.1 ≠ (TJx40b00 b).2.1 := by decide +kernel
theorem tyJx40b00_ok : ∀ k, k < 2 → parseFieldDescriptor (TJx40b00 k).2.2.1 = some (tyJx40b00 k) := by decide +kernel
abbrev cJx40b00_init_da8c8 : ByteArray := prog_51_method_1_code
def yJx40b00_init_da8c8 : MethodName := ⟨RJx40b00, "<init>", "()V"⟩
abbrev cJx40b00_appendTo_8d9f2 : ByteArray := prog_51_method_3_code
def yJx40b00_appendTo_8d9f2 : MethodName := ⟨RJx40b00, "appendTo", "(FLjava/lang/Appendable;)Ljava/lang/Appendable;"⟩
abbrev cJx40b00_appendDecimalTo_8d9f2 : ByteArray := prog_51_method_5_code
def yJx40b00_appendDecimalTo_8d9f2 : MethodName := ⟨RJx40b00, "appendDecimalTo", "(FLjava/lang/Appendable;)Ljava/lang/Appendable;"⟩
abbrev cJx40b00_toDecimal_5c35a : ByteArray := prog_51_method_6_code
def yJx40b00_toDecimal_5c35a : MethodName := ⟨RJx40b00, "toDecimal", "(F)I"⟩
abbrev cJx40b00_toDecimal_cabcc : ByteArray := prog_51_method_7_code
def yJx40b00_toDecimal_cabcc : MethodName := ⟨RJx40b00, "toDecimal", "(III)I"⟩
abbrev cJx40b00_rop_74951 : ByteArray := prog_51_method_8_code
def yJx40b00_rop_74951 : MethodName := ⟨RJx40b00, "rop", "(JJ)I"⟩
abbrev cJx40b00_toChars_7cf53 : ByteArray := prog_51_method_9_code
def yJx40b00_toChars_7cf53 : MethodName := ⟨RJx40b00, "toChars", "(II)I"⟩
abbrev cJx40b00_toChars1_cabcc : ByteArray := prog_51_method_10_code
def yJx40b00_toChars1_cabcc : MethodName := ⟨RJx40b00, "toChars1", "(III)I"⟩
abbrev cJx40b00_toChars2_cabcc : ByteArray := prog_51_method_11_code
def yJx40b00_toChars2_cabcc : MethodName := ⟨RJx40b00, "toChars2", "(III)I"⟩
abbrev cJx40b00_toChars3_cabcc : ByteArray := prog_51_method_12_code
def yJx40b00_toChars3_cabcc : MethodName := ⟨RJx40b00, "toChars3", "(III)I"⟩
abbrev cJx40b00_append8Digits_d00df : ByteArray := prog_51_method_13_code
def yJx40b00_append8Digits_d00df : MethodName := ⟨RJx40b00, "append8Digits", "(I)V"⟩
abbrev cJx40b00_removeTrailingZeroes_da8c8 : ByteArray := prog_51_method_14_code
def yJx40b00_removeTrailingZeroes_da8c8 : MethodName := ⟨RJx40b00, "removeTrailingZeroes", "()V"⟩
abbrev cJx40b00_y_0f7a4 : ByteArray := prog_51_method_15_code
def yJx40b00_y_0f7a4 : MethodName := ⟨RJx40b00, "y", "(I)I"⟩
abbrev cJx40b00_exponent_d00df : ByteArray := prog_51_method_16_code
def yJx40b00_exponent_d00df : MethodName := ⟨RJx40b00, "exponent", "(I)V"⟩
abbrev cJx40b00_append_d00df : ByteArray := prog_51_method_17_code
def yJx40b00_append_d00df : MethodName := ⟨RJx40b00, "append", "(I)V"⟩
abbrev cJx40b00_appendDigit_d00df : ByteArray := prog_51_method_18_code
def yJx40b00_appendDigit_d00df : MethodName := ⟨RJx40b00, "appendDigit", "(I)V"⟩
def RJx25f51 : String := "jdk/internal/math/MathUtils"
def TJx25f51 : u_T := fun k => match k with
  | _ => ("", "", "", false)
def tyJx25f51 : Nat → FieldType := fun k => match k with
  | _ => .int
theorem nmJx25f51 : ∀ a, a < 0 → ∀ b, b < 0 → a ≠ b → (TJx25f51 a).2.1 ≠ (TJx25f51 b).2.1 := by decide +kernel
theorem tyJx25f51_ok : ∀ k, k < 0 → parseFieldDescriptor (TJx25f51 k).2.2.1 = some (tyJx25f51 k) := by decide +kernel
abbrev cJx25f51_pow10_3e8ac : ByteArray := prog_52_method_2_code
def yJx25f51_pow10_3e8ac : MethodName := ⟨RJx25f51, "pow10", "(I)J"⟩
abbrev cJx25f51_flog10pow2_0f7a4 : ByteArray := prog_52_method_3_code
def yJx25f51_flog10pow2_0f7a4 : MethodName := ⟨RJx25f51, "flog10pow2", "(I)I"⟩
abbrev cJx25f51_flog10threeQuartersPow2_0f7a4 : ByteArray := prog_52_method_4_code
def yJx25f51_flog10threeQuartersPow2_0f7a4 : MethodName := ⟨RJx25f51, "flog10threeQuartersPow2", "(I)I"⟩
abbrev cJx25f51_flog2pow10_0f7a4 : ByteArray := prog_52_method_5_code
def yJx25f51_flog2pow10_0f7a4 : MethodName := ⟨RJx25f51, "flog2pow10", "(I)I"⟩
abbrev cJx25f51_g1_3e8ac : ByteArray := prog_52_method_6_code
def yJx25f51_g1_3e8ac : MethodName := ⟨RJx25f51, "g1", "(I)J"⟩
def RJ8 : String := "jdk/internal/util/ArraysSupport"
def TJ8 : u_T := fun k => match k with
  | _ => ("", "", "", false)
def tyJ8 : Nat → FieldType := fun k => match k with
  | _ => .int
theorem nmJ8 : ∀ a, a < 0 → ∀ b, b < 0 → a ≠ b → (TJ8 a).2.1 ≠ (TJ8 b).2.1 := by decide +kernel
theorem tyJ8_ok : ∀ k, k < 0 → parseFieldDescriptor (TJ8 k).2.2.1 = some (tyJ8 k) := by decide +kernel
abbrev cJ8_newLength_cabcc : ByteArray := prog_53_method_27_code
def yJ8_newLength_cabcc : MethodName := ⟨RJ8, "newLength", "(III)I"⟩
abbrev cJ8_hugeLength_7cf53 : ByteArray := prog_53_method_28_code
def yJ8_hugeLength_7cf53 : MethodName := ⟨RJ8, "hugeLength", "(II)I"⟩
def RJ3 : String := "jdk/internal/util/Preconditions"
def TJ3 : u_T := fun k => match k with
  | _ => ("", "", "", false)
def tyJ3 : Nat → FieldType := fun k => match k with
  | _ => .int
theorem nmJ3 : ∀ a, a < 0 → ∀ b, b < 0 → a ≠ b → (TJ3 a).2.1 ≠ (TJ3 b).2.1 := by decide +kernel
theorem tyJ3_ok : ∀ k, k < 0 → parseFieldDescriptor (TJ3 k).2.2.1 = some (tyJ3 k) := by decide +kernel
abbrev cJ3_checkIndex_8e157 : ByteArray := prog_54_method_11_code
def yJ3_checkIndex_8e157 : MethodName := ⟨RJ3, "checkIndex", "(IILjava/util/function/BiFunction;)I"⟩
abbrev cJ3_checkFromToIndex_8c36e : ByteArray := prog_54_method_12_code
def yJ3_checkFromToIndex_8c36e : MethodName := ⟨RJ3, "checkFromToIndex", "(IIILjava/util/function/BiFunction;)I"⟩
abbrev cJ3_checkFromIndexSize_8c36e : ByteArray := prog_54_method_13_code
def yJ3_checkFromIndexSize_8c36e : MethodName := ⟨RJ3, "checkFromIndexSize", "(IIILjava/util/function/BiFunction;)I"⟩
def RL : String := "MinsterClockLaw"
abbrev cL_cell : ByteArray := method_2_code
def yL_cell : MethodName := ⟨RL, "cell", "([II)I"⟩
abbrev cL_addWheel : ByteArray := method_3_code
def yL_addWheel : MethodName := ⟨RL, "addWheel", "(LMinsterClock;II)I"⟩
abbrev cL_moved : ByteArray := method_4_code
def yL_moved : MethodName := ⟨RL, "moved", "(LMinsterClock;I)I"⟩
abbrev cL_wholeTurns : ByteArray := method_5_code
def yL_wholeTurns : MethodName := ⟨RL, "wholeTurns", "(LMinsterClock;I)I"⟩
abbrev cL_beatsForTurn : ByteArray := method_6_code
def yL_beatsForTurn : MethodName := ⟨RL, "beatsForTurn", "(LMinsterClock;I)D"⟩
abbrev cL_movedAhead : ByteArray := method_7_code
def yL_movedAhead : MethodName := ⟨RL, "movedAhead", "(LMinsterClock;II)I"⟩
abbrev cL_movedByBeats : ByteArray := method_8_code
def yL_movedByBeats : MethodName := ⟨RL, "movedByBeats", "(LMinsterClock;II)I"⟩
abbrev cL_setBeat : ByteArray := method_9_code
def yL_setBeat : MethodName := ⟨RL, "setBeat", "(LMinsterClock;II)I"⟩
abbrev cL_pass : ByteArray := method_10_code
def yL_pass : MethodName := ⟨RL, "pass", "(LMinsterClock;I)I"⟩
abbrev cL_owe : ByteArray := method_11_code
def yL_owe : MethodName := ⟨RL, "owe", "(LMinsterClock;I)I"⟩
abbrev cL_setBound : ByteArray := method_12_code
def yL_setBound : MethodName := ⟨RL, "setBound", "(LMinsterClock;I)I"⟩
abbrev cL_setDate : ByteArray := method_13_code
def yL_setDate : MethodName := ⟨RL, "setDate", "(LMinsterClock;III)I"⟩
abbrev cL_isLeap : ByteArray := method_14_code
def yL_isLeap : MethodName := ⟨RL, "isLeap", "(LMinsterClock;I)I"⟩
abbrev cL_numberOf : ByteArray := method_15_code
def yL_numberOf : MethodName := ⟨RL, "numberOf", "(LMinsterClock;III)J"⟩
abbrev cL_numberByCounting : ByteArray := method_16_code
def yL_numberByCounting : MethodName := ⟨RL, "numberByCounting", "(LMinsterClock;III)J"⟩
abbrev cL_setSilence : ByteArray := method_17_code
def yL_setSilence : MethodName := ⟨RL, "setSilence", "(LMinsterClock;II)I"⟩
abbrev cL_addDrum : ByteArray := method_18_code
def yL_addDrum : MethodName := ⟨RL, "addDrum", "(LMinsterClock;)I"⟩
abbrev cL_setPin : ByteArray := method_19_code
def yL_setPin : MethodName := ⟨RL, "setPin", "(LMinsterClock;IIIZ)I"⟩
abbrev cL_pins : ByteArray := method_20_code
def yL_pins : MethodName := ⟨RL, "pins", "(LMinsterClock;I)I"⟩
abbrev cL_bellAt : ByteArray := method_21_code
def yL_bellAt : MethodName := ⟨RL, "bellAt", "(LMinsterClock;II)I"⟩
abbrev cL_setTune : ByteArray := method_22_code
def yL_setTune : MethodName := ⟨RL, "setTune", "(LMinsterClock;II)I"⟩
abbrev cL_strokes : ByteArray := method_23_code
def yL_strokes : MethodName := ⟨RL, "strokes", "(LMinsterClock;I)I"⟩
abbrev cL_markAt : ByteArray := method_24_code
def yL_markAt : MethodName := ⟨RL, "markAt", "(LMinsterClock;I)I"⟩
abbrev cL_strokesAt : ByteArray := method_25_code
def yL_strokesAt : MethodName := ⟨RL, "strokesAt", "(LMinsterClock;I)I"⟩
abbrev cL_strokesAhead : ByteArray := method_26_code
def yL_strokesAhead : MethodName := ⟨RL, "strokesAhead", "(LMinsterClock;I)I"⟩
abbrev cL_strokesByBeats : ByteArray := method_27_code
def yL_strokesByBeats : MethodName := ⟨RL, "strokesByBeats", "(LMinsterClock;I)I"⟩
abbrev cL_struckShare : ByteArray := method_28_code
def yL_struckShare : MethodName := ⟨RL, "struckShare", "(LMinsterClock;)F"⟩
abbrev cL_acts : ByteArray := method_29_code
def yL_acts : MethodName := ⟨RL, "acts", "(LMinsterClock;ILMinsterClockLaw$Draw;)I"⟩
abbrev cL_told : ByteArray := method_30_code
def yL_told : MethodName := ⟨RL, "told", "(LMinsterClock;)Ljava/lang/String;"⟩
abbrev cL_ahead : ByteArray := method_31_code
def yL_ahead : MethodName := ⟨RL, "ahead", "(LMinsterClock;LMinsterClockLaw$Draw;)Z"⟩
abbrev cL_total : ByteArray := method_32_code
def yL_total : MethodName := ⟨RL, "total", "(LMinsterClock;)I"⟩
abbrev cL_logged : ByteArray := method_33_code
def yL_logged : MethodName := ⟨RL, "logged", "(LMinsterClock;)Z"⟩
abbrev cL_dated : ByteArray := method_34_code
def yL_dated : MethodName := ⟨RL, "dated", "(LMinsterClock;LMinsterClockLaw$Draw;)Z"⟩
abbrev cL_pinned : ByteArray := method_35_code
def yL_pinned : MethodName := ⟨RL, "pinned", "(LMinsterClock;I)Z"⟩
abbrev cL_law : ByteArray := code
def yL_law : MethodName := ⟨RL, "law", "([I)Z"⟩
abbrev vwCl : List vw_C := [(RJ0, TJ0, 4), (RJ4, TJ4, 4), (RJx00060, TJx00060, 6), (RJx4a65c, TJx4a65c, 3), (RJx40b00, TJx40b00, 2), (RX0, TX0, 6), (RX2, TX2, 3), (RX3, TX3, 4), (RX4, TX4, 3), (RX5, TX5, 4), (RX6, TX6, 1), (RX7, TX7, 5), (RX8, TX8, 9), (RX9, TX9, 1)]
