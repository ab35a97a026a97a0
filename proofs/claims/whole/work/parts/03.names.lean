/-! ===== BEGIN printed: names, fields, word lists, decode rows ===== -/
def RX0 : String := "MinsterClock$Bells"
def TX0 : u_T := fun k => match k with
  | 0 => ("MinsterClock$Bells", "drums", "Ljava/util/ArrayList;", true)
  | 1 => ("MinsterClock$Bells", "tunes", "[LMinsterClock$Drum;", true)
  | 2 => ("MinsterClock$Bells", "strokesOfBells", "[I", true)
  | 3 => ("MinsterClock$Bells", "silentFrom", "I", false)
  | 4 => ("MinsterClock$Bells", "silentTo", "I", false)
  | _ => ("MinsterClock$Bells", "areQuartersOn", "Z", false)
def tyX0 : Nat → FieldType := fun k => match k with
  | 0 => .object "java/util/ArrayList"
  | 1 => .array (.object "MinsterClock$Drum")
  | 2 => .array .int
  | 3 => .int
  | 4 => .int
  | _ => .boolean
theorem nmX0 : ∀ a, a < 6 → ∀ b, b < 6 → a ≠ b → (TX0 a).2.1 ≠ (TX0 b).2.1 := by decide +kernel
theorem tyX0_ok : ∀ k, k < 6 → parseFieldDescriptor (TX0 k).2.2.1 = some (tyX0 k) := by decide +kernel
abbrev cX0_init : ByteArray := prog_2_method_1_code
def yX0_init : MethodName := ⟨RX0, "<init>", "()V"⟩
abbrev cX0_drumCount : ByteArray := prog_2_method_2_code
def yX0_drumCount : MethodName := ⟨RX0, "drumCount", "()I"⟩
abbrev cX0_makeDrum : ByteArray := prog_2_method_3_code
def yX0_makeDrum : MethodName := ⟨RX0, "makeDrum", "()I"⟩
abbrev cX0_drumOrNull : ByteArray := prog_2_method_4_code
def yX0_drumOrNull : MethodName := ⟨RX0, "drumOrNull", "(I)LMinsterClock$Drum;"⟩
abbrev cX0_changeTune : ByteArray := prog_2_method_5_code
def yX0_changeTune : MethodName := ⟨RX0, "changeTune", "(ILMinsterClock$Drum;)LMinsterClock$Drum;"⟩
abbrev cX0_changeSilence : ByteArray := prog_2_method_6_code
def yX0_changeSilence : MethodName := ⟨RX0, "changeSilence", "(II)I"⟩
abbrev cX0_changeQuarters : ByteArray := prog_2_method_7_code
def yX0_changeQuarters : MethodName := ⟨RX0, "changeQuarters", "(Z)Z"⟩
abbrev cX0_strokesOfBell : ByteArray := prog_2_method_8_code
def yX0_strokesOfBell : MethodName := ⟨RX0, "strokesOfBell", "(I)I"⟩
abbrev cX0_strokesOfAllBells : ByteArray := prog_2_method_9_code
def yX0_strokesOfAllBells : MethodName := ⟨RX0, "strokesOfAllBells", "()J"⟩
abbrev cX0_strokesDue : ByteArray := prog_2_method_10_code
def yX0_strokesDue : MethodName := ⟨RX0, "strokesDue", "(I)I"⟩
abbrev cX0_ring : ByteArray := prog_2_method_11_code
def yX0_ring : MethodName := ⟨RX0, "ring", "(I)V"⟩
abbrev cX0_tuneOrNull : ByteArray := prog_2_method_12_code
def yX0_tuneOrNull : MethodName := ⟨RX0, "tuneOrNull", "(I)LMinsterClock$Drum;"⟩
abbrev cX0_isSilent : ByteArray := prog_2_method_13_code
def yX0_isSilent : MethodName := ⟨RX0, "isSilent", "(I)Z"⟩
abbrev cX0_strokesOfHour : ByteArray := prog_2_method_14_code
def yX0_strokesOfHour : MethodName := ⟨RX0, "strokesOfHour", "(I)I"⟩
abbrev cX0_quarterOf : ByteArray := prog_2_method_15_code
def yX0_quarterOf : MethodName := ⟨RX0, "quarterOf", "(I)I"⟩
def RX1 : String := "MinsterClock$Dates"
def TX1 : u_T := fun k => match k with
  | _ => ("", "", "", false)
def tyX1 : Nat → FieldType := fun k => match k with
  | _ => .int
theorem nmX1 : ∀ a, a < 0 → ∀ b, b < 0 → a ≠ b → (TX1 a).2.1 ≠ (TX1 b).2.1 := by decide +kernel
theorem tyX1_ok : ∀ k, k < 0 → parseFieldDescriptor (TX1 k).2.2.1 = some (tyX1 k) := by decide +kernel
abbrev cX1_hasLeapDay : ByteArray := prog_3_method_2_code
def yX1_hasLeapDay : MethodName := ⟨RX1, "hasLeapDay", "(I)Z"⟩
abbrev cX1_isDate : ByteArray := prog_3_method_3_code
def yX1_isDate : MethodName := ⟨RX1, "isDate", "(III)Z"⟩
abbrev cX1_numberByYears : ByteArray := prog_3_method_4_code
def yX1_numberByYears : MethodName := ⟨RX1, "numberByYears", "(III)J"⟩
abbrev cX1_numberOneByOne : ByteArray := prog_3_method_5_code
def yX1_numberOneByOne : MethodName := ⟨RX1, "numberOneByOne", "(III)J"⟩
abbrev cX1_weekdayOf : ByteArray := prog_3_method_6_code
def yX1_weekdayOf : MethodName := ⟨RX1, "weekdayOf", "(J)I"⟩
abbrev cX1_yearOf : ByteArray := prog_3_method_7_code
def yX1_yearOf : MethodName := ⟨RX1, "yearOf", "(J)I"⟩
abbrev cX1_monthOf : ByteArray := prog_3_method_8_code
def yX1_monthOf : MethodName := ⟨RX1, "monthOf", "(J)I"⟩
abbrev cX1_dayOf : ByteArray := prog_3_method_9_code
def yX1_dayOf : MethodName := ⟨RX1, "dayOf", "(J)I"⟩
abbrev cX1_daysOfMonth : ByteArray := prog_3_method_10_code
def yX1_daysOfMonth : MethodName := ⟨RX1, "daysOfMonth", "(II)I"⟩
abbrev cX1_daysBeforeMonth : ByteArray := prog_3_method_11_code
def yX1_daysBeforeMonth : MethodName := ⟨RX1, "daysBeforeMonth", "(II)I"⟩
abbrev cX1_daysBeforeYear : ByteArray := prog_3_method_12_code
def yX1_daysBeforeYear : MethodName := ⟨RX1, "daysBeforeYear", "(I)J"⟩
def RX2 : String := "MinsterClock$Drum"
def TX2 : u_T := fun k => match k with
  | 0 => ("MinsterClock$Drum", "number", "I", true)
  | 1 => ("MinsterClock$Drum", "bellsOfSteps", "[I", true)
  | _ => ("MinsterClock$Drum", "pins", "I", false)
def tyX2 : Nat → FieldType := fun k => match k with
  | 0 => .int
  | 1 => .array .int
  | _ => .int
theorem nmX2 : ∀ a, a < 3 → ∀ b, b < 3 → a ≠ b → (TX2 a).2.1 ≠ (TX2 b).2.1 := by decide +kernel
theorem tyX2_ok : ∀ k, k < 3 → parseFieldDescriptor (TX2 k).2.2.1 = some (tyX2 k) := by decide +kernel
abbrev cX2_init : ByteArray := prog_4_method_1_code
def yX2_init : MethodName := ⟨RX2, "<init>", "(I)V"⟩
abbrev cX2_ownNumber : ByteArray := prog_4_method_2_code
def yX2_ownNumber : MethodName := ⟨RX2, "ownNumber", "()I"⟩
abbrev cX2_pinCount : ByteArray := prog_4_method_3_code
def yX2_pinCount : MethodName := ⟨RX2, "pinCount", "()I"⟩
abbrev cX2_changePin : ByteArray := prog_4_method_4_code
def yX2_changePin : MethodName := ⟨RX2, "changePin", "(IIZ)Z"⟩
abbrev cX2_bellOfPin : ByteArray := prog_4_method_5_code
def yX2_bellOfPin : MethodName := ⟨RX2, "bellOfPin", "(I)I"⟩
abbrev cX2_play : ByteArray := prog_4_method_6_code
def yX2_play : MethodName := ⟨RX2, "play", "([I)V"⟩
abbrev cX2_hasPin : ByteArray := prog_4_method_7_code
def yX2_hasPin : MethodName := ⟨RX2, "hasPin", "(II)Z"⟩
def RX3 : String := "MinsterClock$Hands"
def TX3 : u_T := fun k => match k with
  | 0 => ("MinsterClock$Hands", "shown", "I", false)
  | 1 => ("MinsterClock$Hands", "owed", "I", false)
  | 2 => ("MinsterClock$Hands", "bound", "I", false)
  | _ => ("MinsterClock$Hands", "reached", "I", false)
def tyX3 : Nat → FieldType := fun k => match k with
  | 0 => .int
  | 1 => .int
  | 2 => .int
  | _ => .int
theorem nmX3 : ∀ a, a < 4 → ∀ b, b < 4 → a ≠ b → (TX3 a).2.1 ≠ (TX3 b).2.1 := by decide +kernel
theorem tyX3_ok : ∀ k, k < 4 → parseFieldDescriptor (TX3 k).2.2.1 = some (tyX3 k) := by decide +kernel
abbrev cX3_init : ByteArray := prog_5_method_1_code
def yX3_init : MethodName := ⟨RX3, "<init>", "()V"⟩
abbrev cX3_copyFrom : ByteArray := prog_5_method_2_code
def yX3_copyFrom : MethodName := ⟨RX3, "copyFrom", "(LMinsterClock$Hands;)V"⟩
abbrev cX3_seconds : ByteArray := prog_5_method_3_code
def yX3_seconds : MethodName := ⟨RX3, "seconds", "()I"⟩
abbrev cX3_owedSeconds : ByteArray := prog_5_method_4_code
def yX3_owedSeconds : MethodName := ⟨RX3, "owedSeconds", "()I"⟩
abbrev cX3_greatestMark : ByteArray := prog_5_method_5_code
def yX3_greatestMark : MethodName := ⟨RX3, "greatestMark", "()I"⟩
abbrev cX3_addOwed : ByteArray := prog_5_method_6_code
def yX3_addOwed : MethodName := ⟨RX3, "addOwed", "(I)I"⟩
abbrev cX3_changeBound : ByteArray := prog_5_method_7_code
def yX3_changeBound : MethodName := ⟨RX3, "changeBound", "(I)I"⟩
abbrev cX3_secondsToFullMinute : ByteArray := prog_5_method_8_code
def yX3_secondsToFullMinute : MethodName := ⟨RX3, "secondsToFullMinute", "()I"⟩
abbrev cX3_addSeconds : ByteArray := prog_5_method_9_code
def yX3_addSeconds : MethodName := ⟨RX3, "addSeconds", "(I)V"⟩
abbrev cX3_isFullMinute : ByteArray := prog_5_method_10_code
def yX3_isFullMinute : MethodName := ⟨RX3, "isFullMinute", "()Z"⟩
abbrev cX3_reachMark : ByteArray := prog_5_method_11_code
def yX3_reachMark : MethodName := ⟨RX3, "reachMark", "()Z"⟩
abbrev cX3_correct : ByteArray := prog_5_method_12_code
def yX3_correct : MethodName := ⟨RX3, "correct", "()V"⟩
def RX4 : String := "MinsterClock$Pace"
def TX4 : u_T := fun k => match k with
  | 0 => ("MinsterClock$Pace", "numerator", "I", false)
  | 1 => ("MinsterClock$Pace", "denominator", "I", false)
  | _ => ("MinsterClock$Pace", "rest", "I", false)
def tyX4 : Nat → FieldType := fun k => match k with
  | 0 => .int
  | 1 => .int
  | _ => .int
theorem nmX4 : ∀ a, a < 3 → ∀ b, b < 3 → a ≠ b → (TX4 a).2.1 ≠ (TX4 b).2.1 := by decide +kernel
theorem tyX4_ok : ∀ k, k < 3 → parseFieldDescriptor (TX4 k).2.2.1 = some (tyX4 k) := by decide +kernel
abbrev cX4_init : ByteArray := prog_6_method_1_code
def yX4_init : MethodName := ⟨RX4, "<init>", "()V"⟩
abbrev cX4_copyFrom : ByteArray := prog_6_method_2_code
def yX4_copyFrom : MethodName := ⟨RX4, "copyFrom", "(LMinsterClock$Pace;)V"⟩
abbrev cX4_change : ByteArray := prog_6_method_3_code
def yX4_change : MethodName := ⟨RX4, "change", "(II)I"⟩
abbrev cX4_secondsOf : ByteArray := prog_6_method_4_code
def yX4_secondsOf : MethodName := ⟨RX4, "secondsOf", "(I)I"⟩
abbrev cX4_letPass : ByteArray := prog_6_method_5_code
def yX4_letPass : MethodName := ⟨RX4, "letPass", "(I)I"⟩
def RX5 : String := "MinsterClock$StrikeLog"
def TX5 : u_T := fun k => match k with
  | 0 => ("MinsterClock$StrikeLog", "marks", "[I", true)
  | 1 => ("MinsterClock$StrikeLog", "strokesOfMarks", "[I", true)
  | 2 => ("MinsterClock$StrikeLog", "struck", "I", false)
  | _ => ("MinsterClock$StrikeLog", "allStrokes", "J", false)
def tyX5 : Nat → FieldType := fun k => match k with
  | 0 => .array .int
  | 1 => .array .int
  | 2 => .int
  | _ => .long
theorem nmX5 : ∀ a, a < 4 → ∀ b, b < 4 → a ≠ b → (TX5 a).2.1 ≠ (TX5 b).2.1 := by decide +kernel
theorem tyX5_ok : ∀ k, k < 4 → parseFieldDescriptor (TX5 k).2.2.1 = some (tyX5 k) := by decide +kernel
abbrev cX5_init : ByteArray := prog_7_method_1_code
def yX5_init : MethodName := ⟨RX5, "<init>", "()V"⟩
abbrev cX5_keep : ByteArray := prog_7_method_2_code
def yX5_keep : MethodName := ⟨RX5, "keep", "(II)V"⟩
abbrev cX5_struckMarks : ByteArray := prog_7_method_3_code
def yX5_struckMarks : MethodName := ⟨RX5, "struckMarks", "()I"⟩
abbrev cX5_keptMarks : ByteArray := prog_7_method_4_code
def yX5_keptMarks : MethodName := ⟨RX5, "keptMarks", "()I"⟩
abbrev cX5_strokesOfAllStrikes : ByteArray := prog_7_method_5_code
def yX5_strokesOfAllStrikes : MethodName := ⟨RX5, "strokesOfAllStrikes", "()J"⟩
abbrev cX5_markOfRank : ByteArray := prog_7_method_6_code
def yX5_markOfRank : MethodName := ⟨RX5, "markOfRank", "(I)I"⟩
abbrev cX5_strokesOfRank : ByteArray := prog_7_method_7_code
def yX5_strokesOfRank : MethodName := ⟨RX5, "strokesOfRank", "(I)I"⟩
abbrev cX5_rankOfMark : ByteArray := prog_7_method_8_code
def yX5_rankOfMark : MethodName := ⟨RX5, "rankOfMark", "(I)I"⟩
abbrev cX5_isFalling : ByteArray := prog_7_method_9_code
def yX5_isFalling : MethodName := ⟨RX5, "isFalling", "()Z"⟩
abbrev cX5_slotOf : ByteArray := prog_7_method_10_code
def yX5_slotOf : MethodName := ⟨RX5, "slotOf", "(I)I"⟩
def RX6 : String := "MinsterClock$Train"
def TX6 : u_T := fun k => match k with
  | _ => ("MinsterClock$Train", "wheels", "Ljava/util/ArrayList;", true)
def tyX6 : Nat → FieldType := fun k => match k with
  | _ => .object "java/util/ArrayList"
theorem nmX6 : ∀ a, a < 1 → ∀ b, b < 1 → a ≠ b → (TX6 a).2.1 ≠ (TX6 b).2.1 := by decide +kernel
theorem tyX6_ok : ∀ k, k < 1 → parseFieldDescriptor (TX6 k).2.2.1 = some (tyX6 k) := by decide +kernel
abbrev cX6_init : ByteArray := prog_8_method_1_code
def yX6_init : MethodName := ⟨RX6, "<init>", "()V"⟩
abbrev cX6_size : ByteArray := prog_8_method_2_code
def yX6_size : MethodName := ⟨RX6, "size", "()I"⟩
abbrev cX6_add : ByteArray := prog_8_method_3_code
def yX6_add : MethodName := ⟨RX6, "add", "(IIJ)I"⟩
abbrev cX6_movedByRatios : ByteArray := prog_8_method_4_code
def yX6_movedByRatios : MethodName := ⟨RX6, "movedByRatios", "(IJ)J"⟩
abbrev cX6_turnsByRatios : ByteArray := prog_8_method_5_code
def yX6_turnsByRatios : MethodName := ⟨RX6, "turnsByRatios", "(IJ)J"⟩
abbrev cX6_beatsOfTurn : ByteArray := prog_8_method_6_code
def yX6_beatsOfTurn : MethodName := ⟨RX6, "beatsOfTurn", "(I)D"⟩
abbrev cX6_movedByWalking : ByteArray := prog_8_method_7_code
def yX6_movedByWalking : MethodName := ⟨RX6, "movedByWalking", "(IJI)J"⟩
abbrev cX6_startWalk : ByteArray := prog_8_method_8_code
def yX6_startWalk : MethodName := ⟨RX6, "startWalk", "(IJ)J"⟩
abbrev cX6_walkOneBeat : ByteArray := prog_8_method_9_code
def yX6_walkOneBeat : MethodName := ⟨RX6, "walkOneBeat", "(I)J"⟩
abbrev cX6_teethOf : ByteArray := prog_8_method_10_code
def yX6_teethOf : MethodName := ⟨RX6, "teethOf", "(I)I"⟩
def RX7 : String := "MinsterClock$Wheel"
def TX7 : u_T := fun k => match k with
  | 0 => ("MinsterClock$Wheel", "teeth", "I", true)
  | 1 => ("MinsterClock$Wheel", "leaves", "I", true)
  | 2 => ("MinsterClock$Wheel", "teethBefore", "I", true)
  | 3 => ("MinsterClock$Wheel", "movedBeforeAtStart", "J", true)
  | _ => ("MinsterClock$Wheel", "walkRest", "J", false)
def tyX7 : Nat → FieldType := fun k => match k with
  | 0 => .int
  | 1 => .int
  | 2 => .int
  | 3 => .long
  | _ => .long
theorem nmX7 : ∀ a, a < 5 → ∀ b, b < 5 → a ≠ b → (TX7 a).2.1 ≠ (TX7 b).2.1 := by decide +kernel
theorem tyX7_ok : ∀ k, k < 5 → parseFieldDescriptor (TX7 k).2.2.1 = some (tyX7 k) := by decide +kernel
abbrev cX7_init : ByteArray := prog_9_method_1_code
def yX7_init : MethodName := ⟨RX7, "<init>", "(IIIJ)V"⟩
abbrev cX7_toothCount : ByteArray := prog_9_method_2_code
def yX7_toothCount : MethodName := ⟨RX7, "toothCount", "()I"⟩
abbrev cX7_leafCount : ByteArray := prog_9_method_3_code
def yX7_leafCount : MethodName := ⟨RX7, "leafCount", "()I"⟩
abbrev cX7_movedWhen : ByteArray := prog_9_method_4_code
def yX7_movedWhen : MethodName := ⟨RX7, "movedWhen", "(J)J"⟩
abbrev cX7_startWalk : ByteArray := prog_9_method_5_code
def yX7_startWalk : MethodName := ⟨RX7, "startWalk", "(J)V"⟩
abbrev cX7_walk : ByteArray := prog_9_method_6_code
def yX7_walk : MethodName := ⟨RX7, "walk", "(J)J"⟩
def RX8 : String := "MinsterClock"
def TX8 : u_T := fun k => match k with
  | 0 => ("MinsterClock", "train", "LMinsterClock$Train;", true)
  | 1 => ("MinsterClock", "pace", "LMinsterClock$Pace;", true)
  | 2 => ("MinsterClock", "hands", "LMinsterClock$Hands;", true)
  | 3 => ("MinsterClock", "bells", "LMinsterClock$Bells;", true)
  | 4 => ("MinsterClock", "log", "LMinsterClock$StrikeLog;", true)
  | 5 => ("MinsterClock", "trialPace", "LMinsterClock$Pace;", true)
  | 6 => ("MinsterClock", "trialHands", "LMinsterClock$Hands;", true)
  | 7 => ("MinsterClock", "beatsPassed", "J", false)
  | _ => ("MinsterClock", "dateOfShownZero", "J", false)
def tyX8 : Nat → FieldType := fun k => match k with
  | 0 => .object "MinsterClock$Train"
  | 1 => .object "MinsterClock$Pace"
  | 2 => .object "MinsterClock$Hands"
  | 3 => .object "MinsterClock$Bells"
  | 4 => .object "MinsterClock$StrikeLog"
  | 5 => .object "MinsterClock$Pace"
  | 6 => .object "MinsterClock$Hands"
  | 7 => .long
  | _ => .long
theorem nmX8 : ∀ a, a < 9 → ∀ b, b < 9 → a ≠ b → (TX8 a).2.1 ≠ (TX8 b).2.1 := by decide +kernel
theorem tyX8_ok : ∀ k, k < 9 → parseFieldDescriptor (TX8 k).2.2.1 = some (tyX8 k) := by decide +kernel
abbrev cX8_init : ByteArray := prog_1_method_1_code
def yX8_init : MethodName := ⟨RX8, "<init>", "()V"⟩
abbrev cX8_addWheel : ByteArray := prog_1_method_2_code
def yX8_addWheel : MethodName := ⟨RX8, "addWheel", "(II)I"⟩
abbrev cX8_wheels : ByteArray := prog_1_method_3_code
def yX8_wheels : MethodName := ⟨RX8, "wheels", "()I"⟩
abbrev cX8_moved : ByteArray := prog_1_method_4_code
def yX8_moved : MethodName := ⟨RX8, "moved", "(I)I"⟩
abbrev cX8_wholeTurns : ByteArray := prog_1_method_5_code
def yX8_wholeTurns : MethodName := ⟨RX8, "wholeTurns", "(I)I"⟩
abbrev cX8_beatsForTurn : ByteArray := prog_1_method_6_code
def yX8_beatsForTurn : MethodName := ⟨RX8, "beatsForTurn", "(I)D"⟩
abbrev cX8_movedAhead : ByteArray := prog_1_method_7_code
def yX8_movedAhead : MethodName := ⟨RX8, "movedAhead", "(II)I"⟩
abbrev cX8_movedByBeats : ByteArray := prog_1_method_8_code
def yX8_movedByBeats : MethodName := ⟨RX8, "movedByBeats", "(II)I"⟩
abbrev cX8_setBeat : ByteArray := prog_1_method_9_code
def yX8_setBeat : MethodName := ⟨RX8, "setBeat", "(II)I"⟩
abbrev cX8_pass : ByteArray := prog_1_method_10_code
def yX8_pass : MethodName := ⟨RX8, "pass", "(I)I"⟩
abbrev cX8_beats : ByteArray := prog_1_method_11_code
def yX8_beats : MethodName := ⟨RX8, "beats", "()J"⟩
abbrev cX8_shown : ByteArray := prog_1_method_12_code
def yX8_shown : MethodName := ⟨RX8, "shown", "()I"⟩
abbrev cX8_hour : ByteArray := prog_1_method_13_code
def yX8_hour : MethodName := ⟨RX8, "hour", "()I"⟩
abbrev cX8_minute : ByteArray := prog_1_method_14_code
def yX8_minute : MethodName := ⟨RX8, "minute", "()I"⟩
abbrev cX8_owe : ByteArray := prog_1_method_15_code
def yX8_owe : MethodName := ⟨RX8, "owe", "(I)I"⟩
abbrev cX8_setBound : ByteArray := prog_1_method_16_code
def yX8_setBound : MethodName := ⟨RX8, "setBound", "(I)I"⟩
abbrev cX8_setDate : ByteArray := prog_1_method_17_code
def yX8_setDate : MethodName := ⟨RX8, "setDate", "(III)I"⟩
abbrev cX8_year : ByteArray := prog_1_method_18_code
def yX8_year : MethodName := ⟨RX8, "year", "()I"⟩
abbrev cX8_month : ByteArray := prog_1_method_19_code
def yX8_month : MethodName := ⟨RX8, "month", "()I"⟩
abbrev cX8_day : ByteArray := prog_1_method_20_code
def yX8_day : MethodName := ⟨RX8, "day", "()I"⟩
abbrev cX8_weekday : ByteArray := prog_1_method_21_code
def yX8_weekday : MethodName := ⟨RX8, "weekday", "()I"⟩
abbrev cX8_isLeap : ByteArray := prog_1_method_22_code
def yX8_isLeap : MethodName := ⟨RX8, "isLeap", "(I)Z"⟩
abbrev cX8_numberOf : ByteArray := prog_1_method_23_code
def yX8_numberOf : MethodName := ⟨RX8, "numberOf", "(III)J"⟩
abbrev cX8_numberByCounting : ByteArray := prog_1_method_24_code
def yX8_numberByCounting : MethodName := ⟨RX8, "numberByCounting", "(III)J"⟩
abbrev cX8_setSilence : ByteArray := prog_1_method_25_code
def yX8_setSilence : MethodName := ⟨RX8, "setSilence", "(II)I"⟩
abbrev cX8_setQuarters : ByteArray := prog_1_method_26_code
def yX8_setQuarters : MethodName := ⟨RX8, "setQuarters", "(Z)Z"⟩
abbrev cX8_addDrum : ByteArray := prog_1_method_27_code
def yX8_addDrum : MethodName := ⟨RX8, "addDrum", "()I"⟩
abbrev cX8_setPin : ByteArray := prog_1_method_28_code
def yX8_setPin : MethodName := ⟨RX8, "setPin", "(IIIZ)Z"⟩
abbrev cX8_pins : ByteArray := prog_1_method_29_code
def yX8_pins : MethodName := ⟨RX8, "pins", "(I)I"⟩
abbrev cX8_bellAt : ByteArray := prog_1_method_30_code
def yX8_bellAt : MethodName := ⟨RX8, "bellAt", "(II)I"⟩
abbrev cX8_setTune : ByteArray := prog_1_method_31_code
def yX8_setTune : MethodName := ⟨RX8, "setTune", "(II)I"⟩
abbrev cX8_strokes : ByteArray := prog_1_method_32_code
def yX8_strokes : MethodName := ⟨RX8, "strokes", "(I)I"⟩
abbrev cX8_strikes : ByteArray := prog_1_method_33_code
def yX8_strikes : MethodName := ⟨RX8, "strikes", "()I"⟩
abbrev cX8_markAt : ByteArray := prog_1_method_34_code
def yX8_markAt : MethodName := ⟨RX8, "markAt", "(I)I"⟩
abbrev cX8_strokesAt : ByteArray := prog_1_method_35_code
def yX8_strokesAt : MethodName := ⟨RX8, "strokesAt", "(I)I"⟩
abbrev cX8_strokesAhead : ByteArray := prog_1_method_36_code
def yX8_strokesAhead : MethodName := ⟨RX8, "strokesAhead", "(I)I"⟩
abbrev cX8_strokesByBeats : ByteArray := prog_1_method_37_code
def yX8_strokesByBeats : MethodName := ⟨RX8, "strokesByBeats", "(I)I"⟩
abbrev cX8_struckShare : ByteArray := prog_1_method_38_code
def yX8_struckShare : MethodName := ⟨RX8, "struckShare", "()F"⟩
abbrev cX8_isOnce : ByteArray := prog_1_method_39_code
def yX8_isOnce : MethodName := ⟨RX8, "isOnce", "()Z"⟩
abbrev cX8_isWithin : ByteArray := prog_1_method_40_code
def yX8_isWithin : MethodName := ⟨RX8, "isWithin", "(III)Z"⟩
abbrev cX8_isHour : ByteArray := prog_1_method_41_code
def yX8_isHour : MethodName := ⟨RX8, "isHour", "(I)Z"⟩
abbrev cX8_hourOf : ByteArray := prog_1_method_42_code
def yX8_hourOf : MethodName := ⟨RX8, "hourOf", "(I)I"⟩
abbrev cX8_wholePart : ByteArray := prog_1_method_43_code
def yX8_wholePart : MethodName := ⟨RX8, "wholePart", "(JJ)J"⟩
abbrev cX8_requireWheel : ByteArray := prog_1_method_44_code
def yX8_requireWheel : MethodName := ⟨RX8, "requireWheel", "(I)V"⟩
abbrev cX8_requireBeats : ByteArray := prog_1_method_45_code
def yX8_requireBeats : MethodName := ⟨RX8, "requireBeats", "(I)V"⟩
abbrev cX8_requireDate : ByteArray := prog_1_method_46_code
def yX8_requireDate : MethodName := ⟨RX8, "requireDate", "(III)V"⟩
abbrev cX8_requireDrum : ByteArray := prog_1_method_47_code
def yX8_requireDrum : MethodName := ⟨RX8, "requireDrum", "(I)LMinsterClock$Drum;"⟩
abbrev cX8_wholeDaysShown : ByteArray := prog_1_method_48_code
def yX8_wholeDaysShown : MethodName := ⟨RX8, "wholeDaysShown", "()I"⟩
abbrev cX8_dateShown : ByteArray := prog_1_method_49_code
def yX8_dateShown : MethodName := ⟨RX8, "dateShown", "()J"⟩
abbrev cX8_countByMinutes : ByteArray := prog_1_method_50_code
def yX8_countByMinutes : MethodName := ⟨RX8, "countByMinutes", "(I)I"⟩
abbrev cX8_countBySeconds : ByteArray := prog_1_method_51_code
def yX8_countBySeconds : MethodName := ⟨RX8, "countBySeconds", "(I)I"⟩
abbrev cX8_goByMinutes : ByteArray := prog_1_method_52_code
def yX8_goByMinutes : MethodName := ⟨RX8, "goByMinutes", "(LMinsterClock$Hands;IZ)I"⟩
abbrev cX8_comeToFullMinute : ByteArray := prog_1_method_53_code
def yX8_comeToFullMinute : MethodName := ⟨RX8, "comeToFullMinute", "(LMinsterClock$Hands;Z)I"⟩
abbrev cX8_strike : ByteArray := prog_1_method_54_code
def yX8_strike : MethodName := ⟨RX8, "strike", "(LMinsterClock$Hands;)I"⟩
def RX9 : String := "MinsterClockModel"
def TX9 : u_T := fun k => match k with
  | 0 => ("MinsterClockModel", "thrown", "I", false)
  | 1 => ("MinsterClockModel", "wheels", "I", false)
  | 2 => ("MinsterClockModel", "numerator", "I", false)
  | 3 => ("MinsterClockModel", "denominator", "I", false)
  | 4 => ("MinsterClockModel", "rest", "I", false)
  | 5 => ("MinsterClockModel", "shown", "I", false)
  | 6 => ("MinsterClockModel", "owed", "I", false)
  | 7 => ("MinsterClockModel", "bound", "I", false)
  | 8 => ("MinsterClockModel", "reached", "I", false)
  | 9 => ("MinsterClockModel", "drums", "I", false)
  | 10 => ("MinsterClockModel", "struck", "I", false)
  | 11 => ("MinsterClockModel", "silentFrom", "I", false)
  | 12 => ("MinsterClockModel", "silentTo", "I", false)
  | 13 => ("MinsterClockModel", "logged", "I", false)
  | 14 => ("MinsterClockModel", "beats", "J", false)
  | 15 => ("MinsterClockModel", "firstDay", "J", false)
  | 16 => ("MinsterClockModel", "areQuarters", "Z", false)
  | 17 => ("MinsterClockModel", "isReal", "Z", false)
  | 18 => ("MinsterClockModel", "teeth", "[I", true)
  | 19 => ("MinsterClockModel", "leaves", "[I", true)
  | 20 => ("MinsterClockModel", "pins", "[I", true)
  | 21 => ("MinsterClockModel", "tune", "[I", true)
  | 22 => ("MinsterClockModel", "strokes", "[I", true)
  | 23 => ("MinsterClockModel", "logMark", "[I", true)
  | 24 => ("MinsterClockModel", "logStrokes", "[I", true)
  | _ => ("MinsterClockModel", "offset", "[J", true)
def tyX9 : Nat → FieldType := fun k => match k with
  | 0 => .int
  | 1 => .int
  | 2 => .int
  | 3 => .int
  | 4 => .int
  | 5 => .int
  | 6 => .int
  | 7 => .int
  | 8 => .int
  | 9 => .int
  | 10 => .int
  | 11 => .int
  | 12 => .int
  | 13 => .int
  | 14 => .long
  | 15 => .long
  | 16 => .boolean
  | 17 => .boolean
  | 18 => .array .int
  | 19 => .array .int
  | 20 => .array .int
  | 21 => .array .int
  | 22 => .array .int
  | 23 => .array .int
  | 24 => .array .int
  | _ => .array .long
theorem nmX9 : ∀ a, a < 26 → ∀ b, b < 26 → a ≠ b → (TX9 a).2.1 ≠ (TX9 b).2.1 := by decide +kernel
theorem tyX9_ok : ∀ k, k < 26 → parseFieldDescriptor (TX9 k).2.2.1 = some (tyX9 k) := by decide +kernel
abbrev cX9_init : ByteArray := prog_11_method_1_code
def yX9_init : MethodName := ⟨RX9, "<init>", "()V"⟩
abbrev cX9_thrown : ByteArray := prog_11_method_2_code
def yX9_thrown : MethodName := ⟨RX9, "thrown", "()I"⟩
abbrev cX9_fail : ByteArray := prog_11_method_3_code
def yX9_fail : MethodName := ⟨RX9, "fail", "(I)I"⟩
abbrev cX9_isIn : ByteArray := prog_11_method_4_code
def yX9_isIn : MethodName := ⟨RX9, "isIn", "(III)Z"⟩
abbrev cX9_movedAt : ByteArray := prog_11_method_5_code
def yX9_movedAt : MethodName := ⟨RX9, "movedAt", "(IJ)J"⟩
abbrev cX9_addWheel : ByteArray := prog_11_method_6_code
def yX9_addWheel : MethodName := ⟨RX9, "addWheel", "(II)I"⟩
abbrev cX9_wheels : ByteArray := prog_11_method_7_code
def yX9_wheels : MethodName := ⟨RX9, "wheels", "()I"⟩
abbrev cX9_noWheel : ByteArray := prog_11_method_8_code
def yX9_noWheel : MethodName := ⟨RX9, "noWheel", "(I)Z"⟩
abbrev cX9_moved : ByteArray := prog_11_method_9_code
def yX9_moved : MethodName := ⟨RX9, "moved", "(I)I"⟩
abbrev cX9_wholeTurns : ByteArray := prog_11_method_10_code
def yX9_wholeTurns : MethodName := ⟨RX9, "wholeTurns", "(I)I"⟩
abbrev cX9_beatsForTurn : ByteArray := prog_11_method_11_code
def yX9_beatsForTurn : MethodName := ⟨RX9, "beatsForTurn", "(I)D"⟩
abbrev cX9_movedAhead : ByteArray := prog_11_method_12_code
def yX9_movedAhead : MethodName := ⟨RX9, "movedAhead", "(II)I"⟩
abbrev cX9_movedByBeats : ByteArray := prog_11_method_13_code
def yX9_movedByBeats : MethodName := ⟨RX9, "movedByBeats", "(II)I"⟩
abbrev cX9_setBeat : ByteArray := prog_11_method_14_code
def yX9_setBeat : MethodName := ⟨RX9, "setBeat", "(II)I"⟩
abbrev cX9_isSilent : ByteArray := prog_11_method_15_code
def yX9_isSilent : MethodName := ⟨RX9, "isSilent", "(I)Z"⟩
abbrev cX9_rings : ByteArray := prog_11_method_16_code
def yX9_rings : MethodName := ⟨RX9, "rings", "(II)I"⟩
abbrev cX9_plays : ByteArray := prog_11_method_17_code
def yX9_plays : MethodName := ⟨RX9, "plays", "(I)I"⟩
abbrev cX9_strikes : ByteArray := prog_11_method_18_code
def yX9_strikes : MethodName := ⟨RX9, "strikes", "(I)I"⟩
abbrev cX9_goes : ByteArray := prog_11_method_19_code
def yX9_goes : MethodName := ⟨RX9, "goes", "(J)I"⟩
abbrev cX9_seconds : ByteArray := prog_11_method_20_code
def yX9_seconds : MethodName := ⟨RX9, "seconds", "(I)J"⟩
abbrev cX9_pass : ByteArray := prog_11_method_21_code
def yX9_pass : MethodName := ⟨RX9, "pass", "(I)I"⟩
abbrev cX9_beats : ByteArray := prog_11_method_22_code
def yX9_beats : MethodName := ⟨RX9, "beats", "()J"⟩
abbrev cX9_shown : ByteArray := prog_11_method_23_code
def yX9_shown : MethodName := ⟨RX9, "shown", "()I"⟩
abbrev cX9_hour : ByteArray := prog_11_method_24_code
def yX9_hour : MethodName := ⟨RX9, "hour", "()I"⟩
abbrev cX9_minute : ByteArray := prog_11_method_25_code
def yX9_minute : MethodName := ⟨RX9, "minute", "()I"⟩
abbrev cX9_owe : ByteArray := prog_11_method_26_code
def yX9_owe : MethodName := ⟨RX9, "owe", "(I)I"⟩
abbrev cX9_setBound : ByteArray := prog_11_method_27_code
def yX9_setBound : MethodName := ⟨RX9, "setBound", "(I)I"⟩
abbrev cX9_leaps : ByteArray := prog_11_method_28_code
def yX9_leaps : MethodName := ⟨RX9, "leaps", "(I)Z"⟩
abbrev cX9_days : ByteArray := prog_11_method_29_code
def yX9_days : MethodName := ⟨RX9, "days", "(II)I"⟩
abbrev cX9_before : ByteArray := prog_11_method_30_code
def yX9_before : MethodName := ⟨RX9, "before", "(I)J"⟩
abbrev cX9_number : ByteArray := prog_11_method_31_code
def yX9_number : MethodName := ⟨RX9, "number", "(III)J"⟩
abbrev cX9_isDate : ByteArray := prog_11_method_32_code
def yX9_isDate : MethodName := ⟨RX9, "isDate", "(III)Z"⟩
abbrev cX9_setDate : ByteArray := prog_11_method_33_code
def yX9_setDate : MethodName := ⟨RX9, "setDate", "(III)I"⟩
abbrev cX9_today : ByteArray := prog_11_method_34_code
def yX9_today : MethodName := ⟨RX9, "today", "()J"⟩
abbrev cX9_year : ByteArray := prog_11_method_35_code
def yX9_year : MethodName := ⟨RX9, "year", "()I"⟩
abbrev cX9_month : ByteArray := prog_11_method_36_code
def yX9_month : MethodName := ⟨RX9, "month", "()I"⟩
abbrev cX9_day : ByteArray := prog_11_method_37_code
def yX9_day : MethodName := ⟨RX9, "day", "()I"⟩
abbrev cX9_weekday : ByteArray := prog_11_method_38_code
def yX9_weekday : MethodName := ⟨RX9, "weekday", "()I"⟩
abbrev cX9_isLeap : ByteArray := prog_11_method_39_code
def yX9_isLeap : MethodName := ⟨RX9, "isLeap", "(I)Z"⟩
abbrev cX9_numberOf : ByteArray := prog_11_method_40_code
def yX9_numberOf : MethodName := ⟨RX9, "numberOf", "(III)J"⟩
abbrev cX9_numberByCounting : ByteArray := prog_11_method_41_code
def yX9_numberByCounting : MethodName := ⟨RX9, "numberByCounting", "(III)J"⟩
abbrev cX9_setSilence : ByteArray := prog_11_method_42_code
def yX9_setSilence : MethodName := ⟨RX9, "setSilence", "(II)I"⟩
abbrev cX9_setQuarters : ByteArray := prog_11_method_43_code
def yX9_setQuarters : MethodName := ⟨RX9, "setQuarters", "(Z)Z"⟩
abbrev cX9_addDrum : ByteArray := prog_11_method_44_code
def yX9_addDrum : MethodName := ⟨RX9, "addDrum", "()I"⟩
abbrev cX9_noDrum : ByteArray := prog_11_method_45_code
def yX9_noDrum : MethodName := ⟨RX9, "noDrum", "(I)Z"⟩
abbrev cX9_setPin : ByteArray := prog_11_method_46_code
def yX9_setPin : MethodName := ⟨RX9, "setPin", "(IIIZ)Z"⟩
abbrev cX9_pins : ByteArray := prog_11_method_47_code
def yX9_pins : MethodName := ⟨RX9, "pins", "(I)I"⟩
abbrev cX9_bellAt : ByteArray := prog_11_method_48_code
def yX9_bellAt : MethodName := ⟨RX9, "bellAt", "(II)I"⟩
abbrev cX9_setTune : ByteArray := prog_11_method_49_code
def yX9_setTune : MethodName := ⟨RX9, "setTune", "(II)I"⟩
abbrev cX9_strokes : ByteArray := prog_11_method_50_code
def yX9_strokes : MethodName := ⟨RX9, "strokes", "(I)I"⟩
abbrev cX9_strikes_ : ByteArray := prog_11_method_51_code
def yX9_strikes_ : MethodName := ⟨RX9, "strikes", "()I"⟩
abbrev cX9_kept : ByteArray := prog_11_method_52_code
def yX9_kept : MethodName := ⟨RX9, "kept", "()I"⟩
abbrev cX9_markAt : ByteArray := prog_11_method_53_code
def yX9_markAt : MethodName := ⟨RX9, "markAt", "(I)I"⟩
abbrev cX9_strokesAt : ByteArray := prog_11_method_54_code
def yX9_strokesAt : MethodName := ⟨RX9, "strokesAt", "(I)I"⟩
abbrev cX9_strokesAhead : ByteArray := prog_11_method_55_code
def yX9_strokesAhead : MethodName := ⟨RX9, "strokesAhead", "(I)I"⟩
abbrev cX9_strokesByBeats : ByteArray := prog_11_method_56_code
def yX9_strokesByBeats : MethodName := ⟨RX9, "strokesByBeats", "(I)I"⟩
abbrev cX9_struckShare : ByteArray := prog_11_method_57_code
def yX9_struckShare : MethodName := ⟨RX9, "struckShare", "()F"⟩
abbrev cX9_isOnce : ByteArray := prog_11_method_58_code
def yX9_isOnce : MethodName := ⟨RX9, "isOnce", "()Z"⟩
def RJx145de : String := "java/io/Serializable"
def TJx145de : u_T := fun k => match k with
  | _ => ("", "", "", false)
def tyJx145de : Nat → FieldType := fun k => match k with
  | _ => .int
theorem nmJx145de : ∀ a, a < 0 → ∀ b, b < 0 → a ≠ b → (TJx145de a).2.1 ≠ (TJx145de b).2.1 := by decide +kernel
theorem tyJx145de_ok : ∀ k, k < 0 → parseFieldDescriptor (TJx145de k).2.2.1 = some (tyJx145de k) := by decide +kernel
def RJx00060 : String := "java/lang/ArrayIndexOutOfBoundsException"
def TJx00060 : u_T := fun k => match k with
  | 0 => ("java/lang/Throwable", "backtrace", "Ljava/lang/Object;", false)
  | 1 => ("java/lang/Throwable", "detailMessage", "Ljava/lang/String;", false)
  | 2 => ("java/lang/Throwable", "cause", "Ljava/lang/Throwable;", false)
  | 3 => ("java/lang/Throwable", "stackTrace", "[Ljava/lang/StackTraceElement;", false)
  | 4 => ("java/lang/Throwable", "depth", "I", false)
  | _ => ("java/lang/Throwable", "suppressedExceptions", "Ljava/util/List;", false)
def tyJx00060 : Nat → FieldType := fun k => match k with
  | 0 => .object "java/lang/Object"
  | 1 => .object "java/lang/String"
  | 2 => .object "java/lang/Throwable"
  | 3 => .array (.object "java/lang/StackTraceElement")
  | 4 => .int
  | _ => .object "java/util/List"
theorem nmJx00060 : ∀ a, a < 6 → ∀ b, b < 6 → a ≠ b → (TJx00060 a).2.1 ≠ (TJx00060 b).2.1 := by decide +kernel
theorem tyJx00060_ok : ∀ k, k < 6 → parseFieldDescriptor (TJx00060 k).2.2.1 = some (tyJx00060 k) := by decide +kernel
abbrev cJx00060_init_a7421 : ByteArray := prog_14_method_2_code
def yJx00060_init_a7421 : MethodName := ⟨RJx00060, "<init>", "(Ljava/lang/String;)V"⟩
def RJx8e188 : String := "java/lang/Cloneable"
def TJx8e188 : u_T := fun k => match k with
  | _ => ("", "", "", false)
def tyJx8e188 : Nat → FieldType := fun k => match k with
  | _ => .int
theorem nmJx8e188 : ∀ a, a < 0 → ∀ b, b < 0 → a ≠ b → (TJx8e188 a).2.1 ≠ (TJx8e188 b).2.1 := by decide +kernel
theorem tyJx8e188_ok : ∀ k, k < 0 → parseFieldDescriptor (TJx8e188 k).2.2.1 = some (tyJx8e188 k) := by decide +kernel
def RJ6 : String := "java/lang/Integer"
def TJ6 : u_T := fun k => match k with
  | _ => ("", "", "", false)
def tyJ6 : Nat → FieldType := fun k => match k with
  | _ => .int
theorem nmJ6 : ∀ a, a < 0 → ∀ b, b < 0 → a ≠ b → (TJ6 a).2.1 ≠ (TJ6 b).2.1 := by decide +kernel
theorem tyJ6_ok : ∀ k, k < 0 → parseFieldDescriptor (TJ6 k).2.2.1 = some (tyJ6 k) := by decide +kernel
abbrev cJ6_bitCount_0f7a4 : ByteArray := prog_20_method_49_code
def yJ6_bitCount_0f7a4 : MethodName := ⟨RJ6, "bitCount", "(I)I"⟩
def RJxab1ab : String := "java/lang/Iterable"
def TJxab1ab : u_T := fun k => match k with
  | _ => ("", "", "", false)
def tyJxab1ab : Nat → FieldType := fun k => match k with
  | _ => .int
theorem nmJxab1ab : ∀ a, a < 0 → ∀ b, b < 0 → a ≠ b → (TJxab1ab a).2.1 ≠ (TJxab1ab b).2.1 := by decide +kernel
theorem tyJxab1ab_ok : ∀ k, k < 0 → parseFieldDescriptor (TJxab1ab k).2.2.1 = some (tyJxab1ab k) := by decide +kernel
def RJ9 : String := "java/lang/Math"
def TJ9 : u_T := fun k => match k with
  | _ => ("", "", "", false)
def tyJ9 : Nat → FieldType := fun k => match k with
  | _ => .int
theorem nmJ9 : ∀ a, a < 0 → ∀ b, b < 0 → a ≠ b → (TJ9 a).2.1 ≠ (TJ9 b).2.1 := by decide +kernel
theorem tyJ9_ok : ∀ k, k < 0 → parseFieldDescriptor (TJ9 k).2.2.1 = some (tyJ9 k) := by decide +kernel
abbrev cJ9_floorDiv_7cf53 : ByteArray := prog_22_method_47_code
def yJ9_floorDiv_7cf53 : MethodName := ⟨RJ9, "floorDiv", "(II)I"⟩
abbrev cJ9_floorDiv_f86c9 : ByteArray := prog_22_method_49_code
def yJ9_floorDiv_f86c9 : MethodName := ⟨RJ9, "floorDiv", "(JJ)J"⟩
abbrev cJ9_floorMod_7cf53 : ByteArray := prog_22_method_50_code
def yJ9_floorMod_7cf53 : MethodName := ⟨RJ9, "floorMod", "(II)I"⟩
abbrev cJ9_floorMod_f86c9 : ByteArray := prog_22_method_52_code
def yJ9_floorMod_f86c9 : MethodName := ⟨RJ9, "floorMod", "(JJ)J"⟩
abbrev cJ9_max_7cf53 : ByteArray := prog_22_method_65_code
def yJ9_max_7cf53 : MethodName := ⟨RJ9, "max", "(II)I"⟩
abbrev cJ9_min_7cf53 : ByteArray := prog_22_method_69_code
def yJ9_min_7cf53 : MethodName := ⟨RJ9, "min", "(II)I"⟩
abbrev cJ9_min_f86c9 : ByteArray := prog_22_method_70_code
def yJ9_min_f86c9 : MethodName := ⟨RJ9, "min", "(JJ)J"⟩
def RJ0 : String := "java/lang/String"
def TJ0 : u_T := fun k => match k with
  | 0 => ("java/lang/String", "value", "[B", true)
  | _ => ("java/lang/String", "coder", "B", true)
def tyJ0 : Nat → FieldType := fun k => match k with
  | 0 => .array .byte
  | _ => .byte
theorem nmJ0 : ∀ a, a < 2 → ∀ b, b < 2 → a ≠ b → (TJ0 a).2.1 ≠ (TJ0 b).2.1 := by decide +kernel
theorem tyJ0_ok : ∀ k, k < 2 → parseFieldDescriptor (TJ0 k).2.2.1 = some (tyJ0 k) := by decide +kernel
def RJ10 : String := "java/lang/System"
def TJ10 : u_T := fun k => match k with
  | _ => ("", "", "", false)
def tyJ10 : Nat → FieldType := fun k => match k with
  | _ => .int
theorem nmJ10 : ∀ a, a < 0 → ∀ b, b < 0 → a ≠ b → (TJ10 a).2.1 ≠ (TJ10 b).2.1 := by decide +kernel
theorem tyJ10_ok : ∀ k, k < 0 → parseFieldDescriptor (TJ10 k).2.2.1 = some (tyJ10 k) := by decide +kernel
def RJxa1e45 : String := "java/util/AbstractCollection"
def TJxa1e45 : u_T := fun k => match k with
  | _ => ("", "", "", false)
def tyJxa1e45 : Nat → FieldType := fun k => match k with
  | _ => .int
theorem nmJxa1e45 : ∀ a, a < 0 → ∀ b, b < 0 → a ≠ b → (TJxa1e45 a).2.1 ≠ (TJxa1e45 b).2.1 := by decide +kernel
theorem tyJxa1e45_ok : ∀ k, k < 0 → parseFieldDescriptor (TJxa1e45 k).2.2.1 = some (tyJxa1e45 k) := by decide +kernel
abbrev cJxa1e45_init_da8c8 : ByteArray := prog_27_method_1_code
def yJxa1e45_init_da8c8 : MethodName := ⟨RJxa1e45, "<init>", "()V"⟩
def RJxc12de : String := "java/util/AbstractList"
def TJxc12de : u_T := fun k => match k with
  | _ => ("", "", "", false)
def tyJxc12de : Nat → FieldType := fun k => match k with
  | _ => .int
theorem nmJxc12de : ∀ a, a < 0 → ∀ b, b < 0 → a ≠ b → (TJxc12de a).2.1 ≠ (TJxc12de b).2.1 := by decide +kernel
theorem tyJxc12de_ok : ∀ k, k < 0 → parseFieldDescriptor (TJxc12de k).2.2.1 = some (tyJxc12de k) := by decide +kernel
abbrev cJxc12de_init_da8c8 : ByteArray := prog_28_method_1_code
def yJxc12de_init_da8c8 : MethodName := ⟨RJxc12de, "<init>", "()V"⟩
def RJx4a65c : String := "java/util/ArrayList"
def TJx4a65c : u_T := fun k => match k with
  | 0 => ("java/util/AbstractList", "modCount", "I", false)
  | 1 => ("java/util/ArrayList", "elementData", "[Ljava/lang/Object;", false)
  | _ => ("java/util/ArrayList", "size", "I", false)
def tyJx4a65c : Nat → FieldType := fun k => match k with
  | 0 => .int
  | 1 => .array (.object "java/lang/Object")
  | _ => .int
theorem nmJx4a65c : ∀ a, a < 3 → ∀ b, b < 3 → a ≠ b → (TJx4a65c a).2.1 ≠ (TJx4a65c b).2.1 := by decide +kernel
theorem tyJx4a65c_ok : ∀ k, k < 3 → parseFieldDescriptor (TJx4a65c k).2.2.1 = some (tyJx4a65c k) := by decide +kernel
abbrev cJx4a65c_init_da8c8 : ByteArray := prog_29_method_2_code
def yJx4a65c_init_da8c8 : MethodName := ⟨RJx4a65c, "<init>", "()V"⟩
abbrev cJx4a65c_grow_92f84 : ByteArray := prog_29_method_6_code
def yJx4a65c_grow_92f84 : MethodName := ⟨RJx4a65c, "grow", "(I)[Ljava/lang/Object;"⟩
abbrev cJx4a65c_grow_d5877 : ByteArray := prog_29_method_7_code
def yJx4a65c_grow_d5877 : MethodName := ⟨RJx4a65c, "grow", "()[Ljava/lang/Object;"⟩
abbrev cJx4a65c_size_8abf5 : ByteArray := prog_29_method_8_code
def yJx4a65c_size_8abf5 : MethodName := ⟨RJx4a65c, "size", "()I"⟩
abbrev cJx4a65c_elementData_915e3 : ByteArray := prog_29_method_18_code
def yJx4a65c_elementData_915e3 : MethodName := ⟨RJx4a65c, "elementData", "(I)Ljava/lang/Object;"⟩
abbrev cJx4a65c_get_915e3 : ByteArray := prog_29_method_20_code
def yJx4a65c_get_915e3 : MethodName := ⟨RJx4a65c, "get", "(I)Ljava/lang/Object;"⟩
abbrev cJx4a65c_add_72be8 : ByteArray := prog_29_method_24_code
def yJx4a65c_add_72be8 : MethodName := ⟨RJx4a65c, "add", "(Ljava/lang/Object;[Ljava/lang/Object;I)V"⟩
abbrev cJx4a65c_add_9ea2d : ByteArray := prog_29_method_25_code
def yJx4a65c_add_9ea2d : MethodName := ⟨RJx4a65c, "add", "(Ljava/lang/Object;)Z"⟩
def RJ7 : String := "java/util/Arrays"
def TJ7 : u_T := fun k => match k with
  | _ => ("", "", "", false)
def tyJ7 : Nat → FieldType := fun k => match k with
  | _ => .int
theorem nmJ7 : ∀ a, a < 0 → ∀ b, b < 0 → a ≠ b → (TJ7 a).2.1 ≠ (TJ7 b).2.1 := by decide +kernel
theorem tyJ7_ok : ∀ k, k < 0 → parseFieldDescriptor (TJ7 k).2.2.1 = some (tyJ7 k) := by decide +kernel
abbrev cJ7_copyOf_1904c : ByteArray := prog_30_method_119_code
def yJ7_copyOf_1904c : MethodName := ⟨RJ7, "copyOf", "([Ljava/lang/Object;I)[Ljava/lang/Object;"⟩
abbrev cJ7_copyOf_6403c : ByteArray := prog_30_method_120_code
def yJ7_copyOf_6403c : MethodName := ⟨RJ7, "copyOf", "([Ljava/lang/Object;ILjava/lang/Class;)[Ljava/lang/Object;"⟩
def RJx5ef63 : String := "java/util/Collection"
def TJx5ef63 : u_T := fun k => match k with
  | _ => ("", "", "", false)
def tyJx5ef63 : Nat → FieldType := fun k => match k with
  | _ => .int
theorem nmJx5ef63 : ∀ a, a < 0 → ∀ b, b < 0 → a ≠ b → (TJx5ef63 a).2.1 ≠ (TJx5ef63 b).2.1 := by decide +kernel
theorem tyJx5ef63_ok : ∀ k, k < 0 → parseFieldDescriptor (TJx5ef63 k).2.2.1 = some (tyJx5ef63 k) := by decide +kernel
def RJxbd725 : String := "java/util/List"
def TJxbd725 : u_T := fun k => match k with
  | _ => ("", "", "", false)
def tyJxbd725 : Nat → FieldType := fun k => match k with
  | _ => .int
theorem nmJxbd725 : ∀ a, a < 0 → ∀ b, b < 0 → a ≠ b → (TJxbd725 a).2.1 ≠ (TJxbd725 b).2.1 := by decide +kernel
theorem tyJxbd725_ok : ∀ k, k < 0 → parseFieldDescriptor (TJxbd725 k).2.2.1 = some (tyJxbd725 k) := by decide +kernel
def RJ15 : String := "java/util/Objects"
def TJ15 : u_T := fun k => match k with
  | _ => ("", "", "", false)
def tyJ15 : Nat → FieldType := fun k => match k with
  | _ => .int
theorem nmJ15 : ∀ a, a < 0 → ∀ b, b < 0 → a ≠ b → (TJ15 a).2.1 ≠ (TJ15 b).2.1 := by decide +kernel
theorem tyJ15_ok : ∀ k, k < 0 → parseFieldDescriptor (TJ15 k).2.2.1 = some (tyJ15 k) := by decide +kernel
abbrev cJ15_checkIndex_7cf53 : ByteArray := prog_34_method_17_code
def yJ15_checkIndex_7cf53 : MethodName := ⟨RJ15, "checkIndex", "(II)I"⟩
def RJxf0a74 : String := "java/util/RandomAccess"
def TJxf0a74 : u_T := fun k => match k with
  | _ => ("", "", "", false)
def tyJxf0a74 : Nat → FieldType := fun k => match k with
  | _ => .int
theorem nmJxf0a74 : ∀ a, a < 0 → ∀ b, b < 0 → a ≠ b → (TJxf0a74 a).2.1 ≠ (TJxf0a74 b).2.1 := by decide +kernel
theorem tyJxf0a74_ok : ∀ k, k < 0 → parseFieldDescriptor (TJxf0a74 k).2.2.1 = some (tyJxf0a74 k) := by decide +kernel
def RJxa66e6 : String := "java/util/SequencedCollection"
def TJxa66e6 : u_T := fun k => match k with
  | _ => ("", "", "", false)
def tyJxa66e6 : Nat → FieldType := fun k => match k with
  | _ => .int
theorem nmJxa66e6 : ∀ a, a < 0 → ∀ b, b < 0 → a ≠ b → (TJxa66e6 a).2.1 ≠ (TJxa66e6 b).2.1 := by decide +kernel
theorem tyJxa66e6_ok : ∀ k, k < 0 → parseFieldDescriptor (TJxa66e6 k).2.2.1 = some (tyJxa66e6 k) := by decide +kernel
def RJ8 : String := "jdk/internal/util/ArraysSupport"
def TJ8 : u_T := fun k => match k with
  | _ => ("", "", "", false)
def tyJ8 : Nat → FieldType := fun k => match k with
  | _ => .int
theorem nmJ8 : ∀ a, a < 0 → ∀ b, b < 0 → a ≠ b → (TJ8 a).2.1 ≠ (TJ8 b).2.1 := by decide +kernel
theorem tyJ8_ok : ∀ k, k < 0 → parseFieldDescriptor (TJ8 k).2.2.1 = some (tyJ8 k) := by decide +kernel
abbrev cJ8_newLength_cabcc : ByteArray := prog_37_method_27_code
def yJ8_newLength_cabcc : MethodName := ⟨RJ8, "newLength", "(III)I"⟩
abbrev cJ8_hugeLength_7cf53 : ByteArray := prog_37_method_28_code
def yJ8_hugeLength_7cf53 : MethodName := ⟨RJ8, "hugeLength", "(II)I"⟩
def RJ3 : String := "jdk/internal/util/Preconditions"
def TJ3 : u_T := fun k => match k with
  | _ => ("", "", "", false)
def tyJ3 : Nat → FieldType := fun k => match k with
  | _ => .int
theorem nmJ3 : ∀ a, a < 0 → ∀ b, b < 0 → a ≠ b → (TJ3 a).2.1 ≠ (TJ3 b).2.1 := by decide +kernel
theorem tyJ3_ok : ∀ k, k < 0 → parseFieldDescriptor (TJ3 k).2.2.1 = some (tyJ3 k) := by decide +kernel
abbrev cJ3_checkIndex_8e157 : ByteArray := prog_38_method_11_code
def yJ3_checkIndex_8e157 : MethodName := ⟨RJ3, "checkIndex", "(IILjava/util/function/BiFunction;)I"⟩
def RL : String := "MinsterClockLaw"
abbrev cL_addWheel : ByteArray := method_3_code
def yL_addWheel : MethodName := ⟨RL, "addWheel", "(LMinsterClock;II[J)I"⟩
abbrev cL_moved : ByteArray := method_4_code
def yL_moved : MethodName := ⟨RL, "moved", "(LMinsterClock;I[J)I"⟩
abbrev cL_wholeTurns : ByteArray := method_5_code
def yL_wholeTurns : MethodName := ⟨RL, "wholeTurns", "(LMinsterClock;I[J)I"⟩
abbrev cL_beatsForTurn : ByteArray := method_6_code
def yL_beatsForTurn : MethodName := ⟨RL, "beatsForTurn", "(LMinsterClock;I[D)I"⟩
abbrev cL_movedAhead : ByteArray := method_7_code
def yL_movedAhead : MethodName := ⟨RL, "movedAhead", "(LMinsterClock;II[J)I"⟩
abbrev cL_movedByBeats : ByteArray := method_8_code
def yL_movedByBeats : MethodName := ⟨RL, "movedByBeats", "(LMinsterClock;II[J)I"⟩
abbrev cL_setBeat : ByteArray := method_9_code
def yL_setBeat : MethodName := ⟨RL, "setBeat", "(LMinsterClock;II[J)I"⟩
abbrev cL_pass : ByteArray := method_10_code
def yL_pass : MethodName := ⟨RL, "pass", "(LMinsterClock;I[J)I"⟩
abbrev cL_owe : ByteArray := method_11_code
def yL_owe : MethodName := ⟨RL, "owe", "(LMinsterClock;I[J)I"⟩
abbrev cL_setBound : ByteArray := method_12_code
def yL_setBound : MethodName := ⟨RL, "setBound", "(LMinsterClock;I[J)I"⟩
abbrev cL_setDate : ByteArray := method_13_code
def yL_setDate : MethodName := ⟨RL, "setDate", "(LMinsterClock;III[J)I"⟩
abbrev cL_isLeap : ByteArray := method_14_code
def yL_isLeap : MethodName := ⟨RL, "isLeap", "(LMinsterClock;I[J)I"⟩
abbrev cL_numberOf : ByteArray := method_15_code
def yL_numberOf : MethodName := ⟨RL, "numberOf", "(LMinsterClock;III[J)I"⟩
abbrev cL_numberByCounting : ByteArray := method_16_code
def yL_numberByCounting : MethodName := ⟨RL, "numberByCounting", "(LMinsterClock;III[J)I"⟩
abbrev cL_setSilence : ByteArray := method_17_code
def yL_setSilence : MethodName := ⟨RL, "setSilence", "(LMinsterClock;II[J)I"⟩
abbrev cL_addDrum : ByteArray := method_18_code
def yL_addDrum : MethodName := ⟨RL, "addDrum", "(LMinsterClock;[J)I"⟩
abbrev cL_setPin : ByteArray := method_19_code
def yL_setPin : MethodName := ⟨RL, "setPin", "(LMinsterClock;IIIZ[J)I"⟩
abbrev cL_pins : ByteArray := method_20_code
def yL_pins : MethodName := ⟨RL, "pins", "(LMinsterClock;I[J)I"⟩
abbrev cL_bellAt : ByteArray := method_21_code
def yL_bellAt : MethodName := ⟨RL, "bellAt", "(LMinsterClock;II[J)I"⟩
abbrev cL_setTune : ByteArray := method_22_code
def yL_setTune : MethodName := ⟨RL, "setTune", "(LMinsterClock;II[J)I"⟩
abbrev cL_strokes : ByteArray := method_23_code
def yL_strokes : MethodName := ⟨RL, "strokes", "(LMinsterClock;I[J)I"⟩
abbrev cL_markAt : ByteArray := method_24_code
def yL_markAt : MethodName := ⟨RL, "markAt", "(LMinsterClock;I[J)I"⟩
abbrev cL_strokesAt : ByteArray := method_25_code
def yL_strokesAt : MethodName := ⟨RL, "strokesAt", "(LMinsterClock;I[J)I"⟩
abbrev cL_strokesAhead : ByteArray := method_26_code
def yL_strokesAhead : MethodName := ⟨RL, "strokesAhead", "(LMinsterClock;I[J)I"⟩
abbrev cL_strokesByBeats : ByteArray := method_27_code
def yL_strokesByBeats : MethodName := ⟨RL, "strokesByBeats", "(LMinsterClock;I[J)I"⟩
abbrev cL_struckShare : ByteArray := method_28_code
def yL_struckShare : MethodName := ⟨RL, "struckShare", "(LMinsterClock;[D)I"⟩
abbrev cL_law : ByteArray := code
def yL_law : MethodName := ⟨RL, "law", "([I)Z"⟩
abbrev vwCl : List vw_C := [(RJ0, TJ0, 2), (RJx00060, TJx00060, 6), (RJx4a65c, TJx4a65c, 3), (RX0, TX0, 6), (RX2, TX2, 3), (RX3, TX3, 4), (RX4, TX4, 3), (RX5, TX5, 4), (RX6, TX6, 1), (RX7, TX7, 5), (RX8, TX8, 9), (RX9, TX9, 26)]
