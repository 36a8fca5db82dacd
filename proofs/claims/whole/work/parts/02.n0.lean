/-! ===== BEGIN printed: names, fields, word lists, decode rows ===== -/
def RX0 : String := "OnboardingWorks$Forecast"
def TX0 : u_T := fun k => match k with
  | 0 => ("OnboardingWorks$Forecast", "plan", "LOnboardingWorks$Plan;", true)
  | 1 => ("OnboardingWorks$Forecast", "storeroom", "LOnboardingWorks$Storeroom;", true)
  | 2 => ("OnboardingWorks$Forecast", "timetable", "LOnboardingWorks$Timetable;", true)
  | 3 => ("OnboardingWorks$Forecast", "supplyDays", "[I", true)
  | 4 => ("OnboardingWorks$Forecast", "begins", "[I", true)
  | 5 => ("OnboardingWorks$Forecast", "ends", "[I", true)
  | _ => ("OnboardingWorks$Forecast", "tomorrow", "I", false)
def tyX0 : Nat → FieldType := fun k => match k with
  | 0 => .object "OnboardingWorks$Plan"
  | 1 => .object "OnboardingWorks$Storeroom"
  | 2 => .object "OnboardingWorks$Timetable"
  | 3 => .array .int
  | 4 => .array .int
  | 5 => .array .int
  | _ => .int
theorem nmX0 : ∀ a, a < 7 → ∀ b, b < 7 → a ≠ b → (TX0 a).2.1 ≠ (TX0 b).2.1 := by decide +kernel
theorem tyX0_ok : ∀ k, k < 7 → parseFieldDescriptor (TX0 k).2.2.1 = some (tyX0 k) := by decide +kernel
abbrev cX0_init : ByteArray := prog_2_method_1_code
def yX0_init : MethodName := ⟨RX0, "<init>", "(LOnboardingWorks$Plan;LOnboardingWorks$Storeroom;LOnboardingWorks$Timetable;)V"⟩
abbrev cX0_foresee : ByteArray := prog_2_method_2_code
def yX0_foresee : MethodName := ⟨RX0, "foresee", "(LOnboardingWorks$Joiner;III)V"⟩
abbrev cX0_lookFrom : ByteArray := prog_2_method_3_code
def yX0_lookFrom : MethodName := ⟨RX0, "lookFrom", "(III)V"⟩
abbrev cX0_foreseeStep : ByteArray := prog_2_method_4_code
def yX0_foreseeStep : MethodName := ⟨RX0, "foreseeStep", "(LOnboardingWorks$Joiner;I)V"⟩
abbrev cX0_beginOf : ByteArray := prog_2_method_5_code
def yX0_beginOf : MethodName := ⟨RX0, "beginOf", "(LOnboardingWorks$Joiner;I)I"⟩
abbrev cX0_withSupply : ByteArray := prog_2_method_6_code
def yX0_withSupply : MethodName := ⟨RX0, "withSupply", "(II)I"⟩
abbrev cX0_dayBehind : ByteArray := prog_2_method_7_code
def yX0_dayBehind : MethodName := ⟨RX0, "dayBehind", "(I)I"⟩
abbrev cX0_greatestEnd : ByteArray := prog_2_method_8_code
def yX0_greatestEnd : MethodName := ⟨RX0, "greatestEnd", "(I)I"⟩
def RX1 : String := "OnboardingWorks$Joiner"
def TX1 : u_T := fun k => match k with
  | 0 => ("OnboardingWorks$Joiner", "states", "[I", true)
  | 1 => ("OnboardingWorks$Joiner", "begins", "[I", true)
  | 2 => ("OnboardingWorks$Joiner", "lengths", "[I", true)
  | 3 => ("OnboardingWorks$Joiner", "booked", "[I", true)
  | 4 => ("OnboardingWorks$Joiner", "losses", "[I", true)
  | 5 => ("OnboardingWorks$Joiner", "steps", "I", false)
  | 6 => ("OnboardingWorks$Joiner", "start", "I", false)
  | _ => ("OnboardingWorks$Joiner", "left", "Z", false)
def tyX1 : Nat → FieldType := fun k => match k with
  | 0 => .array .int
  | 1 => .array .int
  | 2 => .array .int
  | 3 => .array .int
  | 4 => .array .int
  | 5 => .int
  | 6 => .int
  | _ => .boolean
theorem nmX1 : ∀ a, a < 8 → ∀ b, b < 8 → a ≠ b → (TX1 a).2.1 ≠ (TX1 b).2.1 := by decide +kernel
theorem tyX1_ok : ∀ k, k < 8 → parseFieldDescriptor (TX1 k).2.2.1 = some (tyX1 k) := by decide +kernel
abbrev cX1_init : ByteArray := prog_3_method_1_code
def yX1_init : MethodName := ⟨RX1, "<init>", "()V"⟩
abbrev cX1_isIn : ByteArray := prog_3_method_2_code
def yX1_isIn : MethodName := ⟨RX1, "isIn", "(II)Z"⟩
abbrev cX1_stepsIn : ByteArray := prog_3_method_3_code
def yX1_stepsIn : MethodName := ⟨RX1, "stepsIn", "(I)I"⟩
abbrev cX1_countIn : ByteArray := prog_3_method_4_code
def yX1_countIn : MethodName := ⟨RX1, "countIn", "(I)I"⟩
abbrev cX1_finishSteps : ByteArray := prog_3_method_5_code
def yX1_finishSteps : MethodName := ⟨RX1, "finishSteps", "(I)I"⟩
abbrev cX1_lastBegun : ByteArray := prog_3_method_6_code
def yX1_lastBegun : MethodName := ⟨RX1, "lastBegun", "()I"⟩
def RX2 : String := "OnboardingWorks$Plan"
def TX2 : u_T := fun k => match k with
  | 0 => ("OnboardingWorks$Plan", "kinds", "[I", true)
  | 1 => ("OnboardingWorks$Plan", "baseLengths", "[I", true)
  | 2 => ("OnboardingWorks$Plan", "needs", "[I", true)
  | 3 => ("OnboardingWorks$Plan", "ofs", "[I", true)
  | 4 => ("OnboardingWorks$Plan", "roles", "[I", true)
  | 5 => ("OnboardingWorks$Plan", "rights", "[I", true)
  | 6 => ("OnboardingWorks$Plan", "stepCount", "I", false)
  | _ => ("OnboardingWorks$Plan", "rightCount", "I", false)
def tyX2 : Nat → FieldType := fun k => match k with
  | 0 => .array .int
  | 1 => .array .int
  | 2 => .array .int
  | 3 => .array .int
  | 4 => .array .int
  | 5 => .array .int
  | 6 => .int
  | _ => .int
theorem nmX2 : ∀ a, a < 8 → ∀ b, b < 8 → a ≠ b → (TX2 a).2.1 ≠ (TX2 b).2.1 := by decide +kernel
theorem tyX2_ok : ∀ k, k < 8 → parseFieldDescriptor (TX2 k).2.2.1 = some (tyX2 k) := by decide +kernel
abbrev cX2_init : ByteArray := prog_4_method_1_code
def yX2_init : MethodName := ⟨RX2, "<init>", "()V"⟩
abbrev cX2_knows : ByteArray := prog_4_method_2_code
def yX2_knows : MethodName := ⟨RX2, "knows", "(I)Z"⟩
abbrev cX2_addStep : ByteArray := prog_4_method_3_code
def yX2_addStep : MethodName := ⟨RX2, "addStep", "(IIII)I"⟩
abbrev cX2_addRight : ByteArray := prog_4_method_4_code
def yX2_addRight : MethodName := ⟨RX2, "addRight", "(I)I"⟩
abbrev cX2_needsAreDone : ByteArray := prog_4_method_5_code
def yX2_needsAreDone : MethodName := ⟨RX2, "needsAreDone", "(LOnboardingWorks$Joiner;I)Z"⟩
abbrev cX2_lengthFor : ByteArray := prog_4_method_6_code
def yX2_lengthFor : MethodName := ⟨RX2, "lengthFor", "(LOnboardingWorks$Joiner;I)I"⟩
abbrev cX2_rightsOf : ByteArray := prog_4_method_7_code
def yX2_rightsOf : MethodName := ⟨RX2, "rightsOf", "(LOnboardingWorks$Joiner;)I"⟩
def RX3 : String := "OnboardingWorks$Storeroom"
def TX3 : u_T := fun k => match k with
  | 0 => ("OnboardingWorks$Storeroom", "pieces", "[I", true)
  | 1 => ("OnboardingWorks$Storeroom", "orderItems", "[I", true)
  | 2 => ("OnboardingWorks$Storeroom", "orderPieces", "[I", true)
  | 3 => ("OnboardingWorks$Storeroom", "orderDays", "[I", true)
  | _ => ("OnboardingWorks$Storeroom", "orderCount", "I", false)
def tyX3 : Nat → FieldType := fun k => match k with
  | 0 => .array .int
  | 1 => .array .int
  | 2 => .array .int
  | 3 => .array .int
  | _ => .int
theorem nmX3 : ∀ a, a < 5 → ∀ b, b < 5 → a ≠ b → (TX3 a).2.1 ≠ (TX3 b).2.1 := by decide +kernel
theorem tyX3_ok : ∀ k, k < 5 → parseFieldDescriptor (TX3 k).2.2.1 = some (tyX3 k) := by decide +kernel
abbrev cX3_init : ByteArray := prog_5_method_1_code
def yX3_init : MethodName := ⟨RX3, "<init>", "()V"⟩
abbrev cX3_hasPiece : ByteArray := prog_5_method_2_code
def yX3_hasPiece : MethodName := ⟨RX3, "hasPiece", "(I)Z"⟩
abbrev cX3_putIn : ByteArray := prog_5_method_3_code
def yX3_putIn : MethodName := ⟨RX3, "putIn", "(II)V"⟩
abbrev cX3_takeOne : ByteArray := prog_5_method_4_code
def yX3_takeOne : MethodName := ⟨RX3, "takeOne", "(I)V"⟩
abbrev cX3_addOrder : ByteArray := prog_5_method_5_code
def yX3_addOrder : MethodName := ⟨RX3, "addOrder", "(III)I"⟩
abbrev cX3_delay : ByteArray := prog_5_method_6_code
def yX3_delay : MethodName := ⟨RX3, "delay", "(II)I"⟩
abbrev cX3_receive : ByteArray := prog_5_method_7_code
def yX3_receive : MethodName := ⟨RX3, "receive", "(I)V"⟩
abbrev cX3_piecesToCome : ByteArray := prog_5_method_8_code
def yX3_piecesToCome : MethodName := ⟨RX3, "piecesToCome", "(II)I"⟩
abbrev cX3_earliestToCome : ByteArray := prog_5_method_9_code
def yX3_earliestToCome : MethodName := ⟨RX3, "earliestToCome", "(IIII)I"⟩
def RX4 : String := "OnboardingWorks$Timetable"
def TX4 : u_T := fun k => match k with
  | 0 => ("OnboardingWorks$Timetable", "courses", "[I", true)
  | 1 => ("OnboardingWorks$Timetable", "days", "[I", true)
  | 2 => ("OnboardingWorks$Timetable", "seats", "[I", true)
  | 3 => ("OnboardingWorks$Timetable", "taken", "[I", true)
  | _ => ("OnboardingWorks$Timetable", "sessionCount", "I", false)
def tyX4 : Nat → FieldType := fun k => match k with
  | 0 => .array .int
  | 1 => .array .int
  | 2 => .array .int
  | 3 => .array .int
  | _ => .int
theorem nmX4 : ∀ a, a < 5 → ∀ b, b < 5 → a ≠ b → (TX4 a).2.1 ≠ (TX4 b).2.1 := by decide +kernel
theorem tyX4_ok : ∀ k, k < 5 → parseFieldDescriptor (TX4 k).2.2.1 = some (tyX4 k) := by decide +kernel
abbrev cX4_init : ByteArray := prog_6_method_1_code
def yX4_init : MethodName := ⟨RX4, "<init>", "()V"⟩
abbrev cX4_addSession : ByteArray := prog_6_method_2_code
def yX4_addSession : MethodName := ⟨RX4, "addSession", "(III)I"⟩
abbrev cX4_dayOf : ByteArray := prog_6_method_3_code
def yX4_dayOf : MethodName := ⟨RX4, "dayOf", "(I)I"⟩
abbrev cX4_book : ByteArray := prog_6_method_4_code
def yX4_book : MethodName := ⟨RX4, "book", "(II)I"⟩
abbrev cX4_release : ByteArray := prog_6_method_5_code
def yX4_release : MethodName := ⟨RX4, "release", "(I)V"⟩
abbrev cX4_seatsTaken : ByteArray := prog_6_method_6_code
def yX4_seatsTaken : MethodName := ⟨RX4, "seatsTaken", "()I"⟩
def RX5 : String := "OnboardingWorks"
def TX5 : u_T := fun k => match k with
  | 0 => ("OnboardingWorks", "plan", "LOnboardingWorks$Plan;", true)
  | 1 => ("OnboardingWorks", "storeroom", "LOnboardingWorks$Storeroom;", true)
  | 2 => ("OnboardingWorks", "timetable", "LOnboardingWorks$Timetable;", true)
  | 3 => ("OnboardingWorks", "forecast", "LOnboardingWorks$Forecast;", true)
  | 4 => ("OnboardingWorks", "joiners", "[LOnboardingWorks$Joiner;", true)
  | 5 => ("OnboardingWorks", "joinerCount", "I", false)
  | _ => ("OnboardingWorks", "today", "I", false)
def tyX5 : Nat → FieldType := fun k => match k with
  | 0 => .object "OnboardingWorks$Plan"
  | 1 => .object "OnboardingWorks$Storeroom"
  | 2 => .object "OnboardingWorks$Timetable"
  | 3 => .object "OnboardingWorks$Forecast"
  | 4 => .array (.object "OnboardingWorks$Joiner")
  | 5 => .int
  | _ => .int
theorem nmX5 : ∀ a, a < 7 → ∀ b, b < 7 → a ≠ b → (TX5 a).2.1 ≠ (TX5 b).2.1 := by decide +kernel
theorem tyX5_ok : ∀ k, k < 7 → parseFieldDescriptor (TX5 k).2.2.1 = some (tyX5 k) := by decide +kernel
abbrev cX5_init : ByteArray := prog_1_method_1_code
def yX5_init : MethodName := ⟨RX5, "<init>", "()V"⟩
abbrev cX5_step : ByteArray := prog_1_method_2_code
def yX5_step : MethodName := ⟨RX5, "step", "(IIII)I"⟩
abbrev cX5_role : ByteArray := prog_1_method_3_code
def yX5_role : MethodName := ⟨RX5, "role", "(II)I"⟩
abbrev cX5_right : ByteArray := prog_1_method_4_code
def yX5_right : MethodName := ⟨RX5, "right", "(I)I"⟩
abbrev cX5_stock : ByteArray := prog_1_method_5_code
def yX5_stock : MethodName := ⟨RX5, "stock", "(II)I"⟩
abbrev cX5_order : ByteArray := prog_1_method_6_code
def yX5_order : MethodName := ⟨RX5, "order", "(III)I"⟩
abbrev cX5_late : ByteArray := prog_1_method_7_code
def yX5_late : MethodName := ⟨RX5, "late", "(II)I"⟩
abbrev cX5_session : ByteArray := prog_1_method_8_code
def yX5_session : MethodName := ⟨RX5, "session", "(III)I"⟩
abbrev cX5_ofSession : ByteArray := prog_1_method_9_code
def yX5_ofSession : MethodName := ⟨RX5, "ofSession", "(II)I"⟩
abbrev cX5_ofItem : ByteArray := prog_1_method_10_code
def yX5_ofItem : MethodName := ⟨RX5, "ofItem", "(II)I"⟩
abbrev cX5_join : ByteArray := prog_1_method_11_code
def yX5_join : MethodName := ⟨RX5, "join", "(II)I"⟩
abbrev cX5_leave : ByteArray := prog_1_method_12_code
def yX5_leave : MethodName := ⟨RX5, "leave", "(I)I"⟩
abbrev cX5_day : ByteArray := prog_1_method_13_code
def yX5_day : MethodName := ⟨RX5, "day", "()I"⟩
abbrev cX5_ofStep : ByteArray := prog_1_method_14_code
def yX5_ofStep : MethodName := ⟨RX5, "ofStep", "(III)I"⟩
abbrev cX5_ofJoiner : ByteArray := prog_1_method_15_code
def yX5_ofJoiner : MethodName := ⟨RX5, "ofJoiner", "(II)I"⟩
abbrev cX5_many : ByteArray := prog_1_method_16_code
def yX5_many : MethodName := ⟨RX5, "many", "(I)I"⟩
abbrev cX5_meanDays : ByteArray := prog_1_method_17_code
def yX5_meanDays : MethodName := ⟨RX5, "meanDays", "()D"⟩
abbrev cX5_rightOn : ByteArray := prog_1_method_18_code
def yX5_rightOn : MethodName := ⟨RX5, "rightOn", "(II)I"⟩
abbrev cX5_shiftBy : ByteArray := prog_1_method_19_code
def yX5_shiftBy : MethodName := ⟨RX5, "shiftBy", "(II)I"⟩
abbrev cX5_next : ByteArray := prog_1_method_20_code
def yX5_next : MethodName := ⟨RX5, "next", "(I)I"⟩
abbrev cX5_waitFor : ByteArray := prog_1_method_21_code
def yX5_waitFor : MethodName := ⟨RX5, "waitFor", "(II)I"⟩
abbrev cX5_digest : ByteArray := prog_1_method_22_code
def yX5_digest : MethodName := ⟨RX5, "digest", "()J"⟩
abbrev cX5_has : ByteArray := prog_1_method_23_code
def yX5_has : MethodName := ⟨RX5, "has", "(II)Z"⟩
abbrev cX5_isWithin : ByteArray := prog_1_method_24_code
def yX5_isWithin : MethodName := ⟨RX5, "isWithin", "(III)Z"⟩
abbrev cX5_isOfKind : ByteArray := prog_1_method_25_code
def yX5_isOfKind : MethodName := ⟨RX5, "isOfKind", "(II)Z"⟩
abbrev cX5_isAhead : ByteArray := prog_1_method_26_code
def yX5_isAhead : MethodName := ⟨RX5, "isAhead", "(I)Z"⟩
abbrev cX5_checkDelay : ByteArray := prog_1_method_27_code
def yX5_checkDelay : MethodName := ⟨RX5, "checkDelay", "(II)V"⟩
abbrev cX5_joinerAt : ByteArray := prog_1_method_28_code
def yX5_joinerAt : MethodName := ⟨RX5, "joinerAt", "(I)LOnboardingWorks$Joiner;"⟩
abbrev cX5_beginSteps : ByteArray := prog_1_method_29_code
def yX5_beginSteps : MethodName := ⟨RX5, "beginSteps", "(LOnboardingWorks$Joiner;)V"⟩
abbrev cX5_isReady : ByteArray := prog_1_method_30_code
def yX5_isReady : MethodName := ⟨RX5, "isReady", "(LOnboardingWorks$Joiner;I)Z"⟩
abbrev cX5_canBegin : ByteArray := prog_1_method_31_code
def yX5_canBegin : MethodName := ⟨RX5, "canBegin", "(LOnboardingWorks$Joiner;I)Z"⟩
abbrev cX5_loseSessions : ByteArray := prog_1_method_32_code
def yX5_loseSessions : MethodName := ⟨RX5, "loseSessions", "(LOnboardingWorks$Joiner;)V"⟩
abbrev cX5_bookAll : ByteArray := prog_1_method_33_code
def yX5_bookAll : MethodName := ⟨RX5, "bookAll", "()V"⟩
abbrev cX5_bookFor : ByteArray := prog_1_method_34_code
def yX5_bookFor : MethodName := ⟨RX5, "bookFor", "(LOnboardingWorks$Joiner;)V"⟩
abbrev cX5_takeBackStep : ByteArray := prog_1_method_35_code
def yX5_takeBackStep : MethodName := ⟨RX5, "takeBackStep", "(LOnboardingWorks$Joiner;)V"⟩
abbrev cX5_foreseenOfStep : ByteArray := prog_1_method_36_code
def yX5_foreseenOfStep : MethodName := ⟨RX5, "foreseenOfStep", "(LOnboardingWorks$Joiner;II)I"⟩
abbrev cX5_foreseenOfJoiner : ByteArray := prog_1_method_37_code
def yX5_foreseenOfJoiner : MethodName := ⟨RX5, "foreseenOfJoiner", "(LOnboardingWorks$Joiner;I)I"⟩
abbrev cX5_nextStep : ByteArray := prog_1_method_38_code
def yX5_nextStep : MethodName := ⟨RX5, "nextStep", "(LOnboardingWorks$Joiner;)I"⟩
abbrev cX5_countWaitingOn : ByteArray := prog_1_method_39_code
def yX5_countWaitingOn : MethodName := ⟨RX5, "countWaitingOn", "(LOnboardingWorks$Joiner;I)I"⟩
abbrev cX5_countWaitingFor : ByteArray := prog_1_method_40_code
def yX5_countWaitingFor : MethodName := ⟨RX5, "countWaitingFor", "(I)I"⟩
abbrev cX5_countLeft : ByteArray := prog_1_method_41_code
def yX5_countLeft : MethodName := ⟨RX5, "countLeft", "()I"⟩
abbrev cX5_countStepsIn : ByteArray := prog_1_method_42_code
def yX5_countStepsIn : MethodName := ⟨RX5, "countStepsIn", "(I)I"⟩
abbrev cX5_countRights : ByteArray := prog_1_method_43_code
def yX5_countRights : MethodName := ⟨RX5, "countRights", "()I"⟩
abbrev cX5_digestWith : ByteArray := prog_1_method_44_code
def yX5_digestWith : MethodName := ⟨RX5, "digestWith", "(JLOnboardingWorks$Joiner;)J"⟩
def RX6 : String := "OnboardingWorksModel$Joiner"
def TX6 : u_T := fun k => match k with
  | 0 => ("OnboardingWorksModel$Joiner", "steps", "I", true)
  | 1 => ("OnboardingWorksModel$Joiner", "start", "I", true)
  | 2 => ("OnboardingWorksModel$Joiner", "states", "[I", true)
  | 3 => ("OnboardingWorksModel$Joiner", "began", "[I", true)
  | 4 => ("OnboardingWorksModel$Joiner", "lengths", "[I", true)
  | 5 => ("OnboardingWorksModel$Joiner", "booked", "[I", true)
  | 6 => ("OnboardingWorksModel$Joiner", "lost", "[I", true)
  | _ => ("OnboardingWorksModel$Joiner", "hasLeft", "Z", false)
def tyX6 : Nat → FieldType := fun k => match k with
  | 0 => .int
  | 1 => .int
  | 2 => .array .int
  | 3 => .array .int
  | 4 => .array .int
  | 5 => .array .int
  | 6 => .array .int
  | _ => .boolean
theorem nmX6 : ∀ a, a < 8 → ∀ b, b < 8 → a ≠ b → (TX6 a).2.1 ≠ (TX6 b).2.1 := by decide +kernel
theorem tyX6_ok : ∀ k, k < 8 → parseFieldDescriptor (TX6 k).2.2.1 = some (tyX6 k) := by decide +kernel
abbrev cX6_init : ByteArray := prog_9_method_1_code
def yX6_init : MethodName := ⟨RX6, "<init>", "(II)V"⟩
abbrev cX6_has : ByteArray := prog_9_method_2_code
def yX6_has : MethodName := ⟨RX6, "has", "(I)Z"⟩
abbrev cX6_is : ByteArray := prog_9_method_3_code
def yX6_is : MethodName := ⟨RX6, "is", "(II)Z"⟩
abbrev cX6_in : ByteArray := prog_9_method_4_code
def yX6_in : MethodName := ⟨RX6, "in", "(I)I"⟩
abbrev cX6_hasAll : ByteArray := prog_9_method_5_code
def yX6_hasAll : MethodName := ⟨RX6, "hasAll", "(I)Z"⟩
abbrev cX6_hasNeeds : ByteArray := prog_9_method_6_code
def yX6_hasNeeds : MethodName := ⟨RX6, "hasNeeds", "(I)Z"⟩
abbrev cX6_last : ByteArray := prog_9_method_7_code
def yX6_last : MethodName := ⟨RX6, "last", "()I"⟩
def RX7 : String := "OnboardingWorksModel$Order"
def TX7 : u_T := fun k => match k with
  | 0 => ("OnboardingWorksModel$Order", "item", "I", true)
  | 1 => ("OnboardingWorksModel$Order", "many", "I", true)
  | 2 => ("OnboardingWorksModel$Order", "day", "I", false)
  | _ => ("OnboardingWorksModel$Order", "isThere", "Z", false)
def tyX7 : Nat → FieldType := fun k => match k with
  | 0 => .int
  | 1 => .int
  | 2 => .int
  | _ => .boolean
theorem nmX7 : ∀ a, a < 4 → ∀ b, b < 4 → a ≠ b → (TX7 a).2.1 ≠ (TX7 b).2.1 := by decide +kernel
theorem tyX7_ok : ∀ k, k < 4 → parseFieldDescriptor (TX7 k).2.2.1 = some (tyX7 k) := by decide +kernel
abbrev cX7_init : ByteArray := prog_10_method_1_code
def yX7_init : MethodName := ⟨RX7, "<init>", "(III)V"⟩
def RX8 : String := "OnboardingWorksModel$Session"
def TX8 : u_T := fun k => match k with
  | 0 => ("OnboardingWorksModel$Session", "step", "I", true)
  | 1 => ("OnboardingWorksModel$Session", "day", "I", true)
  | _ => ("OnboardingWorksModel$Session", "seats", "I", true)
def tyX8 : Nat → FieldType := fun k => match k with
  | 0 => .int
  | 1 => .int
  | _ => .int
theorem nmX8 : ∀ a, a < 3 → ∀ b, b < 3 → a ≠ b → (TX8 a).2.1 ≠ (TX8 b).2.1 := by decide +kernel
theorem tyX8_ok : ∀ k, k < 3 → parseFieldDescriptor (TX8 k).2.2.1 = some (tyX8 k) := by decide +kernel
abbrev cX8_init : ByteArray := prog_11_method_1_code
def yX8_init : MethodName := ⟨RX8, "<init>", "(III)V"⟩
def RX9 : String := "OnboardingWorksModel$Step"
def TX9 : u_T := fun k => match k with
  | 0 => ("OnboardingWorksModel$Step", "kind", "I", true)
  | 1 => ("OnboardingWorksModel$Step", "length", "I", true)
  | 2 => ("OnboardingWorksModel$Step", "needs", "I", true)
  | _ => ("OnboardingWorksModel$Step", "of", "I", true)
def tyX9 : Nat → FieldType := fun k => match k with
  | 0 => .int
  | 1 => .int
  | 2 => .int
  | _ => .int
theorem nmX9 : ∀ a, a < 4 → ∀ b, b < 4 → a ≠ b → (TX9 a).2.1 ≠ (TX9 b).2.1 := by decide +kernel
theorem tyX9_ok : ∀ k, k < 4 → parseFieldDescriptor (TX9 k).2.2.1 = some (tyX9 k) := by decide +kernel
abbrev cX9_init : ByteArray := prog_12_method_1_code
def yX9_init : MethodName := ⟨RX9, "<init>", "(IIII)V"⟩
def RX10 : String := "OnboardingWorksModel"
def TX10 : u_T := fun k => match k with
  | 0 => ("OnboardingWorksModel", "thrown", "I", false)
  | 1 => ("OnboardingWorksModel", "steps", "Ljava/util/ArrayList;", true)
  | 2 => ("OnboardingWorksModel", "roles", "[I", true)
  | 3 => ("OnboardingWorksModel", "rights", "Ljava/util/ArrayList;", true)
  | 4 => ("OnboardingWorksModel", "stock", "[I", true)
  | 5 => ("OnboardingWorksModel", "orders", "Ljava/util/ArrayList;", true)
  | 6 => ("OnboardingWorksModel", "sessions", "Ljava/util/ArrayList;", true)
  | 7 => ("OnboardingWorksModel", "joiners", "Ljava/util/ArrayList;", true)
  | _ => ("OnboardingWorksModel", "today", "I", false)
def tyX10 : Nat → FieldType := fun k => match k with
  | 0 => .int
  | 1 => .object "java/util/ArrayList"
  | 2 => .array .int
  | 3 => .object "java/util/ArrayList"
  | 4 => .array .int
  | 5 => .object "java/util/ArrayList"
  | 6 => .object "java/util/ArrayList"
  | 7 => .object "java/util/ArrayList"
  | _ => .int
theorem nmX10 : ∀ a, a < 9 → ∀ b, b < 9 → a ≠ b → (TX10 a).2.1 ≠ (TX10 b).2.1 := by decide +kernel
theorem tyX10_ok : ∀ k, k < 9 → parseFieldDescriptor (TX10 k).2.2.1 = some (tyX10 k) := by decide +kernel
abbrev cX10_init : ByteArray := prog_8_method_1_code
def yX10_init : MethodName := ⟨RX10, "<init>", "()V"⟩
abbrev cX10_thrown : ByteArray := prog_8_method_2_code
def yX10_thrown : MethodName := ⟨RX10, "thrown", "()I"⟩
abbrev cX10_isIn : ByteArray := prog_8_method_3_code
def yX10_isIn : MethodName := ⟨RX10, "isIn", "(II)Z"⟩
abbrev cX10_isFrom : ByteArray := prog_8_method_4_code
def yX10_isFrom : MethodName := ⟨RX10, "isFrom", "(III)Z"⟩
abbrev cX10_refuse : ByteArray := prog_8_method_5_code
def yX10_refuse : MethodName := ⟨RX10, "refuse", "(ZI)Z"⟩
abbrev cX10_start : ByteArray := prog_8_method_6_code
def yX10_start : MethodName := ⟨RX10, "start", "(ZI)Z"⟩
abbrev cX10_isNoSet : ByteArray := prog_8_method_7_code
def yX10_isNoSet : MethodName := ⟨RX10, "isNoSet", "(I)Z"⟩
abbrev cX10_fresh : ByteArray := prog_8_method_8_code
def yX10_fresh : MethodName := ⟨RX10, "fresh", "(LOnboardingWorksModel$Joiner;I)I"⟩
abbrev cX10_length : ByteArray := prog_8_method_9_code
def yX10_length : MethodName := ⟨RX10, "length", "(LOnboardingWorksModel$Joiner;I)I"⟩
abbrev cX10_comes : ByteArray := prog_8_method_10_code
def yX10_comes : MethodName := ⟨RX10, "comes", "(I)I"⟩
abbrev cX10_expected : ByteArray := prog_8_method_11_code
def yX10_expected : MethodName := ⟨RX10, "expected", "(LOnboardingWorksModel$Joiner;I)I"⟩
abbrev cX10_end : ByteArray := prog_8_method_12_code
def yX10_end : MethodName := ⟨RX10, "end", "(LOnboardingWorksModel$Joiner;I)I"⟩
abbrev cX10_end_ : ByteArray := prog_8_method_13_code
def yX10_end_ : MethodName := ⟨RX10, "end", "(LOnboardingWorksModel$Joiner;J)I"⟩
abbrev cX10_endOf : ByteArray := prog_8_method_14_code
def yX10_endOf : MethodName := ⟨RX10, "endOf", "(LOnboardingWorksModel$Joiner;)I"⟩
abbrev cX10_seatsTaken : ByteArray := prog_8_method_15_code
def yX10_seatsTaken : MethodName := ⟨RX10, "seatsTaken", "(I)I"⟩
abbrev cX10_sessionFor : ByteArray := prog_8_method_16_code
def yX10_sessionFor : MethodName := ⟨RX10, "sessionFor", "(LOnboardingWorksModel$Joiner;I)I"⟩
abbrev cX10_bookAll : ByteArray := prog_8_method_17_code
def yX10_bookAll : MethodName := ⟨RX10, "bookAll", "()V"⟩
abbrev cX10_isReady : ByteArray := prog_8_method_18_code
def yX10_isReady : MethodName := ⟨RX10, "isReady", "(LOnboardingWorksModel$Joiner;I)Z"⟩
abbrev cX10_isToday : ByteArray := prog_8_method_19_code
def yX10_isToday : MethodName := ⟨RX10, "isToday", "(LOnboardingWorksModel$Joiner;I)Z"⟩
abbrev cX10_canBegin : ByteArray := prog_8_method_20_code
def yX10_canBegin : MethodName := ⟨RX10, "canBegin", "(LOnboardingWorksModel$Joiner;I)Z"⟩
abbrev cX10_begin : ByteArray := prog_8_method_21_code
def yX10_begin : MethodName := ⟨RX10, "begin", "(LOnboardingWorksModel$Joiner;I)V"⟩
abbrev cX10_takeBack : ByteArray := prog_8_method_22_code
def yX10_takeBack : MethodName := ⟨RX10, "takeBack", "(LOnboardingWorksModel$Joiner;)V"⟩
abbrev cX10_day : ByteArray := prog_8_method_23_code
def yX10_day : MethodName := ⟨RX10, "day", "()I"⟩
abbrev cX10_step : ByteArray := prog_8_method_24_code
def yX10_step : MethodName := ⟨RX10, "step", "(IIII)I"⟩
abbrev cX10_isNoRole : ByteArray := prog_8_method_25_code
def yX10_isNoRole : MethodName := ⟨RX10, "isNoRole", "(I)Z"⟩
abbrev cX10_role : ByteArray := prog_8_method_26_code
def yX10_role : MethodName := ⟨RX10, "role", "(II)I"⟩
abbrev cX10_right : ByteArray := prog_8_method_27_code
def yX10_right : MethodName := ⟨RX10, "right", "(I)I"⟩
abbrev cX10_isNoItem : ByteArray := prog_8_method_28_code
def yX10_isNoItem : MethodName := ⟨RX10, "isNoItem", "(I)Z"⟩
abbrev cX10_stock : ByteArray := prog_8_method_29_code
def yX10_stock : MethodName := ⟨RX10, "stock", "(II)I"⟩
abbrev cX10_isNoDay : ByteArray := prog_8_method_30_code
def yX10_isNoDay : MethodName := ⟨RX10, "isNoDay", "(I)Z"⟩
abbrev cX10_order : ByteArray := prog_8_method_31_code
def yX10_order : MethodName := ⟨RX10, "order", "(III)I"⟩
abbrev cX10_isNoDelay : ByteArray := prog_8_method_32_code
def yX10_isNoDelay : MethodName := ⟨RX10, "isNoDelay", "(II)Z"⟩
abbrev cX10_late : ByteArray := prog_8_method_33_code
def yX10_late : MethodName := ⟨RX10, "late", "(II)I"⟩
abbrev cX10_session : ByteArray := prog_8_method_34_code
def yX10_session : MethodName := ⟨RX10, "session", "(III)I"⟩
abbrev cX10_ofSessionNow : ByteArray := prog_8_method_35_code
def yX10_ofSessionNow : MethodName := ⟨RX10, "ofSessionNow", "(II)I"⟩
abbrev cX10_ofSession : ByteArray := prog_8_method_36_code
def yX10_ofSession : MethodName := ⟨RX10, "ofSession", "(II)I"⟩
abbrev cX10_ofItemNow : ByteArray := prog_8_method_37_code
def yX10_ofItemNow : MethodName := ⟨RX10, "ofItemNow", "(II)I"⟩
abbrev cX10_ofItem : ByteArray := prog_8_method_38_code
def yX10_ofItem : MethodName := ⟨RX10, "ofItem", "(II)I"⟩
abbrev cX10_join : ByteArray := prog_8_method_39_code
def yX10_join : MethodName := ⟨RX10, "join", "(II)I"⟩
abbrev cX10_isNo : ByteArray := prog_8_method_40_code
def yX10_isNo : MethodName := ⟨RX10, "isNo", "(I)Z"⟩
abbrev cX10_isNoJoiner : ByteArray := prog_8_method_41_code
def yX10_isNoJoiner : MethodName := ⟨RX10, "isNoJoiner", "(I)Z"⟩
abbrev cX10_leave : ByteArray := prog_8_method_42_code
def yX10_leave : MethodName := ⟨RX10, "leave", "(I)I"⟩
abbrev cX10_isNoStep : ByteArray := prog_8_method_43_code
def yX10_isNoStep : MethodName := ⟨RX10, "isNoStep", "(II)Z"⟩
abbrev cX10_ofStepNow : ByteArray := prog_8_method_44_code
def yX10_ofStepNow : MethodName := ⟨RX10, "ofStepNow", "(LOnboardingWorksModel$Joiner;II)I"⟩
abbrev cX10_ofStep : ByteArray := prog_8_method_45_code
def yX10_ofStep : MethodName := ⟨RX10, "ofStep", "(III)I"⟩
abbrev cX10_rightsOf : ByteArray := prog_8_method_46_code
def yX10_rightsOf : MethodName := ⟨RX10, "rightsOf", "(LOnboardingWorksModel$Joiner;)I"⟩
abbrev cX10_ofJoinerNow : ByteArray := prog_8_method_47_code
def yX10_ofJoinerNow : MethodName := ⟨RX10, "ofJoinerNow", "(LOnboardingWorksModel$Joiner;I)I"⟩
abbrev cX10_ofJoiner : ByteArray := prog_8_method_48_code
def yX10_ofJoiner : MethodName := ⟨RX10, "ofJoiner", "(II)I"⟩
abbrev cX10_count : ByteArray := prog_8_method_49_code
def yX10_count : MethodName := ⟨RX10, "count", "(I)I"⟩
abbrev cX10_many : ByteArray := prog_8_method_50_code
def yX10_many : MethodName := ⟨RX10, "many", "(I)I"⟩
abbrev cX10_meanDays : ByteArray := prog_8_method_51_code
def yX10_meanDays : MethodName := ⟨RX10, "meanDays", "()D"⟩
abbrev cX10_rightOnNow : ByteArray := prog_8_method_52_code
def yX10_rightOnNow : MethodName := ⟨RX10, "rightOnNow", "(LOnboardingWorksModel$Joiner;I)I"⟩
abbrev cX10_rightOn : ByteArray := prog_8_method_53_code
def yX10_rightOn : MethodName := ⟨RX10, "rightOn", "(II)I"⟩
abbrev cX10_shiftBy : ByteArray := prog_8_method_54_code
def yX10_shiftBy : MethodName := ⟨RX10, "shiftBy", "(II)I"⟩
abbrev cX10_nextNow : ByteArray := prog_8_method_55_code
def yX10_nextNow : MethodName := ⟨RX10, "nextNow", "(LOnboardingWorksModel$Joiner;)I"⟩
abbrev cX10_next : ByteArray := prog_8_method_56_code
def yX10_next : MethodName := ⟨RX10, "next", "(I)I"⟩
abbrev cX10_waitForNow : ByteArray := prog_8_method_57_code
def yX10_waitForNow : MethodName := ⟨RX10, "waitForNow", "(LOnboardingWorksModel$Joiner;I)I"⟩
abbrev cX10_waitFor : ByteArray := prog_8_method_58_code
def yX10_waitFor : MethodName := ⟨RX10, "waitFor", "(II)I"⟩
abbrev cX10_add : ByteArray := prog_8_method_59_code
def yX10_add : MethodName := ⟨RX10, "add", "(JJ)J"⟩
abbrev cX10_digest : ByteArray := prog_8_method_60_code
def yX10_digest : MethodName := ⟨RX10, "digest", "()J"⟩
def RJx145de : String := "java/io/Serializable"
def TJx145de : u_T := fun k => match k with
  | _ => ("", "", "", false)
def tyJx145de : Nat → FieldType := fun k => match k with
  | _ => .int
theorem nmJx145de : ∀ a, a < 0 → ∀ b, b < 0 → a ≠ b → (TJx145de a).2.1 ≠ (TJx145de b).2.1 := by decide +kernel
theorem tyJx145de_ok : ∀ k, k < 0 → parseFieldDescriptor (TJx145de k).2.2.1 = some (tyJx145de k) := by decide +kernel
def RJx8e188 : String := "java/lang/Cloneable"
def TJx8e188 : u_T := fun k => match k with
  | _ => ("", "", "", false)
def tyJx8e188 : Nat → FieldType := fun k => match k with
  | _ => .int
theorem nmJx8e188 : ∀ a, a < 0 → ∀ b, b < 0 → a ≠ b → (TJx8e188 a).2.1 ≠ (TJx8e188 b).2.1 := by decide +kernel
theorem tyJx8e188_ok : ∀ k, k < 0 → parseFieldDescriptor (TJx8e188 k).2.2.1 = some (tyJx8e188 k) := by decide +kernel
def RJxb160c : String := "java/lang/Comparable"
def TJxb160c : u_T := fun k => match k with
  | _ => ("", "", "", false)
def tyJxb160c : Nat → FieldType := fun k => match k with
  | _ => .int
theorem nmJxb160c : ∀ a, a < 0 → ∀ b, b < 0 → a ≠ b → (TJxb160c a).2.1 ≠ (TJxb160c b).2.1 := by decide +kernel
theorem tyJxb160c_ok : ∀ k, k < 0 → parseFieldDescriptor (TJxb160c k).2.2.1 = some (tyJxb160c k) := by decide +kernel
def RJxabbfe : String := "java/lang/Integer$IntegerCache"
def TJxabbfe : u_T := fun k => match k with
  | _ => ("", "", "", false)
def tyJxabbfe : Nat → FieldType := fun k => match k with
  | _ => .int
theorem nmJxabbfe : ∀ a, a < 0 → ∀ b, b < 0 → a ≠ b → (TJxabbfe a).2.1 ≠ (TJxabbfe b).2.1 := by decide +kernel
theorem tyJxabbfe_ok : ∀ k, k < 0 → parseFieldDescriptor (TJxabbfe k).2.2.1 = some (tyJxabbfe k) := by decide +kernel
def RJ6 : String := "java/lang/Integer"
def TJ6 : u_T := fun k => match k with
  | _ => ("java/lang/Integer", "value", "I", true)
def tyJ6 : Nat → FieldType := fun k => match k with
  | _ => .int
theorem nmJ6 : ∀ a, a < 1 → ∀ b, b < 1 → a ≠ b → (TJ6 a).2.1 ≠ (TJ6 b).2.1 := by decide +kernel
theorem tyJ6_ok : ∀ k, k < 1 → parseFieldDescriptor (TJ6 k).2.2.1 = some (tyJ6 k) := by decide +kernel
abbrev cJ6_valueOf_2dffe : ByteArray := prog_20_method_22_code
def yJ6_valueOf_2dffe : MethodName := ⟨RJ6, "valueOf", "(I)Ljava/lang/Integer;"⟩
abbrev cJ6_init_d00df : ByteArray := prog_20_method_23_code
def yJ6_init_d00df : MethodName := ⟨RJ6, "<init>", "(I)V"⟩
abbrev cJ6_intValue_8abf5 : ByteArray := prog_20_method_27_code
def yJ6_intValue_8abf5 : MethodName := ⟨RJ6, "intValue", "()I"⟩
abbrev cJ6_bitCount_0f7a4 : ByteArray := prog_20_method_49_code
def yJ6_bitCount_0f7a4 : MethodName := ⟨RJ6, "bitCount", "(I)I"⟩
def RJxab1ab : String := "java/lang/Iterable"
def TJxab1ab : u_T := fun k => match k with
  | _ => ("", "", "", false)
def tyJxab1ab : Nat → FieldType := fun k => match k with
  | _ => .int
theorem nmJxab1ab : ∀ a, a < 0 → ∀ b, b < 0 → a ≠ b → (TJxab1ab a).2.1 ≠ (TJxab1ab b).2.1 := by decide +kernel
theorem tyJxab1ab_ok : ∀ k, k < 0 → parseFieldDescriptor (TJxab1ab k).2.2.1 = some (tyJxab1ab k) := by decide +kernel
def RJ9 : String := "java/lang/Math"
def TJ9 : u_T := fun k => match k with
  | _ => ("", "", "", false)
def tyJ9 : Nat → FieldType := fun k => match k with
  | _ => .int
theorem nmJ9 : ∀ a, a < 0 → ∀ b, b < 0 → a ≠ b → (TJ9 a).2.1 ≠ (TJ9 b).2.1 := by decide +kernel
theorem tyJ9_ok : ∀ k, k < 0 → parseFieldDescriptor (TJ9 k).2.2.1 = some (tyJ9 k) := by decide +kernel
abbrev cJ9_max_7cf53 : ByteArray := prog_23_method_65_code
def yJ9_max_7cf53 : MethodName := ⟨RJ9, "max", "(II)I"⟩
abbrev cJ9_min_7cf53 : ByteArray := prog_23_method_69_code
def yJ9_min_7cf53 : MethodName := ⟨RJ9, "min", "(II)I"⟩
def RJxd2413 : String := "java/lang/Number"
def TJxd2413 : u_T := fun k => match k with
  | _ => ("", "", "", false)
def tyJxd2413 : Nat → FieldType := fun k => match k with
  | _ => .int
theorem nmJxd2413 : ∀ a, a < 0 → ∀ b, b < 0 → a ≠ b → (TJxd2413 a).2.1 ≠ (TJxd2413 b).2.1 := by decide +kernel
theorem tyJxd2413_ok : ∀ k, k < 0 → parseFieldDescriptor (TJxd2413 k).2.2.1 = some (tyJxd2413 k) := by decide +kernel
abbrev cJxd2413_init_da8c8 : ByteArray := prog_24_method_1_code
def yJxd2413_init_da8c8 : MethodName := ⟨RJxd2413, "<init>", "()V"⟩
def RJ0 : String := "java/lang/String"
def TJ0 : u_T := fun k => match k with
  | _ => ("", "", "", false)
def tyJ0 : Nat → FieldType := fun k => match k with
  | _ => .int
theorem nmJ0 : ∀ a, a < 0 → ∀ b, b < 0 → a ≠ b → (TJ0 a).2.1 ≠ (TJ0 b).2.1 := by decide +kernel
theorem tyJ0_ok : ∀ k, k < 0 → parseFieldDescriptor (TJ0 k).2.2.1 = some (tyJ0 k) := by decide +kernel
def RJ10 : String := "java/lang/System"
def TJ10 : u_T := fun k => match k with
  | _ => ("", "", "", false)
def tyJ10 : Nat → FieldType := fun k => match k with
  | _ => .int
theorem nmJ10 : ∀ a, a < 0 → ∀ b, b < 0 → a ≠ b → (TJ10 a).2.1 ≠ (TJ10 b).2.1 := by decide +kernel
theorem tyJ10_ok : ∀ k, k < 0 → parseFieldDescriptor (TJ10 k).2.2.1 = some (tyJ10 k) := by decide +kernel
def RJxfd54e : String := "java/lang/constant/Constable"
def TJxfd54e : u_T := fun k => match k with
  | _ => ("", "", "", false)
def tyJxfd54e : Nat → FieldType := fun k => match k with
  | _ => .int
theorem nmJxfd54e : ∀ a, a < 0 → ∀ b, b < 0 → a ≠ b → (TJxfd54e a).2.1 ≠ (TJxfd54e b).2.1 := by decide +kernel
theorem tyJxfd54e_ok : ∀ k, k < 0 → parseFieldDescriptor (TJxfd54e k).2.2.1 = some (tyJxfd54e k) := by decide +kernel
def RJx3cf43 : String := "java/lang/constant/ConstantDesc"
def TJx3cf43 : u_T := fun k => match k with
  | _ => ("", "", "", false)
def tyJx3cf43 : Nat → FieldType := fun k => match k with
  | _ => .int
theorem nmJx3cf43 : ∀ a, a < 0 → ∀ b, b < 0 → a ≠ b → (TJx3cf43 a).2.1 ≠ (TJx3cf43 b).2.1 := by decide +kernel
theorem tyJx3cf43_ok : ∀ k, k < 0 → parseFieldDescriptor (TJx3cf43 k).2.2.1 = some (tyJx3cf43 k) := by decide +kernel
def RJxa1e45 : String := "java/util/AbstractCollection"
def TJxa1e45 : u_T := fun k => match k with
  | _ => ("", "", "", false)
def tyJxa1e45 : Nat → FieldType := fun k => match k with
  | _ => .int
theorem nmJxa1e45 : ∀ a, a < 0 → ∀ b, b < 0 → a ≠ b → (TJxa1e45 a).2.1 ≠ (TJxa1e45 b).2.1 := by decide +kernel
theorem tyJxa1e45_ok : ∀ k, k < 0 → parseFieldDescriptor (TJxa1e45 k).2.2.1 = some (tyJxa1e45 k) := by decide +kernel
abbrev cJxa1e45_init_da8c8 : ByteArray := prog_31_method_1_code
def yJxa1e45_init_da8c8 : MethodName := ⟨RJxa1e45, "<init>", "()V"⟩
def RJxc12de : String := "java/util/AbstractList"
def TJxc12de : u_T := fun k => match k with
  | _ => ("", "", "", false)
def tyJxc12de : Nat → FieldType := fun k => match k with
  | _ => .int
theorem nmJxc12de : ∀ a, a < 0 → ∀ b, b < 0 → a ≠ b → (TJxc12de a).2.1 ≠ (TJxc12de b).2.1 := by decide +kernel
theorem tyJxc12de_ok : ∀ k, k < 0 → parseFieldDescriptor (TJxc12de k).2.2.1 = some (tyJxc12de k) := by decide +kernel
abbrev cJxc12de_init_da8c8 : ByteArray := prog_32_method_1_code
def yJxc12de_init_da8c8 : MethodName := ⟨RJxc12de, "<init>", "()V"⟩
def RJx35411 : String := "java/util/ArrayList$Itr"
def TJx35411 : u_T := fun k => match k with
  | 0 => ("java/util/ArrayList$Itr", "cursor", "I", false)
  | 1 => ("java/util/ArrayList$Itr", "lastRet", "I", false)
  | 2 => ("java/util/ArrayList$Itr", "expectedModCount", "I", false)
  | _ => ("java/util/ArrayList$Itr", "this$0", "Ljava/util/ArrayList;", true)
def tyJx35411 : Nat → FieldType := fun k => match k with
  | 0 => .int
  | 1 => .int
  | 2 => .int
  | _ => .object "java/util/ArrayList"
theorem nmJx35411 : ∀ a, a < 4 → ∀ b, b < 4 → a ≠ b → (TJx35411 a).2.1 ≠ (TJx35411 b).2.1 := by decide +kernel
theorem tyJx35411_ok : ∀ k, k < 4 → parseFieldDescriptor (TJx35411 k).2.2.1 = some (tyJx35411 k) := by decide +kernel
abbrev cJx35411_init_45d68 : ByteArray := prog_34_method_1_code
def yJx35411_init_45d68 : MethodName := ⟨RJx35411, "<init>", "(Ljava/util/ArrayList;)V"⟩
abbrev cJx35411_hasNext_aae02 : ByteArray := prog_34_method_2_code
def yJx35411_hasNext_aae02 : MethodName := ⟨RJx35411, "hasNext", "()Z"⟩
abbrev cJx35411_next_0502b : ByteArray := prog_34_method_3_code
def yJx35411_next_0502b : MethodName := ⟨RJx35411, "next", "()Ljava/lang/Object;"⟩
abbrev cJx35411_checkForComodification_da8c8 : ByteArray := prog_34_method_6_code
def yJx35411_checkForComodification_da8c8 : MethodName := ⟨RJx35411, "checkForComodification", "()V"⟩
def RJx4a65c : String := "java/util/ArrayList"
def TJx4a65c : u_T := fun k => match k with
  | 0 => ("java/util/AbstractList", "modCount", "I", false)
  | 1 => ("java/util/ArrayList", "elementData", "[Ljava/lang/Object;", false)
  | _ => ("java/util/ArrayList", "size", "I", false)
def tyJx4a65c : Nat → FieldType := fun k => match k with
  | 0 => .int
  | 1 => .array (.object "java/lang/Object")
  | _ => .int
theorem nmJx4a65c : ∀ a, a < 3 → ∀ b, b < 3 → a ≠ b → (TJx4a65c a).2.1 ≠ (TJx4a65c b).2.1 := by decide +kernel
theorem tyJx4a65c_ok : ∀ k, k < 3 → parseFieldDescriptor (TJx4a65c k).2.2.1 = some (tyJx4a65c k) := by decide +kernel
abbrev cJx4a65c_init_da8c8 : ByteArray := prog_33_method_2_code
def yJx4a65c_init_da8c8 : MethodName := ⟨RJx4a65c, "<init>", "()V"⟩
abbrev cJx4a65c_grow_92f84 : ByteArray := prog_33_method_6_code
def yJx4a65c_grow_92f84 : MethodName := ⟨RJx4a65c, "grow", "(I)[Ljava/lang/Object;"⟩
abbrev cJx4a65c_grow_d5877 : ByteArray := prog_33_method_7_code
def yJx4a65c_grow_d5877 : MethodName := ⟨RJx4a65c, "grow", "()[Ljava/lang/Object;"⟩
abbrev cJx4a65c_size_8abf5 : ByteArray := prog_33_method_8_code
def yJx4a65c_size_8abf5 : MethodName := ⟨RJx4a65c, "size", "()I"⟩
abbrev cJx4a65c_elementData_915e3 : ByteArray := prog_33_method_18_code
def yJx4a65c_elementData_915e3 : MethodName := ⟨RJx4a65c, "elementData", "(I)Ljava/lang/Object;"⟩
abbrev cJx4a65c_get_915e3 : ByteArray := prog_33_method_20_code
def yJx4a65c_get_915e3 : MethodName := ⟨RJx4a65c, "get", "(I)Ljava/lang/Object;"⟩
abbrev cJx4a65c_add_72be8 : ByteArray := prog_33_method_24_code
def yJx4a65c_add_72be8 : MethodName := ⟨RJx4a65c, "add", "(Ljava/lang/Object;[Ljava/lang/Object;I)V"⟩
abbrev cJx4a65c_add_9ea2d : ByteArray := prog_33_method_25_code
def yJx4a65c_add_9ea2d : MethodName := ⟨RJx4a65c, "add", "(Ljava/lang/Object;)Z"⟩
abbrev cJx4a65c_iterator_32c93 : ByteArray := prog_33_method_55_code
def yJx4a65c_iterator_32c93 : MethodName := ⟨RJx4a65c, "iterator", "()Ljava/util/Iterator;"⟩
def RJ7 : String := "java/util/Arrays"
def TJ7 : u_T := fun k => match k with
  | _ => ("", "", "", false)
def tyJ7 : Nat → FieldType := fun k => match k with
  | _ => .int
theorem nmJ7 : ∀ a, a < 0 → ∀ b, b < 0 → a ≠ b → (TJ7 a).2.1 ≠ (TJ7 b).2.1 := by decide +kernel
theorem tyJ7_ok : ∀ k, k < 0 → parseFieldDescriptor (TJ7 k).2.2.1 = some (tyJ7 k) := by decide +kernel
abbrev cJ7_copyOf_1904c : ByteArray := prog_35_method_119_code
def yJ7_copyOf_1904c : MethodName := ⟨RJ7, "copyOf", "([Ljava/lang/Object;I)[Ljava/lang/Object;"⟩
abbrev cJ7_copyOf_6403c : ByteArray := prog_35_method_120_code
def yJ7_copyOf_6403c : MethodName := ⟨RJ7, "copyOf", "([Ljava/lang/Object;ILjava/lang/Class;)[Ljava/lang/Object;"⟩
def RJx5ef63 : String := "java/util/Collection"
def TJx5ef63 : u_T := fun k => match k with
  | _ => ("", "", "", false)
def tyJx5ef63 : Nat → FieldType := fun k => match k with
  | _ => .int
theorem nmJx5ef63 : ∀ a, a < 0 → ∀ b, b < 0 → a ≠ b → (TJx5ef63 a).2.1 ≠ (TJx5ef63 b).2.1 := by decide +kernel
theorem tyJx5ef63_ok : ∀ k, k < 0 → parseFieldDescriptor (TJx5ef63 k).2.2.1 = some (tyJx5ef63 k) := by decide +kernel
def RJx4d0d8 : String := "java/util/Iterator"
def TJx4d0d8 : u_T := fun k => match k with
  | _ => ("", "", "", false)
def tyJx4d0d8 : Nat → FieldType := fun k => match k with
  | _ => .int
theorem nmJx4d0d8 : ∀ a, a < 0 → ∀ b, b < 0 → a ≠ b → (TJx4d0d8 a).2.1 ≠ (TJx4d0d8 b).2.1 := by decide +kernel
theorem tyJx4d0d8_ok : ∀ k, k < 0 → parseFieldDescriptor (TJx4d0d8 k).2.2.1 = some (tyJx4d0d8 k) := by decide +kernel
def RJxbd725 : String := "java/util/List"
def TJxbd725 : u_T := fun k => match k with
  | _ => ("", "", "", false)
def tyJxbd725 : Nat → FieldType := fun k => match k with
  | _ => .int
theorem nmJxbd725 : ∀ a, a < 0 → ∀ b, b < 0 → a ≠ b → (TJxbd725 a).2.1 ≠ (TJxbd725 b).2.1 := by decide +kernel
theorem tyJxbd725_ok : ∀ k, k < 0 → parseFieldDescriptor (TJxbd725 k).2.2.1 = some (tyJxbd725 k) := by decide +kernel
def RJ15 : String := "java/util/Objects"
def TJ15 : u_T := fun k => match k with
  | _ => ("", "", "", false)
def tyJ15 : Nat → FieldType := fun k => match k with
  | _ => .int
theorem nmJ15 : ∀ a, a < 0 → ∀ b, b < 0 → a ≠ b → (TJ15 a).2.1 ≠ (TJ15 b).2.1 := by decide +kernel
theorem tyJ15_ok : ∀ k, k < 0 → parseFieldDescriptor (TJ15 k).2.2.1 = some (tyJ15 k) := by decide +kernel
abbrev cJ15_checkIndex_7cf53 : ByteArray := prog_39_method_17_code
def yJ15_checkIndex_7cf53 : MethodName := ⟨RJ15, "checkIndex", "(II)I"⟩
def RJxf0a74 : String := "java/util/RandomAccess"
def TJxf0a74 : u_T := fun k => match k with
  | _ => ("", "", "", false)
def tyJxf0a74 : Nat → FieldType := fun k => match k with
  | _ => .int
theorem nmJxf0a74 : ∀ a, a < 0 → ∀ b, b < 0 → a ≠ b → (TJxf0a74 a).2.1 ≠ (TJxf0a74 b).2.1 := by decide +kernel
theorem tyJxf0a74_ok : ∀ k, k < 0 → parseFieldDescriptor (TJxf0a74 k).2.2.1 = some (tyJxf0a74 k) := by decide +kernel
def RJxa66e6 : String := "java/util/SequencedCollection"
def TJxa66e6 : u_T := fun k => match k with
  | _ => ("", "", "", false)
def tyJxa66e6 : Nat → FieldType := fun k => match k with
  | _ => .int
theorem nmJxa66e6 : ∀ a, a < 0 → ∀ b, b < 0 → a ≠ b → (TJxa66e6 a).2.1 ≠ (TJxa66e6 b).2.1 := by decide +kernel
theorem tyJxa66e6_ok : ∀ k, k < 0 → parseFieldDescriptor (TJxa66e6 k).2.2.1 = some (tyJxa66e6 k) := by decide +kernel
def RJ8 : String := "jdk/internal/util/ArraysSupport"
def TJ8 : u_T := fun k => match k with
  | _ => ("", "", "", false)
def tyJ8 : Nat → FieldType := fun k => match k with
  | _ => .int
theorem nmJ8 : ∀ a, a < 0 → ∀ b, b < 0 → a ≠ b → (TJ8 a).2.1 ≠ (TJ8 b).2.1 := by decide +kernel
theorem tyJ8_ok : ∀ k, k < 0 → parseFieldDescriptor (TJ8 k).2.2.1 = some (tyJ8 k) := by decide +kernel
abbrev cJ8_newLength_cabcc : ByteArray := prog_42_method_27_code
def yJ8_newLength_cabcc : MethodName := ⟨RJ8, "newLength", "(III)I"⟩
abbrev cJ8_hugeLength_7cf53 : ByteArray := prog_42_method_28_code
def yJ8_hugeLength_7cf53 : MethodName := ⟨RJ8, "hugeLength", "(II)I"⟩
def RJ3 : String := "jdk/internal/util/Preconditions"
def TJ3 : u_T := fun k => match k with
  | _ => ("", "", "", false)
def tyJ3 : Nat → FieldType := fun k => match k with
  | _ => .int
theorem nmJ3 : ∀ a, a < 0 → ∀ b, b < 0 → a ≠ b → (TJ3 a).2.1 ≠ (TJ3 b).2.1 := by decide +kernel
theorem tyJ3_ok : ∀ k, k < 0 → parseFieldDescriptor (TJ3 k).2.2.1 = some (tyJ3 k) := by decide +kernel
abbrev cJ3_checkIndex_8e157 : ByteArray := prog_43_method_11_code
def yJ3_checkIndex_8e157 : MethodName := ⟨RJ3, "checkIndex", "(IILjava/util/function/BiFunction;)I"⟩
def RL : String := "OnboardingWorksLaw"
abbrev cL_step : ByteArray := method_3_code
def yL_step : MethodName := ⟨RL, "step", "(LOnboardingWorks;IIII[J)I"⟩
abbrev cL_role : ByteArray := method_4_code
def yL_role : MethodName := ⟨RL, "role", "(LOnboardingWorks;II[J)I"⟩
abbrev cL_right : ByteArray := method_5_code
def yL_right : MethodName := ⟨RL, "right", "(LOnboardingWorks;I[J)I"⟩
abbrev cL_stock : ByteArray := method_6_code
def yL_stock : MethodName := ⟨RL, "stock", "(LOnboardingWorks;II[J)I"⟩
abbrev cL_order : ByteArray := method_7_code
def yL_order : MethodName := ⟨RL, "order", "(LOnboardingWorks;III[J)I"⟩
abbrev cL_late : ByteArray := method_8_code
def yL_late : MethodName := ⟨RL, "late", "(LOnboardingWorks;II[J)I"⟩
abbrev cL_session : ByteArray := method_9_code
def yL_session : MethodName := ⟨RL, "session", "(LOnboardingWorks;III[J)I"⟩
abbrev cL_ofSession : ByteArray := method_10_code
def yL_ofSession : MethodName := ⟨RL, "ofSession", "(LOnboardingWorks;II[J)I"⟩
abbrev cL_ofItem : ByteArray := method_11_code
def yL_ofItem : MethodName := ⟨RL, "ofItem", "(LOnboardingWorks;II[J)I"⟩
abbrev cL_join : ByteArray := method_12_code
def yL_join : MethodName := ⟨RL, "join", "(LOnboardingWorks;II[J)I"⟩
abbrev cL_leave : ByteArray := method_13_code
def yL_leave : MethodName := ⟨RL, "leave", "(LOnboardingWorks;I[J)I"⟩
abbrev cL_day : ByteArray := method_14_code
def yL_day : MethodName := ⟨RL, "day", "(LOnboardingWorks;[J)I"⟩
abbrev cL_ofStep : ByteArray := method_15_code
def yL_ofStep : MethodName := ⟨RL, "ofStep", "(LOnboardingWorks;III[J)I"⟩
abbrev cL_ofJoiner : ByteArray := method_16_code
def yL_ofJoiner : MethodName := ⟨RL, "ofJoiner", "(LOnboardingWorks;II[J)I"⟩
abbrev cL_many : ByteArray := method_17_code
def yL_many : MethodName := ⟨RL, "many", "(LOnboardingWorks;I[J)I"⟩
abbrev cL_rightOn : ByteArray := method_18_code
def yL_rightOn : MethodName := ⟨RL, "rightOn", "(LOnboardingWorks;II[J)I"⟩
abbrev cL_shiftBy : ByteArray := method_19_code
def yL_shiftBy : MethodName := ⟨RL, "shiftBy", "(LOnboardingWorks;II[J)I"⟩
abbrev cL_next : ByteArray := method_20_code
def yL_next : MethodName := ⟨RL, "next", "(LOnboardingWorks;I[J)I"⟩
abbrev cL_waitFor : ByteArray := method_21_code
def yL_waitFor : MethodName := ⟨RL, "waitFor", "(LOnboardingWorks;II[J)I"⟩
abbrev cL_law : ByteArray := code
def yL_law : MethodName := ⟨RL, "law", "([I)Z"⟩
abbrev vwCl : List vw_C := [(RJ6, TJ6, 1), (RJx35411, TJx35411, 4), (RJx4a65c, TJx4a65c, 3), (RX0, TX0, 7), (RX1, TX1, 8), (RX2, TX2, 8), (RX3, TX3, 5), (RX4, TX4, 5), (RX5, TX5, 7), (RX6, TX6, 8), (RX7, TX7, 4), (RX8, TX8, 3), (RX9, TX9, 4), (RX10, TX10, 9)]
