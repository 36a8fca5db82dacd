/-! ===== BEGIN printed: names, fields, word lists, decode rows ===== -/
def RX0 : String := "OnboardingWorks$Forecast"
def TX0 : u_T := fun k => match k with
  | 0 => ("OnboardingWorks$Forecast", "plan", "LOnboardingWorks$Plan;", true)
  | 1 => ("OnboardingWorks$Forecast", "storeroom", "LOnboardingWorks$Storeroom;", true)
  | 2 => ("OnboardingWorks$Forecast", "timetable", "LOnboardingWorks$Timetable;", true)
  | 3 => ("OnboardingWorks$Forecast", "supplyDays", "[I", true)
  | 4 => ("OnboardingWorks$Forecast", "begins", "[I", true)
  | 5 => ("OnboardingWorks$Forecast", "ends", "[I", true)
  | _ => ("OnboardingWorks$Forecast", "tomorrow", "I", false)
def tyX0 : Nat → FieldType := fun k => match k with
  | 0 => .object "OnboardingWorks$Plan"
  | 1 => .object "OnboardingWorks$Storeroom"
  | 2 => .object "OnboardingWorks$Timetable"
  | 3 => .array .int
  | 4 => .array .int
  | 5 => .array .int
  | _ => .int
theorem nmX0 : ∀ a, a < 7 → ∀ b, b < 7 → a ≠ b → (TX0 a).2.1 ≠ (TX0 b).2.1 := by decide +kernel
theorem tyX0_ok : ∀ k, k < 7 → parseFieldDescriptor (TX0 k).2.2.1 = some (tyX0 k) := by decide +kernel
abbrev cX0_init : ByteArray := prog_2_method_1_code
def yX0_init : MethodName := ⟨RX0, "<init>", "(LOnboardingWorks$Plan;LOnboardingWorks$Storeroom;LOnboardingWorks$Timetable;)V"⟩
abbrev cX0_foresee : ByteArray := prog_2_method_2_code
def yX0_foresee : MethodName := ⟨RX0, "foresee", "(LOnboardingWorks$Joiner;III)V"⟩
abbrev cX0_lookFrom : ByteArray := prog_2_method_3_code
def yX0_lookFrom : MethodName := ⟨RX0, "lookFrom", "(III)V"⟩
abbrev cX0_foreseeStep : ByteArray := prog_2_method_4_code
def yX0_foreseeStep : MethodName := ⟨RX0, "foreseeStep", "(LOnboardingWorks$Joiner;I)V"⟩
abbrev cX0_beginOf : ByteArray := prog_2_method_5_code
def yX0_beginOf : MethodName := ⟨RX0, "beginOf", "(LOnboardingWorks$Joiner;I)I"⟩
abbrev cX0_withSupply : ByteArray := prog_2_method_6_code
def yX0_withSupply : MethodName := ⟨RX0, "withSupply", "(II)I"⟩
abbrev cX0_dayBehind : ByteArray := prog_2_method_7_code
def yX0_dayBehind : MethodName := ⟨RX0, "dayBehind", "(I)I"⟩
abbrev cX0_greatestEnd : ByteArray := prog_2_method_8_code
def yX0_greatestEnd : MethodName := ⟨RX0, "greatestEnd", "(I)I"⟩
def RX1 : String := "OnboardingWorks$Joiner"
def TX1 : u_T := fun k => match k with
  | 0 => ("OnboardingWorks$Joiner", "states", "[I", true)
  | 1 => ("OnboardingWorks$Joiner", "begins", "[I", true)
  | 2 => ("OnboardingWorks$Joiner", "lengths", "[I", true)
  | 3 => ("OnboardingWorks$Joiner", "booked", "[I", true)
  | 4 => ("OnboardingWorks$Joiner", "losses", "[I", true)
  | 5 => ("OnboardingWorks$Joiner", "steps", "I", false)
  | 6 => ("OnboardingWorks$Joiner", "start", "I", false)
  | _ => ("OnboardingWorks$Joiner", "left", "Z", false)
def tyX1 : Nat → FieldType := fun k => match k with
  | 0 => .array .int
  | 1 => .array .int
  | 2 => .array .int
  | 3 => .array .int
  | 4 => .array .int
  | 5 => .int
  | 6 => .int
  | _ => .boolean
theorem nmX1 : ∀ a, a < 8 → ∀ b, b < 8 → a ≠ b → (TX1 a).2.1 ≠ (TX1 b).2.1 := by decide +kernel
theorem tyX1_ok : ∀ k, k < 8 → parseFieldDescriptor (TX1 k).2.2.1 = some (tyX1 k) := by decide +kernel
abbrev cX1_init : ByteArray := prog_3_method_1_code
def yX1_init : MethodName := ⟨RX1, "<init>", "()V"⟩
abbrev cX1_isIn : ByteArray := prog_3_method_2_code
def yX1_isIn : MethodName := ⟨RX1, "isIn", "(II)Z"⟩
abbrev cX1_stepsIn : ByteArray := prog_3_method_3_code
def yX1_stepsIn : MethodName := ⟨RX1, "stepsIn", "(I)I"⟩
abbrev cX1_countIn : ByteArray := prog_3_method_4_code
def yX1_countIn : MethodName := ⟨RX1, "countIn", "(I)I"⟩
abbrev cX1_finishSteps : ByteArray := prog_3_method_5_code
def yX1_finishSteps : MethodName := ⟨RX1, "finishSteps", "(I)I"⟩
abbrev cX1_lastBegun : ByteArray := prog_3_method_6_code
def yX1_lastBegun : MethodName := ⟨RX1, "lastBegun", "()I"⟩
def RX2 : String := "OnboardingWorks$Plan"
def TX2 : u_T := fun k => match k with
  | 0 => ("OnboardingWorks$Plan", "kinds", "[I", true)
  | 1 => ("OnboardingWorks$Plan", "baseLengths", "[I", true)
  | 2 => ("OnboardingWorks$Plan", "needs", "[I", true)
  | 3 => ("OnboardingWorks$Plan", "ofs", "[I", true)
  | 4 => ("OnboardingWorks$Plan", "roles", "[I", true)
  | 5 => ("OnboardingWorks$Plan", "rights", "[I", true)
  | 6 => ("OnboardingWorks$Plan", "stepCount", "I", false)
  | _ => ("OnboardingWorks$Plan", "rightCount", "I", false)
def tyX2 : Nat → FieldType := fun k => match k with
  | 0 => .array .int
  | 1 => .array .int
  | 2 => .array .int
  | 3 => .array .int
  | 4 => .array .int
  | 5 => .array .int
  | 6 => .int
  | _ => .int
theorem nmX2 : ∀ a, a < 8 → ∀ b, b < 8 → a ≠ b → (TX2 a).2.1 ≠ (TX2 b).2.1 := by decide +kernel
theorem tyX2_ok : ∀ k, k < 8 → parseFieldDescriptor (TX2 k).2.2.1 = some (tyX2 k) := by decide +kernel
abbrev cX2_init : ByteArray := prog_4_method_1_code
def yX2_init : MethodName := ⟨RX2, "<init>", "()V"⟩
abbrev cX2_knows : ByteArray := prog_4_method_2_code
def yX2_knows : MethodName := ⟨RX2, "knows", "(I)Z"⟩
abbrev cX2_addStep : ByteArray := prog_4_method_3_code
def yX2_addStep : MethodName := ⟨RX2, "addStep", "(IIII)I"⟩
abbrev cX2_addRight : ByteArray := prog_4_method_4_code
def yX2_addRight : MethodName := ⟨RX2, "addRight", "(I)I"⟩
abbrev cX2_needsAreDone : ByteArray := prog_4_method_5_code
def yX2_needsAreDone : MethodName := ⟨RX2, "needsAreDone", "(LOnboardingWorks$Joiner;I)Z"⟩
abbrev cX2_lengthFor : ByteArray := prog_4_method_6_code
def yX2_lengthFor : MethodName := ⟨RX2, "lengthFor", "(LOnboardingWorks$Joiner;I)I"⟩
abbrev cX2_rightsOf : ByteArray := prog_4_method_7_code
def yX2_rightsOf : MethodName := ⟨RX2, "rightsOf", "(LOnboardingWorks$Joiner;)I"⟩
def RX3 : String := "OnboardingWorks$Storeroom"
def TX3 : u_T := fun k => match k with
  | 0 => ("OnboardingWorks$Storeroom", "pieces", "[I", true)
  | 1 => ("OnboardingWorks$Storeroom", "orderItems", "[I", true)
  | 2 => ("OnboardingWorks$Storeroom", "orderPieces", "[I", true)
  | 3 => ("OnboardingWorks$Storeroom", "orderDays", "[I", true)
  | _ => ("OnboardingWorks$Storeroom", "orderCount", "I", false)
def tyX3 : Nat → FieldType := fun k => match k with
  | 0 => .array .int
  | 1 => .array .int
  | 2 => .array .int
  | 3 => .array .int
  | _ => .int
theorem nmX3 : ∀ a, a < 5 → ∀ b, b < 5 → a ≠ b → (TX3 a).2.1 ≠ (TX3 b).2.1 := by decide +kernel
theorem tyX3_ok : ∀ k, k < 5 → parseFieldDescriptor (TX3 k).2.2.1 = some (tyX3 k) := by decide +kernel
abbrev cX3_init : ByteArray := prog_5_method_1_code
def yX3_init : MethodName := ⟨RX3, "<init>", "()V"⟩
abbrev cX3_hasPiece : ByteArray := prog_5_method_2_code
def yX3_hasPiece : MethodName := ⟨RX3, "hasPiece", "(I)Z"⟩
abbrev cX3_putIn : ByteArray := prog_5_method_3_code
def yX3_putIn : MethodName := ⟨RX3, "putIn", "(II)V"⟩
abbrev cX3_takeOne : ByteArray := prog_5_method_4_code
def yX3_takeOne : MethodName := ⟨RX3, "takeOne", "(I)V"⟩
abbrev cX3_addOrder : ByteArray := prog_5_method_5_code
def yX3_addOrder : MethodName := ⟨RX3, "addOrder", "(III)I"⟩
abbrev cX3_receive : ByteArray := prog_5_method_7_code
def yX3_receive : MethodName := ⟨RX3, "receive", "(I)V"⟩
abbrev cX3_piecesToCome : ByteArray := prog_5_method_8_code
def yX3_piecesToCome : MethodName := ⟨RX3, "piecesToCome", "(II)I"⟩
abbrev cX3_earliestToCome : ByteArray := prog_5_method_9_code
def yX3_earliestToCome : MethodName := ⟨RX3, "earliestToCome", "(IIII)I"⟩
def RX4 : String := "OnboardingWorks$Timetable"
def TX4 : u_T := fun k => match k with
  | 0 => ("OnboardingWorks$Timetable", "courses", "[I", true)
  | 1 => ("OnboardingWorks$Timetable", "days", "[I", true)
  | 2 => ("OnboardingWorks$Timetable", "seats", "[I", true)
  | 3 => ("OnboardingWorks$Timetable", "taken", "[I", true)
  | _ => ("OnboardingWorks$Timetable", "sessionCount", "I", false)
def tyX4 : Nat → FieldType := fun k => match k with
  | 0 => .array .int
  | 1 => .array .int
  | 2 => .array .int
  | 3 => .array .int
  | _ => .int
theorem nmX4 : ∀ a, a < 5 → ∀ b, b < 5 → a ≠ b → (TX4 a).2.1 ≠ (TX4 b).2.1 := by decide +kernel
theorem tyX4_ok : ∀ k, k < 5 → parseFieldDescriptor (TX4 k).2.2.1 = some (tyX4 k) := by decide +kernel
abbrev cX4_init : ByteArray := prog_6_method_1_code
def yX4_init : MethodName := ⟨RX4, "<init>", "()V"⟩
abbrev cX4_addSession : ByteArray := prog_6_method_2_code
def yX4_addSession : MethodName := ⟨RX4, "addSession", "(III)I"⟩
abbrev cX4_dayOf : ByteArray := prog_6_method_3_code
def yX4_dayOf : MethodName := ⟨RX4, "dayOf", "(I)I"⟩
abbrev cX4_book : ByteArray := prog_6_method_4_code
def yX4_book : MethodName := ⟨RX4, "book", "(II)I"⟩
abbrev cX4_release : ByteArray := prog_6_method_5_code
def yX4_release : MethodName := ⟨RX4, "release", "(I)V"⟩
abbrev cX4_seatsTaken : ByteArray := prog_6_method_6_code
def yX4_seatsTaken : MethodName := ⟨RX4, "seatsTaken", "()I"⟩
def RX5 : String := "OnboardingWorks"
def TX5 : u_T := fun k => match k with
  | 0 => ("OnboardingWorks", "plan", "LOnboardingWorks$Plan;", true)
  | 1 => ("OnboardingWorks", "storeroom", "LOnboardingWorks$Storeroom;", true)
  | 2 => ("OnboardingWorks", "timetable", "LOnboardingWorks$Timetable;", true)
  | 3 => ("OnboardingWorks", "forecast", "LOnboardingWorks$Forecast;", true)
  | 4 => ("OnboardingWorks", "joiners", "[LOnboardingWorks$Joiner;", true)
  | 5 => ("OnboardingWorks", "joinerCount", "I", false)
  | _ => ("OnboardingWorks", "today", "I", false)
def tyX5 : Nat → FieldType := fun k => match k with
  | 0 => .object "OnboardingWorks$Plan"
  | 1 => .object "OnboardingWorks$Storeroom"
  | 2 => .object "OnboardingWorks$Timetable"
  | 3 => .object "OnboardingWorks$Forecast"
  | 4 => .array (.object "OnboardingWorks$Joiner")
  | 5 => .int
  | _ => .int
theorem nmX5 : ∀ a, a < 7 → ∀ b, b < 7 → a ≠ b → (TX5 a).2.1 ≠ (TX5 b).2.1 := by decide +kernel
theorem tyX5_ok : ∀ k, k < 7 → parseFieldDescriptor (TX5 k).2.2.1 = some (tyX5 k) := by decide +kernel
abbrev cX5_init : ByteArray := prog_1_method_1_code
def yX5_init : MethodName := ⟨RX5, "<init>", "()V"⟩
abbrev cX5_step : ByteArray := prog_1_method_2_code
def yX5_step : MethodName := ⟨RX5, "step", "(IIII)I"⟩
abbrev cX5_role : ByteArray := prog_1_method_3_code
def yX5_role : MethodName := ⟨RX5, "role", "(II)I"⟩
abbrev cX5_right : ByteArray := prog_1_method_4_code
def yX5_right : MethodName := ⟨RX5, "right", "(I)I"⟩
abbrev cX5_stock : ByteArray := prog_1_method_5_code
def yX5_stock : MethodName := ⟨RX5, "stock", "(II)I"⟩
abbrev cX5_order : ByteArray := prog_1_method_6_code
def yX5_order : MethodName := ⟨RX5, "order", "(III)I"⟩
abbrev cX5_session : ByteArray := prog_1_method_8_code
def yX5_session : MethodName := ⟨RX5, "session", "(III)I"⟩
abbrev cX5_ofSession : ByteArray := prog_1_method_9_code
def yX5_ofSession : MethodName := ⟨RX5, "ofSession", "(II)I"⟩
abbrev cX5_ofItem : ByteArray := prog_1_method_10_code
def yX5_ofItem : MethodName := ⟨RX5, "ofItem", "(II)I"⟩
abbrev cX5_join : ByteArray := prog_1_method_11_code
def yX5_join : MethodName := ⟨RX5, "join", "(II)I"⟩
abbrev cX5_leave : ByteArray := prog_1_method_12_code
def yX5_leave : MethodName := ⟨RX5, "leave", "(I)I"⟩
abbrev cX5_day : ByteArray := prog_1_method_13_code
def yX5_day : MethodName := ⟨RX5, "day", "()I"⟩
abbrev cX5_ofStep : ByteArray := prog_1_method_14_code
def yX5_ofStep : MethodName := ⟨RX5, "ofStep", "(III)I"⟩
abbrev cX5_ofJoiner : ByteArray := prog_1_method_15_code
def yX5_ofJoiner : MethodName := ⟨RX5, "ofJoiner", "(II)I"⟩
abbrev cX5_many : ByteArray := prog_1_method_16_code
def yX5_many : MethodName := ⟨RX5, "many", "(I)I"⟩
abbrev cX5_rightOn : ByteArray := prog_1_method_18_code
def yX5_rightOn : MethodName := ⟨RX5, "rightOn", "(II)I"⟩
abbrev cX5_next : ByteArray := prog_1_method_20_code
def yX5_next : MethodName := ⟨RX5, "next", "(I)I"⟩
abbrev cX5_digest : ByteArray := prog_1_method_22_code
def yX5_digest : MethodName := ⟨RX5, "digest", "()J"⟩
abbrev cX5_has : ByteArray := prog_1_method_23_code
def yX5_has : MethodName := ⟨RX5, "has", "(II)Z"⟩
abbrev cX5_isWithin : ByteArray := prog_1_method_24_code
def yX5_isWithin : MethodName := ⟨RX5, "isWithin", "(III)Z"⟩
abbrev cX5_isOfKind : ByteArray := prog_1_method_25_code
def yX5_isOfKind : MethodName := ⟨RX5, "isOfKind", "(II)Z"⟩
abbrev cX5_isAhead : ByteArray := prog_1_method_26_code
def yX5_isAhead : MethodName := ⟨RX5, "isAhead", "(I)Z"⟩
abbrev cX5_joinerAt : ByteArray := prog_1_method_28_code
def yX5_joinerAt : MethodName := ⟨RX5, "joinerAt", "(I)LOnboardingWorks$Joiner;"⟩
abbrev cX5_beginSteps : ByteArray := prog_1_method_29_code
def yX5_beginSteps : MethodName := ⟨RX5, "beginSteps", "(LOnboardingWorks$Joiner;)V"⟩
abbrev cX5_isReady : ByteArray := prog_1_method_30_code
def yX5_isReady : MethodName := ⟨RX5, "isReady", "(LOnboardingWorks$Joiner;I)Z"⟩
abbrev cX5_canBegin : ByteArray := prog_1_method_31_code
def yX5_canBegin : MethodName := ⟨RX5, "canBegin", "(LOnboardingWorks$Joiner;I)Z"⟩
abbrev cX5_loseSessions : ByteArray := prog_1_method_32_code
def yX5_loseSessions : MethodName := ⟨RX5, "loseSessions", "(LOnboardingWorks$Joiner;)V"⟩
abbrev cX5_bookAll : ByteArray := prog_1_method_33_code
def yX5_bookAll : MethodName := ⟨RX5, "bookAll", "()V"⟩
abbrev cX5_bookFor : ByteArray := prog_1_method_34_code
def yX5_bookFor : MethodName := ⟨RX5, "bookFor", "(LOnboardingWorks$Joiner;)V"⟩
abbrev cX5_takeBackStep : ByteArray := prog_1_method_35_code
def yX5_takeBackStep : MethodName := ⟨RX5, "takeBackStep", "(LOnboardingWorks$Joiner;)V"⟩
abbrev cX5_foreseenOfStep : ByteArray := prog_1_method_36_code
def yX5_foreseenOfStep : MethodName := ⟨RX5, "foreseenOfStep", "(LOnboardingWorks$Joiner;II)I"⟩
abbrev cX5_foreseenOfJoiner : ByteArray := prog_1_method_37_code
def yX5_foreseenOfJoiner : MethodName := ⟨RX5, "foreseenOfJoiner", "(LOnboardingWorks$Joiner;I)I"⟩
abbrev cX5_nextStep : ByteArray := prog_1_method_38_code
def yX5_nextStep : MethodName := ⟨RX5, "nextStep", "(LOnboardingWorks$Joiner;)I"⟩
abbrev cX5_countWaitingOn : ByteArray := prog_1_method_39_code
def yX5_countWaitingOn : MethodName := ⟨RX5, "countWaitingOn", "(LOnboardingWorks$Joiner;I)I"⟩
abbrev cX5_countWaitingFor : ByteArray := prog_1_method_40_code
def yX5_countWaitingFor : MethodName := ⟨RX5, "countWaitingFor", "(I)I"⟩
abbrev cX5_countLeft : ByteArray := prog_1_method_41_code
def yX5_countLeft : MethodName := ⟨RX5, "countLeft", "()I"⟩
abbrev cX5_countStepsIn : ByteArray := prog_1_method_42_code
def yX5_countStepsIn : MethodName := ⟨RX5, "countStepsIn", "(I)I"⟩
abbrev cX5_countRights : ByteArray := prog_1_method_43_code
def yX5_countRights : MethodName := ⟨RX5, "countRights", "()I"⟩
abbrev cX5_digestWith : ByteArray := prog_1_method_44_code
def yX5_digestWith : MethodName := ⟨RX5, "digestWith", "(JLOnboardingWorks$Joiner;)J"⟩
def RX6 : String := "OnboardingWorksModel$Joiner"
def TX6 : u_T := fun k => match k with
  | _ => ("", "", "", false)
def tyX6 : Nat → FieldType := fun k => match k with
  | _ => .int
theorem nmX6 : ∀ a, a < 0 → ∀ b, b < 0 → a ≠ b → (TX6 a).2.1 ≠ (TX6 b).2.1 := by decide +kernel
theorem tyX6_ok : ∀ k, k < 0 → parseFieldDescriptor (TX6 k).2.2.1 = some (tyX6 k) := by decide +kernel
def RX7 : String := "OnboardingWorksModel$Order"
def TX7 : u_T := fun k => match k with
  | _ => ("", "", "", false)
def tyX7 : Nat → FieldType := fun k => match k with
  | _ => .int
theorem nmX7 : ∀ a, a < 0 → ∀ b, b < 0 → a ≠ b → (TX7 a).2.1 ≠ (TX7 b).2.1 := by decide +kernel
theorem tyX7_ok : ∀ k, k < 0 → parseFieldDescriptor (TX7 k).2.2.1 = some (tyX7 k) := by decide +kernel
def RX8 : String := "OnboardingWorksModel$Session"
def TX8 : u_T := fun k => match k with
  | _ => ("", "", "", false)
def tyX8 : Nat → FieldType := fun k => match k with
  | _ => .int
theorem nmX8 : ∀ a, a < 0 → ∀ b, b < 0 → a ≠ b → (TX8 a).2.1 ≠ (TX8 b).2.1 := by decide +kernel
theorem tyX8_ok : ∀ k, k < 0 → parseFieldDescriptor (TX8 k).2.2.1 = some (tyX8 k) := by decide +kernel
def RX9 : String := "OnboardingWorksModel$Step"
def TX9 : u_T := fun k => match k with
  | _ => ("", "", "", false)
def tyX9 : Nat → FieldType := fun k => match k with
  | _ => .int
theorem nmX9 : ∀ a, a < 0 → ∀ b, b < 0 → a ≠ b → (TX9 a).2.1 ≠ (TX9 b).2.1 := by decide +kernel
theorem tyX9_ok : ∀ k, k < 0 → parseFieldDescriptor (TX9 k).2.2.1 = some (tyX9 k) := by decide +kernel
def RX10 : String := "OnboardingWorksModel"
def TX10 : u_T := fun k => match k with
  | _ => ("", "", "", false)
def tyX10 : Nat → FieldType := fun k => match k with
  | _ => .int
theorem nmX10 : ∀ a, a < 0 → ∀ b, b < 0 → a ≠ b → (TX10 a).2.1 ≠ (TX10 b).2.1 := by decide +kernel
theorem tyX10_ok : ∀ k, k < 0 → parseFieldDescriptor (TX10 k).2.2.1 = some (tyX10 k) := by decide +kernel
def RJx145de : String := "java/io/Serializable"
def TJx145de : u_T := fun k => match k with
  | _ => ("", "", "", false)
def tyJx145de : Nat → FieldType := fun k => match k with
  | _ => .int
theorem nmJx145de : ∀ a, a < 0 → ∀ b, b < 0 → a ≠ b → (TJx145de a).2.1 ≠ (TJx145de b).2.1 := by decide +kernel
theorem tyJx145de_ok : ∀ k, k < 0 → parseFieldDescriptor (TJx145de k).2.2.1 = some (tyJx145de k) := by decide +kernel
def RJ6 : String := "java/lang/Integer"
def TJ6 : u_T := fun k => match k with
  | _ => ("", "", "", false)
def tyJ6 : Nat → FieldType := fun k => match k with
  | _ => .int
theorem nmJ6 : ∀ a, a < 0 → ∀ b, b < 0 → a ≠ b → (TJ6 a).2.1 ≠ (TJ6 b).2.1 := by decide +kernel
theorem tyJ6_ok : ∀ k, k < 0 → parseFieldDescriptor (TJ6 k).2.2.1 = some (tyJ6 k) := by decide +kernel
abbrev cJ6_bitCount_0f7a4 : ByteArray := prog_17_method_49_code
def yJ6_bitCount_0f7a4 : MethodName := ⟨RJ6, "bitCount", "(I)I"⟩
def RJ9 : String := "java/lang/Math"
def TJ9 : u_T := fun k => match k with
  | _ => ("", "", "", false)
def tyJ9 : Nat → FieldType := fun k => match k with
  | _ => .int
theorem nmJ9 : ∀ a, a < 0 → ∀ b, b < 0 → a ≠ b → (TJ9 a).2.1 ≠ (TJ9 b).2.1 := by decide +kernel
theorem tyJ9_ok : ∀ k, k < 0 → parseFieldDescriptor (TJ9 k).2.2.1 = some (tyJ9 k) := by decide +kernel
abbrev cJ9_max_7cf53 : ByteArray := prog_18_method_65_code
def yJ9_max_7cf53 : MethodName := ⟨RJ9, "max", "(II)I"⟩
abbrev cJ9_min_7cf53 : ByteArray := prog_18_method_69_code
def yJ9_min_7cf53 : MethodName := ⟨RJ9, "min", "(II)I"⟩
def RJ0 : String := "java/lang/String"
def TJ0 : u_T := fun k => match k with
  | _ => ("", "", "", false)
def tyJ0 : Nat → FieldType := fun k => match k with
  | _ => .int
theorem nmJ0 : ∀ a, a < 0 → ∀ b, b < 0 → a ≠ b → (TJ0 a).2.1 ≠ (TJ0 b).2.1 := by decide +kernel
theorem tyJ0_ok : ∀ k, k < 0 → parseFieldDescriptor (TJ0 k).2.2.1 = some (tyJ0 k) := by decide +kernel
def RL : String := "OnboardingWorksLaw"
abbrev cL_below : ByteArray := method_2_code
def yL_below : MethodName := ⟨RL, "below", "(II)I"⟩
abbrev cL_cell : ByteArray := method_3_code
def yL_cell : MethodName := ⟨RL, "cell", "([II)I"⟩
abbrev cL_law : ByteArray := code
def yL_law : MethodName := ⟨RL, "law", "([I)Z"⟩
abbrev cL_isFair : ByteArray := method_5_code
def yL_isFair : MethodName := ⟨RL, "isFair", "(LOnboardingWorks;[I[I[I)Z"⟩
abbrev vwCl : List vw_C := [(RX0, TX0, 7), (RX1, TX1, 8), (RX2, TX2, 8), (RX3, TX3, 5), (RX4, TX4, 5), (RX5, TX5, 7)]
