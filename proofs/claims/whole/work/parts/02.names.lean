def RX0 : String := "LevyPhases$Levy"
def TX0 : u_T := fun k => match k with
  | 0 => ("LevyPhases$Levy", "day", "I", false)
  | 1 => ("LevyPhases$Levy", "phaseCount", "I", false)
  | 2 => ("LevyPhases$Levy", "rates", "[I", true)
  | 3 => ("LevyPhases$Levy", "settings", "[I", true)
  | _ => ("LevyPhases$Levy", "phases", "[LLevyPhases$Phase;", true)
def tyX0 : Nat → FieldType := fun k => match k with
  | 0 => .int
  | 1 => .int
  | 2 => .array .int
  | 3 => .array .int
  | _ => .array (.object "LevyPhases$Phase")
abbrev wsX00 : List Cond := u_ws RX0 TX0 5
theorem nmX0 : ∀ a, a < 5 → ∀ b, b < 5 → a ≠ b → (TX0 a).2.1 ≠ (TX0 b).2.1 := by decide +kernel
theorem tyX0_ok : ∀ k, k < 5 → parseFieldDescriptor (TX0 k).2.2.1 = some (tyX0 k) := by decide +kernel
abbrev cX0_init : ByteArray := prog_2_method_1_code
def yX0_init : MethodName := ⟨RX0, "<init>", "()V"⟩
abbrev cX0_copyFrom : ByteArray := prog_2_method_2_code
def yX0_copyFrom : MethodName := ⟨RX0, "copyFrom", "(LLevyPhases$Levy;)V"⟩
abbrev cX0_hasPhase : ByteArray := prog_2_method_3_code
def yX0_hasPhase : MethodName := ⟨RX0, "hasPhase", "(I)Z"⟩
abbrev cX0_appendPhase : ByteArray := prog_2_method_4_code
def yX0_appendPhase : MethodName := ⟨RX0, "appendPhase", "()I"⟩
abbrev cX0_changeRate : ByteArray := prog_2_method_5_code
def yX0_changeRate : MethodName := ⟨RX0, "changeRate", "(II)I"⟩
abbrev cX0_beginPhase : ByteArray := prog_2_method_6_code
def yX0_beginPhase : MethodName := ⟨RX0, "beginPhase", "(I)I"⟩
abbrev cX0_hasDaysLeft : ByteArray := prog_2_method_7_code
def yX0_hasDaysLeft : MethodName := ⟨RX0, "hasDaysLeft", "(I)Z"⟩
abbrev cX0_letDaysPass : ByteArray := prog_2_method_8_code
def yX0_letDaysPass : MethodName := ⟨RX0, "letDaysPass", "(I)I"⟩
abbrev cX0_daysToBreak : ByteArray := prog_2_method_9_code
def yX0_daysToBreak : MethodName := ⟨RX0, "daysToBreak", "(I)I"⟩
abbrev cX0_breaksWithin : ByteArray := prog_2_method_10_code
def yX0_breaksWithin : MethodName := ⟨RX0, "breaksWithin", "(II)Z"⟩
abbrev cX0_surchargeWithin : ByteArray := prog_2_method_11_code
def yX0_surchargeWithin : MethodName := ⟨RX0, "surchargeWithin", "(II)I"⟩
abbrev cX0_allows : ByteArray := prog_2_method_12_code
def yX0_allows : MethodName := ⟨RX0, "allows", "(II)Z"⟩
abbrev cX0_reasonAgainst : ByteArray := prog_2_method_13_code
def yX0_reasonAgainst : MethodName := ⟨RX0, "reasonAgainst", "(III)I"⟩
abbrev cX0_sumOverBegunPhases : ByteArray := prog_2_method_14_code
def yX0_sumOverBegunPhases : MethodName := ⟨RX0, "sumOverBegunPhases", "(I)I"⟩
abbrev cX0_numberOf : ByteArray := prog_2_method_15_code
def yX0_numberOf : MethodName := ⟨RX0, "numberOf", "(LLevyPhases$Phase;I)I"⟩
def RX1 : String := "LevyPhases$Orders"
def TX1 : u_T := fun k => match k with
  | 0 => ("LevyPhases$Orders", "codes", "[I", true)
  | 1 => ("LevyPhases$Orders", "length", "I", false)
  | 2 => ("LevyPhases$Orders", "at", "I", false)
  | 3 => ("LevyPhases$Orders", "kind", "I", false)
  | 4 => ("LevyPhases$Orders", "phase", "I", false)
  | 5 => ("LevyPhases$Orders", "use", "I", false)
  | _ => ("LevyPhases$Orders", "number", "I", false)
def tyX1 : Nat → FieldType := fun k => match k with
  | 0 => .array .int
  | 1 => .int
  | 2 => .int
  | 3 => .int
  | 4 => .int
  | 5 => .int
  | _ => .int
abbrev wsX10 : List Cond := u_ws RX1 TX1 7
theorem nmX1 : ∀ a, a < 7 → ∀ b, b < 7 → a ≠ b → (TX1 a).2.1 ≠ (TX1 b).2.1 := by decide +kernel
theorem tyX1_ok : ∀ k, k < 7 → parseFieldDescriptor (TX1 k).2.2.1 = some (tyX1 k) := by decide +kernel
abbrev cX1_init : ByteArray := prog_3_method_1_code
def yX1_init : MethodName := ⟨RX1, "<init>", "()V"⟩
abbrev cX1_appendCode : ByteArray := prog_3_method_2_code
def yX1_appendCode : MethodName := ⟨RX1, "appendCode", "(I)I"⟩
abbrev cX1_rewind : ByteArray := prog_3_method_3_code
def yX1_rewind : MethodName := ⟨RX1, "rewind", "()V"⟩
abbrev cX1_readRow : ByteArray := prog_3_method_4_code
def yX1_readRow : MethodName := ⟨RX1, "readRow", "()Z"⟩
abbrev cX1_readNextOrder : ByteArray := prog_3_method_5_code
def yX1_readNextOrder : MethodName := ⟨RX1, "readNextOrder", "()Z"⟩
abbrev cX1_readOrder : ByteArray := prog_3_method_6_code
def yX1_readOrder : MethodName := ⟨RX1, "readOrder", "()Z"⟩
abbrev cX1_readPhase : ByteArray := prog_3_method_7_code
def yX1_readPhase : MethodName := ⟨RX1, "readPhase", "()Z"⟩
abbrev cX1_readUse : ByteArray := prog_3_method_8_code
def yX1_readUse : MethodName := ⟨RX1, "readUse", "()Z"⟩
abbrev cX1_readNumber : ByteArray := prog_3_method_9_code
def yX1_readNumber : MethodName := ⟨RX1, "readNumber", "(II)Z"⟩
abbrev cX1_readDigit : ByteArray := prog_3_method_10_code
def yX1_readDigit : MethodName := ⟨RX1, "readDigit", "(II)I"⟩
abbrev cX1_isDigit : ByteArray := prog_3_method_11_code
def yX1_isDigit : MethodName := ⟨RX1, "isDigit", "(II)Z"⟩
abbrev cX1_readSign : ByteArray := prog_3_method_12_code
def yX1_readSign : MethodName := ⟨RX1, "readSign", "(C)Z"⟩
def RX2 : String := "LevyPhases$Phase"
def TX2 : u_T := fun k => match k with
  | 0 => ("LevyPhases$Phase", "areas", "[I", true)
  | 1 => ("LevyPhases$Phase", "exemptAreas", "[I", true)
  | 2 => ("LevyPhases$Phase", "rates", "[I", true)
  | 3 => ("LevyPhases$Phase", "lapsedMoney", "[I", true)
  | 4 => ("LevyPhases$Phase", "instalmentSums", "[I", true)
  | 5 => ("LevyPhases$Phase", "openSums", "[I", true)
  | 6 => ("LevyPhases$Phase", "firstDay", "I", false)
  | 7 => ("LevyPhases$Phase", "daysBetween", "I", false)
  | 8 => ("LevyPhases$Phase", "instalments", "I", false)
  | 9 => ("LevyPhases$Phase", "paid", "I", false)
  | 10 => ("LevyPhases$Phase", "landTaken", "I", false)
  | 11 => ("LevyPhases$Phase", "surcharge", "I", false)
  | _ => ("LevyPhases$Phase", "broken", "Z", false)
def tyX2 : Nat → FieldType := fun k => match k with
  | 0 => .array .int
  | 1 => .array .int
  | 2 => .array .int
  | 3 => .array .int
  | 4 => .array .int
  | 5 => .array .int
  | 6 => .int
  | 7 => .int
  | 8 => .int
  | 9 => .int
  | 10 => .int
  | 11 => .int
  | _ => .boolean
abbrev wsX20 : List Cond := u_ws RX2 TX2 13
theorem nmX2 : ∀ a, a < 13 → ∀ b, b < 13 → a ≠ b → (TX2 a).2.1 ≠ (TX2 b).2.1 := by decide +kernel
theorem tyX2_ok : ∀ k, k < 13 → parseFieldDescriptor (TX2 k).2.2.1 = some (tyX2 k) := by decide +kernel
abbrev cX2_init : ByteArray := prog_4_method_1_code
def yX2_init : MethodName := ⟨RX2, "<init>", "()V"⟩
abbrev cX2_copyFrom : ByteArray := prog_4_method_2_code
def yX2_copyFrom : MethodName := ⟨RX2, "copyFrom", "(LLevyPhases$Phase;)V"⟩
abbrev cX2_changeArea : ByteArray := prog_4_method_3_code
def yX2_changeArea : MethodName := ⟨RX2, "changeArea", "(II)I"⟩
abbrev cX2_changeExemptArea : ByteArray := prog_4_method_4_code
def yX2_changeExemptArea : MethodName := ⟨RX2, "changeExemptArea", "(II)I"⟩
abbrev cX2_startOn : ByteArray := prog_4_method_5_code
def yX2_startOn : MethodName := ⟨RX2, "startOn", "(II)I"⟩
abbrev cX2_takeMoney : ByteArray := prog_4_method_6_code
def yX2_takeMoney : MethodName := ⟨RX2, "takeMoney", "(I)I"⟩
abbrev cX2_takeLand : ByteArray := prog_4_method_7_code
def yX2_takeLand : MethodName := ⟨RX2, "takeLand", "(II)I"⟩
abbrev cX2_settle : ByteArray := prog_4_method_8_code
def yX2_settle : MethodName := ⟨RX2, "settle", "(I)V"⟩
abbrev cX2_endRelief : ByteArray := prog_4_method_9_code
def yX2_endRelief : MethodName := ⟨RX2, "endRelief", "(I)I"⟩
abbrev cX2_hasBegun : ByteArray := prog_4_method_10_code
def yX2_hasBegun : MethodName := ⟨RX2, "hasBegun", "()Z"⟩
abbrev cX2_chargeOfUse : ByteArray := prog_4_method_11_code
def yX2_chargeOfUse : MethodName := ⟨RX2, "chargeOfUse", "(I)I"⟩
abbrev cX2_reliefOfUse : ByteArray := prog_4_method_12_code
def yX2_reliefOfUse : MethodName := ⟨RX2, "reliefOfUse", "(I)I"⟩
abbrev cX2_charge : ByteArray := prog_4_method_13_code
def yX2_charge : MethodName := ⟨RX2, "charge", "()I"⟩
abbrev cX2_relief : ByteArray := prog_4_method_14_code
def yX2_relief : MethodName := ⟨RX2, "relief", "()I"⟩
abbrev cX2_lapsedSoFar : ByteArray := prog_4_method_15_code
def yX2_lapsedSoFar : MethodName := ⟨RX2, "lapsedSoFar", "()I"⟩
abbrev cX2_areaOfAllUses : ByteArray := prog_4_method_16_code
def yX2_areaOfAllUses : MethodName := ⟨RX2, "areaOfAllUses", "()I"⟩
abbrev cX2_owed : ByteArray := prog_4_method_17_code
def yX2_owed : MethodName := ⟨RX2, "owed", "()I"⟩
abbrev cX2_roomForLand : ByteArray := prog_4_method_18_code
def yX2_roomForLand : MethodName := ⟨RX2, "roomForLand", "(I)I"⟩
abbrev cX2_lastDayOfInstalment : ByteArray := prog_4_method_19_code
def yX2_lastDayOfInstalment : MethodName := ⟨RX2, "lastDayOfInstalment", "(I)I"⟩
abbrev cX2_instalmentsPaidWhole : ByteArray := prog_4_method_20_code
def yX2_instalmentsPaidWhole : MethodName := ⟨RX2, "instalmentsPaidWhole", "()I"⟩
abbrev cX2_dueOn : ByteArray := prog_4_method_21_code
def yX2_dueOn : MethodName := ⟨RX2, "dueOn", "(I)I"⟩
abbrev cX2_dayOfBreak : ByteArray := prog_4_method_22_code
def yX2_dayOfBreak : MethodName := ⟨RX2, "dayOfBreak", "()I"⟩
def RX3 : String := "LevyPhases"
def TX3 : u_T := fun k => match k with
  | 0 => ("LevyPhases", "levy", "LLevyPhases$Levy;", true)
  | 1 => ("LevyPhases", "saved", "[LLevyPhases$Levy;", true)
  | 2 => ("LevyPhases", "savedCount", "I", false)
  | 3 => ("LevyPhases", "nextSaved", "I", false)
  | _ => ("LevyPhases", "orders", "LLevyPhases$Orders;", true)
def tyX3 : Nat → FieldType := fun k => match k with
  | 0 => .object "LevyPhases$Levy"
  | 1 => .array (.object "LevyPhases$Levy")
  | 2 => .int
  | 3 => .int
  | _ => .object "LevyPhases$Orders"
abbrev wsX30 : List Cond := u_ws RX3 TX3 5
theorem nmX3 : ∀ a, a < 5 → ∀ b, b < 5 → a ≠ b → (TX3 a).2.1 ≠ (TX3 b).2.1 := by decide +kernel
theorem tyX3_ok : ∀ k, k < 5 → parseFieldDescriptor (TX3 k).2.2.1 = some (tyX3 k) := by decide +kernel
abbrev cX3_init : ByteArray := prog_1_method_1_code
def yX3_init : MethodName := ⟨RX3, "<init>", "()V"⟩
abbrev cX3_addPhase : ByteArray := prog_1_method_2_code
def yX3_addPhase : MethodName := ⟨RX3, "addPhase", "()I"⟩
abbrev cX3_area : ByteArray := prog_1_method_3_code
def yX3_area : MethodName := ⟨RX3, "area", "(III)I"⟩
abbrev cX3_exempt : ByteArray := prog_1_method_4_code
def yX3_exempt : MethodName := ⟨RX3, "exempt", "(III)I"⟩
abbrev cX3_rate : ByteArray := prog_1_method_5_code
def yX3_rate : MethodName := ⟨RX3, "rate", "(II)I"⟩
abbrev cX3_set : ByteArray := prog_1_method_6_code
def yX3_set : MethodName := ⟨RX3, "set", "(II)I"⟩
abbrev cX3_begin : ByteArray := prog_1_method_7_code
def yX3_begin : MethodName := ⟨RX3, "begin", "(I)I"⟩
abbrev cX3_pay : ByteArray := prog_1_method_8_code
def yX3_pay : MethodName := ⟨RX3, "pay", "(II)I"⟩
abbrev cX3_land : ByteArray := prog_1_method_9_code
def yX3_land : MethodName := ⟨RX3, "land", "(II)I"⟩
abbrev cX3_lapse : ByteArray := prog_1_method_10_code
def yX3_lapse : MethodName := ⟨RX3, "lapse", "(II)I"⟩
abbrev cX3_pass : ByteArray := prog_1_method_11_code
def yX3_pass : MethodName := ⟨RX3, "pass", "(I)I"⟩
abbrev cX3_append : ByteArray := prog_1_method_12_code
def yX3_append : MethodName := ⟨RX3, "append", "(I)I"⟩
abbrev cX3_clearBuffer : ByteArray := prog_1_method_13_code
def yX3_clearBuffer : MethodName := ⟨RX3, "clearBuffer", "()I"⟩
abbrev cX3_firstError : ByteArray := prog_1_method_14_code
def yX3_firstError : MethodName := ⟨RX3, "firstError", "()I"⟩
abbrev cX3_run : ByteArray := prog_1_method_15_code
def yX3_run : MethodName := ⟨RX3, "run", "()I"⟩
abbrev cX3_undo : ByteArray := prog_1_method_16_code
def yX3_undo : MethodName := ⟨RX3, "undo", "()I"⟩
abbrev cX3_phase : ByteArray := prog_1_method_17_code
def yX3_phase : MethodName := ⟨RX3, "phase", "(II)I"⟩
abbrev cX3_use : ByteArray := prog_1_method_18_code
def yX3_use : MethodName := ⟨RX3, "use", "(III)I"⟩
abbrev cX3_instalment : ByteArray := prog_1_method_19_code
def yX3_instalment : MethodName := ⟨RX3, "instalment", "(III)I"⟩
abbrev cX3_count : ByteArray := prog_1_method_20_code
def yX3_count : MethodName := ⟨RX3, "count", "(I)I"⟩
abbrev cX3_setting : ByteArray := prog_1_method_21_code
def yX3_setting : MethodName := ⟨RX3, "setting", "(I)I"⟩
abbrev cX3_whyNot : ByteArray := prog_1_method_22_code
def yX3_whyNot : MethodName := ⟨RX3, "whyNot", "(III)I"⟩
abbrev cX3_ifBegun : ByteArray := prog_1_method_23_code
def yX3_ifBegun : MethodName := ⟨RX3, "ifBegun", "(II)I"⟩
abbrev cX3_breaksIn : ByteArray := prog_1_method_24_code
def yX3_breaksIn : MethodName := ⟨RX3, "breaksIn", "(I)I"⟩
abbrev cX3_surchargesIn : ByteArray := prog_1_method_25_code
def yX3_surchargesIn : MethodName := ⟨RX3, "surchargesIn", "(I)I"⟩
abbrev cX3_mostUrgent : ByteArray := prog_1_method_26_code
def yX3_mostUrgent : MethodName := ⟨RX3, "mostUrgent", "()I"⟩
abbrev cX3_dueIn : ByteArray := prog_1_method_27_code
def yX3_dueIn : MethodName := ⟨RX3, "dueIn", "(II)I"⟩
abbrev cX3_settledShare : ByteArray := prog_1_method_28_code
def yX3_settledShare : MethodName := ⟨RX3, "settledShare", "()D"⟩
abbrev cX3_digest : ByteArray := prog_1_method_29_code
def yX3_digest : MethodName := ⟨RX3, "digest", "()J"⟩
abbrev cX3_hashOfPhase : ByteArray := prog_1_method_30_code
def yX3_hashOfPhase : MethodName := ⟨RX3, "hashOfPhase", "(JI)J"⟩
abbrev cX3_bitsOfShare : ByteArray := prog_1_method_31_code
def yX3_bitsOfShare : MethodName := ⟨RX3, "bitsOfShare", "(D)J"⟩
abbrev cX3_saveState : ByteArray := prog_1_method_32_code
def yX3_saveState : MethodName := ⟨RX3, "saveState", "()V"⟩
abbrev cX3_carryOutOrder : ByteArray := prog_1_method_33_code
def yX3_carryOutOrder : MethodName := ⟨RX3, "carryOutOrder", "()Z"⟩
abbrev cX3_demandPhase : ByteArray := prog_1_method_34_code
def yX3_demandPhase : MethodName := ⟨RX3, "demandPhase", "(I)V"⟩
abbrev cX3_demandNoReason : ByteArray := prog_1_method_35_code
def yX3_demandNoReason : MethodName := ⟨RX3, "demandNoReason", "(III)V"⟩
abbrev cX3_demandUse : ByteArray := prog_1_method_36_code
def yX3_demandUse : MethodName := ⟨RX3, "demandUse", "(I)V"⟩
abbrev cX3_demandSetting : ByteArray := prog_1_method_37_code
def yX3_demandSetting : MethodName := ⟨RX3, "demandSetting", "(I)V"⟩
abbrev cX3_demandRange : ByteArray := prog_1_method_38_code
def yX3_demandRange : MethodName := ⟨RX3, "demandRange", "(III)V"⟩
abbrev cX3_instalmentsFor : ByteArray := prog_1_method_39_code
def yX3_instalmentsFor : MethodName := ⟨RX3, "instalmentsFor", "(I)I"⟩
abbrev cX3_partOf : ByteArray := prog_1_method_40_code
def yX3_partOf : MethodName := ⟨RX3, "partOf", "(III)I"⟩
abbrev cX3_percentOf : ByteArray := prog_1_method_41_code
def yX3_percentOf : MethodName := ⟨RX3, "percentOf", "(II)I"⟩
def RX4 : String := "LevyPhasesModel"
def TX4 : u_T := fun k => match k with
  | 0 => ("LevyPhasesModel", "z", "[I", true)
  | 1 => ("LevyPhasesModel", "states", "I", false)
  | 2 => ("LevyPhasesModel", "history", "[I", true)
  | 3 => ("LevyPhasesModel", "length", "I", false)
  | 4 => ("LevyPhasesModel", "text", "[I", true)
  | 5 => ("LevyPhasesModel", "thrown", "I", false)
  | 6 => ("LevyPhasesModel", "parts", "[I", true)
  | 7 => ("LevyPhasesModel", "read", "I", false)
  | 8 => ("LevyPhasesModel", "number", "I", false)
  | 9 => ("LevyPhasesModel", "due", "I", false)
  | 10 => ("LevyPhasesModel", "kept", "[I", true)
  | _ => ("LevyPhasesModel", "hash", "J", false)
def tyX4 : Nat → FieldType := fun k => match k with
  | 0 => .array .int
  | 1 => .int
  | 2 => .array .int
  | 3 => .int
  | 4 => .array .int
  | 5 => .int
  | 6 => .array .int
  | 7 => .int
  | 8 => .int
  | 9 => .int
  | 10 => .array .int
  | _ => .long
abbrev wsX40 : List Cond := u_ws RX4 TX4 12
theorem nmX4 : ∀ a, a < 12 → ∀ b, b < 12 → a ≠ b → (TX4 a).2.1 ≠ (TX4 b).2.1 := by decide +kernel
theorem tyX4_ok : ∀ k, k < 12 → parseFieldDescriptor (TX4 k).2.2.1 = some (tyX4 k) := by decide +kernel
abbrev cX4_init : ByteArray := prog_6_method_1_code
def yX4_init : MethodName := ⟨RX4, "<init>", "()V"⟩
abbrev cX4_thrown : ByteArray := prog_6_method_2_code
def yX4_thrown : MethodName := ⟨RX4, "thrown", "()I"⟩
abbrev cX4_within : ByteArray := prog_6_method_3_code
def yX4_within : MethodName := ⟨RX4, "within", "(III)Z"⟩
abbrev cX4_save : ByteArray := prog_6_method_4_code
def yX4_save : MethodName := ⟨RX4, "save", "()V"⟩
abbrev cX4_of : ByteArray := prog_6_method_5_code
def yX4_of : MethodName := ⟨RX4, "of", "(II)I"⟩
abbrev cX4_put : ByteArray := prog_6_method_6_code
def yX4_put : MethodName := ⟨RX4, "put", "(III)V"⟩
abbrev cX4_add : ByteArray := prog_6_method_7_code
def yX4_add : MethodName := ⟨RX4, "add", "(III)V"⟩
abbrev cX4_isPhase : ByteArray := prog_6_method_8_code
def yX4_isPhase : MethodName := ⟨RX4, "isPhase", "(I)Z"⟩
abbrev cX4_isUse : ByteArray := prog_6_method_9_code
def yX4_isUse : MethodName := ⟨RX4, "isUse", "(I)Z"⟩
abbrev cX4_hasBegun : ByteArray := prog_6_method_10_code
def yX4_hasBegun : MethodName := ⟨RX4, "hasBegun", "(I)Z"⟩
abbrev cX4_rateOf : ByteArray := prog_6_method_11_code
def yX4_rateOf : MethodName := ⟨RX4, "rateOf", "(II)I"⟩
abbrev cX4_chargeOf : ByteArray := prog_6_method_12_code
def yX4_chargeOf : MethodName := ⟨RX4, "chargeOf", "(II)I"⟩
abbrev cX4_reliefOf : ByteArray := prog_6_method_13_code
def yX4_reliefOf : MethodName := ⟨RX4, "reliefOf", "(II)I"⟩
abbrev cX4_charge : ByteArray := prog_6_method_14_code
def yX4_charge : MethodName := ⟨RX4, "charge", "(I)I"⟩
abbrev cX4_relief : ByteArray := prog_6_method_15_code
def yX4_relief : MethodName := ⟨RX4, "relief", "(I)I"⟩
abbrev cX4_areaOf : ByteArray := prog_6_method_16_code
def yX4_areaOf : MethodName := ⟨RX4, "areaOf", "(I)I"⟩
abbrev cX4_owed : ByteArray := prog_6_method_17_code
def yX4_owed : MethodName := ⟨RX4, "owed", "(I)I"⟩
abbrev cX4_dueNow : ByteArray := prog_6_method_18_code
def yX4_dueNow : MethodName := ⟨RX4, "dueNow", "(I)I"⟩
abbrev cX4_roomForLand : ByteArray := prog_6_method_19_code
def yX4_roomForLand : MethodName := ⟨RX4, "roomForLand", "(I)I"⟩
abbrev cX4_partsFor : ByteArray := prog_6_method_20_code
def yX4_partsFor : MethodName := ⟨RX4, "partsFor", "(I)I"⟩
abbrev cX4_lastOf : ByteArray := prog_6_method_21_code
def yX4_lastOf : MethodName := ⟨RX4, "lastOf", "(I)I"⟩
abbrev cX4_whyNoBeginning : ByteArray := prog_6_method_22_code
def yX4_whyNoBeginning : MethodName := ⟨RX4, "whyNoBeginning", "(I)I"⟩
abbrev cX4_whyNoPayment : ByteArray := prog_6_method_23_code
def yX4_whyNoPayment : MethodName := ⟨RX4, "whyNoPayment", "(I)I"⟩
abbrev cX4_whyNoLand : ByteArray := prog_6_method_24_code
def yX4_whyNoLand : MethodName := ⟨RX4, "whyNoLand", "(I)I"⟩
abbrev cX4_whyNoLapse : ByteArray := prog_6_method_25_code
def yX4_whyNoLapse : MethodName := ⟨RX4, "whyNoLapse", "(II)I"⟩
abbrev cX4_addPhase : ByteArray := prog_6_method_26_code
def yX4_addPhase : MethodName := ⟨RX4, "addPhase", "()I"⟩
abbrev cX4_isArea : ByteArray := prog_6_method_27_code
def yX4_isArea : MethodName := ⟨RX4, "isArea", "(I)Z"⟩
abbrev cX4_changeArea : ByteArray := prog_6_method_28_code
def yX4_changeArea : MethodName := ⟨RX4, "changeArea", "(III)V"⟩
abbrev cX4_area : ByteArray := prog_6_method_29_code
def yX4_area : MethodName := ⟨RX4, "area", "(III)I"⟩
abbrev cX4_exempt : ByteArray := prog_6_method_30_code
def yX4_exempt : MethodName := ⟨RX4, "exempt", "(III)I"⟩
abbrev cX4_rate : ByteArray := prog_6_method_31_code
def yX4_rate : MethodName := ⟨RX4, "rate", "(II)I"⟩
abbrev cX4_isSetting : ByteArray := prog_6_method_32_code
def yX4_isSetting : MethodName := ⟨RX4, "isSetting", "(I)Z"⟩
abbrev cX4_isValue : ByteArray := prog_6_method_33_code
def yX4_isValue : MethodName := ⟨RX4, "isValue", "(II)Z"⟩
abbrev cX4_set : ByteArray := prog_6_method_34_code
def yX4_set : MethodName := ⟨RX4, "set", "(II)I"⟩
abbrev cX4_begins : ByteArray := prog_6_method_35_code
def yX4_begins : MethodName := ⟨RX4, "begins", "(I)I"⟩
abbrev cX4_begin : ByteArray := prog_6_method_36_code
def yX4_begin : MethodName := ⟨RX4, "begin", "(I)I"⟩
abbrev cX4_settle : ByteArray := prog_6_method_37_code
def yX4_settle : MethodName := ⟨RX4, "settle", "(III)I"⟩
abbrev cX4_takes : ByteArray := prog_6_method_38_code
def yX4_takes : MethodName := ⟨RX4, "takes", "(III)I"⟩
abbrev cX4_isMoney : ByteArray := prog_6_method_39_code
def yX4_isMoney : MethodName := ⟨RX4, "isMoney", "(I)Z"⟩
abbrev cX4_pay : ByteArray := prog_6_method_40_code
def yX4_pay : MethodName := ⟨RX4, "pay", "(II)I"⟩
abbrev cX4_land : ByteArray := prog_6_method_41_code
def yX4_land : MethodName := ⟨RX4, "land", "(II)I"⟩
abbrev cX4_lapse : ByteArray := prog_6_method_42_code
def yX4_lapse : MethodName := ⟨RX4, "lapse", "(II)I"⟩
abbrev cX4_firstDue : ByteArray := prog_6_method_43_code
def yX4_firstDue : MethodName := ⟨RX4, "firstDue", "(I)I"⟩
abbrev cX4_canBreak : ByteArray := prog_6_method_44_code
def yX4_canBreak : MethodName := ⟨RX4, "canBreak", "(I)Z"⟩
abbrev cX4_dayPasses : ByteArray := prog_6_method_45_code
def yX4_dayPasses : MethodName := ⟨RX4, "dayPasses", "()I"⟩
abbrev cX4_daysPass : ByteArray := prog_6_method_46_code
def yX4_daysPass : MethodName := ⟨RX4, "daysPass", "(I)I"⟩
abbrev cX4_canPass : ByteArray := prog_6_method_47_code
def yX4_canPass : MethodName := ⟨RX4, "canPass", "(I)Z"⟩
abbrev cX4_pass : ByteArray := prog_6_method_48_code
def yX4_pass : MethodName := ⟨RX4, "pass", "(I)I"⟩
abbrev cX4_append : ByteArray := prog_6_method_49_code
def yX4_append : MethodName := ⟨RX4, "append", "(I)I"⟩
abbrev cX4_clearBuffer : ByteArray := prog_6_method_50_code
def yX4_clearBuffer : MethodName := ⟨RX4, "clearBuffer", "()I"⟩
abbrev cX4_beginsOrder : ByteArray := prog_6_method_51_code
def yX4_beginsOrder : MethodName := ⟨RX4, "beginsOrder", "(I)Z"⟩
abbrev cX4_takesPhase : ByteArray := prog_6_method_52_code
def yX4_takesPhase : MethodName := ⟨RX4, "takesPhase", "(I)Z"⟩
abbrev cX4_takesUse : ByteArray := prog_6_method_53_code
def yX4_takesUse : MethodName := ⟨RX4, "takesUse", "(I)Z"⟩
abbrev cX4_takesDigit : ByteArray := prog_6_method_54_code
def yX4_takesDigit : MethodName := ⟨RX4, "takesDigit", "(I)Z"⟩
abbrev cX4_isEnded : ByteArray := prog_6_method_55_code
def yX4_isEnded : MethodName := ⟨RX4, "isEnded", "()Z"⟩
abbrev cX4_takesNext : ByteArray := prog_6_method_56_code
def yX4_takesNext : MethodName := ⟨RX4, "takesNext", "(I)Z"⟩
abbrev cX4_rightUpTo : ByteArray := prog_6_method_57_code
def yX4_rightUpTo : MethodName := ⟨RX4, "rightUpTo", "()I"⟩
abbrev cX4_firstError : ByteArray := prog_6_method_58_code
def yX4_firstError : MethodName := ⟨RX4, "firstError", "()I"⟩
abbrev cX4_canCarry : ByteArray := prog_6_method_59_code
def yX4_canCarry : MethodName := ⟨RX4, "canCarry", "(II)Z"⟩
abbrev cX4_carries : ByteArray := prog_6_method_60_code
def yX4_carries : MethodName := ⟨RX4, "carries", "(I)Z"⟩
abbrev cX4_run : ByteArray := prog_6_method_61_code
def yX4_run : MethodName := ⟨RX4, "run", "()I"⟩
abbrev cX4_undo : ByteArray := prog_6_method_62_code
def yX4_undo : MethodName := ⟨RX4, "undo", "()I"⟩
abbrev cX4_paidWhole : ByteArray := prog_6_method_63_code
def yX4_paidWhole : MethodName := ⟨RX4, "paidWhole", "(I)I"⟩
abbrev cX4_phaseNow : ByteArray := prog_6_method_64_code
def yX4_phaseNow : MethodName := ⟨RX4, "phaseNow", "(II)I"⟩
abbrev cX4_phase : ByteArray := prog_6_method_65_code
def yX4_phase : MethodName := ⟨RX4, "phase", "(II)I"⟩
abbrev cX4_useNow : ByteArray := prog_6_method_66_code
def yX4_useNow : MethodName := ⟨RX4, "useNow", "(III)I"⟩
abbrev cX4_use : ByteArray := prog_6_method_67_code
def yX4_use : MethodName := ⟨RX4, "use", "(III)I"⟩
abbrev cX4_instalmentNow : ByteArray := prog_6_method_68_code
def yX4_instalmentNow : MethodName := ⟨RX4, "instalmentNow", "(III)I"⟩
abbrev cX4_instalment : ByteArray := prog_6_method_69_code
def yX4_instalment : MethodName := ⟨RX4, "instalment", "(III)I"⟩
abbrev cX4_sumOf : ByteArray := prog_6_method_70_code
def yX4_sumOf : MethodName := ⟨RX4, "sumOf", "(I)I"⟩
abbrev cX4_begunOnes : ByteArray := prog_6_method_71_code
def yX4_begunOnes : MethodName := ⟨RX4, "begunOnes", "()I"⟩
abbrev cX4_counted : ByteArray := prog_6_method_72_code
def yX4_counted : MethodName := ⟨RX4, "counted", "(I)I"⟩
abbrev cX4_count : ByteArray := prog_6_method_73_code
def yX4_count : MethodName := ⟨RX4, "count", "(I)I"⟩
abbrev cX4_setting : ByteArray := prog_6_method_74_code
def yX4_setting : MethodName := ⟨RX4, "setting", "(I)I"⟩
abbrev cX4_whyNotNow : ByteArray := prog_6_method_75_code
def yX4_whyNotNow : MethodName := ⟨RX4, "whyNotNow", "(III)I"⟩
abbrev cX4_whyNot : ByteArray := prog_6_method_76_code
def yX4_whyNot : MethodName := ⟨RX4, "whyNot", "(III)I"⟩
abbrev cX4_begunThen : ByteArray := prog_6_method_77_code
def yX4_begunThen : MethodName := ⟨RX4, "begunThen", "(II)I"⟩
abbrev cX4_ifBegun : ByteArray := prog_6_method_78_code
def yX4_ifBegun : MethodName := ⟨RX4, "ifBegun", "(II)I"⟩
abbrev cX4_breaksNow : ByteArray := prog_6_method_79_code
def yX4_breaksNow : MethodName := ⟨RX4, "breaksNow", "(I)I"⟩
abbrev cX4_breaksIn : ByteArray := prog_6_method_80_code
def yX4_breaksIn : MethodName := ⟨RX4, "breaksIn", "(I)I"⟩
abbrev cX4_keep : ByteArray := prog_6_method_81_code
def yX4_keep : MethodName := ⟨RX4, "keep", "()V"⟩
abbrev cX4_layBack : ByteArray := prog_6_method_82_code
def yX4_layBack : MethodName := ⟨RX4, "layBack", "()V"⟩
abbrev cX4_surchargesThen : ByteArray := prog_6_method_83_code
def yX4_surchargesThen : MethodName := ⟨RX4, "surchargesThen", "(I)I"⟩
abbrev cX4_surchargesIn : ByteArray := prog_6_method_84_code
def yX4_surchargesIn : MethodName := ⟨RX4, "surchargesIn", "(I)I"⟩
abbrev cX4_urgentNow : ByteArray := prog_6_method_85_code
def yX4_urgentNow : MethodName := ⟨RX4, "urgentNow", "()I"⟩
abbrev cX4_mostUrgent : ByteArray := prog_6_method_86_code
def yX4_mostUrgent : MethodName := ⟨RX4, "mostUrgent", "()I"⟩
abbrev cX4_dueThen : ByteArray := prog_6_method_87_code
def yX4_dueThen : MethodName := ⟨RX4, "dueThen", "(II)I"⟩
abbrev cX4_dueIn : ByteArray := prog_6_method_88_code
def yX4_dueIn : MethodName := ⟨RX4, "dueIn", "(II)I"⟩
abbrev cX4_share : ByteArray := prog_6_method_89_code
def yX4_share : MethodName := ⟨RX4, "share", "()D"⟩
abbrev cX4_settledShare : ByteArray := prog_6_method_90_code
def yX4_settledShare : MethodName := ⟨RX4, "settledShare", "()D"⟩
abbrev cX4_mix : ByteArray := prog_6_method_91_code
def yX4_mix : MethodName := ⟨RX4, "mix", "(J)V"⟩
abbrev cX4_mixPhase : ByteArray := prog_6_method_92_code
def yX4_mixPhase : MethodName := ⟨RX4, "mixPhase", "(I)V"⟩
abbrev cX4_digest : ByteArray := prog_6_method_93_code
def yX4_digest : MethodName := ⟨RX4, "digest", "()J"⟩
def RJx8e188 : String := "java/lang/Cloneable"
def RJxe99ae : String := "java/lang/Double"
abbrev cJxe99ae_isNaN_b9ae7 : ByteArray := prog_8_method_6_code
def yJxe99ae_isNaN_b9ae7 : MethodName := ⟨RJxe99ae, "isNaN", "(D)Z"⟩
abbrev cJxe99ae_doubleToLongBits_ccdee : ByteArray := prog_8_method_23_code
def yJxe99ae_doubleToLongBits_ccdee : MethodName := ⟨RJxe99ae, "doubleToLongBits", "(D)J"⟩
def RJ9 : String := "java/lang/Math"
abbrev cJ9_max_7cf53 : ByteArray := prog_13_method_65_code
def yJ9_max_7cf53 : MethodName := ⟨RJ9, "max", "(II)I"⟩
abbrev cJ9_min_7cf53 : ByteArray := prog_13_method_69_code
def yJ9_min_7cf53 : MethodName := ⟨RJ9, "min", "(II)I"⟩
def RJ0 : String := "java/lang/String"
def RL : String := "LevyPhasesLaw"
abbrev cL_addPhase : ByteArray := method_3_code
def yL_addPhase : MethodName := ⟨RL, "addPhase", "(LLevyPhases;[J)I"⟩
abbrev cL_area : ByteArray := method_4_code
def yL_area : MethodName := ⟨RL, "area", "(LLevyPhases;III[J)I"⟩
abbrev cL_exempt : ByteArray := method_5_code
def yL_exempt : MethodName := ⟨RL, "exempt", "(LLevyPhases;III[J)I"⟩
abbrev cL_rate : ByteArray := method_6_code
def yL_rate : MethodName := ⟨RL, "rate", "(LLevyPhases;II[J)I"⟩
abbrev cL_set : ByteArray := method_7_code
def yL_set : MethodName := ⟨RL, "set", "(LLevyPhases;II[J)I"⟩
abbrev cL_begin : ByteArray := method_8_code
def yL_begin : MethodName := ⟨RL, "begin", "(LLevyPhases;I[J)I"⟩
abbrev cL_pay : ByteArray := method_9_code
def yL_pay : MethodName := ⟨RL, "pay", "(LLevyPhases;II[J)I"⟩
abbrev cL_land : ByteArray := method_10_code
def yL_land : MethodName := ⟨RL, "land", "(LLevyPhases;II[J)I"⟩
abbrev cL_lapse : ByteArray := method_11_code
def yL_lapse : MethodName := ⟨RL, "lapse", "(LLevyPhases;II[J)I"⟩
abbrev cL_pass : ByteArray := method_12_code
def yL_pass : MethodName := ⟨RL, "pass", "(LLevyPhases;I[J)I"⟩
abbrev cL_append : ByteArray := method_13_code
def yL_append : MethodName := ⟨RL, "append", "(LLevyPhases;I[J)I"⟩
abbrev cL_run : ByteArray := method_14_code
def yL_run : MethodName := ⟨RL, "run", "(LLevyPhases;[J)I"⟩
abbrev cL_undo : ByteArray := method_15_code
def yL_undo : MethodName := ⟨RL, "undo", "(LLevyPhases;[J)I"⟩
abbrev cL_phase : ByteArray := method_16_code
def yL_phase : MethodName := ⟨RL, "phase", "(LLevyPhases;II[J)I"⟩
abbrev cL_use : ByteArray := method_17_code
def yL_use : MethodName := ⟨RL, "use", "(LLevyPhases;III[J)I"⟩
abbrev cL_instalment : ByteArray := method_18_code
def yL_instalment : MethodName := ⟨RL, "instalment", "(LLevyPhases;III[J)I"⟩
abbrev cL_count : ByteArray := method_19_code
def yL_count : MethodName := ⟨RL, "count", "(LLevyPhases;I[J)I"⟩
abbrev cL_setting : ByteArray := method_20_code
def yL_setting : MethodName := ⟨RL, "setting", "(LLevyPhases;I[J)I"⟩
abbrev cL_whyNot : ByteArray := method_21_code
def yL_whyNot : MethodName := ⟨RL, "whyNot", "(LLevyPhases;III[J)I"⟩
abbrev cL_ifBegun : ByteArray := method_22_code
def yL_ifBegun : MethodName := ⟨RL, "ifBegun", "(LLevyPhases;II[J)I"⟩
abbrev cL_breaksIn : ByteArray := method_23_code
def yL_breaksIn : MethodName := ⟨RL, "breaksIn", "(LLevyPhases;I[J)I"⟩
abbrev cL_surchargesIn : ByteArray := method_24_code
def yL_surchargesIn : MethodName := ⟨RL, "surchargesIn", "(LLevyPhases;I[J)I"⟩
abbrev cL_dueIn : ByteArray := method_25_code
def yL_dueIn : MethodName := ⟨RL, "dueIn", "(LLevyPhases;II[J)I"⟩
abbrev cL_law : ByteArray := code
def yL_law : MethodName := ⟨RL, "law", "([I)Z"⟩
abbrev vwCl : List vw_C := [(RX0, TX0, 5), (RX1, TX1, 7), (RX2, TX2, 13), (RX3, TX3, 5), (RX4, TX4, 12)]
/-- the objects of LevyPhases$Levy, kind 0: what each holds, by its address -/
structure wK_O_Levy where
  f_day : Nat → Int32
  f_phaseCount : Nat → Int32
  f_rates : Nat → Option Nat
  f_settings : Nat → Option Nat
  f_phases : Nat → Option Nat
/-- the objects of LevyPhases$Orders, kind 1: what each holds, by its address -/
structure wK_O_Orders where
  f_codes : Nat → Option Nat
  f_length : Nat → Int32
  f_at : Nat → Int32
  f_kind : Nat → Int32
  f_phase : Nat → Int32
  f_use : Nat → Int32
  f_number : Nat → Int32
/-- the objects of LevyPhases$Phase, kind 2: what each holds, by its address -/
structure wK_O_Phase where
  f_areas : Nat → Option Nat
  f_exemptAreas : Nat → Option Nat
  f_rates : Nat → Option Nat
  f_lapsedMoney : Nat → Option Nat
  f_instalmentSums : Nat → Option Nat
  f_openSums : Nat → Option Nat
  f_firstDay : Nat → Int32
  f_daysBetween : Nat → Int32
  f_instalments : Nat → Int32
  f_paid : Nat → Int32
  f_landTaken : Nat → Int32
  f_surcharge : Nat → Int32
  f_broken : Nat → Int32
/-- the objects of LevyPhases, kind 3: what each holds, by its address -/
structure wK_O_LevyPhases where
  f_levy : Nat → Option Nat
  f_saved : Nat → Option Nat
  f_savedCount : Nat → Int32
  f_nextSaved : Nat → Int32
  f_orders : Nat → Option Nat
/-- the objects of LevyPhasesModel, kind 4: what each holds, by its address -/
structure wK_O_LevyPhasesModel where
  f_z : Nat → Option Nat
  f_states : Nat → Int32
  f_history : Nat → Option Nat
  f_length : Nat → Int32
  f_text : Nat → Option Nat
  f_thrown : Nat → Int32
  f_parts : Nat → Option Nat
  f_read : Nat → Int32
  f_number : Nat → Int32
  f_due : Nat → Int32
  f_kept : Nat → Option Nat
  f_hash : Nat → Int64
/-- the arrays of kind 5: what each holds, by its address -/
structure wK_R_I where
  len : Nat → Nat
  row : Nat → Nat → Int32
/-- the arrays of kind 6: what each holds, by its address -/
structure wK_R_Levy where
  len : Nat → Nat
  row : Nat → Nat → Option Nat
/-- the arrays of kind 7: what each holds, by its address -/
structure wK_R_Phase where
  len : Nat → Nat
  row : Nat → Nat → Option Nat
/-- the pool: the addresses, the kind of each, and the kinds -/
structure wPS where
  L : List Nat
  K : Nat → Nat
  O_Levy : wK_O_Levy
  O_Orders : wK_O_Orders
  O_Phase : wK_O_Phase
  O_LevyPhases : wK_O_LevyPhases
  O_LevyPhasesModel : wK_O_LevyPhasesModel
  R_I : wK_R_I
  R_Levy : wK_R_Levy
  R_Phase : wK_R_Phase
/-- the empty pool -/
