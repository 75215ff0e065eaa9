def RX0 : String := "CaseManager$Court"
def TX0 : u_T := fun k => match k with
  | 0 => ("CaseManager$Court", "cases", "I", false)
  | 1 => ("CaseManager$Court", "witnesses", "I", false)
  | 2 => ("CaseManager$Court", "decisions", "I", false)
  | 3 => ("CaseManager$Court", "questionsAsked", "I", false)
  | 4 => ("CaseManager$Court", "defendants", "LCaseManager$Row;", true)
  | 5 => ("CaseManager$Court", "offences", "LCaseManager$Row;", true)
  | 6 => ("CaseManager$Court", "phases", "LCaseManager$Row;", true)
  | 7 => ("CaseManager$Court", "guilts", "LCaseManager$Row;", true)
  | 8 => ("CaseManager$Court", "appeals", "LCaseManager$Row;", true)
  | 9 => ("CaseManager$Court", "testimonies", "LCaseManager$Row;", true)
  | 10 => ("CaseManager$Court", "hearingOrder", "LCaseManager$Row;", true)
  | 11 => ("CaseManager$Court", "sides", "LCaseManager$Row;", true)
  | 12 => ("CaseManager$Court", "strengths", "LCaseManager$Row;", true)
  | 13 => ("CaseManager$Court", "questions", "LCaseManager$Row;", true)
  | 14 => ("CaseManager$Court", "credibilities", "LCaseManager$Row;", true)
  | 15 => ("CaseManager$Court", "sentences", "LCaseManager$Row;", true)
  | _ => ("CaseManager$Court", "groups", "LCaseManager$Groups;", true)
def tyX0 : Nat → FieldType := fun k => match k with
  | 0 => .int
  | 1 => .int
  | 2 => .int
  | 3 => .int
  | 4 => .object "CaseManager$Row"
  | 5 => .object "CaseManager$Row"
  | 6 => .object "CaseManager$Row"
  | 7 => .object "CaseManager$Row"
  | 8 => .object "CaseManager$Row"
  | 9 => .object "CaseManager$Row"
  | 10 => .object "CaseManager$Row"
  | 11 => .object "CaseManager$Row"
  | 12 => .object "CaseManager$Row"
  | 13 => .object "CaseManager$Row"
  | 14 => .object "CaseManager$Row"
  | 15 => .object "CaseManager$Row"
  | _ => .object "CaseManager$Groups"
abbrev wsX00 : List Cond := u_ws RX0 TX0 17
theorem nmX0 : ∀ a, a < 17 → ∀ b, b < 17 → a ≠ b → (TX0 a).2.1 ≠ (TX0 b).2.1 := by decide +kernel
theorem tyX0_ok : ∀ k, k < 17 → parseFieldDescriptor (TX0 k).2.2.1 = some (tyX0 k) := by decide +kernel
abbrev cX0_init : ByteArray := prog_2_method_1_code
def yX0_init : MethodName := ⟨RX0, "<init>", "()V"⟩
abbrev cX0_copyFrom : ByteArray := prog_2_method_2_code
def yX0_copyFrom : MethodName := ⟨RX0, "copyFrom", "(LCaseManager$Court;)V"⟩
abbrev cX0_faultOf : ByteArray := prog_2_method_3_code
def yX0_faultOf : MethodName := ⟨RX0, "faultOf", "(IIII)LCaseManager$Fault;"⟩
abbrev cX0_perform : ByteArray := prog_2_method_4_code
def yX0_perform : MethodName := ⟨RX0, "perform", "(IIIZI)I"⟩
abbrev cX0_faultOfCharge : ByteArray := prog_2_method_5_code
def yX0_faultOfCharge : MethodName := ⟨RX0, "faultOfCharge", "(II)LCaseManager$Fault;"⟩
abbrev cX0_faultOfWitness : ByteArray := prog_2_method_6_code
def yX0_faultOfWitness : MethodName := ⟨RX0, "faultOfWitness", "(I)LCaseManager$Fault;"⟩
abbrev cX0_faultOfTestimony : ByteArray := prog_2_method_7_code
def yX0_faultOfTestimony : MethodName := ⟨RX0, "faultOfTestimony", "(III)LCaseManager$Fault;"⟩
abbrev cX0_faultOfQuestion : ByteArray := prog_2_method_8_code
def yX0_faultOfQuestion : MethodName := ⟨RX0, "faultOfQuestion", "(II)LCaseManager$Fault;"⟩
abbrev cX0_faultOfDecision : ByteArray := prog_2_method_9_code
def yX0_faultOfDecision : MethodName := ⟨RX0, "faultOfDecision", "(I)LCaseManager$Fault;"⟩
abbrev cX0_faultAfterVerdict : ByteArray := prog_2_method_10_code
def yX0_faultAfterVerdict : MethodName := ⟨RX0, "faultAfterVerdict", "(I)LCaseManager$Fault;"⟩
abbrev cX0_openCase : ByteArray := prog_2_method_11_code
def yX0_openCase : MethodName := ⟨RX0, "openCase", "(II)I"⟩
abbrev cX0_register : ByteArray := prog_2_method_12_code
def yX0_register : MethodName := ⟨RX0, "register", "(I)I"⟩
abbrev cX0_hear : ByteArray := prog_2_method_13_code
def yX0_hear : MethodName := ⟨RX0, "hear", "(IIZI)I"⟩
abbrev cX0_ask : ByteArray := prog_2_method_14_code
def yX0_ask : MethodName := ⟨RX0, "ask", "(IIZ)I"⟩
abbrev cX0_judge : ByteArray := prog_2_method_15_code
def yX0_judge : MethodName := ⟨RX0, "judge", "(I)I"⟩
abbrev cX0_reopen : ByteArray := prog_2_method_16_code
def yX0_reopen : MethodName := ⟨RX0, "reopen", "(I)I"⟩
abbrev cX0_finish : ByteArray := prog_2_method_17_code
def yX0_finish : MethodName := ⟨RX0, "finish", "(I)I"⟩
abbrev cX0_hasCase : ByteArray := prog_2_method_18_code
def yX0_hasCase : MethodName := ⟨RX0, "hasCase", "(I)Z"⟩
abbrev cX0_hasWitness : ByteArray := prog_2_method_19_code
def yX0_hasWitness : MethodName := ⟨RX0, "hasWitness", "(I)Z"⟩
abbrev cX0_isIn : ByteArray := prog_2_method_20_code
def yX0_isIn : MethodName := ⟨RX0, "isIn", "(II)Z"⟩
abbrev cX0_isFoundGuilty : ByteArray := prog_2_method_21_code
def yX0_isFoundGuilty : MethodName := ⟨RX0, "isFoundGuilty", "(I)Z"⟩
abbrev cX0_severityIn : ByteArray := prog_2_method_22_code
def yX0_severityIn : MethodName := ⟨RX0, "severityIn", "(I)I"⟩
abbrev cX0_caseAgainst : ByteArray := prog_2_method_23_code
def yX0_caseAgainst : MethodName := ⟨RX0, "caseAgainst", "(II)I"⟩
abbrev cX0_cellOf : ByteArray := prog_2_method_24_code
def yX0_cellOf : MethodName := ⟨RX0, "cellOf", "(II)I"⟩
abbrev cX0_hasHeard : ByteArray := prog_2_method_25_code
def yX0_hasHeard : MethodName := ⟨RX0, "hasHeard", "(II)Z"⟩
abbrev cX0_witnessHeardAt : ByteArray := prog_2_method_26_code
def yX0_witnessHeardAt : MethodName := ⟨RX0, "witnessHeardAt", "(II)I"⟩
abbrev cX0_sideOf : ByteArray := prog_2_method_27_code
def yX0_sideOf : MethodName := ⟨RX0, "sideOf", "(II)I"⟩
abbrev cX0_strengthOf : ByteArray := prog_2_method_28_code
def yX0_strengthOf : MethodName := ⟨RX0, "strengthOf", "(II)I"⟩
abbrev cX0_weightOf : ByteArray := prog_2_method_29_code
def yX0_weightOf : MethodName := ⟨RX0, "weightOf", "(II)I"⟩
abbrev cX0_questionsTo : ByteArray := prog_2_method_30_code
def yX0_questionsTo : MethodName := ⟨RX0, "questionsTo", "(II)I"⟩
abbrev cX0_casesHearing : ByteArray := prog_2_method_31_code
def yX0_casesHearing : MethodName := ⟨RX0, "casesHearing", "(I)I"⟩
abbrev cX0_agreementOf : ByteArray := prog_2_method_32_code
def yX0_agreementOf : MethodName := ⟨RX0, "agreementOf", "(II)I"⟩
abbrev cX0_witnessOfRank : ByteArray := prog_2_method_33_code
def yX0_witnessOfRank : MethodName := ⟨RX0, "witnessOfRank", "(I)I"⟩
abbrev cX0_rankOf : ByteArray := prog_2_method_34_code
def yX0_rankOf : MethodName := ⟨RX0, "rankOf", "(I)I"⟩
abbrev cX0_isMoreCredible : ByteArray := prog_2_method_35_code
def yX0_isMoreCredible : MethodName := ⟨RX0, "isMoreCredible", "(II)Z"⟩
abbrev cX0_credibilitySum : ByteArray := prog_2_method_36_code
def yX0_credibilitySum : MethodName := ⟨RX0, "credibilitySum", "()I"⟩
abbrev cX0_addedSentence : ByteArray := prog_2_method_37_code
def yX0_addedSentence : MethodName := ⟨RX0, "addedSentence", "(I)I"⟩
abbrev cX0_countIn : ByteArray := prog_2_method_38_code
def yX0_countIn : MethodName := ⟨RX0, "countIn", "(I)I"⟩
abbrev cX0_countGuilty : ByteArray := prog_2_method_39_code
def yX0_countGuilty : MethodName := ⟨RX0, "countGuilty", "()I"⟩
abbrev cX0_openCasesBefore : ByteArray := prog_2_method_40_code
def yX0_openCasesBefore : MethodName := ⟨RX0, "openCasesBefore", "(I)I"⟩
abbrev cX0_comesBefore : ByteArray := prog_2_method_41_code
def yX0_comesBefore : MethodName := ⟨RX0, "comesBefore", "(II)Z"⟩
def RX1 : String := "CaseManager$Docket"
def TX1 : u_T := fun k => match k with
  | 0 => ("CaseManager$Docket", "order", "LCaseManager$Row;", true)
  | _ => ("CaseManager$Docket", "length", "I", false)
def tyX1 : Nat → FieldType := fun k => match k with
  | 0 => .object "CaseManager$Row"
  | _ => .int
abbrev wsX10 : List Cond := u_ws RX1 TX1 2
theorem nmX1 : ∀ a, a < 2 → ∀ b, b < 2 → a ≠ b → (TX1 a).2.1 ≠ (TX1 b).2.1 := by decide +kernel
theorem tyX1_ok : ∀ k, k < 2 → parseFieldDescriptor (TX1 k).2.2.1 = some (tyX1 k) := by decide +kernel
abbrev cX1_init : ByteArray := prog_3_method_1_code
def yX1_init : MethodName := ⟨RX1, "<init>", "()V"⟩
abbrev cX1_fill : ByteArray := prog_3_method_2_code
def yX1_fill : MethodName := ⟨RX1, "fill", "(LCaseManager$Court;)V"⟩
abbrev cX1_insert : ByteArray := prog_3_method_3_code
def yX1_insert : MethodName := ⟨RX1, "insert", "(ILCaseManager$Court;)V"⟩
abbrev cX1_holdsAt : ByteArray := prog_3_method_4_code
def yX1_holdsAt : MethodName := ⟨RX1, "holdsAt", "(II)Z"⟩
abbrev cX1_firstHeard : ByteArray := prog_3_method_5_code
def yX1_firstHeard : MethodName := ⟨RX1, "firstHeard", "(LCaseManager$Court;)I"⟩
def RX2 : String := "CaseManager$Fault"
def TX2 : u_T := fun k => match k with
  | _ => ("", "", "", false)
def tyX2 : Nat → FieldType := fun k => match k with
  | _ => .int
abbrev wsX20 : List Cond := u_ws RX2 TX2 0
theorem nmX2 : ∀ a, a < 0 → ∀ b, b < 0 → a ≠ b → (TX2 a).2.1 ≠ (TX2 b).2.1 := by decide +kernel
theorem tyX2_ok : ∀ k, k < 0 → parseFieldDescriptor (TX2 k).2.2.1 = some (tyX2 k) := by decide +kernel
def RX3 : String := "CaseManager$Groups"
def TX3 : u_T := fun k => match k with
  | _ => ("CaseManager$Groups", "parents", "LCaseManager$Row;", true)
def tyX3 : Nat → FieldType := fun k => match k with
  | _ => .object "CaseManager$Row"
abbrev wsX30 : List Cond := u_ws RX3 TX3 1
theorem nmX3 : ∀ a, a < 1 → ∀ b, b < 1 → a ≠ b → (TX3 a).2.1 ≠ (TX3 b).2.1 := by decide +kernel
theorem tyX3_ok : ∀ k, k < 1 → parseFieldDescriptor (TX3 k).2.2.1 = some (tyX3 k) := by decide +kernel
abbrev cX3_init : ByteArray := prog_5_method_1_code
def yX3_init : MethodName := ⟨RX3, "<init>", "()V"⟩
abbrev cX3_found : ByteArray := prog_5_method_2_code
def yX3_found : MethodName := ⟨RX3, "found", "(I)V"⟩
abbrev cX3_unite : ByteArray := prog_5_method_3_code
def yX3_unite : MethodName := ⟨RX3, "unite", "(II)V"⟩
abbrev cX3_areUnited : ByteArray := prog_5_method_4_code
def yX3_areUnited : MethodName := ⟨RX3, "areUnited", "(II)Z"⟩
abbrev cX3_sizeAround : ByteArray := prog_5_method_5_code
def yX3_sizeAround : MethodName := ⟨RX3, "sizeAround", "(II)I"⟩
abbrev cX3_countAmong : ByteArray := prog_5_method_6_code
def yX3_countAmong : MethodName := ⟨RX3, "countAmong", "(I)I"⟩
abbrev cX3_rootOf : ByteArray := prog_5_method_7_code
def yX3_rootOf : MethodName := ⟨RX3, "rootOf", "(I)I"⟩
def RX4 : String := "CaseManager$History"
def TX4 : u_T := fun k => match k with
  | 0 => ("CaseManager$History", "places", "[LCaseManager$Court;", true)
  | 1 => ("CaseManager$History", "next", "I", false)
  | _ => ("CaseManager$History", "size", "I", false)
def tyX4 : Nat → FieldType := fun k => match k with
  | 0 => .array (.object "CaseManager$Court")
  | 1 => .int
  | _ => .int
abbrev wsX40 : List Cond := u_ws RX4 TX4 3
theorem nmX4 : ∀ a, a < 3 → ∀ b, b < 3 → a ≠ b → (TX4 a).2.1 ≠ (TX4 b).2.1 := by decide +kernel
theorem tyX4_ok : ∀ k, k < 3 → parseFieldDescriptor (TX4 k).2.2.1 = some (tyX4 k) := by decide +kernel
abbrev cX4_init : ByteArray := prog_6_method_1_code
def yX4_init : MethodName := ⟨RX4, "<init>", "()V"⟩
abbrev cX4_keep : ByteArray := prog_6_method_2_code
def yX4_keep : MethodName := ⟨RX4, "keep", "(LCaseManager$Court;)V"⟩
abbrev cX4_placeAt : ByteArray := prog_6_method_5_code
def yX4_placeAt : MethodName := ⟨RX4, "placeAt", "(I)LCaseManager$Court;"⟩
def RX5 : String := "CaseManager$Program"
def TX5 : u_T := fun k => match k with
  | 0 => ("CaseManager$Program", "input", "Ljava/lang/StringBuilder;", true)
  | 1 => ("CaseManager$Program", "position", "I", false)
  | 2 => ("CaseManager$Program", "size", "I", false)
  | 3 => ("CaseManager$Program", "kinds", "LCaseManager$Row;", true)
  | 4 => ("CaseManager$Program", "firsts", "LCaseManager$Row;", true)
  | 5 => ("CaseManager$Program", "seconds", "LCaseManager$Row;", true)
  | 6 => ("CaseManager$Program", "flags", "LCaseManager$Row;", true)
  | _ => ("CaseManager$Program", "strengths", "LCaseManager$Row;", true)
def tyX5 : Nat → FieldType := fun k => match k with
  | 0 => .object "java/lang/StringBuilder"
  | 1 => .int
  | 2 => .int
  | 3 => .object "CaseManager$Row"
  | 4 => .object "CaseManager$Row"
  | 5 => .object "CaseManager$Row"
  | 6 => .object "CaseManager$Row"
  | _ => .object "CaseManager$Row"
abbrev wsX50 : List Cond := u_ws RX5 TX5 8
theorem nmX5 : ∀ a, a < 8 → ∀ b, b < 8 → a ≠ b → (TX5 a).2.1 ≠ (TX5 b).2.1 := by decide +kernel
theorem tyX5_ok : ∀ k, k < 8 → parseFieldDescriptor (TX5 k).2.2.1 = some (tyX5 k) := by decide +kernel
abbrev cX5_init : ByteArray := prog_7_method_1_code
def yX5_init : MethodName := ⟨RX5, "<init>", "()V"⟩
def RX6 : String := "CaseManager$Row"
def TX6 : u_T := fun k => match k with
  | _ => ("CaseManager$Row", "cells", "[I", true)
def tyX6 : Nat → FieldType := fun k => match k with
  | _ => .array .int
abbrev wsX60 : List Cond := u_ws RX6 TX6 1
theorem nmX6 : ∀ a, a < 1 → ∀ b, b < 1 → a ≠ b → (TX6 a).2.1 ≠ (TX6 b).2.1 := by decide +kernel
theorem tyX6_ok : ∀ k, k < 1 → parseFieldDescriptor (TX6 k).2.2.1 = some (tyX6 k) := by decide +kernel
abbrev cX6_init : ByteArray := prog_8_method_1_code
def yX6_init : MethodName := ⟨RX6, "<init>", "(I)V"⟩
abbrev cX6_get : ByteArray := prog_8_method_2_code
def yX6_get : MethodName := ⟨RX6, "get", "(I)I"⟩
abbrev cX6_put : ByteArray := prog_8_method_3_code
def yX6_put : MethodName := ⟨RX6, "put", "(II)V"⟩
abbrev cX6_add : ByteArray := prog_8_method_4_code
def yX6_add : MethodName := ⟨RX6, "add", "(II)V"⟩
abbrev cX6_clear : ByteArray := prog_8_method_5_code
def yX6_clear : MethodName := ⟨RX6, "clear", "()V"⟩
abbrev cX6_copyFrom : ByteArray := prog_8_method_6_code
def yX6_copyFrom : MethodName := ⟨RX6, "copyFrom", "(LCaseManager$Row;)V"⟩
def RX7 : String := "CaseManager$Search"
def TX7 : u_T := fun k => match k with
  | 0 => ("CaseManager$Search", "queue", "LCaseManager$Row;", true)
  | 1 => ("CaseManager$Search", "reached", "LCaseManager$Row;", true)
  | _ => ("CaseManager$Search", "queued", "I", false)
def tyX7 : Nat → FieldType := fun k => match k with
  | 0 => .object "CaseManager$Row"
  | 1 => .object "CaseManager$Row"
  | _ => .int
abbrev wsX70 : List Cond := u_ws RX7 TX7 3
theorem nmX7 : ∀ a, a < 3 → ∀ b, b < 3 → a ≠ b → (TX7 a).2.1 ≠ (TX7 b).2.1 := by decide +kernel
theorem tyX7_ok : ∀ k, k < 3 → parseFieldDescriptor (TX7 k).2.2.1 = some (tyX7 k) := by decide +kernel
abbrev cX7_init : ByteArray := prog_9_method_1_code
def yX7_init : MethodName := ⟨RX7, "<init>", "()V"⟩
abbrev cX7_startAt : ByteArray := prog_9_method_2_code
def yX7_startAt : MethodName := ⟨RX7, "startAt", "(ILCaseManager$Court;)V"⟩
abbrev cX7_hasReached : ByteArray := prog_9_method_3_code
def yX7_hasReached : MethodName := ⟨RX7, "hasReached", "(I)Z"⟩
abbrev cX7_spreadFrom : ByteArray := prog_9_method_4_code
def yX7_spreadFrom : MethodName := ⟨RX7, "spreadFrom", "(ILCaseManager$Court;)V"⟩
abbrev cX7_reachAllOf : ByteArray := prog_9_method_5_code
def yX7_reachAllOf : MethodName := ⟨RX7, "reachAllOf", "(ILCaseManager$Court;)V"⟩
abbrev cX7_reach : ByteArray := prog_9_method_6_code
def yX7_reach : MethodName := ⟨RX7, "reach", "(I)V"⟩
def RX8 : String := "CaseManager$Weights"
def TX8 : u_T := fun k => match k with
  | _ => ("", "", "", false)
def tyX8 : Nat → FieldType := fun k => match k with
  | _ => .int
abbrev wsX80 : List Cond := u_ws RX8 TX8 0
theorem nmX8 : ∀ a, a < 0 → ∀ b, b < 0 → a ≠ b → (TX8 a).2.1 ≠ (TX8 b).2.1 := by decide +kernel
theorem tyX8_ok : ∀ k, k < 0 → parseFieldDescriptor (TX8 k).2.2.1 = some (tyX8 k) := by decide +kernel
abbrev cX8_ofSide : ByteArray := prog_10_method_2_code
def yX8_ofSide : MethodName := ⟨RX8, "ofSide", "(LCaseManager$Court;II)I"⟩
abbrev cX8_marginByTestimony : ByteArray := prog_10_method_3_code
def yX8_marginByTestimony : MethodName := ⟨RX8, "marginByTestimony", "(LCaseManager$Court;I)I"⟩
abbrev cX8_marginByLevel : ByteArray := prog_10_method_4_code
def yX8_marginByLevel : MethodName := ⟨RX8, "marginByLevel", "(LCaseManager$Court;I)I"⟩
abbrev cX8_signedStrengthsAt : ByteArray := prog_10_method_5_code
def yX8_signedStrengthsAt : MethodName := ⟨RX8, "signedStrengthsAt", "(ILCaseManager$Court;I)I"⟩
abbrev cX8_heaviestIn : ByteArray := prog_10_method_6_code
def yX8_heaviestIn : MethodName := ⟨RX8, "heaviestIn", "(LCaseManager$Court;I)I"⟩
abbrev cX8_firmAnswersNeeded : ByteArray := prog_10_method_7_code
def yX8_firmAnswersNeeded : MethodName := ⟨RX8, "firmAnswersNeeded", "(LCaseManager$Court;II)I"⟩
def RX9 : String := "CaseManager"
def TX9 : u_T := fun k => match k with
  | 0 => ("CaseManager", "court", "LCaseManager$Court;", true)
  | 1 => ("CaseManager", "beforeRun", "LCaseManager$Court;", true)
  | 2 => ("CaseManager", "saved", "LCaseManager$Court;", true)
  | 3 => ("CaseManager", "history", "LCaseManager$History;", true)
  | 4 => ("CaseManager", "docket", "LCaseManager$Docket;", true)
  | 5 => ("CaseManager", "search", "LCaseManager$Search;", true)
  | 6 => ("CaseManager", "program", "LCaseManager$Program;", true)
  | 7 => ("CaseManager", "line", "Ljava/lang/StringBuilder;", true)
  | 8 => ("CaseManager", "hasSaved", "Z", false)
  | 9 => ("CaseManager", "storedError", "I", false)
  | 10 => ("CaseManager", "storedFailure", "I", false)
  | _ => ("CaseManager", "isStoredFailureOfState", "Z", false)
def tyX9 : Nat → FieldType := fun k => match k with
  | 0 => .object "CaseManager$Court"
  | 1 => .object "CaseManager$Court"
  | 2 => .object "CaseManager$Court"
  | 3 => .object "CaseManager$History"
  | 4 => .object "CaseManager$Docket"
  | 5 => .object "CaseManager$Search"
  | 6 => .object "CaseManager$Program"
  | 7 => .object "java/lang/StringBuilder"
  | 8 => .boolean
  | 9 => .int
  | 10 => .int
  | _ => .boolean
abbrev wsX90 : List Cond := u_ws RX9 TX9 12
theorem nmX9 : ∀ a, a < 12 → ∀ b, b < 12 → a ≠ b → (TX9 a).2.1 ≠ (TX9 b).2.1 := by decide +kernel
theorem tyX9_ok : ∀ k, k < 12 → parseFieldDescriptor (TX9 k).2.2.1 = some (tyX9 k) := by decide +kernel
abbrev cX9_init : ByteArray := prog_1_method_1_code
def yX9_init : MethodName := ⟨RX9, "<init>", "()V"⟩
abbrev cX9_charge : ByteArray := prog_1_method_2_code
def yX9_charge : MethodName := ⟨RX9, "charge", "(II)I"⟩
abbrev cX9_addWitness : ByteArray := prog_1_method_3_code
def yX9_addWitness : MethodName := ⟨RX9, "addWitness", "(I)I"⟩
abbrev cX9_testify : ByteArray := prog_1_method_4_code
def yX9_testify : MethodName := ⟨RX9, "testify", "(IIZI)I"⟩
abbrev cX9_question : ByteArray := prog_1_method_5_code
def yX9_question : MethodName := ⟨RX9, "question", "(IIZ)I"⟩
abbrev cX9_decide : ByteArray := prog_1_method_6_code
def yX9_decide : MethodName := ⟨RX9, "decide", "(I)Z"⟩
abbrev cX9_appeal : ByteArray := prog_1_method_7_code
def yX9_appeal : MethodName := ⟨RX9, "appeal", "(I)I"⟩
abbrev cX9_close : ByteArray := prog_1_method_8_code
def yX9_close : MethodName := ⟨RX9, "close", "(I)I"⟩
abbrev cX9_caseCount : ByteArray := prog_1_method_9_code
def yX9_caseCount : MethodName := ⟨RX9, "caseCount", "()I"⟩
abbrev cX9_caseOf : ByteArray := prog_1_method_10_code
def yX9_caseOf : MethodName := ⟨RX9, "caseOf", "(II)I"⟩
abbrev cX9_defendantOf : ByteArray := prog_1_method_11_code
def yX9_defendantOf : MethodName := ⟨RX9, "defendantOf", "(I)I"⟩
abbrev cX9_offenceOf : ByteArray := prog_1_method_12_code
def yX9_offenceOf : MethodName := ⟨RX9, "offenceOf", "(I)I"⟩
abbrev cX9_isOpen : ByteArray := prog_1_method_13_code
def yX9_isOpen : MethodName := ⟨RX9, "isOpen", "(I)Z"⟩
abbrev cX9_isDecided : ByteArray := prog_1_method_14_code
def yX9_isDecided : MethodName := ⟨RX9, "isDecided", "(I)Z"⟩
abbrev cX9_isClosed : ByteArray := prog_1_method_15_code
def yX9_isClosed : MethodName := ⟨RX9, "isClosed", "(I)Z"⟩
abbrev cX9_isGuilty : ByteArray := prog_1_method_16_code
def yX9_isGuilty : MethodName := ⟨RX9, "isGuilty", "(I)Z"⟩
abbrev cX9_appealCount : ByteArray := prog_1_method_17_code
def yX9_appealCount : MethodName := ⟨RX9, "appealCount", "(I)I"⟩
abbrev cX9_testimonyCount : ByteArray := prog_1_method_18_code
def yX9_testimonyCount : MethodName := ⟨RX9, "testimonyCount", "(I)I"⟩
abbrev cX9_witnessAt : ByteArray := prog_1_method_19_code
def yX9_witnessAt : MethodName := ⟨RX9, "witnessAt", "(II)I"⟩
abbrev cX9_hasTestified : ByteArray := prog_1_method_20_code
def yX9_hasTestified : MethodName := ⟨RX9, "hasTestified", "(II)Z"⟩
abbrev cX9_isForProsecution : ByteArray := prog_1_method_21_code
def yX9_isForProsecution : MethodName := ⟨RX9, "isForProsecution", "(II)Z"⟩
abbrev cX9_strength : ByteArray := prog_1_method_22_code
def yX9_strength : MethodName := ⟨RX9, "strength", "(II)I"⟩
abbrev cX9_questionCount : ByteArray := prog_1_method_23_code
def yX9_questionCount : MethodName := ⟨RX9, "questionCount", "(II)I"⟩
abbrev cX9_witnessCount : ByteArray := prog_1_method_24_code
def yX9_witnessCount : MethodName := ⟨RX9, "witnessCount", "()I"⟩
abbrev cX9_credibility : ByteArray := prog_1_method_25_code
def yX9_credibility : MethodName := ⟨RX9, "credibility", "(I)I"⟩
abbrev cX9_casesOfWitness : ByteArray := prog_1_method_26_code
def yX9_casesOfWitness : MethodName := ⟨RX9, "casesOfWitness", "(I)I"⟩
abbrev cX9_mostCredible : ByteArray := prog_1_method_27_code
def yX9_mostCredible : MethodName := ⟨RX9, "mostCredible", "(I)I"⟩
abbrev cX9_agreement : ByteArray := prog_1_method_28_code
def yX9_agreement : MethodName := ⟨RX9, "agreement", "(II)I"⟩
abbrev cX9_areConnected : ByteArray := prog_1_method_29_code
def yX9_areConnected : MethodName := ⟨RX9, "areConnected", "(II)Z"⟩
abbrev cX9_areConnectedBySearch : ByteArray := prog_1_method_30_code
def yX9_areConnectedBySearch : MethodName := ⟨RX9, "areConnectedBySearch", "(II)Z"⟩
abbrev cX9_groupSize : ByteArray := prog_1_method_31_code
def yX9_groupSize : MethodName := ⟨RX9, "groupSize", "(I)I"⟩
abbrev cX9_groupCount : ByteArray := prog_1_method_32_code
def yX9_groupCount : MethodName := ⟨RX9, "groupCount", "()I"⟩
abbrev cX9_heaviestWitness : ByteArray := prog_1_method_33_code
def yX9_heaviestWitness : MethodName := ⟨RX9, "heaviestWitness", "(I)I"⟩
abbrev cX9_nextToDecide : ByteArray := prog_1_method_34_code
def yX9_nextToDecide : MethodName := ⟨RX9, "nextToDecide", "()I"⟩
abbrev cX9_prosecutionWeight : ByteArray := prog_1_method_35_code
def yX9_prosecutionWeight : MethodName := ⟨RX9, "prosecutionWeight", "(I)I"⟩
abbrev cX9_defenceWeight : ByteArray := prog_1_method_36_code
def yX9_defenceWeight : MethodName := ⟨RX9, "defenceWeight", "(I)I"⟩
abbrev cX9_margin : ByteArray := prog_1_method_37_code
def yX9_margin : MethodName := ⟨RX9, "margin", "(I)I"⟩
abbrev cX9_marginByCredibility : ByteArray := prog_1_method_38_code
def yX9_marginByCredibility : MethodName := ⟨RX9, "marginByCredibility", "(I)I"⟩
abbrev cX9_firmAnswersToGuilty : ByteArray := prog_1_method_39_code
def yX9_firmAnswersToGuilty : MethodName := ⟨RX9, "firmAnswersToGuilty", "(II)I"⟩
abbrev cX9_sentence : ByteArray := prog_1_method_40_code
def yX9_sentence : MethodName := ⟨RX9, "sentence", "(I)I"⟩
abbrev cX9_sentenceByCases : ByteArray := prog_1_method_41_code
def yX9_sentenceByCases : MethodName := ⟨RX9, "sentenceByCases", "(I)I"⟩
abbrev cX9_mostSentenced : ByteArray := prog_1_method_42_code
def yX9_mostSentenced : MethodName := ⟨RX9, "mostSentenced", "()I"⟩
abbrev cX9_docketLength : ByteArray := prog_1_method_43_code
def yX9_docketLength : MethodName := ⟨RX9, "docketLength", "()I"⟩
abbrev cX9_docketAt : ByteArray := prog_1_method_44_code
def yX9_docketAt : MethodName := ⟨RX9, "docketAt", "(I)I"⟩
abbrev cX9_docketPosition : ByteArray := prog_1_method_45_code
def yX9_docketPosition : MethodName := ⟨RX9, "docketPosition", "(I)I"⟩
abbrev cX9_closedCount : ByteArray := prog_1_method_46_code
def yX9_closedCount : MethodName := ⟨RX9, "closedCount", "()I"⟩
abbrev cX9_guiltyCount : ByteArray := prog_1_method_47_code
def yX9_guiltyCount : MethodName := ⟨RX9, "guiltyCount", "()I"⟩
abbrev cX9_decisionCount : ByteArray := prog_1_method_48_code
def yX9_decisionCount : MethodName := ⟨RX9, "decisionCount", "()I"⟩
abbrev cX9_meanCredibility : ByteArray := prog_1_method_50_code
def yX9_meanCredibility : MethodName := ⟨RX9, "meanCredibility", "()D"⟩
abbrev cX9_guiltyShare : ByteArray := prog_1_method_51_code
def yX9_guiltyShare : MethodName := ⟨RX9, "guiltyShare", "()F"⟩
abbrev cX9_isConsistent : ByteArray := prog_1_method_52_code
def yX9_isConsistent : MethodName := ⟨RX9, "isConsistent", "()Z"⟩
abbrev cX9_formatCase : ByteArray := prog_1_method_53_code
def yX9_formatCase : MethodName := ⟨RX9, "formatCase", "(I)I"⟩
abbrev cX9_formatWitness : ByteArray := prog_1_method_54_code
def yX9_formatWitness : MethodName := ⟨RX9, "formatWitness", "(I)I"⟩
abbrev cX9_lineChar : ByteArray := prog_1_method_55_code
def yX9_lineChar : MethodName := ⟨RX9, "lineChar", "(I)C"⟩
abbrev cX9_change : ByteArray := prog_1_method_65_code
def yX9_change : MethodName := ⟨RX9, "change", "(IIIZI)I"⟩
abbrev cX9_refuse : ByteArray := prog_1_method_66_code
def yX9_refuse : MethodName := ⟨RX9, "refuse", "(LCaseManager$Fault;)V"⟩
abbrev cX9_needCase : ByteArray := prog_1_method_68_code
def yX9_needCase : MethodName := ⟨RX9, "needCase", "(I)V"⟩
abbrev cX9_needWitness : ByteArray := prog_1_method_69_code
def yX9_needWitness : MethodName := ⟨RX9, "needWitness", "(I)V"⟩
abbrev cX9_needTestimony : ByteArray := prog_1_method_70_code
def yX9_needTestimony : MethodName := ⟨RX9, "needTestimony", "(II)V"⟩
abbrev cX9_needDefendant : ByteArray := prog_1_method_72_code
def yX9_needDefendant : MethodName := ⟨RX9, "needDefendant", "(I)V"⟩
abbrev cX9_isDefendant : ByteArray := prog_1_method_73_code
def yX9_isDefendant : MethodName := ⟨RX9, "isDefendant", "(I)Z"⟩
abbrev cX9_isOffence : ByteArray := prog_1_method_74_code
def yX9_isOffence : MethodName := ⟨RX9, "isOffence", "(I)Z"⟩
abbrev cX9_writeHead : ByteArray := prog_1_method_75_code
def yX9_writeHead : MethodName := ⟨RX9, "writeHead", "(I)V"⟩
abbrev cX9_writeTestimony : ByteArray := prog_1_method_76_code
def yX9_writeTestimony : MethodName := ⟨RX9, "writeTestimony", "(II)V"⟩
abbrev cX9_doMarginsAgree : ByteArray := prog_1_method_77_code
def yX9_doMarginsAgree : MethodName := ⟨RX9, "doMarginsAgree", "()Z"⟩
abbrev cX9_doSentencesAgree : ByteArray := prog_1_method_78_code
def yX9_doSentencesAgree : MethodName := ⟨RX9, "doSentencesAgree", "()Z"⟩
abbrev cX9_doConnectionsAgree : ByteArray := prog_1_method_79_code
def yX9_doConnectionsAgree : MethodName := ⟨RX9, "doConnectionsAgree", "()Z"⟩
abbrev cX9_doesDocketAgree : ByteArray := prog_1_method_80_code
def yX9_doesDocketAgree : MethodName := ⟨RX9, "doesDocketAgree", "()Z"⟩
def RX10 : String := "CaseManagerModel"
def TX10 : u_T := fun k => match k with
  | _ => ("", "", "", false)
def tyX10 : Nat → FieldType := fun k => match k with
  | _ => .int
abbrev wsX100 : List Cond := u_ws RX10 TX10 0
theorem nmX10 : ∀ a, a < 0 → ∀ b, b < 0 → a ≠ b → (TX10 a).2.1 ≠ (TX10 b).2.1 := by decide +kernel
theorem tyX10_ok : ∀ k, k < 0 → parseFieldDescriptor (TX10 k).2.2.1 = some (tyX10 k) := by decide +kernel
def RJx145de : String := "java/io/Serializable"
def TJx145de : u_T := fun k => match k with
  | _ => ("", "", "", false)
def tyJx145de : Nat → FieldType := fun k => match k with
  | _ => .int
abbrev wsJx145de0 : List Cond := u_ws RJx145de TJx145de 0
theorem nmJx145de : ∀ a, a < 0 → ∀ b, b < 0 → a ≠ b → (TJx145de a).2.1 ≠ (TJx145de b).2.1 := by decide +kernel
theorem tyJx145de_ok : ∀ k, k < 0 → parseFieldDescriptor (TJx145de k).2.2.1 = some (tyJx145de k) := by decide +kernel
def RJ5 : String := "java/lang/AbstractStringBuilder"
def TJ5 : u_T := fun k => match k with
  | _ => ("", "", "", false)
def tyJ5 : Nat → FieldType := fun k => match k with
  | _ => .int
abbrev wsJ50 : List Cond := u_ws RJ5 TJ5 0
theorem nmJ5 : ∀ a, a < 0 → ∀ b, b < 0 → a ≠ b → (TJ5 a).2.1 ≠ (TJ5 b).2.1 := by decide +kernel
theorem tyJ5_ok : ∀ k, k < 0 → parseFieldDescriptor (TJ5 k).2.2.1 = some (tyJ5 k) := by decide +kernel
abbrev cJ5_init_d00df : ByteArray := prog_14_method_2_code
def yJ5_init_d00df : MethodName := ⟨RJ5, "<init>", "(I)V"⟩
abbrev cJ5_length_8abf5 : ByteArray := prog_14_method_6_code
def yJ5_length_8abf5 : MethodName := ⟨RJ5, "length", "()I"⟩
abbrev cJ5_ensureCapacityInternal_d00df : ByteArray := prog_14_method_9_code
def yJ5_ensureCapacityInternal_d00df : MethodName := ⟨RJ5, "ensureCapacityInternal", "(I)V"⟩
abbrev cJ5_newCapacity_0f7a4 : ByteArray := prog_14_method_10_code
def yJ5_newCapacity_0f7a4 : MethodName := ⟨RJ5, "newCapacity", "(I)I"⟩
abbrev cJ5_inflate_da8c8 : ByteArray := prog_14_method_11_code
def yJ5_inflate_da8c8 : MethodName := ⟨RJ5, "inflate", "()V"⟩
abbrev cJ5_setLength_d00df : ByteArray := prog_14_method_13_code
def yJ5_setLength_d00df : MethodName := ⟨RJ5, "setLength", "(I)V"⟩
abbrev cJ5_charAt_5068e : ByteArray := prog_14_method_14_code
def yJ5_charAt_5068e : MethodName := ⟨RJ5, "charAt", "(I)C"⟩
abbrev cJ5_append_cf1ce : ByteArray := prog_14_method_22_code
def yJ5_append_cf1ce : MethodName := ⟨RJ5, "append", "(Ljava/lang/String;)Ljava/lang/AbstractStringBuilder;"⟩
abbrev cJ5_appendNull_278bc : ByteArray := prog_14_method_26_code
def yJ5_appendNull_278bc : MethodName := ⟨RJ5, "appendNull", "()Ljava/lang/AbstractStringBuilder;"⟩
abbrev cJ5_append_3fe6f : ByteArray := prog_14_method_31_code
def yJ5_append_3fe6f : MethodName := ⟨RJ5, "append", "(C)Ljava/lang/AbstractStringBuilder;"⟩
abbrev cJ5_append_c97b9 : ByteArray := prog_14_method_32_code
def yJ5_append_c97b9 : MethodName := ⟨RJ5, "append", "(I)Ljava/lang/AbstractStringBuilder;"⟩
abbrev cJ5_getValue_6d5f1 : ByteArray := prog_14_method_64_code
def yJ5_getValue_6d5f1 : MethodName := ⟨RJ5, "getValue", "()[B"⟩
abbrev cJ5_isLatin1_aae02 : ByteArray := prog_14_method_68_code
def yJ5_isLatin1_aae02 : MethodName := ⟨RJ5, "isLatin1", "()Z"⟩
abbrev cJ5_inflateIfNeededFor_a7421 : ByteArray := prog_14_method_71_code
def yJ5_inflateIfNeededFor_a7421 : MethodName := ⟨RJ5, "inflateIfNeededFor", "(Ljava/lang/String;)V"⟩
abbrev cJ5_putStringAt_47b60 : ByteArray := prog_14_method_73_code
def yJ5_putStringAt_47b60 : MethodName := ⟨RJ5, "putStringAt", "(ILjava/lang/String;)V"⟩
def RJx2cfe8 : String := "java/lang/Appendable"
def TJx2cfe8 : u_T := fun k => match k with
  | _ => ("", "", "", false)
def tyJx2cfe8 : Nat → FieldType := fun k => match k with
  | _ => .int
abbrev wsJx2cfe80 : List Cond := u_ws RJx2cfe8 TJx2cfe8 0
theorem nmJx2cfe8 : ∀ a, a < 0 → ∀ b, b < 0 → a ≠ b → (TJx2cfe8 a).2.1 ≠ (TJx2cfe8 b).2.1 := by decide +kernel
theorem tyJx2cfe8_ok : ∀ k, k < 0 → parseFieldDescriptor (TJx2cfe8 k).2.2.1 = some (tyJx2cfe8 k) := by decide +kernel
def RJx00060 : String := "java/lang/ArrayIndexOutOfBoundsException"
def TJx00060 : u_T := fun k => match k with
  | 0 => ("java/lang/Throwable", "cause", "Ljava/lang/Throwable;", false)
  | 1 => ("java/lang/Throwable", "stackTrace", "[Ljava/lang/StackTraceElement;", false)
  | 2 => ("java/lang/Throwable", "suppressedExceptions", "Ljava/util/List;", false)
  | 3 => ("java/lang/Throwable", "detailMessage", "Ljava/lang/String;", false)
  | 4 => ("java/lang/Throwable", "backtrace", "Ljava/lang/Object;", false)
  | _ => ("java/lang/Throwable", "depth", "I", false)
def tyJx00060 : Nat → FieldType := fun k => match k with
  | 0 => .object "java/lang/Throwable"
  | 1 => .array (.object "java/lang/StackTraceElement")
  | 2 => .object "java/util/List"
  | 3 => .object "java/lang/String"
  | 4 => .object "java/lang/Object"
  | _ => .int
abbrev wsJx000600 : List Cond := u_ws RJx00060 TJx00060 6
theorem nmJx00060 : ∀ a, a < 6 → ∀ b, b < 6 → a ≠ b → (TJx00060 a).2.1 ≠ (TJx00060 b).2.1 := by decide +kernel
theorem tyJx00060_ok : ∀ k, k < 6 → parseFieldDescriptor (TJx00060 k).2.2.1 = some (tyJx00060 k) := by decide +kernel
abbrev cJx00060_init_a7421 : ByteArray := prog_17_method_2_code
def yJx00060_init_a7421 : MethodName := ⟨RJx00060, "<init>", "(Ljava/lang/String;)V"⟩
abbrev cJx00060_init_d00df : ByteArray := prog_17_method_3_code
def yJx00060_init_d00df : MethodName := ⟨RJx00060, "<init>", "(I)V"⟩
def RJx9f9b0 : String := "java/lang/CharSequence"
def TJx9f9b0 : u_T := fun k => match k with
  | _ => ("", "", "", false)
def tyJx9f9b0 : Nat → FieldType := fun k => match k with
  | _ => .int
abbrev wsJx9f9b00 : List Cond := u_ws RJx9f9b0 TJx9f9b0 0
theorem nmJx9f9b0 : ∀ a, a < 0 → ∀ b, b < 0 → a ≠ b → (TJx9f9b0 a).2.1 ≠ (TJx9f9b0 b).2.1 := by decide +kernel
theorem tyJx9f9b0_ok : ∀ k, k < 0 → parseFieldDescriptor (TJx9f9b0 k).2.2.1 = some (tyJx9f9b0 k) := by decide +kernel
def RJx8e188 : String := "java/lang/Cloneable"
def TJx8e188 : u_T := fun k => match k with
  | _ => ("", "", "", false)
def tyJx8e188 : Nat → FieldType := fun k => match k with
  | _ => .int
abbrev wsJx8e1880 : List Cond := u_ws RJx8e188 TJx8e188 0
theorem nmJx8e188 : ∀ a, a < 0 → ∀ b, b < 0 → a ≠ b → (TJx8e188 a).2.1 ≠ (TJx8e188 b).2.1 := by decide +kernel
theorem tyJx8e188_ok : ∀ k, k < 0 → parseFieldDescriptor (TJx8e188 k).2.2.1 = some (tyJx8e188 k) := by decide +kernel
def RJxb160c : String := "java/lang/Comparable"
def TJxb160c : u_T := fun k => match k with
  | _ => ("", "", "", false)
def tyJxb160c : Nat → FieldType := fun k => match k with
  | _ => .int
abbrev wsJxb160c0 : List Cond := u_ws RJxb160c TJxb160c 0
theorem nmJxb160c : ∀ a, a < 0 → ∀ b, b < 0 → a ≠ b → (TJxb160c a).2.1 ≠ (TJxb160c b).2.1 := by decide +kernel
theorem tyJxb160c_ok : ∀ k, k < 0 → parseFieldDescriptor (TJxb160c k).2.2.1 = some (tyJxb160c k) := by decide +kernel
def RJx29ce0 : String := "java/lang/Enum"
def TJx29ce0 : u_T := fun k => match k with
  | _ => ("", "", "", false)
def tyJx29ce0 : Nat → FieldType := fun k => match k with
  | _ => .int
abbrev wsJx29ce00 : List Cond := u_ws RJx29ce0 TJx29ce0 0
theorem nmJx29ce0 : ∀ a, a < 0 → ∀ b, b < 0 → a ≠ b → (TJx29ce0 a).2.1 ≠ (TJx29ce0 b).2.1 := by decide +kernel
theorem tyJx29ce0_ok : ∀ k, k < 0 → parseFieldDescriptor (TJx29ce0 k).2.2.1 = some (tyJx29ce0 k) := by decide +kernel
def RJ6 : String := "java/lang/Integer"
def TJ6 : u_T := fun k => match k with
  | _ => ("", "", "", false)
def tyJ6 : Nat → FieldType := fun k => match k with
  | _ => .int
abbrev wsJ60 : List Cond := u_ws RJ6 TJ6 0
theorem nmJ6 : ∀ a, a < 0 → ∀ b, b < 0 → a ≠ b → (TJ6 a).2.1 ≠ (TJ6 b).2.1 := by decide +kernel
theorem tyJ6_ok : ∀ k, k < 0 → parseFieldDescriptor (TJ6 k).2.2.1 = some (tyJ6 k) := by decide +kernel
abbrev cJ6_getChars_ba4f3 : ByteArray := prog_26_method_12_code
def yJ6_getChars_ba4f3 : MethodName := ⟨RJ6, "getChars", "(II[B)I"⟩
abbrev cJ6_stringSize_0f7a4 : ByteArray := prog_26_method_13_code
def yJ6_stringSize_0f7a4 : MethodName := ⟨RJ6, "stringSize", "(I)I"⟩
abbrev cJ6_numberOfTrailingZeros_0f7a4 : ByteArray := prog_26_method_48_code
def yJ6_numberOfTrailingZeros_0f7a4 : MethodName := ⟨RJ6, "numberOfTrailingZeros", "(I)I"⟩
abbrev cJ6_bitCount_0f7a4 : ByteArray := prog_26_method_49_code
def yJ6_bitCount_0f7a4 : MethodName := ⟨RJ6, "bitCount", "(I)I"⟩
def RJ9 : String := "java/lang/Math"
def TJ9 : u_T := fun k => match k with
  | _ => ("", "", "", false)
def tyJ9 : Nat → FieldType := fun k => match k with
  | _ => .int
abbrev wsJ90 : List Cond := u_ws RJ9 TJ9 0
theorem nmJ9 : ∀ a, a < 0 → ∀ b, b < 0 → a ≠ b → (TJ9 a).2.1 ≠ (TJ9 b).2.1 := by decide +kernel
theorem tyJ9_ok : ∀ k, k < 0 → parseFieldDescriptor (TJ9 k).2.2.1 = some (tyJ9 k) := by decide +kernel
abbrev cJ9_max_7cf53 : ByteArray := prog_27_method_65_code
def yJ9_max_7cf53 : MethodName := ⟨RJ9, "max", "(II)I"⟩
abbrev cJ9_min_7cf53 : ByteArray := prog_27_method_69_code
def yJ9_min_7cf53 : MethodName := ⟨RJ9, "min", "(II)I"⟩
def RJxd2413 : String := "java/lang/Number"
def TJxd2413 : u_T := fun k => match k with
  | _ => ("", "", "", false)
def tyJxd2413 : Nat → FieldType := fun k => match k with
  | _ => .int
abbrev wsJxd24130 : List Cond := u_ws RJxd2413 TJxd2413 0
theorem nmJxd2413 : ∀ a, a < 0 → ∀ b, b < 0 → a ≠ b → (TJxd2413 a).2.1 ≠ (TJxd2413 b).2.1 := by decide +kernel
theorem tyJxd2413_ok : ∀ k, k < 0 → parseFieldDescriptor (TJxd2413 k).2.2.1 = some (tyJxd2413 k) := by decide +kernel
def RJ0 : String := "java/lang/String"
def TJ0 : u_T := fun k => match k with
  | 0 => ("java/lang/String", "value", "[B", true)
  | 1 => ("java/lang/String", "coder", "B", true)
  | 2 => ("java/lang/String", "hash", "I", false)
  | _ => ("java/lang/String", "hashIsZero", "Z", false)
def tyJ0 : Nat → FieldType := fun k => match k with
  | 0 => .array .byte
  | 1 => .byte
  | 2 => .int
  | _ => .boolean
abbrev wsJ00 : List Cond := u_ws RJ0 TJ0 4
theorem nmJ0 : ∀ a, a < 4 → ∀ b, b < 4 → a ≠ b → (TJ0 a).2.1 ≠ (TJ0 b).2.1 := by decide +kernel
theorem tyJ0_ok : ∀ k, k < 4 → parseFieldDescriptor (TJ0 k).2.2.1 = some (tyJ0 k) := by decide +kernel
abbrev cJ0_init_81219 : ByteArray := prog_30_method_53_code
def yJ0_init_81219 : MethodName := ⟨RJ0, "<init>", "(Ljava/lang/StringBuilder;)V"⟩
abbrev cJ0_length_8abf5 : ByteArray := prog_30_method_54_code
def yJ0_length_8abf5 : MethodName := ⟨RJ0, "length", "()I"⟩
abbrev cJ0_charAt_5068e : ByteArray := prog_30_method_56_code
def yJ0_charAt_5068e : MethodName := ⟨RJ0, "charAt", "(I)C"⟩
abbrev cJ0_getBytes_840e7 : ByteArray := prog_30_method_147_code
def yJ0_getBytes_840e7 : MethodName := ⟨RJ0, "getBytes", "([BIB)V"⟩
abbrev cJ0_init_db425 : ByteArray := prog_30_method_150_code
def yJ0_init_db425 : MethodName := ⟨RJ0, "<init>", "(Ljava/lang/AbstractStringBuilder;Ljava/lang/Void;)V"⟩
abbrev cJ0_coder_7d493 : ByteArray := prog_30_method_152_code
def yJ0_coder_7d493 : MethodName := ⟨RJ0, "coder", "()B"⟩
abbrev cJ0_isLatin1_aae02 : ByteArray := prog_30_method_154_code
def yJ0_isLatin1_aae02 : MethodName := ⟨RJ0, "isLatin1", "()Z"⟩
abbrev cJ0_checkIndex_df160 : ByteArray := prog_30_method_155_code
def yJ0_checkIndex_df160 : MethodName := ⟨RJ0, "checkIndex", "(II)V"⟩
abbrev cJ0_checkBoundsOffCount_cabcc : ByteArray := prog_30_method_157_code
def yJ0_checkBoundsOffCount_cabcc : MethodName := ⟨RJ0, "checkBoundsOffCount", "(III)I"⟩
abbrev cJ0_checkBoundsBeginEnd_23922 : ByteArray := prog_30_method_158_code
def yJ0_checkBoundsBeginEnd_23922 : MethodName := ⟨RJ0, "checkBoundsBeginEnd", "(III)V"⟩
def RJ4 : String := "java/lang/StringBuilder"
def TJ4 : u_T := fun k => match k with
  | 0 => ("java/lang/AbstractStringBuilder", "value", "[B", false)
  | 1 => ("java/lang/AbstractStringBuilder", "coder", "B", false)
  | 2 => ("java/lang/AbstractStringBuilder", "maybeLatin1", "Z", false)
  | _ => ("java/lang/AbstractStringBuilder", "count", "I", false)
def tyJ4 : Nat → FieldType := fun k => match k with
  | 0 => .array .byte
  | 1 => .byte
  | 2 => .boolean
  | _ => .int
abbrev wsJ40 : List Cond := u_ws RJ4 TJ4 4
theorem nmJ4 : ∀ a, a < 4 → ∀ b, b < 4 → a ≠ b → (TJ4 a).2.1 ≠ (TJ4 b).2.1 := by decide +kernel
theorem tyJ4_ok : ∀ k, k < 4 → parseFieldDescriptor (TJ4 k).2.2.1 = some (tyJ4 k) := by decide +kernel
abbrev cJ4_init_da8c8 : ByteArray := prog_31_method_1_code
def yJ4_init_da8c8 : MethodName := ⟨RJ4, "<init>", "()V"⟩
abbrev cJ4_append_15ec4 : ByteArray := prog_31_method_7_code
def yJ4_append_15ec4 : MethodName := ⟨RJ4, "append", "(Ljava/lang/String;)Ljava/lang/StringBuilder;"⟩
abbrev cJ4_append_cf468 : ByteArray := prog_31_method_14_code
def yJ4_append_cf468 : MethodName := ⟨RJ4, "append", "(C)Ljava/lang/StringBuilder;"⟩
abbrev cJ4_append_bf812 : ByteArray := prog_31_method_15_code
def yJ4_append_bf812 : MethodName := ⟨RJ4, "append", "(I)Ljava/lang/StringBuilder;"⟩
abbrev cJ4_toString_0e30d : ByteArray := prog_31_method_42_code
def yJ4_toString_0e30d : MethodName := ⟨RJ4, "toString", "()Ljava/lang/String;"⟩
abbrev cJ4_charAt_5068e : ByteArray := prog_31_method_88_code
def yJ4_charAt_5068e : MethodName := ⟨RJ4, "charAt", "(I)C"⟩
abbrev cJ4_setLength_d00df : ByteArray := prog_31_method_89_code
def yJ4_setLength_d00df : MethodName := ⟨RJ4, "setLength", "(I)V"⟩
abbrev cJ4_length_8abf5 : ByteArray := prog_31_method_93_code
def yJ4_length_8abf5 : MethodName := ⟨RJ4, "length", "()I"⟩
def RJx7c733 : String := "java/lang/StringIndexOutOfBoundsException"
def TJx7c733 : u_T := fun k => match k with
  | 0 => ("java/lang/Throwable", "backtrace", "Ljava/lang/Object;", false)
  | 1 => ("java/lang/Throwable", "detailMessage", "Ljava/lang/String;", false)
  | 2 => ("java/lang/Throwable", "cause", "Ljava/lang/Throwable;", false)
  | 3 => ("java/lang/Throwable", "stackTrace", "[Ljava/lang/StackTraceElement;", false)
  | 4 => ("java/lang/Throwable", "depth", "I", false)
  | _ => ("java/lang/Throwable", "suppressedExceptions", "Ljava/util/List;", false)
def tyJx7c733 : Nat → FieldType := fun k => match k with
  | 0 => .object "java/lang/Object"
  | 1 => .object "java/lang/String"
  | 2 => .object "java/lang/Throwable"
  | 3 => .array (.object "java/lang/StackTraceElement")
  | 4 => .int
  | _ => .object "java/util/List"
abbrev wsJx7c7330 : List Cond := u_ws RJx7c733 TJx7c733 6
theorem nmJx7c733 : ∀ a, a < 6 → ∀ b, b < 6 → a ≠ b → (TJx7c733 a).2.1 ≠ (TJx7c733 b).2.1 := by decide +kernel
theorem tyJx7c733_ok : ∀ k, k < 6 → parseFieldDescriptor (TJx7c733 k).2.2.1 = some (tyJx7c733 k) := by decide +kernel
abbrev cJx7c733_init_d00df : ByteArray := prog_32_method_3_code
def yJx7c733_init_d00df : MethodName := ⟨RJx7c733, "<init>", "(I)V"⟩
def RJ1 : String := "java/lang/StringLatin1"
def TJ1 : u_T := fun k => match k with
  | _ => ("", "", "", false)
def tyJ1 : Nat → FieldType := fun k => match k with
  | _ => .int
abbrev wsJ10 : List Cond := u_ws RJ1 TJ1 0
theorem nmJ1 : ∀ a, a < 0 → ∀ b, b < 0 → a ≠ b → (TJ1 a).2.1 ≠ (TJ1 b).2.1 := by decide +kernel
theorem tyJ1_ok : ∀ k, k < 0 → parseFieldDescriptor (TJ1 k).2.2.1 = some (tyJ1 k) := by decide +kernel
abbrev cJ1_charAt_3b067 : ByteArray := prog_33_method_2_code
def yJ1_charAt_3b067 : MethodName := ⟨RJ1, "charAt", "([BI)C"⟩
abbrev cJ1_canEncode_fc78d : ByteArray := prog_33_method_3_code
def yJ1_canEncode_fc78d : MethodName := ⟨RJ1, "canEncode", "(C)Z"⟩
abbrev cJ1_fillNull_b72d1 : ByteArray := prog_33_method_48_code
def yJ1_fillNull_b72d1 : MethodName := ⟨RJ1, "fillNull", "([BII)V"⟩
abbrev cJ1_inflate_0e8fd : ByteArray := prog_33_method_50_code
def yJ1_inflate_0e8fd : MethodName := ⟨RJ1, "inflate", "([BI[BII)V"⟩
def RJ2 : String := "java/lang/StringUTF16"
def TJ2 : u_T := fun k => match k with
  | _ => ("", "", "", false)
def tyJ2 : Nat → FieldType := fun k => match k with
  | _ => .int
abbrev wsJ20 : List Cond := u_ws RJ2 TJ2 0
theorem nmJ2 : ∀ a, a < 0 → ∀ b, b < 0 → a ≠ b → (TJ2 a).2.1 ≠ (TJ2 b).2.1 := by decide +kernel
theorem tyJ2_ok : ∀ k, k < 0 → parseFieldDescriptor (TJ2 k).2.2.1 = some (tyJ2 k) := by decide +kernel
abbrev cJ2_newBytesFor_77867 : ByteArray := prog_34_method_2_code
def yJ2_newBytesFor_77867 : MethodName := ⟨RJ2, "newBytesFor", "(I)[B"⟩
abbrev cJ2_newBytesLength_0f7a4 : ByteArray := prog_34_method_3_code
def yJ2_newBytesLength_0f7a4 : MethodName := ⟨RJ2, "newBytesLength", "(I)I"⟩
abbrev cJ2_putChar_b72d1 : ByteArray := prog_34_method_4_code
def yJ2_putChar_b72d1 : MethodName := ⟨RJ2, "putChar", "([BII)V"⟩
abbrev cJ2_getChar_3b067 : ByteArray := prog_34_method_5_code
def yJ2_getChar_3b067 : MethodName := ⟨RJ2, "getChar", "([BI)C"⟩
abbrev cJ2_length_9d52b : ByteArray := prog_34_method_6_code
def yJ2_length_9d52b : MethodName := ⟨RJ2, "length", "([B)I"⟩
abbrev cJ2_coderFromArrayLen_85cad : ByteArray := prog_34_method_15_code
def yJ2_coderFromArrayLen_85cad : MethodName := ⟨RJ2, "coderFromArrayLen", "([BI)B"⟩
abbrev cJ2_compress_39247 : ByteArray := prog_34_method_17_code
def yJ2_compress_39247 : MethodName := ⟨RJ2, "compress", "([BII)[B"⟩
abbrev cJ2_compress_5af95 : ByteArray := prog_34_method_22_code
def yJ2_compress_5af95 : MethodName := ⟨RJ2, "compress", "([BI[BII)I"⟩
abbrev cJ2_fillNull_b72d1 : ByteArray := prog_34_method_70_code
def yJ2_fillNull_b72d1 : MethodName := ⟨RJ2, "fillNull", "([BII)V"⟩
abbrev cJ2_putCharSB_b72d1 : ByteArray := prog_34_method_71_code
def yJ2_putCharSB_b72d1 : MethodName := ⟨RJ2, "putCharSB", "([BII)V"⟩
abbrev cJ2_getChars_46870 : ByteArray := prog_34_method_77_code
def yJ2_getChars_46870 : MethodName := ⟨RJ2, "getChars", "(III[B)I"⟩
abbrev cJ2_putCharsAt_cd4e5 : ByteArray := prog_34_method_81_code
def yJ2_putCharsAt_cd4e5 : MethodName := ⟨RJ2, "putCharsAt", "([BICCCC)I"⟩
abbrev cJ2_charAt_3b067 : ByteArray := prog_34_method_83_code
def yJ2_charAt_3b067 : MethodName := ⟨RJ2, "charAt", "([BI)C"⟩
abbrev cJ2_inflate_0e8fd : ByteArray := prog_34_method_86_code
def yJ2_inflate_0e8fd : MethodName := ⟨RJ2, "inflate", "([BI[BII)V"⟩
abbrev cJ2_getChars_ba4f3 : ByteArray := prog_34_method_89_code
def yJ2_getChars_ba4f3 : MethodName := ⟨RJ2, "getChars", "(II[B)I"⟩
abbrev cJ2_checkIndex_2214a : ByteArray := prog_34_method_91_code
def yJ2_checkIndex_2214a : MethodName := ⟨RJ2, "checkIndex", "(I[B)V"⟩
abbrev cJ2_checkBoundsBeginEnd_d044e : ByteArray := prog_34_method_93_code
def yJ2_checkBoundsBeginEnd_d044e : MethodName := ⟨RJ2, "checkBoundsBeginEnd", "(II[B)V"⟩
abbrev cJ2_checkBoundsOffCount_d044e : ByteArray := prog_34_method_94_code
def yJ2_checkBoundsOffCount_d044e : MethodName := ⟨RJ2, "checkBoundsOffCount", "(II[B)V"⟩
def RJ10 : String := "java/lang/System"
def TJ10 : u_T := fun k => match k with
  | _ => ("", "", "", false)
def tyJ10 : Nat → FieldType := fun k => match k with
  | _ => .int
abbrev wsJ100 : List Cond := u_ws RJ10 TJ10 0
theorem nmJ10 : ∀ a, a < 0 → ∀ b, b < 0 → a ≠ b → (TJ10 a).2.1 ≠ (TJ10 b).2.1 := by decide +kernel
theorem tyJ10_ok : ∀ k, k < 0 → parseFieldDescriptor (TJ10 k).2.2.1 = some (tyJ10 k) := by decide +kernel
def RJxfd54e : String := "java/lang/constant/Constable"
def TJxfd54e : u_T := fun k => match k with
  | _ => ("", "", "", false)
def tyJxfd54e : Nat → FieldType := fun k => match k with
  | _ => .int
abbrev wsJxfd54e0 : List Cond := u_ws RJxfd54e TJxfd54e 0
theorem nmJxfd54e : ∀ a, a < 0 → ∀ b, b < 0 → a ≠ b → (TJxfd54e a).2.1 ≠ (TJxfd54e b).2.1 := by decide +kernel
theorem tyJxfd54e_ok : ∀ k, k < 0 → parseFieldDescriptor (TJxfd54e k).2.2.1 = some (tyJxfd54e k) := by decide +kernel
def RJx3cf43 : String := "java/lang/constant/ConstantDesc"
def TJx3cf43 : u_T := fun k => match k with
  | _ => ("", "", "", false)
def tyJx3cf43 : Nat → FieldType := fun k => match k with
  | _ => .int
abbrev wsJx3cf430 : List Cond := u_ws RJx3cf43 TJx3cf43 0
theorem nmJx3cf43 : ∀ a, a < 0 → ∀ b, b < 0 → a ≠ b → (TJx3cf43 a).2.1 ≠ (TJx3cf43 b).2.1 := by decide +kernel
theorem tyJx3cf43_ok : ∀ k, k < 0 → parseFieldDescriptor (TJx3cf43 k).2.2.1 = some (tyJx3cf43 k) := by decide +kernel
def RJ7 : String := "java/util/Arrays"
def TJ7 : u_T := fun k => match k with
  | _ => ("", "", "", false)
def tyJ7 : Nat → FieldType := fun k => match k with
  | _ => .int
abbrev wsJ70 : List Cond := u_ws RJ7 TJ7 0
theorem nmJ7 : ∀ a, a < 0 → ∀ b, b < 0 → a ≠ b → (TJ7 a).2.1 ≠ (TJ7 b).2.1 := by decide +kernel
theorem tyJ7_ok : ∀ k, k < 0 → parseFieldDescriptor (TJ7 k).2.2.1 = some (tyJ7 k) := by decide +kernel
abbrev cJ7_rangeCheck_23922 : ByteArray := prog_39_method_30_code
def yJ7_rangeCheck_23922 : MethodName := ⟨RJ7, "rangeCheck", "(III)V"⟩
abbrev cJ7_fill_eb02e : ByteArray := prog_39_method_110_code
def yJ7_fill_eb02e : MethodName := ⟨RJ7, "fill", "([BIIB)V"⟩
abbrev cJ7_copyOf_9075b : ByteArray := prog_39_method_121_code
def yJ7_copyOf_9075b : MethodName := ⟨RJ7, "copyOf", "([BI)[B"⟩
abbrev cJ7_checkLength_df160 : ByteArray := prog_39_method_131_code
def yJ7_checkLength_df160 : MethodName := ⟨RJ7, "checkLength", "(II)V"⟩
abbrev cJ7_copyOfRange_39247 : ByteArray := prog_39_method_132_code
def yJ7_copyOfRange_39247 : MethodName := ⟨RJ7, "copyOfRange", "([BII)[B"⟩
abbrev cJ7_copyOfRangeByte_39247 : ByteArray := prog_39_method_133_code
def yJ7_copyOfRangeByte_39247 : MethodName := ⟨RJ7, "copyOfRangeByte", "([BII)[B"⟩
def RJ8 : String := "jdk/internal/util/ArraysSupport"
def TJ8 : u_T := fun k => match k with
  | _ => ("", "", "", false)
def tyJ8 : Nat → FieldType := fun k => match k with
  | _ => .int
abbrev wsJ80 : List Cond := u_ws RJ8 TJ8 0
theorem nmJ8 : ∀ a, a < 0 → ∀ b, b < 0 → a ≠ b → (TJ8 a).2.1 ≠ (TJ8 b).2.1 := by decide +kernel
theorem tyJ8_ok : ∀ k, k < 0 → parseFieldDescriptor (TJ8 k).2.2.1 = some (tyJ8 k) := by decide +kernel
abbrev cJ8_newLength_cabcc : ByteArray := prog_41_method_27_code
def yJ8_newLength_cabcc : MethodName := ⟨RJ8, "newLength", "(III)I"⟩
abbrev cJ8_hugeLength_7cf53 : ByteArray := prog_41_method_28_code
def yJ8_hugeLength_7cf53 : MethodName := ⟨RJ8, "hugeLength", "(II)I"⟩
def RJ3 : String := "jdk/internal/util/Preconditions"
def TJ3 : u_T := fun k => match k with
  | _ => ("", "", "", false)
def tyJ3 : Nat → FieldType := fun k => match k with
  | _ => .int
abbrev wsJ30 : List Cond := u_ws RJ3 TJ3 0
theorem nmJ3 : ∀ a, a < 0 → ∀ b, b < 0 → a ≠ b → (TJ3 a).2.1 ≠ (TJ3 b).2.1 := by decide +kernel
theorem tyJ3_ok : ∀ k, k < 0 → parseFieldDescriptor (TJ3 k).2.2.1 = some (tyJ3 k) := by decide +kernel
abbrev cJ3_checkIndex_8e157 : ByteArray := prog_42_method_11_code
def yJ3_checkIndex_8e157 : MethodName := ⟨RJ3, "checkIndex", "(IILjava/util/function/BiFunction;)I"⟩
abbrev cJ3_checkFromToIndex_8c36e : ByteArray := prog_42_method_12_code
def yJ3_checkFromToIndex_8c36e : MethodName := ⟨RJ3, "checkFromToIndex", "(IIILjava/util/function/BiFunction;)I"⟩
abbrev cJ3_checkFromIndexSize_8c36e : ByteArray := prog_42_method_13_code
def yJ3_checkFromIndexSize_8c36e : MethodName := ⟨RJ3, "checkFromIndexSize", "(IIILjava/util/function/BiFunction;)I"⟩
def RL : String := "CaseManagerLaw"
abbrev cL_cell : ByteArray := method_2_code
def yL_cell : MethodName := ⟨RL, "cell", "([II)I"⟩
abbrev cL_some : ByteArray := method_3_code
def yL_some : MethodName := ⟨RL, "some", "([III)I"⟩
abbrev cL_charge : ByteArray := method_4_code
def yL_charge : MethodName := ⟨RL, "charge", "(LCaseManager;II)I"⟩
abbrev cL_addWitness : ByteArray := method_5_code
def yL_addWitness : MethodName := ⟨RL, "addWitness", "(LCaseManager;I)I"⟩
abbrev cL_testify : ByteArray := method_6_code
def yL_testify : MethodName := ⟨RL, "testify", "(LCaseManager;IIZI)I"⟩
abbrev cL_question : ByteArray := method_7_code
def yL_question : MethodName := ⟨RL, "question", "(LCaseManager;IIZ)I"⟩
abbrev cL_appeal : ByteArray := method_8_code
def yL_appeal : MethodName := ⟨RL, "appeal", "(LCaseManager;I)I"⟩
abbrev cL_close : ByteArray := method_9_code
def yL_close : MethodName := ⟨RL, "close", "(LCaseManager;I)I"⟩
abbrev cL_witnessAt : ByteArray := method_10_code
def yL_witnessAt : MethodName := ⟨RL, "witnessAt", "(LCaseManager;II)I"⟩
abbrev cL_mostCredible : ByteArray := method_11_code
def yL_mostCredible : MethodName := ⟨RL, "mostCredible", "(LCaseManager;I)I"⟩
abbrev cL_heaviestWitness : ByteArray := method_12_code
def yL_heaviestWitness : MethodName := ⟨RL, "heaviestWitness", "(LCaseManager;I)I"⟩
abbrev cL_nextToDecide : ByteArray := method_13_code
def yL_nextToDecide : MethodName := ⟨RL, "nextToDecide", "(LCaseManager;)I"⟩
abbrev cL_firmAnswersToGuilty : ByteArray := method_14_code
def yL_firmAnswersToGuilty : MethodName := ⟨RL, "firmAnswersToGuilty", "(LCaseManager;II)I"⟩
abbrev cL_docketAt : ByteArray := method_15_code
def yL_docketAt : MethodName := ⟨RL, "docketAt", "(LCaseManager;I)I"⟩
abbrev cL_docketPosition : ByteArray := method_16_code
def yL_docketPosition : MethodName := ⟨RL, "docketPosition", "(LCaseManager;I)I"⟩
abbrev cL_decide : ByteArray := method_17_code
def yL_decide : MethodName := ⟨RL, "decide", "(LCaseManager;I)I"⟩
abbrev cL_verdict : ByteArray := method_18_code
def yL_verdict : MethodName := ⟨RL, "verdict", "(LCaseManager;I)I"⟩
abbrev cL_build : ByteArray := method_19_code
def yL_build : MethodName := ⟨RL, "build", "(LCaseManager;[I)V"⟩
abbrev cL_acts : ByteArray := method_20_code
def yL_acts : MethodName := ⟨RL, "acts", "(LCaseManager;[II)V"⟩
abbrev cL_weight : ByteArray := method_21_code
def yL_weight : MethodName := ⟨RL, "weight", "(LCaseManager;IZ)I"⟩
abbrev cL_isLine : ByteArray := method_22_code
def yL_isLine : MethodName := ⟨RL, "isLine", "(LCaseManager;ILjava/lang/String;)Z"⟩
abbrev cL_law : ByteArray := code
def yL_law : MethodName := ⟨RL, "law", "([I)Z"⟩
abbrev vwCl : List vw_C := [(RJ0, TJ0, 4), (RJ4, TJ4, 4), (RJx00060, TJx00060, 6), (RJx7c733, TJx7c733, 6), (RX0, TX0, 17), (RX1, TX1, 2), (RX3, TX3, 1), (RX4, TX4, 3), (RX5, TX5, 8), (RX6, TX6, 1), (RX7, TX7, 3), (RX9, TX9, 12)]
