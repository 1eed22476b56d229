/-! ===== BEGIN printed: names, fields, word lists, decode rows ===== -/
def RX0 : String := "LeadLetters$Customs"
def TX0 : u_T := fun k => match k with
  | 0 => ("LeadLetters$Customs", "column", "I", false)
  | 1 => ("LeadLetters$Customs", "least", "I", false)
  | 2 => ("LeadLetters$Customs", "most", "I", false)
  | 3 => ("LeadLetters$Customs", "broken", "I", false)
  | 4 => ("LeadLetters$Customs", "wide", "I", false)
  | 5 => ("LeadLetters$Customs", "formLetters", "LLeadLetters$Row;", true)
  | 6 => ("LeadLetters$Customs", "formWidths", "LLeadLetters$Row;", true)
  | _ => ("LeadLetters$Customs", "formUglies", "LLeadLetters$Row;", true)
def tyX0 : Nat → FieldType := fun k => match k with
  | 0 => .int
  | 1 => .int
  | 2 => .int
  | 3 => .int
  | 4 => .int
  | 5 => .object "LeadLetters$Row"
  | 6 => .object "LeadLetters$Row"
  | _ => .object "LeadLetters$Row"
abbrev wsX00 : List Cond := u_ws RX0 TX0 8
theorem nmX0 : ∀ a, a < 8 → ∀ b, b < 8 → a ≠ b → (TX0 a).2.1 ≠ (TX0 b).2.1 := by decide +kernel
theorem tyX0_ok : ∀ k, k < 8 → parseFieldDescriptor (TX0 k).2.2.1 = some (tyX0 k) := by decide +kernel
abbrev cX0_init : ByteArray := prog_2_method_1_code
def yX0_init : MethodName := ⟨RX0, "<init>", "()V"⟩
abbrev cX0_gather : ByteArray := prog_2_method_2_code
def yX0_gather : MethodName := ⟨RX0, "gather", "(LLeadLetters$Ways;IZ)V"⟩
abbrev cX0_told : ByteArray := prog_2_method_3_code
def yX0_told : MethodName := ⟨RX0, "told", "(I)I"⟩
abbrev cX0_take : ByteArray := prog_2_method_4_code
def yX0_take : MethodName := ⟨RX0, "take", "(LLeadLetters$Ways;I)V"⟩
abbrev cX0_takeClause : ByteArray := prog_2_method_5_code
def yX0_takeClause : MethodName := ⟨RX0, "takeClause", "(LLeadLetters$Ways;I)V"⟩
abbrev cX0_putForm : ByteArray := prog_2_method_6_code
def yX0_putForm : MethodName := ⟨RX0, "putForm", "(III)V"⟩
abbrev cX0_barForm : ByteArray := prog_2_method_7_code
def yX0_barForm : MethodName := ⟨RX0, "barForm", "(I)V"⟩
abbrev cX0_formOf : ByteArray := prog_2_method_8_code
def yX0_formOf : MethodName := ⟨RX0, "formOf", "(I)I"⟩
abbrev cX0_within : ByteArray := prog_2_method_9_code
def yX0_within : MethodName := ⟨RX0, "within", "(III)I"⟩
def RX1 : String := "LeadLetters$Evidence"
def TX1 : u_T := fun k => match k with
  | 0 => ("LeadLetters$Evidence", "states", "LLeadLetters$Row;", true)
  | 1 => ("LeadLetters$Evidence", "habits", "LLeadLetters$Row;", true)
  | 2 => ("LeadLetters$Evidence", "rules", "LLeadLetters$Row;", true)
  | 3 => ("LeadLetters$Evidence", "path", "LLeadLetters$Row;", true)
  | 4 => ("LeadLetters$Evidence", "firstOrder", "LLeadLetters$Row;", true)
  | 5 => ("LeadLetters$Evidence", "partners", "LLeadLetters$Row;", true)
  | 6 => ("LeadLetters$Evidence", "forerunners", "LLeadLetters$Row;", true)
  | 7 => ("LeadLetters$Evidence", "joins", "LLeadLetters$Row;", true)
  | 8 => ("LeadLetters$Evidence", "fewest", "LLeadLetters$Row;", true)
  | _ => ("LeadLetters$Evidence", "ways", "LLeadLetters$Row;", true)
def tyX1 : Nat → FieldType := fun k => match k with
  | 0 => .object "LeadLetters$Row"
  | 1 => .object "LeadLetters$Row"
  | 2 => .object "LeadLetters$Row"
  | 3 => .object "LeadLetters$Row"
  | 4 => .object "LeadLetters$Row"
  | 5 => .object "LeadLetters$Row"
  | 6 => .object "LeadLetters$Row"
  | 7 => .object "LeadLetters$Row"
  | 8 => .object "LeadLetters$Row"
  | _ => .object "LeadLetters$Row"
abbrev wsX10 : List Cond := u_ws RX1 TX1 10
theorem nmX1 : ∀ a, a < 10 → ∀ b, b < 10 → a ≠ b → (TX1 a).2.1 ≠ (TX1 b).2.1 := by decide +kernel
theorem tyX1_ok : ∀ k, k < 10 → parseFieldDescriptor (TX1 k).2.2.1 = some (tyX1 k) := by decide +kernel
abbrev cX1_init : ByteArray := prog_3_method_1_code
def yX1_init : MethodName := ⟨RX1, "<init>", "(LLeadLetters$Shelf;)V"⟩
abbrev cX1_countStateOrders : ByteArray := prog_3_method_2_code
def yX1_countStateOrders : MethodName := ⟨RX1, "countStateOrders", "()I"⟩
abbrev cX1_follow : ByteArray := prog_3_method_3_code
def yX1_follow : MethodName := ⟨RX1, "follow", "(LLeadLetters$Evidence;III)I"⟩
abbrev cX1_keepFirst : ByteArray := prog_3_method_4_code
def yX1_keepFirst : MethodName := ⟨RX1, "keepFirst", "(I)V"⟩
abbrev cX1_findHands : ByteArray := prog_3_method_5_code
def yX1_findHands : MethodName := ⟨RX1, "findHands", "(I)V"⟩
abbrev cX1_findPartners : ByteArray := prog_3_method_6_code
def yX1_findPartners : MethodName := ⟨RX1, "findPartners", "(I)V"⟩
abbrev cX1_distance : ByteArray := prog_3_method_7_code
def yX1_distance : MethodName := ⟨RX1, "distance", "(II)I"⟩
abbrev cX1_explain : ByteArray := prog_3_method_8_code
def yX1_explain : MethodName := ⟨RX1, "explain", "(III)V"⟩
abbrev cX1_tryHand : ByteArray := prog_3_method_9_code
def yX1_tryHand : MethodName := ⟨RX1, "tryHand", "(II)V"⟩
abbrev cX1_hands : ByteArray := prog_3_method_10_code
def yX1_hands : MethodName := ⟨RX1, "hands", "()I"⟩
abbrev cX1_rivals : ByteArray := prog_3_method_11_code
def yX1_rivals : MethodName := ⟨RX1, "rivals", "()I"⟩
abbrev cX1_isPrinted : ByteArray := prog_3_method_12_code
def yX1_isPrinted : MethodName := ⟨RX1, "isPrinted", "(I)Z"⟩
abbrev cX1_rule : ByteArray := prog_3_method_13_code
def yX1_rule : MethodName := ⟨RX1, "rule", "(II)I"⟩
abbrev cX1_countRuns : ByteArray := prog_3_method_14_code
def yX1_countRuns : MethodName := ⟨RX1, "countRuns", "(I)I"⟩
abbrev cX1_findForerunners : ByteArray := prog_3_method_15_code
def yX1_findForerunners : MethodName := ⟨RX1, "findForerunners", "(I)V"⟩
abbrev cX1_canFollow : ByteArray := prog_3_method_16_code
def yX1_canFollow : MethodName := ⟨RX1, "canFollow", "(II)Z"⟩
abbrev cX1_beginnings : ByteArray := prog_3_method_17_code
def yX1_beginnings : MethodName := ⟨RX1, "beginnings", "(I)I"⟩
abbrev cX1_lastOne : ByteArray := prog_3_method_18_code
def yX1_lastOne : MethodName := ⟨RX1, "lastOne", "(II)I"⟩
abbrev cX1_greatestNext : ByteArray := prog_3_method_19_code
def yX1_greatestNext : MethodName := ⟨RX1, "greatestNext", "(II)I"⟩
def RX2 : String := "LeadLetters$Leaves"
def TX2 : u_T := fun k => match k with
  | 0 => ("LeadLetters$Leaves", "kinds", "LLeadLetters$Row;", true)
  | 1 => ("LeadLetters$Leaves", "pages", "LLeadLetters$Row;", true)
  | 2 => ("LeadLetters$Leaves", "holes", "LLeadLetters$Row;", true)
  | 3 => ("LeadLetters$Leaves", "towns", "LLeadLetters$Row;", true)
  | _ => ("LeadLetters$Leaves", "ranks", "LLeadLetters$Row;", true)
def tyX2 : Nat → FieldType := fun k => match k with
  | 0 => .object "LeadLetters$Row"
  | 1 => .object "LeadLetters$Row"
  | 2 => .object "LeadLetters$Row"
  | 3 => .object "LeadLetters$Row"
  | _ => .object "LeadLetters$Row"
abbrev wsX20 : List Cond := u_ws RX2 TX2 5
theorem nmX2 : ∀ a, a < 5 → ∀ b, b < 5 → a ≠ b → (TX2 a).2.1 ≠ (TX2 b).2.1 := by decide +kernel
theorem tyX2_ok : ∀ k, k < 5 → parseFieldDescriptor (TX2 k).2.2.1 = some (tyX2 k) := by decide +kernel
abbrev cX2_init : ByteArray := prog_4_method_1_code
def yX2_init : MethodName := ⟨RX2, "<init>", "(LLeadLetters$Shelf;)V"⟩
abbrev cX2_isKind : ByteArray := prog_4_method_2_code
def yX2_isKind : MethodName := ⟨RX2, "isKind", "(I)Z"⟩
abbrev cX2_isUnder : ByteArray := prog_4_method_3_code
def yX2_isUnder : MethodName := ⟨RX2, "isUnder", "(II)Z"⟩
abbrev cX2_has : ByteArray := prog_4_method_4_code
def yX2_has : MethodName := ⟨RX2, "has", "(I)Z"⟩
abbrev cX2_lay : ByteArray := prog_4_method_5_code
def yX2_lay : MethodName := ⟨RX2, "lay", "(IIII)I"⟩
abbrev cX2_costOf : ByteArray := prog_4_method_6_code
def yX2_costOf : MethodName := ⟨RX2, "costOf", "(I)I"⟩
abbrev cX2_faceOf : ByteArray := prog_4_method_7_code
def yX2_faceOf : MethodName := ⟨RX2, "faceOf", "(I)I"⟩
abbrev cX2_fewestCopies : ByteArray := prog_4_method_8_code
def yX2_fewestCopies : MethodName := ⟨RX2, "fewestCopies", "(I)I"⟩
abbrev cX2_counts : ByteArray := prog_4_method_9_code
def yX2_counts : MethodName := ⟨RX2, "counts", "(II)Z"⟩
abbrev cX2_rankOf : ByteArray := prog_4_method_10_code
def yX2_rankOf : MethodName := ⟨RX2, "rankOf", "(I)I"⟩
abbrev cX2_isFirstOfRank : ByteArray := prog_4_method_11_code
def yX2_isFirstOfRank : MethodName := ⟨RX2, "isFirstOfRank", "(I)Z"⟩
def RX3 : String := "LeadLetters$Loans"
def TX3 : u_T := fun k => match k with
  | 0 => ("LeadLetters$Loans", "coins", "LLeadLetters$Row;", true)
  | 1 => ("LeadLetters$Loans", "days", "LLeadLetters$Row;", true)
  | 2 => ("LeadLetters$Loans", "hundredths", "LLeadLetters$Row;", true)
  | 3 => ("LeadLetters$Loans", "paidLoans", "LLeadLetters$Row;", true)
  | 4 => ("LeadLetters$Loans", "paidDays", "LLeadLetters$Row;", true)
  | 5 => ("LeadLetters$Loans", "paidCoins", "LLeadLetters$Row;", true)
  | _ => ("LeadLetters$Loans", "worths", "LLeadLetters$Row;", true)
def tyX3 : Nat → FieldType := fun k => match k with
  | 0 => .object "LeadLetters$Row"
  | 1 => .object "LeadLetters$Row"
  | 2 => .object "LeadLetters$Row"
  | 3 => .object "LeadLetters$Row"
  | 4 => .object "LeadLetters$Row"
  | 5 => .object "LeadLetters$Row"
  | _ => .object "LeadLetters$Row"
abbrev wsX30 : List Cond := u_ws RX3 TX3 7
theorem nmX3 : ∀ a, a < 7 → ∀ b, b < 7 → a ≠ b → (TX3 a).2.1 ≠ (TX3 b).2.1 := by decide +kernel
theorem tyX3_ok : ∀ k, k < 7 → parseFieldDescriptor (TX3 k).2.2.1 = some (tyX3 k) := by decide +kernel
abbrev cX3_init : ByteArray := prog_5_method_1_code
def yX3_init : MethodName := ⟨RX3, "<init>", "(LLeadLetters$Shelf;)V"⟩
abbrev cX3_has : ByteArray := prog_5_method_2_code
def yX3_has : MethodName := ⟨RX3, "has", "(I)Z"⟩
abbrev cX3_lend : ByteArray := prog_5_method_3_code
def yX3_lend : MethodName := ⟨RX3, "lend", "(III)I"⟩
abbrev cX3_payBack : ByteArray := prog_5_method_4_code
def yX3_payBack : MethodName := ⟨RX3, "payBack", "(III)I"⟩
abbrev cX3_paid : ByteArray := prog_5_method_5_code
def yX3_paid : MethodName := ⟨RX3, "paid", "(III)I"⟩
abbrev cX3_owed : ByteArray := prog_5_method_6_code
def yX3_owed : MethodName := ⟨RX3, "owed", "(II)I"⟩
abbrev cX3_leastSet : ByteArray := prog_5_method_7_code
def yX3_leastSet : MethodName := ⟨RX3, "leastSet", "(I)I"⟩
abbrev cX3_isBetter : ByteArray := prog_5_method_8_code
def yX3_isBetter : MethodName := ⟨RX3, "isBetter", "(II)Z"⟩
abbrev cX3_worthOf : ByteArray := prog_5_method_9_code
def yX3_worthOf : MethodName := ⟨RX3, "worthOf", "(I)I"⟩
def RX4 : String := "LeadLetters$Presses"
def TX4 : u_T := fun k => match k with
  | 0 => ("LeadLetters$Presses", "rates", "LLeadLetters$Row;", true)
  | 1 => ("LeadLetters$Presses", "frees", "LLeadLetters$Row;", true)
  | 2 => ("LeadLetters$Presses", "jobPresses", "LLeadLetters$Row;", true)
  | 3 => ("LeadLetters$Presses", "jobFirsts", "LLeadLetters$Row;", true)
  | _ => ("LeadLetters$Presses", "jobEnds", "LLeadLetters$Row;", true)
def tyX4 : Nat → FieldType := fun k => match k with
  | 0 => .object "LeadLetters$Row"
  | 1 => .object "LeadLetters$Row"
  | 2 => .object "LeadLetters$Row"
  | 3 => .object "LeadLetters$Row"
  | _ => .object "LeadLetters$Row"
abbrev wsX40 : List Cond := u_ws RX4 TX4 5
theorem nmX4 : ∀ a, a < 5 → ∀ b, b < 5 → a ≠ b → (TX4 a).2.1 ≠ (TX4 b).2.1 := by decide +kernel
theorem tyX4_ok : ∀ k, k < 5 → parseFieldDescriptor (TX4 k).2.2.1 = some (tyX4 k) := by decide +kernel
abbrev cX4_init : ByteArray := prog_6_method_1_code
def yX4_init : MethodName := ⟨RX4, "<init>", "(LLeadLetters$Shelf;)V"⟩
abbrev cX4_firstFree : ByteArray := prog_6_method_2_code
def yX4_firstFree : MethodName := ⟨RX4, "firstFree", "(I)I"⟩
abbrev cX4_freeFrom : ByteArray := prog_6_method_3_code
def yX4_freeFrom : MethodName := ⟨RX4, "freeFrom", "(II)I"⟩
abbrev cX4_give : ByteArray := prog_6_method_4_code
def yX4_give : MethodName := ⟨RX4, "give", "(IIILLeadLetters$Ways;)I"⟩
def RX5 : String := "LeadLetters$Row"
def TX5 : u_T := fun k => match k with
  | 0 => ("LeadLetters$Row", "cells", "[I", true)
  | _ => ("LeadLetters$Row", "size", "I", false)
def tyX5 : Nat → FieldType := fun k => match k with
  | 0 => .array .int
  | _ => .int
abbrev wsX50 : List Cond := u_ws RX5 TX5 2
theorem nmX5 : ∀ a, a < 2 → ∀ b, b < 2 → a ≠ b → (TX5 a).2.1 ≠ (TX5 b).2.1 := by decide +kernel
theorem tyX5_ok : ∀ k, k < 2 → parseFieldDescriptor (TX5 k).2.2.1 = some (tyX5 k) := by decide +kernel
abbrev cX5_init : ByteArray := prog_7_method_1_code
def yX5_init : MethodName := ⟨RX5, "<init>", "(I)V"⟩
abbrev cX5_at : ByteArray := prog_7_method_2_code
def yX5_at : MethodName := ⟨RX5, "at", "(I)I"⟩
abbrev cX5_put : ByteArray := prog_7_method_3_code
def yX5_put : MethodName := ⟨RX5, "put", "(II)V"⟩
abbrev cX5_add : ByteArray := prog_7_method_4_code
def yX5_add : MethodName := ⟨RX5, "add", "(II)V"⟩
abbrev cX5_swap : ByteArray := prog_7_method_5_code
def yX5_swap : MethodName := ⟨RX5, "swap", "(II)I"⟩
abbrev cX5_fill : ByteArray := prog_7_method_6_code
def yX5_fill : MethodName := ⟨RX5, "fill", "(I)V"⟩
abbrev cX5_size : ByteArray := prog_7_method_7_code
def yX5_size : MethodName := ⟨RX5, "size", "()I"⟩
abbrev cX5_isFull : ByteArray := prog_7_method_8_code
def yX5_isFull : MethodName := ⟨RX5, "isFull", "()Z"⟩
abbrev cX5_push : ByteArray := prog_7_method_9_code
def yX5_push : MethodName := ⟨RX5, "push", "(I)V"⟩
abbrev cX5_number : ByteArray := prog_7_method_10_code
def yX5_number : MethodName := ⟨RX5, "number", "(I)I"⟩
abbrev cX5_indexOf : ByteArray := prog_7_method_11_code
def yX5_indexOf : MethodName := ⟨RX5, "indexOf", "(I)I"⟩
abbrev cX5_has : ByteArray := prog_7_method_12_code
def yX5_has : MethodName := ⟨RX5, "has", "(I)Z"⟩
abbrev cX5_shorten : ByteArray := prog_7_method_13_code
def yX5_shorten : MethodName := ⟨RX5, "shorten", "()V"⟩
abbrev cX5_clear : ByteArray := prog_7_method_14_code
def yX5_clear : MethodName := ⟨RX5, "clear", "()V"⟩
abbrev cX5_copy : ByteArray := prog_7_method_15_code
def yX5_copy : MethodName := ⟨RX5, "copy", "(LLeadLetters$Row;LLeadLetters$Row;)V"⟩
def RX6 : String := "LeadLetters$Setting"
def TX6 : u_T := fun k => match k with
  | 0 => ("LeadLetters$Setting", "customs", "LLeadLetters$Customs;", true)
  | 1 => ("LeadLetters$Setting", "widths", "LLeadLetters$Row;", true)
  | 2 => ("LeadLetters$Setting", "letters", "LLeadLetters$Row;", true)
  | 3 => ("LeadLetters$Setting", "threes", "LLeadLetters$Row;", true)
  | 4 => ("LeadLetters$Setting", "twos", "LLeadLetters$Row;", true)
  | 5 => ("LeadLetters$Setting", "choiceSizes", "LLeadLetters$Row;", true)
  | 6 => ("LeadLetters$Setting", "choiceWidths", "LLeadLetters$Row;", true)
  | 7 => ("LeadLetters$Setting", "choiceUglies", "LLeadLetters$Row;", true)
  | 8 => ("LeadLetters$Setting", "rest", "LLeadLetters$Row;", true)
  | 9 => ("LeadLetters$Setting", "begins", "LLeadLetters$Row;", true)
  | 10 => ("LeadLetters$Setting", "needs", "LLeadLetters$Row;", true)
  | 11 => ("LeadLetters$Setting", "alone", "LLeadLetters$Row;", true)
  | 12 => ("LeadLetters$Setting", "atBlank", "Z", false)
  | 13 => ("LeadLetters$Setting", "ugly", "I", false)
  | 14 => ("LeadLetters$Setting", "lines", "I", false)
  | _ => ("LeadLetters$Setting", "forms", "I", false)
def tyX6 : Nat → FieldType := fun k => match k with
  | 0 => .object "LeadLetters$Customs"
  | 1 => .object "LeadLetters$Row"
  | 2 => .object "LeadLetters$Row"
  | 3 => .object "LeadLetters$Row"
  | 4 => .object "LeadLetters$Row"
  | 5 => .object "LeadLetters$Row"
  | 6 => .object "LeadLetters$Row"
  | 7 => .object "LeadLetters$Row"
  | 8 => .object "LeadLetters$Row"
  | 9 => .object "LeadLetters$Row"
  | 10 => .object "LeadLetters$Row"
  | 11 => .object "LeadLetters$Row"
  | 12 => .boolean
  | 13 => .int
  | 14 => .int
  | _ => .int
abbrev wsX60 : List Cond := u_ws RX6 TX6 16
theorem nmX6 : ∀ a, a < 16 → ∀ b, b < 16 → a ≠ b → (TX6 a).2.1 ≠ (TX6 b).2.1 := by decide +kernel
theorem tyX6_ok : ∀ k, k < 16 → parseFieldDescriptor (TX6 k).2.2.1 = some (tyX6 k) := by decide +kernel
abbrev cX6_init : ByteArray := prog_8_method_1_code
def yX6_init : MethodName := ⟨RX6, "<init>", "(LLeadLetters$Customs;LLeadLetters$Row;)V"⟩
abbrev cX6_find : ByteArray := prog_8_method_2_code
def yX6_find : MethodName := ⟨RX6, "find", "()Z"⟩
abbrev cX6_findForms : ByteArray := prog_8_method_3_code
def yX6_findForms : MethodName := ⟨RX6, "findForms", "()V"⟩
abbrev cX6_joined : ByteArray := prog_8_method_4_code
def yX6_joined : MethodName := ⟨RX6, "joined", "(II)Z"⟩
abbrev cX6_isBlank : ByteArray := prog_8_method_5_code
def yX6_isBlank : MethodName := ⟨RX6, "isBlank", "(I)Z"⟩
abbrev cX6_reckonPlace : ByteArray := prog_8_method_6_code
def yX6_reckonPlace : MethodName := ⟨RX6, "reckonPlace", "(I)V"⟩
abbrev cX6_listChoices : ByteArray := prog_8_method_7_code
def yX6_listChoices : MethodName := ⟨RX6, "listChoices", "(I)V"⟩
abbrev cX6_addChoice : ByteArray := prog_8_method_8_code
def yX6_addChoice : MethodName := ⟨RX6, "addChoice", "(III)V"⟩
abbrev cX6_leastUgly : ByteArray := prog_8_method_9_code
def yX6_leastUgly : MethodName := ⟨RX6, "leastUgly", "(III)I"⟩
abbrev cX6_uglyBy : ByteArray := prog_8_method_10_code
def yX6_uglyBy : MethodName := ⟨RX6, "uglyBy", "(IIII)I"⟩
abbrev cX6_uglyByEnd : ByteArray := prog_8_method_11_code
def yX6_uglyByEnd : MethodName := ⟨RX6, "uglyByEnd", "(III)I"⟩
abbrev cX6_piecesBehind : ByteArray := prog_8_method_12_code
def yX6_piecesBehind : MethodName := ⟨RX6, "piecesBehind", "(I)I"⟩
abbrev cX6_index : ByteArray := prog_8_method_13_code
def yX6_index : MethodName := ⟨RX6, "index", "(III)I"⟩
abbrev cX6_setOut : ByteArray := prog_8_method_14_code
def yX6_setOut : MethodName := ⟨RX6, "setOut", "()V"⟩
abbrev cX6_startAnew : ByteArray := prog_8_method_15_code
def yX6_startAnew : MethodName := ⟨RX6, "startAnew", "()V"⟩
abbrev cX6_bestChoice : ByteArray := prog_8_method_16_code
def yX6_bestChoice : MethodName := ⟨RX6, "bestChoice", "(III)I"⟩
abbrev cX6_endLine : ByteArray := prog_8_method_17_code
def yX6_endLine : MethodName := ⟨RX6, "endLine", "(I)I"⟩
abbrev cX6_setPiece : ByteArray := prog_8_method_18_code
def yX6_setPiece : MethodName := ⟨RX6, "setPiece", "(II)I"⟩
abbrev cX6_sparing : ByteArray := prog_8_method_19_code
def yX6_sparing : MethodName := ⟨RX6, "sparing", "(I)I"⟩
abbrev cX6_lesser : ByteArray := prog_8_method_20_code
def yX6_lesser : MethodName := ⟨RX6, "lesser", "(II)I"⟩
abbrev cX6_standsAlone : ByteArray := prog_8_method_21_code
def yX6_standsAlone : MethodName := ⟨RX6, "standsAlone", "(III)Z"⟩
def RX7 : String := "LeadLetters$Shelf"
def TX7 : u_T := fun k => match k with
  | 0 => ("LeadLetters$Shelf", "rows", "Ljava/util/ArrayList;", true)
  | _ => ("LeadLetters$Shelf", "copies", "Ljava/util/ArrayList;", true)
def tyX7 : Nat → FieldType := fun k => match k with
  | 0 => .object "java/util/ArrayList"
  | _ => .object "java/util/ArrayList"
abbrev wsX70 : List Cond := u_ws RX7 TX7 2
theorem nmX7 : ∀ a, a < 2 → ∀ b, b < 2 → a ≠ b → (TX7 a).2.1 ≠ (TX7 b).2.1 := by decide +kernel
theorem tyX7_ok : ∀ k, k < 2 → parseFieldDescriptor (TX7 k).2.2.1 = some (tyX7 k) := by decide +kernel
abbrev cX7_init : ByteArray := prog_9_method_1_code
def yX7_init : MethodName := ⟨RX7, "<init>", "()V"⟩
abbrev cX7_place : ByteArray := prog_9_method_2_code
def yX7_place : MethodName := ⟨RX7, "place", "(I)LLeadLetters$Row;"⟩
abbrev cX7_keep : ByteArray := prog_9_method_3_code
def yX7_keep : MethodName := ⟨RX7, "keep", "()V"⟩
abbrev cX7_bringBack : ByteArray := prog_9_method_4_code
def yX7_bringBack : MethodName := ⟨RX7, "bringBack", "()V"⟩
def RX8 : String := "LeadLetters$Stock"
def TX8 : u_T := fun k => match k with
  | 0 => ("LeadLetters$Stock", "widths", "LLeadLetters$Row;", true)
  | 1 => ("LeadLetters$Stock", "inCase", "LLeadLetters$Row;", true)
  | 2 => ("LeadLetters$Stock", "inPot", "LLeadLetters$Row;", true)
  | 3 => ("LeadLetters$Stock", "pulls", "LLeadLetters$Row;", true)
  | 4 => ("LeadLetters$Stock", "standing", "LLeadLetters$Row;", true)
  | _ => ("LeadLetters$Stock", "inPage", "LLeadLetters$Row;", true)
def tyX8 : Nat → FieldType := fun k => match k with
  | 0 => .object "LeadLetters$Row"
  | 1 => .object "LeadLetters$Row"
  | 2 => .object "LeadLetters$Row"
  | 3 => .object "LeadLetters$Row"
  | 4 => .object "LeadLetters$Row"
  | _ => .object "LeadLetters$Row"
abbrev wsX80 : List Cond := u_ws RX8 TX8 6
theorem nmX8 : ∀ a, a < 6 → ∀ b, b < 6 → a ≠ b → (TX8 a).2.1 ≠ (TX8 b).2.1 := by decide +kernel
theorem tyX8_ok : ∀ k, k < 6 → parseFieldDescriptor (TX8 k).2.2.1 = some (tyX8 k) := by decide +kernel
abbrev cX8_init : ByteArray := prog_10_method_1_code
def yX8_init : MethodName := ⟨RX8, "<init>", "(LLeadLetters$Shelf;)V"⟩
abbrev cX8_castAnew : ByteArray := prog_10_method_2_code
def yX8_castAnew : MethodName := ⟨RX8, "castAnew", "(II)I"⟩
abbrev cX8_hasPage : ByteArray := prog_10_method_3_code
def yX8_hasPage : MethodName := ⟨RX8, "hasPage", "(I)Z"⟩
abbrev cX8_hasAllPages : ByteArray := prog_10_method_4_code
def yX8_hasAllPages : MethodName := ⟨RX8, "hasAllPages", "()Z"⟩
abbrev cX8_stands : ByteArray := prog_10_method_5_code
def yX8_stands : MethodName := ⟨RX8, "stands", "(I)Z"⟩
abbrev cX8_standing : ByteArray := prog_10_method_6_code
def yX8_standing : MethodName := ⟨RX8, "standing", "()I"⟩
abbrev cX8_inPages : ByteArray := prog_10_method_7_code
def yX8_inPages : MethodName := ⟨RX8, "inPages", "(I)I"⟩
abbrev cX8_lacking : ByteArray := prog_10_method_8_code
def yX8_lacking : MethodName := ⟨RX8, "lacking", "(LLeadLetters$Row;)I"⟩
abbrev cX8_putUp : ByteArray := prog_10_method_9_code
def yX8_putUp : MethodName := ⟨RX8, "putUp", "(LLeadLetters$Row;)I"⟩
abbrev cX8_takeDown : ByteArray := prog_10_method_10_code
def yX8_takeDown : MethodName := ⟨RX8, "takeDown", "(I)I"⟩
def RX9 : String := "LeadLetters$Verses"
def TX9 : u_T := fun k => match k with
  | 0 => ("LeadLetters$Verses", "sizes", "LLeadLetters$Row;", true)
  | _ => ("LeadLetters$Verses", "letters", "LLeadLetters$Row;", true)
def tyX9 : Nat → FieldType := fun k => match k with
  | 0 => .object "LeadLetters$Row"
  | _ => .object "LeadLetters$Row"
abbrev wsX90 : List Cond := u_ws RX9 TX9 2
theorem nmX9 : ∀ a, a < 2 → ∀ b, b < 2 → a ≠ b → (TX9 a).2.1 ≠ (TX9 b).2.1 := by decide +kernel
theorem tyX9_ok : ∀ k, k < 2 → parseFieldDescriptor (TX9 k).2.2.1 = some (tyX9 k) := by decide +kernel
abbrev cX9_init : ByteArray := prog_11_method_1_code
def yX9_init : MethodName := ⟨RX9, "<init>", "(LLeadLetters$Shelf;)V"⟩
abbrev cX9_isFull : ByteArray := prog_11_method_2_code
def yX9_isFull : MethodName := ⟨RX9, "isFull", "()Z"⟩
abbrev cX9_has : ByteArray := prog_11_method_3_code
def yX9_has : MethodName := ⟨RX9, "has", "(I)Z"⟩
abbrev cX9_faultOf : ByteArray := prog_11_method_4_code
def yX9_faultOf : MethodName := ⟨RX9, "faultOf", "(LLeadLetters$Row;)I"⟩
abbrev cX9_canStand : ByteArray := prog_11_method_5_code
def yX9_canStand : MethodName := ⟨RX9, "canStand", "(LLeadLetters$Row;I)Z"⟩
abbrev cX9_accept : ByteArray := prog_11_method_6_code
def yX9_accept : MethodName := ⟨RX9, "accept", "(LLeadLetters$Row;)I"⟩
abbrev cX9_copyTo : ByteArray := prog_11_method_7_code
def yX9_copyTo : MethodName := ⟨RX9, "copyTo", "(ILLeadLetters$Row;)V"⟩
def RX10 : String := "LeadLetters$Ways"
def TX10 : u_T := fun k => match k with
  | 0 => ("LeadLetters$Ways", "tape", "LLeadLetters$Row;", true)
  | 1 => ("LeadLetters$Ways", "days", "LLeadLetters$Row;", true)
  | 2 => ("LeadLetters$Ways", "byDays", "LLeadLetters$Row;", true)
  | 3 => ("LeadLetters$Ways", "feasts", "LLeadLetters$Row;", true)
  | 4 => ("LeadLetters$Ways", "clauseCounts", "LLeadLetters$Row;", true)
  | 5 => ("LeadLetters$Ways", "words", "LLeadLetters$Row;", true)
  | 6 => ("LeadLetters$Ways", "letters", "LLeadLetters$Row;", true)
  | 7 => ("LeadLetters$Ways", "amounts", "LLeadLetters$Row;", true)
  | 8 => ("LeadLetters$Ways", "uglies", "LLeadLetters$Row;", true)
  | _ => ("LeadLetters$Ways", "place", "I", false)
def tyX10 : Nat → FieldType := fun k => match k with
  | 0 => .object "LeadLetters$Row"
  | 1 => .object "LeadLetters$Row"
  | 2 => .object "LeadLetters$Row"
  | 3 => .object "LeadLetters$Row"
  | 4 => .object "LeadLetters$Row"
  | 5 => .object "LeadLetters$Row"
  | 6 => .object "LeadLetters$Row"
  | 7 => .object "LeadLetters$Row"
  | 8 => .object "LeadLetters$Row"
  | _ => .int
abbrev wsX100 : List Cond := u_ws RX10 TX10 10
theorem nmX10 : ∀ a, a < 10 → ∀ b, b < 10 → a ≠ b → (TX10 a).2.1 ≠ (TX10 b).2.1 := by decide +kernel
theorem tyX10_ok : ∀ k, k < 10 → parseFieldDescriptor (TX10 k).2.2.1 = some (tyX10 k) := by decide +kernel
abbrev cX10_init : ByteArray := prog_12_method_1_code
def yX10_init : MethodName := ⟨RX10, "<init>", "(LLeadLetters$Shelf;LLeadLetters$Row;)V"⟩
abbrev cX10_isFull : ByteArray := prog_12_method_2_code
def yX10_isFull : MethodName := ⟨RX10, "isFull", "()Z"⟩
abbrev cX10_nextSlot : ByteArray := prog_12_method_3_code
def yX10_nextSlot : MethodName := ⟨RX10, "nextSlot", "()I"⟩
abbrev cX10_accept : ByteArray := prog_12_method_4_code
def yX10_accept : MethodName := ⟨RX10, "accept", "(I)I"⟩
abbrev cX10_isFeast : ByteArray := prog_12_method_5_code
def yX10_isFeast : MethodName := ⟨RX10, "isFeast", "(I)Z"⟩
abbrev cX10_read : ByteArray := prog_12_method_6_code
def yX10_read : MethodName := ⟨RX10, "read", "()I"⟩
abbrev cX10_readClause : ByteArray := prog_12_method_7_code
def yX10_readClause : MethodName := ⟨RX10, "readClause", "(II)Z"⟩
abbrev cX10_addFeast : ByteArray := prog_12_method_8_code
def yX10_addFeast : MethodName := ⟨RX10, "addFeast", "(II)Z"⟩
abbrev cX10_readWord : ByteArray := prog_12_method_9_code
def yX10_readWord : MethodName := ⟨RX10, "readWord", "()I"⟩
abbrev cX10_sameBytes : ByteArray := prog_12_method_10_code
def yX10_sameBytes : MethodName := ⟨RX10, "sameBytes", "(Ljava/lang/String;)I"⟩
abbrev cX10_readBlank : ByteArray := prog_12_method_11_code
def yX10_readBlank : MethodName := ⟨RX10, "readBlank", "()Z"⟩
abbrev cX10_readLetters : ByteArray := prog_12_method_12_code
def yX10_readLetters : MethodName := ⟨RX10, "readLetters", "(I)Z"⟩
abbrev cX10_readFigure : ByteArray := prog_12_method_13_code
def yX10_readFigure : MethodName := ⟨RX10, "readFigure", "(ILLeadLetters$Row;I)Z"⟩
abbrev cX10_readNumber : ByteArray := prog_12_method_14_code
def yX10_readNumber : MethodName := ⟨RX10, "readNumber", "(I)Z"⟩
abbrev cX10_next : ByteArray := prog_12_method_15_code
def yX10_next : MethodName := ⟨RX10, "next", "()I"⟩
abbrev cX10_isLetter : ByteArray := prog_12_method_16_code
def yX10_isLetter : MethodName := ⟨RX10, "isLetter", "(I)Z"⟩
abbrev cX10_spellingOf : ByteArray := prog_12_method_17_code
def yX10_spellingOf : MethodName := ⟨RX10, "spellingOf", "(I)Ljava/lang/String;"⟩
def RX11 : String := "LeadLetters"
def TX11 : u_T := fun k => match k with
  | 0 => ("LeadLetters", "shelf", "LLeadLetters$Shelf;", true)
  | 1 => ("LeadLetters", "today", "LLeadLetters$Row;", true)
  | 2 => ("LeadLetters", "tape", "LLeadLetters$Row;", true)
  | 3 => ("LeadLetters", "ways", "LLeadLetters$Ways;", true)
  | 4 => ("LeadLetters", "customs", "LLeadLetters$Customs;", true)
  | 5 => ("LeadLetters", "verses", "LLeadLetters$Verses;", true)
  | 6 => ("LeadLetters", "stock", "LLeadLetters$Stock;", true)
  | 7 => ("LeadLetters", "setting", "LLeadLetters$Setting;", true)
  | 8 => ("LeadLetters", "presses", "LLeadLetters$Presses;", true)
  | 9 => ("LeadLetters", "leaves", "LLeadLetters$Leaves;", true)
  | 10 => ("LeadLetters", "evidence", "LLeadLetters$Evidence;", true)
  | 11 => ("LeadLetters", "loans", "LLeadLetters$Loans;", true)
  | _ => ("LeadLetters", "imaged", "Z", false)
def tyX11 : Nat → FieldType := fun k => match k with
  | 0 => .object "LeadLetters$Shelf"
  | 1 => .object "LeadLetters$Row"
  | 2 => .object "LeadLetters$Row"
  | 3 => .object "LeadLetters$Ways"
  | 4 => .object "LeadLetters$Customs"
  | 5 => .object "LeadLetters$Verses"
  | 6 => .object "LeadLetters$Stock"
  | 7 => .object "LeadLetters$Setting"
  | 8 => .object "LeadLetters$Presses"
  | 9 => .object "LeadLetters$Leaves"
  | 10 => .object "LeadLetters$Evidence"
  | 11 => .object "LeadLetters$Loans"
  | _ => .boolean
abbrev wsX110 : List Cond := u_ws RX11 TX11 13
theorem nmX11 : ∀ a, a < 13 → ∀ b, b < 13 → a ≠ b → (TX11 a).2.1 ≠ (TX11 b).2.1 := by decide +kernel
theorem tyX11_ok : ∀ k, k < 13 → parseFieldDescriptor (TX11 k).2.2.1 = some (tyX11 k) := by decide +kernel
abbrev cX11_init : ByteArray := prog_1_method_1_code
def yX11_init : MethodName := ⟨RX11, "<init>", "()V"⟩
abbrev cX11_sort : ByteArray := prog_1_method_2_code
def yX11_sort : MethodName := ⟨RX11, "sort", "(II)I"⟩
abbrev cX11_cast : ByteArray := prog_1_method_3_code
def yX11_cast : MethodName := ⟨RX11, "cast", "(II)I"⟩
abbrev cX11_many : ByteArray := prog_1_method_4_code
def yX11_many : MethodName := ⟨RX11, "many", "(II)I"⟩
abbrev cX11_day : ByteArray := prog_1_method_5_code
def yX11_day : MethodName := ⟨RX11, "day", "(I)I"⟩
abbrev cX11_feed : ByteArray := prog_1_method_6_code
def yX11_feed : MethodName := ⟨RX11, "feed", "(JI)I"⟩
abbrev cX11_text : ByteArray := prog_1_method_7_code
def yX11_text : MethodName := ⟨RX11, "text", "(I)I"⟩
abbrev cX11_force : ByteArray := prog_1_method_8_code
def yX11_force : MethodName := ⟨RX11, "force", "(II)I"⟩
abbrev cX11_verse : ByteArray := prog_1_method_9_code
def yX11_verse : MethodName := ⟨RX11, "verse", "()I"⟩
abbrev cX11_line : ByteArray := prog_1_method_10_code
def yX11_line : MethodName := ⟨RX11, "line", "(III)I"⟩
abbrev cX11_needs : ByteArray := prog_1_method_11_code
def yX11_needs : MethodName := ⟨RX11, "needs", "(III)I"⟩
abbrev cX11_enough : ByteArray := prog_1_method_12_code
def yX11_enough : MethodName := ⟨RX11, "enough", "(II)I"⟩
abbrev cX11_page : ByteArray := prog_1_method_13_code
def yX11_page : MethodName := ⟨RX11, "page", "(I)I"⟩
abbrev cX11_pull : ByteArray := prog_1_method_14_code
def yX11_pull : MethodName := ⟨RX11, "pull", "(II)I"⟩
abbrev cX11_down : ByteArray := prog_1_method_15_code
def yX11_down : MethodName := ⟨RX11, "down", "(I)I"⟩
abbrev cX11_press : ByteArray := prog_1_method_16_code
def yX11_press : MethodName := ⟨RX11, "press", "(II)I"⟩
abbrev cX11_order : ByteArray := prog_1_method_17_code
def yX11_order : MethodName := ⟨RX11, "order", "(II)I"⟩
abbrev cX11_done : ByteArray := prog_1_method_18_code
def yX11_done : MethodName := ⟨RX11, "done", "(II)I"⟩
abbrev cX11_leaf : ByteArray := prog_1_method_19_code
def yX11_leaf : MethodName := ⟨RX11, "leaf", "(IIII)I"⟩
abbrev cX11_shows : ByteArray := prog_1_method_20_code
def yX11_shows : MethodName := ⟨RX11, "shows", "(II)I"⟩
abbrev cX11_as : ByteArray := prog_1_method_21_code
def yX11_as : MethodName := ⟨RX11, "as", "(II)I"⟩
abbrev cX11_copies : ByteArray := prog_1_method_22_code
def yX11_copies : MethodName := ⟨RX11, "copies", "(I)I"⟩
abbrev cX11_state : ByteArray := prog_1_method_23_code
def yX11_state : MethodName := ⟨RX11, "state", "(I)I"⟩
abbrev cX11_allowed : ByteArray := prog_1_method_24_code
def yX11_allowed : MethodName := ⟨RX11, "allowed", "(I)I"⟩
abbrev cX11_hand : ByteArray := prog_1_method_25_code
def yX11_hand : MethodName := ⟨RX11, "hand", "(I)I"⟩
abbrev cX11_rival : ByteArray := prog_1_method_26_code
def yX11_rival : MethodName := ⟨RX11, "rival", "(II)I"⟩
abbrev cX11_ahead : ByteArray := prog_1_method_27_code
def yX11_ahead : MethodName := ⟨RX11, "ahead", "(II)I"⟩
abbrev cX11_runs : ByteArray := prog_1_method_28_code
def yX11_runs : MethodName := ⟨RX11, "runs", "(II)I"⟩
abbrev cX11_loan : ByteArray := prog_1_method_29_code
def yX11_loan : MethodName := ⟨RX11, "loan", "(III)I"⟩
abbrev cX11_pay : ByteArray := prog_1_method_30_code
def yX11_pay : MethodName := ⟨RX11, "pay", "(III)I"⟩
abbrev cX11_owe : ByteArray := prog_1_method_31_code
def yX11_owe : MethodName := ⟨RX11, "owe", "(II)I"⟩
abbrev cX11_thing : ByteArray := prog_1_method_32_code
def yX11_thing : MethodName := ⟨RX11, "thing", "(II)I"⟩
abbrev cX11_suit : ByteArray := prog_1_method_33_code
def yX11_suit : MethodName := ⟨RX11, "suit", "(I)I"⟩
abbrev cX11_tried : ByteArray := prog_1_method_34_code
def yX11_tried : MethodName := ⟨RX11, "tried", "(II)I"⟩
abbrev cX11_image : ByteArray := prog_1_method_35_code
def yX11_image : MethodName := ⟨RX11, "image", "()I"⟩
abbrev cX11_undo : ByteArray := prog_1_method_36_code
def yX11_undo : MethodName := ⟨RX11, "undo", "()I"⟩
abbrev cX11_count : ByteArray := prog_1_method_37_code
def yX11_count : MethodName := ⟨RX11, "count", "(I)I"⟩
abbrev cX11_now : ByteArray := prog_1_method_38_code
def yX11_now : MethodName := ⟨RX11, "now", "()I"⟩
abbrev cX11_isSort : ByteArray := prog_1_method_39_code
def yX11_isSort : MethodName := ⟨RX11, "isSort", "(I)Z"⟩
abbrev cX11_isDay : ByteArray := prog_1_method_40_code
def yX11_isDay : MethodName := ⟨RX11, "isDay", "(I)Z"⟩
abbrev cX11_isSet : ByteArray := prog_1_method_41_code
def yX11_isSet : MethodName := ⟨RX11, "isSet", "(IIZ)Z"⟩
def RX12 : String := "LeadLettersModel"
def TX12 : u_T := fun k => match k with
  | 0 => ("LeadLettersModel", "thrown", "I", false)
  | 1 => ("LeadLettersModel", "s", "[I", true)
  | 2 => ("LeadLettersModel", "image", "[I", true)
  | 3 => ("LeadLettersModel", "hasImage", "Z", false)
  | 4 => ("LeadLettersModel", "act", "I", false)
  | 5 => ("LeadLettersModel", "spot", "I", false)
  | 6 => ("LeadLettersModel", "isWrong", "Z", false)
  | 7 => ("LeadLettersModel", "inLine", "[I", true)
  | 8 => ("LeadLettersModel", "values", "[I", true)
  | 9 => ("LeadLettersModel", "forms", "[I", true)
  | 10 => ("LeadLettersModel", "formWidth", "[I", true)
  | 11 => ("LeadLettersModel", "formUgly", "[I", true)
  | 12 => ("LeadLettersModel", "feasts", "[Z", true)
  | 13 => ("LeadLettersModel", "formMany", "I", false)
  | 14 => ("LeadLettersModel", "rest", "[I", true)
  | 15 => ("LeadLettersModel", "piece", "[I", true)
  | 16 => ("LeadLettersModel", "begins", "[I", true)
  | 17 => ("LeadLettersModel", "needs", "[I", true)
  | 18 => ("LeadLettersModel", "lines", "I", false)
  | 19 => ("LeadLettersModel", "formed", "I", false)
  | 20 => ("LeadLettersModel", "broken", "I", false)
  | 21 => ("LeadLettersModel", "ugliness", "I", false)
  | 22 => ("LeadLettersModel", "row", "[I", true)
  | 23 => ("LeadLettersModel", "firstRow", "[I", true)
  | 24 => ("LeadLettersModel", "counted", "I", false)
  | 25 => ("LeadLettersModel", "alike", "[I", true)
  | 26 => ("LeadLettersModel", "sets10", "[I", true)
  | 27 => ("LeadLettersModel", "fewest", "I", false)
  | 28 => ("LeadLettersModel", "ways", "I", false)
  | _ => ("LeadLettersModel", "orders", "[I", true)
def tyX12 : Nat → FieldType := fun k => match k with
  | 0 => .int
  | 1 => .array .int
  | 2 => .array .int
  | 3 => .boolean
  | 4 => .int
  | 5 => .int
  | 6 => .boolean
  | 7 => .array .int
  | 8 => .array .int
  | 9 => .array .int
  | 10 => .array .int
  | 11 => .array .int
  | 12 => .array .boolean
  | 13 => .int
  | 14 => .array .int
  | 15 => .array .int
  | 16 => .array .int
  | 17 => .array .int
  | 18 => .int
  | 19 => .int
  | 20 => .int
  | 21 => .int
  | 22 => .array .int
  | 23 => .array .int
  | 24 => .int
  | 25 => .array .int
  | 26 => .array .int
  | 27 => .int
  | 28 => .int
  | _ => .array .int
abbrev wsX120 : List Cond := u_ws RX12 TX12 30
theorem nmX12 : ∀ a, a < 30 → ∀ b, b < 30 → a ≠ b → (TX12 a).2.1 ≠ (TX12 b).2.1 := by decide +kernel
theorem tyX12_ok : ∀ k, k < 30 → parseFieldDescriptor (TX12 k).2.2.1 = some (tyX12 k) := by decide +kernel
abbrev cX12_init : ByteArray := prog_14_method_1_code
def yX12_init : MethodName := ⟨RX12, "<init>", "()V"⟩
abbrev cX12_in : ByteArray := prog_14_method_3_code
def yX12_in : MethodName := ⟨RX12, "in", "(III)Z"⟩
abbrev cX12_isSort : ByteArray := prog_14_method_4_code
def yX12_isSort : MethodName := ⟨RX12, "isSort", "(I)Z"⟩
abbrev cX12_isDay : ByteArray := prog_14_method_5_code
def yX12_isDay : MethodName := ⟨RX12, "isDay", "(I)Z"⟩
abbrev cX12_standing : ByteArray := prog_14_method_6_code
def yX12_standing : MethodName := ⟨RX12, "standing", "()I"⟩
abbrev cX12_sort : ByteArray := prog_14_method_7_code
def yX12_sort : MethodName := ⟨RX12, "sort", "(II)I"⟩
abbrev cX12_cast : ByteArray := prog_14_method_8_code
def yX12_cast : MethodName := ⟨RX12, "cast", "(II)I"⟩
abbrev cX12_many : ByteArray := prog_14_method_9_code
def yX12_many : MethodName := ⟨RX12, "many", "(II)I"⟩
abbrev cX12_day : ByteArray := prog_14_method_10_code
def yX12_day : MethodName := ⟨RX12, "day", "(I)I"⟩
abbrev cX12_feed : ByteArray := prog_14_method_11_code
def yX12_feed : MethodName := ⟨RX12, "feed", "(JI)I"⟩
abbrev cX12_here : ByteArray := prog_14_method_12_code
def yX12_here : MethodName := ⟨RX12, "here", "()I"⟩
abbrev cX12_must : ByteArray := prog_14_method_13_code
def yX12_must : MethodName := ⟨RX12, "must", "(I)V"⟩
abbrev cX12_spells : ByteArray := prog_14_method_14_code
def yX12_spells : MethodName := ⟨RX12, "spells", "(Ljava/lang/String;)V"⟩
abbrev cX12_number : ByteArray := prog_14_method_15_code
def yX12_number : MethodName := ⟨RX12, "number", "()I"⟩
abbrev cX12_figure : ByteArray := prog_14_method_16_code
def yX12_figure : MethodName := ⟨RX12, "figure", "(I)I"⟩
abbrev cX12_letter : ByteArray := prog_14_method_17_code
def yX12_letter : MethodName := ⟨RX12, "letter", "()I"⟩
abbrev cX12_letters : ByteArray := prog_14_method_18_code
def yX12_letters : MethodName := ⟨RX12, "letters", "()I"⟩
abbrev cX12_word : ByteArray := prog_14_method_19_code
def yX12_word : MethodName := ⟨RX12, "word", "()I"⟩
abbrev cX12_reads : ByteArray := prog_14_method_20_code
def yX12_reads : MethodName := ⟨RX12, "reads", "(I)V"⟩
abbrev cX12_readsWay : ByteArray := prog_14_method_21_code
def yX12_readsWay : MethodName := ⟨RX12, "readsWay", "(II)Z"⟩
abbrev cX12_text : ByteArray := prog_14_method_22_code
def yX12_text : MethodName := ⟨RX12, "text", "(I)I"⟩
abbrev cX12_forgets : ByteArray := prog_14_method_23_code
def yX12_forgets : MethodName := ⟨RX12, "forgets", "(I)V"⟩
abbrev cX12_takes : ByteArray := prog_14_method_24_code
def yX12_takes : MethodName := ⟨RX12, "takes", "(I)V"⟩
abbrev cX12_limited : ByteArray := prog_14_method_25_code
def yX12_limited : MethodName := ⟨RX12, "limited", "(III)I"⟩
abbrev cX12_looks : ByteArray := prog_14_method_26_code
def yX12_looks : MethodName := ⟨RX12, "looks", "(I)V"⟩
abbrev cX12_force : ByteArray := prog_14_method_27_code
def yX12_force : MethodName := ⟨RX12, "force", "(II)I"⟩
abbrev cX12_verse : ByteArray := prog_14_method_28_code
def yX12_verse : MethodName := ⟨RX12, "verse", "()I"⟩
abbrev cX12_isVerse : ByteArray := prog_14_method_29_code
def yX12_isVerse : MethodName := ⟨RX12, "isVerse", "(I)Z"⟩
abbrev cX12_at : ByteArray := prog_14_method_30_code
def yX12_at : MethodName := ⟨RX12, "at", "(II)I"⟩
abbrev cX12_formAt : ByteArray := prog_14_method_31_code
def yX12_formAt : MethodName := ⟨RX12, "formAt", "(III)I"⟩
abbrev cX12_restOf : ByteArray := prog_14_method_32_code
def yX12_restOf : MethodName := ⟨RX12, "restOf", "(III)I"⟩
abbrev cX12_wide : ByteArray := prog_14_method_33_code
def yX12_wide : MethodName := ⟨RX12, "wide", "(III)I"⟩
abbrev cX12_ugly : ByteArray := prog_14_method_34_code
def yX12_ugly : MethodName := ⟨RX12, "ugly", "(III)I"⟩
abbrev cX12_isLetter : ByteArray := prog_14_method_35_code
def yX12_isLetter : MethodName := ⟨RX12, "isLetter", "(II)Z"⟩
abbrev cX12_goingOn : ByteArray := prog_14_method_36_code
def yX12_goingOn : MethodName := ⟨RX12, "goingOn", "(IIII)I"⟩
abbrev cX12_breaking : ByteArray := prog_14_method_37_code
def yX12_breaking : MethodName := ⟨RX12, "breaking", "(IIIII)I"⟩
abbrev cX12_blanked : ByteArray := prog_14_method_38_code
def yX12_blanked : MethodName := ⟨RX12, "blanked", "(III)I"⟩
abbrev cX12_ended : ByteArray := prog_14_method_39_code
def yX12_ended : MethodName := ⟨RX12, "ended", "(II)I"⟩
abbrev cX12_leastOf : ByteArray := prog_14_method_40_code
def yX12_leastOf : MethodName := ⟨RX12, "leastOf", "(IIII)I"⟩
abbrev cX12_sets : ByteArray := prog_14_method_41_code
def yX12_sets : MethodName := ⟨RX12, "sets", "(II)Z"⟩
abbrev cX12_line : ByteArray := prog_14_method_42_code
def yX12_line : MethodName := ⟨RX12, "line", "(III)I"⟩
abbrev cX12_needs : ByteArray := prog_14_method_43_code
def yX12_needs : MethodName := ⟨RX12, "needs", "(III)I"⟩
abbrev cX12_lacking : ByteArray := prog_14_method_44_code
def yX12_lacking : MethodName := ⟨RX12, "lacking", "()I"⟩
abbrev cX12_spares : ByteArray := prog_14_method_45_code
def yX12_spares : MethodName := ⟨RX12, "spares", "(IIII)Z"⟩
abbrev cX12_enough : ByteArray := prog_14_method_46_code
def yX12_enough : MethodName := ⟨RX12, "enough", "(II)I"⟩
abbrev cX12_page : ByteArray := prog_14_method_47_code
def yX12_page : MethodName := ⟨RX12, "page", "(I)I"⟩
abbrev cX12_isPage : ByteArray := prog_14_method_48_code
def yX12_isPage : MethodName := ⟨RX12, "isPage", "(I)Z"⟩
abbrev cX12_pull : ByteArray := prog_14_method_49_code
def yX12_pull : MethodName := ⟨RX12, "pull", "(II)I"⟩
abbrev cX12_down : ByteArray := prog_14_method_50_code
def yX12_down : MethodName := ⟨RX12, "down", "(I)I"⟩
abbrev cX12_press : ByteArray := prog_14_method_51_code
def yX12_press : MethodName := ⟨RX12, "press", "(II)I"⟩
abbrev cX12_isFeast : ByteArray := prog_14_method_52_code
def yX12_isFeast : MethodName := ⟨RX12, "isFeast", "(I)Z"⟩
abbrev cX12_order : ByteArray := prog_14_method_53_code
def yX12_order : MethodName := ⟨RX12, "order", "(II)I"⟩
abbrev cX12_done : ByteArray := prog_14_method_54_code
def yX12_done : MethodName := ⟨RX12, "done", "(II)I"⟩
abbrev cX12_leaf : ByteArray := prog_14_method_55_code
def yX12_leaf : MethodName := ⟨RX12, "leaf", "(IIII)I"⟩
abbrev cX12_costs : ByteArray := prog_14_method_56_code
def yX12_costs : MethodName := ⟨RX12, "costs", "(I)I"⟩
abbrev cX12_shows : ByteArray := prog_14_method_57_code
def yX12_shows : MethodName := ⟨RX12, "shows", "(II)I"⟩
abbrev cX12_as : ByteArray := prog_14_method_58_code
def yX12_as : MethodName := ⟨RX12, "as", "(II)I"⟩
abbrev cX12_copies : ByteArray := prog_14_method_59_code
def yX12_copies : MethodName := ⟨RX12, "copies", "(I)I"⟩
abbrev cX12_state : ByteArray := prog_14_method_60_code
def yX12_state : MethodName := ⟨RX12, "state", "(I)I"⟩
abbrev cX12_follows : ByteArray := prog_14_method_61_code
def yX12_follows : MethodName := ⟨RX12, "follows", "(III)V"⟩
abbrev cX12_allowed : ByteArray := prog_14_method_62_code
def yX12_allowed : MethodName := ⟨RX12, "allowed", "(I)I"⟩
abbrev cX12_hand : ByteArray := prog_14_method_63_code
def yX12_hand : MethodName := ⟨RX12, "hand", "(I)I"⟩
abbrev cX12_apart : ByteArray := prog_14_method_64_code
def yX12_apart : MethodName := ⟨RX12, "apart", "(II)I"⟩
abbrev cX12_parts : ByteArray := prog_14_method_65_code
def yX12_parts : MethodName := ⟨RX12, "parts", "(II)V"⟩
abbrev cX12_rival : ByteArray := prog_14_method_66_code
def yX12_rival : MethodName := ⟨RX12, "rival", "(II)I"⟩
abbrev cX12_ahead : ByteArray := prog_14_method_67_code
def yX12_ahead : MethodName := ⟨RX12, "ahead", "(II)I"⟩
abbrev cX12_mayCome : ByteArray := prog_14_method_68_code
def yX12_mayCome : MethodName := ⟨RX12, "mayCome", "(III)Z"⟩
abbrev cX12_runs : ByteArray := prog_14_method_69_code
def yX12_runs : MethodName := ⟨RX12, "runs", "(II)I"⟩
abbrev cX12_loan : ByteArray := prog_14_method_70_code
def yX12_loan : MethodName := ⟨RX12, "loan", "(III)I"⟩
abbrev cX12_paidOn : ByteArray := prog_14_method_71_code
def yX12_paidOn : MethodName := ⟨RX12, "paidOn", "(II)I"⟩
abbrev cX12_pay : ByteArray := prog_14_method_72_code
def yX12_pay : MethodName := ⟨RX12, "pay", "(III)I"⟩
abbrev cX12_owe : ByteArray := prog_14_method_73_code
def yX12_owe : MethodName := ⟨RX12, "owe", "(II)I"⟩
abbrev cX12_thing : ByteArray := prog_14_method_74_code
def yX12_thing : MethodName := ⟨RX12, "thing", "(II)I"⟩
abbrev cX12_count1 : ByteArray := prog_14_method_75_code
def yX12_count1 : MethodName := ⟨RX12, "count1", "(I)I"⟩
abbrev cX12_suit : ByteArray := prog_14_method_76_code
def yX12_suit : MethodName := ⟨RX12, "suit", "(I)I"⟩
abbrev cX12_tried : ByteArray := prog_14_method_77_code
def yX12_tried : MethodName := ⟨RX12, "tried", "(II)I"⟩
abbrev cX12_image : ByteArray := prog_14_method_78_code
def yX12_image : MethodName := ⟨RX12, "image", "()I"⟩
abbrev cX12_undo : ByteArray := prog_14_method_79_code
def yX12_undo : MethodName := ⟨RX12, "undo", "()I"⟩
abbrev cX12_count : ByteArray := prog_14_method_80_code
def yX12_count : MethodName := ⟨RX12, "count", "(I)I"⟩
def RJx145de : String := "java/io/Serializable"
def TJx145de : u_T := fun k => match k with
  | _ => ("", "", "", false)
def tyJx145de : Nat → FieldType := fun k => match k with
  | _ => .int
abbrev wsJx145de0 : List Cond := u_ws RJx145de TJx145de 0
theorem nmJx145de : ∀ a, a < 0 → ∀ b, b < 0 → a ≠ b → (TJx145de a).2.1 ≠ (TJx145de b).2.1 := by decide +kernel
theorem tyJx145de_ok : ∀ k, k < 0 → parseFieldDescriptor (TJx145de k).2.2.1 = some (tyJx145de k) := by decide +kernel
def RJx9f9b0 : String := "java/lang/CharSequence"
def TJx9f9b0 : u_T := fun k => match k with
  | _ => ("", "", "", false)
def tyJx9f9b0 : Nat → FieldType := fun k => match k with
  | _ => .int
abbrev wsJx9f9b00 : List Cond := u_ws RJx9f9b0 TJx9f9b0 0
theorem nmJx9f9b0 : ∀ a, a < 0 → ∀ b, b < 0 → a ≠ b → (TJx9f9b0 a).2.1 ≠ (TJx9f9b0 b).2.1 := by decide +kernel
theorem tyJx9f9b0_ok : ∀ k, k < 0 → parseFieldDescriptor (TJx9f9b0 k).2.2.1 = some (tyJx9f9b0 k) := by decide +kernel
def RJx8e188 : String := "java/lang/Cloneable"
def TJx8e188 : u_T := fun k => match k with
  | _ => ("", "", "", false)
def tyJx8e188 : Nat → FieldType := fun k => match k with
  | _ => .int
abbrev wsJx8e1880 : List Cond := u_ws RJx8e188 TJx8e188 0
theorem nmJx8e188 : ∀ a, a < 0 → ∀ b, b < 0 → a ≠ b → (TJx8e188 a).2.1 ≠ (TJx8e188 b).2.1 := by decide +kernel
theorem tyJx8e188_ok : ∀ k, k < 0 → parseFieldDescriptor (TJx8e188 k).2.2.1 = some (tyJx8e188 k) := by decide +kernel
def RJxb160c : String := "java/lang/Comparable"
def TJxb160c : u_T := fun k => match k with
  | _ => ("", "", "", false)
def tyJxb160c : Nat → FieldType := fun k => match k with
  | _ => .int
abbrev wsJxb160c0 : List Cond := u_ws RJxb160c TJxb160c 0
theorem nmJxb160c : ∀ a, a < 0 → ∀ b, b < 0 → a ≠ b → (TJxb160c a).2.1 ≠ (TJxb160c b).2.1 := by decide +kernel
theorem tyJxb160c_ok : ∀ k, k < 0 → parseFieldDescriptor (TJxb160c k).2.2.1 = some (tyJxb160c k) := by decide +kernel
def RJ6 : String := "java/lang/Integer"
def TJ6 : u_T := fun k => match k with
  | _ => ("", "", "", false)
def tyJ6 : Nat → FieldType := fun k => match k with
  | _ => .int
abbrev wsJ60 : List Cond := u_ws RJ6 TJ6 0
theorem nmJ6 : ∀ a, a < 0 → ∀ b, b < 0 → a ≠ b → (TJ6 a).2.1 ≠ (TJ6 b).2.1 := by decide +kernel
theorem tyJ6_ok : ∀ k, k < 0 → parseFieldDescriptor (TJ6 k).2.2.1 = some (tyJ6 k) := by decide +kernel
abbrev cJ6_compare_7cf53 : ByteArray := prog_19_method_40_code
def yJ6_compare_7cf53 : MethodName := ⟨RJ6, "compare", "(II)I"⟩
abbrev cJ6_numberOfTrailingZeros_0f7a4 : ByteArray := prog_19_method_48_code
def yJ6_numberOfTrailingZeros_0f7a4 : MethodName := ⟨RJ6, "numberOfTrailingZeros", "(I)I"⟩
abbrev cJ6_bitCount_0f7a4 : ByteArray := prog_19_method_49_code
def yJ6_bitCount_0f7a4 : MethodName := ⟨RJ6, "bitCount", "(I)I"⟩
def RJxab1ab : String := "java/lang/Iterable"
def TJxab1ab : u_T := fun k => match k with
  | _ => ("", "", "", false)
def tyJxab1ab : Nat → FieldType := fun k => match k with
  | _ => .int
abbrev wsJxab1ab0 : List Cond := u_ws RJxab1ab TJxab1ab 0
theorem nmJxab1ab : ∀ a, a < 0 → ∀ b, b < 0 → a ≠ b → (TJxab1ab a).2.1 ≠ (TJxab1ab b).2.1 := by decide +kernel
theorem tyJxab1ab_ok : ∀ k, k < 0 → parseFieldDescriptor (TJxab1ab k).2.2.1 = some (tyJxab1ab k) := by decide +kernel
def RJ9 : String := "java/lang/Math"
def TJ9 : u_T := fun k => match k with
  | _ => ("", "", "", false)
def tyJ9 : Nat → FieldType := fun k => match k with
  | _ => .int
abbrev wsJ90 : List Cond := u_ws RJ9 TJ9 0
theorem nmJ9 : ∀ a, a < 0 → ∀ b, b < 0 → a ≠ b → (TJ9 a).2.1 ≠ (TJ9 b).2.1 := by decide +kernel
theorem tyJ9_ok : ∀ k, k < 0 → parseFieldDescriptor (TJ9 k).2.2.1 = some (tyJ9 k) := by decide +kernel
abbrev cJ9_floorMod_7cf53 : ByteArray := prog_21_method_50_code
def yJ9_floorMod_7cf53 : MethodName := ⟨RJ9, "floorMod", "(II)I"⟩
abbrev cJ9_abs_0f7a4 : ByteArray := prog_21_method_59_code
def yJ9_abs_0f7a4 : MethodName := ⟨RJ9, "abs", "(I)I"⟩
abbrev cJ9_max_7cf53 : ByteArray := prog_21_method_65_code
def yJ9_max_7cf53 : MethodName := ⟨RJ9, "max", "(II)I"⟩
abbrev cJ9_min_7cf53 : ByteArray := prog_21_method_69_code
def yJ9_min_7cf53 : MethodName := ⟨RJ9, "min", "(II)I"⟩
def RJ0 : String := "java/lang/String"
def TJ0 : u_T := fun k => match k with
  | _ => ("", "", "", false)
def tyJ0 : Nat → FieldType := fun k => match k with
  | _ => .int
abbrev wsJ00 : List Cond := u_ws RJ0 TJ0 0
theorem nmJ0 : ∀ a, a < 0 → ∀ b, b < 0 → a ≠ b → (TJ0 a).2.1 ≠ (TJ0 b).2.1 := by decide +kernel
theorem tyJ0_ok : ∀ k, k < 0 → parseFieldDescriptor (TJ0 k).2.2.1 = some (tyJ0 k) := by decide +kernel
abbrev cJ0_length_8abf5 : ByteArray := prog_22_method_54_code
def yJ0_length_8abf5 : MethodName := ⟨RJ0, "length", "()I"⟩
abbrev cJ0_charAt_5068e : ByteArray := prog_22_method_56_code
def yJ0_charAt_5068e : MethodName := ⟨RJ0, "charAt", "(I)C"⟩
abbrev cJ0_coder_7d493 : ByteArray := prog_22_method_152_code
def yJ0_coder_7d493 : MethodName := ⟨RJ0, "coder", "()B"⟩
abbrev cJ0_isLatin1_aae02 : ByteArray := prog_22_method_154_code
def yJ0_isLatin1_aae02 : MethodName := ⟨RJ0, "isLatin1", "()Z"⟩
abbrev cJ0_checkIndex_df160 : ByteArray := prog_22_method_155_code
def yJ0_checkIndex_df160 : MethodName := ⟨RJ0, "checkIndex", "(II)V"⟩
def RJ1 : String := "java/lang/StringLatin1"
def TJ1 : u_T := fun k => match k with
  | _ => ("", "", "", false)
def tyJ1 : Nat → FieldType := fun k => match k with
  | _ => .int
abbrev wsJ10 : List Cond := u_ws RJ1 TJ1 0
theorem nmJ1 : ∀ a, a < 0 → ∀ b, b < 0 → a ≠ b → (TJ1 a).2.1 ≠ (TJ1 b).2.1 := by decide +kernel
theorem tyJ1_ok : ∀ k, k < 0 → parseFieldDescriptor (TJ1 k).2.2.1 = some (tyJ1 k) := by decide +kernel
abbrev cJ1_charAt_3b067 : ByteArray := prog_23_method_2_code
def yJ1_charAt_3b067 : MethodName := ⟨RJ1, "charAt", "([BI)C"⟩
def RJ2 : String := "java/lang/StringUTF16"
def TJ2 : u_T := fun k => match k with
  | _ => ("", "", "", false)
def tyJ2 : Nat → FieldType := fun k => match k with
  | _ => .int
abbrev wsJ20 : List Cond := u_ws RJ2 TJ2 0
theorem nmJ2 : ∀ a, a < 0 → ∀ b, b < 0 → a ≠ b → (TJ2 a).2.1 ≠ (TJ2 b).2.1 := by decide +kernel
theorem tyJ2_ok : ∀ k, k < 0 → parseFieldDescriptor (TJ2 k).2.2.1 = some (tyJ2 k) := by decide +kernel
abbrev cJ2_getChar_3b067 : ByteArray := prog_24_method_5_code
def yJ2_getChar_3b067 : MethodName := ⟨RJ2, "getChar", "([BI)C"⟩
abbrev cJ2_length_9d52b : ByteArray := prog_24_method_6_code
def yJ2_length_9d52b : MethodName := ⟨RJ2, "length", "([B)I"⟩
abbrev cJ2_charAt_3b067 : ByteArray := prog_24_method_83_code
def yJ2_charAt_3b067 : MethodName := ⟨RJ2, "charAt", "([BI)C"⟩
abbrev cJ2_checkIndex_2214a : ByteArray := prog_24_method_91_code
def yJ2_checkIndex_2214a : MethodName := ⟨RJ2, "checkIndex", "(I[B)V"⟩
def RJ10 : String := "java/lang/System"
def TJ10 : u_T := fun k => match k with
  | _ => ("", "", "", false)
def tyJ10 : Nat → FieldType := fun k => match k with
  | _ => .int
abbrev wsJ100 : List Cond := u_ws RJ10 TJ10 0
theorem nmJ10 : ∀ a, a < 0 → ∀ b, b < 0 → a ≠ b → (TJ10 a).2.1 ≠ (TJ10 b).2.1 := by decide +kernel
theorem tyJ10_ok : ∀ k, k < 0 → parseFieldDescriptor (TJ10 k).2.2.1 = some (tyJ10 k) := by decide +kernel
def RJxfd54e : String := "java/lang/constant/Constable"
def TJxfd54e : u_T := fun k => match k with
  | _ => ("", "", "", false)
def tyJxfd54e : Nat → FieldType := fun k => match k with
  | _ => .int
abbrev wsJxfd54e0 : List Cond := u_ws RJxfd54e TJxfd54e 0
theorem nmJxfd54e : ∀ a, a < 0 → ∀ b, b < 0 → a ≠ b → (TJxfd54e a).2.1 ≠ (TJxfd54e b).2.1 := by decide +kernel
theorem tyJxfd54e_ok : ∀ k, k < 0 → parseFieldDescriptor (TJxfd54e k).2.2.1 = some (tyJxfd54e k) := by decide +kernel
def RJx3cf43 : String := "java/lang/constant/ConstantDesc"
def TJx3cf43 : u_T := fun k => match k with
  | _ => ("", "", "", false)
def tyJx3cf43 : Nat → FieldType := fun k => match k with
  | _ => .int
abbrev wsJx3cf430 : List Cond := u_ws RJx3cf43 TJx3cf43 0
theorem nmJx3cf43 : ∀ a, a < 0 → ∀ b, b < 0 → a ≠ b → (TJx3cf43 a).2.1 ≠ (TJx3cf43 b).2.1 := by decide +kernel
theorem tyJx3cf43_ok : ∀ k, k < 0 → parseFieldDescriptor (TJx3cf43 k).2.2.1 = some (tyJx3cf43 k) := by decide +kernel
def RJxa1e45 : String := "java/util/AbstractCollection"
def TJxa1e45 : u_T := fun k => match k with
  | _ => ("", "", "", false)
def tyJxa1e45 : Nat → FieldType := fun k => match k with
  | _ => .int
abbrev wsJxa1e450 : List Cond := u_ws RJxa1e45 TJxa1e45 0
theorem nmJxa1e45 : ∀ a, a < 0 → ∀ b, b < 0 → a ≠ b → (TJxa1e45 a).2.1 ≠ (TJxa1e45 b).2.1 := by decide +kernel
theorem tyJxa1e45_ok : ∀ k, k < 0 → parseFieldDescriptor (TJxa1e45 k).2.2.1 = some (tyJxa1e45 k) := by decide +kernel
abbrev cJxa1e45_init_da8c8 : ByteArray := prog_28_method_1_code
def yJxa1e45_init_da8c8 : MethodName := ⟨RJxa1e45, "<init>", "()V"⟩
def RJxc12de : String := "java/util/AbstractList"
def TJxc12de : u_T := fun k => match k with
  | _ => ("", "", "", false)
def tyJxc12de : Nat → FieldType := fun k => match k with
  | _ => .int
abbrev wsJxc12de0 : List Cond := u_ws RJxc12de TJxc12de 0
theorem nmJxc12de : ∀ a, a < 0 → ∀ b, b < 0 → a ≠ b → (TJxc12de a).2.1 ≠ (TJxc12de b).2.1 := by decide +kernel
theorem tyJxc12de_ok : ∀ k, k < 0 → parseFieldDescriptor (TJxc12de k).2.2.1 = some (tyJxc12de k) := by decide +kernel
abbrev cJxc12de_init_da8c8 : ByteArray := prog_29_method_1_code
def yJxc12de_init_da8c8 : MethodName := ⟨RJxc12de, "<init>", "()V"⟩
def RJx4a65c : String := "java/util/ArrayList"
def TJx4a65c : u_T := fun k => match k with
  | 0 => ("java/util/AbstractList", "modCount", "I", false)
  | 1 => ("java/util/ArrayList", "elementData", "[Ljava/lang/Object;", false)
  | _ => ("java/util/ArrayList", "size", "I", false)
def tyJx4a65c : Nat → FieldType := fun k => match k with
  | 0 => .int
  | 1 => .array (.object "java/lang/Object")
  | _ => .int
abbrev wsJx4a65c0 : List Cond := u_ws RJx4a65c TJx4a65c 3
theorem nmJx4a65c : ∀ a, a < 3 → ∀ b, b < 3 → a ≠ b → (TJx4a65c a).2.1 ≠ (TJx4a65c b).2.1 := by decide +kernel
theorem tyJx4a65c_ok : ∀ k, k < 3 → parseFieldDescriptor (TJx4a65c k).2.2.1 = some (tyJx4a65c k) := by decide +kernel
abbrev cJx4a65c_init_da8c8 : ByteArray := prog_30_method_2_code
def yJx4a65c_init_da8c8 : MethodName := ⟨RJx4a65c, "<init>", "()V"⟩
abbrev cJx4a65c_grow_92f84 : ByteArray := prog_30_method_6_code
def yJx4a65c_grow_92f84 : MethodName := ⟨RJx4a65c, "grow", "(I)[Ljava/lang/Object;"⟩
abbrev cJx4a65c_grow_d5877 : ByteArray := prog_30_method_7_code
def yJx4a65c_grow_d5877 : MethodName := ⟨RJx4a65c, "grow", "()[Ljava/lang/Object;"⟩
abbrev cJx4a65c_size_8abf5 : ByteArray := prog_30_method_8_code
def yJx4a65c_size_8abf5 : MethodName := ⟨RJx4a65c, "size", "()I"⟩
abbrev cJx4a65c_elementData_915e3 : ByteArray := prog_30_method_18_code
def yJx4a65c_elementData_915e3 : MethodName := ⟨RJx4a65c, "elementData", "(I)Ljava/lang/Object;"⟩
abbrev cJx4a65c_get_915e3 : ByteArray := prog_30_method_20_code
def yJx4a65c_get_915e3 : MethodName := ⟨RJx4a65c, "get", "(I)Ljava/lang/Object;"⟩
abbrev cJx4a65c_add_72be8 : ByteArray := prog_30_method_24_code
def yJx4a65c_add_72be8 : MethodName := ⟨RJx4a65c, "add", "(Ljava/lang/Object;[Ljava/lang/Object;I)V"⟩
abbrev cJx4a65c_add_9ea2d : ByteArray := prog_30_method_25_code
def yJx4a65c_add_9ea2d : MethodName := ⟨RJx4a65c, "add", "(Ljava/lang/Object;)Z"⟩
def RJ7 : String := "java/util/Arrays"
def TJ7 : u_T := fun k => match k with
  | _ => ("", "", "", false)
def tyJ7 : Nat → FieldType := fun k => match k with
  | _ => .int
abbrev wsJ70 : List Cond := u_ws RJ7 TJ7 0
theorem nmJ7 : ∀ a, a < 0 → ∀ b, b < 0 → a ≠ b → (TJ7 a).2.1 ≠ (TJ7 b).2.1 := by decide +kernel
theorem tyJ7_ok : ∀ k, k < 0 → parseFieldDescriptor (TJ7 k).2.2.1 = some (tyJ7 k) := by decide +kernel
abbrev cJ7_copyOf_1904c : ByteArray := prog_31_method_119_code
def yJ7_copyOf_1904c : MethodName := ⟨RJ7, "copyOf", "([Ljava/lang/Object;I)[Ljava/lang/Object;"⟩
abbrev cJ7_copyOf_6403c : ByteArray := prog_31_method_120_code
def yJ7_copyOf_6403c : MethodName := ⟨RJ7, "copyOf", "([Ljava/lang/Object;ILjava/lang/Class;)[Ljava/lang/Object;"⟩
def RJx5ef63 : String := "java/util/Collection"
def TJx5ef63 : u_T := fun k => match k with
  | _ => ("", "", "", false)
def tyJx5ef63 : Nat → FieldType := fun k => match k with
  | _ => .int
abbrev wsJx5ef630 : List Cond := u_ws RJx5ef63 TJx5ef63 0
theorem nmJx5ef63 : ∀ a, a < 0 → ∀ b, b < 0 → a ≠ b → (TJx5ef63 a).2.1 ≠ (TJx5ef63 b).2.1 := by decide +kernel
theorem tyJx5ef63_ok : ∀ k, k < 0 → parseFieldDescriptor (TJx5ef63 k).2.2.1 = some (tyJx5ef63 k) := by decide +kernel
def RJxbd725 : String := "java/util/List"
def TJxbd725 : u_T := fun k => match k with
  | _ => ("", "", "", false)
def tyJxbd725 : Nat → FieldType := fun k => match k with
  | _ => .int
abbrev wsJxbd7250 : List Cond := u_ws RJxbd725 TJxbd725 0
theorem nmJxbd725 : ∀ a, a < 0 → ∀ b, b < 0 → a ≠ b → (TJxbd725 a).2.1 ≠ (TJxbd725 b).2.1 := by decide +kernel
theorem tyJxbd725_ok : ∀ k, k < 0 → parseFieldDescriptor (TJxbd725 k).2.2.1 = some (tyJxbd725 k) := by decide +kernel
def RJ15 : String := "java/util/Objects"
def TJ15 : u_T := fun k => match k with
  | _ => ("", "", "", false)
def tyJ15 : Nat → FieldType := fun k => match k with
  | _ => .int
abbrev wsJ150 : List Cond := u_ws RJ15 TJ15 0
theorem nmJ15 : ∀ a, a < 0 → ∀ b, b < 0 → a ≠ b → (TJ15 a).2.1 ≠ (TJ15 b).2.1 := by decide +kernel
theorem tyJ15_ok : ∀ k, k < 0 → parseFieldDescriptor (TJ15 k).2.2.1 = some (tyJ15 k) := by decide +kernel
abbrev cJ15_checkIndex_7cf53 : ByteArray := prog_34_method_17_code
def yJ15_checkIndex_7cf53 : MethodName := ⟨RJ15, "checkIndex", "(II)I"⟩
def RJxf0a74 : String := "java/util/RandomAccess"
def TJxf0a74 : u_T := fun k => match k with
  | _ => ("", "", "", false)
def tyJxf0a74 : Nat → FieldType := fun k => match k with
  | _ => .int
abbrev wsJxf0a740 : List Cond := u_ws RJxf0a74 TJxf0a74 0
theorem nmJxf0a74 : ∀ a, a < 0 → ∀ b, b < 0 → a ≠ b → (TJxf0a74 a).2.1 ≠ (TJxf0a74 b).2.1 := by decide +kernel
theorem tyJxf0a74_ok : ∀ k, k < 0 → parseFieldDescriptor (TJxf0a74 k).2.2.1 = some (tyJxf0a74 k) := by decide +kernel
def RJxa66e6 : String := "java/util/SequencedCollection"
def TJxa66e6 : u_T := fun k => match k with
  | _ => ("", "", "", false)
def tyJxa66e6 : Nat → FieldType := fun k => match k with
  | _ => .int
abbrev wsJxa66e60 : List Cond := u_ws RJxa66e6 TJxa66e6 0
theorem nmJxa66e6 : ∀ a, a < 0 → ∀ b, b < 0 → a ≠ b → (TJxa66e6 a).2.1 ≠ (TJxa66e6 b).2.1 := by decide +kernel
theorem tyJxa66e6_ok : ∀ k, k < 0 → parseFieldDescriptor (TJxa66e6 k).2.2.1 = some (tyJxa66e6 k) := by decide +kernel
def RJ8 : String := "jdk/internal/util/ArraysSupport"
def TJ8 : u_T := fun k => match k with
  | _ => ("", "", "", false)
def tyJ8 : Nat → FieldType := fun k => match k with
  | _ => .int
abbrev wsJ80 : List Cond := u_ws RJ8 TJ8 0
theorem nmJ8 : ∀ a, a < 0 → ∀ b, b < 0 → a ≠ b → (TJ8 a).2.1 ≠ (TJ8 b).2.1 := by decide +kernel
theorem tyJ8_ok : ∀ k, k < 0 → parseFieldDescriptor (TJ8 k).2.2.1 = some (tyJ8 k) := by decide +kernel
abbrev cJ8_newLength_cabcc : ByteArray := prog_37_method_27_code
def yJ8_newLength_cabcc : MethodName := ⟨RJ8, "newLength", "(III)I"⟩
abbrev cJ8_hugeLength_7cf53 : ByteArray := prog_37_method_28_code
def yJ8_hugeLength_7cf53 : MethodName := ⟨RJ8, "hugeLength", "(II)I"⟩
def RJ3 : String := "jdk/internal/util/Preconditions"
def TJ3 : u_T := fun k => match k with
  | _ => ("", "", "", false)
def tyJ3 : Nat → FieldType := fun k => match k with
  | _ => .int
abbrev wsJ30 : List Cond := u_ws RJ3 TJ3 0
theorem nmJ3 : ∀ a, a < 0 → ∀ b, b < 0 → a ≠ b → (TJ3 a).2.1 ≠ (TJ3 b).2.1 := by decide +kernel
theorem tyJ3_ok : ∀ k, k < 0 → parseFieldDescriptor (TJ3 k).2.2.1 = some (tyJ3 k) := by decide +kernel
abbrev cJ3_checkIndex_8e157 : ByteArray := prog_38_method_11_code
def yJ3_checkIndex_8e157 : MethodName := ⟨RJ3, "checkIndex", "(IILjava/util/function/BiFunction;)I"⟩
def RL : String := "LeadLettersLaw"
abbrev cL_law : ByteArray := code
def yL_law : MethodName := ⟨RL, "law", "([I)Z"⟩
abbrev vwCl : List vw_C := [(RJx4a65c, TJx4a65c, 3), (RX0, TX0, 8), (RX1, TX1, 10), (RX2, TX2, 5), (RX3, TX3, 7), (RX4, TX4, 5), (RX5, TX5, 2), (RX6, TX6, 16), (RX7, TX7, 2), (RX8, TX8, 6), (RX9, TX9, 2), (RX10, TX10, 10), (RX11, TX11, 13), (RX12, TX12, 30)]
