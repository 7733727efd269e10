section
def RX0 : String := "EvenTables$Choices"
def TX0 : u_T := fun k => match k with
  | 0 => ("EvenTables$Choices", "columns", "[I", true)
  | 1 => ("EvenTables$Choices", "values", "[J", true)
  | 2 => ("EvenTables$Choices", "leadsNowhere", "[I", true)
  | _ => ("EvenTables$Choices", "search", "I", false)
def tyX0 : Nat → FieldType := fun k => match k with
  | 0 => .array .int
  | 1 => .array .long
  | 2 => .array .int
  | _ => .int
theorem nmX0 : ∀ a, a < 4 → ∀ b, b < 4 → a ≠ b → (TX0 a).2.1 ≠ (TX0 b).2.1 := by decide +kernel
theorem tyX0_ok : ∀ k, k < 4 → parseFieldDescriptor (TX0 k).2.2.1 = some (tyX0 k) := by decide +kernel
abbrev cX0_init : ByteArray := prog_2_method_1_code
def yX0_init : MethodName := ⟨RX0, "<init>", "()V"⟩
abbrev cX0_findFirst : ByteArray := prog_2_method_2_code
def yX0_findFirst : MethodName := ⟨RX0, "findFirst", "(JI)Z"⟩
abbrev cX0_nextColumn : ByteArray := prog_2_method_3_code
def yX0_nextColumn : MethodName := ⟨RX0, "nextColumn", "(IIII)I"⟩
abbrev cX0_greatestLeast : ByteArray := prog_2_method_4_code
def yX0_greatestLeast : MethodName := ⟨RX0, "greatestLeast", "([IJI)J"⟩
abbrev cX0_findRichest : ByteArray := prog_2_method_5_code
def yX0_findRichest : MethodName := ⟨RX0, "findRichest", "([IJI)J"⟩
abbrev cX0_sumUp : ByteArray := prog_2_method_6_code
def yX0_sumUp : MethodName := ⟨RX0, "sumUp", "([IJI)V"⟩
abbrev cX0_richestColumn : ByteArray := prog_2_method_7_code
def yX0_richestColumn : MethodName := ⟨RX0, "richestColumn", "([IIIII)I"⟩
abbrev cX0_countAll : ByteArray := prog_2_method_8_code
def yX0_countAll : MethodName := ⟨RX0, "countAll", "(JI)J"⟩
abbrev cX0_multiplyAll : ByteArray := prog_2_method_9_code
def yX0_multiplyAll : MethodName := ⟨RX0, "multiplyAll", "([II)J"⟩
abbrev cX0_multiplySet : ByteArray := prog_2_method_10_code
def yX0_multiplySet : MethodName := ⟨RX0, "multiplySet", "([III)J"⟩
def RX1 : String := "EvenTables$Joins"
abbrev cX1_of : ByteArray := prog_3_method_2_code
def yX1_of : MethodName := ⟨RX1, "of", "([III)J"⟩
abbrev cX1_rowOf : ByteArray := prog_3_method_3_code
def yX1_rowOf : MethodName := ⟨RX1, "rowOf", "(JI)I"⟩
abbrev cX1_through : ByteArray := prog_3_method_4_code
def yX1_through : MethodName := ⟨RX1, "through", "(JII)J"⟩
abbrev cX1_columnsOf : ByteArray := prog_3_method_5_code
def yX1_columnsOf : MethodName := ⟨RX1, "columnsOf", "(JII)I"⟩
abbrev cX1_rowsOf : ByteArray := prog_3_method_6_code
def yX1_rowsOf : MethodName := ⟨RX1, "rowsOf", "(JII)I"⟩
abbrev cX1_countGroups : ByteArray := prog_3_method_7_code
def yX1_countGroups : MethodName := ⟨RX1, "countGroups", "(JI)I"⟩
abbrev cX1_groupOf : ByteArray := prog_3_method_8_code
def yX1_groupOf : MethodName := ⟨RX1, "groupOf", "(JII)I"⟩
abbrev cX1_rowsMostLacking : ByteArray := prog_3_method_9_code
def yX1_rowsMostLacking : MethodName := ⟨RX1, "rowsMostLacking", "(JI)I"⟩
abbrev cX1_kinOf : ByteArray := prog_3_method_10_code
def yX1_kinOf : MethodName := ⟨RX1, "kinOf", "(JII)I"⟩
abbrev cX1_reachedFrom : ByteArray := prog_3_method_11_code
def yX1_reachedFrom : MethodName := ⟨RX1, "reachedFrom", "(JII)I"⟩
abbrev cX1_leastFullPower : ByteArray := prog_3_method_12_code
def yX1_leastFullPower : MethodName := ⟨RX1, "leastFullPower", "(JJI)I"⟩
abbrev cX1_product : ByteArray := prog_3_method_13_code
def yX1_product : MethodName := ⟨RX1, "product", "(JJI)J"⟩
def RX2 : String := "EvenTables$Maker"
def TX2 : u_T := fun k => match k with
  | _ => ("EvenTables$Maker", "sums", "[J", true)
def tyX2 : Nat → FieldType := fun k => match k with
  | _ => .array .long
theorem nmX2 : ∀ a, a < 1 → ∀ b, b < 1 → a ≠ b → (TX2 a).2.1 ≠ (TX2 b).2.1 := by decide +kernel
theorem tyX2_ok : ∀ k, k < 1 → parseFieldDescriptor (TX2 k).2.2.1 = some (tyX2 k) := by decide +kernel
abbrev cX2_init : ByteArray := prog_4_method_1_code
def yX2_init : MethodName := ⟨RX2, "<init>", "()V"⟩
abbrev cX2_makeMixture : ByteArray := prog_4_method_2_code
def yX2_makeMixture : MethodName := ⟨RX2, "makeMixture", "(LEvenTables$Table;IILEvenTables$Table;IILEvenTables$Table;)Z"⟩
abbrev cX2_multiplied : ByteArray := prog_4_method_3_code
def yX2_multiplied : MethodName := ⟨RX2, "multiplied", "(JJ)J"⟩
abbrev cX2_makeProduct : ByteArray := prog_4_method_4_code
def yX2_makeProduct : MethodName := ⟨RX2, "makeProduct", "(LEvenTables$Table;LEvenTables$Table;LEvenTables$Table;)Z"⟩
abbrev cX2_makeTurned : ByteArray := prog_4_method_5_code
def yX2_makeTurned : MethodName := ⟨RX2, "makeTurned", "(LEvenTables$Table;IILEvenTables$Table;)Z"⟩
abbrev cX2_turnedFrom : ByteArray := prog_4_method_6_code
def yX2_turnedFrom : MethodName := ⟨RX2, "turnedFrom", "(IZZII)I"⟩
abbrev cX2_bring : ByteArray := prog_4_method_7_code
def yX2_bring : MethodName := ⟨RX2, "bring", "(JILEvenTables$Table;)Z"⟩
abbrev cX2_sharedDivisor : ByteArray := prog_4_method_8_code
def yX2_sharedDivisor : MethodName := ⟨RX2, "sharedDivisor", "(JI)J"⟩
abbrev cX2_areCells : ByteArray := prog_4_method_9_code
def yX2_areCells : MethodName := ⟨RX2, "areCells", "(JI)Z"⟩
def RX3 : String := "EvenTables$Mixture"
def TX3 : u_T := fun k => match k with
  | 0 => ("EvenTables$Mixture", "weights", "[I", true)
  | 1 => ("EvenTables$Mixture", "columns", "[I", true)
  | 2 => ("EvenTables$Mixture", "kind", "I", false)
  | 3 => ("EvenTables$Mixture", "n", "I", false)
  | 4 => ("EvenTables$Mixture", "rows", "I", false)
  | 5 => ("EvenTables$Mixture", "size", "I", false)
  | _ => ("EvenTables$Mixture", "whole", "I", false)
def tyX3 : Nat → FieldType := fun k => match k with
  | 0 => .array .int
  | 1 => .array .int
  | 2 => .int
  | 3 => .int
  | 4 => .int
  | 5 => .int
  | _ => .int
theorem nmX3 : ∀ a, a < 7 → ∀ b, b < 7 → a ≠ b → (TX3 a).2.1 ≠ (TX3 b).2.1 := by decide +kernel
theorem tyX3_ok : ∀ k, k < 7 → parseFieldDescriptor (TX3 k).2.2.1 = some (tyX3 k) := by decide +kernel
abbrev cX3_init : ByteArray := prog_5_method_1_code
def yX3_init : MethodName := ⟨RX3, "<init>", "()V"⟩
abbrev cX3_start : ByteArray := prog_5_method_2_code
def yX3_start : MethodName := ⟨RX3, "start", "(IIII)V"⟩
abbrev cX3_add : ByteArray := prog_5_method_3_code
def yX3_add : MethodName := ⟨RX3, "add", "(I[I)V"⟩
abbrev cX3_hasPart : ByteArray := prog_5_method_4_code
def yX3_hasPart : MethodName := ⟨RX3, "hasPart", "(I)Z"⟩
abbrev cX3_hasRow : ByteArray := prog_5_method_5_code
def yX3_hasRow : MethodName := ⟨RX3, "hasRow", "(I)Z"⟩
abbrev cX3_hasJob : ByteArray := prog_5_method_6_code
def yX3_hasJob : MethodName := ⟨RX3, "hasJob", "(I)Z"⟩
abbrev cX3_columnOf : ByteArray := prog_5_method_7_code
def yX3_columnOf : MethodName := ⟨RX3, "columnOf", "(II)I"⟩
abbrev cX3_inLeastTerms : ByteArray := prog_5_method_8_code
def yX3_inLeastTerms : MethodName := ⟨RX3, "inLeastTerms", "(IZ)I"⟩
abbrev cX3_partAt : ByteArray := prog_5_method_9_code
def yX3_partAt : MethodName := ⟨RX3, "partAt", "(I)I"⟩
abbrev cX3_weightOfBoth : ByteArray := prog_5_method_10_code
def yX3_weightOfBoth : MethodName := ⟨RX3, "weightOfBoth", "(IIII)I"⟩
abbrev cX3_weightOf : ByteArray := prog_5_method_11_code
def yX3_weightOf : MethodName := ⟨RX3, "weightOf", "(II)I"⟩
abbrev cX3_commonestColumn : ByteArray := prog_5_method_12_code
def yX3_commonestColumn : MethodName := ⟨RX3, "commonestColumn", "(I)I"⟩
abbrev cX3_countColumns : ByteArray := prog_5_method_13_code
def yX3_countColumns : MethodName := ⟨RX3, "countColumns", "(I)I"⟩
abbrev cX3_machineOf : ByteArray := prog_5_method_14_code
def yX3_machineOf : MethodName := ⟨RX3, "machineOf", "(II)I"⟩
abbrev cX3_lastHour : ByteArray := prog_5_method_15_code
def yX3_lastHour : MethodName := ⟨RX3, "lastHour", "(I)I"⟩
abbrev cX3_countPieces : ByteArray := prog_5_method_16_code
def yX3_countPieces : MethodName := ⟨RX3, "countPieces", "(I)I"⟩
abbrev cX3_countMoves : ByteArray := prog_5_method_17_code
def yX3_countMoves : MethodName := ⟨RX3, "countMoves", "(I)I"⟩
def RX4 : String := "EvenTables$Numbers"
abbrev cX4_greatestDivisor : ByteArray := prog_6_method_2_code
def yX4_greatestDivisor : MethodName := ⟨RX4, "greatestDivisor", "(JJ)J"⟩
abbrev cX4_leastMultiple : ByteArray := prog_6_method_3_code
def yX4_leastMultiple : MethodName := ⟨RX4, "leastMultiple", "(JJJ)J"⟩
def RX5 : String := "EvenTables$Peeler"
def TX5 : u_T := fun k => match k with
  | 0 => ("EvenTables$Peeler", "choices", "LEvenTables$Choices;", true)
  | 1 => ("EvenTables$Peeler", "cells", "[I", true)
  | 2 => ("EvenTables$Peeler", "n", "I", false)
  | 3 => ("EvenTables$Peeler", "left", "I", false)
  | 4 => ("EvenTables$Peeler", "parts", "I", false)
  | _ => ("EvenTables$Peeler", "weight", "I", false)
def tyX5 : Nat → FieldType := fun k => match k with
  | 0 => .object "EvenTables$Choices"
  | 1 => .array .int
  | 2 => .int
  | 3 => .int
  | 4 => .int
  | _ => .int
theorem nmX5 : ∀ a, a < 6 → ∀ b, b < 6 → a ≠ b → (TX5 a).2.1 ≠ (TX5 b).2.1 := by decide +kernel
theorem tyX5_ok : ∀ k, k < 6 → parseFieldDescriptor (TX5 k).2.2.1 = some (tyX5 k) := by decide +kernel
abbrev cX5_init : ByteArray := prog_7_method_1_code
def yX5_init : MethodName := ⟨RX5, "<init>", "(LEvenTables$Choices;)V"⟩
abbrev cX5_startTable : ByteArray := prog_7_method_2_code
def yX5_startTable : MethodName := ⟨RX5, "startTable", "(LEvenTables$Table;)V"⟩
abbrev cX5_startShop : ByteArray := prog_7_method_3_code
def yX5_startShop : MethodName := ⟨RX5, "startShop", "(LEvenTables$Table;)V"⟩
abbrev cX5_startLike : ByteArray := prog_7_method_4_code
def yX5_startLike : MethodName := ⟨RX5, "startLike", "(LEvenTables$Peeler;)V"⟩
abbrev cX5_takePart : ByteArray := prog_7_method_5_code
def yX5_takePart : MethodName := ⟨RX5, "takePart", "(I)V"⟩
abbrev cX5_choose : ByteArray := prog_7_method_6_code
def yX5_choose : MethodName := ⟨RX5, "choose", "(I)Z"⟩
abbrev cX5_leastPlace : ByteArray := prog_7_method_7_code
def yX5_leastPlace : MethodName := ⟨RX5, "leastPlace", "()I"⟩
abbrev cX5_choiceNumber : ByteArray := prog_7_method_8_code
def yX5_choiceNumber : MethodName := ⟨RX5, "choiceNumber", "()I"⟩
def RX6 : String := "EvenTables$Rounder"
def TX6 : u_T := fun k => match k with
  | 0 => ("EvenTables$Rounder", "flow", "[I", true)
  | 1 => ("EvenTables$Rounder", "low", "[I", true)
  | 2 => ("EvenTables$Rounder", "high", "[I", true)
  | 3 => ("EvenTables$Rounder", "before", "[I", true)
  | _ => ("EvenTables$Rounder", "queue", "[I", true)
def tyX6 : Nat → FieldType := fun k => match k with
  | 0 => .array .int
  | 1 => .array .int
  | 2 => .array .int
  | 3 => .array .int
  | _ => .array .int
theorem nmX6 : ∀ a, a < 5 → ∀ b, b < 5 → a ≠ b → (TX6 a).2.1 ≠ (TX6 b).2.1 := by decide +kernel
theorem tyX6_ok : ∀ k, k < 5 → parseFieldDescriptor (TX6 k).2.2.1 = some (tyX6 k) := by decide +kernel
abbrev cX6_init : ByteArray := prog_8_method_1_code
def yX6_init : MethodName := ⟨RX6, "<init>", "()V"⟩
abbrev cX6_round : ByteArray := prog_8_method_2_code
def yX6_round : MethodName := ⟨RX6, "round", "(LEvenTables$Table;)V"⟩
abbrev cX6_lay : ByteArray := prog_8_method_3_code
def yX6_lay : MethodName := ⟨RX6, "lay", "(LEvenTables$Table;)V"⟩
abbrev cX6_setBounds : ByteArray := prog_8_method_4_code
def yX6_setBounds : MethodName := ⟨RX6, "setBounds", "(IIII)V"⟩
abbrev cX6_meetLows : ByteArray := prog_8_method_5_code
def yX6_meetLows : MethodName := ⟨RX6, "meetLows", "(I)V"⟩
abbrev cX6_meetLow : ByteArray := prog_8_method_6_code
def yX6_meetLow : MethodName := ⟨RX6, "meetLow", "(II)V"⟩
abbrev cX6_lessen : ByteArray := prog_8_method_7_code
def yX6_lessen : MethodName := ⟨RX6, "lessen", "(I)J"⟩
abbrev cX6_findWay : ByteArray := prog_8_method_8_code
def yX6_findWay : MethodName := ⟨RX6, "findWay", "(II)Z"⟩
abbrev cX6_isOpen : ByteArray := prog_8_method_9_code
def yX6_isOpen : MethodName := ⟨RX6, "isOpen", "(II)Z"⟩
abbrev cX6_flowAlong : ByteArray := prog_8_method_10_code
def yX6_flowAlong : MethodName := ⟨RX6, "flowAlong", "(II)V"⟩
def RX7 : String := "EvenTables$Seeker"
def TX7 : u_T := fun k => match k with
  | 0 => ("EvenTables$Seeker", "choices", "LEvenTables$Choices;", true)
  | 1 => ("EvenTables$Seeker", "levels", "[LEvenTables$Peeler;", true)
  | 2 => ("EvenTables$Seeker", "numbers", "[I", true)
  | 3 => ("EvenTables$Seeker", "evenWeights", "[I", true)
  | _ => ("EvenTables$Seeker", "oddWeights", "[I", true)
def tyX7 : Nat → FieldType := fun k => match k with
  | 0 => .object "EvenTables$Choices"
  | 1 => .array (.object "EvenTables$Peeler")
  | 2 => .array .int
  | 3 => .array .int
  | _ => .array .int
theorem nmX7 : ∀ a, a < 5 → ∀ b, b < 5 → a ≠ b → (TX7 a).2.1 ≠ (TX7 b).2.1 := by decide +kernel
theorem tyX7_ok : ∀ k, k < 5 → parseFieldDescriptor (TX7 k).2.2.1 = some (tyX7 k) := by decide +kernel
abbrev cX7_init : ByteArray := prog_9_method_1_code
def yX7_init : MethodName := ⟨RX7, "<init>", "(LEvenTables$Choices;)V"⟩
abbrev cX7_seek : ByteArray := prog_9_method_2_code
def yX7_seek : MethodName := ⟨RX7, "seek", "(LEvenTables$Table;)V"⟩
abbrev cX7_isNewStep : ByteArray := prog_9_method_3_code
def yX7_isNewStep : MethodName := ⟨RX7, "isNewStep", "(II)Z"⟩
abbrev cX7_finish : ByteArray := prog_9_method_4_code
def yX7_finish : MethodName := ⟨RX7, "finish", "(LEvenTables$Table;I)V"⟩
abbrev cX7_countFewest : ByteArray := prog_9_method_5_code
def yX7_countFewest : MethodName := ⟨RX7, "countFewest", "(LEvenTables$Table;)I"⟩
abbrev cX7_addWeight : ByteArray := prog_9_method_6_code
def yX7_addWeight : MethodName := ⟨RX7, "addWeight", "(I)V"⟩
abbrev cX7_leastOf : ByteArray := prog_9_method_7_code
def yX7_leastOf : MethodName := ⟨RX7, "leastOf", "([I)I"⟩
abbrev cX7_countAbove : ByteArray := prog_9_method_8_code
def yX7_countAbove : MethodName := ⟨RX7, "countAbove", "([II)I"⟩
def RX8 : String := "EvenTables$Shown"
def TX8 : u_T := fun k => match k with
  | 0 => ("EvenTables$Shown", "bytes", "[I", true)
  | _ => ("EvenTables$Shown", "length", "I", false)
def tyX8 : Nat → FieldType := fun k => match k with
  | 0 => .array .int
  | _ => .int
theorem nmX8 : ∀ a, a < 2 → ∀ b, b < 2 → a ≠ b → (TX8 a).2.1 ≠ (TX8 b).2.1 := by decide +kernel
theorem tyX8_ok : ∀ k, k < 2 → parseFieldDescriptor (TX8 k).2.2.1 = some (tyX8 k) := by decide +kernel
abbrev cX8_init : ByteArray := prog_10_method_1_code
def yX8_init : MethodName := ⟨RX8, "<init>", "()V"⟩
abbrev cX8_write : ByteArray := prog_10_method_2_code
def yX8_write : MethodName := ⟨RX8, "write", "(LEvenTables$Mixture;)V"⟩
abbrev cX8_putNumber : ByteArray := prog_10_method_3_code
def yX8_putNumber : MethodName := ⟨RX8, "putNumber", "(I)V"⟩
abbrev cX8_put : ByteArray := prog_10_method_4_code
def yX8_put : MethodName := ⟨RX8, "put", "(I)V"⟩
def RX9 : String := "EvenTables$Table"
def TX9 : u_T := fun k => match k with
  | 0 => ("EvenTables$Table", "cells", "[I", true)
  | 1 => ("EvenTables$Table", "n", "I", false)
  | 2 => ("EvenTables$Table", "below", "I", false)
  | 3 => ("EvenTables$Table", "margin", "I", false)
  | 4 => ("EvenTables$Table", "roundingKnown", "Z", false)
  | 5 => ("EvenTables$Table", "roundedUp", "J", false)
  | 6 => ("EvenTables$Table", "seekingKnown", "Z", false)
  | 7 => ("EvenTables$Table", "soughtParts", "I", false)
  | _ => ("EvenTables$Table", "soughtRules", "I", false)
def tyX9 : Nat → FieldType := fun k => match k with
  | 0 => .array .int
  | 1 => .int
  | 2 => .int
  | 3 => .int
  | 4 => .boolean
  | 5 => .long
  | 6 => .boolean
  | 7 => .int
  | _ => .int
theorem nmX9 : ∀ a, a < 9 → ∀ b, b < 9 → a ≠ b → (TX9 a).2.1 ≠ (TX9 b).2.1 := by decide +kernel
theorem tyX9_ok : ∀ k, k < 9 → parseFieldDescriptor (TX9 k).2.2.1 = some (tyX9 k) := by decide +kernel
abbrev cX9_init : ByteArray := prog_11_method_1_code
def yX9_init : MethodName := ⟨RX9, "<init>", "()V"⟩
abbrev cX9_settle : ByteArray := prog_11_method_2_code
def yX9_settle : MethodName := ⟨RX9, "settle", "(II)V"⟩
abbrev cX9_has : ByteArray := prog_11_method_3_code
def yX9_has : MethodName := ⟨RX9, "has", "(I)Z"⟩
abbrev cX9_joinedBy : ByteArray := prog_11_method_4_code
def yX9_joinedBy : MethodName := ⟨RX9, "joinedBy", "(I)J"⟩
abbrev cX9_sumOfRow : ByteArray := prog_11_method_5_code
def yX9_sumOfRow : MethodName := ⟨RX9, "sumOfRow", "(I)I"⟩
abbrev cX9_sumOfColumn : ByteArray := prog_11_method_6_code
def yX9_sumOfColumn : MethodName := ⟨RX9, "sumOfColumn", "(I)I"⟩
abbrev cX9_greatestSum : ByteArray := prog_11_method_7_code
def yX9_greatestSum : MethodName := ⟨RX9, "greatestSum", "()I"⟩
abbrev cX9_firstUneven : ByteArray := prog_11_method_8_code
def yX9_firstUneven : MethodName := ⟨RX9, "firstUneven", "()I"⟩
abbrev cX9_countAbove0 : ByteArray := prog_11_method_9_code
def yX9_countAbove0 : MethodName := ⟨RX9, "countAbove0", "()I"⟩
abbrev cX9_greatestCell : ByteArray := prog_11_method_10_code
def yX9_greatestCell : MethodName := ⟨RX9, "greatestCell", "()I"⟩
def RX10 : String := "EvenTables$Tape"
def TX10 : u_T := fun k => match k with
  | 0 => ("EvenTables$Tape", "bytes", "[I", true)
  | 1 => ("EvenTables$Tape", "above", "[I", true)
  | 2 => ("EvenTables$Tape", "under", "[I", true)
  | 3 => ("EvenTables$Tape", "length", "I", false)
  | 4 => ("EvenTables$Tape", "fault", "I", false)
  | 5 => ("EvenTables$Tape", "place", "I", false)
  | 6 => ("EvenTables$Tape", "at", "I", false)
  | 7 => ("EvenTables$Tape", "rows", "I", false)
  | 8 => ("EvenTables$Tape", "fractions", "I", false)
  | _ => ("EvenTables$Tape", "width", "I", false)
def tyX10 : Nat → FieldType := fun k => match k with
  | 0 => .array .int
  | 1 => .array .int
  | 2 => .array .int
  | 3 => .int
  | 4 => .int
  | 5 => .int
  | 6 => .int
  | 7 => .int
  | 8 => .int
  | _ => .int
theorem nmX10 : ∀ a, a < 10 → ∀ b, b < 10 → a ≠ b → (TX10 a).2.1 ≠ (TX10 b).2.1 := by decide +kernel
theorem tyX10_ok : ∀ k, k < 10 → parseFieldDescriptor (TX10 k).2.2.1 = some (tyX10 k) := by decide +kernel
abbrev cX10_init : ByteArray := prog_12_method_1_code
def yX10_init : MethodName := ⟨RX10, "<init>", "()V"⟩
abbrev cX10_hasRoom : ByteArray := prog_12_method_2_code
def yX10_hasRoom : MethodName := ⟨RX10, "hasRoom", "()Z"⟩
abbrev cX10_putNumber : ByteArray := prog_12_method_3_code
def yX10_putNumber : MethodName := ⟨RX10, "putNumber", "(I)V"⟩
abbrev cX10_drop : ByteArray := prog_12_method_4_code
def yX10_drop : MethodName := ⟨RX10, "drop", "()V"⟩
abbrev cX10_readInto : ByteArray := prog_12_method_5_code
def yX10_readInto : MethodName := ⟨RX10, "readInto", "(LEvenTables$Table;)I"⟩
abbrev cX10_readPiece : ByteArray := prog_12_method_6_code
def yX10_readPiece : MethodName := ⟨RX10, "readPiece", "()V"⟩
abbrev cX10_closeRow : ByteArray := prog_12_method_7_code
def yX10_closeRow : MethodName := ⟨RX10, "closeRow", "()V"⟩
abbrev cX10_readFraction : ByteArray := prog_12_method_8_code
def yX10_readFraction : MethodName := ⟨RX10, "readFraction", "()V"⟩
abbrev cX10_readDivisor : ByteArray := prog_12_method_9_code
def yX10_readDivisor : MethodName := ⟨RX10, "readDivisor", "()I"⟩
abbrev cX10_keepFraction : ByteArray := prog_12_method_10_code
def yX10_keepFraction : MethodName := ⟨RX10, "keepFraction", "(II)V"⟩
abbrev cX10_countDigits : ByteArray := prog_12_method_11_code
def yX10_countDigits : MethodName := ⟨RX10, "countDigits", "()I"⟩
abbrev cX10_readNumber : ByteArray := prog_12_method_12_code
def yX10_readNumber : MethodName := ⟨RX10, "readNumber", "()I"⟩
abbrev cX10_skipBlanks : ByteArray := prog_12_method_13_code
def yX10_skipBlanks : MethodName := ⟨RX10, "skipBlanks", "()V"⟩
abbrev cX10_isSign : ByteArray := prog_12_method_14_code
def yX10_isSign : MethodName := ⟨RX10, "isSign", "(II)Z"⟩
abbrev cX10_isBlank : ByteArray := prog_12_method_15_code
def yX10_isBlank : MethodName := ⟨RX10, "isBlank", "(I)Z"⟩
abbrev cX10_isDigit : ByteArray := prog_12_method_16_code
def yX10_isDigit : MethodName := ⟨RX10, "isDigit", "(I)Z"⟩
abbrev cX10_fail : ByteArray := prog_12_method_17_code
def yX10_fail : MethodName := ⟨RX10, "fail", "(II)V"⟩
abbrev cX10_checkEnd : ByteArray := prog_12_method_18_code
def yX10_checkEnd : MethodName := ⟨RX10, "checkEnd", "()V"⟩
abbrev cX10_fill : ByteArray := prog_12_method_19_code
def yX10_fill : MethodName := ⟨RX10, "fill", "(LEvenTables$Table;)V"⟩
abbrev cX10_commonBelow : ByteArray := prog_12_method_20_code
def yX10_commonBelow : MethodName := ⟨RX10, "commonBelow", "()I"⟩
abbrev cX10_areCells : ByteArray := prog_12_method_21_code
def yX10_areCells : MethodName := ⟨RX10, "areCells", "(I)Z"⟩
def RX11 : String := "EvenTables"
def TX11 : u_T := fun k => match k with
  | 0 => ("EvenTables", "slots", "[LEvenTables$Table;", true)
  | 1 => ("EvenTables", "tape", "LEvenTables$Tape;", true)
  | 2 => ("EvenTables", "maker", "LEvenTables$Maker;", true)
  | 3 => ("EvenTables", "choices", "LEvenTables$Choices;", true)
  | 4 => ("EvenTables", "peeler", "LEvenTables$Peeler;", true)
  | 5 => ("EvenTables", "mixture", "LEvenTables$Mixture;", true)
  | 6 => ("EvenTables", "seeker", "LEvenTables$Seeker;", true)
  | 7 => ("EvenTables", "rounder", "LEvenTables$Rounder;", true)
  | _ => ("EvenTables", "shown", "LEvenTables$Shown;", true)
def tyX11 : Nat → FieldType := fun k => match k with
  | 0 => .array (.object "EvenTables$Table")
  | 1 => .object "EvenTables$Tape"
  | 2 => .object "EvenTables$Maker"
  | 3 => .object "EvenTables$Choices"
  | 4 => .object "EvenTables$Peeler"
  | 5 => .object "EvenTables$Mixture"
  | 6 => .object "EvenTables$Seeker"
  | 7 => .object "EvenTables$Rounder"
  | _ => .object "EvenTables$Shown"
theorem nmX11 : ∀ a, a < 9 → ∀ b, b < 9 → a ≠ b → (TX11 a).2.1 ≠ (TX11 b).2.1 := by decide +kernel
theorem tyX11_ok : ∀ k, k < 9 → parseFieldDescriptor (TX11 k).2.2.1 = some (tyX11 k) := by decide +kernel
abbrev cX11_init : ByteArray := prog_1_method_1_code
def yX11_init : MethodName := ⟨RX11, "<init>", "()V"⟩
abbrev cX11_feed : ByteArray := prog_1_method_2_code
def yX11_feed : MethodName := ⟨RX11, "feed", "(IIIII)I"⟩
abbrev cX11_end : ByteArray := prog_1_method_3_code
def yX11_end : MethodName := ⟨RX11, "end", "(I)Z"⟩
abbrev cX11_table : ByteArray := prog_1_method_4_code
def yX11_table : MethodName := ⟨RX11, "table", "(I)I"⟩
abbrev cX11_fault : ByteArray := prog_1_method_5_code
def yX11_fault : MethodName := ⟨RX11, "fault", "(I)I"⟩
abbrev cX11_look : ByteArray := prog_1_method_6_code
def yX11_look : MethodName := ⟨RX11, "look", "(II)I"⟩
abbrev cX11_cell : ByteArray := prog_1_method_7_code
def yX11_cell : MethodName := ⟨RX11, "cell", "(III)I"⟩
abbrev cX11_uneven : ByteArray := prog_1_method_8_code
def yX11_uneven : MethodName := ⟨RX11, "uneven", "(I)I"⟩
abbrev cX11_mix : ByteArray := prog_1_method_9_code
def yX11_mix : MethodName := ⟨RX11, "mix", "(IIIIIII)Z"⟩
abbrev cX11_times : ByteArray := prog_1_method_10_code
def yX11_times : MethodName := ⟨RX11, "times", "(III)Z"⟩
abbrev cX11_turn : ByteArray := prog_1_method_11_code
def yX11_turn : MethodName := ⟨RX11, "turn", "(IIII)Z"⟩
abbrev cX11_peel : ByteArray := prog_1_method_12_code
def yX11_peel : MethodName := ⟨RX11, "peel", "(II)I"⟩
abbrev cX11_part : ByteArray := prog_1_method_13_code
def yX11_part : MethodName := ⟨RX11, "part", "(II)I"⟩
abbrev cX11_weight : ByteArray := prog_1_method_14_code
def yX11_weight : MethodName := ⟨RX11, "weight", "(II)I"⟩
abbrev cX11_draw : ByteArray := prog_1_method_15_code
def yX11_draw : MethodName := ⟨RX11, "draw", "(I)I"⟩
abbrev cX11_joint : ByteArray := prog_1_method_16_code
def yX11_joint : MethodName := ⟨RX11, "joint", "(IIIII)I"⟩
abbrev cX11_bound : ByteArray := prog_1_method_17_code
def yX11_bound : MethodName := ⟨RX11, "bound", "(II)I"⟩
abbrev cX11_lack : ByteArray := prog_1_method_18_code
def yX11_lack : MethodName := ⟨RX11, "lack", "(III)I"⟩
abbrev cX11_paired : ByteArray := prog_1_method_19_code
def yX11_paired : MethodName := ⟨RX11, "paired", "(III)I"⟩
abbrev cX11_ways : ByteArray := prog_1_method_20_code
def yX11_ways : MethodName := ⟨RX11, "ways", "(II)I"⟩
abbrev cX11_widest : ByteArray := prog_1_method_21_code
def yX11_widest : MethodName := ⟨RX11, "widest", "(I)I"⟩
abbrev cX11_best : ByteArray := prog_1_method_22_code
def yX11_best : MethodName := ⟨RX11, "best", "(II)J"⟩
abbrev cX11_permanent : ByteArray := prog_1_method_23_code
def yX11_permanent : MethodName := ⟨RX11, "permanent", "(I)J"⟩
abbrev cX11_sought : ByteArray := prog_1_method_24_code
def yX11_sought : MethodName := ⟨RX11, "sought", "(II)I"⟩
abbrev cX11_rounded : ByteArray := prog_1_method_25_code
def yX11_rounded : MethodName := ⟨RX11, "rounded", "(III)I"⟩
abbrev cX11_most : ByteArray := prog_1_method_26_code
def yX11_most : MethodName := ⟨RX11, "most", "(II)I"⟩
abbrev cX11_mixing : ByteArray := prog_1_method_27_code
def yX11_mixing : MethodName := ⟨RX11, "mixing", "(I)I"⟩
abbrev cX11_kin : ByteArray := prog_1_method_28_code
def yX11_kin : MethodName := ⟨RX11, "kin", "(II)I"⟩
abbrev cX11_show : ByteArray := prog_1_method_29_code
def yX11_show : MethodName := ⟨RX11, "show", "()I"⟩
abbrev cX11_out : ByteArray := prog_1_method_30_code
def yX11_out : MethodName := ⟨RX11, "out", "(I)I"⟩
abbrev cX11_shop : ByteArray := prog_1_method_31_code
def yX11_shop : MethodName := ⟨RX11, "shop", "(II)I"⟩
abbrev cX11_works : ByteArray := prog_1_method_32_code
def yX11_works : MethodName := ⟨RX11, "works", "(II)I"⟩
abbrev cX11_job : ByteArray := prog_1_method_33_code
def yX11_job : MethodName := ⟨RX11, "job", "(II)I"⟩
abbrev cX11_kept : ByteArray := prog_1_method_34_code
def yX11_kept : MethodName := ⟨RX11, "kept", "(I)I"⟩
abbrev cX11_slotAt : ByteArray := prog_1_method_35_code
def yX11_slotAt : MethodName := ⟨RX11, "slotAt", "(I)LEvenTables$Table;"⟩
abbrev cX11_filledSlot : ByteArray := prog_1_method_36_code
def yX11_filledSlot : MethodName := ⟨RX11, "filledSlot", "(I)LEvenTables$Table;"⟩
abbrev cX11_evenSlot : ByteArray := prog_1_method_37_code
def yX11_evenSlot : MethodName := ⟨RX11, "evenSlot", "(I)LEvenTables$Table;"⟩
abbrev cX11_areLike : ByteArray := prog_1_method_38_code
def yX11_areLike : MethodName := ⟨RX11, "areLike", "(III)Z"⟩
abbrev cX11_keepParts : ByteArray := prog_1_method_39_code
def yX11_keepParts : MethodName := ⟨RX11, "keepParts", "(I)I"⟩
abbrev cX11_isRule : ByteArray := prog_1_method_40_code
def yX11_isRule : MethodName := ⟨RX11, "isRule", "(I)Z"⟩
abbrev cX11_isCell : ByteArray := prog_1_method_41_code
def yX11_isCell : MethodName := ⟨RX11, "isCell", "(I)Z"⟩
abbrev cX11_isShare : ByteArray := prog_1_method_42_code
def yX11_isShare : MethodName := ⟨RX11, "isShare", "(II)Z"⟩
def RX12 : String := "EvenTablesModel"
def TX12 : u_T := fun k => match k with
  | 0 => ("EvenTablesModel", "size", "[I", true)
  | 1 => ("EvenTablesModel", "below", "[I", true)
  | 2 => ("EvenTablesModel", "cells", "[I", true)
  | 3 => ("EvenTablesModel", "fresh", "[J", true)
  | 4 => ("EvenTablesModel", "freshBelow", "J", false)
  | 5 => ("EvenTablesModel", "tape", "[I", true)
  | 6 => ("EvenTablesModel", "taped", "I", false)
  | 7 => ("EvenTablesModel", "fault", "I", false)
  | 8 => ("EvenTablesModel", "faultPlace", "I", false)
  | 9 => ("EvenTablesModel", "bad", "I", false)
  | 10 => ("EvenTablesModel", "badPlace", "I", false)
  | 11 => ("EvenTablesModel", "sort", "I", false)
  | 12 => ("EvenTablesModel", "from", "I", false)
  | 13 => ("EvenTablesModel", "to", "I", false)
  | 14 => ("EvenTablesModel", "number", "I", false)
  | 15 => ("EvenTablesModel", "sign", "I", false)
  | 16 => ("EvenTablesModel", "above", "[I", true)
  | 17 => ("EvenTablesModel", "under", "[I", true)
  | 18 => ("EvenTablesModel", "rows", "I", false)
  | 19 => ("EvenTablesModel", "wide", "I", false)
  | 20 => ("EvenTablesModel", "group", "[I", true)
  | 21 => ("EvenTablesModel", "work", "[I", true)
  | 22 => ("EvenTablesModel", "workSize", "I", false)
  | 23 => ("EvenTablesModel", "can", "[J", true)
  | 24 => ("EvenTablesModel", "choice", "[I", true)
  | 25 => ("EvenTablesModel", "weight", "[I", true)
  | 26 => ("EvenTablesModel", "column", "[I", true)
  | 27 => ("EvenTablesModel", "parts", "I", false)
  | 28 => ("EvenTablesModel", "keptSize", "I", false)
  | 29 => ("EvenTablesModel", "keptSum", "I", false)
  | 30 => ("EvenTablesModel", "keptKind", "I", false)
  | 31 => ("EvenTablesModel", "shopSize", "I", false)
  | 32 => ("EvenTablesModel", "free", "[I", true)
  | 33 => ("EvenTablesModel", "low", "[I", true)
  | 34 => ("EvenTablesModel", "high", "[I", true)
  | 35 => ("EvenTablesModel", "cap", "[I", true)
  | 36 => ("EvenTablesModel", "came", "[I", true)
  | 37 => ("EvenTablesModel", "line", "[I", true)
  | 38 => ("EvenTablesModel", "sums", "[J", true)
  | 39 => ("EvenTablesModel", "reach", "[Z", true)
  | 40 => ("EvenTablesModel", "further", "[Z", true)
  | 41 => ("EvenTablesModel", "shown", "[I", true)
  | _ => ("EvenTablesModel", "showns", "I", false)
def tyX12 : Nat → FieldType := fun k => match k with
  | 0 => .array .int
  | 1 => .array .int
  | 2 => .array .int
  | 3 => .array .long
  | 4 => .long
  | 5 => .array .int
  | 6 => .int
  | 7 => .int
  | 8 => .int
  | 9 => .int
  | 10 => .int
  | 11 => .int
  | 12 => .int
  | 13 => .int
  | 14 => .int
  | 15 => .int
  | 16 => .array .int
  | 17 => .array .int
  | 18 => .int
  | 19 => .int
  | 20 => .array .int
  | 21 => .array .int
  | 22 => .int
  | 23 => .array .long
  | 24 => .array .int
  | 25 => .array .int
  | 26 => .array .int
  | 27 => .int
  | 28 => .int
  | 29 => .int
  | 30 => .int
  | 31 => .int
  | 32 => .array .int
  | 33 => .array .int
  | 34 => .array .int
  | 35 => .array .int
  | 36 => .array .int
  | 37 => .array .int
  | 38 => .array .long
  | 39 => .array .boolean
  | 40 => .array .boolean
  | 41 => .array .int
  | _ => .int
theorem nmX12 : ∀ a, a < 43 → ∀ b, b < 43 → a ≠ b → (TX12 a).2.1 ≠ (TX12 b).2.1 := by decide +kernel
theorem tyX12_ok : ∀ k, k < 43 → parseFieldDescriptor (TX12 k).2.2.1 = some (tyX12 k) := by decide +kernel
abbrev cX12_isIn : ByteArray := prog_14_method_1_code
def yX12_isIn : MethodName := ⟨RX12, "isIn", "(JJJ)Z"⟩
abbrev cX12_one : ByteArray := prog_14_method_2_code
def yX12_one : MethodName := ⟨RX12, "one", "(Z)I"⟩
abbrev cX12_init : ByteArray := prog_14_method_3_code
def yX12_init : MethodName := ⟨RX12, "<init>", "()V"⟩
abbrev cX12_common : ByteArray := prog_14_method_4_code
def yX12_common : MethodName := ⟨RX12, "common", "(JJ)J"⟩
abbrev cX12_takes : ByteArray := prog_14_method_5_code
def yX12_takes : MethodName := ⟨RX12, "takes", "(II)Z"⟩
abbrev cX12_isSlot : ByteArray := prog_14_method_6_code
def yX12_isSlot : MethodName := ⟨RX12, "isSlot", "(I)Z"⟩
abbrev cX12_isTable : ByteArray := prog_14_method_7_code
def yX12_isTable : MethodName := ⟨RX12, "isTable", "(I)Z"⟩
abbrev cX12_at : ByteArray := prog_14_method_8_code
def yX12_at : MethodName := ⟨RX12, "at", "(III)I"⟩
abbrev cX12_rowOf : ByteArray := prog_14_method_9_code
def yX12_rowOf : MethodName := ⟨RX12, "rowOf", "(II)J"⟩
abbrev cX12_columnOf : ByteArray := prog_14_method_10_code
def yX12_columnOf : MethodName := ⟨RX12, "columnOf", "(II)J"⟩
abbrev cX12_isEven : ByteArray := prog_14_method_11_code
def yX12_isEven : MethodName := ⟨RX12, "isEven", "(I)Z"⟩
abbrev cX12_uneven : ByteArray := prog_14_method_12_code
def yX12_uneven : MethodName := ⟨RX12, "uneven", "(I)I"⟩
abbrev cX12_four : ByteArray := prog_14_method_13_code
def yX12_four : MethodName := ⟨RX12, "four", "(I)V"⟩
abbrev cX12_feed : ByteArray := prog_14_method_14_code
def yX12_feed : MethodName := ⟨RX12, "feed", "(IIIII)I"⟩
abbrev cX12_end : ByteArray := prog_14_method_15_code
def yX12_end : MethodName := ⟨RX12, "end", "(I)Z"⟩
abbrev cX12_see : ByteArray := prog_14_method_16_code
def yX12_see : MethodName := ⟨RX12, "see", "(I)I"⟩
abbrev cX12_next : ByteArray := prog_14_method_17_code
def yX12_next : MethodName := ⟨RX12, "next", "()V"⟩
abbrev cX12_fails : ByteArray := prog_14_method_18_code
def yX12_fails : MethodName := ⟨RX12, "fails", "(I)Z"⟩
abbrev cX12_isNumber : ByteArray := prog_14_method_19_code
def yX12_isNumber : MethodName := ⟨RX12, "isNumber", "()Z"⟩
abbrev cX12_readFraction : ByteArray := prog_14_method_20_code
def yX12_readFraction : MethodName := ⟨RX12, "readFraction", "(I)Z"⟩
abbrev cX12_readRow : ByteArray := prog_14_method_21_code
def yX12_readRow : MethodName := ⟨RX12, "readRow", "()Z"⟩
abbrev cX12_isOver : ByteArray := prog_14_method_22_code
def yX12_isOver : MethodName := ⟨RX12, "isOver", "(I)Z"⟩
abbrev cX12_table : ByteArray := prog_14_method_23_code
def yX12_table : MethodName := ⟨RX12, "table", "(I)I"⟩
abbrev cX12_fault : ByteArray := prog_14_method_24_code
def yX12_fault : MethodName := ⟨RX12, "fault", "(I)I"⟩
abbrev cX12_groupsOf : ByteArray := prog_14_method_25_code
def yX12_groupsOf : MethodName := ⟨RX12, "groupsOf", "(I)I"⟩
abbrev cX12_aboveNought : ByteArray := prog_14_method_26_code
def yX12_aboveNought : MethodName := ⟨RX12, "aboveNought", "(I)I"⟩
abbrev cX12_look : ByteArray := prog_14_method_27_code
def yX12_look : MethodName := ⟨RX12, "look", "(II)I"⟩
abbrev cX12_isCell : ByteArray := prog_14_method_28_code
def yX12_isCell : MethodName := ⟨RX12, "isCell", "(III)Z"⟩
abbrev cX12_cell : ByteArray := prog_14_method_29_code
def yX12_cell : MethodName := ⟨RX12, "cell", "(III)I"⟩
abbrev cX12_isPart : ByteArray := prog_14_method_30_code
def yX12_isPart : MethodName := ⟨RX12, "isPart", "(II)Z"⟩
abbrev cX12_grown : ByteArray := prog_14_method_31_code
def yX12_grown : MethodName := ⟨RX12, "grown", "(JJ)J"⟩
abbrev cX12_mix : ByteArray := prog_14_method_32_code
def yX12_mix : MethodName := ⟨RX12, "mix", "(IIIIIII)Z"⟩
abbrev cX12_times : ByteArray := prog_14_method_33_code
def yX12_times : MethodName := ⟨RX12, "times", "(III)Z"⟩
abbrev cX12_behind : ByteArray := prog_14_method_34_code
def yX12_behind : MethodName := ⟨RX12, "behind", "(III)I"⟩
abbrev cX12_turn : ByteArray := prog_14_method_35_code
def yX12_turn : MethodName := ⟨RX12, "turn", "(IIII)Z"⟩
abbrev cX12_bits : ByteArray := prog_14_method_36_code
def yX12_bits : MethodName := ⟨RX12, "bits", "(I)I"⟩
abbrev cX12_worked : ByteArray := prog_14_method_37_code
def yX12_worked : MethodName := ⟨RX12, "worked", "(II)I"⟩
abbrev cX12_worksOn : ByteArray := prog_14_method_38_code
def yX12_worksOn : MethodName := ⟨RX12, "worksOn", "(I)V"⟩
abbrev cX12_laysCan : ByteArray := prog_14_method_39_code
def yX12_laysCan : MethodName := ⟨RX12, "laysCan", "(IZ)V"⟩
abbrev cX12_isChosen : ByteArray := prog_14_method_40_code
def yX12_isChosen : MethodName := ⟨RX12, "isChosen", "(III)Z"⟩
abbrev cX12_isOpen : ByteArray := prog_14_method_41_code
def yX12_isOpen : MethodName := ⟨RX12, "isOpen", "(IIIII)Z"⟩
abbrev cX12_chooseGreatest : ByteArray := prog_14_method_42_code
def yX12_chooseGreatest : MethodName := ⟨RX12, "chooseGreatest", "(I)J"⟩
abbrev cX12_choose : ByteArray := prog_14_method_43_code
def yX12_choose : MethodName := ⟨RX12, "choose", "(I)V"⟩
abbrev cX12_isLeft : ByteArray := prog_14_method_44_code
def yX12_isLeft : MethodName := ⟨RX12, "isLeft", "()Z"⟩
abbrev cX12_peels : ByteArray := prog_14_method_45_code
def yX12_peels : MethodName := ⟨RX12, "peels", "(I)I"⟩
abbrev cX12_keepsAll : ByteArray := prog_14_method_46_code
def yX12_keepsAll : MethodName := ⟨RX12, "keepsAll", "(III)I"⟩
abbrev cX12_isRule : ByteArray := prog_14_method_47_code
def yX12_isRule : MethodName := ⟨RX12, "isRule", "(I)Z"⟩
abbrev cX12_peel : ByteArray := prog_14_method_48_code
def yX12_peel : MethodName := ⟨RX12, "peel", "(II)I"⟩
abbrev cX12_isPartThere : ByteArray := prog_14_method_49_code
def yX12_isPartThere : MethodName := ⟨RX12, "isPartThere", "(I)Z"⟩
abbrev cX12_isKeptRow : ByteArray := prog_14_method_50_code
def yX12_isKeptRow : MethodName := ⟨RX12, "isKeptRow", "(I)Z"⟩
abbrev cX12_part : ByteArray := prog_14_method_51_code
def yX12_part : MethodName := ⟨RX12, "part", "(II)I"⟩
abbrev cX12_weight : ByteArray := prog_14_method_52_code
def yX12_weight : MethodName := ⟨RX12, "weight", "(II)I"⟩
abbrev cX12_draw : ByteArray := prog_14_method_53_code
def yX12_draw : MethodName := ⟨RX12, "draw", "(I)I"⟩
abbrev cX12_joint : ByteArray := prog_14_method_54_code
def yX12_joint : MethodName := ⟨RX12, "joint", "(IIIII)I"⟩
abbrev cX12_together : ByteArray := prog_14_method_55_code
def yX12_together : MethodName := ⟨RX12, "together", "(II)I"⟩
abbrev cX12_most : ByteArray := prog_14_method_56_code
def yX12_most : MethodName := ⟨RX12, "most", "(II)I"⟩
abbrev cX12_bound : ByteArray := prog_14_method_57_code
def yX12_bound : MethodName := ⟨RX12, "bound", "(II)I"⟩
abbrev cX12_fewest : ByteArray := prog_14_method_58_code
def yX12_fewest : MethodName := ⟨RX12, "fewest", "(I)I"⟩
abbrev cX12_lies : ByteArray := prog_14_method_59_code
def yX12_lies : MethodName := ⟨RX12, "lies", "(III)J"⟩
abbrev cX12_sought : ByteArray := prog_14_method_60_code
def yX12_sought : MethodName := ⟨RX12, "sought", "(II)I"⟩
abbrev cX12_ruleOf : ByteArray := prog_14_method_61_code
def yX12_ruleOf : MethodName := ⟨RX12, "ruleOf", "(II)I"⟩
abbrev cX12_cut : ByteArray := prog_14_method_62_code
def yX12_cut : MethodName := ⟨RX12, "cut", "(JI)I"⟩
abbrev cX12_up : ByteArray := prog_14_method_63_code
def yX12_up : MethodName := ⟨RX12, "up", "(JI)I"⟩
abbrev cX12_laysBounds : ByteArray := prog_14_method_64_code
def yX12_laysBounds : MethodName := ⟨RX12, "laysBounds", "(I)V"⟩
abbrev cX12_edge : ByteArray := prog_14_method_65_code
def yX12_edge : MethodName := ⟨RX12, "edge", "(IIII)V"⟩
abbrev cX12_isKept : ByteArray := prog_14_method_66_code
def yX12_isKept : MethodName := ⟨RX12, "isKept", "(I)Z"⟩
abbrev cX12_isWay : ByteArray := prog_14_method_67_code
def yX12_isWay : MethodName := ⟨RX12, "isWay", "()Z"⟩
abbrev cX12_rounded : ByteArray := prog_14_method_68_code
def yX12_rounded : MethodName := ⟨RX12, "rounded", "(III)I"⟩
abbrev cX12_isLeast : ByteArray := prog_14_method_69_code
def yX12_isLeast : MethodName := ⟨RX12, "isLeast", "(I)Z"⟩
abbrev cX12_joined : ByteArray := prog_14_method_70_code
def yX12_joined : MethodName := ⟨RX12, "joined", "(III)I"⟩
abbrev cX12_lack : ByteArray := prog_14_method_71_code
def yX12_lack : MethodName := ⟨RX12, "lack", "(III)I"⟩
abbrev cX12_paired : ByteArray := prog_14_method_72_code
def yX12_paired : MethodName := ⟨RX12, "paired", "(III)I"⟩
abbrev cX12_isSummed : ByteArray := prog_14_method_73_code
def yX12_isSummed : MethodName := ⟨RX12, "isSummed", "(IIZ)Z"⟩
abbrev cX12_ways : ByteArray := prog_14_method_74_code
def yX12_ways : MethodName := ⟨RX12, "ways", "(II)I"⟩
abbrev cX12_widest : ByteArray := prog_14_method_75_code
def yX12_widest : MethodName := ⟨RX12, "widest", "(I)I"⟩
abbrev cX12_best : ByteArray := prog_14_method_76_code
def yX12_best : MethodName := ⟨RX12, "best", "(II)J"⟩
abbrev cX12_permanent : ByteArray := prog_14_method_77_code
def yX12_permanent : MethodName := ⟨RX12, "permanent", "(I)J"⟩
abbrev cX12_mixing : ByteArray := prog_14_method_78_code
def yX12_mixing : MethodName := ⟨RX12, "mixing", "(I)I"⟩
abbrev cX12_kin : ByteArray := prog_14_method_79_code
def yX12_kin : MethodName := ⟨RX12, "kin", "(II)I"⟩
abbrev cX12_says : ByteArray := prog_14_method_80_code
def yX12_says : MethodName := ⟨RX12, "says", "(I)V"⟩
abbrev cX12_show : ByteArray := prog_14_method_81_code
def yX12_show : MethodName := ⟨RX12, "show", "()I"⟩
abbrev cX12_out : ByteArray := prog_14_method_82_code
def yX12_out : MethodName := ⟨RX12, "out", "(I)I"⟩
abbrev cX12_shop : ByteArray := prog_14_method_83_code
def yX12_shop : MethodName := ⟨RX12, "shop", "(II)I"⟩
abbrev cX12_isJob : ByteArray := prog_14_method_84_code
def yX12_isJob : MethodName := ⟨RX12, "isJob", "(I)Z"⟩
abbrev cX12_works : ByteArray := prog_14_method_85_code
def yX12_works : MethodName := ⟨RX12, "works", "(II)I"⟩
abbrev cX12_job : ByteArray := prog_14_method_86_code
def yX12_job : MethodName := ⟨RX12, "job", "(II)I"⟩
abbrev cX12_kept : ByteArray := prog_14_method_87_code
def yX12_kept : MethodName := ⟨RX12, "kept", "(I)I"⟩
def RJ6 : String := "java/lang/Integer"
abbrev cJ6_bitCount_0f7a4 : ByteArray := prog_15_method_49_code
def yJ6_bitCount_0f7a4 : MethodName := ⟨RJ6, "bitCount", "(I)I"⟩
def RJ13 : String := "java/lang/Long"
abbrev cJ13_bitCount_95d88 : ByteArray := prog_16_method_50_code
def yJ13_bitCount_95d88 : MethodName := ⟨RJ13, "bitCount", "(J)I"⟩
def RJ9 : String := "java/lang/Math"
abbrev cJ9_max_7cf53 : ByteArray := prog_17_method_65_code
def yJ9_max_7cf53 : MethodName := ⟨RJ9, "max", "(II)I"⟩
abbrev cJ9_max_f86c9 : ByteArray := prog_17_method_66_code
def yJ9_max_f86c9 : MethodName := ⟨RJ9, "max", "(JJ)J"⟩
abbrev cJ9_min_7cf53 : ByteArray := prog_17_method_69_code
def yJ9_min_7cf53 : MethodName := ⟨RJ9, "min", "(II)I"⟩
abbrev cJ9_min_f86c9 : ByteArray := prog_17_method_70_code
def yJ9_min_f86c9 : MethodName := ⟨RJ9, "min", "(JJ)J"⟩
def RJ7 : String := "java/util/Arrays"
abbrev cJ7_fill_53178 : ByteArray := prog_19_method_103_code
def yJ7_fill_53178 : MethodName := ⟨RJ7, "fill", "([II)V"⟩
def RL : String := "EvenTablesLaw"
abbrev eCl : List vw_C := [(RX0, TX0, 4), (RX2, TX2, 1), (RX3, TX3, 7), (RX5, TX5, 6), (RX6, TX6, 5), (RX7, TX7, 5), (RX8, TX8, 2), (RX9, TX9, 9), (RX10, TX10, 10), (RX11, TX11, 9), (RX12, TX12, 43)]
end
section
/-! PURE STATES: a value is an int, a long, or a reference (the number of a cell) or null; a state is a number for each cell and place -/
abbrev eV : Type := Int ⊕ (Int ⊕ Option Nat)
abbrev eS : Type := Nat → Int → Int
abbrev eSh : Type := List (Nat × Nat × List Nat)
abbrev eM : Type := String × MethodName × ByteArray × Nat × Option FieldType × Room × List (Nat × Instr × Nat)
abbrev vi (z : Int) : eV := .inl z
abbrev vl (z : Int) : eV := .inr (.inl z)
abbrev vr (c : Nat) : eV := .inr (.inr (some c))
abbrev vn : eV := .inr (.inr none)
abbrev eOwn (M : eM) : String := M.1
abbrev eNm (M : eM) : MethodName := M.2.1
abbrev eCode (M : eM) : ByteArray := M.2.2.1
abbrev eNL (M : eM) : Nat := M.2.2.2.1
abbrev eRet (M : eM) : Option FieldType := M.2.2.2.2.1
abbrev eRm (M : eM) : Room := M.2.2.2.2.2.1
abbrev eTab (M : eM) : List (Nat × Instr × Nat) := M.2.2.2.2.2.2
abbrev rg (z : Int) : Prop := -2147483648 ≤ z ∧ z < 2147483648
abbrev rl (z : Int) : Prop := -9223372036854775808 ≤ z ∧ z < 9223372036854775808
def wr (z : Int) : Int := (Int32.ofInt z).toInt
def wl (z : Int) : Int := (Int64.ofInt z).toInt
def eTbl : List Cond := lw_tbl.filter goodWord
theorem eTbl_in {w : Cond} (h : w ∈ eTbl) : w ∈ lw_tbl := (List.mem_filter.mp h).1
theorem eTbl_good {w : Cond} (h : w ∈ eTbl) : goodWord w = true := (List.mem_filter.mp h).2
theorem eTbl_mk {w : Cond} (h : w ∈ lw_tbl) (g : goodWord w = true) : w ∈ eTbl := List.mem_filter.mpr ⟨h, g⟩
/-- the n-th of a list, by its numeral -/
def nth {α : Type} : List α → Nat → Option α
  | [], _ => none
  | a :: _, 0 => some a
  | _ :: l, n + 1 => nth l n
theorem nth_mem {α : Type} : ∀ {l : List α} {n : Nat} {a : α}, nth l n = some a → a ∈ l
  | [], _, _, h => by cases h
  | b :: l, 0, a, h => by cases h; exact List.mem_cons_self
  | b :: l, n + 1, a, h => List.mem_cons_of_mem _ (nth_mem (l := l) (n := n) h)
theorem nth_get {α : Type} : ∀ {l : List α} {n : Nat} {a : α}, nth l n = some a → l[n]? = some a
  | [], _, _, h => by cases h
  | b :: l, 0, a, h => by cases h; rfl
  | b :: l, n + 1, a, h => by rw [List.getElem?_cons_succ]; exact nth_get (l := l) (n := n) h
def eWs (M : eM) : List Cond := Cond.code (eNm M) (eCode M) (eNL M) (eRet M) :: eTbl
/-- a method's table is its code, its word stands in the tables -/
def okM (M : eM) : Prop := (∀ e ∈ eTab M, decode (eCode M) e.1 = .ok (e.2.1, e.2.2 - e.1)) ∧ Cond.code (eNm M) (eCode M) (eNL M) (eRet M) ∈ eTbl ∧ plainName (eNm M).cls = true ∧ (eNm M).cls = eOwn M ∧ (eRm M).cells = 0 ∧ (eRm M).slots = 0
theorem okM.dec {M : eM} (h : okM M) {i pc n n' : Nat} {ins : Instr} (hd : nth (eTab M) i = some (pc, ins, n')) (hn : pc + n = n') : decode (eCode M) pc = .ok (ins, n) := by
  have h1 := h.1 _ (nth_mem hd)
  rw [h1, ← hn]
  show Except.ok (ins, pc + n - pc) = _
  rw [Nat.add_sub_cancel_left]
/-! values of the machine -/
def eR (ad : Nat → Nat) : eV → Value
  | .inl z => .int (Int32.ofInt z)
  | .inr (.inl z) => .long (Int64.ofInt z)
  | .inr (.inr none) => .null
  | .inr (.inr (some c)) => .ref (ad c)
def eK : eV → Prop
  | .inl z => rg z
  | .inr (.inl z) => rl z
  | .inr (.inr _) => True
def eKs : List eV → Prop
  | [] => True
  | v :: l => eK v ∧ eKs l
def eCat : eV → Nat
  | .inr (.inl _) => 2
  | _ => 1
theorem eR_cat (ad : Nat → Nat) (v : eV) : (eR ad v).category = eCat v := by
  rcases v with z | z | _ | c <;> rfl
def eFv (ad : Nat → Nat) (z : Int) (t : Nat) : Value := if t = 1 then .long (Int64.ofInt z) else if t < 3 then .int (Int32.ofInt z) else .ref (ad (t - 3))
def eTy : Nat → FieldType
  | 2 => .long
  | 3 => .boolean
  | 4 => .object "EvenTables$Table"
  | 5 => .object "EvenTables$Peeler"
  | _ => .int
def eE (dA : Nat → ClassId) (ad : Nat → Nat) (σ : eS) (c : Nat) (r : Nat × Nat × List Nat) : va_E :=
  if r.1 = 0 then .inr (r.2.1, r.2.2.mapIdx (fun k t => eFv ad (σ c (k : Nat)) t))
  else if r.1 = 2 then .inl (dA c, r.2.1, .inr (.inl (fun k => Int64.ofInt (σ c ((k : Nat) : Int)))))
  else if r.1 = 4 ∨ r.1 = 5 then .inl (dA c, r.2.1, .inr (.inr (.inr (.inr (fun k => r.2.2[k]?.map ad)))))
  else .inl (dA c, r.2.1, .inl (fun k => Int32.ofInt (σ c ((k : Nat) : Int))))
def eW (sh : eSh) (dA : Nat → ClassId) (ad : Nat → Nat) (σ : eS) : va_W := sh.mapIdx (fun c r => (ad c, eE dA ad σ c r))
def eA (sh : eSh) (ad : Nat → Nat) : Nat → Prop := fun q => ∃ c, c < sh.length ∧ q = ad c
def eKA (sh : eSh) (dA : Nat → ClassId) (U : State) : Prop := ∀ (c : Nat) (r : Nat × Nat × List Nat), sh[c]? = some r → r.1 ≠ 0 → ArrOfT U (dA c) (eTy r.1) ∧ va_RA U (dA c) (eTy r.1)
def eLong (sh : eSh) (c : Nat) (k : Int) : Bool := match sh[c]? with
  | some (0, _, ts) => ts[k.toNat]? == some 1
  | some (2, _, _) => true
  | _ => false
/-- the numbers are in the range of their types -/
def eGd (sh : eSh) (σ : eS) : Prop := ∀ c (k : Int), rl (σ c k) ∧ (eLong sh c k = false → rg (σ c k))
def eInj (sh : eSh) (ad : Nat → Nat) : Prop := ∀ i j, i < sh.length → j < sh.length → ad i = ad j → i = j
theorem eW_at {sh : eSh} {dA : Nat → ClassId} {ad : Nat → Nat} {σ : eS} {c : Nat} {r : Nat × Nat × List Nat} (h : sh[c]? = some r) : (eW sh dA ad σ)[c]? = some (ad c, eE dA ad σ c r) := by
  simp [eW, h]
theorem eW_inv {sh : eSh} {dA : Nat → ClassId} {ad : Nat → Nat} {σ : eS} {c : Nat} {q : Nat × va_E} (h : (eW sh dA ad σ)[c]? = some q) : ∃ r, sh[c]? = some r ∧ q = (ad c, eE dA ad σ c r) := by
  simp only [eW, List.getElem?_mapIdx, Option.map_eq_some_iff] at h
  obtain ⟨r, h1, h2⟩ := h
  exact ⟨r, h1, h2.symm⟩
theorem eD {sh : eSh} {dA : Nat → ClassId} {ad : Nat → Nat} {σ : eS} (h : eInj sh ad) : va_D (eA sh ad) (eW sh dA ad σ) := by
  refine ⟨fun i j p q hp hq hpq => ?_, fun k q hk => ?_⟩
  · obtain ⟨r1, h1, rfl⟩ := eW_inv hp
    obtain ⟨r2, h2, rfl⟩ := eW_inv hq
    exact h i j (List.getElem?_eq_some_iff.mp h1).1 (List.getElem?_eq_some_iff.mp h2).1 hpq
  · obtain ⟨r, h1, rfl⟩ := eW_inv hk
    exact ⟨k, (List.getElem?_eq_some_iff.mp h1).1, rfl⟩
/-! locals -/
def eLs (la : Array Slot) (nL : Nat) (ad : Nat → Nat) (ls : List (Option eV)) : Prop := la.size = nL ∧ ls.length = nL ∧ lv_wf la ∧ ∀ (i : Nat) (v : eV), ls[i]? = some (some v) → la[i]? = some (.val (eR ad v)) ∧ eK v
/-! the judgements -/
def eQ (sh : eSh) (D : va_G) (dA : Nat → ClassId) (ad : Nat → Nat) (Q : eS → Option eV → Prop) : Array Value → State → Outcome → State → Prop := fun _ st oc t =>
  (∃ (v : Option eV) (σ : eS), oc = .returned (v.map (eR ad)) ∧ Q σ v ∧ (∀ x, v = some x → eK x) ∧ eGd sh σ ∧ va_P D eCl (eW sh dA ad σ) t.heap) ∧ va_F (eA sh ad) st t
def eCx (sh : eSh) (M : eM) (p : Program) (s : State) (m : MethodId) (args : Array Value) (meth : Method) (c : Code) (D : va_G) (dA : Nat → ClassId) (ad : Nat → Nat) : Prop :=
  okM M ∧ p.tables.exec = Jvm.exec ∧ c.code = eCode M ∧ c.maxLocals = eNL M ∧ meth.sig.returnType = eRet M ∧ meth.locks = false ∧ s.vm.findClass (eOwn M) = some m.cls ∧ (∀ w ∈ eTbl, w.before args s = true) ∧ va_K D eCl [] s ∧ eKA sh dA s ∧ eInj sh ad
def eHp (sh : eSh) (s : State) (D : va_G) (dA : Nat → ClassId) (ad : Nat → Nat) (σ : eS) (H : Heap) (locs : List Loc) : Prop := va_P D eCl (eW sh dA ad σ) H ∧ va_S (eA sh ad) s.heap H locs ∧ eGd sh σ
def Ok (sh : eSh) (M : eM) (pc : Nat) (ls : List (Option eV)) (st : List eV) (σ : eS) (Q : eS → Option eV → Prop) : Prop :=
  ∀ (l : Launch) (p : Program) (e : Env) (s : State) (m : MethodId) (args : Array Value) (below : List Frame) (meth : Method) (c : Code) (D : va_G) (dA : Nat → ClassId) (ad : Nat → Nat) (H : Heap) (locs : List Loc) (la : Array Slot),
    eCx sh M p s m args meth c D dA ad → eHp sh s D dA ad σ H locs → eLs la (eNL M) ad ls → eKs st →
    W p l e (eRm M) s m args below meth c H locs 0 0 (MQ below (eQ sh D dA ad Q) args s 0 0 (eA sh ad)) (F0 m pc la (st.map (eR ad)))
def ePc (sh : eSh) (D : va_G) (dA : Nat → ClassId) (ad : Nat → Nat) (as : List eV) (σ : eS) : Array Value → State → Prop := fun v U =>
  v = (as.map (eR ad)).toArray ∧ va_P D eCl (eW sh dA ad σ) U.heap ∧ va_K D eCl [] U ∧ eKA sh dA U
/-- the method, called with these arguments in this state, ends as Q says -/
def Mt (sh : eSh) (M : eM) (as : List eV) (σ : eS) (Q : eS → Option eV → Prop) : Prop :=
  okM M ∧ ∀ (l : Launch) (D : va_G) (dA : Nat → ClassId) (ad : Nat → Nat), eInj sh ad → eKs as → eGd sh σ → Met l (eNm M) (eWs M) (eRm M) (ePc sh D dA ad as σ) (eQ sh D dA ad Q) 0 0 (eA sh ad)
def eAr : List eV → List (Option eV)
  | [] => []
  | .inr (.inl z) :: l => some (vl z) :: none :: eAr l
  | v :: l => some v :: eAr l
def eIn (as : List eV) (n : Nat) : List (Option eV) := eAr as ++ List.replicate (n - (eAr as).length) none
end
section
theorem lg_cons (v : Value) (vs : List Value) : lg_sl (v :: vs) = (if v.category = 2 then [Slot.val v, Slot.second] else [Slot.val v]) ++ lg_sl vs := by simp [lg_sl]
theorem eAr_one {v : eV} (h : eCat v = 1) (l : List eV) : eAr (v :: l) = some v :: eAr l := by
  rcases v with z | z | _ | c
  · rfl
  · cases h
  · rfl
  · rfl
theorem eCat_12 (v : eV) : eCat v = 1 ∨ ∃ z, v = vl z := by
  rcases v with z | z | _ | c
  · exact Or.inl rfl
  · exact Or.inr ⟨z, rfl⟩
  · exact Or.inl rfl
  · exact Or.inl rfl
theorem eAr_len (ad : Nat → Nat) : ∀ as : List eV, (lg_sl (as.map (eR ad))).length = (eAr as).length
  | [] => rfl
  | v :: l => by
    rw [List.map_cons, lg_cons, List.length_append, eAr_len ad l, eR_cat]
    rcases eCat_12 v with h | ⟨z, rfl⟩
    · rw [h, eAr_one h]
      simp
      omega
    · show 2 + _ = (some (vl z) :: none :: eAr l).length
      simp
      omega
theorem eAr_at (ad : Nat → Nat) : ∀ (as : List eV) (k i : Nat) (v : eV), (eAr as)[i]? = some (some v) → (k + i, eR ad v) ∈ lv_args k (as.map (eR ad)) ∧ v ∈ as := by
  intro as
  induction as with
  | nil => intro k i v h; simp [eAr] at h
  | cons a l ih =>
    intro k i v h
    rcases eCat_12 a with hc | ⟨z, rfl⟩
    · rw [eAr_one hc] at h
      have hcat : ¬ (eR ad a).category = 2 := by rw [eR_cat, hc]; decide
      simp only [List.map_cons, lv_args, hcat, if_false]
      cases i with
      | zero =>
        simp only [List.getElem?_cons_zero, Option.some.injEq] at h
        subst h
        exact ⟨List.mem_cons_self, List.mem_cons_self⟩
      | succ i =>
        rw [List.getElem?_cons_succ] at h
        obtain ⟨h1, h2⟩ := ih (k + 1) i v h
        rw [show k + 1 + i = k + (i + 1) by omega] at h1
        exact ⟨List.mem_cons_of_mem _ h1, List.mem_cons_of_mem _ h2⟩
    · have hcat : (eR ad (.inr (.inl z))).category = 2 := rfl
      simp only [List.map_cons, lv_args, hcat, if_true]
      match i, h with
      | 0, h =>
        simp only [eAr, List.getElem?_cons_zero, Option.some.injEq] at h
        subst h
        exact ⟨List.mem_cons_self, List.mem_cons_self⟩
      | 1, h => simp [eAr] at h
      | i + 2, h =>
        simp only [eAr, List.getElem?_cons_succ] at h
        obtain ⟨h1, h2⟩ := ih (k + 2) i v h
        rw [show k + 2 + i = k + (i + 2) by omega] at h1
        exact ⟨List.mem_cons_of_mem _ h1, List.mem_cons_of_mem _ h2⟩
theorem eKs_at : ∀ {l : List eV}, eKs l → ∀ v ∈ l, eK v
  | _ :: _, h, v, hv => by
    rcases List.mem_cons.mp hv with rfl | hv
    · exact h.1
    · exact eKs_at h.2 v hv
theorem eKs_of : ∀ {l : List eV}, (∀ v ∈ l, eK v) → eKs l
  | [], _ => trivial
  | _ :: _, h => ⟨h _ List.mem_cons_self, eKs_of fun v hv => h v (List.mem_cons_of_mem _ hv)⟩
theorem eLs_in {as : List eV} {n : Nat} (ad : Nat → Nat) (hl : (eAr as).length ≤ n) (hk : eKs as) : eLs (lg_sl (as.map (eR ad)) ++ List.replicate (n - (lg_sl (as.map (eR ad))).length) Slot.unset).toArray n ad (eIn as n) := by
  obtain ⟨h1, h2, h3⟩ := lv_entry (as.map (eR ad)) (n := n) (by rw [eAr_len]; exact hl)
  refine ⟨h1, by simp [eIn]; omega, h2, fun i v h => ?_⟩
  have h4 : (eAr as)[i]? = some (some v) := by
    unfold eIn at h
    by_cases hi : i < (eAr as).length
    · rwa [List.getElem?_append_left hi] at h
    · rw [List.getElem?_append_right (by omega)] at h
      have := List.eq_of_mem_replicate (List.mem_of_getElem? h)
      cases this
  obtain ⟨h5, h6⟩ := eAr_at ad as 0 i v h4
  rw [Nat.zero_add] at h5
  exact ⟨h3 _ h5, eKs_at hk v h6⟩
theorem rg_in {z : Int} (h : rg z) : (Int32.ofInt z).toInt = z := Int32.toInt_ofInt_of_le (by omega) (by omega)
theorem rl_in {z : Int} (h : rl z) : (Int64.ofInt z).toInt = z := Int64.toInt_ofInt_of_le (by omega) (by omega)
theorem rg_to (x : Int32) : rg x.toInt := ⟨Int32.le_toInt _, Int32.toInt_lt _⟩
theorem rl_to (x : Int64) : rl x.toInt := ⟨Int64.le_toInt _, Int64.toInt_lt _⟩
theorem rg_wr (z : Int) : rg (wr z) := rg_to _
theorem rl_wl (z : Int) : rl (wl z) := rl_to _
theorem wr_id {z : Int} (h : rg z) : wr z = z := rg_in h
theorem wl_id {z : Int} (h : rl z) : wl z = z := rl_in h
theorem of_wr (z : Int) : Int32.ofInt (wr z) = Int32.ofInt z := Int32.ofInt_toInt _
theorem of_wl (z : Int) : Int64.ofInt (wl z) = Int64.ofInt z := Int64.ofInt_toInt _
theorem rg_eq {a b : Int} (ha : rg a) (hb : rg b) : Int32.ofInt a = Int32.ofInt b ↔ a = b := ⟨fun h => by rw [← rg_in ha, ← rg_in hb, h], fun h => by rw [h]⟩
theorem rg_lt {a b : Int} (ha : rg a) (hb : rg b) : Int32.ofInt a < Int32.ofInt b ↔ a < b := by rw [Int32.lt_iff_toInt_lt, rg_in ha, rg_in hb]
theorem rg_le {a b : Int} (ha : rg a) (hb : rg b) : Int32.ofInt a ≤ Int32.ofInt b ↔ a ≤ b := by rw [Int32.le_iff_toInt_le, rg_in ha, rg_in hb]
theorem rl_eq {a b : Int} (ha : rl a) (hb : rl b) : Int64.ofInt a = Int64.ofInt b ↔ a = b := ⟨fun h => by rw [← rl_in ha, ← rl_in hb, h], fun h => by rw [h]⟩
theorem rl_lt {a b : Int} (ha : rl a) (hb : rl b) : Int64.ofInt a < Int64.ofInt b ↔ a < b := by rw [Int64.lt_iff_toInt_lt, rl_in ha, rl_in hb]
theorem of_0 : Int32.ofInt 0 = 0 := rfl
theorem rg_0 : rg 0 := by decide
def iand (a b : Int) : Int := (Int32.ofInt a &&& Int32.ofInt b).toInt
def ior (a b : Int) : Int := (Int32.ofInt a ||| Int32.ofInt b).toInt
def ixor (a b : Int) : Int := (Int32.ofInt a ^^^ Int32.ofInt b).toInt
def ishl (a b : Int) : Int := (Int32.ofInt a <<< (Int32.ofInt b &&& 31)).toInt
def ishr (a b : Int) : Int := (Int32.ofInt a >>> (Int32.ofInt b &&& 31)).toInt
def iushr (a b : Int) : Int := (((Int32.ofInt a).toUInt32 >>> ((Int32.ofInt b).toUInt32 &&& Int32.toUInt32 31)).toInt32).toInt
def land (a b : Int) : Int := (Int64.ofInt a &&& Int64.ofInt b).toInt
def lor (a b : Int) : Int := (Int64.ofInt a ||| Int64.ofInt b).toInt
def lxor (a b : Int) : Int := (Int64.ofInt a ^^^ Int64.ofInt b).toInt
def lshl (a b : Int) : Int := ((Int64.ofInt a) <<< ((Int32.ofInt b).toInt64 &&& 63)).toInt
def lushr (a b : Int) : Int := (((Int64.ofInt a).toUInt64 >>> ((Int32.ofInt b).toInt64.toUInt64 &&& Int64.toUInt64 63)).toInt64).toInt
theorem nn_div {a b : Int} (ha : rg a) (hb : rg b) (h0 : 0 ≤ a) (h1 : 0 < b) : Int32.ofInt a / Int32.ofInt b = Int32.ofInt (a / b) ∧ rg (a / b) := by
  have h2 : 0 ≤ a / b := Int.ediv_nonneg h0 (by omega)
  have h3 : a / b ≤ a := Int.ediv_le_self b h0
  have hr : rg (a / b) := ⟨by omega, by omega⟩
  refine ⟨?_, hr⟩
  apply Int32.toInt_inj.mp
  rw [Int32.toInt_div, rg_in ha, rg_in hb, rg_in hr, Int.tdiv_eq_ediv_of_nonneg h0]
  have := wr_id hr
  unfold wr at this
  rwa [Int32.toInt_ofInt] at this
theorem nn_divL {a b : Int} (ha : rl a) (hb : rl b) (h0 : 0 ≤ a) (h1 : 0 < b) : Int64.ofInt a / Int64.ofInt b = Int64.ofInt (a / b) ∧ rl (a / b) := by
  have h2 : 0 ≤ a / b := Int.ediv_nonneg h0 (by omega)
  have h3 : a / b ≤ a := Int.ediv_le_self b h0
  have hr : rl (a / b) := ⟨by omega, by omega⟩
  refine ⟨?_, hr⟩
  apply Int64.toInt_inj.mp
  rw [Int64.toInt_div, rl_in ha, rl_in hb, rl_in hr, Int.tdiv_eq_ediv_of_nonneg h0]
  have := wl_id hr
  unfold wl at this
  rwa [Int64.toInt_ofInt] at this
theorem nn_rem {a b : Int} (ha : rg a) (hb : rg b) (h0 : 0 ≤ a) (h1 : 0 < b) : Int32.ofInt a - Int32.ofInt a / Int32.ofInt b * Int32.ofInt b = Int32.ofInt (a % b) ∧ rg (a % b) := by
  have h4 := Int.emod_nonneg a (by omega : b ≠ 0)
  have h5 := Int.emod_lt_of_pos a h1
  refine ⟨?_, by omega, by omega⟩
  rw [(nn_div ha hb h0 h1).1, ← Int32.ofInt_mul, ← Int32.ofInt_sub]
  congr 1
  have := Int.emod_def a b
  rw [this, Int.mul_comm]
theorem nn_remL {a b : Int} (ha : rl a) (hb : rl b) (h0 : 0 ≤ a) (h1 : 0 < b) : Int64.ofInt a - Int64.ofInt a / Int64.ofInt b * Int64.ofInt b = Int64.ofInt (a % b) ∧ rl (a % b) := by
  have h4 := Int.emod_nonneg a (by omega : b ≠ 0)
  have h5 := Int.emod_lt_of_pos a h1
  refine ⟨?_, by omega, by omega⟩
  rw [(nn_divL ha hb h0 h1).1, ← Int64.ofInt_mul, ← Int64.ofInt_sub]
  congr 1
  have := Int.emod_def a b
  rw [this, Int.mul_comm]
theorem ne_0 {b : Int} (hb : rg b) (h : 0 < b) : ¬ Int32.ofInt b = 0 := fun q => by
  have := (rg_eq hb rg_0).mp (by rw [q]; rfl)
  omega
theorem ne_0L {b : Int} (hb : rl b) (h : 0 < b) : ¬ Int64.ofInt b = 0 := fun q => by
  have := (rl_eq hb (by decide : rl 0)).mp (by rw [q]; rfl)
  omega
theorem i2l_of {a : Int} (ha : rg a) : (Int32.ofInt a).toInt64 = Int64.ofInt a := by
  apply Int64.toInt_inj.mp
  rw [Int32.toInt_toInt64, rg_in ha, rl_in ⟨by omega, by omega⟩]
theorem l2i_of {a : Int} : (Int64.ofInt a).toInt32 = Int32.ofInt a := by
  apply Int32.toInt_inj.mp
  rw [Int64.toInt_toInt32, Int64.toInt_ofInt, Int32.toInt_ofInt]
  exact Int.bmod_bmod_of_dvd (by decide)
section E1
variable {sh : eSh} {M : eM} {pc pc' tgt : Nat} {ls : List (Option eV)} {st st' : List eV} {σ : eS} {Q : eS → Option eV → Prop}
theorem Mt.of {as : List eV} (hM : okM M) (hlen : (eAr as).length ≤ eNL M) (h : eKs as → eGd sh σ → Ok sh M 0 (eIn as (eNL M)) [] σ Q) : Mt sh M as σ Q := by
  refine ⟨hM, fun l D dA ad hi hk hg => ?_⟩
  refine Met.ofW (cc := eCode M) (maxL := eNL M) (ret := eRet M) hM.2.2.1 rfl ?_
  intro p e s m args below meth c s₁ B hml hv
  obtain ⟨rfl, hP, hK, hKA⟩ := hv
  have hown : s.vm.findClass (eNm M).cls = some m.cls := findClass_of_methodNamed B.named
  have hts := atoms_spec (ws := eWs M) B.pre
  rw [lg_entry_eq]
  exact h hk hg l p e s m _ below meth c D dA ad s.heap [] _ ⟨hM, B.exec, B.bytes, hml, B.returns, B.notSynchronized, by rw [← hM.2.2.2.1]; exact hown, fun w hw => hts w (List.mem_cons_of_mem _ hw), hK, hKA, hi⟩ ⟨hP, va_S.rf, hg⟩ (eLs_in ad hlen hk) trivial
theorem Mt.weaken {as : List eV} {Q' : eS → Option eV → Prop} (h : Mt sh M as σ Q) (k : ∀ σ' v, Q σ' v → Q' σ' v) : Mt sh M as σ Q' := by
  refine ⟨h.1, fun l D dA ad hi hk hg => ?_⟩
  have h1 := h.2 l D dA ad hi hk hg
  intro p e a b c s m args below d1 d2 d3 d4
  obtain ⟨t, o, r1, r2, r3, ⟨⟨⟨v, σ', q1, q2, q3⟩, q4⟩, q5⟩⟩ := h1 p e a b c s m args below d1 d2 d3 d4
  exact ⟨t, o, r1, r2, r3, ⟨⟨⟨v, σ', q1, k _ _ q2, q3⟩, q4⟩, q5⟩⟩
/-- what is known of a state's numbers -/
theorem ok_gd (k : eGd sh σ → Ok sh M pc ls st σ Q) : Ok sh M pc ls st σ Q := fun l p e s m args below meth c D dA ad H locs la C hH hL hS => k hH.2.2 l p e s m args below meth c D dA ad H locs la C hH hL hS
theorem Ok.weaken {Q' : eS → Option eV → Prop} (h : Ok sh M pc ls st σ Q') (k : ∀ σ' v, Q' σ' v → Q σ' v) : Ok sh M pc ls st σ Q := by
  intro l p e s m args below meth c D dA ad H locs la C hH hL hS T hT X
  obtain ⟨t, a, o, b1, b2, ⟨⟨v, σ', q1, q2, q3⟩, q4⟩, b4⟩ := h l p e s m args below meth c D dA ad H locs la C hH hL hS T hT X
  exact ⟨t, a, o, b1, b2, ⟨⟨v, σ', q1, k _ _ q2, q3⟩, q4⟩, b4⟩
theorem Ok.go {l : Launch} {p : Program} {e : Env} {s : State} {m : MethodId} {args : Array Value} {below : List Frame} {meth : Method} {c : Code} {D : va_G} {dA : Nat → ClassId} {ad : Nat → Nat} {H : Heap} {locs : List Loc} {la : Array Slot} {n : Nat} {rest : List Value}
    (k : Ok sh M pc' ls st' σ Q) (C : eCx sh M p s m args meth c D dA ad) (hH : eHp sh s D dA ad σ H locs) (hL : eLs la (eNL M) ad ls) (hS : eKs st') (hn : n = pc') (hr : st'.map (eR ad) = rest) :
    W p l e (eRm M) s m args below meth c H locs 0 0 (MQ below (eQ sh D dA ad Q) args s 0 0 (eA sh ad)) (F0 m n la rest) := by
  subst hn; subst hr
  exact k l p e s m args below meth c D dA ad H locs la C hH hL hS
theorem ok_iadd (i : Nat) {a b : Int} (hd : nth (eTab M) i = some (pc, .iadd, pc')) (hn : pc + 1 = pc') (hr : rg (a + b)) (k : Ok sh M pc' ls (vi (a + b) :: st) σ Q) : Ok sh M pc ls (vi b :: vi a :: st) σ Q := by
  intro l p e s m args below meth c D dA ad H locs la C hH hL hS
  obtain ⟨hb, ha, hs⟩ := hS
  exact lv_iadd C.2.1 C.2.2.1 (C.1.dec hd hn) (Ok.go k C hH hL ⟨hr, hs⟩ hn (by show Value.int (Int32.ofInt (a + b)) :: _ = _; rw [Int32.ofInt_add]))
theorem ok_iaddW (i : Nat) {a b : Int} (hd : nth (eTab M) i = some (pc, .iadd, pc')) (hn : pc + 1 = pc') (k : Ok sh M pc' ls (vi (wr (a + b)) :: st) σ Q) : Ok sh M pc ls (vi b :: vi a :: st) σ Q := by
  intro l p e s m args below meth c D dA ad H locs la C hH hL hS
  obtain ⟨hb, ha, hs⟩ := hS
  exact lv_iadd C.2.1 C.2.2.1 (C.1.dec hd hn) (Ok.go k C hH hL ⟨rg_wr _, hs⟩ hn (by show Value.int (Int32.ofInt (wr (a + b))) :: _ = _; rw [of_wr, Int32.ofInt_add]))
theorem ok_isub (i : Nat) {a b : Int} (hd : nth (eTab M) i = some (pc, .isub, pc')) (hn : pc + 1 = pc') (hr : rg (a - b)) (k : Ok sh M pc' ls (vi (a - b) :: st) σ Q) : Ok sh M pc ls (vi b :: vi a :: st) σ Q := by
  intro l p e s m args below meth c D dA ad H locs la C hH hL hS
  obtain ⟨hb, ha, hs⟩ := hS
  exact lv_isub C.2.1 C.2.2.1 (C.1.dec hd hn) (Ok.go k C hH hL ⟨hr, hs⟩ hn (by show Value.int (Int32.ofInt (a - b)) :: _ = _; rw [Int32.ofInt_sub]))
theorem ok_isubW (i : Nat) {a b : Int} (hd : nth (eTab M) i = some (pc, .isub, pc')) (hn : pc + 1 = pc') (k : Ok sh M pc' ls (vi (wr (a - b)) :: st) σ Q) : Ok sh M pc ls (vi b :: vi a :: st) σ Q := by
  intro l p e s m args below meth c D dA ad H locs la C hH hL hS
  obtain ⟨hb, ha, hs⟩ := hS
  exact lv_isub C.2.1 C.2.2.1 (C.1.dec hd hn) (Ok.go k C hH hL ⟨rg_wr _, hs⟩ hn (by show Value.int (Int32.ofInt (wr (a - b))) :: _ = _; rw [of_wr, Int32.ofInt_sub]))
theorem ok_imul (i : Nat) {a b : Int} (hd : nth (eTab M) i = some (pc, .imul, pc')) (hn : pc + 1 = pc') (hr : rg (a * b)) (k : Ok sh M pc' ls (vi (a * b) :: st) σ Q) : Ok sh M pc ls (vi b :: vi a :: st) σ Q := by
  intro l p e s m args below meth c D dA ad H locs la C hH hL hS
  obtain ⟨hb, ha, hs⟩ := hS
  exact lv_imul C.2.1 C.2.2.1 (C.1.dec hd hn) (Ok.go k C hH hL ⟨hr, hs⟩ hn (by show Value.int (Int32.ofInt (a * b)) :: _ = _; rw [Int32.ofInt_mul]))
theorem ok_imulW (i : Nat) {a b : Int} (hd : nth (eTab M) i = some (pc, .imul, pc')) (hn : pc + 1 = pc') (k : Ok sh M pc' ls (vi (wr (a * b)) :: st) σ Q) : Ok sh M pc ls (vi b :: vi a :: st) σ Q := by
  intro l p e s m args below meth c D dA ad H locs la C hH hL hS
  obtain ⟨hb, ha, hs⟩ := hS
  exact lv_imul C.2.1 C.2.2.1 (C.1.dec hd hn) (Ok.go k C hH hL ⟨rg_wr _, hs⟩ hn (by show Value.int (Int32.ofInt (wr (a * b))) :: _ = _; rw [of_wr, Int32.ofInt_mul]))
theorem ok_ladd (i : Nat) {a b : Int} (hd : nth (eTab M) i = some (pc, .ladd, pc')) (hn : pc + 1 = pc') (hr : rl (a + b)) (k : Ok sh M pc' ls (vl (a + b) :: st) σ Q) : Ok sh M pc ls (vl b :: vl a :: st) σ Q := by
  intro l p e s m args below meth c D dA ad H locs la C hH hL hS
  obtain ⟨hb, ha, hs⟩ := hS
  exact lv_ladd C.2.1 C.2.2.1 (C.1.dec hd hn) (Ok.go k C hH hL ⟨hr, hs⟩ hn (by show Value.long (Int64.ofInt (a + b)) :: _ = _; rw [Int64.ofInt_add]))
theorem ok_laddW (i : Nat) {a b : Int} (hd : nth (eTab M) i = some (pc, .ladd, pc')) (hn : pc + 1 = pc') (k : Ok sh M pc' ls (vl (wl (a + b)) :: st) σ Q) : Ok sh M pc ls (vl b :: vl a :: st) σ Q := by
  intro l p e s m args below meth c D dA ad H locs la C hH hL hS
  obtain ⟨hb, ha, hs⟩ := hS
  exact lv_ladd C.2.1 C.2.2.1 (C.1.dec hd hn) (Ok.go k C hH hL ⟨rl_wl _, hs⟩ hn (by show Value.long (Int64.ofInt (wl (a + b))) :: _ = _; rw [of_wl, Int64.ofInt_add]))
theorem ok_lsub (i : Nat) {a b : Int} (hd : nth (eTab M) i = some (pc, .lsub, pc')) (hn : pc + 1 = pc') (hr : rl (a - b)) (k : Ok sh M pc' ls (vl (a - b) :: st) σ Q) : Ok sh M pc ls (vl b :: vl a :: st) σ Q := by
  intro l p e s m args below meth c D dA ad H locs la C hH hL hS
  obtain ⟨hb, ha, hs⟩ := hS
  exact lv_lsub C.2.1 C.2.2.1 (C.1.dec hd hn) (Ok.go k C hH hL ⟨hr, hs⟩ hn (by show Value.long (Int64.ofInt (a - b)) :: _ = _; rw [Int64.ofInt_sub]))
theorem ok_lsubW (i : Nat) {a b : Int} (hd : nth (eTab M) i = some (pc, .lsub, pc')) (hn : pc + 1 = pc') (k : Ok sh M pc' ls (vl (wl (a - b)) :: st) σ Q) : Ok sh M pc ls (vl b :: vl a :: st) σ Q := by
  intro l p e s m args below meth c D dA ad H locs la C hH hL hS
  obtain ⟨hb, ha, hs⟩ := hS
  exact lv_lsub C.2.1 C.2.2.1 (C.1.dec hd hn) (Ok.go k C hH hL ⟨rl_wl _, hs⟩ hn (by show Value.long (Int64.ofInt (wl (a - b))) :: _ = _; rw [of_wl, Int64.ofInt_sub]))
theorem ok_lmul (i : Nat) {a b : Int} (hd : nth (eTab M) i = some (pc, .lmul, pc')) (hn : pc + 1 = pc') (hr : rl (a * b)) (k : Ok sh M pc' ls (vl (a * b) :: st) σ Q) : Ok sh M pc ls (vl b :: vl a :: st) σ Q := by
  intro l p e s m args below meth c D dA ad H locs la C hH hL hS
  obtain ⟨hb, ha, hs⟩ := hS
  exact lv_lmul C.2.1 C.2.2.1 (C.1.dec hd hn) (Ok.go k C hH hL ⟨hr, hs⟩ hn (by show Value.long (Int64.ofInt (a * b)) :: _ = _; rw [Int64.ofInt_mul]))
theorem ok_idiv (i : Nat) {a b : Int} (hd : nth (eTab M) i = some (pc, .idiv, pc')) (hn : pc + 1 = pc') (h0 : 0 ≤ a) (h1 : 0 < b) (k : Ok sh M pc' ls (vi (a / b) :: st) σ Q) : Ok sh M pc ls (vi b :: vi a :: st) σ Q := by
  intro l p e s m args below meth c D dA ad H locs la C hH hL hS
  obtain ⟨hb, ha, hs⟩ := hS
  exact lv_idiv C.2.1 C.2.2.1 (C.1.dec hd hn) (ne_0 hb h1) (Ok.go k C hH hL ⟨(nn_div ha hb h0 h1).2, hs⟩ hn (by show Value.int (Int32.ofInt (a / b)) :: _ = _; rw [(nn_div ha hb h0 h1).1]))
theorem ok_irem (i : Nat) {a b : Int} (hd : nth (eTab M) i = some (pc, .irem, pc')) (hn : pc + 1 = pc') (h0 : 0 ≤ a) (h1 : 0 < b) (k : Ok sh M pc' ls (vi (a % b) :: st) σ Q) : Ok sh M pc ls (vi b :: vi a :: st) σ Q := by
  intro l p e s m args below meth c D dA ad H locs la C hH hL hS
  obtain ⟨hb, ha, hs⟩ := hS
  exact lv_irem C.2.1 C.2.2.1 (C.1.dec hd hn) (ne_0 hb h1) (Ok.go k C hH hL ⟨(nn_rem ha hb h0 h1).2, hs⟩ hn (by show Value.int (Int32.ofInt (a % b)) :: _ = _; rw [(nn_rem ha hb h0 h1).1]))
theorem ok_ldiv (i : Nat) {a b : Int} (hd : nth (eTab M) i = some (pc, .ldiv, pc')) (hn : pc + 1 = pc') (h0 : 0 ≤ a) (h1 : 0 < b) (k : Ok sh M pc' ls (vl (a / b) :: st) σ Q) : Ok sh M pc ls (vl b :: vl a :: st) σ Q := by
  intro l p e s m args below meth c D dA ad H locs la C hH hL hS
  obtain ⟨hb, ha, hs⟩ := hS
  exact lv_ldiv C.2.1 C.2.2.1 (C.1.dec hd hn) (ne_0L hb h1) (Ok.go k C hH hL ⟨(nn_divL ha hb h0 h1).2, hs⟩ hn (by show Value.long (Int64.ofInt (a / b)) :: _ = _; rw [(nn_divL ha hb h0 h1).1]))
theorem ok_lrem (i : Nat) {a b : Int} (hd : nth (eTab M) i = some (pc, .lrem, pc')) (hn : pc + 1 = pc') (h0 : 0 ≤ a) (h1 : 0 < b) (k : Ok sh M pc' ls (vl (a % b) :: st) σ Q) : Ok sh M pc ls (vl b :: vl a :: st) σ Q := by
  intro l p e s m args below meth c D dA ad H locs la C hH hL hS
  obtain ⟨hb, ha, hs⟩ := hS
  exact lv_lrem C.2.1 C.2.2.1 (C.1.dec hd hn) (ne_0L hb h1) (Ok.go k C hH hL ⟨(nn_remL ha hb h0 h1).2, hs⟩ hn (by show Value.long (Int64.ofInt (a % b)) :: _ = _; rw [(nn_remL ha hb h0 h1).1]))
theorem ok_iand (i : Nat) {a b : Int} (hd : nth (eTab M) i = some (pc, .iand, pc')) (hn : pc + 1 = pc') (k : Ok sh M pc' ls (vi (iand a b) :: st) σ Q) : Ok sh M pc ls (vi b :: vi a :: st) σ Q := by
  intro l p e s m args below meth c D dA ad H locs la C hH hL hS
  obtain ⟨hb, ha, hs⟩ := hS
  exact lv_iand C.2.1 C.2.2.1 (C.1.dec hd hn) (Ok.go k C hH hL ⟨rg_to _, hs⟩ hn (by show Value.int (Int32.ofInt (iand a b)) :: _ = _; unfold iand; rw [Int32.ofInt_toInt]))
theorem ok_ior (i : Nat) {a b : Int} (hd : nth (eTab M) i = some (pc, .ior, pc')) (hn : pc + 1 = pc') (k : Ok sh M pc' ls (vi (ior a b) :: st) σ Q) : Ok sh M pc ls (vi b :: vi a :: st) σ Q := by
  intro l p e s m args below meth c D dA ad H locs la C hH hL hS
  obtain ⟨hb, ha, hs⟩ := hS
  exact lv_ior C.2.1 C.2.2.1 (C.1.dec hd hn) (Ok.go k C hH hL ⟨rg_to _, hs⟩ hn (by show Value.int (Int32.ofInt (ior a b)) :: _ = _; unfold ior; rw [Int32.ofInt_toInt]))
theorem ok_ixor (i : Nat) {a b : Int} (hd : nth (eTab M) i = some (pc, .ixor, pc')) (hn : pc + 1 = pc') (k : Ok sh M pc' ls (vi (ixor a b) :: st) σ Q) : Ok sh M pc ls (vi b :: vi a :: st) σ Q := by
  intro l p e s m args below meth c D dA ad H locs la C hH hL hS
  obtain ⟨hb, ha, hs⟩ := hS
  exact lv_ixor C.2.1 C.2.2.1 (C.1.dec hd hn) (Ok.go k C hH hL ⟨rg_to _, hs⟩ hn (by show Value.int (Int32.ofInt (ixor a b)) :: _ = _; unfold ixor; rw [Int32.ofInt_toInt]))
theorem ok_ishl (i : Nat) {a b : Int} (hd : nth (eTab M) i = some (pc, .ishl, pc')) (hn : pc + 1 = pc') (k : Ok sh M pc' ls (vi (ishl a b) :: st) σ Q) : Ok sh M pc ls (vi b :: vi a :: st) σ Q := by
  intro l p e s m args below meth c D dA ad H locs la C hH hL hS
  obtain ⟨hb, ha, hs⟩ := hS
  exact lv_ishl C.2.1 C.2.2.1 (C.1.dec hd hn) (Ok.go k C hH hL ⟨rg_to _, hs⟩ hn (by show Value.int (Int32.ofInt (ishl a b)) :: _ = _; unfold ishl; rw [Int32.ofInt_toInt]))
theorem ok_ishr (i : Nat) {a b : Int} (hd : nth (eTab M) i = some (pc, .ishr, pc')) (hn : pc + 1 = pc') (k : Ok sh M pc' ls (vi (ishr a b) :: st) σ Q) : Ok sh M pc ls (vi b :: vi a :: st) σ Q := by
  intro l p e s m args below meth c D dA ad H locs la C hH hL hS
  obtain ⟨hb, ha, hs⟩ := hS
  exact lv_ishr C.2.1 C.2.2.1 (C.1.dec hd hn) (Ok.go k C hH hL ⟨rg_to _, hs⟩ hn (by show Value.int (Int32.ofInt (ishr a b)) :: _ = _; unfold ishr; rw [Int32.ofInt_toInt]))
theorem ok_land (i : Nat) {a b : Int} (hd : nth (eTab M) i = some (pc, .land, pc')) (hn : pc + 1 = pc') (k : Ok sh M pc' ls (vl (land a b) :: st) σ Q) : Ok sh M pc ls (vl b :: vl a :: st) σ Q := by
  intro l p e s m args below meth c D dA ad H locs la C hH hL hS
  obtain ⟨hb, ha, hs⟩ := hS
  exact lv_land C.2.1 C.2.2.1 (C.1.dec hd hn) (Ok.go k C hH hL ⟨rl_to _, hs⟩ hn (by show Value.long (Int64.ofInt (land a b)) :: _ = _; unfold land; rw [Int64.ofInt_toInt]))
theorem ok_lor (i : Nat) {a b : Int} (hd : nth (eTab M) i = some (pc, .lor, pc')) (hn : pc + 1 = pc') (k : Ok sh M pc' ls (vl (lor a b) :: st) σ Q) : Ok sh M pc ls (vl b :: vl a :: st) σ Q := by
  intro l p e s m args below meth c D dA ad H locs la C hH hL hS
  obtain ⟨hb, ha, hs⟩ := hS
  exact lv_lor C.2.1 C.2.2.1 (C.1.dec hd hn) (Ok.go k C hH hL ⟨rl_to _, hs⟩ hn (by show Value.long (Int64.ofInt (lor a b)) :: _ = _; unfold lor; rw [Int64.ofInt_toInt]))
theorem ok_lxor (i : Nat) {a b : Int} (hd : nth (eTab M) i = some (pc, .lxor, pc')) (hn : pc + 1 = pc') (k : Ok sh M pc' ls (vl (lxor a b) :: st) σ Q) : Ok sh M pc ls (vl b :: vl a :: st) σ Q := by
  intro l p e s m args below meth c D dA ad H locs la C hH hL hS
  obtain ⟨hb, ha, hs⟩ := hS
  exact lv_lxor C.2.1 C.2.2.1 (C.1.dec hd hn) (Ok.go k C hH hL ⟨rl_to _, hs⟩ hn (by show Value.long (Int64.ofInt (lxor a b)) :: _ = _; unfold lxor; rw [Int64.ofInt_toInt]))
theorem ok_iushr (i : Nat) {a b : Int} (hd : nth (eTab M) i = some (pc, .iushr, pc')) (hn : pc + 1 = pc') (k : Ok sh M pc' ls (vi (iushr a b) :: st) σ Q) : Ok sh M pc ls (vi b :: vi a :: st) σ Q := by
  intro l p e s m args below meth c D dA ad H locs la C hH hL hS
  obtain ⟨hb, ha, hs⟩ := hS
  exact lv_iushr C.2.1 C.2.2.1 (C.1.dec hd hn) rfl (Ok.go k C hH hL ⟨rg_to _, hs⟩ hn (by show Value.int (Int32.ofInt (iushr a b)) :: _ = _; unfold iushr; rw [Int32.ofInt_toInt]))
theorem ok_lushr (i : Nat) {a b : Int} (hd : nth (eTab M) i = some (pc, .lushr, pc')) (hn : pc + 1 = pc') (k : Ok sh M pc' ls (vl (lushr a b) :: st) σ Q) : Ok sh M pc ls (vi b :: vl a :: st) σ Q := by
  intro l p e s m args below meth c D dA ad H locs la C hH hL hS
  obtain ⟨hb, ha, hs⟩ := hS
  exact lv_lushr C.2.1 C.2.2.1 (C.1.dec hd hn) rfl (Ok.go k C hH hL ⟨rl_to _, hs⟩ hn (by show Value.long (Int64.ofInt (lushr a b)) :: _ = _; unfold lushr; rw [Int64.ofInt_toInt]))
theorem ok_lshl (i : Nat) {a b : Int} (hd : nth (eTab M) i = some (pc, .lshl, pc')) (hn : pc + 1 = pc') (k : Ok sh M pc' ls (vl (lshl a b) :: st) σ Q) : Ok sh M pc ls (vi b :: vl a :: st) σ Q := by
  intro l p e s m args below meth c D dA ad H locs la C hH hL hS
  obtain ⟨hb, ha, hs⟩ := hS
  exact lv_lshl C.2.1 C.2.2.1 (C.1.dec hd hn) rfl (Ok.go k C hH hL ⟨rl_to _, hs⟩ hn (by show Value.long (Int64.ofInt (lshl a b)) :: _ = _; unfold lshl; rw [Int64.ofInt_toInt]))
theorem ok_i2l (i : Nat) {a : Int} (hd : nth (eTab M) i = some (pc, .i2l, pc')) (hn : pc + 1 = pc') (k : Ok sh M pc' ls (vl a :: st) σ Q) : Ok sh M pc ls (vi a :: st) σ Q := by
  intro l p e s m args below meth c D dA ad H locs la C hH hL hS
  obtain ⟨ha, hs⟩ := hS
  exact lv_i2l C.2.1 C.2.2.1 (C.1.dec hd hn) (i2l_of ha) (Ok.go k C hH hL ⟨⟨by obtain ⟨h1, h2⟩ : rg a := ha; omega, by obtain ⟨h1, h2⟩ : rg a := ha; omega⟩, hs⟩ hn (by rfl))
theorem ok_l2iW (i : Nat) {a : Int} (hd : nth (eTab M) i = some (pc, .l2i, pc')) (hn : pc + 1 = pc') (k : Ok sh M pc' ls (vi (wr a) :: st) σ Q) : Ok sh M pc ls (vl a :: st) σ Q := by
  intro l p e s m args below meth c D dA ad H locs la C hH hL hS
  obtain ⟨ha, hs⟩ := hS
  exact lv_l2i C.2.1 C.2.2.1 (C.1.dec hd hn) l2i_of (Ok.go k C hH hL ⟨rg_wr _, hs⟩ hn (by show Value.int (Int32.ofInt (wr a)) :: _ = _; rw [of_wr]))
theorem ok_l2i (i : Nat) {a : Int} (hd : nth (eTab M) i = some (pc, .l2i, pc')) (hn : pc + 1 = pc') (hr : rg a) (k : Ok sh M pc' ls (vi a :: st) σ Q) : Ok sh M pc ls (vl a :: st) σ Q := by
  intro l p e s m args below meth c D dA ad H locs la C hH hL hS
  obtain ⟨ha, hs⟩ := hS
  exact lv_l2i C.2.1 C.2.2.1 (C.1.dec hd hn) l2i_of (Ok.go k C hH hL ⟨hr, hs⟩ hn (by rfl))
theorem ok_iconst (i : Nat) {z : Int} (hd : nth (eTab M) i = some (pc, .iconst z, pc')) (hn : pc + 1 = pc') (hr : rg z) (k : Ok sh M pc' ls (vi z :: st) σ Q) : Ok sh M pc ls (st) σ Q := by
  intro l p e s m args below meth c D dA ad H locs la C hH hL hS
  exact lv_iconst C.2.1 C.2.2.1 (C.1.dec hd hn) rfl (Ok.go k C hH hL ⟨hr, hS⟩ hn (by rfl))
theorem ok_bipush (i : Nat) {z : Int} (hd : nth (eTab M) i = some (pc, .bipush z, pc')) (hn : pc + 2 = pc') (hr : rg z) (hv : (Int8.ofInt z).toInt32 = Int32.ofInt z) (k : Ok sh M pc' ls (vi z :: st) σ Q) : Ok sh M pc ls (st) σ Q := by
  intro l p e s m args below meth c D dA ad H locs la C hH hL hS
  exact lv_bipush C.2.1 C.2.2.1 (C.1.dec hd hn) hv (Ok.go k C hH hL ⟨hr, hS⟩ hn (by rfl))
theorem ok_sipush (i : Nat) {z : Int} (hd : nth (eTab M) i = some (pc, .sipush z, pc')) (hn : pc + 3 = pc') (hr : rg z) (hv : (Int16.ofInt z).toInt32 = Int32.ofInt z) (k : Ok sh M pc' ls (vi z :: st) σ Q) : Ok sh M pc ls (st) σ Q := by
  intro l p e s m args below meth c D dA ad H locs la C hH hL hS
  exact lv_sipush C.2.1 C.2.2.1 (C.1.dec hd hn) hv (Ok.go k C hH hL ⟨hr, hS⟩ hn (by rfl))
theorem ok_lconst (i : Nat) {z : Fin 2} {w : Int} (hd : nth (eTab M) i = some (pc, .lconst z, pc')) (hn : pc + 1 = pc') (hw : Int64.ofNat z.val = Int64.ofInt w) (hr : rl w) (k : Ok sh M pc' ls (vl w :: st) σ Q) : Ok sh M pc ls st σ Q := by
  intro l p e s m args below meth c D dA ad H locs la C hH hL hS
  exact lv_lconst C.2.1 C.2.2.1 (C.1.dec hd hn) hw (Ok.go k C hH hL ⟨hr, hS⟩ hn rfl)
theorem ok_ldcw (i : Nat) {x : Nat} (z : Int) (hd : nth (eTab M) i = some (pc, .ldc_w x, pc')) (hn : pc + 3 = pc') (hc : Cond.constant (eOwn M) x (Int32.ofInt z) ∈ eTbl) (hr : rg z) (k : Ok sh M pc' ls (vi z :: st) σ Q) : Ok sh M pc ls st σ Q := by
  intro l p e s m args below meth c D dA ad H locs la C hH hL hS
  exact lv_ldcw C.2.1 C.2.2.1 C.2.2.2.2.2.2.1 (C.2.2.2.2.2.2.2.1 _ hc) (C.1.dec hd hn) (Ok.go k C hH hL ⟨hr, hS⟩ hn rfl)
theorem ok_ldc2 (i : Nat) {x : Nat} (z : Int) (hd : nth (eTab M) i = some (pc, .ldc2_w x, pc')) (hn : pc + 3 = pc') (hc : Cond.constantLong (eOwn M) x (Int64.ofInt z) ∈ eTbl) (hr : rl z) (k : Ok sh M pc' ls (vl z :: st) σ Q) : Ok sh M pc ls st σ Q := by
  intro l p e s m args below meth c D dA ad H locs la C hH hL hS
  exact lv_ldc2 C.2.1 C.2.2.1 C.2.2.2.2.2.2.1 (C.2.2.2.2.2.2.2.1 _ hc) (C.1.dec hd hn) (Ok.go k C hH hL ⟨hr, hS⟩ hn rfl)
theorem ok_null (i : Nat) (hd : nth (eTab M) i = some (pc, .aconst_null, pc')) (hn : pc + 1 = pc') (k : Ok sh M pc' ls (vn :: st) σ Q) : Ok sh M pc ls st σ Q := by
  intro l p e s m args below meth c D dA ad H locs la C hH hL hS
  exact lv_null C.2.1 C.2.2.1 (C.1.dec hd hn) (Ok.go k C hH hL ⟨trivial, hS⟩ hn rfl)
theorem ok_dup (i : Nat) {v : eV} (hd : nth (eTab M) i = some (pc, .dup, pc')) (hn : pc + 1 = pc') (hc : eCat v = 1) (k : Ok sh M pc' ls (v :: v :: st) σ Q) : Ok sh M pc ls (v :: st) σ Q := by
  intro l p e s m args below meth c D dA ad H locs la C hH hL hS
  exact lv_dup C.2.1 C.2.2.1 (C.1.dec hd hn) (by rw [eR_cat]; exact hc) (Ok.go k C hH hL ⟨hS.1, hS⟩ hn rfl)
theorem ok_dup2 (i : Nat) {v w : eV} (hd : nth (eTab M) i = some (pc, .dup2, pc')) (hn : pc + 1 = pc') (hc : eCat v = 1 ∧ eCat w = 1) (k : Ok sh M pc' ls (v :: w :: v :: w :: st) σ Q) : Ok sh M pc ls (v :: w :: st) σ Q := by
  intro l p e s m args below meth c D dA ad H locs la C hH hL hS
  exact lv_dup2_11 C.2.1 C.2.2.1 (C.1.dec hd hn) (by rw [eR_cat]; exact hc.1) (by rw [eR_cat]; exact hc.2) (Ok.go k C hH hL ⟨hS.1, hS.2.1, hS⟩ hn rfl)
theorem ok_pop (i : Nat) {v : eV} (hd : nth (eTab M) i = some (pc, .pop, pc')) (hn : pc + 1 = pc') (hc : eCat v = 1) (k : Ok sh M pc' ls st σ Q) : Ok sh M pc ls (v :: st) σ Q := by
  intro l p e s m args below meth c D dA ad H locs la C hH hL hS
  exact lv_pop C.2.1 C.2.2.1 (C.1.dec hd hn) (by rw [eR_cat]; exact hc) (Ok.go k C hH hL hS.2 hn rfl)
theorem ok_goto (i : Nat) {off : Int} (tgt : Nat) (hd : nth (eTab M) i = some (pc, .goto off, pc')) (hn : pc + 3 = pc') (ht : (pc : Int) + off = (tgt : Int)) (k : Ok sh M tgt ls st σ Q) : Ok sh M pc ls st σ Q := by
  intro l p e s m args below meth c D dA ad H locs la C hH hL hS
  exact lv_goto C.2.1 C.2.2.1 (C.1.dec hd hn) ht (Ok.go k C hH hL hS rfl rfl)
theorem ok_icmp_eq (i : Nat) {off : Int} {a b : Int} (tgt : Nat) (hd : nth (eTab M) i = some (pc, .if_icmp .eq off, pc')) (hn : pc + 3 = pc') (ht : (pc : Int) + off = (tgt : Int)) (kt : a = b → Ok sh M tgt ls st σ Q) (kf : ¬ a = b → Ok sh M pc' ls st σ Q) : Ok sh M pc ls (vi b :: vi a :: st) σ Q := by
  intro l p e s m args below meth c D dA ad H locs la C hH hL hS
  obtain ⟨hb, ha, hs⟩ := hS
  have e1 := rg_eq ha hb
  have e2 := rg_lt ha hb
  have e3 := rg_le ha hb
  have e4 := rg_lt hb ha
  have e5 := rg_le hb ha
  refine lv_icmp_eq C.2.1 C.2.2.1 (C.1.dec hd hn) ht (fun h => Ok.go (kt ?_) C hH hL hs rfl rfl) (fun h => Ok.go (kf ?_) C hH hL hs hn rfl)
  · simp only [e1, e2, e3, e4, e5] at h
    omega
  · simp only [e1, e2, e3, e4, e5] at h
    omega
theorem ok_if_eq (i : Nat) {off : Int} {a : Int} (tgt : Nat) (hd : nth (eTab M) i = some (pc, .ifCond .eq off, pc')) (hn : pc + 3 = pc') (ht : (pc : Int) + off = (tgt : Int)) (kt : a = 0 → Ok sh M tgt ls st σ Q) (kf : ¬ a = 0 → Ok sh M pc' ls st σ Q) : Ok sh M pc ls (vi a :: st) σ Q := by
  intro l p e s m args below meth c D dA ad H locs la C hH hL hS
  obtain ⟨ha, hs⟩ := hS
  have e1 := rg_eq ha rg_0
  have e2 := rg_lt ha rg_0
  have e3 := rg_le ha rg_0
  have e4 := rg_lt rg_0 ha
  have e5 := rg_le rg_0 ha
  rw [of_0] at e1 e2 e3 e4 e5
  refine lv_if_eq C.2.1 C.2.2.1 (C.1.dec hd hn) ht (fun h => Ok.go (kt ?_) C hH hL hs rfl rfl) (fun h => Ok.go (kf ?_) C hH hL hs hn rfl)
  · simp only [e1, e2, e3, e4, e5] at h
    omega
  · simp only [e1, e2, e3, e4, e5] at h
    omega
theorem ok_icmp_ne (i : Nat) {off : Int} {a b : Int} (tgt : Nat) (hd : nth (eTab M) i = some (pc, .if_icmp .ne off, pc')) (hn : pc + 3 = pc') (ht : (pc : Int) + off = (tgt : Int)) (kt : ¬ a = b → Ok sh M tgt ls st σ Q) (kf : a = b → Ok sh M pc' ls st σ Q) : Ok sh M pc ls (vi b :: vi a :: st) σ Q := by
  intro l p e s m args below meth c D dA ad H locs la C hH hL hS
  obtain ⟨hb, ha, hs⟩ := hS
  have e1 := rg_eq ha hb
  have e2 := rg_lt ha hb
  have e3 := rg_le ha hb
  have e4 := rg_lt hb ha
  have e5 := rg_le hb ha
  refine lv_icmp_ne C.2.1 C.2.2.1 (C.1.dec hd hn) ht (fun h => Ok.go (kt ?_) C hH hL hs rfl rfl) (fun h => Ok.go (kf ?_) C hH hL hs hn rfl)
  · simp only [e1, e2, e3, e4, e5] at h
    omega
  · simp only [e1, e2, e3, e4, e5] at h
    omega
theorem ok_if_ne (i : Nat) {off : Int} {a : Int} (tgt : Nat) (hd : nth (eTab M) i = some (pc, .ifCond .ne off, pc')) (hn : pc + 3 = pc') (ht : (pc : Int) + off = (tgt : Int)) (kt : ¬ a = 0 → Ok sh M tgt ls st σ Q) (kf : a = 0 → Ok sh M pc' ls st σ Q) : Ok sh M pc ls (vi a :: st) σ Q := by
  intro l p e s m args below meth c D dA ad H locs la C hH hL hS
  obtain ⟨ha, hs⟩ := hS
  have e1 := rg_eq ha rg_0
  have e2 := rg_lt ha rg_0
  have e3 := rg_le ha rg_0
  have e4 := rg_lt rg_0 ha
  have e5 := rg_le rg_0 ha
  rw [of_0] at e1 e2 e3 e4 e5
  refine lv_if_ne C.2.1 C.2.2.1 (C.1.dec hd hn) ht (fun h => Ok.go (kt ?_) C hH hL hs rfl rfl) (fun h => Ok.go (kf ?_) C hH hL hs hn rfl)
  · simp only [e1, e2, e3, e4, e5] at h
    omega
  · simp only [e1, e2, e3, e4, e5] at h
    omega
theorem ok_icmp_lt (i : Nat) {off : Int} {a b : Int} (tgt : Nat) (hd : nth (eTab M) i = some (pc, .if_icmp .lt off, pc')) (hn : pc + 3 = pc') (ht : (pc : Int) + off = (tgt : Int)) (kt : a < b → Ok sh M tgt ls st σ Q) (kf : b ≤ a → Ok sh M pc' ls st σ Q) : Ok sh M pc ls (vi b :: vi a :: st) σ Q := by
  intro l p e s m args below meth c D dA ad H locs la C hH hL hS
  obtain ⟨hb, ha, hs⟩ := hS
  have e1 := rg_eq ha hb
  have e2 := rg_lt ha hb
  have e3 := rg_le ha hb
  have e4 := rg_lt hb ha
  have e5 := rg_le hb ha
  refine lv_icmp_lt C.2.1 C.2.2.1 (C.1.dec hd hn) ht (fun h => Ok.go (kt ?_) C hH hL hs rfl rfl) (fun h => Ok.go (kf ?_) C hH hL hs hn rfl)
  · simp only [e1, e2, e3, e4, e5] at h
    omega
  · simp only [e1, e2, e3, e4, e5] at h
    omega
theorem ok_if_lt (i : Nat) {off : Int} {a : Int} (tgt : Nat) (hd : nth (eTab M) i = some (pc, .ifCond .lt off, pc')) (hn : pc + 3 = pc') (ht : (pc : Int) + off = (tgt : Int)) (kt : a < 0 → Ok sh M tgt ls st σ Q) (kf : 0 ≤ a → Ok sh M pc' ls st σ Q) : Ok sh M pc ls (vi a :: st) σ Q := by
  intro l p e s m args below meth c D dA ad H locs la C hH hL hS
  obtain ⟨ha, hs⟩ := hS
  have e1 := rg_eq ha rg_0
  have e2 := rg_lt ha rg_0
  have e3 := rg_le ha rg_0
  have e4 := rg_lt rg_0 ha
  have e5 := rg_le rg_0 ha
  rw [of_0] at e1 e2 e3 e4 e5
  refine lv_if_lt C.2.1 C.2.2.1 (C.1.dec hd hn) ht (fun h => Ok.go (kt ?_) C hH hL hs rfl rfl) (fun h => Ok.go (kf ?_) C hH hL hs hn rfl)
  · simp only [e1, e2, e3, e4, e5] at h
    omega
  · simp only [e1, e2, e3, e4, e5] at h
    omega
theorem ok_icmp_ge (i : Nat) {off : Int} {a b : Int} (tgt : Nat) (hd : nth (eTab M) i = some (pc, .if_icmp .ge off, pc')) (hn : pc + 3 = pc') (ht : (pc : Int) + off = (tgt : Int)) (kt : b ≤ a → Ok sh M tgt ls st σ Q) (kf : a < b → Ok sh M pc' ls st σ Q) : Ok sh M pc ls (vi b :: vi a :: st) σ Q := by
  intro l p e s m args below meth c D dA ad H locs la C hH hL hS
  obtain ⟨hb, ha, hs⟩ := hS
  have e1 := rg_eq ha hb
  have e2 := rg_lt ha hb
  have e3 := rg_le ha hb
  have e4 := rg_lt hb ha
  have e5 := rg_le hb ha
  refine lv_icmp_ge C.2.1 C.2.2.1 (C.1.dec hd hn) ht (fun h => Ok.go (kt ?_) C hH hL hs rfl rfl) (fun h => Ok.go (kf ?_) C hH hL hs hn rfl)
  · simp only [e1, e2, e3, e4, e5] at h
    omega
  · simp only [e1, e2, e3, e4, e5] at h
    omega
theorem ok_if_ge (i : Nat) {off : Int} {a : Int} (tgt : Nat) (hd : nth (eTab M) i = some (pc, .ifCond .ge off, pc')) (hn : pc + 3 = pc') (ht : (pc : Int) + off = (tgt : Int)) (kt : 0 ≤ a → Ok sh M tgt ls st σ Q) (kf : a < 0 → Ok sh M pc' ls st σ Q) : Ok sh M pc ls (vi a :: st) σ Q := by
  intro l p e s m args below meth c D dA ad H locs la C hH hL hS
  obtain ⟨ha, hs⟩ := hS
  have e1 := rg_eq ha rg_0
  have e2 := rg_lt ha rg_0
  have e3 := rg_le ha rg_0
  have e4 := rg_lt rg_0 ha
  have e5 := rg_le rg_0 ha
  rw [of_0] at e1 e2 e3 e4 e5
  refine lv_if_ge C.2.1 C.2.2.1 (C.1.dec hd hn) ht (fun h => Ok.go (kt ?_) C hH hL hs rfl rfl) (fun h => Ok.go (kf ?_) C hH hL hs hn rfl)
  · simp only [e1, e2, e3, e4, e5] at h
    omega
  · simp only [e1, e2, e3, e4, e5] at h
    omega
theorem ok_icmp_gt (i : Nat) {off : Int} {a b : Int} (tgt : Nat) (hd : nth (eTab M) i = some (pc, .if_icmp .gt off, pc')) (hn : pc + 3 = pc') (ht : (pc : Int) + off = (tgt : Int)) (kt : b < a → Ok sh M tgt ls st σ Q) (kf : a ≤ b → Ok sh M pc' ls st σ Q) : Ok sh M pc ls (vi b :: vi a :: st) σ Q := by
  intro l p e s m args below meth c D dA ad H locs la C hH hL hS
  obtain ⟨hb, ha, hs⟩ := hS
  have e1 := rg_eq ha hb
  have e2 := rg_lt ha hb
  have e3 := rg_le ha hb
  have e4 := rg_lt hb ha
  have e5 := rg_le hb ha
  refine lv_icmp_gt C.2.1 C.2.2.1 (C.1.dec hd hn) ht (fun h => Ok.go (kt ?_) C hH hL hs rfl rfl) (fun h => Ok.go (kf ?_) C hH hL hs hn rfl)
  · simp only [e1, e2, e3, e4, e5] at h
    omega
  · simp only [e1, e2, e3, e4, e5] at h
    omega
theorem ok_if_gt (i : Nat) {off : Int} {a : Int} (tgt : Nat) (hd : nth (eTab M) i = some (pc, .ifCond .gt off, pc')) (hn : pc + 3 = pc') (ht : (pc : Int) + off = (tgt : Int)) (kt : 0 < a → Ok sh M tgt ls st σ Q) (kf : a ≤ 0 → Ok sh M pc' ls st σ Q) : Ok sh M pc ls (vi a :: st) σ Q := by
  intro l p e s m args below meth c D dA ad H locs la C hH hL hS
  obtain ⟨ha, hs⟩ := hS
  have e1 := rg_eq ha rg_0
  have e2 := rg_lt ha rg_0
  have e3 := rg_le ha rg_0
  have e4 := rg_lt rg_0 ha
  have e5 := rg_le rg_0 ha
  rw [of_0] at e1 e2 e3 e4 e5
  refine lv_if_gt C.2.1 C.2.2.1 (C.1.dec hd hn) ht (fun h => Ok.go (kt ?_) C hH hL hs rfl rfl) (fun h => Ok.go (kf ?_) C hH hL hs hn rfl)
  · simp only [e1, e2, e3, e4, e5] at h
    omega
  · simp only [e1, e2, e3, e4, e5] at h
    omega
theorem ok_icmp_le (i : Nat) {off : Int} {a b : Int} (tgt : Nat) (hd : nth (eTab M) i = some (pc, .if_icmp .le off, pc')) (hn : pc + 3 = pc') (ht : (pc : Int) + off = (tgt : Int)) (kt : a ≤ b → Ok sh M tgt ls st σ Q) (kf : b < a → Ok sh M pc' ls st σ Q) : Ok sh M pc ls (vi b :: vi a :: st) σ Q := by
  intro l p e s m args below meth c D dA ad H locs la C hH hL hS
  obtain ⟨hb, ha, hs⟩ := hS
  have e1 := rg_eq ha hb
  have e2 := rg_lt ha hb
  have e3 := rg_le ha hb
  have e4 := rg_lt hb ha
  have e5 := rg_le hb ha
  refine lv_icmp_le C.2.1 C.2.2.1 (C.1.dec hd hn) ht (fun h => Ok.go (kt ?_) C hH hL hs rfl rfl) (fun h => Ok.go (kf ?_) C hH hL hs hn rfl)
  · simp only [e1, e2, e3, e4, e5] at h
    omega
  · simp only [e1, e2, e3, e4, e5] at h
    omega
theorem ok_if_le (i : Nat) {off : Int} {a : Int} (tgt : Nat) (hd : nth (eTab M) i = some (pc, .ifCond .le off, pc')) (hn : pc + 3 = pc') (ht : (pc : Int) + off = (tgt : Int)) (kt : a ≤ 0 → Ok sh M tgt ls st σ Q) (kf : 0 < a → Ok sh M pc' ls st σ Q) : Ok sh M pc ls (vi a :: st) σ Q := by
  intro l p e s m args below meth c D dA ad H locs la C hH hL hS
  obtain ⟨ha, hs⟩ := hS
  have e1 := rg_eq ha rg_0
  have e2 := rg_lt ha rg_0
  have e3 := rg_le ha rg_0
  have e4 := rg_lt rg_0 ha
  have e5 := rg_le rg_0 ha
  rw [of_0] at e1 e2 e3 e4 e5
  refine lv_if_le C.2.1 C.2.2.1 (C.1.dec hd hn) ht (fun h => Ok.go (kt ?_) C hH hL hs rfl rfl) (fun h => Ok.go (kf ?_) C hH hL hs hn rfl)
  · simp only [e1, e2, e3, e4, e5] at h
    omega
  · simp only [e1, e2, e3, e4, e5] at h
    omega
end E1
end
section
def eAl (ad : Nat → Nat) : Nat → List (Option eV) → List (Nat × Value)
  | _, [] => []
  | n, none :: l => eAl ad (n + 1) l
  | n, some v :: l => (n, eR ad v) :: eAl ad (n + 1) l
theorem eAl_mem (ad : Nat → Nat) : ∀ (l : List (Option eV)) (n i : Nat) (v : eV), l[i]? = some (some v) → (n + i, eR ad v) ∈ eAl ad n l
  | [], n, i, v, h => by simp at h
  | a :: l, n, 0, v, h => by
    simp only [List.getElem?_cons_zero, Option.some.injEq] at h
    subst h
    exact List.mem_cons_self
  | a :: l, n, i + 1, v, h => by
    rw [List.getElem?_cons_succ] at h
    have h1 := eAl_mem ad l (n + 1) i v h
    rw [show n + 1 + i = n + (i + 1) by omega] at h1
    cases a with
    | none => exact h1
    | some w => exact List.mem_cons_of_mem _ h1
theorem eAl_inv (ad : Nat → Nat) : ∀ (l : List (Option eV)) (n : Nat) (q : Nat × Value), q ∈ eAl ad n l → ∃ (i : Nat) (v : eV), q = (n + i, eR ad v) ∧ l[i]? = some (some v)
  | [], n, q, h => by cases h
  | none :: l, n, q, h => by
    obtain ⟨i, v, h1, h2⟩ := eAl_inv ad l (n + 1) q h
    exact ⟨i + 1, v, by rw [h1]; congr 1; omega, by rw [List.getElem?_cons_succ]; exact h2⟩
  | some w :: l, n, q, h => by
    rcases List.mem_cons.mp h with h | h
    · exact ⟨0, w, h, rfl⟩
    · obtain ⟨i, v, h1, h2⟩ := eAl_inv ad l (n + 1) q h
      exact ⟨i + 1, v, by rw [h1]; congr 1; omega, by rw [List.getElem?_cons_succ]; exact h2⟩
theorem eLs.has {la : Array Slot} {nL : Nat} {ad : Nat → Nat} {ls : List (Option eV)} (h : eLs la nL ad ls) : lv_has la nL (eAl ad 0 ls) := by
  refine ⟨h.1, h.2.2.1, fun q hq => ?_⟩
  obtain ⟨i, v, rfl, h2⟩ := eAl_inv ad ls 0 q hq
  rw [Nat.zero_add]
  exact (h.2.2.2 i v h2).1
def eClr : Option eV → Option eV
  | some (.inr (.inl _)) => none
  | x => x
def eNl : Option eV → Bool
  | some (.inr (.inl _)) => false
  | _ => true
theorem eClr_id {x : Option eV} (h : eNl x = true) : eClr x = x := by
  rcases x with _ | (z | z | _ | c) <;> first | rfl | cases h
theorem eClr_some {x : Option eV} {v : eV} (h : eClr x = some v) : x = some v ∧ eCat v = 1 := by
  rcases x with _ | (z | z | _ | c)
  · cases h
  · cases h; exact ⟨rfl, rfl⟩
  · cases h
  · cases h; exact ⟨rfl, rfl⟩
  · cases h; exact ⟨rfl, rfl⟩
def eSet : Nat → eV → List (Option eV) → List (Option eV)
  | _, _, [] => []
  | 0, v, _ :: l => some v :: l
  | 1, v, a :: _ :: l => eClr a :: some v :: l
  | 1, _, [a] => [a]
  | n + 2, v, a :: l => a :: eSet (n + 1) v l
theorem eSet_len : ∀ (n : Nat) (v : eV) (l : List (Option eV)), (eSet n v l).length = l.length
  | _, _, [] => by simp [eSet]
  | 0, v, _ :: l => rfl
  | 1, v, a :: _ :: l => rfl
  | 1, _, [a] => rfl
  | n + 2, v, a :: l => by show (a :: eSet (n + 1) v l).length = _; rw [List.length_cons, eSet_len (n + 1) v l, List.length_cons]
theorem eSet_at : ∀ (n : Nat) (v : eV) (l : List (Option eV)) (i : Nat) (w : eV), n < l.length → (eSet n v l)[i]? = some (some w) → (i = n ∧ w = v) ∨ (i ≠ n ∧ l[i]? = some (some w) ∧ ¬ (i + 1 = n ∧ eCat w = 2))
  | _, _, [], i, w, h, _ => by cases h
  | 0, v, _ :: l, 0, w, _, h => by cases h; exact Or.inl ⟨rfl, rfl⟩
  | 0, v, _ :: l, i + 1, w, _, h => Or.inr ⟨by omega, h, by omega⟩
  | 1, v, a :: _ :: l, 0, w, _, h => by
    have h1 : eClr a = some w := by simpa [eSet] using h
    obtain ⟨h2, h3⟩ := eClr_some h1
    exact Or.inr ⟨by omega, by rw [h2]; rfl, by omega⟩
  | 1, v, a :: _ :: l, 1, w, _, h => by cases h; exact Or.inl ⟨rfl, rfl⟩
  | 1, v, a :: _ :: l, i + 2, w, _, h => Or.inr ⟨by omega, h, by omega⟩
  | 1, _, [a], i, w, h, _ => by simp at h
  | n + 2, v, a :: l, 0, w, _, h => Or.inr ⟨by omega, h, by omega⟩
  | n + 2, v, a :: l, i + 1, w, hl, h => by
    have h1 : (eSet (n + 1) v l)[i]? = some (some w) := h
    rcases eSet_at (n + 1) v l i w (by have h9 : n + 2 < l.length + 1 := by simpa using hl
                                       omega) h1 with ⟨h2, h3⟩ | ⟨h2, h3, h4⟩
    · exact Or.inl ⟨by omega, h3⟩
    · exact Or.inr ⟨by omega, h3, by omega⟩
/-- a long's second half: what stood there is gone -/
def eDrop : Nat → List (Option eV) → List (Option eV)
  | _, [] => []
  | 0, _ :: l => none :: l
  | n + 1, a :: l => a :: eDrop n l
theorem eDrop_len : ∀ (n : Nat) (l : List (Option eV)), (eDrop n l).length = l.length
  | _, [] => by simp [eDrop]
  | 0, _ :: l => rfl
  | n + 1, a :: l => by show (a :: eDrop n l).length = _; rw [List.length_cons, eDrop_len n l, List.length_cons]
theorem eDrop_at : ∀ (n : Nat) (l : List (Option eV)) (i : Nat) (w : eV), (eDrop n l)[i]? = some (some w) → i ≠ n ∧ l[i]? = some (some w)
  | _, [], i, w, h => by simp [eDrop] at h
  | 0, _ :: l, 0, w, h => by simp [eDrop] at h
  | 0, _ :: l, i + 1, w, h => ⟨by omega, h⟩
  | n + 1, a :: l, 0, w, h => ⟨by omega, h⟩
  | n + 1, a :: l, i + 1, w, h => by
    have h1 : (eDrop n l)[i]? = some (some w) := h
    obtain ⟨h2, h3⟩ := eDrop_at n l i w h1
    exact ⟨by omega, h3⟩
theorem eLs.st1 {la la' : Array Slot} {nL : Nat} {ad : Nat → Nat} {ls : List (Option eV)} {j : Nat} {v : eV} (h : eLs la nL ad ls) (hj : j < nL) (hk : eK v) (h' : lv_has la' nL ((j, eR ad v) :: (eAl ad 0 ls).filter (fun q => !(q.1 == j) && !(q.1 + 1 == j && q.2.category == 2)))) : eLs la' nL ad (eSet j v ls) := by
  refine ⟨h'.1, by rw [eSet_len]; exact h.2.1, h'.2.1, fun i w hw => ?_⟩
  rcases eSet_at j v ls i w (by rw [h.2.1]; exact hj) hw with ⟨rfl, rfl⟩ | ⟨h1, h2, h3⟩
  · exact ⟨h'.2.2 _ List.mem_cons_self, hk⟩
  · refine ⟨h'.2.2 (i, eR ad w) (List.mem_cons_of_mem _ (List.mem_filter.mpr ⟨?_, ?_⟩)), (h.2.2.2 i w h2).2⟩
    · have := eAl_mem ad ls 0 i w h2
      rwa [Nat.zero_add] at this
    · simp only [eR_cat, Bool.and_eq_true, Bool.not_eq_true', beq_eq_false_iff_ne, ne_eq, Bool.and_eq_false_iff]
      refine ⟨h1, ?_⟩
      by_cases q : i + 1 = j
      · exact Or.inr fun z => h3 ⟨q, z⟩
      · exact Or.inl q
theorem eLs.st2 {la la' : Array Slot} {nL : Nat} {ad : Nat → Nat} {ls : List (Option eV)} {j : Nat} {v : eV} (h : eLs la nL ad ls) (hj : j < nL) (hk : eK v) (h' : lv_has la' nL ((j, eR ad v) :: (eAl ad 0 ls).filter (fun q => !(q.1 == j) && (!(q.1 == j + 1) && !(q.1 + 1 == j && q.2.category == 2))))) : eLs la' nL ad (eDrop (j + 1) (eSet j v ls)) := by
  refine ⟨h'.1, by rw [eDrop_len, eSet_len]; exact h.2.1, h'.2.1, fun i w hw => ?_⟩
  obtain ⟨h0, hw⟩ := eDrop_at _ _ _ _ hw
  rcases eSet_at j v ls i w (by rw [h.2.1]; exact hj) hw with ⟨rfl, rfl⟩ | ⟨h1, h2, h3⟩
  · exact ⟨h'.2.2 _ List.mem_cons_self, hk⟩
  · refine ⟨h'.2.2 (i, eR ad w) (List.mem_cons_of_mem _ (List.mem_filter.mpr ⟨?_, ?_⟩)), (h.2.2.2 i w h2).2⟩
    · have := eAl_mem ad ls 0 i w h2
      rwa [Nat.zero_add] at this
    · simp only [eR_cat, Bool.and_eq_true, Bool.not_eq_true', beq_eq_false_iff_ne, ne_eq, Bool.and_eq_false_iff]
      refine ⟨h1, h0, ?_⟩
      by_cases q : i + 1 = j
      · exact Or.inr fun z => h3 ⟨q, z⟩
      · exact Or.inl q
section E2
variable {sh : eSh} {M : eM} {pc pc' tgt : Nat} {ls : List (Option eV)} {st st' : List eV} {σ : eS} {Q : eS → Option eV → Prop}
theorem ok_iload_n (i : Nat) {k : Fin 4} {z : Int} (hd : nth (eTab M) i = some (pc, .iload_n k, pc')) (hn : pc + 1 = pc') (hl : nth ls k.val = some (some (vi z))) (K : Ok sh M pc' ls (vi z :: st) σ Q) : Ok sh M pc ls st σ Q := by
  intro l p e s m args below meth c D dA ad H locs la C hH hL hS
  have h := hL.2.2.2 _ _ (nth_get hl)
  exact lv_iload_n C.2.1 C.2.2.1 (C.1.dec hd hn) rfl h.1 (Ok.go K C hH hL ⟨h.2, hS⟩ hn rfl)
theorem ok_iload (i : Nat) {k : Nat} {z : Int} (hd : nth (eTab M) i = some (pc, .iload k, pc')) (hn : pc + 2 = pc') (hl : nth ls k = some (some (vi z))) (K : Ok sh M pc' ls (vi z :: st) σ Q) : Ok sh M pc ls st σ Q := by
  intro l p e s m args below meth c D dA ad H locs la C hH hL hS
  have h := hL.2.2.2 _ _ (nth_get hl)
  exact lv_iload C.2.1 C.2.2.1 (C.1.dec hd hn) h.1 (Ok.go K C hH hL ⟨h.2, hS⟩ hn rfl)
theorem ok_lload_n (i : Nat) {k : Fin 4} {z : Int} (hd : nth (eTab M) i = some (pc, .lload_n k, pc')) (hn : pc + 1 = pc') (hl : nth ls k.val = some (some (vl z))) (K : Ok sh M pc' ls (vl z :: st) σ Q) : Ok sh M pc ls st σ Q := by
  intro l p e s m args below meth c D dA ad H locs la C hH hL hS
  have h := hL.2.2.2 _ _ (nth_get hl)
  exact lv_lload_n C.2.1 C.2.2.1 (C.1.dec hd hn) rfl h.1 (Ok.go K C hH hL ⟨h.2, hS⟩ hn rfl)
theorem ok_lload (i : Nat) {k : Nat} {z : Int} (hd : nth (eTab M) i = some (pc, .lload k, pc')) (hn : pc + 2 = pc') (hl : nth ls k = some (some (vl z))) (K : Ok sh M pc' ls (vl z :: st) σ Q) : Ok sh M pc ls st σ Q := by
  intro l p e s m args below meth c D dA ad H locs la C hH hL hS
  have h := hL.2.2.2 _ _ (nth_get hl)
  exact lv_lload C.2.1 C.2.2.1 (C.1.dec hd hn) h.1 (Ok.go K C hH hL ⟨h.2, hS⟩ hn rfl)
theorem ok_aload_n (i : Nat) {k : Fin 4} {z : Option Nat} (hd : nth (eTab M) i = some (pc, .aload_n k, pc')) (hn : pc + 1 = pc') (hl : nth ls k.val = some (some (.inr (.inr z)))) (K : Ok sh M pc' ls (.inr (.inr z) :: st) σ Q) : Ok sh M pc ls st σ Q := by
  intro l p e s m args below meth c D dA ad H locs la C hH hL hS
  have h := hL.2.2.2 _ _ (nth_get hl)
  cases z with
  | none => exact lv_aload_nN C.2.1 C.2.2.1 (C.1.dec hd hn) rfl h.1 (Ok.go K C hH hL ⟨h.2, hS⟩ hn rfl)
  | some z => exact lv_aload_n C.2.1 C.2.2.1 (C.1.dec hd hn) rfl h.1 (Ok.go K C hH hL ⟨h.2, hS⟩ hn rfl)
theorem ok_aload (i : Nat) {k : Nat} {z : Option Nat} (hd : nth (eTab M) i = some (pc, .aload k, pc')) (hn : pc + 2 = pc') (hl : nth ls k = some (some (.inr (.inr z)))) (K : Ok sh M pc' ls (.inr (.inr z) :: st) σ Q) : Ok sh M pc ls st σ Q := by
  intro l p e s m args below meth c D dA ad H locs la C hH hL hS
  have h := hL.2.2.2 _ _ (nth_get hl)
  cases z with
  | none => exact lv_aloadN C.2.1 C.2.2.1 (C.1.dec hd hn) h.1 (Ok.go K C hH hL ⟨h.2, hS⟩ hn rfl)
  | some z => exact lv_aload C.2.1 C.2.2.1 (C.1.dec hd hn) h.1 (Ok.go K C hH hL ⟨h.2, hS⟩ hn rfl)
theorem og_istore_n (i : Nat) {k : Nat} {kf : Fin 4} {z : Int} (hd : nth (eTab M) i = some (pc, .istore_n kf, pc')) (hn : pc + 1 = pc') (hk : kf.val = k) (hl : k < eNL M) (K : Ok sh M pc' (eSet k (vi z) ls) st σ Q) : Ok sh M pc ls (vi z :: st) σ Q := by
  intro l p e s m args below meth c D dA ad H locs la C hH hL hS
  exact lv_istore_n C.2.1 C.2.2.1 (C.1.dec hd hn) hk hL.has hl rfl (fun la' h' => Ok.go K C hH (hL.st1 (by omega) hS.1 h') hS.2 hn rfl)
theorem og_istore (i : Nat) {k : Nat} {z : Int} (hd : nth (eTab M) i = some (pc, .istore k, pc')) (hn : pc + 2 = pc') (hl : k < eNL M) (K : Ok sh M pc' (eSet k (vi z) ls) st σ Q) : Ok sh M pc ls (vi z :: st) σ Q := by
  intro l p e s m args below meth c D dA ad H locs la C hH hL hS
  exact lv_istore C.2.1 C.2.2.1 (C.1.dec hd hn) hL.has hl rfl (fun la' h' => Ok.go K C hH (hL.st1 (by omega) hS.1 h') hS.2 hn rfl)
theorem og_lstore_n (i : Nat) {k : Nat} {kf : Fin 4} {z : Int} (hd : nth (eTab M) i = some (pc, .lstore_n kf, pc')) (hn : pc + 1 = pc') (hk : kf.val = k) (hl : k + 1 < eNL M) (K : Ok sh M pc' (eDrop (k + 1) (eSet k (vl z) ls)) st σ Q) : Ok sh M pc ls (vl z :: st) σ Q := by
  intro l p e s m args below meth c D dA ad H locs la C hH hL hS
  exact lv_lstore_n C.2.1 C.2.2.1 (C.1.dec hd hn) hk hL.has hl rfl (fun la' h' => Ok.go K C hH (hL.st2 (by omega) hS.1 h') hS.2 hn rfl)
theorem og_lstore (i : Nat) {k : Nat} {z : Int} (hd : nth (eTab M) i = some (pc, .lstore k, pc')) (hn : pc + 2 = pc') (hl : k + 1 < eNL M) (K : Ok sh M pc' (eDrop (k + 1) (eSet k (vl z) ls)) st σ Q) : Ok sh M pc ls (vl z :: st) σ Q := by
  intro l p e s m args below meth c D dA ad H locs la C hH hL hS
  exact lv_lstore C.2.1 C.2.2.1 (C.1.dec hd hn) hL.has hl rfl (fun la' h' => Ok.go K C hH (hL.st2 (by omega) hS.1 h') hS.2 hn rfl)
theorem og_astore_n (i : Nat) {k : Nat} {kf : Fin 4} {z : Nat} (hd : nth (eTab M) i = some (pc, .astore_n kf, pc')) (hn : pc + 1 = pc') (hk : kf.val = k) (hl : k < eNL M) (K : Ok sh M pc' (eSet k (vr z) ls) st σ Q) : Ok sh M pc ls (vr z :: st) σ Q := by
  intro l p e s m args below meth c D dA ad H locs la C hH hL hS
  exact lv_astore_n C.2.1 C.2.2.1 (C.1.dec hd hn) hk hL.has hl rfl (fun la' h' => Ok.go K C hH (hL.st1 (by omega) hS.1 h') hS.2 hn rfl)
theorem og_astore (i : Nat) {k : Nat} {z : Nat} (hd : nth (eTab M) i = some (pc, .astore k, pc')) (hn : pc + 2 = pc') (hl : k < eNL M) (K : Ok sh M pc' (eSet k (vr z) ls) st σ Q) : Ok sh M pc ls (vr z :: st) σ Q := by
  intro l p e s m args below meth c D dA ad H locs la C hH hL hS
  exact lv_astore C.2.1 C.2.2.1 (C.1.dec hd hn) hL.has hl rfl (fun la' h' => Ok.go K C hH (hL.st1 (by omega) hS.1 h') hS.2 hn rfl)
theorem og_astore_nN (i : Nat) {k : Nat} {kf : Fin 4} (hd : nth (eTab M) i = some (pc, .astore_n kf, pc')) (hn : pc + 1 = pc') (hk : kf.val = k) (hl : k < eNL M) (K : Ok sh M pc' (eSet k (vn) ls) st σ Q) : Ok sh M pc ls (vn :: st) σ Q := by
  intro l p e s m args below meth c D dA ad H locs la C hH hL hS
  exact lv_astore_nN C.2.1 C.2.2.1 (C.1.dec hd hn) hk hL.has hl rfl (fun la' h' => Ok.go K C hH (hL.st1 (by omega) hS.1 h') hS.2 hn rfl)
theorem og_astoreN (i : Nat) {k : Nat} (hd : nth (eTab M) i = some (pc, .astore k, pc')) (hn : pc + 2 = pc') (hl : k < eNL M) (K : Ok sh M pc' (eSet k (vn) ls) st σ Q) : Ok sh M pc ls (vn :: st) σ Q := by
  intro l p e s m args below meth c D dA ad H locs la C hH hL hS
  exact lv_astoreN C.2.1 C.2.2.1 (C.1.dec hd hn) hL.has hl rfl (fun la' h' => Ok.go K C hH (hL.st1 (by omega) hS.1 h') hS.2 hn rfl)
theorem og_astore_nO (i : Nat) {k : Nat} {kf : Fin 4} {z : Option Nat} (hd : nth (eTab M) i = some (pc, .astore_n kf, pc')) (hn : pc + 1 = pc') (hk : kf.val = k) (hl : k < eNL M) (K : Ok sh M pc' (eSet k (.inr (.inr z)) ls) st σ Q) : Ok sh M pc ls (.inr (.inr z) :: st) σ Q := by
  cases z with
  | none => exact og_astore_nN i hd hn hk hl K
  | some z => exact og_astore_n i hd hn hk hl K
theorem og_astoreO (i : Nat) {k : Nat} {z : Option Nat} (hd : nth (eTab M) i = some (pc, .astore k, pc')) (hn : pc + 2 = pc') (hl : k < eNL M) (K : Ok sh M pc' (eSet k (.inr (.inr z)) ls) st σ Q) : Ok sh M pc ls (.inr (.inr z) :: st) σ Q := by
  cases z with
  | none => exact og_astoreN i hd hn hl K
  | some z => exact og_astore i hd hn hl K
theorem og_len (k : ls.length = eNL M → Ok sh M pc ls st σ Q) : Ok sh M pc ls st σ Q := fun l p e s m args below meth c D dA ad H locs la C hH hL hS => k hL.2.1 l p e s m args below meth c D dA ad H locs la C hH hL hS
theorem og_iinc (i : Nat) {k : Nat} {n z : Int} (hd : nth (eTab M) i = some (pc, .iinc k n, pc')) (hn : pc + 3 = pc') (hl : nth ls k = some (some (vi z))) (hr : rg (z + n)) (K : Ok sh M pc' (eSet k (vi (z + n)) ls) st σ Q) : Ok sh M pc ls st σ Q := by
  intro l p e s m args below meth c D dA ad H locs la C hH hL hS
  have hj : k < eNL M := by rw [← hL.2.1]; exact (List.getElem?_eq_some_iff.mp (nth_get hl)).1
  have hm := eAl_mem ad ls 0 k (vi z) (nth_get hl)
  rw [Nat.zero_add] at hm
  obtain ⟨q, hq⟩ := List.getElem?_of_mem hm
  exact lv_iinc (v := Int32.ofInt (z + n)) C.2.1 C.2.2.1 (C.1.dec hd hn) hL.has hq (by rw [Int32.ofInt_add]) hj rfl (fun la' h' => Ok.go K C hH (hL.st1 hj hr h') hS hn rfl)
theorem ok_ist0 (i : Nat) {r : List (Option eV)} {y : Option eV} {z : Int} (hd : nth (eTab M) i = some (pc, .istore_n 0, pc')) (hn : pc + 1 = pc') (k : Ok sh M pc' (some (vi z) :: r) st σ Q) : Ok sh M pc (y :: r) (vi z :: st) σ Q :=
  og_len fun h => og_istore_n (k := 0) i hd hn rfl (by rw [← h]; simp) (by exact k)
theorem ok_lst0 (i : Nat) {r : List (Option eV)} {y2 : Option eV} {y : Option eV} {z : Int} (hd : nth (eTab M) i = some (pc, .lstore_n 0, pc')) (hn : pc + 1 = pc') (k : Ok sh M pc' (some (vl z) :: none :: r) st σ Q) : Ok sh M pc (y :: y2 :: r) (vl z :: st) σ Q :=
  og_len fun h => og_lstore_n (k := 0) i hd hn rfl (by rw [← h]; simp) (by exact k)
theorem ok_ist1 (i : Nat) {r : List (Option eV)} {x0 y : Option eV} {z : Int} (hd : nth (eTab M) i = some (pc, .istore_n 1, pc')) (hn : pc + 1 = pc') (hp : eNl x0 = true) (k : Ok sh M pc' (x0 :: some (vi z) :: r) st σ Q) : Ok sh M pc (x0 :: y :: r) (vi z :: st) σ Q :=
  og_len fun h => og_istore_n (k := 1) i hd hn rfl (by rw [← h]; simp) (by show Ok sh M pc' (eClr x0 :: some (vi z) :: r) st σ Q; rw [eClr_id hp]; exact k)
theorem ok_lst1 (i : Nat) {r : List (Option eV)} {y2 : Option eV} {x0 y : Option eV} {z : Int} (hd : nth (eTab M) i = some (pc, .lstore_n 1, pc')) (hn : pc + 1 = pc') (hp : eNl x0 = true) (k : Ok sh M pc' (x0 :: some (vl z) :: none :: r) st σ Q) : Ok sh M pc (x0 :: y :: y2 :: r) (vl z :: st) σ Q :=
  og_len fun h => og_lstore_n (k := 1) i hd hn rfl (by rw [← h]; simp) (by show Ok sh M pc' (eClr x0 :: some (vl z) :: none :: r) st σ Q; rw [eClr_id hp]; exact k)
theorem ok_inc1 (i : Nat) {r : List (Option eV)} {x0 : Option eV} {n z : Int} (hd : nth (eTab M) i = some (pc, .iinc 1 n, pc')) (hn : pc + 3 = pc') (hp : eNl x0 = true) (hr : rg (z + n)) (k : Ok sh M pc' (x0 :: some (vi (z + n)) :: r) st σ Q) : Ok sh M pc (x0 :: some (vi z) :: r) st σ Q :=
  og_iinc (k := 1) i hd hn rfl hr (by show Ok sh M pc' (eClr x0 :: some (vi (z + n)) :: r) st σ Q; rw [eClr_id hp]; exact k)
theorem ok_ist2 (i : Nat) {r : List (Option eV)} {x0 x1 y : Option eV} {z : Int} (hd : nth (eTab M) i = some (pc, .istore_n 2, pc')) (hn : pc + 1 = pc') (hp : eNl x1 = true) (k : Ok sh M pc' (x0 :: x1 :: some (vi z) :: r) st σ Q) : Ok sh M pc (x0 :: x1 :: y :: r) (vi z :: st) σ Q :=
  og_len fun h => og_istore_n (k := 2) i hd hn rfl (by rw [← h]; simp) (by show Ok sh M pc' (x0 :: eClr x1 :: some (vi z) :: r) st σ Q; rw [eClr_id hp]; exact k)
theorem ok_ast2 (i : Nat) {r : List (Option eV)} {x0 x1 y : Option eV} {z : Option Nat} (hd : nth (eTab M) i = some (pc, .astore_n 2, pc')) (hn : pc + 1 = pc') (hp : eNl x1 = true) (k : Ok sh M pc' (x0 :: x1 :: some (.inr (.inr z)) :: r) st σ Q) : Ok sh M pc (x0 :: x1 :: y :: r) (.inr (.inr z) :: st) σ Q :=
  og_len fun h => og_astore_nO (k := 2) i hd hn rfl (by rw [← h]; simp) (by show Ok sh M pc' (x0 :: eClr x1 :: some (.inr (.inr z)) :: r) st σ Q; rw [eClr_id hp]; exact k)
theorem ok_lst2 (i : Nat) {r : List (Option eV)} {y2 : Option eV} {x0 x1 y : Option eV} {z : Int} (hd : nth (eTab M) i = some (pc, .lstore_n 2, pc')) (hn : pc + 1 = pc') (hp : eNl x1 = true) (k : Ok sh M pc' (x0 :: x1 :: some (vl z) :: none :: r) st σ Q) : Ok sh M pc (x0 :: x1 :: y :: y2 :: r) (vl z :: st) σ Q :=
  og_len fun h => og_lstore_n (k := 2) i hd hn rfl (by rw [← h]; simp) (by show Ok sh M pc' (x0 :: eClr x1 :: some (vl z) :: none :: r) st σ Q; rw [eClr_id hp]; exact k)
theorem ok_inc2 (i : Nat) {r : List (Option eV)} {x0 x1 : Option eV} {n z : Int} (hd : nth (eTab M) i = some (pc, .iinc 2 n, pc')) (hn : pc + 3 = pc') (hp : eNl x1 = true) (hr : rg (z + n)) (k : Ok sh M pc' (x0 :: x1 :: some (vi (z + n)) :: r) st σ Q) : Ok sh M pc (x0 :: x1 :: some (vi z) :: r) st σ Q :=
  og_iinc (k := 2) i hd hn rfl hr (by show Ok sh M pc' (x0 :: eClr x1 :: some (vi (z + n)) :: r) st σ Q; rw [eClr_id hp]; exact k)
theorem ok_ist3 (i : Nat) {r : List (Option eV)} {x0 x1 x2 y : Option eV} {z : Int} (hd : nth (eTab M) i = some (pc, .istore_n 3, pc')) (hn : pc + 1 = pc') (hp : eNl x2 = true) (k : Ok sh M pc' (x0 :: x1 :: x2 :: some (vi z) :: r) st σ Q) : Ok sh M pc (x0 :: x1 :: x2 :: y :: r) (vi z :: st) σ Q :=
  og_len fun h => og_istore_n (k := 3) i hd hn rfl (by rw [← h]; simp) (by show Ok sh M pc' (x0 :: x1 :: eClr x2 :: some (vi z) :: r) st σ Q; rw [eClr_id hp]; exact k)
theorem ok_ast3 (i : Nat) {r : List (Option eV)} {x0 x1 x2 y : Option eV} {z : Option Nat} (hd : nth (eTab M) i = some (pc, .astore_n 3, pc')) (hn : pc + 1 = pc') (hp : eNl x2 = true) (k : Ok sh M pc' (x0 :: x1 :: x2 :: some (.inr (.inr z)) :: r) st σ Q) : Ok sh M pc (x0 :: x1 :: x2 :: y :: r) (.inr (.inr z) :: st) σ Q :=
  og_len fun h => og_astore_nO (k := 3) i hd hn rfl (by rw [← h]; simp) (by show Ok sh M pc' (x0 :: x1 :: eClr x2 :: some (.inr (.inr z)) :: r) st σ Q; rw [eClr_id hp]; exact k)
theorem ok_lst3 (i : Nat) {r : List (Option eV)} {y2 : Option eV} {x0 x1 x2 y : Option eV} {z : Int} (hd : nth (eTab M) i = some (pc, .lstore_n 3, pc')) (hn : pc + 1 = pc') (hp : eNl x2 = true) (k : Ok sh M pc' (x0 :: x1 :: x2 :: some (vl z) :: none :: r) st σ Q) : Ok sh M pc (x0 :: x1 :: x2 :: y :: y2 :: r) (vl z :: st) σ Q :=
  og_len fun h => og_lstore_n (k := 3) i hd hn rfl (by rw [← h]; simp) (by show Ok sh M pc' (x0 :: x1 :: eClr x2 :: some (vl z) :: none :: r) st σ Q; rw [eClr_id hp]; exact k)
theorem ok_inc3 (i : Nat) {r : List (Option eV)} {x0 x1 x2 : Option eV} {n z : Int} (hd : nth (eTab M) i = some (pc, .iinc 3 n, pc')) (hn : pc + 3 = pc') (hp : eNl x2 = true) (hr : rg (z + n)) (k : Ok sh M pc' (x0 :: x1 :: x2 :: some (vi (z + n)) :: r) st σ Q) : Ok sh M pc (x0 :: x1 :: x2 :: some (vi z) :: r) st σ Q :=
  og_iinc (k := 3) i hd hn rfl hr (by show Ok sh M pc' (x0 :: x1 :: eClr x2 :: some (vi (z + n)) :: r) st σ Q; rw [eClr_id hp]; exact k)
theorem ok_ist4 (i : Nat) {r : List (Option eV)} {x0 x1 x2 x3 y : Option eV} {z : Int} (hd : nth (eTab M) i = some (pc, .istore 4, pc')) (hn : pc + 2 = pc') (hp : eNl x3 = true) (k : Ok sh M pc' (x0 :: x1 :: x2 :: x3 :: some (vi z) :: r) st σ Q) : Ok sh M pc (x0 :: x1 :: x2 :: x3 :: y :: r) (vi z :: st) σ Q :=
  og_len fun h => og_istore (k := 4) i hd hn (by rw [← h]; simp) (by show Ok sh M pc' (x0 :: x1 :: x2 :: eClr x3 :: some (vi z) :: r) st σ Q; rw [eClr_id hp]; exact k)
theorem ok_ast4 (i : Nat) {r : List (Option eV)} {x0 x1 x2 x3 y : Option eV} {z : Option Nat} (hd : nth (eTab M) i = some (pc, .astore 4, pc')) (hn : pc + 2 = pc') (hp : eNl x3 = true) (k : Ok sh M pc' (x0 :: x1 :: x2 :: x3 :: some (.inr (.inr z)) :: r) st σ Q) : Ok sh M pc (x0 :: x1 :: x2 :: x3 :: y :: r) (.inr (.inr z) :: st) σ Q :=
  og_len fun h => og_astoreO (k := 4) i hd hn (by rw [← h]; simp) (by show Ok sh M pc' (x0 :: x1 :: x2 :: eClr x3 :: some (.inr (.inr z)) :: r) st σ Q; rw [eClr_id hp]; exact k)
theorem ok_lst4 (i : Nat) {r : List (Option eV)} {y2 : Option eV} {x0 x1 x2 x3 y : Option eV} {z : Int} (hd : nth (eTab M) i = some (pc, .lstore 4, pc')) (hn : pc + 2 = pc') (hp : eNl x3 = true) (k : Ok sh M pc' (x0 :: x1 :: x2 :: x3 :: some (vl z) :: none :: r) st σ Q) : Ok sh M pc (x0 :: x1 :: x2 :: x3 :: y :: y2 :: r) (vl z :: st) σ Q :=
  og_len fun h => og_lstore (k := 4) i hd hn (by rw [← h]; simp) (by show Ok sh M pc' (x0 :: x1 :: x2 :: eClr x3 :: some (vl z) :: none :: r) st σ Q; rw [eClr_id hp]; exact k)
theorem ok_inc4 (i : Nat) {r : List (Option eV)} {x0 x1 x2 x3 : Option eV} {n z : Int} (hd : nth (eTab M) i = some (pc, .iinc 4 n, pc')) (hn : pc + 3 = pc') (hp : eNl x3 = true) (hr : rg (z + n)) (k : Ok sh M pc' (x0 :: x1 :: x2 :: x3 :: some (vi (z + n)) :: r) st σ Q) : Ok sh M pc (x0 :: x1 :: x2 :: x3 :: some (vi z) :: r) st σ Q :=
  og_iinc (k := 4) i hd hn rfl hr (by show Ok sh M pc' (x0 :: x1 :: x2 :: eClr x3 :: some (vi (z + n)) :: r) st σ Q; rw [eClr_id hp]; exact k)
theorem ok_ist5 (i : Nat) {r : List (Option eV)} {x0 x1 x2 x3 x4 y : Option eV} {z : Int} (hd : nth (eTab M) i = some (pc, .istore 5, pc')) (hn : pc + 2 = pc') (hp : eNl x4 = true) (k : Ok sh M pc' (x0 :: x1 :: x2 :: x3 :: x4 :: some (vi z) :: r) st σ Q) : Ok sh M pc (x0 :: x1 :: x2 :: x3 :: x4 :: y :: r) (vi z :: st) σ Q :=
  og_len fun h => og_istore (k := 5) i hd hn (by rw [← h]; simp) (by show Ok sh M pc' (x0 :: x1 :: x2 :: x3 :: eClr x4 :: some (vi z) :: r) st σ Q; rw [eClr_id hp]; exact k)
theorem ok_ast5 (i : Nat) {r : List (Option eV)} {x0 x1 x2 x3 x4 y : Option eV} {z : Option Nat} (hd : nth (eTab M) i = some (pc, .astore 5, pc')) (hn : pc + 2 = pc') (hp : eNl x4 = true) (k : Ok sh M pc' (x0 :: x1 :: x2 :: x3 :: x4 :: some (.inr (.inr z)) :: r) st σ Q) : Ok sh M pc (x0 :: x1 :: x2 :: x3 :: x4 :: y :: r) (.inr (.inr z) :: st) σ Q :=
  og_len fun h => og_astoreO (k := 5) i hd hn (by rw [← h]; simp) (by show Ok sh M pc' (x0 :: x1 :: x2 :: x3 :: eClr x4 :: some (.inr (.inr z)) :: r) st σ Q; rw [eClr_id hp]; exact k)
theorem ok_lst5 (i : Nat) {r : List (Option eV)} {y2 : Option eV} {x0 x1 x2 x3 x4 y : Option eV} {z : Int} (hd : nth (eTab M) i = some (pc, .lstore 5, pc')) (hn : pc + 2 = pc') (hp : eNl x4 = true) (k : Ok sh M pc' (x0 :: x1 :: x2 :: x3 :: x4 :: some (vl z) :: none :: r) st σ Q) : Ok sh M pc (x0 :: x1 :: x2 :: x3 :: x4 :: y :: y2 :: r) (vl z :: st) σ Q :=
  og_len fun h => og_lstore (k := 5) i hd hn (by rw [← h]; simp) (by show Ok sh M pc' (x0 :: x1 :: x2 :: x3 :: eClr x4 :: some (vl z) :: none :: r) st σ Q; rw [eClr_id hp]; exact k)
theorem ok_inc5 (i : Nat) {r : List (Option eV)} {x0 x1 x2 x3 x4 : Option eV} {n z : Int} (hd : nth (eTab M) i = some (pc, .iinc 5 n, pc')) (hn : pc + 3 = pc') (hp : eNl x4 = true) (hr : rg (z + n)) (k : Ok sh M pc' (x0 :: x1 :: x2 :: x3 :: x4 :: some (vi (z + n)) :: r) st σ Q) : Ok sh M pc (x0 :: x1 :: x2 :: x3 :: x4 :: some (vi z) :: r) st σ Q :=
  og_iinc (k := 5) i hd hn rfl hr (by show Ok sh M pc' (x0 :: x1 :: x2 :: x3 :: eClr x4 :: some (vi (z + n)) :: r) st σ Q; rw [eClr_id hp]; exact k)
theorem ok_ist6 (i : Nat) {r : List (Option eV)} {x0 x1 x2 x3 x4 x5 y : Option eV} {z : Int} (hd : nth (eTab M) i = some (pc, .istore 6, pc')) (hn : pc + 2 = pc') (hp : eNl x5 = true) (k : Ok sh M pc' (x0 :: x1 :: x2 :: x3 :: x4 :: x5 :: some (vi z) :: r) st σ Q) : Ok sh M pc (x0 :: x1 :: x2 :: x3 :: x4 :: x5 :: y :: r) (vi z :: st) σ Q :=
  og_len fun h => og_istore (k := 6) i hd hn (by rw [← h]; simp) (by show Ok sh M pc' (x0 :: x1 :: x2 :: x3 :: x4 :: eClr x5 :: some (vi z) :: r) st σ Q; rw [eClr_id hp]; exact k)
theorem ok_ast6 (i : Nat) {r : List (Option eV)} {x0 x1 x2 x3 x4 x5 y : Option eV} {z : Option Nat} (hd : nth (eTab M) i = some (pc, .astore 6, pc')) (hn : pc + 2 = pc') (hp : eNl x5 = true) (k : Ok sh M pc' (x0 :: x1 :: x2 :: x3 :: x4 :: x5 :: some (.inr (.inr z)) :: r) st σ Q) : Ok sh M pc (x0 :: x1 :: x2 :: x3 :: x4 :: x5 :: y :: r) (.inr (.inr z) :: st) σ Q :=
  og_len fun h => og_astoreO (k := 6) i hd hn (by rw [← h]; simp) (by show Ok sh M pc' (x0 :: x1 :: x2 :: x3 :: x4 :: eClr x5 :: some (.inr (.inr z)) :: r) st σ Q; rw [eClr_id hp]; exact k)
theorem ok_lst6 (i : Nat) {r : List (Option eV)} {y2 : Option eV} {x0 x1 x2 x3 x4 x5 y : Option eV} {z : Int} (hd : nth (eTab M) i = some (pc, .lstore 6, pc')) (hn : pc + 2 = pc') (hp : eNl x5 = true) (k : Ok sh M pc' (x0 :: x1 :: x2 :: x3 :: x4 :: x5 :: some (vl z) :: none :: r) st σ Q) : Ok sh M pc (x0 :: x1 :: x2 :: x3 :: x4 :: x5 :: y :: y2 :: r) (vl z :: st) σ Q :=
  og_len fun h => og_lstore (k := 6) i hd hn (by rw [← h]; simp) (by show Ok sh M pc' (x0 :: x1 :: x2 :: x3 :: x4 :: eClr x5 :: some (vl z) :: none :: r) st σ Q; rw [eClr_id hp]; exact k)
theorem ok_inc6 (i : Nat) {r : List (Option eV)} {x0 x1 x2 x3 x4 x5 : Option eV} {n z : Int} (hd : nth (eTab M) i = some (pc, .iinc 6 n, pc')) (hn : pc + 3 = pc') (hp : eNl x5 = true) (hr : rg (z + n)) (k : Ok sh M pc' (x0 :: x1 :: x2 :: x3 :: x4 :: x5 :: some (vi (z + n)) :: r) st σ Q) : Ok sh M pc (x0 :: x1 :: x2 :: x3 :: x4 :: x5 :: some (vi z) :: r) st σ Q :=
  og_iinc (k := 6) i hd hn rfl hr (by show Ok sh M pc' (x0 :: x1 :: x2 :: x3 :: x4 :: eClr x5 :: some (vi (z + n)) :: r) st σ Q; rw [eClr_id hp]; exact k)
theorem ok_ist7 (i : Nat) {r : List (Option eV)} {x0 x1 x2 x3 x4 x5 x6 y : Option eV} {z : Int} (hd : nth (eTab M) i = some (pc, .istore 7, pc')) (hn : pc + 2 = pc') (hp : eNl x6 = true) (k : Ok sh M pc' (x0 :: x1 :: x2 :: x3 :: x4 :: x5 :: x6 :: some (vi z) :: r) st σ Q) : Ok sh M pc (x0 :: x1 :: x2 :: x3 :: x4 :: x5 :: x6 :: y :: r) (vi z :: st) σ Q :=
  og_len fun h => og_istore (k := 7) i hd hn (by rw [← h]; simp) (by show Ok sh M pc' (x0 :: x1 :: x2 :: x3 :: x4 :: x5 :: eClr x6 :: some (vi z) :: r) st σ Q; rw [eClr_id hp]; exact k)
theorem ok_lst7 (i : Nat) {r : List (Option eV)} {y2 : Option eV} {x0 x1 x2 x3 x4 x5 x6 y : Option eV} {z : Int} (hd : nth (eTab M) i = some (pc, .lstore 7, pc')) (hn : pc + 2 = pc') (hp : eNl x6 = true) (k : Ok sh M pc' (x0 :: x1 :: x2 :: x3 :: x4 :: x5 :: x6 :: some (vl z) :: none :: r) st σ Q) : Ok sh M pc (x0 :: x1 :: x2 :: x3 :: x4 :: x5 :: x6 :: y :: y2 :: r) (vl z :: st) σ Q :=
  og_len fun h => og_lstore (k := 7) i hd hn (by rw [← h]; simp) (by show Ok sh M pc' (x0 :: x1 :: x2 :: x3 :: x4 :: x5 :: eClr x6 :: some (vl z) :: none :: r) st σ Q; rw [eClr_id hp]; exact k)
theorem ok_inc7 (i : Nat) {r : List (Option eV)} {x0 x1 x2 x3 x4 x5 x6 : Option eV} {n z : Int} (hd : nth (eTab M) i = some (pc, .iinc 7 n, pc')) (hn : pc + 3 = pc') (hp : eNl x6 = true) (hr : rg (z + n)) (k : Ok sh M pc' (x0 :: x1 :: x2 :: x3 :: x4 :: x5 :: x6 :: some (vi (z + n)) :: r) st σ Q) : Ok sh M pc (x0 :: x1 :: x2 :: x3 :: x4 :: x5 :: x6 :: some (vi z) :: r) st σ Q :=
  og_iinc (k := 7) i hd hn rfl hr (by show Ok sh M pc' (x0 :: x1 :: x2 :: x3 :: x4 :: x5 :: eClr x6 :: some (vi (z + n)) :: r) st σ Q; rw [eClr_id hp]; exact k)
theorem ok_ist8 (i : Nat) {r : List (Option eV)} {x0 x1 x2 x3 x4 x5 x6 x7 y : Option eV} {z : Int} (hd : nth (eTab M) i = some (pc, .istore 8, pc')) (hn : pc + 2 = pc') (hp : eNl x7 = true) (k : Ok sh M pc' (x0 :: x1 :: x2 :: x3 :: x4 :: x5 :: x6 :: x7 :: some (vi z) :: r) st σ Q) : Ok sh M pc (x0 :: x1 :: x2 :: x3 :: x4 :: x5 :: x6 :: x7 :: y :: r) (vi z :: st) σ Q :=
  og_len fun h => og_istore (k := 8) i hd hn (by rw [← h]; simp) (by show Ok sh M pc' (x0 :: x1 :: x2 :: x3 :: x4 :: x5 :: x6 :: eClr x7 :: some (vi z) :: r) st σ Q; rw [eClr_id hp]; exact k)
theorem ok_lst8 (i : Nat) {r : List (Option eV)} {y2 : Option eV} {x0 x1 x2 x3 x4 x5 x6 x7 y : Option eV} {z : Int} (hd : nth (eTab M) i = some (pc, .lstore 8, pc')) (hn : pc + 2 = pc') (hp : eNl x7 = true) (k : Ok sh M pc' (x0 :: x1 :: x2 :: x3 :: x4 :: x5 :: x6 :: x7 :: some (vl z) :: none :: r) st σ Q) : Ok sh M pc (x0 :: x1 :: x2 :: x3 :: x4 :: x5 :: x6 :: x7 :: y :: y2 :: r) (vl z :: st) σ Q :=
  og_len fun h => og_lstore (k := 8) i hd hn (by rw [← h]; simp) (by show Ok sh M pc' (x0 :: x1 :: x2 :: x3 :: x4 :: x5 :: x6 :: eClr x7 :: some (vl z) :: none :: r) st σ Q; rw [eClr_id hp]; exact k)
theorem ok_inc8 (i : Nat) {r : List (Option eV)} {x0 x1 x2 x3 x4 x5 x6 x7 : Option eV} {n z : Int} (hd : nth (eTab M) i = some (pc, .iinc 8 n, pc')) (hn : pc + 3 = pc') (hp : eNl x7 = true) (hr : rg (z + n)) (k : Ok sh M pc' (x0 :: x1 :: x2 :: x3 :: x4 :: x5 :: x6 :: x7 :: some (vi (z + n)) :: r) st σ Q) : Ok sh M pc (x0 :: x1 :: x2 :: x3 :: x4 :: x5 :: x6 :: x7 :: some (vi z) :: r) st σ Q :=
  og_iinc (k := 8) i hd hn rfl hr (by show Ok sh M pc' (x0 :: x1 :: x2 :: x3 :: x4 :: x5 :: x6 :: eClr x7 :: some (vi (z + n)) :: r) st σ Q; rw [eClr_id hp]; exact k)
theorem ok_ist9 (i : Nat) {r : List (Option eV)} {x0 x1 x2 x3 x4 x5 x6 x7 x8 y : Option eV} {z : Int} (hd : nth (eTab M) i = some (pc, .istore 9, pc')) (hn : pc + 2 = pc') (hp : eNl x8 = true) (k : Ok sh M pc' (x0 :: x1 :: x2 :: x3 :: x4 :: x5 :: x6 :: x7 :: x8 :: some (vi z) :: r) st σ Q) : Ok sh M pc (x0 :: x1 :: x2 :: x3 :: x4 :: x5 :: x6 :: x7 :: x8 :: y :: r) (vi z :: st) σ Q :=
  og_len fun h => og_istore (k := 9) i hd hn (by rw [← h]; simp) (by show Ok sh M pc' (x0 :: x1 :: x2 :: x3 :: x4 :: x5 :: x6 :: x7 :: eClr x8 :: some (vi z) :: r) st σ Q; rw [eClr_id hp]; exact k)
theorem ok_lst9 (i : Nat) {r : List (Option eV)} {y2 : Option eV} {x0 x1 x2 x3 x4 x5 x6 x7 x8 y : Option eV} {z : Int} (hd : nth (eTab M) i = some (pc, .lstore 9, pc')) (hn : pc + 2 = pc') (hp : eNl x8 = true) (k : Ok sh M pc' (x0 :: x1 :: x2 :: x3 :: x4 :: x5 :: x6 :: x7 :: x8 :: some (vl z) :: none :: r) st σ Q) : Ok sh M pc (x0 :: x1 :: x2 :: x3 :: x4 :: x5 :: x6 :: x7 :: x8 :: y :: y2 :: r) (vl z :: st) σ Q :=
  og_len fun h => og_lstore (k := 9) i hd hn (by rw [← h]; simp) (by show Ok sh M pc' (x0 :: x1 :: x2 :: x3 :: x4 :: x5 :: x6 :: x7 :: eClr x8 :: some (vl z) :: none :: r) st σ Q; rw [eClr_id hp]; exact k)
theorem ok_inc9 (i : Nat) {r : List (Option eV)} {x0 x1 x2 x3 x4 x5 x6 x7 x8 : Option eV} {n z : Int} (hd : nth (eTab M) i = some (pc, .iinc 9 n, pc')) (hn : pc + 3 = pc') (hp : eNl x8 = true) (hr : rg (z + n)) (k : Ok sh M pc' (x0 :: x1 :: x2 :: x3 :: x4 :: x5 :: x6 :: x7 :: x8 :: some (vi (z + n)) :: r) st σ Q) : Ok sh M pc (x0 :: x1 :: x2 :: x3 :: x4 :: x5 :: x6 :: x7 :: x8 :: some (vi z) :: r) st σ Q :=
  og_iinc (k := 9) i hd hn rfl hr (by show Ok sh M pc' (x0 :: x1 :: x2 :: x3 :: x4 :: x5 :: x6 :: x7 :: eClr x8 :: some (vi (z + n)) :: r) st σ Q; rw [eClr_id hp]; exact k)
theorem ok_lst10 (i : Nat) {r : List (Option eV)} {y2 : Option eV} {x0 x1 x2 x3 x4 x5 x6 x7 x8 x9 y : Option eV} {z : Int} (hd : nth (eTab M) i = some (pc, .lstore 10, pc')) (hn : pc + 2 = pc') (hp : eNl x9 = true) (k : Ok sh M pc' (x0 :: x1 :: x2 :: x3 :: x4 :: x5 :: x6 :: x7 :: x8 :: x9 :: some (vl z) :: none :: r) st σ Q) : Ok sh M pc (x0 :: x1 :: x2 :: x3 :: x4 :: x5 :: x6 :: x7 :: x8 :: x9 :: y :: y2 :: r) (vl z :: st) σ Q :=
  og_len fun h => og_lstore (k := 10) i hd hn (by rw [← h]; simp) (by show Ok sh M pc' (x0 :: x1 :: x2 :: x3 :: x4 :: x5 :: x6 :: x7 :: x8 :: eClr x9 :: some (vl z) :: none :: r) st σ Q; rw [eClr_id hp]; exact k)
theorem ok_ist11 (i : Nat) {r : List (Option eV)} {x0 x1 x2 x3 x4 x5 x6 x7 x8 x9 x10 y : Option eV} {z : Int} (hd : nth (eTab M) i = some (pc, .istore 11, pc')) (hn : pc + 2 = pc') (hp : eNl x10 = true) (k : Ok sh M pc' (x0 :: x1 :: x2 :: x3 :: x4 :: x5 :: x6 :: x7 :: x8 :: x9 :: x10 :: some (vi z) :: r) st σ Q) : Ok sh M pc (x0 :: x1 :: x2 :: x3 :: x4 :: x5 :: x6 :: x7 :: x8 :: x9 :: x10 :: y :: r) (vi z :: st) σ Q :=
  og_len fun h => og_istore (k := 11) i hd hn (by rw [← h]; simp) (by show Ok sh M pc' (x0 :: x1 :: x2 :: x3 :: x4 :: x5 :: x6 :: x7 :: x8 :: x9 :: eClr x10 :: some (vi z) :: r) st σ Q; rw [eClr_id hp]; exact k)
theorem ok_lst11 (i : Nat) {r : List (Option eV)} {y2 : Option eV} {x0 x1 x2 x3 x4 x5 x6 x7 x8 x9 x10 y : Option eV} {z : Int} (hd : nth (eTab M) i = some (pc, .lstore 11, pc')) (hn : pc + 2 = pc') (hp : eNl x10 = true) (k : Ok sh M pc' (x0 :: x1 :: x2 :: x3 :: x4 :: x5 :: x6 :: x7 :: x8 :: x9 :: x10 :: some (vl z) :: none :: r) st σ Q) : Ok sh M pc (x0 :: x1 :: x2 :: x3 :: x4 :: x5 :: x6 :: x7 :: x8 :: x9 :: x10 :: y :: y2 :: r) (vl z :: st) σ Q :=
  og_len fun h => og_lstore (k := 11) i hd hn (by rw [← h]; simp) (by show Ok sh M pc' (x0 :: x1 :: x2 :: x3 :: x4 :: x5 :: x6 :: x7 :: x8 :: x9 :: eClr x10 :: some (vl z) :: none :: r) st σ Q; rw [eClr_id hp]; exact k)
theorem ok_inc11 (i : Nat) {r : List (Option eV)} {x0 x1 x2 x3 x4 x5 x6 x7 x8 x9 x10 : Option eV} {n z : Int} (hd : nth (eTab M) i = some (pc, .iinc 11 n, pc')) (hn : pc + 3 = pc') (hp : eNl x10 = true) (hr : rg (z + n)) (k : Ok sh M pc' (x0 :: x1 :: x2 :: x3 :: x4 :: x5 :: x6 :: x7 :: x8 :: x9 :: x10 :: some (vi (z + n)) :: r) st σ Q) : Ok sh M pc (x0 :: x1 :: x2 :: x3 :: x4 :: x5 :: x6 :: x7 :: x8 :: x9 :: x10 :: some (vi z) :: r) st σ Q :=
  og_iinc (k := 11) i hd hn rfl hr (by show Ok sh M pc' (x0 :: x1 :: x2 :: x3 :: x4 :: x5 :: x6 :: x7 :: x8 :: x9 :: eClr x10 :: some (vi (z + n)) :: r) st σ Q; rw [eClr_id hp]; exact k)
theorem ok_lst12 (i : Nat) {r : List (Option eV)} {y2 : Option eV} {x0 x1 x2 x3 x4 x5 x6 x7 x8 x9 x10 x11 y : Option eV} {z : Int} (hd : nth (eTab M) i = some (pc, .lstore 12, pc')) (hn : pc + 2 = pc') (hp : eNl x11 = true) (k : Ok sh M pc' (x0 :: x1 :: x2 :: x3 :: x4 :: x5 :: x6 :: x7 :: x8 :: x9 :: x10 :: x11 :: some (vl z) :: none :: r) st σ Q) : Ok sh M pc (x0 :: x1 :: x2 :: x3 :: x4 :: x5 :: x6 :: x7 :: x8 :: x9 :: x10 :: x11 :: y :: y2 :: r) (vl z :: st) σ Q :=
  og_len fun h => og_lstore (k := 12) i hd hn (by rw [← h]; simp) (by show Ok sh M pc' (x0 :: x1 :: x2 :: x3 :: x4 :: x5 :: x6 :: x7 :: x8 :: x9 :: x10 :: eClr x11 :: some (vl z) :: none :: r) st σ Q; rw [eClr_id hp]; exact k)
theorem ok_ist14 (i : Nat) {r : List (Option eV)} {x0 x1 x2 x3 x4 x5 x6 x7 x8 x9 x10 x11 x12 x13 y : Option eV} {z : Int} (hd : nth (eTab M) i = some (pc, .istore 14, pc')) (hn : pc + 2 = pc') (hp : eNl x13 = true) (k : Ok sh M pc' (x0 :: x1 :: x2 :: x3 :: x4 :: x5 :: x6 :: x7 :: x8 :: x9 :: x10 :: x11 :: x12 :: x13 :: some (vi z) :: r) st σ Q) : Ok sh M pc (x0 :: x1 :: x2 :: x3 :: x4 :: x5 :: x6 :: x7 :: x8 :: x9 :: x10 :: x11 :: x12 :: x13 :: y :: r) (vi z :: st) σ Q :=
  og_len fun h => og_istore (k := 14) i hd hn (by rw [← h]; simp) (by show Ok sh M pc' (x0 :: x1 :: x2 :: x3 :: x4 :: x5 :: x6 :: x7 :: x8 :: x9 :: x10 :: x11 :: x12 :: eClr x13 :: some (vi z) :: r) st σ Q; rw [eClr_id hp]; exact k)
theorem ok_lst14 (i : Nat) {r : List (Option eV)} {y2 : Option eV} {x0 x1 x2 x3 x4 x5 x6 x7 x8 x9 x10 x11 x12 x13 y : Option eV} {z : Int} (hd : nth (eTab M) i = some (pc, .lstore 14, pc')) (hn : pc + 2 = pc') (hp : eNl x13 = true) (k : Ok sh M pc' (x0 :: x1 :: x2 :: x3 :: x4 :: x5 :: x6 :: x7 :: x8 :: x9 :: x10 :: x11 :: x12 :: x13 :: some (vl z) :: none :: r) st σ Q) : Ok sh M pc (x0 :: x1 :: x2 :: x3 :: x4 :: x5 :: x6 :: x7 :: x8 :: x9 :: x10 :: x11 :: x12 :: x13 :: y :: y2 :: r) (vl z :: st) σ Q :=
  og_len fun h => og_lstore (k := 14) i hd hn (by rw [← h]; simp) (by show Ok sh M pc' (x0 :: x1 :: x2 :: x3 :: x4 :: x5 :: x6 :: x7 :: x8 :: x9 :: x10 :: x11 :: x12 :: eClr x13 :: some (vl z) :: none :: r) st σ Q; rw [eClr_id hp]; exact k)
theorem ok_ist15 (i : Nat) {r : List (Option eV)} {x0 x1 x2 x3 x4 x5 x6 x7 x8 x9 x10 x11 x12 x13 x14 y : Option eV} {z : Int} (hd : nth (eTab M) i = some (pc, .istore 15, pc')) (hn : pc + 2 = pc') (hp : eNl x14 = true) (k : Ok sh M pc' (x0 :: x1 :: x2 :: x3 :: x4 :: x5 :: x6 :: x7 :: x8 :: x9 :: x10 :: x11 :: x12 :: x13 :: x14 :: some (vi z) :: r) st σ Q) : Ok sh M pc (x0 :: x1 :: x2 :: x3 :: x4 :: x5 :: x6 :: x7 :: x8 :: x9 :: x10 :: x11 :: x12 :: x13 :: x14 :: y :: r) (vi z :: st) σ Q :=
  og_len fun h => og_istore (k := 15) i hd hn (by rw [← h]; simp) (by show Ok sh M pc' (x0 :: x1 :: x2 :: x3 :: x4 :: x5 :: x6 :: x7 :: x8 :: x9 :: x10 :: x11 :: x12 :: x13 :: eClr x14 :: some (vi z) :: r) st σ Q; rw [eClr_id hp]; exact k)
theorem ok_inc15 (i : Nat) {r : List (Option eV)} {x0 x1 x2 x3 x4 x5 x6 x7 x8 x9 x10 x11 x12 x13 x14 : Option eV} {n z : Int} (hd : nth (eTab M) i = some (pc, .iinc 15 n, pc')) (hn : pc + 3 = pc') (hp : eNl x14 = true) (hr : rg (z + n)) (k : Ok sh M pc' (x0 :: x1 :: x2 :: x3 :: x4 :: x5 :: x6 :: x7 :: x8 :: x9 :: x10 :: x11 :: x12 :: x13 :: x14 :: some (vi (z + n)) :: r) st σ Q) : Ok sh M pc (x0 :: x1 :: x2 :: x3 :: x4 :: x5 :: x6 :: x7 :: x8 :: x9 :: x10 :: x11 :: x12 :: x13 :: x14 :: some (vi z) :: r) st σ Q :=
  og_iinc (k := 15) i hd hn rfl hr (by show Ok sh M pc' (x0 :: x1 :: x2 :: x3 :: x4 :: x5 :: x6 :: x7 :: x8 :: x9 :: x10 :: x11 :: x12 :: x13 :: eClr x14 :: some (vi (z + n)) :: r) st σ Q; rw [eClr_id hp]; exact k)
theorem ok_lst16 (i : Nat) {r : List (Option eV)} {y2 : Option eV} {x0 x1 x2 x3 x4 x5 x6 x7 x8 x9 x10 x11 x12 x13 x14 x15 y : Option eV} {z : Int} (hd : nth (eTab M) i = some (pc, .lstore 16, pc')) (hn : pc + 2 = pc') (hp : eNl x15 = true) (k : Ok sh M pc' (x0 :: x1 :: x2 :: x3 :: x4 :: x5 :: x6 :: x7 :: x8 :: x9 :: x10 :: x11 :: x12 :: x13 :: x14 :: x15 :: some (vl z) :: none :: r) st σ Q) : Ok sh M pc (x0 :: x1 :: x2 :: x3 :: x4 :: x5 :: x6 :: x7 :: x8 :: x9 :: x10 :: x11 :: x12 :: x13 :: x14 :: x15 :: y :: y2 :: r) (vl z :: st) σ Q :=
  og_len fun h => og_lstore (k := 16) i hd hn (by rw [← h]; simp) (by show Ok sh M pc' (x0 :: x1 :: x2 :: x3 :: x4 :: x5 :: x6 :: x7 :: x8 :: x9 :: x10 :: x11 :: x12 :: x13 :: x14 :: eClr x15 :: some (vl z) :: none :: r) st σ Q; rw [eClr_id hp]; exact k)
theorem ok_lcmp_eq (i i2 : Nat) {off : Int} {p1 : Nat} {a b : Int} (tgt : Nat) (hd1 : nth (eTab M) i = some (pc, .lcmp, p1)) (hd : nth (eTab M) i2 = some (p1, .ifCond .eq off, pc')) (hn1 : pc + 1 = p1) (hn : p1 + 3 = pc') (ht : (p1 : Int) + off = (tgt : Int)) (kt : a = b → Ok sh M tgt ls st σ Q) (kf : ¬ a = b → Ok sh M pc' ls st σ Q) : Ok sh M pc ls (vl b :: vl a :: st) σ Q := by
  intro l p e s m args below meth c D dA ad H locs la C hH hL hS
  obtain ⟨hb, ha, hs⟩ := hS
  refine W.lcmp C.2.1 C.2.2.1 (C.1.dec hd1 hn1) ?_
  rw [hn1]
  have e1 := lg_cmp_eq (Int64.ofInt a) (Int64.ofInt b)
  have e2 := lg_cmp_lt (Int64.ofInt a) (Int64.ofInt b)
  have e3 := lg_cmp_le (Int64.ofInt a) (Int64.ofInt b)
  have e4 := lg_cmp_gt (Int64.ofInt a) (Int64.ofInt b)
  have e5 := lg_cmp_ge (Int64.ofInt a) (Int64.ofInt b)
  have g1 := rl_eq ha hb
  have g2 := rl_lt ha hb
  have g3 := rl_lt hb ha
  have g4 : Int64.ofInt a ≤ Int64.ofInt b ↔ a ≤ b := by rw [Int64.le_iff_toInt_le, rl_in ha, rl_in hb]
  have g5 : Int64.ofInt b ≤ Int64.ofInt a ↔ b ≤ a := by rw [Int64.le_iff_toInt_le, rl_in ha, rl_in hb]
  refine lv_if_eq C.2.1 C.2.2.1 (C.1.dec hd hn) ht (fun h => Ok.go (kt ?_) C hH hL hs rfl rfl) (fun h => Ok.go (kf ?_) C hH hL hs hn rfl)
  · simp only [e1, e2, e3, e4, e5, g1, g2, g3, g4, g5] at h
    omega
  · simp only [e1, e2, e3, e4, e5, g1, g2, g3, g4, g5] at h
    omega
theorem ok_lcmp_ne (i i2 : Nat) {off : Int} {p1 : Nat} {a b : Int} (tgt : Nat) (hd1 : nth (eTab M) i = some (pc, .lcmp, p1)) (hd : nth (eTab M) i2 = some (p1, .ifCond .ne off, pc')) (hn1 : pc + 1 = p1) (hn : p1 + 3 = pc') (ht : (p1 : Int) + off = (tgt : Int)) (kt : ¬ a = b → Ok sh M tgt ls st σ Q) (kf : a = b → Ok sh M pc' ls st σ Q) : Ok sh M pc ls (vl b :: vl a :: st) σ Q := by
  intro l p e s m args below meth c D dA ad H locs la C hH hL hS
  obtain ⟨hb, ha, hs⟩ := hS
  refine W.lcmp C.2.1 C.2.2.1 (C.1.dec hd1 hn1) ?_
  rw [hn1]
  have e1 := lg_cmp_eq (Int64.ofInt a) (Int64.ofInt b)
  have e2 := lg_cmp_lt (Int64.ofInt a) (Int64.ofInt b)
  have e3 := lg_cmp_le (Int64.ofInt a) (Int64.ofInt b)
  have e4 := lg_cmp_gt (Int64.ofInt a) (Int64.ofInt b)
  have e5 := lg_cmp_ge (Int64.ofInt a) (Int64.ofInt b)
  have g1 := rl_eq ha hb
  have g2 := rl_lt ha hb
  have g3 := rl_lt hb ha
  have g4 : Int64.ofInt a ≤ Int64.ofInt b ↔ a ≤ b := by rw [Int64.le_iff_toInt_le, rl_in ha, rl_in hb]
  have g5 : Int64.ofInt b ≤ Int64.ofInt a ↔ b ≤ a := by rw [Int64.le_iff_toInt_le, rl_in ha, rl_in hb]
  refine lv_if_ne C.2.1 C.2.2.1 (C.1.dec hd hn) ht (fun h => Ok.go (kt ?_) C hH hL hs rfl rfl) (fun h => Ok.go (kf ?_) C hH hL hs hn rfl)
  · simp only [e1, e2, e3, e4, e5, g1, g2, g3, g4, g5] at h
    omega
  · simp only [e1, e2, e3, e4, e5, g1, g2, g3, g4, g5] at h
    omega
theorem ok_lcmp_lt (i i2 : Nat) {off : Int} {p1 : Nat} {a b : Int} (tgt : Nat) (hd1 : nth (eTab M) i = some (pc, .lcmp, p1)) (hd : nth (eTab M) i2 = some (p1, .ifCond .lt off, pc')) (hn1 : pc + 1 = p1) (hn : p1 + 3 = pc') (ht : (p1 : Int) + off = (tgt : Int)) (kt : a < b → Ok sh M tgt ls st σ Q) (kf : b ≤ a → Ok sh M pc' ls st σ Q) : Ok sh M pc ls (vl b :: vl a :: st) σ Q := by
  intro l p e s m args below meth c D dA ad H locs la C hH hL hS
  obtain ⟨hb, ha, hs⟩ := hS
  refine W.lcmp C.2.1 C.2.2.1 (C.1.dec hd1 hn1) ?_
  rw [hn1]
  have e1 := lg_cmp_eq (Int64.ofInt a) (Int64.ofInt b)
  have e2 := lg_cmp_lt (Int64.ofInt a) (Int64.ofInt b)
  have e3 := lg_cmp_le (Int64.ofInt a) (Int64.ofInt b)
  have e4 := lg_cmp_gt (Int64.ofInt a) (Int64.ofInt b)
  have e5 := lg_cmp_ge (Int64.ofInt a) (Int64.ofInt b)
  have g1 := rl_eq ha hb
  have g2 := rl_lt ha hb
  have g3 := rl_lt hb ha
  have g4 : Int64.ofInt a ≤ Int64.ofInt b ↔ a ≤ b := by rw [Int64.le_iff_toInt_le, rl_in ha, rl_in hb]
  have g5 : Int64.ofInt b ≤ Int64.ofInt a ↔ b ≤ a := by rw [Int64.le_iff_toInt_le, rl_in ha, rl_in hb]
  refine lv_if_lt C.2.1 C.2.2.1 (C.1.dec hd hn) ht (fun h => Ok.go (kt ?_) C hH hL hs rfl rfl) (fun h => Ok.go (kf ?_) C hH hL hs hn rfl)
  · simp only [e1, e2, e3, e4, e5, g1, g2, g3, g4, g5] at h
    omega
  · simp only [e1, e2, e3, e4, e5, g1, g2, g3, g4, g5] at h
    omega
theorem ok_lcmp_ge (i i2 : Nat) {off : Int} {p1 : Nat} {a b : Int} (tgt : Nat) (hd1 : nth (eTab M) i = some (pc, .lcmp, p1)) (hd : nth (eTab M) i2 = some (p1, .ifCond .ge off, pc')) (hn1 : pc + 1 = p1) (hn : p1 + 3 = pc') (ht : (p1 : Int) + off = (tgt : Int)) (kt : b ≤ a → Ok sh M tgt ls st σ Q) (kf : a < b → Ok sh M pc' ls st σ Q) : Ok sh M pc ls (vl b :: vl a :: st) σ Q := by
  intro l p e s m args below meth c D dA ad H locs la C hH hL hS
  obtain ⟨hb, ha, hs⟩ := hS
  refine W.lcmp C.2.1 C.2.2.1 (C.1.dec hd1 hn1) ?_
  rw [hn1]
  have e1 := lg_cmp_eq (Int64.ofInt a) (Int64.ofInt b)
  have e2 := lg_cmp_lt (Int64.ofInt a) (Int64.ofInt b)
  have e3 := lg_cmp_le (Int64.ofInt a) (Int64.ofInt b)
  have e4 := lg_cmp_gt (Int64.ofInt a) (Int64.ofInt b)
  have e5 := lg_cmp_ge (Int64.ofInt a) (Int64.ofInt b)
  have g1 := rl_eq ha hb
  have g2 := rl_lt ha hb
  have g3 := rl_lt hb ha
  have g4 : Int64.ofInt a ≤ Int64.ofInt b ↔ a ≤ b := by rw [Int64.le_iff_toInt_le, rl_in ha, rl_in hb]
  have g5 : Int64.ofInt b ≤ Int64.ofInt a ↔ b ≤ a := by rw [Int64.le_iff_toInt_le, rl_in ha, rl_in hb]
  refine lv_if_ge C.2.1 C.2.2.1 (C.1.dec hd hn) ht (fun h => Ok.go (kt ?_) C hH hL hs rfl rfl) (fun h => Ok.go (kf ?_) C hH hL hs hn rfl)
  · simp only [e1, e2, e3, e4, e5, g1, g2, g3, g4, g5] at h
    omega
  · simp only [e1, e2, e3, e4, e5, g1, g2, g3, g4, g5] at h
    omega
theorem ok_lcmp_gt (i i2 : Nat) {off : Int} {p1 : Nat} {a b : Int} (tgt : Nat) (hd1 : nth (eTab M) i = some (pc, .lcmp, p1)) (hd : nth (eTab M) i2 = some (p1, .ifCond .gt off, pc')) (hn1 : pc + 1 = p1) (hn : p1 + 3 = pc') (ht : (p1 : Int) + off = (tgt : Int)) (kt : b < a → Ok sh M tgt ls st σ Q) (kf : a ≤ b → Ok sh M pc' ls st σ Q) : Ok sh M pc ls (vl b :: vl a :: st) σ Q := by
  intro l p e s m args below meth c D dA ad H locs la C hH hL hS
  obtain ⟨hb, ha, hs⟩ := hS
  refine W.lcmp C.2.1 C.2.2.1 (C.1.dec hd1 hn1) ?_
  rw [hn1]
  have e1 := lg_cmp_eq (Int64.ofInt a) (Int64.ofInt b)
  have e2 := lg_cmp_lt (Int64.ofInt a) (Int64.ofInt b)
  have e3 := lg_cmp_le (Int64.ofInt a) (Int64.ofInt b)
  have e4 := lg_cmp_gt (Int64.ofInt a) (Int64.ofInt b)
  have e5 := lg_cmp_ge (Int64.ofInt a) (Int64.ofInt b)
  have g1 := rl_eq ha hb
  have g2 := rl_lt ha hb
  have g3 := rl_lt hb ha
  have g4 : Int64.ofInt a ≤ Int64.ofInt b ↔ a ≤ b := by rw [Int64.le_iff_toInt_le, rl_in ha, rl_in hb]
  have g5 : Int64.ofInt b ≤ Int64.ofInt a ↔ b ≤ a := by rw [Int64.le_iff_toInt_le, rl_in ha, rl_in hb]
  refine lv_if_gt C.2.1 C.2.2.1 (C.1.dec hd hn) ht (fun h => Ok.go (kt ?_) C hH hL hs rfl rfl) (fun h => Ok.go (kf ?_) C hH hL hs hn rfl)
  · simp only [e1, e2, e3, e4, e5, g1, g2, g3, g4, g5] at h
    omega
  · simp only [e1, e2, e3, e4, e5, g1, g2, g3, g4, g5] at h
    omega
theorem ok_lcmp_le (i i2 : Nat) {off : Int} {p1 : Nat} {a b : Int} (tgt : Nat) (hd1 : nth (eTab M) i = some (pc, .lcmp, p1)) (hd : nth (eTab M) i2 = some (p1, .ifCond .le off, pc')) (hn1 : pc + 1 = p1) (hn : p1 + 3 = pc') (ht : (p1 : Int) + off = (tgt : Int)) (kt : a ≤ b → Ok sh M tgt ls st σ Q) (kf : b < a → Ok sh M pc' ls st σ Q) : Ok sh M pc ls (vl b :: vl a :: st) σ Q := by
  intro l p e s m args below meth c D dA ad H locs la C hH hL hS
  obtain ⟨hb, ha, hs⟩ := hS
  refine W.lcmp C.2.1 C.2.2.1 (C.1.dec hd1 hn1) ?_
  rw [hn1]
  have e1 := lg_cmp_eq (Int64.ofInt a) (Int64.ofInt b)
  have e2 := lg_cmp_lt (Int64.ofInt a) (Int64.ofInt b)
  have e3 := lg_cmp_le (Int64.ofInt a) (Int64.ofInt b)
  have e4 := lg_cmp_gt (Int64.ofInt a) (Int64.ofInt b)
  have e5 := lg_cmp_ge (Int64.ofInt a) (Int64.ofInt b)
  have g1 := rl_eq ha hb
  have g2 := rl_lt ha hb
  have g3 := rl_lt hb ha
  have g4 : Int64.ofInt a ≤ Int64.ofInt b ↔ a ≤ b := by rw [Int64.le_iff_toInt_le, rl_in ha, rl_in hb]
  have g5 : Int64.ofInt b ≤ Int64.ofInt a ↔ b ≤ a := by rw [Int64.le_iff_toInt_le, rl_in ha, rl_in hb]
  refine lv_if_le C.2.1 C.2.2.1 (C.1.dec hd hn) ht (fun h => Ok.go (kt ?_) C hH hL hs rfl rfl) (fun h => Ok.go (kf ?_) C hH hL hs hn rfl)
  · simp only [e1, e2, e3, e4, e5, g1, g2, g3, g4, g5] at h
    omega
  · simp only [e1, e2, e3, e4, e5, g1, g2, g3, g4, g5] at h
    omega
theorem ok_ifnull (i : Nat) {c0 : Nat} {off : Int} (hd : nth (eTab M) i = some (pc, .ifnull off, pc')) (hn : pc + 3 = pc') (k : Ok sh M pc' ls st σ Q) : Ok sh M pc ls (vr c0 :: st) σ Q := by
  intro l p e s m args below meth c D dA ad H locs la C hH hL hS
  exact lv_ifnull C.2.1 C.2.2.1 (C.1.dec hd hn) (Ok.go k C hH hL hS.2 hn rfl)
theorem ok_ifnullN (i : Nat) {off : Int} (tgt : Nat) (hd : nth (eTab M) i = some (pc, .ifnull off, pc')) (hn : pc + 3 = pc') (ht : (pc : Int) + off = (tgt : Int)) (k : Ok sh M tgt ls st σ Q) : Ok sh M pc ls (vn :: st) σ Q := by
  intro l p e s m args below meth c D dA ad H locs la C hH hL hS
  exact lv_ifnullN C.2.1 C.2.2.1 (C.1.dec hd hn) ht (Ok.go k C hH hL hS.2 rfl rfl)
theorem ok_ifnonnull (i : Nat) {c0 : Nat} {off : Int} (tgt : Nat) (hd : nth (eTab M) i = some (pc, .ifnonnull off, pc')) (hn : pc + 3 = pc') (ht : (pc : Int) + off = (tgt : Int)) (k : Ok sh M tgt ls st σ Q) : Ok sh M pc ls (vr c0 :: st) σ Q := by
  intro l p e s m args below meth c D dA ad H locs la C hH hL hS
  exact lv_ifnonnull C.2.1 C.2.2.1 (C.1.dec hd hn) ht (Ok.go k C hH hL hS.2 rfl rfl)
theorem ok_ifnonnullN (i : Nat) {off : Int} (hd : nth (eTab M) i = some (pc, .ifnonnull off, pc')) (hn : pc + 3 = pc') (k : Ok sh M pc' ls st σ Q) : Ok sh M pc ls (vn :: st) σ Q := by
  intro l p e s m args below meth c D dA ad H locs la C hH hL hS
  exact lv_ifnonnullN C.2.1 C.2.2.1 (C.1.dec hd hn) (Ok.go k C hH hL hS.2 hn rfl)
theorem ok_tin (i : Nat) {dflt lo hi off z : Int} {offs : Array Int} {len : Nat} (tgt : Nat) (hd : nth (eTab M) i = some (pc, .tableswitch dflt lo hi offs, pc')) (hn : pc + len = pc') (h1 : lo ≤ z) (h2 : z ≤ hi) (ho : offs[(z - lo).toNat]? = some off) (ht : (pc : Int) + off = (tgt : Int)) (k : Ok sh M tgt ls st σ Q) : Ok sh M pc ls (vi z :: st) σ Q := by
  intro l p e s m args below meth c D dA ad H locs la C hH hL hS
  have e := rg_in (z := z) hS.1
  exact lv_tableIn C.2.1 C.2.2.1 (C.1.dec hd hn) (by rw [e]; omega) (by rw [e]; omega) (by rw [e]; exact ho) ht (Ok.go k C hH hL hS.2 rfl rfl)
theorem ok_tout (i : Nat) {dflt lo hi z : Int} {offs : Array Int} {len : Nat} (tgt : Nat) (hd : nth (eTab M) i = some (pc, .tableswitch dflt lo hi offs, pc')) (hn : pc + len = pc') (h1 : z < lo ∨ hi < z) (ht : (pc : Int) + dflt = (tgt : Int)) (k : Ok sh M tgt ls st σ Q) : Ok sh M pc ls (vi z :: st) σ Q := by
  intro l p e s m args below meth c D dA ad H locs la C hH hL hS
  have e := rg_in (z := z) hS.1
  exact lv_tableOut C.2.1 C.2.2.1 (C.1.dec hd hn) (by rw [e]; exact h1) ht (Ok.go k C hH hL hS.2 rfl rfl)
/-! ends -/
theorem eQ_of {s t : State} {args : Array Value} {D : va_G} {dA : Nat → ClassId} {ad : Nat → Nat} {H : Heap} {locs : List Loc} {v : Option eV} (hH : eHp sh s D dA ad σ H locs) (hq : Q σ v) (hk : ∀ x, v = some x → eK x) (ht : t.heap = H) : eQ sh D dA ad Q args s (.returned (v.map (eR ad))) t :=
  ⟨⟨v, σ, rfl, hq, hk, hH.2.2, by rw [ht]; exact hH.1⟩, hH.2.1.F ht⟩
theorem ok_iret (i : Nat) {z : Int} (hd : nth (eTab M) i = some (pc, .ireturn, pc')) (hn : pc + 1 = pc') (hr : eRet M = some .int) (hq : Q σ (some (vi z))) : Ok sh M pc ls [vi z] σ Q := by
  intro l p e s m args below meth c D dA ad H locs la C hH hL hS
  exact W.iret C.2.1 C.2.2.1 (C.2.2.2.2.1.trans hr) (fun t ht _ => eQ_of (v := some (vi z)) hH hq (fun x hx => by cases hx; exact hS.1) ht) hH.2.1.2.2 (C.1.dec hd hn) C.2.2.2.2.2.1
theorem ok_zret (i : Nat) {z : Int} (hd : nth (eTab M) i = some (pc, .ireturn, pc')) (hn : pc + 1 = pc') (hr : eRet M = some .boolean) (hz : z = 0 ∨ z = 1) (hq : Q σ (some (vi z))) : Ok sh M pc ls [vi z] σ Q := by
  intro l p e s m args below meth c D dA ad H locs la C hH hL hS
  exact W.zret C.2.1 C.2.2.1 (C.2.2.2.2.1.trans hr) (by rcases hz with rfl | rfl <;> rfl) (fun t ht _ => eQ_of (v := some (vi z)) hH hq (fun x hx => by cases hx; exact hS.1) ht) hH.2.1.2.2 (C.1.dec hd hn) C.2.2.2.2.2.1
theorem ok_lret (i : Nat) {z : Int} (hd : nth (eTab M) i = some (pc, .lreturn, pc')) (hn : pc + 1 = pc') (hr : eRet M = some .long) (hq : Q σ (some (vl z))) : Ok sh M pc ls [vl z] σ Q := by
  intro l p e s m args below meth c D dA ad H locs la C hH hL hS
  exact W.lret C.2.1 C.2.2.1 (C.2.2.2.2.1.trans hr) (fun t ht _ => eQ_of (v := some (vl z)) hH hq (fun x hx => by cases hx; exact hS.1) ht) hH.2.1.2.2 (C.1.dec hd hn) C.2.2.2.2.2.1
theorem ok_vret (i : Nat) (hd : nth (eTab M) i = some (pc, .return_, pc')) (hn : pc + 1 = pc') (hr : eRet M = none) (hq : Q σ none) : Ok sh M pc ls [] σ Q := by
  intro l p e s m args below meth c D dA ad H locs la C hH hL hS
  exact W.vret C.2.1 C.2.2.1 (C.2.2.2.2.1.trans hr) (fun t ht _ => eQ_of (v := none) hH hq (fun x hx => by cases hx) ht) hH.2.1.2.2 (C.1.dec hd hn) C.2.2.2.2.2.1
theorem ok_aret (i : Nat) {c0 : Nat} {n : String} (hd : nth (eTab M) i = some (pc, .areturn, pc')) (hn : pc + 1 = pc') (hr : eRet M = some (.object n)) (hq : Q σ (some (vr c0))) : Ok sh M pc ls [vr c0] σ Q := by
  intro l p e s m args below meth c D dA ad H locs la C hH hL hS
  exact W.aret C.2.1 C.2.2.1 (C.2.2.2.2.1.trans hr) (Or.inl ⟨n, rfl⟩) (Or.inr ⟨_, rfl⟩) (fun t ht _ => eQ_of (v := some (vr c0)) hH hq (fun x hx => by cases hx; trivial) ht) hH.2.1.2.2 (C.1.dec hd hn) C.2.2.2.2.2.1
theorem ok_aretN (i : Nat) {n : String} (hd : nth (eTab M) i = some (pc, .areturn, pc')) (hn : pc + 1 = pc') (hr : eRet M = some (.object n)) (hq : Q σ (some vn)) : Ok sh M pc ls [vn] σ Q := by
  intro l p e s m args below meth c D dA ad H locs la C hH hL hS
  exact W.aret C.2.1 C.2.2.1 (C.2.2.2.2.1.trans hr) (Or.inl ⟨n, rfl⟩) (Or.inl rfl) (fun t ht _ => eQ_of (v := some vn) hH hq (fun x hx => by cases hx; trivial) ht) hH.2.1.2.2 (C.1.dec hd hn) C.2.2.2.2.2.1
end E2
end
