/-! ===== BEGIN printed: names, fields, word lists, decode rows ===== -/
def RX0 : String := "Witnessworks$Claim"
def TX0 : u_T := fun k => match k with
  | 0 => ("Witnessworks$Claim", "person", "I", false)
  | 1 => ("Witnessworks$Claim", "entry", "I", false)
  | 2 => ("Witnessworks$Claim", "isWitness", "Z", false)
  | _ => ("Witnessworks$Claim", "row", "LWitnessworks$Row;", true)
def tyX0 : Nat → FieldType := fun k => match k with
  | 0 => .int
  | 1 => .int
  | 2 => .boolean
  | _ => .object "Witnessworks$Row"
abbrev wsX00 : List Cond := u_ws RX0 TX0 4
theorem nmX0 : ∀ a, a < 4 → ∀ b, b < 4 → a ≠ b → (TX0 a).2.1 ≠ (TX0 b).2.1 := by decide +kernel
theorem tyX0_ok : ∀ k, k < 4 → parseFieldDescriptor (TX0 k).2.2.1 = some (tyX0 k) := by decide +kernel
abbrev cX0_init : ByteArray := prog_2_method_1_code
def yX0_init : MethodName := ⟨RX0, "<init>", "()V"⟩
abbrev cX0_begin : ByteArray := prog_2_method_2_code
def yX0_begin : MethodName := ⟨RX0, "begin", "(IIZLWitnessworks$Row;)V"⟩
def RX1 : String := "Witnessworks$Clauses"
def TX1 : u_T := fun k => match k with
  | 0 => ("Witnessworks$Clauses", "stack", "[I", true)
  | 1 => ("Witnessworks$Clauses", "codes", "[I", true)
  | 2 => ("Witnessworks$Clauses", "codeCount", "I", false)
  | 3 => ("Witnessworks$Clauses", "stackCount", "I", false)
  | 4 => ("Witnessworks$Clauses", "depth", "I", false)
  | 5 => ("Witnessworks$Clauses", "ones", "I", false)
  | _ => ("Witnessworks$Clauses", "isAtEnd", "Z", false)
def tyX1 : Nat → FieldType := fun k => match k with
  | 0 => .array .int
  | 1 => .array .int
  | 2 => .int
  | 3 => .int
  | 4 => .int
  | 5 => .int
  | _ => .boolean
abbrev wsX10 : List Cond := u_ws RX1 TX1 7
theorem nmX1 : ∀ a, a < 7 → ∀ b, b < 7 → a ≠ b → (TX1 a).2.1 ≠ (TX1 b).2.1 := by decide +kernel
theorem tyX1_ok : ∀ k, k < 7 → parseFieldDescriptor (TX1 k).2.2.1 = some (tyX1 k) := by decide +kernel
abbrev cX1_init : ByteArray := prog_3_method_1_code
def yX1_init : MethodName := ⟨RX1, "<init>", "()V"⟩
abbrev cX1_solve : ByteArray := prog_3_method_2_code
def yX1_solve : MethodName := ⟨RX1, "solve", "(LWitnessworks$Entry;)V"⟩
abbrev cX1_isFulfilled : ByteArray := prog_3_method_3_code
def yX1_isFulfilled : MethodName := ⟨RX1, "isFulfilled", "(LWitnessworks$Entry;I)Z"⟩
abbrev cX1_writeTruths : ByteArray := prog_3_method_4_code
def yX1_writeTruths : MethodName := ⟨RX1, "writeTruths", "(IILWitnessworks$Row;)V"⟩
abbrev cX1_brokenItem : ByteArray := prog_3_method_5_code
def yX1_brokenItem : MethodName := ⟨RX1, "brokenItem", "(LWitnessworks$Entry;)I"⟩
abbrev cX1_isBroken : ByteArray := prog_3_method_6_code
def yX1_isBroken : MethodName := ⟨RX1, "isBroken", "(LWitnessworks$Entry;I)Z"⟩
abbrev cX1_begin : ByteArray := prog_3_method_7_code
def yX1_begin : MethodName := ⟨RX1, "begin", "()V"⟩
abbrev cX1_goThrough : ByteArray := prog_3_method_8_code
def yX1_goThrough : MethodName := ⟨RX1, "goThrough", "(LWitnessworks$Entry;LWitnessworks$Row;)V"⟩
abbrev cX1_goBack : ByteArray := prog_3_method_9_code
def yX1_goBack : MethodName := ⟨RX1, "goBack", "()V"⟩
abbrev cX1_codeOf : ByteArray := prog_3_method_10_code
def yX1_codeOf : MethodName := ⟨RX1, "codeOf", "(LWitnessworks$Entry;I)I"⟩
abbrev cX1_derive : ByteArray := prog_3_method_11_code
def yX1_derive : MethodName := ⟨RX1, "derive", "(I)V"⟩
abbrev cX1_deriveAt : ByteArray := prog_3_method_12_code
def yX1_deriveAt : MethodName := ⟨RX1, "deriveAt", "(I)V"⟩
abbrev cX1_judgeTruths : ByteArray := prog_3_method_15_code
def yX1_judgeTruths : MethodName := ⟨RX1, "judgeTruths", "(LWitnessworks$Entry;LWitnessworks$Row;)I"⟩
abbrev cX1_judgeTree : ByteArray := prog_3_method_16_code
def yX1_judgeTree : MethodName := ⟨RX1, "judgeTree", "(LWitnessworks$Entry;LWitnessworks$Row;)I"⟩
abbrev cX1_isLeaf : ByteArray := prog_3_method_17_code
def yX1_isLeaf : MethodName := ⟨RX1, "isLeaf", "(LWitnessworks$Entry;I)Z"⟩
def RX2 : String := "Witnessworks$Drawings"
def TX2 : u_T := fun k => match k with
  | 0 => ("Witnessworks$Drawings", "near", "[I", true)
  | 1 => ("Witnessworks$Drawings", "used", "[I", true)
  | 2 => ("Witnessworks$Drawings", "firstPlace", "[I", true)
  | 3 => ("Witnessworks$Drawings", "owner", "[I", true)
  | 4 => ("Witnessworks$Drawings", "ring", "[I", true)
  | 5 => ("Witnessworks$Drawings", "spot", "[I", true)
  | 6 => ("Witnessworks$Drawings", "walksDue", "[I", true)
  | 7 => ("Witnessworks$Drawings", "ways", "[I", true)
  | 8 => ("Witnessworks$Drawings", "nodeCount", "I", false)
  | _ => ("Witnessworks$Drawings", "places", "I", false)
def tyX2 : Nat → FieldType := fun k => match k with
  | 0 => .array .int
  | 1 => .array .int
  | 2 => .array .int
  | 3 => .array .int
  | 4 => .array .int
  | 5 => .array .int
  | 6 => .array .int
  | 7 => .array .int
  | 8 => .int
  | _ => .int
abbrev wsX20 : List Cond := u_ws RX2 TX2 10
theorem nmX2 : ∀ a, a < 10 → ∀ b, b < 10 → a ≠ b → (TX2 a).2.1 ≠ (TX2 b).2.1 := by decide +kernel
theorem tyX2_ok : ∀ k, k < 10 → parseFieldDescriptor (TX2 k).2.2.1 = some (tyX2 k) := by decide +kernel
abbrev cX2_init : ByteArray := prog_4_method_1_code
def yX2_init : MethodName := ⟨RX2, "<init>", "()V"⟩
abbrev cX2_solve : ByteArray := prog_4_method_2_code
def yX2_solve : MethodName := ⟨RX2, "solve", "(LWitnessworks$Entry;)V"⟩
abbrev cX2_countedItems : ByteArray := prog_4_method_3_code
def yX2_countedItems : MethodName := ⟨RX2, "countedItems", "(LWitnessworks$Entry;)I"⟩
abbrev cX2_loadEdges : ByteArray := prog_4_method_4_code
def yX2_loadEdges : MethodName := ⟨RX2, "loadEdges", "(LWitnessworks$Entry;I)V"⟩
abbrev cX2_countWalksDue : ByteArray := prog_4_method_5_code
def yX2_countWalksDue : MethodName := ⟨RX2, "countWalksDue", "(I)I"⟩
abbrev cX2_fillsFrom : ByteArray := prog_4_method_6_code
def yX2_fillsFrom : MethodName := ⟨RX2, "fillsFrom", "(I)Z"⟩
abbrev cX2_setPlace : ByteArray := prog_4_method_7_code
def yX2_setPlace : MethodName := ⟨RX2, "setPlace", "(II)V"⟩
abbrev cX2_countWalks : ByteArray := prog_4_method_8_code
def yX2_countWalks : MethodName := ⟨RX2, "countWalks", "(I)I"⟩
abbrev cX2_behind : ByteArray := prog_4_method_9_code
def yX2_behind : MethodName := ⟨RX2, "behind", "(II)I"⟩
abbrev cX2_writeCore : ByteArray := prog_4_method_10_code
def yX2_writeCore : MethodName := ⟨RX2, "writeCore", "(LWitnessworks$Entry;I)V"⟩
abbrev cX2_countBranches : ByteArray := prog_4_method_11_code
def yX2_countBranches : MethodName := ⟨RX2, "countBranches", "(I)I"⟩
abbrev cX2_judgeDrawing : ByteArray := prog_4_method_13_code
def yX2_judgeDrawing : MethodName := ⟨RX2, "judgeDrawing", "(LWitnessworks$Entry;LWitnessworks$Row;)I"⟩
abbrev cX2_judgeCore : ByteArray := prog_4_method_14_code
def yX2_judgeCore : MethodName := ⟨RX2, "judgeCore", "(LWitnessworks$Entry;LWitnessworks$Row;)I"⟩
abbrev cX2_areBranchesOf : ByteArray := prog_4_method_15_code
def yX2_areBranchesOf : MethodName := ⟨RX2, "areBranchesOf", "(I)Z"⟩
abbrev cX2_areWaysOf : ByteArray := prog_4_method_16_code
def yX2_areWaysOf : MethodName := ⟨RX2, "areWaysOf", "(I)Z"⟩
abbrev cX2_followWay : ByteArray := prog_4_method_17_code
def yX2_followWay : MethodName := ⟨RX2, "followWay", "(II)I"⟩
abbrev cX2_areTwoHalves : ByteArray := prog_4_method_18_code
def yX2_areTwoHalves : MethodName := ⟨RX2, "areTwoHalves", "()Z"⟩
def RX3 : String := "Witnessworks$Entry"
def TX3 : u_T := fun k => match k with
  | 0 => ("Witnessworks$Entry", "kind", "I", false)
  | 1 => ("Witnessworks$Entry", "size", "I", false)
  | 2 => ("Witnessworks$Entry", "bound", "I", false)
  | 3 => ("Witnessworks$Entry", "leaning", "I", false)
  | 4 => ("Witnessworks$Entry", "plus", "I", false)
  | 5 => ("Witnessworks$Entry", "origin", "I", false)
  | 6 => ("Witnessworks$Entry", "itemCount", "I", false)
  | 7 => ("Witnessworks$Entry", "numbers", "[I", true)
  | 8 => ("Witnessworks$Entry", "boundNow", "I", false)
  | 9 => ("Witnessworks$Entry", "isSolved", "Z", false)
  | 10 => ("Witnessworks$Entry", "solvedBound", "I", false)
  | 11 => ("Witnessworks$Entry", "reply", "C", false)
  | 12 => ("Witnessworks$Entry", "told", "I", false)
  | 13 => ("Witnessworks$Entry", "row", "LWitnessworks$Row;", true)
  | 14 => ("Witnessworks$Entry", "wasSettled", "Z", false)
  | 15 => ("Witnessworks$Entry", "settledReply", "C", false)
  | _ => ("Witnessworks$Entry", "settledRow", "LWitnessworks$Row;", true)
def tyX3 : Nat → FieldType := fun k => match k with
  | 0 => .int
  | 1 => .int
  | 2 => .int
  | 3 => .int
  | 4 => .int
  | 5 => .int
  | 6 => .int
  | 7 => .array .int
  | 8 => .int
  | 9 => .boolean
  | 10 => .int
  | 11 => .char
  | 12 => .int
  | 13 => .object "Witnessworks$Row"
  | 14 => .boolean
  | 15 => .char
  | _ => .object "Witnessworks$Row"
abbrev wsX30 : List Cond := u_ws RX3 TX3 17
theorem nmX3 : ∀ a, a < 17 → ∀ b, b < 17 → a ≠ b → (TX3 a).2.1 ≠ (TX3 b).2.1 := by decide +kernel
theorem tyX3_ok : ∀ k, k < 17 → parseFieldDescriptor (TX3 k).2.2.1 = some (tyX3 k) := by decide +kernel
abbrev cX3_init : ByteArray := prog_5_method_1_code
def yX3_init : MethodName := ⟨RX3, "<init>", "()V"⟩
abbrev cX3_begin : ByteArray := prog_5_method_2_code
def yX3_begin : MethodName := ⟨RX3, "begin", "(III)V"⟩
abbrev cX3_copyQuestion : ByteArray := prog_5_method_3_code
def yX3_copyQuestion : MethodName := ⟨RX3, "copyQuestion", "(LWitnessworks$Entry;)V"⟩
abbrev cX3_at : ByteArray := prog_5_method_4_code
def yX3_at : MethodName := ⟨RX3, "at", "(II)I"⟩
abbrev cX3_setItem : ByteArray := prog_5_method_5_code
def yX3_setItem : MethodName := ⟨RX3, "setItem", "(I[I)V"⟩
abbrev cX3_addItem : ByteArray := prog_5_method_6_code
def yX3_addItem : MethodName := ⟨RX3, "addItem", "(III)V"⟩
abbrev cX3_addTo : ByteArray := prog_5_method_7_code
def yX3_addTo : MethodName := ⟨RX3, "addTo", "(III)V"⟩
abbrev cX3_countUnlike : ByteArray := prog_5_method_8_code
def yX3_countUnlike : MethodName := ⟨RX3, "countUnlike", "(I[I)I"⟩
abbrev cX3_removeItem : ByteArray := prog_5_method_9_code
def yX3_removeItem : MethodName := ⟨RX3, "removeItem", "(I)V"⟩
abbrev cX3_isSameQuestion : ByteArray := prog_5_method_10_code
def yX3_isSameQuestion : MethodName := ⟨RX3, "isSameQuestion", "(LWitnessworks$Entry;)Z"⟩
abbrev cX3_fillNear : ByteArray := prog_5_method_11_code
def yX3_fillNear : MethodName := ⟨RX3, "fillNear", "([II)V"⟩
abbrev cX3_tell : ByteArray := prog_5_method_12_code
def yX3_tell : MethodName := ⟨RX3, "tell", "(ZI)V"⟩
abbrev cX3_nodeAsked : ByteArray := prog_5_method_13_code
def yX3_nodeAsked : MethodName := ⟨RX3, "nodeAsked", "()I"⟩
def RX4 : String := "Witnessworks$House"
def TX4 : u_T := fun k => match k with
  | 0 => ("Witnessworks$House", "networks", "LWitnessworks$Networks;", true)
  | 1 => ("Witnessworks$House", "drawings", "LWitnessworks$Drawings;", true)
  | 2 => ("Witnessworks$House", "inequalities", "LWitnessworks$Inequalities;", true)
  | 3 => ("Witnessworks$House", "clauses", "LWitnessworks$Clauses;", true)
  | 4 => ("Witnessworks$House", "numbers", "LWitnessworks$Numbers;", true)
  | 5 => ("Witnessworks$House", "words", "LWitnessworks$Words;", true)
  | 6 => ("Witnessworks$House", "machines", "LWitnessworks$Machines;", true)
  | _ => ("Witnessworks$House", "near", "[I", true)
def tyX4 : Nat → FieldType := fun k => match k with
  | 0 => .object "Witnessworks$Networks"
  | 1 => .object "Witnessworks$Drawings"
  | 2 => .object "Witnessworks$Inequalities"
  | 3 => .object "Witnessworks$Clauses"
  | 4 => .object "Witnessworks$Numbers"
  | 5 => .object "Witnessworks$Words"
  | 6 => .object "Witnessworks$Machines"
  | _ => .array .int
abbrev wsX40 : List Cond := u_ws RX4 TX4 8
theorem nmX4 : ∀ a, a < 8 → ∀ b, b < 8 → a ≠ b → (TX4 a).2.1 ≠ (TX4 b).2.1 := by decide +kernel
theorem tyX4_ok : ∀ k, k < 8 → parseFieldDescriptor (TX4 k).2.2.1 = some (tyX4 k) := by decide +kernel
abbrev cX4_init : ByteArray := prog_6_method_1_code
def yX4_init : MethodName := ⟨RX4, "<init>", "()V"⟩
abbrev cX4_solve : ByteArray := prog_6_method_2_code
def yX4_solve : MethodName := ⟨RX4, "solve", "(LWitnessworks$Entry;)V"⟩
abbrev cX4_judge : ByteArray := prog_6_method_3_code
def yX4_judge : MethodName := ⟨RX4, "judge", "(LWitnessworks$Entry;LWitnessworks$Row;Z)I"⟩
abbrev cX4_isItemOf : ByteArray := prog_6_method_4_code
def yX4_isItemOf : MethodName := ⟨RX4, "isItemOf", "(LWitnessworks$Entry;I[I)Z"⟩
abbrev cX4_isWithin : ByteArray := prog_6_method_5_code
def yX4_isWithin : MethodName := ⟨RX4, "isWithin", "(III)Z"⟩
abbrev cX4_areWithin : ByteArray := prog_6_method_6_code
def yX4_areWithin : MethodName := ⟨RX4, "areWithin", "([III)Z"⟩
abbrev cX4_areUnlikeNodes : ByteArray := prog_6_method_7_code
def yX4_areUnlikeNodes : MethodName := ⟨RX4, "areUnlikeNodes", "([II)Z"⟩
abbrev cX4_areUnlikePoints : ByteArray := prog_6_method_8_code
def yX4_areUnlikePoints : MethodName := ⟨RX4, "areUnlikePoints", "([II)Z"⟩
abbrev cX4_areWords : ByteArray := prog_6_method_9_code
def yX4_areWords : MethodName := ⟨RX4, "areWords", "([II)Z"⟩
abbrev cX4_isGameItem : ByteArray := prog_6_method_10_code
def yX4_isGameItem : MethodName := ⟨RX4, "isGameItem", "([II)Z"⟩
abbrev cX4_isEdgeAgain : ByteArray := prog_6_method_11_code
def yX4_isEdgeAgain : MethodName := ⟨RX4, "isEdgeAgain", "(LWitnessworks$Entry;I[I)Z"⟩
abbrev cX4_carriesOver : ByteArray := prog_6_method_12_code
def yX4_carriesOver : MethodName := ⟨RX4, "carriesOver", "(LWitnessworks$Entry;ILWitnessworks$Entry;)Z"⟩
abbrev cX4_carriesPairings : ByteArray := prog_6_method_13_code
def yX4_carriesPairings : MethodName := ⟨RX4, "carriesPairings", "(LWitnessworks$Entry;LWitnessworks$Entry;)Z"⟩
abbrev cX4_leftSide : ByteArray := prog_6_method_14_code
def yX4_leftSide : MethodName := ⟨RX4, "leftSide", "(LWitnessworks$Entry;)I"⟩
abbrev cX4_neighboursOf : ByteArray := prog_6_method_15_code
def yX4_neighboursOf : MethodName := ⟨RX4, "neighboursOf", "(I)I"⟩
abbrev cX4_carriesFlows : ByteArray := prog_6_method_16_code
def yX4_carriesFlows : MethodName := ⟨RX4, "carriesFlows", "(LWitnessworks$Entry;LWitnessworks$Entry;)Z"⟩
abbrev cX4_addBalance : ByteArray := prog_6_method_17_code
def yX4_addBalance : MethodName := ⟨RX4, "addBalance", "(LWitnessworks$Entry;LWitnessworks$Entry;III)V"⟩
abbrev cX4_carriesEdges : ByteArray := prog_6_method_18_code
def yX4_carriesEdges : MethodName := ⟨RX4, "carriesEdges", "(LWitnessworks$Entry;LWitnessworks$Entry;)Z"⟩
abbrev cX4_addSomeEdge : ByteArray := prog_6_method_19_code
def yX4_addSomeEdge : MethodName := ⟨RX4, "addSomeEdge", "(LWitnessworks$Entry;LWitnessworks$Entry;I)Z"⟩
abbrev cX4_canBringBack : ByteArray := prog_6_method_20_code
def yX4_canBringBack : MethodName := ⟨RX4, "canBringBack", "(LWitnessworks$Entry;LWitnessworks$Entry;)Z"⟩
abbrev cX4_bringBack : ByteArray := prog_6_method_21_code
def yX4_bringBack : MethodName := ⟨RX4, "bringBack", "(LWitnessworks$Entry;LWitnessworks$Entry;LWitnessworks$Row;)V"⟩
abbrev cX4_bringPairs : ByteArray := prog_6_method_22_code
def yX4_bringPairs : MethodName := ⟨RX4, "bringPairs", "(LWitnessworks$Row;ILWitnessworks$Entry;LWitnessworks$Row;)V"⟩
abbrev cX4_bringNodes : ByteArray := prog_6_method_23_code
def yX4_bringNodes : MethodName := ⟨RX4, "bringNodes", "(LWitnessworks$Row;LWitnessworks$Entry;LWitnessworks$Row;)V"⟩
def RX5 : String := "Witnessworks$Inequalities"
def TX5 : u_T := fun k => match k with
  | 0 => ("Witnessworks$Inequalities", "table", "[[J", true)
  | 1 => ("Witnessworks$Inequalities", "rowLabels", "[I", true)
  | 2 => ("Witnessworks$Inequalities", "columnLabels", "[I", true)
  | 3 => ("Witnessworks$Inequalities", "locked", "I", false)
  | 4 => ("Witnessworks$Inequalities", "rows", "I", false)
  | 5 => ("Witnessworks$Inequalities", "columns", "I", false)
  | _ => ("Witnessworks$Inequalities", "lower", "J", false)
def tyX5 : Nat → FieldType := fun k => match k with
  | 0 => .array (.array .long)
  | 1 => .array .int
  | 2 => .array .int
  | 3 => .int
  | 4 => .int
  | 5 => .int
  | _ => .long
abbrev wsX50 : List Cond := u_ws RX5 TX5 7
theorem nmX5 : ∀ a, a < 7 → ∀ b, b < 7 → a ≠ b → (TX5 a).2.1 ≠ (TX5 b).2.1 := by decide +kernel
theorem tyX5_ok : ∀ k, k < 7 → parseFieldDescriptor (TX5 k).2.2.1 = some (tyX5 k) := by decide +kernel
abbrev cX5_init : ByteArray := prog_7_method_1_code
def yX5_init : MethodName := ⟨RX5, "<init>", "()V"⟩
abbrev cX5_solve : ByteArray := prog_7_method_2_code
def yX5_solve : MethodName := ⟨RX5, "solve", "(LWitnessworks$Entry;)V"⟩
abbrev cX5_times : ByteArray := prog_7_method_3_code
def yX5_times : MethodName := ⟨RX5, "times", "(LWitnessworks$Entry;II)I"⟩
abbrev cX5_limitOf : ByteArray := prog_7_method_4_code
def yX5_limitOf : MethodName := ⟨RX5, "limitOf", "(LWitnessworks$Entry;I)I"⟩
abbrev cX5_loadUnknowns : ByteArray := prog_7_method_5_code
def yX5_loadUnknowns : MethodName := ⟨RX5, "loadUnknowns", "(LWitnessworks$Entry;)V"⟩
abbrev cX5_loadWeights : ByteArray := prog_7_method_6_code
def yX5_loadWeights : MethodName := ⟨RX5, "loadWeights", "(LWitnessworks$Entry;)V"⟩
abbrev cX5_clearTable : ByteArray := prog_7_method_7_code
def yX5_clearTable : MethodName := ⟨RX5, "clearTable", "()V"⟩
abbrev cX5_begin : ByteArray := prog_7_method_8_code
def yX5_begin : MethodName := ⟨RX5, "begin", "()V"⟩
abbrev cX5_isFulfilled : ByteArray := prog_7_method_9_code
def yX5_isFulfilled : MethodName := ⟨RX5, "isFulfilled", "()Z"⟩
abbrev cX5_minimise : ByteArray := prog_7_method_10_code
def yX5_minimise : MethodName := ⟨RX5, "minimise", "(I)V"⟩
abbrev cX5_lockRising : ByteArray := prog_7_method_11_code
def yX5_lockRising : MethodName := ⟨RX5, "lockRising", "(I)V"⟩
abbrev cX5_improves : ByteArray := prog_7_method_12_code
def yX5_improves : MethodName := ⟨RX5, "improves", "(I)Z"⟩
abbrev cX5_leavingRow : ByteArray := prog_7_method_13_code
def yX5_leavingRow : MethodName := ⟨RX5, "leavingRow", "(I)I"⟩
abbrev cX5_exchange : ByteArray := prog_7_method_14_code
def yX5_exchange : MethodName := ⟨RX5, "exchange", "(II)V"⟩
abbrev cX5_rowOf : ByteArray := prog_7_method_15_code
def yX5_rowOf : MethodName := ⟨RX5, "rowOf", "(I)I"⟩
abbrev cX5_valueOf : ByteArray := prog_7_method_16_code
def yX5_valueOf : MethodName := ⟨RX5, "valueOf", "(I)J"⟩
abbrev cX5_writeLeast : ByteArray := prog_7_method_17_code
def yX5_writeLeast : MethodName := ⟨RX5, "writeLeast", "(ILWitnessworks$Row;)V"⟩
abbrev cX5_leftSideBy : ByteArray := prog_7_method_18_code
def yX5_leftSideBy : MethodName := ⟨RX5, "leftSideBy", "(LWitnessworks$Entry;ILWitnessworks$Row;)J"⟩
abbrev cX5_rightSideBy : ByteArray := prog_7_method_19_code
def yX5_rightSideBy : MethodName := ⟨RX5, "rightSideBy", "(LWitnessworks$Entry;ILWitnessworks$Row;)J"⟩
abbrev cX5_judgeUnknowns : ByteArray := prog_7_method_21_code
def yX5_judgeUnknowns : MethodName := ⟨RX5, "judgeUnknowns", "(LWitnessworks$Entry;LWitnessworks$Row;)I"⟩
abbrev cX5_judgeWeights : ByteArray := prog_7_method_22_code
def yX5_judgeWeights : MethodName := ⟨RX5, "judgeWeights", "(LWitnessworks$Entry;LWitnessworks$Row;)I"⟩
def RX6 : String := "Witnessworks$Machines"
def TX6 : u_T := fun k => match k with
  | 0 => ("Witnessworks$Machines", "byZero", "[I", true)
  | 1 => ("Witnessworks$Machines", "byOne", "[I", true)
  | 2 => ("Witnessworks$Machines", "finals", "[I", true)
  | 3 => ("Witnessworks$Machines", "letters", "[I", true)
  | 4 => ("Witnessworks$Machines", "owners", "[I", true)
  | 5 => ("Witnessworks$Machines", "weights", "[I", true)
  | 6 => ("Witnessworks$Machines", "ways", "[I", true)
  | _ => ("Witnessworks$Machines", "size", "I", false)
def tyX6 : Nat → FieldType := fun k => match k with
  | 0 => .array .int
  | 1 => .array .int
  | 2 => .array .int
  | 3 => .array .int
  | 4 => .array .int
  | 5 => .array .int
  | 6 => .array .int
  | _ => .int
abbrev wsX60 : List Cond := u_ws RX6 TX6 8
theorem nmX6 : ∀ a, a < 8 → ∀ b, b < 8 → a ≠ b → (TX6 a).2.1 ≠ (TX6 b).2.1 := by decide +kernel
theorem tyX6_ok : ∀ k, k < 8 → parseFieldDescriptor (TX6 k).2.2.1 = some (tyX6 k) := by decide +kernel
abbrev cX6_init : ByteArray := prog_8_method_1_code
def yX6_init : MethodName := ⟨RX6, "<init>", "()V"⟩
abbrev cX6_solveMachines : ByteArray := prog_8_method_2_code
def yX6_solveMachines : MethodName := ⟨RX6, "solveMachines", "(LWitnessworks$Entry;)V"⟩
abbrev cX6_loadStates : ByteArray := prog_8_method_3_code
def yX6_loadStates : MethodName := ⟨RX6, "loadStates", "(LWitnessworks$Entry;)V"⟩
abbrev cX6_lettersAt : ByteArray := prog_8_method_4_code
def yX6_lettersAt : MethodName := ⟨RX6, "lettersAt", "(II)I"⟩
abbrev cX6_findLetters : ByteArray := prog_8_method_5_code
def yX6_findLetters : MethodName := ⟨RX6, "findLetters", "(LWitnessworks$Entry;)V"⟩
abbrev cX6_isToldBy : ByteArray := prog_8_method_6_code
def yX6_isToldBy : MethodName := ⟨RX6, "isToldBy", "(III)Z"⟩
abbrev cX6_lowestLike : ByteArray := prog_8_method_7_code
def yX6_lowestLike : MethodName := ⟨RX6, "lowestLike", "(I)I"⟩
abbrev cX6_writeLetters : ByteArray := prog_8_method_8_code
def yX6_writeLetters : MethodName := ⟨RX6, "writeLetters", "(ILWitnessworks$Row;)V"⟩
abbrev cX6_judgeLikeness : ByteArray := prog_8_method_10_code
def yX6_judgeLikeness : MethodName := ⟨RX6, "judgeLikeness", "(LWitnessworks$Entry;LWitnessworks$Row;)I"⟩
abbrev cX6_goAlike : ByteArray := prog_8_method_11_code
def yX6_goAlike : MethodName := ⟨RX6, "goAlike", "(LWitnessworks$Row;II)Z"⟩
abbrev cX6_judgeLetters : ByteArray := prog_8_method_12_code
def yX6_judgeLetters : MethodName := ⟨RX6, "judgeLetters", "(LWitnessworks$Entry;LWitnessworks$Row;)I"⟩
abbrev cX6_solveGames : ByteArray := prog_8_method_13_code
def yX6_solveGames : MethodName := ⟨RX6, "solveGames", "(LWitnessworks$Entry;)V"⟩
abbrev cX6_loadNodes : ByteArray := prog_8_method_14_code
def yX6_loadNodes : MethodName := ⟨RX6, "loadNodes", "(LWitnessworks$Entry;)V"⟩
abbrev cX6_leastWay : ByteArray := prog_8_method_15_code
def yX6_leastWay : MethodName := ⟨RX6, "leastWay", "(III)I"⟩
abbrev cX6_isWonBy : ByteArray := prog_8_method_16_code
def yX6_isWonBy : MethodName := ⟨RX6, "isWonBy", "(II)Z"⟩
abbrev cX6_wonByFirst : ByteArray := prog_8_method_17_code
def yX6_wonByFirst : MethodName := ⟨RX6, "wonByFirst", "(II)I"⟩
abbrev cX6_greatestWeight : ByteArray := prog_8_method_18_code
def yX6_greatestWeight : MethodName := ⟨RX6, "greatestWeight", "(I)I"⟩
abbrev cX6_withWeight : ByteArray := prog_8_method_19_code
def yX6_withWeight : MethodName := ⟨RX6, "withWeight", "(II)I"⟩
abbrev cX6_drawnTo : ByteArray := prog_8_method_20_code
def yX6_drawnTo : MethodName := ⟨RX6, "drawnTo", "(III)I"⟩
abbrev cX6_judgeGame : ByteArray := prog_8_method_22_code
def yX6_judgeGame : MethodName := ⟨RX6, "judgeGame", "(LWitnessworks$Entry;LWitnessworks$Row;I)I"⟩
def RX7 : String := "Witnessworks$Networks"
def TX7 : u_T := fun k => match k with
  | 0 => ("Witnessworks$Networks", "near", "[I", true)
  | 1 => ("Witnessworks$Networks", "best", "[I", true)
  | 2 => ("Witnessworks$Networks", "from", "[I", true)
  | 3 => ("Witnessworks$Networks", "to", "[I", true)
  | 4 => ("Witnessworks$Networks", "caps", "[I", true)
  | 5 => ("Witnessworks$Networks", "flow", "[I", true)
  | 6 => ("Witnessworks$Networks", "via", "[I", true)
  | 7 => ("Witnessworks$Networks", "excess", "[I", true)
  | 8 => ("Witnessworks$Networks", "nodeCount", "I", false)
  | 9 => ("Witnessworks$Networks", "itemCount", "I", false)
  | _ => ("Witnessworks$Networks", "reached", "I", false)
def tyX7 : Nat → FieldType := fun k => match k with
  | 0 => .array .int
  | 1 => .array .int
  | 2 => .array .int
  | 3 => .array .int
  | 4 => .array .int
  | 5 => .array .int
  | 6 => .array .int
  | 7 => .array .int
  | 8 => .int
  | 9 => .int
  | _ => .int
abbrev wsX70 : List Cond := u_ws RX7 TX7 11
theorem nmX7 : ∀ a, a < 11 → ∀ b, b < 11 → a ≠ b → (TX7 a).2.1 ≠ (TX7 b).2.1 := by decide +kernel
theorem tyX7_ok : ∀ k, k < 11 → parseFieldDescriptor (TX7 k).2.2.1 = some (tyX7 k) := by decide +kernel
abbrev cX7_init : ByteArray := prog_9_method_1_code
def yX7_init : MethodName := ⟨RX7, "<init>", "()V"⟩
abbrev cX7_solvePairings : ByteArray := prog_9_method_2_code
def yX7_solvePairings : MethodName := ⟨RX7, "solvePairings", "(LWitnessworks$Entry;)V"⟩
abbrev cX7_countPairs : ByteArray := prog_9_method_3_code
def yX7_countPairs : MethodName := ⟨RX7, "countPairs", "(LWitnessworks$Entry;)V"⟩
abbrev cX7_writePairing : ByteArray := prog_9_method_4_code
def yX7_writePairing : MethodName := ⟨RX7, "writePairing", "(ILWitnessworks$Row;)V"⟩
abbrev cX7_partnerOf : ByteArray := prog_9_method_5_code
def yX7_partnerOf : MethodName := ⟨RX7, "partnerOf", "(III)I"⟩
abbrev cX7_writeNodes : ByteArray := prog_9_method_6_code
def yX7_writeNodes : MethodName := ⟨RX7, "writeNodes", "(ILWitnessworks$Row;)V"⟩
abbrev cX7_letterOf : ByteArray := prog_9_method_7_code
def yX7_letterOf : MethodName := ⟨RX7, "letterOf", "(II)C"⟩
abbrev cX7_canBeAlone : ByteArray := prog_9_method_8_code
def yX7_canBeAlone : MethodName := ⟨RX7, "canBeAlone", "(II)Z"⟩
abbrev cX7_judgePairing : ByteArray := prog_9_method_10_code
def yX7_judgePairing : MethodName := ⟨RX7, "judgePairing", "(LWitnessworks$Entry;LWitnessworks$Row;)I"⟩
abbrev cX7_judgeNodes : ByteArray := prog_9_method_11_code
def yX7_judgeNodes : MethodName := ⟨RX7, "judgeNodes", "(LWitnessworks$Entry;LWitnessworks$Row;)I"⟩
abbrev cX7_solveFlows : ByteArray := prog_9_method_12_code
def yX7_solveFlows : MethodName := ⟨RX7, "solveFlows", "(LWitnessworks$Entry;)V"⟩
abbrev cX7_loadFlows : ByteArray := prog_9_method_13_code
def yX7_loadFlows : MethodName := ⟨RX7, "loadFlows", "(LWitnessworks$Entry;)V"⟩
abbrev cX7_greatest : ByteArray := prog_9_method_14_code
def yX7_greatest : MethodName := ⟨RX7, "greatest", "()I"⟩
abbrev cX7_leadsOn : ByteArray := prog_9_method_15_code
def yX7_leadsOn : MethodName := ⟨RX7, "leadsOn", "(III)Z"⟩
abbrev cX7_reachBy : ByteArray := prog_9_method_16_code
def yX7_reachBy : MethodName := ⟨RX7, "reachBy", "(I)V"⟩
abbrev cX7_goBack : ByteArray := prog_9_method_17_code
def yX7_goBack : MethodName := ⟨RX7, "goBack", "(I)I"⟩
abbrev cX7_lowerAll : ByteArray := prog_9_method_18_code
def yX7_lowerAll : MethodName := ⟨RX7, "lowerAll", "()V"⟩
abbrev cX7_judgeFlow : ByteArray := prog_9_method_20_code
def yX7_judgeFlow : MethodName := ⟨RX7, "judgeFlow", "(LWitnessworks$Entry;LWitnessworks$Row;)I"⟩
abbrev cX7_judgeBar : ByteArray := prog_9_method_21_code
def yX7_judgeBar : MethodName := ⟨RX7, "judgeBar", "(LWitnessworks$Entry;LWitnessworks$Row;)I"⟩
def RX8 : String := "Witnessworks$Numbers"
def TX8 : u_T := fun k => match k with
  | 0 => ("Witnessworks$Numbers", "point", "[J", true)
  | 1 => ("Witnessworks$Numbers", "basis", "[[J", true)
  | 2 => ("Witnessworks$Numbers", "amounts", "[J", true)
  | 3 => ("Witnessworks$Numbers", "basisCount", "I", false)
  | 4 => ("Witnessworks$Numbers", "chain", "[[J", true)
  | 5 => ("Witnessworks$Numbers", "degrees", "[I", true)
  | 6 => ("Witnessworks$Numbers", "left", "[J", true)
  | 7 => ("Witnessworks$Numbers", "often", "[J", true)
  | _ => ("Witnessworks$Numbers", "chainCount", "I", false)
def tyX8 : Nat → FieldType := fun k => match k with
  | 0 => .array .long
  | 1 => .array (.array .long)
  | 2 => .array .long
  | 3 => .int
  | 4 => .array (.array .long)
  | 5 => .array .int
  | 6 => .array .long
  | 7 => .array .long
  | _ => .int
abbrev wsX80 : List Cond := u_ws RX8 TX8 9
theorem nmX8 : ∀ a, a < 9 → ∀ b, b < 9 → a ≠ b → (TX8 a).2.1 ≠ (TX8 b).2.1 := by decide +kernel
theorem tyX8_ok : ∀ k, k < 9 → parseFieldDescriptor (TX8 k).2.2.1 = some (tyX8 k) := by decide +kernel
abbrev cX8_init : ByteArray := prog_10_method_1_code
def yX8_init : MethodName := ⟨RX8, "<init>", "()V"⟩
abbrev cX8_solveEquations : ByteArray := prog_10_method_2_code
def yX8_solveEquations : MethodName := ⟨RX8, "solveEquations", "(LWitnessworks$Entry;)V"⟩
abbrev cX8_rightSide : ByteArray := prog_10_method_3_code
def yX8_rightSide : MethodName := ⟨RX8, "rightSide", "(LWitnessworks$Entry;I)I"⟩
abbrev cX8_findPoint : ByteArray := prog_10_method_4_code
def yX8_findPoint : MethodName := ⟨RX8, "findPoint", "(LWitnessworks$Entry;)Z"⟩
abbrev cX8_fulfilItem : ByteArray := prog_10_method_5_code
def yX8_fulfilItem : MethodName := ⟨RX8, "fulfilItem", "(LWitnessworks$Entry;I)Z"⟩
abbrev cX8_gather : ByteArray := prog_10_method_6_code
def yX8_gather : MethodName := ⟨RX8, "gather", "()I"⟩
abbrev cX8_takeFromOthers : ByteArray := prog_10_method_7_code
def yX8_takeFromOthers : MethodName := ⟨RX8, "takeFromOthers", "(I)V"⟩
abbrev cX8_movePoint : ByteArray := prog_10_method_8_code
def yX8_movePoint : MethodName := ⟨RX8, "movePoint", "(IJ)V"⟩
abbrev cX8_removeBasis : ByteArray := prog_10_method_9_code
def yX8_removeBasis : MethodName := ⟨RX8, "removeBasis", "(I)V"⟩
abbrev cX8_takeLeastAmount : ByteArray := prog_10_method_10_code
def yX8_takeLeastAmount : MethodName := ⟨RX8, "takeLeastAmount", "(I)V"⟩
abbrev cX8_writeModulus : ByteArray := prog_10_method_12_code
def yX8_writeModulus : MethodName := ⟨RX8, "writeModulus", "(LWitnessworks$Entry;)V"⟩
abbrev cX8_areMultiples : ByteArray := prog_10_method_13_code
def yX8_areMultiples : MethodName := ⟨RX8, "areMultiples", "(LWitnessworks$Entry;JJJ)Z"⟩
abbrev cX8_isNoMultiple : ByteArray := prog_10_method_14_code
def yX8_isNoMultiple : MethodName := ⟨RX8, "isNoMultiple", "(LWitnessworks$Entry;JJJ)Z"⟩
abbrev cX8_judgeUnknowns : ByteArray := prog_10_method_15_code
def yX8_judgeUnknowns : MethodName := ⟨RX8, "judgeUnknowns", "(LWitnessworks$Entry;LWitnessworks$Row;)I"⟩
abbrev cX8_judgeModulus : ByteArray := prog_10_method_16_code
def yX8_judgeModulus : MethodName := ⟨RX8, "judgeModulus", "(LWitnessworks$Entry;LWitnessworks$Row;)I"⟩
abbrev cX8_solvePrimes : ByteArray := prog_10_method_17_code
def yX8_solvePrimes : MethodName := ⟨RX8, "solvePrimes", "(LWitnessworks$Entry;)V"⟩
abbrev cX8_leastDivisor : ByteArray := prog_10_method_18_code
def yX8_leastDivisor : MethodName := ⟨RX8, "leastDivisor", "(I)I"⟩
abbrev cX8_writePrime : ByteArray := prog_10_method_19_code
def yX8_writePrime : MethodName := ⟨RX8, "writePrime", "(ILWitnessworks$Row;I)V"⟩
abbrev cX8_withoutDivisor : ByteArray := prog_10_method_20_code
def yX8_withoutDivisor : MethodName := ⟨RX8, "withoutDivisor", "(II)I"⟩
abbrev cX8_baseOf : ByteArray := prog_10_method_21_code
def yX8_baseOf : MethodName := ⟨RX8, "baseOf", "(I)I"⟩
abbrev cX8_isBaseOf : ByteArray := prog_10_method_22_code
def yX8_isBaseOf : MethodName := ⟨RX8, "isBaseOf", "(II)Z"⟩
abbrev cX8_judgePrime : ByteArray := prog_10_method_24_code
def yX8_judgePrime : MethodName := ⟨RX8, "judgePrime", "(LWitnessworks$Entry;LWitnessworks$Row;)I"⟩
abbrev cX8_readPrime : ByteArray := prog_10_method_25_code
def yX8_readPrime : MethodName := ⟨RX8, "readPrime", "(LWitnessworks$Row;IIZ)I"⟩
abbrev cX8_judgeProduct : ByteArray := prog_10_method_26_code
def yX8_judgeProduct : MethodName := ⟨RX8, "judgeProduct", "(LWitnessworks$Entry;LWitnessworks$Row;)I"⟩
abbrev cX8_solveRoots : ByteArray := prog_10_method_27_code
def yX8_solveRoots : MethodName := ⟨RX8, "solveRoots", "(LWitnessworks$Entry;)V"⟩
abbrev cX8_writeParts : ByteArray := prog_10_method_28_code
def yX8_writeParts : MethodName := ⟨RX8, "writeParts", "(IILWitnessworks$Row;)V"⟩
abbrev cX8_rootsOfPart : ByteArray := prog_10_method_30_code
def yX8_rootsOfPart : MethodName := ⟨RX8, "rootsOfPart", "(II)I"⟩
abbrev cX8_buildChain : ByteArray := prog_10_method_31_code
def yX8_buildChain : MethodName := ⟨RX8, "buildChain", "(LWitnessworks$Entry;)V"⟩
abbrev cX8_degreeOf : ByteArray := prog_10_method_32_code
def yX8_degreeOf : MethodName := ⟨RX8, "degreeOf", "([J)I"⟩
abbrev cX8_continueChain : ByteArray := prog_10_method_33_code
def yX8_continueChain : MethodName := ⟨RX8, "continueChain", "()V"⟩
abbrev cX8_addRest : ByteArray := prog_10_method_34_code
def yX8_addRest : MethodName := ⟨RX8, "addRest", "()Z"⟩
abbrev cX8_divide : ByteArray := prog_10_method_35_code
def yX8_divide : MethodName := ⟨RX8, "divide", "([J[JII)V"⟩
abbrev cX8_divideFirst : ByteArray := prog_10_method_36_code
def yX8_divideFirst : MethodName := ⟨RX8, "divideFirst", "(I)V"⟩
abbrev cX8_makeFree : ByteArray := prog_10_method_37_code
def yX8_makeFree : MethodName := ⟨RX8, "makeFree", "([J)V"⟩
abbrev cX8_changesAt : ByteArray := prog_10_method_38_code
def yX8_changesAt : MethodName := ⟨RX8, "changesAt", "(II)I"⟩
abbrev cX8_senseAt : ByteArray := prog_10_method_39_code
def yX8_senseAt : MethodName := ⟨RX8, "senseAt", "(III)I"⟩
abbrev cX8_signInRow : ByteArray := prog_10_method_40_code
def yX8_signInRow : MethodName := ⟨RX8, "signInRow", "(I)I"⟩
abbrev cX8_judgeParts : ByteArray := prog_10_method_41_code
def yX8_judgeParts : MethodName := ⟨RX8, "judgeParts", "(LWitnessworks$Entry;LWitnessworks$Row;)I"⟩
abbrev cX8_areParts : ByteArray := prog_10_method_42_code
def yX8_areParts : MethodName := ⟨RX8, "areParts", "(LWitnessworks$Row;)Z"⟩
abbrev cX8_areOrdered : ByteArray := prog_10_method_43_code
def yX8_areOrdered : MethodName := ⟨RX8, "areOrdered", "(LWitnessworks$Row;)Z"⟩
abbrev cX8_judgeSigns : ByteArray := prog_10_method_44_code
def yX8_judgeSigns : MethodName := ⟨RX8, "judgeSigns", "(LWitnessworks$Entry;LWitnessworks$Row;)I"⟩
def RX9 : String := "Witnessworks$Row"
def TX9 : u_T := fun k => match k with
  | 0 => ("Witnessworks$Row", "numbers", "[I", false)
  | _ => ("Witnessworks$Row", "count", "I", false)
def tyX9 : Nat → FieldType := fun k => match k with
  | 0 => .array .int
  | _ => .int
abbrev wsX90 : List Cond := u_ws RX9 TX9 2
theorem nmX9 : ∀ a, a < 2 → ∀ b, b < 2 → a ≠ b → (TX9 a).2.1 ≠ (TX9 b).2.1 := by decide +kernel
theorem tyX9_ok : ∀ k, k < 2 → parseFieldDescriptor (TX9 k).2.2.1 = some (tyX9 k) := by decide +kernel
abbrev cX9_init : ByteArray := prog_11_method_1_code
def yX9_init : MethodName := ⟨RX9, "<init>", "()V"⟩
abbrev cX9_clear : ByteArray := prog_11_method_2_code
def yX9_clear : MethodName := ⟨RX9, "clear", "()V"⟩
abbrev cX9_add : ByteArray := prog_11_method_3_code
def yX9_add : MethodName := ⟨RX9, "add", "(I)V"⟩
abbrev cX9_addBelow : ByteArray := prog_11_method_4_code
def yX9_addBelow : MethodName := ⟨RX9, "addBelow", "(II)V"⟩
abbrev cX9_at : ByteArray := prog_11_method_5_code
def yX9_at : MethodName := ⟨RX9, "at", "(I)I"⟩
abbrev cX9_set : ByteArray := prog_11_method_6_code
def yX9_set : MethodName := ⟨RX9, "set", "(II)V"⟩
abbrev cX9_copy : ByteArray := prog_11_method_7_code
def yX9_copy : MethodName := ⟨RX9, "copy", "(LWitnessworks$Row;)V"⟩
abbrev cX9_isLike : ByteArray := prog_11_method_8_code
def yX9_isLike : MethodName := ⟨RX9, "isLike", "(LWitnessworks$Row;)Z"⟩
abbrev cX9_firstUnlike : ByteArray := prog_11_method_9_code
def yX9_firstUnlike : MethodName := ⟨RX9, "firstUnlike", "(LWitnessworks$Row;)I"⟩
abbrev cX9_total : ByteArray := prog_11_method_10_code
def yX9_total : MethodName := ⟨RX9, "total", "()J"⟩
abbrev cX9_liesWithin : ByteArray := prog_11_method_11_code
def yX9_liesWithin : MethodName := ⟨RX9, "liesWithin", "(III)Z"⟩
abbrev cX9_isRising : ByteArray := prog_11_method_12_code
def yX9_isRising : MethodName := ⟨RX9, "isRising", "(I)Z"⟩
abbrev cX9_holds : ByteArray := prog_11_method_13_code
def yX9_holds : MethodName := ⟨RX9, "holds", "(II)Z"⟩
def RX10 : String := "Witnessworks$Words"
def TX10 : u_T := fun k => match k with
  | 0 => ("Witnessworks$Words", "leads", "[[I", true)
  | 1 => ("Witnessworks$Words", "goal", "[I", true)
  | 2 => ("Witnessworks$Words", "points", "[I", true)
  | 3 => ("Witnessworks$Words", "ledPoints", "[I", true)
  | 4 => ("Witnessworks$Words", "queue", "[I", true)
  | 5 => ("Witnessworks$Words", "aheadOf", "[I", true)
  | 6 => ("Witnessworks$Words", "cameBy", "[I", true)
  | 7 => ("Witnessworks$Words", "steps", "[I", true)
  | 8 => ("Witnessworks$Words", "next", "[I", true)
  | 9 => ("Witnessworks$Words", "nextCount", "I", false)
  | 10 => ("Witnessworks$Words", "size", "I", false)
  | _ => ("Witnessworks$Words", "lastUsed", "I", false)
def tyX10 : Nat → FieldType := fun k => match k with
  | 0 => .array (.array .int)
  | 1 => .array .int
  | 2 => .array .int
  | 3 => .array .int
  | 4 => .array .int
  | 5 => .array .int
  | 6 => .array .int
  | 7 => .array .int
  | 8 => .array .int
  | 9 => .int
  | 10 => .int
  | _ => .int
abbrev wsX100 : List Cond := u_ws RX10 TX10 12
theorem nmX10 : ∀ a, a < 12 → ∀ b, b < 12 → a ≠ b → (TX10 a).2.1 ≠ (TX10 b).2.1 := by decide +kernel
theorem tyX10_ok : ∀ k, k < 12 → parseFieldDescriptor (TX10 k).2.2.1 = some (tyX10 k) := by decide +kernel
abbrev cX10_init : ByteArray := prog_12_method_1_code
def yX10_init : MethodName := ⟨RX10, "<init>", "()V"⟩
abbrev cX10_solvePermutations : ByteArray := prog_12_method_2_code
def yX10_solvePermutations : MethodName := ⟨RX10, "solvePermutations", "(LWitnessworks$Entry;)V"⟩
abbrev cX10_loadItems : ByteArray := prog_12_method_3_code
def yX10_loadItems : MethodName := ⟨RX10, "loadItems", "(LWitnessworks$Entry;)V"⟩
abbrev cX10_loadPoints : ByteArray := prog_12_method_4_code
def yX10_loadPoints : MethodName := ⟨RX10, "loadPoints", "(LWitnessworks$Entry;I[I)V"⟩
abbrev cX10_reachAll : ByteArray := prog_12_method_5_code
def yX10_reachAll : MethodName := ⟨RX10, "reachAll", "(LWitnessworks$Entry;)I"⟩
abbrev cX10_rankOf : ByteArray := prog_12_method_6_code
def yX10_rankOf : MethodName := ⟨RX10, "rankOf", "([I)I"⟩
abbrev cX10_writePoints : ByteArray := prog_12_method_7_code
def yX10_writePoints : MethodName := ⟨RX10, "writePoints", "(I[I)V"⟩
abbrev cX10_unusedPoint : ByteArray := prog_12_method_8_code
def yX10_unusedPoint : MethodName := ⟨RX10, "unusedPoint", "(II)I"⟩
abbrev cX10_writeItems : ByteArray := prog_12_method_9_code
def yX10_writeItems : MethodName := ⟨RX10, "writeItems", "(ILWitnessworks$Row;)V"⟩
abbrev cX10_writeRows : ByteArray := prog_12_method_10_code
def yX10_writeRows : MethodName := ⟨RX10, "writeRows", "(LWitnessworks$Row;)V"⟩
abbrev cX10_codeOf : ByteArray := prog_12_method_11_code
def yX10_codeOf : MethodName := ⟨RX10, "codeOf", "([II)I"⟩
abbrev cX10_judgeItems : ByteArray := prog_12_method_13_code
def yX10_judgeItems : MethodName := ⟨RX10, "judgeItems", "(LWitnessworks$Entry;LWitnessworks$Row;)I"⟩
abbrev cX10_judgeRows : ByteArray := prog_12_method_14_code
def yX10_judgeRows : MethodName := ⟨RX10, "judgeRows", "(LWitnessworks$Entry;LWitnessworks$Row;)I"⟩
abbrev cX10_areRowsOf : ByteArray := prog_12_method_15_code
def yX10_areRowsOf : MethodName := ⟨RX10, "areRowsOf", "(LWitnessworks$Row;I)Z"⟩
abbrev cX10_readCode : ByteArray := prog_12_method_16_code
def yX10_readCode : MethodName := ⟨RX10, "readCode", "(II)I"⟩
abbrev cX10_isLedWithin : ByteArray := prog_12_method_17_code
def yX10_isLedWithin : MethodName := ⟨RX10, "isLedWithin", "(LWitnessworks$Row;II)Z"⟩
abbrev cX10_firstWord : ByteArray := prog_12_method_18_code
def yX10_firstWord : MethodName := ⟨RX10, "firstWord", "(LWitnessworks$Entry;)I"⟩
abbrev cX10_secondWord : ByteArray := prog_12_method_19_code
def yX10_secondWord : MethodName := ⟨RX10, "secondWord", "(LWitnessworks$Entry;)I"⟩
abbrev cX10_beyondWords : ByteArray := prog_12_method_20_code
def yX10_beyondWords : MethodName := ⟨RX10, "beyondWords", "(LWitnessworks$Entry;)I"⟩
abbrev cX10_solveWords : ByteArray := prog_12_method_21_code
def yX10_solveWords : MethodName := ⟨RX10, "solveWords", "(LWitnessworks$Entry;)V"⟩
abbrev cX10_stepFrom : ByteArray := prog_12_method_22_code
def yX10_stepFrom : MethodName := ⟨RX10, "stepFrom", "(LWitnessworks$Entry;I)I"⟩
abbrev cX10_findNext : ByteArray := prog_12_method_23_code
def yX10_findNext : MethodName := ⟨RX10, "findNext", "(LWitnessworks$Entry;I)V"⟩
abbrev cX10_replaceAll : ByteArray := prog_12_method_24_code
def yX10_replaceAll : MethodName := ⟨RX10, "replaceAll", "(LWitnessworks$Entry;III)V"⟩
abbrev cX10_addNext : ByteArray := prog_12_method_25_code
def yX10_addNext : MethodName := ⟨RX10, "addNext", "(I)V"⟩
abbrev cX10_lettersOf : ByteArray := prog_12_method_26_code
def yX10_lettersOf : MethodName := ⟨RX10, "lettersOf", "(I)I"⟩
abbrev cX10_writeSteps : ByteArray := prog_12_method_27_code
def yX10_writeSteps : MethodName := ⟨RX10, "writeSteps", "(LWitnessworks$Entry;I)V"⟩
abbrev cX10_judgeSteps : ByteArray := prog_12_method_29_code
def yX10_judgeSteps : MethodName := ⟨RX10, "judgeSteps", "(LWitnessworks$Entry;LWitnessworks$Row;)I"⟩
abbrev cX10_isNext : ByteArray := prog_12_method_30_code
def yX10_isNext : MethodName := ⟨RX10, "isNext", "(LWitnessworks$Entry;II)Z"⟩
abbrev cX10_judgeClosure : ByteArray := prog_12_method_31_code
def yX10_judgeClosure : MethodName := ⟨RX10, "judgeClosure", "(LWitnessworks$Entry;LWitnessworks$Row;)I"⟩
def RX11 : String := "Witnessworks"
def TX11 : u_T := fun k => match k with
  | 0 => ("Witnessworks", "house", "LWitnessworks$House;", true)
  | 1 => ("Witnessworks", "book", "[LWitnessworks$Entry;", true)
  | 2 => ("Witnessworks", "entryCount", "I", false)
  | 3 => ("Witnessworks", "leaningChain", "[I", true)
  | 4 => ("Witnessworks", "told", "[I", true)
  | 5 => ("Witnessworks", "draft", "LWitnessworks$Entry;", true)
  | 6 => ("Witnessworks", "before", "[LWitnessworks$Entry;", true)
  | 7 => ("Witnessworks", "changeLetters", "[C", true)
  | 8 => ("Witnessworks", "changedEntries", "[I", true)
  | 9 => ("Witnessworks", "firstChange", "I", false)
  | 10 => ("Witnessworks", "changeCount", "I", false)
  | 11 => ("Witnessworks", "typed", "LWitnessworks$Row;", true)
  | 12 => ("Witnessworks", "earned", "[I", true)
  | 13 => ("Witnessworks", "personCount", "I", false)
  | 14 => ("Witnessworks", "claims", "[LWitnessworks$Claim;", true)
  | 15 => ("Witnessworks", "claimCount", "I", false)
  | 16 => ("Witnessworks", "errors", "[I", false)
  | 17 => ("Witnessworks", "errorCount", "I", false)
  | _ => ("Witnessworks", "settlings", "I", false)
def tyX11 : Nat → FieldType := fun k => match k with
  | 0 => .object "Witnessworks$House"
  | 1 => .array (.object "Witnessworks$Entry")
  | 2 => .int
  | 3 => .array .int
  | 4 => .array .int
  | 5 => .object "Witnessworks$Entry"
  | 6 => .array (.object "Witnessworks$Entry")
  | 7 => .array .char
  | 8 => .array .int
  | 9 => .int
  | 10 => .int
  | 11 => .object "Witnessworks$Row"
  | 12 => .array .int
  | 13 => .int
  | 14 => .array (.object "Witnessworks$Claim")
  | 15 => .int
  | 16 => .array .int
  | 17 => .int
  | _ => .int
abbrev wsX110 : List Cond := u_ws RX11 TX11 19
theorem nmX11 : ∀ a, a < 19 → ∀ b, b < 19 → a ≠ b → (TX11 a).2.1 ≠ (TX11 b).2.1 := by decide +kernel
theorem tyX11_ok : ∀ k, k < 19 → parseFieldDescriptor (TX11 k).2.2.1 = some (tyX11 k) := by decide +kernel
abbrev cX11_init : ByteArray := prog_1_method_1_code
def yX11_init : MethodName := ⟨RX11, "<init>", "()V"⟩
abbrev cX11_open : ByteArray := prog_1_method_2_code
def yX11_open : MethodName := ⟨RX11, "open", "(CII)I"⟩
abbrev cX11_put : ByteArray := prog_1_method_3_code
def yX11_put : MethodName := ⟨RX11, "put", "(IIIIII)I"⟩
abbrev cX11_change : ByteArray := prog_1_method_4_code
def yX11_change : MethodName := ⟨RX11, "change", "(IIIIIII)I"⟩
abbrev cX11_drop : ByteArray := prog_1_method_5_code
def yX11_drop : MethodName := ⟨RX11, "drop", "(II)I"⟩
abbrev cX11_setBound : ByteArray := prog_1_method_6_code
def yX11_setBound : MethodName := ⟨RX11, "setBound", "(II)I"⟩
abbrev cX11_lean : ByteArray := prog_1_method_7_code
def yX11_lean : MethodName := ⟨RX11, "lean", "(III)I"⟩
abbrev cX11_stand : ByteArray := prog_1_method_8_code
def yX11_stand : MethodName := ⟨RX11, "stand", "(I)I"⟩
abbrev cX11_carry : ByteArray := prog_1_method_9_code
def yX11_carry : MethodName := ⟨RX11, "carry", "(IC)I"⟩
abbrev cX11_undo : ByteArray := prog_1_method_10_code
def yX11_undo : MethodName := ⟨RX11, "undo", "()C"⟩
abbrev cX11_entries : ByteArray := prog_1_method_11_code
def yX11_entries : MethodName := ⟨RX11, "entries", "()I"⟩
abbrev cX11_kindOf : ByteArray := prog_1_method_12_code
def yX11_kindOf : MethodName := ⟨RX11, "kindOf", "(I)C"⟩
abbrev cX11_sizeOf : ByteArray := prog_1_method_13_code
def yX11_sizeOf : MethodName := ⟨RX11, "sizeOf", "(I)I"⟩
abbrev cX11_boundOf : ByteArray := prog_1_method_14_code
def yX11_boundOf : MethodName := ⟨RX11, "boundOf", "(I)I"⟩
abbrev cX11_items : ByteArray := prog_1_method_15_code
def yX11_items : MethodName := ⟨RX11, "items", "(I)I"⟩
abbrev cX11_item : ByteArray := prog_1_method_16_code
def yX11_item : MethodName := ⟨RX11, "item", "(III)I"⟩
abbrev cX11_cameFrom : ByteArray := prog_1_method_18_code
def yX11_cameFrom : MethodName := ⟨RX11, "cameFrom", "(I)I"⟩
abbrev cX11_answer : ByteArray := prog_1_method_19_code
def yX11_answer : MethodName := ⟨RX11, "answer", "(I)C"⟩
abbrev cX11_number : ByteArray := prog_1_method_20_code
def yX11_number : MethodName := ⟨RX11, "number", "(I)I"⟩
abbrev cX11_length : ByteArray := prog_1_method_21_code
def yX11_length : MethodName := ⟨RX11, "length", "(I)I"⟩
abbrev cX11_rowSum : ByteArray := prog_1_method_23_code
def yX11_rowSum : MethodName := ⟨RX11, "rowSum", "(I)J"⟩
abbrev cX11_person : ByteArray := prog_1_method_38_code
def yX11_person : MethodName := ⟨RX11, "person", "()I"⟩
abbrev cX11_type : ByteArray := prog_1_method_39_code
def yX11_type : MethodName := ⟨RX11, "type", "(I)I"⟩
abbrev cX11_alter : ByteArray := prog_1_method_41_code
def yX11_alter : MethodName := ⟨RX11, "alter", "(II)I"⟩
abbrev cX11_wipe : ByteArray := prog_1_method_42_code
def yX11_wipe : MethodName := ⟨RX11, "wipe", "()I"⟩
abbrev cX11_borrow : ByteArray := prog_1_method_43_code
def yX11_borrow : MethodName := ⟨RX11, "borrow", "(I)I"⟩
abbrev cX11_bring : ByteArray := prog_1_method_44_code
def yX11_bring : MethodName := ⟨RX11, "bring", "(I)I"⟩
abbrev cX11_check : ByteArray := prog_1_method_45_code
def yX11_check : MethodName := ⟨RX11, "check", "(IZ)I"⟩
abbrev cX11_claim : ByteArray := prog_1_method_46_code
def yX11_claim : MethodName := ⟨RX11, "claim", "(IIZ)I"⟩
abbrev cX11_settle : ByteArray := prog_1_method_50_code
def yX11_settle : MethodName := ⟨RX11, "settle", "()I"⟩
abbrev cX11_checksum : ByteArray := prog_1_method_57_code
def yX11_checksum : MethodName := ⟨RX11, "checksum", "()J"⟩
abbrev cX11_isSound : ByteArray := prog_1_method_58_code
def yX11_isSound : MethodName := ⟨RX11, "isSound", "()Z"⟩
abbrev cX11_canHaveSize : ByteArray := prog_1_method_59_code
def yX11_canHaveSize : MethodName := ⟨RX11, "canHaveSize", "(II)Z"⟩
abbrev cX11_canHaveBound : ByteArray := prog_1_method_60_code
def yX11_canHaveBound : MethodName := ⟨RX11, "canHaveBound", "(II)Z"⟩
abbrev cX11_mostItems : ByteArray := prog_1_method_61_code
def yX11_mostItems : MethodName := ⟨RX11, "mostItems", "(LWitnessworks$Entry;)I"⟩
abbrev cX11_entryAt : ByteArray := prog_1_method_62_code
def yX11_entryAt : MethodName := ⟨RX11, "entryAt", "(I)LWitnessworks$Entry;"⟩
abbrev cX11_testPlace : ByteArray := prog_1_method_63_code
def yX11_testPlace : MethodName := ⟨RX11, "testPlace", "(II)V"⟩
abbrev cX11_testRange : ByteArray := prog_1_method_64_code
def yX11_testRange : MethodName := ⟨RX11, "testRange", "(III)V"⟩
abbrev cX11_tellNumbers : ByteArray := prog_1_method_66_code
def yX11_tellNumbers : MethodName := ⟨RX11, "tellNumbers", "(IIIII)V"⟩
abbrev cX11_testItem : ByteArray := prog_1_method_67_code
def yX11_testItem : MethodName := ⟨RX11, "testItem", "(LWitnessworks$Entry;I)V"⟩
abbrev cX11_refreshed : ByteArray := prog_1_method_68_code
def yX11_refreshed : MethodName := ⟨RX11, "refreshed", "(I)LWitnessworks$Entry;"⟩
abbrev cX11_leadsTo : ByteArray := prog_1_method_69_code
def yX11_leadsTo : MethodName := ⟨RX11, "leadsTo", "(II)Z"⟩
abbrev cX11_remember : ByteArray := prog_1_method_70_code
def yX11_remember : MethodName := ⟨RX11, "remember", "(CI)V"⟩
abbrev cX11_forgetEntry : ByteArray := prog_1_method_71_code
def yX11_forgetEntry : MethodName := ⟨RX11, "forgetEntry", "(I)V"⟩
abbrev cX11_removeClaim : ByteArray := prog_1_method_72_code
def yX11_removeClaim : MethodName := ⟨RX11, "removeClaim", "(I)V"⟩
abbrev cX11_standsAlready : ByteArray := prog_1_method_73_code
def yX11_standsAlready : MethodName := ⟨RX11, "standsAlready", "(IZ)Z"⟩
abbrev cX11_wouldBeCarriedSo : ByteArray := prog_1_method_74_code
def yX11_wouldBeCarriedSo : MethodName := ⟨RX11, "wouldBeCarriedSo", "(LWitnessworks$Entry;)Z"⟩
abbrev cX11_settleEntry : ByteArray := prog_1_method_75_code
def yX11_settleEntry : MethodName := ⟨RX11, "settleEntry", "(ILWitnessworks$Entry;)V"⟩
abbrev cX11_settleClaims : ByteArray := prog_1_method_76_code
def yX11_settleClaims : MethodName := ⟨RX11, "settleClaims", "(I)V"⟩
abbrev cX11_addError : ByteArray := prog_1_method_77_code
def yX11_addError : MethodName := ⟨RX11, "addError", "(ICI)V"⟩
abbrev cX11_isSoundEntry : ByteArray := prog_1_method_78_code
def yX11_isSoundEntry : MethodName := ⟨RX11, "isSoundEntry", "(LWitnessworks$Entry;)Z"⟩
abbrev cX11_isUnsoundClaim : ByteArray := prog_1_method_79_code
def yX11_isUnsoundClaim : MethodName := ⟨RX11, "isUnsoundClaim", "(LWitnessworks$Claim;)Z"⟩
abbrev cX11_has : ByteArray := prog_1_method_80_code
def yX11_has : MethodName := ⟨RX11, "has", "(II)Z"⟩
abbrev cX11_lowest : ByteArray := prog_1_method_81_code
def yX11_lowest : MethodName := ⟨RX11, "lowest", "(I)I"⟩
abbrev cX11_hangingTogether : ByteArray := prog_1_method_82_code
def yX11_hangingTogether : MethodName := ⟨RX11, "hangingTogether", "([III)I"⟩
abbrev cX11_divisorInCommon : ByteArray := prog_1_method_83_code
def yX11_divisorInCommon : MethodName := ⟨RX11, "divisorInCommon", "(JJ)J"⟩
abbrev cX11_restOfPower : ByteArray := prog_1_method_84_code
def yX11_restOfPower : MethodName := ⟨RX11, "restOfPower", "(III)I"⟩
def RX12 : String := "WitnessworksModel$Change"
def TX12 : u_T := fun k => match k with
  | _ => ("", "", "", false)
def tyX12 : Nat → FieldType := fun k => match k with
  | _ => .int
abbrev wsX120 : List Cond := u_ws RX12 TX12 0
theorem nmX12 : ∀ a, a < 0 → ∀ b, b < 0 → a ≠ b → (TX12 a).2.1 ≠ (TX12 b).2.1 := by decide +kernel
theorem tyX12_ok : ∀ k, k < 0 → parseFieldDescriptor (TX12 k).2.2.1 = some (tyX12 k) := by decide +kernel
def RX13 : String := "WitnessworksModel$Claim"
def TX13 : u_T := fun k => match k with
  | _ => ("", "", "", false)
def tyX13 : Nat → FieldType := fun k => match k with
  | _ => .int
abbrev wsX130 : List Cond := u_ws RX13 TX13 0
theorem nmX13 : ∀ a, a < 0 → ∀ b, b < 0 → a ≠ b → (TX13 a).2.1 ≠ (TX13 b).2.1 := by decide +kernel
theorem tyX13_ok : ∀ k, k < 0 → parseFieldDescriptor (TX13 k).2.2.1 = some (tyX13 k) := by decide +kernel
def RX14 : String := "WitnessworksModel$Clauses"
def TX14 : u_T := fun k => match k with
  | _ => ("", "", "", false)
def tyX14 : Nat → FieldType := fun k => match k with
  | _ => .int
abbrev wsX140 : List Cond := u_ws RX14 TX14 0
theorem nmX14 : ∀ a, a < 0 → ∀ b, b < 0 → a ≠ b → (TX14 a).2.1 ≠ (TX14 b).2.1 := by decide +kernel
theorem tyX14_ok : ∀ k, k < 0 → parseFieldDescriptor (TX14 k).2.2.1 = some (tyX14 k) := by decide +kernel
def RX15 : String := "WitnessworksModel$Drawings"
def TX15 : u_T := fun k => match k with
  | _ => ("", "", "", false)
def tyX15 : Nat → FieldType := fun k => match k with
  | _ => .int
abbrev wsX150 : List Cond := u_ws RX15 TX15 0
theorem nmX15 : ∀ a, a < 0 → ∀ b, b < 0 → a ≠ b → (TX15 a).2.1 ≠ (TX15 b).2.1 := by decide +kernel
theorem tyX15_ok : ∀ k, k < 0 → parseFieldDescriptor (TX15 k).2.2.1 = some (tyX15 k) := by decide +kernel
def RX16 : String := "WitnessworksModel$Entry"
def TX16 : u_T := fun k => match k with
  | _ => ("", "", "", false)
def tyX16 : Nat → FieldType := fun k => match k with
  | _ => .int
abbrev wsX160 : List Cond := u_ws RX16 TX16 0
theorem nmX16 : ∀ a, a < 0 → ∀ b, b < 0 → a ≠ b → (TX16 a).2.1 ≠ (TX16 b).2.1 := by decide +kernel
theorem tyX16_ok : ∀ k, k < 0 → parseFieldDescriptor (TX16 k).2.2.1 = some (tyX16 k) := by decide +kernel
def RX17 : String := "WitnessworksModel$Equations"
def TX17 : u_T := fun k => match k with
  | _ => ("", "", "", false)
def tyX17 : Nat → FieldType := fun k => match k with
  | _ => .int
abbrev wsX170 : List Cond := u_ws RX17 TX17 0
theorem nmX17 : ∀ a, a < 0 → ∀ b, b < 0 → a ≠ b → (TX17 a).2.1 ≠ (TX17 b).2.1 := by decide +kernel
theorem tyX17_ok : ∀ k, k < 0 → parseFieldDescriptor (TX17 k).2.2.1 = some (tyX17 k) := by decide +kernel
def RX18 : String := "WitnessworksModel$Flows"
def TX18 : u_T := fun k => match k with
  | _ => ("", "", "", false)
def tyX18 : Nat → FieldType := fun k => match k with
  | _ => .int
abbrev wsX180 : List Cond := u_ws RX18 TX18 0
theorem nmX18 : ∀ a, a < 0 → ∀ b, b < 0 → a ≠ b → (TX18 a).2.1 ≠ (TX18 b).2.1 := by decide +kernel
theorem tyX18_ok : ∀ k, k < 0 → parseFieldDescriptor (TX18 k).2.2.1 = some (tyX18 k) := by decide +kernel
def RX19 : String := "WitnessworksModel$Games"
def TX19 : u_T := fun k => match k with
  | _ => ("", "", "", false)
def tyX19 : Nat → FieldType := fun k => match k with
  | _ => .int
abbrev wsX190 : List Cond := u_ws RX19 TX19 0
theorem nmX19 : ∀ a, a < 0 → ∀ b, b < 0 → a ≠ b → (TX19 a).2.1 ≠ (TX19 b).2.1 := by decide +kernel
theorem tyX19_ok : ∀ k, k < 0 → parseFieldDescriptor (TX19 k).2.2.1 = some (tyX19 k) := by decide +kernel
def RX20 : String := "WitnessworksModel$Inequalities"
def TX20 : u_T := fun k => match k with
  | _ => ("", "", "", false)
def tyX20 : Nat → FieldType := fun k => match k with
  | _ => .int
abbrev wsX200 : List Cond := u_ws RX20 TX20 0
theorem nmX20 : ∀ a, a < 0 → ∀ b, b < 0 → a ≠ b → (TX20 a).2.1 ≠ (TX20 b).2.1 := by decide +kernel
theorem tyX20_ok : ∀ k, k < 0 → parseFieldDescriptor (TX20 k).2.2.1 = some (tyX20 k) := by decide +kernel
def RX21 : String := "WitnessworksModel$Kept"
def TX21 : u_T := fun k => match k with
  | _ => ("", "", "", false)
def tyX21 : Nat → FieldType := fun k => match k with
  | _ => .int
abbrev wsX210 : List Cond := u_ws RX21 TX21 0
theorem nmX21 : ∀ a, a < 0 → ∀ b, b < 0 → a ≠ b → (TX21 a).2.1 ≠ (TX21 b).2.1 := by decide +kernel
theorem tyX21_ok : ∀ k, k < 0 → parseFieldDescriptor (TX21 k).2.2.1 = some (tyX21 k) := by decide +kernel
def RX22 : String := "WitnessworksModel$Machines"
def TX22 : u_T := fun k => match k with
  | _ => ("", "", "", false)
def tyX22 : Nat → FieldType := fun k => match k with
  | _ => .int
abbrev wsX220 : List Cond := u_ws RX22 TX22 0
theorem nmX22 : ∀ a, a < 0 → ∀ b, b < 0 → a ≠ b → (TX22 a).2.1 ≠ (TX22 b).2.1 := by decide +kernel
theorem tyX22_ok : ∀ k, k < 0 → parseFieldDescriptor (TX22 k).2.2.1 = some (tyX22 k) := by decide +kernel
def RX23 : String := "WitnessworksModel$Pairings"
def TX23 : u_T := fun k => match k with
  | _ => ("", "", "", false)
def tyX23 : Nat → FieldType := fun k => match k with
  | _ => .int
abbrev wsX230 : List Cond := u_ws RX23 TX23 0
theorem nmX23 : ∀ a, a < 0 → ∀ b, b < 0 → a ≠ b → (TX23 a).2.1 ≠ (TX23 b).2.1 := by decide +kernel
theorem tyX23_ok : ∀ k, k < 0 → parseFieldDescriptor (TX23 k).2.2.1 = some (tyX23 k) := by decide +kernel
def RX24 : String := "WitnessworksModel$Permutations"
def TX24 : u_T := fun k => match k with
  | _ => ("", "", "", false)
def tyX24 : Nat → FieldType := fun k => match k with
  | _ => .int
abbrev wsX240 : List Cond := u_ws RX24 TX24 0
theorem nmX24 : ∀ a, a < 0 → ∀ b, b < 0 → a ≠ b → (TX24 a).2.1 ≠ (TX24 b).2.1 := by decide +kernel
theorem tyX24_ok : ∀ k, k < 0 → parseFieldDescriptor (TX24 k).2.2.1 = some (tyX24 k) := by decide +kernel
def RX25 : String := "WitnessworksModel$Primes"
def TX25 : u_T := fun k => match k with
  | _ => ("", "", "", false)
def tyX25 : Nat → FieldType := fun k => match k with
  | _ => .int
abbrev wsX250 : List Cond := u_ws RX25 TX25 0
theorem nmX25 : ∀ a, a < 0 → ∀ b, b < 0 → a ≠ b → (TX25 a).2.1 ≠ (TX25 b).2.1 := by decide +kernel
theorem tyX25_ok : ∀ k, k < 0 → parseFieldDescriptor (TX25 k).2.2.1 = some (tyX25 k) := by decide +kernel
def RX26 : String := "WitnessworksModel$Question"
def TX26 : u_T := fun k => match k with
  | _ => ("", "", "", false)
def tyX26 : Nat → FieldType := fun k => match k with
  | _ => .int
abbrev wsX260 : List Cond := u_ws RX26 TX26 0
theorem nmX26 : ∀ a, a < 0 → ∀ b, b < 0 → a ≠ b → (TX26 a).2.1 ≠ (TX26 b).2.1 := by decide +kernel
theorem tyX26_ok : ∀ k, k < 0 → parseFieldDescriptor (TX26 k).2.2.1 = some (tyX26 k) := by decide +kernel
def RX27 : String := "WitnessworksModel$Room"
def TX27 : u_T := fun k => match k with
  | _ => ("", "", "", false)
def tyX27 : Nat → FieldType := fun k => match k with
  | _ => .int
abbrev wsX270 : List Cond := u_ws RX27 TX27 0
theorem nmX27 : ∀ a, a < 0 → ∀ b, b < 0 → a ≠ b → (TX27 a).2.1 ≠ (TX27 b).2.1 := by decide +kernel
theorem tyX27_ok : ∀ k, k < 0 → parseFieldDescriptor (TX27 k).2.2.1 = some (tyX27 k) := by decide +kernel
def RX28 : String := "WitnessworksModel$Roots"
def TX28 : u_T := fun k => match k with
  | _ => ("", "", "", false)
def tyX28 : Nat → FieldType := fun k => match k with
  | _ => .int
abbrev wsX280 : List Cond := u_ws RX28 TX28 0
theorem nmX28 : ∀ a, a < 0 → ∀ b, b < 0 → a ≠ b → (TX28 a).2.1 ≠ (TX28 b).2.1 := by decide +kernel
theorem tyX28_ok : ∀ k, k < 0 → parseFieldDescriptor (TX28 k).2.2.1 = some (tyX28 k) := by decide +kernel
def RX29 : String := "WitnessworksModel$Words"
def TX29 : u_T := fun k => match k with
  | _ => ("", "", "", false)
def tyX29 : Nat → FieldType := fun k => match k with
  | _ => .int
abbrev wsX290 : List Cond := u_ws RX29 TX29 0
theorem nmX29 : ∀ a, a < 0 → ∀ b, b < 0 → a ≠ b → (TX29 a).2.1 ≠ (TX29 b).2.1 := by decide +kernel
theorem tyX29_ok : ∀ k, k < 0 → parseFieldDescriptor (TX29 k).2.2.1 = some (tyX29 k) := by decide +kernel
def RX30 : String := "WitnessworksModel"
def TX30 : u_T := fun k => match k with
  | _ => ("", "", "", false)
def tyX30 : Nat → FieldType := fun k => match k with
  | _ => .int
abbrev wsX300 : List Cond := u_ws RX30 TX30 0
theorem nmX30 : ∀ a, a < 0 → ∀ b, b < 0 → a ≠ b → (TX30 a).2.1 ≠ (TX30 b).2.1 := by decide +kernel
theorem tyX30_ok : ∀ k, k < 0 → parseFieldDescriptor (TX30 k).2.2.1 = some (tyX30 k) := by decide +kernel
def RJx145de : String := "java/io/Serializable"
def TJx145de : u_T := fun k => match k with
  | _ => ("", "", "", false)
def tyJx145de : Nat → FieldType := fun k => match k with
  | _ => .int
abbrev wsJx145de0 : List Cond := u_ws RJx145de TJx145de 0
theorem nmJx145de : ∀ a, a < 0 → ∀ b, b < 0 → a ≠ b → (TJx145de a).2.1 ≠ (TJx145de b).2.1 := by decide +kernel
theorem tyJx145de_ok : ∀ k, k < 0 → parseFieldDescriptor (TJx145de k).2.2.1 = some (tyJx145de k) := by decide +kernel
def RJx00060 : String := "java/lang/ArrayIndexOutOfBoundsException"
def TJx00060 : u_T := fun k => match k with
  | 0 => ("java/lang/Throwable", "backtrace", "Ljava/lang/Object;", false)
  | 1 => ("java/lang/Throwable", "detailMessage", "Ljava/lang/String;", false)
  | 2 => ("java/lang/Throwable", "cause", "Ljava/lang/Throwable;", false)
  | 3 => ("java/lang/Throwable", "stackTrace", "[Ljava/lang/StackTraceElement;", false)
  | 4 => ("java/lang/Throwable", "depth", "I", false)
  | _ => ("java/lang/Throwable", "suppressedExceptions", "Ljava/util/List;", false)
def tyJx00060 : Nat → FieldType := fun k => match k with
  | 0 => .object "java/lang/Object"
  | 1 => .object "java/lang/String"
  | 2 => .object "java/lang/Throwable"
  | 3 => .array (.object "java/lang/StackTraceElement")
  | 4 => .int
  | _ => .object "java/util/List"
abbrev wsJx000600 : List Cond := u_ws RJx00060 TJx00060 6
theorem nmJx00060 : ∀ a, a < 6 → ∀ b, b < 6 → a ≠ b → (TJx00060 a).2.1 ≠ (TJx00060 b).2.1 := by decide +kernel
theorem tyJx00060_ok : ∀ k, k < 6 → parseFieldDescriptor (TJx00060 k).2.2.1 = some (tyJx00060 k) := by decide +kernel
abbrev cJx00060_init_a7421 : ByteArray := prog_34_method_2_code
def yJx00060_init_a7421 : MethodName := ⟨RJx00060, "<init>", "(Ljava/lang/String;)V"⟩
def RJx9f9b0 : String := "java/lang/CharSequence"
def TJx9f9b0 : u_T := fun k => match k with
  | _ => ("", "", "", false)
def tyJx9f9b0 : Nat → FieldType := fun k => match k with
  | _ => .int
abbrev wsJx9f9b00 : List Cond := u_ws RJx9f9b0 TJx9f9b0 0
theorem nmJx9f9b0 : ∀ a, a < 0 → ∀ b, b < 0 → a ≠ b → (TJx9f9b0 a).2.1 ≠ (TJx9f9b0 b).2.1 := by decide +kernel
theorem tyJx9f9b0_ok : ∀ k, k < 0 → parseFieldDescriptor (TJx9f9b0 k).2.2.1 = some (tyJx9f9b0 k) := by decide +kernel
def RJ11 : String := "java/lang/Character"
def TJ11 : u_T := fun k => match k with
  | _ => ("", "", "", false)
def tyJ11 : Nat → FieldType := fun k => match k with
  | _ => .int
abbrev wsJ110 : List Cond := u_ws RJ11 TJ11 0
theorem nmJ11 : ∀ a, a < 0 → ∀ b, b < 0 → a ≠ b → (TJ11 a).2.1 ≠ (TJ11 b).2.1 := by decide +kernel
theorem tyJ11_ok : ∀ k, k < 0 → parseFieldDescriptor (TJ11 k).2.2.1 = some (tyJ11 k) := by decide +kernel
abbrev cJ11_isValidCodePoint_9a6ad : ByteArray := prog_36_method_11_code
def yJ11_isValidCodePoint_9a6ad : MethodName := ⟨RJ11, "isValidCodePoint", "(I)Z"⟩
abbrev cJ11_highSurrogate_5068e : ByteArray := prog_36_method_28_code
def yJ11_highSurrogate_5068e : MethodName := ⟨RJ11, "highSurrogate", "(I)C"⟩
abbrev cJ11_lowSurrogate_5068e : ByteArray := prog_36_method_29_code
def yJ11_lowSurrogate_5068e : MethodName := ⟨RJ11, "lowSurrogate", "(I)C"⟩
def RJx8e188 : String := "java/lang/Cloneable"
def TJx8e188 : u_T := fun k => match k with
  | _ => ("", "", "", false)
def tyJx8e188 : Nat → FieldType := fun k => match k with
  | _ => .int
abbrev wsJx8e1880 : List Cond := u_ws RJx8e188 TJx8e188 0
theorem nmJx8e188 : ∀ a, a < 0 → ∀ b, b < 0 → a ≠ b → (TJx8e188 a).2.1 ≠ (TJx8e188 b).2.1 := by decide +kernel
theorem tyJx8e188_ok : ∀ k, k < 0 → parseFieldDescriptor (TJx8e188 k).2.2.1 = some (tyJx8e188 k) := by decide +kernel
def RJxb160c : String := "java/lang/Comparable"
def TJxb160c : u_T := fun k => match k with
  | _ => ("", "", "", false)
def tyJxb160c : Nat → FieldType := fun k => match k with
  | _ => .int
abbrev wsJxb160c0 : List Cond := u_ws RJxb160c TJxb160c 0
theorem nmJxb160c : ∀ a, a < 0 → ∀ b, b < 0 → a ≠ b → (TJxb160c a).2.1 ≠ (TJxb160c b).2.1 := by decide +kernel
theorem tyJxb160c_ok : ∀ k, k < 0 → parseFieldDescriptor (TJxb160c k).2.2.1 = some (tyJxb160c k) := by decide +kernel
def RJ6 : String := "java/lang/Integer"
def TJ6 : u_T := fun k => match k with
  | _ => ("", "", "", false)
def tyJ6 : Nat → FieldType := fun k => match k with
  | _ => .int
abbrev wsJ60 : List Cond := u_ws RJ6 TJ6 0
theorem nmJ6 : ∀ a, a < 0 → ∀ b, b < 0 → a ≠ b → (TJ6 a).2.1 ≠ (TJ6 b).2.1 := by decide +kernel
theorem tyJ6_ok : ∀ k, k < 0 → parseFieldDescriptor (TJ6 k).2.2.1 = some (tyJ6 k) := by decide +kernel
abbrev cJ6_bitCount_0f7a4 : ByteArray := prog_43_method_49_code
def yJ6_bitCount_0f7a4 : MethodName := ⟨RJ6, "bitCount", "(I)I"⟩
def RJ9 : String := "java/lang/Math"
def TJ9 : u_T := fun k => match k with
  | _ => ("", "", "", false)
def tyJ9 : Nat → FieldType := fun k => match k with
  | _ => .int
abbrev wsJ90 : List Cond := u_ws RJ9 TJ9 0
theorem nmJ9 : ∀ a, a < 0 → ∀ b, b < 0 → a ≠ b → (TJ9 a).2.1 ≠ (TJ9 b).2.1 := by decide +kernel
theorem tyJ9_ok : ∀ k, k < 0 → parseFieldDescriptor (TJ9 k).2.2.1 = some (tyJ9 k) := by decide +kernel
abbrev cJ9_floorDiv_7cf53 : ByteArray := prog_44_method_47_code
def yJ9_floorDiv_7cf53 : MethodName := ⟨RJ9, "floorDiv", "(II)I"⟩
abbrev cJ9_floorDiv_f86c9 : ByteArray := prog_44_method_49_code
def yJ9_floorDiv_f86c9 : MethodName := ⟨RJ9, "floorDiv", "(JJ)J"⟩
abbrev cJ9_floorMod_7cf53 : ByteArray := prog_44_method_50_code
def yJ9_floorMod_7cf53 : MethodName := ⟨RJ9, "floorMod", "(II)I"⟩
abbrev cJ9_floorMod_f86c9 : ByteArray := prog_44_method_52_code
def yJ9_floorMod_f86c9 : MethodName := ⟨RJ9, "floorMod", "(JJ)J"⟩
abbrev cJ9_abs_0f7a4 : ByteArray := prog_44_method_59_code
def yJ9_abs_0f7a4 : MethodName := ⟨RJ9, "abs", "(I)I"⟩
abbrev cJ9_abs_067f4 : ByteArray := prog_44_method_61_code
def yJ9_abs_067f4 : MethodName := ⟨RJ9, "abs", "(J)J"⟩
abbrev cJ9_max_7cf53 : ByteArray := prog_44_method_65_code
def yJ9_max_7cf53 : MethodName := ⟨RJ9, "max", "(II)I"⟩
abbrev cJ9_max_f86c9 : ByteArray := prog_44_method_66_code
def yJ9_max_f86c9 : MethodName := ⟨RJ9, "max", "(JJ)J"⟩
abbrev cJ9_min_7cf53 : ByteArray := prog_44_method_69_code
def yJ9_min_7cf53 : MethodName := ⟨RJ9, "min", "(II)I"⟩
def RJ0 : String := "java/lang/String"
def TJ0 : u_T := fun k => match k with
  | 0 => ("java/lang/String", "value", "[B", true)
  | _ => ("java/lang/String", "coder", "B", true)
def tyJ0 : Nat → FieldType := fun k => match k with
  | 0 => .array .byte
  | _ => .byte
abbrev wsJ00 : List Cond := u_ws RJ0 TJ0 2
theorem nmJ0 : ∀ a, a < 2 → ∀ b, b < 2 → a ≠ b → (TJ0 a).2.1 ≠ (TJ0 b).2.1 := by decide +kernel
theorem tyJ0_ok : ∀ k, k < 2 → parseFieldDescriptor (TJ0 k).2.2.1 = some (tyJ0 k) := by decide +kernel
abbrev cJ0_length_8abf5 : ByteArray := prog_46_method_54_code
def yJ0_length_8abf5 : MethodName := ⟨RJ0, "length", "()I"⟩
abbrev cJ0_charAt_5068e : ByteArray := prog_46_method_56_code
def yJ0_charAt_5068e : MethodName := ⟨RJ0, "charAt", "(I)C"⟩
abbrev cJ0_indexOf_0f7a4 : ByteArray := prog_46_method_79_code
def yJ0_indexOf_0f7a4 : MethodName := ⟨RJ0, "indexOf", "(I)I"⟩
abbrev cJ0_indexOf_7cf53 : ByteArray := prog_46_method_80_code
def yJ0_indexOf_7cf53 : MethodName := ⟨RJ0, "indexOf", "(II)I"⟩
abbrev cJ0_coder_7d493 : ByteArray := prog_46_method_152_code
def yJ0_coder_7d493 : MethodName := ⟨RJ0, "coder", "()B"⟩
abbrev cJ0_isLatin1_aae02 : ByteArray := prog_46_method_154_code
def yJ0_isLatin1_aae02 : MethodName := ⟨RJ0, "isLatin1", "()Z"⟩
abbrev cJ0_checkIndex_df160 : ByteArray := prog_46_method_155_code
def yJ0_checkIndex_df160 : MethodName := ⟨RJ0, "checkIndex", "(II)V"⟩
abbrev cJ0_checkBoundsBeginEnd_23922 : ByteArray := prog_46_method_158_code
def yJ0_checkBoundsBeginEnd_23922 : MethodName := ⟨RJ0, "checkBoundsBeginEnd", "(III)V"⟩
def RJ1 : String := "java/lang/StringLatin1"
def TJ1 : u_T := fun k => match k with
  | _ => ("", "", "", false)
def tyJ1 : Nat → FieldType := fun k => match k with
  | _ => .int
abbrev wsJ10 : List Cond := u_ws RJ1 TJ1 0
theorem nmJ1 : ∀ a, a < 0 → ∀ b, b < 0 → a ≠ b → (TJ1 a).2.1 ≠ (TJ1 b).2.1 := by decide +kernel
theorem tyJ1_ok : ∀ k, k < 0 → parseFieldDescriptor (TJ1 k).2.2.1 = some (tyJ1 k) := by decide +kernel
abbrev cJ1_charAt_3b067 : ByteArray := prog_47_method_2_code
def yJ1_charAt_3b067 : MethodName := ⟨RJ1, "charAt", "([BI)C"⟩
abbrev cJ1_canEncode_9a6ad : ByteArray := prog_47_method_4_code
def yJ1_canEncode_9a6ad : MethodName := ⟨RJ1, "canEncode", "(I)Z"⟩
abbrev cJ1_indexOf_4cfef : ByteArray := prog_47_method_22_code
def yJ1_indexOf_4cfef : MethodName := ⟨RJ1, "indexOf", "([BIII)I"⟩
abbrev cJ1_indexOfChar_4cfef : ByteArray := prog_47_method_23_code
def yJ1_indexOfChar_4cfef : MethodName := ⟨RJ1, "indexOfChar", "([BIII)I"⟩
def RJ2 : String := "java/lang/StringUTF16"
def TJ2 : u_T := fun k => match k with
  | _ => ("", "", "", false)
def tyJ2 : Nat → FieldType := fun k => match k with
  | _ => .int
abbrev wsJ20 : List Cond := u_ws RJ2 TJ2 0
theorem nmJ2 : ∀ a, a < 0 → ∀ b, b < 0 → a ≠ b → (TJ2 a).2.1 ≠ (TJ2 b).2.1 := by decide +kernel
theorem tyJ2_ok : ∀ k, k < 0 → parseFieldDescriptor (TJ2 k).2.2.1 = some (tyJ2 k) := by decide +kernel
abbrev cJ2_getChar_3b067 : ByteArray := prog_48_method_5_code
def yJ2_getChar_3b067 : MethodName := ⟨RJ2, "getChar", "([BI)C"⟩
abbrev cJ2_length_9d52b : ByteArray := prog_48_method_6_code
def yJ2_length_9d52b : MethodName := ⟨RJ2, "length", "([B)I"⟩
abbrev cJ2_indexOf_4cfef : ByteArray := prog_48_method_40_code
def yJ2_indexOf_4cfef : MethodName := ⟨RJ2, "indexOf", "([BIII)I"⟩
abbrev cJ2_indexOfChar_4cfef : ByteArray := prog_48_method_47_code
def yJ2_indexOfChar_4cfef : MethodName := ⟨RJ2, "indexOfChar", "([BIII)I"⟩
abbrev cJ2_indexOfCharUnsafe_4cfef : ByteArray := prog_48_method_48_code
def yJ2_indexOfCharUnsafe_4cfef : MethodName := ⟨RJ2, "indexOfCharUnsafe", "([BIII)I"⟩
abbrev cJ2_indexOfSupplementary_4cfef : ByteArray := prog_48_method_49_code
def yJ2_indexOfSupplementary_4cfef : MethodName := ⟨RJ2, "indexOfSupplementary", "([BIII)I"⟩
abbrev cJ2_charAt_3b067 : ByteArray := prog_48_method_83_code
def yJ2_charAt_3b067 : MethodName := ⟨RJ2, "charAt", "([BI)C"⟩
abbrev cJ2_checkIndex_2214a : ByteArray := prog_48_method_91_code
def yJ2_checkIndex_2214a : MethodName := ⟨RJ2, "checkIndex", "(I[B)V"⟩
abbrev cJ2_checkBoundsBeginEnd_d044e : ByteArray := prog_48_method_93_code
def yJ2_checkBoundsBeginEnd_d044e : MethodName := ⟨RJ2, "checkBoundsBeginEnd", "(II[B)V"⟩
def RJ10 : String := "java/lang/System"
def TJ10 : u_T := fun k => match k with
  | _ => ("", "", "", false)
def tyJ10 : Nat → FieldType := fun k => match k with
  | _ => .int
abbrev wsJ100 : List Cond := u_ws RJ10 TJ10 0
theorem nmJ10 : ∀ a, a < 0 → ∀ b, b < 0 → a ≠ b → (TJ10 a).2.1 ≠ (TJ10 b).2.1 := by decide +kernel
theorem tyJ10_ok : ∀ k, k < 0 → parseFieldDescriptor (TJ10 k).2.2.1 = some (tyJ10 k) := by decide +kernel
def RJxfd54e : String := "java/lang/constant/Constable"
def TJxfd54e : u_T := fun k => match k with
  | _ => ("", "", "", false)
def tyJxfd54e : Nat → FieldType := fun k => match k with
  | _ => .int
abbrev wsJxfd54e0 : List Cond := u_ws RJxfd54e TJxfd54e 0
theorem nmJxfd54e : ∀ a, a < 0 → ∀ b, b < 0 → a ≠ b → (TJxfd54e a).2.1 ≠ (TJxfd54e b).2.1 := by decide +kernel
theorem tyJxfd54e_ok : ∀ k, k < 0 → parseFieldDescriptor (TJxfd54e k).2.2.1 = some (tyJxfd54e k) := by decide +kernel
def RJx3cf43 : String := "java/lang/constant/ConstantDesc"
def TJx3cf43 : u_T := fun k => match k with
  | _ => ("", "", "", false)
def tyJx3cf43 : Nat → FieldType := fun k => match k with
  | _ => .int
abbrev wsJx3cf430 : List Cond := u_ws RJx3cf43 TJx3cf43 0
theorem nmJx3cf43 : ∀ a, a < 0 → ∀ b, b < 0 → a ≠ b → (TJx3cf43 a).2.1 ≠ (TJx3cf43 b).2.1 := by decide +kernel
theorem tyJx3cf43_ok : ∀ k, k < 0 → parseFieldDescriptor (TJx3cf43 k).2.2.1 = some (tyJx3cf43 k) := by decide +kernel
def RJ7 : String := "java/util/Arrays"
def TJ7 : u_T := fun k => match k with
  | _ => ("", "", "", false)
def tyJ7 : Nat → FieldType := fun k => match k with
  | _ => .int
abbrev wsJ70 : List Cond := u_ws RJ7 TJ7 0
theorem nmJ7 : ∀ a, a < 0 → ∀ b, b < 0 → a ≠ b → (TJ7 a).2.1 ≠ (TJ7 b).2.1 := by decide +kernel
theorem tyJ7_ok : ∀ k, k < 0 → parseFieldDescriptor (TJ7 k).2.2.1 = some (tyJ7 k) := by decide +kernel
abbrev cJ7_fill_d0a16 : ByteArray := prog_54_method_101_code
def yJ7_fill_d0a16 : MethodName := ⟨RJ7, "fill", "([JJ)V"⟩
abbrev cJ7_fill_53178 : ByteArray := prog_54_method_103_code
def yJ7_fill_53178 : MethodName := ⟨RJ7, "fill", "([II)V"⟩
abbrev cJ7_copyOf_59c91 : ByteArray := prog_54_method_123_code
def yJ7_copyOf_59c91 : MethodName := ⟨RJ7, "copyOf", "([II)[I"⟩
def RJ3 : String := "jdk/internal/util/Preconditions"
def TJ3 : u_T := fun k => match k with
  | _ => ("", "", "", false)
def tyJ3 : Nat → FieldType := fun k => match k with
  | _ => .int
abbrev wsJ30 : List Cond := u_ws RJ3 TJ3 0
theorem nmJ3 : ∀ a, a < 0 → ∀ b, b < 0 → a ≠ b → (TJ3 a).2.1 ≠ (TJ3 b).2.1 := by decide +kernel
theorem tyJ3_ok : ∀ k, k < 0 → parseFieldDescriptor (TJ3 k).2.2.1 = some (tyJ3 k) := by decide +kernel
abbrev cJ3_checkIndex_8e157 : ByteArray := prog_56_method_11_code
def yJ3_checkIndex_8e157 : MethodName := ⟨RJ3, "checkIndex", "(IILjava/util/function/BiFunction;)I"⟩
abbrev cJ3_checkFromToIndex_8c36e : ByteArray := prog_56_method_12_code
def yJ3_checkFromToIndex_8c36e : MethodName := ⟨RJ3, "checkFromToIndex", "(IIILjava/util/function/BiFunction;)I"⟩
def RL : String := "WitnessworksLaw"
abbrev cL_cell : ByteArray := method_2_code
def yL_cell : MethodName := ⟨RL, "cell", "([II)I"⟩
abbrev cL_chosen : ByteArray := method_3_code
def yL_chosen : MethodName := ⟨RL, "chosen", "(II)I"⟩
abbrev cL_open : ByteArray := method_4_code
def yL_open : MethodName := ⟨RL, "open", "(LWitnessworks;CII)J"⟩
abbrev cL_put : ByteArray := method_5_code
def yL_put : MethodName := ⟨RL, "put", "(LWitnessworks;IIIIII)J"⟩
abbrev cL_change : ByteArray := method_6_code
def yL_change : MethodName := ⟨RL, "change", "(LWitnessworks;IIIIIII)J"⟩
abbrev cL_drop : ByteArray := method_7_code
def yL_drop : MethodName := ⟨RL, "drop", "(LWitnessworks;II)J"⟩
abbrev cL_setBound : ByteArray := method_8_code
def yL_setBound : MethodName := ⟨RL, "setBound", "(LWitnessworks;II)J"⟩
abbrev cL_lean : ByteArray := method_9_code
def yL_lean : MethodName := ⟨RL, "lean", "(LWitnessworks;III)J"⟩
abbrev cL_stand : ByteArray := method_10_code
def yL_stand : MethodName := ⟨RL, "stand", "(LWitnessworks;I)J"⟩
abbrev cL_carry : ByteArray := method_11_code
def yL_carry : MethodName := ⟨RL, "carry", "(LWitnessworks;IC)J"⟩
abbrev cL_undo : ByteArray := method_12_code
def yL_undo : MethodName := ⟨RL, "undo", "(LWitnessworks;)J"⟩
abbrev cL_entries : ByteArray := method_13_code
def yL_entries : MethodName := ⟨RL, "entries", "(LWitnessworks;)J"⟩
abbrev cL_kindOf : ByteArray := method_14_code
def yL_kindOf : MethodName := ⟨RL, "kindOf", "(LWitnessworks;I)J"⟩
abbrev cL_sizeOf : ByteArray := method_15_code
def yL_sizeOf : MethodName := ⟨RL, "sizeOf", "(LWitnessworks;I)J"⟩
abbrev cL_boundOf : ByteArray := method_16_code
def yL_boundOf : MethodName := ⟨RL, "boundOf", "(LWitnessworks;I)J"⟩
abbrev cL_items : ByteArray := method_17_code
def yL_items : MethodName := ⟨RL, "items", "(LWitnessworks;I)J"⟩
abbrev cL_item : ByteArray := method_18_code
def yL_item : MethodName := ⟨RL, "item", "(LWitnessworks;III)J"⟩
abbrev cL_cameFrom : ByteArray := method_19_code
def yL_cameFrom : MethodName := ⟨RL, "cameFrom", "(LWitnessworks;I)J"⟩
abbrev cL_answer : ByteArray := method_20_code
def yL_answer : MethodName := ⟨RL, "answer", "(LWitnessworks;I)J"⟩
abbrev cL_number : ByteArray := method_21_code
def yL_number : MethodName := ⟨RL, "number", "(LWitnessworks;I)J"⟩
abbrev cL_length : ByteArray := method_22_code
def yL_length : MethodName := ⟨RL, "length", "(LWitnessworks;I)J"⟩
abbrev cL_rowSum : ByteArray := method_23_code
def yL_rowSum : MethodName := ⟨RL, "rowSum", "(LWitnessworks;I)J"⟩
abbrev cL_person : ByteArray := method_26_code
def yL_person : MethodName := ⟨RL, "person", "(LWitnessworks;)J"⟩
abbrev cL_type : ByteArray := method_27_code
def yL_type : MethodName := ⟨RL, "type", "(LWitnessworks;I)J"⟩
abbrev cL_alter : ByteArray := method_28_code
def yL_alter : MethodName := ⟨RL, "alter", "(LWitnessworks;II)J"⟩
abbrev cL_wipe : ByteArray := method_29_code
def yL_wipe : MethodName := ⟨RL, "wipe", "(LWitnessworks;)J"⟩
abbrev cL_borrow : ByteArray := method_30_code
def yL_borrow : MethodName := ⟨RL, "borrow", "(LWitnessworks;I)J"⟩
abbrev cL_bring : ByteArray := method_31_code
def yL_bring : MethodName := ⟨RL, "bring", "(LWitnessworks;I)J"⟩
abbrev cL_check : ByteArray := method_32_code
def yL_check : MethodName := ⟨RL, "check", "(LWitnessworks;IZ)J"⟩
abbrev cL_claim : ByteArray := method_33_code
def yL_claim : MethodName := ⟨RL, "claim", "(LWitnessworks;IIZ)J"⟩
abbrev cL_settle : ByteArray := method_34_code
def yL_settle : MethodName := ⟨RL, "settle", "(LWitnessworks;)J"⟩
abbrev cL_checksum : ByteArray := method_35_code
def yL_checksum : MethodName := ⟨RL, "checksum", "(LWitnessworks;)J"⟩
abbrev cL_isSound : ByteArray := method_36_code
def yL_isSound : MethodName := ⟨RL, "isSound", "(LWitnessworks;)J"⟩
abbrev cL_drawn : ByteArray := method_37_code
def yL_drawn : MethodName := ⟨RL, "drawn", "([III)I"⟩
abbrev cL_pick : ByteArray := method_38_code
def yL_pick : MethodName := ⟨RL, "pick", "(I[I)I"⟩
abbrev cL_limit : ByteArray := method_39_code
def yL_limit : MethodName := ⟨RL, "limit", "(CI)I"⟩
abbrev cL_part : ByteArray := method_40_code
def yL_part : MethodName := ⟨RL, "part", "(CII[II)I"⟩
abbrev cL_writes : ByteArray := method_41_code
def yL_writes : MethodName := ⟨RL, "writes", "(LWitnessworks;II[II)J"⟩
abbrev cL_isOne : ByteArray := method_42_code
def yL_isOne : MethodName := ⟨RL, "isOne", "(LWitnessworks;I[II)Z"⟩
abbrev cL_areOne : ByteArray := method_43_code
def yL_areOne : MethodName := ⟨RL, "areOne", "(LWitnessworks;[II)Z"⟩
abbrev cL_isAnew : ByteArray := method_44_code
def yL_isAnew : MethodName := ⟨RL, "isAnew", "(LWitnessworks;)Z"⟩
abbrev cL_isCarried : ByteArray := method_45_code
def yL_isCarried : MethodName := ⟨RL, "isCarried", "(LWitnessworks;IC)Z"⟩
abbrev cL_law : ByteArray := code
def yL_law : MethodName := ⟨RL, "law", "([I)Z"⟩
