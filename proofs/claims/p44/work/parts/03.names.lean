def RX0 : String := "EventClockWorkbench$Automaton"
def TX0 : u_T := fun k => match k with
  | _ => ("EventClockWorkbench$Automaton", "cells", "[I", true)
def tyX0 : Nat → FieldType := fun k => match k with
  | _ => .array .int
abbrev wsX00 : List Cond := u_ws RX0 TX0 1
theorem nmX0 : ∀ a, a < 1 → ∀ b, b < 1 → a ≠ b → (TX0 a).2.1 ≠ (TX0 b).2.1 := by decide +kernel
theorem tyX0_ok : ∀ k, k < 1 → parseFieldDescriptor (TX0 k).2.2.1 = some (tyX0 k) := by decide +kernel
abbrev cX0_init : ByteArray := prog_2_method_1_code
def yX0_init : MethodName := ⟨RX0, "<init>", "()V"⟩
abbrev cX0_size : ByteArray := prog_2_method_2_code
def yX0_size : MethodName := ⟨RX0, "size", "()I"⟩
abbrev cX0_initialStates : ByteArray := prog_2_method_3_code
def yX0_initialStates : MethodName := ⟨RX0, "initialStates", "()I"⟩
abbrev cX0_finalStates : ByteArray := prog_2_method_4_code
def yX0_finalStates : MethodName := ⟨RX0, "finalStates", "()I"⟩
abbrev cX0_putInitialStates : ByteArray := prog_2_method_5_code
def yX0_putInitialStates : MethodName := ⟨RX0, "putInitialStates", "(I)V"⟩
abbrev cX0_putFinalStates : ByteArray := prog_2_method_6_code
def yX0_putFinalStates : MethodName := ⟨RX0, "putFinalStates", "(I)V"⟩
abbrev cX0_cell : ByteArray := prog_2_method_7_code
def yX0_cell : MethodName := ⟨RX0, "cell", "(II)I"⟩
abbrev cX0_letter : ByteArray := prog_2_method_8_code
def yX0_letter : MethodName := ⟨RX0, "letter", "(I)I"⟩
abbrev cX0_allowed : ByteArray := prog_2_method_10_code
def yX0_allowed : MethodName := ⟨RX0, "allowed", "(I)I"⟩
abbrev cX0_constraintCell : ByteArray := prog_2_method_11_code
def yX0_constraintCell : MethodName := ⟨RX0, "constraintCell", "(III)I"⟩
abbrev cX0_putCell : ByteArray := prog_2_method_12_code
def yX0_putCell : MethodName := ⟨RX0, "putCell", "(III)V"⟩
abbrev cX0_add : ByteArray := prog_2_method_13_code
def yX0_add : MethodName := ⟨RX0, "add", "(IIILEventClockWorkbench$GuardText;)I"⟩
abbrev cX0_writeTo : ByteArray := prog_2_method_17_code
def yX0_writeTo : MethodName := ⟨RX0, "writeTo", "([II)V"⟩
abbrev cX0_satisfyingValues : ByteArray := prog_2_method_19_code
def yX0_satisfyingValues : MethodName := ⟨RX0, "satisfyingValues", "(II)I"⟩
abbrev cX0_canRead : ByteArray := prog_2_method_21_code
def yX0_canRead : MethodName := ⟨RX0, "canRead", "(III)Z"⟩
abbrev cX0_statesBehind : ByteArray := prog_2_method_22_code
def yX0_statesBehind : MethodName := ⟨RX0, "statesBehind", "(III)I"⟩
abbrev cX0_statesAfterEvents : ByteArray := prog_2_method_24_code
def yX0_statesAfterEvents : MethodName := ⟨RX0, "statesAfterEvents", "(LEventClockWorkbench$TimedWord;I)I"⟩
def RX1 : String := "EventClockWorkbench$GuardText"
def TX1 : u_T := fun k => match k with
  | 0 => ("EventClockWorkbench$GuardText", "characters", "[I", true)
  | 1 => ("EventClockWorkbench$GuardText", "length", "I", false)
  | 2 => ("EventClockWorkbench$GuardText", "numbers", "[I", true)
  | 3 => ("EventClockWorkbench$GuardText", "constraints", "I", false)
  | _ => ("EventClockWorkbench$GuardText", "fault", "I", false)
def tyX1 : Nat → FieldType := fun k => match k with
  | 0 => .array .int
  | 1 => .int
  | 2 => .array .int
  | 3 => .int
  | _ => .int
abbrev wsX10 : List Cond := u_ws RX1 TX1 5
theorem nmX1 : ∀ a, a < 5 → ∀ b, b < 5 → a ≠ b → (TX1 a).2.1 ≠ (TX1 b).2.1 := by decide +kernel
theorem tyX1_ok : ∀ k, k < 5 → parseFieldDescriptor (TX1 k).2.2.1 = some (tyX1 k) := by decide +kernel
abbrev cX1_init : ByteArray := prog_3_method_1_code
def yX1_init : MethodName := ⟨RX1, "<init>", "()V"⟩
abbrev cX1_hasRoom : ByteArray := prog_3_method_2_code
def yX1_hasRoom : MethodName := ⟨RX1, "hasRoom", "()Z"⟩
abbrev cX1_append : ByteArray := prog_3_method_3_code
def yX1_append : MethodName := ⟨RX1, "append", "(I)I"⟩
abbrev cX1_read : ByteArray := prog_3_method_4_code
def yX1_read : MethodName := ⟨RX1, "read", "()V"⟩
abbrev cX1_readConstraint : ByteArray := prog_3_method_5_code
def yX1_readConstraint : MethodName := ⟨RX1, "readConstraint", "(I)I"⟩
abbrev cX1_comparison : ByteArray := prog_3_method_6_code
def yX1_comparison : MethodName := ⟨RX1, "comparison", "(IZ)I"⟩
abbrev cX1_stopAt : ByteArray := prog_3_method_7_code
def yX1_stopAt : MethodName := ⟨RX1, "stopAt", "(I)I"⟩
abbrev cX1_characterAt : ByteArray := prog_3_method_8_code
def yX1_characterAt : MethodName := ⟨RX1, "characterAt", "(I)I"⟩
abbrev cX1_addConstraint : ByteArray := prog_3_method_9_code
def yX1_addConstraint : MethodName := ⟨RX1, "addConstraint", "(III)V"⟩
abbrev cX1_numberAt : ByteArray := prog_3_method_10_code
def yX1_numberAt : MethodName := ⟨RX1, "numberAt", "(II)I"⟩
def RX2 : String := "EventClockWorkbench$History"
def TX2 : u_T := fun k => match k with
  | 0 => ("EventClockWorkbench$History", "past", "[I", true)
  | 1 => ("EventClockWorkbench$History", "saved", "[I", true)
  | 2 => ("EventClockWorkbench$History", "next", "I", false)
  | 3 => ("EventClockWorkbench$History", "changes", "I", false)
  | _ => ("EventClockWorkbench$History", "kept", "Z", false)
def tyX2 : Nat → FieldType := fun k => match k with
  | 0 => .array .int
  | 1 => .array .int
  | 2 => .int
  | 3 => .int
  | _ => .boolean
abbrev wsX20 : List Cond := u_ws RX2 TX2 5
theorem nmX2 : ∀ a, a < 5 → ∀ b, b < 5 → a ≠ b → (TX2 a).2.1 ≠ (TX2 b).2.1 := by decide +kernel
theorem tyX2_ok : ∀ k, k < 5 → parseFieldDescriptor (TX2 k).2.2.1 = some (tyX2 k) := by decide +kernel
abbrev cX2_init : ByteArray := prog_4_method_1_code
def yX2_init : MethodName := ⟨RX2, "<init>", "()V"⟩
abbrev cX2_remember : ByteArray := prog_4_method_2_code
def yX2_remember : MethodName := ⟨RX2, "remember", "(LEventClockWorkbench$Automaton;LEventClockWorkbench$Automaton;)V"⟩
def RX3 : String := "EventClockWorkbench$Powerset"
def TX3 : u_T := fun k => match k with
  | 0 => ("EventClockWorkbench$Powerset", "moves", "[I", true)
  | 1 => ("EventClockWorkbench$Powerset", "sets", "[I", true)
  | 2 => ("EventClockWorkbench$Powerset", "numbers", "[I", true)
  | 3 => ("EventClockWorkbench$Powerset", "count", "I", false)
  | 4 => ("EventClockWorkbench$Powerset", "initial", "I", false)
  | 5 => ("EventClockWorkbench$Powerset", "finals", "I", false)
  | _ => ("EventClockWorkbench$Powerset", "fresh", "Z", false)
def tyX3 : Nat → FieldType := fun k => match k with
  | 0 => .array .int
  | 1 => .array .int
  | 2 => .array .int
  | 3 => .int
  | 4 => .int
  | 5 => .int
  | _ => .boolean
abbrev wsX30 : List Cond := u_ws RX3 TX3 7
theorem nmX3 : ∀ a, a < 7 → ∀ b, b < 7 → a ≠ b → (TX3 a).2.1 ≠ (TX3 b).2.1 := by decide +kernel
theorem tyX3_ok : ∀ k, k < 7 → parseFieldDescriptor (TX3 k).2.2.1 = some (tyX3 k) := by decide +kernel
abbrev cX3_init : ByteArray := prog_5_method_1_code
def yX3_init : MethodName := ⟨RX3, "<init>", "()V"⟩
abbrev cX3_refresh : ByteArray := prog_5_method_2_code
def yX3_refresh : MethodName := ⟨RX3, "refresh", "(LEventClockWorkbench$Automaton;)V"⟩
abbrev cX3_findMoves : ByteArray := prog_5_method_3_code
def yX3_findMoves : MethodName := ⟨RX3, "findMoves", "(LEventClockWorkbench$Automaton;)V"⟩
abbrev cX3_addMoves : ByteArray := prog_5_method_4_code
def yX3_addMoves : MethodName := ⟨RX3, "addMoves", "(III)V"⟩
abbrev cX3_findSets : ByteArray := prog_5_method_5_code
def yX3_findSets : MethodName := ⟨RX3, "findSets", "()V"⟩
abbrev cX3_addSet : ByteArray := prog_5_method_6_code
def yX3_addSet : MethodName := ⟨RX3, "addSet", "(I)V"⟩
abbrev cX3_successor : ByteArray := prog_5_method_7_code
def yX3_successor : MethodName := ⟨RX3, "successor", "(III)I"⟩
abbrev cX3_setAt : ByteArray := prog_5_method_8_code
def yX3_setAt : MethodName := ⟨RX3, "setAt", "(I)I"⟩
abbrev cX3_numberOf : ByteArray := prog_5_method_9_code
def yX3_numberOf : MethodName := ⟨RX3, "numberOf", "(I)I"⟩
abbrev cX3_countBranches : ByteArray := prog_5_method_10_code
def yX3_countBranches : MethodName := ⟨RX3, "countBranches", "(II)I"⟩
abbrev cX3_countAllBranches : ByteArray := prog_5_method_11_code
def yX3_countAllBranches : MethodName := ⟨RX3, "countAllBranches", "()I"⟩
abbrev cX3_branchSet : ByteArray := prog_5_method_12_code
def yX3_branchSet : MethodName := ⟨RX3, "branchSet", "(III)I"⟩
abbrev cX3_countValuations : ByteArray := prog_5_method_13_code
def yX3_countValuations : MethodName := ⟨RX3, "countValuations", "(III)I"⟩
def RX4 : String := "EventClockWorkbench$Runs"
def TX4 : u_T := fun k => match k with
  | 0 => ("EventClockWorkbench$Runs", "counts", "[J", true)
  | 1 => ("EventClockWorkbench$Runs", "nextCounts", "[J", true)
  | _ => ("EventClockWorkbench$Runs", "hopeful", "[I", true)
def tyX4 : Nat → FieldType := fun k => match k with
  | 0 => .array .long
  | 1 => .array .long
  | _ => .array .int
abbrev wsX40 : List Cond := u_ws RX4 TX4 3
theorem nmX4 : ∀ a, a < 3 → ∀ b, b < 3 → a ≠ b → (TX4 a).2.1 ≠ (TX4 b).2.1 := by decide +kernel
theorem tyX4_ok : ∀ k, k < 3 → parseFieldDescriptor (TX4 k).2.2.1 = some (tyX4 k) := by decide +kernel
abbrev cX4_init : ByteArray := prog_6_method_1_code
def yX4_init : MethodName := ⟨RX4, "<init>", "()V"⟩
def RX5 : String := "EventClockWorkbench$Search"
def TX5 : u_T := fun k => match k with
  | 0 => ("EventClockWorkbench$Search", "places", "[I", true)
  | 1 => ("EventClockWorkbench$Search", "queue", "[I", true)
  | 2 => ("EventClockWorkbench$Search", "costs", "[I", true)
  | 3 => ("EventClockWorkbench$Search", "starts", "[I", true)
  | _ => ("EventClockWorkbench$Search", "size", "I", false)
def tyX5 : Nat → FieldType := fun k => match k with
  | 0 => .array .int
  | 1 => .array .int
  | 2 => .array .int
  | 3 => .array .int
  | _ => .int
abbrev wsX50 : List Cond := u_ws RX5 TX5 5
theorem nmX5 : ∀ a, a < 5 → ∀ b, b < 5 → a ≠ b → (TX5 a).2.1 ≠ (TX5 b).2.1 := by decide +kernel
theorem tyX5_ok : ∀ k, k < 5 → parseFieldDescriptor (TX5 k).2.2.1 = some (tyX5 k) := by decide +kernel
abbrev cX5_init : ByteArray := prog_7_method_1_code
def yX5_init : MethodName := ⟨RX5, "<init>", "()V"⟩
abbrev cX5_findsAny : ByteArray := prog_7_method_2_code
def yX5_findsAny : MethodName := ⟨RX5, "findsAny", "(LEventClockWorkbench$Powerset;LEventClockWorkbench$Powerset;)Z"⟩
abbrev cX5_takeFirst : ByteArray := prog_7_method_3_code
def yX5_takeFirst : MethodName := ⟨RX5, "takeFirst", "(LEventClockWorkbench$Powerset;LEventClockWorkbench$Powerset;LEventClockWorkbench$TimedWord;)Z"⟩
abbrev cX5_shortest : ByteArray := prog_7_method_4_code
def yX5_shortest : MethodName := ⟨RX5, "shortest", "(LEventClockWorkbench$Powerset;LEventClockWorkbench$Powerset;I)I"⟩
abbrev cX5_forget : ByteArray := prog_7_method_5_code
def yX5_forget : MethodName := ⟨RX5, "forget", "()V"⟩
abbrev cX5_placeOf : ByteArray := prog_7_method_6_code
def yX5_placeOf : MethodName := ⟨RX5, "placeOf", "(II)I"⟩
abbrev cX5_enter : ByteArray := prog_7_method_7_code
def yX5_enter : MethodName := ⟨RX5, "enter", "(III)V"⟩
abbrev cX5_putStart : ByteArray := prog_7_method_8_code
def yX5_putStart : MethodName := ⟨RX5, "putStart", "(II)V"⟩
abbrev cX5_startOf : ByteArray := prog_7_method_9_code
def yX5_startOf : MethodName := ⟨RX5, "startOf", "(I)I"⟩
abbrev cX5_configurationAt : ByteArray := prog_7_method_10_code
def yX5_configurationAt : MethodName := ⟨RX5, "configurationAt", "(I)I"⟩
abbrev cX5_costAt : ByteArray := prog_7_method_11_code
def yX5_costAt : MethodName := ⟨RX5, "costAt", "(I)I"⟩
abbrev cX5_isGoal : ByteArray := prog_7_method_12_code
def yX5_isGoal : MethodName := ⟨RX5, "isGoal", "(LEventClockWorkbench$Powerset;LEventClockWorkbench$Powerset;I)Z"⟩
abbrev cX5_hasGoal : ByteArray := prog_7_method_13_code
def yX5_hasGoal : MethodName := ⟨RX5, "hasGoal", "(LEventClockWorkbench$Powerset;LEventClockWorkbench$Powerset;II)Z"⟩
abbrev cX5_expand : ByteArray := prog_7_method_14_code
def yX5_expand : MethodName := ⟨RX5, "expand", "(LEventClockWorkbench$Powerset;LEventClockWorkbench$Powerset;I)V"⟩
abbrev cX5_positionBehind : ByteArray := prog_7_method_15_code
def yX5_positionBehind : MethodName := ⟨RX5, "positionBehind", "(LEventClockWorkbench$Powerset;LEventClockWorkbench$Powerset;III)I"⟩
abbrev cX5_findCosts : ByteArray := prog_7_method_16_code
def yX5_findCosts : MethodName := ⟨RX5, "findCosts", "(LEventClockWorkbench$Powerset;LEventClockWorkbench$Powerset;I)V"⟩
abbrev cX5_leastCost : ByteArray := prog_7_method_17_code
def yX5_leastCost : MethodName := ⟨RX5, "leastCost", "(LEventClockWorkbench$Powerset;LEventClockWorkbench$Powerset;II)I"⟩
abbrev cX5_takeEvent : ByteArray := prog_7_method_18_code
def yX5_takeEvent : MethodName := ⟨RX5, "takeEvent", "(LEventClockWorkbench$Powerset;LEventClockWorkbench$Powerset;IILEventClockWorkbench$TimedWord;)I"⟩
def RX6 : String := "EventClockWorkbench$TimedWord"
def TX6 : u_T := fun k => match k with
  | 0 => ("EventClockWorkbench$TimedWord", "delays", "[I", true)
  | 1 => ("EventClockWorkbench$TimedWord", "letters", "[I", true)
  | 2 => ("EventClockWorkbench$TimedWord", "valuations", "[I", true)
  | 3 => ("EventClockWorkbench$TimedWord", "valuation", "I", false)
  | _ => ("EventClockWorkbench$TimedWord", "length", "I", false)
def tyX6 : Nat → FieldType := fun k => match k with
  | 0 => .array .int
  | 1 => .array .int
  | 2 => .array .int
  | 3 => .int
  | _ => .int
abbrev wsX60 : List Cond := u_ws RX6 TX6 5
theorem nmX6 : ∀ a, a < 5 → ∀ b, b < 5 → a ≠ b → (TX6 a).2.1 ≠ (TX6 b).2.1 := by decide +kernel
theorem tyX6_ok : ∀ k, k < 5 → parseFieldDescriptor (TX6 k).2.2.1 = some (tyX6 k) := by decide +kernel
abbrev cX6_init : ByteArray := prog_8_method_1_code
def yX6_init : MethodName := ⟨RX6, "<init>", "()V"⟩
abbrev cX6_append : ByteArray := prog_8_method_2_code
def yX6_append : MethodName := ⟨RX6, "append", "(II)I"⟩
abbrev cX6_clear : ByteArray := prog_8_method_3_code
def yX6_clear : MethodName := ⟨RX6, "clear", "()V"⟩
abbrev cX6_delayAt : ByteArray := prog_8_method_4_code
def yX6_delayAt : MethodName := ⟨RX6, "delayAt", "(I)I"⟩
abbrev cX6_letterAt : ByteArray := prog_8_method_5_code
def yX6_letterAt : MethodName := ⟨RX6, "letterAt", "(I)I"⟩
abbrev cX6_valuationAt : ByteArray := prog_8_method_6_code
def yX6_valuationAt : MethodName := ⟨RX6, "valuationAt", "(I)I"⟩
def RX7 : String := "EventClockWorkbench$Values"
def TX7 : u_T := fun k => match k with
  | _ => ("", "", "", false)
def tyX7 : Nat → FieldType := fun k => match k with
  | _ => .int
abbrev wsX70 : List Cond := u_ws RX7 TX7 0
theorem nmX7 : ∀ a, a < 0 → ∀ b, b < 0 → a ≠ b → (TX7 a).2.1 ≠ (TX7 b).2.1 := by decide +kernel
theorem tyX7_ok : ∀ k, k < 0 → parseFieldDescriptor (TX7 k).2.2.1 = some (tyX7 k) := by decide +kernel
abbrev cX7_later : ByteArray := prog_9_method_3_code
def yX7_later : MethodName := ⟨RX7, "later", "(II)I"⟩
abbrev cX7_grown : ByteArray := prog_9_method_4_code
def yX7_grown : MethodName := ⟨RX7, "grown", "(II)I"⟩
abbrev cX7_withZero : ByteArray := prog_9_method_5_code
def yX7_withZero : MethodName := ⟨RX7, "withZero", "(II)I"⟩
abbrev cX7_written : ByteArray := prog_9_method_6_code
def yX7_written : MethodName := ⟨RX7, "written", "(I)I"⟩
abbrev cX7_writtenDigit : ByteArray := prog_9_method_7_code
def yX7_writtenDigit : MethodName := ⟨RX7, "writtenDigit", "(I)I"⟩
abbrev cX7_satisfying : ByteArray := prog_9_method_8_code
def yX7_satisfying : MethodName := ⟨RX7, "satisfying", "(II)I"⟩
abbrev cX7_narrowed : ByteArray := prog_9_method_9_code
def yX7_narrowed : MethodName := ⟨RX7, "narrowed", "(III)I"⟩
abbrev cX7_isAllowed : ByteArray := prog_9_method_10_code
def yX7_isAllowed : MethodName := ⟨RX7, "isAllowed", "(II)Z"⟩
def RX8 : String := "EventClockWorkbench$WordCounter"
def TX8 : u_T := fun k => match k with
  | 0 => ("EventClockWorkbench$WordCounter", "counts", "[J", true)
  | _ => ("EventClockWorkbench$WordCounter", "nextCounts", "[J", true)
def tyX8 : Nat → FieldType := fun k => match k with
  | 0 => .array .long
  | _ => .array .long
abbrev wsX80 : List Cond := u_ws RX8 TX8 2
theorem nmX8 : ∀ a, a < 2 → ∀ b, b < 2 → a ≠ b → (TX8 a).2.1 ≠ (TX8 b).2.1 := by decide +kernel
theorem tyX8_ok : ∀ k, k < 2 → parseFieldDescriptor (TX8 k).2.2.1 = some (tyX8 k) := by decide +kernel
abbrev cX8_init : ByteArray := prog_10_method_1_code
def yX8_init : MethodName := ⟨RX8, "<init>", "()V"⟩
abbrev cX8_countAll : ByteArray := prog_10_method_2_code
def yX8_countAll : MethodName := ⟨RX8, "countAll", "(I)J"⟩
abbrev cX8_count : ByteArray := prog_10_method_3_code
def yX8_count : MethodName := ⟨RX8, "count", "(LEventClockWorkbench$Powerset;II)J"⟩
abbrev cX8_readEvent : ByteArray := prog_10_method_4_code
def yX8_readEvent : MethodName := ⟨RX8, "readEvent", "(LEventClockWorkbench$Powerset;I)V"⟩
abbrev cX8_spread : ByteArray := prog_10_method_5_code
def yX8_spread : MethodName := ⟨RX8, "spread", "(LEventClockWorkbench$Powerset;II)V"⟩
abbrev cX8_addTo : ByteArray := prog_10_method_6_code
def yX8_addTo : MethodName := ⟨RX8, "addTo", "([JIJ)V"⟩
def RX9 : String := "EventClockWorkbench"
def TX9 : u_T := fun k => match k with
  | 0 => ("EventClockWorkbench", "firstAutomaton", "LEventClockWorkbench$Automaton;", true)
  | 1 => ("EventClockWorkbench", "secondAutomaton", "LEventClockWorkbench$Automaton;", true)
  | 2 => ("EventClockWorkbench", "firstPowerset", "LEventClockWorkbench$Powerset;", true)
  | 3 => ("EventClockWorkbench", "secondPowerset", "LEventClockWorkbench$Powerset;", true)
  | 4 => ("EventClockWorkbench", "emptyPowerset", "LEventClockWorkbench$Powerset;", true)
  | 5 => ("EventClockWorkbench", "text", "LEventClockWorkbench$GuardText;", true)
  | 6 => ("EventClockWorkbench", "word", "LEventClockWorkbench$TimedWord;", true)
  | 7 => ("EventClockWorkbench", "runs", "LEventClockWorkbench$Runs;", true)
  | 8 => ("EventClockWorkbench", "search", "LEventClockWorkbench$Search;", true)
  | 9 => ("EventClockWorkbench", "counter", "LEventClockWorkbench$WordCounter;", true)
  | _ => ("EventClockWorkbench", "history", "LEventClockWorkbench$History;", true)
def tyX9 : Nat → FieldType := fun k => match k with
  | 0 => .object "EventClockWorkbench$Automaton"
  | 1 => .object "EventClockWorkbench$Automaton"
  | 2 => .object "EventClockWorkbench$Powerset"
  | 3 => .object "EventClockWorkbench$Powerset"
  | 4 => .object "EventClockWorkbench$Powerset"
  | 5 => .object "EventClockWorkbench$GuardText"
  | 6 => .object "EventClockWorkbench$TimedWord"
  | 7 => .object "EventClockWorkbench$Runs"
  | 8 => .object "EventClockWorkbench$Search"
  | 9 => .object "EventClockWorkbench$WordCounter"
  | _ => .object "EventClockWorkbench$History"
abbrev wsX90 : List Cond := u_ws RX9 TX9 11
theorem nmX9 : ∀ a, a < 11 → ∀ b, b < 11 → a ≠ b → (TX9 a).2.1 ≠ (TX9 b).2.1 := by decide +kernel
theorem tyX9_ok : ∀ k, k < 11 → parseFieldDescriptor (TX9 k).2.2.1 = some (tyX9 k) := by decide +kernel
abbrev cX9_init : ByteArray := prog_1_method_1_code
def yX9_init : MethodName := ⟨RX9, "<init>", "()V"⟩
abbrev cX9_appendCharacter : ByteArray := prog_1_method_2_code
def yX9_appendCharacter : MethodName := ⟨RX9, "appendCharacter", "(I)I"⟩
abbrev cX9_addTransition : ByteArray := prog_1_method_4_code
def yX9_addTransition : MethodName := ⟨RX9, "addTransition", "(IIII)I"⟩
abbrev cX9_setInitial : ByteArray := prog_1_method_6_code
def yX9_setInitial : MethodName := ⟨RX9, "setInitial", "(IIZ)Z"⟩
abbrev cX9_setFinal : ByteArray := prog_1_method_7_code
def yX9_setFinal : MethodName := ⟨RX9, "setFinal", "(IIZ)Z"⟩
abbrev cX9_appendEvent : ByteArray := prog_1_method_14_code
def yX9_appendEvent : MethodName := ⟨RX9, "appendEvent", "(II)I"⟩
abbrev cX9_wordLength : ByteArray := prog_1_method_16_code
def yX9_wordLength : MethodName := ⟨RX9, "wordLength", "()I"⟩
abbrev cX9_event : ByteArray := prog_1_method_17_code
def yX9_event : MethodName := ⟨RX9, "event", "(II)I"⟩
abbrev cX9_valuationBefore : ByteArray := prog_1_method_18_code
def yX9_valuationBefore : MethodName := ⟨RX9, "valuationBefore", "(I)I"⟩
abbrev cX9_statesAfter : ByteArray := prog_1_method_19_code
def yX9_statesAfter : MethodName := ⟨RX9, "statesAfter", "(II)I"⟩
abbrev cX9_accepts : ByteArray := prog_1_method_20_code
def yX9_accepts : MethodName := ⟨RX9, "accepts", "(I)Z"⟩
abbrev cX9_deterministicStates : ByteArray := prog_1_method_26_code
def yX9_deterministicStates : MethodName := ⟨RX9, "deterministicStates", "(I)I"⟩
abbrev cX9_deterministicSet : ByteArray := prog_1_method_27_code
def yX9_deterministicSet : MethodName := ⟨RX9, "deterministicSet", "(II)I"⟩
abbrev cX9_branches : ByteArray := prog_1_method_28_code
def yX9_branches : MethodName := ⟨RX9, "branches", "(III)I"⟩
abbrev cX9_branchTarget : ByteArray := prog_1_method_29_code
def yX9_branchTarget : MethodName := ⟨RX9, "branchTarget", "(IIII)I"⟩
abbrev cX9_branchValuations : ByteArray := prog_1_method_30_code
def yX9_branchValuations : MethodName := ⟨RX9, "branchValuations", "(IIII)I"⟩
abbrev cX9_deterministicRun : ByteArray := prog_1_method_31_code
def yX9_deterministicRun : MethodName := ⟨RX9, "deterministicRun", "(I)I"⟩
abbrev cX9_isEmpty : ByteArray := prog_1_method_33_code
def yX9_isEmpty : MethodName := ⟨RX9, "isEmpty", "(I)Z"⟩
abbrev cX9_takeWitness : ByteArray := prog_1_method_34_code
def yX9_takeWitness : MethodName := ⟨RX9, "takeWitness", "(I)I"⟩
abbrev cX9_takeDifference : ByteArray := prog_1_method_35_code
def yX9_takeDifference : MethodName := ⟨RX9, "takeDifference", "(I)I"⟩
abbrev cX9_isIncluded : ByteArray := prog_1_method_36_code
def yX9_isIncluded : MethodName := ⟨RX9, "isIncluded", "(I)Z"⟩
abbrev cX9_acceptedWords : ByteArray := prog_1_method_37_code
def yX9_acceptedWords : MethodName := ⟨RX9, "acceptedWords", "(III)J"⟩
abbrev cX9_acceptedShare : ByteArray := prog_1_method_38_code
def yX9_acceptedShare : MethodName := ⟨RX9, "acceptedShare", "(II)D"⟩
abbrev cX9_averageBranches : ByteArray := prog_1_method_39_code
def yX9_averageBranches : MethodName := ⟨RX9, "averageBranches", "(I)F"⟩
abbrev cX9_automaton : ByteArray := prog_1_method_43_code
def yX9_automaton : MethodName := ⟨RX9, "automaton", "(I)LEventClockWorkbench$Automaton;"⟩
abbrev cX9_powerset : ByteArray := prog_1_method_44_code
def yX9_powerset : MethodName := ⟨RX9, "powerset", "(I)LEventClockWorkbench$Powerset;"⟩
abbrev cX9_beginChange : ByteArray := prog_1_method_45_code
def yX9_beginChange : MethodName := ⟨RX9, "beginChange", "()V"⟩
abbrev cX9_markStale : ByteArray := prog_1_method_46_code
def yX9_markStale : MethodName := ⟨RX9, "markStale", "()V"⟩
abbrev cX9_requireDeterministicState : ByteArray := prog_1_method_48_code
def yX9_requireDeterministicState : MethodName := ⟨RX9, "requireDeterministicState", "(II)V"⟩
abbrev cX9_requireBranch : ByteArray := prog_1_method_49_code
def yX9_requireBranch : MethodName := ⟨RX9, "requireBranch", "(IIII)V"⟩
abbrev cX9_requireIndex : ByteArray := prog_1_method_50_code
def yX9_requireIndex : MethodName := ⟨RX9, "requireIndex", "(II)V"⟩
abbrev cX9_requireArgument : ByteArray := prog_1_method_51_code
def yX9_requireArgument : MethodName := ⟨RX9, "requireArgument", "(Z)V"⟩
abbrev cX9_requireState : ByteArray := prog_1_method_52_code
def yX9_requireState : MethodName := ⟨RX9, "requireState", "(Z)V"⟩
abbrev cX9_requireElement : ByteArray := prog_1_method_53_code
def yX9_requireElement : MethodName := ⟨RX9, "requireElement", "(Z)V"⟩
abbrev cX9_isBetween : ByteArray := prog_1_method_54_code
def yX9_isBetween : MethodName := ⟨RX9, "isBetween", "(III)Z"⟩
abbrev cX9_isIndex : ByteArray := prog_1_method_55_code
def yX9_isIndex : MethodName := ⟨RX9, "isIndex", "(II)Z"⟩
abbrev cX9_hasState : ByteArray := prog_1_method_56_code
def yX9_hasState : MethodName := ⟨RX9, "hasState", "(II)Z"⟩
abbrev cX9_withState : ByteArray := prog_1_method_57_code
def yX9_withState : MethodName := ⟨RX9, "withState", "(IIZ)I"⟩
def RX10 : String := "EventClockWorkbenchModel"
def TX10 : u_T := fun k => match k with
  | _ => ("", "", "", false)
def tyX10 : Nat → FieldType := fun k => match k with
  | _ => .int
abbrev wsX100 : List Cond := u_ws RX10 TX10 0
theorem nmX10 : ∀ a, a < 0 → ∀ b, b < 0 → a ≠ b → (TX10 a).2.1 ≠ (TX10 b).2.1 := by decide +kernel
theorem tyX10_ok : ∀ k, k < 0 → parseFieldDescriptor (TX10 k).2.2.1 = some (tyX10 k) := by decide +kernel
def RJx145de : String := "java/io/Serializable"
def TJx145de : u_T := fun k => match k with
  | _ => ("", "", "", false)
def tyJx145de : Nat → FieldType := fun k => match k with
  | _ => .int
abbrev wsJx145de0 : List Cond := u_ws RJx145de TJx145de 0
theorem nmJx145de : ∀ a, a < 0 → ∀ b, b < 0 → a ≠ b → (TJx145de a).2.1 ≠ (TJx145de b).2.1 := by decide +kernel
theorem tyJx145de_ok : ∀ k, k < 0 → parseFieldDescriptor (TJx145de k).2.2.1 = some (tyJx145de k) := by decide +kernel
def RJ5 : String := "java/lang/AbstractStringBuilder"
def TJ5 : u_T := fun k => match k with
  | _ => ("", "", "", false)
def tyJ5 : Nat → FieldType := fun k => match k with
  | _ => .int
abbrev wsJ50 : List Cond := u_ws RJ5 TJ5 0
theorem nmJ5 : ∀ a, a < 0 → ∀ b, b < 0 → a ≠ b → (TJ5 a).2.1 ≠ (TJ5 b).2.1 := by decide +kernel
theorem tyJ5_ok : ∀ k, k < 0 → parseFieldDescriptor (TJ5 k).2.2.1 = some (tyJ5 k) := by decide +kernel
abbrev cJ5_init_d00df : ByteArray := prog_14_method_2_code
def yJ5_init_d00df : MethodName := ⟨RJ5, "<init>", "(I)V"⟩
abbrev cJ5_length_8abf5 : ByteArray := prog_14_method_6_code
def yJ5_length_8abf5 : MethodName := ⟨RJ5, "length", "()I"⟩
abbrev cJ5_ensureCapacityInternal_d00df : ByteArray := prog_14_method_9_code
def yJ5_ensureCapacityInternal_d00df : MethodName := ⟨RJ5, "ensureCapacityInternal", "(I)V"⟩
abbrev cJ5_newCapacity_0f7a4 : ByteArray := prog_14_method_10_code
def yJ5_newCapacity_0f7a4 : MethodName := ⟨RJ5, "newCapacity", "(I)I"⟩
abbrev cJ5_inflate_da8c8 : ByteArray := prog_14_method_11_code
def yJ5_inflate_da8c8 : MethodName := ⟨RJ5, "inflate", "()V"⟩
abbrev cJ5_append_cf1ce : ByteArray := prog_14_method_22_code
def yJ5_append_cf1ce : MethodName := ⟨RJ5, "append", "(Ljava/lang/String;)Ljava/lang/AbstractStringBuilder;"⟩
abbrev cJ5_appendNull_278bc : ByteArray := prog_14_method_26_code
def yJ5_appendNull_278bc : MethodName := ⟨RJ5, "appendNull", "()Ljava/lang/AbstractStringBuilder;"⟩
abbrev cJ5_append_c97b9 : ByteArray := prog_14_method_32_code
def yJ5_append_c97b9 : MethodName := ⟨RJ5, "append", "(I)Ljava/lang/AbstractStringBuilder;"⟩
abbrev cJ5_getValue_6d5f1 : ByteArray := prog_14_method_64_code
def yJ5_getValue_6d5f1 : MethodName := ⟨RJ5, "getValue", "()[B"⟩
abbrev cJ5_isLatin1_aae02 : ByteArray := prog_14_method_68_code
def yJ5_isLatin1_aae02 : MethodName := ⟨RJ5, "isLatin1", "()Z"⟩
abbrev cJ5_inflateIfNeededFor_a7421 : ByteArray := prog_14_method_71_code
def yJ5_inflateIfNeededFor_a7421 : MethodName := ⟨RJ5, "inflateIfNeededFor", "(Ljava/lang/String;)V"⟩
abbrev cJ5_putStringAt_47b60 : ByteArray := prog_14_method_73_code
def yJ5_putStringAt_47b60 : MethodName := ⟨RJ5, "putStringAt", "(ILjava/lang/String;)V"⟩
def RJx2cfe8 : String := "java/lang/Appendable"
def TJx2cfe8 : u_T := fun k => match k with
  | _ => ("", "", "", false)
def tyJx2cfe8 : Nat → FieldType := fun k => match k with
  | _ => .int
abbrev wsJx2cfe80 : List Cond := u_ws RJx2cfe8 TJx2cfe8 0
theorem nmJx2cfe8 : ∀ a, a < 0 → ∀ b, b < 0 → a ≠ b → (TJx2cfe8 a).2.1 ≠ (TJx2cfe8 b).2.1 := by decide +kernel
theorem tyJx2cfe8_ok : ∀ k, k < 0 → parseFieldDescriptor (TJx2cfe8 k).2.2.1 = some (tyJx2cfe8 k) := by decide +kernel
def RJx9f9b0 : String := "java/lang/CharSequence"
def TJx9f9b0 : u_T := fun k => match k with
  | _ => ("", "", "", false)
def tyJx9f9b0 : Nat → FieldType := fun k => match k with
  | _ => .int
abbrev wsJx9f9b00 : List Cond := u_ws RJx9f9b0 TJx9f9b0 0
theorem nmJx9f9b0 : ∀ a, a < 0 → ∀ b, b < 0 → a ≠ b → (TJx9f9b0 a).2.1 ≠ (TJx9f9b0 b).2.1 := by decide +kernel
theorem tyJx9f9b0_ok : ∀ k, k < 0 → parseFieldDescriptor (TJx9f9b0 k).2.2.1 = some (tyJx9f9b0 k) := by decide +kernel
def RJx8e188 : String := "java/lang/Cloneable"
def TJx8e188 : u_T := fun k => match k with
  | _ => ("", "", "", false)
def tyJx8e188 : Nat → FieldType := fun k => match k with
  | _ => .int
abbrev wsJx8e1880 : List Cond := u_ws RJx8e188 TJx8e188 0
theorem nmJx8e188 : ∀ a, a < 0 → ∀ b, b < 0 → a ≠ b → (TJx8e188 a).2.1 ≠ (TJx8e188 b).2.1 := by decide +kernel
theorem tyJx8e188_ok : ∀ k, k < 0 → parseFieldDescriptor (TJx8e188 k).2.2.1 = some (tyJx8e188 k) := by decide +kernel
def RJxb160c : String := "java/lang/Comparable"
def TJxb160c : u_T := fun k => match k with
  | _ => ("", "", "", false)
def tyJxb160c : Nat → FieldType := fun k => match k with
  | _ => .int
abbrev wsJxb160c0 : List Cond := u_ws RJxb160c TJxb160c 0
theorem nmJxb160c : ∀ a, a < 0 → ∀ b, b < 0 → a ≠ b → (TJxb160c a).2.1 ≠ (TJxb160c b).2.1 := by decide +kernel
theorem tyJxb160c_ok : ∀ k, k < 0 → parseFieldDescriptor (TJxb160c k).2.2.1 = some (tyJxb160c k) := by decide +kernel
def RJ6 : String := "java/lang/Integer"
def TJ6 : u_T := fun k => match k with
  | _ => ("", "", "", false)
def tyJ6 : Nat → FieldType := fun k => match k with
  | _ => .int
abbrev wsJ60 : List Cond := u_ws RJ6 TJ6 0
theorem nmJ6 : ∀ a, a < 0 → ∀ b, b < 0 → a ≠ b → (TJ6 a).2.1 ≠ (TJ6 b).2.1 := by decide +kernel
theorem tyJ6_ok : ∀ k, k < 0 → parseFieldDescriptor (TJ6 k).2.2.1 = some (tyJ6 k) := by decide +kernel
abbrev cJ6_getChars_ba4f3 : ByteArray := prog_23_method_12_code
def yJ6_getChars_ba4f3 : MethodName := ⟨RJ6, "getChars", "(II[B)I"⟩
abbrev cJ6_stringSize_0f7a4 : ByteArray := prog_23_method_13_code
def yJ6_stringSize_0f7a4 : MethodName := ⟨RJ6, "stringSize", "(I)I"⟩
abbrev cJ6_bitCount_0f7a4 : ByteArray := prog_23_method_49_code
def yJ6_bitCount_0f7a4 : MethodName := ⟨RJ6, "bitCount", "(I)I"⟩
def RJ9 : String := "java/lang/Math"
def TJ9 : u_T := fun k => match k with
  | _ => ("", "", "", false)
def tyJ9 : Nat → FieldType := fun k => match k with
  | _ => .int
abbrev wsJ90 : List Cond := u_ws RJ9 TJ9 0
theorem nmJ9 : ∀ a, a < 0 → ∀ b, b < 0 → a ≠ b → (TJ9 a).2.1 ≠ (TJ9 b).2.1 := by decide +kernel
theorem tyJ9_ok : ∀ k, k < 0 → parseFieldDescriptor (TJ9 k).2.2.1 = some (tyJ9 k) := by decide +kernel
abbrev cJ9_max_7cf53 : ByteArray := prog_24_method_65_code
def yJ9_max_7cf53 : MethodName := ⟨RJ9, "max", "(II)I"⟩
abbrev cJ9_min_7cf53 : ByteArray := prog_24_method_69_code
def yJ9_min_7cf53 : MethodName := ⟨RJ9, "min", "(II)I"⟩
def RJxd2413 : String := "java/lang/Number"
def TJxd2413 : u_T := fun k => match k with
  | _ => ("", "", "", false)
def tyJxd2413 : Nat → FieldType := fun k => match k with
  | _ => .int
abbrev wsJxd24130 : List Cond := u_ws RJxd2413 TJxd2413 0
theorem nmJxd2413 : ∀ a, a < 0 → ∀ b, b < 0 → a ≠ b → (TJxd2413 a).2.1 ≠ (TJxd2413 b).2.1 := by decide +kernel
theorem tyJxd2413_ok : ∀ k, k < 0 → parseFieldDescriptor (TJxd2413 k).2.2.1 = some (tyJxd2413 k) := by decide +kernel
def RJ0 : String := "java/lang/String"
def TJ0 : u_T := fun k => match k with
  | 0 => ("java/lang/String", "value", "[B", true)
  | 1 => ("java/lang/String", "coder", "B", true)
  | 2 => ("java/lang/String", "hash", "I", false)
  | _ => ("java/lang/String", "hashIsZero", "Z", false)
def tyJ0 : Nat → FieldType := fun k => match k with
  | 0 => .array .byte
  | 1 => .byte
  | 2 => .int
  | _ => .boolean
abbrev wsJ00 : List Cond := u_ws RJ0 TJ0 4
theorem nmJ0 : ∀ a, a < 4 → ∀ b, b < 4 → a ≠ b → (TJ0 a).2.1 ≠ (TJ0 b).2.1 := by decide +kernel
theorem tyJ0_ok : ∀ k, k < 4 → parseFieldDescriptor (TJ0 k).2.2.1 = some (tyJ0 k) := by decide +kernel
abbrev cJ0_init_81219 : ByteArray := prog_27_method_53_code
def yJ0_init_81219 : MethodName := ⟨RJ0, "<init>", "(Ljava/lang/StringBuilder;)V"⟩
abbrev cJ0_length_8abf5 : ByteArray := prog_27_method_54_code
def yJ0_length_8abf5 : MethodName := ⟨RJ0, "length", "()I"⟩
abbrev cJ0_charAt_5068e : ByteArray := prog_27_method_56_code
def yJ0_charAt_5068e : MethodName := ⟨RJ0, "charAt", "(I)C"⟩
abbrev cJ0_getBytes_840e7 : ByteArray := prog_27_method_147_code
def yJ0_getBytes_840e7 : MethodName := ⟨RJ0, "getBytes", "([BIB)V"⟩
abbrev cJ0_init_db425 : ByteArray := prog_27_method_150_code
def yJ0_init_db425 : MethodName := ⟨RJ0, "<init>", "(Ljava/lang/AbstractStringBuilder;Ljava/lang/Void;)V"⟩
abbrev cJ0_coder_7d493 : ByteArray := prog_27_method_152_code
def yJ0_coder_7d493 : MethodName := ⟨RJ0, "coder", "()B"⟩
abbrev cJ0_isLatin1_aae02 : ByteArray := prog_27_method_154_code
def yJ0_isLatin1_aae02 : MethodName := ⟨RJ0, "isLatin1", "()Z"⟩
abbrev cJ0_checkIndex_df160 : ByteArray := prog_27_method_155_code
def yJ0_checkIndex_df160 : MethodName := ⟨RJ0, "checkIndex", "(II)V"⟩
abbrev cJ0_checkBoundsOffCount_cabcc : ByteArray := prog_27_method_157_code
def yJ0_checkBoundsOffCount_cabcc : MethodName := ⟨RJ0, "checkBoundsOffCount", "(III)I"⟩
abbrev cJ0_checkBoundsBeginEnd_23922 : ByteArray := prog_27_method_158_code
def yJ0_checkBoundsBeginEnd_23922 : MethodName := ⟨RJ0, "checkBoundsBeginEnd", "(III)V"⟩
def RJ4 : String := "java/lang/StringBuilder"
def TJ4 : u_T := fun k => match k with
  | 0 => ("java/lang/AbstractStringBuilder", "value", "[B", false)
  | 1 => ("java/lang/AbstractStringBuilder", "coder", "B", false)
  | 2 => ("java/lang/AbstractStringBuilder", "maybeLatin1", "Z", false)
  | _ => ("java/lang/AbstractStringBuilder", "count", "I", false)
def tyJ4 : Nat → FieldType := fun k => match k with
  | 0 => .array .byte
  | 1 => .byte
  | 2 => .boolean
  | _ => .int
abbrev wsJ40 : List Cond := u_ws RJ4 TJ4 4
theorem nmJ4 : ∀ a, a < 4 → ∀ b, b < 4 → a ≠ b → (TJ4 a).2.1 ≠ (TJ4 b).2.1 := by decide +kernel
theorem tyJ4_ok : ∀ k, k < 4 → parseFieldDescriptor (TJ4 k).2.2.1 = some (tyJ4 k) := by decide +kernel
abbrev cJ4_init_da8c8 : ByteArray := prog_28_method_1_code
def yJ4_init_da8c8 : MethodName := ⟨RJ4, "<init>", "()V"⟩
abbrev cJ4_append_15ec4 : ByteArray := prog_28_method_7_code
def yJ4_append_15ec4 : MethodName := ⟨RJ4, "append", "(Ljava/lang/String;)Ljava/lang/StringBuilder;"⟩
abbrev cJ4_append_bf812 : ByteArray := prog_28_method_15_code
def yJ4_append_bf812 : MethodName := ⟨RJ4, "append", "(I)Ljava/lang/StringBuilder;"⟩
abbrev cJ4_toString_0e30d : ByteArray := prog_28_method_42_code
def yJ4_toString_0e30d : MethodName := ⟨RJ4, "toString", "()Ljava/lang/String;"⟩
abbrev cJ4_length_8abf5 : ByteArray := prog_28_method_93_code
def yJ4_length_8abf5 : MethodName := ⟨RJ4, "length", "()I"⟩
def RJ1 : String := "java/lang/StringLatin1"
def TJ1 : u_T := fun k => match k with
  | _ => ("", "", "", false)
def tyJ1 : Nat → FieldType := fun k => match k with
  | _ => .int
abbrev wsJ10 : List Cond := u_ws RJ1 TJ1 0
theorem nmJ1 : ∀ a, a < 0 → ∀ b, b < 0 → a ≠ b → (TJ1 a).2.1 ≠ (TJ1 b).2.1 := by decide +kernel
theorem tyJ1_ok : ∀ k, k < 0 → parseFieldDescriptor (TJ1 k).2.2.1 = some (tyJ1 k) := by decide +kernel
abbrev cJ1_charAt_3b067 : ByteArray := prog_29_method_2_code
def yJ1_charAt_3b067 : MethodName := ⟨RJ1, "charAt", "([BI)C"⟩
abbrev cJ1_inflate_0e8fd : ByteArray := prog_29_method_50_code
def yJ1_inflate_0e8fd : MethodName := ⟨RJ1, "inflate", "([BI[BII)V"⟩
def RJ2 : String := "java/lang/StringUTF16"
def TJ2 : u_T := fun k => match k with
  | _ => ("", "", "", false)
def tyJ2 : Nat → FieldType := fun k => match k with
  | _ => .int
abbrev wsJ20 : List Cond := u_ws RJ2 TJ2 0
theorem nmJ2 : ∀ a, a < 0 → ∀ b, b < 0 → a ≠ b → (TJ2 a).2.1 ≠ (TJ2 b).2.1 := by decide +kernel
theorem tyJ2_ok : ∀ k, k < 0 → parseFieldDescriptor (TJ2 k).2.2.1 = some (tyJ2 k) := by decide +kernel
abbrev cJ2_newBytesFor_77867 : ByteArray := prog_30_method_2_code
def yJ2_newBytesFor_77867 : MethodName := ⟨RJ2, "newBytesFor", "(I)[B"⟩
abbrev cJ2_newBytesLength_0f7a4 : ByteArray := prog_30_method_3_code
def yJ2_newBytesLength_0f7a4 : MethodName := ⟨RJ2, "newBytesLength", "(I)I"⟩
abbrev cJ2_putChar_b72d1 : ByteArray := prog_30_method_4_code
def yJ2_putChar_b72d1 : MethodName := ⟨RJ2, "putChar", "([BII)V"⟩
abbrev cJ2_getChar_3b067 : ByteArray := prog_30_method_5_code
def yJ2_getChar_3b067 : MethodName := ⟨RJ2, "getChar", "([BI)C"⟩
abbrev cJ2_length_9d52b : ByteArray := prog_30_method_6_code
def yJ2_length_9d52b : MethodName := ⟨RJ2, "length", "([B)I"⟩
abbrev cJ2_coderFromArrayLen_85cad : ByteArray := prog_30_method_15_code
def yJ2_coderFromArrayLen_85cad : MethodName := ⟨RJ2, "coderFromArrayLen", "([BI)B"⟩
abbrev cJ2_compress_39247 : ByteArray := prog_30_method_17_code
def yJ2_compress_39247 : MethodName := ⟨RJ2, "compress", "([BII)[B"⟩
abbrev cJ2_compress_5af95 : ByteArray := prog_30_method_22_code
def yJ2_compress_5af95 : MethodName := ⟨RJ2, "compress", "([BI[BII)I"⟩
abbrev cJ2_getChars_46870 : ByteArray := prog_30_method_77_code
def yJ2_getChars_46870 : MethodName := ⟨RJ2, "getChars", "(III[B)I"⟩
abbrev cJ2_putCharsAt_cd4e5 : ByteArray := prog_30_method_81_code
def yJ2_putCharsAt_cd4e5 : MethodName := ⟨RJ2, "putCharsAt", "([BICCCC)I"⟩
abbrev cJ2_charAt_3b067 : ByteArray := prog_30_method_83_code
def yJ2_charAt_3b067 : MethodName := ⟨RJ2, "charAt", "([BI)C"⟩
abbrev cJ2_inflate_0e8fd : ByteArray := prog_30_method_86_code
def yJ2_inflate_0e8fd : MethodName := ⟨RJ2, "inflate", "([BI[BII)V"⟩
abbrev cJ2_getChars_ba4f3 : ByteArray := prog_30_method_89_code
def yJ2_getChars_ba4f3 : MethodName := ⟨RJ2, "getChars", "(II[B)I"⟩
abbrev cJ2_checkIndex_2214a : ByteArray := prog_30_method_91_code
def yJ2_checkIndex_2214a : MethodName := ⟨RJ2, "checkIndex", "(I[B)V"⟩
abbrev cJ2_checkBoundsBeginEnd_d044e : ByteArray := prog_30_method_93_code
def yJ2_checkBoundsBeginEnd_d044e : MethodName := ⟨RJ2, "checkBoundsBeginEnd", "(II[B)V"⟩
abbrev cJ2_checkBoundsOffCount_d044e : ByteArray := prog_30_method_94_code
def yJ2_checkBoundsOffCount_d044e : MethodName := ⟨RJ2, "checkBoundsOffCount", "(II[B)V"⟩
def RJ10 : String := "java/lang/System"
def TJ10 : u_T := fun k => match k with
  | _ => ("", "", "", false)
def tyJ10 : Nat → FieldType := fun k => match k with
  | _ => .int
abbrev wsJ100 : List Cond := u_ws RJ10 TJ10 0
theorem nmJ10 : ∀ a, a < 0 → ∀ b, b < 0 → a ≠ b → (TJ10 a).2.1 ≠ (TJ10 b).2.1 := by decide +kernel
theorem tyJ10_ok : ∀ k, k < 0 → parseFieldDescriptor (TJ10 k).2.2.1 = some (tyJ10 k) := by decide +kernel
def RJxfd54e : String := "java/lang/constant/Constable"
def TJxfd54e : u_T := fun k => match k with
  | _ => ("", "", "", false)
def tyJxfd54e : Nat → FieldType := fun k => match k with
  | _ => .int
abbrev wsJxfd54e0 : List Cond := u_ws RJxfd54e TJxfd54e 0
theorem nmJxfd54e : ∀ a, a < 0 → ∀ b, b < 0 → a ≠ b → (TJxfd54e a).2.1 ≠ (TJxfd54e b).2.1 := by decide +kernel
theorem tyJxfd54e_ok : ∀ k, k < 0 → parseFieldDescriptor (TJxfd54e k).2.2.1 = some (tyJxfd54e k) := by decide +kernel
def RJx3cf43 : String := "java/lang/constant/ConstantDesc"
def TJx3cf43 : u_T := fun k => match k with
  | _ => ("", "", "", false)
def tyJx3cf43 : Nat → FieldType := fun k => match k with
  | _ => .int
abbrev wsJx3cf430 : List Cond := u_ws RJx3cf43 TJx3cf43 0
theorem nmJx3cf43 : ∀ a, a < 0 → ∀ b, b < 0 → a ≠ b → (TJx3cf43 a).2.1 ≠ (TJx3cf43 b).2.1 := by decide +kernel
theorem tyJx3cf43_ok : ∀ k, k < 0 → parseFieldDescriptor (TJx3cf43 k).2.2.1 = some (tyJx3cf43 k) := by decide +kernel
def RJ7 : String := "java/util/Arrays"
def TJ7 : u_T := fun k => match k with
  | _ => ("", "", "", false)
def tyJ7 : Nat → FieldType := fun k => match k with
  | _ => .int
abbrev wsJ70 : List Cond := u_ws RJ7 TJ7 0
theorem nmJ7 : ∀ a, a < 0 → ∀ b, b < 0 → a ≠ b → (TJ7 a).2.1 ≠ (TJ7 b).2.1 := by decide +kernel
theorem tyJ7_ok : ∀ k, k < 0 → parseFieldDescriptor (TJ7 k).2.2.1 = some (tyJ7 k) := by decide +kernel
abbrev cJ7_copyOf_9075b : ByteArray := prog_35_method_121_code
def yJ7_copyOf_9075b : MethodName := ⟨RJ7, "copyOf", "([BI)[B"⟩
abbrev cJ7_checkLength_df160 : ByteArray := prog_35_method_131_code
def yJ7_checkLength_df160 : MethodName := ⟨RJ7, "checkLength", "(II)V"⟩
abbrev cJ7_copyOfRange_39247 : ByteArray := prog_35_method_132_code
def yJ7_copyOfRange_39247 : MethodName := ⟨RJ7, "copyOfRange", "([BII)[B"⟩
abbrev cJ7_copyOfRangeByte_39247 : ByteArray := prog_35_method_133_code
def yJ7_copyOfRangeByte_39247 : MethodName := ⟨RJ7, "copyOfRangeByte", "([BII)[B"⟩
def RJ8 : String := "jdk/internal/util/ArraysSupport"
def TJ8 : u_T := fun k => match k with
  | _ => ("", "", "", false)
def tyJ8 : Nat → FieldType := fun k => match k with
  | _ => .int
abbrev wsJ80 : List Cond := u_ws RJ8 TJ8 0
theorem nmJ8 : ∀ a, a < 0 → ∀ b, b < 0 → a ≠ b → (TJ8 a).2.1 ≠ (TJ8 b).2.1 := by decide +kernel
theorem tyJ8_ok : ∀ k, k < 0 → parseFieldDescriptor (TJ8 k).2.2.1 = some (tyJ8 k) := by decide +kernel
abbrev cJ8_newLength_cabcc : ByteArray := prog_37_method_27_code
def yJ8_newLength_cabcc : MethodName := ⟨RJ8, "newLength", "(III)I"⟩
abbrev cJ8_hugeLength_7cf53 : ByteArray := prog_37_method_28_code
def yJ8_hugeLength_7cf53 : MethodName := ⟨RJ8, "hugeLength", "(II)I"⟩
def RJ3 : String := "jdk/internal/util/Preconditions"
def TJ3 : u_T := fun k => match k with
  | _ => ("", "", "", false)
def tyJ3 : Nat → FieldType := fun k => match k with
  | _ => .int
abbrev wsJ30 : List Cond := u_ws RJ3 TJ3 0
theorem nmJ3 : ∀ a, a < 0 → ∀ b, b < 0 → a ≠ b → (TJ3 a).2.1 ≠ (TJ3 b).2.1 := by decide +kernel
theorem tyJ3_ok : ∀ k, k < 0 → parseFieldDescriptor (TJ3 k).2.2.1 = some (tyJ3 k) := by decide +kernel
abbrev cJ3_checkIndex_8e157 : ByteArray := prog_38_method_11_code
def yJ3_checkIndex_8e157 : MethodName := ⟨RJ3, "checkIndex", "(IILjava/util/function/BiFunction;)I"⟩
abbrev cJ3_checkFromToIndex_8c36e : ByteArray := prog_38_method_12_code
def yJ3_checkFromToIndex_8c36e : MethodName := ⟨RJ3, "checkFromToIndex", "(IIILjava/util/function/BiFunction;)I"⟩
abbrev cJ3_checkFromIndexSize_8c36e : ByteArray := prog_38_method_13_code
def yJ3_checkFromIndexSize_8c36e : MethodName := ⟨RJ3, "checkFromIndexSize", "(IIILjava/util/function/BiFunction;)I"⟩
def RL : String := "EventClockWorkbenchLaw"
abbrev cL_cell : ByteArray := method_2_code
def yL_cell : MethodName := ⟨RL, "cell", "([II)I"⟩
abbrev cL_draw : ByteArray := method_3_code
def yL_draw : MethodName := ⟨RL, "draw", "([III)I"⟩
abbrev cL_feed : ByteArray := method_4_code
def yL_feed : MethodName := ⟨RL, "feed", "(LEventClockWorkbench;Ljava/lang/String;)V"⟩
abbrev cL_constraint : ByteArray := method_5_code
def yL_constraint : MethodName := ⟨RL, "constraint", "(III)Ljava/lang/String;"⟩
abbrev cL_holds : ByteArray := method_6_code
def yL_holds : MethodName := ⟨RL, "holds", "(III)Z"⟩
abbrev cL_fill : ByteArray := method_7_code
def yL_fill : MethodName := ⟨RL, "fill", "(LEventClockWorkbench;[IIII)[I"⟩
abbrev cL_value : ByteArray := method_8_code
def yL_value : MethodName := ⟨RL, "value", "([I[III)I"⟩
abbrev cL_goes : ByteArray := method_9_code
def yL_goes : MethodName := ⟨RL, "goes", "([III[I[II)Z"⟩
abbrev cL_after : ByteArray := method_10_code
def yL_after : MethodName := ⟨RL, "after", "([II[I[II)I"⟩
abbrev cL_marks : ByteArray := method_11_code
def yL_marks : MethodName := ⟨RL, "marks", "(LEventClockWorkbench;III)V"⟩
abbrev cL_take : ByteArray := method_12_code
def yL_take : MethodName := ⟨RL, "take", "(LEventClockWorkbench;IZ)I"⟩
abbrev cL_isOne : ByteArray := method_13_code
def yL_isOne : MethodName := ⟨RL, "isOne", "([III[IIIZ[I[II)Z"⟩
abbrev cL_first : ByteArray := method_14_code
def yL_first : MethodName := ⟨RL, "first", "([III[IIIZ)I"⟩
abbrev cL_isTaken : ByteArray := method_15_code
def yL_isTaken : MethodName := ⟨RL, "isTaken", "(LEventClockWorkbench;I[III[IIIZ)Z"⟩
abbrev cL_areBranches : ByteArray := method_16_code
def yL_areBranches : MethodName := ⟨RL, "areBranches", "(LEventClockWorkbench;I)Z"⟩
abbrev cL_law : ByteArray := code
def yL_law : MethodName := ⟨RL, "law", "([I)Z"⟩
abbrev vwCl : List vw_C := [(RX0, TX0, 1), (RX1, TX1, 5), (RX2, TX2, 5), (RX3, TX3, 7), (RX4, TX4, 3), (RX5, TX5, 5), (RX6, TX6, 5), (RX8, TX8, 2), (RX9, TX9, 11), (RJ0, TJ0, 4), (RJ4, TJ4, 4)]
