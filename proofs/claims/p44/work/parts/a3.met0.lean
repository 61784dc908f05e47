/-! contracts over the machine: class names -/
theorem plX0 : plainName "EventClockWorkbench$Automaton" = true := by decide +kernel
theorem plX1 : plainName "EventClockWorkbench$GuardText" = true := by decide +kernel
theorem plX2 : plainName "EventClockWorkbench$History" = true := by decide +kernel
theorem plX3 : plainName "EventClockWorkbench$Powerset" = true := by decide +kernel
theorem plX4 : plainName "EventClockWorkbench$Runs" = true := by decide +kernel
theorem plX5 : plainName "EventClockWorkbench$Search" = true := by decide +kernel
theorem plX6 : plainName "EventClockWorkbench$TimedWord" = true := by decide +kernel
theorem plX7 : plainName "EventClockWorkbench$Values" = true := by decide +kernel
theorem plX8 : plainName "EventClockWorkbench$WordCounter" = true := by decide +kernel
theorem plX9 : plainName "EventClockWorkbench" = true := by decide +kernel
theorem plL : plainName "EventClockWorkbenchLaw" = true := by decide +kernel
theorem plJ6 : plainName "java/lang/Integer" = true := by decide +kernel
theorem rd_oob {cc : ByteArray} {pc : Nat} (h : cc.size ≤ pc) : (Reader.u1 : Decoder Nat) cc pc = .error (HasTruncated.truncated pc) := by
  show (dite (pc < cc.size) (fun h => (do set (pc + 1); Pure.pure cc[pc].toNat : Decoder Nat)) (fun _ => (throw (HasTruncated.truncated pc : DecodeError) : Decoder Nat))) cc pc = _
  rw [dif_neg (by omega)]
  rfl
theorem rd_bind {α : Type} {cc : ByteArray} {pc : Nat} (h : cc.size ≤ pc) (f : Nat → Decoder α) : (Reader.u1 >>= f : Decoder α) cc pc = .error (HasTruncated.truncated pc) := by
  show ((Reader.u1 : Decoder Nat) cc pc >>= fun q => f q.1 cc q.2) = _
  rw [rd_oob h]
  rfl
theorem dec_oob {cc : ByteArray} {pc : Nat} (h : cc.size ≤ pc) {r : Instr × Nat} : decode cc pc ≠ .ok r := by
  intro hd
  have e : (Decoder.instr pc).runAt cc pc = .error (HasTruncated.truncated pc) := rd_bind h _
  unfold decode at hd
  rw [e] at hd
  cases hd
theorem pvExOk_0 {own : String} {cc : ByteArray} {Tb : List Jvm.Cond} {rm : Room} : pvExOk own cc Tb pvEx0 rm := fun ix ic k pc h => by cases (show (none : Option Nat) = some k from h)
def mX0_size : Room := { frames := 0, cells := 1, slots := 6, locals := 0 }
def mX0_initialStates : Room := { frames := 0, cells := 1, slots := 6, locals := 0 }
def mX0_finalStates : Room := { frames := 0, cells := 1, slots := 6, locals := 0 }
def mX0_putInitialStates : Room := { frames := 0, cells := 1, slots := 6, locals := 0 }
def mX0_putFinalStates : Room := { frames := 0, cells := 1, slots := 6, locals := 0 }
def mX9_isIndex : Room := { frames := 0, cells := 1, slots := 6, locals := 0 }
def mX0_cell : Room := { frames := 1, cells := 1, slots := 6, locals := 21 }
def mX0_letter : Room := { frames := 2, cells := 1, slots := 6, locals := 44 }
def mX0_allowed : Room := { frames := 2, cells := 1, slots := 6, locals := 44 }
def mX0_constraintCell : Room := { frames := 2, cells := 1, slots := 6, locals := 44 }
def mX0_putCell : Room := { frames := 1, cells := 1, slots := 6, locals := 21 }
def mX1_numberAt : Room := { frames := 1, cells := 1, slots := 6, locals := 21 }
def mX7_satisfying : Room := { frames := 0, cells := 1, slots := 6, locals := 0 }
def mX0_satisfyingValues : Room := { frames := 3, cells := 1, slots := 6, locals := 67 }
def mX7_narrowed : Room := { frames := 0, cells := 1, slots := 6, locals := 0 }
def mX0_add : Room := { frames := 4, cells := 1, slots := 6, locals := 89 }
def mX0_writeTo : Room := { frames := 1, cells := 1, slots := 6, locals := 40 }
def mX7_isAllowed : Room := { frames := 0, cells := 1, slots := 6, locals := 0 }
def mX0_canRead : Room := { frames := 3, cells := 1, slots := 6, locals := 65 }
def mX9_hasState : Room := { frames := 0, cells := 1, slots := 6, locals := 0 }
def mX0_statesBehind : Room := { frames := 4, cells := 1, slots := 6, locals := 88 }
def mX6_letterAt : Room := { frames := 1, cells := 1, slots := 6, locals := 21 }
def mX6_valuationAt : Room := { frames := 1, cells := 1, slots := 6, locals := 21 }
def mX0_statesAfterEvents : Room := { frames := 5, cells := 1, slots := 6, locals := 113 }
def mX1_hasRoom : Room := { frames := 0, cells := 1, slots := 6, locals := 0 }
def mX1_append : Room := { frames := 1, cells := 1, slots := 6, locals := 21 }
def mX1_characterAt : Room := { frames := 1, cells := 1, slots := 6, locals := 21 }
def mX1_stopAt : Room := { frames := 0, cells := 1, slots := 6, locals := 0 }
def mX1_addConstraint : Room := { frames := 1, cells := 1, slots := 6, locals := 21 }
def mX9_isBetween : Room := { frames := 0, cells := 1, slots := 6, locals := 0 }
def mX1_comparison : Room := { frames := 0, cells := 1, slots := 6, locals := 0 }
def mX1_readConstraint : Room := { frames := 2, cells := 1, slots := 6, locals := 45 }
def mX1_read : Room := { frames := 3, cells := 1, slots := 6, locals := 71 }
def mJ9_min_7cf53 : Room := { frames := 0, cells := 1, slots := 6, locals := 0 }
def mX2_remember : Room := { frames := 2, cells := 1, slots := 6, locals := 62 }
def mX3_addMoves : Room := { frames := 1, cells := 1, slots := 6, locals := 21 }
def mX3_findMoves : Room := { frames := 2, cells := 1, slots := 6, locals := 46 }
def mX3_addSet : Room := { frames := 1, cells := 1, slots := 6, locals := 21 }
def mX3_successor : Room := { frames := 1, cells := 1, slots := 6, locals := 21 }
def mX3_findSets : Room := { frames := 2, cells := 1, slots := 6, locals := 47 }
def mX3_refresh : Room := { frames := 3, cells := 1, slots := 6, locals := 70 }
def mX3_setAt : Room := { frames := 1, cells := 1, slots := 6, locals := 21 }
def mX3_numberOf : Room := { frames := 1, cells := 1, slots := 6, locals := 21 }
def mJ6_bitCount_0f7a4 : Room := { frames := 0, cells := 1, slots := 6, locals := 0 }
def mX3_countBranches : Room := { frames := 2, cells := 1, slots := 6, locals := 47 }
def mX3_countAllBranches : Room := { frames := 3, cells := 1, slots := 6, locals := 72 }
def mX3_branchSet : Room := { frames := 2, cells := 1, slots := 6, locals := 47 }
def mX3_countValuations : Room := { frames := 2, cells := 1, slots := 6, locals := 47 }
def mX5_placeOf : Room := { frames := 0, cells := 1, slots := 6, locals := 0 }
def mX5_forget : Room := { frames := 1, cells := 1, slots := 6, locals := 24 }
def mX5_enter : Room := { frames := 1, cells := 1, slots := 6, locals := 24 }
def mX5_putStart : Room := { frames := 1, cells := 1, slots := 6, locals := 21 }
def mX5_configurationAt : Room := { frames := 1, cells := 1, slots := 6, locals := 21 }
def mX5_isGoal : Room := { frames := 0, cells := 1, slots := 6, locals := 0 }
def mX5_hasGoal : Room := { frames := 2, cells := 1, slots := 6, locals := 42 }
def mX7_grown : Room := { frames := 0, cells := 1, slots := 6, locals := 0 }
def mX7_later : Room := { frames := 1, cells := 1, slots := 6, locals := 21 }
def mX7_withZero : Room := { frames := 0, cells := 1, slots := 6, locals := 0 }
def mX5_expand : Room := { frames := 2, cells := 1, slots := 6, locals := 49 }
def mX5_shortest : Room := { frames := 3, cells := 1, slots := 6, locals := 78 }
def mX5_findsAny : Room := { frames := 4, cells := 1, slots := 6, locals := 105 }
def mX5_startOf : Room := { frames := 1, cells := 1, slots := 6, locals := 21 }
def mX5_positionBehind : Room := { frames := 2, cells := 1, slots := 6, locals := 47 }
def mX5_costAt : Room := { frames := 1, cells := 1, slots := 6, locals := 21 }
def mX5_leastCost : Room := { frames := 3, cells := 1, slots := 6, locals := 76 }
def mX5_findCosts : Room := { frames := 4, cells := 1, slots := 6, locals := 104 }
def mX6_clear : Room := { frames := 0, cells := 1, slots := 6, locals := 0 }
def mX6_append : Room := { frames := 2, cells := 1, slots := 6, locals := 42 }
def mX5_takeEvent : Room := { frames := 3, cells := 1, slots := 6, locals := 76 }
def mX5_takeFirst : Room := { frames := 5, cells := 1, slots := 6, locals := 129 }
def mX6_delayAt : Room := { frames := 1, cells := 1, slots := 6, locals := 21 }
def mX7_writtenDigit : Room := { frames := 0, cells := 1, slots := 6, locals := 0 }
def mX7_written : Room := { frames := 1, cells := 1, slots := 6, locals := 20 }
def mX8_countAll : Room := { frames := 0, cells := 1, slots := 6, locals := 0 }
def mX8_addTo : Room := { frames := 1, cells := 1, slots := 6, locals := 21 }
def mX8_spread : Room := { frames := 2, cells := 1, slots := 6, locals := 47 }
def mX8_readEvent : Room := { frames := 3, cells := 1, slots := 6, locals := 76 }
def mX8_count : Room := { frames := 4, cells := 1, slots := 6, locals := 99 }
def mX9_requireArgument : Room := { frames := 6, cells := 1, slots := 6, locals := 81 }
def mX9_requireState : Room := { frames := 6, cells := 1, slots := 6, locals := 81 }
def mX9_appendCharacter : Room := { frames := 7, cells := 1, slots := 6, locals := 101 }
def mX9_requireIndex : Room := { frames := 6, cells := 1, slots := 6, locals := 81 }
def mX9_automaton : Room := { frames := 0, cells := 1, slots := 6, locals := 0 }
def mX9_markStale : Room := { frames := 0, cells := 1, slots := 6, locals := 0 }
def mX9_beginChange : Room := { frames := 3, cells := 1, slots := 6, locals := 84 }
def mX9_addTransition : Room := { frames := 7, cells := 1, slots := 6, locals := 117 }
def mX9_withState : Room := { frames := 0, cells := 1, slots := 6, locals := 0 }
def mX9_setInitial : Room := { frames := 7, cells := 1, slots := 6, locals := 104 }
def mX9_setFinal : Room := { frames := 7, cells := 1, slots := 6, locals := 104 }
def mX9_appendEvent : Room := { frames := 7, cells := 1, slots := 6, locals := 101 }
def mX9_wordLength : Room := { frames := 0, cells := 1, slots := 6, locals := 0 }
def mX9_event : Room := { frames := 7, cells := 1, slots := 6, locals := 102 }
def mX9_valuationBefore : Room := { frames := 7, cells := 1, slots := 6, locals := 102 }
def mX9_statesAfter : Room := { frames := 7, cells := 1, slots := 6, locals := 137 }
def mX9_accepts : Room := { frames := 7, cells := 1, slots := 6, locals := 137 }
def mX9_powerset : Room := { frames := 4, cells := 1, slots := 6, locals := 91 }
def mX9_deterministicStates : Room := { frames := 7, cells := 1, slots := 6, locals := 113 }
def mX9_requireDeterministicState : Room := { frames := 7, cells := 1, slots := 6, locals := 113 }
def mX9_deterministicSet : Room := { frames := 8, cells := 1, slots := 6, locals := 135 }
def mX9_branches : Room := { frames := 8, cells := 1, slots := 6, locals := 135 }
def mX9_requireBranch : Room := { frames := 8, cells := 1, slots := 6, locals := 135 }
def mX9_branchTarget : Room := { frames := 9, cells := 1, slots := 6, locals := 159 }
def mX9_branchValuations : Room := { frames := 9, cells := 1, slots := 6, locals := 159 }
def mX9_deterministicRun : Room := { frames := 7, cells := 1, slots := 6, locals := 137 }
def mX9_isEmpty : Room := { frames := 7, cells := 1, slots := 6, locals := 127 }
def mX9_requireElement : Room := { frames := 6, cells := 1, slots := 6, locals := 81 }
def mX9_takeWitness : Room := { frames := 7, cells := 1, slots := 6, locals := 155 }
def mX9_takeDifference : Room := { frames := 7, cells := 1, slots := 6, locals := 155 }
def mX9_isIncluded : Room := { frames := 7, cells := 1, slots := 6, locals := 127 }
def mX9_acceptedWords : Room := { frames := 7, cells := 1, slots := 6, locals := 125 }
def mX9_acceptedShare : Room := { frames := 7, cells := 1, slots := 6, locals := 125 }
def mJ9_max_7cf53 : Room := { frames := 0, cells := 1, slots := 6, locals := 0 }
def mX9_averageBranches : Room := { frames := 7, cells := 1, slots := 6, locals := 113 }
