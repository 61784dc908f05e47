/-! the law's wrappers: what they answer -/
def hfF (l : List Nat) (k : Nat) : Int := ((l.idxOf k : Nat) : Int) + 1
def wrI (l : List Nat) (Q : pvO → pvM → Prop) : pvO → pvM → Prop
  | .inl (some (.inl v)), z => pvR v → Q (.inl (some (vI 0))) (z.1, pvUp z.2.1 58 0 v, z.2.2)
  | .inr k, z => k ∈ l ∧ Q (.inl (some (vI (hfF l k)))) z
  | _, _ => False
def wrB (l : List Nat) (Q : pvO → pvM → Prop) : pvO → pvM → Prop
  | .inl (some (.inl v)), z => Q (.inl (some (vI 0))) (z.1, pvUp z.2.1 58 0 (if v = 0 then 0 else 1), z.2.2)
  | .inr k, z => k ∈ l ∧ Q (.inl (some (vI (hfF l k)))) z
  | _, _ => False
def wrL (l : List Nat) (Q : pvO → pvM → Prop) : pvO → pvM → Prop
  | .inl (some (.inr (.inl v))), z => Q (.inl (some (vI 0))) (z.1, pvUp z.2.1 58 0 v, z.2.2)
  | .inr k, z => k ∈ l ∧ Q (.inl (some (vI (hfF l k)))) z
  | _, _ => False
def wrN (l : List Nat) (Q : pvO → pvM → Prop) : pvO → pvM → Prop
  | .inl none, z => Q (.inl (some (vI 0))) z
  | .inr k, z => k ∈ l ∧ Q (.inl (some (vI (hfF l k)))) z
  | _, _ => False
def wrD (l : List Nat) (Q : pvO → pvM → Prop) : pvO → pvM → Prop
  | .inl (some (.inr (.inr (.inr (.inl v))))), z => vf_n64 v ∧ Q (.inl (some (vI 0))) (z.1, z.2.1, pvUp z.2.2 59 0 v)
  | .inr k, z => k ∈ l ∧ Q (.inl (some (vI (hfF l k)))) z
  | _, _ => False
def wrF (l : List Nat) (Q : pvO → pvM → Prop) : pvO → pvM → Prop
  | .inl (some (.inr (.inr (.inr (.inr v))))), z => vf_n32 v ∧ Q (.inl (some (vI 0))) (z.1, z.2.1, pvUp z.2.2 59 0 (FP.f2d v))
  | .inr k, z => k ∈ l ∧ Q (.inl (some (vI (hfF l k)))) z
  | _, _ => False
def C_L_appendCharacter : pvC
  | [a0, a1, .inr (.inr (.inl o))], z, Q => o = 58 ∧ C_X9_appendCharacter [a0, a1] z (wrI [1, 2] Q)
  | _, _, _ => False
def C_L_addTransition : pvC
  | [a0, a1, a2, a3, a4, .inr (.inr (.inl o))], z, Q => o = 58 ∧ C_X9_addTransition [a0, a1, a2, a3, a4] z (wrI [0, 1, 2] Q)
  | _, _, _ => False
def C_L_removeTransition : pvC
  | [a0, a1, a2, .inr (.inr (.inl o))], z, Q => o = 58 ∧ C_X9_removeTransition [a0, a1, a2] z (wrI [0] Q)
  | _, _, _ => False
def C_L_setInitial : pvC
  | [a0, a1, a2, a3, .inr (.inr (.inl o))], z, Q => o = 58 ∧ C_X9_setInitial [a0, a1, a2, a3] z (wrB [0] Q)
  | _, _, _ => False
def C_L_setFinal : pvC
  | [a0, a1, a2, a3, .inr (.inr (.inl o))], z, Q => o = 58 ∧ C_X9_setFinal [a0, a1, a2, a3] z (wrB [0] Q)
  | _, _, _ => False
def C_L_copyAutomaton : pvC
  | [a0, a1], z, Q => C_X9_copyAutomaton [a0, a1] z (wrN [0] Q)
  | _, _, _ => False
def C_L_clearAutomaton : pvC
  | [a0, a1], z, Q => C_X9_clearAutomaton [a0, a1] z (wrN [0] Q)
  | _, _, _ => False
def C_L_transitionCount : pvC
  | [a0, a1, .inr (.inr (.inl o))], z, Q => o = 58 ∧ C_X9_transitionCount [a0, a1] z (wrI [0] Q)
  | _, _, _ => False
def C_L_transition : pvC
  | [a0, a1, a2, a3, .inr (.inr (.inl o))], z, Q => o = 58 ∧ C_X9_transition [a0, a1, a2, a3] z (wrI [0] Q)
  | _, _, _ => False
def C_L_constraint : pvC
  | [a0, a1, a2, a3, a4, .inr (.inr (.inl o))], z, Q => o = 58 ∧ C_X9_constraint [a0, a1, a2, a3, a4] z (wrI [0] Q)
  | _, _, _ => False
def C_L_satisfyingValuations : pvC
  | [a0, a1, a2, .inr (.inr (.inl o))], z, Q => o = 58 ∧ C_X9_satisfyingValuations [a0, a1, a2] z (wrI [0] Q)
  | _, _, _ => False
def C_L_appendEvent : pvC
  | [a0, a1, a2, .inr (.inr (.inl o))], z, Q => o = 58 ∧ C_X9_appendEvent [a0, a1, a2] z (wrI [1, 2] Q)
  | _, _, _ => False
def C_L_event : pvC
  | [a0, a1, a2, .inr (.inr (.inl o))], z, Q => o = 58 ∧ C_X9_event [a0, a1, a2] z (wrI [0] Q)
  | _, _, _ => False
def C_L_valuationBefore : pvC
  | [a0, a1, .inr (.inr (.inl o))], z, Q => o = 58 ∧ C_X9_valuationBefore [a0, a1] z (wrI [0] Q)
  | _, _, _ => False
def C_L_statesAfter : pvC
  | [a0, a1, a2, .inr (.inr (.inl o))], z, Q => o = 58 ∧ C_X9_statesAfter [a0, a1, a2] z (wrI [0] Q)
  | _, _, _ => False
def C_L_accepts : pvC
  | [a0, a1, .inr (.inr (.inl o))], z, Q => o = 58 ∧ C_X9_accepts [a0, a1] z (wrB [0] Q)
  | _, _, _ => False
def C_L_runCount : pvC
  | [a0, a1, .inr (.inr (.inl o))], z, Q => o = 58 ∧ C_X9_runCount [a0, a1] z (wrL [0] Q)
  | _, _, _ => False
def C_L_acceptingRuns : pvC
  | [a0, a1, .inr (.inr (.inl o))], z, Q => o = 58 ∧ C_X9_acceptingRuns [a0, a1] z (wrL [0] Q)
  | _, _, _ => False
def C_L_firstRun : pvC
  | [a0, a1, a2, .inr (.inr (.inl o))], z, Q => o = 58 ∧ C_X9_firstRun [a0, a1, a2] z (wrI [0, 3] Q)
  | _, _, _ => False
def C_L_stuckAt : pvC
  | [a0, a1, .inr (.inr (.inl o))], z, Q => o = 58 ∧ C_X9_stuckAt [a0, a1] z (wrI [0, 3] Q)
  | _, _, _ => False
def C_L_blockingConstraint : pvC
  | [a0, a1, a2, a3, .inr (.inr (.inl o))], z, Q => o = 58 ∧ C_X9_blockingConstraint [a0, a1, a2, a3] z (wrI [0, 1] Q)
  | _, _, _ => False
def C_L_deterministicStates : pvC
  | [a0, a1, .inr (.inr (.inl o))], z, Q => o = 58 ∧ C_X9_deterministicStates [a0, a1] z (wrI [0] Q)
  | _, _, _ => False
def C_L_deterministicSet : pvC
  | [a0, a1, a2, .inr (.inr (.inl o))], z, Q => o = 58 ∧ C_X9_deterministicSet [a0, a1, a2] z (wrI [0] Q)
  | _, _, _ => False
def C_L_branches : pvC
  | [a0, a1, a2, a3, .inr (.inr (.inl o))], z, Q => o = 58 ∧ C_X9_branches [a0, a1, a2, a3] z (wrI [0] Q)
  | _, _, _ => False
def C_L_branchTarget : pvC
  | [a0, a1, a2, a3, a4, .inr (.inr (.inl o))], z, Q => o = 58 ∧ C_X9_branchTarget [a0, a1, a2, a3, a4] z (wrI [0] Q)
  | _, _, _ => False
def C_L_branchValuations : pvC
  | [a0, a1, a2, a3, a4, .inr (.inr (.inl o))], z, Q => o = 58 ∧ C_X9_branchValuations [a0, a1, a2, a3, a4] z (wrI [0] Q)
  | _, _, _ => False
def C_L_deterministicRun : pvC
  | [a0, a1, .inr (.inr (.inl o))], z, Q => o = 58 ∧ C_X9_deterministicRun [a0, a1] z (wrI [0] Q)
  | _, _, _ => False
def C_L_isDeterministic : pvC
  | [a0, a1, .inr (.inr (.inl o))], z, Q => o = 58 ∧ C_X9_isDeterministic [a0, a1] z (wrB [0] Q)
  | _, _, _ => False
def C_L_isEmpty : pvC
  | [a0, a1, .inr (.inr (.inl o))], z, Q => o = 58 ∧ C_X9_isEmpty [a0, a1] z (wrB [0] Q)
  | _, _, _ => False
def C_L_takeWitness : pvC
  | [a0, a1, .inr (.inr (.inl o))], z, Q => o = 58 ∧ C_X9_takeWitness [a0, a1] z (wrI [0, 3] Q)
  | _, _, _ => False
def C_L_takeDifference : pvC
  | [a0, a1, .inr (.inr (.inl o))], z, Q => o = 58 ∧ C_X9_takeDifference [a0, a1] z (wrI [0, 3] Q)
  | _, _, _ => False
def C_L_isIncluded : pvC
  | [a0, a1, .inr (.inr (.inl o))], z, Q => o = 58 ∧ C_X9_isIncluded [a0, a1] z (wrB [0] Q)
  | _, _, _ => False
def C_L_acceptedWords : pvC
  | [a0, a1, a2, a3, .inr (.inr (.inl o))], z, Q => o = 58 ∧ C_X9_acceptedWords [a0, a1, a2, a3] z (wrL [0, 1] Q)
  | _, _, _ => False
def C_L_acceptedShare : pvC
  | [a0, a1, a2, .inr (.inr (.inl o))], z, Q => o = 59 ∧ C_X9_acceptedShare [a0, a1, a2] z (wrD [0, 1] Q)
  | _, _, _ => False
def C_L_averageBranches : pvC
  | [a0, a1, .inr (.inr (.inl o))], z, Q => o = 59 ∧ C_X9_averageBranches [a0, a1] z (wrF [0] Q)
  | _, _, _ => False
def C_L_undo : pvC
  | [a0, .inr (.inr (.inl o))], z, Q => o = 58 ∧ C_X9_undo [a0] z (wrI [2] Q)
  | _, _, _ => False
def C_L_restore : pvC
  | [a0], z, Q => C_X9_restore [a0] z (wrN [2] Q)
  | _, _, _ => False
