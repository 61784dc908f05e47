/-! contracts over the machine, 3 -/
theorem pnX9_wordLength : pvPn yX9_wordLength = some 0 := by decide +kernel
theorem caX9_wordLength {l : Launch} (hf : l.stackTraces = false) (lm : Nat → Prop) (sc : Nat × (Nat → Int)) : pvCaOk l mX9_wordLength "EventClockWorkbench" pvTb lm sc aX9_wordLength := by
  exact fun ix n b ci co C h => nomatch (show (none : Option (Nat × Bool × Nat × Nat × pvC)) = some (n, b, ci, co, C) from h)
set_option maxRecDepth 100000 in
theorem chX9_wordLength : ∀ pc, pvChain cX9_wordLength pc (bX9_wordLength pc) := by
  intro pc
  unfold bX9_wordLength
  split <;> first | exact True.intro | exact pvChain_of (by decide +kernel)
theorem frX9_wordLength : ∀ pc, (bX9_wordLength pc).all (fun q => pvFrB eX9 q.1) = true := by
  intro pc
  unfold bX9_wordLength
  split <;> rfl
theorem metX9_wordLength {l : Launch} (hf : l.stackTraces = false) : pvMet l yX9_wordLength (Cond.code yX9_wordLength cX9_wordLength 1 (some .int) :: pvTb) mX9_wordLength C_X9_wordLength :=
  pvMet_of hf (y := yX9_wordLength) plX9 pvTb_g coX9 foX9 pvCl (caX9_wordLength hf) pvExOk_0 (fun ix h => by rcases h with h | h <;> cases (show (none : Option Nat) = some _ from h)) ⟨rfl, rfl⟩ chX9_wordLength (pvOkM_ex okX9_wordLength frX9_wordLength)
theorem pnX9_event : pvPn yX9_event = some 2 := by decide +kernel
theorem caX9_event {l : Launch} (hf : l.stackTraces = false) (lm : Nat → Prop) (sc : Nat × (Nat → Int)) : pvCaOk l mX9_event "EventClockWorkbench" pvTb lm sc aX9_event := by
  refine pvCaOk_i fun ix n b ci co C h => ?_
  unfold aX9_event at h
  split at h
  · cases h; exact pvCe_S (metX9_requireIndex hf) rfl wd_1_1 rfl wd_2_110 wd_2_111 pnX9_requireIndex wd_2_112
  · cases h; exact pvCe_V (k := 1) (T := TX6) (N := 5) (metX6_delayAt hf) rfl wd_1_5 rfl wd_5_111 wd_5_112 wd_5_113 pnX6_delayAt rfl wd_5_114
  · cases h; exact pvCe_V (k := 1) (T := TX6) (N := 5) (metX6_letterAt hf) rfl wd_1_5 rfl wd_5_115 wd_2_155 wd_2_156 pnX6_letterAt rfl wd_2_157
  · cases h
set_option maxRecDepth 100000 in
theorem chX9_event : ∀ pc, pvChain cX9_event pc (bX9_event pc) := by
  intro pc
  unfold bX9_event
  split <;> first | exact True.intro | exact pvChain_of (by decide +kernel)
theorem frX9_event : ∀ pc, (bX9_event pc).all (fun q => pvFrB eX9 q.1) = true := by
  intro pc
  unfold bX9_event
  split <;> rfl
theorem metX9_event {l : Launch} (hf : l.stackTraces = false) : pvMet l yX9_event (Cond.code yX9_event cX9_event 3 (some .int) :: pvTb) mX9_event C_X9_event :=
  pvMet_of hf (y := yX9_event) plX9 pvTb_g coX9 foX9 pvCl (caX9_event hf) pvExOk_0 (fun ix h => by rcases h with h | h <;> cases (show (none : Option Nat) = some _ from h)) ⟨rfl, rfl⟩ chX9_event (pvOkM_ex okX9_event frX9_event)
theorem pnX9_valuationBefore : pvPn yX9_valuationBefore = some 1 := by decide +kernel
theorem caX9_valuationBefore {l : Launch} (hf : l.stackTraces = false) (lm : Nat → Prop) (sc : Nat × (Nat → Int)) : pvCaOk l mX9_valuationBefore "EventClockWorkbench" pvTb lm sc aX9_valuationBefore := by
  refine pvCaOk_i fun ix n b ci co C h => ?_
  unfold aX9_valuationBefore at h
  split at h
  · cases h; exact pvCe_S (metX9_requireIndex hf) rfl wd_1_1 rfl wd_2_110 wd_2_111 pnX9_requireIndex wd_2_112
  · cases h; exact pvCe_V (k := 1) (T := TX6) (N := 5) (metX6_valuationAt hf) rfl wd_1_5 rfl wd_2_128 wd_2_129 wd_2_130 pnX6_valuationAt rfl wd_2_131
  · cases h; exact pvCe_S (metX7_written hf) rfl wd_1_28 rfl wd_2_132 wd_2_133 pnX7_written wd_2_134
  · cases h
set_option maxRecDepth 100000 in
theorem chX9_valuationBefore : ∀ pc, pvChain cX9_valuationBefore pc (bX9_valuationBefore pc) := by
  intro pc
  unfold bX9_valuationBefore
  split <;> first | exact True.intro | exact pvChain_of (by decide +kernel)
theorem frX9_valuationBefore : ∀ pc, (bX9_valuationBefore pc).all (fun q => pvFrB eX9 q.1) = true := by
  intro pc
  unfold bX9_valuationBefore
  split <;> rfl
theorem metX9_valuationBefore {l : Launch} (hf : l.stackTraces = false) : pvMet l yX9_valuationBefore (Cond.code yX9_valuationBefore cX9_valuationBefore 2 (some .int) :: pvTb) mX9_valuationBefore C_X9_valuationBefore :=
  pvMet_of hf (y := yX9_valuationBefore) plX9 pvTb_g coX9 foX9 pvCl (caX9_valuationBefore hf) pvExOk_0 (fun ix h => by rcases h with h | h <;> cases (show (none : Option Nat) = some _ from h)) ⟨rfl, rfl⟩ chX9_valuationBefore (pvOkM_ex okX9_valuationBefore frX9_valuationBefore)
theorem pnX9_statesAfter : pvPn yX9_statesAfter = some 2 := by decide +kernel
theorem caX9_statesAfter {l : Launch} (hf : l.stackTraces = false) (lm : Nat → Prop) (sc : Nat × (Nat → Int)) : pvCaOk l mX9_statesAfter "EventClockWorkbench" pvTb lm sc aX9_statesAfter := by
  refine pvCaOk_i fun ix n b ci co C h => ?_
  unfold aX9_statesAfter at h
  split at h
  · cases h; exact pvCe_S (metX9_requireIndex hf) rfl wd_1_1 rfl wd_2_110 wd_2_111 pnX9_requireIndex wd_2_112
  · cases h; exact pvCe_V (k := 1) (T := TX9) (N := 11) (metX9_automaton hf) rfl wd_1_1 rfl wd_2_142 wd_2_144 ps_1_1 pnX9_automaton rfl wd_2_145
  · cases h; exact pvCe_V (k := 2) (T := TX0) (N := 1) (metX0_statesAfterEvents hf) rfl wd_1_2 rfl wd_2_146 wd_2_147 wd_2_148 pnX0_statesAfterEvents rfl wd_2_149
  · cases h
set_option maxRecDepth 100000 in
theorem chX9_statesAfter : ∀ pc, pvChain cX9_statesAfter pc (bX9_statesAfter pc) := by
  intro pc
  unfold bX9_statesAfter
  split <;> first | exact True.intro | exact pvChain_of (by decide +kernel)
theorem frX9_statesAfter : ∀ pc, (bX9_statesAfter pc).all (fun q => pvFrB eX9 q.1) = true := by
  intro pc
  unfold bX9_statesAfter
  split <;> rfl
theorem metX9_statesAfter {l : Launch} (hf : l.stackTraces = false) : pvMet l yX9_statesAfter (Cond.code yX9_statesAfter cX9_statesAfter 3 (some .int) :: pvTb) mX9_statesAfter C_X9_statesAfter :=
  pvMet_of hf (y := yX9_statesAfter) plX9 pvTb_g coX9 foX9 pvCl (caX9_statesAfter hf) pvExOk_0 (fun ix h => by rcases h with h | h <;> cases (show (none : Option Nat) = some _ from h)) ⟨rfl, rfl⟩ chX9_statesAfter (pvOkM_ex okX9_statesAfter frX9_statesAfter)
theorem pnX9_accepts : pvPn yX9_accepts = some 1 := by decide +kernel
theorem caX9_accepts {l : Launch} (hf : l.stackTraces = false) (lm : Nat → Prop) (sc : Nat × (Nat → Int)) : pvCaOk l mX9_accepts "EventClockWorkbench" pvTb lm sc aX9_accepts := by
  refine pvCaOk_i fun ix n b ci co C h => ?_
  unfold aX9_accepts at h
  split at h
  · cases h; exact pvCe_S (metX9_requireIndex hf) rfl wd_1_1 rfl wd_2_110 wd_2_111 pnX9_requireIndex wd_2_112
  · cases h; exact pvCe_V (k := 1) (T := TX9) (N := 11) (metX9_automaton hf) rfl wd_1_1 rfl wd_2_142 wd_2_144 ps_1_1 pnX9_automaton rfl wd_2_145
  · cases h; exact pvCe_V (k := 0) (T := TX0) (N := 1) (metX0_finalStates hf) rfl wd_1_2 rfl wd_2_194 wd_2_195 wd_2_196 pnX0_finalStates rfl wd_2_197
  · cases h; exact pvCe_V (k := 2) (T := TX0) (N := 1) (metX0_statesAfterEvents hf) rfl wd_1_2 rfl wd_2_146 wd_2_147 wd_2_148 pnX0_statesAfterEvents rfl wd_2_149
  · cases h
set_option maxRecDepth 100000 in
theorem chX9_accepts : ∀ pc, pvChain cX9_accepts pc (bX9_accepts pc) := by
  intro pc
  unfold bX9_accepts
  split <;> first | exact True.intro | exact pvChain_of (by decide +kernel)
theorem frX9_accepts : ∀ pc, (bX9_accepts pc).all (fun q => pvFrB eX9 q.1) = true := by
  intro pc
  unfold bX9_accepts
  split <;> rfl
theorem metX9_accepts {l : Launch} (hf : l.stackTraces = false) : pvMet l yX9_accepts (Cond.code yX9_accepts cX9_accepts 3 (some .boolean) :: pvTb) mX9_accepts C_X9_accepts :=
  pvMet_of hf (y := yX9_accepts) plX9 pvTb_g coX9 foX9 pvCl (caX9_accepts hf) pvExOk_0 (fun ix h => by rcases h with h | h <;> cases (show (none : Option Nat) = some _ from h)) ⟨rfl, rfl⟩ chX9_accepts (pvOkM_ex okX9_accepts frX9_accepts)
theorem pnX9_powerset : pvPn yX9_powerset = some 1 := by decide +kernel
theorem caX9_powerset {l : Launch} (hf : l.stackTraces = false) (lm : Nat → Prop) (sc : Nat × (Nat → Int)) : pvCaOk l mX9_powerset "EventClockWorkbench" pvTb lm sc aX9_powerset := by
  refine pvCaOk_i fun ix n b ci co C h => ?_
  unfold aX9_powerset at h
  split at h
  · cases h; exact pvCe_V (k := 1) (T := TX9) (N := 11) (metX9_automaton hf) rfl wd_1_1 rfl wd_2_142 wd_2_144 ps_1_1 pnX9_automaton rfl wd_2_145
  · cases h; exact pvCe_V (k := 1) (T := TX3) (N := 7) (metX3_refresh hf) rfl wd_1_3 rfl wd_2_210 wd_2_211 wd_2_212 pnX3_refresh rfl wd_2_213
  · cases h
set_option maxRecDepth 100000 in
theorem chX9_powerset : ∀ pc, pvChain cX9_powerset pc (bX9_powerset pc) := by
  intro pc
  unfold bX9_powerset
  split <;> first | exact True.intro | exact pvChain_of (by decide +kernel)
theorem frX9_powerset : ∀ pc, (bX9_powerset pc).all (fun q => pvFrB eX9 q.1) = true := by
  intro pc
  unfold bX9_powerset
  split <;> rfl
theorem metX9_powerset {l : Launch} (hf : l.stackTraces = false) : pvMet l yX9_powerset (Cond.code yX9_powerset cX9_powerset 3 (some (.object "EventClockWorkbench$Powerset")) :: pvTb) mX9_powerset C_X9_powerset :=
  pvMet_of hf (y := yX9_powerset) plX9 pvTb_g coX9 foX9 pvCl (caX9_powerset hf) pvExOk_0 (fun ix h => by rcases h with h | h <;> cases (show (none : Option Nat) = some _ from h)) ⟨rfl, rfl⟩ chX9_powerset (pvOkM_ex okX9_powerset frX9_powerset)
theorem pnX9_deterministicStates : pvPn yX9_deterministicStates = some 1 := by decide +kernel
theorem caX9_deterministicStates {l : Launch} (hf : l.stackTraces = false) (lm : Nat → Prop) (sc : Nat × (Nat → Int)) : pvCaOk l mX9_deterministicStates "EventClockWorkbench" pvTb lm sc aX9_deterministicStates := by
  refine pvCaOk_i fun ix n b ci co C h => ?_
  unfold aX9_deterministicStates at h
  split at h
  · cases h; exact pvCe_S (metX9_requireIndex hf) rfl wd_1_1 rfl wd_2_110 wd_2_111 pnX9_requireIndex wd_2_112
  · cases h; exact pvCe_V (k := 1) (T := TX9) (N := 11) (metX9_powerset hf) rfl wd_1_1 rfl wd_2_206 wd_2_208 ps_1_4 pnX9_powerset rfl wd_2_209
  · cases h
set_option maxRecDepth 100000 in
theorem chX9_deterministicStates : ∀ pc, pvChain cX9_deterministicStates pc (bX9_deterministicStates pc) := by
  intro pc
  unfold bX9_deterministicStates
  split <;> first | exact True.intro | exact pvChain_of (by decide +kernel)
theorem frX9_deterministicStates : ∀ pc, (bX9_deterministicStates pc).all (fun q => pvFrB eX9 q.1) = true := by
  intro pc
  unfold bX9_deterministicStates
  split <;> rfl
theorem metX9_deterministicStates {l : Launch} (hf : l.stackTraces = false) : pvMet l yX9_deterministicStates (Cond.code yX9_deterministicStates cX9_deterministicStates 2 (some .int) :: pvTb) mX9_deterministicStates C_X9_deterministicStates :=
  pvMet_of hf (y := yX9_deterministicStates) plX9 pvTb_g coX9 foX9 pvCl (caX9_deterministicStates hf) pvExOk_0 (fun ix h => by rcases h with h | h <;> cases (show (none : Option Nat) = some _ from h)) ⟨rfl, rfl⟩ chX9_deterministicStates (pvOkM_ex okX9_deterministicStates frX9_deterministicStates)
theorem pnX9_requireDeterministicState : pvPn yX9_requireDeterministicState = some 2 := by decide +kernel
theorem caX9_requireDeterministicState {l : Launch} (hf : l.stackTraces = false) (lm : Nat → Prop) (sc : Nat × (Nat → Int)) : pvCaOk l mX9_requireDeterministicState "EventClockWorkbench" pvTb lm sc aX9_requireDeterministicState := by
  refine pvCaOk_i fun ix n b ci co C h => ?_
  unfold aX9_requireDeterministicState at h
  split at h
  · cases h; exact pvCe_S (metX9_requireIndex hf) rfl wd_1_1 rfl wd_2_110 wd_2_111 pnX9_requireIndex wd_2_112
  · cases h; exact pvCe_V (k := 1) (T := TX9) (N := 11) (metX9_powerset hf) rfl wd_1_1 rfl wd_2_206 wd_2_208 ps_1_4 pnX9_powerset rfl wd_2_209
  · cases h
set_option maxRecDepth 100000 in
theorem chX9_requireDeterministicState : ∀ pc, pvChain cX9_requireDeterministicState pc (bX9_requireDeterministicState pc) := by
  intro pc
  unfold bX9_requireDeterministicState
  split <;> first | exact True.intro | exact pvChain_of (by decide +kernel)
theorem frX9_requireDeterministicState : ∀ pc, (bX9_requireDeterministicState pc).all (fun q => pvFrB eX9 q.1) = true := by
  intro pc
  unfold bX9_requireDeterministicState
  split <;> rfl
theorem metX9_requireDeterministicState {l : Launch} (hf : l.stackTraces = false) : pvMet l yX9_requireDeterministicState (Cond.code yX9_requireDeterministicState cX9_requireDeterministicState 3 none :: pvTb) mX9_requireDeterministicState C_X9_requireDeterministicState :=
  pvMet_of hf (y := yX9_requireDeterministicState) plX9 pvTb_g coX9 foX9 pvCl (caX9_requireDeterministicState hf) pvExOk_0 (fun ix h => by rcases h with h | h <;> cases (show (none : Option Nat) = some _ from h)) ⟨rfl, rfl⟩ chX9_requireDeterministicState (pvOkM_ex okX9_requireDeterministicState frX9_requireDeterministicState)
theorem pnX9_deterministicSet : pvPn yX9_deterministicSet = some 2 := by decide +kernel
theorem caX9_deterministicSet {l : Launch} (hf : l.stackTraces = false) (lm : Nat → Prop) (sc : Nat × (Nat → Int)) : pvCaOk l mX9_deterministicSet "EventClockWorkbench" pvTb lm sc aX9_deterministicSet := by
  refine pvCaOk_i fun ix n b ci co C h => ?_
  unfold aX9_deterministicSet at h
  split at h
  · cases h; exact pvCe_V (k := 1) (T := TX9) (N := 11) (metX9_powerset hf) rfl wd_1_1 rfl wd_2_206 wd_2_208 ps_1_4 pnX9_powerset rfl wd_2_209
  · cases h; exact pvCe_V (k := 2) (T := TX9) (N := 11) (metX9_requireDeterministicState hf) rfl wd_1_1 rfl wd_2_202 wd_2_204 ps_1_3 pnX9_requireDeterministicState rfl wd_2_205
  · cases h; exact pvCe_V (k := 1) (T := TX3) (N := 7) (metX3_setAt hf) rfl wd_1_3 rfl wd_3_0 wd_3_1 wd_3_2 pnX3_setAt rfl wd_3_3
  · cases h
set_option maxRecDepth 100000 in
theorem chX9_deterministicSet : ∀ pc, pvChain cX9_deterministicSet pc (bX9_deterministicSet pc) := by
  intro pc
  unfold bX9_deterministicSet
  split <;> first | exact True.intro | exact pvChain_of (by decide +kernel)
theorem frX9_deterministicSet : ∀ pc, (bX9_deterministicSet pc).all (fun q => pvFrB eX9 q.1) = true := by
  intro pc
  unfold bX9_deterministicSet
  split <;> rfl
theorem metX9_deterministicSet {l : Launch} (hf : l.stackTraces = false) : pvMet l yX9_deterministicSet (Cond.code yX9_deterministicSet cX9_deterministicSet 3 (some .int) :: pvTb) mX9_deterministicSet C_X9_deterministicSet :=
  pvMet_of hf (y := yX9_deterministicSet) plX9 pvTb_g coX9 foX9 pvCl (caX9_deterministicSet hf) pvExOk_0 (fun ix h => by rcases h with h | h <;> cases (show (none : Option Nat) = some _ from h)) ⟨rfl, rfl⟩ chX9_deterministicSet (pvOkM_ex okX9_deterministicSet frX9_deterministicSet)
theorem pnX9_branches : pvPn yX9_branches = some 3 := by decide +kernel
theorem caX9_branches {l : Launch} (hf : l.stackTraces = false) (lm : Nat → Prop) (sc : Nat × (Nat → Int)) : pvCaOk l mX9_branches "EventClockWorkbench" pvTb lm sc aX9_branches := by
  refine pvCaOk_i fun ix n b ci co C h => ?_
  unfold aX9_branches at h
  split at h
  · cases h; exact pvCe_S (metX9_requireIndex hf) rfl wd_1_1 rfl wd_2_110 wd_2_111 pnX9_requireIndex wd_2_112
  · cases h; exact pvCe_V (k := 1) (T := TX9) (N := 11) (metX9_powerset hf) rfl wd_1_1 rfl wd_2_206 wd_2_208 ps_1_4 pnX9_powerset rfl wd_2_209
  · cases h; exact pvCe_V (k := 2) (T := TX9) (N := 11) (metX9_requireDeterministicState hf) rfl wd_1_1 rfl wd_2_202 wd_2_204 ps_1_3 pnX9_requireDeterministicState rfl wd_2_205
  · cases h; exact pvCe_V (k := 2) (T := TX3) (N := 7) (metX3_countBranches hf) rfl wd_1_3 rfl wd_5_127 wd_5_128 wd_5_129 pnX3_countBranches rfl wd_5_130
  · cases h
set_option maxRecDepth 100000 in
theorem chX9_branches : ∀ pc, pvChain cX9_branches pc (bX9_branches pc) := by
  intro pc
  unfold bX9_branches
  split <;> first | exact True.intro | exact pvChain_of (by decide +kernel)
theorem frX9_branches : ∀ pc, (bX9_branches pc).all (fun q => pvFrB eX9 q.1) = true := by
  intro pc
  unfold bX9_branches
  split <;> rfl
theorem metX9_branches {l : Launch} (hf : l.stackTraces = false) : pvMet l yX9_branches (Cond.code yX9_branches cX9_branches 4 (some .int) :: pvTb) mX9_branches C_X9_branches :=
  pvMet_of hf (y := yX9_branches) plX9 pvTb_g coX9 foX9 pvCl (caX9_branches hf) pvExOk_0 (fun ix h => by rcases h with h | h <;> cases (show (none : Option Nat) = some _ from h)) ⟨rfl, rfl⟩ chX9_branches (pvOkM_ex okX9_branches frX9_branches)
theorem pnX9_requireBranch : pvPn yX9_requireBranch = some 4 := by decide +kernel
theorem caX9_requireBranch {l : Launch} (hf : l.stackTraces = false) (lm : Nat → Prop) (sc : Nat × (Nat → Int)) : pvCaOk l mX9_requireBranch "EventClockWorkbench" pvTb lm sc aX9_requireBranch := by
  refine pvCaOk_i fun ix n b ci co C h => ?_
  unfold aX9_requireBranch at h
  split at h
  · cases h; exact pvCe_S (metX9_requireIndex hf) rfl wd_1_1 rfl wd_2_110 wd_2_111 pnX9_requireIndex wd_2_112
  · cases h; exact pvCe_V (k := 1) (T := TX9) (N := 11) (metX9_powerset hf) rfl wd_1_1 rfl wd_2_206 wd_2_208 ps_1_4 pnX9_powerset rfl wd_2_209
  · cases h; exact pvCe_V (k := 2) (T := TX9) (N := 11) (metX9_requireDeterministicState hf) rfl wd_1_1 rfl wd_2_202 wd_2_204 ps_1_3 pnX9_requireDeterministicState rfl wd_2_205
  · cases h; exact pvCe_V (k := 2) (T := TX3) (N := 7) (metX3_countBranches hf) rfl wd_1_3 rfl wd_5_127 wd_5_128 wd_5_129 pnX3_countBranches rfl wd_5_130
  · cases h
set_option maxRecDepth 100000 in
theorem chX9_requireBranch : ∀ pc, pvChain cX9_requireBranch pc (bX9_requireBranch pc) := by
  intro pc
  unfold bX9_requireBranch
  split <;> first | exact True.intro | exact pvChain_of (by decide +kernel)
theorem frX9_requireBranch : ∀ pc, (bX9_requireBranch pc).all (fun q => pvFrB eX9 q.1) = true := by
  intro pc
  unfold bX9_requireBranch
  split <;> rfl
theorem metX9_requireBranch {l : Launch} (hf : l.stackTraces = false) : pvMet l yX9_requireBranch (Cond.code yX9_requireBranch cX9_requireBranch 5 none :: pvTb) mX9_requireBranch C_X9_requireBranch :=
  pvMet_of hf (y := yX9_requireBranch) plX9 pvTb_g coX9 foX9 pvCl (caX9_requireBranch hf) pvExOk_0 (fun ix h => by rcases h with h | h <;> cases (show (none : Option Nat) = some _ from h)) ⟨rfl, rfl⟩ chX9_requireBranch (pvOkM_ex okX9_requireBranch frX9_requireBranch)
theorem pnX9_branchTarget : pvPn yX9_branchTarget = some 4 := by decide +kernel
theorem caX9_branchTarget {l : Launch} (hf : l.stackTraces = false) (lm : Nat → Prop) (sc : Nat × (Nat → Int)) : pvCaOk l mX9_branchTarget "EventClockWorkbench" pvTb lm sc aX9_branchTarget := by
  refine pvCaOk_i fun ix n b ci co C h => ?_
  unfold aX9_branchTarget at h
  split at h
  · cases h; exact pvCe_V (k := 1) (T := TX9) (N := 11) (metX9_powerset hf) rfl wd_1_1 rfl wd_2_206 wd_2_208 ps_1_4 pnX9_powerset rfl wd_2_209
  · cases h; exact pvCe_V (k := 4) (T := TX9) (N := 11) (metX9_requireBranch hf) rfl wd_1_1 rfl wd_5_142 wd_5_144 ps_3_0 pnX9_requireBranch rfl wd_5_145
  · cases h; exact pvCe_V (k := 3) (T := TX3) (N := 7) (metX3_branchSet hf) rfl wd_1_3 rfl wd_5_146 wd_5_147 wd_5_148 pnX3_branchSet rfl wd_5_149
  · cases h; exact pvCe_V (k := 1) (T := TX3) (N := 7) (metX3_numberOf hf) rfl wd_1_3 rfl wd_3_8 wd_3_9 wd_3_10 pnX3_numberOf rfl wd_3_11
  · cases h
set_option maxRecDepth 100000 in
theorem chX9_branchTarget : ∀ pc, pvChain cX9_branchTarget pc (bX9_branchTarget pc) := by
  intro pc
  unfold bX9_branchTarget
  split <;> first | exact True.intro | exact pvChain_of (by decide +kernel)
theorem frX9_branchTarget : ∀ pc, (bX9_branchTarget pc).all (fun q => pvFrB eX9 q.1) = true := by
  intro pc
  unfold bX9_branchTarget
  split <;> rfl
theorem metX9_branchTarget {l : Launch} (hf : l.stackTraces = false) : pvMet l yX9_branchTarget (Cond.code yX9_branchTarget cX9_branchTarget 6 (some .int) :: pvTb) mX9_branchTarget C_X9_branchTarget :=
  pvMet_of hf (y := yX9_branchTarget) plX9 pvTb_g coX9 foX9 pvCl (caX9_branchTarget hf) pvExOk_0 (fun ix h => by rcases h with h | h <;> cases (show (none : Option Nat) = some _ from h)) ⟨rfl, rfl⟩ chX9_branchTarget (pvOkM_ex okX9_branchTarget frX9_branchTarget)
theorem pnX9_branchValuations : pvPn yX9_branchValuations = some 4 := by decide +kernel
theorem caX9_branchValuations {l : Launch} (hf : l.stackTraces = false) (lm : Nat → Prop) (sc : Nat × (Nat → Int)) : pvCaOk l mX9_branchValuations "EventClockWorkbench" pvTb lm sc aX9_branchValuations := by
  refine pvCaOk_i fun ix n b ci co C h => ?_
  unfold aX9_branchValuations at h
  split at h
  · cases h; exact pvCe_V (k := 1) (T := TX9) (N := 11) (metX9_powerset hf) rfl wd_1_1 rfl wd_2_206 wd_2_208 ps_1_4 pnX9_powerset rfl wd_2_209
  · cases h; exact pvCe_V (k := 4) (T := TX9) (N := 11) (metX9_requireBranch hf) rfl wd_1_1 rfl wd_5_142 wd_5_144 ps_3_0 pnX9_requireBranch rfl wd_5_145
  · cases h; exact pvCe_V (k := 3) (T := TX3) (N := 7) (metX3_branchSet hf) rfl wd_1_3 rfl wd_5_146 wd_5_147 wd_5_148 pnX3_branchSet rfl wd_5_149
  · cases h; exact pvCe_V (k := 3) (T := TX3) (N := 7) (metX3_countValuations hf) rfl wd_1_3 rfl wd_5_154 wd_5_155 wd_5_156 pnX3_countValuations rfl wd_5_157
  · cases h
set_option maxRecDepth 100000 in
theorem chX9_branchValuations : ∀ pc, pvChain cX9_branchValuations pc (bX9_branchValuations pc) := by
  intro pc
  unfold bX9_branchValuations
  split <;> first | exact True.intro | exact pvChain_of (by decide +kernel)
theorem frX9_branchValuations : ∀ pc, (bX9_branchValuations pc).all (fun q => pvFrB eX9 q.1) = true := by
  intro pc
  unfold bX9_branchValuations
  split <;> rfl
theorem metX9_branchValuations {l : Launch} (hf : l.stackTraces = false) : pvMet l yX9_branchValuations (Cond.code yX9_branchValuations cX9_branchValuations 6 (some .int) :: pvTb) mX9_branchValuations C_X9_branchValuations :=
  pvMet_of hf (y := yX9_branchValuations) plX9 pvTb_g coX9 foX9 pvCl (caX9_branchValuations hf) pvExOk_0 (fun ix h => by rcases h with h | h <;> cases (show (none : Option Nat) = some _ from h)) ⟨rfl, rfl⟩ chX9_branchValuations (pvOkM_ex okX9_branchValuations frX9_branchValuations)
theorem pnX9_deterministicRun : pvPn yX9_deterministicRun = some 1 := by decide +kernel
theorem caX9_deterministicRun {l : Launch} (hf : l.stackTraces = false) (lm : Nat → Prop) (sc : Nat × (Nat → Int)) : pvCaOk l mX9_deterministicRun "EventClockWorkbench" pvTb lm sc aX9_deterministicRun := by
  refine pvCaOk_i fun ix n b ci co C h => ?_
  unfold aX9_deterministicRun at h
  split at h
  · cases h; exact pvCe_S (metX9_requireIndex hf) rfl wd_1_1 rfl wd_2_110 wd_2_111 pnX9_requireIndex wd_2_112
  · cases h; exact pvCe_V (k := 1) (T := TX9) (N := 11) (metX9_automaton hf) rfl wd_1_1 rfl wd_2_142 wd_2_144 ps_1_1 pnX9_automaton rfl wd_2_145
  · cases h; exact pvCe_V (k := 2) (T := TX0) (N := 1) (metX0_statesAfterEvents hf) rfl wd_1_2 rfl wd_2_146 wd_2_147 wd_2_148 pnX0_statesAfterEvents rfl wd_2_149
  · cases h; exact pvCe_V (k := 1) (T := TX9) (N := 11) (metX9_powerset hf) rfl wd_1_1 rfl wd_2_206 wd_2_208 ps_1_4 pnX9_powerset rfl wd_2_209
  · cases h; exact pvCe_V (k := 1) (T := TX3) (N := 7) (metX3_numberOf hf) rfl wd_1_3 rfl wd_3_8 wd_3_9 wd_3_10 pnX3_numberOf rfl wd_3_11
  · cases h
set_option maxRecDepth 100000 in
theorem chX9_deterministicRun : ∀ pc, pvChain cX9_deterministicRun pc (bX9_deterministicRun pc) := by
  intro pc
  unfold bX9_deterministicRun
  split <;> first | exact True.intro | exact pvChain_of (by decide +kernel)
theorem frX9_deterministicRun : ∀ pc, (bX9_deterministicRun pc).all (fun q => pvFrB eX9 q.1) = true := by
  intro pc
  unfold bX9_deterministicRun
  split <;> rfl
theorem metX9_deterministicRun {l : Launch} (hf : l.stackTraces = false) : pvMet l yX9_deterministicRun (Cond.code yX9_deterministicRun cX9_deterministicRun 2 (some .int) :: pvTb) mX9_deterministicRun C_X9_deterministicRun :=
  pvMet_of hf (y := yX9_deterministicRun) plX9 pvTb_g coX9 foX9 pvCl (caX9_deterministicRun hf) pvExOk_0 (fun ix h => by rcases h with h | h <;> cases (show (none : Option Nat) = some _ from h)) ⟨rfl, rfl⟩ chX9_deterministicRun (pvOkM_ex okX9_deterministicRun frX9_deterministicRun)
theorem pnX9_isEmpty : pvPn yX9_isEmpty = some 1 := by decide +kernel
theorem caX9_isEmpty {l : Launch} (hf : l.stackTraces = false) (lm : Nat → Prop) (sc : Nat × (Nat → Int)) : pvCaOk l mX9_isEmpty "EventClockWorkbench" pvTb lm sc aX9_isEmpty := by
  refine pvCaOk_i fun ix n b ci co C h => ?_
  unfold aX9_isEmpty at h
  split at h
  · cases h; exact pvCe_S (metX9_requireIndex hf) rfl wd_1_1 rfl wd_2_110 wd_2_111 pnX9_requireIndex wd_2_112
  · cases h; exact pvCe_V (k := 1) (T := TX9) (N := 11) (metX9_powerset hf) rfl wd_1_1 rfl wd_2_206 wd_2_208 ps_1_4 pnX9_powerset rfl wd_2_209
  · cases h; exact pvCe_V (k := 2) (T := TX5) (N := 5) (metX5_findsAny hf) rfl wd_1_7 rfl wd_4_226 wd_4_227 wd_4_228 pnX5_findsAny rfl wd_4_229
  · cases h
set_option maxRecDepth 100000 in
theorem chX9_isEmpty : ∀ pc, pvChain cX9_isEmpty pc (bX9_isEmpty pc) := by
  intro pc
  unfold bX9_isEmpty
  split <;> first | exact True.intro | exact pvChain_of (by decide +kernel)
theorem frX9_isEmpty : ∀ pc, (bX9_isEmpty pc).all (fun q => pvFrB eX9 q.1) = true := by
  intro pc
  unfold bX9_isEmpty
  split <;> rfl
theorem metX9_isEmpty {l : Launch} (hf : l.stackTraces = false) : pvMet l yX9_isEmpty (Cond.code yX9_isEmpty cX9_isEmpty 2 (some .boolean) :: pvTb) mX9_isEmpty C_X9_isEmpty :=
  pvMet_of hf (y := yX9_isEmpty) plX9 pvTb_g coX9 foX9 pvCl (caX9_isEmpty hf) pvExOk_0 (fun ix h => by rcases h with h | h <;> cases (show (none : Option Nat) = some _ from h)) ⟨rfl, rfl⟩ chX9_isEmpty (pvOkM_ex okX9_isEmpty frX9_isEmpty)
theorem pnX9_requireElement : pvPn yX9_requireElement = some 1 := by decide +kernel
theorem caX9_requireElement {l : Launch} (hf : l.stackTraces = false) (lm : Nat → Prop) (sc : Nat × (Nat → Int)) : pvCaOk l mX9_requireElement "EventClockWorkbench" pvTb lm sc aX9_requireElement := by
  exact fun ix n b ci co C h => nomatch (show (none : Option (Nat × Bool × Nat × Nat × pvC)) = some (n, b, ci, co, C) from h)
set_option maxRecDepth 100000 in
theorem chX9_requireElement : ∀ pc, pvChain cX9_requireElement pc (bX9_requireElement pc) := by
  intro pc
  unfold bX9_requireElement
  split <;> first | exact True.intro | exact pvChain_of (by decide +kernel)
theorem nwX9_requireElement : ∀ pc ix, decode cX9_requireElement pc = .ok (.new ix, 3) → pc = 4 ∧ ix = 315 := by
  intro pc ix h
  by_cases hs : pc < cX9_requireElement.size
  · have hq := List.all_eq_true.mp (show (List.range cX9_requireElement.size).all (fun q => match decode cX9_requireElement q with | .ok (.new j, _) => decide (q = 4 ∧ j = 315) | _ => true) = true from by decide +kernel) pc (List.mem_range.mpr hs)
    rw [h] at hq
    exact of_decide_eq_true hq
  · exact absurd h (dec_oob (by omega))
theorem exX9_requireElement : pvExOk "EventClockWorkbench" cX9_requireElement pvTb eX9 mX9_requireElement := by
  intro ix ic k pc hE hk hd hd4
  obtain ⟨rfl, rfl⟩ := nwX9_requireElement pc ix hd
  rw [show decode cX9_requireElement (4 + 4) = .ok (.invokespecial 317, 3) from by decide +kernel] at hd4
  cases hd4
  cases (show some 3 = some k from hE)
  refine ⟨wd_5_78, wd_1_29, ?_, ?_, ?_, by decide, by decide⟩
  · intro w hw
    rw [show (vx_at0 "EventClockWorkbench" 317 (pvXn 3) ["java/lang/RuntimeException", "java/lang/Exception"]).filter goodWord = ([(Jvm.Cond.initialized "java/lang/Throwable"), (Jvm.Cond.superclass "java/lang/Throwable" "java/lang/Object"), (Jvm.Cond.instanceMethod ({ cls := "java/lang/Throwable", name := "fillInStackTrace", desc := "()Ljava/lang/Throwable;" } : Jvm.MethodName)), (Jvm.Cond.codeSync ({ cls := "java/lang/Throwable", name := "fillInStackTrace", desc := "()Ljava/lang/Throwable;" } : Jvm.MethodName) prog_32_method_18_code (1 : Nat) (Option.some (Jvm.ClassFile.FieldType.object "java/lang/Throwable"))), (Jvm.Cond.instanceMethod ({ cls := "java/lang/Throwable", name := "fillInStackTrace", desc := "(I)Ljava/lang/Throwable;" } : Jvm.MethodName)), (Jvm.Cond.native ({ cls := "java/lang/Throwable", name := "fillInStackTrace", desc := "(I)Ljava/lang/Throwable;" } : Jvm.MethodName)), (Jvm.Cond.instanceMethod ({ cls := "java/lang/Throwable", name := "<init>", desc := "()V" } : Jvm.MethodName)), (Jvm.Cond.code ({ cls := "java/lang/Throwable", name := "<init>", desc := "()V" } : Jvm.MethodName) prog_32_method_1_code (1 : Nat) (Option.none : Option Jvm.ClassFile.FieldType)), (Jvm.Cond.instanceMethod ({ cls := "java/lang/Object", name := "<init>", desc := "()V" } : Jvm.MethodName)), (Jvm.Cond.code ({ cls := "java/lang/Object", name := "<init>", desc := "()V" } : Jvm.MethodName) object_method_1_code (1 : Nat) (Option.none : Option Jvm.ClassFile.FieldType)), (Jvm.Cond.methodLink "java/lang/Throwable" (1 : Nat) ({ cls := "java/lang/Object", name := "<init>", desc := "()V" } : Jvm.MethodName)), (Jvm.Cond.methodLink "java/lang/Throwable" (27 : Nat) ({ cls := "java/lang/Throwable", name := "fillInStackTrace", desc := "()Ljava/lang/Throwable;" } : Jvm.MethodName)), (Jvm.Cond.methodLink "java/lang/Throwable" (202 : Nat) ({ cls := "java/lang/Throwable", name := "fillInStackTrace", desc := "(I)Ljava/lang/Throwable;" } : Jvm.MethodName)), (Jvm.Cond.fieldLink "java/lang/Throwable" (7 : Nat) "java/lang/Throwable" "cause" "Ljava/lang/Throwable;"), (Jvm.Cond.lays "java/lang/Throwable" "java/lang/Throwable" "cause" "Ljava/lang/Throwable;"), (Jvm.Cond.fieldLink "java/lang/Throwable" (17 : Nat) "java/lang/Throwable" "stackTrace" "[Ljava/lang/StackTraceElement;"), (Jvm.Cond.lays "java/lang/Throwable" "java/lang/Throwable" "stackTrace" "[Ljava/lang/StackTraceElement;"), (Jvm.Cond.fieldLink "java/lang/Throwable" (24 : Nat) "java/lang/Throwable" "suppressedExceptions" "Ljava/util/List;"), (Jvm.Cond.lays "java/lang/Throwable" "java/lang/Throwable" "suppressedExceptions" "Ljava/util/List;"), (Jvm.Cond.fieldLink "java/lang/Throwable" (13 : Nat) "java/lang/Throwable" "UNASSIGNED_STACK" "[Ljava/lang/StackTraceElement;"), (Jvm.Cond.fieldLink "java/lang/Throwable" (20 : Nat) "java/lang/Throwable" "SUPPRESSED_SENTINEL" "Ljava/util/List;"), (Jvm.Cond.lays "java/lang/Throwable" "java/lang/Throwable" "detailMessage" "Ljava/lang/String;"), (Jvm.Cond.instanceMethod ({ cls := "java/util/NoSuchElementException", name := "<init>", desc := "()V" } : Jvm.MethodName)), (Jvm.Cond.code ({ cls := "java/util/NoSuchElementException", name := "<init>", desc := "()V" } : Jvm.MethodName) prog_36_method_1_code (1 : Nat) (Option.none : Option Jvm.ClassFile.FieldType)), (Jvm.Cond.methodLink "java/util/NoSuchElementException" (1 : Nat) ({ cls := "java/lang/RuntimeException", name := "<init>", desc := "()V" } : Jvm.MethodName)), (Jvm.Cond.instanceMethod ({ cls := "java/lang/RuntimeException", name := "<init>", desc := "()V" } : Jvm.MethodName)), (Jvm.Cond.instanceMethod ({ cls := "java/lang/RuntimeException", name := "<init>", desc := "()V" } : Jvm.MethodName)), (Jvm.Cond.code ({ cls := "java/lang/RuntimeException", name := "<init>", desc := "()V" } : Jvm.MethodName) prog_26_method_1_code (1 : Nat) (Option.none : Option Jvm.ClassFile.FieldType)), (Jvm.Cond.methodLink "java/lang/RuntimeException" (1 : Nat) ({ cls := "java/lang/Exception", name := "<init>", desc := "()V" } : Jvm.MethodName)), (Jvm.Cond.instanceMethod ({ cls := "java/lang/Exception", name := "<init>", desc := "()V" } : Jvm.MethodName)), (Jvm.Cond.instanceMethod ({ cls := "java/lang/Exception", name := "<init>", desc := "()V" } : Jvm.MethodName)), (Jvm.Cond.code ({ cls := "java/lang/Exception", name := "<init>", desc := "()V" } : Jvm.MethodName) prog_19_method_1_code (1 : Nat) (Option.none : Option Jvm.ClassFile.FieldType)), (Jvm.Cond.methodLink "java/lang/Exception" (1 : Nat) ({ cls := "java/lang/Throwable", name := "<init>", desc := "()V" } : Jvm.MethodName)), (Jvm.Cond.instanceMethod ({ cls := "java/lang/Throwable", name := "<init>", desc := "()V" } : Jvm.MethodName)), (Jvm.Cond.methodLink "EventClockWorkbench" (317 : Nat) ({ cls := "java/util/NoSuchElementException", name := "<init>", desc := "()V" } : Jvm.MethodName)), (Jvm.Cond.instantiable "java/util/NoSuchElementException" (6 : Nat)), (Jvm.Cond.selects "java/util/NoSuchElementException" ({ cls := "java/lang/Throwable", name := "fillInStackTrace", desc := "(I)Ljava/lang/Throwable;" } : Jvm.MethodName) ({ cls := "java/lang/Throwable", name := "fillInStackTrace", desc := "(I)Ljava/lang/Throwable;" } : Jvm.MethodName)), (Jvm.Cond.selects "java/util/NoSuchElementException" ({ cls := "java/lang/Throwable", name := "fillInStackTrace", desc := "()Ljava/lang/Throwable;" } : Jvm.MethodName) ({ cls := "java/lang/Throwable", name := "fillInStackTrace", desc := "()Ljava/lang/Throwable;" } : Jvm.MethodName)), (Jvm.Cond.lays "java/util/NoSuchElementException" "java/lang/Throwable" "cause" "Ljava/lang/Throwable;"), (Jvm.Cond.lays "java/util/NoSuchElementException" "java/lang/Throwable" "stackTrace" "[Ljava/lang/StackTraceElement;"), (Jvm.Cond.lays "java/util/NoSuchElementException" "java/lang/Throwable" "suppressedExceptions" "Ljava/util/List;"), (Jvm.Cond.lays "java/util/NoSuchElementException" "java/lang/Throwable" "detailMessage" "Ljava/lang/String;"), (Jvm.Cond.fieldLink "java/lang/Throwable" (198 : Nat) "java/lang/Throwable" "backtrace" "Ljava/lang/Object;"), (Jvm.Cond.lays "java/lang/Throwable" "java/lang/Throwable" "backtrace" "Ljava/lang/Object;"), (Jvm.Cond.lays "java/util/NoSuchElementException" "java/lang/Throwable" "backtrace" "Ljava/lang/Object;")] : List Jvm.Cond) from by decide +kernel] at hw
    exact (List.forall_mem_cons.mpr ⟨wd_1_10, List.forall_mem_cons.mpr ⟨wd_2_30, List.forall_mem_cons.mpr ⟨wd_2_39, List.forall_mem_cons.mpr ⟨wd_2_44, List.forall_mem_cons.mpr ⟨wd_2_47, List.forall_mem_cons.mpr ⟨wd_2_49, List.forall_mem_cons.mpr ⟨wd_2_31, List.forall_mem_cons.mpr ⟨wd_2_32, List.forall_mem_cons.mpr ⟨wd_1_36, List.forall_mem_cons.mpr ⟨wd_1_37, List.forall_mem_cons.mpr ⟨wd_2_33, List.forall_mem_cons.mpr ⟨wd_2_38, List.forall_mem_cons.mpr ⟨wd_2_45, List.forall_mem_cons.mpr ⟨wd_2_61, List.forall_mem_cons.mpr ⟨wd_2_20, List.forall_mem_cons.mpr ⟨wd_2_62, List.forall_mem_cons.mpr ⟨wd_2_22, List.forall_mem_cons.mpr ⟨wd_2_63, List.forall_mem_cons.mpr ⟨wd_2_24, List.forall_mem_cons.mpr ⟨wd_2_34, List.forall_mem_cons.mpr ⟨wd_2_36, List.forall_mem_cons.mpr ⟨wd_2_26, List.forall_mem_cons.mpr ⟨wd_5_88, List.forall_mem_cons.mpr ⟨wd_5_89, List.forall_mem_cons.mpr ⟨wd_5_90, List.forall_mem_cons.mpr ⟨wd_2_54, List.forall_mem_cons.mpr ⟨wd_2_54, List.forall_mem_cons.mpr ⟨wd_2_55, List.forall_mem_cons.mpr ⟨wd_2_56, List.forall_mem_cons.mpr ⟨wd_2_57, List.forall_mem_cons.mpr ⟨wd_2_57, List.forall_mem_cons.mpr ⟨wd_2_58, List.forall_mem_cons.mpr ⟨wd_2_59, List.forall_mem_cons.mpr ⟨wd_2_31, List.forall_mem_cons.mpr ⟨wd_5_87, List.forall_mem_cons.mpr ⟨wd_5_79, List.forall_mem_cons.mpr ⟨wd_5_81, List.forall_mem_cons.mpr ⟨wd_2_43, List.forall_mem_cons.mpr ⟨wd_5_82, List.forall_mem_cons.mpr ⟨wd_5_83, List.forall_mem_cons.mpr ⟨wd_5_84, List.forall_mem_cons.mpr ⟨wd_5_85, List.forall_mem_cons.mpr ⟨wd_2_29, List.forall_mem_cons.mpr ⟨wd_2_28, List.forall_mem_cons.mpr ⟨wd_5_86, fun _ h => absurd h List.not_mem_nil⟩⟩⟩⟩⟩⟩⟩⟩⟩⟩⟩⟩⟩⟩⟩⟩⟩⟩⟩⟩⟩⟩⟩⟩⟩⟩⟩⟩⟩⟩⟩⟩⟩⟩⟩⟩⟩⟩⟩⟩⟩⟩⟩⟩⟩) w hw
  · decide +kernel
  · decide +kernel
theorem metX9_requireElement {l : Launch} (hf : l.stackTraces = false) : pvMet l yX9_requireElement (Cond.code yX9_requireElement cX9_requireElement 1 none :: pvTb) mX9_requireElement C_X9_requireElement :=
  pvMet_of hf (y := yX9_requireElement) plX9 pvTb_g coX9 foX9 pvCl (caX9_requireElement hf) (exX9_requireElement) (fun ix h => by rcases h with h | h <;> (unfold eX9 at h; split at h <;> cases h)) ⟨rfl, rfl⟩ chX9_requireElement okX9_requireElement
theorem pnX9_takeWitness : pvPn yX9_takeWitness = some 1 := by decide +kernel
theorem caX9_takeWitness {l : Launch} (hf : l.stackTraces = false) (lm : Nat → Prop) (sc : Nat × (Nat → Int)) : pvCaOk l mX9_takeWitness "EventClockWorkbench" pvTb lm sc aX9_takeWitness := by
  refine pvCaOk_i fun ix n b ci co C h => ?_
  unfold aX9_takeWitness at h
  split at h
  · cases h; exact pvCe_S (metX9_requireIndex hf) rfl wd_1_1 rfl wd_2_110 wd_2_111 pnX9_requireIndex wd_2_112
  · cases h; exact pvCe_S (metX9_requireElement hf) rfl wd_1_1 rfl wd_5_75 wd_5_76 pnX9_requireElement wd_5_77
  · cases h; exact pvCe_V (k := 1) (T := TX9) (N := 11) (metX9_powerset hf) rfl wd_1_1 rfl wd_2_206 wd_2_208 ps_1_4 pnX9_powerset rfl wd_2_209
  · cases h; exact pvCe_V (k := 3) (T := TX5) (N := 5) (metX5_takeFirst hf) rfl wd_1_7 rfl wd_5_41 wd_5_42 wd_5_43 pnX5_takeFirst rfl wd_5_44
  · cases h
set_option maxRecDepth 100000 in
theorem chX9_takeWitness : ∀ pc, pvChain cX9_takeWitness pc (bX9_takeWitness pc) := by
  intro pc
  unfold bX9_takeWitness
  split <;> first | exact True.intro | exact pvChain_of (by decide +kernel)
theorem frX9_takeWitness : ∀ pc, (bX9_takeWitness pc).all (fun q => pvFrB eX9 q.1) = true := by
  intro pc
  unfold bX9_takeWitness
  split <;> rfl
theorem metX9_takeWitness {l : Launch} (hf : l.stackTraces = false) : pvMet l yX9_takeWitness (Cond.code yX9_takeWitness cX9_takeWitness 2 (some .int) :: pvTb) mX9_takeWitness C_X9_takeWitness :=
  pvMet_of hf (y := yX9_takeWitness) plX9 pvTb_g coX9 foX9 pvCl (caX9_takeWitness hf) pvExOk_0 (fun ix h => by rcases h with h | h <;> cases (show (none : Option Nat) = some _ from h)) ⟨rfl, rfl⟩ chX9_takeWitness (pvOkM_ex okX9_takeWitness frX9_takeWitness)
theorem pnX9_takeDifference : pvPn yX9_takeDifference = some 1 := by decide +kernel
theorem caX9_takeDifference {l : Launch} (hf : l.stackTraces = false) (lm : Nat → Prop) (sc : Nat × (Nat → Int)) : pvCaOk l mX9_takeDifference "EventClockWorkbench" pvTb lm sc aX9_takeDifference := by
  refine pvCaOk_i fun ix n b ci co C h => ?_
  unfold aX9_takeDifference at h
  split at h
  · cases h; exact pvCe_S (metX9_requireIndex hf) rfl wd_1_1 rfl wd_2_110 wd_2_111 pnX9_requireIndex wd_2_112
  · cases h; exact pvCe_S (metX9_requireElement hf) rfl wd_1_1 rfl wd_5_75 wd_5_76 pnX9_requireElement wd_5_77
  · cases h; exact pvCe_V (k := 1) (T := TX9) (N := 11) (metX9_powerset hf) rfl wd_1_1 rfl wd_2_206 wd_2_208 ps_1_4 pnX9_powerset rfl wd_2_209
  · cases h; exact pvCe_V (k := 3) (T := TX5) (N := 5) (metX5_takeFirst hf) rfl wd_1_7 rfl wd_5_41 wd_5_42 wd_5_43 pnX5_takeFirst rfl wd_5_44
  · cases h
set_option maxRecDepth 100000 in
theorem chX9_takeDifference : ∀ pc, pvChain cX9_takeDifference pc (bX9_takeDifference pc) := by
  intro pc
  unfold bX9_takeDifference
  split <;> first | exact True.intro | exact pvChain_of (by decide +kernel)
theorem frX9_takeDifference : ∀ pc, (bX9_takeDifference pc).all (fun q => pvFrB eX9 q.1) = true := by
  intro pc
  unfold bX9_takeDifference
  split <;> rfl
theorem metX9_takeDifference {l : Launch} (hf : l.stackTraces = false) : pvMet l yX9_takeDifference (Cond.code yX9_takeDifference cX9_takeDifference 2 (some .int) :: pvTb) mX9_takeDifference C_X9_takeDifference :=
  pvMet_of hf (y := yX9_takeDifference) plX9 pvTb_g coX9 foX9 pvCl (caX9_takeDifference hf) pvExOk_0 (fun ix h => by rcases h with h | h <;> cases (show (none : Option Nat) = some _ from h)) ⟨rfl, rfl⟩ chX9_takeDifference (pvOkM_ex okX9_takeDifference frX9_takeDifference)
theorem pnX9_isIncluded : pvPn yX9_isIncluded = some 1 := by decide +kernel
theorem caX9_isIncluded {l : Launch} (hf : l.stackTraces = false) (lm : Nat → Prop) (sc : Nat × (Nat → Int)) : pvCaOk l mX9_isIncluded "EventClockWorkbench" pvTb lm sc aX9_isIncluded := by
  refine pvCaOk_i fun ix n b ci co C h => ?_
  unfold aX9_isIncluded at h
  split at h
  · cases h; exact pvCe_S (metX9_requireIndex hf) rfl wd_1_1 rfl wd_2_110 wd_2_111 pnX9_requireIndex wd_2_112
  · cases h; exact pvCe_V (k := 1) (T := TX9) (N := 11) (metX9_powerset hf) rfl wd_1_1 rfl wd_2_206 wd_2_208 ps_1_4 pnX9_powerset rfl wd_2_209
  · cases h; exact pvCe_V (k := 2) (T := TX5) (N := 5) (metX5_findsAny hf) rfl wd_1_7 rfl wd_4_226 wd_4_227 wd_4_228 pnX5_findsAny rfl wd_4_229
  · cases h
set_option maxRecDepth 100000 in
theorem chX9_isIncluded : ∀ pc, pvChain cX9_isIncluded pc (bX9_isIncluded pc) := by
  intro pc
  unfold bX9_isIncluded
  split <;> first | exact True.intro | exact pvChain_of (by decide +kernel)
theorem frX9_isIncluded : ∀ pc, (bX9_isIncluded pc).all (fun q => pvFrB eX9 q.1) = true := by
  intro pc
  unfold bX9_isIncluded
  split <;> rfl
theorem metX9_isIncluded {l : Launch} (hf : l.stackTraces = false) : pvMet l yX9_isIncluded (Cond.code yX9_isIncluded cX9_isIncluded 2 (some .boolean) :: pvTb) mX9_isIncluded C_X9_isIncluded :=
  pvMet_of hf (y := yX9_isIncluded) plX9 pvTb_g coX9 foX9 pvCl (caX9_isIncluded hf) pvExOk_0 (fun ix h => by rcases h with h | h <;> cases (show (none : Option Nat) = some _ from h)) ⟨rfl, rfl⟩ chX9_isIncluded (pvOkM_ex okX9_isIncluded frX9_isIncluded)
theorem pnX9_acceptedWords : pvPn yX9_acceptedWords = some 3 := by decide +kernel
theorem caX9_acceptedWords {l : Launch} (hf : l.stackTraces = false) (lm : Nat → Prop) (sc : Nat × (Nat → Int)) : pvCaOk l mX9_acceptedWords "EventClockWorkbench" pvTb lm sc aX9_acceptedWords := by
  refine pvCaOk_i fun ix n b ci co C h => ?_
  unfold aX9_acceptedWords at h
  split at h
  · cases h; exact pvCe_S (metX9_isBetween hf) rfl wd_1_1 rfl wd_2_2 wd_2_3 pnX9_isBetween wd_2_4
  · cases h; exact pvCe_S (metX9_requireArgument hf) rfl wd_1_1 rfl wd_2_5 wd_2_6 pnX9_requireArgument wd_2_7
  · cases h; exact pvCe_S (metX9_requireIndex hf) rfl wd_1_1 rfl wd_2_110 wd_2_111 pnX9_requireIndex wd_2_112
  · cases h; exact pvCe_V (k := 1) (T := TX9) (N := 11) (metX9_powerset hf) rfl wd_1_1 rfl wd_2_206 wd_2_208 ps_1_4 pnX9_powerset rfl wd_2_209
  · cases h; exact pvCe_V (k := 3) (T := TX8) (N := 2) (metX8_count hf) rfl wd_1_8 rfl wd_3_16 wd_3_17 wd_3_18 pnX8_count rfl wd_3_19
  · cases h
set_option maxRecDepth 100000 in
theorem chX9_acceptedWords : ∀ pc, pvChain cX9_acceptedWords pc (bX9_acceptedWords pc) := by
  intro pc
  unfold bX9_acceptedWords
  split <;> first | exact True.intro | exact pvChain_of (by decide +kernel)
theorem frX9_acceptedWords : ∀ pc, (bX9_acceptedWords pc).all (fun q => pvFrB eX9 q.1) = true := by
  intro pc
  unfold bX9_acceptedWords
  split <;> rfl
theorem metX9_acceptedWords {l : Launch} (hf : l.stackTraces = false) : pvMet l yX9_acceptedWords (Cond.code yX9_acceptedWords cX9_acceptedWords 4 (some .long) :: pvTb) mX9_acceptedWords C_X9_acceptedWords :=
  pvMet_of hf (y := yX9_acceptedWords) plX9 pvTb_g coX9 foX9 pvCl (caX9_acceptedWords hf) pvExOk_0 (fun ix h => by rcases h with h | h <;> cases (show (none : Option Nat) = some _ from h)) ⟨rfl, rfl⟩ chX9_acceptedWords (pvOkM_ex okX9_acceptedWords frX9_acceptedWords)
theorem pnX9_acceptedShare : pvPn yX9_acceptedShare = some 2 := by decide +kernel
theorem caX9_acceptedShare {l : Launch} (hf : l.stackTraces = false) (lm : Nat → Prop) (sc : Nat × (Nat → Int)) : pvCaOk l mX9_acceptedShare "EventClockWorkbench" pvTb lm sc aX9_acceptedShare := by
  refine pvCaOk_i fun ix n b ci co C h => ?_
  unfold aX9_acceptedShare at h
  split at h
  · cases h; exact pvCe_S (metX9_isBetween hf) rfl wd_1_1 rfl wd_2_2 wd_2_3 pnX9_isBetween wd_2_4
  · cases h; exact pvCe_S (metX9_requireArgument hf) rfl wd_1_1 rfl wd_2_5 wd_2_6 pnX9_requireArgument wd_2_7
  · cases h; exact pvCe_S (metX9_requireIndex hf) rfl wd_1_1 rfl wd_2_110 wd_2_111 pnX9_requireIndex wd_2_112
  · cases h; exact pvCe_V (k := 1) (T := TX9) (N := 11) (metX9_powerset hf) rfl wd_1_1 rfl wd_2_206 wd_2_208 ps_1_4 pnX9_powerset rfl wd_2_209
  · cases h; exact pvCe_V (k := 3) (T := TX8) (N := 2) (metX8_count hf) rfl wd_1_8 rfl wd_3_16 wd_3_17 wd_3_18 pnX8_count rfl wd_3_19
  · cases h; exact pvCe_S (metX8_countAll hf) rfl wd_1_8 rfl wd_3_42 wd_3_43 pnX8_countAll wd_3_44
  · cases h
set_option maxRecDepth 100000 in
theorem chX9_acceptedShare : ∀ pc, pvChain cX9_acceptedShare pc (bX9_acceptedShare pc) := by
  intro pc
  unfold bX9_acceptedShare
  split <;> first | exact True.intro | exact pvChain_of (by decide +kernel)
theorem frX9_acceptedShare : ∀ pc, (bX9_acceptedShare pc).all (fun q => pvFrB eX9 q.1) = true := by
  intro pc
  unfold bX9_acceptedShare
  split <;> rfl
theorem metX9_acceptedShare {l : Launch} (hf : l.stackTraces = false) : pvMet l yX9_acceptedShare (Cond.code yX9_acceptedShare cX9_acceptedShare 5 (some .double) :: pvTb) mX9_acceptedShare C_X9_acceptedShare :=
  pvMet_of hf (y := yX9_acceptedShare) plX9 pvTb_g coX9 foX9 pvCl (caX9_acceptedShare hf) pvExOk_0 (fun ix h => by rcases h with h | h <;> cases (show (none : Option Nat) = some _ from h)) ⟨rfl, rfl⟩ chX9_acceptedShare (pvOkM_ex okX9_acceptedShare frX9_acceptedShare)
theorem pnJ9_max_7cf53 : pvPn yJ9_max_7cf53 = some 2 := by decide +kernel
theorem caJ9_max_7cf53 {l : Launch} (hf : l.stackTraces = false) (lm : Nat → Prop) (sc : Nat × (Nat → Int)) : pvCaOk l mJ9_max_7cf53 "java/lang/Math" pvTb lm sc aJ9_max_7cf53 := by
  exact fun ix n b ci co C h => nomatch (show (none : Option (Nat × Bool × Nat × Nat × pvC)) = some (n, b, ci, co, C) from h)
set_option maxRecDepth 100000 in
theorem chJ9_max_7cf53 : ∀ pc, pvChain cJ9_max_7cf53 pc (bJ9_max_7cf53 pc) := by
  intro pc
  unfold bJ9_max_7cf53
  split <;> first | exact True.intro | exact pvChain_of (by decide +kernel)
theorem frJ9_max_7cf53 : ∀ pc, (bJ9_max_7cf53 pc).all (fun q => pvFrB eJ9 q.1) = true := by
  intro pc
  unfold bJ9_max_7cf53
  split <;> rfl
theorem metJ9_max_7cf53 {l : Launch} (hf : l.stackTraces = false) : pvMet l yJ9_max_7cf53 (Cond.code yJ9_max_7cf53 cJ9_max_7cf53 2 (some .int) :: pvTb) mJ9_max_7cf53 C_J9_max_7cf53 :=
  pvMet_ofF hf (y := yJ9_max_7cf53) (by decide +kernel) pvTb_g coJ9 foJ9 pvCl (caJ9_max_7cf53 hf) pvExOk_0 (fun ix h => by rcases h with h | h <;> cases (show (none : Option Nat) = some _ from h)) ⟨rfl, rfl⟩ chJ9_max_7cf53 (pvOkM_ex okJ9_max_7cf53 frJ9_max_7cf53)
theorem pnX9_averageBranches : pvPn yX9_averageBranches = some 1 := by decide +kernel
theorem caX9_averageBranches {l : Launch} (hf : l.stackTraces = false) (lm : Nat → Prop) (sc : Nat × (Nat → Int)) : pvCaOk l mX9_averageBranches "EventClockWorkbench" pvTb lm sc aX9_averageBranches := by
  refine pvCaOk_i fun ix n b ci co C h => ?_
  unfold aX9_averageBranches at h
  split at h
  · cases h; exact pvCe_S (metX9_requireIndex hf) rfl wd_1_1 rfl wd_2_110 wd_2_111 pnX9_requireIndex wd_2_112
  · cases h; exact pvCe_V (k := 1) (T := TX9) (N := 11) (metX9_powerset hf) rfl wd_1_1 rfl wd_2_206 wd_2_208 ps_1_4 pnX9_powerset rfl wd_2_209
  · cases h; exact pvCe_S (metJ9_max_7cf53 hf) rfl wd_1_15 rfl wd_5_162 wd_3_112 pnJ9_max_7cf53 wd_3_113
  · cases h; exact pvCe_V (k := 0) (T := TX3) (N := 7) (metX3_countAllBranches hf) rfl wd_1_3 rfl wd_5_163 wd_5_164 wd_5_165 pnX3_countAllBranches rfl wd_5_166
  · cases h
set_option maxRecDepth 100000 in
theorem chX9_averageBranches : ∀ pc, pvChain cX9_averageBranches pc (bX9_averageBranches pc) := by
  intro pc
  unfold bX9_averageBranches
  split <;> first | exact True.intro | exact pvChain_of (by decide +kernel)
theorem frX9_averageBranches : ∀ pc, (bX9_averageBranches pc).all (fun q => pvFrB eX9 q.1) = true := by
  intro pc
  unfold bX9_averageBranches
  split <;> rfl
theorem metX9_averageBranches {l : Launch} (hf : l.stackTraces = false) : pvMet l yX9_averageBranches (Cond.code yX9_averageBranches cX9_averageBranches 4 (some .float) :: pvTb) mX9_averageBranches C_X9_averageBranches :=
  pvMet_of hf (y := yX9_averageBranches) plX9 pvTb_g coX9 foX9 pvCl (caX9_averageBranches hf) pvExOk_0 (fun ix h => by rcases h with h | h <;> cases (show (none : Option Nat) = some _ from h)) ⟨rfl, rfl⟩ chX9_averageBranches (pvOkM_ex okX9_averageBranches frX9_averageBranches)
theorem pnL_cell : pvPn yL_cell = some 2 := by decide +kernel
theorem caL_cell {l : Launch} (hf : l.stackTraces = false) (lm : Nat → Prop) (sc : Nat × (Nat → Int)) : pvCaOk l mL_cell "EventClockWorkbenchLaw" pvTb lm sc (aL_cell lm sc) := by
  exact fun ix n b ci co C h => nomatch (show (none : Option (Nat × Bool × Nat × Nat × pvC)) = some (n, b, ci, co, C) from h)
set_option maxRecDepth 100000 in
theorem chL_cell : ∀ pc, pvChain cL_cell pc (bL_cell pc) := by
  intro pc
  unfold bL_cell
  split <;> first | exact True.intro | exact pvChain_of (by decide +kernel)
theorem metWL_cell {l : Launch} (hf : l.stackTraces = false) : pvMetW l yL_cell (Cond.code yL_cell cL_cell 2 (some .int) :: pvTb) mL_cell 0 C_L_cell :=
  pvMetW_of (y := yL_cell) plL pvTb_g coL foL pvCl (caL_cell hf) ⟨rfl, rfl⟩ chL_cell okL_cell
theorem pnL_draw : pvPn yL_draw = some 3 := by decide +kernel
theorem caL_draw {l : Launch} (hf : l.stackTraces = false) (lm : Nat → Prop) (sc : Nat × (Nat → Int)) : pvCaOk l mL_draw "EventClockWorkbenchLaw" pvTb lm sc (aL_draw lm sc) := by
  refine pvCaOk_i fun ix n b ci co C h => ?_
  unfold aL_draw at h
  split at h
  · cases h; exact pvCe_L (metWL_cell hf) rfl wd_1_0 rfl wd_3_49 wd_3_50 pnL_cell wd_3_51
  · cases h
set_option maxRecDepth 100000 in
theorem chL_draw : ∀ pc, pvChain cL_draw pc (bL_draw pc) := by
  intro pc
  unfold bL_draw
  split <;> first | exact True.intro | exact pvChain_of (by decide +kernel)
theorem metWL_draw {l : Launch} (hf : l.stackTraces = false) : pvMetW l yL_draw (Cond.code yL_draw cL_draw 3 (some .int) :: pvTb) mL_draw 0 C_L_draw :=
  pvMetW_of (y := yL_draw) plL pvTb_g coL foL pvCl (caL_draw hf) ⟨rfl, rfl⟩ chL_draw okL_draw
theorem pnL_holds : pvPn yL_holds = some 3 := by decide +kernel
theorem caL_holds {l : Launch} (hf : l.stackTraces = false) (lm : Nat → Prop) (sc : Nat × (Nat → Int)) : pvCaOk l mL_holds "EventClockWorkbenchLaw" pvTb lm sc (aL_holds lm sc) := by
  exact fun ix n b ci co C h => nomatch (show (none : Option (Nat × Bool × Nat × Nat × pvC)) = some (n, b, ci, co, C) from h)
set_option maxRecDepth 100000 in
theorem chL_holds : ∀ pc, pvChain cL_holds pc (bL_holds pc) := by
  intro pc
  unfold bL_holds
  split <;> first | exact True.intro | exact pvChain_of (by decide +kernel)
theorem metWL_holds {l : Launch} (hf : l.stackTraces = false) : pvMetW l yL_holds (Cond.code yL_holds cL_holds 3 (some .boolean) :: pvTb) mL_holds 0 C_L_holds :=
  pvMetW_of (y := yL_holds) plL pvTb_g coL foL pvCl (caL_holds hf) ⟨rfl, rfl⟩ chL_holds okL_holds
theorem pnL_value : pvPn yL_value = some 4 := by decide +kernel
theorem caL_value {l : Launch} (hf : l.stackTraces = false) (lm : Nat → Prop) (sc : Nat × (Nat → Int)) : pvCaOk l mL_value "EventClockWorkbenchLaw" pvTb lm sc (aL_value lm sc) := by
  refine pvCaOk_i fun ix n b ci co C h => ?_
  unfold aL_value at h
  split at h
  · cases h; exact pvCe_S (metJ9_min_7cf53 hf) rfl wd_1_15 rfl wd_4_185 wd_3_130 pnJ9_min_7cf53 wd_3_131
  · cases h
set_option maxRecDepth 100000 in
theorem chL_value : ∀ pc, pvChain cL_value pc (bL_value pc) := by
  intro pc
  unfold bL_value
  split <;> first | exact True.intro | exact pvChain_of (by decide +kernel)
theorem metWL_value {l : Launch} (hf : l.stackTraces = false) : pvMetW l yL_value (Cond.code yL_value cL_value 6 (some .int) :: pvTb) mL_value 0 C_L_value :=
  pvMetW_of (y := yL_value) plL pvTb_g coL foL pvCl (caL_value hf) ⟨rfl, rfl⟩ chL_value okL_value
theorem pnL_goes : pvPn yL_goes = some 6 := by decide +kernel
theorem caL_goes {l : Launch} (hf : l.stackTraces = false) (lm : Nat → Prop) (sc : Nat × (Nat → Int)) : pvCaOk l mL_goes "EventClockWorkbenchLaw" pvTb lm sc (aL_goes lm sc) := by
  refine pvCaOk_i fun ix n b ci co C h => ?_
  unfold aL_goes at h
  split at h
  · cases h; exact pvCe_L (metWL_value hf) rfl wd_1_0 rfl wd_4_182 wd_4_183 pnL_value wd_4_184
  · cases h; exact pvCe_L (metWL_holds hf) rfl wd_1_0 rfl wd_4_192 wd_4_193 pnL_holds wd_4_194
  · cases h
set_option maxRecDepth 100000 in
theorem chL_goes : ∀ pc, pvChain cL_goes pc (bL_goes pc) := by
  intro pc
  unfold bL_goes
  split <;> first | exact True.intro | exact pvChain_of (by decide +kernel)
theorem metWL_goes {l : Launch} (hf : l.stackTraces = false) : pvMetW l yL_goes (Cond.code yL_goes cL_goes 7 (some .boolean) :: pvTb) mL_goes 0 C_L_goes :=
  pvMetW_of (y := yL_goes) plL pvTb_g coL foL pvCl (caL_goes hf) ⟨rfl, rfl⟩ chL_goes okL_goes
theorem pnL_after : pvPn yL_after = some 5 := by decide +kernel
theorem caL_after {l : Launch} (hf : l.stackTraces = false) (lm : Nat → Prop) (sc : Nat × (Nat → Int)) : pvCaOk l mL_after "EventClockWorkbenchLaw" pvTb lm sc (aL_after lm sc) := by
  refine pvCaOk_i fun ix n b ci co C h => ?_
  unfold aL_after at h
  split at h
  · cases h; exact pvCe_L (metWL_goes hf) rfl wd_1_0 rfl wd_4_189 wd_4_190 pnL_goes wd_4_191
  · cases h
set_option maxRecDepth 100000 in
theorem chL_after : ∀ pc, pvChain cL_after pc (bL_after pc) := by
  intro pc
  unfold bL_after
  split <;> first | exact True.intro | exact pvChain_of (by decide +kernel)
theorem metWL_after {l : Launch} (hf : l.stackTraces = false) : pvMetW l yL_after (Cond.code yL_after cL_after 9 (some .int) :: pvTb) mL_after 0 C_L_after :=
  pvMetW_of (y := yL_after) plL pvTb_g coL foL pvCl (caL_after hf) ⟨rfl, rfl⟩ chL_after okL_after
theorem pnL_marks : pvPn yL_marks = some 4 := by decide +kernel
theorem caL_marks {l : Launch} (hf : l.stackTraces = false) (lm : Nat → Prop) (sc : Nat × (Nat → Int)) : pvCaOk l mL_marks "EventClockWorkbenchLaw" pvTb lm sc (aL_marks lm sc) := by
  refine pvCaOk_i fun ix n b ci co C h => ?_
  unfold aL_marks at h
  split at h
  · cases h; exact pvCe_V (k := 3) (T := TX9) (N := 11) (metX9_setInitial hf) rfl wd_1_1 rfl wd_4_198 wd_4_199 wd_4_200 pnX9_setInitial rfl wd_4_201
  · cases h; exact pvCe_V (k := 3) (T := TX9) (N := 11) (metX9_setFinal hf) rfl wd_1_1 rfl wd_4_211 wd_4_212 wd_4_213 pnX9_setFinal rfl wd_4_214
  · cases h
set_option maxRecDepth 100000 in
theorem chL_marks : ∀ pc, pvChain cL_marks pc (bL_marks pc) := by
  intro pc
  unfold bL_marks
  split <;> first | exact True.intro | exact pvChain_of (by decide +kernel)
theorem metWL_marks {l : Launch} (hf : l.stackTraces = false) : pvMetW l yL_marks (Cond.code yL_marks cL_marks 5 none :: pvTb) mL_marks 0 C_L_marks :=
  pvMetW_of (y := yL_marks) plL pvTb_g coL foL pvCl (caL_marks hf) ⟨rfl, rfl⟩ chL_marks okL_marks
theorem pnL_isOne : pvPn yL_isOne = some 10 := by decide +kernel
theorem caL_isOne {l : Launch} (hf : l.stackTraces = false) (lm : Nat → Prop) (sc : Nat × (Nat → Int)) : pvCaOk l mL_isOne "EventClockWorkbenchLaw" pvTb lm sc (aL_isOne lm sc) := by
  refine pvCaOk_i fun ix n b ci co C h => ?_
  unfold aL_isOne at h
  split at h
  · cases h; exact pvCe_L (metWL_after hf) rfl wd_1_0 rfl wd_4_186 wd_4_187 pnL_after wd_4_188
  · cases h
set_option maxRecDepth 100000 in
theorem chL_isOne : ∀ pc, pvChain cL_isOne pc (bL_isOne pc) := by
  intro pc
  unfold bL_isOne
  split <;> first | exact True.intro | exact pvChain_of (by decide +kernel)
theorem metWL_isOne {l : Launch} (hf : l.stackTraces = false) : pvMetW l yL_isOne (Cond.code yL_isOne cL_isOne 10 (some .boolean) :: pvTb) mL_isOne 0 C_L_isOne :=
  pvMetW_of (y := yL_isOne) plL pvTb_g coL foL pvCl (caL_isOne hf) ⟨rfl, rfl⟩ chL_isOne okL_isOne
theorem pnL_areBranches : pvPn yL_areBranches = some 2 := by decide +kernel
theorem caL_areBranches {l : Launch} (hf : l.stackTraces = false) (lm : Nat → Prop) (sc : Nat × (Nat → Int)) : pvCaOk l mL_areBranches "EventClockWorkbenchLaw" pvTb lm sc (aL_areBranches lm sc) := by
  refine pvCaOk_i fun ix n b ci co C h => ?_
  unfold aL_areBranches at h
  split at h
  · cases h; exact pvCe_V (k := 1) (T := TX9) (N := 11) (metX9_deterministicStates hf) rfl wd_1_1 rfl wd_5_119 wd_5_120 wd_5_121 pnX9_deterministicStates rfl wd_5_122
  · cases h; exact pvCe_V (k := 2) (T := TX9) (N := 11) (metX9_deterministicSet hf) rfl wd_1_1 rfl wd_2_198 wd_2_199 wd_2_200 pnX9_deterministicSet rfl wd_2_201
  · cases h; exact pvCe_V (k := 3) (T := TX9) (N := 11) (metX9_branches hf) rfl wd_1_1 rfl wd_5_123 wd_5_124 wd_5_125 pnX9_branches rfl wd_5_126
  · cases h; exact pvCe_V (k := 4) (T := TX9) (N := 11) (metX9_branchTarget hf) rfl wd_1_1 rfl wd_5_138 wd_5_139 wd_5_140 pnX9_branchTarget rfl wd_5_141
  · cases h; exact pvCe_V (k := 4) (T := TX9) (N := 11) (metX9_branchValuations hf) rfl wd_1_1 rfl wd_5_150 wd_5_151 wd_5_152 pnX9_branchValuations rfl wd_5_153
  · cases h; exact pvCe_V (k := 1) (T := TX9) (N := 11) (metX9_averageBranches hf) rfl wd_1_1 rfl wd_5_158 wd_5_159 wd_5_160 pnX9_averageBranches rfl wd_5_161
  · cases h
set_option maxRecDepth 100000 in
theorem chL_areBranches : ∀ pc, pvChain cL_areBranches pc (bL_areBranches pc) := by
  intro pc
  unfold bL_areBranches
  split <;> first | exact True.intro | exact pvChain_of (by decide +kernel)
theorem metWL_areBranches {l : Launch} (hf : l.stackTraces = false) : pvMetW l yL_areBranches (Cond.code yL_areBranches cL_areBranches 11 (some .boolean) :: pvTb) mL_areBranches 0 C_L_areBranches :=
  pvMetW_of (y := yL_areBranches) plL pvTb_g coL foL pvCl (caL_areBranches hf) ⟨rfl, rfl⟩ chL_areBranches okL_areBranches
