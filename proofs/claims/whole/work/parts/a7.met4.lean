/-! contracts over the machine, 4 -/
theorem pnX9_branches : pvPn yX9_branches = some 3 := by decide +kernel
theorem caX9_branches {l : Launch} (hf : l.stackTraces = false) : pvCaOk l mX9_branches "EventClockWorkbench" pvTb 58 aX9_branches := by
  refine pvCaOk_i fun ix n b ci co C h => ?_
  unfold aX9_branches at h
  split at h
  · cases h; exact pvCe_S (metX9_requireIndex hf) rfl wd_1_1 rfl wd_2_142 wd_2_143 pnX9_requireIndex wd_2_144
  · cases h; exact pvCe_V (k := 1) (T := TX9) (N := 11) (metX9_powerset hf) rfl wd_1_1 rfl wd_4_83 wd_4_85 ps_1_15 pnX9_powerset rfl wd_4_86
  · cases h; exact pvCe_V (k := 2) (T := TX9) (N := 11) (metX9_requireDeterministicState hf) rfl wd_1_1 rfl wd_4_124 wd_4_126 ps_2_4 pnX9_requireDeterministicState rfl wd_4_127
  · cases h; exact pvCe_V (k := 2) (T := TX3) (N := 7) (metX3_countBranches hf) rfl wd_1_3 rfl wd_4_139 wd_4_140 wd_4_141 pnX3_countBranches rfl wd_4_142
  · cases h
set_option maxRecDepth 100000 in
theorem chX9_branches : ∀ pc, pvChain cX9_branches pc (bX9_branches pc) := by
  intro pc
  unfold bX9_branches
  split <;> first | exact True.intro | exact pvChain_of (by decide +kernel)
theorem frX9_branches : ∀ pc, (bX9_branches pc).all (fun q => pvFrB eX9 q.1) = true := by
  intro pc
  unfold bX9_branches
  split <;> rfl
theorem metX9_branches {l : Launch} (hf : l.stackTraces = false) : pvMet l yX9_branches (Cond.code yX9_branches cX9_branches 4 (some .int) :: pvTb) mX9_branches C_X9_branches :=
  pvMet_of hf (y := yX9_branches) plX9 pvTb_g coX9 foX9 pvCl (caX9_branches hf) pvExOk_0 (fun ix h => by rcases h with h | h <;> cases (show (none : Option Nat) = some _ from h)) ⟨rfl, rfl⟩ chX9_branches (pvOkM_ex okX9_branches frX9_branches)
theorem pnX9_requireBranch : pvPn yX9_requireBranch = some 4 := by decide +kernel
theorem caX9_requireBranch {l : Launch} (hf : l.stackTraces = false) : pvCaOk l mX9_requireBranch "EventClockWorkbench" pvTb 58 aX9_requireBranch := by
  refine pvCaOk_i fun ix n b ci co C h => ?_
  unfold aX9_requireBranch at h
  split at h
  · cases h; exact pvCe_S (metX9_requireIndex hf) rfl wd_1_1 rfl wd_2_142 wd_2_143 pnX9_requireIndex wd_2_144
  · cases h; exact pvCe_V (k := 1) (T := TX9) (N := 11) (metX9_powerset hf) rfl wd_1_1 rfl wd_4_83 wd_4_85 ps_1_15 pnX9_powerset rfl wd_4_86
  · cases h; exact pvCe_V (k := 2) (T := TX9) (N := 11) (metX9_requireDeterministicState hf) rfl wd_1_1 rfl wd_4_124 wd_4_126 ps_2_4 pnX9_requireDeterministicState rfl wd_4_127
  · cases h; exact pvCe_V (k := 2) (T := TX3) (N := 7) (metX3_countBranches hf) rfl wd_1_3 rfl wd_4_139 wd_4_140 wd_4_141 pnX3_countBranches rfl wd_4_142
  · cases h
set_option maxRecDepth 100000 in
theorem chX9_requireBranch : ∀ pc, pvChain cX9_requireBranch pc (bX9_requireBranch pc) := by
  intro pc
  unfold bX9_requireBranch
  split <;> first | exact True.intro | exact pvChain_of (by decide +kernel)
theorem frX9_requireBranch : ∀ pc, (bX9_requireBranch pc).all (fun q => pvFrB eX9 q.1) = true := by
  intro pc
  unfold bX9_requireBranch
  split <;> rfl
theorem metX9_requireBranch {l : Launch} (hf : l.stackTraces = false) : pvMet l yX9_requireBranch (Cond.code yX9_requireBranch cX9_requireBranch 5 none :: pvTb) mX9_requireBranch C_X9_requireBranch :=
  pvMet_of hf (y := yX9_requireBranch) plX9 pvTb_g coX9 foX9 pvCl (caX9_requireBranch hf) pvExOk_0 (fun ix h => by rcases h with h | h <;> cases (show (none : Option Nat) = some _ from h)) ⟨rfl, rfl⟩ chX9_requireBranch (pvOkM_ex okX9_requireBranch frX9_requireBranch)
theorem pnX9_branchTarget : pvPn yX9_branchTarget = some 4 := by decide +kernel
theorem caX9_branchTarget {l : Launch} (hf : l.stackTraces = false) : pvCaOk l mX9_branchTarget "EventClockWorkbench" pvTb 58 aX9_branchTarget := by
  refine pvCaOk_i fun ix n b ci co C h => ?_
  unfold aX9_branchTarget at h
  split at h
  · cases h; exact pvCe_V (k := 1) (T := TX9) (N := 11) (metX9_powerset hf) rfl wd_1_1 rfl wd_4_83 wd_4_85 ps_1_15 pnX9_powerset rfl wd_4_86
  · cases h; exact pvCe_V (k := 4) (T := TX9) (N := 11) (metX9_requireBranch hf) rfl wd_1_1 rfl wd_4_152 wd_4_154 ps_2_5 pnX9_requireBranch rfl wd_4_155
  · cases h; exact pvCe_V (k := 3) (T := TX3) (N := 7) (metX3_branchSet hf) rfl wd_1_3 rfl wd_4_156 wd_4_157 wd_4_158 pnX3_branchSet rfl wd_4_159
  · cases h; exact pvCe_V (k := 1) (T := TX3) (N := 7) (metX3_numberOf hf) rfl wd_1_3 rfl wd_4_160 wd_4_161 wd_4_162 pnX3_numberOf rfl wd_4_163
  · cases h
set_option maxRecDepth 100000 in
theorem chX9_branchTarget : ∀ pc, pvChain cX9_branchTarget pc (bX9_branchTarget pc) := by
  intro pc
  unfold bX9_branchTarget
  split <;> first | exact True.intro | exact pvChain_of (by decide +kernel)
theorem frX9_branchTarget : ∀ pc, (bX9_branchTarget pc).all (fun q => pvFrB eX9 q.1) = true := by
  intro pc
  unfold bX9_branchTarget
  split <;> rfl
theorem metX9_branchTarget {l : Launch} (hf : l.stackTraces = false) : pvMet l yX9_branchTarget (Cond.code yX9_branchTarget cX9_branchTarget 6 (some .int) :: pvTb) mX9_branchTarget C_X9_branchTarget :=
  pvMet_of hf (y := yX9_branchTarget) plX9 pvTb_g coX9 foX9 pvCl (caX9_branchTarget hf) pvExOk_0 (fun ix h => by rcases h with h | h <;> cases (show (none : Option Nat) = some _ from h)) ⟨rfl, rfl⟩ chX9_branchTarget (pvOkM_ex okX9_branchTarget frX9_branchTarget)
theorem pnX9_branchValuations : pvPn yX9_branchValuations = some 4 := by decide +kernel
theorem caX9_branchValuations {l : Launch} (hf : l.stackTraces = false) : pvCaOk l mX9_branchValuations "EventClockWorkbench" pvTb 58 aX9_branchValuations := by
  refine pvCaOk_i fun ix n b ci co C h => ?_
  unfold aX9_branchValuations at h
  split at h
  · cases h; exact pvCe_V (k := 1) (T := TX9) (N := 11) (metX9_powerset hf) rfl wd_1_1 rfl wd_4_83 wd_4_85 ps_1_15 pnX9_powerset rfl wd_4_86
  · cases h; exact pvCe_V (k := 4) (T := TX9) (N := 11) (metX9_requireBranch hf) rfl wd_1_1 rfl wd_4_152 wd_4_154 ps_2_5 pnX9_requireBranch rfl wd_4_155
  · cases h; exact pvCe_V (k := 3) (T := TX3) (N := 7) (metX3_branchSet hf) rfl wd_1_3 rfl wd_4_156 wd_4_157 wd_4_158 pnX3_branchSet rfl wd_4_159
  · cases h; exact pvCe_V (k := 3) (T := TX3) (N := 7) (metX3_countValuations hf) rfl wd_1_3 rfl wd_4_171 wd_4_172 wd_4_173 pnX3_countValuations rfl wd_4_174
  · cases h
set_option maxRecDepth 100000 in
theorem chX9_branchValuations : ∀ pc, pvChain cX9_branchValuations pc (bX9_branchValuations pc) := by
  intro pc
  unfold bX9_branchValuations
  split <;> first | exact True.intro | exact pvChain_of (by decide +kernel)
theorem frX9_branchValuations : ∀ pc, (bX9_branchValuations pc).all (fun q => pvFrB eX9 q.1) = true := by
  intro pc
  unfold bX9_branchValuations
  split <;> rfl
theorem metX9_branchValuations {l : Launch} (hf : l.stackTraces = false) : pvMet l yX9_branchValuations (Cond.code yX9_branchValuations cX9_branchValuations 6 (some .int) :: pvTb) mX9_branchValuations C_X9_branchValuations :=
  pvMet_of hf (y := yX9_branchValuations) plX9 pvTb_g coX9 foX9 pvCl (caX9_branchValuations hf) pvExOk_0 (fun ix h => by rcases h with h | h <;> cases (show (none : Option Nat) = some _ from h)) ⟨rfl, rfl⟩ chX9_branchValuations (pvOkM_ex okX9_branchValuations frX9_branchValuations)
theorem pnX9_deterministicRun : pvPn yX9_deterministicRun = some 1 := by decide +kernel
theorem caX9_deterministicRun {l : Launch} (hf : l.stackTraces = false) : pvCaOk l mX9_deterministicRun "EventClockWorkbench" pvTb 58 aX9_deterministicRun := by
  refine pvCaOk_i fun ix n b ci co C h => ?_
  unfold aX9_deterministicRun at h
  split at h
  · cases h; exact pvCe_S (metX9_requireIndex hf) rfl wd_1_1 rfl wd_2_142 wd_2_143 pnX9_requireIndex wd_2_144
  · cases h; exact pvCe_V (k := 1) (T := TX9) (N := 11) (metX9_automaton hf) rfl wd_1_1 rfl wd_2_184 wd_2_186 ps_1_5 pnX9_automaton rfl wd_2_187
  · cases h; exact pvCe_V (k := 2) (T := TX0) (N := 1) (metX0_statesAfterEvents hf) rfl wd_1_2 rfl wd_3_180 wd_3_181 wd_3_182 pnX0_statesAfterEvents rfl wd_3_183
  · cases h; exact pvCe_V (k := 1) (T := TX9) (N := 11) (metX9_powerset hf) rfl wd_1_1 rfl wd_4_83 wd_4_85 ps_1_15 pnX9_powerset rfl wd_4_86
  · cases h; exact pvCe_V (k := 1) (T := TX3) (N := 7) (metX3_numberOf hf) rfl wd_1_3 rfl wd_4_160 wd_4_161 wd_4_162 pnX3_numberOf rfl wd_4_163
  · cases h
set_option maxRecDepth 100000 in
theorem chX9_deterministicRun : ∀ pc, pvChain cX9_deterministicRun pc (bX9_deterministicRun pc) := by
  intro pc
  unfold bX9_deterministicRun
  split <;> first | exact True.intro | exact pvChain_of (by decide +kernel)
theorem frX9_deterministicRun : ∀ pc, (bX9_deterministicRun pc).all (fun q => pvFrB eX9 q.1) = true := by
  intro pc
  unfold bX9_deterministicRun
  split <;> rfl
theorem metX9_deterministicRun {l : Launch} (hf : l.stackTraces = false) : pvMet l yX9_deterministicRun (Cond.code yX9_deterministicRun cX9_deterministicRun 2 (some .int) :: pvTb) mX9_deterministicRun C_X9_deterministicRun :=
  pvMet_of hf (y := yX9_deterministicRun) plX9 pvTb_g coX9 foX9 pvCl (caX9_deterministicRun hf) pvExOk_0 (fun ix h => by rcases h with h | h <;> cases (show (none : Option Nat) = some _ from h)) ⟨rfl, rfl⟩ chX9_deterministicRun (pvOkM_ex okX9_deterministicRun frX9_deterministicRun)
theorem pnX9_isDeterministic : pvPn yX9_isDeterministic = some 1 := by decide +kernel
theorem caX9_isDeterministic {l : Launch} (hf : l.stackTraces = false) : pvCaOk l mX9_isDeterministic "EventClockWorkbench" pvTb 58 aX9_isDeterministic := by
  refine pvCaOk_i fun ix n b ci co C h => ?_
  unfold aX9_isDeterministic at h
  split at h
  · cases h; exact pvCe_S (metX9_requireIndex hf) rfl wd_1_1 rfl wd_2_142 wd_2_143 pnX9_requireIndex wd_2_144
  · cases h; exact pvCe_V (k := 1) (T := TX9) (N := 11) (metX9_automaton hf) rfl wd_1_1 rfl wd_2_184 wd_2_186 ps_1_5 pnX9_automaton rfl wd_2_187
  · cases h; exact pvCe_V (k := 0) (T := TX0) (N := 1) (metX0_initialStates hf) rfl wd_1_2 rfl wd_3_22 wd_3_23 wd_3_24 pnX0_initialStates rfl wd_3_25
  · cases h; exact pvCe_S (metJ6_bitCount_0f7a4 hf) rfl wd_1_20 rfl wd_4_189 wd_3_115 pnJ6_bitCount_0f7a4 wd_3_116
  · cases h; exact pvCe_V (k := 0) (T := TX0) (N := 1) (metX0_hasConflict hf) rfl wd_1_2 rfl wd_4_190 wd_4_191 wd_4_192 pnX0_hasConflict rfl wd_4_193
  · cases h
set_option maxRecDepth 100000 in
theorem chX9_isDeterministic : ∀ pc, pvChain cX9_isDeterministic pc (bX9_isDeterministic pc) := by
  intro pc
  unfold bX9_isDeterministic
  split <;> first | exact True.intro | exact pvChain_of (by decide +kernel)
theorem frX9_isDeterministic : ∀ pc, (bX9_isDeterministic pc).all (fun q => pvFrB eX9 q.1) = true := by
  intro pc
  unfold bX9_isDeterministic
  split <;> rfl
theorem metX9_isDeterministic {l : Launch} (hf : l.stackTraces = false) : pvMet l yX9_isDeterministic (Cond.code yX9_isDeterministic cX9_isDeterministic 3 (some .boolean) :: pvTb) mX9_isDeterministic C_X9_isDeterministic :=
  pvMet_of hf (y := yX9_isDeterministic) plX9 pvTb_g coX9 foX9 pvCl (caX9_isDeterministic hf) pvExOk_0 (fun ix h => by rcases h with h | h <;> cases (show (none : Option Nat) = some _ from h)) ⟨rfl, rfl⟩ chX9_isDeterministic (pvOkM_ex okX9_isDeterministic frX9_isDeterministic)
theorem pnX9_isEmpty : pvPn yX9_isEmpty = some 1 := by decide +kernel
theorem caX9_isEmpty {l : Launch} (hf : l.stackTraces = false) : pvCaOk l mX9_isEmpty "EventClockWorkbench" pvTb 58 aX9_isEmpty := by
  refine pvCaOk_i fun ix n b ci co C h => ?_
  unfold aX9_isEmpty at h
  split at h
  · cases h; exact pvCe_S (metX9_requireIndex hf) rfl wd_1_1 rfl wd_2_142 wd_2_143 pnX9_requireIndex wd_2_144
  · cases h; exact pvCe_V (k := 1) (T := TX9) (N := 11) (metX9_powerset hf) rfl wd_1_1 rfl wd_4_83 wd_4_85 ps_1_15 pnX9_powerset rfl wd_4_86
  · cases h; exact pvCe_V (k := 2) (T := TX5) (N := 5) (metX5_findsAny hf) rfl wd_1_7 rfl wd_4_202 wd_4_203 wd_4_204 pnX5_findsAny rfl wd_4_205
  · cases h
set_option maxRecDepth 100000 in
theorem chX9_isEmpty : ∀ pc, pvChain cX9_isEmpty pc (bX9_isEmpty pc) := by
  intro pc
  unfold bX9_isEmpty
  split <;> first | exact True.intro | exact pvChain_of (by decide +kernel)
theorem frX9_isEmpty : ∀ pc, (bX9_isEmpty pc).all (fun q => pvFrB eX9 q.1) = true := by
  intro pc
  unfold bX9_isEmpty
  split <;> rfl
theorem metX9_isEmpty {l : Launch} (hf : l.stackTraces = false) : pvMet l yX9_isEmpty (Cond.code yX9_isEmpty cX9_isEmpty 2 (some .boolean) :: pvTb) mX9_isEmpty C_X9_isEmpty :=
  pvMet_of hf (y := yX9_isEmpty) plX9 pvTb_g coX9 foX9 pvCl (caX9_isEmpty hf) pvExOk_0 (fun ix h => by rcases h with h | h <;> cases (show (none : Option Nat) = some _ from h)) ⟨rfl, rfl⟩ chX9_isEmpty (pvOkM_ex okX9_isEmpty frX9_isEmpty)
theorem pnX9_takeWitness : pvPn yX9_takeWitness = some 1 := by decide +kernel
theorem caX9_takeWitness {l : Launch} (hf : l.stackTraces = false) : pvCaOk l mX9_takeWitness "EventClockWorkbench" pvTb 58 aX9_takeWitness := by
  refine pvCaOk_i fun ix n b ci co C h => ?_
  unfold aX9_takeWitness at h
  split at h
  · cases h; exact pvCe_S (metX9_requireIndex hf) rfl wd_1_1 rfl wd_2_142 wd_2_143 pnX9_requireIndex wd_2_144
  · cases h; exact pvCe_S (metX9_requireElement hf) rfl wd_1_1 rfl wd_4_31 wd_4_32 pnX9_requireElement wd_4_33
  · cases h; exact pvCe_V (k := 1) (T := TX9) (N := 11) (metX9_powerset hf) rfl wd_1_1 rfl wd_4_83 wd_4_85 ps_1_15 pnX9_powerset rfl wd_4_86
  · cases h; exact pvCe_V (k := 3) (T := TX5) (N := 5) (metX5_takeFirst hf) rfl wd_1_7 rfl wd_5_11 wd_5_12 wd_5_13 pnX5_takeFirst rfl wd_5_14
  · cases h
set_option maxRecDepth 100000 in
theorem chX9_takeWitness : ∀ pc, pvChain cX9_takeWitness pc (bX9_takeWitness pc) := by
  intro pc
  unfold bX9_takeWitness
  split <;> first | exact True.intro | exact pvChain_of (by decide +kernel)
theorem frX9_takeWitness : ∀ pc, (bX9_takeWitness pc).all (fun q => pvFrB eX9 q.1) = true := by
  intro pc
  unfold bX9_takeWitness
  split <;> rfl
theorem metX9_takeWitness {l : Launch} (hf : l.stackTraces = false) : pvMet l yX9_takeWitness (Cond.code yX9_takeWitness cX9_takeWitness 2 (some .int) :: pvTb) mX9_takeWitness C_X9_takeWitness :=
  pvMet_of hf (y := yX9_takeWitness) plX9 pvTb_g coX9 foX9 pvCl (caX9_takeWitness hf) pvExOk_0 (fun ix h => by rcases h with h | h <;> cases (show (none : Option Nat) = some _ from h)) ⟨rfl, rfl⟩ chX9_takeWitness (pvOkM_ex okX9_takeWitness frX9_takeWitness)
theorem pnX9_takeDifference : pvPn yX9_takeDifference = some 1 := by decide +kernel
theorem caX9_takeDifference {l : Launch} (hf : l.stackTraces = false) : pvCaOk l mX9_takeDifference "EventClockWorkbench" pvTb 58 aX9_takeDifference := by
  refine pvCaOk_i fun ix n b ci co C h => ?_
  unfold aX9_takeDifference at h
  split at h
  · cases h; exact pvCe_S (metX9_requireIndex hf) rfl wd_1_1 rfl wd_2_142 wd_2_143 pnX9_requireIndex wd_2_144
  · cases h; exact pvCe_S (metX9_requireElement hf) rfl wd_1_1 rfl wd_4_31 wd_4_32 pnX9_requireElement wd_4_33
  · cases h; exact pvCe_V (k := 1) (T := TX9) (N := 11) (metX9_powerset hf) rfl wd_1_1 rfl wd_4_83 wd_4_85 ps_1_15 pnX9_powerset rfl wd_4_86
  · cases h; exact pvCe_V (k := 3) (T := TX5) (N := 5) (metX5_takeFirst hf) rfl wd_1_7 rfl wd_5_11 wd_5_12 wd_5_13 pnX5_takeFirst rfl wd_5_14
  · cases h
set_option maxRecDepth 100000 in
theorem chX9_takeDifference : ∀ pc, pvChain cX9_takeDifference pc (bX9_takeDifference pc) := by
  intro pc
  unfold bX9_takeDifference
  split <;> first | exact True.intro | exact pvChain_of (by decide +kernel)
theorem frX9_takeDifference : ∀ pc, (bX9_takeDifference pc).all (fun q => pvFrB eX9 q.1) = true := by
  intro pc
  unfold bX9_takeDifference
  split <;> rfl
theorem metX9_takeDifference {l : Launch} (hf : l.stackTraces = false) : pvMet l yX9_takeDifference (Cond.code yX9_takeDifference cX9_takeDifference 2 (some .int) :: pvTb) mX9_takeDifference C_X9_takeDifference :=
  pvMet_of hf (y := yX9_takeDifference) plX9 pvTb_g coX9 foX9 pvCl (caX9_takeDifference hf) pvExOk_0 (fun ix h => by rcases h with h | h <;> cases (show (none : Option Nat) = some _ from h)) ⟨rfl, rfl⟩ chX9_takeDifference (pvOkM_ex okX9_takeDifference frX9_takeDifference)
theorem pnX9_isIncluded : pvPn yX9_isIncluded = some 1 := by decide +kernel
theorem caX9_isIncluded {l : Launch} (hf : l.stackTraces = false) : pvCaOk l mX9_isIncluded "EventClockWorkbench" pvTb 58 aX9_isIncluded := by
  refine pvCaOk_i fun ix n b ci co C h => ?_
  unfold aX9_isIncluded at h
  split at h
  · cases h; exact pvCe_S (metX9_requireIndex hf) rfl wd_1_1 rfl wd_2_142 wd_2_143 pnX9_requireIndex wd_2_144
  · cases h; exact pvCe_V (k := 1) (T := TX9) (N := 11) (metX9_powerset hf) rfl wd_1_1 rfl wd_4_83 wd_4_85 ps_1_15 pnX9_powerset rfl wd_4_86
  · cases h; exact pvCe_V (k := 2) (T := TX5) (N := 5) (metX5_findsAny hf) rfl wd_1_7 rfl wd_4_202 wd_4_203 wd_4_204 pnX5_findsAny rfl wd_4_205
  · cases h
set_option maxRecDepth 100000 in
theorem chX9_isIncluded : ∀ pc, pvChain cX9_isIncluded pc (bX9_isIncluded pc) := by
  intro pc
  unfold bX9_isIncluded
  split <;> first | exact True.intro | exact pvChain_of (by decide +kernel)
theorem frX9_isIncluded : ∀ pc, (bX9_isIncluded pc).all (fun q => pvFrB eX9 q.1) = true := by
  intro pc
  unfold bX9_isIncluded
  split <;> rfl
theorem metX9_isIncluded {l : Launch} (hf : l.stackTraces = false) : pvMet l yX9_isIncluded (Cond.code yX9_isIncluded cX9_isIncluded 2 (some .boolean) :: pvTb) mX9_isIncluded C_X9_isIncluded :=
  pvMet_of hf (y := yX9_isIncluded) plX9 pvTb_g coX9 foX9 pvCl (caX9_isIncluded hf) pvExOk_0 (fun ix h => by rcases h with h | h <;> cases (show (none : Option Nat) = some _ from h)) ⟨rfl, rfl⟩ chX9_isIncluded (pvOkM_ex okX9_isIncluded frX9_isIncluded)
theorem pnX9_acceptedWords : pvPn yX9_acceptedWords = some 3 := by decide +kernel
theorem caX9_acceptedWords {l : Launch} (hf : l.stackTraces = false) : pvCaOk l mX9_acceptedWords "EventClockWorkbench" pvTb 58 aX9_acceptedWords := by
  refine pvCaOk_i fun ix n b ci co C h => ?_
  unfold aX9_acceptedWords at h
  split at h
  · cases h; exact pvCe_S (metX9_isBetween hf) rfl wd_1_1 rfl wd_2_37 wd_2_38 pnX9_isBetween wd_2_39
  · cases h; exact pvCe_S (metX9_requireArgument hf) rfl wd_1_1 rfl wd_2_40 wd_2_41 pnX9_requireArgument wd_2_42
  · cases h; exact pvCe_S (metX9_requireIndex hf) rfl wd_1_1 rfl wd_2_142 wd_2_143 pnX9_requireIndex wd_2_144
  · cases h; exact pvCe_V (k := 1) (T := TX9) (N := 11) (metX9_powerset hf) rfl wd_1_1 rfl wd_4_83 wd_4_85 ps_1_15 pnX9_powerset rfl wd_4_86
  · cases h; exact pvCe_V (k := 3) (T := TX8) (N := 2) (metX8_count hf) rfl wd_1_8 rfl wd_5_63 wd_5_64 wd_5_65 pnX8_count rfl wd_5_66
  · cases h
set_option maxRecDepth 100000 in
theorem chX9_acceptedWords : ∀ pc, pvChain cX9_acceptedWords pc (bX9_acceptedWords pc) := by
  intro pc
  unfold bX9_acceptedWords
  split <;> first | exact True.intro | exact pvChain_of (by decide +kernel)
theorem frX9_acceptedWords : ∀ pc, (bX9_acceptedWords pc).all (fun q => pvFrB eX9 q.1) = true := by
  intro pc
  unfold bX9_acceptedWords
  split <;> rfl
theorem metX9_acceptedWords {l : Launch} (hf : l.stackTraces = false) : pvMet l yX9_acceptedWords (Cond.code yX9_acceptedWords cX9_acceptedWords 4 (some .long) :: pvTb) mX9_acceptedWords C_X9_acceptedWords :=
  pvMet_of hf (y := yX9_acceptedWords) plX9 pvTb_g coX9 foX9 pvCl (caX9_acceptedWords hf) pvExOk_0 (fun ix h => by rcases h with h | h <;> cases (show (none : Option Nat) = some _ from h)) ⟨rfl, rfl⟩ chX9_acceptedWords (pvOkM_ex okX9_acceptedWords frX9_acceptedWords)
theorem pnX9_acceptedShare : pvPn yX9_acceptedShare = some 2 := by decide +kernel
theorem caX9_acceptedShare {l : Launch} (hf : l.stackTraces = false) : pvCaOk l mX9_acceptedShare "EventClockWorkbench" pvTb 58 aX9_acceptedShare := by
  refine pvCaOk_i fun ix n b ci co C h => ?_
  unfold aX9_acceptedShare at h
  split at h
  · cases h; exact pvCe_S (metX9_isBetween hf) rfl wd_1_1 rfl wd_2_37 wd_2_38 pnX9_isBetween wd_2_39
  · cases h; exact pvCe_S (metX9_requireArgument hf) rfl wd_1_1 rfl wd_2_40 wd_2_41 pnX9_requireArgument wd_2_42
  · cases h; exact pvCe_S (metX9_requireIndex hf) rfl wd_1_1 rfl wd_2_142 wd_2_143 pnX9_requireIndex wd_2_144
  · cases h; exact pvCe_V (k := 1) (T := TX9) (N := 11) (metX9_powerset hf) rfl wd_1_1 rfl wd_4_83 wd_4_85 ps_1_15 pnX9_powerset rfl wd_4_86
  · cases h; exact pvCe_V (k := 3) (T := TX8) (N := 2) (metX8_count hf) rfl wd_1_8 rfl wd_5_63 wd_5_64 wd_5_65 pnX8_count rfl wd_5_66
  · cases h; exact pvCe_S (metX8_countAll hf) rfl wd_1_8 rfl wd_5_90 wd_5_91 pnX8_countAll wd_5_92
  · cases h
set_option maxRecDepth 100000 in
theorem chX9_acceptedShare : ∀ pc, pvChain cX9_acceptedShare pc (bX9_acceptedShare pc) := by
  intro pc
  unfold bX9_acceptedShare
  split <;> first | exact True.intro | exact pvChain_of (by decide +kernel)
theorem frX9_acceptedShare : ∀ pc, (bX9_acceptedShare pc).all (fun q => pvFrB eX9 q.1) = true := by
  intro pc
  unfold bX9_acceptedShare
  split <;> rfl
theorem metX9_acceptedShare {l : Launch} (hf : l.stackTraces = false) : pvMet l yX9_acceptedShare (Cond.code yX9_acceptedShare cX9_acceptedShare 5 (some .double) :: pvTb) mX9_acceptedShare C_X9_acceptedShare :=
  pvMet_of hf (y := yX9_acceptedShare) plX9 pvTb_g coX9 foX9 pvCl (caX9_acceptedShare hf) pvExOk_0 (fun ix h => by rcases h with h | h <;> cases (show (none : Option Nat) = some _ from h)) ⟨rfl, rfl⟩ chX9_acceptedShare (pvOkM_ex okX9_acceptedShare frX9_acceptedShare)
theorem pnJ9_max_7cf53 : pvPn yJ9_max_7cf53 = some 2 := by decide +kernel
theorem caJ9_max_7cf53 {l : Launch} (hf : l.stackTraces = false) : pvCaOk l mJ9_max_7cf53 "java/lang/Math" pvTb 58 aJ9_max_7cf53 := by
  exact fun ix n b ci co C h => nomatch (show (none : Option (Nat × Bool × Nat × Nat × pvC)) = some (n, b, ci, co, C) from h)
set_option maxRecDepth 100000 in
theorem chJ9_max_7cf53 : ∀ pc, pvChain cJ9_max_7cf53 pc (bJ9_max_7cf53 pc) := by
  intro pc
  unfold bJ9_max_7cf53
  split <;> first | exact True.intro | exact pvChain_of (by decide +kernel)
theorem frJ9_max_7cf53 : ∀ pc, (bJ9_max_7cf53 pc).all (fun q => pvFrB eJ9 q.1) = true := by
  intro pc
  unfold bJ9_max_7cf53
  split <;> rfl
theorem metJ9_max_7cf53 {l : Launch} (hf : l.stackTraces = false) : pvMet l yJ9_max_7cf53 (Cond.code yJ9_max_7cf53 cJ9_max_7cf53 2 (some .int) :: pvTb) mJ9_max_7cf53 C_J9_max_7cf53 :=
  pvMet_ofF hf (y := yJ9_max_7cf53) (by decide +kernel) pvTb_g coJ9 foJ9 pvCl (caJ9_max_7cf53 hf) pvExOk_0 (fun ix h => by rcases h with h | h <;> cases (show (none : Option Nat) = some _ from h)) ⟨rfl, rfl⟩ chJ9_max_7cf53 (pvOkM_ex okJ9_max_7cf53 frJ9_max_7cf53)
theorem pnX9_averageBranches : pvPn yX9_averageBranches = some 1 := by decide +kernel
theorem caX9_averageBranches {l : Launch} (hf : l.stackTraces = false) : pvCaOk l mX9_averageBranches "EventClockWorkbench" pvTb 58 aX9_averageBranches := by
  refine pvCaOk_i fun ix n b ci co C h => ?_
  unfold aX9_averageBranches at h
  split at h
  · cases h; exact pvCe_S (metX9_requireIndex hf) rfl wd_1_1 rfl wd_2_142 wd_2_143 pnX9_requireIndex wd_2_144
  · cases h; exact pvCe_V (k := 1) (T := TX9) (N := 11) (metX9_powerset hf) rfl wd_1_1 rfl wd_4_83 wd_4_85 ps_1_15 pnX9_powerset rfl wd_4_86
  · cases h; exact pvCe_S (metJ9_max_7cf53 hf) rfl wd_1_18 rfl wd_5_101 wd_5_102 pnJ9_max_7cf53 wd_5_103
  · cases h; exact pvCe_V (k := 0) (T := TX3) (N := 7) (metX3_countAllBranches hf) rfl wd_1_3 rfl wd_5_104 wd_5_105 wd_5_106 pnX3_countAllBranches rfl wd_5_107
  · cases h
set_option maxRecDepth 100000 in
theorem chX9_averageBranches : ∀ pc, pvChain cX9_averageBranches pc (bX9_averageBranches pc) := by
  intro pc
  unfold bX9_averageBranches
  split <;> first | exact True.intro | exact pvChain_of (by decide +kernel)
theorem frX9_averageBranches : ∀ pc, (bX9_averageBranches pc).all (fun q => pvFrB eX9 q.1) = true := by
  intro pc
  unfold bX9_averageBranches
  split <;> rfl
theorem metX9_averageBranches {l : Launch} (hf : l.stackTraces = false) : pvMet l yX9_averageBranches (Cond.code yX9_averageBranches cX9_averageBranches 4 (some .float) :: pvTb) mX9_averageBranches C_X9_averageBranches :=
  pvMet_of hf (y := yX9_averageBranches) plX9 pvTb_g coX9 foX9 pvCl (caX9_averageBranches hf) pvExOk_0 (fun ix h => by rcases h with h | h <;> cases (show (none : Option Nat) = some _ from h)) ⟨rfl, rfl⟩ chX9_averageBranches (pvOkM_ex okX9_averageBranches frX9_averageBranches)
theorem pnX9_undo : pvPn yX9_undo = some 0 := by decide +kernel
theorem caX9_undo {l : Launch} (hf : l.stackTraces = false) : pvCaOk l mX9_undo "EventClockWorkbench" pvTb 58 aX9_undo := by
  refine pvCaOk_i fun ix n b ci co C h => ?_
  unfold aX9_undo at h
  split at h
  · cases h; exact pvCe_S (metX9_requireState hf) rfl wd_1_1 rfl wd_2_111 wd_2_112 pnX9_requireState wd_2_113
  · cases h; exact pvCe_V (k := 0) (T := TX9) (N := 11) (metX9_markStale hf) rfl wd_1_1 rfl wd_2_203 wd_2_205 ps_1_7 pnX9_markStale rfl wd_2_206
  · cases h; exact pvCe_V (k := 2) (T := TX2) (N := 5) (metX2_takeBack hf) rfl wd_1_9 rfl wd_5_116 wd_5_117 wd_5_118 pnX2_takeBack rfl wd_5_119
  · cases h
set_option maxRecDepth 100000 in
theorem chX9_undo : ∀ pc, pvChain cX9_undo pc (bX9_undo pc) := by
  intro pc
  unfold bX9_undo
  split <;> first | exact True.intro | exact pvChain_of (by decide +kernel)
theorem frX9_undo : ∀ pc, (bX9_undo pc).all (fun q => pvFrB eX9 q.1) = true := by
  intro pc
  unfold bX9_undo
  split <;> rfl
theorem metX9_undo {l : Launch} (hf : l.stackTraces = false) : pvMet l yX9_undo (Cond.code yX9_undo cX9_undo 1 (some .int) :: pvTb) mX9_undo C_X9_undo :=
  pvMet_of hf (y := yX9_undo) plX9 pvTb_g coX9 foX9 pvCl (caX9_undo hf) pvExOk_0 (fun ix h => by rcases h with h | h <;> cases (show (none : Option Nat) = some _ from h)) ⟨rfl, rfl⟩ chX9_undo (pvOkM_ex okX9_undo frX9_undo)
theorem pnX9_save : pvPn yX9_save = some 0 := by decide +kernel
theorem caX9_save {l : Launch} (hf : l.stackTraces = false) : pvCaOk l mX9_save "EventClockWorkbench" pvTb 58 aX9_save := by
  refine pvCaOk_i fun ix n b ci co C h => ?_
  unfold aX9_save at h
  split at h
  · cases h; exact pvCe_V (k := 2) (T := TX2) (N := 5) (metX2_keep hf) rfl wd_1_9 rfl wd_2_14 wd_2_15 wd_2_16 pnX2_keep rfl wd_2_17
  · cases h
set_option maxRecDepth 100000 in
theorem chX9_save : ∀ pc, pvChain cX9_save pc (bX9_save pc) := by
  intro pc
  unfold bX9_save
  split <;> first | exact True.intro | exact pvChain_of (by decide +kernel)
theorem frX9_save : ∀ pc, (bX9_save pc).all (fun q => pvFrB eX9 q.1) = true := by
  intro pc
  unfold bX9_save
  split <;> rfl
theorem metX9_save {l : Launch} (hf : l.stackTraces = false) : pvMet l yX9_save (Cond.code yX9_save cX9_save 1 none :: pvTb) mX9_save C_X9_save :=
  pvMet_of hf (y := yX9_save) plX9 pvTb_g coX9 foX9 pvCl (caX9_save hf) pvExOk_0 (fun ix h => by rcases h with h | h <;> cases (show (none : Option Nat) = some _ from h)) ⟨rfl, rfl⟩ chX9_save (pvOkM_ex okX9_save frX9_save)
theorem pnX9_restore : pvPn yX9_restore = some 0 := by decide +kernel
theorem caX9_restore {l : Launch} (hf : l.stackTraces = false) : pvCaOk l mX9_restore "EventClockWorkbench" pvTb 58 aX9_restore := by
  refine pvCaOk_i fun ix n b ci co C h => ?_
  unfold aX9_restore at h
  split at h
  · cases h; exact pvCe_S (metX9_requireState hf) rfl wd_1_1 rfl wd_2_111 wd_2_112 pnX9_requireState wd_2_113
  · cases h; exact pvCe_V (k := 0) (T := TX9) (N := 11) (metX9_beginChange hf) rfl wd_1_1 rfl wd_2_192 wd_2_194 ps_1_6 pnX9_beginChange rfl wd_2_195
  · cases h; exact pvCe_V (k := 2) (T := TX2) (N := 5) (metX2_bringBack hf) rfl wd_1_9 rfl wd_5_131 wd_5_132 wd_5_133 pnX2_bringBack rfl wd_5_134
  · cases h
set_option maxRecDepth 100000 in
theorem chX9_restore : ∀ pc, pvChain cX9_restore pc (bX9_restore pc) := by
  intro pc
  unfold bX9_restore
  split <;> first | exact True.intro | exact pvChain_of (by decide +kernel)
theorem frX9_restore : ∀ pc, (bX9_restore pc).all (fun q => pvFrB eX9 q.1) = true := by
  intro pc
  unfold bX9_restore
  split <;> rfl
theorem metX9_restore {l : Launch} (hf : l.stackTraces = false) : pvMet l yX9_restore (Cond.code yX9_restore cX9_restore 1 none :: pvTb) mX9_restore C_X9_restore :=
  pvMet_of hf (y := yX9_restore) plX9 pvTb_g coX9 foX9 pvCl (caX9_restore hf) pvExOk_0 (fun ix h => by rcases h with h | h <;> cases (show (none : Option Nat) = some _ from h)) ⟨rfl, rfl⟩ chX9_restore (pvOkM_ex okX9_restore frX9_restore)
theorem pnX10_thrown : pvPn yX10_thrown = some 0 := by decide +kernel
theorem caX10_thrown {l : Launch} (hf : l.stackTraces = false) : pvCaOk l mX10_thrown "EventClockWorkbenchModel" pvTb 58 aX10_thrown := by
  exact fun ix n b ci co C h => nomatch (show (none : Option (Nat × Bool × Nat × Nat × pvC)) = some (n, b, ci, co, C) from h)
set_option maxRecDepth 100000 in
theorem chX10_thrown : ∀ pc, pvChain cX10_thrown pc (bX10_thrown pc) := by
  intro pc
  unfold bX10_thrown
  split <;> first | exact True.intro | exact pvChain_of (by decide +kernel)
theorem frX10_thrown : ∀ pc, (bX10_thrown pc).all (fun q => pvFrB eX10 q.1) = true := by
  intro pc
  unfold bX10_thrown
  split <;> rfl
theorem metX10_thrown {l : Launch} (hf : l.stackTraces = false) : pvMet l yX10_thrown (Cond.code yX10_thrown cX10_thrown 1 (some .int) :: pvTb) mX10_thrown C_X10_thrown :=
  pvMet_of hf (y := yX10_thrown) plX10 pvTb_g coX10 foX10 pvCl (caX10_thrown hf) pvExOk_0 (fun ix h => by rcases h with h | h <;> cases (show (none : Option Nat) = some _ from h)) ⟨rfl, rfl⟩ chX10_thrown (pvOkM_ex okX10_thrown frX10_thrown)
theorem pnX10_fails : pvPn yX10_fails = some 1 := by decide +kernel
theorem caX10_fails {l : Launch} (hf : l.stackTraces = false) : pvCaOk l mX10_fails "EventClockWorkbenchModel" pvTb 58 aX10_fails := by
  exact fun ix n b ci co C h => nomatch (show (none : Option (Nat × Bool × Nat × Nat × pvC)) = some (n, b, ci, co, C) from h)
set_option maxRecDepth 100000 in
theorem chX10_fails : ∀ pc, pvChain cX10_fails pc (bX10_fails pc) := by
  intro pc
  unfold bX10_fails
  split <;> first | exact True.intro | exact pvChain_of (by decide +kernel)
theorem frX10_fails : ∀ pc, (bX10_fails pc).all (fun q => pvFrB eX10 q.1) = true := by
  intro pc
  unfold bX10_fails
  split <;> rfl
theorem metX10_fails {l : Launch} (hf : l.stackTraces = false) : pvMet l yX10_fails (Cond.code yX10_fails cX10_fails 2 (some .int) :: pvTb) mX10_fails C_X10_fails :=
  pvMet_of hf (y := yX10_fails) plX10 pvTb_g coX10 foX10 pvCl (caX10_fails hf) pvExOk_0 (fun ix h => by rcases h with h | h <;> cases (show (none : Option Nat) = some _ from h)) ⟨rfl, rfl⟩ chX10_fails (pvOkM_ex okX10_fails frX10_fails)
theorem pnX10_in : pvPn yX10_in = some 3 := by decide +kernel
theorem caX10_in {l : Launch} (hf : l.stackTraces = false) : pvCaOk l mX10_in "EventClockWorkbenchModel" pvTb 58 aX10_in := by
  exact fun ix n b ci co C h => nomatch (show (none : Option (Nat × Bool × Nat × Nat × pvC)) = some (n, b, ci, co, C) from h)
set_option maxRecDepth 100000 in
theorem chX10_in : ∀ pc, pvChain cX10_in pc (bX10_in pc) := by
  intro pc
  unfold bX10_in
  split <;> first | exact True.intro | exact pvChain_of (by decide +kernel)
theorem frX10_in : ∀ pc, (bX10_in pc).all (fun q => pvFrB eX10 q.1) = true := by
  intro pc
  unfold bX10_in
  split <;> rfl
theorem metX10_in {l : Launch} (hf : l.stackTraces = false) : pvMet l yX10_in (Cond.code yX10_in cX10_in 3 (some .boolean) :: pvTb) mX10_in C_X10_in :=
  pvMet_of hf (y := yX10_in) plX10 pvTb_g coX10 foX10 pvCl (caX10_in hf) pvExOk_0 (fun ix h => by rcases h with h | h <;> cases (show (none : Option Nat) = some _ from h)) ⟨rfl, rfl⟩ chX10_in (pvOkM_ex okX10_in frX10_in)
theorem pnX10_isSlot : pvPn yX10_isSlot = some 1 := by decide +kernel
theorem caX10_isSlot {l : Launch} (hf : l.stackTraces = false) : pvCaOk l mX10_isSlot "EventClockWorkbenchModel" pvTb 58 aX10_isSlot := by
  refine pvCaOk_i fun ix n b ci co C h => ?_
  unfold aX10_isSlot at h
  split at h
  · cases h; exact pvCe_S (metX10_in hf) rfl wd_1_10 rfl wd_6_27 wd_6_28 pnX10_in wd_6_29
  · cases h
set_option maxRecDepth 100000 in
theorem chX10_isSlot : ∀ pc, pvChain cX10_isSlot pc (bX10_isSlot pc) := by
  intro pc
  unfold bX10_isSlot
  split <;> first | exact True.intro | exact pvChain_of (by decide +kernel)
theorem frX10_isSlot : ∀ pc, (bX10_isSlot pc).all (fun q => pvFrB eX10 q.1) = true := by
  intro pc
  unfold bX10_isSlot
  split <;> rfl
theorem metX10_isSlot {l : Launch} (hf : l.stackTraces = false) : pvMet l yX10_isSlot (Cond.code yX10_isSlot cX10_isSlot 1 (some .boolean) :: pvTb) mX10_isSlot C_X10_isSlot :=
  pvMet_of hf (y := yX10_isSlot) plX10 pvTb_g coX10 foX10 pvCl (caX10_isSlot hf) pvExOk_0 (fun ix h => by rcases h with h | h <;> cases (show (none : Option Nat) = some _ from h)) ⟨rfl, rfl⟩ chX10_isSlot (pvOkM_ex okX10_isSlot frX10_isSlot)
theorem pnX10_isState : pvPn yX10_isState = some 1 := by decide +kernel
theorem caX10_isState {l : Launch} (hf : l.stackTraces = false) : pvCaOk l mX10_isState "EventClockWorkbenchModel" pvTb 58 aX10_isState := by
  refine pvCaOk_i fun ix n b ci co C h => ?_
  unfold aX10_isState at h
  split at h
  · cases h; exact pvCe_S (metX10_in hf) rfl wd_1_10 rfl wd_6_27 wd_6_28 pnX10_in wd_6_29
  · cases h
set_option maxRecDepth 100000 in
theorem chX10_isState : ∀ pc, pvChain cX10_isState pc (bX10_isState pc) := by
  intro pc
  unfold bX10_isState
  split <;> first | exact True.intro | exact pvChain_of (by decide +kernel)
theorem frX10_isState : ∀ pc, (bX10_isState pc).all (fun q => pvFrB eX10 q.1) = true := by
  intro pc
  unfold bX10_isState
  split <;> rfl
theorem metX10_isState {l : Launch} (hf : l.stackTraces = false) : pvMet l yX10_isState (Cond.code yX10_isState cX10_isState 1 (some .boolean) :: pvTb) mX10_isState C_X10_isState :=
  pvMet_of hf (y := yX10_isState) plX10 pvTb_g coX10 foX10 pvCl (caX10_isState hf) pvExOk_0 (fun ix h => by rcases h with h | h <;> cases (show (none : Option Nat) = some _ from h)) ⟨rfl, rfl⟩ chX10_isState (pvOkM_ex okX10_isState frX10_isState)
theorem pnX10_isLetter : pvPn yX10_isLetter = some 1 := by decide +kernel
theorem caX10_isLetter {l : Launch} (hf : l.stackTraces = false) : pvCaOk l mX10_isLetter "EventClockWorkbenchModel" pvTb 58 aX10_isLetter := by
  refine pvCaOk_i fun ix n b ci co C h => ?_
  unfold aX10_isLetter at h
  split at h
  · cases h; exact pvCe_S (metX10_in hf) rfl wd_1_10 rfl wd_6_27 wd_6_28 pnX10_in wd_6_29
  · cases h
set_option maxRecDepth 100000 in
theorem chX10_isLetter : ∀ pc, pvChain cX10_isLetter pc (bX10_isLetter pc) := by
  intro pc
  unfold bX10_isLetter
  split <;> first | exact True.intro | exact pvChain_of (by decide +kernel)
theorem frX10_isLetter : ∀ pc, (bX10_isLetter pc).all (fun q => pvFrB eX10 q.1) = true := by
  intro pc
  unfold bX10_isLetter
  split <;> rfl
theorem metX10_isLetter {l : Launch} (hf : l.stackTraces = false) : pvMet l yX10_isLetter (Cond.code yX10_isLetter cX10_isLetter 1 (some .boolean) :: pvTb) mX10_isLetter C_X10_isLetter :=
  pvMet_of hf (y := yX10_isLetter) plX10 pvTb_g coX10 foX10 pvCl (caX10_isLetter hf) pvExOk_0 (fun ix h => by rcases h with h | h <;> cases (show (none : Option Nat) = some _ from h)) ⟨rfl, rfl⟩ chX10_isLetter (pvOkM_ex okX10_isLetter frX10_isLetter)
theorem pnX10_isTransition : pvPn yX10_isTransition = some 2 := by decide +kernel
theorem caX10_isTransition {l : Launch} (hf : l.stackTraces = false) : pvCaOk l mX10_isTransition "EventClockWorkbenchModel" pvTb 58 aX10_isTransition := by
  refine pvCaOk_i fun ix n b ci co C h => ?_
  unfold aX10_isTransition at h
  split at h
  · cases h; exact pvCe_S (metX10_in hf) rfl wd_1_10 rfl wd_6_27 wd_6_28 pnX10_in wd_6_29
  · cases h; exact pvCe_S (metX10_isSlot hf) rfl wd_1_10 rfl wd_6_38 wd_6_39 pnX10_isSlot wd_6_40
  · cases h
set_option maxRecDepth 100000 in
theorem chX10_isTransition : ∀ pc, pvChain cX10_isTransition pc (bX10_isTransition pc) := by
  intro pc
  unfold bX10_isTransition
  split <;> first | exact True.intro | exact pvChain_of (by decide +kernel)
theorem frX10_isTransition : ∀ pc, (bX10_isTransition pc).all (fun q => pvFrB eX10 q.1) = true := by
  intro pc
  unfold bX10_isTransition
  split <;> rfl
theorem metX10_isTransition {l : Launch} (hf : l.stackTraces = false) : pvMet l yX10_isTransition (Cond.code yX10_isTransition cX10_isTransition 3 (some .boolean) :: pvTb) mX10_isTransition C_X10_isTransition :=
  pvMet_of hf (y := yX10_isTransition) plX10 pvTb_g coX10 foX10 pvCl (caX10_isTransition hf) pvExOk_0 (fun ix h => by rcases h with h | h <;> cases (show (none : Option Nat) = some _ from h)) ⟨rfl, rfl⟩ chX10_isTransition (pvOkM_ex okX10_isTransition frX10_isTransition)
theorem pnX10_at : pvPn yX10_at = some 2 := by decide +kernel
theorem caX10_at {l : Launch} (hf : l.stackTraces = false) : pvCaOk l mX10_at "EventClockWorkbenchModel" pvTb 58 aX10_at := by
  exact fun ix n b ci co C h => nomatch (show (none : Option (Nat × Bool × Nat × Nat × pvC)) = some (n, b, ci, co, C) from h)
set_option maxRecDepth 100000 in
theorem chX10_at : ∀ pc, pvChain cX10_at pc (bX10_at pc) := by
  intro pc
  unfold bX10_at
  split <;> first | exact True.intro | exact pvChain_of (by decide +kernel)
theorem frX10_at : ∀ pc, (bX10_at pc).all (fun q => pvFrB eX10 q.1) = true := by
  intro pc
  unfold bX10_at
  split <;> rfl
theorem metX10_at {l : Launch} (hf : l.stackTraces = false) : pvMet l yX10_at (Cond.code yX10_at cX10_at 2 (some .int) :: pvTb) mX10_at C_X10_at :=
  pvMet_of hf (y := yX10_at) plX10 pvTb_g coX10 foX10 pvCl (caX10_at hf) pvExOk_0 (fun ix h => by rcases h with h | h <;> cases (show (none : Option Nat) = some _ from h)) ⟨rfl, rfl⟩ chX10_at (pvOkM_ex okX10_at frX10_at)
theorem pnX10_clears : pvPn yX10_clears = some 1 := by decide +kernel
theorem caX10_clears {l : Launch} (hf : l.stackTraces = false) : pvCaOk l mX10_clears "EventClockWorkbenchModel" pvTb 58 aX10_clears := by
  exact fun ix n b ci co C h => nomatch (show (none : Option (Nat × Bool × Nat × Nat × pvC)) = some (n, b, ci, co, C) from h)
set_option maxRecDepth 100000 in
theorem chX10_clears : ∀ pc, pvChain cX10_clears pc (bX10_clears pc) := by
  intro pc
  unfold bX10_clears
  split <;> first | exact True.intro | exact pvChain_of (by decide +kernel)
theorem frX10_clears : ∀ pc, (bX10_clears pc).all (fun q => pvFrB eX10 q.1) = true := by
  intro pc
  unfold bX10_clears
  split <;> rfl
theorem metX10_clears {l : Launch} (hf : l.stackTraces = false) : pvMet l yX10_clears (Cond.code yX10_clears cX10_clears 3 none :: pvTb) mX10_clears C_X10_clears :=
  pvMet_of hf (y := yX10_clears) plX10 pvTb_g coX10 foX10 pvCl (caX10_clears hf) pvExOk_0 (fun ix h => by rcases h with h | h <;> cases (show (none : Option Nat) = some _ from h)) ⟨rfl, rfl⟩ chX10_clears (pvOkM_ex okX10_clears frX10_clears)
theorem pnX10_changes : pvPn yX10_changes = some 0 := by decide +kernel
theorem caX10_changes {l : Launch} (hf : l.stackTraces = false) : pvCaOk l mX10_changes "EventClockWorkbenchModel" pvTb 58 aX10_changes := by
  exact fun ix n b ci co C h => nomatch (show (none : Option (Nat × Bool × Nat × Nat × pvC)) = some (n, b, ci, co, C) from h)
set_option maxRecDepth 100000 in
theorem chX10_changes : ∀ pc, pvChain cX10_changes pc (bX10_changes pc) := by
  intro pc
  unfold bX10_changes
  split <;> first | exact True.intro | exact pvChain_of (by decide +kernel)
theorem frX10_changes : ∀ pc, (bX10_changes pc).all (fun q => pvFrB eX10 q.1) = true := by
  intro pc
  unfold bX10_changes
  split <;> rfl
theorem metX10_changes {l : Launch} (hf : l.stackTraces = false) : pvMet l yX10_changes (Cond.code yX10_changes cX10_changes 2 none :: pvTb) mX10_changes C_X10_changes :=
  pvMet_of hf (y := yX10_changes) plX10 pvTb_g coX10 foX10 pvCl (caX10_changes hf) pvExOk_0 (fun ix h => by rcases h with h | h <;> cases (show (none : Option Nat) = some _ from h)) ⟨rfl, rfl⟩ chX10_changes (pvOkM_ex okX10_changes frX10_changes)
theorem pnX10_undo : pvPn yX10_undo = some 0 := by decide +kernel
theorem caX10_undo {l : Launch} (hf : l.stackTraces = false) : pvCaOk l mX10_undo "EventClockWorkbenchModel" pvTb 58 aX10_undo := by
  refine pvCaOk_i fun ix n b ci co C h => ?_
  unfold aX10_undo at h
  split at h
  · cases h; exact pvCe_V (k := 1) (T := TX10) (N := 31) (metX10_fails hf) rfl wd_1_10 rfl wd_6_7 wd_6_9 ps_3_6 pnX10_fails rfl wd_6_10
  · cases h
set_option maxRecDepth 100000 in
theorem chX10_undo : ∀ pc, pvChain cX10_undo pc (bX10_undo pc) := by
  intro pc
  unfold bX10_undo
  split <;> first | exact True.intro | exact pvChain_of (by decide +kernel)
theorem frX10_undo : ∀ pc, (bX10_undo pc).all (fun q => pvFrB eX10 q.1) = true := by
  intro pc
  unfold bX10_undo
  split <;> rfl
theorem metX10_undo {l : Launch} (hf : l.stackTraces = false) : pvMet l yX10_undo (Cond.code yX10_undo cX10_undo 2 (some .int) :: pvTb) mX10_undo C_X10_undo :=
  pvMet_of hf (y := yX10_undo) plX10 pvTb_g coX10 foX10 pvCl (caX10_undo hf) pvExOk_0 (fun ix h => by rcases h with h | h <;> cases (show (none : Option Nat) = some _ from h)) ⟨rfl, rfl⟩ chX10_undo (pvOkM_ex okX10_undo frX10_undo)
theorem pnX10_save : pvPn yX10_save = some 0 := by decide +kernel
theorem caX10_save {l : Launch} (hf : l.stackTraces = false) : pvCaOk l mX10_save "EventClockWorkbenchModel" pvTb 58 aX10_save := by
  exact fun ix n b ci co C h => nomatch (show (none : Option (Nat × Bool × Nat × Nat × pvC)) = some (n, b, ci, co, C) from h)
set_option maxRecDepth 100000 in
theorem chX10_save : ∀ pc, pvChain cX10_save pc (bX10_save pc) := by
  intro pc
  unfold bX10_save
  split <;> first | exact True.intro | exact pvChain_of (by decide +kernel)
theorem frX10_save : ∀ pc, (bX10_save pc).all (fun q => pvFrB eX10 q.1) = true := by
  intro pc
  unfold bX10_save
  split <;> rfl
theorem metX10_save {l : Launch} (hf : l.stackTraces = false) : pvMet l yX10_save (Cond.code yX10_save cX10_save 2 none :: pvTb) mX10_save C_X10_save :=
  pvMet_of hf (y := yX10_save) plX10 pvTb_g coX10 foX10 pvCl (caX10_save hf) pvExOk_0 (fun ix h => by rcases h with h | h <;> cases (show (none : Option Nat) = some _ from h)) ⟨rfl, rfl⟩ chX10_save (pvOkM_ex okX10_save frX10_save)
theorem pnX10_restore : pvPn yX10_restore = some 0 := by decide +kernel
theorem caX10_restore {l : Launch} (hf : l.stackTraces = false) : pvCaOk l mX10_restore "EventClockWorkbenchModel" pvTb 58 aX10_restore := by
  refine pvCaOk_i fun ix n b ci co C h => ?_
  unfold aX10_restore at h
  split at h
  · cases h; exact pvCe_V (k := 0) (T := TX10) (N := 31) (metX10_changes hf) rfl wd_1_10 rfl wd_6_19 wd_6_21 ps_3_7 pnX10_changes rfl wd_6_22
  · cases h
set_option maxRecDepth 100000 in
theorem chX10_restore : ∀ pc, pvChain cX10_restore pc (bX10_restore pc) := by
  intro pc
  unfold bX10_restore
  split <;> first | exact True.intro | exact pvChain_of (by decide +kernel)
theorem frX10_restore : ∀ pc, (bX10_restore pc).all (fun q => pvFrB eX10 q.1) = true := by
  intro pc
  unfold bX10_restore
  split <;> rfl
theorem metX10_restore {l : Launch} (hf : l.stackTraces = false) : pvMet l yX10_restore (Cond.code yX10_restore cX10_restore 2 none :: pvTb) mX10_restore C_X10_restore :=
  pvMet_of hf (y := yX10_restore) plX10 pvTb_g coX10 foX10 pvCl (caX10_restore hf) pvExOk_0 (fun ix h => by rcases h with h | h <;> cases (show (none : Option Nat) = some _ from h)) ⟨rfl, rfl⟩ chX10_restore (pvOkM_ex okX10_restore frX10_restore)
theorem pnX10_appendCharacter : pvPn yX10_appendCharacter = some 1 := by decide +kernel
theorem caX10_appendCharacter {l : Launch} (hf : l.stackTraces = false) : pvCaOk l mX10_appendCharacter "EventClockWorkbenchModel" pvTb 58 aX10_appendCharacter := by
  refine pvCaOk_i fun ix n b ci co C h => ?_
  unfold aX10_appendCharacter at h
  split at h
  · cases h; exact pvCe_S (metX10_in hf) rfl wd_1_10 rfl wd_6_27 wd_6_28 pnX10_in wd_6_29
  · cases h; exact pvCe_V (k := 1) (T := TX10) (N := 31) (metX10_fails hf) rfl wd_1_10 rfl wd_6_7 wd_6_9 ps_3_6 pnX10_fails rfl wd_6_10
  · cases h
set_option maxRecDepth 100000 in
theorem chX10_appendCharacter : ∀ pc, pvChain cX10_appendCharacter pc (bX10_appendCharacter pc) := by
  intro pc
  unfold bX10_appendCharacter
  split <;> first | exact True.intro | exact pvChain_of (by decide +kernel)
theorem frX10_appendCharacter : ∀ pc, (bX10_appendCharacter pc).all (fun q => pvFrB eX10 q.1) = true := by
  intro pc
  unfold bX10_appendCharacter
  split <;> rfl
theorem metX10_appendCharacter {l : Launch} (hf : l.stackTraces = false) : pvMet l yX10_appendCharacter (Cond.code yX10_appendCharacter cX10_appendCharacter 2 (some .int) :: pvTb) mX10_appendCharacter C_X10_appendCharacter :=
  pvMet_of hf (y := yX10_appendCharacter) plX10 pvTb_g coX10 foX10 pvCl (caX10_appendCharacter hf) pvExOk_0 (fun ix h => by rcases h with h | h <;> cases (show (none : Option Nat) = some _ from h)) ⟨rfl, rfl⟩ chX10_appendCharacter (pvOkM_ex okX10_appendCharacter frX10_appendCharacter)
theorem pnX10_faultPosition : pvPn yX10_faultPosition = some 0 := by decide +kernel
theorem caX10_faultPosition {l : Launch} (hf : l.stackTraces = false) : pvCaOk l mX10_faultPosition "EventClockWorkbenchModel" pvTb 58 aX10_faultPosition := by
  exact fun ix n b ci co C h => nomatch (show (none : Option (Nat × Bool × Nat × Nat × pvC)) = some (n, b, ci, co, C) from h)
set_option maxRecDepth 100000 in
theorem chX10_faultPosition : ∀ pc, pvChain cX10_faultPosition pc (bX10_faultPosition pc) := by
  intro pc
  unfold bX10_faultPosition
  split <;> first | exact True.intro | exact pvChain_of (by decide +kernel)
theorem frX10_faultPosition : ∀ pc, (bX10_faultPosition pc).all (fun q => pvFrB eX10 q.1) = true := by
  intro pc
  unfold bX10_faultPosition
  split <;> rfl
theorem metX10_faultPosition {l : Launch} (hf : l.stackTraces = false) : pvMet l yX10_faultPosition (Cond.code yX10_faultPosition cX10_faultPosition 1 (some .int) :: pvTb) mX10_faultPosition C_X10_faultPosition :=
  pvMet_of hf (y := yX10_faultPosition) plX10 pvTb_g coX10 foX10 pvCl (caX10_faultPosition hf) pvExOk_0 (fun ix h => by rcases h with h | h <;> cases (show (none : Option Nat) = some _ from h)) ⟨rfl, rfl⟩ chX10_faultPosition (pvOkM_ex okX10_faultPosition frX10_faultPosition)
theorem pnX10_here : pvPn yX10_here = some 0 := by decide +kernel
theorem caX10_here {l : Launch} (hf : l.stackTraces = false) : pvCaOk l mX10_here "EventClockWorkbenchModel" pvTb 58 aX10_here := by
  exact fun ix n b ci co C h => nomatch (show (none : Option (Nat × Bool × Nat × Nat × pvC)) = some (n, b, ci, co, C) from h)
set_option maxRecDepth 100000 in
theorem chX10_here : ∀ pc, pvChain cX10_here pc (bX10_here pc) := by
  intro pc
  unfold bX10_here
  split <;> first | exact True.intro | exact pvChain_of (by decide +kernel)
theorem frX10_here : ∀ pc, (bX10_here pc).all (fun q => pvFrB eX10 q.1) = true := by
  intro pc
  unfold bX10_here
  split <;> rfl
theorem metX10_here {l : Launch} (hf : l.stackTraces = false) : pvMet l yX10_here (Cond.code yX10_here cX10_here 1 (some .int) :: pvTb) mX10_here C_X10_here :=
  pvMet_of hf (y := yX10_here) plX10 pvTb_g coX10 foX10 pvCl (caX10_here hf) pvExOk_0 (fun ix h => by rcases h with h | h <;> cases (show (none : Option Nat) = some _ from h)) ⟨rfl, rfl⟩ chX10_here (pvOkM_ex okX10_here frX10_here)
theorem pnX10_skips : pvPn yX10_skips = some 1 := by decide +kernel
theorem caX10_skips {l : Launch} (hf : l.stackTraces = false) : pvCaOk l mX10_skips "EventClockWorkbenchModel" pvTb 58 aX10_skips := by
  refine pvCaOk_i fun ix n b ci co C h => ?_
  unfold aX10_skips at h
  split at h
  · cases h; exact pvCe_V (k := 0) (T := TX10) (N := 31) (metX10_here hf) rfl wd_1_10 rfl wd_6_55 wd_6_57 ps_3_10 pnX10_here rfl wd_6_58
  · cases h
set_option maxRecDepth 100000 in
theorem chX10_skips : ∀ pc, pvChain cX10_skips pc (bX10_skips pc) := by
  intro pc
  unfold bX10_skips
  split <;> first | exact True.intro | exact pvChain_of (by decide +kernel)
theorem frX10_skips : ∀ pc, (bX10_skips pc).all (fun q => pvFrB eX10 q.1) = true := by
  intro pc
  unfold bX10_skips
  split <;> rfl
theorem metX10_skips {l : Launch} (hf : l.stackTraces = false) : pvMet l yX10_skips (Cond.code yX10_skips cX10_skips 2 (some .boolean) :: pvTb) mX10_skips C_X10_skips :=
  pvMet_of hf (y := yX10_skips) plX10 pvTb_g coX10 foX10 pvCl (caX10_skips hf) pvExOk_0 (fun ix h => by rcases h with h | h <;> cases (show (none : Option Nat) = some _ from h)) ⟨rfl, rfl⟩ chX10_skips (pvOkM_ex okX10_skips frX10_skips)
theorem pnX10_kindHere : pvPn yX10_kindHere = some 0 := by decide +kernel
theorem caX10_kindHere {l : Launch} (hf : l.stackTraces = false) : pvCaOk l mX10_kindHere "EventClockWorkbenchModel" pvTb 58 aX10_kindHere := by
  refine pvCaOk_i fun ix n b ci co C h => ?_
  unfold aX10_kindHere at h
  split at h
  · cases h; exact pvCe_V (k := 1) (T := TX10) (N := 31) (metX10_skips hf) rfl wd_1_10 rfl wd_6_63 wd_6_65 ps_3_12 pnX10_skips rfl wd_6_66
  · cases h
set_option maxRecDepth 100000 in
theorem chX10_kindHere : ∀ pc, pvChain cX10_kindHere pc (bX10_kindHere pc) := by
  intro pc
  unfold bX10_kindHere
  split <;> first | exact True.intro | exact pvChain_of (by decide +kernel)
theorem frX10_kindHere : ∀ pc, (bX10_kindHere pc).all (fun q => pvFrB eX10 q.1) = true := by
  intro pc
  unfold bX10_kindHere
  split <;> rfl
theorem metX10_kindHere {l : Launch} (hf : l.stackTraces = false) : pvMet l yX10_kindHere (Cond.code yX10_kindHere cX10_kindHere 1 (some .int) :: pvTb) mX10_kindHere C_X10_kindHere :=
  pvMet_of hf (y := yX10_kindHere) plX10 pvTb_g coX10 foX10 pvCl (caX10_kindHere hf) pvExOk_0 (fun ix h => by rcases h with h | h <;> cases (show (none : Option Nat) = some _ from h)) ⟨rfl, rfl⟩ chX10_kindHere (pvOkM_ex okX10_kindHere frX10_kindHere)
theorem pnX10_isConstraint : pvPn yX10_isConstraint = some 0 := by decide +kernel
theorem caX10_isConstraint {l : Launch} (hf : l.stackTraces = false) : pvCaOk l mX10_isConstraint "EventClockWorkbenchModel" pvTb 58 aX10_isConstraint := by
  refine pvCaOk_i fun ix n b ci co C h => ?_
  unfold aX10_isConstraint at h
  split at h
  · cases h; exact pvCe_S (metX10_in hf) rfl wd_1_10 rfl wd_6_27 wd_6_28 pnX10_in wd_6_29
  · cases h; exact pvCe_V (k := 0) (T := TX10) (N := 31) (metX10_here hf) rfl wd_1_10 rfl wd_6_55 wd_6_57 ps_3_10 pnX10_here rfl wd_6_58
  · cases h; exact pvCe_S (metX10_isLetter hf) rfl wd_1_10 rfl wd_6_44 wd_6_45 pnX10_isLetter wd_6_46
  · cases h; exact pvCe_V (k := 0) (T := TX10) (N := 31) (metX10_kindHere hf) rfl wd_1_10 rfl wd_6_59 wd_6_61 ps_3_11 pnX10_kindHere rfl wd_6_62
  · cases h
set_option maxRecDepth 100000 in
theorem chX10_isConstraint : ∀ pc, pvChain cX10_isConstraint pc (bX10_isConstraint pc) := by
  intro pc
  unfold bX10_isConstraint
  split <;> first | exact True.intro | exact pvChain_of (by decide +kernel)
theorem frX10_isConstraint : ∀ pc, (bX10_isConstraint pc).all (fun q => pvFrB eX10 q.1) = true := by
  intro pc
  unfold bX10_isConstraint
  split <;> rfl
theorem metX10_isConstraint {l : Launch} (hf : l.stackTraces = false) : pvMet l yX10_isConstraint (Cond.code yX10_isConstraint cX10_isConstraint 3 (some .boolean) :: pvTb) mX10_isConstraint C_X10_isConstraint :=
  pvMet_of hf (y := yX10_isConstraint) plX10 pvTb_g coX10 foX10 pvCl (caX10_isConstraint hf) pvExOk_0 (fun ix h => by rcases h with h | h <;> cases (show (none : Option Nat) = some _ from h)) ⟨rfl, rfl⟩ chX10_isConstraint (pvOkM_ex okX10_isConstraint frX10_isConstraint)
theorem pnX10_faultOf : pvPn yX10_faultOf = some 0 := by decide +kernel
theorem caX10_faultOf {l : Launch} (hf : l.stackTraces = false) : pvCaOk l mX10_faultOf "EventClockWorkbenchModel" pvTb 58 aX10_faultOf := by
  refine pvCaOk_i fun ix n b ci co C h => ?_
  unfold aX10_faultOf at h
  split at h
  · cases h; exact pvCe_V (k := 1) (T := TX10) (N := 31) (metX10_skips hf) rfl wd_1_10 rfl wd_6_63 wd_6_65 ps_3_12 pnX10_skips rfl wd_6_66
  · cases h; exact pvCe_V (k := 0) (T := TX10) (N := 31) (metX10_isConstraint hf) rfl wd_1_10 rfl wd_6_51 wd_6_53 ps_3_9 pnX10_isConstraint rfl wd_6_54
  · cases h
set_option maxRecDepth 100000 in
theorem chX10_faultOf : ∀ pc, pvChain cX10_faultOf pc (bX10_faultOf pc) := by
  intro pc
  unfold bX10_faultOf
  split <;> first | exact True.intro | exact pvChain_of (by decide +kernel)
theorem frX10_faultOf : ∀ pc, (bX10_faultOf pc).all (fun q => pvFrB eX10 q.1) = true := by
  intro pc
  unfold bX10_faultOf
  split <;> rfl
theorem metX10_faultOf {l : Launch} (hf : l.stackTraces = false) : pvMet l yX10_faultOf (Cond.code yX10_faultOf cX10_faultOf 1 (some .int) :: pvTb) mX10_faultOf C_X10_faultOf :=
  pvMet_of hf (y := yX10_faultOf) plX10 pvTb_g coX10 foX10 pvCl (caX10_faultOf hf) pvExOk_0 (fun ix h => by rcases h with h | h <;> cases (show (none : Option Nat) = some _ from h)) ⟨rfl, rfl⟩ chX10_faultOf (pvOkM_ex okX10_faultOf frX10_faultOf)
theorem pnX10_addTransition : pvPn yX10_addTransition = some 4 := by decide +kernel
theorem caX10_addTransition {l : Launch} (hf : l.stackTraces = false) : pvCaOk l mX10_addTransition "EventClockWorkbenchModel" pvTb 58 aX10_addTransition := by
  refine pvCaOk_i fun ix n b ci co C h => ?_
  unfold aX10_addTransition at h
  split at h
  · cases h; exact pvCe_S (metX10_isSlot hf) rfl wd_1_10 rfl wd_6_38 wd_6_39 pnX10_isSlot wd_6_40
  · cases h; exact pvCe_V (k := 1) (T := TX10) (N := 31) (metX10_fails hf) rfl wd_1_10 rfl wd_6_7 wd_6_9 ps_3_6 pnX10_fails rfl wd_6_10
  · cases h; exact pvCe_V (k := 0) (T := TX10) (N := 31) (metX10_changes hf) rfl wd_1_10 rfl wd_6_19 wd_6_21 ps_3_7 pnX10_changes rfl wd_6_22
  · cases h; exact pvCe_S (metX10_isLetter hf) rfl wd_1_10 rfl wd_6_44 wd_6_45 pnX10_isLetter wd_6_46
  · cases h; exact pvCe_S (metX10_isState hf) rfl wd_1_10 rfl wd_6_41 wd_6_42 pnX10_isState wd_6_43
  · cases h; exact pvCe_V (k := 0) (T := TX10) (N := 31) (metX10_faultOf hf) rfl wd_1_10 rfl wd_6_47 wd_6_49 ps_3_8 pnX10_faultOf rfl wd_6_50
  · cases h; exact pvCe_S (metX10_at hf) rfl wd_1_10 rfl wd_6_67 wd_6_68 pnX10_at wd_6_69
  · cases h
set_option maxRecDepth 100000 in
theorem chX10_addTransition : ∀ pc, pvChain cX10_addTransition pc (bX10_addTransition pc) := by
  intro pc
  unfold bX10_addTransition
  split <;> first | exact True.intro | exact pvChain_of (by decide +kernel)
theorem frX10_addTransition : ∀ pc, (bX10_addTransition pc).all (fun q => pvFrB eX10 q.1) = true := by
  intro pc
  unfold bX10_addTransition
  split <;> rfl
theorem metX10_addTransition {l : Launch} (hf : l.stackTraces = false) : pvMet l yX10_addTransition (Cond.code yX10_addTransition cX10_addTransition 8 (some .int) :: pvTb) mX10_addTransition C_X10_addTransition :=
  pvMet_of hf (y := yX10_addTransition) plX10 pvTb_g coX10 foX10 pvCl (caX10_addTransition hf) pvExOk_0 (fun ix h => by rcases h with h | h <;> cases (show (none : Option Nat) = some _ from h)) ⟨rfl, rfl⟩ chX10_addTransition (pvOkM_ex okX10_addTransition frX10_addTransition)
theorem pnX10_removeTransition : pvPn yX10_removeTransition = some 2 := by decide +kernel
theorem caX10_removeTransition {l : Launch} (hf : l.stackTraces = false) : pvCaOk l mX10_removeTransition "EventClockWorkbenchModel" pvTb 58 aX10_removeTransition := by
  refine pvCaOk_i fun ix n b ci co C h => ?_
  unfold aX10_removeTransition at h
  split at h
  · cases h; exact pvCe_V (k := 1) (T := TX10) (N := 31) (metX10_fails hf) rfl wd_1_10 rfl wd_6_7 wd_6_9 ps_3_6 pnX10_fails rfl wd_6_10
  · cases h; exact pvCe_V (k := 0) (T := TX10) (N := 31) (metX10_changes hf) rfl wd_1_10 rfl wd_6_19 wd_6_21 ps_3_7 pnX10_changes rfl wd_6_22
  · cases h; exact pvCe_S (metX10_at hf) rfl wd_1_10 rfl wd_6_67 wd_6_68 pnX10_at wd_6_69
  · cases h; exact pvCe_V (k := 2) (T := TX10) (N := 31) (metX10_isTransition hf) rfl wd_1_10 rfl wd_6_74 wd_6_76 ps_3_13 pnX10_isTransition rfl wd_6_77
  · cases h
set_option maxRecDepth 100000 in
theorem chX10_removeTransition : ∀ pc, pvChain cX10_removeTransition pc (bX10_removeTransition pc) := by
  intro pc
  unfold bX10_removeTransition
  split <;> first | exact True.intro | exact pvChain_of (by decide +kernel)
theorem frX10_removeTransition : ∀ pc, (bX10_removeTransition pc).all (fun q => pvFrB eX10 q.1) = true := by
  intro pc
  unfold bX10_removeTransition
  split <;> rfl
theorem metX10_removeTransition {l : Launch} (hf : l.stackTraces = false) : pvMet l yX10_removeTransition (Cond.code yX10_removeTransition cX10_removeTransition 4 (some .int) :: pvTb) mX10_removeTransition C_X10_removeTransition :=
  pvMet_of hf (y := yX10_removeTransition) plX10 pvTb_g coX10 foX10 pvCl (caX10_removeTransition hf) pvExOk_0 (fun ix h => by rcases h with h | h <;> cases (show (none : Option Nat) = some _ from h)) ⟨rfl, rfl⟩ chX10_removeTransition (pvOkM_ex okX10_removeTransition frX10_removeTransition)
theorem pnX10_marks : pvPn yX10_marks = some 4 := by decide +kernel
theorem caX10_marks {l : Launch} (hf : l.stackTraces = false) : pvCaOk l mX10_marks "EventClockWorkbenchModel" pvTb 58 aX10_marks := by
  refine pvCaOk_i fun ix n b ci co C h => ?_
  unfold aX10_marks at h
  split at h
  · cases h; exact pvCe_S (metX10_isSlot hf) rfl wd_1_10 rfl wd_6_38 wd_6_39 pnX10_isSlot wd_6_40
  · cases h; exact pvCe_V (k := 0) (T := TX10) (N := 31) (metX10_changes hf) rfl wd_1_10 rfl wd_6_19 wd_6_21 ps_3_7 pnX10_changes rfl wd_6_22
  · cases h; exact pvCe_S (metX10_isState hf) rfl wd_1_10 rfl wd_6_41 wd_6_42 pnX10_isState wd_6_43
  · cases h
set_option maxRecDepth 100000 in
theorem chX10_marks : ∀ pc, pvChain cX10_marks pc (bX10_marks pc) := by
  intro pc
  unfold bX10_marks
  split <;> first | exact True.intro | exact pvChain_of (by decide +kernel)
theorem frX10_marks : ∀ pc, (bX10_marks pc).all (fun q => pvFrB eX10 q.1) = true := by
  intro pc
  unfold bX10_marks
  split <;> rfl
theorem metX10_marks {l : Launch} (hf : l.stackTraces = false) : pvMet l yX10_marks (Cond.code yX10_marks cX10_marks 7 (some .boolean) :: pvTb) mX10_marks C_X10_marks :=
  pvMet_of hf (y := yX10_marks) plX10 pvTb_g coX10 foX10 pvCl (caX10_marks hf) pvExOk_0 (fun ix h => by rcases h with h | h <;> cases (show (none : Option Nat) = some _ from h)) ⟨rfl, rfl⟩ chX10_marks (pvOkM_ex okX10_marks frX10_marks)
theorem pnX10_setInitial : pvPn yX10_setInitial = some 3 := by decide +kernel
theorem caX10_setInitial {l : Launch} (hf : l.stackTraces = false) : pvCaOk l mX10_setInitial "EventClockWorkbenchModel" pvTb 58 aX10_setInitial := by
  refine pvCaOk_i fun ix n b ci co C h => ?_
  unfold aX10_setInitial at h
  split at h
  · cases h; exact pvCe_V (k := 4) (T := TX10) (N := 31) (metX10_marks hf) rfl wd_1_10 rfl wd_6_82 wd_6_84 ps_3_14 pnX10_marks rfl wd_6_85
  · cases h
set_option maxRecDepth 100000 in
theorem chX10_setInitial : ∀ pc, pvChain cX10_setInitial pc (bX10_setInitial pc) := by
  intro pc
  unfold bX10_setInitial
  split <;> first | exact True.intro | exact pvChain_of (by decide +kernel)
theorem frX10_setInitial : ∀ pc, (bX10_setInitial pc).all (fun q => pvFrB eX10 q.1) = true := by
  intro pc
  unfold bX10_setInitial
  split <;> rfl
theorem metX10_setInitial {l : Launch} (hf : l.stackTraces = false) : pvMet l yX10_setInitial (Cond.code yX10_setInitial cX10_setInitial 4 (some .boolean) :: pvTb) mX10_setInitial C_X10_setInitial :=
  pvMet_of hf (y := yX10_setInitial) plX10 pvTb_g coX10 foX10 pvCl (caX10_setInitial hf) pvExOk_0 (fun ix h => by rcases h with h | h <;> cases (show (none : Option Nat) = some _ from h)) ⟨rfl, rfl⟩ chX10_setInitial (pvOkM_ex okX10_setInitial frX10_setInitial)
theorem pnX10_setFinal : pvPn yX10_setFinal = some 3 := by decide +kernel
theorem caX10_setFinal {l : Launch} (hf : l.stackTraces = false) : pvCaOk l mX10_setFinal "EventClockWorkbenchModel" pvTb 58 aX10_setFinal := by
  refine pvCaOk_i fun ix n b ci co C h => ?_
  unfold aX10_setFinal at h
  split at h
  · cases h; exact pvCe_V (k := 4) (T := TX10) (N := 31) (metX10_marks hf) rfl wd_1_10 rfl wd_6_82 wd_6_84 ps_3_14 pnX10_marks rfl wd_6_85
  · cases h
set_option maxRecDepth 100000 in
theorem chX10_setFinal : ∀ pc, pvChain cX10_setFinal pc (bX10_setFinal pc) := by
  intro pc
  unfold bX10_setFinal
  split <;> first | exact True.intro | exact pvChain_of (by decide +kernel)
theorem frX10_setFinal : ∀ pc, (bX10_setFinal pc).all (fun q => pvFrB eX10 q.1) = true := by
  intro pc
  unfold bX10_setFinal
  split <;> rfl
theorem metX10_setFinal {l : Launch} (hf : l.stackTraces = false) : pvMet l yX10_setFinal (Cond.code yX10_setFinal cX10_setFinal 4 (some .boolean) :: pvTb) mX10_setFinal C_X10_setFinal :=
  pvMet_of hf (y := yX10_setFinal) plX10 pvTb_g coX10 foX10 pvCl (caX10_setFinal hf) pvExOk_0 (fun ix h => by rcases h with h | h <;> cases (show (none : Option Nat) = some _ from h)) ⟨rfl, rfl⟩ chX10_setFinal (pvOkM_ex okX10_setFinal frX10_setFinal)
theorem pnX10_copyAutomaton : pvPn yX10_copyAutomaton = some 1 := by decide +kernel
theorem caX10_copyAutomaton {l : Launch} (hf : l.stackTraces = false) : pvCaOk l mX10_copyAutomaton "EventClockWorkbenchModel" pvTb 58 aX10_copyAutomaton := by
  refine pvCaOk_i fun ix n b ci co C h => ?_
  unfold aX10_copyAutomaton at h
  split at h
  · cases h; exact pvCe_S (metX10_isSlot hf) rfl wd_1_10 rfl wd_6_38 wd_6_39 pnX10_isSlot wd_6_40
  · cases h; exact pvCe_V (k := 0) (T := TX10) (N := 31) (metX10_changes hf) rfl wd_1_10 rfl wd_6_19 wd_6_21 ps_3_7 pnX10_changes rfl wd_6_22
  · cases h
set_option maxRecDepth 100000 in
theorem chX10_copyAutomaton : ∀ pc, pvChain cX10_copyAutomaton pc (bX10_copyAutomaton pc) := by
  intro pc
  unfold bX10_copyAutomaton
  split <;> first | exact True.intro | exact pvChain_of (by decide +kernel)
theorem frX10_copyAutomaton : ∀ pc, (bX10_copyAutomaton pc).all (fun q => pvFrB eX10 q.1) = true := by
  intro pc
  unfold bX10_copyAutomaton
  split <;> rfl
theorem metX10_copyAutomaton {l : Launch} (hf : l.stackTraces = false) : pvMet l yX10_copyAutomaton (Cond.code yX10_copyAutomaton cX10_copyAutomaton 3 none :: pvTb) mX10_copyAutomaton C_X10_copyAutomaton :=
  pvMet_of hf (y := yX10_copyAutomaton) plX10 pvTb_g coX10 foX10 pvCl (caX10_copyAutomaton hf) pvExOk_0 (fun ix h => by rcases h with h | h <;> cases (show (none : Option Nat) = some _ from h)) ⟨rfl, rfl⟩ chX10_copyAutomaton (pvOkM_ex okX10_copyAutomaton frX10_copyAutomaton)
theorem pnX10_clearAutomaton : pvPn yX10_clearAutomaton = some 1 := by decide +kernel
theorem caX10_clearAutomaton {l : Launch} (hf : l.stackTraces = false) : pvCaOk l mX10_clearAutomaton "EventClockWorkbenchModel" pvTb 58 aX10_clearAutomaton := by
  refine pvCaOk_i fun ix n b ci co C h => ?_
  unfold aX10_clearAutomaton at h
  split at h
  · cases h; exact pvCe_V (k := 1) (T := TX10) (N := 31) (metX10_clears hf) rfl wd_1_10 rfl wd_5_141 wd_5_143 ps_3_5 pnX10_clears rfl wd_5_144
  · cases h; exact pvCe_S (metX10_isSlot hf) rfl wd_1_10 rfl wd_6_38 wd_6_39 pnX10_isSlot wd_6_40
  · cases h; exact pvCe_V (k := 0) (T := TX10) (N := 31) (metX10_changes hf) rfl wd_1_10 rfl wd_6_19 wd_6_21 ps_3_7 pnX10_changes rfl wd_6_22
  · cases h
set_option maxRecDepth 100000 in
theorem chX10_clearAutomaton : ∀ pc, pvChain cX10_clearAutomaton pc (bX10_clearAutomaton pc) := by
  intro pc
  unfold bX10_clearAutomaton
  split <;> first | exact True.intro | exact pvChain_of (by decide +kernel)
theorem frX10_clearAutomaton : ∀ pc, (bX10_clearAutomaton pc).all (fun q => pvFrB eX10 q.1) = true := by
  intro pc
  unfold bX10_clearAutomaton
  split <;> rfl
theorem metX10_clearAutomaton {l : Launch} (hf : l.stackTraces = false) : pvMet l yX10_clearAutomaton (Cond.code yX10_clearAutomaton cX10_clearAutomaton 2 none :: pvTb) mX10_clearAutomaton C_X10_clearAutomaton :=
  pvMet_of hf (y := yX10_clearAutomaton) plX10 pvTb_g coX10 foX10 pvCl (caX10_clearAutomaton hf) pvExOk_0 (fun ix h => by rcases h with h | h <;> cases (show (none : Option Nat) = some _ from h)) ⟨rfl, rfl⟩ chX10_clearAutomaton (pvOkM_ex okX10_clearAutomaton frX10_clearAutomaton)
theorem pnX10_transitionCount : pvPn yX10_transitionCount = some 1 := by decide +kernel
theorem caX10_transitionCount {l : Launch} (hf : l.stackTraces = false) : pvCaOk l mX10_transitionCount "EventClockWorkbenchModel" pvTb 58 aX10_transitionCount := by
  refine pvCaOk_i fun ix n b ci co C h => ?_
  unfold aX10_transitionCount at h
  split at h
  · cases h; exact pvCe_S (metX10_isSlot hf) rfl wd_1_10 rfl wd_6_38 wd_6_39 pnX10_isSlot wd_6_40
  · cases h; exact pvCe_V (k := 1) (T := TX10) (N := 31) (metX10_fails hf) rfl wd_1_10 rfl wd_6_7 wd_6_9 ps_3_6 pnX10_fails rfl wd_6_10
  · cases h
set_option maxRecDepth 100000 in
theorem chX10_transitionCount : ∀ pc, pvChain cX10_transitionCount pc (bX10_transitionCount pc) := by
  intro pc
  unfold bX10_transitionCount
  split <;> first | exact True.intro | exact pvChain_of (by decide +kernel)
theorem frX10_transitionCount : ∀ pc, (bX10_transitionCount pc).all (fun q => pvFrB eX10 q.1) = true := by
  intro pc
  unfold bX10_transitionCount
  split <;> rfl
theorem metX10_transitionCount {l : Launch} (hf : l.stackTraces = false) : pvMet l yX10_transitionCount (Cond.code yX10_transitionCount cX10_transitionCount 2 (some .int) :: pvTb) mX10_transitionCount C_X10_transitionCount :=
  pvMet_of hf (y := yX10_transitionCount) plX10 pvTb_g coX10 foX10 pvCl (caX10_transitionCount hf) pvExOk_0 (fun ix h => by rcases h with h | h <;> cases (show (none : Option Nat) = some _ from h)) ⟨rfl, rfl⟩ chX10_transitionCount (pvOkM_ex okX10_transitionCount frX10_transitionCount)
