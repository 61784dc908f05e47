/-! contracts over the machine, 1 -/
theorem pnX0_size : pvPn yX0_size = some 0 := by decide +kernel
theorem caX0_size {l : Launch} (hf : l.stackTraces = false) : pvCaOk l mX0_size "EventClockWorkbench$Automaton" pvTb 58 aX0_size := by
  exact fun ix n b ci co C h => nomatch (show (none : Option (Nat × Bool × Nat × Nat × pvC)) = some (n, b, ci, co, C) from h)
set_option maxRecDepth 100000 in
theorem chX0_size : ∀ pc, pvChain cX0_size pc (bX0_size pc) := by
  intro pc
  unfold bX0_size
  split <;> first | exact True.intro | exact pvChain_of (by decide +kernel)
theorem frX0_size : ∀ pc, (bX0_size pc).all (fun q => pvFrB eX0 q.1) = true := by
  intro pc
  unfold bX0_size
  split <;> rfl
theorem metX0_size {l : Launch} (hf : l.stackTraces = false) : pvMet l yX0_size (Cond.code yX0_size cX0_size 1 (some .int) :: pvTb) mX0_size C_X0_size :=
  pvMet_of hf (y := yX0_size) plX0 pvTb_g coX0 foX0 pvCl (caX0_size hf) pvExOk_0 (fun ix h => by rcases h with h | h <;> cases (show (none : Option Nat) = some _ from h)) ⟨rfl, rfl⟩ chX0_size (pvOkM_ex okX0_size frX0_size)
theorem pnX0_initialStates : pvPn yX0_initialStates = some 0 := by decide +kernel
theorem caX0_initialStates {l : Launch} (hf : l.stackTraces = false) : pvCaOk l mX0_initialStates "EventClockWorkbench$Automaton" pvTb 58 aX0_initialStates := by
  exact fun ix n b ci co C h => nomatch (show (none : Option (Nat × Bool × Nat × Nat × pvC)) = some (n, b, ci, co, C) from h)
set_option maxRecDepth 100000 in
theorem chX0_initialStates : ∀ pc, pvChain cX0_initialStates pc (bX0_initialStates pc) := by
  intro pc
  unfold bX0_initialStates
  split <;> first | exact True.intro | exact pvChain_of (by decide +kernel)
theorem frX0_initialStates : ∀ pc, (bX0_initialStates pc).all (fun q => pvFrB eX0 q.1) = true := by
  intro pc
  unfold bX0_initialStates
  split <;> rfl
theorem metX0_initialStates {l : Launch} (hf : l.stackTraces = false) : pvMet l yX0_initialStates (Cond.code yX0_initialStates cX0_initialStates 1 (some .int) :: pvTb) mX0_initialStates C_X0_initialStates :=
  pvMet_of hf (y := yX0_initialStates) plX0 pvTb_g coX0 foX0 pvCl (caX0_initialStates hf) pvExOk_0 (fun ix h => by rcases h with h | h <;> cases (show (none : Option Nat) = some _ from h)) ⟨rfl, rfl⟩ chX0_initialStates (pvOkM_ex okX0_initialStates frX0_initialStates)
theorem pnX0_finalStates : pvPn yX0_finalStates = some 0 := by decide +kernel
theorem caX0_finalStates {l : Launch} (hf : l.stackTraces = false) : pvCaOk l mX0_finalStates "EventClockWorkbench$Automaton" pvTb 58 aX0_finalStates := by
  exact fun ix n b ci co C h => nomatch (show (none : Option (Nat × Bool × Nat × Nat × pvC)) = some (n, b, ci, co, C) from h)
set_option maxRecDepth 100000 in
theorem chX0_finalStates : ∀ pc, pvChain cX0_finalStates pc (bX0_finalStates pc) := by
  intro pc
  unfold bX0_finalStates
  split <;> first | exact True.intro | exact pvChain_of (by decide +kernel)
theorem frX0_finalStates : ∀ pc, (bX0_finalStates pc).all (fun q => pvFrB eX0 q.1) = true := by
  intro pc
  unfold bX0_finalStates
  split <;> rfl
theorem metX0_finalStates {l : Launch} (hf : l.stackTraces = false) : pvMet l yX0_finalStates (Cond.code yX0_finalStates cX0_finalStates 1 (some .int) :: pvTb) mX0_finalStates C_X0_finalStates :=
  pvMet_of hf (y := yX0_finalStates) plX0 pvTb_g coX0 foX0 pvCl (caX0_finalStates hf) pvExOk_0 (fun ix h => by rcases h with h | h <;> cases (show (none : Option Nat) = some _ from h)) ⟨rfl, rfl⟩ chX0_finalStates (pvOkM_ex okX0_finalStates frX0_finalStates)
theorem pnX0_putInitialStates : pvPn yX0_putInitialStates = some 1 := by decide +kernel
theorem caX0_putInitialStates {l : Launch} (hf : l.stackTraces = false) : pvCaOk l mX0_putInitialStates "EventClockWorkbench$Automaton" pvTb 58 aX0_putInitialStates := by
  exact fun ix n b ci co C h => nomatch (show (none : Option (Nat × Bool × Nat × Nat × pvC)) = some (n, b, ci, co, C) from h)
set_option maxRecDepth 100000 in
theorem chX0_putInitialStates : ∀ pc, pvChain cX0_putInitialStates pc (bX0_putInitialStates pc) := by
  intro pc
  unfold bX0_putInitialStates
  split <;> first | exact True.intro | exact pvChain_of (by decide +kernel)
theorem frX0_putInitialStates : ∀ pc, (bX0_putInitialStates pc).all (fun q => pvFrB eX0 q.1) = true := by
  intro pc
  unfold bX0_putInitialStates
  split <;> rfl
theorem metX0_putInitialStates {l : Launch} (hf : l.stackTraces = false) : pvMet l yX0_putInitialStates (Cond.code yX0_putInitialStates cX0_putInitialStates 2 none :: pvTb) mX0_putInitialStates C_X0_putInitialStates :=
  pvMet_of hf (y := yX0_putInitialStates) plX0 pvTb_g coX0 foX0 pvCl (caX0_putInitialStates hf) pvExOk_0 (fun ix h => by rcases h with h | h <;> cases (show (none : Option Nat) = some _ from h)) ⟨rfl, rfl⟩ chX0_putInitialStates (pvOkM_ex okX0_putInitialStates frX0_putInitialStates)
theorem pnX0_putFinalStates : pvPn yX0_putFinalStates = some 1 := by decide +kernel
theorem caX0_putFinalStates {l : Launch} (hf : l.stackTraces = false) : pvCaOk l mX0_putFinalStates "EventClockWorkbench$Automaton" pvTb 58 aX0_putFinalStates := by
  exact fun ix n b ci co C h => nomatch (show (none : Option (Nat × Bool × Nat × Nat × pvC)) = some (n, b, ci, co, C) from h)
set_option maxRecDepth 100000 in
theorem chX0_putFinalStates : ∀ pc, pvChain cX0_putFinalStates pc (bX0_putFinalStates pc) := by
  intro pc
  unfold bX0_putFinalStates
  split <;> first | exact True.intro | exact pvChain_of (by decide +kernel)
theorem frX0_putFinalStates : ∀ pc, (bX0_putFinalStates pc).all (fun q => pvFrB eX0 q.1) = true := by
  intro pc
  unfold bX0_putFinalStates
  split <;> rfl
theorem metX0_putFinalStates {l : Launch} (hf : l.stackTraces = false) : pvMet l yX0_putFinalStates (Cond.code yX0_putFinalStates cX0_putFinalStates 2 none :: pvTb) mX0_putFinalStates C_X0_putFinalStates :=
  pvMet_of hf (y := yX0_putFinalStates) plX0 pvTb_g coX0 foX0 pvCl (caX0_putFinalStates hf) pvExOk_0 (fun ix h => by rcases h with h | h <;> cases (show (none : Option Nat) = some _ from h)) ⟨rfl, rfl⟩ chX0_putFinalStates (pvOkM_ex okX0_putFinalStates frX0_putFinalStates)
theorem pnX9_isIndex : pvPn yX9_isIndex = some 2 := by decide +kernel
theorem caX9_isIndex {l : Launch} (hf : l.stackTraces = false) : pvCaOk l mX9_isIndex "EventClockWorkbench" pvTb 58 aX9_isIndex := by
  exact fun ix n b ci co C h => nomatch (show (none : Option (Nat × Bool × Nat × Nat × pvC)) = some (n, b, ci, co, C) from h)
set_option maxRecDepth 100000 in
theorem chX9_isIndex : ∀ pc, pvChain cX9_isIndex pc (bX9_isIndex pc) := by
  intro pc
  unfold bX9_isIndex
  split <;> first | exact True.intro | exact pvChain_of (by decide +kernel)
theorem frX9_isIndex : ∀ pc, (bX9_isIndex pc).all (fun q => pvFrB eX9 q.1) = true := by
  intro pc
  unfold bX9_isIndex
  split <;> rfl
theorem metX9_isIndex {l : Launch} (hf : l.stackTraces = false) : pvMet l yX9_isIndex (Cond.code yX9_isIndex cX9_isIndex 2 (some .boolean) :: pvTb) mX9_isIndex C_X9_isIndex :=
  pvMet_of hf (y := yX9_isIndex) plX9 pvTb_g coX9 foX9 pvCl (caX9_isIndex hf) pvExOk_0 (fun ix h => by rcases h with h | h <;> cases (show (none : Option Nat) = some _ from h)) ⟨rfl, rfl⟩ chX9_isIndex (pvOkM_ex okX9_isIndex frX9_isIndex)
theorem metNX9_isIndex {l : Launch} (hf : l.stackTraces = false) : pvMetN l yX9_isIndex (Cond.code yX9_isIndex cX9_isIndex 2 (some .boolean) :: pvTb) mX9_isIndex C_X9_isIndex := by
  refine pvMetN_of (metX9_isIndex hf) fun as z Q h => ?_
  unfold C_X9_isIndex at h ⊢
  split at h
  · (try simp only [Sum.inl.injEq, exists_eq', and_true]); simp_all
  · exact h.elim
theorem pnX0_cell : pvPn yX0_cell = some 2 := by decide +kernel
theorem caX0_cell {l : Launch} (hf : l.stackTraces = false) : pvCaOk l mX0_cell "EventClockWorkbench$Automaton" pvTb 58 aX0_cell := by
  refine pvCaOk_i fun ix n b ci co C h => ?_
  unfold aX0_cell at h
  split at h
  · cases h; exact pvCe_NS (metNX9_isIndex hf) rfl wd_1_1 rfl (List.mem_of_getElem? (i := 0) rfl) wd_2_23 pnX9_isIndex wd_2_24
  · cases h
set_option maxRecDepth 100000 in
theorem chX0_cell : ∀ pc, pvChain cX0_cell pc (bX0_cell pc) := by
  intro pc
  unfold bX0_cell
  split <;> first | exact True.intro | exact pvChain_of (by decide +kernel)
theorem frX0_cell : ∀ pc, (bX0_cell pc).all (fun q => pvFrB eX0 q.1) = true := by
  intro pc
  unfold bX0_cell
  split <;> rfl
theorem metX0_cell {l : Launch} (hf : l.stackTraces = false) : pvMet l yX0_cell (Cond.code yX0_cell cX0_cell 4 (some .int) :: pvTb) mX0_cell C_X0_cell :=
  pvMet_of hf (y := yX0_cell) plX0 pvTb_g coX0 foX0 pvCl (caX0_cell hf) pvExOk_0 (fun ix h => by rcases h with h | h <;> cases (show (none : Option Nat) = some _ from h)) ⟨rfl, rfl⟩ chX0_cell (pvOkM_ex okX0_cell frX0_cell)
theorem pnX0_letter : pvPn yX0_letter = some 1 := by decide +kernel
theorem caX0_letter {l : Launch} (hf : l.stackTraces = false) : pvCaOk l mX0_letter "EventClockWorkbench$Automaton" pvTb 58 aX0_letter := by
  refine pvCaOk_i fun ix n b ci co C h => ?_
  unfold aX0_letter at h
  split at h
  · cases h; exact pvCe_V (k := 2) (T := TX0) (N := 1) (metX0_cell hf) rfl wd_1_2 rfl wd_2_229 wd_2_230 wd_2_231 pnX0_cell rfl wd_2_232
  · cases h
set_option maxRecDepth 100000 in
theorem chX0_letter : ∀ pc, pvChain cX0_letter pc (bX0_letter pc) := by
  intro pc
  unfold bX0_letter
  split <;> first | exact True.intro | exact pvChain_of (by decide +kernel)
theorem frX0_letter : ∀ pc, (bX0_letter pc).all (fun q => pvFrB eX0 q.1) = true := by
  intro pc
  unfold bX0_letter
  split <;> rfl
theorem metX0_letter {l : Launch} (hf : l.stackTraces = false) : pvMet l yX0_letter (Cond.code yX0_letter cX0_letter 2 (some .int) :: pvTb) mX0_letter C_X0_letter :=
  pvMet_of hf (y := yX0_letter) plX0 pvTb_g coX0 foX0 pvCl (caX0_letter hf) pvExOk_0 (fun ix h => by rcases h with h | h <;> cases (show (none : Option Nat) = some _ from h)) ⟨rfl, rfl⟩ chX0_letter (pvOkM_ex okX0_letter frX0_letter)
theorem pnX0_guardSize : pvPn yX0_guardSize = some 1 := by decide +kernel
theorem caX0_guardSize {l : Launch} (hf : l.stackTraces = false) : pvCaOk l mX0_guardSize "EventClockWorkbench$Automaton" pvTb 58 aX0_guardSize := by
  refine pvCaOk_i fun ix n b ci co C h => ?_
  unfold aX0_guardSize at h
  split at h
  · cases h; exact pvCe_V (k := 2) (T := TX0) (N := 1) (metX0_cell hf) rfl wd_1_2 rfl wd_2_229 wd_2_230 wd_2_231 pnX0_cell rfl wd_2_232
  · cases h
set_option maxRecDepth 100000 in
theorem chX0_guardSize : ∀ pc, pvChain cX0_guardSize pc (bX0_guardSize pc) := by
  intro pc
  unfold bX0_guardSize
  split <;> first | exact True.intro | exact pvChain_of (by decide +kernel)
theorem frX0_guardSize : ∀ pc, (bX0_guardSize pc).all (fun q => pvFrB eX0 q.1) = true := by
  intro pc
  unfold bX0_guardSize
  split <;> rfl
theorem metX0_guardSize {l : Launch} (hf : l.stackTraces = false) : pvMet l yX0_guardSize (Cond.code yX0_guardSize cX0_guardSize 2 (some .int) :: pvTb) mX0_guardSize C_X0_guardSize :=
  pvMet_of hf (y := yX0_guardSize) plX0 pvTb_g coX0 foX0 pvCl (caX0_guardSize hf) pvExOk_0 (fun ix h => by rcases h with h | h <;> cases (show (none : Option Nat) = some _ from h)) ⟨rfl, rfl⟩ chX0_guardSize (pvOkM_ex okX0_guardSize frX0_guardSize)
theorem pnX0_allowed : pvPn yX0_allowed = some 1 := by decide +kernel
theorem caX0_allowed {l : Launch} (hf : l.stackTraces = false) : pvCaOk l mX0_allowed "EventClockWorkbench$Automaton" pvTb 58 aX0_allowed := by
  refine pvCaOk_i fun ix n b ci co C h => ?_
  unfold aX0_allowed at h
  split at h
  · cases h; exact pvCe_V (k := 2) (T := TX0) (N := 1) (metX0_cell hf) rfl wd_1_2 rfl wd_2_229 wd_2_230 wd_2_231 pnX0_cell rfl wd_2_232
  · cases h
set_option maxRecDepth 100000 in
theorem chX0_allowed : ∀ pc, pvChain cX0_allowed pc (bX0_allowed pc) := by
  intro pc
  unfold bX0_allowed
  split <;> first | exact True.intro | exact pvChain_of (by decide +kernel)
theorem frX0_allowed : ∀ pc, (bX0_allowed pc).all (fun q => pvFrB eX0 q.1) = true := by
  intro pc
  unfold bX0_allowed
  split <;> rfl
theorem metX0_allowed {l : Launch} (hf : l.stackTraces = false) : pvMet l yX0_allowed (Cond.code yX0_allowed cX0_allowed 2 (some .int) :: pvTb) mX0_allowed C_X0_allowed :=
  pvMet_of hf (y := yX0_allowed) plX0 pvTb_g coX0 foX0 pvCl (caX0_allowed hf) pvExOk_0 (fun ix h => by rcases h with h | h <;> cases (show (none : Option Nat) = some _ from h)) ⟨rfl, rfl⟩ chX0_allowed (pvOkM_ex okX0_allowed frX0_allowed)
theorem pnX0_constraintCell : pvPn yX0_constraintCell = some 3 := by decide +kernel
theorem caX0_constraintCell {l : Launch} (hf : l.stackTraces = false) : pvCaOk l mX0_constraintCell "EventClockWorkbench$Automaton" pvTb 58 aX0_constraintCell := by
  refine pvCaOk_i fun ix n b ci co C h => ?_
  unfold aX0_constraintCell at h
  split at h
  · cases h; exact pvCe_V (k := 2) (T := TX0) (N := 1) (metX0_cell hf) rfl wd_1_2 rfl wd_2_229 wd_2_230 wd_2_231 pnX0_cell rfl wd_2_232
  · cases h
set_option maxRecDepth 100000 in
theorem chX0_constraintCell : ∀ pc, pvChain cX0_constraintCell pc (bX0_constraintCell pc) := by
  intro pc
  unfold bX0_constraintCell
  split <;> first | exact True.intro | exact pvChain_of (by decide +kernel)
theorem frX0_constraintCell : ∀ pc, (bX0_constraintCell pc).all (fun q => pvFrB eX0 q.1) = true := by
  intro pc
  unfold bX0_constraintCell
  split <;> rfl
theorem metX0_constraintCell {l : Launch} (hf : l.stackTraces = false) : pvMet l yX0_constraintCell (Cond.code yX0_constraintCell cX0_constraintCell 4 (some .int) :: pvTb) mX0_constraintCell C_X0_constraintCell :=
  pvMet_of hf (y := yX0_constraintCell) plX0 pvTb_g coX0 foX0 pvCl (caX0_constraintCell hf) pvExOk_0 (fun ix h => by rcases h with h | h <;> cases (show (none : Option Nat) = some _ from h)) ⟨rfl, rfl⟩ chX0_constraintCell (pvOkM_ex okX0_constraintCell frX0_constraintCell)
theorem pnX0_putCell : pvPn yX0_putCell = some 3 := by decide +kernel
theorem caX0_putCell {l : Launch} (hf : l.stackTraces = false) : pvCaOk l mX0_putCell "EventClockWorkbench$Automaton" pvTb 58 aX0_putCell := by
  refine pvCaOk_i fun ix n b ci co C h => ?_
  unfold aX0_putCell at h
  split at h
  · cases h; exact pvCe_NS (metNX9_isIndex hf) rfl wd_1_1 rfl (List.mem_of_getElem? (i := 0) rfl) wd_2_23 pnX9_isIndex wd_2_24
  · cases h
set_option maxRecDepth 100000 in
theorem chX0_putCell : ∀ pc, pvChain cX0_putCell pc (bX0_putCell pc) := by
  intro pc
  unfold bX0_putCell
  split <;> first | exact True.intro | exact pvChain_of (by decide +kernel)
theorem frX0_putCell : ∀ pc, (bX0_putCell pc).all (fun q => pvFrB eX0 q.1) = true := by
  intro pc
  unfold bX0_putCell
  split <;> rfl
theorem metX0_putCell {l : Launch} (hf : l.stackTraces = false) : pvMet l yX0_putCell (Cond.code yX0_putCell cX0_putCell 5 none :: pvTb) mX0_putCell C_X0_putCell :=
  pvMet_of hf (y := yX0_putCell) plX0 pvTb_g coX0 foX0 pvCl (caX0_putCell hf) pvExOk_0 (fun ix h => by rcases h with h | h <;> cases (show (none : Option Nat) = some _ from h)) ⟨rfl, rfl⟩ chX0_putCell (pvOkM_ex okX0_putCell frX0_putCell)
theorem pnX1_numberAt : pvPn yX1_numberAt = some 2 := by decide +kernel
theorem caX1_numberAt {l : Launch} (hf : l.stackTraces = false) : pvCaOk l mX1_numberAt "EventClockWorkbench$GuardText" pvTb 58 aX1_numberAt := by
  refine pvCaOk_i fun ix n b ci co C h => ?_
  unfold aX1_numberAt at h
  split at h
  · cases h; exact pvCe_NS (metNX9_isIndex hf) rfl wd_1_1 rfl (List.mem_of_getElem? (i := 1) rfl) wd_2_23 pnX9_isIndex wd_2_24
  · cases h
set_option maxRecDepth 100000 in
theorem chX1_numberAt : ∀ pc, pvChain cX1_numberAt pc (bX1_numberAt pc) := by
  intro pc
  unfold bX1_numberAt
  split <;> first | exact True.intro | exact pvChain_of (by decide +kernel)
theorem frX1_numberAt : ∀ pc, (bX1_numberAt pc).all (fun q => pvFrB eX1 q.1) = true := by
  intro pc
  unfold bX1_numberAt
  split <;> rfl
theorem metX1_numberAt {l : Launch} (hf : l.stackTraces = false) : pvMet l yX1_numberAt (Cond.code yX1_numberAt cX1_numberAt 4 (some .int) :: pvTb) mX1_numberAt C_X1_numberAt :=
  pvMet_of hf (y := yX1_numberAt) plX1 pvTb_g coX1 foX1 pvCl (caX1_numberAt hf) pvExOk_0 (fun ix h => by rcases h with h | h <;> cases (show (none : Option Nat) = some _ from h)) ⟨rfl, rfl⟩ chX1_numberAt (pvOkM_ex okX1_numberAt frX1_numberAt)
theorem pnX7_satisfying : pvPn yX7_satisfying = some 2 := by decide +kernel
theorem caX7_satisfying {l : Launch} (hf : l.stackTraces = false) : pvCaOk l mX7_satisfying "EventClockWorkbench$Values" pvTb 58 aX7_satisfying := by
  exact fun ix n b ci co C h => nomatch (show (none : Option (Nat × Bool × Nat × Nat × pvC)) = some (n, b, ci, co, C) from h)
set_option maxRecDepth 100000 in
theorem chX7_satisfying : ∀ pc, pvChain cX7_satisfying pc (bX7_satisfying pc) := by
  intro pc
  unfold bX7_satisfying
  split <;> first | exact True.intro | exact pvChain_of (by decide +kernel)
theorem frX7_satisfying : ∀ pc, (bX7_satisfying pc).all (fun q => pvFrB eX7 q.1) = true := by
  intro pc
  unfold bX7_satisfying
  split <;> rfl
theorem metX7_satisfying {l : Launch} (hf : l.stackTraces = false) : pvMet l yX7_satisfying (Cond.code yX7_satisfying cX7_satisfying 2 (some .int) :: pvTb) mX7_satisfying C_X7_satisfying :=
  pvMet_of hf (y := yX7_satisfying) plX7 pvTb_g coX7 foX7 pvCl (caX7_satisfying hf) pvExOk_0 (fun ix h => by rcases h with h | h <;> cases (show (none : Option Nat) = some _ from h)) ⟨rfl, rfl⟩ chX7_satisfying (pvOkM_ex okX7_satisfying frX7_satisfying)
theorem pnX0_satisfyingValues : pvPn yX0_satisfyingValues = some 2 := by decide +kernel
theorem caX0_satisfyingValues {l : Launch} (hf : l.stackTraces = false) : pvCaOk l mX0_satisfyingValues "EventClockWorkbench$Automaton" pvTb 58 aX0_satisfyingValues := by
  refine pvCaOk_i fun ix n b ci co C h => ?_
  unfold aX0_satisfyingValues at h
  split at h
  · cases h; exact pvCe_V (k := 3) (T := TX0) (N := 1) (metX0_constraintCell hf) rfl wd_1_2 rfl wd_2_225 wd_2_226 wd_2_227 pnX0_constraintCell rfl wd_2_228
  · cases h; exact pvCe_S (metX7_satisfying hf) rfl wd_1_19 rfl wd_2_233 wd_2_234 pnX7_satisfying wd_2_235
  · cases h
set_option maxRecDepth 100000 in
theorem chX0_satisfyingValues : ∀ pc, pvChain cX0_satisfyingValues pc (bX0_satisfyingValues pc) := by
  intro pc
  unfold bX0_satisfyingValues
  split <;> first | exact True.intro | exact pvChain_of (by decide +kernel)
theorem frX0_satisfyingValues : ∀ pc, (bX0_satisfyingValues pc).all (fun q => pvFrB eX0 q.1) = true := by
  intro pc
  unfold bX0_satisfyingValues
  split <;> rfl
theorem metX0_satisfyingValues {l : Launch} (hf : l.stackTraces = false) : pvMet l yX0_satisfyingValues (Cond.code yX0_satisfyingValues cX0_satisfyingValues 3 (some .int) :: pvTb) mX0_satisfyingValues C_X0_satisfyingValues :=
  pvMet_of hf (y := yX0_satisfyingValues) plX0 pvTb_g coX0 foX0 pvCl (caX0_satisfyingValues hf) pvExOk_0 (fun ix h => by rcases h with h | h <;> cases (show (none : Option Nat) = some _ from h)) ⟨rfl, rfl⟩ chX0_satisfyingValues (pvOkM_ex okX0_satisfyingValues frX0_satisfyingValues)
theorem pnX7_narrowed : pvPn yX7_narrowed = some 3 := by decide +kernel
theorem caX7_narrowed {l : Launch} (hf : l.stackTraces = false) : pvCaOk l mX7_narrowed "EventClockWorkbench$Values" pvTb 58 aX7_narrowed := by
  exact fun ix n b ci co C h => nomatch (show (none : Option (Nat × Bool × Nat × Nat × pvC)) = some (n, b, ci, co, C) from h)
set_option maxRecDepth 100000 in
theorem chX7_narrowed : ∀ pc, pvChain cX7_narrowed pc (bX7_narrowed pc) := by
  intro pc
  unfold bX7_narrowed
  split <;> first | exact True.intro | exact pvChain_of (by decide +kernel)
theorem frX7_narrowed : ∀ pc, (bX7_narrowed pc).all (fun q => pvFrB eX7 q.1) = true := by
  intro pc
  unfold bX7_narrowed
  split <;> rfl
theorem metX7_narrowed {l : Launch} (hf : l.stackTraces = false) : pvMet l yX7_narrowed (Cond.code yX7_narrowed cX7_narrowed 4 (some .int) :: pvTb) mX7_narrowed C_X7_narrowed :=
  pvMet_of hf (y := yX7_narrowed) plX7 pvTb_g coX7 foX7 pvCl (caX7_narrowed hf) pvExOk_0 (fun ix h => by rcases h with h | h <;> cases (show (none : Option Nat) = some _ from h)) ⟨rfl, rfl⟩ chX7_narrowed (pvOkM_ex okX7_narrowed frX7_narrowed)
theorem pnX0_add : pvPn yX0_add = some 4 := by decide +kernel
theorem caX0_add {l : Launch} (hf : l.stackTraces = false) : pvCaOk l mX0_add "EventClockWorkbench$Automaton" pvTb 58 aX0_add := by
  refine pvCaOk_i fun ix n b ci co C h => ?_
  unfold aX0_add at h
  split at h
  · cases h; exact pvCe_V (k := 0) (T := TX0) (N := 1) (metX0_size hf) rfl wd_1_2 rfl wd_2_211 wd_2_189 wd_2_190 pnX0_size rfl wd_2_191
  · cases h; exact pvCe_V (k := 3) (T := TX0) (N := 1) (metX0_putCell hf) rfl wd_1_2 rfl wd_2_212 wd_2_214 ps_1_8 pnX0_putCell rfl wd_2_215
  · cases h; exact pvCe_V (k := 2) (T := TX1) (N := 5) (metX1_numberAt hf) rfl wd_1_4 rfl wd_2_217 wd_2_218 wd_2_219 pnX1_numberAt rfl wd_2_220
  · cases h; exact pvCe_V (k := 2) (T := TX0) (N := 1) (metX0_satisfyingValues hf) rfl wd_1_2 rfl wd_2_221 wd_2_223 ps_1_9 pnX0_satisfyingValues rfl wd_2_224
  · cases h; exact pvCe_S (metX7_narrowed hf) rfl wd_1_19 rfl wd_2_236 wd_2_237 pnX7_narrowed wd_2_238
  · cases h
set_option maxRecDepth 100000 in
theorem chX0_add : ∀ pc, pvChain cX0_add pc (bX0_add pc) := by
  intro pc
  unfold bX0_add
  split <;> first | exact True.intro | exact pvChain_of (by decide +kernel)
theorem frX0_add : ∀ pc, (bX0_add pc).all (fun q => pvFrB eX0 q.1) = true := by
  intro pc
  unfold bX0_add
  split <;> rfl
theorem metX0_add {l : Launch} (hf : l.stackTraces = false) : pvMet l yX0_add (Cond.code yX0_add cX0_add 9 (some .int) :: pvTb) mX0_add C_X0_add :=
  pvMet_of hf (y := yX0_add) plX0 pvTb_g coX0 foX0 pvCl (caX0_add hf) pvExOk_0 (fun ix h => by rcases h with h | h <;> cases (show (none : Option Nat) = some _ from h)) ⟨rfl, rfl⟩ chX0_add (pvOkM_ex okX0_add frX0_add)
theorem pnX0_remove : pvPn yX0_remove = some 1 := by decide +kernel
theorem caX0_remove {l : Launch} (hf : l.stackTraces = false) : pvCaOk l mX0_remove "EventClockWorkbench$Automaton" pvTb 58 aX0_remove := by
  refine pvCaOk_i fun ix n b ci co C h => ?_
  unfold aX0_remove at h
  split at h
  · cases h; exact pvCe_V (k := 2) (T := TX0) (N := 1) (metX0_cell hf) rfl wd_1_2 rfl wd_2_229 wd_2_230 wd_2_231 pnX0_cell rfl wd_2_232
  · cases h; exact pvCe_V (k := 0) (T := TX0) (N := 1) (metX0_size hf) rfl wd_1_2 rfl wd_2_211 wd_2_189 wd_2_190 pnX0_size rfl wd_2_191
  · cases h; exact pvCe_V (k := 3) (T := TX0) (N := 1) (metX0_putCell hf) rfl wd_1_2 rfl wd_2_212 wd_2_214 ps_1_8 pnX0_putCell rfl wd_2_215
  · cases h
set_option maxRecDepth 100000 in
theorem chX0_remove : ∀ pc, pvChain cX0_remove pc (bX0_remove pc) := by
  intro pc
  unfold bX0_remove
  split <;> first | exact True.intro | exact pvChain_of (by decide +kernel)
theorem frX0_remove : ∀ pc, (bX0_remove pc).all (fun q => pvFrB eX0 q.1) = true := by
  intro pc
  unfold bX0_remove
  split <;> rfl
theorem metX0_remove {l : Launch} (hf : l.stackTraces = false) : pvMet l yX0_remove (Cond.code yX0_remove cX0_remove 5 (some .int) :: pvTb) mX0_remove C_X0_remove :=
  pvMet_of hf (y := yX0_remove) plX0 pvTb_g coX0 foX0 pvCl (caX0_remove hf) pvExOk_0 (fun ix h => by rcases h with h | h <;> cases (show (none : Option Nat) = some _ from h)) ⟨rfl, rfl⟩ chX0_remove (pvOkM_ex okX0_remove frX0_remove)
theorem pnX0_reset : pvPn yX0_reset = some 0 := by decide +kernel
theorem caX0_reset {l : Launch} (hf : l.stackTraces = false) : pvCaOk l mX0_reset "EventClockWorkbench$Automaton" pvTb 58 aX0_reset := by
  exact fun ix n b ci co C h => nomatch (show (none : Option (Nat × Bool × Nat × Nat × pvC)) = some (n, b, ci, co, C) from h)
set_option maxRecDepth 100000 in
theorem chX0_reset : ∀ pc, pvChain cX0_reset pc (bX0_reset pc) := by
  intro pc
  unfold bX0_reset
  split <;> first | exact True.intro | exact pvChain_of (by decide +kernel)
theorem frX0_reset : ∀ pc, (bX0_reset pc).all (fun q => pvFrB eX0 q.1) = true := by
  intro pc
  unfold bX0_reset
  split <;> rfl
theorem metX0_reset {l : Launch} (hf : l.stackTraces = false) : pvMet l yX0_reset (Cond.code yX0_reset cX0_reset 1 none :: pvTb) mX0_reset C_X0_reset :=
  pvMet_of hf (y := yX0_reset) plX0 pvTb_g coX0 foX0 pvCl (caX0_reset hf) pvExOk_0 (fun ix h => by rcases h with h | h <;> cases (show (none : Option Nat) = some _ from h)) ⟨rfl, rfl⟩ chX0_reset (pvOkM_ex okX0_reset frX0_reset)
theorem pnX0_become : pvPn yX0_become = some 1 := by decide +kernel
theorem caX0_become {l : Launch} (hf : l.stackTraces = false) : pvCaOk l mX0_become "EventClockWorkbench$Automaton" pvTb 58 aX0_become := by
  exact fun ix n b ci co C h => nomatch (show (none : Option (Nat × Bool × Nat × Nat × pvC)) = some (n, b, ci, co, C) from h)
set_option maxRecDepth 100000 in
theorem chX0_become : ∀ pc, pvChain cX0_become pc (bX0_become pc) := by
  intro pc
  unfold bX0_become
  split <;> first | exact True.intro | exact pvChain_of (by decide +kernel)
theorem metX0_become {l : Launch} (hf : l.stackTraces = false) : pvMet l yX0_become (Cond.code yX0_become cX0_become 2 none :: pvTb) mX0_become C_X0_become :=
  pvMet_of hf (y := yX0_become) plX0 pvTb_g coX0 foX0 pvCl (caX0_become hf) (fun ix ic k pc h h4 => by exfalso; unfold eX0 at h; split at h <;> cases h <;> omega) (cpX0 (by decide) (by decide)) ⟨rfl, rfl⟩ chX0_become okX0_become
theorem pnX0_writeTo : pvPn yX0_writeTo = some 2 := by decide +kernel
theorem caX0_writeTo {l : Launch} (hf : l.stackTraces = false) : pvCaOk l mX0_writeTo "EventClockWorkbench$Automaton" pvTb 58 aX0_writeTo := by
  refine pvCaOk_i fun ix n b ci co C h => ?_
  unfold aX0_writeTo at h
  split at h
  · cases h; exact pvCe_NS (metNX9_isIndex hf) rfl wd_1_1 rfl (List.mem_of_getElem? (i := 0) rfl) wd_2_23 pnX9_isIndex wd_2_24
  · cases h
set_option maxRecDepth 100000 in
theorem chX0_writeTo : ∀ pc, pvChain cX0_writeTo pc (bX0_writeTo pc) := by
  intro pc
  unfold bX0_writeTo
  split <;> first | exact True.intro | exact pvChain_of (by decide +kernel)
theorem metX0_writeTo {l : Launch} (hf : l.stackTraces = false) : pvMet l yX0_writeTo (Cond.code yX0_writeTo cX0_writeTo 3 none :: pvTb) mX0_writeTo C_X0_writeTo :=
  pvMet_of hf (y := yX0_writeTo) plX0 pvTb_g coX0 foX0 pvCl (caX0_writeTo hf) (fun ix ic k pc h h4 => by exfalso; unfold eX0 at h; split at h <;> cases h <;> omega) (cpX0 (by decide) (by decide)) ⟨rfl, rfl⟩ chX0_writeTo okX0_writeTo
theorem pnX0_readFrom : pvPn yX0_readFrom = some 2 := by decide +kernel
theorem caX0_readFrom {l : Launch} (hf : l.stackTraces = false) : pvCaOk l mX0_readFrom "EventClockWorkbench$Automaton" pvTb 58 aX0_readFrom := by
  refine pvCaOk_i fun ix n b ci co C h => ?_
  unfold aX0_readFrom at h
  split at h
  · cases h; exact pvCe_NS (metNX9_isIndex hf) rfl wd_1_1 rfl (List.mem_of_getElem? (i := 0) rfl) wd_2_23 pnX9_isIndex wd_2_24
  · cases h
set_option maxRecDepth 100000 in
theorem chX0_readFrom : ∀ pc, pvChain cX0_readFrom pc (bX0_readFrom pc) := by
  intro pc
  unfold bX0_readFrom
  split <;> first | exact True.intro | exact pvChain_of (by decide +kernel)
theorem metX0_readFrom {l : Launch} (hf : l.stackTraces = false) : pvMet l yX0_readFrom (Cond.code yX0_readFrom cX0_readFrom 3 none :: pvTb) mX0_readFrom C_X0_readFrom :=
  pvMet_of hf (y := yX0_readFrom) plX0 pvTb_g coX0 foX0 pvCl (caX0_readFrom hf) (fun ix ic k pc h h4 => by exfalso; unfold eX0 at h; split at h <;> cases h <;> omega) (cpX0 (by decide) (by decide)) ⟨rfl, rfl⟩ chX0_readFrom okX0_readFrom
theorem pnX7_valueOf : pvPn yX7_valueOf = some 2 := by decide +kernel
theorem caX7_valueOf {l : Launch} (hf : l.stackTraces = false) : pvCaOk l mX7_valueOf "EventClockWorkbench$Values" pvTb 58 aX7_valueOf := by
  exact fun ix n b ci co C h => nomatch (show (none : Option (Nat × Bool × Nat × Nat × pvC)) = some (n, b, ci, co, C) from h)
set_option maxRecDepth 100000 in
theorem chX7_valueOf : ∀ pc, pvChain cX7_valueOf pc (bX7_valueOf pc) := by
  intro pc
  unfold bX7_valueOf
  split <;> first | exact True.intro | exact pvChain_of (by decide +kernel)
theorem frX7_valueOf : ∀ pc, (bX7_valueOf pc).all (fun q => pvFrB eX7 q.1) = true := by
  intro pc
  unfold bX7_valueOf
  split <;> rfl
theorem metX7_valueOf {l : Launch} (hf : l.stackTraces = false) : pvMet l yX7_valueOf (Cond.code yX7_valueOf cX7_valueOf 2 (some .int) :: pvTb) mX7_valueOf C_X7_valueOf :=
  pvMet_of hf (y := yX7_valueOf) plX7 pvTb_g coX7 foX7 pvCl (caX7_valueOf hf) pvExOk_0 (fun ix h => by rcases h with h | h <;> cases (show (none : Option Nat) = some _ from h)) ⟨rfl, rfl⟩ chX7_valueOf (pvOkM_ex okX7_valueOf frX7_valueOf)
theorem pnX0_firstUnsatisfied : pvPn yX0_firstUnsatisfied = some 2 := by decide +kernel
theorem caX0_firstUnsatisfied {l : Launch} (hf : l.stackTraces = false) : pvCaOk l mX0_firstUnsatisfied "EventClockWorkbench$Automaton" pvTb 58 aX0_firstUnsatisfied := by
  refine pvCaOk_i fun ix n b ci co C h => ?_
  unfold aX0_firstUnsatisfied at h
  split at h
  · cases h; exact pvCe_V (k := 2) (T := TX0) (N := 1) (metX0_satisfyingValues hf) rfl wd_1_2 rfl wd_2_221 wd_2_223 ps_1_9 pnX0_satisfyingValues rfl wd_2_224
  · cases h; exact pvCe_V (k := 3) (T := TX0) (N := 1) (metX0_constraintCell hf) rfl wd_1_2 rfl wd_2_225 wd_2_226 wd_2_227 pnX0_constraintCell rfl wd_2_228
  · cases h; exact pvCe_V (k := 1) (T := TX0) (N := 1) (metX0_guardSize hf) rfl wd_1_2 rfl wd_4_72 wd_3_96 wd_3_97 pnX0_guardSize rfl wd_3_98
  · cases h; exact pvCe_S (metX7_valueOf hf) rfl wd_1_19 rfl wd_4_73 wd_4_74 pnX7_valueOf wd_4_75
  · cases h
set_option maxRecDepth 100000 in
theorem chX0_firstUnsatisfied : ∀ pc, pvChain cX0_firstUnsatisfied pc (bX0_firstUnsatisfied pc) := by
  intro pc
  unfold bX0_firstUnsatisfied
  split <;> first | exact True.intro | exact pvChain_of (by decide +kernel)
theorem frX0_firstUnsatisfied : ∀ pc, (bX0_firstUnsatisfied pc).all (fun q => pvFrB eX0 q.1) = true := by
  intro pc
  unfold bX0_firstUnsatisfied
  split <;> rfl
theorem metX0_firstUnsatisfied {l : Launch} (hf : l.stackTraces = false) : pvMet l yX0_firstUnsatisfied (Cond.code yX0_firstUnsatisfied cX0_firstUnsatisfied 5 (some .int) :: pvTb) mX0_firstUnsatisfied C_X0_firstUnsatisfied :=
  pvMet_of hf (y := yX0_firstUnsatisfied) plX0 pvTb_g coX0 foX0 pvCl (caX0_firstUnsatisfied hf) pvExOk_0 (fun ix h => by rcases h with h | h <;> cases (show (none : Option Nat) = some _ from h)) ⟨rfl, rfl⟩ chX0_firstUnsatisfied (pvOkM_ex okX0_firstUnsatisfied frX0_firstUnsatisfied)
theorem pnX7_isAllowed : pvPn yX7_isAllowed = some 2 := by decide +kernel
theorem caX7_isAllowed {l : Launch} (hf : l.stackTraces = false) : pvCaOk l mX7_isAllowed "EventClockWorkbench$Values" pvTb 58 aX7_isAllowed := by
  exact fun ix n b ci co C h => nomatch (show (none : Option (Nat × Bool × Nat × Nat × pvC)) = some (n, b, ci, co, C) from h)
set_option maxRecDepth 100000 in
theorem chX7_isAllowed : ∀ pc, pvChain cX7_isAllowed pc (bX7_isAllowed pc) := by
  intro pc
  unfold bX7_isAllowed
  split <;> first | exact True.intro | exact pvChain_of (by decide +kernel)
theorem frX7_isAllowed : ∀ pc, (bX7_isAllowed pc).all (fun q => pvFrB eX7 q.1) = true := by
  intro pc
  unfold bX7_isAllowed
  split <;> rfl
theorem metX7_isAllowed {l : Launch} (hf : l.stackTraces = false) : pvMet l yX7_isAllowed (Cond.code yX7_isAllowed cX7_isAllowed 2 (some .boolean) :: pvTb) mX7_isAllowed C_X7_isAllowed :=
  pvMet_of hf (y := yX7_isAllowed) plX7 pvTb_g coX7 foX7 pvCl (caX7_isAllowed hf) pvExOk_0 (fun ix h => by rcases h with h | h <;> cases (show (none : Option Nat) = some _ from h)) ⟨rfl, rfl⟩ chX7_isAllowed (pvOkM_ex okX7_isAllowed frX7_isAllowed)
theorem pnX0_canRead : pvPn yX0_canRead = some 3 := by decide +kernel
theorem caX0_canRead {l : Launch} (hf : l.stackTraces = false) : pvCaOk l mX0_canRead "EventClockWorkbench$Automaton" pvTb 58 aX0_canRead := by
  refine pvCaOk_i fun ix n b ci co C h => ?_
  unfold aX0_canRead at h
  split at h
  · cases h; exact pvCe_V (k := 1) (T := TX0) (N := 1) (metX0_letter hf) rfl wd_1_2 rfl wd_3_196 wd_3_197 wd_3_198 pnX0_letter rfl wd_3_199
  · cases h; exact pvCe_V (k := 1) (T := TX0) (N := 1) (metX0_allowed hf) rfl wd_1_2 rfl wd_3_200 wd_3_108 wd_3_109 pnX0_allowed rfl wd_3_110
  · cases h; exact pvCe_S (metX7_isAllowed hf) rfl wd_1_19 rfl wd_3_201 wd_3_202 pnX7_isAllowed wd_3_203
  · cases h
set_option maxRecDepth 100000 in
theorem chX0_canRead : ∀ pc, pvChain cX0_canRead pc (bX0_canRead pc) := by
  intro pc
  unfold bX0_canRead
  split <;> first | exact True.intro | exact pvChain_of (by decide +kernel)
theorem frX0_canRead : ∀ pc, (bX0_canRead pc).all (fun q => pvFrB eX0 q.1) = true := by
  intro pc
  unfold bX0_canRead
  split <;> rfl
theorem metX0_canRead {l : Launch} (hf : l.stackTraces = false) : pvMet l yX0_canRead (Cond.code yX0_canRead cX0_canRead 4 (some .boolean) :: pvTb) mX0_canRead C_X0_canRead :=
  pvMet_of hf (y := yX0_canRead) plX0 pvTb_g coX0 foX0 pvCl (caX0_canRead hf) pvExOk_0 (fun ix h => by rcases h with h | h <;> cases (show (none : Option Nat) = some _ from h)) ⟨rfl, rfl⟩ chX0_canRead (pvOkM_ex okX0_canRead frX0_canRead)
theorem metNX0_canRead {l : Launch} (hf : l.stackTraces = false) : pvMetN l yX0_canRead (Cond.code yX0_canRead cX0_canRead 4 (some .boolean) :: pvTb) mX0_canRead C_X0_canRead := by
  refine pvMetN_of (metX0_canRead hf) fun as z Q h => ?_
  unfold C_X0_canRead at h ⊢
  split at h
  · (try simp only [Sum.inl.injEq, exists_eq', and_true]); simp_all
  · exact h.elim
theorem pnX9_hasState : pvPn yX9_hasState = some 2 := by decide +kernel
theorem caX9_hasState {l : Launch} (hf : l.stackTraces = false) : pvCaOk l mX9_hasState "EventClockWorkbench" pvTb 58 aX9_hasState := by
  exact fun ix n b ci co C h => nomatch (show (none : Option (Nat × Bool × Nat × Nat × pvC)) = some (n, b, ci, co, C) from h)
set_option maxRecDepth 100000 in
theorem chX9_hasState : ∀ pc, pvChain cX9_hasState pc (bX9_hasState pc) := by
  intro pc
  unfold bX9_hasState
  split <;> first | exact True.intro | exact pvChain_of (by decide +kernel)
theorem frX9_hasState : ∀ pc, (bX9_hasState pc).all (fun q => pvFrB eX9 q.1) = true := by
  intro pc
  unfold bX9_hasState
  split <;> rfl
theorem metX9_hasState {l : Launch} (hf : l.stackTraces = false) : pvMet l yX9_hasState (Cond.code yX9_hasState cX9_hasState 2 (some .boolean) :: pvTb) mX9_hasState C_X9_hasState :=
  pvMet_of hf (y := yX9_hasState) plX9 pvTb_g coX9 foX9 pvCl (caX9_hasState hf) pvExOk_0 (fun ix h => by rcases h with h | h <;> cases (show (none : Option Nat) = some _ from h)) ⟨rfl, rfl⟩ chX9_hasState (pvOkM_ex okX9_hasState frX9_hasState)
theorem metNX9_hasState {l : Launch} (hf : l.stackTraces = false) : pvMetN l yX9_hasState (Cond.code yX9_hasState cX9_hasState 2 (some .boolean) :: pvTb) mX9_hasState C_X9_hasState := by
  refine pvMetN_of (metX9_hasState hf) fun as z Q h => ?_
  unfold C_X9_hasState at h ⊢
  split at h
  · (try simp only [Sum.inl.injEq, exists_eq', and_true]); simp_all
  · exact h.elim
theorem pnX0_statesBehind : pvPn yX0_statesBehind = some 3 := by decide +kernel
theorem caX0_statesBehind {l : Launch} (hf : l.stackTraces = false) : pvCaOk l mX0_statesBehind "EventClockWorkbench$Automaton" pvTb 58 aX0_statesBehind := by
  refine pvCaOk_i fun ix n b ci co C h => ?_
  unfold aX0_statesBehind at h
  split at h
  · cases h; exact pvCe_V (k := 2) (T := TX0) (N := 1) (metX0_cell hf) rfl wd_1_2 rfl wd_2_229 wd_2_230 wd_2_231 pnX0_cell rfl wd_2_232
  · cases h; exact pvCe_V (k := 0) (T := TX0) (N := 1) (metX0_size hf) rfl wd_1_2 rfl wd_2_211 wd_2_189 wd_2_190 pnX0_size rfl wd_2_191
  · cases h; exact pvCe_NS (metNX9_hasState hf) rfl wd_1_1 rfl (List.mem_of_getElem? (i := 4) rfl) wd_3_34 pnX9_hasState wd_3_35
  · cases h; exact pvCe_V (k := 3) (T := TX0) (N := 1) (metX0_canRead hf) rfl wd_1_2 rfl wd_3_192 wd_3_194 ps_1_11 pnX0_canRead rfl wd_3_195
  · cases h
set_option maxRecDepth 100000 in
theorem chX0_statesBehind : ∀ pc, pvChain cX0_statesBehind pc (bX0_statesBehind pc) := by
  intro pc
  unfold bX0_statesBehind
  split <;> first | exact True.intro | exact pvChain_of (by decide +kernel)
theorem frX0_statesBehind : ∀ pc, (bX0_statesBehind pc).all (fun q => pvFrB eX0 q.1) = true := by
  intro pc
  unfold bX0_statesBehind
  split <;> rfl
theorem metX0_statesBehind {l : Launch} (hf : l.stackTraces = false) : pvMet l yX0_statesBehind (Cond.code yX0_statesBehind cX0_statesBehind 6 (some .int) :: pvTb) mX0_statesBehind C_X0_statesBehind :=
  pvMet_of hf (y := yX0_statesBehind) plX0 pvTb_g coX0 foX0 pvCl (caX0_statesBehind hf) pvExOk_0 (fun ix h => by rcases h with h | h <;> cases (show (none : Option Nat) = some _ from h)) ⟨rfl, rfl⟩ chX0_statesBehind (pvOkM_ex okX0_statesBehind frX0_statesBehind)
theorem pnX0_statesAhead : pvPn yX0_statesAhead = some 3 := by decide +kernel
theorem caX0_statesAhead {l : Launch} (hf : l.stackTraces = false) : pvCaOk l mX0_statesAhead "EventClockWorkbench$Automaton" pvTb 58 aX0_statesAhead := by
  refine pvCaOk_i fun ix n b ci co C h => ?_
  unfold aX0_statesAhead at h
  split at h
  · cases h; exact pvCe_V (k := 2) (T := TX0) (N := 1) (metX0_cell hf) rfl wd_1_2 rfl wd_2_229 wd_2_230 wd_2_231 pnX0_cell rfl wd_2_232
  · cases h; exact pvCe_V (k := 0) (T := TX0) (N := 1) (metX0_size hf) rfl wd_1_2 rfl wd_2_211 wd_2_189 wd_2_190 pnX0_size rfl wd_2_191
  · cases h; exact pvCe_NS (metNX9_hasState hf) rfl wd_1_1 rfl (List.mem_of_getElem? (i := 4) rfl) wd_3_34 pnX9_hasState wd_3_35
  · cases h; exact pvCe_V (k := 3) (T := TX0) (N := 1) (metX0_canRead hf) rfl wd_1_2 rfl wd_3_192 wd_3_194 ps_1_11 pnX0_canRead rfl wd_3_195
  · cases h
set_option maxRecDepth 100000 in
theorem chX0_statesAhead : ∀ pc, pvChain cX0_statesAhead pc (bX0_statesAhead pc) := by
  intro pc
  unfold bX0_statesAhead
  split <;> first | exact True.intro | exact pvChain_of (by decide +kernel)
theorem frX0_statesAhead : ∀ pc, (bX0_statesAhead pc).all (fun q => pvFrB eX0 q.1) = true := by
  intro pc
  unfold bX0_statesAhead
  split <;> rfl
theorem metX0_statesAhead {l : Launch} (hf : l.stackTraces = false) : pvMet l yX0_statesAhead (Cond.code yX0_statesAhead cX0_statesAhead 6 (some .int) :: pvTb) mX0_statesAhead C_X0_statesAhead :=
  pvMet_of hf (y := yX0_statesAhead) plX0 pvTb_g coX0 foX0 pvCl (caX0_statesAhead hf) pvExOk_0 (fun ix h => by rcases h with h | h <;> cases (show (none : Option Nat) = some _ from h)) ⟨rfl, rfl⟩ chX0_statesAhead (pvOkM_ex okX0_statesAhead frX0_statesAhead)
theorem pnX6_letterAt : pvPn yX6_letterAt = some 1 := by decide +kernel
theorem caX6_letterAt {l : Launch} (hf : l.stackTraces = false) : pvCaOk l mX6_letterAt "EventClockWorkbench$TimedWord" pvTb 58 aX6_letterAt := by
  refine pvCaOk_i fun ix n b ci co C h => ?_
  unfold aX6_letterAt at h
  split at h
  · cases h; exact pvCe_NS (metNX9_isIndex hf) rfl wd_1_1 rfl (List.mem_of_getElem? (i := 3) rfl) wd_2_23 pnX9_isIndex wd_2_24
  · cases h
set_option maxRecDepth 100000 in
theorem chX6_letterAt : ∀ pc, pvChain cX6_letterAt pc (bX6_letterAt pc) := by
  intro pc
  unfold bX6_letterAt
  split <;> first | exact True.intro | exact pvChain_of (by decide +kernel)
theorem frX6_letterAt : ∀ pc, (bX6_letterAt pc).all (fun q => pvFrB eX6 q.1) = true := by
  intro pc
  unfold bX6_letterAt
  split <;> rfl
theorem metX6_letterAt {l : Launch} (hf : l.stackTraces = false) : pvMet l yX6_letterAt (Cond.code yX6_letterAt cX6_letterAt 2 (some .int) :: pvTb) mX6_letterAt C_X6_letterAt :=
  pvMet_of hf (y := yX6_letterAt) plX6 pvTb_g coX6 foX6 pvCl (caX6_letterAt hf) pvExOk_0 (fun ix h => by rcases h with h | h <;> cases (show (none : Option Nat) = some _ from h)) ⟨rfl, rfl⟩ chX6_letterAt (pvOkM_ex okX6_letterAt frX6_letterAt)
theorem pnX6_valuationAt : pvPn yX6_valuationAt = some 1 := by decide +kernel
theorem caX6_valuationAt {l : Launch} (hf : l.stackTraces = false) : pvCaOk l mX6_valuationAt "EventClockWorkbench$TimedWord" pvTb 58 aX6_valuationAt := by
  refine pvCaOk_i fun ix n b ci co C h => ?_
  unfold aX6_valuationAt at h
  split at h
  · cases h; exact pvCe_NS (metNX9_isIndex hf) rfl wd_1_1 rfl (List.mem_of_getElem? (i := 3) rfl) wd_2_23 pnX9_isIndex wd_2_24
  · cases h
set_option maxRecDepth 100000 in
theorem chX6_valuationAt : ∀ pc, pvChain cX6_valuationAt pc (bX6_valuationAt pc) := by
  intro pc
  unfold bX6_valuationAt
  split <;> first | exact True.intro | exact pvChain_of (by decide +kernel)
theorem frX6_valuationAt : ∀ pc, (bX6_valuationAt pc).all (fun q => pvFrB eX6 q.1) = true := by
  intro pc
  unfold bX6_valuationAt
  split <;> rfl
theorem metX6_valuationAt {l : Launch} (hf : l.stackTraces = false) : pvMet l yX6_valuationAt (Cond.code yX6_valuationAt cX6_valuationAt 2 (some .int) :: pvTb) mX6_valuationAt C_X6_valuationAt :=
  pvMet_of hf (y := yX6_valuationAt) plX6 pvTb_g coX6 foX6 pvCl (caX6_valuationAt hf) pvExOk_0 (fun ix h => by rcases h with h | h <;> cases (show (none : Option Nat) = some _ from h)) ⟨rfl, rfl⟩ chX6_valuationAt (pvOkM_ex okX6_valuationAt frX6_valuationAt)
theorem pnX0_statesAfterEvents : pvPn yX0_statesAfterEvents = some 2 := by decide +kernel
theorem caX0_statesAfterEvents {l : Launch} (hf : l.stackTraces = false) : pvCaOk l mX0_statesAfterEvents "EventClockWorkbench$Automaton" pvTb 58 aX0_statesAfterEvents := by
  refine pvCaOk_i fun ix n b ci co C h => ?_
  unfold aX0_statesAfterEvents at h
  split at h
  · cases h; exact pvCe_V (k := 0) (T := TX0) (N := 1) (metX0_initialStates hf) rfl wd_1_2 rfl wd_3_184 wd_3_23 wd_3_24 pnX0_initialStates rfl wd_3_25
  · cases h; exact pvCe_V (k := 1) (T := TX6) (N := 5) (metX6_letterAt hf) rfl wd_1_5 rfl wd_3_185 wd_3_153 wd_3_154 pnX6_letterAt rfl wd_3_155
  · cases h; exact pvCe_V (k := 1) (T := TX6) (N := 5) (metX6_valuationAt hf) rfl wd_1_5 rfl wd_3_186 wd_3_164 wd_3_165 pnX6_valuationAt rfl wd_3_166
  · cases h; exact pvCe_V (k := 3) (T := TX0) (N := 1) (metX0_statesBehind hf) rfl wd_1_2 rfl wd_3_187 wd_3_188 wd_3_189 pnX0_statesBehind rfl wd_3_190
  · cases h
set_option maxRecDepth 100000 in
theorem chX0_statesAfterEvents : ∀ pc, pvChain cX0_statesAfterEvents pc (bX0_statesAfterEvents pc) := by
  intro pc
  unfold bX0_statesAfterEvents
  split <;> first | exact True.intro | exact pvChain_of (by decide +kernel)
theorem frX0_statesAfterEvents : ∀ pc, (bX0_statesAfterEvents pc).all (fun q => pvFrB eX0 q.1) = true := by
  intro pc
  unfold bX0_statesAfterEvents
  split <;> rfl
theorem metX0_statesAfterEvents {l : Launch} (hf : l.stackTraces = false) : pvMet l yX0_statesAfterEvents (Cond.code yX0_statesAfterEvents cX0_statesAfterEvents 5 (some .int) :: pvTb) mX0_statesAfterEvents C_X0_statesAfterEvents :=
  pvMet_of hf (y := yX0_statesAfterEvents) plX0 pvTb_g coX0 foX0 pvCl (caX0_statesAfterEvents hf) pvExOk_0 (fun ix h => by rcases h with h | h <;> cases (show (none : Option Nat) = some _ from h)) ⟨rfl, rfl⟩ chX0_statesAfterEvents (pvOkM_ex okX0_statesAfterEvents frX0_statesAfterEvents)
theorem pnX0_firstUnreadable : pvPn yX0_firstUnreadable = some 1 := by decide +kernel
theorem caX0_firstUnreadable {l : Launch} (hf : l.stackTraces = false) : pvCaOk l mX0_firstUnreadable "EventClockWorkbench$Automaton" pvTb 58 aX0_firstUnreadable := by
  refine pvCaOk_i fun ix n b ci co C h => ?_
  unfold aX0_firstUnreadable at h
  split at h
  · cases h; exact pvCe_V (k := 0) (T := TX0) (N := 1) (metX0_initialStates hf) rfl wd_1_2 rfl wd_3_184 wd_3_23 wd_3_24 pnX0_initialStates rfl wd_3_25
  · cases h; exact pvCe_V (k := 1) (T := TX6) (N := 5) (metX6_letterAt hf) rfl wd_1_5 rfl wd_3_185 wd_3_153 wd_3_154 pnX6_letterAt rfl wd_3_155
  · cases h; exact pvCe_V (k := 1) (T := TX6) (N := 5) (metX6_valuationAt hf) rfl wd_1_5 rfl wd_3_186 wd_3_164 wd_3_165 pnX6_valuationAt rfl wd_3_166
  · cases h; exact pvCe_V (k := 3) (T := TX0) (N := 1) (metX0_statesBehind hf) rfl wd_1_2 rfl wd_3_187 wd_3_188 wd_3_189 pnX0_statesBehind rfl wd_3_190
  · cases h
set_option maxRecDepth 100000 in
theorem chX0_firstUnreadable : ∀ pc, pvChain cX0_firstUnreadable pc (bX0_firstUnreadable pc) := by
  intro pc
  unfold bX0_firstUnreadable
  split <;> first | exact True.intro | exact pvChain_of (by decide +kernel)
theorem frX0_firstUnreadable : ∀ pc, (bX0_firstUnreadable pc).all (fun q => pvFrB eX0 q.1) = true := by
  intro pc
  unfold bX0_firstUnreadable
  split <;> rfl
theorem metX0_firstUnreadable {l : Launch} (hf : l.stackTraces = false) : pvMet l yX0_firstUnreadable (Cond.code yX0_firstUnreadable cX0_firstUnreadable 4 (some .int) :: pvTb) mX0_firstUnreadable C_X0_firstUnreadable :=
  pvMet_of hf (y := yX0_firstUnreadable) plX0 pvTb_g coX0 foX0 pvCl (caX0_firstUnreadable hf) pvExOk_0 (fun ix h => by rcases h with h | h <;> cases (show (none : Option Nat) = some _ from h)) ⟨rfl, rfl⟩ chX0_firstUnreadable (pvOkM_ex okX0_firstUnreadable frX0_firstUnreadable)
theorem pnX0_firstMove : pvPn yX0_firstMove = some 4 := by decide +kernel
theorem caX0_firstMove {l : Launch} (hf : l.stackTraces = false) : pvCaOk l mX0_firstMove "EventClockWorkbench$Automaton" pvTb 58 aX0_firstMove := by
  refine pvCaOk_i fun ix n b ci co C h => ?_
  unfold aX0_firstMove at h
  split at h
  · cases h; exact pvCe_V (k := 2) (T := TX0) (N := 1) (metX0_cell hf) rfl wd_1_2 rfl wd_2_229 wd_2_230 wd_2_231 pnX0_cell rfl wd_2_232
  · cases h; exact pvCe_V (k := 0) (T := TX0) (N := 1) (metX0_size hf) rfl wd_1_2 rfl wd_2_211 wd_2_189 wd_2_190 pnX0_size rfl wd_2_191
  · cases h; exact pvCe_NS (metNX9_hasState hf) rfl wd_1_1 rfl (List.mem_of_getElem? (i := 4) rfl) wd_3_34 pnX9_hasState wd_3_35
  · cases h; exact pvCe_V (k := 3) (T := TX0) (N := 1) (metX0_canRead hf) rfl wd_1_2 rfl wd_3_192 wd_3_194 ps_1_11 pnX0_canRead rfl wd_3_195
  · cases h; exact pvCe_V (k := 1) (T := TX6) (N := 5) (metX6_letterAt hf) rfl wd_1_5 rfl wd_3_185 wd_3_153 wd_3_154 pnX6_letterAt rfl wd_3_155
  · cases h; exact pvCe_V (k := 1) (T := TX6) (N := 5) (metX6_valuationAt hf) rfl wd_1_5 rfl wd_3_186 wd_3_164 wd_3_165 pnX6_valuationAt rfl wd_3_166
  · cases h
set_option maxRecDepth 100000 in
theorem chX0_firstMove : ∀ pc, pvChain cX0_firstMove pc (bX0_firstMove pc) := by
  intro pc
  unfold bX0_firstMove
  split <;> first | exact True.intro | exact pvChain_of (by decide +kernel)
theorem frX0_firstMove : ∀ pc, (bX0_firstMove pc).all (fun q => pvFrB eX0 q.1) = true := by
  intro pc
  unfold bX0_firstMove
  split <;> rfl
theorem metX0_firstMove {l : Launch} (hf : l.stackTraces = false) : pvMet l yX0_firstMove (Cond.code yX0_firstMove cX0_firstMove 6 (some .int) :: pvTb) mX0_firstMove C_X0_firstMove :=
  pvMet_of hf (y := yX0_firstMove) plX0 pvTb_g coX0 foX0 pvCl (caX0_firstMove hf) pvExOk_0 (fun ix h => by rcases h with h | h <;> cases (show (none : Option Nat) = some _ from h)) ⟨rfl, rfl⟩ chX0_firstMove (pvOkM_ex okX0_firstMove frX0_firstMove)
theorem pnJ6_bitCount_0f7a4 : pvPn yJ6_bitCount_0f7a4 = some 1 := by decide +kernel
theorem caJ6_bitCount_0f7a4 {l : Launch} (hf : l.stackTraces = false) : pvCaOk l mJ6_bitCount_0f7a4 "java/lang/Integer" pvTb 58 aJ6_bitCount_0f7a4 := by
  exact fun ix n b ci co C h => nomatch (show (none : Option (Nat × Bool × Nat × Nat × pvC)) = some (n, b, ci, co, C) from h)
set_option maxRecDepth 100000 in
theorem chJ6_bitCount_0f7a4 : ∀ pc, pvChain cJ6_bitCount_0f7a4 pc (bJ6_bitCount_0f7a4 pc) := by
  intro pc
  unfold bJ6_bitCount_0f7a4
  split <;> first | exact True.intro | exact pvChain_of (by decide +kernel)
theorem frJ6_bitCount_0f7a4 : ∀ pc, (bJ6_bitCount_0f7a4 pc).all (fun q => pvFrB eJ6 q.1) = true := by
  intro pc
  unfold bJ6_bitCount_0f7a4
  split <;> rfl
theorem metJ6_bitCount_0f7a4 {l : Launch} (hf : l.stackTraces = false) : pvMet l yJ6_bitCount_0f7a4 (Cond.code yJ6_bitCount_0f7a4 cJ6_bitCount_0f7a4 1 (some .int) :: pvTb) mJ6_bitCount_0f7a4 C_J6_bitCount_0f7a4 :=
  pvMet_of hf (y := yJ6_bitCount_0f7a4) plJ6 pvTb_g coJ6 foJ6 pvCl (caJ6_bitCount_0f7a4 hf) pvExOk_0 (fun ix h => by rcases h with h | h <;> cases (show (none : Option Nat) = some _ from h)) ⟨rfl, rfl⟩ chJ6_bitCount_0f7a4 (pvOkM_ex okJ6_bitCount_0f7a4 frJ6_bitCount_0f7a4)
theorem pnX7_countAllowed : pvPn yX7_countAllowed = some 1 := by decide +kernel
theorem caX7_countAllowed {l : Launch} (hf : l.stackTraces = false) : pvCaOk l mX7_countAllowed "EventClockWorkbench$Values" pvTb 58 aX7_countAllowed := by
  refine pvCaOk_i fun ix n b ci co C h => ?_
  unfold aX7_countAllowed at h
  split at h
  · cases h; exact pvCe_S (metJ6_bitCount_0f7a4 hf) rfl wd_1_20 rfl wd_3_114 wd_3_115 pnJ6_bitCount_0f7a4 wd_3_116
  · cases h
set_option maxRecDepth 100000 in
theorem chX7_countAllowed : ∀ pc, pvChain cX7_countAllowed pc (bX7_countAllowed pc) := by
  intro pc
  unfold bX7_countAllowed
  split <;> first | exact True.intro | exact pvChain_of (by decide +kernel)
theorem frX7_countAllowed : ∀ pc, (bX7_countAllowed pc).all (fun q => pvFrB eX7 q.1) = true := by
  intro pc
  unfold bX7_countAllowed
  split <;> rfl
theorem metX7_countAllowed {l : Launch} (hf : l.stackTraces = false) : pvMet l yX7_countAllowed (Cond.code yX7_countAllowed cX7_countAllowed 1 (some .int) :: pvTb) mX7_countAllowed C_X7_countAllowed :=
  pvMet_of hf (y := yX7_countAllowed) plX7 pvTb_g coX7 foX7 pvCl (caX7_countAllowed hf) pvExOk_0 (fun ix h => by rcases h with h | h <;> cases (show (none : Option Nat) = some _ from h)) ⟨rfl, rfl⟩ chX7_countAllowed (pvOkM_ex okX7_countAllowed frX7_countAllowed)
theorem pnX0_hasConflict : pvPn yX0_hasConflict = some 0 := by decide +kernel
theorem caX0_hasConflict {l : Launch} (hf : l.stackTraces = false) : pvCaOk l mX0_hasConflict "EventClockWorkbench$Automaton" pvTb 58 aX0_hasConflict := by
  refine pvCaOk_i fun ix n b ci co C h => ?_
  unfold aX0_hasConflict at h
  split at h
  · cases h; exact pvCe_V (k := 2) (T := TX0) (N := 1) (metX0_cell hf) rfl wd_1_2 rfl wd_2_229 wd_2_230 wd_2_231 pnX0_cell rfl wd_2_232
  · cases h; exact pvCe_V (k := 0) (T := TX0) (N := 1) (metX0_size hf) rfl wd_1_2 rfl wd_2_211 wd_2_189 wd_2_190 pnX0_size rfl wd_2_191
  · cases h; exact pvCe_V (k := 1) (T := TX0) (N := 1) (metX0_letter hf) rfl wd_1_2 rfl wd_3_196 wd_3_197 wd_3_198 pnX0_letter rfl wd_3_199
  · cases h; exact pvCe_V (k := 1) (T := TX0) (N := 1) (metX0_allowed hf) rfl wd_1_2 rfl wd_3_200 wd_3_108 wd_3_109 pnX0_allowed rfl wd_3_110
  · cases h; exact pvCe_S (metX7_countAllowed hf) rfl wd_1_19 rfl wd_4_194 wd_3_112 pnX7_countAllowed wd_3_113
  · cases h
set_option maxRecDepth 100000 in
theorem chX0_hasConflict : ∀ pc, pvChain cX0_hasConflict pc (bX0_hasConflict pc) := by
  intro pc
  unfold bX0_hasConflict
  split <;> first | exact True.intro | exact pvChain_of (by decide +kernel)
theorem frX0_hasConflict : ∀ pc, (bX0_hasConflict pc).all (fun q => pvFrB eX0 q.1) = true := by
  intro pc
  unfold bX0_hasConflict
  split <;> rfl
theorem metX0_hasConflict {l : Launch} (hf : l.stackTraces = false) : pvMet l yX0_hasConflict (Cond.code yX0_hasConflict cX0_hasConflict 3 (some .boolean) :: pvTb) mX0_hasConflict C_X0_hasConflict :=
  pvMet_of hf (y := yX0_hasConflict) plX0 pvTb_g coX0 foX0 pvCl (caX0_hasConflict hf) pvExOk_0 (fun ix h => by rcases h with h | h <;> cases (show (none : Option Nat) = some _ from h)) ⟨rfl, rfl⟩ chX0_hasConflict (pvOkM_ex okX0_hasConflict frX0_hasConflict)
theorem pnX1_hasRoom : pvPn yX1_hasRoom = some 0 := by decide +kernel
theorem caX1_hasRoom {l : Launch} (hf : l.stackTraces = false) : pvCaOk l mX1_hasRoom "EventClockWorkbench$GuardText" pvTb 58 aX1_hasRoom := by
  exact fun ix n b ci co C h => nomatch (show (none : Option (Nat × Bool × Nat × Nat × pvC)) = some (n, b, ci, co, C) from h)
set_option maxRecDepth 100000 in
theorem chX1_hasRoom : ∀ pc, pvChain cX1_hasRoom pc (bX1_hasRoom pc) := by
  intro pc
  unfold bX1_hasRoom
  split <;> first | exact True.intro | exact pvChain_of (by decide +kernel)
theorem frX1_hasRoom : ∀ pc, (bX1_hasRoom pc).all (fun q => pvFrB eX1 q.1) = true := by
  intro pc
  unfold bX1_hasRoom
  split <;> rfl
theorem metX1_hasRoom {l : Launch} (hf : l.stackTraces = false) : pvMet l yX1_hasRoom (Cond.code yX1_hasRoom cX1_hasRoom 1 (some .boolean) :: pvTb) mX1_hasRoom C_X1_hasRoom :=
  pvMet_of hf (y := yX1_hasRoom) plX1 pvTb_g coX1 foX1 pvCl (caX1_hasRoom hf) pvExOk_0 (fun ix h => by rcases h with h | h <;> cases (show (none : Option Nat) = some _ from h)) ⟨rfl, rfl⟩ chX1_hasRoom (pvOkM_ex okX1_hasRoom frX1_hasRoom)
theorem pnX1_append : pvPn yX1_append = some 1 := by decide +kernel
theorem caX1_append {l : Launch} (hf : l.stackTraces = false) : pvCaOk l mX1_append "EventClockWorkbench$GuardText" pvTb 58 aX1_append := by
  refine pvCaOk_i fun ix n b ci co C h => ?_
  unfold aX1_append at h
  split at h
  · cases h; exact pvCe_NS (metNX9_isIndex hf) rfl wd_1_1 rfl (List.mem_of_getElem? (i := 1) rfl) wd_2_23 pnX9_isIndex wd_2_24
  · cases h
set_option maxRecDepth 100000 in
theorem chX1_append : ∀ pc, pvChain cX1_append pc (bX1_append pc) := by
  intro pc
  unfold bX1_append
  split <;> first | exact True.intro | exact pvChain_of (by decide +kernel)
theorem frX1_append : ∀ pc, (bX1_append pc).all (fun q => pvFrB eX1 q.1) = true := by
  intro pc
  unfold bX1_append
  split <;> rfl
theorem metX1_append {l : Launch} (hf : l.stackTraces = false) : pvMet l yX1_append (Cond.code yX1_append cX1_append 2 (some .int) :: pvTb) mX1_append C_X1_append :=
  pvMet_of hf (y := yX1_append) plX1 pvTb_g coX1 foX1 pvCl (caX1_append hf) pvExOk_0 (fun ix h => by rcases h with h | h <;> cases (show (none : Option Nat) = some _ from h)) ⟨rfl, rfl⟩ chX1_append (pvOkM_ex okX1_append frX1_append)
theorem pnX1_characterAt : pvPn yX1_characterAt = some 1 := by decide +kernel
theorem caX1_characterAt {l : Launch} (hf : l.stackTraces = false) : pvCaOk l mX1_characterAt "EventClockWorkbench$GuardText" pvTb 58 aX1_characterAt := by
  refine pvCaOk_i fun ix n b ci co C h => ?_
  unfold aX1_characterAt at h
  split at h
  · cases h; exact pvCe_NS (metNX9_isIndex hf) rfl wd_1_1 rfl (List.mem_of_getElem? (i := 1) rfl) wd_2_23 pnX9_isIndex wd_2_24
  · cases h
set_option maxRecDepth 100000 in
theorem chX1_characterAt : ∀ pc, pvChain cX1_characterAt pc (bX1_characterAt pc) := by
  intro pc
  unfold bX1_characterAt
  split <;> first | exact True.intro | exact pvChain_of (by decide +kernel)
theorem frX1_characterAt : ∀ pc, (bX1_characterAt pc).all (fun q => pvFrB eX1 q.1) = true := by
  intro pc
  unfold bX1_characterAt
  split <;> rfl
theorem metX1_characterAt {l : Launch} (hf : l.stackTraces = false) : pvMet l yX1_characterAt (Cond.code yX1_characterAt cX1_characterAt 2 (some .int) :: pvTb) mX1_characterAt C_X1_characterAt :=
  pvMet_of hf (y := yX1_characterAt) plX1 pvTb_g coX1 foX1 pvCl (caX1_characterAt hf) pvExOk_0 (fun ix h => by rcases h with h | h <;> cases (show (none : Option Nat) = some _ from h)) ⟨rfl, rfl⟩ chX1_characterAt (pvOkM_ex okX1_characterAt frX1_characterAt)
theorem pnX1_stopAt : pvPn yX1_stopAt = some 1 := by decide +kernel
theorem caX1_stopAt {l : Launch} (hf : l.stackTraces = false) : pvCaOk l mX1_stopAt "EventClockWorkbench$GuardText" pvTb 58 aX1_stopAt := by
  exact fun ix n b ci co C h => nomatch (show (none : Option (Nat × Bool × Nat × Nat × pvC)) = some (n, b, ci, co, C) from h)
set_option maxRecDepth 100000 in
theorem chX1_stopAt : ∀ pc, pvChain cX1_stopAt pc (bX1_stopAt pc) := by
  intro pc
  unfold bX1_stopAt
  split <;> first | exact True.intro | exact pvChain_of (by decide +kernel)
theorem frX1_stopAt : ∀ pc, (bX1_stopAt pc).all (fun q => pvFrB eX1 q.1) = true := by
  intro pc
  unfold bX1_stopAt
  split <;> rfl
theorem metX1_stopAt {l : Launch} (hf : l.stackTraces = false) : pvMet l yX1_stopAt (Cond.code yX1_stopAt cX1_stopAt 2 (some .int) :: pvTb) mX1_stopAt C_X1_stopAt :=
  pvMet_of hf (y := yX1_stopAt) plX1 pvTb_g coX1 foX1 pvCl (caX1_stopAt hf) pvExOk_0 (fun ix h => by rcases h with h | h <;> cases (show (none : Option Nat) = some _ from h)) ⟨rfl, rfl⟩ chX1_stopAt (pvOkM_ex okX1_stopAt frX1_stopAt)
theorem pnX1_addConstraint : pvPn yX1_addConstraint = some 3 := by decide +kernel
theorem caX1_addConstraint {l : Launch} (hf : l.stackTraces = false) : pvCaOk l mX1_addConstraint "EventClockWorkbench$GuardText" pvTb 58 aX1_addConstraint := by
  refine pvCaOk_i fun ix n b ci co C h => ?_
  unfold aX1_addConstraint at h
  split at h
  · cases h; exact pvCe_NS (metNX9_isIndex hf) rfl wd_1_1 rfl (List.mem_of_getElem? (i := 1) rfl) wd_2_23 pnX9_isIndex wd_2_24
  · cases h
set_option maxRecDepth 100000 in
theorem chX1_addConstraint : ∀ pc, pvChain cX1_addConstraint pc (bX1_addConstraint pc) := by
  intro pc
  unfold bX1_addConstraint
  split <;> first | exact True.intro | exact pvChain_of (by decide +kernel)
theorem frX1_addConstraint : ∀ pc, (bX1_addConstraint pc).all (fun q => pvFrB eX1 q.1) = true := by
  intro pc
  unfold bX1_addConstraint
  split <;> rfl
theorem metX1_addConstraint {l : Launch} (hf : l.stackTraces = false) : pvMet l yX1_addConstraint (Cond.code yX1_addConstraint cX1_addConstraint 5 none :: pvTb) mX1_addConstraint C_X1_addConstraint :=
  pvMet_of hf (y := yX1_addConstraint) plX1 pvTb_g coX1 foX1 pvCl (caX1_addConstraint hf) pvExOk_0 (fun ix h => by rcases h with h | h <;> cases (show (none : Option Nat) = some _ from h)) ⟨rfl, rfl⟩ chX1_addConstraint (pvOkM_ex okX1_addConstraint frX1_addConstraint)
theorem pnX9_isBetween : pvPn yX9_isBetween = some 3 := by decide +kernel
theorem caX9_isBetween {l : Launch} (hf : l.stackTraces = false) : pvCaOk l mX9_isBetween "EventClockWorkbench" pvTb 58 aX9_isBetween := by
  exact fun ix n b ci co C h => nomatch (show (none : Option (Nat × Bool × Nat × Nat × pvC)) = some (n, b, ci, co, C) from h)
set_option maxRecDepth 100000 in
theorem chX9_isBetween : ∀ pc, pvChain cX9_isBetween pc (bX9_isBetween pc) := by
  intro pc
  unfold bX9_isBetween
  split <;> first | exact True.intro | exact pvChain_of (by decide +kernel)
theorem frX9_isBetween : ∀ pc, (bX9_isBetween pc).all (fun q => pvFrB eX9 q.1) = true := by
  intro pc
  unfold bX9_isBetween
  split <;> rfl
theorem metX9_isBetween {l : Launch} (hf : l.stackTraces = false) : pvMet l yX9_isBetween (Cond.code yX9_isBetween cX9_isBetween 3 (some .boolean) :: pvTb) mX9_isBetween C_X9_isBetween :=
  pvMet_of hf (y := yX9_isBetween) plX9 pvTb_g coX9 foX9 pvCl (caX9_isBetween hf) pvExOk_0 (fun ix h => by rcases h with h | h <;> cases (show (none : Option Nat) = some _ from h)) ⟨rfl, rfl⟩ chX9_isBetween (pvOkM_ex okX9_isBetween frX9_isBetween)
theorem metNX9_isBetween {l : Launch} (hf : l.stackTraces = false) : pvMetN l yX9_isBetween (Cond.code yX9_isBetween cX9_isBetween 3 (some .boolean) :: pvTb) mX9_isBetween C_X9_isBetween := by
  refine pvMetN_of (metX9_isBetween hf) fun as z Q h => ?_
  unfold C_X9_isBetween at h ⊢
  split at h
  · (try simp only [Sum.inl.injEq, exists_eq', and_true]); simp_all
  · exact h.elim
theorem pnX1_comparison : pvPn yX1_comparison = some 2 := by decide +kernel
theorem caX1_comparison {l : Launch} (hf : l.stackTraces = false) : pvCaOk l mX1_comparison "EventClockWorkbench$GuardText" pvTb 58 aX1_comparison := by
  exact fun ix n b ci co C h => nomatch (show (none : Option (Nat × Bool × Nat × Nat × pvC)) = some (n, b, ci, co, C) from h)
set_option maxRecDepth 100000 in
theorem chX1_comparison : ∀ pc, pvChain cX1_comparison pc (bX1_comparison pc) := by
  intro pc
  unfold bX1_comparison
  split <;> first | exact True.intro | exact pvChain_of (by decide +kernel)
theorem frX1_comparison : ∀ pc, (bX1_comparison pc).all (fun q => pvFrB eX1 q.1) = true := by
  intro pc
  unfold bX1_comparison
  split <;> rfl
theorem metX1_comparison {l : Launch} (hf : l.stackTraces = false) : pvMet l yX1_comparison (Cond.code yX1_comparison cX1_comparison 2 (some .int) :: pvTb) mX1_comparison C_X1_comparison :=
  pvMet_of hf (y := yX1_comparison) plX1 pvTb_g coX1 foX1 pvCl (caX1_comparison hf) pvExOk_0 (fun ix h => by rcases h with h | h <;> cases (show (none : Option Nat) = some _ from h)) ⟨rfl, rfl⟩ chX1_comparison (pvOkM_ex okX1_comparison frX1_comparison)
theorem pnX1_readConstraint : pvPn yX1_readConstraint = some 1 := by decide +kernel
theorem caX1_readConstraint {l : Launch} (hf : l.stackTraces = false) : pvCaOk l mX1_readConstraint "EventClockWorkbench$GuardText" pvTb 58 aX1_readConstraint := by
  refine pvCaOk_i fun ix n b ci co C h => ?_
  unfold aX1_readConstraint at h
  split at h
  · cases h; exact pvCe_NS (metNX9_isIndex hf) rfl wd_1_1 rfl (List.mem_of_getElem? (i := 1) rfl) wd_2_23 pnX9_isIndex wd_2_24
  · cases h; exact pvCe_V (k := 1) (T := TX1) (N := 5) (metX1_characterAt hf) rfl wd_1_4 rfl wd_2_168 wd_2_170 ps_1_2 pnX1_characterAt rfl wd_2_171
  · cases h; exact pvCe_V (k := 1) (T := TX1) (N := 5) (metX1_stopAt hf) rfl wd_1_4 rfl wd_2_172 wd_2_174 ps_1_3 pnX1_stopAt rfl wd_2_175
  · cases h; exact pvCe_V (k := 3) (T := TX1) (N := 5) (metX1_addConstraint hf) rfl wd_1_4 rfl wd_2_176 wd_2_178 ps_1_4 pnX1_addConstraint rfl wd_2_179
  · cases h; exact pvCe_NS (metNX9_isBetween hf) rfl wd_1_1 rfl (List.mem_of_getElem? (i := 2) rfl) wd_2_38 pnX9_isBetween wd_2_39
  · cases h; exact pvCe_S (metX1_comparison hf) rfl wd_1_4 rfl wd_2_181 wd_2_182 pnX1_comparison wd_2_183
  · cases h
set_option maxRecDepth 100000 in
theorem chX1_readConstraint : ∀ pc, pvChain cX1_readConstraint pc (bX1_readConstraint pc) := by
  intro pc
  unfold bX1_readConstraint
  split <;> first | exact True.intro | exact pvChain_of (by decide +kernel)
theorem frX1_readConstraint : ∀ pc, (bX1_readConstraint pc).all (fun q => pvFrB eX1 q.1) = true := by
  intro pc
  unfold bX1_readConstraint
  split <;> rfl
theorem metX1_readConstraint {l : Launch} (hf : l.stackTraces = false) : pvMet l yX1_readConstraint (Cond.code yX1_readConstraint cX1_readConstraint 7 (some .int) :: pvTb) mX1_readConstraint C_X1_readConstraint :=
  pvMet_of hf (y := yX1_readConstraint) plX1 pvTb_g coX1 foX1 pvCl (caX1_readConstraint hf) pvExOk_0 (fun ix h => by rcases h with h | h <;> cases (show (none : Option Nat) = some _ from h)) ⟨rfl, rfl⟩ chX1_readConstraint (pvOkM_ex okX1_readConstraint frX1_readConstraint)
