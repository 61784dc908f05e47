/-! contracts over the machine, 1 -/
theorem pnX0_size : pvPn yX0_size = some 0 := by decide +kernel
theorem caX0_size {l : Launch} (hf : l.stackTraces = false) (lm : Nat → Prop) (sc : Nat × (Nat → Int)) : pvCaOk l mX0_size "EventClockWorkbench$Automaton" pvTb lm sc aX0_size := by
  exact fun ix n b ci co C h => nomatch (show (none : Option (Nat × Bool × Nat × Nat × pvC)) = some (n, b, ci, co, C) from h)
set_option maxRecDepth 100000 in
theorem chX0_size : ∀ pc, pvChain cX0_size pc (bX0_size pc) := by
  intro pc
  unfold bX0_size
  split <;> first | exact True.intro | exact pvChain_of (by decide +kernel)
theorem frX0_size : ∀ pc, (bX0_size pc).all (fun q => pvFrB eX0 q.1) = true := by
  intro pc
  unfold bX0_size
  split <;> rfl
theorem metX0_size {l : Launch} (hf : l.stackTraces = false) : pvMet l yX0_size (Cond.code yX0_size cX0_size 1 (some .int) :: pvTb) mX0_size C_X0_size :=
  pvMet_of hf (y := yX0_size) plX0 pvTb_g coX0 foX0 pvCl (caX0_size hf) pvExOk_0 (fun ix h => by rcases h with h | h <;> cases (show (none : Option Nat) = some _ from h)) ⟨rfl, rfl⟩ chX0_size (pvOkM_ex okX0_size frX0_size)
theorem pnX0_initialStates : pvPn yX0_initialStates = some 0 := by decide +kernel
theorem caX0_initialStates {l : Launch} (hf : l.stackTraces = false) (lm : Nat → Prop) (sc : Nat × (Nat → Int)) : pvCaOk l mX0_initialStates "EventClockWorkbench$Automaton" pvTb lm sc aX0_initialStates := by
  exact fun ix n b ci co C h => nomatch (show (none : Option (Nat × Bool × Nat × Nat × pvC)) = some (n, b, ci, co, C) from h)
set_option maxRecDepth 100000 in
theorem chX0_initialStates : ∀ pc, pvChain cX0_initialStates pc (bX0_initialStates pc) := by
  intro pc
  unfold bX0_initialStates
  split <;> first | exact True.intro | exact pvChain_of (by decide +kernel)
theorem frX0_initialStates : ∀ pc, (bX0_initialStates pc).all (fun q => pvFrB eX0 q.1) = true := by
  intro pc
  unfold bX0_initialStates
  split <;> rfl
theorem metX0_initialStates {l : Launch} (hf : l.stackTraces = false) : pvMet l yX0_initialStates (Cond.code yX0_initialStates cX0_initialStates 1 (some .int) :: pvTb) mX0_initialStates C_X0_initialStates :=
  pvMet_of hf (y := yX0_initialStates) plX0 pvTb_g coX0 foX0 pvCl (caX0_initialStates hf) pvExOk_0 (fun ix h => by rcases h with h | h <;> cases (show (none : Option Nat) = some _ from h)) ⟨rfl, rfl⟩ chX0_initialStates (pvOkM_ex okX0_initialStates frX0_initialStates)
theorem pnX0_finalStates : pvPn yX0_finalStates = some 0 := by decide +kernel
theorem caX0_finalStates {l : Launch} (hf : l.stackTraces = false) (lm : Nat → Prop) (sc : Nat × (Nat → Int)) : pvCaOk l mX0_finalStates "EventClockWorkbench$Automaton" pvTb lm sc aX0_finalStates := by
  exact fun ix n b ci co C h => nomatch (show (none : Option (Nat × Bool × Nat × Nat × pvC)) = some (n, b, ci, co, C) from h)
set_option maxRecDepth 100000 in
theorem chX0_finalStates : ∀ pc, pvChain cX0_finalStates pc (bX0_finalStates pc) := by
  intro pc
  unfold bX0_finalStates
  split <;> first | exact True.intro | exact pvChain_of (by decide +kernel)
theorem frX0_finalStates : ∀ pc, (bX0_finalStates pc).all (fun q => pvFrB eX0 q.1) = true := by
  intro pc
  unfold bX0_finalStates
  split <;> rfl
theorem metX0_finalStates {l : Launch} (hf : l.stackTraces = false) : pvMet l yX0_finalStates (Cond.code yX0_finalStates cX0_finalStates 1 (some .int) :: pvTb) mX0_finalStates C_X0_finalStates :=
  pvMet_of hf (y := yX0_finalStates) plX0 pvTb_g coX0 foX0 pvCl (caX0_finalStates hf) pvExOk_0 (fun ix h => by rcases h with h | h <;> cases (show (none : Option Nat) = some _ from h)) ⟨rfl, rfl⟩ chX0_finalStates (pvOkM_ex okX0_finalStates frX0_finalStates)
theorem pnX0_putInitialStates : pvPn yX0_putInitialStates = some 1 := by decide +kernel
theorem caX0_putInitialStates {l : Launch} (hf : l.stackTraces = false) (lm : Nat → Prop) (sc : Nat × (Nat → Int)) : pvCaOk l mX0_putInitialStates "EventClockWorkbench$Automaton" pvTb lm sc aX0_putInitialStates := by
  exact fun ix n b ci co C h => nomatch (show (none : Option (Nat × Bool × Nat × Nat × pvC)) = some (n, b, ci, co, C) from h)
set_option maxRecDepth 100000 in
theorem chX0_putInitialStates : ∀ pc, pvChain cX0_putInitialStates pc (bX0_putInitialStates pc) := by
  intro pc
  unfold bX0_putInitialStates
  split <;> first | exact True.intro | exact pvChain_of (by decide +kernel)
theorem frX0_putInitialStates : ∀ pc, (bX0_putInitialStates pc).all (fun q => pvFrB eX0 q.1) = true := by
  intro pc
  unfold bX0_putInitialStates
  split <;> rfl
theorem metX0_putInitialStates {l : Launch} (hf : l.stackTraces = false) : pvMet l yX0_putInitialStates (Cond.code yX0_putInitialStates cX0_putInitialStates 2 none :: pvTb) mX0_putInitialStates C_X0_putInitialStates :=
  pvMet_of hf (y := yX0_putInitialStates) plX0 pvTb_g coX0 foX0 pvCl (caX0_putInitialStates hf) pvExOk_0 (fun ix h => by rcases h with h | h <;> cases (show (none : Option Nat) = some _ from h)) ⟨rfl, rfl⟩ chX0_putInitialStates (pvOkM_ex okX0_putInitialStates frX0_putInitialStates)
theorem pnX0_putFinalStates : pvPn yX0_putFinalStates = some 1 := by decide +kernel
theorem caX0_putFinalStates {l : Launch} (hf : l.stackTraces = false) (lm : Nat → Prop) (sc : Nat × (Nat → Int)) : pvCaOk l mX0_putFinalStates "EventClockWorkbench$Automaton" pvTb lm sc aX0_putFinalStates := by
  exact fun ix n b ci co C h => nomatch (show (none : Option (Nat × Bool × Nat × Nat × pvC)) = some (n, b, ci, co, C) from h)
set_option maxRecDepth 100000 in
theorem chX0_putFinalStates : ∀ pc, pvChain cX0_putFinalStates pc (bX0_putFinalStates pc) := by
  intro pc
  unfold bX0_putFinalStates
  split <;> first | exact True.intro | exact pvChain_of (by decide +kernel)
theorem frX0_putFinalStates : ∀ pc, (bX0_putFinalStates pc).all (fun q => pvFrB eX0 q.1) = true := by
  intro pc
  unfold bX0_putFinalStates
  split <;> rfl
theorem metX0_putFinalStates {l : Launch} (hf : l.stackTraces = false) : pvMet l yX0_putFinalStates (Cond.code yX0_putFinalStates cX0_putFinalStates 2 none :: pvTb) mX0_putFinalStates C_X0_putFinalStates :=
  pvMet_of hf (y := yX0_putFinalStates) plX0 pvTb_g coX0 foX0 pvCl (caX0_putFinalStates hf) pvExOk_0 (fun ix h => by rcases h with h | h <;> cases (show (none : Option Nat) = some _ from h)) ⟨rfl, rfl⟩ chX0_putFinalStates (pvOkM_ex okX0_putFinalStates frX0_putFinalStates)
theorem pnX9_isIndex : pvPn yX9_isIndex = some 2 := by decide +kernel
theorem caX9_isIndex {l : Launch} (hf : l.stackTraces = false) (lm : Nat → Prop) (sc : Nat × (Nat → Int)) : pvCaOk l mX9_isIndex "EventClockWorkbench" pvTb lm sc aX9_isIndex := by
  exact fun ix n b ci co C h => nomatch (show (none : Option (Nat × Bool × Nat × Nat × pvC)) = some (n, b, ci, co, C) from h)
set_option maxRecDepth 100000 in
theorem chX9_isIndex : ∀ pc, pvChain cX9_isIndex pc (bX9_isIndex pc) := by
  intro pc
  unfold bX9_isIndex
  split <;> first | exact True.intro | exact pvChain_of (by decide +kernel)
theorem frX9_isIndex : ∀ pc, (bX9_isIndex pc).all (fun q => pvFrB eX9 q.1) = true := by
  intro pc
  unfold bX9_isIndex
  split <;> rfl
theorem metX9_isIndex {l : Launch} (hf : l.stackTraces = false) : pvMet l yX9_isIndex (Cond.code yX9_isIndex cX9_isIndex 2 (some .boolean) :: pvTb) mX9_isIndex C_X9_isIndex :=
  pvMet_of hf (y := yX9_isIndex) plX9 pvTb_g coX9 foX9 pvCl (caX9_isIndex hf) pvExOk_0 (fun ix h => by rcases h with h | h <;> cases (show (none : Option Nat) = some _ from h)) ⟨rfl, rfl⟩ chX9_isIndex (pvOkM_ex okX9_isIndex frX9_isIndex)
theorem metNX9_isIndex {l : Launch} (hf : l.stackTraces = false) : pvMetN l yX9_isIndex (Cond.code yX9_isIndex cX9_isIndex 2 (some .boolean) :: pvTb) mX9_isIndex C_X9_isIndex := by
  refine pvMetN_of (metX9_isIndex hf) fun as z Q h => ?_
  unfold C_X9_isIndex at h ⊢
  split at h
  · (try simp only [Sum.inl.injEq, exists_eq', and_true]); simp_all
  · exact h.elim
theorem pnX0_cell : pvPn yX0_cell = some 2 := by decide +kernel
theorem caX0_cell {l : Launch} (hf : l.stackTraces = false) (lm : Nat → Prop) (sc : Nat × (Nat → Int)) : pvCaOk l mX0_cell "EventClockWorkbench$Automaton" pvTb lm sc aX0_cell := by
  refine pvCaOk_i fun ix n b ci co C h => ?_
  unfold aX0_cell at h
  split at h
  · cases h; exact pvCe_NS (metNX9_isIndex hf) rfl wd_1_1 rfl (List.mem_of_getElem? (i := 1) rfl) wd_2_95 pnX9_isIndex wd_2_96
  · cases h
set_option maxRecDepth 100000 in
theorem chX0_cell : ∀ pc, pvChain cX0_cell pc (bX0_cell pc) := by
  intro pc
  unfold bX0_cell
  split <;> first | exact True.intro | exact pvChain_of (by decide +kernel)
theorem frX0_cell : ∀ pc, (bX0_cell pc).all (fun q => pvFrB eX0 q.1) = true := by
  intro pc
  unfold bX0_cell
  split <;> rfl
theorem metX0_cell {l : Launch} (hf : l.stackTraces = false) : pvMet l yX0_cell (Cond.code yX0_cell cX0_cell 4 (some .int) :: pvTb) mX0_cell C_X0_cell :=
  pvMet_of hf (y := yX0_cell) plX0 pvTb_g coX0 foX0 pvCl (caX0_cell hf) pvExOk_0 (fun ix h => by rcases h with h | h <;> cases (show (none : Option Nat) = some _ from h)) ⟨rfl, rfl⟩ chX0_cell (pvOkM_ex okX0_cell frX0_cell)
theorem pnX0_letter : pvPn yX0_letter = some 1 := by decide +kernel
theorem caX0_letter {l : Launch} (hf : l.stackTraces = false) (lm : Nat → Prop) (sc : Nat × (Nat → Int)) : pvCaOk l mX0_letter "EventClockWorkbench$Automaton" pvTb lm sc aX0_letter := by
  refine pvCaOk_i fun ix n b ci co C h => ?_
  unfold aX0_letter at h
  split at h
  · cases h; exact pvCe_V (k := 2) (T := TX0) (N := 1) (metX0_cell hf) rfl wd_1_2 rfl wd_2_167 wd_2_168 wd_2_169 pnX0_cell rfl wd_2_170
  · cases h
set_option maxRecDepth 100000 in
theorem chX0_letter : ∀ pc, pvChain cX0_letter pc (bX0_letter pc) := by
  intro pc
  unfold bX0_letter
  split <;> first | exact True.intro | exact pvChain_of (by decide +kernel)
theorem frX0_letter : ∀ pc, (bX0_letter pc).all (fun q => pvFrB eX0 q.1) = true := by
  intro pc
  unfold bX0_letter
  split <;> rfl
theorem metX0_letter {l : Launch} (hf : l.stackTraces = false) : pvMet l yX0_letter (Cond.code yX0_letter cX0_letter 2 (some .int) :: pvTb) mX0_letter C_X0_letter :=
  pvMet_of hf (y := yX0_letter) plX0 pvTb_g coX0 foX0 pvCl (caX0_letter hf) pvExOk_0 (fun ix h => by rcases h with h | h <;> cases (show (none : Option Nat) = some _ from h)) ⟨rfl, rfl⟩ chX0_letter (pvOkM_ex okX0_letter frX0_letter)
theorem pnX0_allowed : pvPn yX0_allowed = some 1 := by decide +kernel
theorem caX0_allowed {l : Launch} (hf : l.stackTraces = false) (lm : Nat → Prop) (sc : Nat × (Nat → Int)) : pvCaOk l mX0_allowed "EventClockWorkbench$Automaton" pvTb lm sc aX0_allowed := by
  refine pvCaOk_i fun ix n b ci co C h => ?_
  unfold aX0_allowed at h
  split at h
  · cases h; exact pvCe_V (k := 2) (T := TX0) (N := 1) (metX0_cell hf) rfl wd_1_2 rfl wd_2_167 wd_2_168 wd_2_169 pnX0_cell rfl wd_2_170
  · cases h
set_option maxRecDepth 100000 in
theorem chX0_allowed : ∀ pc, pvChain cX0_allowed pc (bX0_allowed pc) := by
  intro pc
  unfold bX0_allowed
  split <;> first | exact True.intro | exact pvChain_of (by decide +kernel)
theorem frX0_allowed : ∀ pc, (bX0_allowed pc).all (fun q => pvFrB eX0 q.1) = true := by
  intro pc
  unfold bX0_allowed
  split <;> rfl
theorem metX0_allowed {l : Launch} (hf : l.stackTraces = false) : pvMet l yX0_allowed (Cond.code yX0_allowed cX0_allowed 2 (some .int) :: pvTb) mX0_allowed C_X0_allowed :=
  pvMet_of hf (y := yX0_allowed) plX0 pvTb_g coX0 foX0 pvCl (caX0_allowed hf) pvExOk_0 (fun ix h => by rcases h with h | h <;> cases (show (none : Option Nat) = some _ from h)) ⟨rfl, rfl⟩ chX0_allowed (pvOkM_ex okX0_allowed frX0_allowed)
theorem pnX0_constraintCell : pvPn yX0_constraintCell = some 3 := by decide +kernel
theorem caX0_constraintCell {l : Launch} (hf : l.stackTraces = false) (lm : Nat → Prop) (sc : Nat × (Nat → Int)) : pvCaOk l mX0_constraintCell "EventClockWorkbench$Automaton" pvTb lm sc aX0_constraintCell := by
  refine pvCaOk_i fun ix n b ci co C h => ?_
  unfold aX0_constraintCell at h
  split at h
  · cases h; exact pvCe_V (k := 2) (T := TX0) (N := 1) (metX0_cell hf) rfl wd_1_2 rfl wd_2_167 wd_2_168 wd_2_169 pnX0_cell rfl wd_2_170
  · cases h
set_option maxRecDepth 100000 in
theorem chX0_constraintCell : ∀ pc, pvChain cX0_constraintCell pc (bX0_constraintCell pc) := by
  intro pc
  unfold bX0_constraintCell
  split <;> first | exact True.intro | exact pvChain_of (by decide +kernel)
theorem frX0_constraintCell : ∀ pc, (bX0_constraintCell pc).all (fun q => pvFrB eX0 q.1) = true := by
  intro pc
  unfold bX0_constraintCell
  split <;> rfl
theorem metX0_constraintCell {l : Launch} (hf : l.stackTraces = false) : pvMet l yX0_constraintCell (Cond.code yX0_constraintCell cX0_constraintCell 4 (some .int) :: pvTb) mX0_constraintCell C_X0_constraintCell :=
  pvMet_of hf (y := yX0_constraintCell) plX0 pvTb_g coX0 foX0 pvCl (caX0_constraintCell hf) pvExOk_0 (fun ix h => by rcases h with h | h <;> cases (show (none : Option Nat) = some _ from h)) ⟨rfl, rfl⟩ chX0_constraintCell (pvOkM_ex okX0_constraintCell frX0_constraintCell)
theorem pnX0_putCell : pvPn yX0_putCell = some 3 := by decide +kernel
theorem caX0_putCell {l : Launch} (hf : l.stackTraces = false) (lm : Nat → Prop) (sc : Nat × (Nat → Int)) : pvCaOk l mX0_putCell "EventClockWorkbench$Automaton" pvTb lm sc aX0_putCell := by
  refine pvCaOk_i fun ix n b ci co C h => ?_
  unfold aX0_putCell at h
  split at h
  · cases h; exact pvCe_NS (metNX9_isIndex hf) rfl wd_1_1 rfl (List.mem_of_getElem? (i := 1) rfl) wd_2_95 pnX9_isIndex wd_2_96
  · cases h
set_option maxRecDepth 100000 in
theorem chX0_putCell : ∀ pc, pvChain cX0_putCell pc (bX0_putCell pc) := by
  intro pc
  unfold bX0_putCell
  split <;> first | exact True.intro | exact pvChain_of (by decide +kernel)
theorem frX0_putCell : ∀ pc, (bX0_putCell pc).all (fun q => pvFrB eX0 q.1) = true := by
  intro pc
  unfold bX0_putCell
  split <;> rfl
theorem metX0_putCell {l : Launch} (hf : l.stackTraces = false) : pvMet l yX0_putCell (Cond.code yX0_putCell cX0_putCell 5 none :: pvTb) mX0_putCell C_X0_putCell :=
  pvMet_of hf (y := yX0_putCell) plX0 pvTb_g coX0 foX0 pvCl (caX0_putCell hf) pvExOk_0 (fun ix h => by rcases h with h | h <;> cases (show (none : Option Nat) = some _ from h)) ⟨rfl, rfl⟩ chX0_putCell (pvOkM_ex okX0_putCell frX0_putCell)
theorem pnX1_numberAt : pvPn yX1_numberAt = some 2 := by decide +kernel
theorem caX1_numberAt {l : Launch} (hf : l.stackTraces = false) (lm : Nat → Prop) (sc : Nat × (Nat → Int)) : pvCaOk l mX1_numberAt "EventClockWorkbench$GuardText" pvTb lm sc aX1_numberAt := by
  refine pvCaOk_i fun ix n b ci co C h => ?_
  unfold aX1_numberAt at h
  split at h
  · cases h; exact pvCe_NS (metNX9_isIndex hf) rfl wd_1_1 rfl (List.mem_of_getElem? (i := 5) rfl) wd_2_95 pnX9_isIndex wd_2_96
  · cases h
set_option maxRecDepth 100000 in
theorem chX1_numberAt : ∀ pc, pvChain cX1_numberAt pc (bX1_numberAt pc) := by
  intro pc
  unfold bX1_numberAt
  split <;> first | exact True.intro | exact pvChain_of (by decide +kernel)
theorem frX1_numberAt : ∀ pc, (bX1_numberAt pc).all (fun q => pvFrB eX1 q.1) = true := by
  intro pc
  unfold bX1_numberAt
  split <;> rfl
theorem metX1_numberAt {l : Launch} (hf : l.stackTraces = false) : pvMet l yX1_numberAt (Cond.code yX1_numberAt cX1_numberAt 4 (some .int) :: pvTb) mX1_numberAt C_X1_numberAt :=
  pvMet_of hf (y := yX1_numberAt) plX1 pvTb_g coX1 foX1 pvCl (caX1_numberAt hf) pvExOk_0 (fun ix h => by rcases h with h | h <;> cases (show (none : Option Nat) = some _ from h)) ⟨rfl, rfl⟩ chX1_numberAt (pvOkM_ex okX1_numberAt frX1_numberAt)
theorem pnX7_satisfying : pvPn yX7_satisfying = some 2 := by decide +kernel
theorem caX7_satisfying {l : Launch} (hf : l.stackTraces = false) (lm : Nat → Prop) (sc : Nat × (Nat → Int)) : pvCaOk l mX7_satisfying "EventClockWorkbench$Values" pvTb lm sc aX7_satisfying := by
  exact fun ix n b ci co C h => nomatch (show (none : Option (Nat × Bool × Nat × Nat × pvC)) = some (n, b, ci, co, C) from h)
set_option maxRecDepth 100000 in
theorem chX7_satisfying : ∀ pc, pvChain cX7_satisfying pc (bX7_satisfying pc) := by
  intro pc
  unfold bX7_satisfying
  split <;> first | exact True.intro | exact pvChain_of (by decide +kernel)
theorem frX7_satisfying : ∀ pc, (bX7_satisfying pc).all (fun q => pvFrB eX7 q.1) = true := by
  intro pc
  unfold bX7_satisfying
  split <;> rfl
theorem metX7_satisfying {l : Launch} (hf : l.stackTraces = false) : pvMet l yX7_satisfying (Cond.code yX7_satisfying cX7_satisfying 2 (some .int) :: pvTb) mX7_satisfying C_X7_satisfying :=
  pvMet_of hf (y := yX7_satisfying) plX7 pvTb_g coX7 foX7 pvCl (caX7_satisfying hf) pvExOk_0 (fun ix h => by rcases h with h | h <;> cases (show (none : Option Nat) = some _ from h)) ⟨rfl, rfl⟩ chX7_satisfying (pvOkM_ex okX7_satisfying frX7_satisfying)
theorem pnX0_satisfyingValues : pvPn yX0_satisfyingValues = some 2 := by decide +kernel
theorem caX0_satisfyingValues {l : Launch} (hf : l.stackTraces = false) (lm : Nat → Prop) (sc : Nat × (Nat → Int)) : pvCaOk l mX0_satisfyingValues "EventClockWorkbench$Automaton" pvTb lm sc aX0_satisfyingValues := by
  refine pvCaOk_i fun ix n b ci co C h => ?_
  unfold aX0_satisfyingValues at h
  split at h
  · cases h; exact pvCe_V (k := 3) (T := TX0) (N := 1) (metX0_constraintCell hf) rfl wd_1_2 rfl wd_4_171 wd_4_172 wd_4_173 pnX0_constraintCell rfl wd_4_174
  · cases h; exact pvCe_S (metX7_satisfying hf) rfl wd_1_28 rfl wd_4_175 wd_4_176 pnX7_satisfying wd_4_177
  · cases h
set_option maxRecDepth 100000 in
theorem chX0_satisfyingValues : ∀ pc, pvChain cX0_satisfyingValues pc (bX0_satisfyingValues pc) := by
  intro pc
  unfold bX0_satisfyingValues
  split <;> first | exact True.intro | exact pvChain_of (by decide +kernel)
theorem frX0_satisfyingValues : ∀ pc, (bX0_satisfyingValues pc).all (fun q => pvFrB eX0 q.1) = true := by
  intro pc
  unfold bX0_satisfyingValues
  split <;> rfl
theorem metX0_satisfyingValues {l : Launch} (hf : l.stackTraces = false) : pvMet l yX0_satisfyingValues (Cond.code yX0_satisfyingValues cX0_satisfyingValues 3 (some .int) :: pvTb) mX0_satisfyingValues C_X0_satisfyingValues :=
  pvMet_of hf (y := yX0_satisfyingValues) plX0 pvTb_g coX0 foX0 pvCl (caX0_satisfyingValues hf) pvExOk_0 (fun ix h => by rcases h with h | h <;> cases (show (none : Option Nat) = some _ from h)) ⟨rfl, rfl⟩ chX0_satisfyingValues (pvOkM_ex okX0_satisfyingValues frX0_satisfyingValues)
theorem pnX7_narrowed : pvPn yX7_narrowed = some 3 := by decide +kernel
theorem caX7_narrowed {l : Launch} (hf : l.stackTraces = false) (lm : Nat → Prop) (sc : Nat × (Nat → Int)) : pvCaOk l mX7_narrowed "EventClockWorkbench$Values" pvTb lm sc aX7_narrowed := by
  exact fun ix n b ci co C h => nomatch (show (none : Option (Nat × Bool × Nat × Nat × pvC)) = some (n, b, ci, co, C) from h)
set_option maxRecDepth 100000 in
theorem chX7_narrowed : ∀ pc, pvChain cX7_narrowed pc (bX7_narrowed pc) := by
  intro pc
  unfold bX7_narrowed
  split <;> first | exact True.intro | exact pvChain_of (by decide +kernel)
theorem frX7_narrowed : ∀ pc, (bX7_narrowed pc).all (fun q => pvFrB eX7 q.1) = true := by
  intro pc
  unfold bX7_narrowed
  split <;> rfl
theorem metX7_narrowed {l : Launch} (hf : l.stackTraces = false) : pvMet l yX7_narrowed (Cond.code yX7_narrowed cX7_narrowed 4 (some .int) :: pvTb) mX7_narrowed C_X7_narrowed :=
  pvMet_of hf (y := yX7_narrowed) plX7 pvTb_g coX7 foX7 pvCl (caX7_narrowed hf) pvExOk_0 (fun ix h => by rcases h with h | h <;> cases (show (none : Option Nat) = some _ from h)) ⟨rfl, rfl⟩ chX7_narrowed (pvOkM_ex okX7_narrowed frX7_narrowed)
theorem pnX0_add : pvPn yX0_add = some 4 := by decide +kernel
theorem caX0_add {l : Launch} (hf : l.stackTraces = false) (lm : Nat → Prop) (sc : Nat × (Nat → Int)) : pvCaOk l mX0_add "EventClockWorkbench$Automaton" pvTb lm sc aX0_add := by
  refine pvCaOk_i fun ix n b ci co C h => ?_
  unfold aX0_add at h
  split at h
  · cases h; exact pvCe_V (k := 0) (T := TX0) (N := 1) (metX0_size hf) rfl wd_1_2 rfl wd_2_163 wd_2_164 wd_2_165 pnX0_size rfl wd_2_166
  · cases h; exact pvCe_V (k := 3) (T := TX0) (N := 1) (metX0_putCell hf) rfl wd_1_2 rfl wd_4_158 wd_4_160 ps_2_1 pnX0_putCell rfl wd_4_161
  · cases h; exact pvCe_V (k := 2) (T := TX1) (N := 5) (metX1_numberAt hf) rfl wd_1_4 rfl wd_4_163 wd_4_164 wd_4_165 pnX1_numberAt rfl wd_4_166
  · cases h; exact pvCe_V (k := 2) (T := TX0) (N := 1) (metX0_satisfyingValues hf) rfl wd_1_2 rfl wd_4_167 wd_4_169 ps_2_2 pnX0_satisfyingValues rfl wd_4_170
  · cases h; exact pvCe_S (metX7_narrowed hf) rfl wd_1_28 rfl wd_4_178 wd_4_179 pnX7_narrowed wd_4_180
  · cases h
set_option maxRecDepth 100000 in
theorem chX0_add : ∀ pc, pvChain cX0_add pc (bX0_add pc) := by
  intro pc
  unfold bX0_add
  split <;> first | exact True.intro | exact pvChain_of (by decide +kernel)
theorem frX0_add : ∀ pc, (bX0_add pc).all (fun q => pvFrB eX0 q.1) = true := by
  intro pc
  unfold bX0_add
  split <;> rfl
theorem metX0_add {l : Launch} (hf : l.stackTraces = false) : pvMet l yX0_add (Cond.code yX0_add cX0_add 9 (some .int) :: pvTb) mX0_add C_X0_add :=
  pvMet_of hf (y := yX0_add) plX0 pvTb_g coX0 foX0 pvCl (caX0_add hf) pvExOk_0 (fun ix h => by rcases h with h | h <;> cases (show (none : Option Nat) = some _ from h)) ⟨rfl, rfl⟩ chX0_add (pvOkM_ex okX0_add frX0_add)
theorem pnX0_writeTo : pvPn yX0_writeTo = some 2 := by decide +kernel
theorem caX0_writeTo {l : Launch} (hf : l.stackTraces = false) (lm : Nat → Prop) (sc : Nat × (Nat → Int)) : pvCaOk l mX0_writeTo "EventClockWorkbench$Automaton" pvTb lm sc aX0_writeTo := by
  refine pvCaOk_i fun ix n b ci co C h => ?_
  unfold aX0_writeTo at h
  split at h
  · cases h; exact pvCe_NS (metNX9_isIndex hf) rfl wd_1_1 rfl (List.mem_of_getElem? (i := 1) rfl) wd_2_95 pnX9_isIndex wd_2_96
  · cases h
set_option maxRecDepth 100000 in
theorem chX0_writeTo : ∀ pc, pvChain cX0_writeTo pc (bX0_writeTo pc) := by
  intro pc
  unfold bX0_writeTo
  split <;> first | exact True.intro | exact pvChain_of (by decide +kernel)
theorem metX0_writeTo {l : Launch} (hf : l.stackTraces = false) : pvMet l yX0_writeTo (Cond.code yX0_writeTo cX0_writeTo 3 none :: pvTb) mX0_writeTo C_X0_writeTo :=
  pvMet_of hf (y := yX0_writeTo) plX0 pvTb_g coX0 foX0 pvCl (caX0_writeTo hf) (fun ix ic k pc h h4 => by exfalso; unfold eX0 at h; split at h <;> cases h <;> omega) (cpX0 (by decide) (by decide)) ⟨rfl, rfl⟩ chX0_writeTo okX0_writeTo
theorem pnX7_isAllowed : pvPn yX7_isAllowed = some 2 := by decide +kernel
theorem caX7_isAllowed {l : Launch} (hf : l.stackTraces = false) (lm : Nat → Prop) (sc : Nat × (Nat → Int)) : pvCaOk l mX7_isAllowed "EventClockWorkbench$Values" pvTb lm sc aX7_isAllowed := by
  exact fun ix n b ci co C h => nomatch (show (none : Option (Nat × Bool × Nat × Nat × pvC)) = some (n, b, ci, co, C) from h)
set_option maxRecDepth 100000 in
theorem chX7_isAllowed : ∀ pc, pvChain cX7_isAllowed pc (bX7_isAllowed pc) := by
  intro pc
  unfold bX7_isAllowed
  split <;> first | exact True.intro | exact pvChain_of (by decide +kernel)
theorem frX7_isAllowed : ∀ pc, (bX7_isAllowed pc).all (fun q => pvFrB eX7 q.1) = true := by
  intro pc
  unfold bX7_isAllowed
  split <;> rfl
theorem metX7_isAllowed {l : Launch} (hf : l.stackTraces = false) : pvMet l yX7_isAllowed (Cond.code yX7_isAllowed cX7_isAllowed 2 (some .boolean) :: pvTb) mX7_isAllowed C_X7_isAllowed :=
  pvMet_of hf (y := yX7_isAllowed) plX7 pvTb_g coX7 foX7 pvCl (caX7_isAllowed hf) pvExOk_0 (fun ix h => by rcases h with h | h <;> cases (show (none : Option Nat) = some _ from h)) ⟨rfl, rfl⟩ chX7_isAllowed (pvOkM_ex okX7_isAllowed frX7_isAllowed)
theorem pnX0_canRead : pvPn yX0_canRead = some 3 := by decide +kernel
theorem caX0_canRead {l : Launch} (hf : l.stackTraces = false) (lm : Nat → Prop) (sc : Nat × (Nat → Int)) : pvCaOk l mX0_canRead "EventClockWorkbench$Automaton" pvTb lm sc aX0_canRead := by
  refine pvCaOk_i fun ix n b ci co C h => ?_
  unfold aX0_canRead at h
  split at h
  · cases h; exact pvCe_V (k := 1) (T := TX0) (N := 1) (metX0_letter hf) rfl wd_1_2 rfl wd_2_179 wd_2_180 wd_2_181 pnX0_letter rfl wd_2_182
  · cases h; exact pvCe_V (k := 1) (T := TX0) (N := 1) (metX0_allowed hf) rfl wd_1_2 rfl wd_2_183 wd_2_184 wd_2_185 pnX0_allowed rfl wd_2_186
  · cases h; exact pvCe_S (metX7_isAllowed hf) rfl wd_1_28 rfl wd_2_187 wd_2_188 pnX7_isAllowed wd_2_189
  · cases h
set_option maxRecDepth 100000 in
theorem chX0_canRead : ∀ pc, pvChain cX0_canRead pc (bX0_canRead pc) := by
  intro pc
  unfold bX0_canRead
  split <;> first | exact True.intro | exact pvChain_of (by decide +kernel)
theorem frX0_canRead : ∀ pc, (bX0_canRead pc).all (fun q => pvFrB eX0 q.1) = true := by
  intro pc
  unfold bX0_canRead
  split <;> rfl
theorem metX0_canRead {l : Launch} (hf : l.stackTraces = false) : pvMet l yX0_canRead (Cond.code yX0_canRead cX0_canRead 4 (some .boolean) :: pvTb) mX0_canRead C_X0_canRead :=
  pvMet_of hf (y := yX0_canRead) plX0 pvTb_g coX0 foX0 pvCl (caX0_canRead hf) pvExOk_0 (fun ix h => by rcases h with h | h <;> cases (show (none : Option Nat) = some _ from h)) ⟨rfl, rfl⟩ chX0_canRead (pvOkM_ex okX0_canRead frX0_canRead)
theorem metNX0_canRead {l : Launch} (hf : l.stackTraces = false) : pvMetN l yX0_canRead (Cond.code yX0_canRead cX0_canRead 4 (some .boolean) :: pvTb) mX0_canRead C_X0_canRead := by
  refine pvMetN_of (metX0_canRead hf) fun as z Q h => ?_
  unfold C_X0_canRead at h ⊢
  split at h
  · (try simp only [Sum.inl.injEq, exists_eq', and_true]); simp_all
  · exact h.elim
theorem pnX9_hasState : pvPn yX9_hasState = some 2 := by decide +kernel
theorem caX9_hasState {l : Launch} (hf : l.stackTraces = false) (lm : Nat → Prop) (sc : Nat × (Nat → Int)) : pvCaOk l mX9_hasState "EventClockWorkbench" pvTb lm sc aX9_hasState := by
  exact fun ix n b ci co C h => nomatch (show (none : Option (Nat × Bool × Nat × Nat × pvC)) = some (n, b, ci, co, C) from h)
set_option maxRecDepth 100000 in
theorem chX9_hasState : ∀ pc, pvChain cX9_hasState pc (bX9_hasState pc) := by
  intro pc
  unfold bX9_hasState
  split <;> first | exact True.intro | exact pvChain_of (by decide +kernel)
theorem frX9_hasState : ∀ pc, (bX9_hasState pc).all (fun q => pvFrB eX9 q.1) = true := by
  intro pc
  unfold bX9_hasState
  split <;> rfl
theorem metX9_hasState {l : Launch} (hf : l.stackTraces = false) : pvMet l yX9_hasState (Cond.code yX9_hasState cX9_hasState 2 (some .boolean) :: pvTb) mX9_hasState C_X9_hasState :=
  pvMet_of hf (y := yX9_hasState) plX9 pvTb_g coX9 foX9 pvCl (caX9_hasState hf) pvExOk_0 (fun ix h => by rcases h with h | h <;> cases (show (none : Option Nat) = some _ from h)) ⟨rfl, rfl⟩ chX9_hasState (pvOkM_ex okX9_hasState frX9_hasState)
theorem metNX9_hasState {l : Launch} (hf : l.stackTraces = false) : pvMetN l yX9_hasState (Cond.code yX9_hasState cX9_hasState 2 (some .boolean) :: pvTb) mX9_hasState C_X9_hasState := by
  refine pvMetN_of (metX9_hasState hf) fun as z Q h => ?_
  unfold C_X9_hasState at h ⊢
  split at h
  · (try simp only [Sum.inl.injEq, exists_eq', and_true]); simp_all
  · exact h.elim
theorem pnX0_statesBehind : pvPn yX0_statesBehind = some 3 := by decide +kernel
theorem caX0_statesBehind {l : Launch} (hf : l.stackTraces = false) (lm : Nat → Prop) (sc : Nat × (Nat → Int)) : pvCaOk l mX0_statesBehind "EventClockWorkbench$Automaton" pvTb lm sc aX0_statesBehind := by
  refine pvCaOk_i fun ix n b ci co C h => ?_
  unfold aX0_statesBehind at h
  split at h
  · cases h; exact pvCe_V (k := 2) (T := TX0) (N := 1) (metX0_cell hf) rfl wd_1_2 rfl wd_2_167 wd_2_168 wd_2_169 pnX0_cell rfl wd_2_170
  · cases h; exact pvCe_V (k := 0) (T := TX0) (N := 1) (metX0_size hf) rfl wd_1_2 rfl wd_2_163 wd_2_164 wd_2_165 pnX0_size rfl wd_2_166
  · cases h; exact pvCe_NS (metNX9_hasState hf) rfl wd_1_1 rfl (List.mem_of_getElem? (i := 2) rfl) wd_2_173 pnX9_hasState wd_2_174
  · cases h; exact pvCe_V (k := 3) (T := TX0) (N := 1) (metX0_canRead hf) rfl wd_1_2 rfl wd_2_175 wd_2_177 ps_1_2 pnX0_canRead rfl wd_2_178
  · cases h
set_option maxRecDepth 100000 in
theorem chX0_statesBehind : ∀ pc, pvChain cX0_statesBehind pc (bX0_statesBehind pc) := by
  intro pc
  unfold bX0_statesBehind
  split <;> first | exact True.intro | exact pvChain_of (by decide +kernel)
theorem frX0_statesBehind : ∀ pc, (bX0_statesBehind pc).all (fun q => pvFrB eX0 q.1) = true := by
  intro pc
  unfold bX0_statesBehind
  split <;> rfl
theorem metX0_statesBehind {l : Launch} (hf : l.stackTraces = false) : pvMet l yX0_statesBehind (Cond.code yX0_statesBehind cX0_statesBehind 6 (some .int) :: pvTb) mX0_statesBehind C_X0_statesBehind :=
  pvMet_of hf (y := yX0_statesBehind) plX0 pvTb_g coX0 foX0 pvCl (caX0_statesBehind hf) pvExOk_0 (fun ix h => by rcases h with h | h <;> cases (show (none : Option Nat) = some _ from h)) ⟨rfl, rfl⟩ chX0_statesBehind (pvOkM_ex okX0_statesBehind frX0_statesBehind)
theorem pnX6_letterAt : pvPn yX6_letterAt = some 1 := by decide +kernel
theorem caX6_letterAt {l : Launch} (hf : l.stackTraces = false) (lm : Nat → Prop) (sc : Nat × (Nat → Int)) : pvCaOk l mX6_letterAt "EventClockWorkbench$TimedWord" pvTb lm sc aX6_letterAt := by
  refine pvCaOk_i fun ix n b ci co C h => ?_
  unfold aX6_letterAt at h
  split at h
  · cases h; exact pvCe_NS (metNX9_isIndex hf) rfl wd_1_1 rfl (List.mem_of_getElem? (i := 0) rfl) wd_2_95 pnX9_isIndex wd_2_96
  · cases h
set_option maxRecDepth 100000 in
theorem chX6_letterAt : ∀ pc, pvChain cX6_letterAt pc (bX6_letterAt pc) := by
  intro pc
  unfold bX6_letterAt
  split <;> first | exact True.intro | exact pvChain_of (by decide +kernel)
theorem frX6_letterAt : ∀ pc, (bX6_letterAt pc).all (fun q => pvFrB eX6 q.1) = true := by
  intro pc
  unfold bX6_letterAt
  split <;> rfl
theorem metX6_letterAt {l : Launch} (hf : l.stackTraces = false) : pvMet l yX6_letterAt (Cond.code yX6_letterAt cX6_letterAt 2 (some .int) :: pvTb) mX6_letterAt C_X6_letterAt :=
  pvMet_of hf (y := yX6_letterAt) plX6 pvTb_g coX6 foX6 pvCl (caX6_letterAt hf) pvExOk_0 (fun ix h => by rcases h with h | h <;> cases (show (none : Option Nat) = some _ from h)) ⟨rfl, rfl⟩ chX6_letterAt (pvOkM_ex okX6_letterAt frX6_letterAt)
theorem pnX6_valuationAt : pvPn yX6_valuationAt = some 1 := by decide +kernel
theorem caX6_valuationAt {l : Launch} (hf : l.stackTraces = false) (lm : Nat → Prop) (sc : Nat × (Nat → Int)) : pvCaOk l mX6_valuationAt "EventClockWorkbench$TimedWord" pvTb lm sc aX6_valuationAt := by
  refine pvCaOk_i fun ix n b ci co C h => ?_
  unfold aX6_valuationAt at h
  split at h
  · cases h; exact pvCe_NS (metNX9_isIndex hf) rfl wd_1_1 rfl (List.mem_of_getElem? (i := 0) rfl) wd_2_95 pnX9_isIndex wd_2_96
  · cases h
set_option maxRecDepth 100000 in
theorem chX6_valuationAt : ∀ pc, pvChain cX6_valuationAt pc (bX6_valuationAt pc) := by
  intro pc
  unfold bX6_valuationAt
  split <;> first | exact True.intro | exact pvChain_of (by decide +kernel)
theorem frX6_valuationAt : ∀ pc, (bX6_valuationAt pc).all (fun q => pvFrB eX6 q.1) = true := by
  intro pc
  unfold bX6_valuationAt
  split <;> rfl
theorem metX6_valuationAt {l : Launch} (hf : l.stackTraces = false) : pvMet l yX6_valuationAt (Cond.code yX6_valuationAt cX6_valuationAt 2 (some .int) :: pvTb) mX6_valuationAt C_X6_valuationAt :=
  pvMet_of hf (y := yX6_valuationAt) plX6 pvTb_g coX6 foX6 pvCl (caX6_valuationAt hf) pvExOk_0 (fun ix h => by rcases h with h | h <;> cases (show (none : Option Nat) = some _ from h)) ⟨rfl, rfl⟩ chX6_valuationAt (pvOkM_ex okX6_valuationAt frX6_valuationAt)
theorem pnX0_statesAfterEvents : pvPn yX0_statesAfterEvents = some 2 := by decide +kernel
theorem caX0_statesAfterEvents {l : Launch} (hf : l.stackTraces = false) (lm : Nat → Prop) (sc : Nat × (Nat → Int)) : pvCaOk l mX0_statesAfterEvents "EventClockWorkbench$Automaton" pvTb lm sc aX0_statesAfterEvents := by
  refine pvCaOk_i fun ix n b ci co C h => ?_
  unfold aX0_statesAfterEvents at h
  split at h
  · cases h; exact pvCe_V (k := 0) (T := TX0) (N := 1) (metX0_initialStates hf) rfl wd_1_2 rfl wd_2_150 wd_2_151 wd_2_152 pnX0_initialStates rfl wd_2_153
  · cases h; exact pvCe_V (k := 1) (T := TX6) (N := 5) (metX6_letterAt hf) rfl wd_1_5 rfl wd_2_154 wd_2_155 wd_2_156 pnX6_letterAt rfl wd_2_157
  · cases h; exact pvCe_V (k := 1) (T := TX6) (N := 5) (metX6_valuationAt hf) rfl wd_1_5 rfl wd_2_158 wd_2_129 wd_2_130 pnX6_valuationAt rfl wd_2_131
  · cases h; exact pvCe_V (k := 3) (T := TX0) (N := 1) (metX0_statesBehind hf) rfl wd_1_2 rfl wd_2_159 wd_2_160 wd_2_161 pnX0_statesBehind rfl wd_2_162
  · cases h
set_option maxRecDepth 100000 in
theorem chX0_statesAfterEvents : ∀ pc, pvChain cX0_statesAfterEvents pc (bX0_statesAfterEvents pc) := by
  intro pc
  unfold bX0_statesAfterEvents
  split <;> first | exact True.intro | exact pvChain_of (by decide +kernel)
theorem frX0_statesAfterEvents : ∀ pc, (bX0_statesAfterEvents pc).all (fun q => pvFrB eX0 q.1) = true := by
  intro pc
  unfold bX0_statesAfterEvents
  split <;> rfl
theorem metX0_statesAfterEvents {l : Launch} (hf : l.stackTraces = false) : pvMet l yX0_statesAfterEvents (Cond.code yX0_statesAfterEvents cX0_statesAfterEvents 5 (some .int) :: pvTb) mX0_statesAfterEvents C_X0_statesAfterEvents :=
  pvMet_of hf (y := yX0_statesAfterEvents) plX0 pvTb_g coX0 foX0 pvCl (caX0_statesAfterEvents hf) pvExOk_0 (fun ix h => by rcases h with h | h <;> cases (show (none : Option Nat) = some _ from h)) ⟨rfl, rfl⟩ chX0_statesAfterEvents (pvOkM_ex okX0_statesAfterEvents frX0_statesAfterEvents)
theorem pnX1_hasRoom : pvPn yX1_hasRoom = some 0 := by decide +kernel
theorem caX1_hasRoom {l : Launch} (hf : l.stackTraces = false) (lm : Nat → Prop) (sc : Nat × (Nat → Int)) : pvCaOk l mX1_hasRoom "EventClockWorkbench$GuardText" pvTb lm sc aX1_hasRoom := by
  exact fun ix n b ci co C h => nomatch (show (none : Option (Nat × Bool × Nat × Nat × pvC)) = some (n, b, ci, co, C) from h)
set_option maxRecDepth 100000 in
theorem chX1_hasRoom : ∀ pc, pvChain cX1_hasRoom pc (bX1_hasRoom pc) := by
  intro pc
  unfold bX1_hasRoom
  split <;> first | exact True.intro | exact pvChain_of (by decide +kernel)
theorem frX1_hasRoom : ∀ pc, (bX1_hasRoom pc).all (fun q => pvFrB eX1 q.1) = true := by
  intro pc
  unfold bX1_hasRoom
  split <;> rfl
theorem metX1_hasRoom {l : Launch} (hf : l.stackTraces = false) : pvMet l yX1_hasRoom (Cond.code yX1_hasRoom cX1_hasRoom 1 (some .boolean) :: pvTb) mX1_hasRoom C_X1_hasRoom :=
  pvMet_of hf (y := yX1_hasRoom) plX1 pvTb_g coX1 foX1 pvCl (caX1_hasRoom hf) pvExOk_0 (fun ix h => by rcases h with h | h <;> cases (show (none : Option Nat) = some _ from h)) ⟨rfl, rfl⟩ chX1_hasRoom (pvOkM_ex okX1_hasRoom frX1_hasRoom)
theorem pnX1_append : pvPn yX1_append = some 1 := by decide +kernel
theorem caX1_append {l : Launch} (hf : l.stackTraces = false) (lm : Nat → Prop) (sc : Nat × (Nat → Int)) : pvCaOk l mX1_append "EventClockWorkbench$GuardText" pvTb lm sc aX1_append := by
  refine pvCaOk_i fun ix n b ci co C h => ?_
  unfold aX1_append at h
  split at h
  · cases h; exact pvCe_NS (metNX9_isIndex hf) rfl wd_1_1 rfl (List.mem_of_getElem? (i := 5) rfl) wd_2_95 pnX9_isIndex wd_2_96
  · cases h
set_option maxRecDepth 100000 in
theorem chX1_append : ∀ pc, pvChain cX1_append pc (bX1_append pc) := by
  intro pc
  unfold bX1_append
  split <;> first | exact True.intro | exact pvChain_of (by decide +kernel)
theorem frX1_append : ∀ pc, (bX1_append pc).all (fun q => pvFrB eX1 q.1) = true := by
  intro pc
  unfold bX1_append
  split <;> rfl
theorem metX1_append {l : Launch} (hf : l.stackTraces = false) : pvMet l yX1_append (Cond.code yX1_append cX1_append 2 (some .int) :: pvTb) mX1_append C_X1_append :=
  pvMet_of hf (y := yX1_append) plX1 pvTb_g coX1 foX1 pvCl (caX1_append hf) pvExOk_0 (fun ix h => by rcases h with h | h <;> cases (show (none : Option Nat) = some _ from h)) ⟨rfl, rfl⟩ chX1_append (pvOkM_ex okX1_append frX1_append)
theorem pnX1_characterAt : pvPn yX1_characterAt = some 1 := by decide +kernel
theorem caX1_characterAt {l : Launch} (hf : l.stackTraces = false) (lm : Nat → Prop) (sc : Nat × (Nat → Int)) : pvCaOk l mX1_characterAt "EventClockWorkbench$GuardText" pvTb lm sc aX1_characterAt := by
  refine pvCaOk_i fun ix n b ci co C h => ?_
  unfold aX1_characterAt at h
  split at h
  · cases h; exact pvCe_NS (metNX9_isIndex hf) rfl wd_1_1 rfl (List.mem_of_getElem? (i := 5) rfl) wd_2_95 pnX9_isIndex wd_2_96
  · cases h
set_option maxRecDepth 100000 in
theorem chX1_characterAt : ∀ pc, pvChain cX1_characterAt pc (bX1_characterAt pc) := by
  intro pc
  unfold bX1_characterAt
  split <;> first | exact True.intro | exact pvChain_of (by decide +kernel)
theorem frX1_characterAt : ∀ pc, (bX1_characterAt pc).all (fun q => pvFrB eX1 q.1) = true := by
  intro pc
  unfold bX1_characterAt
  split <;> rfl
theorem metX1_characterAt {l : Launch} (hf : l.stackTraces = false) : pvMet l yX1_characterAt (Cond.code yX1_characterAt cX1_characterAt 2 (some .int) :: pvTb) mX1_characterAt C_X1_characterAt :=
  pvMet_of hf (y := yX1_characterAt) plX1 pvTb_g coX1 foX1 pvCl (caX1_characterAt hf) pvExOk_0 (fun ix h => by rcases h with h | h <;> cases (show (none : Option Nat) = some _ from h)) ⟨rfl, rfl⟩ chX1_characterAt (pvOkM_ex okX1_characterAt frX1_characterAt)
theorem pnX1_stopAt : pvPn yX1_stopAt = some 1 := by decide +kernel
theorem caX1_stopAt {l : Launch} (hf : l.stackTraces = false) (lm : Nat → Prop) (sc : Nat × (Nat → Int)) : pvCaOk l mX1_stopAt "EventClockWorkbench$GuardText" pvTb lm sc aX1_stopAt := by
  exact fun ix n b ci co C h => nomatch (show (none : Option (Nat × Bool × Nat × Nat × pvC)) = some (n, b, ci, co, C) from h)
set_option maxRecDepth 100000 in
theorem chX1_stopAt : ∀ pc, pvChain cX1_stopAt pc (bX1_stopAt pc) := by
  intro pc
  unfold bX1_stopAt
  split <;> first | exact True.intro | exact pvChain_of (by decide +kernel)
theorem frX1_stopAt : ∀ pc, (bX1_stopAt pc).all (fun q => pvFrB eX1 q.1) = true := by
  intro pc
  unfold bX1_stopAt
  split <;> rfl
theorem metX1_stopAt {l : Launch} (hf : l.stackTraces = false) : pvMet l yX1_stopAt (Cond.code yX1_stopAt cX1_stopAt 2 (some .int) :: pvTb) mX1_stopAt C_X1_stopAt :=
  pvMet_of hf (y := yX1_stopAt) plX1 pvTb_g coX1 foX1 pvCl (caX1_stopAt hf) pvExOk_0 (fun ix h => by rcases h with h | h <;> cases (show (none : Option Nat) = some _ from h)) ⟨rfl, rfl⟩ chX1_stopAt (pvOkM_ex okX1_stopAt frX1_stopAt)
theorem pnX1_addConstraint : pvPn yX1_addConstraint = some 3 := by decide +kernel
theorem caX1_addConstraint {l : Launch} (hf : l.stackTraces = false) (lm : Nat → Prop) (sc : Nat × (Nat → Int)) : pvCaOk l mX1_addConstraint "EventClockWorkbench$GuardText" pvTb lm sc aX1_addConstraint := by
  refine pvCaOk_i fun ix n b ci co C h => ?_
  unfold aX1_addConstraint at h
  split at h
  · cases h; exact pvCe_NS (metNX9_isIndex hf) rfl wd_1_1 rfl (List.mem_of_getElem? (i := 5) rfl) wd_2_95 pnX9_isIndex wd_2_96
  · cases h
set_option maxRecDepth 100000 in
theorem chX1_addConstraint : ∀ pc, pvChain cX1_addConstraint pc (bX1_addConstraint pc) := by
  intro pc
  unfold bX1_addConstraint
  split <;> first | exact True.intro | exact pvChain_of (by decide +kernel)
theorem frX1_addConstraint : ∀ pc, (bX1_addConstraint pc).all (fun q => pvFrB eX1 q.1) = true := by
  intro pc
  unfold bX1_addConstraint
  split <;> rfl
theorem metX1_addConstraint {l : Launch} (hf : l.stackTraces = false) : pvMet l yX1_addConstraint (Cond.code yX1_addConstraint cX1_addConstraint 5 none :: pvTb) mX1_addConstraint C_X1_addConstraint :=
  pvMet_of hf (y := yX1_addConstraint) plX1 pvTb_g coX1 foX1 pvCl (caX1_addConstraint hf) pvExOk_0 (fun ix h => by rcases h with h | h <;> cases (show (none : Option Nat) = some _ from h)) ⟨rfl, rfl⟩ chX1_addConstraint (pvOkM_ex okX1_addConstraint frX1_addConstraint)
theorem pnX9_isBetween : pvPn yX9_isBetween = some 3 := by decide +kernel
theorem caX9_isBetween {l : Launch} (hf : l.stackTraces = false) (lm : Nat → Prop) (sc : Nat × (Nat → Int)) : pvCaOk l mX9_isBetween "EventClockWorkbench" pvTb lm sc aX9_isBetween := by
  exact fun ix n b ci co C h => nomatch (show (none : Option (Nat × Bool × Nat × Nat × pvC)) = some (n, b, ci, co, C) from h)
set_option maxRecDepth 100000 in
theorem chX9_isBetween : ∀ pc, pvChain cX9_isBetween pc (bX9_isBetween pc) := by
  intro pc
  unfold bX9_isBetween
  split <;> first | exact True.intro | exact pvChain_of (by decide +kernel)
theorem frX9_isBetween : ∀ pc, (bX9_isBetween pc).all (fun q => pvFrB eX9 q.1) = true := by
  intro pc
  unfold bX9_isBetween
  split <;> rfl
theorem metX9_isBetween {l : Launch} (hf : l.stackTraces = false) : pvMet l yX9_isBetween (Cond.code yX9_isBetween cX9_isBetween 3 (some .boolean) :: pvTb) mX9_isBetween C_X9_isBetween :=
  pvMet_of hf (y := yX9_isBetween) plX9 pvTb_g coX9 foX9 pvCl (caX9_isBetween hf) pvExOk_0 (fun ix h => by rcases h with h | h <;> cases (show (none : Option Nat) = some _ from h)) ⟨rfl, rfl⟩ chX9_isBetween (pvOkM_ex okX9_isBetween frX9_isBetween)
theorem metNX9_isBetween {l : Launch} (hf : l.stackTraces = false) : pvMetN l yX9_isBetween (Cond.code yX9_isBetween cX9_isBetween 3 (some .boolean) :: pvTb) mX9_isBetween C_X9_isBetween := by
  refine pvMetN_of (metX9_isBetween hf) fun as z Q h => ?_
  unfold C_X9_isBetween at h ⊢
  split at h
  · (try simp only [Sum.inl.injEq, exists_eq', and_true]); simp_all
  · exact h.elim
theorem pnX1_comparison : pvPn yX1_comparison = some 2 := by decide +kernel
theorem caX1_comparison {l : Launch} (hf : l.stackTraces = false) (lm : Nat → Prop) (sc : Nat × (Nat → Int)) : pvCaOk l mX1_comparison "EventClockWorkbench$GuardText" pvTb lm sc aX1_comparison := by
  exact fun ix n b ci co C h => nomatch (show (none : Option (Nat × Bool × Nat × Nat × pvC)) = some (n, b, ci, co, C) from h)
set_option maxRecDepth 100000 in
theorem chX1_comparison : ∀ pc, pvChain cX1_comparison pc (bX1_comparison pc) := by
  intro pc
  unfold bX1_comparison
  split <;> first | exact True.intro | exact pvChain_of (by decide +kernel)
theorem frX1_comparison : ∀ pc, (bX1_comparison pc).all (fun q => pvFrB eX1 q.1) = true := by
  intro pc
  unfold bX1_comparison
  split <;> rfl
theorem metX1_comparison {l : Launch} (hf : l.stackTraces = false) : pvMet l yX1_comparison (Cond.code yX1_comparison cX1_comparison 2 (some .int) :: pvTb) mX1_comparison C_X1_comparison :=
  pvMet_of hf (y := yX1_comparison) plX1 pvTb_g coX1 foX1 pvCl (caX1_comparison hf) pvExOk_0 (fun ix h => by rcases h with h | h <;> cases (show (none : Option Nat) = some _ from h)) ⟨rfl, rfl⟩ chX1_comparison (pvOkM_ex okX1_comparison frX1_comparison)
theorem pnX1_readConstraint : pvPn yX1_readConstraint = some 1 := by decide +kernel
theorem caX1_readConstraint {l : Launch} (hf : l.stackTraces = false) (lm : Nat → Prop) (sc : Nat × (Nat → Int)) : pvCaOk l mX1_readConstraint "EventClockWorkbench$GuardText" pvTb lm sc aX1_readConstraint := by
  refine pvCaOk_i fun ix n b ci co C h => ?_
  unfold aX1_readConstraint at h
  split at h
  · cases h; exact pvCe_NS (metNX9_isIndex hf) rfl wd_1_1 rfl (List.mem_of_getElem? (i := 5) rfl) wd_2_95 pnX9_isIndex wd_2_96
  · cases h; exact pvCe_V (k := 1) (T := TX1) (N := 5) (metX1_characterAt hf) rfl wd_1_4 rfl wd_4_119 wd_4_121 ps_1_12 pnX1_characterAt rfl wd_4_122
  · cases h; exact pvCe_V (k := 1) (T := TX1) (N := 5) (metX1_stopAt hf) rfl wd_1_4 rfl wd_4_123 wd_4_125 ps_1_13 pnX1_stopAt rfl wd_4_126
  · cases h; exact pvCe_V (k := 3) (T := TX1) (N := 5) (metX1_addConstraint hf) rfl wd_1_4 rfl wd_4_127 wd_4_129 ps_1_14 pnX1_addConstraint rfl wd_4_130
  · cases h; exact pvCe_NS (metNX9_isBetween hf) rfl wd_1_1 rfl (List.mem_of_getElem? (i := 6) rfl) wd_2_3 pnX9_isBetween wd_2_4
  · cases h; exact pvCe_S (metX1_comparison hf) rfl wd_1_4 rfl wd_4_132 wd_4_133 pnX1_comparison wd_4_134
  · cases h
set_option maxRecDepth 100000 in
theorem chX1_readConstraint : ∀ pc, pvChain cX1_readConstraint pc (bX1_readConstraint pc) := by
  intro pc
  unfold bX1_readConstraint
  split <;> first | exact True.intro | exact pvChain_of (by decide +kernel)
theorem frX1_readConstraint : ∀ pc, (bX1_readConstraint pc).all (fun q => pvFrB eX1 q.1) = true := by
  intro pc
  unfold bX1_readConstraint
  split <;> rfl
theorem metX1_readConstraint {l : Launch} (hf : l.stackTraces = false) : pvMet l yX1_readConstraint (Cond.code yX1_readConstraint cX1_readConstraint 7 (some .int) :: pvTb) mX1_readConstraint C_X1_readConstraint :=
  pvMet_of hf (y := yX1_readConstraint) plX1 pvTb_g coX1 foX1 pvCl (caX1_readConstraint hf) pvExOk_0 (fun ix h => by rcases h with h | h <;> cases (show (none : Option Nat) = some _ from h)) ⟨rfl, rfl⟩ chX1_readConstraint (pvOkM_ex okX1_readConstraint frX1_readConstraint)
theorem pnX1_read : pvPn yX1_read = some 0 := by decide +kernel
theorem caX1_read {l : Launch} (hf : l.stackTraces = false) (lm : Nat → Prop) (sc : Nat × (Nat → Int)) : pvCaOk l mX1_read "EventClockWorkbench$GuardText" pvTb lm sc aX1_read := by
  refine pvCaOk_i fun ix n b ci co C h => ?_
  unfold aX1_read at h
  split at h
  · cases h; exact pvCe_V (k := 1) (T := TX1) (N := 5) (metX1_readConstraint hf) rfl wd_1_4 rfl wd_4_115 wd_4_117 ps_1_11 pnX1_readConstraint rfl wd_4_118
  · cases h; exact pvCe_V (k := 1) (T := TX1) (N := 5) (metX1_characterAt hf) rfl wd_1_4 rfl wd_4_119 wd_4_121 ps_1_12 pnX1_characterAt rfl wd_4_122
  · cases h
set_option maxRecDepth 100000 in
theorem chX1_read : ∀ pc, pvChain cX1_read pc (bX1_read pc) := by
  intro pc
  unfold bX1_read
  split <;> first | exact True.intro | exact pvChain_of (by decide +kernel)
theorem frX1_read : ∀ pc, (bX1_read pc).all (fun q => pvFrB eX1 q.1) = true := by
  intro pc
  unfold bX1_read
  split <;> rfl
theorem metX1_read {l : Launch} (hf : l.stackTraces = false) : pvMet l yX1_read (Cond.code yX1_read cX1_read 4 none :: pvTb) mX1_read C_X1_read :=
  pvMet_of hf (y := yX1_read) plX1 pvTb_g coX1 foX1 pvCl (caX1_read hf) pvExOk_0 (fun ix h => by rcases h with h | h <;> cases (show (none : Option Nat) = some _ from h)) ⟨rfl, rfl⟩ chX1_read (pvOkM_ex okX1_read frX1_read)
theorem pnJ9_min_7cf53 : pvPn yJ9_min_7cf53 = some 2 := by decide +kernel
theorem caJ9_min_7cf53 {l : Launch} (hf : l.stackTraces = false) (lm : Nat → Prop) (sc : Nat × (Nat → Int)) : pvCaOk l mJ9_min_7cf53 "java/lang/Math" pvTb lm sc aJ9_min_7cf53 := by
  exact fun ix n b ci co C h => nomatch (show (none : Option (Nat × Bool × Nat × Nat × pvC)) = some (n, b, ci, co, C) from h)
set_option maxRecDepth 100000 in
theorem chJ9_min_7cf53 : ∀ pc, pvChain cJ9_min_7cf53 pc (bJ9_min_7cf53 pc) := by
  intro pc
  unfold bJ9_min_7cf53
  split <;> first | exact True.intro | exact pvChain_of (by decide +kernel)
theorem frJ9_min_7cf53 : ∀ pc, (bJ9_min_7cf53 pc).all (fun q => pvFrB eJ9 q.1) = true := by
  intro pc
  unfold bJ9_min_7cf53
  split <;> rfl
theorem metJ9_min_7cf53 {l : Launch} (hf : l.stackTraces = false) : pvMet l yJ9_min_7cf53 (Cond.code yJ9_min_7cf53 cJ9_min_7cf53 2 (some .int) :: pvTb) mJ9_min_7cf53 C_J9_min_7cf53 :=
  pvMet_ofF hf (y := yJ9_min_7cf53) (by decide +kernel) pvTb_g coJ9 foJ9 pvCl (caJ9_min_7cf53 hf) pvExOk_0 (fun ix h => by rcases h with h | h <;> cases (show (none : Option Nat) = some _ from h)) ⟨rfl, rfl⟩ chJ9_min_7cf53 (pvOkM_ex okJ9_min_7cf53 frJ9_min_7cf53)
theorem pnX2_remember : pvPn yX2_remember = some 2 := by decide +kernel
theorem caX2_remember {l : Launch} (hf : l.stackTraces = false) (lm : Nat → Prop) (sc : Nat × (Nat → Int)) : pvCaOk l mX2_remember "EventClockWorkbench$History" pvTb lm sc aX2_remember := by
  refine pvCaOk_i fun ix n b ci co C h => ?_
  unfold aX2_remember at h
  split at h
  · cases h; exact pvCe_V (k := 2) (T := TX0) (N := 1) (metX0_writeTo hf) rfl wd_1_2 rfl wd_4_144 wd_4_145 wd_4_146 pnX0_writeTo rfl wd_4_147
  · cases h; exact pvCe_S (metJ9_min_7cf53 hf) rfl wd_1_15 rfl wd_4_149 wd_3_130 pnJ9_min_7cf53 wd_3_131
  · cases h
set_option maxRecDepth 100000 in
theorem chX2_remember : ∀ pc, pvChain cX2_remember pc (bX2_remember pc) := by
  intro pc
  unfold bX2_remember
  split <;> first | exact True.intro | exact pvChain_of (by decide +kernel)
theorem frX2_remember : ∀ pc, (bX2_remember pc).all (fun q => pvFrB eX2 q.1) = true := by
  intro pc
  unfold bX2_remember
  split <;> rfl
theorem metX2_remember {l : Launch} (hf : l.stackTraces = false) : pvMet l yX2_remember (Cond.code yX2_remember cX2_remember 3 none :: pvTb) mX2_remember C_X2_remember :=
  pvMet_of hf (y := yX2_remember) plX2 pvTb_g coX2 foX2 pvCl (caX2_remember hf) pvExOk_0 (fun ix h => by rcases h with h | h <;> cases (show (none : Option Nat) = some _ from h)) ⟨rfl, rfl⟩ chX2_remember (pvOkM_ex okX2_remember frX2_remember)
theorem pnX3_addMoves : pvPn yX3_addMoves = some 3 := by decide +kernel
theorem caX3_addMoves {l : Launch} (hf : l.stackTraces = false) (lm : Nat → Prop) (sc : Nat × (Nat → Int)) : pvCaOk l mX3_addMoves "EventClockWorkbench$Powerset" pvTb lm sc aX3_addMoves := by
  refine pvCaOk_i fun ix n b ci co C h => ?_
  unfold aX3_addMoves at h
  split at h
  · cases h; exact pvCe_S (metX7_isAllowed hf) rfl wd_1_28 rfl wd_2_226 wd_2_188 pnX7_isAllowed wd_2_189
  · cases h; exact pvCe_NS (metNX9_isIndex hf) rfl wd_1_1 rfl (List.mem_of_getElem? (i := 3) rfl) wd_2_95 pnX9_isIndex wd_2_96
  · cases h
set_option maxRecDepth 100000 in
theorem chX3_addMoves : ∀ pc, pvChain cX3_addMoves pc (bX3_addMoves pc) := by
  intro pc
  unfold bX3_addMoves
  split <;> first | exact True.intro | exact pvChain_of (by decide +kernel)
theorem frX3_addMoves : ∀ pc, (bX3_addMoves pc).all (fun q => pvFrB eX3 q.1) = true := by
  intro pc
  unfold bX3_addMoves
  split <;> rfl
theorem metX3_addMoves {l : Launch} (hf : l.stackTraces = false) : pvMet l yX3_addMoves (Cond.code yX3_addMoves cX3_addMoves 6 none :: pvTb) mX3_addMoves C_X3_addMoves :=
  pvMet_of hf (y := yX3_addMoves) plX3 pvTb_g coX3 foX3 pvCl (caX3_addMoves hf) pvExOk_0 (fun ix h => by rcases h with h | h <;> cases (show (none : Option Nat) = some _ from h)) ⟨rfl, rfl⟩ chX3_addMoves (pvOkM_ex okX3_addMoves frX3_addMoves)
theorem pnX3_findMoves : pvPn yX3_findMoves = some 1 := by decide +kernel
theorem caX3_findMoves {l : Launch} (hf : l.stackTraces = false) (lm : Nat → Prop) (sc : Nat × (Nat → Int)) : pvCaOk l mX3_findMoves "EventClockWorkbench$Powerset" pvTb lm sc aX3_findMoves := by
  refine pvCaOk_i fun ix n b ci co C h => ?_
  unfold aX3_findMoves at h
  split at h
  · cases h; exact pvCe_V (k := 0) (T := TX0) (N := 1) (metX0_size hf) rfl wd_1_2 rfl wd_2_220 wd_2_164 wd_2_165 pnX0_size rfl wd_2_166
  · cases h; exact pvCe_V (k := 2) (T := TX0) (N := 1) (metX0_cell hf) rfl wd_1_2 rfl wd_2_221 wd_2_168 wd_2_169 pnX0_cell rfl wd_2_170
  · cases h; exact pvCe_V (k := 3) (T := TX3) (N := 7) (metX3_addMoves hf) rfl wd_1_3 rfl wd_2_222 wd_2_224 ps_1_6 pnX3_addMoves rfl wd_2_225
  · cases h
set_option maxRecDepth 100000 in
theorem chX3_findMoves : ∀ pc, pvChain cX3_findMoves pc (bX3_findMoves pc) := by
  intro pc
  unfold bX3_findMoves
  split <;> first | exact True.intro | exact pvChain_of (by decide +kernel)
theorem frX3_findMoves : ∀ pc, (bX3_findMoves pc).all (fun q => pvFrB eX3 q.1) = true := by
  intro pc
  unfold bX3_findMoves
  split <;> rfl
theorem metX3_findMoves {l : Launch} (hf : l.stackTraces = false) : pvMet l yX3_findMoves (Cond.code yX3_findMoves cX3_findMoves 4 none :: pvTb) mX3_findMoves C_X3_findMoves :=
  pvMet_of hf (y := yX3_findMoves) plX3 pvTb_g coX3 foX3 pvCl (caX3_findMoves hf) pvExOk_0 (fun ix h => by rcases h with h | h <;> cases (show (none : Option Nat) = some _ from h)) ⟨rfl, rfl⟩ chX3_findMoves (pvOkM_ex okX3_findMoves frX3_findMoves)
theorem pnX3_addSet : pvPn yX3_addSet = some 1 := by decide +kernel
theorem caX3_addSet {l : Launch} (hf : l.stackTraces = false) (lm : Nat → Prop) (sc : Nat × (Nat → Int)) : pvCaOk l mX3_addSet "EventClockWorkbench$Powerset" pvTb lm sc aX3_addSet := by
  refine pvCaOk_i fun ix n b ci co C h => ?_
  unfold aX3_addSet at h
  split at h
  · cases h; exact pvCe_NS (metNX9_isIndex hf) rfl wd_1_1 rfl (List.mem_of_getElem? (i := 3) rfl) wd_2_95 pnX9_isIndex wd_2_96
  · cases h
set_option maxRecDepth 100000 in
theorem chX3_addSet : ∀ pc, pvChain cX3_addSet pc (bX3_addSet pc) := by
  intro pc
  unfold bX3_addSet
  split <;> first | exact True.intro | exact pvChain_of (by decide +kernel)
theorem frX3_addSet : ∀ pc, (bX3_addSet pc).all (fun q => pvFrB eX3 q.1) = true := by
  intro pc
  unfold bX3_addSet
  split <;> rfl
theorem metX3_addSet {l : Launch} (hf : l.stackTraces = false) : pvMet l yX3_addSet (Cond.code yX3_addSet cX3_addSet 2 none :: pvTb) mX3_addSet C_X3_addSet :=
  pvMet_of hf (y := yX3_addSet) plX3 pvTb_g coX3 foX3 pvCl (caX3_addSet hf) pvExOk_0 (fun ix h => by rcases h with h | h <;> cases (show (none : Option Nat) = some _ from h)) ⟨rfl, rfl⟩ chX3_addSet (pvOkM_ex okX3_addSet frX3_addSet)
theorem pnX3_successor : pvPn yX3_successor = some 3 := by decide +kernel
theorem caX3_successor {l : Launch} (hf : l.stackTraces = false) (lm : Nat → Prop) (sc : Nat × (Nat → Int)) : pvCaOk l mX3_successor "EventClockWorkbench$Powerset" pvTb lm sc aX3_successor := by
  refine pvCaOk_i fun ix n b ci co C h => ?_
  unfold aX3_successor at h
  split at h
  · cases h; exact pvCe_NS (metNX9_isIndex hf) rfl wd_1_1 rfl (List.mem_of_getElem? (i := 3) rfl) wd_2_95 pnX9_isIndex wd_2_96
  · cases h
set_option maxRecDepth 100000 in
theorem chX3_successor : ∀ pc, pvChain cX3_successor pc (bX3_successor pc) := by
  intro pc
  unfold bX3_successor
  split <;> first | exact True.intro | exact pvChain_of (by decide +kernel)
theorem frX3_successor : ∀ pc, (bX3_successor pc).all (fun q => pvFrB eX3 q.1) = true := by
  intro pc
  unfold bX3_successor
  split <;> rfl
theorem metX3_successor {l : Launch} (hf : l.stackTraces = false) : pvMet l yX3_successor (Cond.code yX3_successor cX3_successor 7 (some .int) :: pvTb) mX3_successor C_X3_successor :=
  pvMet_of hf (y := yX3_successor) plX3 pvTb_g coX3 foX3 pvCl (caX3_successor hf) pvExOk_0 (fun ix h => by rcases h with h | h <;> cases (show (none : Option Nat) = some _ from h)) ⟨rfl, rfl⟩ chX3_successor (pvOkM_ex okX3_successor frX3_successor)
theorem pnX3_findSets : pvPn yX3_findSets = some 0 := by decide +kernel
theorem caX3_findSets {l : Launch} (hf : l.stackTraces = false) (lm : Nat → Prop) (sc : Nat × (Nat → Int)) : pvCaOk l mX3_findSets "EventClockWorkbench$Powerset" pvTb lm sc aX3_findSets := by
  refine pvCaOk_i fun ix n b ci co C h => ?_
  unfold aX3_findSets at h
  split at h
  · cases h; exact pvCe_V (k := 1) (T := TX3) (N := 7) (metX3_addSet hf) rfl wd_1_3 rfl wd_2_232 wd_2_234 ps_1_8 pnX3_addSet rfl wd_2_235
  · cases h; exact pvCe_V (k := 3) (T := TX3) (N := 7) (metX3_successor hf) rfl wd_1_3 rfl wd_2_236 wd_2_237 wd_2_238 pnX3_successor rfl wd_2_239
  · cases h
set_option maxRecDepth 100000 in
theorem chX3_findSets : ∀ pc, pvChain cX3_findSets pc (bX3_findSets pc) := by
  intro pc
  unfold bX3_findSets
  split <;> first | exact True.intro | exact pvChain_of (by decide +kernel)
theorem frX3_findSets : ∀ pc, (bX3_findSets pc).all (fun q => pvFrB eX3 q.1) = true := by
  intro pc
  unfold bX3_findSets
  split <;> rfl
theorem metX3_findSets {l : Launch} (hf : l.stackTraces = false) : pvMet l yX3_findSets (Cond.code yX3_findSets cX3_findSets 4 none :: pvTb) mX3_findSets C_X3_findSets :=
  pvMet_of hf (y := yX3_findSets) plX3 pvTb_g coX3 foX3 pvCl (caX3_findSets hf) pvExOk_0 (fun ix h => by rcases h with h | h <;> cases (show (none : Option Nat) = some _ from h)) ⟨rfl, rfl⟩ chX3_findSets (pvOkM_ex okX3_findSets frX3_findSets)
theorem pnX3_refresh : pvPn yX3_refresh = some 1 := by decide +kernel
theorem caX3_refresh {l : Launch} (hf : l.stackTraces = false) (lm : Nat → Prop) (sc : Nat × (Nat → Int)) : pvCaOk l mX3_refresh "EventClockWorkbench$Powerset" pvTb lm sc aX3_refresh := by
  refine pvCaOk_i fun ix n b ci co C h => ?_
  unfold aX3_refresh at h
  split at h
  · cases h; exact pvCe_V (k := 0) (T := TX0) (N := 1) (metX0_initialStates hf) rfl wd_1_2 rfl wd_2_214 wd_2_151 wd_2_152 pnX0_initialStates rfl wd_2_153
  · cases h; exact pvCe_V (k := 0) (T := TX0) (N := 1) (metX0_finalStates hf) rfl wd_1_2 rfl wd_2_215 wd_2_195 wd_2_196 pnX0_finalStates rfl wd_2_197
  · cases h; exact pvCe_V (k := 1) (T := TX3) (N := 7) (metX3_findMoves hf) rfl wd_1_3 rfl wd_2_216 wd_2_218 ps_1_5 pnX3_findMoves rfl wd_2_219
  · cases h; exact pvCe_V (k := 0) (T := TX3) (N := 7) (metX3_findSets hf) rfl wd_1_3 rfl wd_2_228 wd_2_230 ps_1_7 pnX3_findSets rfl wd_2_231
  · cases h
set_option maxRecDepth 100000 in
theorem chX3_refresh : ∀ pc, pvChain cX3_refresh pc (bX3_refresh pc) := by
  intro pc
  unfold bX3_refresh
  split <;> first | exact True.intro | exact pvChain_of (by decide +kernel)
theorem frX3_refresh : ∀ pc, (bX3_refresh pc).all (fun q => pvFrB eX3 q.1) = true := by
  intro pc
  unfold bX3_refresh
  split <;> rfl
theorem metX3_refresh {l : Launch} (hf : l.stackTraces = false) : pvMet l yX3_refresh (Cond.code yX3_refresh cX3_refresh 2 none :: pvTb) mX3_refresh C_X3_refresh :=
  pvMet_of hf (y := yX3_refresh) plX3 pvTb_g coX3 foX3 pvCl (caX3_refresh hf) pvExOk_0 (fun ix h => by rcases h with h | h <;> cases (show (none : Option Nat) = some _ from h)) ⟨rfl, rfl⟩ chX3_refresh (pvOkM_ex okX3_refresh frX3_refresh)
theorem pnX3_setAt : pvPn yX3_setAt = some 1 := by decide +kernel
theorem caX3_setAt {l : Launch} (hf : l.stackTraces = false) (lm : Nat → Prop) (sc : Nat × (Nat → Int)) : pvCaOk l mX3_setAt "EventClockWorkbench$Powerset" pvTb lm sc aX3_setAt := by
  refine pvCaOk_i fun ix n b ci co C h => ?_
  unfold aX3_setAt at h
  split at h
  · cases h; exact pvCe_NS (metNX9_isIndex hf) rfl wd_1_1 rfl (List.mem_of_getElem? (i := 3) rfl) wd_2_95 pnX9_isIndex wd_2_96
  · cases h
set_option maxRecDepth 100000 in
theorem chX3_setAt : ∀ pc, pvChain cX3_setAt pc (bX3_setAt pc) := by
  intro pc
  unfold bX3_setAt
  split <;> first | exact True.intro | exact pvChain_of (by decide +kernel)
theorem frX3_setAt : ∀ pc, (bX3_setAt pc).all (fun q => pvFrB eX3 q.1) = true := by
  intro pc
  unfold bX3_setAt
  split <;> rfl
theorem metX3_setAt {l : Launch} (hf : l.stackTraces = false) : pvMet l yX3_setAt (Cond.code yX3_setAt cX3_setAt 2 (some .int) :: pvTb) mX3_setAt C_X3_setAt :=
  pvMet_of hf (y := yX3_setAt) plX3 pvTb_g coX3 foX3 pvCl (caX3_setAt hf) pvExOk_0 (fun ix h => by rcases h with h | h <;> cases (show (none : Option Nat) = some _ from h)) ⟨rfl, rfl⟩ chX3_setAt (pvOkM_ex okX3_setAt frX3_setAt)
theorem pnX3_numberOf : pvPn yX3_numberOf = some 1 := by decide +kernel
theorem caX3_numberOf {l : Launch} (hf : l.stackTraces = false) (lm : Nat → Prop) (sc : Nat × (Nat → Int)) : pvCaOk l mX3_numberOf "EventClockWorkbench$Powerset" pvTb lm sc aX3_numberOf := by
  refine pvCaOk_i fun ix n b ci co C h => ?_
  unfold aX3_numberOf at h
  split at h
  · cases h; exact pvCe_NS (metNX9_isIndex hf) rfl wd_1_1 rfl (List.mem_of_getElem? (i := 3) rfl) wd_2_95 pnX9_isIndex wd_2_96
  · cases h
set_option maxRecDepth 100000 in
theorem chX3_numberOf : ∀ pc, pvChain cX3_numberOf pc (bX3_numberOf pc) := by
  intro pc
  unfold bX3_numberOf
  split <;> first | exact True.intro | exact pvChain_of (by decide +kernel)
theorem frX3_numberOf : ∀ pc, (bX3_numberOf pc).all (fun q => pvFrB eX3 q.1) = true := by
  intro pc
  unfold bX3_numberOf
  split <;> rfl
theorem metX3_numberOf {l : Launch} (hf : l.stackTraces = false) : pvMet l yX3_numberOf (Cond.code yX3_numberOf cX3_numberOf 2 (some .int) :: pvTb) mX3_numberOf C_X3_numberOf :=
  pvMet_of hf (y := yX3_numberOf) plX3 pvTb_g coX3 foX3 pvCl (caX3_numberOf hf) pvExOk_0 (fun ix h => by rcases h with h | h <;> cases (show (none : Option Nat) = some _ from h)) ⟨rfl, rfl⟩ chX3_numberOf (pvOkM_ex okX3_numberOf frX3_numberOf)
theorem pnJ6_bitCount_0f7a4 : pvPn yJ6_bitCount_0f7a4 = some 1 := by decide +kernel
theorem caJ6_bitCount_0f7a4 {l : Launch} (hf : l.stackTraces = false) (lm : Nat → Prop) (sc : Nat × (Nat → Int)) : pvCaOk l mJ6_bitCount_0f7a4 "java/lang/Integer" pvTb lm sc aJ6_bitCount_0f7a4 := by
  exact fun ix n b ci co C h => nomatch (show (none : Option (Nat × Bool × Nat × Nat × pvC)) = some (n, b, ci, co, C) from h)
set_option maxRecDepth 100000 in
theorem chJ6_bitCount_0f7a4 : ∀ pc, pvChain cJ6_bitCount_0f7a4 pc (bJ6_bitCount_0f7a4 pc) := by
  intro pc
  unfold bJ6_bitCount_0f7a4
  split <;> first | exact True.intro | exact pvChain_of (by decide +kernel)
theorem frJ6_bitCount_0f7a4 : ∀ pc, (bJ6_bitCount_0f7a4 pc).all (fun q => pvFrB eJ6 q.1) = true := by
  intro pc
  unfold bJ6_bitCount_0f7a4
  split <;> rfl
theorem metJ6_bitCount_0f7a4 {l : Launch} (hf : l.stackTraces = false) : pvMet l yJ6_bitCount_0f7a4 (Cond.code yJ6_bitCount_0f7a4 cJ6_bitCount_0f7a4 1 (some .int) :: pvTb) mJ6_bitCount_0f7a4 C_J6_bitCount_0f7a4 :=
  pvMet_of hf (y := yJ6_bitCount_0f7a4) plJ6 pvTb_g coJ6 foJ6 pvCl (caJ6_bitCount_0f7a4 hf) pvExOk_0 (fun ix h => by rcases h with h | h <;> cases (show (none : Option Nat) = some _ from h)) ⟨rfl, rfl⟩ chJ6_bitCount_0f7a4 (pvOkM_ex okJ6_bitCount_0f7a4 frJ6_bitCount_0f7a4)
theorem pnX3_countBranches : pvPn yX3_countBranches = some 2 := by decide +kernel
theorem caX3_countBranches {l : Launch} (hf : l.stackTraces = false) (lm : Nat → Prop) (sc : Nat × (Nat → Int)) : pvCaOk l mX3_countBranches "EventClockWorkbench$Powerset" pvTb lm sc aX3_countBranches := by
  refine pvCaOk_i fun ix n b ci co C h => ?_
  unfold aX3_countBranches at h
  split at h
  · cases h; exact pvCe_V (k := 3) (T := TX3) (N := 7) (metX3_successor hf) rfl wd_1_3 rfl wd_2_236 wd_2_237 wd_2_238 pnX3_successor rfl wd_2_239
  · cases h; exact pvCe_V (k := 1) (T := TX3) (N := 7) (metX3_setAt hf) rfl wd_1_3 rfl wd_5_131 wd_3_1 wd_3_2 pnX3_setAt rfl wd_3_3
  · cases h; exact pvCe_S (metJ6_bitCount_0f7a4 hf) rfl wd_1_25 rfl wd_5_132 wd_5_133 pnJ6_bitCount_0f7a4 wd_5_134
  · cases h
set_option maxRecDepth 100000 in
theorem chX3_countBranches : ∀ pc, pvChain cX3_countBranches pc (bX3_countBranches pc) := by
  intro pc
  unfold bX3_countBranches
  split <;> first | exact True.intro | exact pvChain_of (by decide +kernel)
theorem frX3_countBranches : ∀ pc, (bX3_countBranches pc).all (fun q => pvFrB eX3 q.1) = true := by
  intro pc
  unfold bX3_countBranches
  split <;> rfl
theorem metX3_countBranches {l : Launch} (hf : l.stackTraces = false) : pvMet l yX3_countBranches (Cond.code yX3_countBranches cX3_countBranches 6 (some .int) :: pvTb) mX3_countBranches C_X3_countBranches :=
  pvMet_of hf (y := yX3_countBranches) plX3 pvTb_g coX3 foX3 pvCl (caX3_countBranches hf) pvExOk_0 (fun ix h => by rcases h with h | h <;> cases (show (none : Option Nat) = some _ from h)) ⟨rfl, rfl⟩ chX3_countBranches (pvOkM_ex okX3_countBranches frX3_countBranches)
