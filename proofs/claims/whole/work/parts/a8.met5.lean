/-! contracts over the machine, 5 -/
theorem pnX10_transition : pvPn yX10_transition = some 3 := by decide +kernel
theorem caX10_transition {l : Launch} (hf : l.stackTraces = false) : pvCaOk l mX10_transition "EventClockWorkbenchModel" pvTb 58 aX10_transition := by
  refine pvCaOk_i fun ix n b ci co C h => ?_
  unfold aX10_transition at h
  split at h
  · cases h; exact pvCe_S (metX10_in hf) rfl wd_1_10 rfl wd_6_27 wd_6_28 pnX10_in wd_6_29
  · cases h; exact pvCe_V (k := 1) (T := TX10) (N := 31) (metX10_fails hf) rfl wd_1_10 rfl wd_6_7 wd_6_9 ps_3_6 pnX10_fails rfl wd_6_10
  · cases h; exact pvCe_S (metX10_at hf) rfl wd_1_10 rfl wd_6_67 wd_6_68 pnX10_at wd_6_69
  · cases h; exact pvCe_V (k := 2) (T := TX10) (N := 31) (metX10_isTransition hf) rfl wd_1_10 rfl wd_6_74 wd_6_76 ps_3_13 pnX10_isTransition rfl wd_6_77
  · cases h
set_option maxRecDepth 100000 in
theorem chX10_transition : ∀ pc, pvChain cX10_transition pc (bX10_transition pc) := by
  intro pc
  unfold bX10_transition
  split <;> first | exact True.intro | exact pvChain_of (by decide +kernel)
theorem frX10_transition : ∀ pc, (bX10_transition pc).all (fun q => pvFrB eX10 q.1) = true := by
  intro pc
  unfold bX10_transition
  split <;> rfl
theorem metX10_transition {l : Launch} (hf : l.stackTraces = false) : pvMet l yX10_transition (Cond.code yX10_transition cX10_transition 4 (some .int) :: pvTb) mX10_transition C_X10_transition :=
  pvMet_of hf (y := yX10_transition) plX10 pvTb_g coX10 foX10 pvCl (caX10_transition hf) pvExOk_0 (fun ix h => by rcases h with h | h <;> cases (show (none : Option Nat) = some _ from h)) ⟨rfl, rfl⟩ chX10_transition (pvOkM_ex okX10_transition frX10_transition)
theorem pnX10_constraint : pvPn yX10_constraint = some 4 := by decide +kernel
theorem caX10_constraint {l : Launch} (hf : l.stackTraces = false) : pvCaOk l mX10_constraint "EventClockWorkbenchModel" pvTb 58 aX10_constraint := by
  refine pvCaOk_i fun ix n b ci co C h => ?_
  unfold aX10_constraint at h
  split at h
  · cases h; exact pvCe_S (metX10_in hf) rfl wd_1_10 rfl wd_6_27 wd_6_28 pnX10_in wd_6_29
  · cases h; exact pvCe_V (k := 1) (T := TX10) (N := 31) (metX10_fails hf) rfl wd_1_10 rfl wd_6_7 wd_6_9 ps_3_6 pnX10_fails rfl wd_6_10
  · cases h; exact pvCe_S (metX10_at hf) rfl wd_1_10 rfl wd_6_67 wd_6_68 pnX10_at wd_6_69
  · cases h; exact pvCe_V (k := 2) (T := TX10) (N := 31) (metX10_isTransition hf) rfl wd_1_10 rfl wd_6_74 wd_6_76 ps_3_13 pnX10_isTransition rfl wd_6_77
  · cases h
set_option maxRecDepth 100000 in
theorem chX10_constraint : ∀ pc, pvChain cX10_constraint pc (bX10_constraint pc) := by
  intro pc
  unfold bX10_constraint
  split <;> first | exact True.intro | exact pvChain_of (by decide +kernel)
theorem frX10_constraint : ∀ pc, (bX10_constraint pc).all (fun q => pvFrB eX10 q.1) = true := by
  intro pc
  unfold bX10_constraint
  split <;> rfl
theorem metX10_constraint {l : Launch} (hf : l.stackTraces = false) : pvMet l yX10_constraint (Cond.code yX10_constraint cX10_constraint 5 (some .int) :: pvTb) mX10_constraint C_X10_constraint :=
  pvMet_of hf (y := yX10_constraint) plX10 pvTb_g coX10 foX10 pvCl (caX10_constraint hf) pvExOk_0 (fun ix h => by rcases h with h | h <;> cases (show (none : Option Nat) = some _ from h)) ⟨rfl, rfl⟩ chX10_constraint (pvOkM_ex okX10_constraint frX10_constraint)
theorem pnX10_part : pvPn yX10_part = some 2 := by decide +kernel
theorem caX10_part {l : Launch} (hf : l.stackTraces = false) : pvCaOk l mX10_part "EventClockWorkbenchModel" pvTb 58 aX10_part := by
  exact fun ix n b ci co C h => nomatch (show (none : Option (Nat × Bool × Nat × Nat × pvC)) = some (n, b, ci, co, C) from h)
set_option maxRecDepth 100000 in
theorem chX10_part : ∀ pc, pvChain cX10_part pc (bX10_part pc) := by
  intro pc
  unfold bX10_part
  split <;> first | exact True.intro | exact pvChain_of (by decide +kernel)
theorem frX10_part : ∀ pc, (bX10_part pc).all (fun q => pvFrB eX10 q.1) = true := by
  intro pc
  unfold bX10_part
  split <;> rfl
theorem metX10_part {l : Launch} (hf : l.stackTraces = false) : pvMet l yX10_part (Cond.code yX10_part cX10_part 2 (some .int) :: pvTb) mX10_part C_X10_part :=
  pvMet_of hf (y := yX10_part) plX10 pvTb_g coX10 foX10 pvCl (caX10_part hf) pvExOk_0 (fun ix h => by rcases h with h | h <;> cases (show (none : Option Nat) = some _ from h)) ⟨rfl, rfl⟩ chX10_part (pvOkM_ex okX10_part frX10_part)
theorem pnX10_older : pvPn yX10_older = some 2 := by decide +kernel
theorem caX10_older {l : Launch} (hf : l.stackTraces = false) : pvCaOk l mX10_older "EventClockWorkbenchModel" pvTb 58 aX10_older := by
  exact fun ix n b ci co C h => nomatch (show (none : Option (Nat × Bool × Nat × Nat × pvC)) = some (n, b, ci, co, C) from h)
set_option maxRecDepth 100000 in
theorem chX10_older : ∀ pc, pvChain cX10_older pc (bX10_older pc) := by
  intro pc
  unfold bX10_older
  split <;> first | exact True.intro | exact pvChain_of (by decide +kernel)
theorem frX10_older : ∀ pc, (bX10_older pc).all (fun q => pvFrB eX10 q.1) = true := by
  intro pc
  unfold bX10_older
  split <;> rfl
theorem metX10_older {l : Launch} (hf : l.stackTraces = false) : pvMet l yX10_older (Cond.code yX10_older cX10_older 2 (some .int) :: pvTb) mX10_older C_X10_older :=
  pvMet_of hf (y := yX10_older) plX10 pvTb_g coX10 foX10 pvCl (caX10_older hf) pvExOk_0 (fun ix h => by rcases h with h | h <;> cases (show (none : Option Nat) = some _ from h)) ⟨rfl, rfl⟩ chX10_older (pvOkM_ex okX10_older frX10_older)
theorem pnX10_passes : pvPn yX10_passes = some 2 := by decide +kernel
theorem caX10_passes {l : Launch} (hf : l.stackTraces = false) : pvCaOk l mX10_passes "EventClockWorkbenchModel" pvTb 58 aX10_passes := by
  refine pvCaOk_i fun ix n b ci co C h => ?_
  unfold aX10_passes at h
  split at h
  · cases h; exact pvCe_S (metX10_older hf) rfl wd_1_10 rfl wd_6_155 wd_6_156 pnX10_older wd_6_157
  · cases h
set_option maxRecDepth 100000 in
theorem chX10_passes : ∀ pc, pvChain cX10_passes pc (bX10_passes pc) := by
  intro pc
  unfold bX10_passes
  split <;> first | exact True.intro | exact pvChain_of (by decide +kernel)
theorem frX10_passes : ∀ pc, (bX10_passes pc).all (fun q => pvFrB eX10 q.1) = true := by
  intro pc
  unfold bX10_passes
  split <;> rfl
theorem metX10_passes {l : Launch} (hf : l.stackTraces = false) : pvMet l yX10_passes (Cond.code yX10_passes cX10_passes 2 (some .int) :: pvTb) mX10_passes C_X10_passes :=
  pvMet_of hf (y := yX10_passes) plX10 pvTb_g coX10 foX10 pvCl (caX10_passes hf) pvExOk_0 (fun ix h => by rcases h with h | h <;> cases (show (none : Option Nat) = some _ from h)) ⟨rfl, rfl⟩ chX10_passes (pvOkM_ex okX10_passes frX10_passes)
theorem pnX10_resets : pvPn yX10_resets = some 2 := by decide +kernel
theorem caX10_resets {l : Launch} (hf : l.stackTraces = false) : pvCaOk l mX10_resets "EventClockWorkbenchModel" pvTb 58 aX10_resets := by
  refine pvCaOk_i fun ix n b ci co C h => ?_
  unfold aX10_resets at h
  split at h
  · cases h; exact pvCe_S (metX10_part hf) rfl wd_1_10 rfl wd_6_118 wd_6_119 pnX10_part wd_6_120
  · cases h
set_option maxRecDepth 100000 in
theorem chX10_resets : ∀ pc, pvChain cX10_resets pc (bX10_resets pc) := by
  intro pc
  unfold bX10_resets
  split <;> first | exact True.intro | exact pvChain_of (by decide +kernel)
theorem frX10_resets : ∀ pc, (bX10_resets pc).all (fun q => pvFrB eX10 q.1) = true := by
  intro pc
  unfold bX10_resets
  split <;> rfl
theorem metX10_resets {l : Launch} (hf : l.stackTraces = false) : pvMet l yX10_resets (Cond.code yX10_resets cX10_resets 2 (some .int) :: pvTb) mX10_resets C_X10_resets :=
  pvMet_of hf (y := yX10_resets) plX10 pvTb_g coX10 foX10 pvCl (caX10_resets hf) pvExOk_0 (fun ix h => by rcases h with h | h <;> cases (show (none : Option Nat) = some _ from h)) ⟨rfl, rfl⟩ chX10_resets (pvOkM_ex okX10_resets frX10_resets)
theorem pnX10_digit : pvPn yX10_digit = some 1 := by decide +kernel
theorem caX10_digit {l : Launch} (hf : l.stackTraces = false) : pvCaOk l mX10_digit "EventClockWorkbenchModel" pvTb 58 aX10_digit := by
  exact fun ix n b ci co C h => nomatch (show (none : Option (Nat × Bool × Nat × Nat × pvC)) = some (n, b, ci, co, C) from h)
set_option maxRecDepth 100000 in
theorem chX10_digit : ∀ pc, pvChain cX10_digit pc (bX10_digit pc) := by
  intro pc
  unfold bX10_digit
  split <;> first | exact True.intro | exact pvChain_of (by decide +kernel)
theorem frX10_digit : ∀ pc, (bX10_digit pc).all (fun q => pvFrB eX10 q.1) = true := by
  intro pc
  unfold bX10_digit
  split <;> rfl
theorem metX10_digit {l : Launch} (hf : l.stackTraces = false) : pvMet l yX10_digit (Cond.code yX10_digit cX10_digit 1 (some .int) :: pvTb) mX10_digit C_X10_digit :=
  pvMet_of hf (y := yX10_digit) plX10 pvTb_g coX10 foX10 pvCl (caX10_digit hf) pvExOk_0 (fun ix h => by rcases h with h | h <;> cases (show (none : Option Nat) = some _ from h)) ⟨rfl, rfl⟩ chX10_digit (pvOkM_ex okX10_digit frX10_digit)
theorem pnX10_told : pvPn yX10_told = some 1 := by decide +kernel
theorem caX10_told {l : Launch} (hf : l.stackTraces = false) : pvCaOk l mX10_told "EventClockWorkbenchModel" pvTb 58 aX10_told := by
  refine pvCaOk_i fun ix n b ci co C h => ?_
  unfold aX10_told at h
  split at h
  · cases h; exact pvCe_S (metX10_digit hf) rfl wd_1_10 rfl wd_6_164 wd_6_165 pnX10_digit wd_6_166
  · cases h
set_option maxRecDepth 100000 in
theorem chX10_told : ∀ pc, pvChain cX10_told pc (bX10_told pc) := by
  intro pc
  unfold bX10_told
  split <;> first | exact True.intro | exact pvChain_of (by decide +kernel)
theorem frX10_told : ∀ pc, (bX10_told pc).all (fun q => pvFrB eX10 q.1) = true := by
  intro pc
  unfold bX10_told
  split <;> rfl
theorem metX10_told {l : Launch} (hf : l.stackTraces = false) : pvMet l yX10_told (Cond.code yX10_told cX10_told 1 (some .int) :: pvTb) mX10_told C_X10_told :=
  pvMet_of hf (y := yX10_told) plX10 pvTb_g coX10 foX10 pvCl (caX10_told hf) pvExOk_0 (fun ix h => by rcases h with h | h <;> cases (show (none : Option Nat) = some _ from h)) ⟨rfl, rfl⟩ chX10_told (pvOkM_ex okX10_told frX10_told)
theorem pnX10_holds : pvPn yX10_holds = some 3 := by decide +kernel
theorem caX10_holds {l : Launch} (hf : l.stackTraces = false) : pvCaOk l mX10_holds "EventClockWorkbenchModel" pvTb 58 aX10_holds := by
  exact fun ix n b ci co C h => nomatch (show (none : Option (Nat × Bool × Nat × Nat × pvC)) = some (n, b, ci, co, C) from h)
set_option maxRecDepth 100000 in
theorem chX10_holds : ∀ pc, pvChain cX10_holds pc (bX10_holds pc) := by
  intro pc
  unfold bX10_holds
  split <;> first | exact True.intro | exact pvChain_of (by decide +kernel)
theorem frX10_holds : ∀ pc, (bX10_holds pc).all (fun q => pvFrB eX10 q.1) = true := by
  intro pc
  unfold bX10_holds
  split <;> rfl
theorem metX10_holds {l : Launch} (hf : l.stackTraces = false) : pvMet l yX10_holds (Cond.code yX10_holds cX10_holds 3 (some .boolean) :: pvTb) mX10_holds C_X10_holds :=
  pvMet_of hf (y := yX10_holds) plX10 pvTb_g coX10 foX10 pvCl (caX10_holds hf) pvExOk_0 (fun ix h => by rcases h with h | h <;> cases (show (none : Option Nat) = some _ from h)) ⟨rfl, rfl⟩ chX10_holds (pvOkM_ex okX10_holds frX10_holds)
theorem pnX10_blocks : pvPn yX10_blocks = some 3 := by decide +kernel
theorem caX10_blocks {l : Launch} (hf : l.stackTraces = false) : pvCaOk l mX10_blocks "EventClockWorkbenchModel" pvTb 58 aX10_blocks := by
  refine pvCaOk_i fun ix n b ci co C h => ?_
  unfold aX10_blocks at h
  split at h
  · cases h; exact pvCe_S (metX10_at hf) rfl wd_1_10 rfl wd_6_67 wd_6_68 pnX10_at wd_6_69
  · cases h; exact pvCe_S (metX10_part hf) rfl wd_1_10 rfl wd_6_118 wd_6_119 pnX10_part wd_6_120
  · cases h; exact pvCe_S (metX10_holds hf) rfl wd_1_10 rfl wd_6_121 wd_6_122 pnX10_holds wd_6_123
  · cases h
set_option maxRecDepth 100000 in
theorem chX10_blocks : ∀ pc, pvChain cX10_blocks pc (bX10_blocks pc) := by
  intro pc
  unfold bX10_blocks
  split <;> first | exact True.intro | exact pvChain_of (by decide +kernel)
theorem frX10_blocks : ∀ pc, (bX10_blocks pc).all (fun q => pvFrB eX10 q.1) = true := by
  intro pc
  unfold bX10_blocks
  split <;> rfl
theorem metX10_blocks {l : Launch} (hf : l.stackTraces = false) : pvMet l yX10_blocks (Cond.code yX10_blocks cX10_blocks 6 (some .int) :: pvTb) mX10_blocks C_X10_blocks :=
  pvMet_of hf (y := yX10_blocks) plX10 pvTb_g coX10 foX10 pvCl (caX10_blocks hf) pvExOk_0 (fun ix h => by rcases h with h | h <;> cases (show (none : Option Nat) = some _ from h)) ⟨rfl, rfl⟩ chX10_blocks (pvOkM_ex okX10_blocks frX10_blocks)
theorem pnX10_goes : pvPn yX10_goes = some 5 := by decide +kernel
theorem caX10_goes {l : Launch} (hf : l.stackTraces = false) : pvCaOk l mX10_goes "EventClockWorkbenchModel" pvTb 58 aX10_goes := by
  refine pvCaOk_i fun ix n b ci co C h => ?_
  unfold aX10_goes at h
  split at h
  · cases h; exact pvCe_S (metX10_at hf) rfl wd_1_10 rfl wd_6_67 wd_6_68 pnX10_at wd_6_69
  · cases h; exact pvCe_V (k := 3) (T := TX10) (N := 31) (metX10_blocks hf) rfl wd_1_10 rfl wd_6_114 wd_6_116 ps_3_15 pnX10_blocks rfl wd_6_117
  · cases h
set_option maxRecDepth 100000 in
theorem chX10_goes : ∀ pc, pvChain cX10_goes pc (bX10_goes pc) := by
  intro pc
  unfold bX10_goes
  split <;> first | exact True.intro | exact pvChain_of (by decide +kernel)
theorem frX10_goes : ∀ pc, (bX10_goes pc).all (fun q => pvFrB eX10 q.1) = true := by
  intro pc
  unfold bX10_goes
  split <;> rfl
theorem metX10_goes {l : Launch} (hf : l.stackTraces = false) : pvMet l yX10_goes (Cond.code yX10_goes cX10_goes 7 (some .boolean) :: pvTb) mX10_goes C_X10_goes :=
  pvMet_of hf (y := yX10_goes) plX10 pvTb_g coX10 foX10 pvCl (caX10_goes hf) pvExOk_0 (fun ix h => by rcases h with h | h <;> cases (show (none : Option Nat) = some _ from h)) ⟨rfl, rfl⟩ chX10_goes (pvOkM_ex okX10_goes frX10_goes)
theorem pnX10_satisfyingValuations : pvPn yX10_satisfyingValuations = some 2 := by decide +kernel
theorem caX10_satisfyingValuations {l : Launch} (hf : l.stackTraces = false) : pvCaOk l mX10_satisfyingValuations "EventClockWorkbenchModel" pvTb 58 aX10_satisfyingValuations := by
  refine pvCaOk_i fun ix n b ci co C h => ?_
  unfold aX10_satisfyingValuations at h
  split at h
  · cases h; exact pvCe_V (k := 1) (T := TX10) (N := 31) (metX10_fails hf) rfl wd_1_10 rfl wd_6_7 wd_6_9 ps_3_6 pnX10_fails rfl wd_6_10
  · cases h; exact pvCe_V (k := 2) (T := TX10) (N := 31) (metX10_isTransition hf) rfl wd_1_10 rfl wd_6_74 wd_6_76 ps_3_13 pnX10_isTransition rfl wd_6_77
  · cases h; exact pvCe_V (k := 3) (T := TX10) (N := 31) (metX10_blocks hf) rfl wd_1_10 rfl wd_6_114 wd_6_116 ps_3_15 pnX10_blocks rfl wd_6_117
  · cases h
set_option maxRecDepth 100000 in
theorem chX10_satisfyingValuations : ∀ pc, pvChain cX10_satisfyingValuations pc (bX10_satisfyingValuations pc) := by
  intro pc
  unfold bX10_satisfyingValuations
  split <;> first | exact True.intro | exact pvChain_of (by decide +kernel)
theorem frX10_satisfyingValuations : ∀ pc, (bX10_satisfyingValuations pc).all (fun q => pvFrB eX10 q.1) = true := by
  intro pc
  unfold bX10_satisfyingValuations
  split <;> rfl
theorem metX10_satisfyingValuations {l : Launch} (hf : l.stackTraces = false) : pvMet l yX10_satisfyingValuations (Cond.code yX10_satisfyingValuations cX10_satisfyingValuations 5 (some .int) :: pvTb) mX10_satisfyingValuations C_X10_satisfyingValuations :=
  pvMet_of hf (y := yX10_satisfyingValuations) plX10 pvTb_g coX10 foX10 pvCl (caX10_satisfyingValuations hf) pvExOk_0 (fun ix h => by rcases h with h | h <;> cases (show (none : Option Nat) = some _ from h)) ⟨rfl, rfl⟩ chX10_satisfyingValuations (pvOkM_ex okX10_satisfyingValuations frX10_satisfyingValuations)
theorem pnX10_appendEvent : pvPn yX10_appendEvent = some 2 := by decide +kernel
theorem caX10_appendEvent {l : Launch} (hf : l.stackTraces = false) : pvCaOk l mX10_appendEvent "EventClockWorkbenchModel" pvTb 58 aX10_appendEvent := by
  refine pvCaOk_i fun ix n b ci co C h => ?_
  unfold aX10_appendEvent at h
  split at h
  · cases h; exact pvCe_S (metX10_in hf) rfl wd_1_10 rfl wd_6_27 wd_6_28 pnX10_in wd_6_29
  · cases h; exact pvCe_V (k := 1) (T := TX10) (N := 31) (metX10_fails hf) rfl wd_1_10 rfl wd_6_7 wd_6_9 ps_3_6 pnX10_fails rfl wd_6_10
  · cases h; exact pvCe_S (metX10_isLetter hf) rfl wd_1_10 rfl wd_6_44 wd_6_45 pnX10_isLetter wd_6_46
  · cases h
set_option maxRecDepth 100000 in
theorem chX10_appendEvent : ∀ pc, pvChain cX10_appendEvent pc (bX10_appendEvent pc) := by
  intro pc
  unfold bX10_appendEvent
  split <;> first | exact True.intro | exact pvChain_of (by decide +kernel)
theorem frX10_appendEvent : ∀ pc, (bX10_appendEvent pc).all (fun q => pvFrB eX10 q.1) = true := by
  intro pc
  unfold bX10_appendEvent
  split <;> rfl
theorem metX10_appendEvent {l : Launch} (hf : l.stackTraces = false) : pvMet l yX10_appendEvent (Cond.code yX10_appendEvent cX10_appendEvent 3 (some .int) :: pvTb) mX10_appendEvent C_X10_appendEvent :=
  pvMet_of hf (y := yX10_appendEvent) plX10 pvTb_g coX10 foX10 pvCl (caX10_appendEvent hf) pvExOk_0 (fun ix h => by rcases h with h | h <;> cases (show (none : Option Nat) = some _ from h)) ⟨rfl, rfl⟩ chX10_appendEvent (pvOkM_ex okX10_appendEvent frX10_appendEvent)
theorem pnX10_clearWord : pvPn yX10_clearWord = some 0 := by decide +kernel
theorem caX10_clearWord {l : Launch} (hf : l.stackTraces = false) : pvCaOk l mX10_clearWord "EventClockWorkbenchModel" pvTb 58 aX10_clearWord := by
  exact fun ix n b ci co C h => nomatch (show (none : Option (Nat × Bool × Nat × Nat × pvC)) = some (n, b, ci, co, C) from h)
set_option maxRecDepth 100000 in
theorem chX10_clearWord : ∀ pc, pvChain cX10_clearWord pc (bX10_clearWord pc) := by
  intro pc
  unfold bX10_clearWord
  split <;> first | exact True.intro | exact pvChain_of (by decide +kernel)
theorem frX10_clearWord : ∀ pc, (bX10_clearWord pc).all (fun q => pvFrB eX10 q.1) = true := by
  intro pc
  unfold bX10_clearWord
  split <;> rfl
theorem metX10_clearWord {l : Launch} (hf : l.stackTraces = false) : pvMet l yX10_clearWord (Cond.code yX10_clearWord cX10_clearWord 2 (some .int) :: pvTb) mX10_clearWord C_X10_clearWord :=
  pvMet_of hf (y := yX10_clearWord) plX10 pvTb_g coX10 foX10 pvCl (caX10_clearWord hf) pvExOk_0 (fun ix h => by rcases h with h | h <;> cases (show (none : Option Nat) = some _ from h)) ⟨rfl, rfl⟩ chX10_clearWord (pvOkM_ex okX10_clearWord frX10_clearWord)
theorem pnX10_wordLength : pvPn yX10_wordLength = some 0 := by decide +kernel
theorem caX10_wordLength {l : Launch} (hf : l.stackTraces = false) : pvCaOk l mX10_wordLength "EventClockWorkbenchModel" pvTb 58 aX10_wordLength := by
  exact fun ix n b ci co C h => nomatch (show (none : Option (Nat × Bool × Nat × Nat × pvC)) = some (n, b, ci, co, C) from h)
set_option maxRecDepth 100000 in
theorem chX10_wordLength : ∀ pc, pvChain cX10_wordLength pc (bX10_wordLength pc) := by
  intro pc
  unfold bX10_wordLength
  split <;> first | exact True.intro | exact pvChain_of (by decide +kernel)
theorem frX10_wordLength : ∀ pc, (bX10_wordLength pc).all (fun q => pvFrB eX10 q.1) = true := by
  intro pc
  unfold bX10_wordLength
  split <;> rfl
theorem metX10_wordLength {l : Launch} (hf : l.stackTraces = false) : pvMet l yX10_wordLength (Cond.code yX10_wordLength cX10_wordLength 1 (some .int) :: pvTb) mX10_wordLength C_X10_wordLength :=
  pvMet_of hf (y := yX10_wordLength) plX10 pvTb_g coX10 foX10 pvCl (caX10_wordLength hf) pvExOk_0 (fun ix h => by rcases h with h | h <;> cases (show (none : Option Nat) = some _ from h)) ⟨rfl, rfl⟩ chX10_wordLength (pvOkM_ex okX10_wordLength frX10_wordLength)
theorem pnX10_isEvent : pvPn yX10_isEvent = some 1 := by decide +kernel
theorem caX10_isEvent {l : Launch} (hf : l.stackTraces = false) : pvCaOk l mX10_isEvent "EventClockWorkbenchModel" pvTb 58 aX10_isEvent := by
  refine pvCaOk_i fun ix n b ci co C h => ?_
  unfold aX10_isEvent at h
  split at h
  · cases h; exact pvCe_S (metX10_in hf) rfl wd_1_10 rfl wd_6_27 wd_6_28 pnX10_in wd_6_29
  · cases h
set_option maxRecDepth 100000 in
theorem chX10_isEvent : ∀ pc, pvChain cX10_isEvent pc (bX10_isEvent pc) := by
  intro pc
  unfold bX10_isEvent
  split <;> first | exact True.intro | exact pvChain_of (by decide +kernel)
theorem frX10_isEvent : ∀ pc, (bX10_isEvent pc).all (fun q => pvFrB eX10 q.1) = true := by
  intro pc
  unfold bX10_isEvent
  split <;> rfl
theorem metX10_isEvent {l : Launch} (hf : l.stackTraces = false) : pvMet l yX10_isEvent (Cond.code yX10_isEvent cX10_isEvent 2 (some .boolean) :: pvTb) mX10_isEvent C_X10_isEvent :=
  pvMet_of hf (y := yX10_isEvent) plX10 pvTb_g coX10 foX10 pvCl (caX10_isEvent hf) pvExOk_0 (fun ix h => by rcases h with h | h <;> cases (show (none : Option Nat) = some _ from h)) ⟨rfl, rfl⟩ chX10_isEvent (pvOkM_ex okX10_isEvent frX10_isEvent)
theorem pnX10_event : pvPn yX10_event = some 2 := by decide +kernel
theorem caX10_event {l : Launch} (hf : l.stackTraces = false) : pvCaOk l mX10_event "EventClockWorkbenchModel" pvTb 58 aX10_event := by
  refine pvCaOk_i fun ix n b ci co C h => ?_
  unfold aX10_event at h
  split at h
  · cases h; exact pvCe_S (metX10_in hf) rfl wd_1_10 rfl wd_6_27 wd_6_28 pnX10_in wd_6_29
  · cases h; exact pvCe_V (k := 1) (T := TX10) (N := 31) (metX10_fails hf) rfl wd_1_10 rfl wd_6_7 wd_6_9 ps_3_6 pnX10_fails rfl wd_6_10
  · cases h; exact pvCe_V (k := 1) (T := TX10) (N := 31) (metX10_isEvent hf) rfl wd_1_10 rfl wd_6_140 wd_6_142 ps_4_0 pnX10_isEvent rfl wd_6_143
  · cases h
set_option maxRecDepth 100000 in
theorem chX10_event : ∀ pc, pvChain cX10_event pc (bX10_event pc) := by
  intro pc
  unfold bX10_event
  split <;> first | exact True.intro | exact pvChain_of (by decide +kernel)
theorem frX10_event : ∀ pc, (bX10_event pc).all (fun q => pvFrB eX10 q.1) = true := by
  intro pc
  unfold bX10_event
  split <;> rfl
theorem metX10_event {l : Launch} (hf : l.stackTraces = false) : pvMet l yX10_event (Cond.code yX10_event cX10_event 3 (some .int) :: pvTb) mX10_event C_X10_event :=
  pvMet_of hf (y := yX10_event) plX10 pvTb_g coX10 foX10 pvCl (caX10_event hf) pvExOk_0 (fun ix h => by rcases h with h | h <;> cases (show (none : Option Nat) = some _ from h)) ⟨rfl, rfl⟩ chX10_event (pvOkM_ex okX10_event frX10_event)
theorem pnX10_reads : pvPn yX10_reads = some 1 := by decide +kernel
theorem caX10_reads {l : Launch} (hf : l.stackTraces = false) : pvCaOk l mX10_reads "EventClockWorkbenchModel" pvTb 58 aX10_reads := by
  refine pvCaOk_i fun ix n b ci co C h => ?_
  unfold aX10_reads at h
  split at h
  · cases h; exact pvCe_S (metX10_passes hf) rfl wd_1_10 rfl wd_6_152 wd_6_153 pnX10_passes wd_6_154
  · cases h; exact pvCe_S (metX10_resets hf) rfl wd_1_10 rfl wd_6_158 wd_6_159 pnX10_resets wd_6_160
  · cases h
set_option maxRecDepth 100000 in
theorem chX10_reads : ∀ pc, pvChain cX10_reads pc (bX10_reads pc) := by
  intro pc
  unfold bX10_reads
  split <;> first | exact True.intro | exact pvChain_of (by decide +kernel)
theorem frX10_reads : ∀ pc, (bX10_reads pc).all (fun q => pvFrB eX10 q.1) = true := by
  intro pc
  unfold bX10_reads
  split <;> rfl
theorem metX10_reads {l : Launch} (hf : l.stackTraces = false) : pvMet l yX10_reads (Cond.code yX10_reads cX10_reads 4 (some .int) :: pvTb) mX10_reads C_X10_reads :=
  pvMet_of hf (y := yX10_reads) plX10 pvTb_g coX10 foX10 pvCl (caX10_reads hf) pvExOk_0 (fun ix h => by rcases h with h | h <;> cases (show (none : Option Nat) = some _ from h)) ⟨rfl, rfl⟩ chX10_reads (pvOkM_ex okX10_reads frX10_reads)
theorem pnX10_valuationBefore : pvPn yX10_valuationBefore = some 1 := by decide +kernel
theorem caX10_valuationBefore {l : Launch} (hf : l.stackTraces = false) : pvCaOk l mX10_valuationBefore "EventClockWorkbenchModel" pvTb 58 aX10_valuationBefore := by
  refine pvCaOk_i fun ix n b ci co C h => ?_
  unfold aX10_valuationBefore at h
  split at h
  · cases h; exact pvCe_V (k := 1) (T := TX10) (N := 31) (metX10_fails hf) rfl wd_1_10 rfl wd_6_7 wd_6_9 ps_3_6 pnX10_fails rfl wd_6_10
  · cases h; exact pvCe_V (k := 1) (T := TX10) (N := 31) (metX10_isEvent hf) rfl wd_1_10 rfl wd_6_140 wd_6_142 ps_4_0 pnX10_isEvent rfl wd_6_143
  · cases h; exact pvCe_V (k := 1) (T := TX10) (N := 31) (metX10_reads hf) rfl wd_1_10 rfl wd_6_148 wd_6_150 ps_4_1 pnX10_reads rfl wd_6_151
  · cases h; exact pvCe_S (metX10_told hf) rfl wd_1_10 rfl wd_6_161 wd_6_162 pnX10_told wd_6_163
  · cases h
set_option maxRecDepth 100000 in
theorem chX10_valuationBefore : ∀ pc, pvChain cX10_valuationBefore pc (bX10_valuationBefore pc) := by
  intro pc
  unfold bX10_valuationBefore
  split <;> first | exact True.intro | exact pvChain_of (by decide +kernel)
theorem frX10_valuationBefore : ∀ pc, (bX10_valuationBefore pc).all (fun q => pvFrB eX10 q.1) = true := by
  intro pc
  unfold bX10_valuationBefore
  split <;> rfl
theorem metX10_valuationBefore {l : Launch} (hf : l.stackTraces = false) : pvMet l yX10_valuationBefore (Cond.code yX10_valuationBefore cX10_valuationBefore 2 (some .int) :: pvTb) mX10_valuationBefore C_X10_valuationBefore :=
  pvMet_of hf (y := yX10_valuationBefore) plX10 pvTb_g coX10 foX10 pvCl (caX10_valuationBefore hf) pvExOk_0 (fun ix h => by rcases h with h | h <;> cases (show (none : Option Nat) = some _ from h)) ⟨rfl, rfl⟩ chX10_valuationBefore (pvOkM_ex okX10_valuationBefore frX10_valuationBefore)
theorem pnX10_successor : pvPn yX10_successor = some 4 := by decide +kernel
theorem caX10_successor {l : Launch} (hf : l.stackTraces = false) : pvCaOk l mX10_successor "EventClockWorkbenchModel" pvTb 58 aX10_successor := by
  refine pvCaOk_i fun ix n b ci co C h => ?_
  unfold aX10_successor at h
  split at h
  · cases h; exact pvCe_S (metX10_at hf) rfl wd_1_10 rfl wd_6_67 wd_6_68 pnX10_at wd_6_69
  · cases h; exact pvCe_V (k := 5) (T := TX10) (N := 31) (metX10_goes hf) rfl wd_1_10 rfl wd_6_179 wd_6_181 ps_4_4 pnX10_goes rfl wd_6_182
  · cases h
set_option maxRecDepth 100000 in
theorem chX10_successor : ∀ pc, pvChain cX10_successor pc (bX10_successor pc) := by
  intro pc
  unfold bX10_successor
  split <;> first | exact True.intro | exact pvChain_of (by decide +kernel)
theorem frX10_successor : ∀ pc, (bX10_successor pc).all (fun q => pvFrB eX10 q.1) = true := by
  intro pc
  unfold bX10_successor
  split <;> rfl
theorem metX10_successor {l : Launch} (hf : l.stackTraces = false) : pvMet l yX10_successor (Cond.code yX10_successor cX10_successor 7 (some .int) :: pvTb) mX10_successor C_X10_successor :=
  pvMet_of hf (y := yX10_successor) plX10 pvTb_g coX10 foX10 pvCl (caX10_successor hf) pvExOk_0 (fun ix h => by rcases h with h | h <;> cases (show (none : Option Nat) = some _ from h)) ⟨rfl, rfl⟩ chX10_successor (pvOkM_ex okX10_successor frX10_successor)
theorem pnX10_after : pvPn yX10_after = some 2 := by decide +kernel
theorem caX10_after {l : Launch} (hf : l.stackTraces = false) : pvCaOk l mX10_after "EventClockWorkbenchModel" pvTb 58 aX10_after := by
  refine pvCaOk_i fun ix n b ci co C h => ?_
  unfold aX10_after at h
  split at h
  · cases h; exact pvCe_V (k := 1) (T := TX10) (N := 31) (metX10_reads hf) rfl wd_1_10 rfl wd_6_148 wd_6_150 ps_4_1 pnX10_reads rfl wd_6_151
  · cases h; exact pvCe_V (k := 4) (T := TX10) (N := 31) (metX10_successor hf) rfl wd_1_10 rfl wd_6_175 wd_6_177 ps_4_3 pnX10_successor rfl wd_6_178
  · cases h
set_option maxRecDepth 100000 in
theorem chX10_after : ∀ pc, pvChain cX10_after pc (bX10_after pc) := by
  intro pc
  unfold bX10_after
  split <;> first | exact True.intro | exact pvChain_of (by decide +kernel)
theorem frX10_after : ∀ pc, (bX10_after pc).all (fun q => pvFrB eX10 q.1) = true := by
  intro pc
  unfold bX10_after
  split <;> rfl
theorem metX10_after {l : Launch} (hf : l.stackTraces = false) : pvMet l yX10_after (Cond.code yX10_after cX10_after 5 (some .int) :: pvTb) mX10_after C_X10_after :=
  pvMet_of hf (y := yX10_after) plX10 pvTb_g coX10 foX10 pvCl (caX10_after hf) pvExOk_0 (fun ix h => by rcases h with h | h <;> cases (show (none : Option Nat) = some _ from h)) ⟨rfl, rfl⟩ chX10_after (pvOkM_ex okX10_after frX10_after)
theorem pnX10_statesAfter : pvPn yX10_statesAfter = some 2 := by decide +kernel
theorem caX10_statesAfter {l : Launch} (hf : l.stackTraces = false) : pvCaOk l mX10_statesAfter "EventClockWorkbenchModel" pvTb 58 aX10_statesAfter := by
  refine pvCaOk_i fun ix n b ci co C h => ?_
  unfold aX10_statesAfter at h
  split at h
  · cases h; exact pvCe_S (metX10_in hf) rfl wd_1_10 rfl wd_6_27 wd_6_28 pnX10_in wd_6_29
  · cases h; exact pvCe_S (metX10_isSlot hf) rfl wd_1_10 rfl wd_6_38 wd_6_39 pnX10_isSlot wd_6_40
  · cases h; exact pvCe_V (k := 1) (T := TX10) (N := 31) (metX10_fails hf) rfl wd_1_10 rfl wd_6_7 wd_6_9 ps_3_6 pnX10_fails rfl wd_6_10
  · cases h; exact pvCe_V (k := 2) (T := TX10) (N := 31) (metX10_after hf) rfl wd_1_10 rfl wd_6_171 wd_6_173 ps_4_2 pnX10_after rfl wd_6_174
  · cases h
set_option maxRecDepth 100000 in
theorem chX10_statesAfter : ∀ pc, pvChain cX10_statesAfter pc (bX10_statesAfter pc) := by
  intro pc
  unfold bX10_statesAfter
  split <;> first | exact True.intro | exact pvChain_of (by decide +kernel)
theorem frX10_statesAfter : ∀ pc, (bX10_statesAfter pc).all (fun q => pvFrB eX10 q.1) = true := by
  intro pc
  unfold bX10_statesAfter
  split <;> rfl
theorem metX10_statesAfter {l : Launch} (hf : l.stackTraces = false) : pvMet l yX10_statesAfter (Cond.code yX10_statesAfter cX10_statesAfter 3 (some .int) :: pvTb) mX10_statesAfter C_X10_statesAfter :=
  pvMet_of hf (y := yX10_statesAfter) plX10 pvTb_g coX10 foX10 pvCl (caX10_statesAfter hf) pvExOk_0 (fun ix h => by rcases h with h | h <;> cases (show (none : Option Nat) = some _ from h)) ⟨rfl, rfl⟩ chX10_statesAfter (pvOkM_ex okX10_statesAfter frX10_statesAfter)
theorem pnX10_accepts : pvPn yX10_accepts = some 1 := by decide +kernel
theorem caX10_accepts {l : Launch} (hf : l.stackTraces = false) : pvCaOk l mX10_accepts "EventClockWorkbenchModel" pvTb 58 aX10_accepts := by
  refine pvCaOk_i fun ix n b ci co C h => ?_
  unfold aX10_accepts at h
  split at h
  · cases h; exact pvCe_S (metX10_isSlot hf) rfl wd_1_10 rfl wd_6_38 wd_6_39 pnX10_isSlot wd_6_40
  · cases h; exact pvCe_V (k := 2) (T := TX10) (N := 31) (metX10_after hf) rfl wd_1_10 rfl wd_6_171 wd_6_173 ps_4_2 pnX10_after rfl wd_6_174
  · cases h
set_option maxRecDepth 100000 in
theorem chX10_accepts : ∀ pc, pvChain cX10_accepts pc (bX10_accepts pc) := by
  intro pc
  unfold bX10_accepts
  split <;> first | exact True.intro | exact pvChain_of (by decide +kernel)
theorem frX10_accepts : ∀ pc, (bX10_accepts pc).all (fun q => pvFrB eX10 q.1) = true := by
  intro pc
  unfold bX10_accepts
  split <;> rfl
theorem metX10_accepts {l : Launch} (hf : l.stackTraces = false) : pvMet l yX10_accepts (Cond.code yX10_accepts cX10_accepts 2 (some .boolean) :: pvTb) mX10_accepts C_X10_accepts :=
  pvMet_of hf (y := yX10_accepts) plX10 pvTb_g coX10 foX10 pvCl (caX10_accepts hf) pvExOk_0 (fun ix h => by rcases h with h | h <;> cases (show (none : Option Nat) = some _ from h)) ⟨rfl, rfl⟩ chX10_accepts (pvOkM_ex okX10_accepts frX10_accepts)
theorem pnX10_countsRuns : pvPn yX10_countsRuns = some 2 := by decide +kernel
theorem caX10_countsRuns {l : Launch} (hf : l.stackTraces = false) : pvCaOk l mX10_countsRuns "EventClockWorkbenchModel" pvTb 58 aX10_countsRuns := by
  refine pvCaOk_i fun ix n b ci co C h => ?_
  unfold aX10_countsRuns at h
  split at h
  · cases h; exact pvCe_S (metX10_at hf) rfl wd_1_10 rfl wd_6_67 wd_6_68 pnX10_at wd_6_69
  · cases h; exact pvCe_V (k := 1) (T := TX10) (N := 31) (metX10_reads hf) rfl wd_1_10 rfl wd_6_148 wd_6_150 ps_4_1 pnX10_reads rfl wd_6_151
  · cases h; exact pvCe_V (k := 5) (T := TX10) (N := 31) (metX10_goes hf) rfl wd_1_10 rfl wd_6_179 wd_6_181 ps_4_4 pnX10_goes rfl wd_6_182
  · cases h
set_option maxRecDepth 100000 in
theorem chX10_countsRuns : ∀ pc, pvChain cX10_countsRuns pc (bX10_countsRuns pc) := by
  intro pc
  unfold bX10_countsRuns
  split <;> first | exact True.intro | exact pvChain_of (by decide +kernel)
theorem frX10_countsRuns : ∀ pc, (bX10_countsRuns pc).all (fun q => pvFrB eX10 q.1) = true := by
  intro pc
  unfold bX10_countsRuns
  split <;> rfl
theorem metX10_countsRuns {l : Launch} (hf : l.stackTraces = false) : pvMet l yX10_countsRuns (Cond.code yX10_countsRuns cX10_countsRuns 7 (some .long) :: pvTb) mX10_countsRuns C_X10_countsRuns :=
  pvMet_of hf (y := yX10_countsRuns) plX10 pvTb_g coX10 foX10 pvCl (caX10_countsRuns hf) pvExOk_0 (fun ix h => by rcases h with h | h <;> cases (show (none : Option Nat) = some _ from h)) ⟨rfl, rfl⟩ chX10_countsRuns (pvOkM_ex okX10_countsRuns frX10_countsRuns)
theorem pnX10_runCount : pvPn yX10_runCount = some 1 := by decide +kernel
theorem caX10_runCount {l : Launch} (hf : l.stackTraces = false) : pvCaOk l mX10_runCount "EventClockWorkbenchModel" pvTb 58 aX10_runCount := by
  refine pvCaOk_i fun ix n b ci co C h => ?_
  unfold aX10_runCount at h
  split at h
  · cases h; exact pvCe_S (metX10_isSlot hf) rfl wd_1_10 rfl wd_6_38 wd_6_39 pnX10_isSlot wd_6_40
  · cases h; exact pvCe_V (k := 2) (T := TX10) (N := 31) (metX10_countsRuns hf) rfl wd_1_10 rfl wd_6_191 wd_6_193 ps_4_5 pnX10_countsRuns rfl wd_6_194
  · cases h
set_option maxRecDepth 100000 in
theorem chX10_runCount : ∀ pc, pvChain cX10_runCount pc (bX10_runCount pc) := by
  intro pc
  unfold bX10_runCount
  split <;> first | exact True.intro | exact pvChain_of (by decide +kernel)
theorem frX10_runCount : ∀ pc, (bX10_runCount pc).all (fun q => pvFrB eX10 q.1) = true := by
  intro pc
  unfold bX10_runCount
  split <;> rfl
theorem metX10_runCount {l : Launch} (hf : l.stackTraces = false) : pvMet l yX10_runCount (Cond.code yX10_runCount cX10_runCount 2 (some .long) :: pvTb) mX10_runCount C_X10_runCount :=
  pvMet_of hf (y := yX10_runCount) plX10 pvTb_g coX10 foX10 pvCl (caX10_runCount hf) pvExOk_0 (fun ix h => by rcases h with h | h <;> cases (show (none : Option Nat) = some _ from h)) ⟨rfl, rfl⟩ chX10_runCount (pvOkM_ex okX10_runCount frX10_runCount)
theorem pnX10_acceptingRuns : pvPn yX10_acceptingRuns = some 1 := by decide +kernel
theorem caX10_acceptingRuns {l : Launch} (hf : l.stackTraces = false) : pvCaOk l mX10_acceptingRuns "EventClockWorkbenchModel" pvTb 58 aX10_acceptingRuns := by
  refine pvCaOk_i fun ix n b ci co C h => ?_
  unfold aX10_acceptingRuns at h
  split at h
  · cases h; exact pvCe_S (metX10_isSlot hf) rfl wd_1_10 rfl wd_6_38 wd_6_39 pnX10_isSlot wd_6_40
  · cases h; exact pvCe_V (k := 2) (T := TX10) (N := 31) (metX10_countsRuns hf) rfl wd_1_10 rfl wd_6_191 wd_6_193 ps_4_5 pnX10_countsRuns rfl wd_6_194
  · cases h
set_option maxRecDepth 100000 in
theorem chX10_acceptingRuns : ∀ pc, pvChain cX10_acceptingRuns pc (bX10_acceptingRuns pc) := by
  intro pc
  unfold bX10_acceptingRuns
  split <;> first | exact True.intro | exact pvChain_of (by decide +kernel)
theorem frX10_acceptingRuns : ∀ pc, (bX10_acceptingRuns pc).all (fun q => pvFrB eX10 q.1) = true := by
  intro pc
  unfold bX10_acceptingRuns
  split <;> rfl
theorem metX10_acceptingRuns {l : Launch} (hf : l.stackTraces = false) : pvMet l yX10_acceptingRuns (Cond.code yX10_acceptingRuns cX10_acceptingRuns 2 (some .long) :: pvTb) mX10_acceptingRuns C_X10_acceptingRuns :=
  pvMet_of hf (y := yX10_acceptingRuns) plX10 pvTb_g coX10 foX10 pvCl (caX10_acceptingRuns hf) pvExOk_0 (fun ix h => by rcases h with h | h <;> cases (show (none : Option Nat) = some _ from h)) ⟨rfl, rfl⟩ chX10_acceptingRuns (pvOkM_ex okX10_acceptingRuns frX10_acceptingRuns)
theorem pnX10_firstStep : pvPn yX10_firstStep = some 3 := by decide +kernel
theorem caX10_firstStep {l : Launch} (hf : l.stackTraces = false) : pvCaOk l mX10_firstStep "EventClockWorkbenchModel" pvTb 58 aX10_firstStep := by
  refine pvCaOk_i fun ix n b ci co C h => ?_
  unfold aX10_firstStep at h
  split at h
  · cases h; exact pvCe_S (metX10_at hf) rfl wd_1_10 rfl wd_6_67 wd_6_68 pnX10_at wd_6_69
  · cases h; exact pvCe_V (k := 1) (T := TX10) (N := 31) (metX10_reads hf) rfl wd_1_10 rfl wd_6_148 wd_6_150 ps_4_1 pnX10_reads rfl wd_6_151
  · cases h; exact pvCe_V (k := 5) (T := TX10) (N := 31) (metX10_goes hf) rfl wd_1_10 rfl wd_6_179 wd_6_181 ps_4_4 pnX10_goes rfl wd_6_182
  · cases h
set_option maxRecDepth 100000 in
theorem chX10_firstStep : ∀ pc, pvChain cX10_firstStep pc (bX10_firstStep pc) := by
  intro pc
  unfold bX10_firstStep
  split <;> first | exact True.intro | exact pvChain_of (by decide +kernel)
theorem frX10_firstStep : ∀ pc, (bX10_firstStep pc).all (fun q => pvFrB eX10 q.1) = true := by
  intro pc
  unfold bX10_firstStep
  split <;> rfl
theorem metX10_firstStep {l : Launch} (hf : l.stackTraces = false) : pvMet l yX10_firstStep (Cond.code yX10_firstStep cX10_firstStep 6 (some .int) :: pvTb) mX10_firstStep C_X10_firstStep :=
  pvMet_of hf (y := yX10_firstStep) plX10 pvTb_g coX10 foX10 pvCl (caX10_firstStep hf) pvExOk_0 (fun ix h => by rcases h with h | h <;> cases (show (none : Option Nat) = some _ from h)) ⟨rfl, rfl⟩ chX10_firstStep (pvOkM_ex okX10_firstStep frX10_firstStep)
theorem pnX10_firstRun : pvPn yX10_firstRun = some 2 := by decide +kernel
theorem caX10_firstRun {l : Launch} (hf : l.stackTraces = false) : pvCaOk l mX10_firstRun "EventClockWorkbenchModel" pvTb 58 aX10_firstRun := by
  refine pvCaOk_i fun ix n b ci co C h => ?_
  unfold aX10_firstRun at h
  split at h
  · cases h; exact pvCe_S (metX10_isSlot hf) rfl wd_1_10 rfl wd_6_38 wd_6_39 pnX10_isSlot wd_6_40
  · cases h; exact pvCe_V (k := 1) (T := TX10) (N := 31) (metX10_fails hf) rfl wd_1_10 rfl wd_6_7 wd_6_9 ps_3_6 pnX10_fails rfl wd_6_10
  · cases h; exact pvCe_S (metX10_at hf) rfl wd_1_10 rfl wd_6_67 wd_6_68 pnX10_at wd_6_69
  · cases h; exact pvCe_V (k := 1) (T := TX10) (N := 31) (metX10_isEvent hf) rfl wd_1_10 rfl wd_6_140 wd_6_142 ps_4_0 pnX10_isEvent rfl wd_6_143
  · cases h; exact pvCe_V (k := 2) (T := TX10) (N := 31) (metX10_countsRuns hf) rfl wd_1_10 rfl wd_6_191 wd_6_193 ps_4_5 pnX10_countsRuns rfl wd_6_194
  · cases h; exact pvCe_V (k := 3) (T := TX10) (N := 31) (metX10_firstStep hf) rfl wd_1_10 rfl wd_6_203 wd_6_205 ps_4_6 pnX10_firstStep rfl wd_6_206
  · cases h
set_option maxRecDepth 100000 in
theorem chX10_firstRun : ∀ pc, pvChain cX10_firstRun pc (bX10_firstRun pc) := by
  intro pc
  unfold bX10_firstRun
  split <;> first | exact True.intro | exact pvChain_of (by decide +kernel)
theorem frX10_firstRun : ∀ pc, (bX10_firstRun pc).all (fun q => pvFrB eX10 q.1) = true := by
  intro pc
  unfold bX10_firstRun
  split <;> rfl
theorem metX10_firstRun {l : Launch} (hf : l.stackTraces = false) : pvMet l yX10_firstRun (Cond.code yX10_firstRun cX10_firstRun 6 (some .int) :: pvTb) mX10_firstRun C_X10_firstRun :=
  pvMet_of hf (y := yX10_firstRun) plX10 pvTb_g coX10 foX10 pvCl (caX10_firstRun hf) pvExOk_0 (fun ix h => by rcases h with h | h <;> cases (show (none : Option Nat) = some _ from h)) ⟨rfl, rfl⟩ chX10_firstRun (pvOkM_ex okX10_firstRun frX10_firstRun)
theorem pnX10_stuckAt : pvPn yX10_stuckAt = some 1 := by decide +kernel
theorem caX10_stuckAt {l : Launch} (hf : l.stackTraces = false) : pvCaOk l mX10_stuckAt "EventClockWorkbenchModel" pvTb 58 aX10_stuckAt := by
  refine pvCaOk_i fun ix n b ci co C h => ?_
  unfold aX10_stuckAt at h
  split at h
  · cases h; exact pvCe_S (metX10_isSlot hf) rfl wd_1_10 rfl wd_6_38 wd_6_39 pnX10_isSlot wd_6_40
  · cases h; exact pvCe_V (k := 1) (T := TX10) (N := 31) (metX10_fails hf) rfl wd_1_10 rfl wd_6_7 wd_6_9 ps_3_6 pnX10_fails rfl wd_6_10
  · cases h; exact pvCe_V (k := 2) (T := TX10) (N := 31) (metX10_after hf) rfl wd_1_10 rfl wd_6_171 wd_6_173 ps_4_2 pnX10_after rfl wd_6_174
  · cases h
set_option maxRecDepth 100000 in
theorem chX10_stuckAt : ∀ pc, pvChain cX10_stuckAt pc (bX10_stuckAt pc) := by
  intro pc
  unfold bX10_stuckAt
  split <;> first | exact True.intro | exact pvChain_of (by decide +kernel)
theorem frX10_stuckAt : ∀ pc, (bX10_stuckAt pc).all (fun q => pvFrB eX10 q.1) = true := by
  intro pc
  unfold bX10_stuckAt
  split <;> rfl
theorem metX10_stuckAt {l : Launch} (hf : l.stackTraces = false) : pvMet l yX10_stuckAt (Cond.code yX10_stuckAt cX10_stuckAt 3 (some .int) :: pvTb) mX10_stuckAt C_X10_stuckAt :=
  pvMet_of hf (y := yX10_stuckAt) plX10 pvTb_g coX10 foX10 pvCl (caX10_stuckAt hf) pvExOk_0 (fun ix h => by rcases h with h | h <;> cases (show (none : Option Nat) = some _ from h)) ⟨rfl, rfl⟩ chX10_stuckAt (pvOkM_ex okX10_stuckAt frX10_stuckAt)
theorem pnX10_blockingConstraint : pvPn yX10_blockingConstraint = some 3 := by decide +kernel
theorem caX10_blockingConstraint {l : Launch} (hf : l.stackTraces = false) : pvCaOk l mX10_blockingConstraint "EventClockWorkbenchModel" pvTb 58 aX10_blockingConstraint := by
  refine pvCaOk_i fun ix n b ci co C h => ?_
  unfold aX10_blockingConstraint at h
  split at h
  · cases h; exact pvCe_V (k := 1) (T := TX10) (N := 31) (metX10_fails hf) rfl wd_1_10 rfl wd_6_7 wd_6_9 ps_3_6 pnX10_fails rfl wd_6_10
  · cases h; exact pvCe_S (metX10_at hf) rfl wd_1_10 rfl wd_6_67 wd_6_68 pnX10_at wd_6_69
  · cases h; exact pvCe_V (k := 2) (T := TX10) (N := 31) (metX10_isTransition hf) rfl wd_1_10 rfl wd_6_74 wd_6_76 ps_3_13 pnX10_isTransition rfl wd_6_77
  · cases h; exact pvCe_V (k := 3) (T := TX10) (N := 31) (metX10_blocks hf) rfl wd_1_10 rfl wd_6_114 wd_6_116 ps_3_15 pnX10_blocks rfl wd_6_117
  · cases h; exact pvCe_V (k := 1) (T := TX10) (N := 31) (metX10_isEvent hf) rfl wd_1_10 rfl wd_6_140 wd_6_142 ps_4_0 pnX10_isEvent rfl wd_6_143
  · cases h; exact pvCe_V (k := 1) (T := TX10) (N := 31) (metX10_reads hf) rfl wd_1_10 rfl wd_6_148 wd_6_150 ps_4_1 pnX10_reads rfl wd_6_151
  · cases h
set_option maxRecDepth 100000 in
theorem chX10_blockingConstraint : ∀ pc, pvChain cX10_blockingConstraint pc (bX10_blockingConstraint pc) := by
  intro pc
  unfold bX10_blockingConstraint
  split <;> first | exact True.intro | exact pvChain_of (by decide +kernel)
theorem frX10_blockingConstraint : ∀ pc, (bX10_blockingConstraint pc).all (fun q => pvFrB eX10 q.1) = true := by
  intro pc
  unfold bX10_blockingConstraint
  split <;> rfl
theorem metX10_blockingConstraint {l : Launch} (hf : l.stackTraces = false) : pvMet l yX10_blockingConstraint (Cond.code yX10_blockingConstraint cX10_blockingConstraint 4 (some .int) :: pvTb) mX10_blockingConstraint C_X10_blockingConstraint :=
  pvMet_of hf (y := yX10_blockingConstraint) plX10 pvTb_g coX10 foX10 pvCl (caX10_blockingConstraint hf) pvExOk_0 (fun ix h => by rcases h with h | h <;> cases (show (none : Option Nat) = some _ from h)) ⟨rfl, rfl⟩ chX10_blockingConstraint (pvOkM_ex okX10_blockingConstraint frX10_blockingConstraint)
theorem pnX10_laysLeads : pvPn yX10_laysLeads = some 0 := by decide +kernel
theorem caX10_laysLeads {l : Launch} (hf : l.stackTraces = false) : pvCaOk l mX10_laysLeads "EventClockWorkbenchModel" pvTb 58 aX10_laysLeads := by
  refine pvCaOk_i fun ix n b ci co C h => ?_
  unfold aX10_laysLeads at h
  split at h
  · cases h; exact pvCe_S (metX10_at hf) rfl wd_1_10 rfl wd_6_67 wd_6_68 pnX10_at wd_6_69
  · cases h; exact pvCe_V (k := 3) (T := TX10) (N := 31) (metX10_blocks hf) rfl wd_1_10 rfl wd_6_114 wd_6_116 ps_3_15 pnX10_blocks rfl wd_6_117
  · cases h
set_option maxRecDepth 100000 in
theorem chX10_laysLeads : ∀ pc, pvChain cX10_laysLeads pc (bX10_laysLeads pc) := by
  intro pc
  unfold bX10_laysLeads
  split <;> first | exact True.intro | exact pvChain_of (by decide +kernel)
theorem frX10_laysLeads : ∀ pc, (bX10_laysLeads pc).all (fun q => pvFrB eX10 q.1) = true := by
  intro pc
  unfold bX10_laysLeads
  split <;> rfl
theorem metX10_laysLeads {l : Launch} (hf : l.stackTraces = false) : pvMet l yX10_laysLeads (Cond.code yX10_laysLeads cX10_laysLeads 5 none :: pvTb) mX10_laysLeads C_X10_laysLeads :=
  pvMet_of hf (y := yX10_laysLeads) plX10 pvTb_g coX10 foX10 pvCl (caX10_laysLeads hf) pvExOk_0 (fun ix h => by rcases h with h | h <;> cases (show (none : Option Nat) = some _ from h)) ⟨rfl, rfl⟩ chX10_laysLeads (pvOkM_ex okX10_laysLeads frX10_laysLeads)
theorem pnX10_steps : pvPn yX10_steps = some 4 := by decide +kernel
theorem caX10_steps {l : Launch} (hf : l.stackTraces = false) : pvCaOk l mX10_steps "EventClockWorkbenchModel" pvTb 58 aX10_steps := by
  exact fun ix n b ci co C h => nomatch (show (none : Option (Nat × Bool × Nat × Nat × pvC)) = some (n, b, ci, co, C) from h)
set_option maxRecDepth 100000 in
theorem chX10_steps : ∀ pc, pvChain cX10_steps pc (bX10_steps pc) := by
  intro pc
  unfold bX10_steps
  split <;> first | exact True.intro | exact pvChain_of (by decide +kernel)
theorem frX10_steps : ∀ pc, (bX10_steps pc).all (fun q => pvFrB eX10 q.1) = true := by
  intro pc
  unfold bX10_steps
  split <;> rfl
theorem metX10_steps {l : Launch} (hf : l.stackTraces = false) : pvMet l yX10_steps (Cond.code yX10_steps cX10_steps 8 (some .int) :: pvTb) mX10_steps C_X10_steps :=
  pvMet_of hf (y := yX10_steps) plX10 pvTb_g coX10 foX10 pvCl (caX10_steps hf) pvExOk_0 (fun ix h => by rcases h with h | h <;> cases (show (none : Option Nat) = some _ from h)) ⟨rfl, rfl⟩ chX10_steps (pvOkM_ex okX10_steps frX10_steps)
theorem pnX10_numberOf : pvPn yX10_numberOf = some 1 := by decide +kernel
theorem caX10_numberOf {l : Launch} (hf : l.stackTraces = false) : pvCaOk l mX10_numberOf "EventClockWorkbenchModel" pvTb 58 aX10_numberOf := by
  exact fun ix n b ci co C h => nomatch (show (none : Option (Nat × Bool × Nat × Nat × pvC)) = some (n, b, ci, co, C) from h)
set_option maxRecDepth 100000 in
theorem chX10_numberOf : ∀ pc, pvChain cX10_numberOf pc (bX10_numberOf pc) := by
  intro pc
  unfold bX10_numberOf
  split <;> first | exact True.intro | exact pvChain_of (by decide +kernel)
theorem frX10_numberOf : ∀ pc, (bX10_numberOf pc).all (fun q => pvFrB eX10 q.1) = true := by
  intro pc
  unfold bX10_numberOf
  split <;> rfl
theorem metX10_numberOf {l : Launch} (hf : l.stackTraces = false) : pvMet l yX10_numberOf (Cond.code yX10_numberOf cX10_numberOf 3 (some .int) :: pvTb) mX10_numberOf C_X10_numberOf :=
  pvMet_of hf (y := yX10_numberOf) plX10 pvTb_g coX10 foX10 pvCl (caX10_numberOf hf) pvExOk_0 (fun ix h => by rcases h with h | h <;> cases (show (none : Option Nat) = some _ from h)) ⟨rfl, rfl⟩ chX10_numberOf (pvOkM_ex okX10_numberOf frX10_numberOf)
theorem pnX10_determines : pvPn yX10_determines = some 1 := by decide +kernel
theorem caX10_determines {l : Launch} (hf : l.stackTraces = false) : pvCaOk l mX10_determines "EventClockWorkbenchModel" pvTb 58 aX10_determines := by
  refine pvCaOk_i fun ix n b ci co C h => ?_
  unfold aX10_determines at h
  split at h
  · cases h; exact pvCe_V (k := 0) (T := TX10) (N := 31) (metX10_laysLeads hf) rfl wd_1_10 rfl wd_6_223 wd_6_225 ps_4_8 pnX10_laysLeads rfl wd_6_226
  · cases h; exact pvCe_V (k := 1) (T := TX10) (N := 31) (metX10_numberOf hf) rfl wd_1_10 rfl wd_6_227 wd_6_229 ps_4_9 pnX10_numberOf rfl wd_6_230
  · cases h; exact pvCe_V (k := 4) (T := TX10) (N := 31) (metX10_steps hf) rfl wd_1_10 rfl wd_6_231 wd_6_233 ps_4_10 pnX10_steps rfl wd_6_234
  · cases h
set_option maxRecDepth 100000 in
theorem chX10_determines : ∀ pc, pvChain cX10_determines pc (bX10_determines pc) := by
  intro pc
  unfold bX10_determines
  split <;> first | exact True.intro | exact pvChain_of (by decide +kernel)
theorem frX10_determines : ∀ pc, (bX10_determines pc).all (fun q => pvFrB eX10 q.1) = true := by
  intro pc
  unfold bX10_determines
  split <;> rfl
theorem metX10_determines {l : Launch} (hf : l.stackTraces = false) : pvMet l yX10_determines (Cond.code yX10_determines cX10_determines 4 none :: pvTb) mX10_determines C_X10_determines :=
  pvMet_of hf (y := yX10_determines) plX10 pvTb_g coX10 foX10 pvCl (caX10_determines hf) pvExOk_0 (fun ix h => by rcases h with h | h <;> cases (show (none : Option Nat) = some _ from h)) ⟨rfl, rfl⟩ chX10_determines (pvOkM_ex okX10_determines frX10_determines)
theorem pnX10_deterministicStates : pvPn yX10_deterministicStates = some 1 := by decide +kernel
theorem caX10_deterministicStates {l : Launch} (hf : l.stackTraces = false) : pvCaOk l mX10_deterministicStates "EventClockWorkbenchModel" pvTb 58 aX10_deterministicStates := by
  refine pvCaOk_i fun ix n b ci co C h => ?_
  unfold aX10_deterministicStates at h
  split at h
  · cases h; exact pvCe_S (metX10_isSlot hf) rfl wd_1_10 rfl wd_6_38 wd_6_39 pnX10_isSlot wd_6_40
  · cases h; exact pvCe_V (k := 1) (T := TX10) (N := 31) (metX10_fails hf) rfl wd_1_10 rfl wd_6_7 wd_6_9 ps_3_6 pnX10_fails rfl wd_6_10
  · cases h; exact pvCe_V (k := 1) (T := TX10) (N := 31) (metX10_determines hf) rfl wd_1_10 rfl wd_6_219 wd_6_221 ps_4_7 pnX10_determines rfl wd_6_222
  · cases h
set_option maxRecDepth 100000 in
theorem chX10_deterministicStates : ∀ pc, pvChain cX10_deterministicStates pc (bX10_deterministicStates pc) := by
  intro pc
  unfold bX10_deterministicStates
  split <;> first | exact True.intro | exact pvChain_of (by decide +kernel)
theorem frX10_deterministicStates : ∀ pc, (bX10_deterministicStates pc).all (fun q => pvFrB eX10 q.1) = true := by
  intro pc
  unfold bX10_deterministicStates
  split <;> rfl
theorem metX10_deterministicStates {l : Launch} (hf : l.stackTraces = false) : pvMet l yX10_deterministicStates (Cond.code yX10_deterministicStates cX10_deterministicStates 2 (some .int) :: pvTb) mX10_deterministicStates C_X10_deterministicStates :=
  pvMet_of hf (y := yX10_deterministicStates) plX10 pvTb_g coX10 foX10 pvCl (caX10_deterministicStates hf) pvExOk_0 (fun ix h => by rcases h with h | h <;> cases (show (none : Option Nat) = some _ from h)) ⟨rfl, rfl⟩ chX10_deterministicStates (pvOkM_ex okX10_deterministicStates frX10_deterministicStates)
theorem pnX10_deterministicSet : pvPn yX10_deterministicSet = some 2 := by decide +kernel
theorem caX10_deterministicSet {l : Launch} (hf : l.stackTraces = false) : pvCaOk l mX10_deterministicSet "EventClockWorkbenchModel" pvTb 58 aX10_deterministicSet := by
  refine pvCaOk_i fun ix n b ci co C h => ?_
  unfold aX10_deterministicSet at h
  split at h
  · cases h; exact pvCe_S (metX10_in hf) rfl wd_1_10 rfl wd_6_27 wd_6_28 pnX10_in wd_6_29
  · cases h; exact pvCe_S (metX10_isSlot hf) rfl wd_1_10 rfl wd_6_38 wd_6_39 pnX10_isSlot wd_6_40
  · cases h; exact pvCe_V (k := 1) (T := TX10) (N := 31) (metX10_fails hf) rfl wd_1_10 rfl wd_6_7 wd_6_9 ps_3_6 pnX10_fails rfl wd_6_10
  · cases h; exact pvCe_V (k := 1) (T := TX10) (N := 31) (metX10_determines hf) rfl wd_1_10 rfl wd_6_219 wd_6_221 ps_4_7 pnX10_determines rfl wd_6_222
  · cases h
set_option maxRecDepth 100000 in
theorem chX10_deterministicSet : ∀ pc, pvChain cX10_deterministicSet pc (bX10_deterministicSet pc) := by
  intro pc
  unfold bX10_deterministicSet
  split <;> first | exact True.intro | exact pvChain_of (by decide +kernel)
theorem frX10_deterministicSet : ∀ pc, (bX10_deterministicSet pc).all (fun q => pvFrB eX10 q.1) = true := by
  intro pc
  unfold bX10_deterministicSet
  split <;> rfl
theorem metX10_deterministicSet {l : Launch} (hf : l.stackTraces = false) : pvMet l yX10_deterministicSet (Cond.code yX10_deterministicSet cX10_deterministicSet 3 (some .int) :: pvTb) mX10_deterministicSet C_X10_deterministicSet :=
  pvMet_of hf (y := yX10_deterministicSet) plX10 pvTb_g coX10 foX10 pvCl (caX10_deterministicSet hf) pvExOk_0 (fun ix h => by rcases h with h | h <;> cases (show (none : Option Nat) = some _ from h)) ⟨rfl, rfl⟩ chX10_deterministicSet (pvOkM_ex okX10_deterministicSet frX10_deterministicSet)
theorem pnX10_branchesOf : pvPn yX10_branchesOf = some 3 := by decide +kernel
theorem caX10_branchesOf {l : Launch} (hf : l.stackTraces = false) : pvCaOk l mX10_branchesOf "EventClockWorkbenchModel" pvTb 58 aX10_branchesOf := by
  refine pvCaOk_i fun ix n b ci co C h => ?_
  unfold aX10_branchesOf at h
  split at h
  · cases h; exact pvCe_V (k := 1) (T := TX10) (N := 31) (metX10_numberOf hf) rfl wd_1_10 rfl wd_6_227 wd_6_229 ps_4_9 pnX10_numberOf rfl wd_6_230
  · cases h; exact pvCe_V (k := 4) (T := TX10) (N := 31) (metX10_steps hf) rfl wd_1_10 rfl wd_6_231 wd_6_233 ps_4_10 pnX10_steps rfl wd_6_234
  · cases h
set_option maxRecDepth 100000 in
theorem chX10_branchesOf : ∀ pc, pvChain cX10_branchesOf pc (bX10_branchesOf pc) := by
  intro pc
  unfold bX10_branchesOf
  split <;> first | exact True.intro | exact pvChain_of (by decide +kernel)
theorem frX10_branchesOf : ∀ pc, (bX10_branchesOf pc).all (fun q => pvFrB eX10 q.1) = true := by
  intro pc
  unfold bX10_branchesOf
  split <;> rfl
theorem metX10_branchesOf {l : Launch} (hf : l.stackTraces = false) : pvMet l yX10_branchesOf (Cond.code yX10_branchesOf cX10_branchesOf 7 none :: pvTb) mX10_branchesOf C_X10_branchesOf :=
  pvMet_of hf (y := yX10_branchesOf) plX10 pvTb_g coX10 foX10 pvCl (caX10_branchesOf hf) pvExOk_0 (fun ix h => by rcases h with h | h <;> cases (show (none : Option Nat) = some _ from h)) ⟨rfl, rfl⟩ chX10_branchesOf (pvOkM_ex okX10_branchesOf frX10_branchesOf)
theorem pnX10_areBranches : pvPn yX10_areBranches = some 3 := by decide +kernel
theorem caX10_areBranches {l : Launch} (hf : l.stackTraces = false) : pvCaOk l mX10_areBranches "EventClockWorkbenchModel" pvTb 58 aX10_areBranches := by
  refine pvCaOk_i fun ix n b ci co C h => ?_
  unfold aX10_areBranches at h
  split at h
  · cases h; exact pvCe_S (metX10_in hf) rfl wd_1_10 rfl wd_6_27 wd_6_28 pnX10_in wd_6_29
  · cases h; exact pvCe_S (metX10_isSlot hf) rfl wd_1_10 rfl wd_6_38 wd_6_39 pnX10_isSlot wd_6_40
  · cases h; exact pvCe_S (metX10_isLetter hf) rfl wd_1_10 rfl wd_6_44 wd_6_45 pnX10_isLetter wd_6_46
  · cases h; exact pvCe_V (k := 1) (T := TX10) (N := 31) (metX10_determines hf) rfl wd_1_10 rfl wd_6_219 wd_6_221 ps_4_7 pnX10_determines rfl wd_6_222
  · cases h; exact pvCe_V (k := 3) (T := TX10) (N := 31) (metX10_branchesOf hf) rfl wd_1_10 rfl wd_7_7 wd_7_9 ps_4_12 pnX10_branchesOf rfl wd_7_10
  · cases h
set_option maxRecDepth 100000 in
theorem chX10_areBranches : ∀ pc, pvChain cX10_areBranches pc (bX10_areBranches pc) := by
  intro pc
  unfold bX10_areBranches
  split <;> first | exact True.intro | exact pvChain_of (by decide +kernel)
theorem frX10_areBranches : ∀ pc, (bX10_areBranches pc).all (fun q => pvFrB eX10 q.1) = true := by
  intro pc
  unfold bX10_areBranches
  split <;> rfl
theorem metX10_areBranches {l : Launch} (hf : l.stackTraces = false) : pvMet l yX10_areBranches (Cond.code yX10_areBranches cX10_areBranches 4 (some .boolean) :: pvTb) mX10_areBranches C_X10_areBranches :=
  pvMet_of hf (y := yX10_areBranches) plX10 pvTb_g coX10 foX10 pvCl (caX10_areBranches hf) pvExOk_0 (fun ix h => by rcases h with h | h <;> cases (show (none : Option Nat) = some _ from h)) ⟨rfl, rfl⟩ chX10_areBranches (pvOkM_ex okX10_areBranches frX10_areBranches)
theorem pnX10_branches : pvPn yX10_branches = some 3 := by decide +kernel
theorem caX10_branches {l : Launch} (hf : l.stackTraces = false) : pvCaOk l mX10_branches "EventClockWorkbenchModel" pvTb 58 aX10_branches := by
  refine pvCaOk_i fun ix n b ci co C h => ?_
  unfold aX10_branches at h
  split at h
  · cases h; exact pvCe_V (k := 3) (T := TX10) (N := 31) (metX10_areBranches hf) rfl wd_1_10 rfl wd_7_3 wd_7_5 ps_4_11 pnX10_areBranches rfl wd_7_6
  · cases h
set_option maxRecDepth 100000 in
theorem chX10_branches : ∀ pc, pvChain cX10_branches pc (bX10_branches pc) := by
  intro pc
  unfold bX10_branches
  split <;> first | exact True.intro | exact pvChain_of (by decide +kernel)
theorem frX10_branches : ∀ pc, (bX10_branches pc).all (fun q => pvFrB eX10 q.1) = true := by
  intro pc
  unfold bX10_branches
  split <;> rfl
theorem metX10_branches {l : Launch} (hf : l.stackTraces = false) : pvMet l yX10_branches (Cond.code yX10_branches cX10_branches 4 (some .int) :: pvTb) mX10_branches C_X10_branches :=
  pvMet_of hf (y := yX10_branches) plX10 pvTb_g coX10 foX10 pvCl (caX10_branches hf) pvExOk_0 (fun ix h => by rcases h with h | h <;> cases (show (none : Option Nat) = some _ from h)) ⟨rfl, rfl⟩ chX10_branches (pvOkM_ex okX10_branches frX10_branches)
theorem pnX10_branchTarget : pvPn yX10_branchTarget = some 4 := by decide +kernel
theorem caX10_branchTarget {l : Launch} (hf : l.stackTraces = false) : pvCaOk l mX10_branchTarget "EventClockWorkbenchModel" pvTb 58 aX10_branchTarget := by
  refine pvCaOk_i fun ix n b ci co C h => ?_
  unfold aX10_branchTarget at h
  split at h
  · cases h; exact pvCe_S (metX10_in hf) rfl wd_1_10 rfl wd_6_27 wd_6_28 pnX10_in wd_6_29
  · cases h; exact pvCe_V (k := 3) (T := TX10) (N := 31) (metX10_areBranches hf) rfl wd_1_10 rfl wd_7_3 wd_7_5 ps_4_11 pnX10_areBranches rfl wd_7_6
  · cases h
set_option maxRecDepth 100000 in
theorem chX10_branchTarget : ∀ pc, pvChain cX10_branchTarget pc (bX10_branchTarget pc) := by
  intro pc
  unfold bX10_branchTarget
  split <;> first | exact True.intro | exact pvChain_of (by decide +kernel)
theorem frX10_branchTarget : ∀ pc, (bX10_branchTarget pc).all (fun q => pvFrB eX10 q.1) = true := by
  intro pc
  unfold bX10_branchTarget
  split <;> rfl
theorem metX10_branchTarget {l : Launch} (hf : l.stackTraces = false) : pvMet l yX10_branchTarget (Cond.code yX10_branchTarget cX10_branchTarget 5 (some .int) :: pvTb) mX10_branchTarget C_X10_branchTarget :=
  pvMet_of hf (y := yX10_branchTarget) plX10 pvTb_g coX10 foX10 pvCl (caX10_branchTarget hf) pvExOk_0 (fun ix h => by rcases h with h | h <;> cases (show (none : Option Nat) = some _ from h)) ⟨rfl, rfl⟩ chX10_branchTarget (pvOkM_ex okX10_branchTarget frX10_branchTarget)
theorem pnX10_branchValuations : pvPn yX10_branchValuations = some 4 := by decide +kernel
theorem caX10_branchValuations {l : Launch} (hf : l.stackTraces = false) : pvCaOk l mX10_branchValuations "EventClockWorkbenchModel" pvTb 58 aX10_branchValuations := by
  refine pvCaOk_i fun ix n b ci co C h => ?_
  unfold aX10_branchValuations at h
  split at h
  · cases h; exact pvCe_S (metX10_in hf) rfl wd_1_10 rfl wd_6_27 wd_6_28 pnX10_in wd_6_29
  · cases h; exact pvCe_V (k := 3) (T := TX10) (N := 31) (metX10_areBranches hf) rfl wd_1_10 rfl wd_7_3 wd_7_5 ps_4_11 pnX10_areBranches rfl wd_7_6
  · cases h
set_option maxRecDepth 100000 in
theorem chX10_branchValuations : ∀ pc, pvChain cX10_branchValuations pc (bX10_branchValuations pc) := by
  intro pc
  unfold bX10_branchValuations
  split <;> first | exact True.intro | exact pvChain_of (by decide +kernel)
theorem frX10_branchValuations : ∀ pc, (bX10_branchValuations pc).all (fun q => pvFrB eX10 q.1) = true := by
  intro pc
  unfold bX10_branchValuations
  split <;> rfl
theorem metX10_branchValuations {l : Launch} (hf : l.stackTraces = false) : pvMet l yX10_branchValuations (Cond.code yX10_branchValuations cX10_branchValuations 5 (some .int) :: pvTb) mX10_branchValuations C_X10_branchValuations :=
  pvMet_of hf (y := yX10_branchValuations) plX10 pvTb_g coX10 foX10 pvCl (caX10_branchValuations hf) pvExOk_0 (fun ix h => by rcases h with h | h <;> cases (show (none : Option Nat) = some _ from h)) ⟨rfl, rfl⟩ chX10_branchValuations (pvOkM_ex okX10_branchValuations frX10_branchValuations)
theorem pnX10_deterministicRun : pvPn yX10_deterministicRun = some 1 := by decide +kernel
theorem caX10_deterministicRun {l : Launch} (hf : l.stackTraces = false) : pvCaOk l mX10_deterministicRun "EventClockWorkbenchModel" pvTb 58 aX10_deterministicRun := by
  refine pvCaOk_i fun ix n b ci co C h => ?_
  unfold aX10_deterministicRun at h
  split at h
  · cases h; exact pvCe_S (metX10_isSlot hf) rfl wd_1_10 rfl wd_6_38 wd_6_39 pnX10_isSlot wd_6_40
  · cases h; exact pvCe_V (k := 1) (T := TX10) (N := 31) (metX10_fails hf) rfl wd_1_10 rfl wd_6_7 wd_6_9 ps_3_6 pnX10_fails rfl wd_6_10
  · cases h; exact pvCe_V (k := 2) (T := TX10) (N := 31) (metX10_after hf) rfl wd_1_10 rfl wd_6_171 wd_6_173 ps_4_2 pnX10_after rfl wd_6_174
  · cases h; exact pvCe_V (k := 1) (T := TX10) (N := 31) (metX10_numberOf hf) rfl wd_1_10 rfl wd_6_227 wd_6_229 ps_4_9 pnX10_numberOf rfl wd_6_230
  · cases h; exact pvCe_V (k := 1) (T := TX10) (N := 31) (metX10_determines hf) rfl wd_1_10 rfl wd_6_219 wd_6_221 ps_4_7 pnX10_determines rfl wd_6_222
  · cases h
set_option maxRecDepth 100000 in
theorem chX10_deterministicRun : ∀ pc, pvChain cX10_deterministicRun pc (bX10_deterministicRun pc) := by
  intro pc
  unfold bX10_deterministicRun
  split <;> first | exact True.intro | exact pvChain_of (by decide +kernel)
theorem frX10_deterministicRun : ∀ pc, (bX10_deterministicRun pc).all (fun q => pvFrB eX10 q.1) = true := by
  intro pc
  unfold bX10_deterministicRun
  split <;> rfl
theorem metX10_deterministicRun {l : Launch} (hf : l.stackTraces = false) : pvMet l yX10_deterministicRun (Cond.code yX10_deterministicRun cX10_deterministicRun 2 (some .int) :: pvTb) mX10_deterministicRun C_X10_deterministicRun :=
  pvMet_of hf (y := yX10_deterministicRun) plX10 pvTb_g coX10 foX10 pvCl (caX10_deterministicRun hf) pvExOk_0 (fun ix h => by rcases h with h | h <;> cases (show (none : Option Nat) = some _ from h)) ⟨rfl, rfl⟩ chX10_deterministicRun (pvOkM_ex okX10_deterministicRun frX10_deterministicRun)
theorem pnX10_clash : pvPn yX10_clash = some 3 := by decide +kernel
theorem caX10_clash {l : Launch} (hf : l.stackTraces = false) : pvCaOk l mX10_clash "EventClockWorkbenchModel" pvTb 58 aX10_clash := by
  refine pvCaOk_i fun ix n b ci co C h => ?_
  unfold aX10_clash at h
  split at h
  · cases h; exact pvCe_S (metX10_at hf) rfl wd_1_10 rfl wd_6_67 wd_6_68 pnX10_at wd_6_69
  · cases h; exact pvCe_V (k := 3) (T := TX10) (N := 31) (metX10_blocks hf) rfl wd_1_10 rfl wd_6_114 wd_6_116 ps_3_15 pnX10_blocks rfl wd_6_117
  · cases h
set_option maxRecDepth 100000 in
theorem chX10_clash : ∀ pc, pvChain cX10_clash pc (bX10_clash pc) := by
  intro pc
  unfold bX10_clash
  split <;> first | exact True.intro | exact pvChain_of (by decide +kernel)
theorem frX10_clash : ∀ pc, (bX10_clash pc).all (fun q => pvFrB eX10 q.1) = true := by
  intro pc
  unfold bX10_clash
  split <;> rfl
theorem metX10_clash {l : Launch} (hf : l.stackTraces = false) : pvMet l yX10_clash (Cond.code yX10_clash cX10_clash 6 (some .boolean) :: pvTb) mX10_clash C_X10_clash :=
  pvMet_of hf (y := yX10_clash) plX10 pvTb_g coX10 foX10 pvCl (caX10_clash hf) pvExOk_0 (fun ix h => by rcases h with h | h <;> cases (show (none : Option Nat) = some _ from h)) ⟨rfl, rfl⟩ chX10_clash (pvOkM_ex okX10_clash frX10_clash)
theorem pnX10_isDeterministic : pvPn yX10_isDeterministic = some 1 := by decide +kernel
theorem caX10_isDeterministic {l : Launch} (hf : l.stackTraces = false) : pvCaOk l mX10_isDeterministic "EventClockWorkbenchModel" pvTb 58 aX10_isDeterministic := by
  refine pvCaOk_i fun ix n b ci co C h => ?_
  unfold aX10_isDeterministic at h
  split at h
  · cases h; exact pvCe_S (metX10_isSlot hf) rfl wd_1_10 rfl wd_6_38 wd_6_39 pnX10_isSlot wd_6_40
  · cases h; exact pvCe_V (k := 3) (T := TX10) (N := 31) (metX10_clash hf) rfl wd_1_10 rfl wd_7_27 wd_7_29 ps_4_13 pnX10_clash rfl wd_7_30
  · cases h
set_option maxRecDepth 100000 in
theorem chX10_isDeterministic : ∀ pc, pvChain cX10_isDeterministic pc (bX10_isDeterministic pc) := by
  intro pc
  unfold bX10_isDeterministic
  split <;> first | exact True.intro | exact pvChain_of (by decide +kernel)
theorem frX10_isDeterministic : ∀ pc, (bX10_isDeterministic pc).all (fun q => pvFrB eX10 q.1) = true := by
  intro pc
  unfold bX10_isDeterministic
  split <;> rfl
theorem metX10_isDeterministic {l : Launch} (hf : l.stackTraces = false) : pvMet l yX10_isDeterministic (Cond.code yX10_isDeterministic cX10_isDeterministic 6 (some .boolean) :: pvTb) mX10_isDeterministic C_X10_isDeterministic :=
  pvMet_of hf (y := yX10_isDeterministic) plX10 pvTb_g coX10 foX10 pvCl (caX10_isDeterministic hf) pvExOk_0 (fun ix h => by rcases h with h | h <;> cases (show (none : Option Nat) = some _ from h)) ⟨rfl, rfl⟩ chX10_isDeterministic (pvOkM_ex okX10_isDeterministic frX10_isDeterministic)
theorem pnX10_valueOf : pvPn yX10_valueOf = some 1 := by decide +kernel
theorem caX10_valueOf {l : Launch} (hf : l.stackTraces = false) : pvCaOk l mX10_valueOf "EventClockWorkbenchModel" pvTb 58 aX10_valueOf := by
  exact fun ix n b ci co C h => nomatch (show (none : Option (Nat × Bool × Nat × Nat × pvC)) = some (n, b, ci, co, C) from h)
set_option maxRecDepth 100000 in
theorem chX10_valueOf : ∀ pc, pvChain cX10_valueOf pc (bX10_valueOf pc) := by
  intro pc
  unfold bX10_valueOf
  split <;> first | exact True.intro | exact pvChain_of (by decide +kernel)
theorem frX10_valueOf : ∀ pc, (bX10_valueOf pc).all (fun q => pvFrB eX10 q.1) = true := by
  intro pc
  unfold bX10_valueOf
  split <;> rfl
theorem metX10_valueOf {l : Launch} (hf : l.stackTraces = false) : pvMet l yX10_valueOf (Cond.code yX10_valueOf cX10_valueOf 3 (some .int) :: pvTb) mX10_valueOf C_X10_valueOf :=
  pvMet_of hf (y := yX10_valueOf) plX10 pvTb_g coX10 foX10 pvCl (caX10_valueOf hf) pvExOk_0 (fun ix h => by rcases h with h | h <;> cases (show (none : Option Nat) = some _ from h)) ⟨rfl, rfl⟩ chX10_valueOf (pvOkM_ex okX10_valueOf frX10_valueOf)
