/-! contracts over the machine, 2 -/
theorem pnX3_countAllBranches : pvPn yX3_countAllBranches = some 0 := by decide +kernel
theorem caX3_countAllBranches {l : Launch} (hf : l.stackTraces = false) (lm : Nat → Prop) (sc : Nat × (Nat → Int)) : pvCaOk l mX3_countAllBranches "EventClockWorkbench$Powerset" pvTb lm sc aX3_countAllBranches := by
  refine pvCaOk_i fun ix n b ci co C h => ?_
  unfold aX3_countAllBranches at h
  split at h
  · cases h; exact pvCe_V (k := 2) (T := TX3) (N := 7) (metX3_countBranches hf) rfl wd_1_3 rfl wd_5_167 wd_5_128 wd_5_129 pnX3_countBranches rfl wd_5_130
  · cases h
set_option maxRecDepth 100000 in
theorem chX3_countAllBranches : ∀ pc, pvChain cX3_countAllBranches pc (bX3_countAllBranches pc) := by
  intro pc
  unfold bX3_countAllBranches
  split <;> first | exact True.intro | exact pvChain_of (by decide +kernel)
theorem frX3_countAllBranches : ∀ pc, (bX3_countAllBranches pc).all (fun q => pvFrB eX3 q.1) = true := by
  intro pc
  unfold bX3_countAllBranches
  split <;> rfl
theorem metX3_countAllBranches {l : Launch} (hf : l.stackTraces = false) : pvMet l yX3_countAllBranches (Cond.code yX3_countAllBranches cX3_countAllBranches 4 (some .int) :: pvTb) mX3_countAllBranches C_X3_countAllBranches :=
  pvMet_of hf (y := yX3_countAllBranches) plX3 pvTb_g coX3 foX3 pvCl (caX3_countAllBranches hf) pvExOk_0 (fun ix h => by rcases h with h | h <;> cases (show (none : Option Nat) = some _ from h)) ⟨rfl, rfl⟩ chX3_countAllBranches (pvOkM_ex okX3_countAllBranches frX3_countAllBranches)
theorem pnX3_branchSet : pvPn yX3_branchSet = some 3 := by decide +kernel
theorem caX3_branchSet {l : Launch} (hf : l.stackTraces = false) (lm : Nat → Prop) (sc : Nat × (Nat → Int)) : pvCaOk l mX3_branchSet "EventClockWorkbench$Powerset" pvTb lm sc aX3_branchSet := by
  refine pvCaOk_i fun ix n b ci co C h => ?_
  unfold aX3_branchSet at h
  split at h
  · cases h; exact pvCe_V (k := 3) (T := TX3) (N := 7) (metX3_successor hf) rfl wd_1_3 rfl wd_2_236 wd_2_237 wd_2_238 pnX3_successor rfl wd_2_239
  · cases h; exact pvCe_V (k := 1) (T := TX3) (N := 7) (metX3_setAt hf) rfl wd_1_3 rfl wd_5_131 wd_3_1 wd_3_2 pnX3_setAt rfl wd_3_3
  · cases h
set_option maxRecDepth 100000 in
theorem chX3_branchSet : ∀ pc, pvChain cX3_branchSet pc (bX3_branchSet pc) := by
  intro pc
  unfold bX3_branchSet
  split <;> first | exact True.intro | exact pvChain_of (by decide +kernel)
theorem frX3_branchSet : ∀ pc, (bX3_branchSet pc).all (fun q => pvFrB eX3 q.1) = true := by
  intro pc
  unfold bX3_branchSet
  split <;> rfl
theorem metX3_branchSet {l : Launch} (hf : l.stackTraces = false) : pvMet l yX3_branchSet (Cond.code yX3_branchSet cX3_branchSet 9 (some .int) :: pvTb) mX3_branchSet C_X3_branchSet :=
  pvMet_of hf (y := yX3_branchSet) plX3 pvTb_g coX3 foX3 pvCl (caX3_branchSet hf) pvExOk_0 (fun ix h => by rcases h with h | h <;> cases (show (none : Option Nat) = some _ from h)) ⟨rfl, rfl⟩ chX3_branchSet (pvOkM_ex okX3_branchSet frX3_branchSet)
theorem pnX3_countValuations : pvPn yX3_countValuations = some 3 := by decide +kernel
theorem caX3_countValuations {l : Launch} (hf : l.stackTraces = false) (lm : Nat → Prop) (sc : Nat × (Nat → Int)) : pvCaOk l mX3_countValuations "EventClockWorkbench$Powerset" pvTb lm sc aX3_countValuations := by
  refine pvCaOk_i fun ix n b ci co C h => ?_
  unfold aX3_countValuations at h
  split at h
  · cases h; exact pvCe_V (k := 3) (T := TX3) (N := 7) (metX3_successor hf) rfl wd_1_3 rfl wd_2_236 wd_2_237 wd_2_238 pnX3_successor rfl wd_2_239
  · cases h; exact pvCe_V (k := 1) (T := TX3) (N := 7) (metX3_setAt hf) rfl wd_1_3 rfl wd_5_131 wd_3_1 wd_3_2 pnX3_setAt rfl wd_3_3
  · cases h
set_option maxRecDepth 100000 in
theorem chX3_countValuations : ∀ pc, pvChain cX3_countValuations pc (bX3_countValuations pc) := by
  intro pc
  unfold bX3_countValuations
  split <;> first | exact True.intro | exact pvChain_of (by decide +kernel)
theorem frX3_countValuations : ∀ pc, (bX3_countValuations pc).all (fun q => pvFrB eX3 q.1) = true := by
  intro pc
  unfold bX3_countValuations
  split <;> rfl
theorem metX3_countValuations {l : Launch} (hf : l.stackTraces = false) : pvMet l yX3_countValuations (Cond.code yX3_countValuations cX3_countValuations 7 (some .int) :: pvTb) mX3_countValuations C_X3_countValuations :=
  pvMet_of hf (y := yX3_countValuations) plX3 pvTb_g coX3 foX3 pvCl (caX3_countValuations hf) pvExOk_0 (fun ix h => by rcases h with h | h <;> cases (show (none : Option Nat) = some _ from h)) ⟨rfl, rfl⟩ chX3_countValuations (pvOkM_ex okX3_countValuations frX3_countValuations)
theorem pnX5_placeOf : pvPn yX5_placeOf = some 2 := by decide +kernel
theorem caX5_placeOf {l : Launch} (hf : l.stackTraces = false) (lm : Nat → Prop) (sc : Nat × (Nat → Int)) : pvCaOk l mX5_placeOf "EventClockWorkbench$Search" pvTb lm sc aX5_placeOf := by
  exact fun ix n b ci co C h => nomatch (show (none : Option (Nat × Bool × Nat × Nat × pvC)) = some (n, b, ci, co, C) from h)
set_option maxRecDepth 100000 in
theorem chX5_placeOf : ∀ pc, pvChain cX5_placeOf pc (bX5_placeOf pc) := by
  intro pc
  unfold bX5_placeOf
  split <;> first | exact True.intro | exact pvChain_of (by decide +kernel)
theorem frX5_placeOf : ∀ pc, (bX5_placeOf pc).all (fun q => pvFrB eX5 q.1) = true := by
  intro pc
  unfold bX5_placeOf
  split <;> rfl
theorem metX5_placeOf {l : Launch} (hf : l.stackTraces = false) : pvMet l yX5_placeOf (Cond.code yX5_placeOf cX5_placeOf 5 (some .int) :: pvTb) mX5_placeOf C_X5_placeOf :=
  pvMet_of hf (y := yX5_placeOf) plX5 pvTb_g coX5 foX5 pvCl (caX5_placeOf hf) pvExOk_0 (fun ix h => by rcases h with h | h <;> cases (show (none : Option Nat) = some _ from h)) ⟨rfl, rfl⟩ chX5_placeOf (pvOkM_ex okX5_placeOf frX5_placeOf)
theorem pnX5_forget : pvPn yX5_forget = some 0 := by decide +kernel
theorem caX5_forget {l : Launch} (hf : l.stackTraces = false) (lm : Nat → Prop) (sc : Nat × (Nat → Int)) : pvCaOk l mX5_forget "EventClockWorkbench$Search" pvTb lm sc aX5_forget := by
  refine pvCaOk_i fun ix n b ci co C h => ?_
  unfold aX5_forget at h
  split at h
  · cases h; exact pvCe_S (metX5_placeOf hf) rfl wd_1_7 rfl wd_4_238 wd_4_239 pnX5_placeOf wd_5_0
  · cases h; exact pvCe_NS (metNX9_isIndex hf) rfl wd_1_1 rfl (List.mem_of_getElem? (i := 7) rfl) wd_2_95 pnX9_isIndex wd_2_96
  · cases h
set_option maxRecDepth 100000 in
theorem chX5_forget : ∀ pc, pvChain cX5_forget pc (bX5_forget pc) := by
  intro pc
  unfold bX5_forget
  split <;> first | exact True.intro | exact pvChain_of (by decide +kernel)
theorem frX5_forget : ∀ pc, (bX5_forget pc).all (fun q => pvFrB eX5 q.1) = true := by
  intro pc
  unfold bX5_forget
  split <;> rfl
theorem metX5_forget {l : Launch} (hf : l.stackTraces = false) : pvMet l yX5_forget (Cond.code yX5_forget cX5_forget 4 none :: pvTb) mX5_forget C_X5_forget :=
  pvMet_of hf (y := yX5_forget) plX5 pvTb_g coX5 foX5 pvCl (caX5_forget hf) pvExOk_0 (fun ix h => by rcases h with h | h <;> cases (show (none : Option Nat) = some _ from h)) ⟨rfl, rfl⟩ chX5_forget (pvOkM_ex okX5_forget frX5_forget)
theorem pnX5_enter : pvPn yX5_enter = some 3 := by decide +kernel
theorem caX5_enter {l : Launch} (hf : l.stackTraces = false) (lm : Nat → Prop) (sc : Nat × (Nat → Int)) : pvCaOk l mX5_enter "EventClockWorkbench$Search" pvTb lm sc aX5_enter := by
  refine pvCaOk_i fun ix n b ci co C h => ?_
  unfold aX5_enter at h
  split at h
  · cases h; exact pvCe_S (metX5_placeOf hf) rfl wd_1_7 rfl wd_4_238 wd_4_239 pnX5_placeOf wd_5_0
  · cases h; exact pvCe_NS (metNX9_isIndex hf) rfl wd_1_1 rfl (List.mem_of_getElem? (i := 7) rfl) wd_2_95 pnX9_isIndex wd_2_96
  · cases h
set_option maxRecDepth 100000 in
theorem chX5_enter : ∀ pc, pvChain cX5_enter pc (bX5_enter pc) := by
  intro pc
  unfold bX5_enter
  split <;> first | exact True.intro | exact pvChain_of (by decide +kernel)
theorem frX5_enter : ∀ pc, (bX5_enter pc).all (fun q => pvFrB eX5 q.1) = true := by
  intro pc
  unfold bX5_enter
  split <;> rfl
theorem metX5_enter {l : Launch} (hf : l.stackTraces = false) : pvMet l yX5_enter (Cond.code yX5_enter cX5_enter 6 none :: pvTb) mX5_enter C_X5_enter :=
  pvMet_of hf (y := yX5_enter) plX5 pvTb_g coX5 foX5 pvCl (caX5_enter hf) pvExOk_0 (fun ix h => by rcases h with h | h <;> cases (show (none : Option Nat) = some _ from h)) ⟨rfl, rfl⟩ chX5_enter (pvOkM_ex okX5_enter frX5_enter)
theorem pnX5_putStart : pvPn yX5_putStart = some 2 := by decide +kernel
theorem caX5_putStart {l : Launch} (hf : l.stackTraces = false) (lm : Nat → Prop) (sc : Nat × (Nat → Int)) : pvCaOk l mX5_putStart "EventClockWorkbench$Search" pvTb lm sc aX5_putStart := by
  refine pvCaOk_i fun ix n b ci co C h => ?_
  unfold aX5_putStart at h
  split at h
  · cases h; exact pvCe_NS (metNX9_isIndex hf) rfl wd_1_1 rfl (List.mem_of_getElem? (i := 7) rfl) wd_2_95 pnX9_isIndex wd_2_96
  · cases h
set_option maxRecDepth 100000 in
theorem chX5_putStart : ∀ pc, pvChain cX5_putStart pc (bX5_putStart pc) := by
  intro pc
  unfold bX5_putStart
  split <;> first | exact True.intro | exact pvChain_of (by decide +kernel)
theorem frX5_putStart : ∀ pc, (bX5_putStart pc).all (fun q => pvFrB eX5 q.1) = true := by
  intro pc
  unfold bX5_putStart
  split <;> rfl
theorem metX5_putStart {l : Launch} (hf : l.stackTraces = false) : pvMet l yX5_putStart (Cond.code yX5_putStart cX5_putStart 3 none :: pvTb) mX5_putStart C_X5_putStart :=
  pvMet_of hf (y := yX5_putStart) plX5 pvTb_g coX5 foX5 pvCl (caX5_putStart hf) pvExOk_0 (fun ix h => by rcases h with h | h <;> cases (show (none : Option Nat) = some _ from h)) ⟨rfl, rfl⟩ chX5_putStart (pvOkM_ex okX5_putStart frX5_putStart)
theorem pnX5_configurationAt : pvPn yX5_configurationAt = some 1 := by decide +kernel
theorem caX5_configurationAt {l : Launch} (hf : l.stackTraces = false) (lm : Nat → Prop) (sc : Nat × (Nat → Int)) : pvCaOk l mX5_configurationAt "EventClockWorkbench$Search" pvTb lm sc aX5_configurationAt := by
  refine pvCaOk_i fun ix n b ci co C h => ?_
  unfold aX5_configurationAt at h
  split at h
  · cases h; exact pvCe_NS (metNX9_isIndex hf) rfl wd_1_1 rfl (List.mem_of_getElem? (i := 7) rfl) wd_2_95 pnX9_isIndex wd_2_96
  · cases h
set_option maxRecDepth 100000 in
theorem chX5_configurationAt : ∀ pc, pvChain cX5_configurationAt pc (bX5_configurationAt pc) := by
  intro pc
  unfold bX5_configurationAt
  split <;> first | exact True.intro | exact pvChain_of (by decide +kernel)
theorem frX5_configurationAt : ∀ pc, (bX5_configurationAt pc).all (fun q => pvFrB eX5 q.1) = true := by
  intro pc
  unfold bX5_configurationAt
  split <;> rfl
theorem metX5_configurationAt {l : Launch} (hf : l.stackTraces = false) : pvMet l yX5_configurationAt (Cond.code yX5_configurationAt cX5_configurationAt 2 (some .int) :: pvTb) mX5_configurationAt C_X5_configurationAt :=
  pvMet_of hf (y := yX5_configurationAt) plX5 pvTb_g coX5 foX5 pvCl (caX5_configurationAt hf) pvExOk_0 (fun ix h => by rcases h with h | h <;> cases (show (none : Option Nat) = some _ from h)) ⟨rfl, rfl⟩ chX5_configurationAt (pvOkM_ex okX5_configurationAt frX5_configurationAt)
theorem pnX5_isGoal : pvPn yX5_isGoal = some 3 := by decide +kernel
theorem caX5_isGoal {l : Launch} (hf : l.stackTraces = false) (lm : Nat → Prop) (sc : Nat × (Nat → Int)) : pvCaOk l mX5_isGoal "EventClockWorkbench$Search" pvTb lm sc aX5_isGoal := by
  exact fun ix n b ci co C h => nomatch (show (none : Option (Nat × Bool × Nat × Nat × pvC)) = some (n, b, ci, co, C) from h)
set_option maxRecDepth 100000 in
theorem chX5_isGoal : ∀ pc, pvChain cX5_isGoal pc (bX5_isGoal pc) := by
  intro pc
  unfold bX5_isGoal
  split <;> first | exact True.intro | exact pvChain_of (by decide +kernel)
theorem frX5_isGoal : ∀ pc, (bX5_isGoal pc).all (fun q => pvFrB eX5 q.1) = true := by
  intro pc
  unfold bX5_isGoal
  split <;> rfl
theorem metX5_isGoal {l : Launch} (hf : l.stackTraces = false) : pvMet l yX5_isGoal (Cond.code yX5_isGoal cX5_isGoal 3 (some .boolean) :: pvTb) mX5_isGoal C_X5_isGoal :=
  pvMet_of hf (y := yX5_isGoal) plX5 pvTb_g coX5 foX5 pvCl (caX5_isGoal hf) pvExOk_0 (fun ix h => by rcases h with h | h <;> cases (show (none : Option Nat) = some _ from h)) ⟨rfl, rfl⟩ chX5_isGoal (pvOkM_ex okX5_isGoal frX5_isGoal)
theorem pnX5_hasGoal : pvPn yX5_hasGoal = some 4 := by decide +kernel
theorem caX5_hasGoal {l : Launch} (hf : l.stackTraces = false) (lm : Nat → Prop) (sc : Nat × (Nat → Int)) : pvCaOk l mX5_hasGoal "EventClockWorkbench$Search" pvTb lm sc aX5_hasGoal := by
  refine pvCaOk_i fun ix n b ci co C h => ?_
  unfold aX5_hasGoal at h
  split at h
  · cases h; exact pvCe_V (k := 1) (T := TX5) (N := 5) (metX5_configurationAt hf) rfl wd_1_7 rfl wd_5_14 wd_5_16 ps_2_8 pnX5_configurationAt rfl wd_5_17
  · cases h; exact pvCe_S (metX5_isGoal hf) rfl wd_1_7 rfl wd_5_18 wd_5_19 pnX5_isGoal wd_5_20
  · cases h
set_option maxRecDepth 100000 in
theorem chX5_hasGoal : ∀ pc, pvChain cX5_hasGoal pc (bX5_hasGoal pc) := by
  intro pc
  unfold bX5_hasGoal
  split <;> first | exact True.intro | exact pvChain_of (by decide +kernel)
theorem frX5_hasGoal : ∀ pc, (bX5_hasGoal pc).all (fun q => pvFrB eX5 q.1) = true := by
  intro pc
  unfold bX5_hasGoal
  split <;> rfl
theorem metX5_hasGoal {l : Launch} (hf : l.stackTraces = false) : pvMet l yX5_hasGoal (Cond.code yX5_hasGoal cX5_hasGoal 6 (some .boolean) :: pvTb) mX5_hasGoal C_X5_hasGoal :=
  pvMet_of hf (y := yX5_hasGoal) plX5 pvTb_g coX5 foX5 pvCl (caX5_hasGoal hf) pvExOk_0 (fun ix h => by rcases h with h | h <;> cases (show (none : Option Nat) = some _ from h)) ⟨rfl, rfl⟩ chX5_hasGoal (pvOkM_ex okX5_hasGoal frX5_hasGoal)
theorem pnX7_grown : pvPn yX7_grown = some 2 := by decide +kernel
theorem caX7_grown {l : Launch} (hf : l.stackTraces = false) (lm : Nat → Prop) (sc : Nat × (Nat → Int)) : pvCaOk l mX7_grown "EventClockWorkbench$Values" pvTb lm sc aX7_grown := by
  exact fun ix n b ci co C h => nomatch (show (none : Option (Nat × Bool × Nat × Nat × pvC)) = some (n, b, ci, co, C) from h)
set_option maxRecDepth 100000 in
theorem chX7_grown : ∀ pc, pvChain cX7_grown pc (bX7_grown pc) := by
  intro pc
  unfold bX7_grown
  split <;> first | exact True.intro | exact pvChain_of (by decide +kernel)
theorem frX7_grown : ∀ pc, (bX7_grown pc).all (fun q => pvFrB eX7 q.1) = true := by
  intro pc
  unfold bX7_grown
  split <;> rfl
theorem metX7_grown {l : Launch} (hf : l.stackTraces = false) : pvMet l yX7_grown (Cond.code yX7_grown cX7_grown 2 (some .int) :: pvTb) mX7_grown C_X7_grown :=
  pvMet_of hf (y := yX7_grown) plX7 pvTb_g coX7 foX7 pvCl (caX7_grown hf) pvExOk_0 (fun ix h => by rcases h with h | h <;> cases (show (none : Option Nat) = some _ from h)) ⟨rfl, rfl⟩ chX7_grown (pvOkM_ex okX7_grown frX7_grown)
theorem pnX7_later : pvPn yX7_later = some 2 := by decide +kernel
theorem caX7_later {l : Launch} (hf : l.stackTraces = false) (lm : Nat → Prop) (sc : Nat × (Nat → Int)) : pvCaOk l mX7_later "EventClockWorkbench$Values" pvTb lm sc aX7_later := by
  refine pvCaOk_i fun ix n b ci co C h => ?_
  unfold aX7_later at h
  split at h
  · cases h; exact pvCe_S (metX7_grown hf) rfl wd_1_28 rfl wd_2_100 wd_2_101 pnX7_grown wd_2_102
  · cases h
set_option maxRecDepth 100000 in
theorem chX7_later : ∀ pc, pvChain cX7_later pc (bX7_later pc) := by
  intro pc
  unfold bX7_later
  split <;> first | exact True.intro | exact pvChain_of (by decide +kernel)
theorem frX7_later : ∀ pc, (bX7_later pc).all (fun q => pvFrB eX7 q.1) = true := by
  intro pc
  unfold bX7_later
  split <;> rfl
theorem metX7_later {l : Launch} (hf : l.stackTraces = false) : pvMet l yX7_later (Cond.code yX7_later cX7_later 2 (some .int) :: pvTb) mX7_later C_X7_later :=
  pvMet_of hf (y := yX7_later) plX7 pvTb_g coX7 foX7 pvCl (caX7_later hf) pvExOk_0 (fun ix h => by rcases h with h | h <;> cases (show (none : Option Nat) = some _ from h)) ⟨rfl, rfl⟩ chX7_later (pvOkM_ex okX7_later frX7_later)
theorem pnX7_withZero : pvPn yX7_withZero = some 2 := by decide +kernel
theorem caX7_withZero {l : Launch} (hf : l.stackTraces = false) (lm : Nat → Prop) (sc : Nat × (Nat → Int)) : pvCaOk l mX7_withZero "EventClockWorkbench$Values" pvTb lm sc aX7_withZero := by
  exact fun ix n b ci co C h => nomatch (show (none : Option (Nat × Bool × Nat × Nat × pvC)) = some (n, b, ci, co, C) from h)
set_option maxRecDepth 100000 in
theorem chX7_withZero : ∀ pc, pvChain cX7_withZero pc (bX7_withZero pc) := by
  intro pc
  unfold bX7_withZero
  split <;> first | exact True.intro | exact pvChain_of (by decide +kernel)
theorem frX7_withZero : ∀ pc, (bX7_withZero pc).all (fun q => pvFrB eX7 q.1) = true := by
  intro pc
  unfold bX7_withZero
  split <;> rfl
theorem metX7_withZero {l : Launch} (hf : l.stackTraces = false) : pvMet l yX7_withZero (Cond.code yX7_withZero cX7_withZero 2 (some .int) :: pvTb) mX7_withZero C_X7_withZero :=
  pvMet_of hf (y := yX7_withZero) plX7 pvTb_g coX7 foX7 pvCl (caX7_withZero hf) pvExOk_0 (fun ix h => by rcases h with h | h <;> cases (show (none : Option Nat) = some _ from h)) ⟨rfl, rfl⟩ chX7_withZero (pvOkM_ex okX7_withZero frX7_withZero)
theorem pnX5_expand : pvPn yX5_expand = some 3 := by decide +kernel
theorem caX5_expand {l : Launch} (hf : l.stackTraces = false) (lm : Nat → Prop) (sc : Nat × (Nat → Int)) : pvCaOk l mX5_expand "EventClockWorkbench$Search" pvTb lm sc aX5_expand := by
  refine pvCaOk_i fun ix n b ci co C h => ?_
  unfold aX5_expand at h
  split at h
  · cases h; exact pvCe_V (k := 3) (T := TX5) (N := 5) (metX5_enter hf) rfl wd_1_7 rfl wd_5_2 wd_5_4 ps_2_5 pnX5_enter rfl wd_5_5
  · cases h; exact pvCe_S (metX7_later hf) rfl wd_1_28 rfl wd_5_25 wd_2_98 pnX7_later wd_2_99
  · cases h; exact pvCe_V (k := 3) (T := TX3) (N := 7) (metX3_successor hf) rfl wd_1_3 rfl wd_5_26 wd_2_237 wd_2_238 pnX3_successor rfl wd_2_239
  · cases h; exact pvCe_S (metX7_withZero hf) rfl wd_1_28 rfl wd_5_27 wd_2_104 pnX7_withZero wd_2_105
  · cases h
set_option maxRecDepth 100000 in
theorem chX5_expand : ∀ pc, pvChain cX5_expand pc (bX5_expand pc) := by
  intro pc
  unfold bX5_expand
  split <;> first | exact True.intro | exact pvChain_of (by decide +kernel)
theorem frX5_expand : ∀ pc, (bX5_expand pc).all (fun q => pvFrB eX5 q.1) = true := by
  intro pc
  unfold bX5_expand
  split <;> rfl
theorem metX5_expand {l : Launch} (hf : l.stackTraces = false) : pvMet l yX5_expand (Cond.code yX5_expand cX5_expand 10 none :: pvTb) mX5_expand C_X5_expand :=
  pvMet_of hf (y := yX5_expand) plX5 pvTb_g coX5 foX5 pvCl (caX5_expand hf) pvExOk_0 (fun ix h => by rcases h with h | h <;> cases (show (none : Option Nat) = some _ from h)) ⟨rfl, rfl⟩ chX5_expand (pvOkM_ex okX5_expand frX5_expand)
theorem pnX5_shortest : pvPn yX5_shortest = some 3 := by decide +kernel
theorem caX5_shortest {l : Launch} (hf : l.stackTraces = false) (lm : Nat → Prop) (sc : Nat × (Nat → Int)) : pvCaOk l mX5_shortest "EventClockWorkbench$Search" pvTb lm sc aX5_shortest := by
  refine pvCaOk_i fun ix n b ci co C h => ?_
  unfold aX5_shortest at h
  split at h
  · cases h; exact pvCe_V (k := 0) (T := TX5) (N := 5) (metX5_forget hf) rfl wd_1_7 rfl wd_4_234 wd_4_236 ps_2_4 pnX5_forget rfl wd_4_237
  · cases h; exact pvCe_V (k := 3) (T := TX5) (N := 5) (metX5_enter hf) rfl wd_1_7 rfl wd_5_2 wd_5_4 ps_2_5 pnX5_enter rfl wd_5_5
  · cases h; exact pvCe_V (k := 2) (T := TX5) (N := 5) (metX5_putStart hf) rfl wd_1_7 rfl wd_5_6 wd_5_8 ps_2_6 pnX5_putStart rfl wd_5_9
  · cases h; exact pvCe_V (k := 4) (T := TX5) (N := 5) (metX5_hasGoal hf) rfl wd_1_7 rfl wd_5_10 wd_5_12 ps_2_7 pnX5_hasGoal rfl wd_5_13
  · cases h; exact pvCe_V (k := 1) (T := TX5) (N := 5) (metX5_configurationAt hf) rfl wd_1_7 rfl wd_5_14 wd_5_16 ps_2_8 pnX5_configurationAt rfl wd_5_17
  · cases h; exact pvCe_V (k := 3) (T := TX5) (N := 5) (metX5_expand hf) rfl wd_1_7 rfl wd_5_21 wd_5_23 ps_2_9 pnX5_expand rfl wd_5_24
  · cases h
set_option maxRecDepth 100000 in
theorem chX5_shortest : ∀ pc, pvChain cX5_shortest pc (bX5_shortest pc) := by
  intro pc
  unfold bX5_shortest
  split <;> first | exact True.intro | exact pvChain_of (by decide +kernel)
theorem frX5_shortest : ∀ pc, (bX5_shortest pc).all (fun q => pvFrB eX5 q.1) = true := by
  intro pc
  unfold bX5_shortest
  split <;> rfl
theorem metX5_shortest {l : Launch} (hf : l.stackTraces = false) : pvMet l yX5_shortest (Cond.code yX5_shortest cX5_shortest 8 (some .int) :: pvTb) mX5_shortest C_X5_shortest :=
  pvMet_of hf (y := yX5_shortest) plX5 pvTb_g coX5 foX5 pvCl (caX5_shortest hf) pvExOk_0 (fun ix h => by rcases h with h | h <;> cases (show (none : Option Nat) = some _ from h)) ⟨rfl, rfl⟩ chX5_shortest (pvOkM_ex okX5_shortest frX5_shortest)
theorem pnX5_findsAny : pvPn yX5_findsAny = some 2 := by decide +kernel
theorem caX5_findsAny {l : Launch} (hf : l.stackTraces = false) (lm : Nat → Prop) (sc : Nat × (Nat → Int)) : pvCaOk l mX5_findsAny "EventClockWorkbench$Search" pvTb lm sc aX5_findsAny := by
  refine pvCaOk_i fun ix n b ci co C h => ?_
  unfold aX5_findsAny at h
  split at h
  · cases h; exact pvCe_V (k := 3) (T := TX5) (N := 5) (metX5_shortest hf) rfl wd_1_7 rfl wd_4_230 wd_4_232 ps_2_3 pnX5_shortest rfl wd_4_233
  · cases h
set_option maxRecDepth 100000 in
theorem chX5_findsAny : ∀ pc, pvChain cX5_findsAny pc (bX5_findsAny pc) := by
  intro pc
  unfold bX5_findsAny
  split <;> first | exact True.intro | exact pvChain_of (by decide +kernel)
theorem frX5_findsAny : ∀ pc, (bX5_findsAny pc).all (fun q => pvFrB eX5 q.1) = true := by
  intro pc
  unfold bX5_findsAny
  split <;> rfl
theorem metX5_findsAny {l : Launch} (hf : l.stackTraces = false) : pvMet l yX5_findsAny (Cond.code yX5_findsAny cX5_findsAny 3 (some .boolean) :: pvTb) mX5_findsAny C_X5_findsAny :=
  pvMet_of hf (y := yX5_findsAny) plX5 pvTb_g coX5 foX5 pvCl (caX5_findsAny hf) pvExOk_0 (fun ix h => by rcases h with h | h <;> cases (show (none : Option Nat) = some _ from h)) ⟨rfl, rfl⟩ chX5_findsAny (pvOkM_ex okX5_findsAny frX5_findsAny)
theorem pnX5_startOf : pvPn yX5_startOf = some 1 := by decide +kernel
theorem caX5_startOf {l : Launch} (hf : l.stackTraces = false) (lm : Nat → Prop) (sc : Nat × (Nat → Int)) : pvCaOk l mX5_startOf "EventClockWorkbench$Search" pvTb lm sc aX5_startOf := by
  refine pvCaOk_i fun ix n b ci co C h => ?_
  unfold aX5_startOf at h
  split at h
  · cases h; exact pvCe_NS (metNX9_isIndex hf) rfl wd_1_1 rfl (List.mem_of_getElem? (i := 7) rfl) wd_2_95 pnX9_isIndex wd_2_96
  · cases h
set_option maxRecDepth 100000 in
theorem chX5_startOf : ∀ pc, pvChain cX5_startOf pc (bX5_startOf pc) := by
  intro pc
  unfold bX5_startOf
  split <;> first | exact True.intro | exact pvChain_of (by decide +kernel)
theorem frX5_startOf : ∀ pc, (bX5_startOf pc).all (fun q => pvFrB eX5 q.1) = true := by
  intro pc
  unfold bX5_startOf
  split <;> rfl
theorem metX5_startOf {l : Launch} (hf : l.stackTraces = false) : pvMet l yX5_startOf (Cond.code yX5_startOf cX5_startOf 2 (some .int) :: pvTb) mX5_startOf C_X5_startOf :=
  pvMet_of hf (y := yX5_startOf) plX5 pvTb_g coX5 foX5 pvCl (caX5_startOf hf) pvExOk_0 (fun ix h => by rcases h with h | h <;> cases (show (none : Option Nat) = some _ from h)) ⟨rfl, rfl⟩ chX5_startOf (pvOkM_ex okX5_startOf frX5_startOf)
theorem pnX5_positionBehind : pvPn yX5_positionBehind = some 5 := by decide +kernel
theorem caX5_positionBehind {l : Launch} (hf : l.stackTraces = false) (lm : Nat → Prop) (sc : Nat × (Nat → Int)) : pvCaOk l mX5_positionBehind "EventClockWorkbench$Search" pvTb lm sc aX5_positionBehind := by
  refine pvCaOk_i fun ix n b ci co C h => ?_
  unfold aX5_positionBehind at h
  split at h
  · cases h; exact pvCe_S (metX5_placeOf hf) rfl wd_1_7 rfl wd_4_238 wd_4_239 pnX5_placeOf wd_5_0
  · cases h; exact pvCe_NS (metNX9_isIndex hf) rfl wd_1_1 rfl (List.mem_of_getElem? (i := 7) rfl) wd_2_95 pnX9_isIndex wd_2_96
  · cases h; exact pvCe_S (metX7_later hf) rfl wd_1_28 rfl wd_5_25 wd_2_98 pnX7_later wd_2_99
  · cases h; exact pvCe_V (k := 3) (T := TX3) (N := 7) (metX3_successor hf) rfl wd_1_3 rfl wd_5_26 wd_2_237 wd_2_238 pnX3_successor rfl wd_2_239
  · cases h; exact pvCe_S (metX7_withZero hf) rfl wd_1_28 rfl wd_5_27 wd_2_104 pnX7_withZero wd_2_105
  · cases h
set_option maxRecDepth 100000 in
theorem chX5_positionBehind : ∀ pc, pvChain cX5_positionBehind pc (bX5_positionBehind pc) := by
  intro pc
  unfold bX5_positionBehind
  split <;> first | exact True.intro | exact pvChain_of (by decide +kernel)
theorem frX5_positionBehind : ∀ pc, (bX5_positionBehind pc).all (fun q => pvFrB eX5 q.1) = true := by
  intro pc
  unfold bX5_positionBehind
  split <;> rfl
theorem metX5_positionBehind {l : Launch} (hf : l.stackTraces = false) : pvMet l yX5_positionBehind (Cond.code yX5_positionBehind cX5_positionBehind 10 (some .int) :: pvTb) mX5_positionBehind C_X5_positionBehind :=
  pvMet_of hf (y := yX5_positionBehind) plX5 pvTb_g coX5 foX5 pvCl (caX5_positionBehind hf) pvExOk_0 (fun ix h => by rcases h with h | h <;> cases (show (none : Option Nat) = some _ from h)) ⟨rfl, rfl⟩ chX5_positionBehind (pvOkM_ex okX5_positionBehind frX5_positionBehind)
theorem pnX5_costAt : pvPn yX5_costAt = some 1 := by decide +kernel
theorem caX5_costAt {l : Launch} (hf : l.stackTraces = false) (lm : Nat → Prop) (sc : Nat × (Nat → Int)) : pvCaOk l mX5_costAt "EventClockWorkbench$Search" pvTb lm sc aX5_costAt := by
  refine pvCaOk_i fun ix n b ci co C h => ?_
  unfold aX5_costAt at h
  split at h
  · cases h; exact pvCe_NS (metNX9_isIndex hf) rfl wd_1_1 rfl (List.mem_of_getElem? (i := 7) rfl) wd_2_95 pnX9_isIndex wd_2_96
  · cases h
set_option maxRecDepth 100000 in
theorem chX5_costAt : ∀ pc, pvChain cX5_costAt pc (bX5_costAt pc) := by
  intro pc
  unfold bX5_costAt
  split <;> first | exact True.intro | exact pvChain_of (by decide +kernel)
theorem frX5_costAt : ∀ pc, (bX5_costAt pc).all (fun q => pvFrB eX5 q.1) = true := by
  intro pc
  unfold bX5_costAt
  split <;> rfl
theorem metX5_costAt {l : Launch} (hf : l.stackTraces = false) : pvMet l yX5_costAt (Cond.code yX5_costAt cX5_costAt 2 (some .int) :: pvTb) mX5_costAt C_X5_costAt :=
  pvMet_of hf (y := yX5_costAt) plX5 pvTb_g coX5 foX5 pvCl (caX5_costAt hf) pvExOk_0 (fun ix h => by rcases h with h | h <;> cases (show (none : Option Nat) = some _ from h)) ⟨rfl, rfl⟩ chX5_costAt (pvOkM_ex okX5_costAt frX5_costAt)
theorem pnX5_leastCost : pvPn yX5_leastCost = some 4 := by decide +kernel
theorem caX5_leastCost {l : Launch} (hf : l.stackTraces = false) (lm : Nat → Prop) (sc : Nat × (Nat → Int)) : pvCaOk l mX5_leastCost "EventClockWorkbench$Search" pvTb lm sc aX5_leastCost := by
  refine pvCaOk_i fun ix n b ci co C h => ?_
  unfold aX5_leastCost at h
  split at h
  · cases h; exact pvCe_V (k := 1) (T := TX5) (N := 5) (metX5_configurationAt hf) rfl wd_1_7 rfl wd_5_14 wd_5_16 ps_2_8 pnX5_configurationAt rfl wd_5_17
  · cases h; exact pvCe_V (k := 5) (T := TX5) (N := 5) (metX5_positionBehind hf) rfl wd_1_7 rfl wd_5_57 wd_5_59 ps_2_13 pnX5_positionBehind rfl wd_5_60
  · cases h; exact pvCe_V (k := 1) (T := TX5) (N := 5) (metX5_costAt hf) rfl wd_1_7 rfl wd_5_61 wd_5_63 ps_2_14 pnX5_costAt rfl wd_5_64
  · cases h; exact pvCe_S (metJ9_min_7cf53 hf) rfl wd_1_15 rfl wd_5_65 wd_3_130 pnJ9_min_7cf53 wd_3_131
  · cases h
set_option maxRecDepth 100000 in
theorem chX5_leastCost : ∀ pc, pvChain cX5_leastCost pc (bX5_leastCost pc) := by
  intro pc
  unfold bX5_leastCost
  split <;> first | exact True.intro | exact pvChain_of (by decide +kernel)
theorem frX5_leastCost : ∀ pc, (bX5_leastCost pc).all (fun q => pvFrB eX5 q.1) = true := by
  intro pc
  unfold bX5_leastCost
  split <;> rfl
theorem metX5_leastCost {l : Launch} (hf : l.stackTraces = false) : pvMet l yX5_leastCost (Cond.code yX5_leastCost cX5_leastCost 9 (some .int) :: pvTb) mX5_leastCost C_X5_leastCost :=
  pvMet_of hf (y := yX5_leastCost) plX5 pvTb_g coX5 foX5 pvCl (caX5_leastCost hf) pvExOk_0 (fun ix h => by rcases h with h | h <;> cases (show (none : Option Nat) = some _ from h)) ⟨rfl, rfl⟩ chX5_leastCost (pvOkM_ex okX5_leastCost frX5_leastCost)
theorem pnX5_findCosts : pvPn yX5_findCosts = some 3 := by decide +kernel
theorem caX5_findCosts {l : Launch} (hf : l.stackTraces = false) (lm : Nat → Prop) (sc : Nat × (Nat → Int)) : pvCaOk l mX5_findCosts "EventClockWorkbench$Search" pvTb lm sc aX5_findCosts := by
  refine pvCaOk_i fun ix n b ci co C h => ?_
  unfold aX5_findCosts at h
  split at h
  · cases h; exact pvCe_V (k := 1) (T := TX5) (N := 5) (metX5_configurationAt hf) rfl wd_1_7 rfl wd_5_14 wd_5_16 ps_2_8 pnX5_configurationAt rfl wd_5_17
  · cases h; exact pvCe_S (metX5_isGoal hf) rfl wd_1_7 rfl wd_5_18 wd_5_19 pnX5_isGoal wd_5_20
  · cases h; exact pvCe_V (k := 1) (T := TX5) (N := 5) (metX5_startOf hf) rfl wd_1_7 rfl wd_5_49 wd_5_51 ps_2_11 pnX5_startOf rfl wd_5_52
  · cases h; exact pvCe_V (k := 4) (T := TX5) (N := 5) (metX5_leastCost hf) rfl wd_1_7 rfl wd_5_53 wd_5_55 ps_2_12 pnX5_leastCost rfl wd_5_56
  · cases h
set_option maxRecDepth 100000 in
theorem chX5_findCosts : ∀ pc, pvChain cX5_findCosts pc (bX5_findCosts pc) := by
  intro pc
  unfold bX5_findCosts
  split <;> first | exact True.intro | exact pvChain_of (by decide +kernel)
theorem frX5_findCosts : ∀ pc, (bX5_findCosts pc).all (fun q => pvFrB eX5 q.1) = true := by
  intro pc
  unfold bX5_findCosts
  split <;> rfl
theorem metX5_findCosts {l : Launch} (hf : l.stackTraces = false) : pvMet l yX5_findCosts (Cond.code yX5_findCosts cX5_findCosts 6 none :: pvTb) mX5_findCosts C_X5_findCosts :=
  pvMet_of hf (y := yX5_findCosts) plX5 pvTb_g coX5 foX5 pvCl (caX5_findCosts hf) pvExOk_0 (fun ix h => by rcases h with h | h <;> cases (show (none : Option Nat) = some _ from h)) ⟨rfl, rfl⟩ chX5_findCosts (pvOkM_ex okX5_findCosts frX5_findCosts)
theorem pnX6_clear : pvPn yX6_clear = some 0 := by decide +kernel
theorem caX6_clear {l : Launch} (hf : l.stackTraces = false) (lm : Nat → Prop) (sc : Nat × (Nat → Int)) : pvCaOk l mX6_clear "EventClockWorkbench$TimedWord" pvTb lm sc aX6_clear := by
  exact fun ix n b ci co C h => nomatch (show (none : Option (Nat × Bool × Nat × Nat × pvC)) = some (n, b, ci, co, C) from h)
set_option maxRecDepth 100000 in
theorem chX6_clear : ∀ pc, pvChain cX6_clear pc (bX6_clear pc) := by
  intro pc
  unfold bX6_clear
  split <;> first | exact True.intro | exact pvChain_of (by decide +kernel)
theorem frX6_clear : ∀ pc, (bX6_clear pc).all (fun q => pvFrB eX6 q.1) = true := by
  intro pc
  unfold bX6_clear
  split <;> rfl
theorem metX6_clear {l : Launch} (hf : l.stackTraces = false) : pvMet l yX6_clear (Cond.code yX6_clear cX6_clear 1 none :: pvTb) mX6_clear C_X6_clear :=
  pvMet_of hf (y := yX6_clear) plX6 pvTb_g coX6 foX6 pvCl (caX6_clear hf) pvExOk_0 (fun ix h => by rcases h with h | h <;> cases (show (none : Option Nat) = some _ from h)) ⟨rfl, rfl⟩ chX6_clear (pvOkM_ex okX6_clear frX6_clear)
theorem pnX6_append : pvPn yX6_append = some 2 := by decide +kernel
theorem caX6_append {l : Launch} (hf : l.stackTraces = false) (lm : Nat → Prop) (sc : Nat × (Nat → Int)) : pvCaOk l mX6_append "EventClockWorkbench$TimedWord" pvTb lm sc aX6_append := by
  refine pvCaOk_i fun ix n b ci co C h => ?_
  unfold aX6_append at h
  split at h
  · cases h; exact pvCe_NS (metNX9_isIndex hf) rfl wd_1_1 rfl (List.mem_of_getElem? (i := 0) rfl) wd_2_95 pnX9_isIndex wd_2_96
  · cases h; exact pvCe_S (metX7_later hf) rfl wd_1_28 rfl wd_2_97 wd_2_98 pnX7_later wd_2_99
  · cases h; exact pvCe_S (metX7_withZero hf) rfl wd_1_28 rfl wd_2_103 wd_2_104 pnX7_withZero wd_2_105
  · cases h
set_option maxRecDepth 100000 in
theorem chX6_append : ∀ pc, pvChain cX6_append pc (bX6_append pc) := by
  intro pc
  unfold bX6_append
  split <;> first | exact True.intro | exact pvChain_of (by decide +kernel)
theorem frX6_append : ∀ pc, (bX6_append pc).all (fun q => pvFrB eX6 q.1) = true := by
  intro pc
  unfold bX6_append
  split <;> rfl
theorem metX6_append {l : Launch} (hf : l.stackTraces = false) : pvMet l yX6_append (Cond.code yX6_append cX6_append 4 (some .int) :: pvTb) mX6_append C_X6_append :=
  pvMet_of hf (y := yX6_append) plX6 pvTb_g coX6 foX6 pvCl (caX6_append hf) pvExOk_0 (fun ix h => by rcases h with h | h <;> cases (show (none : Option Nat) = some _ from h)) ⟨rfl, rfl⟩ chX6_append (pvOkM_ex okX6_append frX6_append)
theorem pnX5_takeEvent : pvPn yX5_takeEvent = some 5 := by decide +kernel
theorem caX5_takeEvent {l : Launch} (hf : l.stackTraces = false) (lm : Nat → Prop) (sc : Nat × (Nat → Int)) : pvCaOk l mX5_takeEvent "EventClockWorkbench$Search" pvTb lm sc aX5_takeEvent := by
  refine pvCaOk_i fun ix n b ci co C h => ?_
  unfold aX5_takeEvent at h
  split at h
  · cases h; exact pvCe_V (k := 1) (T := TX5) (N := 5) (metX5_configurationAt hf) rfl wd_1_7 rfl wd_5_14 wd_5_16 ps_2_8 pnX5_configurationAt rfl wd_5_17
  · cases h; exact pvCe_V (k := 1) (T := TX5) (N := 5) (metX5_startOf hf) rfl wd_1_7 rfl wd_5_49 wd_5_51 ps_2_11 pnX5_startOf rfl wd_5_52
  · cases h; exact pvCe_V (k := 5) (T := TX5) (N := 5) (metX5_positionBehind hf) rfl wd_1_7 rfl wd_5_57 wd_5_59 ps_2_13 pnX5_positionBehind rfl wd_5_60
  · cases h; exact pvCe_V (k := 1) (T := TX5) (N := 5) (metX5_costAt hf) rfl wd_1_7 rfl wd_5_61 wd_5_63 ps_2_14 pnX5_costAt rfl wd_5_64
  · cases h; exact pvCe_V (k := 2) (T := TX6) (N := 5) (metX6_append hf) rfl wd_1_5 rfl wd_5_74 wd_2_91 wd_2_92 pnX6_append rfl wd_2_93
  · cases h
set_option maxRecDepth 100000 in
theorem chX5_takeEvent : ∀ pc, pvChain cX5_takeEvent pc (bX5_takeEvent pc) := by
  intro pc
  unfold bX5_takeEvent
  split <;> first | exact True.intro | exact pvChain_of (by decide +kernel)
theorem frX5_takeEvent : ∀ pc, (bX5_takeEvent pc).all (fun q => pvFrB eX5 q.1) = true := by
  intro pc
  unfold bX5_takeEvent
  split <;> rfl
theorem metX5_takeEvent {l : Launch} (hf : l.stackTraces = false) : pvMet l yX5_takeEvent (Cond.code yX5_takeEvent cX5_takeEvent 9 (some .int) :: pvTb) mX5_takeEvent C_X5_takeEvent :=
  pvMet_of hf (y := yX5_takeEvent) plX5 pvTb_g coX5 foX5 pvCl (caX5_takeEvent hf) pvExOk_0 (fun ix h => by rcases h with h | h <;> cases (show (none : Option Nat) = some _ from h)) ⟨rfl, rfl⟩ chX5_takeEvent (pvOkM_ex okX5_takeEvent frX5_takeEvent)
theorem pnX5_takeFirst : pvPn yX5_takeFirst = some 3 := by decide +kernel
theorem caX5_takeFirst {l : Launch} (hf : l.stackTraces = false) (lm : Nat → Prop) (sc : Nat × (Nat → Int)) : pvCaOk l mX5_takeFirst "EventClockWorkbench$Search" pvTb lm sc aX5_takeFirst := by
  refine pvCaOk_i fun ix n b ci co C h => ?_
  unfold aX5_takeFirst at h
  split at h
  · cases h; exact pvCe_V (k := 3) (T := TX5) (N := 5) (metX5_shortest hf) rfl wd_1_7 rfl wd_4_230 wd_4_232 ps_2_3 pnX5_shortest rfl wd_4_233
  · cases h; exact pvCe_V (k := 3) (T := TX5) (N := 5) (metX5_findCosts hf) rfl wd_1_7 rfl wd_5_45 wd_5_47 ps_2_10 pnX5_findCosts rfl wd_5_48
  · cases h; exact pvCe_V (k := 0) (T := TX6) (N := 5) (metX6_clear hf) rfl wd_1_5 rfl wd_5_66 wd_5_67 wd_5_68 pnX6_clear rfl wd_5_69
  · cases h; exact pvCe_V (k := 5) (T := TX5) (N := 5) (metX5_takeEvent hf) rfl wd_1_7 rfl wd_5_70 wd_5_72 ps_2_15 pnX5_takeEvent rfl wd_5_73
  · cases h
set_option maxRecDepth 100000 in
theorem chX5_takeFirst : ∀ pc, pvChain cX5_takeFirst pc (bX5_takeFirst pc) := by
  intro pc
  unfold bX5_takeFirst
  split <;> first | exact True.intro | exact pvChain_of (by decide +kernel)
theorem frX5_takeFirst : ∀ pc, (bX5_takeFirst pc).all (fun q => pvFrB eX5 q.1) = true := by
  intro pc
  unfold bX5_takeFirst
  split <;> rfl
theorem metX5_takeFirst {l : Launch} (hf : l.stackTraces = false) : pvMet l yX5_takeFirst (Cond.code yX5_takeFirst cX5_takeFirst 7 (some .boolean) :: pvTb) mX5_takeFirst C_X5_takeFirst :=
  pvMet_of hf (y := yX5_takeFirst) plX5 pvTb_g coX5 foX5 pvCl (caX5_takeFirst hf) pvExOk_0 (fun ix h => by rcases h with h | h <;> cases (show (none : Option Nat) = some _ from h)) ⟨rfl, rfl⟩ chX5_takeFirst (pvOkM_ex okX5_takeFirst frX5_takeFirst)
theorem pnX6_delayAt : pvPn yX6_delayAt = some 1 := by decide +kernel
theorem caX6_delayAt {l : Launch} (hf : l.stackTraces = false) (lm : Nat → Prop) (sc : Nat × (Nat → Int)) : pvCaOk l mX6_delayAt "EventClockWorkbench$TimedWord" pvTb lm sc aX6_delayAt := by
  refine pvCaOk_i fun ix n b ci co C h => ?_
  unfold aX6_delayAt at h
  split at h
  · cases h; exact pvCe_NS (metNX9_isIndex hf) rfl wd_1_1 rfl (List.mem_of_getElem? (i := 0) rfl) wd_2_95 pnX9_isIndex wd_2_96
  · cases h
set_option maxRecDepth 100000 in
theorem chX6_delayAt : ∀ pc, pvChain cX6_delayAt pc (bX6_delayAt pc) := by
  intro pc
  unfold bX6_delayAt
  split <;> first | exact True.intro | exact pvChain_of (by decide +kernel)
theorem frX6_delayAt : ∀ pc, (bX6_delayAt pc).all (fun q => pvFrB eX6 q.1) = true := by
  intro pc
  unfold bX6_delayAt
  split <;> rfl
theorem metX6_delayAt {l : Launch} (hf : l.stackTraces = false) : pvMet l yX6_delayAt (Cond.code yX6_delayAt cX6_delayAt 2 (some .int) :: pvTb) mX6_delayAt C_X6_delayAt :=
  pvMet_of hf (y := yX6_delayAt) plX6 pvTb_g coX6 foX6 pvCl (caX6_delayAt hf) pvExOk_0 (fun ix h => by rcases h with h | h <;> cases (show (none : Option Nat) = some _ from h)) ⟨rfl, rfl⟩ chX6_delayAt (pvOkM_ex okX6_delayAt frX6_delayAt)
theorem pnX7_writtenDigit : pvPn yX7_writtenDigit = some 1 := by decide +kernel
theorem caX7_writtenDigit {l : Launch} (hf : l.stackTraces = false) (lm : Nat → Prop) (sc : Nat × (Nat → Int)) : pvCaOk l mX7_writtenDigit "EventClockWorkbench$Values" pvTb lm sc aX7_writtenDigit := by
  exact fun ix n b ci co C h => nomatch (show (none : Option (Nat × Bool × Nat × Nat × pvC)) = some (n, b, ci, co, C) from h)
set_option maxRecDepth 100000 in
theorem chX7_writtenDigit : ∀ pc, pvChain cX7_writtenDigit pc (bX7_writtenDigit pc) := by
  intro pc
  unfold bX7_writtenDigit
  split <;> first | exact True.intro | exact pvChain_of (by decide +kernel)
theorem frX7_writtenDigit : ∀ pc, (bX7_writtenDigit pc).all (fun q => pvFrB eX7 q.1) = true := by
  intro pc
  unfold bX7_writtenDigit
  split <;> rfl
theorem metX7_writtenDigit {l : Launch} (hf : l.stackTraces = false) : pvMet l yX7_writtenDigit (Cond.code yX7_writtenDigit cX7_writtenDigit 1 (some .int) :: pvTb) mX7_writtenDigit C_X7_writtenDigit :=
  pvMet_of hf (y := yX7_writtenDigit) plX7 pvTb_g coX7 foX7 pvCl (caX7_writtenDigit hf) pvExOk_0 (fun ix h => by rcases h with h | h <;> cases (show (none : Option Nat) = some _ from h)) ⟨rfl, rfl⟩ chX7_writtenDigit (pvOkM_ex okX7_writtenDigit frX7_writtenDigit)
theorem pnX7_written : pvPn yX7_written = some 1 := by decide +kernel
theorem caX7_written {l : Launch} (hf : l.stackTraces = false) (lm : Nat → Prop) (sc : Nat × (Nat → Int)) : pvCaOk l mX7_written "EventClockWorkbench$Values" pvTb lm sc aX7_written := by
  refine pvCaOk_i fun ix n b ci co C h => ?_
  unfold aX7_written at h
  split at h
  · cases h; exact pvCe_S (metX7_writtenDigit hf) rfl wd_1_28 rfl wd_2_135 wd_2_136 pnX7_writtenDigit wd_2_137
  · cases h
set_option maxRecDepth 100000 in
theorem chX7_written : ∀ pc, pvChain cX7_written pc (bX7_written pc) := by
  intro pc
  unfold bX7_written
  split <;> first | exact True.intro | exact pvChain_of (by decide +kernel)
theorem frX7_written : ∀ pc, (bX7_written pc).all (fun q => pvFrB eX7 q.1) = true := by
  intro pc
  unfold bX7_written
  split <;> rfl
theorem metX7_written {l : Launch} (hf : l.stackTraces = false) : pvMet l yX7_written (Cond.code yX7_written cX7_written 1 (some .int) :: pvTb) mX7_written C_X7_written :=
  pvMet_of hf (y := yX7_written) plX7 pvTb_g coX7 foX7 pvCl (caX7_written hf) pvExOk_0 (fun ix h => by rcases h with h | h <;> cases (show (none : Option Nat) = some _ from h)) ⟨rfl, rfl⟩ chX7_written (pvOkM_ex okX7_written frX7_written)
theorem pnX8_countAll : pvPn yX8_countAll = some 1 := by decide +kernel
theorem caX8_countAll {l : Launch} (hf : l.stackTraces = false) (lm : Nat → Prop) (sc : Nat × (Nat → Int)) : pvCaOk l mX8_countAll "EventClockWorkbench$WordCounter" pvTb lm sc aX8_countAll := by
  exact fun ix n b ci co C h => nomatch (show (none : Option (Nat × Bool × Nat × Nat × pvC)) = some (n, b, ci, co, C) from h)
set_option maxRecDepth 100000 in
theorem chX8_countAll : ∀ pc, pvChain cX8_countAll pc (bX8_countAll pc) := by
  intro pc
  unfold bX8_countAll
  split <;> first | exact True.intro | exact pvChain_of (by decide +kernel)
theorem frX8_countAll : ∀ pc, (bX8_countAll pc).all (fun q => pvFrB eX8 q.1) = true := by
  intro pc
  unfold bX8_countAll
  split <;> rfl
theorem metX8_countAll {l : Launch} (hf : l.stackTraces = false) : pvMet l yX8_countAll (Cond.code yX8_countAll cX8_countAll 4 (some .long) :: pvTb) mX8_countAll C_X8_countAll :=
  pvMet_of hf (y := yX8_countAll) plX8 pvTb_g coX8 foX8 pvCl (caX8_countAll hf) pvExOk_0 (fun ix h => by rcases h with h | h <;> cases (show (none : Option Nat) = some _ from h)) ⟨rfl, rfl⟩ chX8_countAll (pvOkM_ex okX8_countAll frX8_countAll)
theorem pnX8_addTo : pvPn yX8_addTo = some 3 := by decide +kernel
theorem caX8_addTo {l : Launch} (hf : l.stackTraces = false) (lm : Nat → Prop) (sc : Nat × (Nat → Int)) : pvCaOk l mX8_addTo "EventClockWorkbench$WordCounter" pvTb lm sc aX8_addTo := by
  refine pvCaOk_i fun ix n b ci co C h => ?_
  unfold aX8_addTo at h
  split at h
  · cases h; exact pvCe_NS (metNX9_isIndex hf) rfl wd_1_1 rfl (List.mem_of_getElem? (i := 4) rfl) wd_2_95 pnX9_isIndex wd_2_96
  · cases h
set_option maxRecDepth 100000 in
theorem chX8_addTo : ∀ pc, pvChain cX8_addTo pc (bX8_addTo pc) := by
  intro pc
  unfold bX8_addTo
  split <;> first | exact True.intro | exact pvChain_of (by decide +kernel)
theorem frX8_addTo : ∀ pc, (bX8_addTo pc).all (fun q => pvFrB eX8 q.1) = true := by
  intro pc
  unfold bX8_addTo
  split <;> rfl
theorem metX8_addTo {l : Launch} (hf : l.stackTraces = false) : pvMet l yX8_addTo (Cond.code yX8_addTo cX8_addTo 4 none :: pvTb) mX8_addTo C_X8_addTo :=
  pvMet_of hf (y := yX8_addTo) plX8 pvTb_g coX8 foX8 pvCl (caX8_addTo hf) pvExOk_0 (fun ix h => by rcases h with h | h <;> cases (show (none : Option Nat) = some _ from h)) ⟨rfl, rfl⟩ chX8_addTo (pvOkM_ex okX8_addTo frX8_addTo)
theorem pnX8_spread : pvPn yX8_spread = some 3 := by decide +kernel
theorem caX8_spread {l : Launch} (hf : l.stackTraces = false) (lm : Nat → Prop) (sc : Nat × (Nat → Int)) : pvCaOk l mX8_spread "EventClockWorkbench$WordCounter" pvTb lm sc aX8_spread := by
  refine pvCaOk_i fun ix n b ci co C h => ?_
  unfold aX8_spread at h
  split at h
  · cases h; exact pvCe_S (metX8_addTo hf) rfl wd_1_8 rfl wd_3_20 wd_3_21 pnX8_addTo wd_3_22
  · cases h; exact pvCe_NS (metNX9_isIndex hf) rfl wd_1_1 rfl (List.mem_of_getElem? (i := 4) rfl) wd_2_95 pnX9_isIndex wd_2_96
  · cases h; exact pvCe_S (metX7_later hf) rfl wd_1_28 rfl wd_3_32 wd_2_98 pnX7_later wd_2_99
  · cases h; exact pvCe_V (k := 3) (T := TX3) (N := 7) (metX3_successor hf) rfl wd_1_3 rfl wd_3_33 wd_2_237 wd_2_238 pnX3_successor rfl wd_2_239
  · cases h; exact pvCe_S (metX7_withZero hf) rfl wd_1_28 rfl wd_3_34 wd_2_104 pnX7_withZero wd_2_105
  · cases h
set_option maxRecDepth 100000 in
theorem chX8_spread : ∀ pc, pvChain cX8_spread pc (bX8_spread pc) := by
  intro pc
  unfold bX8_spread
  split <;> first | exact True.intro | exact pvChain_of (by decide +kernel)
theorem frX8_spread : ∀ pc, (bX8_spread pc).all (fun q => pvFrB eX8 q.1) = true := by
  intro pc
  unfold bX8_spread
  split <;> rfl
theorem metX8_spread {l : Launch} (hf : l.stackTraces = false) : pvMet l yX8_spread (Cond.code yX8_spread cX8_spread 10 none :: pvTb) mX8_spread C_X8_spread :=
  pvMet_of hf (y := yX8_spread) plX8 pvTb_g coX8 foX8 pvCl (caX8_spread hf) pvExOk_0 (fun ix h => by rcases h with h | h <;> cases (show (none : Option Nat) = some _ from h)) ⟨rfl, rfl⟩ chX8_spread (pvOkM_ex okX8_spread frX8_spread)
theorem pnX8_readEvent : pvPn yX8_readEvent = some 2 := by decide +kernel
theorem caX8_readEvent {l : Launch} (hf : l.stackTraces = false) (lm : Nat → Prop) (sc : Nat × (Nat → Int)) : pvCaOk l mX8_readEvent "EventClockWorkbench$WordCounter" pvTb lm sc aX8_readEvent := by
  refine pvCaOk_i fun ix n b ci co C h => ?_
  unfold aX8_readEvent at h
  split at h
  · cases h; exact pvCe_V (k := 3) (T := TX8) (N := 2) (metX8_spread hf) rfl wd_1_8 rfl wd_3_28 wd_3_30 ps_1_10 pnX8_spread rfl wd_3_31
  · cases h
set_option maxRecDepth 100000 in
theorem chX8_readEvent : ∀ pc, pvChain cX8_readEvent pc (bX8_readEvent pc) := by
  intro pc
  unfold bX8_readEvent
  split <;> first | exact True.intro | exact pvChain_of (by decide +kernel)
theorem metX8_readEvent {l : Launch} (hf : l.stackTraces = false) : pvMet l yX8_readEvent (Cond.code yX8_readEvent cX8_readEvent 4 none :: pvTb) mX8_readEvent C_X8_readEvent :=
  pvMet_of hf (y := yX8_readEvent) plX8 pvTb_g coX8 foX8 pvCl (caX8_readEvent hf) (fun ix ic k pc h h4 => by exfalso; unfold eX8 at h; split at h <;> cases h <;> omega) (cpX8 (by decide) (by decide)) ⟨rfl, rfl⟩ chX8_readEvent okX8_readEvent
theorem pnX8_count : pvPn yX8_count = some 3 := by decide +kernel
theorem caX8_count {l : Launch} (hf : l.stackTraces = false) (lm : Nat → Prop) (sc : Nat × (Nat → Int)) : pvCaOk l mX8_count "EventClockWorkbench$WordCounter" pvTb lm sc aX8_count := by
  refine pvCaOk_i fun ix n b ci co C h => ?_
  unfold aX8_count at h
  split at h
  · cases h; exact pvCe_S (metX8_addTo hf) rfl wd_1_8 rfl wd_3_20 wd_3_21 pnX8_addTo wd_3_22
  · cases h; exact pvCe_V (k := 2) (T := TX8) (N := 2) (metX8_readEvent hf) rfl wd_1_8 rfl wd_3_24 wd_3_26 ps_1_9 pnX8_readEvent rfl wd_3_27
  · cases h
set_option maxRecDepth 100000 in
theorem chX8_count : ∀ pc, pvChain cX8_count pc (bX8_count pc) := by
  intro pc
  unfold bX8_count
  split <;> first | exact True.intro | exact pvChain_of (by decide +kernel)
theorem frX8_count : ∀ pc, (bX8_count pc).all (fun q => pvFrB eX8 q.1) = true := by
  intro pc
  unfold bX8_count
  split <;> rfl
theorem metX8_count {l : Launch} (hf : l.stackTraces = false) : pvMet l yX8_count (Cond.code yX8_count cX8_count 7 (some .long) :: pvTb) mX8_count C_X8_count :=
  pvMet_of hf (y := yX8_count) plX8 pvTb_g coX8 foX8 pvCl (caX8_count hf) pvExOk_0 (fun ix h => by rcases h with h | h <;> cases (show (none : Option Nat) = some _ from h)) ⟨rfl, rfl⟩ chX8_count (pvOkM_ex okX8_count frX8_count)
theorem pnX9_requireArgument : pvPn yX9_requireArgument = some 1 := by decide +kernel
theorem caX9_requireArgument {l : Launch} (hf : l.stackTraces = false) (lm : Nat → Prop) (sc : Nat × (Nat → Int)) : pvCaOk l mX9_requireArgument "EventClockWorkbench" pvTb lm sc aX9_requireArgument := by
  exact fun ix n b ci co C h => nomatch (show (none : Option (Nat × Bool × Nat × Nat × pvC)) = some (n, b, ci, co, C) from h)
set_option maxRecDepth 100000 in
theorem chX9_requireArgument : ∀ pc, pvChain cX9_requireArgument pc (bX9_requireArgument pc) := by
  intro pc
  unfold bX9_requireArgument
  split <;> first | exact True.intro | exact pvChain_of (by decide +kernel)
theorem nwX9_requireArgument : ∀ pc ix, decode cX9_requireArgument pc = .ok (.new ix, 3) → pc = 4 ∧ ix = 309 := by
  intro pc ix h
  by_cases hs : pc < cX9_requireArgument.size
  · have hq := List.all_eq_true.mp (show (List.range cX9_requireArgument.size).all (fun q => match decode cX9_requireArgument q with | .ok (.new j, _) => decide (q = 4 ∧ j = 309) | _ => true) = true from by decide +kernel) pc (List.mem_range.mpr hs)
    rw [h] at hq
    exact of_decide_eq_true hq
  · exact absurd h (dec_oob (by omega))
theorem exX9_requireArgument : pvExOk "EventClockWorkbench" cX9_requireArgument pvTb eX9 mX9_requireArgument := by
  intro ix ic k pc hE hk hd hd4
  obtain ⟨rfl, rfl⟩ := nwX9_requireArgument pc ix hd
  rw [show decode cX9_requireArgument (4 + 4) = .ok (.invokespecial 311, 3) from by decide +kernel] at hd4
  cases hd4
  cases (show some 1 = some k from hE)
  refine ⟨wd_2_8, wd_1_26, ?_, ?_, ?_, by decide, by decide⟩
  · intro w hw
    rw [show (vx_at0 "EventClockWorkbench" 311 (pvXn 1) ["java/lang/RuntimeException", "java/lang/Exception"]).filter goodWord = ([(Jvm.Cond.initialized "java/lang/Throwable"), (Jvm.Cond.superclass "java/lang/Throwable" "java/lang/Object"), (Jvm.Cond.instanceMethod ({ cls := "java/lang/Throwable", name := "fillInStackTrace", desc := "()Ljava/lang/Throwable;" } : Jvm.MethodName)), (Jvm.Cond.codeSync ({ cls := "java/lang/Throwable", name := "fillInStackTrace", desc := "()Ljava/lang/Throwable;" } : Jvm.MethodName) prog_32_method_18_code (1 : Nat) (Option.some (Jvm.ClassFile.FieldType.object "java/lang/Throwable"))), (Jvm.Cond.instanceMethod ({ cls := "java/lang/Throwable", name := "fillInStackTrace", desc := "(I)Ljava/lang/Throwable;" } : Jvm.MethodName)), (Jvm.Cond.native ({ cls := "java/lang/Throwable", name := "fillInStackTrace", desc := "(I)Ljava/lang/Throwable;" } : Jvm.MethodName)), (Jvm.Cond.instanceMethod ({ cls := "java/lang/Throwable", name := "<init>", desc := "()V" } : Jvm.MethodName)), (Jvm.Cond.code ({ cls := "java/lang/Throwable", name := "<init>", desc := "()V" } : Jvm.MethodName) prog_32_method_1_code (1 : Nat) (Option.none : Option Jvm.ClassFile.FieldType)), (Jvm.Cond.instanceMethod ({ cls := "java/lang/Object", name := "<init>", desc := "()V" } : Jvm.MethodName)), (Jvm.Cond.code ({ cls := "java/lang/Object", name := "<init>", desc := "()V" } : Jvm.MethodName) object_method_1_code (1 : Nat) (Option.none : Option Jvm.ClassFile.FieldType)), (Jvm.Cond.methodLink "java/lang/Throwable" (1 : Nat) ({ cls := "java/lang/Object", name := "<init>", desc := "()V" } : Jvm.MethodName)), (Jvm.Cond.methodLink "java/lang/Throwable" (27 : Nat) ({ cls := "java/lang/Throwable", name := "fillInStackTrace", desc := "()Ljava/lang/Throwable;" } : Jvm.MethodName)), (Jvm.Cond.methodLink "java/lang/Throwable" (202 : Nat) ({ cls := "java/lang/Throwable", name := "fillInStackTrace", desc := "(I)Ljava/lang/Throwable;" } : Jvm.MethodName)), (Jvm.Cond.fieldLink "java/lang/Throwable" (7 : Nat) "java/lang/Throwable" "cause" "Ljava/lang/Throwable;"), (Jvm.Cond.lays "java/lang/Throwable" "java/lang/Throwable" "cause" "Ljava/lang/Throwable;"), (Jvm.Cond.fieldLink "java/lang/Throwable" (17 : Nat) "java/lang/Throwable" "stackTrace" "[Ljava/lang/StackTraceElement;"), (Jvm.Cond.lays "java/lang/Throwable" "java/lang/Throwable" "stackTrace" "[Ljava/lang/StackTraceElement;"), (Jvm.Cond.fieldLink "java/lang/Throwable" (24 : Nat) "java/lang/Throwable" "suppressedExceptions" "Ljava/util/List;"), (Jvm.Cond.lays "java/lang/Throwable" "java/lang/Throwable" "suppressedExceptions" "Ljava/util/List;"), (Jvm.Cond.fieldLink "java/lang/Throwable" (13 : Nat) "java/lang/Throwable" "UNASSIGNED_STACK" "[Ljava/lang/StackTraceElement;"), (Jvm.Cond.fieldLink "java/lang/Throwable" (20 : Nat) "java/lang/Throwable" "SUPPRESSED_SENTINEL" "Ljava/util/List;"), (Jvm.Cond.lays "java/lang/Throwable" "java/lang/Throwable" "detailMessage" "Ljava/lang/String;"), (Jvm.Cond.instanceMethod ({ cls := "java/lang/IllegalArgumentException", name := "<init>", desc := "()V" } : Jvm.MethodName)), (Jvm.Cond.code ({ cls := "java/lang/IllegalArgumentException", name := "<init>", desc := "()V" } : Jvm.MethodName) prog_20_method_1_code (1 : Nat) (Option.none : Option Jvm.ClassFile.FieldType)), (Jvm.Cond.methodLink "java/lang/IllegalArgumentException" (1 : Nat) ({ cls := "java/lang/RuntimeException", name := "<init>", desc := "()V" } : Jvm.MethodName)), (Jvm.Cond.instanceMethod ({ cls := "java/lang/RuntimeException", name := "<init>", desc := "()V" } : Jvm.MethodName)), (Jvm.Cond.instanceMethod ({ cls := "java/lang/RuntimeException", name := "<init>", desc := "()V" } : Jvm.MethodName)), (Jvm.Cond.code ({ cls := "java/lang/RuntimeException", name := "<init>", desc := "()V" } : Jvm.MethodName) prog_26_method_1_code (1 : Nat) (Option.none : Option Jvm.ClassFile.FieldType)), (Jvm.Cond.methodLink "java/lang/RuntimeException" (1 : Nat) ({ cls := "java/lang/Exception", name := "<init>", desc := "()V" } : Jvm.MethodName)), (Jvm.Cond.instanceMethod ({ cls := "java/lang/Exception", name := "<init>", desc := "()V" } : Jvm.MethodName)), (Jvm.Cond.instanceMethod ({ cls := "java/lang/Exception", name := "<init>", desc := "()V" } : Jvm.MethodName)), (Jvm.Cond.code ({ cls := "java/lang/Exception", name := "<init>", desc := "()V" } : Jvm.MethodName) prog_19_method_1_code (1 : Nat) (Option.none : Option Jvm.ClassFile.FieldType)), (Jvm.Cond.methodLink "java/lang/Exception" (1 : Nat) ({ cls := "java/lang/Throwable", name := "<init>", desc := "()V" } : Jvm.MethodName)), (Jvm.Cond.instanceMethod ({ cls := "java/lang/Throwable", name := "<init>", desc := "()V" } : Jvm.MethodName)), (Jvm.Cond.methodLink "EventClockWorkbench" (311 : Nat) ({ cls := "java/lang/IllegalArgumentException", name := "<init>", desc := "()V" } : Jvm.MethodName)), (Jvm.Cond.instantiable "java/lang/IllegalArgumentException" (6 : Nat)), (Jvm.Cond.selects "java/lang/IllegalArgumentException" ({ cls := "java/lang/Throwable", name := "fillInStackTrace", desc := "(I)Ljava/lang/Throwable;" } : Jvm.MethodName) ({ cls := "java/lang/Throwable", name := "fillInStackTrace", desc := "(I)Ljava/lang/Throwable;" } : Jvm.MethodName)), (Jvm.Cond.selects "java/lang/IllegalArgumentException" ({ cls := "java/lang/Throwable", name := "fillInStackTrace", desc := "()Ljava/lang/Throwable;" } : Jvm.MethodName) ({ cls := "java/lang/Throwable", name := "fillInStackTrace", desc := "()Ljava/lang/Throwable;" } : Jvm.MethodName)), (Jvm.Cond.lays "java/lang/IllegalArgumentException" "java/lang/Throwable" "cause" "Ljava/lang/Throwable;"), (Jvm.Cond.lays "java/lang/IllegalArgumentException" "java/lang/Throwable" "stackTrace" "[Ljava/lang/StackTraceElement;"), (Jvm.Cond.lays "java/lang/IllegalArgumentException" "java/lang/Throwable" "suppressedExceptions" "Ljava/util/List;"), (Jvm.Cond.lays "java/lang/IllegalArgumentException" "java/lang/Throwable" "detailMessage" "Ljava/lang/String;"), (Jvm.Cond.fieldLink "java/lang/Throwable" (198 : Nat) "java/lang/Throwable" "backtrace" "Ljava/lang/Object;"), (Jvm.Cond.lays "java/lang/Throwable" "java/lang/Throwable" "backtrace" "Ljava/lang/Object;"), (Jvm.Cond.lays "java/lang/IllegalArgumentException" "java/lang/Throwable" "backtrace" "Ljava/lang/Object;")] : List Jvm.Cond) from by decide +kernel] at hw
    exact (List.forall_mem_cons.mpr ⟨wd_1_10, List.forall_mem_cons.mpr ⟨wd_2_30, List.forall_mem_cons.mpr ⟨wd_2_39, List.forall_mem_cons.mpr ⟨wd_2_44, List.forall_mem_cons.mpr ⟨wd_2_47, List.forall_mem_cons.mpr ⟨wd_2_49, List.forall_mem_cons.mpr ⟨wd_2_31, List.forall_mem_cons.mpr ⟨wd_2_32, List.forall_mem_cons.mpr ⟨wd_1_36, List.forall_mem_cons.mpr ⟨wd_1_37, List.forall_mem_cons.mpr ⟨wd_2_33, List.forall_mem_cons.mpr ⟨wd_2_38, List.forall_mem_cons.mpr ⟨wd_2_45, List.forall_mem_cons.mpr ⟨wd_2_61, List.forall_mem_cons.mpr ⟨wd_2_20, List.forall_mem_cons.mpr ⟨wd_2_62, List.forall_mem_cons.mpr ⟨wd_2_22, List.forall_mem_cons.mpr ⟨wd_2_63, List.forall_mem_cons.mpr ⟨wd_2_24, List.forall_mem_cons.mpr ⟨wd_2_34, List.forall_mem_cons.mpr ⟨wd_2_36, List.forall_mem_cons.mpr ⟨wd_2_26, List.forall_mem_cons.mpr ⟨wd_2_51, List.forall_mem_cons.mpr ⟨wd_2_52, List.forall_mem_cons.mpr ⟨wd_2_53, List.forall_mem_cons.mpr ⟨wd_2_54, List.forall_mem_cons.mpr ⟨wd_2_54, List.forall_mem_cons.mpr ⟨wd_2_55, List.forall_mem_cons.mpr ⟨wd_2_56, List.forall_mem_cons.mpr ⟨wd_2_57, List.forall_mem_cons.mpr ⟨wd_2_57, List.forall_mem_cons.mpr ⟨wd_2_58, List.forall_mem_cons.mpr ⟨wd_2_59, List.forall_mem_cons.mpr ⟨wd_2_31, List.forall_mem_cons.mpr ⟨wd_2_50, List.forall_mem_cons.mpr ⟨wd_2_9, List.forall_mem_cons.mpr ⟨wd_2_17, List.forall_mem_cons.mpr ⟨wd_2_18, List.forall_mem_cons.mpr ⟨wd_2_19, List.forall_mem_cons.mpr ⟨wd_2_21, List.forall_mem_cons.mpr ⟨wd_2_23, List.forall_mem_cons.mpr ⟨wd_2_25, List.forall_mem_cons.mpr ⟨wd_2_29, List.forall_mem_cons.mpr ⟨wd_2_28, List.forall_mem_cons.mpr ⟨wd_2_27, fun _ h => absurd h List.not_mem_nil⟩⟩⟩⟩⟩⟩⟩⟩⟩⟩⟩⟩⟩⟩⟩⟩⟩⟩⟩⟩⟩⟩⟩⟩⟩⟩⟩⟩⟩⟩⟩⟩⟩⟩⟩⟩⟩⟩⟩⟩⟩⟩⟩⟩⟩) w hw
  · decide +kernel
  · decide +kernel
theorem metX9_requireArgument {l : Launch} (hf : l.stackTraces = false) : pvMet l yX9_requireArgument (Cond.code yX9_requireArgument cX9_requireArgument 1 none :: pvTb) mX9_requireArgument C_X9_requireArgument :=
  pvMet_of hf (y := yX9_requireArgument) plX9 pvTb_g coX9 foX9 pvCl (caX9_requireArgument hf) (exX9_requireArgument) (fun ix h => by rcases h with h | h <;> (unfold eX9 at h; split at h <;> cases h)) ⟨rfl, rfl⟩ chX9_requireArgument okX9_requireArgument
theorem pnX9_requireState : pvPn yX9_requireState = some 1 := by decide +kernel
theorem caX9_requireState {l : Launch} (hf : l.stackTraces = false) (lm : Nat → Prop) (sc : Nat × (Nat → Int)) : pvCaOk l mX9_requireState "EventClockWorkbench" pvTb lm sc aX9_requireState := by
  exact fun ix n b ci co C h => nomatch (show (none : Option (Nat × Bool × Nat × Nat × pvC)) = some (n, b, ci, co, C) from h)
set_option maxRecDepth 100000 in
theorem chX9_requireState : ∀ pc, pvChain cX9_requireState pc (bX9_requireState pc) := by
  intro pc
  unfold bX9_requireState
  split <;> first | exact True.intro | exact pvChain_of (by decide +kernel)
theorem nwX9_requireState : ∀ pc ix, decode cX9_requireState pc = .ok (.new ix, 3) → pc = 4 ∧ ix = 312 := by
  intro pc ix h
  by_cases hs : pc < cX9_requireState.size
  · have hq := List.all_eq_true.mp (show (List.range cX9_requireState.size).all (fun q => match decode cX9_requireState q with | .ok (.new j, _) => decide (q = 4 ∧ j = 312) | _ => true) = true from by decide +kernel) pc (List.mem_range.mpr hs)
    rw [h] at hq
    exact of_decide_eq_true hq
  · exact absurd h (dec_oob (by omega))
theorem exX9_requireState : pvExOk "EventClockWorkbench" cX9_requireState pvTb eX9 mX9_requireState := by
  intro ix ic k pc hE hk hd hd4
  obtain ⟨rfl, rfl⟩ := nwX9_requireState pc ix hd
  rw [show decode cX9_requireState (4 + 4) = .ok (.invokespecial 314, 3) from by decide +kernel] at hd4
  cases hd4
  cases (show some 2 = some k from hE)
  refine ⟨wd_2_75, wd_1_27, ?_, ?_, ?_, by decide, by decide⟩
  · intro w hw
    rw [show (vx_at0 "EventClockWorkbench" 314 (pvXn 2) ["java/lang/RuntimeException", "java/lang/Exception"]).filter goodWord = ([(Jvm.Cond.initialized "java/lang/Throwable"), (Jvm.Cond.superclass "java/lang/Throwable" "java/lang/Object"), (Jvm.Cond.instanceMethod ({ cls := "java/lang/Throwable", name := "fillInStackTrace", desc := "()Ljava/lang/Throwable;" } : Jvm.MethodName)), (Jvm.Cond.codeSync ({ cls := "java/lang/Throwable", name := "fillInStackTrace", desc := "()Ljava/lang/Throwable;" } : Jvm.MethodName) prog_32_method_18_code (1 : Nat) (Option.some (Jvm.ClassFile.FieldType.object "java/lang/Throwable"))), (Jvm.Cond.instanceMethod ({ cls := "java/lang/Throwable", name := "fillInStackTrace", desc := "(I)Ljava/lang/Throwable;" } : Jvm.MethodName)), (Jvm.Cond.native ({ cls := "java/lang/Throwable", name := "fillInStackTrace", desc := "(I)Ljava/lang/Throwable;" } : Jvm.MethodName)), (Jvm.Cond.instanceMethod ({ cls := "java/lang/Throwable", name := "<init>", desc := "()V" } : Jvm.MethodName)), (Jvm.Cond.code ({ cls := "java/lang/Throwable", name := "<init>", desc := "()V" } : Jvm.MethodName) prog_32_method_1_code (1 : Nat) (Option.none : Option Jvm.ClassFile.FieldType)), (Jvm.Cond.instanceMethod ({ cls := "java/lang/Object", name := "<init>", desc := "()V" } : Jvm.MethodName)), (Jvm.Cond.code ({ cls := "java/lang/Object", name := "<init>", desc := "()V" } : Jvm.MethodName) object_method_1_code (1 : Nat) (Option.none : Option Jvm.ClassFile.FieldType)), (Jvm.Cond.methodLink "java/lang/Throwable" (1 : Nat) ({ cls := "java/lang/Object", name := "<init>", desc := "()V" } : Jvm.MethodName)), (Jvm.Cond.methodLink "java/lang/Throwable" (27 : Nat) ({ cls := "java/lang/Throwable", name := "fillInStackTrace", desc := "()Ljava/lang/Throwable;" } : Jvm.MethodName)), (Jvm.Cond.methodLink "java/lang/Throwable" (202 : Nat) ({ cls := "java/lang/Throwable", name := "fillInStackTrace", desc := "(I)Ljava/lang/Throwable;" } : Jvm.MethodName)), (Jvm.Cond.fieldLink "java/lang/Throwable" (7 : Nat) "java/lang/Throwable" "cause" "Ljava/lang/Throwable;"), (Jvm.Cond.lays "java/lang/Throwable" "java/lang/Throwable" "cause" "Ljava/lang/Throwable;"), (Jvm.Cond.fieldLink "java/lang/Throwable" (17 : Nat) "java/lang/Throwable" "stackTrace" "[Ljava/lang/StackTraceElement;"), (Jvm.Cond.lays "java/lang/Throwable" "java/lang/Throwable" "stackTrace" "[Ljava/lang/StackTraceElement;"), (Jvm.Cond.fieldLink "java/lang/Throwable" (24 : Nat) "java/lang/Throwable" "suppressedExceptions" "Ljava/util/List;"), (Jvm.Cond.lays "java/lang/Throwable" "java/lang/Throwable" "suppressedExceptions" "Ljava/util/List;"), (Jvm.Cond.fieldLink "java/lang/Throwable" (13 : Nat) "java/lang/Throwable" "UNASSIGNED_STACK" "[Ljava/lang/StackTraceElement;"), (Jvm.Cond.fieldLink "java/lang/Throwable" (20 : Nat) "java/lang/Throwable" "SUPPRESSED_SENTINEL" "Ljava/util/List;"), (Jvm.Cond.lays "java/lang/Throwable" "java/lang/Throwable" "detailMessage" "Ljava/lang/String;"), (Jvm.Cond.instanceMethod ({ cls := "java/lang/IllegalStateException", name := "<init>", desc := "()V" } : Jvm.MethodName)), (Jvm.Cond.code ({ cls := "java/lang/IllegalStateException", name := "<init>", desc := "()V" } : Jvm.MethodName) prog_21_method_1_code (1 : Nat) (Option.none : Option Jvm.ClassFile.FieldType)), (Jvm.Cond.methodLink "java/lang/IllegalStateException" (1 : Nat) ({ cls := "java/lang/RuntimeException", name := "<init>", desc := "()V" } : Jvm.MethodName)), (Jvm.Cond.instanceMethod ({ cls := "java/lang/RuntimeException", name := "<init>", desc := "()V" } : Jvm.MethodName)), (Jvm.Cond.instanceMethod ({ cls := "java/lang/RuntimeException", name := "<init>", desc := "()V" } : Jvm.MethodName)), (Jvm.Cond.code ({ cls := "java/lang/RuntimeException", name := "<init>", desc := "()V" } : Jvm.MethodName) prog_26_method_1_code (1 : Nat) (Option.none : Option Jvm.ClassFile.FieldType)), (Jvm.Cond.methodLink "java/lang/RuntimeException" (1 : Nat) ({ cls := "java/lang/Exception", name := "<init>", desc := "()V" } : Jvm.MethodName)), (Jvm.Cond.instanceMethod ({ cls := "java/lang/Exception", name := "<init>", desc := "()V" } : Jvm.MethodName)), (Jvm.Cond.instanceMethod ({ cls := "java/lang/Exception", name := "<init>", desc := "()V" } : Jvm.MethodName)), (Jvm.Cond.code ({ cls := "java/lang/Exception", name := "<init>", desc := "()V" } : Jvm.MethodName) prog_19_method_1_code (1 : Nat) (Option.none : Option Jvm.ClassFile.FieldType)), (Jvm.Cond.methodLink "java/lang/Exception" (1 : Nat) ({ cls := "java/lang/Throwable", name := "<init>", desc := "()V" } : Jvm.MethodName)), (Jvm.Cond.instanceMethod ({ cls := "java/lang/Throwable", name := "<init>", desc := "()V" } : Jvm.MethodName)), (Jvm.Cond.methodLink "EventClockWorkbench" (314 : Nat) ({ cls := "java/lang/IllegalStateException", name := "<init>", desc := "()V" } : Jvm.MethodName)), (Jvm.Cond.instantiable "java/lang/IllegalStateException" (6 : Nat)), (Jvm.Cond.selects "java/lang/IllegalStateException" ({ cls := "java/lang/Throwable", name := "fillInStackTrace", desc := "(I)Ljava/lang/Throwable;" } : Jvm.MethodName) ({ cls := "java/lang/Throwable", name := "fillInStackTrace", desc := "(I)Ljava/lang/Throwable;" } : Jvm.MethodName)), (Jvm.Cond.selects "java/lang/IllegalStateException" ({ cls := "java/lang/Throwable", name := "fillInStackTrace", desc := "()Ljava/lang/Throwable;" } : Jvm.MethodName) ({ cls := "java/lang/Throwable", name := "fillInStackTrace", desc := "()Ljava/lang/Throwable;" } : Jvm.MethodName)), (Jvm.Cond.lays "java/lang/IllegalStateException" "java/lang/Throwable" "cause" "Ljava/lang/Throwable;"), (Jvm.Cond.lays "java/lang/IllegalStateException" "java/lang/Throwable" "stackTrace" "[Ljava/lang/StackTraceElement;"), (Jvm.Cond.lays "java/lang/IllegalStateException" "java/lang/Throwable" "suppressedExceptions" "Ljava/util/List;"), (Jvm.Cond.lays "java/lang/IllegalStateException" "java/lang/Throwable" "detailMessage" "Ljava/lang/String;"), (Jvm.Cond.fieldLink "java/lang/Throwable" (198 : Nat) "java/lang/Throwable" "backtrace" "Ljava/lang/Object;"), (Jvm.Cond.lays "java/lang/Throwable" "java/lang/Throwable" "backtrace" "Ljava/lang/Object;"), (Jvm.Cond.lays "java/lang/IllegalStateException" "java/lang/Throwable" "backtrace" "Ljava/lang/Object;")] : List Jvm.Cond) from by decide +kernel] at hw
    exact (List.forall_mem_cons.mpr ⟨wd_1_10, List.forall_mem_cons.mpr ⟨wd_2_30, List.forall_mem_cons.mpr ⟨wd_2_39, List.forall_mem_cons.mpr ⟨wd_2_44, List.forall_mem_cons.mpr ⟨wd_2_47, List.forall_mem_cons.mpr ⟨wd_2_49, List.forall_mem_cons.mpr ⟨wd_2_31, List.forall_mem_cons.mpr ⟨wd_2_32, List.forall_mem_cons.mpr ⟨wd_1_36, List.forall_mem_cons.mpr ⟨wd_1_37, List.forall_mem_cons.mpr ⟨wd_2_33, List.forall_mem_cons.mpr ⟨wd_2_38, List.forall_mem_cons.mpr ⟨wd_2_45, List.forall_mem_cons.mpr ⟨wd_2_61, List.forall_mem_cons.mpr ⟨wd_2_20, List.forall_mem_cons.mpr ⟨wd_2_62, List.forall_mem_cons.mpr ⟨wd_2_22, List.forall_mem_cons.mpr ⟨wd_2_63, List.forall_mem_cons.mpr ⟨wd_2_24, List.forall_mem_cons.mpr ⟨wd_2_34, List.forall_mem_cons.mpr ⟨wd_2_36, List.forall_mem_cons.mpr ⟨wd_2_26, List.forall_mem_cons.mpr ⟨wd_2_85, List.forall_mem_cons.mpr ⟨wd_2_86, List.forall_mem_cons.mpr ⟨wd_2_87, List.forall_mem_cons.mpr ⟨wd_2_54, List.forall_mem_cons.mpr ⟨wd_2_54, List.forall_mem_cons.mpr ⟨wd_2_55, List.forall_mem_cons.mpr ⟨wd_2_56, List.forall_mem_cons.mpr ⟨wd_2_57, List.forall_mem_cons.mpr ⟨wd_2_57, List.forall_mem_cons.mpr ⟨wd_2_58, List.forall_mem_cons.mpr ⟨wd_2_59, List.forall_mem_cons.mpr ⟨wd_2_31, List.forall_mem_cons.mpr ⟨wd_2_84, List.forall_mem_cons.mpr ⟨wd_2_76, List.forall_mem_cons.mpr ⟨wd_2_78, List.forall_mem_cons.mpr ⟨wd_2_41, List.forall_mem_cons.mpr ⟨wd_2_79, List.forall_mem_cons.mpr ⟨wd_2_80, List.forall_mem_cons.mpr ⟨wd_2_81, List.forall_mem_cons.mpr ⟨wd_2_82, List.forall_mem_cons.mpr ⟨wd_2_29, List.forall_mem_cons.mpr ⟨wd_2_28, List.forall_mem_cons.mpr ⟨wd_2_83, fun _ h => absurd h List.not_mem_nil⟩⟩⟩⟩⟩⟩⟩⟩⟩⟩⟩⟩⟩⟩⟩⟩⟩⟩⟩⟩⟩⟩⟩⟩⟩⟩⟩⟩⟩⟩⟩⟩⟩⟩⟩⟩⟩⟩⟩⟩⟩⟩⟩⟩⟩) w hw
  · decide +kernel
  · decide +kernel
theorem metX9_requireState {l : Launch} (hf : l.stackTraces = false) : pvMet l yX9_requireState (Cond.code yX9_requireState cX9_requireState 1 none :: pvTb) mX9_requireState C_X9_requireState :=
  pvMet_of hf (y := yX9_requireState) plX9 pvTb_g coX9 foX9 pvCl (caX9_requireState hf) (exX9_requireState) (fun ix h => by rcases h with h | h <;> (unfold eX9 at h; split at h <;> cases h)) ⟨rfl, rfl⟩ chX9_requireState okX9_requireState
theorem pnX9_appendCharacter : pvPn yX9_appendCharacter = some 1 := by decide +kernel
theorem caX9_appendCharacter {l : Launch} (hf : l.stackTraces = false) (lm : Nat → Prop) (sc : Nat × (Nat → Int)) : pvCaOk l mX9_appendCharacter "EventClockWorkbench" pvTb lm sc aX9_appendCharacter := by
  refine pvCaOk_i fun ix n b ci co C h => ?_
  unfold aX9_appendCharacter at h
  split at h
  · cases h; exact pvCe_S (metX9_isBetween hf) rfl wd_1_1 rfl wd_2_2 wd_2_3 pnX9_isBetween wd_2_4
  · cases h; exact pvCe_S (metX9_requireArgument hf) rfl wd_1_1 rfl wd_2_5 wd_2_6 pnX9_requireArgument wd_2_7
  · cases h; exact pvCe_V (k := 0) (T := TX1) (N := 5) (metX1_hasRoom hf) rfl wd_1_4 rfl wd_4_98 wd_4_99 wd_4_100 pnX1_hasRoom rfl wd_4_101
  · cases h; exact pvCe_S (metX9_requireState hf) rfl wd_1_1 rfl wd_2_72 wd_2_73 pnX9_requireState wd_2_74
  · cases h; exact pvCe_V (k := 1) (T := TX1) (N := 5) (metX1_append hf) rfl wd_1_4 rfl wd_4_102 wd_4_103 wd_4_104 pnX1_append rfl wd_4_105
  · cases h
set_option maxRecDepth 100000 in
theorem chX9_appendCharacter : ∀ pc, pvChain cX9_appendCharacter pc (bX9_appendCharacter pc) := by
  intro pc
  unfold bX9_appendCharacter
  split <;> first | exact True.intro | exact pvChain_of (by decide +kernel)
theorem frX9_appendCharacter : ∀ pc, (bX9_appendCharacter pc).all (fun q => pvFrB eX9 q.1) = true := by
  intro pc
  unfold bX9_appendCharacter
  split <;> rfl
theorem metX9_appendCharacter {l : Launch} (hf : l.stackTraces = false) : pvMet l yX9_appendCharacter (Cond.code yX9_appendCharacter cX9_appendCharacter 2 (some .int) :: pvTb) mX9_appendCharacter C_X9_appendCharacter :=
  pvMet_of hf (y := yX9_appendCharacter) plX9 pvTb_g coX9 foX9 pvCl (caX9_appendCharacter hf) pvExOk_0 (fun ix h => by rcases h with h | h <;> cases (show (none : Option Nat) = some _ from h)) ⟨rfl, rfl⟩ chX9_appendCharacter (pvOkM_ex okX9_appendCharacter frX9_appendCharacter)
theorem pnX9_requireIndex : pvPn yX9_requireIndex = some 2 := by decide +kernel
theorem caX9_requireIndex {l : Launch} (hf : l.stackTraces = false) (lm : Nat → Prop) (sc : Nat × (Nat → Int)) : pvCaOk l mX9_requireIndex "EventClockWorkbench" pvTb lm sc aX9_requireIndex := by
  exact fun ix n b ci co C h => nomatch (show (none : Option (Nat × Bool × Nat × Nat × pvC)) = some (n, b, ci, co, C) from h)
set_option maxRecDepth 100000 in
theorem chX9_requireIndex : ∀ pc, pvChain cX9_requireIndex pc (bX9_requireIndex pc) := by
  intro pc
  unfold bX9_requireIndex
  split <;> first | exact True.intro | exact pvChain_of (by decide +kernel)
theorem nwX9_requireIndex : ∀ pc ix, decode cX9_requireIndex pc = .ok (.new ix, 3) → pc = 9 ∧ ix = 306 := by
  intro pc ix h
  by_cases hs : pc < cX9_requireIndex.size
  · have hq := List.all_eq_true.mp (show (List.range cX9_requireIndex.size).all (fun q => match decode cX9_requireIndex q with | .ok (.new j, _) => decide (q = 9 ∧ j = 306) | _ => true) = true from by decide +kernel) pc (List.mem_range.mpr hs)
    rw [h] at hq
    exact of_decide_eq_true hq
  · exact absurd h (dec_oob (by omega))
theorem exX9_requireIndex : pvExOk "EventClockWorkbench" cX9_requireIndex pvTb eX9 mX9_requireIndex := by
  intro ix ic k pc hE hk hd hd4
  obtain ⟨rfl, rfl⟩ := nwX9_requireIndex pc ix hd
  rw [show decode cX9_requireIndex (9 + 4) = .ok (.invokespecial 308, 3) from by decide +kernel] at hd4
  cases hd4
  cases (show some 0 = some k from hE)
  refine ⟨wd_2_113, wd_1_13, ?_, ?_, ?_, by decide, by decide⟩
  · intro w hw
    rw [show (vx_at0 "EventClockWorkbench" 308 (pvXn 0) ["java/lang/RuntimeException", "java/lang/Exception"]).filter goodWord = ([(Jvm.Cond.initialized "java/lang/Throwable"), (Jvm.Cond.superclass "java/lang/Throwable" "java/lang/Object"), (Jvm.Cond.instanceMethod ({ cls := "java/lang/Throwable", name := "fillInStackTrace", desc := "()Ljava/lang/Throwable;" } : Jvm.MethodName)), (Jvm.Cond.codeSync ({ cls := "java/lang/Throwable", name := "fillInStackTrace", desc := "()Ljava/lang/Throwable;" } : Jvm.MethodName) prog_32_method_18_code (1 : Nat) (Option.some (Jvm.ClassFile.FieldType.object "java/lang/Throwable"))), (Jvm.Cond.instanceMethod ({ cls := "java/lang/Throwable", name := "fillInStackTrace", desc := "(I)Ljava/lang/Throwable;" } : Jvm.MethodName)), (Jvm.Cond.native ({ cls := "java/lang/Throwable", name := "fillInStackTrace", desc := "(I)Ljava/lang/Throwable;" } : Jvm.MethodName)), (Jvm.Cond.instanceMethod ({ cls := "java/lang/Throwable", name := "<init>", desc := "()V" } : Jvm.MethodName)), (Jvm.Cond.code ({ cls := "java/lang/Throwable", name := "<init>", desc := "()V" } : Jvm.MethodName) prog_32_method_1_code (1 : Nat) (Option.none : Option Jvm.ClassFile.FieldType)), (Jvm.Cond.instanceMethod ({ cls := "java/lang/Object", name := "<init>", desc := "()V" } : Jvm.MethodName)), (Jvm.Cond.code ({ cls := "java/lang/Object", name := "<init>", desc := "()V" } : Jvm.MethodName) object_method_1_code (1 : Nat) (Option.none : Option Jvm.ClassFile.FieldType)), (Jvm.Cond.methodLink "java/lang/Throwable" (1 : Nat) ({ cls := "java/lang/Object", name := "<init>", desc := "()V" } : Jvm.MethodName)), (Jvm.Cond.methodLink "java/lang/Throwable" (27 : Nat) ({ cls := "java/lang/Throwable", name := "fillInStackTrace", desc := "()Ljava/lang/Throwable;" } : Jvm.MethodName)), (Jvm.Cond.methodLink "java/lang/Throwable" (202 : Nat) ({ cls := "java/lang/Throwable", name := "fillInStackTrace", desc := "(I)Ljava/lang/Throwable;" } : Jvm.MethodName)), (Jvm.Cond.fieldLink "java/lang/Throwable" (7 : Nat) "java/lang/Throwable" "cause" "Ljava/lang/Throwable;"), (Jvm.Cond.lays "java/lang/Throwable" "java/lang/Throwable" "cause" "Ljava/lang/Throwable;"), (Jvm.Cond.fieldLink "java/lang/Throwable" (17 : Nat) "java/lang/Throwable" "stackTrace" "[Ljava/lang/StackTraceElement;"), (Jvm.Cond.lays "java/lang/Throwable" "java/lang/Throwable" "stackTrace" "[Ljava/lang/StackTraceElement;"), (Jvm.Cond.fieldLink "java/lang/Throwable" (24 : Nat) "java/lang/Throwable" "suppressedExceptions" "Ljava/util/List;"), (Jvm.Cond.lays "java/lang/Throwable" "java/lang/Throwable" "suppressedExceptions" "Ljava/util/List;"), (Jvm.Cond.fieldLink "java/lang/Throwable" (13 : Nat) "java/lang/Throwable" "UNASSIGNED_STACK" "[Ljava/lang/StackTraceElement;"), (Jvm.Cond.fieldLink "java/lang/Throwable" (20 : Nat) "java/lang/Throwable" "SUPPRESSED_SENTINEL" "Ljava/util/List;"), (Jvm.Cond.lays "java/lang/Throwable" "java/lang/Throwable" "detailMessage" "Ljava/lang/String;"), (Jvm.Cond.instanceMethod ({ cls := "java/lang/IndexOutOfBoundsException", name := "<init>", desc := "()V" } : Jvm.MethodName)), (Jvm.Cond.code ({ cls := "java/lang/IndexOutOfBoundsException", name := "<init>", desc := "()V" } : Jvm.MethodName) prog_22_method_1_code (1 : Nat) (Option.none : Option Jvm.ClassFile.FieldType)), (Jvm.Cond.methodLink "java/lang/IndexOutOfBoundsException" (1 : Nat) ({ cls := "java/lang/RuntimeException", name := "<init>", desc := "()V" } : Jvm.MethodName)), (Jvm.Cond.instanceMethod ({ cls := "java/lang/RuntimeException", name := "<init>", desc := "()V" } : Jvm.MethodName)), (Jvm.Cond.instanceMethod ({ cls := "java/lang/RuntimeException", name := "<init>", desc := "()V" } : Jvm.MethodName)), (Jvm.Cond.code ({ cls := "java/lang/RuntimeException", name := "<init>", desc := "()V" } : Jvm.MethodName) prog_26_method_1_code (1 : Nat) (Option.none : Option Jvm.ClassFile.FieldType)), (Jvm.Cond.methodLink "java/lang/RuntimeException" (1 : Nat) ({ cls := "java/lang/Exception", name := "<init>", desc := "()V" } : Jvm.MethodName)), (Jvm.Cond.instanceMethod ({ cls := "java/lang/Exception", name := "<init>", desc := "()V" } : Jvm.MethodName)), (Jvm.Cond.instanceMethod ({ cls := "java/lang/Exception", name := "<init>", desc := "()V" } : Jvm.MethodName)), (Jvm.Cond.code ({ cls := "java/lang/Exception", name := "<init>", desc := "()V" } : Jvm.MethodName) prog_19_method_1_code (1 : Nat) (Option.none : Option Jvm.ClassFile.FieldType)), (Jvm.Cond.methodLink "java/lang/Exception" (1 : Nat) ({ cls := "java/lang/Throwable", name := "<init>", desc := "()V" } : Jvm.MethodName)), (Jvm.Cond.instanceMethod ({ cls := "java/lang/Throwable", name := "<init>", desc := "()V" } : Jvm.MethodName)), (Jvm.Cond.methodLink "EventClockWorkbench" (308 : Nat) ({ cls := "java/lang/IndexOutOfBoundsException", name := "<init>", desc := "()V" } : Jvm.MethodName)), (Jvm.Cond.instantiable "java/lang/IndexOutOfBoundsException" (6 : Nat)), (Jvm.Cond.selects "java/lang/IndexOutOfBoundsException" ({ cls := "java/lang/Throwable", name := "fillInStackTrace", desc := "(I)Ljava/lang/Throwable;" } : Jvm.MethodName) ({ cls := "java/lang/Throwable", name := "fillInStackTrace", desc := "(I)Ljava/lang/Throwable;" } : Jvm.MethodName)), (Jvm.Cond.selects "java/lang/IndexOutOfBoundsException" ({ cls := "java/lang/Throwable", name := "fillInStackTrace", desc := "()Ljava/lang/Throwable;" } : Jvm.MethodName) ({ cls := "java/lang/Throwable", name := "fillInStackTrace", desc := "()Ljava/lang/Throwable;" } : Jvm.MethodName)), (Jvm.Cond.lays "java/lang/IndexOutOfBoundsException" "java/lang/Throwable" "cause" "Ljava/lang/Throwable;"), (Jvm.Cond.lays "java/lang/IndexOutOfBoundsException" "java/lang/Throwable" "stackTrace" "[Ljava/lang/StackTraceElement;"), (Jvm.Cond.lays "java/lang/IndexOutOfBoundsException" "java/lang/Throwable" "suppressedExceptions" "Ljava/util/List;"), (Jvm.Cond.lays "java/lang/IndexOutOfBoundsException" "java/lang/Throwable" "detailMessage" "Ljava/lang/String;"), (Jvm.Cond.fieldLink "java/lang/Throwable" (198 : Nat) "java/lang/Throwable" "backtrace" "Ljava/lang/Object;"), (Jvm.Cond.lays "java/lang/Throwable" "java/lang/Throwable" "backtrace" "Ljava/lang/Object;"), (Jvm.Cond.lays "java/lang/IndexOutOfBoundsException" "java/lang/Throwable" "backtrace" "Ljava/lang/Object;")] : List Jvm.Cond) from by decide +kernel] at hw
    exact (List.forall_mem_cons.mpr ⟨wd_1_10, List.forall_mem_cons.mpr ⟨wd_2_30, List.forall_mem_cons.mpr ⟨wd_2_39, List.forall_mem_cons.mpr ⟨wd_2_44, List.forall_mem_cons.mpr ⟨wd_2_47, List.forall_mem_cons.mpr ⟨wd_2_49, List.forall_mem_cons.mpr ⟨wd_2_31, List.forall_mem_cons.mpr ⟨wd_2_32, List.forall_mem_cons.mpr ⟨wd_1_36, List.forall_mem_cons.mpr ⟨wd_1_37, List.forall_mem_cons.mpr ⟨wd_2_33, List.forall_mem_cons.mpr ⟨wd_2_38, List.forall_mem_cons.mpr ⟨wd_2_45, List.forall_mem_cons.mpr ⟨wd_2_61, List.forall_mem_cons.mpr ⟨wd_2_20, List.forall_mem_cons.mpr ⟨wd_2_62, List.forall_mem_cons.mpr ⟨wd_2_22, List.forall_mem_cons.mpr ⟨wd_2_63, List.forall_mem_cons.mpr ⟨wd_2_24, List.forall_mem_cons.mpr ⟨wd_2_34, List.forall_mem_cons.mpr ⟨wd_2_36, List.forall_mem_cons.mpr ⟨wd_2_26, List.forall_mem_cons.mpr ⟨wd_2_123, List.forall_mem_cons.mpr ⟨wd_2_124, List.forall_mem_cons.mpr ⟨wd_2_125, List.forall_mem_cons.mpr ⟨wd_2_54, List.forall_mem_cons.mpr ⟨wd_2_54, List.forall_mem_cons.mpr ⟨wd_2_55, List.forall_mem_cons.mpr ⟨wd_2_56, List.forall_mem_cons.mpr ⟨wd_2_57, List.forall_mem_cons.mpr ⟨wd_2_57, List.forall_mem_cons.mpr ⟨wd_2_58, List.forall_mem_cons.mpr ⟨wd_2_59, List.forall_mem_cons.mpr ⟨wd_2_31, List.forall_mem_cons.mpr ⟨wd_2_122, List.forall_mem_cons.mpr ⟨wd_2_114, List.forall_mem_cons.mpr ⟨wd_2_116, List.forall_mem_cons.mpr ⟨wd_2_42, List.forall_mem_cons.mpr ⟨wd_2_117, List.forall_mem_cons.mpr ⟨wd_2_118, List.forall_mem_cons.mpr ⟨wd_2_119, List.forall_mem_cons.mpr ⟨wd_2_120, List.forall_mem_cons.mpr ⟨wd_2_29, List.forall_mem_cons.mpr ⟨wd_2_28, List.forall_mem_cons.mpr ⟨wd_2_121, fun _ h => absurd h List.not_mem_nil⟩⟩⟩⟩⟩⟩⟩⟩⟩⟩⟩⟩⟩⟩⟩⟩⟩⟩⟩⟩⟩⟩⟩⟩⟩⟩⟩⟩⟩⟩⟩⟩⟩⟩⟩⟩⟩⟩⟩⟩⟩⟩⟩⟩⟩) w hw
  · decide +kernel
  · decide +kernel
theorem metX9_requireIndex {l : Launch} (hf : l.stackTraces = false) : pvMet l yX9_requireIndex (Cond.code yX9_requireIndex cX9_requireIndex 2 none :: pvTb) mX9_requireIndex C_X9_requireIndex :=
  pvMet_of hf (y := yX9_requireIndex) plX9 pvTb_g coX9 foX9 pvCl (caX9_requireIndex hf) (exX9_requireIndex) (fun ix h => by rcases h with h | h <;> (unfold eX9 at h; split at h <;> cases h)) ⟨rfl, rfl⟩ chX9_requireIndex okX9_requireIndex
theorem pnX9_automaton : pvPn yX9_automaton = some 1 := by decide +kernel
theorem caX9_automaton {l : Launch} (hf : l.stackTraces = false) (lm : Nat → Prop) (sc : Nat × (Nat → Int)) : pvCaOk l mX9_automaton "EventClockWorkbench" pvTb lm sc aX9_automaton := by
  exact fun ix n b ci co C h => nomatch (show (none : Option (Nat × Bool × Nat × Nat × pvC)) = some (n, b, ci, co, C) from h)
set_option maxRecDepth 100000 in
theorem chX9_automaton : ∀ pc, pvChain cX9_automaton pc (bX9_automaton pc) := by
  intro pc
  unfold bX9_automaton
  split <;> first | exact True.intro | exact pvChain_of (by decide +kernel)
theorem frX9_automaton : ∀ pc, (bX9_automaton pc).all (fun q => pvFrB eX9 q.1) = true := by
  intro pc
  unfold bX9_automaton
  split <;> rfl
theorem metX9_automaton {l : Launch} (hf : l.stackTraces = false) : pvMet l yX9_automaton (Cond.code yX9_automaton cX9_automaton 2 (some (.object "EventClockWorkbench$Automaton")) :: pvTb) mX9_automaton C_X9_automaton :=
  pvMet_of hf (y := yX9_automaton) plX9 pvTb_g coX9 foX9 pvCl (caX9_automaton hf) pvExOk_0 (fun ix h => by rcases h with h | h <;> cases (show (none : Option Nat) = some _ from h)) ⟨rfl, rfl⟩ chX9_automaton (pvOkM_ex okX9_automaton frX9_automaton)
theorem pnX9_markStale : pvPn yX9_markStale = some 0 := by decide +kernel
theorem caX9_markStale {l : Launch} (hf : l.stackTraces = false) (lm : Nat → Prop) (sc : Nat × (Nat → Int)) : pvCaOk l mX9_markStale "EventClockWorkbench" pvTb lm sc aX9_markStale := by
  exact fun ix n b ci co C h => nomatch (show (none : Option (Nat × Bool × Nat × Nat × pvC)) = some (n, b, ci, co, C) from h)
set_option maxRecDepth 100000 in
theorem chX9_markStale : ∀ pc, pvChain cX9_markStale pc (bX9_markStale pc) := by
  intro pc
  unfold bX9_markStale
  split <;> first | exact True.intro | exact pvChain_of (by decide +kernel)
theorem frX9_markStale : ∀ pc, (bX9_markStale pc).all (fun q => pvFrB eX9 q.1) = true := by
  intro pc
  unfold bX9_markStale
  split <;> rfl
theorem metX9_markStale {l : Launch} (hf : l.stackTraces = false) : pvMet l yX9_markStale (Cond.code yX9_markStale cX9_markStale 1 none :: pvTb) mX9_markStale C_X9_markStale :=
  pvMet_of hf (y := yX9_markStale) plX9 pvTb_g coX9 foX9 pvCl (caX9_markStale hf) pvExOk_0 (fun ix h => by rcases h with h | h <;> cases (show (none : Option Nat) = some _ from h)) ⟨rfl, rfl⟩ chX9_markStale (pvOkM_ex okX9_markStale frX9_markStale)
theorem pnX9_beginChange : pvPn yX9_beginChange = some 0 := by decide +kernel
theorem caX9_beginChange {l : Launch} (hf : l.stackTraces = false) (lm : Nat → Prop) (sc : Nat × (Nat → Int)) : pvCaOk l mX9_beginChange "EventClockWorkbench" pvTb lm sc aX9_beginChange := by
  refine pvCaOk_i fun ix n b ci co C h => ?_
  unfold aX9_beginChange at h
  split at h
  · cases h; exact pvCe_V (k := 0) (T := TX9) (N := 11) (metX9_markStale hf) rfl wd_1_1 rfl wd_4_150 wd_4_152 ps_2_0 pnX9_markStale rfl wd_4_153
  · cases h; exact pvCe_V (k := 2) (T := TX2) (N := 5) (metX2_remember hf) rfl wd_1_9 rfl wd_4_140 wd_4_141 wd_4_142 pnX2_remember rfl wd_4_143
  · cases h
set_option maxRecDepth 100000 in
theorem chX9_beginChange : ∀ pc, pvChain cX9_beginChange pc (bX9_beginChange pc) := by
  intro pc
  unfold bX9_beginChange
  split <;> first | exact True.intro | exact pvChain_of (by decide +kernel)
theorem frX9_beginChange : ∀ pc, (bX9_beginChange pc).all (fun q => pvFrB eX9 q.1) = true := by
  intro pc
  unfold bX9_beginChange
  split <;> rfl
theorem metX9_beginChange {l : Launch} (hf : l.stackTraces = false) : pvMet l yX9_beginChange (Cond.code yX9_beginChange cX9_beginChange 1 none :: pvTb) mX9_beginChange C_X9_beginChange :=
  pvMet_of hf (y := yX9_beginChange) plX9 pvTb_g coX9 foX9 pvCl (caX9_beginChange hf) pvExOk_0 (fun ix h => by rcases h with h | h <;> cases (show (none : Option Nat) = some _ from h)) ⟨rfl, rfl⟩ chX9_beginChange (pvOkM_ex okX9_beginChange frX9_beginChange)
theorem pnX9_addTransition : pvPn yX9_addTransition = some 4 := by decide +kernel
theorem caX9_addTransition {l : Launch} (hf : l.stackTraces = false) (lm : Nat → Prop) (sc : Nat × (Nat → Int)) : pvCaOk l mX9_addTransition "EventClockWorkbench" pvTb lm sc aX9_addTransition := by
  refine pvCaOk_i fun ix n b ci co C h => ?_
  unfold aX9_addTransition at h
  split at h
  · cases h; exact pvCe_S (metX9_requireArgument hf) rfl wd_1_1 rfl wd_2_5 wd_2_6 pnX9_requireArgument wd_2_7
  · cases h; exact pvCe_S (metX9_requireState hf) rfl wd_1_1 rfl wd_2_72 wd_2_73 pnX9_requireState wd_2_74
  · cases h; exact pvCe_S (metX9_requireIndex hf) rfl wd_1_1 rfl wd_2_110 wd_2_111 pnX9_requireIndex wd_2_112
  · cases h; exact pvCe_V (k := 0) (T := TX1) (N := 5) (metX1_read hf) rfl wd_1_4 rfl wd_4_111 wd_4_112 wd_4_113 pnX1_read rfl wd_4_114
  · cases h; exact pvCe_V (k := 1) (T := TX9) (N := 11) (metX9_automaton hf) rfl wd_1_1 rfl wd_2_142 wd_2_144 ps_1_1 pnX9_automaton rfl wd_2_145
  · cases h; exact pvCe_V (k := 0) (T := TX0) (N := 1) (metX0_size hf) rfl wd_1_2 rfl wd_4_135 wd_2_164 wd_2_165 pnX0_size rfl wd_2_166
  · cases h; exact pvCe_V (k := 0) (T := TX9) (N := 11) (metX9_beginChange hf) rfl wd_1_1 rfl wd_4_136 wd_4_138 ps_1_15 pnX9_beginChange rfl wd_4_139
  · cases h; exact pvCe_V (k := 4) (T := TX0) (N := 1) (metX0_add hf) rfl wd_1_2 rfl wd_4_154 wd_4_155 wd_4_156 pnX0_add rfl wd_4_157
  · cases h
set_option maxRecDepth 100000 in
theorem chX9_addTransition : ∀ pc, pvChain cX9_addTransition pc (bX9_addTransition pc) := by
  intro pc
  unfold bX9_addTransition
  split <;> first | exact True.intro | exact pvChain_of (by decide +kernel)
theorem frX9_addTransition : ∀ pc, (bX9_addTransition pc).all (fun q => pvFrB eX9 q.1) = true := by
  intro pc
  unfold bX9_addTransition
  split <;> rfl
theorem metX9_addTransition {l : Launch} (hf : l.stackTraces = false) : pvMet l yX9_addTransition (Cond.code yX9_addTransition cX9_addTransition 6 (some .int) :: pvTb) mX9_addTransition C_X9_addTransition :=
  pvMet_of hf (y := yX9_addTransition) plX9 pvTb_g coX9 foX9 pvCl (caX9_addTransition hf) pvExOk_0 (fun ix h => by rcases h with h | h <;> cases (show (none : Option Nat) = some _ from h)) ⟨rfl, rfl⟩ chX9_addTransition (pvOkM_ex okX9_addTransition frX9_addTransition)
theorem pnX9_withState : pvPn yX9_withState = some 3 := by decide +kernel
theorem caX9_withState {l : Launch} (hf : l.stackTraces = false) (lm : Nat → Prop) (sc : Nat × (Nat → Int)) : pvCaOk l mX9_withState "EventClockWorkbench" pvTb lm sc aX9_withState := by
  exact fun ix n b ci co C h => nomatch (show (none : Option (Nat × Bool × Nat × Nat × pvC)) = some (n, b, ci, co, C) from h)
set_option maxRecDepth 100000 in
theorem chX9_withState : ∀ pc, pvChain cX9_withState pc (bX9_withState pc) := by
  intro pc
  unfold bX9_withState
  split <;> first | exact True.intro | exact pvChain_of (by decide +kernel)
theorem frX9_withState : ∀ pc, (bX9_withState pc).all (fun q => pvFrB eX9 q.1) = true := by
  intro pc
  unfold bX9_withState
  split <;> rfl
theorem metX9_withState {l : Launch} (hf : l.stackTraces = false) : pvMet l yX9_withState (Cond.code yX9_withState cX9_withState 3 (some .int) :: pvTb) mX9_withState C_X9_withState :=
  pvMet_of hf (y := yX9_withState) plX9 pvTb_g coX9 foX9 pvCl (caX9_withState hf) pvExOk_0 (fun ix h => by rcases h with h | h <;> cases (show (none : Option Nat) = some _ from h)) ⟨rfl, rfl⟩ chX9_withState (pvOkM_ex okX9_withState frX9_withState)
theorem pnX9_setInitial : pvPn yX9_setInitial = some 3 := by decide +kernel
theorem caX9_setInitial {l : Launch} (hf : l.stackTraces = false) (lm : Nat → Prop) (sc : Nat × (Nat → Int)) : pvCaOk l mX9_setInitial "EventClockWorkbench" pvTb lm sc aX9_setInitial := by
  refine pvCaOk_i fun ix n b ci co C h => ?_
  unfold aX9_setInitial at h
  split at h
  · cases h; exact pvCe_S (metX9_requireIndex hf) rfl wd_1_1 rfl wd_2_110 wd_2_111 pnX9_requireIndex wd_2_112
  · cases h; exact pvCe_V (k := 1) (T := TX9) (N := 11) (metX9_automaton hf) rfl wd_1_1 rfl wd_2_142 wd_2_144 ps_1_1 pnX9_automaton rfl wd_2_145
  · cases h; exact pvCe_V (k := 0) (T := TX9) (N := 11) (metX9_beginChange hf) rfl wd_1_1 rfl wd_4_136 wd_4_138 ps_1_15 pnX9_beginChange rfl wd_4_139
  · cases h; exact pvCe_V (k := 0) (T := TX0) (N := 1) (metX0_initialStates hf) rfl wd_1_2 rfl wd_4_202 wd_2_151 wd_2_152 pnX0_initialStates rfl wd_2_153
  · cases h; exact pvCe_S (metX9_withState hf) rfl wd_1_1 rfl wd_4_203 wd_4_204 pnX9_withState wd_4_205
  · cases h; exact pvCe_V (k := 1) (T := TX0) (N := 1) (metX0_putInitialStates hf) rfl wd_1_2 rfl wd_4_206 wd_4_207 wd_4_208 pnX0_putInitialStates rfl wd_4_209
  · cases h; exact pvCe_S (metX9_hasState hf) rfl wd_1_1 rfl wd_4_210 wd_2_173 pnX9_hasState wd_2_174
  · cases h
set_option maxRecDepth 100000 in
theorem chX9_setInitial : ∀ pc, pvChain cX9_setInitial pc (bX9_setInitial pc) := by
  intro pc
  unfold bX9_setInitial
  split <;> first | exact True.intro | exact pvChain_of (by decide +kernel)
theorem frX9_setInitial : ∀ pc, (bX9_setInitial pc).all (fun q => pvFrB eX9 q.1) = true := by
  intro pc
  unfold bX9_setInitial
  split <;> rfl
theorem metX9_setInitial {l : Launch} (hf : l.stackTraces = false) : pvMet l yX9_setInitial (Cond.code yX9_setInitial cX9_setInitial 6 (some .boolean) :: pvTb) mX9_setInitial C_X9_setInitial :=
  pvMet_of hf (y := yX9_setInitial) plX9 pvTb_g coX9 foX9 pvCl (caX9_setInitial hf) pvExOk_0 (fun ix h => by rcases h with h | h <;> cases (show (none : Option Nat) = some _ from h)) ⟨rfl, rfl⟩ chX9_setInitial (pvOkM_ex okX9_setInitial frX9_setInitial)
theorem pnX9_setFinal : pvPn yX9_setFinal = some 3 := by decide +kernel
theorem caX9_setFinal {l : Launch} (hf : l.stackTraces = false) (lm : Nat → Prop) (sc : Nat × (Nat → Int)) : pvCaOk l mX9_setFinal "EventClockWorkbench" pvTb lm sc aX9_setFinal := by
  refine pvCaOk_i fun ix n b ci co C h => ?_
  unfold aX9_setFinal at h
  split at h
  · cases h; exact pvCe_S (metX9_requireIndex hf) rfl wd_1_1 rfl wd_2_110 wd_2_111 pnX9_requireIndex wd_2_112
  · cases h; exact pvCe_V (k := 1) (T := TX9) (N := 11) (metX9_automaton hf) rfl wd_1_1 rfl wd_2_142 wd_2_144 ps_1_1 pnX9_automaton rfl wd_2_145
  · cases h; exact pvCe_V (k := 0) (T := TX9) (N := 11) (metX9_beginChange hf) rfl wd_1_1 rfl wd_4_136 wd_4_138 ps_1_15 pnX9_beginChange rfl wd_4_139
  · cases h; exact pvCe_S (metX9_withState hf) rfl wd_1_1 rfl wd_4_203 wd_4_204 pnX9_withState wd_4_205
  · cases h; exact pvCe_S (metX9_hasState hf) rfl wd_1_1 rfl wd_4_210 wd_2_173 pnX9_hasState wd_2_174
  · cases h; exact pvCe_V (k := 0) (T := TX0) (N := 1) (metX0_finalStates hf) rfl wd_1_2 rfl wd_2_194 wd_2_195 wd_2_196 pnX0_finalStates rfl wd_2_197
  · cases h; exact pvCe_V (k := 1) (T := TX0) (N := 1) (metX0_putFinalStates hf) rfl wd_1_2 rfl wd_4_215 wd_4_216 wd_4_217 pnX0_putFinalStates rfl wd_4_218
  · cases h
set_option maxRecDepth 100000 in
theorem chX9_setFinal : ∀ pc, pvChain cX9_setFinal pc (bX9_setFinal pc) := by
  intro pc
  unfold bX9_setFinal
  split <;> first | exact True.intro | exact pvChain_of (by decide +kernel)
theorem frX9_setFinal : ∀ pc, (bX9_setFinal pc).all (fun q => pvFrB eX9 q.1) = true := by
  intro pc
  unfold bX9_setFinal
  split <;> rfl
theorem metX9_setFinal {l : Launch} (hf : l.stackTraces = false) : pvMet l yX9_setFinal (Cond.code yX9_setFinal cX9_setFinal 6 (some .boolean) :: pvTb) mX9_setFinal C_X9_setFinal :=
  pvMet_of hf (y := yX9_setFinal) plX9 pvTb_g coX9 foX9 pvCl (caX9_setFinal hf) pvExOk_0 (fun ix h => by rcases h with h | h <;> cases (show (none : Option Nat) = some _ from h)) ⟨rfl, rfl⟩ chX9_setFinal (pvOkM_ex okX9_setFinal frX9_setFinal)
theorem pnX9_appendEvent : pvPn yX9_appendEvent = some 2 := by decide +kernel
theorem caX9_appendEvent {l : Launch} (hf : l.stackTraces = false) (lm : Nat → Prop) (sc : Nat × (Nat → Int)) : pvCaOk l mX9_appendEvent "EventClockWorkbench" pvTb lm sc aX9_appendEvent := by
  refine pvCaOk_i fun ix n b ci co C h => ?_
  unfold aX9_appendEvent at h
  split at h
  · cases h; exact pvCe_S (metX9_isBetween hf) rfl wd_1_1 rfl wd_2_2 wd_2_3 pnX9_isBetween wd_2_4
  · cases h; exact pvCe_S (metX9_requireArgument hf) rfl wd_1_1 rfl wd_2_5 wd_2_6 pnX9_requireArgument wd_2_7
  · cases h; exact pvCe_S (metX9_requireState hf) rfl wd_1_1 rfl wd_2_72 wd_2_73 pnX9_requireState wd_2_74
  · cases h; exact pvCe_V (k := 2) (T := TX6) (N := 5) (metX6_append hf) rfl wd_1_5 rfl wd_2_90 wd_2_91 wd_2_92 pnX6_append rfl wd_2_93
  · cases h
set_option maxRecDepth 100000 in
theorem chX9_appendEvent : ∀ pc, pvChain cX9_appendEvent pc (bX9_appendEvent pc) := by
  intro pc
  unfold bX9_appendEvent
  split <;> first | exact True.intro | exact pvChain_of (by decide +kernel)
theorem frX9_appendEvent : ∀ pc, (bX9_appendEvent pc).all (fun q => pvFrB eX9 q.1) = true := by
  intro pc
  unfold bX9_appendEvent
  split <;> rfl
theorem metX9_appendEvent {l : Launch} (hf : l.stackTraces = false) : pvMet l yX9_appendEvent (Cond.code yX9_appendEvent cX9_appendEvent 3 (some .int) :: pvTb) mX9_appendEvent C_X9_appendEvent :=
  pvMet_of hf (y := yX9_appendEvent) plX9 pvTb_g coX9 foX9 pvCl (caX9_appendEvent hf) pvExOk_0 (fun ix h => by rcases h with h | h <;> cases (show (none : Option Nat) = some _ from h)) ⟨rfl, rfl⟩ chX9_appendEvent (pvOkM_ex okX9_appendEvent frX9_appendEvent)
