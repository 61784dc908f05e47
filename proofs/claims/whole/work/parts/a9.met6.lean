/-! contracts over the machine, 6 -/
theorem pnX10_isGoal : pvPn yX10_isGoal = some 2 := by decide +kernel
theorem caX10_isGoal {l : Launch} (hf : l.stackTraces = false) : pvCaOk l mX10_isGoal "EventClockWorkbenchModel" pvTb 58 aX10_isGoal := by
  exact fun ix n b ci co C h => nomatch (show (none : Option (Nat × Bool × Nat × Nat × pvC)) = some (n, b, ci, co, C) from h)
set_option maxRecDepth 100000 in
theorem chX10_isGoal : ∀ pc, pvChain cX10_isGoal pc (bX10_isGoal pc) := by
  intro pc
  unfold bX10_isGoal
  split <;> first | exact True.intro | exact pvChain_of (by decide +kernel)
theorem frX10_isGoal : ∀ pc, (bX10_isGoal pc).all (fun q => pvFrB eX10 q.1) = true := by
  intro pc
  unfold bX10_isGoal
  split <;> rfl
theorem metX10_isGoal {l : Launch} (hf : l.stackTraces = false) : pvMet l yX10_isGoal (Cond.code yX10_isGoal cX10_isGoal 4 (some .boolean) :: pvTb) mX10_isGoal C_X10_isGoal :=
  pvMet_of hf (y := yX10_isGoal) plX10 pvTb_g coX10 foX10 pvCl (caX10_isGoal hf) pvExOk_0 (fun ix h => by rcases h with h | h <;> cases (show (none : Option Nat) = some _ from h)) ⟨rfl, rfl⟩ chX10_isGoal (pvOkM_ex okX10_isGoal frX10_isGoal)
theorem pnX10_follows : pvPn yX10_follows = some 5 := by decide +kernel
theorem caX10_follows {l : Launch} (hf : l.stackTraces = false) : pvCaOk l mX10_follows "EventClockWorkbenchModel" pvTb 58 aX10_follows := by
  refine pvCaOk_i fun ix n b ci co C h => ?_
  unfold aX10_follows at h
  split at h
  · cases h; exact pvCe_S (metX10_passes hf) rfl wd_1_10 rfl wd_6_152 wd_6_153 pnX10_passes wd_6_154
  · cases h; exact pvCe_S (metX10_resets hf) rfl wd_1_10 rfl wd_6_158 wd_6_159 pnX10_resets wd_6_160
  · cases h; exact pvCe_V (k := 4) (T := TX10) (N := 31) (metX10_steps hf) rfl wd_1_10 rfl wd_6_231 wd_6_233 ps_4_10 pnX10_steps rfl wd_6_234
  · cases h
set_option maxRecDepth 100000 in
theorem chX10_follows : ∀ pc, pvChain cX10_follows pc (bX10_follows pc) := by
  intro pc
  unfold bX10_follows
  split <;> first | exact True.intro | exact pvChain_of (by decide +kernel)
theorem frX10_follows : ∀ pc, (bX10_follows pc).all (fun q => pvFrB eX10 q.1) = true := by
  intro pc
  unfold bX10_follows
  split <;> rfl
theorem metX10_follows {l : Launch} (hf : l.stackTraces = false) : pvMet l yX10_follows (Cond.code yX10_follows cX10_follows 9 (some .int) :: pvTb) mX10_follows C_X10_follows :=
  pvMet_of hf (y := yX10_follows) plX10 pvTb_g coX10 foX10 pvCl (caX10_follows hf) pvExOk_0 (fun ix h => by rcases h with h | h <;> cases (show (none : Option Nat) = some _ from h)) ⟨rfl, rfl⟩ chX10_follows (pvOkM_ex okX10_follows frX10_follows)
theorem pnX10_comes : pvPn yX10_comes = some 3 := by decide +kernel
theorem caX10_comes {l : Launch} (hf : l.stackTraces = false) : pvCaOk l mX10_comes "EventClockWorkbenchModel" pvTb 58 aX10_comes := by
  refine pvCaOk_i fun ix n b ci co C h => ?_
  unfold aX10_comes at h
  split at h
  · cases h; exact pvCe_V (k := 2) (T := TX10) (N := 31) (metX10_isGoal hf) rfl wd_1_10 rfl wd_7_43 wd_7_45 ps_5_0 pnX10_isGoal rfl wd_7_46
  · cases h
set_option maxRecDepth 100000 in
theorem chX10_comes : ∀ pc, pvChain cX10_comes pc (bX10_comes pc) := by
  intro pc
  unfold bX10_comes
  split <;> first | exact True.intro | exact pvChain_of (by decide +kernel)
theorem frX10_comes : ∀ pc, (bX10_comes pc).all (fun q => pvFrB eX10 q.1) = true := by
  intro pc
  unfold bX10_comes
  split <;> rfl
theorem metX10_comes {l : Launch} (hf : l.stackTraces = false) : pvMet l yX10_comes (Cond.code yX10_comes cX10_comes 4 none :: pvTb) mX10_comes C_X10_comes :=
  pvMet_of hf (y := yX10_comes) plX10 pvTb_g coX10 foX10 pvCl (caX10_comes hf) pvExOk_0 (fun ix h => by rcases h with h | h <;> cases (show (none : Option Nat) = some _ from h)) ⟨rfl, rfl⟩ chX10_comes (pvOkM_ex okX10_comes frX10_comes)
theorem pnX10_searches : pvPn yX10_searches = some 2 := by decide +kernel
theorem caX10_searches {l : Launch} (hf : l.stackTraces = false) : pvCaOk l mX10_searches "EventClockWorkbenchModel" pvTb 58 aX10_searches := by
  refine pvCaOk_i fun ix n b ci co C h => ?_
  unfold aX10_searches at h
  split at h
  · cases h; exact pvCe_V (k := 0) (T := TX10) (N := 31) (metX10_laysLeads hf) rfl wd_1_10 rfl wd_6_223 wd_6_225 ps_4_8 pnX10_laysLeads rfl wd_6_226
  · cases h; exact pvCe_V (k := 3) (T := TX10) (N := 31) (metX10_comes hf) rfl wd_1_10 rfl wd_7_39 wd_7_41 ps_4_15 pnX10_comes rfl wd_7_42
  · cases h; exact pvCe_V (k := 1) (T := TX10) (N := 31) (metX10_valueOf hf) rfl wd_1_10 rfl wd_7_47 wd_7_49 ps_5_1 pnX10_valueOf rfl wd_7_50
  · cases h; exact pvCe_V (k := 5) (T := TX10) (N := 31) (metX10_follows hf) rfl wd_1_10 rfl wd_7_51 wd_7_53 ps_5_2 pnX10_follows rfl wd_7_54
  · cases h
set_option maxRecDepth 100000 in
theorem chX10_searches : ∀ pc, pvChain cX10_searches pc (bX10_searches pc) := by
  intro pc
  unfold bX10_searches
  split <;> first | exact True.intro | exact pvChain_of (by decide +kernel)
theorem frX10_searches : ∀ pc, (bX10_searches pc).all (fun q => pvFrB eX10 q.1) = true := by
  intro pc
  unfold bX10_searches
  split <;> rfl
theorem metX10_searches {l : Launch} (hf : l.stackTraces = false) : pvMet l yX10_searches (Cond.code yX10_searches cX10_searches 7 none :: pvTb) mX10_searches C_X10_searches :=
  pvMet_of hf (y := yX10_searches) plX10 pvTb_g coX10 foX10 pvCl (caX10_searches hf) pvExOk_0 (fun ix h => by rcases h with h | h <;> cases (show (none : Option Nat) = some _ from h)) ⟨rfl, rfl⟩ chX10_searches (pvOkM_ex okX10_searches frX10_searches)
theorem pnX10_costs : pvPn yX10_costs = some 1 := by decide +kernel
theorem caX10_costs {l : Launch} (hf : l.stackTraces = false) : pvCaOk l mX10_costs "EventClockWorkbenchModel" pvTb 58 aX10_costs := by
  refine pvCaOk_i fun ix n b ci co C h => ?_
  unfold aX10_costs at h
  split at h
  · cases h; exact pvCe_V (k := 2) (T := TX10) (N := 31) (metX10_isGoal hf) rfl wd_1_10 rfl wd_7_43 wd_7_45 ps_5_0 pnX10_isGoal rfl wd_7_46
  · cases h; exact pvCe_V (k := 1) (T := TX10) (N := 31) (metX10_valueOf hf) rfl wd_1_10 rfl wd_7_47 wd_7_49 ps_5_1 pnX10_valueOf rfl wd_7_50
  · cases h; exact pvCe_V (k := 5) (T := TX10) (N := 31) (metX10_follows hf) rfl wd_1_10 rfl wd_7_51 wd_7_53 ps_5_2 pnX10_follows rfl wd_7_54
  · cases h
set_option maxRecDepth 100000 in
theorem chX10_costs : ∀ pc, pvChain cX10_costs pc (bX10_costs pc) := by
  intro pc
  unfold bX10_costs
  split <;> first | exact True.intro | exact pvChain_of (by decide +kernel)
theorem frX10_costs : ∀ pc, (bX10_costs pc).all (fun q => pvFrB eX10 q.1) = true := by
  intro pc
  unfold bX10_costs
  split <;> rfl
theorem metX10_costs {l : Launch} (hf : l.stackTraces = false) : pvMet l yX10_costs (Cond.code yX10_costs cX10_costs 7 none :: pvTb) mX10_costs C_X10_costs :=
  pvMet_of hf (y := yX10_costs) plX10 pvTb_g coX10 foX10 pvCl (caX10_costs hf) pvExOk_0 (fun ix h => by rcases h with h | h <;> cases (show (none : Option Nat) = some _ from h)) ⟨rfl, rfl⟩ chX10_costs (pvOkM_ex okX10_costs frX10_costs)
theorem pnX10_takes : pvPn yX10_takes = some 1 := by decide +kernel
theorem caX10_takes {l : Launch} (hf : l.stackTraces = false) : pvCaOk l mX10_takes "EventClockWorkbenchModel" pvTb 58 aX10_takes := by
  refine pvCaOk_i fun ix n b ci co C h => ?_
  unfold aX10_takes at h
  split at h
  · cases h; exact pvCe_V (k := 1) (T := TX10) (N := 31) (metX10_valueOf hf) rfl wd_1_10 rfl wd_7_47 wd_7_49 ps_5_1 pnX10_valueOf rfl wd_7_50
  · cases h; exact pvCe_V (k := 5) (T := TX10) (N := 31) (metX10_follows hf) rfl wd_1_10 rfl wd_7_51 wd_7_53 ps_5_2 pnX10_follows rfl wd_7_54
  · cases h; exact pvCe_V (k := 1) (T := TX10) (N := 31) (metX10_costs hf) rfl wd_1_10 rfl wd_7_67 wd_7_69 ps_5_5 pnX10_costs rfl wd_7_70
  · cases h
set_option maxRecDepth 100000 in
theorem chX10_takes : ∀ pc, pvChain cX10_takes pc (bX10_takes pc) := by
  intro pc
  unfold bX10_takes
  split <;> first | exact True.intro | exact pvChain_of (by decide +kernel)
theorem frX10_takes : ∀ pc, (bX10_takes pc).all (fun q => pvFrB eX10 q.1) = true := by
  intro pc
  unfold bX10_takes
  split <;> rfl
theorem metX10_takes {l : Launch} (hf : l.stackTraces = false) : pvMet l yX10_takes (Cond.code yX10_takes cX10_takes 7 (some .int) :: pvTb) mX10_takes C_X10_takes :=
  pvMet_of hf (y := yX10_takes) plX10 pvTb_g coX10 foX10 pvCl (caX10_takes hf) pvExOk_0 (fun ix h => by rcases h with h | h <;> cases (show (none : Option Nat) = some _ from h)) ⟨rfl, rfl⟩ chX10_takes (pvOkM_ex okX10_takes frX10_takes)
theorem pnX10_isEmpty : pvPn yX10_isEmpty = some 1 := by decide +kernel
theorem caX10_isEmpty {l : Launch} (hf : l.stackTraces = false) : pvCaOk l mX10_isEmpty "EventClockWorkbenchModel" pvTb 58 aX10_isEmpty := by
  refine pvCaOk_i fun ix n b ci co C h => ?_
  unfold aX10_isEmpty at h
  split at h
  · cases h; exact pvCe_S (metX10_isSlot hf) rfl wd_1_10 rfl wd_6_38 wd_6_39 pnX10_isSlot wd_6_40
  · cases h; exact pvCe_V (k := 2) (T := TX10) (N := 31) (metX10_searches hf) rfl wd_1_10 rfl wd_7_35 wd_7_37 ps_4_14 pnX10_searches rfl wd_7_38
  · cases h
set_option maxRecDepth 100000 in
theorem chX10_isEmpty : ∀ pc, pvChain cX10_isEmpty pc (bX10_isEmpty pc) := by
  intro pc
  unfold bX10_isEmpty
  split <;> first | exact True.intro | exact pvChain_of (by decide +kernel)
theorem frX10_isEmpty : ∀ pc, (bX10_isEmpty pc).all (fun q => pvFrB eX10 q.1) = true := by
  intro pc
  unfold bX10_isEmpty
  split <;> rfl
theorem metX10_isEmpty {l : Launch} (hf : l.stackTraces = false) : pvMet l yX10_isEmpty (Cond.code yX10_isEmpty cX10_isEmpty 2 (some .boolean) :: pvTb) mX10_isEmpty C_X10_isEmpty :=
  pvMet_of hf (y := yX10_isEmpty) plX10 pvTb_g coX10 foX10 pvCl (caX10_isEmpty hf) pvExOk_0 (fun ix h => by rcases h with h | h <;> cases (show (none : Option Nat) = some _ from h)) ⟨rfl, rfl⟩ chX10_isEmpty (pvOkM_ex okX10_isEmpty frX10_isEmpty)
theorem pnX10_takesBy : pvPn yX10_takesBy = some 2 := by decide +kernel
theorem caX10_takesBy {l : Launch} (hf : l.stackTraces = false) : pvCaOk l mX10_takesBy "EventClockWorkbenchModel" pvTb 58 aX10_takesBy := by
  refine pvCaOk_i fun ix n b ci co C h => ?_
  unfold aX10_takesBy at h
  split at h
  · cases h; exact pvCe_S (metX10_isSlot hf) rfl wd_1_10 rfl wd_6_38 wd_6_39 pnX10_isSlot wd_6_40
  · cases h; exact pvCe_V (k := 1) (T := TX10) (N := 31) (metX10_fails hf) rfl wd_1_10 rfl wd_6_7 wd_6_9 ps_3_6 pnX10_fails rfl wd_6_10
  · cases h; exact pvCe_V (k := 2) (T := TX10) (N := 31) (metX10_searches hf) rfl wd_1_10 rfl wd_7_35 wd_7_37 ps_4_14 pnX10_searches rfl wd_7_38
  · cases h; exact pvCe_V (k := 1) (T := TX10) (N := 31) (metX10_takes hf) rfl wd_1_10 rfl wd_7_63 wd_7_65 ps_5_4 pnX10_takes rfl wd_7_66
  · cases h
set_option maxRecDepth 100000 in
theorem chX10_takesBy : ∀ pc, pvChain cX10_takesBy pc (bX10_takesBy pc) := by
  intro pc
  unfold bX10_takesBy
  split <;> first | exact True.intro | exact pvChain_of (by decide +kernel)
theorem frX10_takesBy : ∀ pc, (bX10_takesBy pc).all (fun q => pvFrB eX10 q.1) = true := by
  intro pc
  unfold bX10_takesBy
  split <;> rfl
theorem metX10_takesBy {l : Launch} (hf : l.stackTraces = false) : pvMet l yX10_takesBy (Cond.code yX10_takesBy cX10_takesBy 3 (some .int) :: pvTb) mX10_takesBy C_X10_takesBy :=
  pvMet_of hf (y := yX10_takesBy) plX10 pvTb_g coX10 foX10 pvCl (caX10_takesBy hf) pvExOk_0 (fun ix h => by rcases h with h | h <;> cases (show (none : Option Nat) = some _ from h)) ⟨rfl, rfl⟩ chX10_takesBy (pvOkM_ex okX10_takesBy frX10_takesBy)
theorem pnX10_takeWitness : pvPn yX10_takeWitness = some 1 := by decide +kernel
theorem caX10_takeWitness {l : Launch} (hf : l.stackTraces = false) : pvCaOk l mX10_takeWitness "EventClockWorkbenchModel" pvTb 58 aX10_takeWitness := by
  refine pvCaOk_i fun ix n b ci co C h => ?_
  unfold aX10_takeWitness at h
  split at h
  · cases h; exact pvCe_V (k := 2) (T := TX10) (N := 31) (metX10_takesBy hf) rfl wd_1_10 rfl wd_7_59 wd_7_61 ps_5_3 pnX10_takesBy rfl wd_7_62
  · cases h
set_option maxRecDepth 100000 in
theorem chX10_takeWitness : ∀ pc, pvChain cX10_takeWitness pc (bX10_takeWitness pc) := by
  intro pc
  unfold bX10_takeWitness
  split <;> first | exact True.intro | exact pvChain_of (by decide +kernel)
theorem frX10_takeWitness : ∀ pc, (bX10_takeWitness pc).all (fun q => pvFrB eX10 q.1) = true := by
  intro pc
  unfold bX10_takeWitness
  split <;> rfl
theorem metX10_takeWitness {l : Launch} (hf : l.stackTraces = false) : pvMet l yX10_takeWitness (Cond.code yX10_takeWitness cX10_takeWitness 2 (some .int) :: pvTb) mX10_takeWitness C_X10_takeWitness :=
  pvMet_of hf (y := yX10_takeWitness) plX10 pvTb_g coX10 foX10 pvCl (caX10_takeWitness hf) pvExOk_0 (fun ix h => by rcases h with h | h <;> cases (show (none : Option Nat) = some _ from h)) ⟨rfl, rfl⟩ chX10_takeWitness (pvOkM_ex okX10_takeWitness frX10_takeWitness)
theorem pnX10_takeDifference : pvPn yX10_takeDifference = some 1 := by decide +kernel
theorem caX10_takeDifference {l : Launch} (hf : l.stackTraces = false) : pvCaOk l mX10_takeDifference "EventClockWorkbenchModel" pvTb 58 aX10_takeDifference := by
  refine pvCaOk_i fun ix n b ci co C h => ?_
  unfold aX10_takeDifference at h
  split at h
  · cases h; exact pvCe_V (k := 2) (T := TX10) (N := 31) (metX10_takesBy hf) rfl wd_1_10 rfl wd_7_59 wd_7_61 ps_5_3 pnX10_takesBy rfl wd_7_62
  · cases h
set_option maxRecDepth 100000 in
theorem chX10_takeDifference : ∀ pc, pvChain cX10_takeDifference pc (bX10_takeDifference pc) := by
  intro pc
  unfold bX10_takeDifference
  split <;> first | exact True.intro | exact pvChain_of (by decide +kernel)
theorem frX10_takeDifference : ∀ pc, (bX10_takeDifference pc).all (fun q => pvFrB eX10 q.1) = true := by
  intro pc
  unfold bX10_takeDifference
  split <;> rfl
theorem metX10_takeDifference {l : Launch} (hf : l.stackTraces = false) : pvMet l yX10_takeDifference (Cond.code yX10_takeDifference cX10_takeDifference 2 (some .int) :: pvTb) mX10_takeDifference C_X10_takeDifference :=
  pvMet_of hf (y := yX10_takeDifference) plX10 pvTb_g coX10 foX10 pvCl (caX10_takeDifference hf) pvExOk_0 (fun ix h => by rcases h with h | h <;> cases (show (none : Option Nat) = some _ from h)) ⟨rfl, rfl⟩ chX10_takeDifference (pvOkM_ex okX10_takeDifference frX10_takeDifference)
theorem pnX10_isIncluded : pvPn yX10_isIncluded = some 1 := by decide +kernel
theorem caX10_isIncluded {l : Launch} (hf : l.stackTraces = false) : pvCaOk l mX10_isIncluded "EventClockWorkbenchModel" pvTb 58 aX10_isIncluded := by
  refine pvCaOk_i fun ix n b ci co C h => ?_
  unfold aX10_isIncluded at h
  split at h
  · cases h; exact pvCe_S (metX10_isSlot hf) rfl wd_1_10 rfl wd_6_38 wd_6_39 pnX10_isSlot wd_6_40
  · cases h; exact pvCe_V (k := 2) (T := TX10) (N := 31) (metX10_searches hf) rfl wd_1_10 rfl wd_7_35 wd_7_37 ps_4_14 pnX10_searches rfl wd_7_38
  · cases h
set_option maxRecDepth 100000 in
theorem chX10_isIncluded : ∀ pc, pvChain cX10_isIncluded pc (bX10_isIncluded pc) := by
  intro pc
  unfold bX10_isIncluded
  split <;> first | exact True.intro | exact pvChain_of (by decide +kernel)
theorem frX10_isIncluded : ∀ pc, (bX10_isIncluded pc).all (fun q => pvFrB eX10 q.1) = true := by
  intro pc
  unfold bX10_isIncluded
  split <;> rfl
theorem metX10_isIncluded {l : Launch} (hf : l.stackTraces = false) : pvMet l yX10_isIncluded (Cond.code yX10_isIncluded cX10_isIncluded 2 (some .boolean) :: pvTb) mX10_isIncluded C_X10_isIncluded :=
  pvMet_of hf (y := yX10_isIncluded) plX10 pvTb_g coX10 foX10 pvCl (caX10_isIncluded hf) pvExOk_0 (fun ix h => by rcases h with h | h <;> cases (show (none : Option Nat) = some _ from h)) ⟨rfl, rfl⟩ chX10_isIncluded (pvOkM_ex okX10_isIncluded frX10_isIncluded)
theorem pnX10_spreads : pvPn yX10_spreads = some 3 := by decide +kernel
theorem caX10_spreads {l : Launch} (hf : l.stackTraces = false) : pvCaOk l mX10_spreads "EventClockWorkbenchModel" pvTb 58 aX10_spreads := by
  refine pvCaOk_i fun ix n b ci co C h => ?_
  unfold aX10_spreads at h
  split at h
  · cases h; exact pvCe_S (metX10_passes hf) rfl wd_1_10 rfl wd_6_152 wd_6_153 pnX10_passes wd_6_154
  · cases h; exact pvCe_S (metX10_resets hf) rfl wd_1_10 rfl wd_6_158 wd_6_159 pnX10_resets wd_6_160
  · cases h; exact pvCe_V (k := 4) (T := TX10) (N := 31) (metX10_steps hf) rfl wd_1_10 rfl wd_6_231 wd_6_233 ps_4_10 pnX10_steps rfl wd_6_234
  · cases h; exact pvCe_V (k := 1) (T := TX10) (N := 31) (metX10_valueOf hf) rfl wd_1_10 rfl wd_7_47 wd_7_49 ps_5_1 pnX10_valueOf rfl wd_7_50
  · cases h
set_option maxRecDepth 100000 in
theorem chX10_spreads : ∀ pc, pvChain cX10_spreads pc (bX10_spreads pc) := by
  intro pc
  unfold bX10_spreads
  split <;> first | exact True.intro | exact pvChain_of (by decide +kernel)
theorem frX10_spreads : ∀ pc, (bX10_spreads pc).all (fun q => pvFrB eX10 q.1) = true := by
  intro pc
  unfold bX10_spreads
  split <;> rfl
theorem metX10_spreads {l : Launch} (hf : l.stackTraces = false) : pvMet l yX10_spreads (Cond.code yX10_spreads cX10_spreads 8 none :: pvTb) mX10_spreads C_X10_spreads :=
  pvMet_of hf (y := yX10_spreads) plX10 pvTb_g coX10 foX10 pvCl (caX10_spreads hf) pvExOk_0 (fun ix h => by rcases h with h | h <;> cases (show (none : Option Nat) = some _ from h)) ⟨rfl, rfl⟩ chX10_spreads (pvOkM_ex okX10_spreads frX10_spreads)
theorem pnX10_counts : pvPn yX10_counts = some 3 := by decide +kernel
theorem caX10_counts {l : Launch} (hf : l.stackTraces = false) : pvCaOk l mX10_counts "EventClockWorkbenchModel" pvTb 58 aX10_counts := by
  refine pvCaOk_i fun ix n b ci co C h => ?_
  unfold aX10_counts at h
  split at h
  · cases h; exact pvCe_V (k := 0) (T := TX10) (N := 31) (metX10_laysLeads hf) rfl wd_1_10 rfl wd_6_223 wd_6_225 ps_4_8 pnX10_laysLeads rfl wd_6_226
  · cases h; exact pvCe_V (k := 3) (T := TX10) (N := 31) (metX10_spreads hf) rfl wd_1_10 rfl wd_7_87 wd_7_89 ps_5_7 pnX10_spreads rfl wd_7_90
  · cases h
set_option maxRecDepth 100000 in
theorem chX10_counts : ∀ pc, pvChain cX10_counts pc (bX10_counts pc) := by
  intro pc
  unfold bX10_counts
  split <;> first | exact True.intro | exact pvChain_of (by decide +kernel)
theorem frX10_counts : ∀ pc, (bX10_counts pc).all (fun q => pvFrB eX10 q.1) = true := by
  intro pc
  unfold bX10_counts
  split <;> rfl
theorem metX10_counts {l : Launch} (hf : l.stackTraces = false) : pvMet l yX10_counts (Cond.code yX10_counts cX10_counts 7 (some .long) :: pvTb) mX10_counts C_X10_counts :=
  pvMet_of hf (y := yX10_counts) plX10 pvTb_g coX10 foX10 pvCl (caX10_counts hf) pvExOk_0 (fun ix h => by rcases h with h | h <;> cases (show (none : Option Nat) = some _ from h)) ⟨rfl, rfl⟩ chX10_counts (pvOkM_ex okX10_counts frX10_counts)
theorem pnX10_acceptedWords : pvPn yX10_acceptedWords = some 3 := by decide +kernel
theorem caX10_acceptedWords {l : Launch} (hf : l.stackTraces = false) : pvCaOk l mX10_acceptedWords "EventClockWorkbenchModel" pvTb 58 aX10_acceptedWords := by
  refine pvCaOk_i fun ix n b ci co C h => ?_
  unfold aX10_acceptedWords at h
  split at h
  · cases h; exact pvCe_S (metX10_in hf) rfl wd_1_10 rfl wd_6_27 wd_6_28 pnX10_in wd_6_29
  · cases h; exact pvCe_S (metX10_isSlot hf) rfl wd_1_10 rfl wd_6_38 wd_6_39 pnX10_isSlot wd_6_40
  · cases h; exact pvCe_V (k := 3) (T := TX10) (N := 31) (metX10_counts hf) rfl wd_1_10 rfl wd_7_83 wd_7_85 ps_5_6 pnX10_counts rfl wd_7_86
  · cases h
set_option maxRecDepth 100000 in
theorem chX10_acceptedWords : ∀ pc, pvChain cX10_acceptedWords pc (bX10_acceptedWords pc) := by
  intro pc
  unfold bX10_acceptedWords
  split <;> first | exact True.intro | exact pvChain_of (by decide +kernel)
theorem frX10_acceptedWords : ∀ pc, (bX10_acceptedWords pc).all (fun q => pvFrB eX10 q.1) = true := by
  intro pc
  unfold bX10_acceptedWords
  split <;> rfl
theorem metX10_acceptedWords {l : Launch} (hf : l.stackTraces = false) : pvMet l yX10_acceptedWords (Cond.code yX10_acceptedWords cX10_acceptedWords 4 (some .long) :: pvTb) mX10_acceptedWords C_X10_acceptedWords :=
  pvMet_of hf (y := yX10_acceptedWords) plX10 pvTb_g coX10 foX10 pvCl (caX10_acceptedWords hf) pvExOk_0 (fun ix h => by rcases h with h | h <;> cases (show (none : Option Nat) = some _ from h)) ⟨rfl, rfl⟩ chX10_acceptedWords (pvOkM_ex okX10_acceptedWords frX10_acceptedWords)
theorem pnX10_acceptedShare : pvPn yX10_acceptedShare = some 2 := by decide +kernel
theorem caX10_acceptedShare {l : Launch} (hf : l.stackTraces = false) : pvCaOk l mX10_acceptedShare "EventClockWorkbenchModel" pvTb 58 aX10_acceptedShare := by
  refine pvCaOk_i fun ix n b ci co C h => ?_
  unfold aX10_acceptedShare at h
  split at h
  · cases h; exact pvCe_S (metX10_in hf) rfl wd_1_10 rfl wd_6_27 wd_6_28 pnX10_in wd_6_29
  · cases h; exact pvCe_S (metX10_isSlot hf) rfl wd_1_10 rfl wd_6_38 wd_6_39 pnX10_isSlot wd_6_40
  · cases h; exact pvCe_V (k := 3) (T := TX10) (N := 31) (metX10_counts hf) rfl wd_1_10 rfl wd_7_83 wd_7_85 ps_5_6 pnX10_counts rfl wd_7_86
  · cases h
set_option maxRecDepth 100000 in
theorem chX10_acceptedShare : ∀ pc, pvChain cX10_acceptedShare pc (bX10_acceptedShare pc) := by
  intro pc
  unfold bX10_acceptedShare
  split <;> first | exact True.intro | exact pvChain_of (by decide +kernel)
theorem frX10_acceptedShare : ∀ pc, (bX10_acceptedShare pc).all (fun q => pvFrB eX10 q.1) = true := by
  intro pc
  unfold bX10_acceptedShare
  split <;> rfl
theorem metX10_acceptedShare {l : Launch} (hf : l.stackTraces = false) : pvMet l yX10_acceptedShare (Cond.code yX10_acceptedShare cX10_acceptedShare 6 (some .double) :: pvTb) mX10_acceptedShare C_X10_acceptedShare :=
  pvMet_of hf (y := yX10_acceptedShare) plX10 pvTb_g coX10 foX10 pvCl (caX10_acceptedShare hf) pvExOk_0 (fun ix h => by rcases h with h | h <;> cases (show (none : Option Nat) = some _ from h)) ⟨rfl, rfl⟩ chX10_acceptedShare (pvOkM_ex okX10_acceptedShare frX10_acceptedShare)
theorem pnX10_averageBranches : pvPn yX10_averageBranches = some 1 := by decide +kernel
theorem caX10_averageBranches {l : Launch} (hf : l.stackTraces = false) : pvCaOk l mX10_averageBranches "EventClockWorkbenchModel" pvTb 58 aX10_averageBranches := by
  refine pvCaOk_i fun ix n b ci co C h => ?_
  unfold aX10_averageBranches at h
  split at h
  · cases h; exact pvCe_S (metX10_isSlot hf) rfl wd_1_10 rfl wd_6_38 wd_6_39 pnX10_isSlot wd_6_40
  · cases h; exact pvCe_V (k := 1) (T := TX10) (N := 31) (metX10_determines hf) rfl wd_1_10 rfl wd_6_219 wd_6_221 ps_4_7 pnX10_determines rfl wd_6_222
  · cases h; exact pvCe_V (k := 3) (T := TX10) (N := 31) (metX10_branchesOf hf) rfl wd_1_10 rfl wd_7_7 wd_7_9 ps_4_12 pnX10_branchesOf rfl wd_7_10
  · cases h
set_option maxRecDepth 100000 in
theorem chX10_averageBranches : ∀ pc, pvChain cX10_averageBranches pc (bX10_averageBranches pc) := by
  intro pc
  unfold bX10_averageBranches
  split <;> first | exact True.intro | exact pvChain_of (by decide +kernel)
theorem frX10_averageBranches : ∀ pc, (bX10_averageBranches pc).all (fun q => pvFrB eX10 q.1) = true := by
  intro pc
  unfold bX10_averageBranches
  split <;> rfl
theorem metX10_averageBranches {l : Launch} (hf : l.stackTraces = false) : pvMet l yX10_averageBranches (Cond.code yX10_averageBranches cX10_averageBranches 5 (some .float) :: pvTb) mX10_averageBranches C_X10_averageBranches :=
  pvMet_of hf (y := yX10_averageBranches) plX10 pvTb_g coX10 foX10 pvCl (caX10_averageBranches hf) pvExOk_0 (fun ix h => by rcases h with h | h <;> cases (show (none : Option Nat) = some _ from h)) ⟨rfl, rfl⟩ chX10_averageBranches (pvOkM_ex okX10_averageBranches frX10_averageBranches)
