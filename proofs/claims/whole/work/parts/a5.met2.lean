/-! contracts over the machine, 2 -/
theorem pnX1_read : pvPn yX1_read = some 0 := by decide +kernel
theorem caX1_read {l : Launch} (hf : l.stackTraces = false) : pvCaOk l mX1_read "EventClockWorkbench$GuardText" pvTb 58 aX1_read := by
  refine pvCaOk_i fun ix n b ci co C h => ?_
  unfold aX1_read at h
  split at h
  · cases h; exact pvCe_V (k := 1) (T := TX1) (N := 5) (metX1_readConstraint hf) rfl wd_1_4 rfl wd_2_164 wd_2_166 ps_1_1 pnX1_readConstraint rfl wd_2_167
  · cases h; exact pvCe_V (k := 1) (T := TX1) (N := 5) (metX1_characterAt hf) rfl wd_1_4 rfl wd_2_168 wd_2_170 ps_1_2 pnX1_characterAt rfl wd_2_171
  · cases h
set_option maxRecDepth 100000 in
theorem chX1_read : ∀ pc, pvChain cX1_read pc (bX1_read pc) := by
  intro pc
  unfold bX1_read
  split <;> first | exact True.intro | exact pvChain_of (by decide +kernel)
theorem frX1_read : ∀ pc, (bX1_read pc).all (fun q => pvFrB eX1 q.1) = true := by
  intro pc
  unfold bX1_read
  split <;> rfl
theorem metX1_read {l : Launch} (hf : l.stackTraces = false) : pvMet l yX1_read (Cond.code yX1_read cX1_read 4 none :: pvTb) mX1_read C_X1_read :=
  pvMet_of hf (y := yX1_read) plX1 pvTb_g coX1 foX1 pvCl (caX1_read hf) pvExOk_0 (fun ix h => by rcases h with h | h <;> cases (show (none : Option Nat) = some _ from h)) ⟨rfl, rfl⟩ chX1_read (pvOkM_ex okX1_read frX1_read)
theorem pnJ9_min_7cf53 : pvPn yJ9_min_7cf53 = some 2 := by decide +kernel
theorem caJ9_min_7cf53 {l : Launch} (hf : l.stackTraces = false) : pvCaOk l mJ9_min_7cf53 "java/lang/Math" pvTb 58 aJ9_min_7cf53 := by
  exact fun ix n b ci co C h => nomatch (show (none : Option (Nat × Bool × Nat × Nat × pvC)) = some (n, b, ci, co, C) from h)
set_option maxRecDepth 100000 in
theorem chJ9_min_7cf53 : ∀ pc, pvChain cJ9_min_7cf53 pc (bJ9_min_7cf53 pc) := by
  intro pc
  unfold bJ9_min_7cf53
  split <;> first | exact True.intro | exact pvChain_of (by decide +kernel)
theorem frJ9_min_7cf53 : ∀ pc, (bJ9_min_7cf53 pc).all (fun q => pvFrB eJ9 q.1) = true := by
  intro pc
  unfold bJ9_min_7cf53
  split <;> rfl
theorem metJ9_min_7cf53 {l : Launch} (hf : l.stackTraces = false) : pvMet l yJ9_min_7cf53 (Cond.code yJ9_min_7cf53 cJ9_min_7cf53 2 (some .int) :: pvTb) mJ9_min_7cf53 C_J9_min_7cf53 :=
  pvMet_ofF hf (y := yJ9_min_7cf53) (by decide +kernel) pvTb_g coJ9 foJ9 pvCl (caJ9_min_7cf53 hf) pvExOk_0 (fun ix h => by rcases h with h | h <;> cases (show (none : Option Nat) = some _ from h)) ⟨rfl, rfl⟩ chJ9_min_7cf53 (pvOkM_ex okJ9_min_7cf53 frJ9_min_7cf53)
theorem pnX2_remember : pvPn yX2_remember = some 2 := by decide +kernel
theorem caX2_remember {l : Launch} (hf : l.stackTraces = false) : pvCaOk l mX2_remember "EventClockWorkbench$History" pvTb 58 aX2_remember := by
  refine pvCaOk_i fun ix n b ci co C h => ?_
  unfold aX2_remember at h
  split at h
  · cases h; exact pvCe_V (k := 2) (T := TX0) (N := 1) (metX0_writeTo hf) rfl wd_1_2 rfl wd_2_18 wd_2_19 wd_2_20 pnX0_writeTo rfl wd_2_21
  · cases h; exact pvCe_S (metJ9_min_7cf53 hf) rfl wd_1_18 rfl wd_2_200 wd_2_201 pnJ9_min_7cf53 wd_2_202
  · cases h
set_option maxRecDepth 100000 in
theorem chX2_remember : ∀ pc, pvChain cX2_remember pc (bX2_remember pc) := by
  intro pc
  unfold bX2_remember
  split <;> first | exact True.intro | exact pvChain_of (by decide +kernel)
theorem frX2_remember : ∀ pc, (bX2_remember pc).all (fun q => pvFrB eX2 q.1) = true := by
  intro pc
  unfold bX2_remember
  split <;> rfl
theorem metX2_remember {l : Launch} (hf : l.stackTraces = false) : pvMet l yX2_remember (Cond.code yX2_remember cX2_remember 3 none :: pvTb) mX2_remember C_X2_remember :=
  pvMet_of hf (y := yX2_remember) plX2 pvTb_g coX2 foX2 pvCl (caX2_remember hf) pvExOk_0 (fun ix h => by rcases h with h | h <;> cases (show (none : Option Nat) = some _ from h)) ⟨rfl, rfl⟩ chX2_remember (pvOkM_ex okX2_remember frX2_remember)
theorem pnX2_takeBack : pvPn yX2_takeBack = some 2 := by decide +kernel
theorem caX2_takeBack {l : Launch} (hf : l.stackTraces = false) : pvCaOk l mX2_takeBack "EventClockWorkbench$History" pvTb 58 aX2_takeBack := by
  refine pvCaOk_i fun ix n b ci co C h => ?_
  unfold aX2_takeBack at h
  split at h
  · cases h; exact pvCe_V (k := 2) (T := TX0) (N := 1) (metX0_readFrom hf) rfl wd_1_2 rfl wd_5_120 wd_5_121 wd_5_122 pnX0_readFrom rfl wd_5_123
  · cases h
set_option maxRecDepth 100000 in
theorem chX2_takeBack : ∀ pc, pvChain cX2_takeBack pc (bX2_takeBack pc) := by
  intro pc
  unfold bX2_takeBack
  split <;> first | exact True.intro | exact pvChain_of (by decide +kernel)
theorem frX2_takeBack : ∀ pc, (bX2_takeBack pc).all (fun q => pvFrB eX2 q.1) = true := by
  intro pc
  unfold bX2_takeBack
  split <;> rfl
theorem metX2_takeBack {l : Launch} (hf : l.stackTraces = false) : pvMet l yX2_takeBack (Cond.code yX2_takeBack cX2_takeBack 3 (some .int) :: pvTb) mX2_takeBack C_X2_takeBack :=
  pvMet_of hf (y := yX2_takeBack) plX2 pvTb_g coX2 foX2 pvCl (caX2_takeBack hf) pvExOk_0 (fun ix h => by rcases h with h | h <;> cases (show (none : Option Nat) = some _ from h)) ⟨rfl, rfl⟩ chX2_takeBack (pvOkM_ex okX2_takeBack frX2_takeBack)
theorem pnX2_keep : pvPn yX2_keep = some 2 := by decide +kernel
theorem caX2_keep {l : Launch} (hf : l.stackTraces = false) : pvCaOk l mX2_keep "EventClockWorkbench$History" pvTb 58 aX2_keep := by
  refine pvCaOk_i fun ix n b ci co C h => ?_
  unfold aX2_keep at h
  split at h
  · cases h; exact pvCe_V (k := 2) (T := TX0) (N := 1) (metX0_writeTo hf) rfl wd_1_2 rfl wd_2_18 wd_2_19 wd_2_20 pnX0_writeTo rfl wd_2_21
  · cases h
set_option maxRecDepth 100000 in
theorem chX2_keep : ∀ pc, pvChain cX2_keep pc (bX2_keep pc) := by
  intro pc
  unfold bX2_keep
  split <;> first | exact True.intro | exact pvChain_of (by decide +kernel)
theorem frX2_keep : ∀ pc, (bX2_keep pc).all (fun q => pvFrB eX2 q.1) = true := by
  intro pc
  unfold bX2_keep
  split <;> rfl
theorem metX2_keep {l : Launch} (hf : l.stackTraces = false) : pvMet l yX2_keep (Cond.code yX2_keep cX2_keep 3 none :: pvTb) mX2_keep C_X2_keep :=
  pvMet_of hf (y := yX2_keep) plX2 pvTb_g coX2 foX2 pvCl (caX2_keep hf) pvExOk_0 (fun ix h => by rcases h with h | h <;> cases (show (none : Option Nat) = some _ from h)) ⟨rfl, rfl⟩ chX2_keep (pvOkM_ex okX2_keep frX2_keep)
theorem pnX2_bringBack : pvPn yX2_bringBack = some 2 := by decide +kernel
theorem caX2_bringBack {l : Launch} (hf : l.stackTraces = false) : pvCaOk l mX2_bringBack "EventClockWorkbench$History" pvTb 58 aX2_bringBack := by
  refine pvCaOk_i fun ix n b ci co C h => ?_
  unfold aX2_bringBack at h
  split at h
  · cases h; exact pvCe_V (k := 2) (T := TX0) (N := 1) (metX0_readFrom hf) rfl wd_1_2 rfl wd_5_120 wd_5_121 wd_5_122 pnX0_readFrom rfl wd_5_123
  · cases h
set_option maxRecDepth 100000 in
theorem chX2_bringBack : ∀ pc, pvChain cX2_bringBack pc (bX2_bringBack pc) := by
  intro pc
  unfold bX2_bringBack
  split <;> first | exact True.intro | exact pvChain_of (by decide +kernel)
theorem frX2_bringBack : ∀ pc, (bX2_bringBack pc).all (fun q => pvFrB eX2 q.1) = true := by
  intro pc
  unfold bX2_bringBack
  split <;> rfl
theorem metX2_bringBack {l : Launch} (hf : l.stackTraces = false) : pvMet l yX2_bringBack (Cond.code yX2_bringBack cX2_bringBack 3 none :: pvTb) mX2_bringBack C_X2_bringBack :=
  pvMet_of hf (y := yX2_bringBack) plX2 pvTb_g coX2 foX2 pvCl (caX2_bringBack hf) pvExOk_0 (fun ix h => by rcases h with h | h <;> cases (show (none : Option Nat) = some _ from h)) ⟨rfl, rfl⟩ chX2_bringBack (pvOkM_ex okX2_bringBack frX2_bringBack)
theorem pnX3_addMoves : pvPn yX3_addMoves = some 3 := by decide +kernel
theorem caX3_addMoves {l : Launch} (hf : l.stackTraces = false) : pvCaOk l mX3_addMoves "EventClockWorkbench$Powerset" pvTb 58 aX3_addMoves := by
  refine pvCaOk_i fun ix n b ci co C h => ?_
  unfold aX3_addMoves at h
  split at h
  · cases h; exact pvCe_S (metX7_isAllowed hf) rfl wd_1_19 rfl wd_4_103 wd_3_202 pnX7_isAllowed wd_3_203
  · cases h; exact pvCe_NS (metNX9_isIndex hf) rfl wd_1_1 rfl (List.mem_of_getElem? (i := 8) rfl) wd_2_23 pnX9_isIndex wd_2_24
  · cases h
set_option maxRecDepth 100000 in
theorem chX3_addMoves : ∀ pc, pvChain cX3_addMoves pc (bX3_addMoves pc) := by
  intro pc
  unfold bX3_addMoves
  split <;> first | exact True.intro | exact pvChain_of (by decide +kernel)
theorem frX3_addMoves : ∀ pc, (bX3_addMoves pc).all (fun q => pvFrB eX3 q.1) = true := by
  intro pc
  unfold bX3_addMoves
  split <;> rfl
theorem metX3_addMoves {l : Launch} (hf : l.stackTraces = false) : pvMet l yX3_addMoves (Cond.code yX3_addMoves cX3_addMoves 6 none :: pvTb) mX3_addMoves C_X3_addMoves :=
  pvMet_of hf (y := yX3_addMoves) plX3 pvTb_g coX3 foX3 pvCl (caX3_addMoves hf) pvExOk_0 (fun ix h => by rcases h with h | h <;> cases (show (none : Option Nat) = some _ from h)) ⟨rfl, rfl⟩ chX3_addMoves (pvOkM_ex okX3_addMoves frX3_addMoves)
theorem pnX3_findMoves : pvPn yX3_findMoves = some 1 := by decide +kernel
theorem caX3_findMoves {l : Launch} (hf : l.stackTraces = false) : pvCaOk l mX3_findMoves "EventClockWorkbench$Powerset" pvTb 58 aX3_findMoves := by
  refine pvCaOk_i fun ix n b ci co C h => ?_
  unfold aX3_findMoves at h
  split at h
  · cases h; exact pvCe_V (k := 0) (T := TX0) (N := 1) (metX0_size hf) rfl wd_1_2 rfl wd_4_97 wd_2_189 wd_2_190 pnX0_size rfl wd_2_191
  · cases h; exact pvCe_V (k := 2) (T := TX0) (N := 1) (metX0_cell hf) rfl wd_1_2 rfl wd_4_98 wd_2_230 wd_2_231 pnX0_cell rfl wd_2_232
  · cases h; exact pvCe_V (k := 3) (T := TX3) (N := 7) (metX3_addMoves hf) rfl wd_1_3 rfl wd_4_99 wd_4_101 ps_2_1 pnX3_addMoves rfl wd_4_102
  · cases h
set_option maxRecDepth 100000 in
theorem chX3_findMoves : ∀ pc, pvChain cX3_findMoves pc (bX3_findMoves pc) := by
  intro pc
  unfold bX3_findMoves
  split <;> first | exact True.intro | exact pvChain_of (by decide +kernel)
theorem frX3_findMoves : ∀ pc, (bX3_findMoves pc).all (fun q => pvFrB eX3 q.1) = true := by
  intro pc
  unfold bX3_findMoves
  split <;> rfl
theorem metX3_findMoves {l : Launch} (hf : l.stackTraces = false) : pvMet l yX3_findMoves (Cond.code yX3_findMoves cX3_findMoves 4 none :: pvTb) mX3_findMoves C_X3_findMoves :=
  pvMet_of hf (y := yX3_findMoves) plX3 pvTb_g coX3 foX3 pvCl (caX3_findMoves hf) pvExOk_0 (fun ix h => by rcases h with h | h <;> cases (show (none : Option Nat) = some _ from h)) ⟨rfl, rfl⟩ chX3_findMoves (pvOkM_ex okX3_findMoves frX3_findMoves)
theorem pnX3_addSet : pvPn yX3_addSet = some 1 := by decide +kernel
theorem caX3_addSet {l : Launch} (hf : l.stackTraces = false) : pvCaOk l mX3_addSet "EventClockWorkbench$Powerset" pvTb 58 aX3_addSet := by
  refine pvCaOk_i fun ix n b ci co C h => ?_
  unfold aX3_addSet at h
  split at h
  · cases h; exact pvCe_NS (metNX9_isIndex hf) rfl wd_1_1 rfl (List.mem_of_getElem? (i := 8) rfl) wd_2_23 pnX9_isIndex wd_2_24
  · cases h
set_option maxRecDepth 100000 in
theorem chX3_addSet : ∀ pc, pvChain cX3_addSet pc (bX3_addSet pc) := by
  intro pc
  unfold bX3_addSet
  split <;> first | exact True.intro | exact pvChain_of (by decide +kernel)
theorem frX3_addSet : ∀ pc, (bX3_addSet pc).all (fun q => pvFrB eX3 q.1) = true := by
  intro pc
  unfold bX3_addSet
  split <;> rfl
theorem metX3_addSet {l : Launch} (hf : l.stackTraces = false) : pvMet l yX3_addSet (Cond.code yX3_addSet cX3_addSet 2 none :: pvTb) mX3_addSet C_X3_addSet :=
  pvMet_of hf (y := yX3_addSet) plX3 pvTb_g coX3 foX3 pvCl (caX3_addSet hf) pvExOk_0 (fun ix h => by rcases h with h | h <;> cases (show (none : Option Nat) = some _ from h)) ⟨rfl, rfl⟩ chX3_addSet (pvOkM_ex okX3_addSet frX3_addSet)
theorem pnX3_successor : pvPn yX3_successor = some 3 := by decide +kernel
theorem caX3_successor {l : Launch} (hf : l.stackTraces = false) : pvCaOk l mX3_successor "EventClockWorkbench$Powerset" pvTb 58 aX3_successor := by
  refine pvCaOk_i fun ix n b ci co C h => ?_
  unfold aX3_successor at h
  split at h
  · cases h; exact pvCe_NS (metNX9_isIndex hf) rfl wd_1_1 rfl (List.mem_of_getElem? (i := 8) rfl) wd_2_23 pnX9_isIndex wd_2_24
  · cases h
set_option maxRecDepth 100000 in
theorem chX3_successor : ∀ pc, pvChain cX3_successor pc (bX3_successor pc) := by
  intro pc
  unfold bX3_successor
  split <;> first | exact True.intro | exact pvChain_of (by decide +kernel)
theorem frX3_successor : ∀ pc, (bX3_successor pc).all (fun q => pvFrB eX3 q.1) = true := by
  intro pc
  unfold bX3_successor
  split <;> rfl
theorem metX3_successor {l : Launch} (hf : l.stackTraces = false) : pvMet l yX3_successor (Cond.code yX3_successor cX3_successor 7 (some .int) :: pvTb) mX3_successor C_X3_successor :=
  pvMet_of hf (y := yX3_successor) plX3 pvTb_g coX3 foX3 pvCl (caX3_successor hf) pvExOk_0 (fun ix h => by rcases h with h | h <;> cases (show (none : Option Nat) = some _ from h)) ⟨rfl, rfl⟩ chX3_successor (pvOkM_ex okX3_successor frX3_successor)
theorem pnX3_findSets : pvPn yX3_findSets = some 0 := by decide +kernel
theorem caX3_findSets {l : Launch} (hf : l.stackTraces = false) : pvCaOk l mX3_findSets "EventClockWorkbench$Powerset" pvTb 58 aX3_findSets := by
  refine pvCaOk_i fun ix n b ci co C h => ?_
  unfold aX3_findSets at h
  split at h
  · cases h; exact pvCe_V (k := 1) (T := TX3) (N := 7) (metX3_addSet hf) rfl wd_1_3 rfl wd_4_109 wd_4_111 ps_2_3 pnX3_addSet rfl wd_4_112
  · cases h; exact pvCe_V (k := 3) (T := TX3) (N := 7) (metX3_successor hf) rfl wd_1_3 rfl wd_4_113 wd_4_114 wd_4_115 pnX3_successor rfl wd_4_116
  · cases h
set_option maxRecDepth 100000 in
theorem chX3_findSets : ∀ pc, pvChain cX3_findSets pc (bX3_findSets pc) := by
  intro pc
  unfold bX3_findSets
  split <;> first | exact True.intro | exact pvChain_of (by decide +kernel)
theorem frX3_findSets : ∀ pc, (bX3_findSets pc).all (fun q => pvFrB eX3 q.1) = true := by
  intro pc
  unfold bX3_findSets
  split <;> rfl
theorem metX3_findSets {l : Launch} (hf : l.stackTraces = false) : pvMet l yX3_findSets (Cond.code yX3_findSets cX3_findSets 4 none :: pvTb) mX3_findSets C_X3_findSets :=
  pvMet_of hf (y := yX3_findSets) plX3 pvTb_g coX3 foX3 pvCl (caX3_findSets hf) pvExOk_0 (fun ix h => by rcases h with h | h <;> cases (show (none : Option Nat) = some _ from h)) ⟨rfl, rfl⟩ chX3_findSets (pvOkM_ex okX3_findSets frX3_findSets)
theorem pnX3_refresh : pvPn yX3_refresh = some 1 := by decide +kernel
theorem caX3_refresh {l : Launch} (hf : l.stackTraces = false) : pvCaOk l mX3_refresh "EventClockWorkbench$Powerset" pvTb 58 aX3_refresh := by
  refine pvCaOk_i fun ix n b ci co C h => ?_
  unfold aX3_refresh at h
  split at h
  · cases h; exact pvCe_V (k := 0) (T := TX0) (N := 1) (metX0_initialStates hf) rfl wd_1_2 rfl wd_4_91 wd_3_23 wd_3_24 pnX0_initialStates rfl wd_3_25
  · cases h; exact pvCe_V (k := 0) (T := TX0) (N := 1) (metX0_finalStates hf) rfl wd_1_2 rfl wd_4_92 wd_3_44 wd_3_45 pnX0_finalStates rfl wd_3_46
  · cases h; exact pvCe_V (k := 1) (T := TX3) (N := 7) (metX3_findMoves hf) rfl wd_1_3 rfl wd_4_93 wd_4_95 ps_2_0 pnX3_findMoves rfl wd_4_96
  · cases h; exact pvCe_V (k := 0) (T := TX3) (N := 7) (metX3_findSets hf) rfl wd_1_3 rfl wd_4_105 wd_4_107 ps_2_2 pnX3_findSets rfl wd_4_108
  · cases h
set_option maxRecDepth 100000 in
theorem chX3_refresh : ∀ pc, pvChain cX3_refresh pc (bX3_refresh pc) := by
  intro pc
  unfold bX3_refresh
  split <;> first | exact True.intro | exact pvChain_of (by decide +kernel)
theorem frX3_refresh : ∀ pc, (bX3_refresh pc).all (fun q => pvFrB eX3 q.1) = true := by
  intro pc
  unfold bX3_refresh
  split <;> rfl
theorem metX3_refresh {l : Launch} (hf : l.stackTraces = false) : pvMet l yX3_refresh (Cond.code yX3_refresh cX3_refresh 2 none :: pvTb) mX3_refresh C_X3_refresh :=
  pvMet_of hf (y := yX3_refresh) plX3 pvTb_g coX3 foX3 pvCl (caX3_refresh hf) pvExOk_0 (fun ix h => by rcases h with h | h <;> cases (show (none : Option Nat) = some _ from h)) ⟨rfl, rfl⟩ chX3_refresh (pvOkM_ex okX3_refresh frX3_refresh)
theorem pnX3_setAt : pvPn yX3_setAt = some 1 := by decide +kernel
theorem caX3_setAt {l : Launch} (hf : l.stackTraces = false) : pvCaOk l mX3_setAt "EventClockWorkbench$Powerset" pvTb 58 aX3_setAt := by
  refine pvCaOk_i fun ix n b ci co C h => ?_
  unfold aX3_setAt at h
  split at h
  · cases h; exact pvCe_NS (metNX9_isIndex hf) rfl wd_1_1 rfl (List.mem_of_getElem? (i := 8) rfl) wd_2_23 pnX9_isIndex wd_2_24
  · cases h
set_option maxRecDepth 100000 in
theorem chX3_setAt : ∀ pc, pvChain cX3_setAt pc (bX3_setAt pc) := by
  intro pc
  unfold bX3_setAt
  split <;> first | exact True.intro | exact pvChain_of (by decide +kernel)
theorem frX3_setAt : ∀ pc, (bX3_setAt pc).all (fun q => pvFrB eX3 q.1) = true := by
  intro pc
  unfold bX3_setAt
  split <;> rfl
theorem metX3_setAt {l : Launch} (hf : l.stackTraces = false) : pvMet l yX3_setAt (Cond.code yX3_setAt cX3_setAt 2 (some .int) :: pvTb) mX3_setAt C_X3_setAt :=
  pvMet_of hf (y := yX3_setAt) plX3 pvTb_g coX3 foX3 pvCl (caX3_setAt hf) pvExOk_0 (fun ix h => by rcases h with h | h <;> cases (show (none : Option Nat) = some _ from h)) ⟨rfl, rfl⟩ chX3_setAt (pvOkM_ex okX3_setAt frX3_setAt)
theorem pnX3_numberOf : pvPn yX3_numberOf = some 1 := by decide +kernel
theorem caX3_numberOf {l : Launch} (hf : l.stackTraces = false) : pvCaOk l mX3_numberOf "EventClockWorkbench$Powerset" pvTb 58 aX3_numberOf := by
  refine pvCaOk_i fun ix n b ci co C h => ?_
  unfold aX3_numberOf at h
  split at h
  · cases h; exact pvCe_NS (metNX9_isIndex hf) rfl wd_1_1 rfl (List.mem_of_getElem? (i := 8) rfl) wd_2_23 pnX9_isIndex wd_2_24
  · cases h
set_option maxRecDepth 100000 in
theorem chX3_numberOf : ∀ pc, pvChain cX3_numberOf pc (bX3_numberOf pc) := by
  intro pc
  unfold bX3_numberOf
  split <;> first | exact True.intro | exact pvChain_of (by decide +kernel)
theorem frX3_numberOf : ∀ pc, (bX3_numberOf pc).all (fun q => pvFrB eX3 q.1) = true := by
  intro pc
  unfold bX3_numberOf
  split <;> rfl
theorem metX3_numberOf {l : Launch} (hf : l.stackTraces = false) : pvMet l yX3_numberOf (Cond.code yX3_numberOf cX3_numberOf 2 (some .int) :: pvTb) mX3_numberOf C_X3_numberOf :=
  pvMet_of hf (y := yX3_numberOf) plX3 pvTb_g coX3 foX3 pvCl (caX3_numberOf hf) pvExOk_0 (fun ix h => by rcases h with h | h <;> cases (show (none : Option Nat) = some _ from h)) ⟨rfl, rfl⟩ chX3_numberOf (pvOkM_ex okX3_numberOf frX3_numberOf)
theorem pnX3_countBranches : pvPn yX3_countBranches = some 2 := by decide +kernel
theorem caX3_countBranches {l : Launch} (hf : l.stackTraces = false) : pvCaOk l mX3_countBranches "EventClockWorkbench$Powerset" pvTb 58 aX3_countBranches := by
  refine pvCaOk_i fun ix n b ci co C h => ?_
  unfold aX3_countBranches at h
  split at h
  · cases h; exact pvCe_V (k := 3) (T := TX3) (N := 7) (metX3_successor hf) rfl wd_1_3 rfl wd_4_113 wd_4_114 wd_4_115 pnX3_successor rfl wd_4_116
  · cases h; exact pvCe_V (k := 1) (T := TX3) (N := 7) (metX3_setAt hf) rfl wd_1_3 rfl wd_4_143 wd_4_129 wd_4_130 pnX3_setAt rfl wd_4_131
  · cases h; exact pvCe_S (metJ6_bitCount_0f7a4 hf) rfl wd_1_20 rfl wd_4_144 wd_3_115 pnJ6_bitCount_0f7a4 wd_3_116
  · cases h
set_option maxRecDepth 100000 in
theorem chX3_countBranches : ∀ pc, pvChain cX3_countBranches pc (bX3_countBranches pc) := by
  intro pc
  unfold bX3_countBranches
  split <;> first | exact True.intro | exact pvChain_of (by decide +kernel)
theorem frX3_countBranches : ∀ pc, (bX3_countBranches pc).all (fun q => pvFrB eX3 q.1) = true := by
  intro pc
  unfold bX3_countBranches
  split <;> rfl
theorem metX3_countBranches {l : Launch} (hf : l.stackTraces = false) : pvMet l yX3_countBranches (Cond.code yX3_countBranches cX3_countBranches 6 (some .int) :: pvTb) mX3_countBranches C_X3_countBranches :=
  pvMet_of hf (y := yX3_countBranches) plX3 pvTb_g coX3 foX3 pvCl (caX3_countBranches hf) pvExOk_0 (fun ix h => by rcases h with h | h <;> cases (show (none : Option Nat) = some _ from h)) ⟨rfl, rfl⟩ chX3_countBranches (pvOkM_ex okX3_countBranches frX3_countBranches)
theorem pnX3_countAllBranches : pvPn yX3_countAllBranches = some 0 := by decide +kernel
theorem caX3_countAllBranches {l : Launch} (hf : l.stackTraces = false) : pvCaOk l mX3_countAllBranches "EventClockWorkbench$Powerset" pvTb 58 aX3_countAllBranches := by
  refine pvCaOk_i fun ix n b ci co C h => ?_
  unfold aX3_countAllBranches at h
  split at h
  · cases h; exact pvCe_V (k := 2) (T := TX3) (N := 7) (metX3_countBranches hf) rfl wd_1_3 rfl wd_5_108 wd_4_140 wd_4_141 pnX3_countBranches rfl wd_4_142
  · cases h
set_option maxRecDepth 100000 in
theorem chX3_countAllBranches : ∀ pc, pvChain cX3_countAllBranches pc (bX3_countAllBranches pc) := by
  intro pc
  unfold bX3_countAllBranches
  split <;> first | exact True.intro | exact pvChain_of (by decide +kernel)
theorem frX3_countAllBranches : ∀ pc, (bX3_countAllBranches pc).all (fun q => pvFrB eX3 q.1) = true := by
  intro pc
  unfold bX3_countAllBranches
  split <;> rfl
theorem metX3_countAllBranches {l : Launch} (hf : l.stackTraces = false) : pvMet l yX3_countAllBranches (Cond.code yX3_countAllBranches cX3_countAllBranches 4 (some .int) :: pvTb) mX3_countAllBranches C_X3_countAllBranches :=
  pvMet_of hf (y := yX3_countAllBranches) plX3 pvTb_g coX3 foX3 pvCl (caX3_countAllBranches hf) pvExOk_0 (fun ix h => by rcases h with h | h <;> cases (show (none : Option Nat) = some _ from h)) ⟨rfl, rfl⟩ chX3_countAllBranches (pvOkM_ex okX3_countAllBranches frX3_countAllBranches)
theorem pnX3_branchSet : pvPn yX3_branchSet = some 3 := by decide +kernel
theorem caX3_branchSet {l : Launch} (hf : l.stackTraces = false) : pvCaOk l mX3_branchSet "EventClockWorkbench$Powerset" pvTb 58 aX3_branchSet := by
  refine pvCaOk_i fun ix n b ci co C h => ?_
  unfold aX3_branchSet at h
  split at h
  · cases h; exact pvCe_V (k := 3) (T := TX3) (N := 7) (metX3_successor hf) rfl wd_1_3 rfl wd_4_113 wd_4_114 wd_4_115 pnX3_successor rfl wd_4_116
  · cases h; exact pvCe_V (k := 1) (T := TX3) (N := 7) (metX3_setAt hf) rfl wd_1_3 rfl wd_4_143 wd_4_129 wd_4_130 pnX3_setAt rfl wd_4_131
  · cases h
set_option maxRecDepth 100000 in
theorem chX3_branchSet : ∀ pc, pvChain cX3_branchSet pc (bX3_branchSet pc) := by
  intro pc
  unfold bX3_branchSet
  split <;> first | exact True.intro | exact pvChain_of (by decide +kernel)
theorem frX3_branchSet : ∀ pc, (bX3_branchSet pc).all (fun q => pvFrB eX3 q.1) = true := by
  intro pc
  unfold bX3_branchSet
  split <;> rfl
theorem metX3_branchSet {l : Launch} (hf : l.stackTraces = false) : pvMet l yX3_branchSet (Cond.code yX3_branchSet cX3_branchSet 9 (some .int) :: pvTb) mX3_branchSet C_X3_branchSet :=
  pvMet_of hf (y := yX3_branchSet) plX3 pvTb_g coX3 foX3 pvCl (caX3_branchSet hf) pvExOk_0 (fun ix h => by rcases h with h | h <;> cases (show (none : Option Nat) = some _ from h)) ⟨rfl, rfl⟩ chX3_branchSet (pvOkM_ex okX3_branchSet frX3_branchSet)
theorem pnX3_countValuations : pvPn yX3_countValuations = some 3 := by decide +kernel
theorem caX3_countValuations {l : Launch} (hf : l.stackTraces = false) : pvCaOk l mX3_countValuations "EventClockWorkbench$Powerset" pvTb 58 aX3_countValuations := by
  refine pvCaOk_i fun ix n b ci co C h => ?_
  unfold aX3_countValuations at h
  split at h
  · cases h; exact pvCe_V (k := 3) (T := TX3) (N := 7) (metX3_successor hf) rfl wd_1_3 rfl wd_4_113 wd_4_114 wd_4_115 pnX3_successor rfl wd_4_116
  · cases h; exact pvCe_V (k := 1) (T := TX3) (N := 7) (metX3_setAt hf) rfl wd_1_3 rfl wd_4_143 wd_4_129 wd_4_130 pnX3_setAt rfl wd_4_131
  · cases h
set_option maxRecDepth 100000 in
theorem chX3_countValuations : ∀ pc, pvChain cX3_countValuations pc (bX3_countValuations pc) := by
  intro pc
  unfold bX3_countValuations
  split <;> first | exact True.intro | exact pvChain_of (by decide +kernel)
theorem frX3_countValuations : ∀ pc, (bX3_countValuations pc).all (fun q => pvFrB eX3 q.1) = true := by
  intro pc
  unfold bX3_countValuations
  split <;> rfl
theorem metX3_countValuations {l : Launch} (hf : l.stackTraces = false) : pvMet l yX3_countValuations (Cond.code yX3_countValuations cX3_countValuations 7 (some .int) :: pvTb) mX3_countValuations C_X3_countValuations :=
  pvMet_of hf (y := yX3_countValuations) plX3 pvTb_g coX3 foX3 pvCl (caX3_countValuations hf) pvExOk_0 (fun ix h => by rcases h with h | h <;> cases (show (none : Option Nat) = some _ from h)) ⟨rfl, rfl⟩ chX3_countValuations (pvOkM_ex okX3_countValuations frX3_countValuations)
theorem pnX4_readEvent : pvPn yX4_readEvent = some 3 := by decide +kernel
theorem caX4_readEvent {l : Launch} (hf : l.stackTraces = false) : pvCaOk l mX4_readEvent "EventClockWorkbench$Runs" pvTb 58 aX4_readEvent := by
  refine pvCaOk_i fun ix n b ci co C h => ?_
  unfold aX4_readEvent at h
  split at h
  · cases h; exact pvCe_V (k := 0) (T := TX0) (N := 1) (metX0_size hf) rfl wd_1_2 rfl wd_3_230 wd_2_189 wd_2_190 pnX0_size rfl wd_2_191
  · cases h; exact pvCe_V (k := 2) (T := TX0) (N := 1) (metX0_cell hf) rfl wd_1_2 rfl wd_3_231 wd_2_230 wd_2_231 pnX0_cell rfl wd_2_232
  · cases h; exact pvCe_NV (k := 3) (T := TX0) (N := 1) (metNX0_canRead hf) rfl wd_1_2 rfl (List.mem_of_getElem? (i := 6) rfl) wd_3_194 ps_1_11 pnX0_canRead rfl wd_3_195
  · cases h; exact pvCe_NS (metNX9_isIndex hf) rfl wd_1_1 rfl (List.mem_of_getElem? (i := 7) rfl) wd_2_23 pnX9_isIndex wd_2_24
  · cases h
set_option maxRecDepth 100000 in
theorem chX4_readEvent : ∀ pc, pvChain cX4_readEvent pc (bX4_readEvent pc) := by
  intro pc
  unfold bX4_readEvent
  split <;> first | exact True.intro | exact pvChain_of (by decide +kernel)
theorem frX4_readEvent : ∀ pc, (bX4_readEvent pc).all (fun q => pvFrB eX4 q.1) = true := by
  intro pc
  unfold bX4_readEvent
  split <;> rfl
theorem metX4_readEvent {l : Launch} (hf : l.stackTraces = false) : pvMet l yX4_readEvent (Cond.code yX4_readEvent cX4_readEvent 7 none :: pvTb) mX4_readEvent C_X4_readEvent :=
  pvMet_of hf (y := yX4_readEvent) plX4 pvTb_g coX4 foX4 pvCl (caX4_readEvent hf) pvExOk_0 (fun ix h => by rcases h with h | h <;> cases (show (none : Option Nat) = some _ from h)) ⟨rfl, rfl⟩ chX4_readEvent (pvOkM_ex okX4_readEvent frX4_readEvent)
theorem pnX4_count : pvPn yX4_count = some 3 := by decide +kernel
theorem caX4_count {l : Launch} (hf : l.stackTraces = false) : pvCaOk l mX4_count "EventClockWorkbench$Runs" pvTb 58 aX4_count := by
  refine pvCaOk_i fun ix n b ci co C h => ?_
  unfold aX4_count at h
  split at h
  · cases h; exact pvCe_V (k := 0) (T := TX0) (N := 1) (metX0_initialStates hf) rfl wd_1_2 rfl wd_3_222 wd_3_23 wd_3_24 pnX0_initialStates rfl wd_3_25
  · cases h; exact pvCe_NS (metNX9_hasState hf) rfl wd_1_1 rfl (List.mem_of_getElem? (i := 5) rfl) wd_3_34 pnX9_hasState wd_3_35
  · cases h; exact pvCe_V (k := 1) (T := TX6) (N := 5) (metX6_letterAt hf) rfl wd_1_5 rfl wd_3_224 wd_3_153 wd_3_154 pnX6_letterAt rfl wd_3_155
  · cases h; exact pvCe_V (k := 1) (T := TX6) (N := 5) (metX6_valuationAt hf) rfl wd_1_5 rfl wd_3_225 wd_3_164 wd_3_165 pnX6_valuationAt rfl wd_3_166
  · cases h; exact pvCe_V (k := 3) (T := TX4) (N := 3) (metX4_readEvent hf) rfl wd_1_6 rfl wd_3_226 wd_3_228 ps_1_12 pnX4_readEvent rfl wd_3_229
  · cases h
set_option maxRecDepth 100000 in
theorem chX4_count : ∀ pc, pvChain cX4_count pc (bX4_count pc) := by
  intro pc
  unfold bX4_count
  split <;> first | exact True.intro | exact pvChain_of (by decide +kernel)
theorem frX4_count : ∀ pc, (bX4_count pc).all (fun q => pvFrB eX4 q.1) = true := by
  intro pc
  unfold bX4_count
  split <;> rfl
theorem metX4_count {l : Launch} (hf : l.stackTraces = false) : pvMet l yX4_count (Cond.code yX4_count cX4_count 7 (some .long) :: pvTb) mX4_count C_X4_count :=
  pvMet_of hf (y := yX4_count) plX4 pvTb_g coX4 foX4 pvCl (caX4_count hf) pvExOk_0 (fun ix h => by rcases h with h | h <;> cases (show (none : Option Nat) = some _ from h)) ⟨rfl, rfl⟩ chX4_count (pvOkM_ex okX4_count frX4_count)
theorem pnX4_findHopeful : pvPn yX4_findHopeful = some 2 := by decide +kernel
theorem caX4_findHopeful {l : Launch} (hf : l.stackTraces = false) : pvCaOk l mX4_findHopeful "EventClockWorkbench$Runs" pvTb 58 aX4_findHopeful := by
  refine pvCaOk_i fun ix n b ci co C h => ?_
  unfold aX4_findHopeful at h
  split at h
  · cases h; exact pvCe_V (k := 1) (T := TX6) (N := 5) (metX6_letterAt hf) rfl wd_1_5 rfl wd_3_224 wd_3_153 wd_3_154 pnX6_letterAt rfl wd_3_155
  · cases h; exact pvCe_V (k := 1) (T := TX6) (N := 5) (metX6_valuationAt hf) rfl wd_1_5 rfl wd_3_225 wd_3_164 wd_3_165 pnX6_valuationAt rfl wd_3_166
  · cases h; exact pvCe_NS (metNX9_isIndex hf) rfl wd_1_1 rfl (List.mem_of_getElem? (i := 7) rfl) wd_2_23 pnX9_isIndex wd_2_24
  · cases h; exact pvCe_V (k := 0) (T := TX0) (N := 1) (metX0_finalStates hf) rfl wd_1_2 rfl wd_4_17 wd_3_44 wd_3_45 pnX0_finalStates rfl wd_3_46
  · cases h; exact pvCe_V (k := 3) (T := TX0) (N := 1) (metX0_statesAhead hf) rfl wd_1_2 rfl wd_4_18 wd_4_19 wd_4_20 pnX0_statesAhead rfl wd_4_21
  · cases h
set_option maxRecDepth 100000 in
theorem chX4_findHopeful : ∀ pc, pvChain cX4_findHopeful pc (bX4_findHopeful pc) := by
  intro pc
  unfold bX4_findHopeful
  split <;> first | exact True.intro | exact pvChain_of (by decide +kernel)
theorem frX4_findHopeful : ∀ pc, (bX4_findHopeful pc).all (fun q => pvFrB eX4 q.1) = true := by
  intro pc
  unfold bX4_findHopeful
  split <;> rfl
theorem metX4_findHopeful {l : Launch} (hf : l.stackTraces = false) : pvMet l yX4_findHopeful (Cond.code yX4_findHopeful cX4_findHopeful 5 none :: pvTb) mX4_findHopeful C_X4_findHopeful :=
  pvMet_of hf (y := yX4_findHopeful) plX4 pvTb_g coX4 foX4 pvCl (caX4_findHopeful hf) pvExOk_0 (fun ix h => by rcases h with h | h <;> cases (show (none : Option Nat) = some _ from h)) ⟨rfl, rfl⟩ chX4_findHopeful (pvOkM_ex okX4_findHopeful frX4_findHopeful)
theorem pnX4_hopefulAt : pvPn yX4_hopefulAt = some 1 := by decide +kernel
theorem caX4_hopefulAt {l : Launch} (hf : l.stackTraces = false) : pvCaOk l mX4_hopefulAt "EventClockWorkbench$Runs" pvTb 58 aX4_hopefulAt := by
  refine pvCaOk_i fun ix n b ci co C h => ?_
  unfold aX4_hopefulAt at h
  split at h
  · cases h; exact pvCe_NS (metNX9_isIndex hf) rfl wd_1_1 rfl (List.mem_of_getElem? (i := 7) rfl) wd_2_23 pnX9_isIndex wd_2_24
  · cases h
set_option maxRecDepth 100000 in
theorem chX4_hopefulAt : ∀ pc, pvChain cX4_hopefulAt pc (bX4_hopefulAt pc) := by
  intro pc
  unfold bX4_hopefulAt
  split <;> first | exact True.intro | exact pvChain_of (by decide +kernel)
theorem frX4_hopefulAt : ∀ pc, (bX4_hopefulAt pc).all (fun q => pvFrB eX4 q.1) = true := by
  intro pc
  unfold bX4_hopefulAt
  split <;> rfl
theorem metX4_hopefulAt {l : Launch} (hf : l.stackTraces = false) : pvMet l yX4_hopefulAt (Cond.code yX4_hopefulAt cX4_hopefulAt 2 (some .int) :: pvTb) mX4_hopefulAt C_X4_hopefulAt :=
  pvMet_of hf (y := yX4_hopefulAt) plX4 pvTb_g coX4 foX4 pvCl (caX4_hopefulAt hf) pvExOk_0 (fun ix h => by rcases h with h | h <;> cases (show (none : Option Nat) = some _ from h)) ⟨rfl, rfl⟩ chX4_hopefulAt (pvOkM_ex okX4_hopefulAt frX4_hopefulAt)
theorem pnX4_first : pvPn yX4_first = some 3 := by decide +kernel
theorem caX4_first {l : Launch} (hf : l.stackTraces = false) : pvCaOk l mX4_first "EventClockWorkbench$Runs" pvTb 58 aX4_first := by
  refine pvCaOk_i fun ix n b ci co C h => ?_
  unfold aX4_first at h
  split at h
  · cases h; exact pvCe_V (k := 0) (T := TX0) (N := 1) (metX0_initialStates hf) rfl wd_1_2 rfl wd_3_222 wd_3_23 wd_3_24 pnX0_initialStates rfl wd_3_25
  · cases h; exact pvCe_V (k := 2) (T := TX0) (N := 1) (metX0_cell hf) rfl wd_1_2 rfl wd_3_231 wd_2_230 wd_2_231 pnX0_cell rfl wd_2_232
  · cases h; exact pvCe_V (k := 2) (T := TX4) (N := 3) (metX4_findHopeful hf) rfl wd_1_6 rfl wd_4_13 wd_4_15 ps_1_13 pnX4_findHopeful rfl wd_4_16
  · cases h; exact pvCe_V (k := 1) (T := TX4) (N := 3) (metX4_hopefulAt hf) rfl wd_1_6 rfl wd_4_22 wd_4_24 ps_1_14 pnX4_hopefulAt rfl wd_4_25
  · cases h; exact pvCe_S (metJ6_bitCount_0f7a4 hf) rfl wd_1_20 rfl wd_4_26 wd_3_115 pnJ6_bitCount_0f7a4 wd_3_116
  · cases h; exact pvCe_V (k := 4) (T := TX0) (N := 1) (metX0_firstMove hf) rfl wd_1_2 rfl wd_4_27 wd_4_28 wd_4_29 pnX0_firstMove rfl wd_4_30
  · cases h
set_option maxRecDepth 100000 in
theorem chX4_first : ∀ pc, pvChain cX4_first pc (bX4_first pc) := by
  intro pc
  unfold bX4_first
  split <;> first | exact True.intro | exact pvChain_of (by decide +kernel)
theorem frX4_first : ∀ pc, (bX4_first pc).all (fun q => pvFrB eX4 q.1) = true := by
  intro pc
  unfold bX4_first
  split <;> rfl
theorem metX4_first {l : Launch} (hf : l.stackTraces = false) : pvMet l yX4_first (Cond.code yX4_first cX4_first 8 (some .int) :: pvTb) mX4_first C_X4_first :=
  pvMet_of hf (y := yX4_first) plX4 pvTb_g coX4 foX4 pvCl (caX4_first hf) pvExOk_0 (fun ix h => by rcases h with h | h <;> cases (show (none : Option Nat) = some _ from h)) ⟨rfl, rfl⟩ chX4_first (pvOkM_ex okX4_first frX4_first)
theorem pnX5_placeOf : pvPn yX5_placeOf = some 2 := by decide +kernel
theorem caX5_placeOf {l : Launch} (hf : l.stackTraces = false) : pvCaOk l mX5_placeOf "EventClockWorkbench$Search" pvTb 58 aX5_placeOf := by
  exact fun ix n b ci co C h => nomatch (show (none : Option (Nat × Bool × Nat × Nat × pvC)) = some (n, b, ci, co, C) from h)
set_option maxRecDepth 100000 in
theorem chX5_placeOf : ∀ pc, pvChain cX5_placeOf pc (bX5_placeOf pc) := by
  intro pc
  unfold bX5_placeOf
  split <;> first | exact True.intro | exact pvChain_of (by decide +kernel)
theorem frX5_placeOf : ∀ pc, (bX5_placeOf pc).all (fun q => pvFrB eX5 q.1) = true := by
  intro pc
  unfold bX5_placeOf
  split <;> rfl
theorem metX5_placeOf {l : Launch} (hf : l.stackTraces = false) : pvMet l yX5_placeOf (Cond.code yX5_placeOf cX5_placeOf 5 (some .int) :: pvTb) mX5_placeOf C_X5_placeOf :=
  pvMet_of hf (y := yX5_placeOf) plX5 pvTb_g coX5 foX5 pvCl (caX5_placeOf hf) pvExOk_0 (fun ix h => by rcases h with h | h <;> cases (show (none : Option Nat) = some _ from h)) ⟨rfl, rfl⟩ chX5_placeOf (pvOkM_ex okX5_placeOf frX5_placeOf)
theorem pnX5_forget : pvPn yX5_forget = some 0 := by decide +kernel
theorem caX5_forget {l : Launch} (hf : l.stackTraces = false) : pvCaOk l mX5_forget "EventClockWorkbench$Search" pvTb 58 aX5_forget := by
  refine pvCaOk_i fun ix n b ci co C h => ?_
  unfold aX5_forget at h
  split at h
  · cases h; exact pvCe_S (metX5_placeOf hf) rfl wd_1_7 rfl wd_4_214 wd_4_215 pnX5_placeOf wd_4_216
  · cases h; exact pvCe_NS (metNX9_isIndex hf) rfl wd_1_1 rfl (List.mem_of_getElem? (i := 9) rfl) wd_2_23 pnX9_isIndex wd_2_24
  · cases h
set_option maxRecDepth 100000 in
theorem chX5_forget : ∀ pc, pvChain cX5_forget pc (bX5_forget pc) := by
  intro pc
  unfold bX5_forget
  split <;> first | exact True.intro | exact pvChain_of (by decide +kernel)
theorem frX5_forget : ∀ pc, (bX5_forget pc).all (fun q => pvFrB eX5 q.1) = true := by
  intro pc
  unfold bX5_forget
  split <;> rfl
theorem metX5_forget {l : Launch} (hf : l.stackTraces = false) : pvMet l yX5_forget (Cond.code yX5_forget cX5_forget 4 none :: pvTb) mX5_forget C_X5_forget :=
  pvMet_of hf (y := yX5_forget) plX5 pvTb_g coX5 foX5 pvCl (caX5_forget hf) pvExOk_0 (fun ix h => by rcases h with h | h <;> cases (show (none : Option Nat) = some _ from h)) ⟨rfl, rfl⟩ chX5_forget (pvOkM_ex okX5_forget frX5_forget)
theorem pnX5_enter : pvPn yX5_enter = some 3 := by decide +kernel
theorem caX5_enter {l : Launch} (hf : l.stackTraces = false) : pvCaOk l mX5_enter "EventClockWorkbench$Search" pvTb 58 aX5_enter := by
  refine pvCaOk_i fun ix n b ci co C h => ?_
  unfold aX5_enter at h
  split at h
  · cases h; exact pvCe_S (metX5_placeOf hf) rfl wd_1_7 rfl wd_4_214 wd_4_215 pnX5_placeOf wd_4_216
  · cases h; exact pvCe_NS (metNX9_isIndex hf) rfl wd_1_1 rfl (List.mem_of_getElem? (i := 9) rfl) wd_2_23 pnX9_isIndex wd_2_24
  · cases h
set_option maxRecDepth 100000 in
theorem chX5_enter : ∀ pc, pvChain cX5_enter pc (bX5_enter pc) := by
  intro pc
  unfold bX5_enter
  split <;> first | exact True.intro | exact pvChain_of (by decide +kernel)
theorem frX5_enter : ∀ pc, (bX5_enter pc).all (fun q => pvFrB eX5 q.1) = true := by
  intro pc
  unfold bX5_enter
  split <;> rfl
theorem metX5_enter {l : Launch} (hf : l.stackTraces = false) : pvMet l yX5_enter (Cond.code yX5_enter cX5_enter 6 none :: pvTb) mX5_enter C_X5_enter :=
  pvMet_of hf (y := yX5_enter) plX5 pvTb_g coX5 foX5 pvCl (caX5_enter hf) pvExOk_0 (fun ix h => by rcases h with h | h <;> cases (show (none : Option Nat) = some _ from h)) ⟨rfl, rfl⟩ chX5_enter (pvOkM_ex okX5_enter frX5_enter)
theorem pnX5_putStart : pvPn yX5_putStart = some 2 := by decide +kernel
theorem caX5_putStart {l : Launch} (hf : l.stackTraces = false) : pvCaOk l mX5_putStart "EventClockWorkbench$Search" pvTb 58 aX5_putStart := by
  refine pvCaOk_i fun ix n b ci co C h => ?_
  unfold aX5_putStart at h
  split at h
  · cases h; exact pvCe_NS (metNX9_isIndex hf) rfl wd_1_1 rfl (List.mem_of_getElem? (i := 9) rfl) wd_2_23 pnX9_isIndex wd_2_24
  · cases h
set_option maxRecDepth 100000 in
theorem chX5_putStart : ∀ pc, pvChain cX5_putStart pc (bX5_putStart pc) := by
  intro pc
  unfold bX5_putStart
  split <;> first | exact True.intro | exact pvChain_of (by decide +kernel)
theorem frX5_putStart : ∀ pc, (bX5_putStart pc).all (fun q => pvFrB eX5 q.1) = true := by
  intro pc
  unfold bX5_putStart
  split <;> rfl
theorem metX5_putStart {l : Launch} (hf : l.stackTraces = false) : pvMet l yX5_putStart (Cond.code yX5_putStart cX5_putStart 3 none :: pvTb) mX5_putStart C_X5_putStart :=
  pvMet_of hf (y := yX5_putStart) plX5 pvTb_g coX5 foX5 pvCl (caX5_putStart hf) pvExOk_0 (fun ix h => by rcases h with h | h <;> cases (show (none : Option Nat) = some _ from h)) ⟨rfl, rfl⟩ chX5_putStart (pvOkM_ex okX5_putStart frX5_putStart)
theorem pnX5_configurationAt : pvPn yX5_configurationAt = some 1 := by decide +kernel
theorem caX5_configurationAt {l : Launch} (hf : l.stackTraces = false) : pvCaOk l mX5_configurationAt "EventClockWorkbench$Search" pvTb 58 aX5_configurationAt := by
  refine pvCaOk_i fun ix n b ci co C h => ?_
  unfold aX5_configurationAt at h
  split at h
  · cases h; exact pvCe_NS (metNX9_isIndex hf) rfl wd_1_1 rfl (List.mem_of_getElem? (i := 9) rfl) wd_2_23 pnX9_isIndex wd_2_24
  · cases h
set_option maxRecDepth 100000 in
theorem chX5_configurationAt : ∀ pc, pvChain cX5_configurationAt pc (bX5_configurationAt pc) := by
  intro pc
  unfold bX5_configurationAt
  split <;> first | exact True.intro | exact pvChain_of (by decide +kernel)
theorem frX5_configurationAt : ∀ pc, (bX5_configurationAt pc).all (fun q => pvFrB eX5 q.1) = true := by
  intro pc
  unfold bX5_configurationAt
  split <;> rfl
theorem metX5_configurationAt {l : Launch} (hf : l.stackTraces = false) : pvMet l yX5_configurationAt (Cond.code yX5_configurationAt cX5_configurationAt 2 (some .int) :: pvTb) mX5_configurationAt C_X5_configurationAt :=
  pvMet_of hf (y := yX5_configurationAt) plX5 pvTb_g coX5 foX5 pvCl (caX5_configurationAt hf) pvExOk_0 (fun ix h => by rcases h with h | h <;> cases (show (none : Option Nat) = some _ from h)) ⟨rfl, rfl⟩ chX5_configurationAt (pvOkM_ex okX5_configurationAt frX5_configurationAt)
theorem pnX5_isGoal : pvPn yX5_isGoal = some 3 := by decide +kernel
theorem caX5_isGoal {l : Launch} (hf : l.stackTraces = false) : pvCaOk l mX5_isGoal "EventClockWorkbench$Search" pvTb 58 aX5_isGoal := by
  exact fun ix n b ci co C h => nomatch (show (none : Option (Nat × Bool × Nat × Nat × pvC)) = some (n, b, ci, co, C) from h)
set_option maxRecDepth 100000 in
theorem chX5_isGoal : ∀ pc, pvChain cX5_isGoal pc (bX5_isGoal pc) := by
  intro pc
  unfold bX5_isGoal
  split <;> first | exact True.intro | exact pvChain_of (by decide +kernel)
theorem frX5_isGoal : ∀ pc, (bX5_isGoal pc).all (fun q => pvFrB eX5 q.1) = true := by
  intro pc
  unfold bX5_isGoal
  split <;> rfl
theorem metX5_isGoal {l : Launch} (hf : l.stackTraces = false) : pvMet l yX5_isGoal (Cond.code yX5_isGoal cX5_isGoal 3 (some .boolean) :: pvTb) mX5_isGoal C_X5_isGoal :=
  pvMet_of hf (y := yX5_isGoal) plX5 pvTb_g coX5 foX5 pvCl (caX5_isGoal hf) pvExOk_0 (fun ix h => by rcases h with h | h <;> cases (show (none : Option Nat) = some _ from h)) ⟨rfl, rfl⟩ chX5_isGoal (pvOkM_ex okX5_isGoal frX5_isGoal)
theorem pnX5_hasGoal : pvPn yX5_hasGoal = some 4 := by decide +kernel
theorem caX5_hasGoal {l : Launch} (hf : l.stackTraces = false) : pvCaOk l mX5_hasGoal "EventClockWorkbench$Search" pvTb 58 aX5_hasGoal := by
  refine pvCaOk_i fun ix n b ci co C h => ?_
  unfold aX5_hasGoal at h
  split at h
  · cases h; exact pvCe_V (k := 1) (T := TX5) (N := 5) (metX5_configurationAt hf) rfl wd_1_7 rfl wd_4_230 wd_4_232 ps_2_11 pnX5_configurationAt rfl wd_4_233
  · cases h; exact pvCe_S (metX5_isGoal hf) rfl wd_1_7 rfl wd_4_234 wd_4_235 pnX5_isGoal wd_4_236
  · cases h
set_option maxRecDepth 100000 in
theorem chX5_hasGoal : ∀ pc, pvChain cX5_hasGoal pc (bX5_hasGoal pc) := by
  intro pc
  unfold bX5_hasGoal
  split <;> first | exact True.intro | exact pvChain_of (by decide +kernel)
theorem frX5_hasGoal : ∀ pc, (bX5_hasGoal pc).all (fun q => pvFrB eX5 q.1) = true := by
  intro pc
  unfold bX5_hasGoal
  split <;> rfl
theorem metX5_hasGoal {l : Launch} (hf : l.stackTraces = false) : pvMet l yX5_hasGoal (Cond.code yX5_hasGoal cX5_hasGoal 6 (some .boolean) :: pvTb) mX5_hasGoal C_X5_hasGoal :=
  pvMet_of hf (y := yX5_hasGoal) plX5 pvTb_g coX5 foX5 pvCl (caX5_hasGoal hf) pvExOk_0 (fun ix h => by rcases h with h | h <;> cases (show (none : Option Nat) = some _ from h)) ⟨rfl, rfl⟩ chX5_hasGoal (pvOkM_ex okX5_hasGoal frX5_hasGoal)
theorem pnX7_grown : pvPn yX7_grown = some 2 := by decide +kernel
theorem caX7_grown {l : Launch} (hf : l.stackTraces = false) : pvCaOk l mX7_grown "EventClockWorkbench$Values" pvTb 58 aX7_grown := by
  exact fun ix n b ci co C h => nomatch (show (none : Option (Nat × Bool × Nat × Nat × pvC)) = some (n, b, ci, co, C) from h)
set_option maxRecDepth 100000 in
theorem chX7_grown : ∀ pc, pvChain cX7_grown pc (bX7_grown pc) := by
  intro pc
  unfold bX7_grown
  split <;> first | exact True.intro | exact pvChain_of (by decide +kernel)
theorem frX7_grown : ∀ pc, (bX7_grown pc).all (fun q => pvFrB eX7 q.1) = true := by
  intro pc
  unfold bX7_grown
  split <;> rfl
theorem metX7_grown {l : Launch} (hf : l.stackTraces = false) : pvMet l yX7_grown (Cond.code yX7_grown cX7_grown 2 (some .int) :: pvTb) mX7_grown C_X7_grown :=
  pvMet_of hf (y := yX7_grown) plX7 pvTb_g coX7 foX7 pvCl (caX7_grown hf) pvExOk_0 (fun ix h => by rcases h with h | h <;> cases (show (none : Option Nat) = some _ from h)) ⟨rfl, rfl⟩ chX7_grown (pvOkM_ex okX7_grown frX7_grown)
theorem pnX7_later : pvPn yX7_later = some 2 := by decide +kernel
theorem caX7_later {l : Launch} (hf : l.stackTraces = false) : pvCaOk l mX7_later "EventClockWorkbench$Values" pvTb 58 aX7_later := by
  refine pvCaOk_i fun ix n b ci co C h => ?_
  unfold aX7_later at h
  split at h
  · cases h; exact pvCe_S (metX7_grown hf) rfl wd_1_19 rfl wd_3_135 wd_3_136 pnX7_grown wd_3_137
  · cases h
set_option maxRecDepth 100000 in
theorem chX7_later : ∀ pc, pvChain cX7_later pc (bX7_later pc) := by
  intro pc
  unfold bX7_later
  split <;> first | exact True.intro | exact pvChain_of (by decide +kernel)
theorem frX7_later : ∀ pc, (bX7_later pc).all (fun q => pvFrB eX7 q.1) = true := by
  intro pc
  unfold bX7_later
  split <;> rfl
theorem metX7_later {l : Launch} (hf : l.stackTraces = false) : pvMet l yX7_later (Cond.code yX7_later cX7_later 2 (some .int) :: pvTb) mX7_later C_X7_later :=
  pvMet_of hf (y := yX7_later) plX7 pvTb_g coX7 foX7 pvCl (caX7_later hf) pvExOk_0 (fun ix h => by rcases h with h | h <;> cases (show (none : Option Nat) = some _ from h)) ⟨rfl, rfl⟩ chX7_later (pvOkM_ex okX7_later frX7_later)
theorem pnX7_withZero : pvPn yX7_withZero = some 2 := by decide +kernel
theorem caX7_withZero {l : Launch} (hf : l.stackTraces = false) : pvCaOk l mX7_withZero "EventClockWorkbench$Values" pvTb 58 aX7_withZero := by
  exact fun ix n b ci co C h => nomatch (show (none : Option (Nat × Bool × Nat × Nat × pvC)) = some (n, b, ci, co, C) from h)
set_option maxRecDepth 100000 in
theorem chX7_withZero : ∀ pc, pvChain cX7_withZero pc (bX7_withZero pc) := by
  intro pc
  unfold bX7_withZero
  split <;> first | exact True.intro | exact pvChain_of (by decide +kernel)
theorem frX7_withZero : ∀ pc, (bX7_withZero pc).all (fun q => pvFrB eX7 q.1) = true := by
  intro pc
  unfold bX7_withZero
  split <;> rfl
theorem metX7_withZero {l : Launch} (hf : l.stackTraces = false) : pvMet l yX7_withZero (Cond.code yX7_withZero cX7_withZero 2 (some .int) :: pvTb) mX7_withZero C_X7_withZero :=
  pvMet_of hf (y := yX7_withZero) plX7 pvTb_g coX7 foX7 pvCl (caX7_withZero hf) pvExOk_0 (fun ix h => by rcases h with h | h <;> cases (show (none : Option Nat) = some _ from h)) ⟨rfl, rfl⟩ chX7_withZero (pvOkM_ex okX7_withZero frX7_withZero)
theorem pnX5_expand : pvPn yX5_expand = some 3 := by decide +kernel
theorem caX5_expand {l : Launch} (hf : l.stackTraces = false) : pvCaOk l mX5_expand "EventClockWorkbench$Search" pvTb 58 aX5_expand := by
  refine pvCaOk_i fun ix n b ci co C h => ?_
  unfold aX5_expand at h
  split at h
  · cases h; exact pvCe_V (k := 3) (T := TX5) (N := 5) (metX5_enter hf) rfl wd_1_7 rfl wd_4_218 wd_4_220 ps_2_8 pnX5_enter rfl wd_4_221
  · cases h; exact pvCe_S (metX7_later hf) rfl wd_1_19 rfl wd_5_1 wd_3_133 pnX7_later wd_3_134
  · cases h; exact pvCe_V (k := 3) (T := TX3) (N := 7) (metX3_successor hf) rfl wd_1_3 rfl wd_5_2 wd_4_114 wd_4_115 pnX3_successor rfl wd_4_116
  · cases h; exact pvCe_S (metX7_withZero hf) rfl wd_1_19 rfl wd_5_3 wd_3_139 pnX7_withZero wd_3_140
  · cases h
set_option maxRecDepth 100000 in
theorem chX5_expand : ∀ pc, pvChain cX5_expand pc (bX5_expand pc) := by
  intro pc
  unfold bX5_expand
  split <;> first | exact True.intro | exact pvChain_of (by decide +kernel)
theorem frX5_expand : ∀ pc, (bX5_expand pc).all (fun q => pvFrB eX5 q.1) = true := by
  intro pc
  unfold bX5_expand
  split <;> rfl
theorem metX5_expand {l : Launch} (hf : l.stackTraces = false) : pvMet l yX5_expand (Cond.code yX5_expand cX5_expand 10 none :: pvTb) mX5_expand C_X5_expand :=
  pvMet_of hf (y := yX5_expand) plX5 pvTb_g coX5 foX5 pvCl (caX5_expand hf) pvExOk_0 (fun ix h => by rcases h with h | h <;> cases (show (none : Option Nat) = some _ from h)) ⟨rfl, rfl⟩ chX5_expand (pvOkM_ex okX5_expand frX5_expand)
theorem pnX5_shortest : pvPn yX5_shortest = some 3 := by decide +kernel
theorem caX5_shortest {l : Launch} (hf : l.stackTraces = false) : pvCaOk l mX5_shortest "EventClockWorkbench$Search" pvTb 58 aX5_shortest := by
  refine pvCaOk_i fun ix n b ci co C h => ?_
  unfold aX5_shortest at h
  split at h
  · cases h; exact pvCe_V (k := 0) (T := TX5) (N := 5) (metX5_forget hf) rfl wd_1_7 rfl wd_4_210 wd_4_212 ps_2_7 pnX5_forget rfl wd_4_213
  · cases h; exact pvCe_V (k := 3) (T := TX5) (N := 5) (metX5_enter hf) rfl wd_1_7 rfl wd_4_218 wd_4_220 ps_2_8 pnX5_enter rfl wd_4_221
  · cases h; exact pvCe_V (k := 2) (T := TX5) (N := 5) (metX5_putStart hf) rfl wd_1_7 rfl wd_4_222 wd_4_224 ps_2_9 pnX5_putStart rfl wd_4_225
  · cases h; exact pvCe_V (k := 4) (T := TX5) (N := 5) (metX5_hasGoal hf) rfl wd_1_7 rfl wd_4_226 wd_4_228 ps_2_10 pnX5_hasGoal rfl wd_4_229
  · cases h; exact pvCe_V (k := 1) (T := TX5) (N := 5) (metX5_configurationAt hf) rfl wd_1_7 rfl wd_4_230 wd_4_232 ps_2_11 pnX5_configurationAt rfl wd_4_233
  · cases h; exact pvCe_V (k := 3) (T := TX5) (N := 5) (metX5_expand hf) rfl wd_1_7 rfl wd_4_237 wd_4_239 ps_2_12 pnX5_expand rfl wd_5_0
  · cases h
set_option maxRecDepth 100000 in
theorem chX5_shortest : ∀ pc, pvChain cX5_shortest pc (bX5_shortest pc) := by
  intro pc
  unfold bX5_shortest
  split <;> first | exact True.intro | exact pvChain_of (by decide +kernel)
theorem frX5_shortest : ∀ pc, (bX5_shortest pc).all (fun q => pvFrB eX5 q.1) = true := by
  intro pc
  unfold bX5_shortest
  split <;> rfl
theorem metX5_shortest {l : Launch} (hf : l.stackTraces = false) : pvMet l yX5_shortest (Cond.code yX5_shortest cX5_shortest 8 (some .int) :: pvTb) mX5_shortest C_X5_shortest :=
  pvMet_of hf (y := yX5_shortest) plX5 pvTb_g coX5 foX5 pvCl (caX5_shortest hf) pvExOk_0 (fun ix h => by rcases h with h | h <;> cases (show (none : Option Nat) = some _ from h)) ⟨rfl, rfl⟩ chX5_shortest (pvOkM_ex okX5_shortest frX5_shortest)
theorem pnX5_findsAny : pvPn yX5_findsAny = some 2 := by decide +kernel
theorem caX5_findsAny {l : Launch} (hf : l.stackTraces = false) : pvCaOk l mX5_findsAny "EventClockWorkbench$Search" pvTb 58 aX5_findsAny := by
  refine pvCaOk_i fun ix n b ci co C h => ?_
  unfold aX5_findsAny at h
  split at h
  · cases h; exact pvCe_V (k := 3) (T := TX5) (N := 5) (metX5_shortest hf) rfl wd_1_7 rfl wd_4_206 wd_4_208 ps_2_6 pnX5_shortest rfl wd_4_209
  · cases h
set_option maxRecDepth 100000 in
theorem chX5_findsAny : ∀ pc, pvChain cX5_findsAny pc (bX5_findsAny pc) := by
  intro pc
  unfold bX5_findsAny
  split <;> first | exact True.intro | exact pvChain_of (by decide +kernel)
theorem frX5_findsAny : ∀ pc, (bX5_findsAny pc).all (fun q => pvFrB eX5 q.1) = true := by
  intro pc
  unfold bX5_findsAny
  split <;> rfl
theorem metX5_findsAny {l : Launch} (hf : l.stackTraces = false) : pvMet l yX5_findsAny (Cond.code yX5_findsAny cX5_findsAny 3 (some .boolean) :: pvTb) mX5_findsAny C_X5_findsAny :=
  pvMet_of hf (y := yX5_findsAny) plX5 pvTb_g coX5 foX5 pvCl (caX5_findsAny hf) pvExOk_0 (fun ix h => by rcases h with h | h <;> cases (show (none : Option Nat) = some _ from h)) ⟨rfl, rfl⟩ chX5_findsAny (pvOkM_ex okX5_findsAny frX5_findsAny)
theorem pnX5_startOf : pvPn yX5_startOf = some 1 := by decide +kernel
theorem caX5_startOf {l : Launch} (hf : l.stackTraces = false) : pvCaOk l mX5_startOf "EventClockWorkbench$Search" pvTb 58 aX5_startOf := by
  refine pvCaOk_i fun ix n b ci co C h => ?_
  unfold aX5_startOf at h
  split at h
  · cases h; exact pvCe_NS (metNX9_isIndex hf) rfl wd_1_1 rfl (List.mem_of_getElem? (i := 9) rfl) wd_2_23 pnX9_isIndex wd_2_24
  · cases h
set_option maxRecDepth 100000 in
theorem chX5_startOf : ∀ pc, pvChain cX5_startOf pc (bX5_startOf pc) := by
  intro pc
  unfold bX5_startOf
  split <;> first | exact True.intro | exact pvChain_of (by decide +kernel)
theorem frX5_startOf : ∀ pc, (bX5_startOf pc).all (fun q => pvFrB eX5 q.1) = true := by
  intro pc
  unfold bX5_startOf
  split <;> rfl
theorem metX5_startOf {l : Launch} (hf : l.stackTraces = false) : pvMet l yX5_startOf (Cond.code yX5_startOf cX5_startOf 2 (some .int) :: pvTb) mX5_startOf C_X5_startOf :=
  pvMet_of hf (y := yX5_startOf) plX5 pvTb_g coX5 foX5 pvCl (caX5_startOf hf) pvExOk_0 (fun ix h => by rcases h with h | h <;> cases (show (none : Option Nat) = some _ from h)) ⟨rfl, rfl⟩ chX5_startOf (pvOkM_ex okX5_startOf frX5_startOf)
theorem pnX5_positionBehind : pvPn yX5_positionBehind = some 5 := by decide +kernel
theorem caX5_positionBehind {l : Launch} (hf : l.stackTraces = false) : pvCaOk l mX5_positionBehind "EventClockWorkbench$Search" pvTb 58 aX5_positionBehind := by
  refine pvCaOk_i fun ix n b ci co C h => ?_
  unfold aX5_positionBehind at h
  split at h
  · cases h; exact pvCe_S (metX5_placeOf hf) rfl wd_1_7 rfl wd_4_214 wd_4_215 pnX5_placeOf wd_4_216
  · cases h; exact pvCe_NS (metNX9_isIndex hf) rfl wd_1_1 rfl (List.mem_of_getElem? (i := 9) rfl) wd_2_23 pnX9_isIndex wd_2_24
  · cases h; exact pvCe_S (metX7_later hf) rfl wd_1_19 rfl wd_5_1 wd_3_133 pnX7_later wd_3_134
  · cases h; exact pvCe_V (k := 3) (T := TX3) (N := 7) (metX3_successor hf) rfl wd_1_3 rfl wd_5_2 wd_4_114 wd_4_115 pnX3_successor rfl wd_4_116
  · cases h; exact pvCe_S (metX7_withZero hf) rfl wd_1_19 rfl wd_5_3 wd_3_139 pnX7_withZero wd_3_140
  · cases h
set_option maxRecDepth 100000 in
theorem chX5_positionBehind : ∀ pc, pvChain cX5_positionBehind pc (bX5_positionBehind pc) := by
  intro pc
  unfold bX5_positionBehind
  split <;> first | exact True.intro | exact pvChain_of (by decide +kernel)
theorem frX5_positionBehind : ∀ pc, (bX5_positionBehind pc).all (fun q => pvFrB eX5 q.1) = true := by
  intro pc
  unfold bX5_positionBehind
  split <;> rfl
theorem metX5_positionBehind {l : Launch} (hf : l.stackTraces = false) : pvMet l yX5_positionBehind (Cond.code yX5_positionBehind cX5_positionBehind 10 (some .int) :: pvTb) mX5_positionBehind C_X5_positionBehind :=
  pvMet_of hf (y := yX5_positionBehind) plX5 pvTb_g coX5 foX5 pvCl (caX5_positionBehind hf) pvExOk_0 (fun ix h => by rcases h with h | h <;> cases (show (none : Option Nat) = some _ from h)) ⟨rfl, rfl⟩ chX5_positionBehind (pvOkM_ex okX5_positionBehind frX5_positionBehind)
theorem pnX5_costAt : pvPn yX5_costAt = some 1 := by decide +kernel
theorem caX5_costAt {l : Launch} (hf : l.stackTraces = false) : pvCaOk l mX5_costAt "EventClockWorkbench$Search" pvTb 58 aX5_costAt := by
  refine pvCaOk_i fun ix n b ci co C h => ?_
  unfold aX5_costAt at h
  split at h
  · cases h; exact pvCe_NS (metNX9_isIndex hf) rfl wd_1_1 rfl (List.mem_of_getElem? (i := 9) rfl) wd_2_23 pnX9_isIndex wd_2_24
  · cases h
set_option maxRecDepth 100000 in
theorem chX5_costAt : ∀ pc, pvChain cX5_costAt pc (bX5_costAt pc) := by
  intro pc
  unfold bX5_costAt
  split <;> first | exact True.intro | exact pvChain_of (by decide +kernel)
theorem frX5_costAt : ∀ pc, (bX5_costAt pc).all (fun q => pvFrB eX5 q.1) = true := by
  intro pc
  unfold bX5_costAt
  split <;> rfl
theorem metX5_costAt {l : Launch} (hf : l.stackTraces = false) : pvMet l yX5_costAt (Cond.code yX5_costAt cX5_costAt 2 (some .int) :: pvTb) mX5_costAt C_X5_costAt :=
  pvMet_of hf (y := yX5_costAt) plX5 pvTb_g coX5 foX5 pvCl (caX5_costAt hf) pvExOk_0 (fun ix h => by rcases h with h | h <;> cases (show (none : Option Nat) = some _ from h)) ⟨rfl, rfl⟩ chX5_costAt (pvOkM_ex okX5_costAt frX5_costAt)
theorem pnX5_leastCost : pvPn yX5_leastCost = some 4 := by decide +kernel
theorem caX5_leastCost {l : Launch} (hf : l.stackTraces = false) : pvCaOk l mX5_leastCost "EventClockWorkbench$Search" pvTb 58 aX5_leastCost := by
  refine pvCaOk_i fun ix n b ci co C h => ?_
  unfold aX5_leastCost at h
  split at h
  · cases h; exact pvCe_V (k := 1) (T := TX5) (N := 5) (metX5_configurationAt hf) rfl wd_1_7 rfl wd_4_230 wd_4_232 ps_2_11 pnX5_configurationAt rfl wd_4_233
  · cases h; exact pvCe_V (k := 5) (T := TX5) (N := 5) (metX5_positionBehind hf) rfl wd_1_7 rfl wd_5_27 wd_5_29 ps_3_0 pnX5_positionBehind rfl wd_5_30
  · cases h; exact pvCe_V (k := 1) (T := TX5) (N := 5) (metX5_costAt hf) rfl wd_1_7 rfl wd_5_31 wd_5_33 ps_3_1 pnX5_costAt rfl wd_5_34
  · cases h; exact pvCe_S (metJ9_min_7cf53 hf) rfl wd_1_18 rfl wd_5_35 wd_2_201 pnJ9_min_7cf53 wd_2_202
  · cases h
set_option maxRecDepth 100000 in
theorem chX5_leastCost : ∀ pc, pvChain cX5_leastCost pc (bX5_leastCost pc) := by
  intro pc
  unfold bX5_leastCost
  split <;> first | exact True.intro | exact pvChain_of (by decide +kernel)
theorem frX5_leastCost : ∀ pc, (bX5_leastCost pc).all (fun q => pvFrB eX5 q.1) = true := by
  intro pc
  unfold bX5_leastCost
  split <;> rfl
theorem metX5_leastCost {l : Launch} (hf : l.stackTraces = false) : pvMet l yX5_leastCost (Cond.code yX5_leastCost cX5_leastCost 9 (some .int) :: pvTb) mX5_leastCost C_X5_leastCost :=
  pvMet_of hf (y := yX5_leastCost) plX5 pvTb_g coX5 foX5 pvCl (caX5_leastCost hf) pvExOk_0 (fun ix h => by rcases h with h | h <;> cases (show (none : Option Nat) = some _ from h)) ⟨rfl, rfl⟩ chX5_leastCost (pvOkM_ex okX5_leastCost frX5_leastCost)
theorem pnX5_findCosts : pvPn yX5_findCosts = some 3 := by decide +kernel
theorem caX5_findCosts {l : Launch} (hf : l.stackTraces = false) : pvCaOk l mX5_findCosts "EventClockWorkbench$Search" pvTb 58 aX5_findCosts := by
  refine pvCaOk_i fun ix n b ci co C h => ?_
  unfold aX5_findCosts at h
  split at h
  · cases h; exact pvCe_V (k := 1) (T := TX5) (N := 5) (metX5_configurationAt hf) rfl wd_1_7 rfl wd_4_230 wd_4_232 ps_2_11 pnX5_configurationAt rfl wd_4_233
  · cases h; exact pvCe_S (metX5_isGoal hf) rfl wd_1_7 rfl wd_4_234 wd_4_235 pnX5_isGoal wd_4_236
  · cases h; exact pvCe_V (k := 1) (T := TX5) (N := 5) (metX5_startOf hf) rfl wd_1_7 rfl wd_5_19 wd_5_21 ps_2_14 pnX5_startOf rfl wd_5_22
  · cases h; exact pvCe_V (k := 4) (T := TX5) (N := 5) (metX5_leastCost hf) rfl wd_1_7 rfl wd_5_23 wd_5_25 ps_2_15 pnX5_leastCost rfl wd_5_26
  · cases h
set_option maxRecDepth 100000 in
theorem chX5_findCosts : ∀ pc, pvChain cX5_findCosts pc (bX5_findCosts pc) := by
  intro pc
  unfold bX5_findCosts
  split <;> first | exact True.intro | exact pvChain_of (by decide +kernel)
theorem frX5_findCosts : ∀ pc, (bX5_findCosts pc).all (fun q => pvFrB eX5 q.1) = true := by
  intro pc
  unfold bX5_findCosts
  split <;> rfl
theorem metX5_findCosts {l : Launch} (hf : l.stackTraces = false) : pvMet l yX5_findCosts (Cond.code yX5_findCosts cX5_findCosts 6 none :: pvTb) mX5_findCosts C_X5_findCosts :=
  pvMet_of hf (y := yX5_findCosts) plX5 pvTb_g coX5 foX5 pvCl (caX5_findCosts hf) pvExOk_0 (fun ix h => by rcases h with h | h <;> cases (show (none : Option Nat) = some _ from h)) ⟨rfl, rfl⟩ chX5_findCosts (pvOkM_ex okX5_findCosts frX5_findCosts)
theorem pnX6_clear : pvPn yX6_clear = some 0 := by decide +kernel
theorem caX6_clear {l : Launch} (hf : l.stackTraces = false) : pvCaOk l mX6_clear "EventClockWorkbench$TimedWord" pvTb 58 aX6_clear := by
  exact fun ix n b ci co C h => nomatch (show (none : Option (Nat × Bool × Nat × Nat × pvC)) = some (n, b, ci, co, C) from h)
set_option maxRecDepth 100000 in
theorem chX6_clear : ∀ pc, pvChain cX6_clear pc (bX6_clear pc) := by
  intro pc
  unfold bX6_clear
  split <;> first | exact True.intro | exact pvChain_of (by decide +kernel)
theorem frX6_clear : ∀ pc, (bX6_clear pc).all (fun q => pvFrB eX6 q.1) = true := by
  intro pc
  unfold bX6_clear
  split <;> rfl
theorem metX6_clear {l : Launch} (hf : l.stackTraces = false) : pvMet l yX6_clear (Cond.code yX6_clear cX6_clear 1 none :: pvTb) mX6_clear C_X6_clear :=
  pvMet_of hf (y := yX6_clear) plX6 pvTb_g coX6 foX6 pvCl (caX6_clear hf) pvExOk_0 (fun ix h => by rcases h with h | h <;> cases (show (none : Option Nat) = some _ from h)) ⟨rfl, rfl⟩ chX6_clear (pvOkM_ex okX6_clear frX6_clear)
theorem pnX6_append : pvPn yX6_append = some 2 := by decide +kernel
theorem caX6_append {l : Launch} (hf : l.stackTraces = false) : pvCaOk l mX6_append "EventClockWorkbench$TimedWord" pvTb 58 aX6_append := by
  refine pvCaOk_i fun ix n b ci co C h => ?_
  unfold aX6_append at h
  split at h
  · cases h; exact pvCe_NS (metNX9_isIndex hf) rfl wd_1_1 rfl (List.mem_of_getElem? (i := 3) rfl) wd_2_23 pnX9_isIndex wd_2_24
  · cases h; exact pvCe_S (metX7_later hf) rfl wd_1_19 rfl wd_3_132 wd_3_133 pnX7_later wd_3_134
  · cases h; exact pvCe_S (metX7_withZero hf) rfl wd_1_19 rfl wd_3_138 wd_3_139 pnX7_withZero wd_3_140
  · cases h
set_option maxRecDepth 100000 in
theorem chX6_append : ∀ pc, pvChain cX6_append pc (bX6_append pc) := by
  intro pc
  unfold bX6_append
  split <;> first | exact True.intro | exact pvChain_of (by decide +kernel)
theorem frX6_append : ∀ pc, (bX6_append pc).all (fun q => pvFrB eX6 q.1) = true := by
  intro pc
  unfold bX6_append
  split <;> rfl
theorem metX6_append {l : Launch} (hf : l.stackTraces = false) : pvMet l yX6_append (Cond.code yX6_append cX6_append 4 (some .int) :: pvTb) mX6_append C_X6_append :=
  pvMet_of hf (y := yX6_append) plX6 pvTb_g coX6 foX6 pvCl (caX6_append hf) pvExOk_0 (fun ix h => by rcases h with h | h <;> cases (show (none : Option Nat) = some _ from h)) ⟨rfl, rfl⟩ chX6_append (pvOkM_ex okX6_append frX6_append)
theorem pnX5_takeEvent : pvPn yX5_takeEvent = some 5 := by decide +kernel
theorem caX5_takeEvent {l : Launch} (hf : l.stackTraces = false) : pvCaOk l mX5_takeEvent "EventClockWorkbench$Search" pvTb 58 aX5_takeEvent := by
  refine pvCaOk_i fun ix n b ci co C h => ?_
  unfold aX5_takeEvent at h
  split at h
  · cases h; exact pvCe_V (k := 1) (T := TX5) (N := 5) (metX5_configurationAt hf) rfl wd_1_7 rfl wd_4_230 wd_4_232 ps_2_11 pnX5_configurationAt rfl wd_4_233
  · cases h; exact pvCe_V (k := 1) (T := TX5) (N := 5) (metX5_startOf hf) rfl wd_1_7 rfl wd_5_19 wd_5_21 ps_2_14 pnX5_startOf rfl wd_5_22
  · cases h; exact pvCe_V (k := 5) (T := TX5) (N := 5) (metX5_positionBehind hf) rfl wd_1_7 rfl wd_5_27 wd_5_29 ps_3_0 pnX5_positionBehind rfl wd_5_30
  · cases h; exact pvCe_V (k := 1) (T := TX5) (N := 5) (metX5_costAt hf) rfl wd_1_7 rfl wd_5_31 wd_5_33 ps_3_1 pnX5_costAt rfl wd_5_34
  · cases h; exact pvCe_V (k := 2) (T := TX6) (N := 5) (metX6_append hf) rfl wd_1_5 rfl wd_5_41 wd_3_128 wd_3_129 pnX6_append rfl wd_3_130
  · cases h
set_option maxRecDepth 100000 in
theorem chX5_takeEvent : ∀ pc, pvChain cX5_takeEvent pc (bX5_takeEvent pc) := by
  intro pc
  unfold bX5_takeEvent
  split <;> first | exact True.intro | exact pvChain_of (by decide +kernel)
theorem frX5_takeEvent : ∀ pc, (bX5_takeEvent pc).all (fun q => pvFrB eX5 q.1) = true := by
  intro pc
  unfold bX5_takeEvent
  split <;> rfl
theorem metX5_takeEvent {l : Launch} (hf : l.stackTraces = false) : pvMet l yX5_takeEvent (Cond.code yX5_takeEvent cX5_takeEvent 9 (some .int) :: pvTb) mX5_takeEvent C_X5_takeEvent :=
  pvMet_of hf (y := yX5_takeEvent) plX5 pvTb_g coX5 foX5 pvCl (caX5_takeEvent hf) pvExOk_0 (fun ix h => by rcases h with h | h <;> cases (show (none : Option Nat) = some _ from h)) ⟨rfl, rfl⟩ chX5_takeEvent (pvOkM_ex okX5_takeEvent frX5_takeEvent)
theorem pnX5_takeFirst : pvPn yX5_takeFirst = some 3 := by decide +kernel
theorem caX5_takeFirst {l : Launch} (hf : l.stackTraces = false) : pvCaOk l mX5_takeFirst "EventClockWorkbench$Search" pvTb 58 aX5_takeFirst := by
  refine pvCaOk_i fun ix n b ci co C h => ?_
  unfold aX5_takeFirst at h
  split at h
  · cases h; exact pvCe_V (k := 3) (T := TX5) (N := 5) (metX5_shortest hf) rfl wd_1_7 rfl wd_4_206 wd_4_208 ps_2_6 pnX5_shortest rfl wd_4_209
  · cases h; exact pvCe_V (k := 3) (T := TX5) (N := 5) (metX5_findCosts hf) rfl wd_1_7 rfl wd_5_15 wd_5_17 ps_2_13 pnX5_findCosts rfl wd_5_18
  · cases h; exact pvCe_V (k := 0) (T := TX6) (N := 5) (metX6_clear hf) rfl wd_1_5 rfl wd_5_36 wd_2_3 wd_2_4 pnX6_clear rfl wd_2_5
  · cases h; exact pvCe_V (k := 5) (T := TX5) (N := 5) (metX5_takeEvent hf) rfl wd_1_7 rfl wd_5_37 wd_5_39 ps_3_2 pnX5_takeEvent rfl wd_5_40
  · cases h
set_option maxRecDepth 100000 in
theorem chX5_takeFirst : ∀ pc, pvChain cX5_takeFirst pc (bX5_takeFirst pc) := by
  intro pc
  unfold bX5_takeFirst
  split <;> first | exact True.intro | exact pvChain_of (by decide +kernel)
theorem frX5_takeFirst : ∀ pc, (bX5_takeFirst pc).all (fun q => pvFrB eX5 q.1) = true := by
  intro pc
  unfold bX5_takeFirst
  split <;> rfl
theorem metX5_takeFirst {l : Launch} (hf : l.stackTraces = false) : pvMet l yX5_takeFirst (Cond.code yX5_takeFirst cX5_takeFirst 7 (some .boolean) :: pvTb) mX5_takeFirst C_X5_takeFirst :=
  pvMet_of hf (y := yX5_takeFirst) plX5 pvTb_g coX5 foX5 pvCl (caX5_takeFirst hf) pvExOk_0 (fun ix h => by rcases h with h | h <;> cases (show (none : Option Nat) = some _ from h)) ⟨rfl, rfl⟩ chX5_takeFirst (pvOkM_ex okX5_takeFirst frX5_takeFirst)
