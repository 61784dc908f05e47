/-! the law's own body, over the machine: its calls -/
theorem caL_law {l : Launch} (hf : l.stackTraces = false) (lm : Nat → Prop) (sc : Nat × (Nat → Int)) : pvCaOk l room_1 "EventClockWorkbenchLaw" pvTb lm sc (aL_law lm sc) := by
  refine pvCaOk_i fun ix n b ci co C h => ?_
  unfold aL_law at h
  split at h
  · cases h; exact pvCe_L (metWL_draw hf) rfl wd_1_0 rfl wd_3_46 wd_3_47 pnL_draw wd_3_48
  · cases h; exact pvCe_L (metWL_value hf) rfl wd_1_0 rfl wd_4_182 wd_4_183 pnL_value wd_4_184
  · cases h; exact pvCe_L (metWL_after hf) rfl wd_1_0 rfl wd_4_186 wd_4_187 pnL_after wd_4_188
  · cases h; exact pvCe_V (k := 3) (T := TX9) (N := 11) (metX9_acceptedWords hf) rfl wd_1_1 rfl wd_3_12 wd_3_13 wd_3_14 pnX9_acceptedWords rfl wd_3_15
  · cases h; exact pvCe_V (k := 1) (T := TX9) (N := 11) (metX9_accepts hf) rfl wd_1_1 rfl wd_2_190 wd_2_191 wd_2_192 pnX9_accepts rfl wd_2_193
  · cases h; exact pvCe_V (k := 2) (T := TX9) (N := 11) (metX9_deterministicSet hf) rfl wd_1_1 rfl wd_2_198 wd_2_199 wd_2_200 pnX9_deterministicSet rfl wd_2_201
  · cases h; exact pvCe_L (metWL_marks hf) rfl wd_1_0 rfl wd_4_195 wd_4_196 pnL_marks wd_4_197
  · cases h; exact pvCe_V (k := 2) (T := TX9) (N := 11) (metX9_appendEvent hf) rfl wd_1_1 rfl wd_1_238 wd_1_239 wd_2_0 pnX9_appendEvent rfl wd_2_1
  · cases h; exact pvCe_V (k := 1) (T := TX9) (N := 11) (metX9_valuationBefore hf) rfl wd_1_1 rfl wd_2_106 wd_2_107 wd_2_108 pnX9_valuationBefore rfl wd_2_109
  · cases h; exact pvCe_V (k := 2) (T := TX9) (N := 11) (metX9_statesAfter hf) rfl wd_1_1 rfl wd_2_138 wd_2_139 wd_2_140 pnX9_statesAfter rfl wd_2_141
  · cases h; exact pvCe_V (k := 1) (T := TX9) (N := 11) (metX9_deterministicRun hf) rfl wd_1_1 rfl wd_3_4 wd_3_5 wd_3_6 pnX9_deterministicRun rfl wd_3_7
  · cases h; exact pvCe_V (k := 2) (T := TX9) (N := 11) (metX9_acceptedShare hf) rfl wd_1_1 rfl wd_3_38 wd_3_39 wd_3_40 pnX9_acceptedShare rfl wd_3_41
  · cases h; exact pvCe_L (metWL_areBranches hf) rfl wd_1_0 rfl wd_5_116 wd_5_117 pnL_areBranches wd_5_118
  · cases h; exact pvCe_L (metWL_isTaken hf) rfl wd_1_0 rfl wd_4_219 wd_4_220 pnL_isTaken wd_4_221
  · cases h
set_option maxRecDepth 100000 in
theorem chL_law : ∀ pc, pvChain cL_law pc (bL_law pc) := by
  intro pc
  unfold bL_law
  split <;> first | exact True.intro | exact pvChain_of (by decide +kernel)
