/-! the law's code, block by block -/
set_option maxHeartbeats 200000000 in
set_option maxRecDepth 100000 in
theorem chL_law : ∀ pc, pvChain code pc (bL_law pc) := by
  intro pc
  unfold bL_law
  split <;> first | exact True.intro | exact pvChain_of (by decide +kernel)
