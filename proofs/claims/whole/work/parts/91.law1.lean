/-! the law: its cases -/
theorem hf_12_1 : hfF [1, 2] 1 = 1 := by decide
theorem hf_12_2 : hfF [1, 2] 2 = 2 := by decide
theorem lwI_8 {z : pvM} {v : Int} (h : lwI z) : lwI (pvUp z.1 39 8 v, z.2) := by
  have f : frF [39] [] z (pvUp z.1 39 8 v, z.2) := frF_u frF_0 (by decide)
  refine lwI_m (ids := [39]) (jds := []) h f (by simp [frI]) (fun j hj => ?_) (pz_m h.2.2.2.2.2.1 f (by simp)) ?_
  · show pvUp z.1 39 8 v 39 j = _
    simp only [pvUp_ap, true_and]
    rw [if_neg (by omega)]
  · obtain ⟨L, hL⟩ := h.2.2.2.2.2.2.1
    exact ⟨L, quF_e hL (f.1 28 (by decide)) (f.1 29 (by decide)) (f.1 30 (by decide))⟩
