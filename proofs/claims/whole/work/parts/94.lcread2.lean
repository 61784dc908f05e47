/-! the law: the calls that read by caches and scratch rows, class and reference side by side -/
set_option maxRecDepth 100000 in
set_option maxHeartbeats 4000000 in
theorem lc_runCount {z : pvM} {s : Int} (h : lwI z) {Q : pvO → pvM → Prop} (H : ∀ (k : Int) (z1 : pvM), (∀ Q2 : pvO → pvM → Prop, (∀ b z2, z2.1 39 8 = k → (k = 0 → z2.2.1 58 0 = b ∧ pvRL b) → lwI z2 → Q2 (.inl (some (vL b))) z2) → C_X10_runCount [vR 39, vI s] z1 Q2) → Q (.inl (some (vI k))) z1) : C_L_runCount [vR 0, vI s, vR 58] z Q := by
  have ha := h.1
  have hW := lw_W h
  have hwc := lw_wc h
  have hwd := lw_wd h
  have h7 : z.1 20 4 = z.1 39 7 := h.2.2.1.2.1
  have hag := lw_ag h
  rw [h7] at hag
  have hn := hwd.1
  have hpz : pzF z := h.2.2.2.2.2.1
  have hqu : ∃ L, quF z L := h.2.2.2.2.2.2.1
  have hem : psS z 13 emA := h.2.2.2.2.2.2.2.1
  have hsm : smP z := h.2.2.2.2.2.2.2.2
  by_cases hs : 0 ≤ s ∧ s ≤ 1
  · skip
    simp only [C_L_runCount, C_X9_runCount, wrL, if_true, if_false, reduceIte, Int.reduceEq, List.mem_cons, List.not_mem_nil, or_false, true_and, and_true, hf_0_0, hf_01_0, hf_01_1, hf_03_0, hf_03_3, hf_12_1, hf_12_2, hf_012_0, hf_012_1, hf_012_2, hf_2_2, h7, (ha s hs).1, ru_x (A := autR (z.1 40) s) (e := 15) hag (z.1 39 7).toNat (by omega)]
    (repeat' first | with_reducible apply And.intro | with_reducible intro _)
    all_goals first
      | (with_reducible exact rfl)
      | omega
      | assumption
      | contradiction
      | (rename trF _ _ _ ∧ _ => q9; exact absurd q9.1.1 hs)
      | (with_reducible exact Or.inl trivial)
      | (with_reducible exact Or.inr trivial)
      | (exact (ha _ (by assumption)).2)
      | (exact (ha _ hs).2)
      | (with_reducible exact ⟨hpz, hwc⟩)
      | (with_reducible exact hqu)
      | (with_reducible exact shD_n (by omega))
      | (with_reducible exact avD_nn (by first | exact hW _ (by assumption) | exact hW _ hs))
      | (exact hnn)
      | (rename frF [] [25, 26] z _ => fr0
         have hI := lwI_0 h fr0 (by simp)
         have fr := fr0
         have e40 := fr.1 40 (by first | decide | (simp))
         have e39 := fr.1 39 (by first | decide | (simp))
         have e43 := fr.1 43 (by first | decide | (simp))
         have e44 := fr.1 44 (by first | decide | (simp))
         have e52 := fr.1 52 (by first | decide | (simp))
         have hsm := hI.2.2.2.2.2.2.2.2
         refine H _ _ (fun Q2 f => ?_)
         simp only [C_X10_runCount, e40, e39, e43, e44, true_and]
         (repeat' first | with_reducible apply And.intro | with_reducible intro _)
         all_goals first
           | (with_reducible exact rfl)
           | omega
           | assumption
           | contradiction
           | (rename trF _ _ _ ∧ _ => q9; exact absurd q9.1.1 hs)
           | (with_reducible exact Or.inl trivial)
           | (with_reducible exact Or.inr trivial)
           | (exact hW _ (by assumption))
           | (exact hW)
           | (exact hsm)
           | (exact f _ _ up_p (fun q => absurd q (by decide)) (lwI_u (lwI_o hI)))
           | (rename frF [39] [47] _ _ => fr2
              have fr3 := fr2
              exact f _ _ (by assumption) (fun _ => ⟨((congrFun (fr2.2.1 58 (by simp)) 0).trans up_q), by first | exact rl_ru (by first | exact hW _ (by assumption) | exact hW _ hs) hwd.1 | exact rl_wd (by omega) (by omega)⟩) (lwI_r (z := (_, _)) (lwI_o hI) fr3 (by simp) (fun j hj => by first | (rename ∀ j, j ≠ 8 → _ => g; first | exact (g j (by omega)).trans (congrFun e39.symm j) | exact g j (by omega)) | (rename ∀ j, j ≠ 28 → j ≠ 8 → _ => g; first | exact (g j (by omega) (by omega)).trans (congrFun e39.symm j) | exact g j (by omega) (by omega)))))
           | (rename frF [39] [47] _ _ => fr2
              have fr3 := fr2
              exact f _ _ (by assumption) (fun q => absurd q (by decide)) (lwI_r (z := (_, _)) (lwI_o hI) fr3 (by simp) (fun j hj => by first | (rename ∀ j, j ≠ 8 → _ => g; first | exact (g j (by omega)).trans (congrFun e39.symm j) | exact g j (by omega)) | (rename ∀ j, j ≠ 28 → j ≠ 8 → _ => g; first | exact (g j (by omega) (by omega)).trans (congrFun e39.symm j) | exact g j (by omega) (by omega))))))
      | (refine H _ _ (fun Q2 f => ?_)
         simp only [C_X10_runCount, true_and]
         (repeat' first | with_reducible apply And.intro | with_reducible intro _)
         all_goals first
           | (with_reducible exact rfl)
           | omega
           | assumption
           | contradiction
           | (rename trF _ _ _ ∧ _ => q9; exact absurd q9.1.1 hs)
           | (with_reducible exact Or.inl trivial)
           | (with_reducible exact Or.inr trivial)
           | (exact hW _ (by assumption))
           | (exact hW)
           | (exact f _ _ up_p (fun _ => ⟨up_q, by first | exact rl_ru (by first | exact hW _ (by assumption) | exact hW _ hs) hwd.1 | exact rl_wd (by omega) (by omega)⟩) (lwI_u h))
           | (exact f _ _ up_p (fun q => absurd q (by decide)) (lwI_u h))
           | (rename frF [39] [47] _ _ => fr2
              have fr3 := fr2
              have hI := h
              exact f _ _ (by assumption) (fun q => absurd q (by decide)) (lwI_r (z := (_, _)) (lwI_o hI) fr3 (by simp) (fun j hj => by first | (rename ∀ j, j ≠ 8 → _ => g; first | exact (g j (by omega)).trans (congrFun e39.symm j) | exact g j (by omega)) | (rename ∀ j, j ≠ 28 → j ≠ 8 → _ => g; first | exact (g j (by omega) (by omega)).trans (congrFun e39.symm j) | exact g j (by omega) (by omega))))))
  · skip
    simp only [C_L_runCount, C_X9_runCount, wrL, if_true, if_false, reduceIte, Int.reduceEq, List.mem_cons, List.not_mem_nil, or_false, true_and, and_true, hf_0_0, hf_01_0, hf_01_1, hf_03_0, hf_03_3, hf_12_1, hf_12_2, hf_012_0, hf_012_1, hf_012_2, hf_2_2, h7]
    (repeat' first | with_reducible apply And.intro | with_reducible intro _)
    all_goals first
      | (with_reducible exact rfl)
      | omega
      | assumption
      | contradiction
      | (rename trF _ _ _ ∧ _ => q9; exact absurd q9.1.1 hs)
      | (with_reducible exact Or.inl trivial)
      | (with_reducible exact Or.inr trivial)
      | (exact (ha _ (by assumption)).2)
      | (exact (ha _ hs).2)
      | (with_reducible exact ⟨hpz, hwc⟩)
      | (with_reducible exact hqu)
      | (with_reducible exact shD_n (by omega))
      | (with_reducible exact avD_nn (by first | exact hW _ (by assumption) | exact hW _ hs))
      | (exact hnn)
      | (rename frF [] [25, 26] z _ => fr0
         have hI := lwI_0 h fr0 (by simp)
         have fr := fr0
         have e40 := fr.1 40 (by first | decide | (simp))
         have e39 := fr.1 39 (by first | decide | (simp))
         have e43 := fr.1 43 (by first | decide | (simp))
         have e44 := fr.1 44 (by first | decide | (simp))
         have e52 := fr.1 52 (by first | decide | (simp))
         have hsm := hI.2.2.2.2.2.2.2.2
         refine H _ _ (fun Q2 f => ?_)
         simp only [C_X10_runCount, e40, e39, e43, e44, true_and]
         (repeat' first | with_reducible apply And.intro | with_reducible intro _)
         all_goals first
           | (with_reducible exact rfl)
           | omega
           | assumption
           | contradiction
           | (rename trF _ _ _ ∧ _ => q9; exact absurd q9.1.1 hs)
           | (with_reducible exact Or.inl trivial)
           | (with_reducible exact Or.inr trivial)
           | (exact hW _ (by assumption))
           | (exact hW)
           | (exact hsm)
           | (exact f _ _ up_p (fun q => absurd q (by decide)) (lwI_u (lwI_o hI)))
           | (rename frF [39] [47] _ _ => fr2
              have fr3 := fr2
              exact f _ _ (by assumption) (fun _ => ⟨((congrFun (fr2.2.1 58 (by simp)) 0).trans up_q), by first | exact rl_ru (by first | exact hW _ (by assumption) | exact hW _ hs) hwd.1 | exact rl_wd (by omega) (by omega)⟩) (lwI_r (z := (_, _)) (lwI_o hI) fr3 (by simp) (fun j hj => by first | (rename ∀ j, j ≠ 8 → _ => g; first | exact (g j (by omega)).trans (congrFun e39.symm j) | exact g j (by omega)) | (rename ∀ j, j ≠ 28 → j ≠ 8 → _ => g; first | exact (g j (by omega) (by omega)).trans (congrFun e39.symm j) | exact g j (by omega) (by omega)))))
           | (rename frF [39] [47] _ _ => fr2
              have fr3 := fr2
              exact f _ _ (by assumption) (fun q => absurd q (by decide)) (lwI_r (z := (_, _)) (lwI_o hI) fr3 (by simp) (fun j hj => by first | (rename ∀ j, j ≠ 8 → _ => g; first | exact (g j (by omega)).trans (congrFun e39.symm j) | exact g j (by omega)) | (rename ∀ j, j ≠ 28 → j ≠ 8 → _ => g; first | exact (g j (by omega) (by omega)).trans (congrFun e39.symm j) | exact g j (by omega) (by omega))))))
      | (refine H _ _ (fun Q2 f => ?_)
         simp only [C_X10_runCount, true_and]
         (repeat' first | with_reducible apply And.intro | with_reducible intro _)
         all_goals first
           | (with_reducible exact rfl)
           | omega
           | assumption
           | contradiction
           | (rename trF _ _ _ ∧ _ => q9; exact absurd q9.1.1 hs)
           | (with_reducible exact Or.inl trivial)
           | (with_reducible exact Or.inr trivial)
           | (exact hW _ (by assumption))
           | (exact hW)
           | (exact f _ _ up_p (fun _ => ⟨up_q, by first | exact rl_ru (by first | exact hW _ (by assumption) | exact hW _ hs) hwd.1 | exact rl_wd (by omega) (by omega)⟩) (lwI_u h))
           | (exact f _ _ up_p (fun q => absurd q (by decide)) (lwI_u h))
           | (rename frF [39] [47] _ _ => fr2
              have fr3 := fr2
              have hI := h
              exact f _ _ (by assumption) (fun q => absurd q (by decide)) (lwI_r (z := (_, _)) (lwI_o hI) fr3 (by simp) (fun j hj => by first | (rename ∀ j, j ≠ 8 → _ => g; first | exact (g j (by omega)).trans (congrFun e39.symm j) | exact g j (by omega)) | (rename ∀ j, j ≠ 28 → j ≠ 8 → _ => g; first | exact (g j (by omega) (by omega)).trans (congrFun e39.symm j) | exact g j (by omega) (by omega))))))
set_option maxRecDepth 100000 in
set_option maxHeartbeats 4000000 in
theorem lc_acceptingRuns {z : pvM} {s : Int} (h : lwI z) {Q : pvO → pvM → Prop} (H : ∀ (k : Int) (z1 : pvM), (∀ Q2 : pvO → pvM → Prop, (∀ b z2, z2.1 39 8 = k → (k = 0 → z2.2.1 58 0 = b ∧ pvRL b) → lwI z2 → Q2 (.inl (some (vL b))) z2) → C_X10_acceptingRuns [vR 39, vI s] z1 Q2) → Q (.inl (some (vI k))) z1) : C_L_acceptingRuns [vR 0, vI s, vR 58] z Q := by
  have ha := h.1
  have hW := lw_W h
  have hwc := lw_wc h
  have hwd := lw_wd h
  have h7 : z.1 20 4 = z.1 39 7 := h.2.2.1.2.1
  have hag := lw_ag h
  rw [h7] at hag
  have hn := hwd.1
  have hpz : pzF z := h.2.2.2.2.2.1
  have hqu : ∃ L, quF z L := h.2.2.2.2.2.2.1
  have hem : psS z 13 emA := h.2.2.2.2.2.2.2.1
  have hsm : smP z := h.2.2.2.2.2.2.2.2
  by_cases hs : 0 ≤ s ∧ s ≤ 1
  · skip
    simp only [C_L_acceptingRuns, C_X9_acceptingRuns, wrL, if_true, if_false, reduceIte, Int.reduceEq, List.mem_cons, List.not_mem_nil, or_false, true_and, and_true, hf_0_0, hf_01_0, hf_01_1, hf_03_0, hf_03_3, hf_12_1, hf_12_2, hf_012_0, hf_012_1, hf_012_2, hf_2_2, h7, (ha s hs).1, ru_x (A := autR (z.1 40) s) (e := (autR (z.1 40) s).2.2.1) hag (z.1 39 7).toNat (by omega)]
    (repeat' first | with_reducible apply And.intro | with_reducible intro _)
    all_goals first
      | (with_reducible exact rfl)
      | omega
      | assumption
      | contradiction
      | (rename trF _ _ _ ∧ _ => q9; exact absurd q9.1.1 hs)
      | (with_reducible exact Or.inl trivial)
      | (with_reducible exact Or.inr trivial)
      | (exact (ha _ (by assumption)).2)
      | (exact (ha _ hs).2)
      | (with_reducible exact ⟨hpz, hwc⟩)
      | (with_reducible exact hqu)
      | (with_reducible exact shD_n (by omega))
      | (with_reducible exact avD_nn (by first | exact hW _ (by assumption) | exact hW _ hs))
      | (exact hnn)
      | (rename frF [] [25, 26] z _ => fr0
         have hI := lwI_0 h fr0 (by simp)
         have fr := fr0
         have e40 := fr.1 40 (by first | decide | (simp))
         have e39 := fr.1 39 (by first | decide | (simp))
         have e43 := fr.1 43 (by first | decide | (simp))
         have e44 := fr.1 44 (by first | decide | (simp))
         have e52 := fr.1 52 (by first | decide | (simp))
         have hsm := hI.2.2.2.2.2.2.2.2
         refine H _ _ (fun Q2 f => ?_)
         simp only [C_X10_acceptingRuns, e40, e39, e43, e44, true_and]
         (repeat' first | with_reducible apply And.intro | with_reducible intro _)
         all_goals first
           | (with_reducible exact rfl)
           | omega
           | assumption
           | contradiction
           | (rename trF _ _ _ ∧ _ => q9; exact absurd q9.1.1 hs)
           | (with_reducible exact Or.inl trivial)
           | (with_reducible exact Or.inr trivial)
           | (exact hW _ (by assumption))
           | (exact hW)
           | (exact hsm)
           | (exact f _ _ up_p (fun q => absurd q (by decide)) (lwI_u (lwI_o hI)))
           | (rename frF [39] [47] _ _ => fr2
              have fr3 := fr2
              exact f _ _ (by assumption) (fun _ => ⟨((congrFun (fr2.2.1 58 (by simp)) 0).trans up_q), by first | exact rl_ru (by first | exact hW _ (by assumption) | exact hW _ hs) hwd.1 | exact rl_wd (by omega) (by omega)⟩) (lwI_r (z := (_, _)) (lwI_o hI) fr3 (by simp) (fun j hj => by first | (rename ∀ j, j ≠ 8 → _ => g; first | exact (g j (by omega)).trans (congrFun e39.symm j) | exact g j (by omega)) | (rename ∀ j, j ≠ 28 → j ≠ 8 → _ => g; first | exact (g j (by omega) (by omega)).trans (congrFun e39.symm j) | exact g j (by omega) (by omega)))))
           | (rename frF [39] [47] _ _ => fr2
              have fr3 := fr2
              exact f _ _ (by assumption) (fun q => absurd q (by decide)) (lwI_r (z := (_, _)) (lwI_o hI) fr3 (by simp) (fun j hj => by first | (rename ∀ j, j ≠ 8 → _ => g; first | exact (g j (by omega)).trans (congrFun e39.symm j) | exact g j (by omega)) | (rename ∀ j, j ≠ 28 → j ≠ 8 → _ => g; first | exact (g j (by omega) (by omega)).trans (congrFun e39.symm j) | exact g j (by omega) (by omega))))))
      | (refine H _ _ (fun Q2 f => ?_)
         simp only [C_X10_acceptingRuns, true_and]
         (repeat' first | with_reducible apply And.intro | with_reducible intro _)
         all_goals first
           | (with_reducible exact rfl)
           | omega
           | assumption
           | contradiction
           | (rename trF _ _ _ ∧ _ => q9; exact absurd q9.1.1 hs)
           | (with_reducible exact Or.inl trivial)
           | (with_reducible exact Or.inr trivial)
           | (exact hW _ (by assumption))
           | (exact hW)
           | (exact f _ _ up_p (fun _ => ⟨up_q, by first | exact rl_ru (by first | exact hW _ (by assumption) | exact hW _ hs) hwd.1 | exact rl_wd (by omega) (by omega)⟩) (lwI_u h))
           | (exact f _ _ up_p (fun q => absurd q (by decide)) (lwI_u h))
           | (rename frF [39] [47] _ _ => fr2
              have fr3 := fr2
              have hI := h
              exact f _ _ (by assumption) (fun q => absurd q (by decide)) (lwI_r (z := (_, _)) (lwI_o hI) fr3 (by simp) (fun j hj => by first | (rename ∀ j, j ≠ 8 → _ => g; first | exact (g j (by omega)).trans (congrFun e39.symm j) | exact g j (by omega)) | (rename ∀ j, j ≠ 28 → j ≠ 8 → _ => g; first | exact (g j (by omega) (by omega)).trans (congrFun e39.symm j) | exact g j (by omega) (by omega))))))
  · skip
    simp only [C_L_acceptingRuns, C_X9_acceptingRuns, wrL, if_true, if_false, reduceIte, Int.reduceEq, List.mem_cons, List.not_mem_nil, or_false, true_and, and_true, hf_0_0, hf_01_0, hf_01_1, hf_03_0, hf_03_3, hf_12_1, hf_12_2, hf_012_0, hf_012_1, hf_012_2, hf_2_2, h7]
    (repeat' first | with_reducible apply And.intro | with_reducible intro _)
    all_goals first
      | (with_reducible exact rfl)
      | omega
      | assumption
      | contradiction
      | (rename trF _ _ _ ∧ _ => q9; exact absurd q9.1.1 hs)
      | (with_reducible exact Or.inl trivial)
      | (with_reducible exact Or.inr trivial)
      | (exact (ha _ (by assumption)).2)
      | (exact (ha _ hs).2)
      | (with_reducible exact ⟨hpz, hwc⟩)
      | (with_reducible exact hqu)
      | (with_reducible exact shD_n (by omega))
      | (with_reducible exact avD_nn (by first | exact hW _ (by assumption) | exact hW _ hs))
      | (exact hnn)
      | (rename frF [] [25, 26] z _ => fr0
         have hI := lwI_0 h fr0 (by simp)
         have fr := fr0
         have e40 := fr.1 40 (by first | decide | (simp))
         have e39 := fr.1 39 (by first | decide | (simp))
         have e43 := fr.1 43 (by first | decide | (simp))
         have e44 := fr.1 44 (by first | decide | (simp))
         have e52 := fr.1 52 (by first | decide | (simp))
         have hsm := hI.2.2.2.2.2.2.2.2
         refine H _ _ (fun Q2 f => ?_)
         simp only [C_X10_acceptingRuns, e40, e39, e43, e44, true_and]
         (repeat' first | with_reducible apply And.intro | with_reducible intro _)
         all_goals first
           | (with_reducible exact rfl)
           | omega
           | assumption
           | contradiction
           | (rename trF _ _ _ ∧ _ => q9; exact absurd q9.1.1 hs)
           | (with_reducible exact Or.inl trivial)
           | (with_reducible exact Or.inr trivial)
           | (exact hW _ (by assumption))
           | (exact hW)
           | (exact hsm)
           | (exact f _ _ up_p (fun q => absurd q (by decide)) (lwI_u (lwI_o hI)))
           | (rename frF [39] [47] _ _ => fr2
              have fr3 := fr2
              exact f _ _ (by assumption) (fun _ => ⟨((congrFun (fr2.2.1 58 (by simp)) 0).trans up_q), by first | exact rl_ru (by first | exact hW _ (by assumption) | exact hW _ hs) hwd.1 | exact rl_wd (by omega) (by omega)⟩) (lwI_r (z := (_, _)) (lwI_o hI) fr3 (by simp) (fun j hj => by first | (rename ∀ j, j ≠ 8 → _ => g; first | exact (g j (by omega)).trans (congrFun e39.symm j) | exact g j (by omega)) | (rename ∀ j, j ≠ 28 → j ≠ 8 → _ => g; first | exact (g j (by omega) (by omega)).trans (congrFun e39.symm j) | exact g j (by omega) (by omega)))))
           | (rename frF [39] [47] _ _ => fr2
              have fr3 := fr2
              exact f _ _ (by assumption) (fun q => absurd q (by decide)) (lwI_r (z := (_, _)) (lwI_o hI) fr3 (by simp) (fun j hj => by first | (rename ∀ j, j ≠ 8 → _ => g; first | exact (g j (by omega)).trans (congrFun e39.symm j) | exact g j (by omega)) | (rename ∀ j, j ≠ 28 → j ≠ 8 → _ => g; first | exact (g j (by omega) (by omega)).trans (congrFun e39.symm j) | exact g j (by omega) (by omega))))))
      | (refine H _ _ (fun Q2 f => ?_)
         simp only [C_X10_acceptingRuns, true_and]
         (repeat' first | with_reducible apply And.intro | with_reducible intro _)
         all_goals first
           | (with_reducible exact rfl)
           | omega
           | assumption
           | contradiction
           | (rename trF _ _ _ ∧ _ => q9; exact absurd q9.1.1 hs)
           | (with_reducible exact Or.inl trivial)
           | (with_reducible exact Or.inr trivial)
           | (exact hW _ (by assumption))
           | (exact hW)
           | (exact f _ _ up_p (fun _ => ⟨up_q, by first | exact rl_ru (by first | exact hW _ (by assumption) | exact hW _ hs) hwd.1 | exact rl_wd (by omega) (by omega)⟩) (lwI_u h))
           | (exact f _ _ up_p (fun q => absurd q (by decide)) (lwI_u h))
           | (rename frF [39] [47] _ _ => fr2
              have fr3 := fr2
              have hI := h
              exact f _ _ (by assumption) (fun q => absurd q (by decide)) (lwI_r (z := (_, _)) (lwI_o hI) fr3 (by simp) (fun j hj => by first | (rename ∀ j, j ≠ 8 → _ => g; first | exact (g j (by omega)).trans (congrFun e39.symm j) | exact g j (by omega)) | (rename ∀ j, j ≠ 28 → j ≠ 8 → _ => g; first | exact (g j (by omega) (by omega)).trans (congrFun e39.symm j) | exact g j (by omega) (by omega))))))
set_option maxRecDepth 100000 in
set_option maxHeartbeats 4000000 in
theorem lc_firstRun {z : pvM} {s i : Int} (h : lwI z) {Q : pvO → pvM → Prop} (H : ∀ (k : Int) (z1 : pvM), (∀ Q2 : pvO → pvM → Prop, (∀ b z2, z2.1 39 8 = k → (k = 0 → z2.2.1 58 0 = b ∧ pvRL b) → lwI z2 → Q2 (.inl (some (vI b))) z2) → C_X10_firstRun [vR 39, vI s, vI i] z1 Q2) → Q (.inl (some (vI k))) z1) : C_L_firstRun [vR 0, vI s, vI i, vR 58] z Q := by
  have ha := h.1
  have hW := lw_W h
  have hwc := lw_wc h
  have hwd := lw_wd h
  have h7 : z.1 20 4 = z.1 39 7 := h.2.2.1.2.1
  have hag := lw_ag h
  rw [h7] at hag
  have hn := hwd.1
  have hpz : pzF z := h.2.2.2.2.2.1
  have hqu : ∃ L, quF z L := h.2.2.2.2.2.2.1
  have hem : psS z 13 emA := h.2.2.2.2.2.2.2.1
  have hsm : smP z := h.2.2.2.2.2.2.2.2
  by_cases c0 : (0 ≤ s ∧ s ≤ 1) ∧ 0 ≤ i ∧ i < z.1 39 7
  · have hs := c0.1
    simp only [C_L_firstRun, C_X9_firstRun, wrI, if_true, if_false, reduceIte, Int.reduceEq, List.mem_cons, List.not_mem_nil, or_false, true_and, and_true, hf_0_0, hf_01_0, hf_01_1, hf_03_0, hf_03_3, hf_12_1, hf_12_2, hf_012_0, hf_012_1, hf_012_2, hf_2_2, h7, (ha s c0.1).1, hp_x (A := autR (z.1 40) s) hag (z.1 39 7).toNat 0 (by omega), fr_x (A := autR (z.1 40) s) hag (z.1 39 7).toNat (by omega) (i.toNat + 1) (by omega)]
    (repeat' first | with_reducible apply And.intro | with_reducible intro _)
    all_goals first
      | (with_reducible exact rfl)
      | omega
      | assumption
      | contradiction
      | (rename trF _ _ _ ∧ _ => q9; exact absurd q9.1.1 hs)
      | (with_reducible exact Or.inl trivial)
      | (with_reducible exact Or.inr trivial)
      | (exact (ha _ (by assumption)).2)
      | (exact (ha _ hs).2)
      | (with_reducible exact ⟨hpz, hwc⟩)
      | (with_reducible exact hqu)
      | (with_reducible exact shD_n (by omega))
      | (with_reducible exact avD_nn (by first | exact hW _ (by assumption) | exact hW _ hs))
      | (exact hnn)
      | (rename frF [27] [] z _ => fr0
         have hI := lwI_0 h fr0 (by simp)
         have fr := fr0
         have e40 := fr.1 40 (by first | decide | (simp))
         have e39 := fr.1 39 (by first | decide | (simp))
         have e43 := fr.1 43 (by first | decide | (simp))
         have e44 := fr.1 44 (by first | decide | (simp))
         have e52 := fr.1 52 (by first | decide | (simp))
         have hsm := hI.2.2.2.2.2.2.2.2
         refine H _ _ (fun Q2 f => ?_)
         simp only [C_X10_firstRun, e40, e39, e43, e44, true_and]
         (repeat' first | with_reducible apply And.intro | with_reducible intro _)
         all_goals first
           | (with_reducible exact rfl)
           | omega
           | assumption
           | contradiction
           | (rename trF _ _ _ ∧ _ => q9; exact absurd q9.1.1 hs)
           | (with_reducible exact Or.inl trivial)
           | (with_reducible exact Or.inr trivial)
           | (exact hW _ (by assumption))
           | (exact hW)
           | (exact hsm)
           | (exact f _ _ up_p (fun q => absurd q (by decide)) (lwI_u (lwI_o hI)))
           | (rename frF [39] [47] _ _ => fr2
              have fr3 := fr2
              exact f _ _ (by assumption) (fun _ => ⟨((congrFun (fr2.2.1 58 (by simp)) 0).trans up_q), rl_of (by assumption)⟩) (lwI_r (z := (_, _)) (lwI_o hI) fr3 (by simp) (fun j hj => by first | (rename ∀ j, j ≠ 8 → _ => g; first | exact (g j (by omega)).trans (congrFun e39.symm j) | exact g j (by omega)) | (rename ∀ j, j ≠ 28 → j ≠ 8 → _ => g; first | exact (g j (by omega) (by omega)).trans (congrFun e39.symm j) | exact g j (by omega) (by omega)))))
           | (rename frF [39] [47] _ _ => fr2
              have fr3 := fr2
              exact f _ _ (by assumption) (fun q => absurd q (by decide)) (lwI_r (z := (_, _)) (lwI_o hI) fr3 (by simp) (fun j hj => by first | (rename ∀ j, j ≠ 8 → _ => g; first | exact (g j (by omega)).trans (congrFun e39.symm j) | exact g j (by omega)) | (rename ∀ j, j ≠ 28 → j ≠ 8 → _ => g; first | exact (g j (by omega) (by omega)).trans (congrFun e39.symm j) | exact g j (by omega) (by omega))))))
      | (refine H _ _ (fun Q2 f => ?_)
         simp only [C_X10_firstRun, true_and]
         (repeat' first | with_reducible apply And.intro | with_reducible intro _)
         all_goals first
           | (with_reducible exact rfl)
           | omega
           | assumption
           | contradiction
           | (rename trF _ _ _ ∧ _ => q9; exact absurd q9.1.1 hs)
           | (with_reducible exact Or.inl trivial)
           | (with_reducible exact Or.inr trivial)
           | (exact hW _ (by assumption))
           | (exact hW)
           | (exact f _ _ up_p (fun _ => ⟨up_q, rl_of (by assumption)⟩) (lwI_u h))
           | (exact f _ _ up_p (fun q => absurd q (by decide)) (lwI_u h))
           | (rename frF [39] [47] _ _ => fr2
              have fr3 := fr2
              have hI := h
              exact f _ _ (by assumption) (fun q => absurd q (by decide)) (lwI_r (z := (_, _)) (lwI_o hI) fr3 (by simp) (fun j hj => by first | (rename ∀ j, j ≠ 8 → _ => g; first | exact (g j (by omega)).trans (congrFun e39.symm j) | exact g j (by omega)) | (rename ∀ j, j ≠ 28 → j ≠ 8 → _ => g; first | exact (g j (by omega) (by omega)).trans (congrFun e39.symm j) | exact g j (by omega) (by omega))))))
  · skip
    simp only [C_L_firstRun, C_X9_firstRun, wrI, if_true, if_false, reduceIte, Int.reduceEq, List.mem_cons, List.not_mem_nil, or_false, true_and, and_true, hf_0_0, hf_01_0, hf_01_1, hf_03_0, hf_03_3, hf_12_1, hf_12_2, hf_012_0, hf_012_1, hf_012_2, hf_2_2, h7]
    (repeat' first | with_reducible apply And.intro | with_reducible intro _)
    all_goals first
      | (with_reducible exact rfl)
      | omega
      | assumption
      | contradiction
      | (rename trF _ _ _ ∧ _ => q9; exact absurd q9.1.1 hs)
      | (with_reducible exact Or.inl trivial)
      | (with_reducible exact Or.inr trivial)
      | (exact (ha _ (by assumption)).2)
      | (exact (ha _ hs).2)
      | (with_reducible exact ⟨hpz, hwc⟩)
      | (with_reducible exact hqu)
      | (with_reducible exact shD_n (by omega))
      | (with_reducible exact avD_nn (by first | exact hW _ (by assumption) | exact hW _ hs))
      | (exact hnn)
      | (rename frF [27] [] z _ => fr0
         have hI := lwI_0 h fr0 (by simp)
         have fr := fr0
         have e40 := fr.1 40 (by first | decide | (simp))
         have e39 := fr.1 39 (by first | decide | (simp))
         have e43 := fr.1 43 (by first | decide | (simp))
         have e44 := fr.1 44 (by first | decide | (simp))
         have e52 := fr.1 52 (by first | decide | (simp))
         have hsm := hI.2.2.2.2.2.2.2.2
         refine H _ _ (fun Q2 f => ?_)
         simp only [C_X10_firstRun, e40, e39, e43, e44, true_and]
         (repeat' first | with_reducible apply And.intro | with_reducible intro _)
         all_goals first
           | (with_reducible exact rfl)
           | omega
           | assumption
           | contradiction
           | (rename trF _ _ _ ∧ _ => q9; exact absurd q9.1.1 hs)
           | (with_reducible exact Or.inl trivial)
           | (with_reducible exact Or.inr trivial)
           | (exact hW _ (by assumption))
           | (exact hW)
           | (exact hsm)
           | (exact f _ _ up_p (fun q => absurd q (by decide)) (lwI_u (lwI_o hI)))
           | (rename frF [39] [47] _ _ => fr2
              have fr3 := fr2
              exact f _ _ (by assumption) (fun _ => ⟨((congrFun (fr2.2.1 58 (by simp)) 0).trans up_q), rl_of (by assumption)⟩) (lwI_r (z := (_, _)) (lwI_o hI) fr3 (by simp) (fun j hj => by first | (rename ∀ j, j ≠ 8 → _ => g; first | exact (g j (by omega)).trans (congrFun e39.symm j) | exact g j (by omega)) | (rename ∀ j, j ≠ 28 → j ≠ 8 → _ => g; first | exact (g j (by omega) (by omega)).trans (congrFun e39.symm j) | exact g j (by omega) (by omega)))))
           | (rename frF [39] [47] _ _ => fr2
              have fr3 := fr2
              exact f _ _ (by assumption) (fun q => absurd q (by decide)) (lwI_r (z := (_, _)) (lwI_o hI) fr3 (by simp) (fun j hj => by first | (rename ∀ j, j ≠ 8 → _ => g; first | exact (g j (by omega)).trans (congrFun e39.symm j) | exact g j (by omega)) | (rename ∀ j, j ≠ 28 → j ≠ 8 → _ => g; first | exact (g j (by omega) (by omega)).trans (congrFun e39.symm j) | exact g j (by omega) (by omega))))))
      | (refine H _ _ (fun Q2 f => ?_)
         simp only [C_X10_firstRun, true_and]
         (repeat' first | with_reducible apply And.intro | with_reducible intro _)
         all_goals first
           | (with_reducible exact rfl)
           | omega
           | assumption
           | contradiction
           | (rename trF _ _ _ ∧ _ => q9; exact absurd q9.1.1 hs)
           | (with_reducible exact Or.inl trivial)
           | (with_reducible exact Or.inr trivial)
           | (exact hW _ (by assumption))
           | (exact hW)
           | (exact f _ _ up_p (fun _ => ⟨up_q, rl_of (by assumption)⟩) (lwI_u h))
           | (exact f _ _ up_p (fun q => absurd q (by decide)) (lwI_u h))
           | (rename frF [39] [47] _ _ => fr2
              have fr3 := fr2
              have hI := h
              exact f _ _ (by assumption) (fun q => absurd q (by decide)) (lwI_r (z := (_, _)) (lwI_o hI) fr3 (by simp) (fun j hj => by first | (rename ∀ j, j ≠ 8 → _ => g; first | exact (g j (by omega)).trans (congrFun e39.symm j) | exact g j (by omega)) | (rename ∀ j, j ≠ 28 → j ≠ 8 → _ => g; first | exact (g j (by omega) (by omega)).trans (congrFun e39.symm j) | exact g j (by omega) (by omega))))))
set_option maxRecDepth 100000 in
set_option maxHeartbeats 4000000 in
theorem lc_deterministicStates {z : pvM} {s : Int} (h : lwI z) {Q : pvO → pvM → Prop} (H : ∀ (k : Int) (z1 : pvM), (∀ Q2 : pvO → pvM → Prop, (∀ b z2, z2.1 39 8 = k → (k = 0 → z2.2.1 58 0 = b ∧ pvRL b) → lwI z2 → Q2 (.inl (some (vI b))) z2) → C_X10_deterministicStates [vR 39, vI s] z1 Q2) → Q (.inl (some (vI k))) z1) : C_L_deterministicStates [vR 0, vI s, vR 58] z Q := by
  have ha := h.1
  have hW := lw_W h
  have hwc := lw_wc h
  have hwd := lw_wd h
  have h7 : z.1 20 4 = z.1 39 7 := h.2.2.1.2.1
  have hag := lw_ag h
  rw [h7] at hag
  have hn := hwd.1
  have hpz : pzF z := h.2.2.2.2.2.1
  have hqu : ∃ L, quF z L := h.2.2.2.2.2.2.1
  have hem : psS z 13 emA := h.2.2.2.2.2.2.2.1
  have hsm : smP z := h.2.2.2.2.2.2.2.2
  by_cases hs : 0 ≤ s ∧ s ≤ 1
  · skip
    simp only [C_L_deterministicStates, C_X9_deterministicStates, wrI, if_true, if_false, reduceIte, Int.reduceEq, List.mem_cons, List.not_mem_nil, or_false, true_and, and_true, hf_0_0, hf_01_0, hf_01_1, hf_03_0, hf_03_3, hf_12_1, hf_12_2, hf_012_0, hf_012_1, hf_012_2, hf_2_2, (ha s hs).1]
    (repeat' first | with_reducible apply And.intro | with_reducible intro _)
    all_goals first
      | (with_reducible exact rfl)
      | omega
      | assumption
      | contradiction
      | (rename trF _ _ _ ∧ _ => q9; exact absurd q9.1.1 hs)
      | (with_reducible exact Or.inl trivial)
      | (with_reducible exact Or.inr trivial)
      | (exact (ha _ (by assumption)).2)
      | (exact (ha _ hs).2)
      | (with_reducible exact ⟨hpz, hwc⟩)
      | (with_reducible exact hqu)
      | (with_reducible exact shD_n (by omega))
      | (with_reducible exact avD_nn (by first | exact hW _ (by assumption) | exact hW _ hs))
      | (exact hnn)
      | (rename pyF z s _ => fr0
         have hI := lwI_p h (py_de fr0)
         have fr := (py_de fr0).1
         have e40 := fr.1 40 (by first | decide | (simp))
         have e39 := fr.1 39 (by first | decide | (simp))
         have e43 := fr.1 43 (by first | decide | (simp))
         have e44 := fr.1 44 (by first | decide | (simp))
         have e52 := fr.1 52 (by first | decide | (simp))
         have hsm := hI.2.2.2.2.2.2.2.2
         refine H _ _ (fun Q2 f => ?_)
         simp only [C_X10_deterministicStates, e40, e39, e43, e44, true_and]
         (repeat' first | with_reducible apply And.intro | with_reducible intro _)
         all_goals first
           | (with_reducible exact rfl)
           | omega
           | assumption
           | contradiction
           | (rename trF _ _ _ ∧ _ => q9; exact absurd q9.1.1 hs)
           | (with_reducible exact Or.inl trivial)
           | (with_reducible exact Or.inr trivial)
           | (exact hW _ (by assumption))
           | (exact hW)
           | (exact hsm)
           | (exact f _ _ up_p (fun q => absurd q (by decide)) (lwI_u (lwI_o hI)))
           | (rename deF _ _ => fr2
              have fr3 := fr2
              replace fr2 := fr2.1
              exact f _ _ (by assumption) (fun _ => ⟨((congrFun (fr2.2.1 58 (by simp)) 0).trans up_q), rl_of (by assumption)⟩) (lwI_d (z := (_, _)) (lwI_o hI) fr3))
           | (rename deF _ _ => fr2
              have fr3 := fr2
              replace fr2 := fr2.1
              exact f _ _ (by assumption) (fun q => absurd q (by decide)) (lwI_d (z := (_, _)) (lwI_o hI) fr3)))
      | (refine H _ _ (fun Q2 f => ?_)
         simp only [C_X10_deterministicStates, true_and]
         (repeat' first | with_reducible apply And.intro | with_reducible intro _)
         all_goals first
           | (with_reducible exact rfl)
           | omega
           | assumption
           | contradiction
           | (rename trF _ _ _ ∧ _ => q9; exact absurd q9.1.1 hs)
           | (with_reducible exact Or.inl trivial)
           | (with_reducible exact Or.inr trivial)
           | (exact hW _ (by assumption))
           | (exact hW)
           | (exact f _ _ up_p (fun _ => ⟨up_q, rl_of (by assumption)⟩) (lwI_u h))
           | (exact f _ _ up_p (fun q => absurd q (by decide)) (lwI_u h))
           | (rename deF _ _ => fr2
              have fr3 := fr2
              have hI := h
              exact f _ _ (by assumption) (fun q => absurd q (by decide)) (lwI_d (z := (_, _)) (lwI_o hI) fr3)))
  · skip
    simp only [C_L_deterministicStates, C_X9_deterministicStates, wrI, if_true, if_false, reduceIte, Int.reduceEq, List.mem_cons, List.not_mem_nil, or_false, true_and, and_true, hf_0_0, hf_01_0, hf_01_1, hf_03_0, hf_03_3, hf_12_1, hf_12_2, hf_012_0, hf_012_1, hf_012_2, hf_2_2]
    (repeat' first | with_reducible apply And.intro | with_reducible intro _)
    all_goals first
      | (with_reducible exact rfl)
      | omega
      | assumption
      | contradiction
      | (rename trF _ _ _ ∧ _ => q9; exact absurd q9.1.1 hs)
      | (with_reducible exact Or.inl trivial)
      | (with_reducible exact Or.inr trivial)
      | (exact (ha _ (by assumption)).2)
      | (exact (ha _ hs).2)
      | (with_reducible exact ⟨hpz, hwc⟩)
      | (with_reducible exact hqu)
      | (with_reducible exact shD_n (by omega))
      | (with_reducible exact avD_nn (by first | exact hW _ (by assumption) | exact hW _ hs))
      | (exact hnn)
      | (rename pyF z s _ => fr0
         have hI := lwI_p h (py_de fr0)
         have fr := (py_de fr0).1
         have e40 := fr.1 40 (by first | decide | (simp))
         have e39 := fr.1 39 (by first | decide | (simp))
         have e43 := fr.1 43 (by first | decide | (simp))
         have e44 := fr.1 44 (by first | decide | (simp))
         have e52 := fr.1 52 (by first | decide | (simp))
         have hsm := hI.2.2.2.2.2.2.2.2
         refine H _ _ (fun Q2 f => ?_)
         simp only [C_X10_deterministicStates, e40, e39, e43, e44, true_and]
         (repeat' first | with_reducible apply And.intro | with_reducible intro _)
         all_goals first
           | (with_reducible exact rfl)
           | omega
           | assumption
           | contradiction
           | (rename trF _ _ _ ∧ _ => q9; exact absurd q9.1.1 hs)
           | (with_reducible exact Or.inl trivial)
           | (with_reducible exact Or.inr trivial)
           | (exact hW _ (by assumption))
           | (exact hW)
           | (exact hsm)
           | (exact f _ _ up_p (fun q => absurd q (by decide)) (lwI_u (lwI_o hI)))
           | (rename deF _ _ => fr2
              have fr3 := fr2
              replace fr2 := fr2.1
              exact f _ _ (by assumption) (fun _ => ⟨((congrFun (fr2.2.1 58 (by simp)) 0).trans up_q), rl_of (by assumption)⟩) (lwI_d (z := (_, _)) (lwI_o hI) fr3))
           | (rename deF _ _ => fr2
              have fr3 := fr2
              replace fr2 := fr2.1
              exact f _ _ (by assumption) (fun q => absurd q (by decide)) (lwI_d (z := (_, _)) (lwI_o hI) fr3)))
      | (refine H _ _ (fun Q2 f => ?_)
         simp only [C_X10_deterministicStates, true_and]
         (repeat' first | with_reducible apply And.intro | with_reducible intro _)
         all_goals first
           | (with_reducible exact rfl)
           | omega
           | assumption
           | contradiction
           | (rename trF _ _ _ ∧ _ => q9; exact absurd q9.1.1 hs)
           | (with_reducible exact Or.inl trivial)
           | (with_reducible exact Or.inr trivial)
           | (exact hW _ (by assumption))
           | (exact hW)
           | (exact f _ _ up_p (fun _ => ⟨up_q, rl_of (by assumption)⟩) (lwI_u h))
           | (exact f _ _ up_p (fun q => absurd q (by decide)) (lwI_u h))
           | (rename deF _ _ => fr2
              have fr3 := fr2
              have hI := h
              exact f _ _ (by assumption) (fun q => absurd q (by decide)) (lwI_d (z := (_, _)) (lwI_o hI) fr3)))
set_option maxRecDepth 100000 in
set_option maxHeartbeats 4000000 in
theorem lc_deterministicSet {z : pvM} {s i : Int} (h : lwI z) {Q : pvO → pvM → Prop} (H : ∀ (k : Int) (z1 : pvM), (∀ Q2 : pvO → pvM → Prop, (∀ b z2, z2.1 39 8 = k → (k = 0 → z2.2.1 58 0 = b ∧ pvRL b) → lwI z2 → Q2 (.inl (some (vI b))) z2) → C_X10_deterministicSet [vR 39, vI s, vI i] z1 Q2) → Q (.inl (some (vI k))) z1) : C_L_deterministicSet [vR 0, vI s, vI i, vR 58] z Q := by
  have ha := h.1
  have hW := lw_W h
  have hwc := lw_wc h
  have hwd := lw_wd h
  have h7 : z.1 20 4 = z.1 39 7 := h.2.2.1.2.1
  have hag := lw_ag h
  rw [h7] at hag
  have hn := hwd.1
  have hpz : pzF z := h.2.2.2.2.2.1
  have hqu : ∃ L, quF z L := h.2.2.2.2.2.2.1
  have hem : psS z 13 emA := h.2.2.2.2.2.2.2.1
  have hsm : smP z := h.2.2.2.2.2.2.2.2
  by_cases hs : 0 ≤ s ∧ s ≤ 1
  · skip
    simp only [C_L_deterministicSet, C_X9_deterministicSet, wrI, if_true, if_false, reduceIte, Int.reduceEq, List.mem_cons, List.not_mem_nil, or_false, true_and, and_true, hf_0_0, hf_01_0, hf_01_1, hf_03_0, hf_03_3, hf_12_1, hf_12_2, hf_012_0, hf_012_1, hf_012_2, hf_2_2, (ha s hs).1]
    (repeat' first | with_reducible apply And.intro | with_reducible intro _)
    all_goals first
      | (with_reducible exact rfl)
      | omega
      | assumption
      | contradiction
      | (rename trF _ _ _ ∧ _ => q9; exact absurd q9.1.1 hs)
      | (with_reducible exact Or.inl trivial)
      | (with_reducible exact Or.inr trivial)
      | (exact (ha _ (by assumption)).2)
      | (exact (ha _ hs).2)
      | (with_reducible exact ⟨hpz, hwc⟩)
      | (with_reducible exact hqu)
      | (with_reducible exact shD_n (by omega))
      | (with_reducible exact avD_nn (by first | exact hW _ (by assumption) | exact hW _ hs))
      | (exact hnn)
      | (rename pyF z s _ => fr0
         have hI := lwI_p h (py_de fr0)
         have fr := (py_de fr0).1
         have e40 := fr.1 40 (by first | decide | (simp))
         have e39 := fr.1 39 (by first | decide | (simp))
         have e43 := fr.1 43 (by first | decide | (simp))
         have e44 := fr.1 44 (by first | decide | (simp))
         have e52 := fr.1 52 (by first | decide | (simp))
         have hsm := hI.2.2.2.2.2.2.2.2
         refine H _ _ (fun Q2 f => ?_)
         simp only [C_X10_deterministicSet, e40, e39, e43, e44, true_and]
         (repeat' first | with_reducible apply And.intro | with_reducible intro _)
         all_goals first
           | (with_reducible exact rfl)
           | omega
           | assumption
           | contradiction
           | (rename trF _ _ _ ∧ _ => q9; exact absurd q9.1.1 hs)
           | (with_reducible exact Or.inl trivial)
           | (with_reducible exact Or.inr trivial)
           | (exact hW _ (by assumption))
           | (exact hW)
           | (exact hsm)
           | (exact f _ _ up_p (fun q => absurd q (by decide)) (lwI_u (lwI_o hI)))
           | (rename deF _ _ => fr2
              have fr3 := fr2
              replace fr2 := fr2.1
              exact f _ _ (by assumption) (fun _ => ⟨((congrFun (fr2.2.1 58 (by simp)) 0).trans up_q), rl_of (by assumption)⟩) (lwI_d (z := (_, _)) (lwI_o hI) fr3))
           | (rename deF _ _ => fr2
              have fr3 := fr2
              replace fr2 := fr2.1
              exact f _ _ (by assumption) (fun q => absurd q (by decide)) (lwI_d (z := (_, _)) (lwI_o hI) fr3)))
      | (refine H _ _ (fun Q2 f => ?_)
         simp only [C_X10_deterministicSet, true_and]
         (repeat' first | with_reducible apply And.intro | with_reducible intro _)
         all_goals first
           | (with_reducible exact rfl)
           | omega
           | assumption
           | contradiction
           | (rename trF _ _ _ ∧ _ => q9; exact absurd q9.1.1 hs)
           | (with_reducible exact Or.inl trivial)
           | (with_reducible exact Or.inr trivial)
           | (exact hW _ (by assumption))
           | (exact hW)
           | (exact f _ _ up_p (fun _ => ⟨up_q, rl_of (by assumption)⟩) (lwI_u h))
           | (exact f _ _ up_p (fun q => absurd q (by decide)) (lwI_u h))
           | (rename deF _ _ => fr2
              have fr3 := fr2
              have hI := h
              exact f _ _ (by assumption) (fun q => absurd q (by decide)) (lwI_d (z := (_, _)) (lwI_o hI) fr3)))
  · skip
    simp only [C_L_deterministicSet, C_X9_deterministicSet, wrI, if_true, if_false, reduceIte, Int.reduceEq, List.mem_cons, List.not_mem_nil, or_false, true_and, and_true, hf_0_0, hf_01_0, hf_01_1, hf_03_0, hf_03_3, hf_12_1, hf_12_2, hf_012_0, hf_012_1, hf_012_2, hf_2_2]
    (repeat' first | with_reducible apply And.intro | with_reducible intro _)
    all_goals first
      | (with_reducible exact rfl)
      | omega
      | assumption
      | contradiction
      | (rename trF _ _ _ ∧ _ => q9; exact absurd q9.1.1 hs)
      | (with_reducible exact Or.inl trivial)
      | (with_reducible exact Or.inr trivial)
      | (exact (ha _ (by assumption)).2)
      | (exact (ha _ hs).2)
      | (with_reducible exact ⟨hpz, hwc⟩)
      | (with_reducible exact hqu)
      | (with_reducible exact shD_n (by omega))
      | (with_reducible exact avD_nn (by first | exact hW _ (by assumption) | exact hW _ hs))
      | (exact hnn)
      | (rename pyF z s _ => fr0
         have hI := lwI_p h (py_de fr0)
         have fr := (py_de fr0).1
         have e40 := fr.1 40 (by first | decide | (simp))
         have e39 := fr.1 39 (by first | decide | (simp))
         have e43 := fr.1 43 (by first | decide | (simp))
         have e44 := fr.1 44 (by first | decide | (simp))
         have e52 := fr.1 52 (by first | decide | (simp))
         have hsm := hI.2.2.2.2.2.2.2.2
         refine H _ _ (fun Q2 f => ?_)
         simp only [C_X10_deterministicSet, e40, e39, e43, e44, true_and]
         (repeat' first | with_reducible apply And.intro | with_reducible intro _)
         all_goals first
           | (with_reducible exact rfl)
           | omega
           | assumption
           | contradiction
           | (rename trF _ _ _ ∧ _ => q9; exact absurd q9.1.1 hs)
           | (with_reducible exact Or.inl trivial)
           | (with_reducible exact Or.inr trivial)
           | (exact hW _ (by assumption))
           | (exact hW)
           | (exact hsm)
           | (exact f _ _ up_p (fun q => absurd q (by decide)) (lwI_u (lwI_o hI)))
           | (rename deF _ _ => fr2
              have fr3 := fr2
              replace fr2 := fr2.1
              exact f _ _ (by assumption) (fun _ => ⟨((congrFun (fr2.2.1 58 (by simp)) 0).trans up_q), rl_of (by assumption)⟩) (lwI_d (z := (_, _)) (lwI_o hI) fr3))
           | (rename deF _ _ => fr2
              have fr3 := fr2
              replace fr2 := fr2.1
              exact f _ _ (by assumption) (fun q => absurd q (by decide)) (lwI_d (z := (_, _)) (lwI_o hI) fr3)))
      | (refine H _ _ (fun Q2 f => ?_)
         simp only [C_X10_deterministicSet, true_and]
         (repeat' first | with_reducible apply And.intro | with_reducible intro _)
         all_goals first
           | (with_reducible exact rfl)
           | omega
           | assumption
           | contradiction
           | (rename trF _ _ _ ∧ _ => q9; exact absurd q9.1.1 hs)
           | (with_reducible exact Or.inl trivial)
           | (with_reducible exact Or.inr trivial)
           | (exact hW _ (by assumption))
           | (exact hW)
           | (exact f _ _ up_p (fun _ => ⟨up_q, rl_of (by assumption)⟩) (lwI_u h))
           | (exact f _ _ up_p (fun q => absurd q (by decide)) (lwI_u h))
           | (rename deF _ _ => fr2
              have fr3 := fr2
              have hI := h
              exact f _ _ (by assumption) (fun q => absurd q (by decide)) (lwI_d (z := (_, _)) (lwI_o hI) fr3)))
set_option maxRecDepth 100000 in
set_option maxHeartbeats 4000000 in
theorem lc_branches {z : pvM} {s i a : Int} (h : lwI z) {Q : pvO → pvM → Prop} (H : ∀ (k : Int) (z1 : pvM), (∀ Q2 : pvO → pvM → Prop, (∀ b z2, z2.1 39 8 = k → (k = 0 → z2.2.1 58 0 = b ∧ pvRL b) → lwI z2 → Q2 (.inl (some (vI b))) z2) → C_X10_branches [vR 39, vI s, vI i, vI a] z1 Q2) → Q (.inl (some (vI k))) z1) : C_L_branches [vR 0, vI s, vI i, vI a, vR 58] z Q := by
  have ha := h.1
  have hW := lw_W h
  have hwc := lw_wc h
  have hwd := lw_wd h
  have h7 : z.1 20 4 = z.1 39 7 := h.2.2.1.2.1
  have hag := lw_ag h
  rw [h7] at hag
  have hn := hwd.1
  have hpz : pzF z := h.2.2.2.2.2.1
  have hqu : ∃ L, quF z L := h.2.2.2.2.2.2.1
  have hem : psS z 13 emA := h.2.2.2.2.2.2.2.1
  have hsm : smP z := h.2.2.2.2.2.2.2.2
  by_cases hs : 0 ≤ s ∧ s ≤ 1
  · skip
    simp only [C_L_branches, C_X9_branches, wrI, if_true, if_false, reduceIte, Int.reduceEq, List.mem_cons, List.not_mem_nil, or_false, true_and, and_true, hf_0_0, hf_01_0, hf_01_1, hf_03_0, hf_03_3, hf_12_1, hf_12_2, hf_012_0, hf_012_1, hf_012_2, hf_2_2, (ha s hs).1]
    (repeat' first | with_reducible apply And.intro | with_reducible intro _)
    all_goals first
      | (with_reducible exact rfl)
      | omega
      | assumption
      | contradiction
      | (rename trF _ _ _ ∧ _ => q9; exact absurd q9.1.1 hs)
      | (with_reducible exact Or.inl trivial)
      | (with_reducible exact Or.inr trivial)
      | (exact (ha _ (by assumption)).2)
      | (exact (ha _ hs).2)
      | (with_reducible exact ⟨hpz, hwc⟩)
      | (with_reducible exact hqu)
      | (with_reducible exact shD_n (by omega))
      | (with_reducible exact avD_nn (by first | exact hW _ (by assumption) | exact hW _ hs))
      | (exact hnn)
      | (rename pyF z s _ => fr0
         have hI := lwI_p h (py_de fr0)
         have fr := (py_de fr0).1
         have e40 := fr.1 40 (by first | decide | (simp))
         have e39 := fr.1 39 (by first | decide | (simp))
         have e43 := fr.1 43 (by first | decide | (simp))
         have e44 := fr.1 44 (by first | decide | (simp))
         have e52 := fr.1 52 (by first | decide | (simp))
         have hsm := hI.2.2.2.2.2.2.2.2
         refine H _ _ (fun Q2 f => ?_)
         simp only [C_X10_branches, e40, e39, e43, e44, true_and, abF, bzF]
         (repeat' first | with_reducible apply And.intro | with_reducible intro _)
         all_goals first
           | (with_reducible exact rfl)
           | omega
           | assumption
           | contradiction
           | (rename trF _ _ _ ∧ _ => q9; exact absurd q9.1.1 hs)
           | (with_reducible exact Or.inl trivial)
           | (with_reducible exact Or.inr trivial)
           | (exact hW _ (by assumption))
           | (exact hW)
           | (exact hsm)
           | (exact f _ _ up_p (fun q => absurd q (by decide)) (lwI_u (lwI_o hI)))
           | (rename deF _ _ => fr2
              have fr3 := fr2
              replace fr2 := fr2.1
              exact f _ _ (by assumption) (fun _ => ⟨((congrFun (fr2.2.1 58 (by simp)) 0).trans up_q), rl_of (by assumption)⟩) (lwI_d (z := (_, _)) (lwI_o hI) fr3))
           | (rename deF _ _ => fr2
              have fr3 := fr2
              replace fr2 := fr2.1
              exact f _ _ (by assumption) (fun q => absurd q (by decide)) (lwI_d (z := (_, _)) (lwI_o hI) fr3)))
      | (refine H _ _ (fun Q2 f => ?_)
         simp only [C_X10_branches, true_and, abF, bzF]
         (repeat' first | with_reducible apply And.intro | with_reducible intro _)
         all_goals first
           | (with_reducible exact rfl)
           | omega
           | assumption
           | contradiction
           | (rename trF _ _ _ ∧ _ => q9; exact absurd q9.1.1 hs)
           | (with_reducible exact Or.inl trivial)
           | (with_reducible exact Or.inr trivial)
           | (exact hW _ (by assumption))
           | (exact hW)
           | (exact f _ _ up_p (fun _ => ⟨up_q, rl_of (by assumption)⟩) (lwI_u h))
           | (exact f _ _ up_p (fun q => absurd q (by decide)) (lwI_u h))
           | (rename deF _ _ => fr2
              have fr3 := fr2
              have hI := h
              exact f _ _ (by assumption) (fun q => absurd q (by decide)) (lwI_d (z := (_, _)) (lwI_o hI) fr3)))
  · skip
    simp only [C_L_branches, C_X9_branches, wrI, if_true, if_false, reduceIte, Int.reduceEq, List.mem_cons, List.not_mem_nil, or_false, true_and, and_true, hf_0_0, hf_01_0, hf_01_1, hf_03_0, hf_03_3, hf_12_1, hf_12_2, hf_012_0, hf_012_1, hf_012_2, hf_2_2]
    (repeat' first | with_reducible apply And.intro | with_reducible intro _)
    all_goals first
      | (with_reducible exact rfl)
      | omega
      | assumption
      | contradiction
      | (rename trF _ _ _ ∧ _ => q9; exact absurd q9.1.1 hs)
      | (with_reducible exact Or.inl trivial)
      | (with_reducible exact Or.inr trivial)
      | (exact (ha _ (by assumption)).2)
      | (exact (ha _ hs).2)
      | (with_reducible exact ⟨hpz, hwc⟩)
      | (with_reducible exact hqu)
      | (with_reducible exact shD_n (by omega))
      | (with_reducible exact avD_nn (by first | exact hW _ (by assumption) | exact hW _ hs))
      | (exact hnn)
      | (rename pyF z s _ => fr0
         have hI := lwI_p h (py_de fr0)
         have fr := (py_de fr0).1
         have e40 := fr.1 40 (by first | decide | (simp))
         have e39 := fr.1 39 (by first | decide | (simp))
         have e43 := fr.1 43 (by first | decide | (simp))
         have e44 := fr.1 44 (by first | decide | (simp))
         have e52 := fr.1 52 (by first | decide | (simp))
         have hsm := hI.2.2.2.2.2.2.2.2
         refine H _ _ (fun Q2 f => ?_)
         simp only [C_X10_branches, e40, e39, e43, e44, true_and, abF, bzF]
         (repeat' first | with_reducible apply And.intro | with_reducible intro _)
         all_goals first
           | (with_reducible exact rfl)
           | omega
           | assumption
           | contradiction
           | (rename trF _ _ _ ∧ _ => q9; exact absurd q9.1.1 hs)
           | (with_reducible exact Or.inl trivial)
           | (with_reducible exact Or.inr trivial)
           | (exact hW _ (by assumption))
           | (exact hW)
           | (exact hsm)
           | (exact f _ _ up_p (fun q => absurd q (by decide)) (lwI_u (lwI_o hI)))
           | (rename deF _ _ => fr2
              have fr3 := fr2
              replace fr2 := fr2.1
              exact f _ _ (by assumption) (fun _ => ⟨((congrFun (fr2.2.1 58 (by simp)) 0).trans up_q), rl_of (by assumption)⟩) (lwI_d (z := (_, _)) (lwI_o hI) fr3))
           | (rename deF _ _ => fr2
              have fr3 := fr2
              replace fr2 := fr2.1
              exact f _ _ (by assumption) (fun q => absurd q (by decide)) (lwI_d (z := (_, _)) (lwI_o hI) fr3)))
      | (refine H _ _ (fun Q2 f => ?_)
         simp only [C_X10_branches, true_and, abF, bzF]
         (repeat' first | with_reducible apply And.intro | with_reducible intro _)
         all_goals first
           | (with_reducible exact rfl)
           | omega
           | assumption
           | contradiction
           | (rename trF _ _ _ ∧ _ => q9; exact absurd q9.1.1 hs)
           | (with_reducible exact Or.inl trivial)
           | (with_reducible exact Or.inr trivial)
           | (exact hW _ (by assumption))
           | (exact hW)
           | (exact f _ _ up_p (fun _ => ⟨up_q, rl_of (by assumption)⟩) (lwI_u h))
           | (exact f _ _ up_p (fun q => absurd q (by decide)) (lwI_u h))
           | (rename deF _ _ => fr2
              have fr3 := fr2
              have hI := h
              exact f _ _ (by assumption) (fun q => absurd q (by decide)) (lwI_d (z := (_, _)) (lwI_o hI) fr3)))
set_option maxRecDepth 100000 in
set_option maxHeartbeats 4000000 in
theorem lc_branchTarget {z : pvM} {s i a b0 : Int} (h : lwI z) {Q : pvO → pvM → Prop} (H : ∀ (k : Int) (z1 : pvM), (∀ Q2 : pvO → pvM → Prop, (∀ b z2, z2.1 39 8 = k → (k = 0 → z2.2.1 58 0 = b ∧ pvRL b) → lwI z2 → Q2 (.inl (some (vI b))) z2) → C_X10_branchTarget [vR 39, vI s, vI i, vI a, vI b0] z1 Q2) → Q (.inl (some (vI k))) z1) : C_L_branchTarget [vR 0, vI s, vI i, vI a, vI b0, vR 58] z Q := by
  have ha := h.1
  have hW := lw_W h
  have hwc := lw_wc h
  have hwd := lw_wd h
  have h7 : z.1 20 4 = z.1 39 7 := h.2.2.1.2.1
  have hag := lw_ag h
  rw [h7] at hag
  have hn := hwd.1
  have hpz : pzF z := h.2.2.2.2.2.1
  have hqu : ∃ L, quF z L := h.2.2.2.2.2.2.1
  have hem : psS z 13 emA := h.2.2.2.2.2.2.2.1
  have hsm : smP z := h.2.2.2.2.2.2.2.2
  by_cases hs : 0 ≤ s ∧ s ≤ 1
  · skip
    simp only [C_L_branchTarget, C_X9_branchTarget, wrI, if_true, if_false, reduceIte, Int.reduceEq, List.mem_cons, List.not_mem_nil, or_false, true_and, and_true, hf_0_0, hf_01_0, hf_01_1, hf_03_0, hf_03_3, hf_12_1, hf_12_2, hf_012_0, hf_012_1, hf_012_2, hf_2_2, (ha s hs).1]
    (repeat' first | with_reducible apply And.intro | with_reducible intro _)
    all_goals first
      | (with_reducible exact rfl)
      | omega
      | assumption
      | contradiction
      | (rename trF _ _ _ ∧ _ => q9; exact absurd q9.1.1 hs)
      | (with_reducible exact Or.inl trivial)
      | (with_reducible exact Or.inr trivial)
      | (exact (ha _ (by assumption)).2)
      | (exact (ha _ hs).2)
      | (with_reducible exact ⟨hpz, hwc⟩)
      | (with_reducible exact hqu)
      | (with_reducible exact shD_n (by omega))
      | (with_reducible exact avD_nn (by first | exact hW _ (by assumption) | exact hW _ hs))
      | (exact hnn)
      | (rename pyF z s _ => fr0
         have hI := lwI_p h (py_de fr0)
         have fr := (py_de fr0).1
         have e40 := fr.1 40 (by first | decide | (simp))
         have e39 := fr.1 39 (by first | decide | (simp))
         have e43 := fr.1 43 (by first | decide | (simp))
         have e44 := fr.1 44 (by first | decide | (simp))
         have e52 := fr.1 52 (by first | decide | (simp))
         have hsm := hI.2.2.2.2.2.2.2.2
         refine H _ _ (fun Q2 f => ?_)
         simp only [C_X10_branchTarget, e40, e39, e43, e44, true_and, abF, bzF]
         (repeat' first | with_reducible apply And.intro | with_reducible intro _)
         all_goals first
           | (with_reducible exact rfl)
           | omega
           | assumption
           | contradiction
           | (rename trF _ _ _ ∧ _ => q9; exact absurd q9.1.1 hs)
           | (with_reducible exact Or.inl trivial)
           | (with_reducible exact Or.inr trivial)
           | (exact hW _ (by assumption))
           | (exact hW)
           | (exact hsm)
           | (exact f _ _ up_p (fun q => absurd q (by decide)) (lwI_u (lwI_o hI)))
           | (rename deF _ _ => fr2
              have fr3 := fr2
              replace fr2 := fr2.1
              exact f _ _ (by assumption) (fun _ => ⟨((congrFun (fr2.2.1 58 (by simp)) 0).trans up_q), rl_of (by assumption)⟩) (lwI_d (z := (_, _)) (lwI_o hI) fr3))
           | (rename deF _ _ => fr2
              have fr3 := fr2
              replace fr2 := fr2.1
              exact f _ _ (by assumption) (fun q => absurd q (by decide)) (lwI_d (z := (_, _)) (lwI_o hI) fr3)))
      | (refine H _ _ (fun Q2 f => ?_)
         simp only [C_X10_branchTarget, true_and, abF, bzF]
         (repeat' first | with_reducible apply And.intro | with_reducible intro _)
         all_goals first
           | (with_reducible exact rfl)
           | omega
           | assumption
           | contradiction
           | (rename trF _ _ _ ∧ _ => q9; exact absurd q9.1.1 hs)
           | (with_reducible exact Or.inl trivial)
           | (with_reducible exact Or.inr trivial)
           | (exact hW _ (by assumption))
           | (exact hW)
           | (exact f _ _ up_p (fun _ => ⟨up_q, rl_of (by assumption)⟩) (lwI_u h))
           | (exact f _ _ up_p (fun q => absurd q (by decide)) (lwI_u h))
           | (rename deF _ _ => fr2
              have fr3 := fr2
              have hI := h
              exact f _ _ (by assumption) (fun q => absurd q (by decide)) (lwI_d (z := (_, _)) (lwI_o hI) fr3)))
  · skip
    simp only [C_L_branchTarget, C_X9_branchTarget, wrI, if_true, if_false, reduceIte, Int.reduceEq, List.mem_cons, List.not_mem_nil, or_false, true_and, and_true, hf_0_0, hf_01_0, hf_01_1, hf_03_0, hf_03_3, hf_12_1, hf_12_2, hf_012_0, hf_012_1, hf_012_2, hf_2_2]
    (repeat' first | with_reducible apply And.intro | with_reducible intro _)
    all_goals first
      | (with_reducible exact rfl)
      | omega
      | assumption
      | contradiction
      | (rename trF _ _ _ ∧ _ => q9; exact absurd q9.1.1 hs)
      | (with_reducible exact Or.inl trivial)
      | (with_reducible exact Or.inr trivial)
      | (exact (ha _ (by assumption)).2)
      | (exact (ha _ hs).2)
      | (with_reducible exact ⟨hpz, hwc⟩)
      | (with_reducible exact hqu)
      | (with_reducible exact shD_n (by omega))
      | (with_reducible exact avD_nn (by first | exact hW _ (by assumption) | exact hW _ hs))
      | (exact hnn)
      | (rename pyF z s _ => fr0
         have hI := lwI_p h (py_de fr0)
         have fr := (py_de fr0).1
         have e40 := fr.1 40 (by first | decide | (simp))
         have e39 := fr.1 39 (by first | decide | (simp))
         have e43 := fr.1 43 (by first | decide | (simp))
         have e44 := fr.1 44 (by first | decide | (simp))
         have e52 := fr.1 52 (by first | decide | (simp))
         have hsm := hI.2.2.2.2.2.2.2.2
         refine H _ _ (fun Q2 f => ?_)
         simp only [C_X10_branchTarget, e40, e39, e43, e44, true_and, abF, bzF]
         (repeat' first | with_reducible apply And.intro | with_reducible intro _)
         all_goals first
           | (with_reducible exact rfl)
           | omega
           | assumption
           | contradiction
           | (rename trF _ _ _ ∧ _ => q9; exact absurd q9.1.1 hs)
           | (with_reducible exact Or.inl trivial)
           | (with_reducible exact Or.inr trivial)
           | (exact hW _ (by assumption))
           | (exact hW)
           | (exact hsm)
           | (exact f _ _ up_p (fun q => absurd q (by decide)) (lwI_u (lwI_o hI)))
           | (rename deF _ _ => fr2
              have fr3 := fr2
              replace fr2 := fr2.1
              exact f _ _ (by assumption) (fun _ => ⟨((congrFun (fr2.2.1 58 (by simp)) 0).trans up_q), rl_of (by assumption)⟩) (lwI_d (z := (_, _)) (lwI_o hI) fr3))
           | (rename deF _ _ => fr2
              have fr3 := fr2
              replace fr2 := fr2.1
              exact f _ _ (by assumption) (fun q => absurd q (by decide)) (lwI_d (z := (_, _)) (lwI_o hI) fr3)))
      | (refine H _ _ (fun Q2 f => ?_)
         simp only [C_X10_branchTarget, true_and, abF, bzF]
         (repeat' first | with_reducible apply And.intro | with_reducible intro _)
         all_goals first
           | (with_reducible exact rfl)
           | omega
           | assumption
           | contradiction
           | (rename trF _ _ _ ∧ _ => q9; exact absurd q9.1.1 hs)
           | (with_reducible exact Or.inl trivial)
           | (with_reducible exact Or.inr trivial)
           | (exact hW _ (by assumption))
           | (exact hW)
           | (exact f _ _ up_p (fun _ => ⟨up_q, rl_of (by assumption)⟩) (lwI_u h))
           | (exact f _ _ up_p (fun q => absurd q (by decide)) (lwI_u h))
           | (rename deF _ _ => fr2
              have fr3 := fr2
              have hI := h
              exact f _ _ (by assumption) (fun q => absurd q (by decide)) (lwI_d (z := (_, _)) (lwI_o hI) fr3)))
set_option maxRecDepth 100000 in
set_option maxHeartbeats 4000000 in
theorem lc_branchValuations {z : pvM} {s i a b0 : Int} (h : lwI z) {Q : pvO → pvM → Prop} (H : ∀ (k : Int) (z1 : pvM), (∀ Q2 : pvO → pvM → Prop, (∀ b z2, z2.1 39 8 = k → (k = 0 → z2.2.1 58 0 = b ∧ pvRL b) → lwI z2 → Q2 (.inl (some (vI b))) z2) → C_X10_branchValuations [vR 39, vI s, vI i, vI a, vI b0] z1 Q2) → Q (.inl (some (vI k))) z1) : C_L_branchValuations [vR 0, vI s, vI i, vI a, vI b0, vR 58] z Q := by
  have ha := h.1
  have hW := lw_W h
  have hwc := lw_wc h
  have hwd := lw_wd h
  have h7 : z.1 20 4 = z.1 39 7 := h.2.2.1.2.1
  have hag := lw_ag h
  rw [h7] at hag
  have hn := hwd.1
  have hpz : pzF z := h.2.2.2.2.2.1
  have hqu : ∃ L, quF z L := h.2.2.2.2.2.2.1
  have hem : psS z 13 emA := h.2.2.2.2.2.2.2.1
  have hsm : smP z := h.2.2.2.2.2.2.2.2
  by_cases hs : 0 ≤ s ∧ s ≤ 1
  · skip
    simp only [C_L_branchValuations, C_X9_branchValuations, wrI, if_true, if_false, reduceIte, Int.reduceEq, List.mem_cons, List.not_mem_nil, or_false, true_and, and_true, hf_0_0, hf_01_0, hf_01_1, hf_03_0, hf_03_3, hf_12_1, hf_12_2, hf_012_0, hf_012_1, hf_012_2, hf_2_2, (ha s hs).1]
    (repeat' first | with_reducible apply And.intro | with_reducible intro _)
    all_goals first
      | (with_reducible exact rfl)
      | omega
      | assumption
      | contradiction
      | (rename trF _ _ _ ∧ _ => q9; exact absurd q9.1.1 hs)
      | (with_reducible exact Or.inl trivial)
      | (with_reducible exact Or.inr trivial)
      | (exact (ha _ (by assumption)).2)
      | (exact (ha _ hs).2)
      | (with_reducible exact ⟨hpz, hwc⟩)
      | (with_reducible exact hqu)
      | (with_reducible exact shD_n (by omega))
      | (with_reducible exact avD_nn (by first | exact hW _ (by assumption) | exact hW _ hs))
      | (exact hnn)
      | (rename pyF z s _ => fr0
         have hI := lwI_p h (py_de fr0)
         have fr := (py_de fr0).1
         have e40 := fr.1 40 (by first | decide | (simp))
         have e39 := fr.1 39 (by first | decide | (simp))
         have e43 := fr.1 43 (by first | decide | (simp))
         have e44 := fr.1 44 (by first | decide | (simp))
         have e52 := fr.1 52 (by first | decide | (simp))
         have hsm := hI.2.2.2.2.2.2.2.2
         refine H _ _ (fun Q2 f => ?_)
         simp only [C_X10_branchValuations, e40, e39, e43, e44, true_and, abF, bzF]
         (repeat' first | with_reducible apply And.intro | with_reducible intro _)
         all_goals first
           | (with_reducible exact rfl)
           | omega
           | assumption
           | contradiction
           | (rename trF _ _ _ ∧ _ => q9; exact absurd q9.1.1 hs)
           | (with_reducible exact Or.inl trivial)
           | (with_reducible exact Or.inr trivial)
           | (exact hW _ (by assumption))
           | (exact hW)
           | (exact hsm)
           | (exact f _ _ up_p (fun q => absurd q (by decide)) (lwI_u (lwI_o hI)))
           | (rename deF _ _ => fr2
              have fr3 := fr2
              replace fr2 := fr2.1
              exact f _ _ (by assumption) (fun _ => ⟨((congrFun (fr2.2.1 58 (by simp)) 0).trans up_q), rl_of (by assumption)⟩) (lwI_d (z := (_, _)) (lwI_o hI) fr3))
           | (rename deF _ _ => fr2
              have fr3 := fr2
              replace fr2 := fr2.1
              exact f _ _ (by assumption) (fun q => absurd q (by decide)) (lwI_d (z := (_, _)) (lwI_o hI) fr3)))
      | (refine H _ _ (fun Q2 f => ?_)
         simp only [C_X10_branchValuations, true_and, abF, bzF]
         (repeat' first | with_reducible apply And.intro | with_reducible intro _)
         all_goals first
           | (with_reducible exact rfl)
           | omega
           | assumption
           | contradiction
           | (rename trF _ _ _ ∧ _ => q9; exact absurd q9.1.1 hs)
           | (with_reducible exact Or.inl trivial)
           | (with_reducible exact Or.inr trivial)
           | (exact hW _ (by assumption))
           | (exact hW)
           | (exact f _ _ up_p (fun _ => ⟨up_q, rl_of (by assumption)⟩) (lwI_u h))
           | (exact f _ _ up_p (fun q => absurd q (by decide)) (lwI_u h))
           | (rename deF _ _ => fr2
              have fr3 := fr2
              have hI := h
              exact f _ _ (by assumption) (fun q => absurd q (by decide)) (lwI_d (z := (_, _)) (lwI_o hI) fr3)))
  · skip
    simp only [C_L_branchValuations, C_X9_branchValuations, wrI, if_true, if_false, reduceIte, Int.reduceEq, List.mem_cons, List.not_mem_nil, or_false, true_and, and_true, hf_0_0, hf_01_0, hf_01_1, hf_03_0, hf_03_3, hf_12_1, hf_12_2, hf_012_0, hf_012_1, hf_012_2, hf_2_2]
    (repeat' first | with_reducible apply And.intro | with_reducible intro _)
    all_goals first
      | (with_reducible exact rfl)
      | omega
      | assumption
      | contradiction
      | (rename trF _ _ _ ∧ _ => q9; exact absurd q9.1.1 hs)
      | (with_reducible exact Or.inl trivial)
      | (with_reducible exact Or.inr trivial)
      | (exact (ha _ (by assumption)).2)
      | (exact (ha _ hs).2)
      | (with_reducible exact ⟨hpz, hwc⟩)
      | (with_reducible exact hqu)
      | (with_reducible exact shD_n (by omega))
      | (with_reducible exact avD_nn (by first | exact hW _ (by assumption) | exact hW _ hs))
      | (exact hnn)
      | (rename pyF z s _ => fr0
         have hI := lwI_p h (py_de fr0)
         have fr := (py_de fr0).1
         have e40 := fr.1 40 (by first | decide | (simp))
         have e39 := fr.1 39 (by first | decide | (simp))
         have e43 := fr.1 43 (by first | decide | (simp))
         have e44 := fr.1 44 (by first | decide | (simp))
         have e52 := fr.1 52 (by first | decide | (simp))
         have hsm := hI.2.2.2.2.2.2.2.2
         refine H _ _ (fun Q2 f => ?_)
         simp only [C_X10_branchValuations, e40, e39, e43, e44, true_and, abF, bzF]
         (repeat' first | with_reducible apply And.intro | with_reducible intro _)
         all_goals first
           | (with_reducible exact rfl)
           | omega
           | assumption
           | contradiction
           | (rename trF _ _ _ ∧ _ => q9; exact absurd q9.1.1 hs)
           | (with_reducible exact Or.inl trivial)
           | (with_reducible exact Or.inr trivial)
           | (exact hW _ (by assumption))
           | (exact hW)
           | (exact hsm)
           | (exact f _ _ up_p (fun q => absurd q (by decide)) (lwI_u (lwI_o hI)))
           | (rename deF _ _ => fr2
              have fr3 := fr2
              replace fr2 := fr2.1
              exact f _ _ (by assumption) (fun _ => ⟨((congrFun (fr2.2.1 58 (by simp)) 0).trans up_q), rl_of (by assumption)⟩) (lwI_d (z := (_, _)) (lwI_o hI) fr3))
           | (rename deF _ _ => fr2
              have fr3 := fr2
              replace fr2 := fr2.1
              exact f _ _ (by assumption) (fun q => absurd q (by decide)) (lwI_d (z := (_, _)) (lwI_o hI) fr3)))
      | (refine H _ _ (fun Q2 f => ?_)
         simp only [C_X10_branchValuations, true_and, abF, bzF]
         (repeat' first | with_reducible apply And.intro | with_reducible intro _)
         all_goals first
           | (with_reducible exact rfl)
           | omega
           | assumption
           | contradiction
           | (rename trF _ _ _ ∧ _ => q9; exact absurd q9.1.1 hs)
           | (with_reducible exact Or.inl trivial)
           | (with_reducible exact Or.inr trivial)
           | (exact hW _ (by assumption))
           | (exact hW)
           | (exact f _ _ up_p (fun _ => ⟨up_q, rl_of (by assumption)⟩) (lwI_u h))
           | (exact f _ _ up_p (fun q => absurd q (by decide)) (lwI_u h))
           | (rename deF _ _ => fr2
              have fr3 := fr2
              have hI := h
              exact f _ _ (by assumption) (fun q => absurd q (by decide)) (lwI_d (z := (_, _)) (lwI_o hI) fr3)))
set_option maxRecDepth 100000 in
set_option maxHeartbeats 4000000 in
theorem lc_deterministicRun {z : pvM} {s : Int} (h : lwI z) {Q : pvO → pvM → Prop} (H : ∀ (k : Int) (z1 : pvM), (∀ Q2 : pvO → pvM → Prop, (∀ b z2, z2.1 39 8 = k → (k = 0 → z2.2.1 58 0 = b ∧ pvRL b) → lwI z2 → Q2 (.inl (some (vI b))) z2) → C_X10_deterministicRun [vR 39, vI s] z1 Q2) → Q (.inl (some (vI k))) z1) : C_L_deterministicRun [vR 0, vI s, vR 58] z Q := by
  have ha := h.1
  have hW := lw_W h
  have hwc := lw_wc h
  have hwd := lw_wd h
  have h7 : z.1 20 4 = z.1 39 7 := h.2.2.1.2.1
  have hag := lw_ag h
  rw [h7] at hag
  have hn := hwd.1
  have hpz : pzF z := h.2.2.2.2.2.1
  have hqu : ∃ L, quF z L := h.2.2.2.2.2.2.1
  have hem : psS z 13 emA := h.2.2.2.2.2.2.2.1
  have hsm : smP z := h.2.2.2.2.2.2.2.2
  by_cases hs : 0 ≤ s ∧ s ≤ 1
  · skip
    simp only [C_L_deterministicRun, C_X9_deterministicRun, wrI, if_true, if_false, reduceIte, Int.reduceEq, List.mem_cons, List.not_mem_nil, or_false, true_and, and_true, hf_0_0, hf_01_0, hf_01_1, hf_03_0, hf_03_3, hf_12_1, hf_12_2, hf_012_0, hf_012_1, hf_012_2, hf_2_2, h7, (ha s hs).1, af_x (A := autR (z.1 40) s) hag (z.1 39 7).toNat (by omega)]
    (repeat' first | with_reducible apply And.intro | with_reducible intro _)
    all_goals first
      | (with_reducible exact rfl)
      | omega
      | assumption
      | contradiction
      | (rename trF _ _ _ ∧ _ => q9; exact absurd q9.1.1 hs)
      | (with_reducible exact Or.inl trivial)
      | (with_reducible exact Or.inr trivial)
      | (exact (ha _ (by assumption)).2)
      | (exact (ha _ hs).2)
      | (with_reducible exact ⟨hpz, hwc⟩)
      | (with_reducible exact hqu)
      | (with_reducible exact shD_n (by omega))
      | (with_reducible exact avD_nn (by first | exact hW _ (by assumption) | exact hW _ hs))
      | (exact hnn)
      | (rename pyF z s _ => fr0
         have hI := lwI_p h (py_de fr0)
         have fr := (py_de fr0).1
         have e40 := fr.1 40 (by first | decide | (simp))
         have e39 := fr.1 39 (by first | decide | (simp))
         have e43 := fr.1 43 (by first | decide | (simp))
         have e44 := fr.1 44 (by first | decide | (simp))
         have e52 := fr.1 52 (by first | decide | (simp))
         have hsm := hI.2.2.2.2.2.2.2.2
         refine H _ _ (fun Q2 f => ?_)
         simp only [C_X10_deterministicRun, e40, e39, e43, e44, true_and]
         (repeat' first | with_reducible apply And.intro | with_reducible intro _)
         all_goals first
           | (with_reducible exact rfl)
           | omega
           | assumption
           | contradiction
           | (rename trF _ _ _ ∧ _ => q9; exact absurd q9.1.1 hs)
           | (with_reducible exact Or.inl trivial)
           | (with_reducible exact Or.inr trivial)
           | (exact hW _ (by assumption))
           | (exact hW)
           | (exact hsm)
           | (exact f _ _ up_p (fun q => absurd q (by decide)) (lwI_u (lwI_o hI)))
           | (rename deF _ _ => fr2
              have fr3 := fr2
              replace fr2 := fr2.1
              exact f _ _ (by assumption) (fun _ => ⟨((congrFun (fr2.2.1 58 (by simp)) 0).trans up_q), rl_of (by assumption)⟩) (lwI_d (z := (_, _)) (lwI_o hI) fr3))
           | (rename deF _ _ => fr2
              have fr3 := fr2
              replace fr2 := fr2.1
              exact f _ _ (by assumption) (fun q => absurd q (by decide)) (lwI_d (z := (_, _)) (lwI_o hI) fr3)))
      | (refine H _ _ (fun Q2 f => ?_)
         simp only [C_X10_deterministicRun, true_and]
         (repeat' first | with_reducible apply And.intro | with_reducible intro _)
         all_goals first
           | (with_reducible exact rfl)
           | omega
           | assumption
           | contradiction
           | (rename trF _ _ _ ∧ _ => q9; exact absurd q9.1.1 hs)
           | (with_reducible exact Or.inl trivial)
           | (with_reducible exact Or.inr trivial)
           | (exact hW _ (by assumption))
           | (exact hW)
           | (exact f _ _ up_p (fun _ => ⟨up_q, rl_of (by assumption)⟩) (lwI_u h))
           | (exact f _ _ up_p (fun q => absurd q (by decide)) (lwI_u h))
           | (rename deF _ _ => fr2
              have fr3 := fr2
              have hI := h
              exact f _ _ (by assumption) (fun q => absurd q (by decide)) (lwI_d (z := (_, _)) (lwI_o hI) fr3)))
  · skip
    simp only [C_L_deterministicRun, C_X9_deterministicRun, wrI, if_true, if_false, reduceIte, Int.reduceEq, List.mem_cons, List.not_mem_nil, or_false, true_and, and_true, hf_0_0, hf_01_0, hf_01_1, hf_03_0, hf_03_3, hf_12_1, hf_12_2, hf_012_0, hf_012_1, hf_012_2, hf_2_2, h7]
    (repeat' first | with_reducible apply And.intro | with_reducible intro _)
    all_goals first
      | (with_reducible exact rfl)
      | omega
      | assumption
      | contradiction
      | (rename trF _ _ _ ∧ _ => q9; exact absurd q9.1.1 hs)
      | (with_reducible exact Or.inl trivial)
      | (with_reducible exact Or.inr trivial)
      | (exact (ha _ (by assumption)).2)
      | (exact (ha _ hs).2)
      | (with_reducible exact ⟨hpz, hwc⟩)
      | (with_reducible exact hqu)
      | (with_reducible exact shD_n (by omega))
      | (with_reducible exact avD_nn (by first | exact hW _ (by assumption) | exact hW _ hs))
      | (exact hnn)
      | (rename pyF z s _ => fr0
         have hI := lwI_p h (py_de fr0)
         have fr := (py_de fr0).1
         have e40 := fr.1 40 (by first | decide | (simp))
         have e39 := fr.1 39 (by first | decide | (simp))
         have e43 := fr.1 43 (by first | decide | (simp))
         have e44 := fr.1 44 (by first | decide | (simp))
         have e52 := fr.1 52 (by first | decide | (simp))
         have hsm := hI.2.2.2.2.2.2.2.2
         refine H _ _ (fun Q2 f => ?_)
         simp only [C_X10_deterministicRun, e40, e39, e43, e44, true_and]
         (repeat' first | with_reducible apply And.intro | with_reducible intro _)
         all_goals first
           | (with_reducible exact rfl)
           | omega
           | assumption
           | contradiction
           | (rename trF _ _ _ ∧ _ => q9; exact absurd q9.1.1 hs)
           | (with_reducible exact Or.inl trivial)
           | (with_reducible exact Or.inr trivial)
           | (exact hW _ (by assumption))
           | (exact hW)
           | (exact hsm)
           | (exact f _ _ up_p (fun q => absurd q (by decide)) (lwI_u (lwI_o hI)))
           | (rename deF _ _ => fr2
              have fr3 := fr2
              replace fr2 := fr2.1
              exact f _ _ (by assumption) (fun _ => ⟨((congrFun (fr2.2.1 58 (by simp)) 0).trans up_q), rl_of (by assumption)⟩) (lwI_d (z := (_, _)) (lwI_o hI) fr3))
           | (rename deF _ _ => fr2
              have fr3 := fr2
              replace fr2 := fr2.1
              exact f _ _ (by assumption) (fun q => absurd q (by decide)) (lwI_d (z := (_, _)) (lwI_o hI) fr3)))
      | (refine H _ _ (fun Q2 f => ?_)
         simp only [C_X10_deterministicRun, true_and]
         (repeat' first | with_reducible apply And.intro | with_reducible intro _)
         all_goals first
           | (with_reducible exact rfl)
           | omega
           | assumption
           | contradiction
           | (rename trF _ _ _ ∧ _ => q9; exact absurd q9.1.1 hs)
           | (with_reducible exact Or.inl trivial)
           | (with_reducible exact Or.inr trivial)
           | (exact hW _ (by assumption))
           | (exact hW)
           | (exact f _ _ up_p (fun _ => ⟨up_q, rl_of (by assumption)⟩) (lwI_u h))
           | (exact f _ _ up_p (fun q => absurd q (by decide)) (lwI_u h))
           | (rename deF _ _ => fr2
              have fr3 := fr2
              have hI := h
              exact f _ _ (by assumption) (fun q => absurd q (by decide)) (lwI_d (z := (_, _)) (lwI_o hI) fr3)))
set_option maxRecDepth 100000 in
set_option maxHeartbeats 4000000 in
theorem lc_isEmpty {z : pvM} {s : Int} (h : lwI z) {Q : pvO → pvM → Prop} (H : ∀ (k : Int) (z1 : pvM), (∀ Q2 : pvO → pvM → Prop, (∀ b z2, z2.1 39 8 = k → (k = 0 → z2.2.1 58 0 = if b = 0 then 0 else 1) → lwI z2 → Q2 (.inl (some (vI b))) z2) → C_X10_isEmpty [vR 39, vI s] z1 Q2) → Q (.inl (some (vI k))) z1) : C_L_isEmpty [vR 0, vI s, vR 58] z Q := by
  have ha := h.1
  have hW := lw_W h
  have hwc := lw_wc h
  have hwd := lw_wd h
  have h7 : z.1 20 4 = z.1 39 7 := h.2.2.1.2.1
  have hag := lw_ag h
  rw [h7] at hag
  have hn := hwd.1
  have hpz : pzF z := h.2.2.2.2.2.1
  have hqu : ∃ L, quF z L := h.2.2.2.2.2.2.1
  have hem : psS z 13 emA := h.2.2.2.2.2.2.2.1
  have hsm : smP z := h.2.2.2.2.2.2.2.2
  by_cases hs : 0 ≤ s ∧ s ≤ 1
  · skip
    simp only [C_L_isEmpty, C_X9_isEmpty, wrB, if_true, if_false, reduceIte, Int.reduceEq, List.mem_cons, List.not_mem_nil, or_false, true_and, and_true, hf_0_0, hf_01_0, hf_01_1, hf_03_0, hf_03_3, hf_12_1, hf_12_2, hf_012_0, hf_012_1, hf_012_2, hf_2_2, (ha s hs).1]
    (repeat' first | with_reducible apply And.intro | with_reducible intro _)
    all_goals first
      | (with_reducible exact rfl)
      | omega
      | assumption
      | contradiction
      | (rename trF _ _ _ ∧ _ => q9; exact absurd q9.1.1 hs)
      | (with_reducible exact Or.inl trivial)
      | (with_reducible exact Or.inr trivial)
      | (exact (ha _ (by assumption)).2)
      | (exact (ha _ hs).2)
      | (with_reducible exact ⟨hpz, hwc⟩)
      | (with_reducible exact hqu)
      | (with_reducible exact shD_n (by omega))
      | (with_reducible exact avD_nn (by first | exact hW _ (by assumption) | exact hW _ hs))
      | (exact hnn)
      | (rename frF [5, 6, 7, 8, 9, 10, 11, 12, 28, 29, 30, 32] [] z _ => fr0
         have hI := lwI_c h fr0 (by simp) (by assumption) ⟨_, by assumption⟩
         have fr := fr0
         have e40 := fr.1 40 (by first | decide | (simp))
         have e39 := fr.1 39 (by first | decide | (simp))
         have e43 := fr.1 43 (by first | decide | (simp))
         have e44 := fr.1 44 (by first | decide | (simp))
         have e52 := fr.1 52 (by first | decide | (simp))
         have hsm := hI.2.2.2.2.2.2.2.2
         refine H _ _ (fun Q2 f => ?_)
         simp only [C_X10_isEmpty, e40, e39, e43, e44, true_and]
         (repeat' first | with_reducible apply And.intro | with_reducible intro _)
         all_goals first
           | (with_reducible exact rfl)
           | omega
           | assumption
           | contradiction
           | (rename trF _ _ _ ∧ _ => q9; exact absurd q9.1.1 hs)
           | (with_reducible exact Or.inl trivial)
           | (with_reducible exact Or.inr trivial)
           | (exact hW _ (by assumption))
           | (exact hW)
           | (exact hsm)
           | (exact f _ _ up_p (fun q => absurd q (by decide)) (lwI_u (lwI_o hI)))
           | (rename frF [39, 48, 53, 55] [] _ _ => fr2
              have fr3 := fr2
              exact f _ _ (by assumption) (fun _ => ((congrFun (fr2.2.1 58 (by simp)) 0).trans up_q)) (lwI_s (z := (_, _)) (lwI_o hI) fr3 (by simp) (by assumption) (by first | assumption | exact Eq.trans (by assumption) (congrFun e39.symm 7))))
           | (rename frF [39, 48, 53, 55] [] _ _ => fr2
              have fr3 := fr2
              exact f _ _ (by assumption) (fun q => absurd q (by decide)) (lwI_s (z := (_, _)) (lwI_o hI) fr3 (by simp) (by assumption) (by first | assumption | exact Eq.trans (by assumption) (congrFun e39.symm 7)))))
      | (refine H _ _ (fun Q2 f => ?_)
         simp only [C_X10_isEmpty, true_and]
         (repeat' first | with_reducible apply And.intro | with_reducible intro _)
         all_goals first
           | (with_reducible exact rfl)
           | omega
           | assumption
           | contradiction
           | (rename trF _ _ _ ∧ _ => q9; exact absurd q9.1.1 hs)
           | (with_reducible exact Or.inl trivial)
           | (with_reducible exact Or.inr trivial)
           | (exact hW _ (by assumption))
           | (exact hW)
           | (exact f _ _ up_p (fun _ => up_q) (lwI_u h))
           | (exact f _ _ up_p (fun q => absurd q (by decide)) (lwI_u h))
           | (rename frF [39, 48, 53, 55] [] _ _ => fr2
              have fr3 := fr2
              have hI := h
              exact f _ _ (by assumption) (fun q => absurd q (by decide)) (lwI_s (z := (_, _)) (lwI_o hI) fr3 (by simp) (by assumption) (by first | assumption | exact Eq.trans (by assumption) (congrFun e39.symm 7)))))
  · skip
    simp only [C_L_isEmpty, C_X9_isEmpty, wrB, if_true, if_false, reduceIte, Int.reduceEq, List.mem_cons, List.not_mem_nil, or_false, true_and, and_true, hf_0_0, hf_01_0, hf_01_1, hf_03_0, hf_03_3, hf_12_1, hf_12_2, hf_012_0, hf_012_1, hf_012_2, hf_2_2]
    (repeat' first | with_reducible apply And.intro | with_reducible intro _)
    all_goals first
      | (with_reducible exact rfl)
      | omega
      | assumption
      | contradiction
      | (rename trF _ _ _ ∧ _ => q9; exact absurd q9.1.1 hs)
      | (with_reducible exact Or.inl trivial)
      | (with_reducible exact Or.inr trivial)
      | (exact (ha _ (by assumption)).2)
      | (exact (ha _ hs).2)
      | (with_reducible exact ⟨hpz, hwc⟩)
      | (with_reducible exact hqu)
      | (with_reducible exact shD_n (by omega))
      | (with_reducible exact avD_nn (by first | exact hW _ (by assumption) | exact hW _ hs))
      | (exact hnn)
      | (rename frF [5, 6, 7, 8, 9, 10, 11, 12, 28, 29, 30, 32] [] z _ => fr0
         have hI := lwI_c h fr0 (by simp) (by assumption) ⟨_, by assumption⟩
         have fr := fr0
         have e40 := fr.1 40 (by first | decide | (simp))
         have e39 := fr.1 39 (by first | decide | (simp))
         have e43 := fr.1 43 (by first | decide | (simp))
         have e44 := fr.1 44 (by first | decide | (simp))
         have e52 := fr.1 52 (by first | decide | (simp))
         have hsm := hI.2.2.2.2.2.2.2.2
         refine H _ _ (fun Q2 f => ?_)
         simp only [C_X10_isEmpty, e40, e39, e43, e44, true_and]
         (repeat' first | with_reducible apply And.intro | with_reducible intro _)
         all_goals first
           | (with_reducible exact rfl)
           | omega
           | assumption
           | contradiction
           | (rename trF _ _ _ ∧ _ => q9; exact absurd q9.1.1 hs)
           | (with_reducible exact Or.inl trivial)
           | (with_reducible exact Or.inr trivial)
           | (exact hW _ (by assumption))
           | (exact hW)
           | (exact hsm)
           | (exact f _ _ up_p (fun q => absurd q (by decide)) (lwI_u (lwI_o hI)))
           | (rename frF [39, 48, 53, 55] [] _ _ => fr2
              have fr3 := fr2
              exact f _ _ (by assumption) (fun _ => ((congrFun (fr2.2.1 58 (by simp)) 0).trans up_q)) (lwI_s (z := (_, _)) (lwI_o hI) fr3 (by simp) (by assumption) (by first | assumption | exact Eq.trans (by assumption) (congrFun e39.symm 7))))
           | (rename frF [39, 48, 53, 55] [] _ _ => fr2
              have fr3 := fr2
              exact f _ _ (by assumption) (fun q => absurd q (by decide)) (lwI_s (z := (_, _)) (lwI_o hI) fr3 (by simp) (by assumption) (by first | assumption | exact Eq.trans (by assumption) (congrFun e39.symm 7)))))
      | (refine H _ _ (fun Q2 f => ?_)
         simp only [C_X10_isEmpty, true_and]
         (repeat' first | with_reducible apply And.intro | with_reducible intro _)
         all_goals first
           | (with_reducible exact rfl)
           | omega
           | assumption
           | contradiction
           | (rename trF _ _ _ ∧ _ => q9; exact absurd q9.1.1 hs)
           | (with_reducible exact Or.inl trivial)
           | (with_reducible exact Or.inr trivial)
           | (exact hW _ (by assumption))
           | (exact hW)
           | (exact f _ _ up_p (fun _ => up_q) (lwI_u h))
           | (exact f _ _ up_p (fun q => absurd q (by decide)) (lwI_u h))
           | (rename frF [39, 48, 53, 55] [] _ _ => fr2
              have fr3 := fr2
              have hI := h
              exact f _ _ (by assumption) (fun q => absurd q (by decide)) (lwI_s (z := (_, _)) (lwI_o hI) fr3 (by simp) (by assumption) (by first | assumption | exact Eq.trans (by assumption) (congrFun e39.symm 7)))))
set_option maxRecDepth 100000 in
set_option maxHeartbeats 4000000 in
theorem lc_isIncluded {z : pvM} {s : Int} (h : lwI z) {Q : pvO → pvM → Prop} (H : ∀ (k : Int) (z1 : pvM), (∀ Q2 : pvO → pvM → Prop, (∀ b z2, z2.1 39 8 = k → (k = 0 → z2.2.1 58 0 = if b = 0 then 0 else 1) → lwI z2 → Q2 (.inl (some (vI b))) z2) → C_X10_isIncluded [vR 39, vI s] z1 Q2) → Q (.inl (some (vI k))) z1) : C_L_isIncluded [vR 0, vI s, vR 58] z Q := by
  have ha := h.1
  have hW := lw_W h
  have hwc := lw_wc h
  have hwd := lw_wd h
  have h7 : z.1 20 4 = z.1 39 7 := h.2.2.1.2.1
  have hag := lw_ag h
  rw [h7] at hag
  have hn := hwd.1
  have hpz : pzF z := h.2.2.2.2.2.1
  have hqu : ∃ L, quF z L := h.2.2.2.2.2.2.1
  have hem : psS z 13 emA := h.2.2.2.2.2.2.2.1
  have hsm : smP z := h.2.2.2.2.2.2.2.2
  by_cases hs : 0 ≤ s ∧ s ≤ 1
  · skip
    simp only [C_L_isIncluded, C_X9_isIncluded, wrB, if_true, if_false, reduceIte, Int.reduceEq, List.mem_cons, List.not_mem_nil, or_false, true_and, and_true, hf_0_0, hf_01_0, hf_01_1, hf_03_0, hf_03_3, hf_12_1, hf_12_2, hf_012_0, hf_012_1, hf_012_2, hf_2_2, (ha s hs).1, (ha (1 - s) (by omega)).1]
    (repeat' first | with_reducible apply And.intro | with_reducible intro _)
    all_goals first
      | (with_reducible exact rfl)
      | omega
      | assumption
      | contradiction
      | (rename trF _ _ _ ∧ _ => q9; exact absurd q9.1.1 hs)
      | (with_reducible exact Or.inl trivial)
      | (with_reducible exact Or.inr trivial)
      | (exact (ha _ (by assumption)).2)
      | (exact (ha _ hs).2)
      | (with_reducible exact ⟨hpz, hwc⟩)
      | (with_reducible exact hqu)
      | (with_reducible exact shD_n (by omega))
      | (with_reducible exact avD_nn (by first | exact hW _ (by assumption) | exact hW _ hs))
      | (exact hnn)
      | (rename frF [5, 6, 7, 8, 9, 10, 11, 12, 28, 29, 30, 32] [] z _ => fr0
         have hI := lwI_c h fr0 (by simp) (by assumption) ⟨_, by assumption⟩
         have fr := fr0
         have e40 := fr.1 40 (by first | decide | (simp))
         have e39 := fr.1 39 (by first | decide | (simp))
         have e43 := fr.1 43 (by first | decide | (simp))
         have e44 := fr.1 44 (by first | decide | (simp))
         have e52 := fr.1 52 (by first | decide | (simp))
         have hsm := hI.2.2.2.2.2.2.2.2
         refine H _ _ (fun Q2 f => ?_)
         simp only [C_X10_isIncluded, e40, e39, e43, e44, true_and]
         (repeat' first | with_reducible apply And.intro | with_reducible intro _)
         all_goals first
           | (with_reducible exact rfl)
           | omega
           | assumption
           | contradiction
           | (rename trF _ _ _ ∧ _ => q9; exact absurd q9.1.1 hs)
           | (with_reducible exact Or.inl trivial)
           | (with_reducible exact Or.inr trivial)
           | (exact hW _ (by assumption))
           | (exact hW)
           | (exact hsm)
           | (exact f _ _ up_p (fun q => absurd q (by decide)) (lwI_u (lwI_o hI)))
           | (rename frF [39, 48, 53, 55] [] _ _ => fr2
              have fr3 := fr2
              exact f _ _ (by assumption) (fun _ => ((congrFun (fr2.2.1 58 (by simp)) 0).trans up_q)) (lwI_s (z := (_, _)) (lwI_o hI) fr3 (by simp) (by assumption) (by first | assumption | exact Eq.trans (by assumption) (congrFun e39.symm 7))))
           | (rename frF [39, 48, 53, 55] [] _ _ => fr2
              have fr3 := fr2
              exact f _ _ (by assumption) (fun q => absurd q (by decide)) (lwI_s (z := (_, _)) (lwI_o hI) fr3 (by simp) (by assumption) (by first | assumption | exact Eq.trans (by assumption) (congrFun e39.symm 7)))))
      | (refine H _ _ (fun Q2 f => ?_)
         simp only [C_X10_isIncluded, true_and]
         (repeat' first | with_reducible apply And.intro | with_reducible intro _)
         all_goals first
           | (with_reducible exact rfl)
           | omega
           | assumption
           | contradiction
           | (rename trF _ _ _ ∧ _ => q9; exact absurd q9.1.1 hs)
           | (with_reducible exact Or.inl trivial)
           | (with_reducible exact Or.inr trivial)
           | (exact hW _ (by assumption))
           | (exact hW)
           | (exact f _ _ up_p (fun _ => up_q) (lwI_u h))
           | (exact f _ _ up_p (fun q => absurd q (by decide)) (lwI_u h))
           | (rename frF [39, 48, 53, 55] [] _ _ => fr2
              have fr3 := fr2
              have hI := h
              exact f _ _ (by assumption) (fun q => absurd q (by decide)) (lwI_s (z := (_, _)) (lwI_o hI) fr3 (by simp) (by assumption) (by first | assumption | exact Eq.trans (by assumption) (congrFun e39.symm 7)))))
  · skip
    simp only [C_L_isIncluded, C_X9_isIncluded, wrB, if_true, if_false, reduceIte, Int.reduceEq, List.mem_cons, List.not_mem_nil, or_false, true_and, and_true, hf_0_0, hf_01_0, hf_01_1, hf_03_0, hf_03_3, hf_12_1, hf_12_2, hf_012_0, hf_012_1, hf_012_2, hf_2_2]
    (repeat' first | with_reducible apply And.intro | with_reducible intro _)
    all_goals first
      | (with_reducible exact rfl)
      | omega
      | assumption
      | contradiction
      | (rename trF _ _ _ ∧ _ => q9; exact absurd q9.1.1 hs)
      | (with_reducible exact Or.inl trivial)
      | (with_reducible exact Or.inr trivial)
      | (exact (ha _ (by assumption)).2)
      | (exact (ha _ hs).2)
      | (with_reducible exact ⟨hpz, hwc⟩)
      | (with_reducible exact hqu)
      | (with_reducible exact shD_n (by omega))
      | (with_reducible exact avD_nn (by first | exact hW _ (by assumption) | exact hW _ hs))
      | (exact hnn)
      | (rename frF [5, 6, 7, 8, 9, 10, 11, 12, 28, 29, 30, 32] [] z _ => fr0
         have hI := lwI_c h fr0 (by simp) (by assumption) ⟨_, by assumption⟩
         have fr := fr0
         have e40 := fr.1 40 (by first | decide | (simp))
         have e39 := fr.1 39 (by first | decide | (simp))
         have e43 := fr.1 43 (by first | decide | (simp))
         have e44 := fr.1 44 (by first | decide | (simp))
         have e52 := fr.1 52 (by first | decide | (simp))
         have hsm := hI.2.2.2.2.2.2.2.2
         refine H _ _ (fun Q2 f => ?_)
         simp only [C_X10_isIncluded, e40, e39, e43, e44, true_and]
         (repeat' first | with_reducible apply And.intro | with_reducible intro _)
         all_goals first
           | (with_reducible exact rfl)
           | omega
           | assumption
           | contradiction
           | (rename trF _ _ _ ∧ _ => q9; exact absurd q9.1.1 hs)
           | (with_reducible exact Or.inl trivial)
           | (with_reducible exact Or.inr trivial)
           | (exact hW _ (by assumption))
           | (exact hW)
           | (exact hsm)
           | (exact f _ _ up_p (fun q => absurd q (by decide)) (lwI_u (lwI_o hI)))
           | (rename frF [39, 48, 53, 55] [] _ _ => fr2
              have fr3 := fr2
              exact f _ _ (by assumption) (fun _ => ((congrFun (fr2.2.1 58 (by simp)) 0).trans up_q)) (lwI_s (z := (_, _)) (lwI_o hI) fr3 (by simp) (by assumption) (by first | assumption | exact Eq.trans (by assumption) (congrFun e39.symm 7))))
           | (rename frF [39, 48, 53, 55] [] _ _ => fr2
              have fr3 := fr2
              exact f _ _ (by assumption) (fun q => absurd q (by decide)) (lwI_s (z := (_, _)) (lwI_o hI) fr3 (by simp) (by assumption) (by first | assumption | exact Eq.trans (by assumption) (congrFun e39.symm 7)))))
      | (refine H _ _ (fun Q2 f => ?_)
         simp only [C_X10_isIncluded, true_and]
         (repeat' first | with_reducible apply And.intro | with_reducible intro _)
         all_goals first
           | (with_reducible exact rfl)
           | omega
           | assumption
           | contradiction
           | (rename trF _ _ _ ∧ _ => q9; exact absurd q9.1.1 hs)
           | (with_reducible exact Or.inl trivial)
           | (with_reducible exact Or.inr trivial)
           | (exact hW _ (by assumption))
           | (exact hW)
           | (exact f _ _ up_p (fun _ => up_q) (lwI_u h))
           | (exact f _ _ up_p (fun q => absurd q (by decide)) (lwI_u h))
           | (rename frF [39, 48, 53, 55] [] _ _ => fr2
              have fr3 := fr2
              have hI := h
              exact f _ _ (by assumption) (fun q => absurd q (by decide)) (lwI_s (z := (_, _)) (lwI_o hI) fr3 (by simp) (by assumption) (by first | assumption | exact Eq.trans (by assumption) (congrFun e39.symm 7)))))
theorem lwI_q {z z' : pvM} {jds : List Nat} (h : lwI z) (f : frF [5, 6, 7, 8, 9, 10, 11, 12] jds z z') (p : pzF z') : lwI z' := by
  refine lwI_c h f (by simp) p ?_
  obtain ⟨L, hL⟩ := h.2.2.2.2.2.2.1
  exact ⟨L, quF_e hL (f.1 28 (by decide)) (f.1 29 (by decide)) (f.1 30 (by decide))⟩
set_option maxRecDepth 100000 in
set_option maxHeartbeats 4000000 in
theorem lc_acceptedWords {z : pvM} {s e l : Int} (h : lwI z) {Q : pvO → pvM → Prop} (H : ∀ (k : Int) (z1 : pvM), (∀ Q2 : pvO → pvM → Prop, (∀ b z2, z2.1 39 8 = k → (k = 0 → z2.2.1 58 0 = b ∧ pvRL b) → lwI z2 → Q2 (.inl (some (vL b))) z2) → C_X10_acceptedWords [vR 39, vI s, vI e, vI l] z1 Q2) → Q (.inl (some (vI k))) z1) : C_L_acceptedWords [vR 0, vI s, vI e, vI l, vR 58] z Q := by
  have ha := h.1
  have hW := lw_W h
  have hwc := lw_wc h
  have hwd := lw_wd h
  have h7 : z.1 20 4 = z.1 39 7 := h.2.2.1.2.1
  have hag := lw_ag h
  rw [h7] at hag
  have hn := hwd.1
  have hpz : pzF z := h.2.2.2.2.2.1
  have hqu : ∃ L, quF z L := h.2.2.2.2.2.2.1
  have hem : psS z 13 emA := h.2.2.2.2.2.2.2.1
  have hsm : smP z := h.2.2.2.2.2.2.2.2
  by_cases hs : 0 ≤ s ∧ s ≤ 1
  · skip
    simp only [C_L_acceptedWords, C_X9_acceptedWords, wrL, if_true, if_false, reduceIte, Int.reduceEq, List.mem_cons, List.not_mem_nil, or_false, true_and, and_true, hf_0_0, hf_01_0, hf_01_1, hf_03_0, hf_03_3, hf_12_1, hf_12_2, hf_012_0, hf_012_1, hf_012_2, hf_2_2, (ha s hs).1]
    (repeat' first | with_reducible apply And.intro | with_reducible intro _)
    all_goals first
      | (with_reducible exact rfl)
      | omega
      | assumption
      | contradiction
      | (rename trF _ _ _ ∧ _ => q9; exact absurd q9.1.1 hs)
      | (with_reducible exact Or.inl trivial)
      | (with_reducible exact Or.inr trivial)
      | (exact (ha _ (by assumption)).2)
      | (exact (ha _ hs).2)
      | (with_reducible exact ⟨hpz, hwc⟩)
      | (with_reducible exact hqu)
      | (with_reducible exact shD_n (by omega))
      | (with_reducible exact avD_nn (by first | exact hW _ (by assumption) | exact hW _ hs))
      | (exact hnn)
      | (rename frF [5, 6, 7, 8, 9, 10, 11, 12] [34, 35] z _ => fr0
         have hI := lwI_q h fr0 (by assumption)
         have fr := fr0
         have e40 := fr.1 40 (by first | decide | (simp))
         have e39 := fr.1 39 (by first | decide | (simp))
         have e43 := fr.1 43 (by first | decide | (simp))
         have e44 := fr.1 44 (by first | decide | (simp))
         have e52 := fr.1 52 (by first | decide | (simp))
         have hsm := hI.2.2.2.2.2.2.2.2
         refine H _ _ (fun Q2 f => ?_)
         simp only [C_X10_acceptedWords, e40, e39, e43, e44, true_and]
         (repeat' first | with_reducible apply And.intro | with_reducible intro _)
         all_goals first
           | (with_reducible exact rfl)
           | omega
           | assumption
           | contradiction
           | (rename trF _ _ _ ∧ _ => q9; exact absurd q9.1.1 hs)
           | (with_reducible exact Or.inl trivial)
           | (with_reducible exact Or.inr trivial)
           | (exact hW _ (by assumption))
           | (exact hW)
           | (exact hsm)
           | (exact f _ _ up_p (fun q => absurd q (by decide)) (lwI_u (lwI_o hI)))
           | (rename frF [39, 48] [56, 57] _ _ => fr2
              have fr3 := fr2
              exact f _ _ (by assumption) (fun _ => ⟨((congrFun (fr2.2.1 58 (by simp)) 0).trans up_q), by first | exact rl_ru (by first | exact hW _ (by assumption) | exact hW _ hs) hwd.1 | exact rl_wd (by omega) (by omega)⟩) (lwI_r (z := (_, _)) (lwI_o hI) fr3 (by simp) (fun j hj => by first | (rename ∀ j, j ≠ 8 → _ => g; first | exact (g j (by omega)).trans (congrFun e39.symm j) | exact g j (by omega)) | (rename ∀ j, j ≠ 28 → j ≠ 8 → _ => g; first | exact (g j (by omega) (by omega)).trans (congrFun e39.symm j) | exact g j (by omega) (by omega)))))
           | (rename frF [39, 48] [56, 57] _ _ => fr2
              have fr3 := fr2
              exact f _ _ (by assumption) (fun q => absurd q (by decide)) (lwI_r (z := (_, _)) (lwI_o hI) fr3 (by simp) (fun j hj => by first | (rename ∀ j, j ≠ 8 → _ => g; first | exact (g j (by omega)).trans (congrFun e39.symm j) | exact g j (by omega)) | (rename ∀ j, j ≠ 28 → j ≠ 8 → _ => g; first | exact (g j (by omega) (by omega)).trans (congrFun e39.symm j) | exact g j (by omega) (by omega))))))
      | (refine H _ _ (fun Q2 f => ?_)
         simp only [C_X10_acceptedWords, true_and]
         (repeat' first | with_reducible apply And.intro | with_reducible intro _)
         all_goals first
           | (with_reducible exact rfl)
           | omega
           | assumption
           | contradiction
           | (rename trF _ _ _ ∧ _ => q9; exact absurd q9.1.1 hs)
           | (with_reducible exact Or.inl trivial)
           | (with_reducible exact Or.inr trivial)
           | (exact hW _ (by assumption))
           | (exact hW)
           | (exact f _ _ up_p (fun _ => ⟨up_q, by first | exact rl_ru (by first | exact hW _ (by assumption) | exact hW _ hs) hwd.1 | exact rl_wd (by omega) (by omega)⟩) (lwI_u h))
           | (exact f _ _ up_p (fun q => absurd q (by decide)) (lwI_u h))
           | (rename frF [39, 48] [56, 57] _ _ => fr2
              have fr3 := fr2
              have hI := h
              exact f _ _ (by assumption) (fun q => absurd q (by decide)) (lwI_r (z := (_, _)) (lwI_o hI) fr3 (by simp) (fun j hj => by first | (rename ∀ j, j ≠ 8 → _ => g; first | exact (g j (by omega)).trans (congrFun e39.symm j) | exact g j (by omega)) | (rename ∀ j, j ≠ 28 → j ≠ 8 → _ => g; first | exact (g j (by omega) (by omega)).trans (congrFun e39.symm j) | exact g j (by omega) (by omega))))))
  · skip
    simp only [C_L_acceptedWords, C_X9_acceptedWords, wrL, if_true, if_false, reduceIte, Int.reduceEq, List.mem_cons, List.not_mem_nil, or_false, true_and, and_true, hf_0_0, hf_01_0, hf_01_1, hf_03_0, hf_03_3, hf_12_1, hf_12_2, hf_012_0, hf_012_1, hf_012_2, hf_2_2]
    (repeat' first | with_reducible apply And.intro | with_reducible intro _)
    all_goals first
      | (with_reducible exact rfl)
      | omega
      | assumption
      | contradiction
      | (rename trF _ _ _ ∧ _ => q9; exact absurd q9.1.1 hs)
      | (with_reducible exact Or.inl trivial)
      | (with_reducible exact Or.inr trivial)
      | (exact (ha _ (by assumption)).2)
      | (exact (ha _ hs).2)
      | (with_reducible exact ⟨hpz, hwc⟩)
      | (with_reducible exact hqu)
      | (with_reducible exact shD_n (by omega))
      | (with_reducible exact avD_nn (by first | exact hW _ (by assumption) | exact hW _ hs))
      | (exact hnn)
      | (rename frF [5, 6, 7, 8, 9, 10, 11, 12] [34, 35] z _ => fr0
         have hI := lwI_q h fr0 (by assumption)
         have fr := fr0
         have e40 := fr.1 40 (by first | decide | (simp))
         have e39 := fr.1 39 (by first | decide | (simp))
         have e43 := fr.1 43 (by first | decide | (simp))
         have e44 := fr.1 44 (by first | decide | (simp))
         have e52 := fr.1 52 (by first | decide | (simp))
         have hsm := hI.2.2.2.2.2.2.2.2
         refine H _ _ (fun Q2 f => ?_)
         simp only [C_X10_acceptedWords, e40, e39, e43, e44, true_and]
         (repeat' first | with_reducible apply And.intro | with_reducible intro _)
         all_goals first
           | (with_reducible exact rfl)
           | omega
           | assumption
           | contradiction
           | (rename trF _ _ _ ∧ _ => q9; exact absurd q9.1.1 hs)
           | (with_reducible exact Or.inl trivial)
           | (with_reducible exact Or.inr trivial)
           | (exact hW _ (by assumption))
           | (exact hW)
           | (exact hsm)
           | (exact f _ _ up_p (fun q => absurd q (by decide)) (lwI_u (lwI_o hI)))
           | (rename frF [39, 48] [56, 57] _ _ => fr2
              have fr3 := fr2
              exact f _ _ (by assumption) (fun _ => ⟨((congrFun (fr2.2.1 58 (by simp)) 0).trans up_q), by first | exact rl_ru (by first | exact hW _ (by assumption) | exact hW _ hs) hwd.1 | exact rl_wd (by omega) (by omega)⟩) (lwI_r (z := (_, _)) (lwI_o hI) fr3 (by simp) (fun j hj => by first | (rename ∀ j, j ≠ 8 → _ => g; first | exact (g j (by omega)).trans (congrFun e39.symm j) | exact g j (by omega)) | (rename ∀ j, j ≠ 28 → j ≠ 8 → _ => g; first | exact (g j (by omega) (by omega)).trans (congrFun e39.symm j) | exact g j (by omega) (by omega)))))
           | (rename frF [39, 48] [56, 57] _ _ => fr2
              have fr3 := fr2
              exact f _ _ (by assumption) (fun q => absurd q (by decide)) (lwI_r (z := (_, _)) (lwI_o hI) fr3 (by simp) (fun j hj => by first | (rename ∀ j, j ≠ 8 → _ => g; first | exact (g j (by omega)).trans (congrFun e39.symm j) | exact g j (by omega)) | (rename ∀ j, j ≠ 28 → j ≠ 8 → _ => g; first | exact (g j (by omega) (by omega)).trans (congrFun e39.symm j) | exact g j (by omega) (by omega))))))
      | (refine H _ _ (fun Q2 f => ?_)
         simp only [C_X10_acceptedWords, true_and]
         (repeat' first | with_reducible apply And.intro | with_reducible intro _)
         all_goals first
           | (with_reducible exact rfl)
           | omega
           | assumption
           | contradiction
           | (rename trF _ _ _ ∧ _ => q9; exact absurd q9.1.1 hs)
           | (with_reducible exact Or.inl trivial)
           | (with_reducible exact Or.inr trivial)
           | (exact hW _ (by assumption))
           | (exact hW)
           | (exact f _ _ up_p (fun _ => ⟨up_q, by first | exact rl_ru (by first | exact hW _ (by assumption) | exact hW _ hs) hwd.1 | exact rl_wd (by omega) (by omega)⟩) (lwI_u h))
           | (exact f _ _ up_p (fun q => absurd q (by decide)) (lwI_u h))
           | (rename frF [39, 48] [56, 57] _ _ => fr2
              have fr3 := fr2
              have hI := h
              exact f _ _ (by assumption) (fun q => absurd q (by decide)) (lwI_r (z := (_, _)) (lwI_o hI) fr3 (by simp) (fun j hj => by first | (rename ∀ j, j ≠ 8 → _ => g; first | exact (g j (by omega)).trans (congrFun e39.symm j) | exact g j (by omega)) | (rename ∀ j, j ≠ 28 → j ≠ 8 → _ => g; first | exact (g j (by omega) (by omega)).trans (congrFun e39.symm j) | exact g j (by omega) (by omega))))))
set_option maxRecDepth 100000 in
set_option maxHeartbeats 4000000 in
theorem lc_acceptedShare {z : pvM} {s e : Int} (h : lwI z) {Q : pvO → pvM → Prop} (H : ∀ (k : Int) (z1 : pvM), (∀ Q2 : pvO → pvM → Prop, (∀ b z2, z2.1 39 8 = k → (k = 0 → z2.2.2 59 0 = b) → lwI z2 → Q2 (.inl (some (vD b))) z2) → C_X10_acceptedShare [vR 39, vI s, vI e] z1 Q2) → Q (.inl (some (vI k))) z1) : C_L_acceptedShare [vR 0, vI s, vI e, vR 59] z Q := by
  have ha := h.1
  have hW := lw_W h
  have hwc := lw_wc h
  have hwd := lw_wd h
  have h7 : z.1 20 4 = z.1 39 7 := h.2.2.1.2.1
  have hag := lw_ag h
  rw [h7] at hag
  have hn := hwd.1
  have hpz : pzF z := h.2.2.2.2.2.1
  have hqu : ∃ L, quF z L := h.2.2.2.2.2.2.1
  have hem : psS z 13 emA := h.2.2.2.2.2.2.2.1
  have hsm : smP z := h.2.2.2.2.2.2.2.2
  by_cases hs : 0 ≤ s ∧ s ≤ 1
  · skip
    simp only [C_L_acceptedShare, C_X9_acceptedShare, wrD, if_true, if_false, reduceIte, Int.reduceEq, List.mem_cons, List.not_mem_nil, or_false, true_and, and_true, hf_0_0, hf_01_0, hf_01_1, hf_03_0, hf_03_3, hf_12_1, hf_12_2, hf_012_0, hf_012_1, hf_012_2, hf_2_2, (ha s hs).1]
    (repeat' first | with_reducible apply And.intro | with_reducible intro _)
    all_goals first
      | (with_reducible exact rfl)
      | omega
      | assumption
      | contradiction
      | (rename trF _ _ _ ∧ _ => q9; exact absurd q9.1.1 hs)
      | (with_reducible exact Or.inl trivial)
      | (with_reducible exact Or.inr trivial)
      | (exact (ha _ (by assumption)).2)
      | (exact (ha _ hs).2)
      | (with_reducible exact ⟨hpz, hwc⟩)
      | (with_reducible exact hqu)
      | (with_reducible exact shD_n (by omega))
      | (with_reducible exact avD_nn (by first | exact hW _ (by assumption) | exact hW _ hs))
      | (exact hnn)
      | (rename frF [5, 6, 7, 8, 9, 10, 11, 12] [34, 35] z _ => fr0
         have hI := lwI_q h fr0 (by assumption)
         have fr := fr0
         have e40 := fr.1 40 (by first | decide | (simp))
         have e39 := fr.1 39 (by first | decide | (simp))
         have e43 := fr.1 43 (by first | decide | (simp))
         have e44 := fr.1 44 (by first | decide | (simp))
         have e52 := fr.1 52 (by first | decide | (simp))
         have hsm := hI.2.2.2.2.2.2.2.2
         refine H _ _ (fun Q2 f => ?_)
         simp only [C_X10_acceptedShare, e40, e39, e43, e44, true_and]
         (repeat' first | with_reducible apply And.intro | with_reducible intro _)
         all_goals first
           | (with_reducible exact rfl)
           | omega
           | assumption
           | contradiction
           | (rename trF _ _ _ ∧ _ => q9; exact absurd q9.1.1 hs)
           | (with_reducible exact Or.inl trivial)
           | (with_reducible exact Or.inr trivial)
           | (exact hW _ (by assumption))
           | (exact hW)
           | (exact hsm)
           | (exact f _ _ up_p (fun q => absurd q (by decide)) (lwI_u (lwI_o hI)))
           | (rename frF [39, 48] [56, 57] _ _ => fr2
              have fr3 := fr2
              exact f _ _ (by assumption) (fun _ => ((congrFun (congrFun fr2.2.2 59) 0).trans up_d)) (lwI_r (z := (_, _)) (lwI_o hI) fr3 (by simp) (fun j hj => by first | (rename ∀ j, j ≠ 8 → _ => g; first | exact (g j (by omega)).trans (congrFun e39.symm j) | exact g j (by omega)) | (rename ∀ j, j ≠ 28 → j ≠ 8 → _ => g; first | exact (g j (by omega) (by omega)).trans (congrFun e39.symm j) | exact g j (by omega) (by omega)))))
           | (rename frF [39, 48] [56, 57] _ _ => fr2
              have fr3 := fr2
              exact f _ _ (by assumption) (fun q => absurd q (by decide)) (lwI_r (z := (_, _)) (lwI_o hI) fr3 (by simp) (fun j hj => by first | (rename ∀ j, j ≠ 8 → _ => g; first | exact (g j (by omega)).trans (congrFun e39.symm j) | exact g j (by omega)) | (rename ∀ j, j ≠ 28 → j ≠ 8 → _ => g; first | exact (g j (by omega) (by omega)).trans (congrFun e39.symm j) | exact g j (by omega) (by omega))))))
      | (refine H _ _ (fun Q2 f => ?_)
         simp only [C_X10_acceptedShare, true_and]
         (repeat' first | with_reducible apply And.intro | with_reducible intro _)
         all_goals first
           | (with_reducible exact rfl)
           | omega
           | assumption
           | contradiction
           | (rename trF _ _ _ ∧ _ => q9; exact absurd q9.1.1 hs)
           | (with_reducible exact Or.inl trivial)
           | (with_reducible exact Or.inr trivial)
           | (exact hW _ (by assumption))
           | (exact hW)
           | (exact f _ _ up_p (fun _ => up_d) (lwI_u h))
           | (exact f _ _ up_p (fun q => absurd q (by decide)) (lwI_u h))
           | (rename frF [39, 48] [56, 57] _ _ => fr2
              have fr3 := fr2
              have hI := h
              exact f _ _ (by assumption) (fun q => absurd q (by decide)) (lwI_r (z := (_, _)) (lwI_o hI) fr3 (by simp) (fun j hj => by first | (rename ∀ j, j ≠ 8 → _ => g; first | exact (g j (by omega)).trans (congrFun e39.symm j) | exact g j (by omega)) | (rename ∀ j, j ≠ 28 → j ≠ 8 → _ => g; first | exact (g j (by omega) (by omega)).trans (congrFun e39.symm j) | exact g j (by omega) (by omega))))))
  · skip
    simp only [C_L_acceptedShare, C_X9_acceptedShare, wrD, if_true, if_false, reduceIte, Int.reduceEq, List.mem_cons, List.not_mem_nil, or_false, true_and, and_true, hf_0_0, hf_01_0, hf_01_1, hf_03_0, hf_03_3, hf_12_1, hf_12_2, hf_012_0, hf_012_1, hf_012_2, hf_2_2]
    (repeat' first | with_reducible apply And.intro | with_reducible intro _)
    all_goals first
      | (with_reducible exact rfl)
      | omega
      | assumption
      | contradiction
      | (rename trF _ _ _ ∧ _ => q9; exact absurd q9.1.1 hs)
      | (with_reducible exact Or.inl trivial)
      | (with_reducible exact Or.inr trivial)
      | (exact (ha _ (by assumption)).2)
      | (exact (ha _ hs).2)
      | (with_reducible exact ⟨hpz, hwc⟩)
      | (with_reducible exact hqu)
      | (with_reducible exact shD_n (by omega))
      | (with_reducible exact avD_nn (by first | exact hW _ (by assumption) | exact hW _ hs))
      | (exact hnn)
      | (rename frF [5, 6, 7, 8, 9, 10, 11, 12] [34, 35] z _ => fr0
         have hI := lwI_q h fr0 (by assumption)
         have fr := fr0
         have e40 := fr.1 40 (by first | decide | (simp))
         have e39 := fr.1 39 (by first | decide | (simp))
         have e43 := fr.1 43 (by first | decide | (simp))
         have e44 := fr.1 44 (by first | decide | (simp))
         have e52 := fr.1 52 (by first | decide | (simp))
         have hsm := hI.2.2.2.2.2.2.2.2
         refine H _ _ (fun Q2 f => ?_)
         simp only [C_X10_acceptedShare, e40, e39, e43, e44, true_and]
         (repeat' first | with_reducible apply And.intro | with_reducible intro _)
         all_goals first
           | (with_reducible exact rfl)
           | omega
           | assumption
           | contradiction
           | (rename trF _ _ _ ∧ _ => q9; exact absurd q9.1.1 hs)
           | (with_reducible exact Or.inl trivial)
           | (with_reducible exact Or.inr trivial)
           | (exact hW _ (by assumption))
           | (exact hW)
           | (exact hsm)
           | (exact f _ _ up_p (fun q => absurd q (by decide)) (lwI_u (lwI_o hI)))
           | (rename frF [39, 48] [56, 57] _ _ => fr2
              have fr3 := fr2
              exact f _ _ (by assumption) (fun _ => ((congrFun (congrFun fr2.2.2 59) 0).trans up_d)) (lwI_r (z := (_, _)) (lwI_o hI) fr3 (by simp) (fun j hj => by first | (rename ∀ j, j ≠ 8 → _ => g; first | exact (g j (by omega)).trans (congrFun e39.symm j) | exact g j (by omega)) | (rename ∀ j, j ≠ 28 → j ≠ 8 → _ => g; first | exact (g j (by omega) (by omega)).trans (congrFun e39.symm j) | exact g j (by omega) (by omega)))))
           | (rename frF [39, 48] [56, 57] _ _ => fr2
              have fr3 := fr2
              exact f _ _ (by assumption) (fun q => absurd q (by decide)) (lwI_r (z := (_, _)) (lwI_o hI) fr3 (by simp) (fun j hj => by first | (rename ∀ j, j ≠ 8 → _ => g; first | exact (g j (by omega)).trans (congrFun e39.symm j) | exact g j (by omega)) | (rename ∀ j, j ≠ 28 → j ≠ 8 → _ => g; first | exact (g j (by omega) (by omega)).trans (congrFun e39.symm j) | exact g j (by omega) (by omega))))))
      | (refine H _ _ (fun Q2 f => ?_)
         simp only [C_X10_acceptedShare, true_and]
         (repeat' first | with_reducible apply And.intro | with_reducible intro _)
         all_goals first
           | (with_reducible exact rfl)
           | omega
           | assumption
           | contradiction
           | (rename trF _ _ _ ∧ _ => q9; exact absurd q9.1.1 hs)
           | (with_reducible exact Or.inl trivial)
           | (with_reducible exact Or.inr trivial)
           | (exact hW _ (by assumption))
           | (exact hW)
           | (exact f _ _ up_p (fun _ => up_d) (lwI_u h))
           | (exact f _ _ up_p (fun q => absurd q (by decide)) (lwI_u h))
           | (rename frF [39, 48] [56, 57] _ _ => fr2
              have fr3 := fr2
              have hI := h
              exact f _ _ (by assumption) (fun q => absurd q (by decide)) (lwI_r (z := (_, _)) (lwI_o hI) fr3 (by simp) (fun j hj => by first | (rename ∀ j, j ≠ 8 → _ => g; first | exact (g j (by omega)).trans (congrFun e39.symm j) | exact g j (by omega)) | (rename ∀ j, j ≠ 28 → j ≠ 8 → _ => g; first | exact (g j (by omega) (by omega)).trans (congrFun e39.symm j) | exact g j (by omega) (by omega))))))
set_option maxRecDepth 100000 in
set_option maxHeartbeats 4000000 in
theorem lc_averageBranches {z : pvM} {s : Int} (h : lwI z) {Q : pvO → pvM → Prop} (H : ∀ (k : Int) (z1 : pvM), (∀ Q2 : pvO → pvM → Prop, (∀ b z2, z2.1 39 8 = k → (k = 0 → z2.2.2 59 0 = FP.f2d b) ∧ vf_n64 (FP.f2d b) → lwI z2 → Q2 (.inl (some (vF b))) z2) → C_X10_averageBranches [vR 39, vI s] z1 Q2) → Q (.inl (some (vI k))) z1) : C_L_averageBranches [vR 0, vI s, vR 59] z Q := by
  have ha := h.1
  have hW := lw_W h
  have hwc := lw_wc h
  have hwd := lw_wd h
  have h7 : z.1 20 4 = z.1 39 7 := h.2.2.1.2.1
  have hag := lw_ag h
  rw [h7] at hag
  have hn := hwd.1
  have hpz : pzF z := h.2.2.2.2.2.1
  have hqu : ∃ L, quF z L := h.2.2.2.2.2.2.1
  have hem : psS z 13 emA := h.2.2.2.2.2.2.2.1
  have hsm : smP z := h.2.2.2.2.2.2.2.2
  by_cases hs : 0 ≤ s ∧ s ≤ 1
  · skip
    simp only [C_L_averageBranches, C_X9_averageBranches, wrF, if_true, if_false, reduceIte, Int.reduceEq, List.mem_cons, List.not_mem_nil, or_false, true_and, and_true, hf_0_0, hf_01_0, hf_01_1, hf_03_0, hf_03_3, hf_12_1, hf_12_2, hf_012_0, hf_012_1, hf_012_2, hf_2_2, (ha s hs).1]
    (repeat' first | with_reducible apply And.intro | with_reducible intro _)
    all_goals first
      | (with_reducible exact rfl)
      | omega
      | assumption
      | contradiction
      | (rename trF _ _ _ ∧ _ => q9; exact absurd q9.1.1 hs)
      | (with_reducible exact Or.inl trivial)
      | (with_reducible exact Or.inr trivial)
      | (exact (ha _ (by assumption)).2)
      | (exact (ha _ hs).2)
      | (with_reducible exact ⟨hpz, hwc⟩)
      | (with_reducible exact hqu)
      | (with_reducible exact shD_n (by omega))
      | (with_reducible exact avD_nn (by first | exact hW _ (by assumption) | exact hW _ hs))
      | (exact hnn)
      | (rename pyF z s _ => fr0
         have hI := lwI_p h (py_de fr0)
         have fr := (py_de fr0).1
         have e40 := fr.1 40 (by first | decide | (simp))
         have e39 := fr.1 39 (by first | decide | (simp))
         have e43 := fr.1 43 (by first | decide | (simp))
         have e44 := fr.1 44 (by first | decide | (simp))
         have e52 := fr.1 52 (by first | decide | (simp))
         have hsm := hI.2.2.2.2.2.2.2.2
         refine H _ _ (fun Q2 f => ?_)
         simp only [C_X10_averageBranches, e40, e39, e43, e44, true_and]
         (repeat' first | with_reducible apply And.intro | with_reducible intro _)
         all_goals first
           | (with_reducible exact rfl)
           | omega
           | assumption
           | contradiction
           | (rename trF _ _ _ ∧ _ => q9; exact absurd q9.1.1 hs)
           | (with_reducible exact Or.inl trivial)
           | (with_reducible exact Or.inr trivial)
           | (exact hW _ (by assumption))
           | (exact hW)
           | (exact hsm)
           | (exact f _ _ up_p ⟨fun q => absurd q (by decide), f2d_n (n32_of (n := 0) (by decide))⟩ (lwI_u (lwI_o hI)))
           | (rename deF _ _ => fr2
              have fr3 := fr2
              replace fr2 := fr2.1
              exact f _ _ (by assumption) ⟨fun _ => ((congrFun (congrFun fr2.2.2 59) 0).trans up_d), f2d_n (by first | exact avD_nn (hW _ hs) | exact avD_nn (hW _ (by assumption)) | exact n32_of (n := 0) (by decide))⟩ (lwI_d (z := (_, _)) (lwI_o hI) fr3))
           | (rename deF _ _ => fr2
              have fr3 := fr2
              replace fr2 := fr2.1
              exact f _ _ (by assumption) ⟨fun q => absurd q (by decide), f2d_n (n32_of (n := 0) (by decide))⟩ (lwI_d (z := (_, _)) (lwI_o hI) fr3)))
      | (refine H _ _ (fun Q2 f => ?_)
         simp only [C_X10_averageBranches, true_and]
         (repeat' first | with_reducible apply And.intro | with_reducible intro _)
         all_goals first
           | (with_reducible exact rfl)
           | omega
           | assumption
           | contradiction
           | (rename trF _ _ _ ∧ _ => q9; exact absurd q9.1.1 hs)
           | (with_reducible exact Or.inl trivial)
           | (with_reducible exact Or.inr trivial)
           | (exact hW _ (by assumption))
           | (exact hW)
           | (exact f _ _ up_p ⟨fun _ => up_d, f2d_n (by first | exact avD_nn (hW _ hs) | exact avD_nn (hW _ (by assumption)) | exact n32_of (n := 0) (by decide))⟩ (lwI_u h))
           | (exact f _ _ up_p ⟨fun q => absurd q (by decide), f2d_n (n32_of (n := 0) (by decide))⟩ (lwI_u h))
           | (rename deF _ _ => fr2
              have fr3 := fr2
              have hI := h
              exact f _ _ (by assumption) ⟨fun q => absurd q (by decide), f2d_n (n32_of (n := 0) (by decide))⟩ (lwI_d (z := (_, _)) (lwI_o hI) fr3)))
  · skip
    simp only [C_L_averageBranches, C_X9_averageBranches, wrF, if_true, if_false, reduceIte, Int.reduceEq, List.mem_cons, List.not_mem_nil, or_false, true_and, and_true, hf_0_0, hf_01_0, hf_01_1, hf_03_0, hf_03_3, hf_12_1, hf_12_2, hf_012_0, hf_012_1, hf_012_2, hf_2_2]
    (repeat' first | with_reducible apply And.intro | with_reducible intro _)
    all_goals first
      | (with_reducible exact rfl)
      | omega
      | assumption
      | contradiction
      | (rename trF _ _ _ ∧ _ => q9; exact absurd q9.1.1 hs)
      | (with_reducible exact Or.inl trivial)
      | (with_reducible exact Or.inr trivial)
      | (exact (ha _ (by assumption)).2)
      | (exact (ha _ hs).2)
      | (with_reducible exact ⟨hpz, hwc⟩)
      | (with_reducible exact hqu)
      | (with_reducible exact shD_n (by omega))
      | (with_reducible exact avD_nn (by first | exact hW _ (by assumption) | exact hW _ hs))
      | (exact hnn)
      | (rename pyF z s _ => fr0
         have hI := lwI_p h (py_de fr0)
         have fr := (py_de fr0).1
         have e40 := fr.1 40 (by first | decide | (simp))
         have e39 := fr.1 39 (by first | decide | (simp))
         have e43 := fr.1 43 (by first | decide | (simp))
         have e44 := fr.1 44 (by first | decide | (simp))
         have e52 := fr.1 52 (by first | decide | (simp))
         have hsm := hI.2.2.2.2.2.2.2.2
         refine H _ _ (fun Q2 f => ?_)
         simp only [C_X10_averageBranches, e40, e39, e43, e44, true_and]
         (repeat' first | with_reducible apply And.intro | with_reducible intro _)
         all_goals first
           | (with_reducible exact rfl)
           | omega
           | assumption
           | contradiction
           | (rename trF _ _ _ ∧ _ => q9; exact absurd q9.1.1 hs)
           | (with_reducible exact Or.inl trivial)
           | (with_reducible exact Or.inr trivial)
           | (exact hW _ (by assumption))
           | (exact hW)
           | (exact hsm)
           | (exact f _ _ up_p ⟨fun q => absurd q (by decide), f2d_n (n32_of (n := 0) (by decide))⟩ (lwI_u (lwI_o hI)))
           | (rename deF _ _ => fr2
              have fr3 := fr2
              replace fr2 := fr2.1
              exact f _ _ (by assumption) ⟨fun _ => ((congrFun (congrFun fr2.2.2 59) 0).trans up_d), f2d_n (by first | exact avD_nn (hW _ hs) | exact avD_nn (hW _ (by assumption)) | exact n32_of (n := 0) (by decide))⟩ (lwI_d (z := (_, _)) (lwI_o hI) fr3))
           | (rename deF _ _ => fr2
              have fr3 := fr2
              replace fr2 := fr2.1
              exact f _ _ (by assumption) ⟨fun q => absurd q (by decide), f2d_n (n32_of (n := 0) (by decide))⟩ (lwI_d (z := (_, _)) (lwI_o hI) fr3)))
      | (refine H _ _ (fun Q2 f => ?_)
         simp only [C_X10_averageBranches, true_and]
         (repeat' first | with_reducible apply And.intro | with_reducible intro _)
         all_goals first
           | (with_reducible exact rfl)
           | omega
           | assumption
           | contradiction
           | (rename trF _ _ _ ∧ _ => q9; exact absurd q9.1.1 hs)
           | (with_reducible exact Or.inl trivial)
           | (with_reducible exact Or.inr trivial)
           | (exact hW _ (by assumption))
           | (exact hW)
           | (exact f _ _ up_p ⟨fun _ => up_d, f2d_n (by first | exact avD_nn (hW _ hs) | exact avD_nn (hW _ (by assumption)) | exact n32_of (n := 0) (by decide))⟩ (lwI_u h))
           | (exact f _ _ up_p ⟨fun q => absurd q (by decide), f2d_n (n32_of (n := 0) (by decide))⟩ (lwI_u h))
           | (rename deF _ _ => fr2
              have fr3 := fr2
              have hI := h
              exact f _ _ (by assumption) ⟨fun q => absurd q (by decide), f2d_n (n32_of (n := 0) (by decide))⟩ (lwI_d (z := (_, _)) (lwI_o hI) fr3)))
