/-! the law: the calls that change something: their lemmas -/
set_option maxRecDepth 100000 in
set_option maxHeartbeats 4000000 in
theorem lc_removeTransition {z : pvM} {s t : Int} (h : lwI z) {Q : pvO → pvM → Prop} (H : ∀ (k : Int) (z1 : pvM), (∀ Q2 : pvO → pvM → Prop, (∀ b z2, z2.1 39 8 = k → (k = 0 → z2.2.1 58 0 = b ∧ pvRL b) → lwI z2 → Q2 (.inl (some (vI b))) z2) → C_X10_removeTransition [vR 39, vI s, vI t] z1 Q2) → Q (.inl (some (vI k))) z1) : C_L_removeTransition [vR 0, vI s, vI t, vR 58] z Q := by
  have ha := h.1
  have hW := lw_W h
  have hwc := lw_wc h
  have hwd := lw_wd h
  have h7 : z.1 20 4 = z.1 39 7 := h.2.2.1.2.1
  have hag := lw_ag h
  rw [h7] at hag
  have hn := hwd.1
  have hpz : pzF z := h.2.2.2.2.2.1
  have hqu : ∃ L, quF z L := h.2.2.2.2.2.2.1
  have hem : psS z 13 emA := h.2.2.2.2.2.2.2.1
  have hsm : smP z := h.2.2.2.2.2.2.2.2
  have t1 := h.2.1.1
  have hhi : hiF z := h.2.2.2.1.1.1
  have h3 : z.1 36 3 = z.1 39 3 := h.2.2.2.1.1.2
  have h39 : 0 ≤ z.1 39 3 ∧ z.1 39 3 ≤ 8 := by rw [← h3]; exact hhi.2
  have hk4 := h.2.2.2.2.1.1
  have hC := lw_C h
  have hop : ∀ hs : 0 ≤ s ∧ s ≤ 1, autC (z.1 (rwC s)) = autR (z.1 40) s := fun hs => (ha s hs).1
  by_cases hs : 0 ≤ s ∧ s ≤ 1
  · have e := hop hs
    simp only [C_L_removeTransition, C_X9_removeTransition, wrI, if_true, if_false, reduceIte, Int.reduceEq, List.mem_cons, List.not_mem_nil, or_false, true_and, and_true, hf_0_0, hf_01_0, hf_01_1, hf_03_0, hf_03_3, hf_12_1, hf_12_2, hf_012_0, hf_012_1, hf_012_2, hf_2_2, e, lw_tr h]
    (repeat' first | with_reducible apply And.intro | with_reducible intro _)
    all_goals first
      | (with_reducible exact rfl)
      | omega
      | assumption
      | contradiction
      | (rename trF _ _ _ => q9; exact absurd q9.1 hs)
      | (with_reducible exact Or.inl trivial)
      | (with_reducible exact Or.inr trivial)
      | (with_reducible exact Or.inr (Or.inl trivial))
      | (with_reducible exact Or.inr (Or.inr trivial))
      | (exact hW _ (by assumption))
      | (exact hW)
      | (exact hsm)
      | (exact hsm _ (by assumption))
      | (exact hC.1)
      | (exact hC.2)
      | (exact hon)
      | (exact (htx _ (by assumption)).1)
      | (exact (htx _ (by assumption)).2)
      | (exact (hty _ (by assumption)).1)
      | (exact (hty _ (by assumption)).2)
      | (exact hqu)
      | (refine H _ _ (fun Q2 f => ?_)
         simp only [C_X10_removeTransition, true_and]
         (repeat' first | with_reducible apply And.intro | with_reducible intro _)
         all_goals first
           | (with_reducible exact rfl)
           | omega
           | assumption
           | contradiction
           | (rename trF _ _ _ => q9; exact absurd q9.1 hs)
           | (with_reducible exact Or.inl trivial)
           | (with_reducible exact Or.inr trivial)
           | (with_reducible exact Or.inr (Or.inl trivial))
           | (with_reducible exact Or.inr (Or.inr trivial))
           | (exact hW _ (by assumption))
           | (exact hW)
           | (exact hsm)
           | (exact hsm _ (by assumption))
           | (exact hC.1)
           | (exact hC.2)
           | (exact hon)
           | (exact (htx _ (by assumption)).1)
           | (exact (htx _ (by assumption)).2)
           | (exact (hty _ (by assumption)).1)
           | (exact (hty _ (by assumption)).2)
           | (exact hqu)
           | (exact f _ _ up_p (fun q => absurd q (by decide)) (lwI_u h)))
      | (rename frF [2, 4, 5, 9, 36, 37] [] z _ => fr
         refine H _ _ (fun Q2 f => ?_)
         have e40 := fr.1 40 (by decide)
         have e39 := fr.1 39 (by decide)
         simp only [C_X10_removeTransition, e39, e40, true_and]
         (repeat' first | with_reducible apply And.intro | with_reducible intro _)
         all_goals first
           | (with_reducible exact rfl)
           | omega
           | assumption
           | contradiction
           | (rename trF _ _ _ => q9; exact absurd q9.1 hs)
           | (with_reducible exact Or.inl trivial)
           | (with_reducible exact Or.inr trivial)
           | (with_reducible exact Or.inr (Or.inl trivial))
           | (with_reducible exact Or.inr (Or.inr trivial))
           | (exact hW _ (by assumption))
           | (exact hW)
           | (exact hsm)
           | (exact hsm _ (by assumption))
           | (exact hC.1)
           | (exact hC.2)
           | (exact hon)
           | (exact (htx _ (by assumption)).1)
           | (exact (htx _ (by assumption)).2)
           | (exact (hty _ (by assumption)).1)
           | (exact (hty _ (by assumption)).2)
           | (exact hqu)
           | (exact f _ _ up_p (fun q => absurd q (by decide)) (lwI_u (lwI_o h)))
           | (rename frF [39, 40, 42] [] _ _ => fr2
              refine f _ _ (by assumption) (fun _ => ⟨((congrFun (fr2.2.1 58 (by simp)) 0).trans up_q), rl_of (by assumption)⟩) ?_
              exact lw_op (s := s) (b := _) (fun A => rmA A t.toNat) h hs fr (by assumption) (by assumption) (by first | assumption | (rw [e]; assumption)) (by assumption) (by assumption) fr2 (by assumption) (by assumption) (by assumption) (by assumption)))
  · simp only [C_L_removeTransition, C_X9_removeTransition, wrI, if_true, if_false, reduceIte, Int.reduceEq, List.mem_cons, List.not_mem_nil, or_false, true_and, and_true, hf_0_0, hf_01_0, hf_01_1, hf_03_0, hf_03_3, hf_12_1, hf_12_2, hf_012_0, hf_012_1, hf_012_2, hf_2_2, lw_tr h]
    (repeat' first | with_reducible apply And.intro | with_reducible intro _)
    all_goals first
      | (with_reducible exact rfl)
      | omega
      | assumption
      | contradiction
      | (rename trF _ _ _ => q9; exact absurd q9.1 hs)
      | (with_reducible exact Or.inl trivial)
      | (with_reducible exact Or.inr trivial)
      | (with_reducible exact Or.inr (Or.inl trivial))
      | (with_reducible exact Or.inr (Or.inr trivial))
      | (exact hW _ (by assumption))
      | (exact hW)
      | (exact hsm)
      | (exact hsm _ (by assumption))
      | (exact hC.1)
      | (exact hC.2)
      | (exact hon)
      | (exact (htx _ (by assumption)).1)
      | (exact (htx _ (by assumption)).2)
      | (exact (hty _ (by assumption)).1)
      | (exact (hty _ (by assumption)).2)
      | (exact hqu)
      | (refine H _ _ (fun Q2 f => ?_)
         simp only [C_X10_removeTransition, true_and]
         (repeat' first | with_reducible apply And.intro | with_reducible intro _)
         all_goals first
           | (with_reducible exact rfl)
           | omega
           | assumption
           | contradiction
           | (rename trF _ _ _ => q9; exact absurd q9.1 hs)
           | (with_reducible exact Or.inl trivial)
           | (with_reducible exact Or.inr trivial)
           | (with_reducible exact Or.inr (Or.inl trivial))
           | (with_reducible exact Or.inr (Or.inr trivial))
           | (exact hW _ (by assumption))
           | (exact hW)
           | (exact hsm)
           | (exact hsm _ (by assumption))
           | (exact hC.1)
           | (exact hC.2)
           | (exact hon)
           | (exact (htx _ (by assumption)).1)
           | (exact (htx _ (by assumption)).2)
           | (exact (hty _ (by assumption)).1)
           | (exact (hty _ (by assumption)).2)
           | (exact hqu)
           | (exact f _ _ up_p (fun q => absurd q (by decide)) (lwI_u h)))
set_option maxRecDepth 100000 in
set_option maxHeartbeats 4000000 in
theorem lc_setInitial {z : pvM} {s q on : Int} (h : lwI z) (hon : on = 0 ∨ on = 1) {Q : pvO → pvM → Prop} (H : ∀ (k : Int) (z1 : pvM), (∀ Q2 : pvO → pvM → Prop, (∀ b z2, z2.1 39 8 = k → (k = 0 → z2.2.1 58 0 = if b = 0 then 0 else 1) → lwI z2 → Q2 (.inl (some (vI b))) z2) → C_X10_setInitial [vR 39, vI s, vI q, vI on] z1 Q2) → Q (.inl (some (vI k))) z1) : C_L_setInitial [vR 0, vI s, vI q, vI on, vR 58] z Q := by
  have ha := h.1
  have hW := lw_W h
  have hwc := lw_wc h
  have hwd := lw_wd h
  have h7 : z.1 20 4 = z.1 39 7 := h.2.2.1.2.1
  have hag := lw_ag h
  rw [h7] at hag
  have hn := hwd.1
  have hpz : pzF z := h.2.2.2.2.2.1
  have hqu : ∃ L, quF z L := h.2.2.2.2.2.2.1
  have hem : psS z 13 emA := h.2.2.2.2.2.2.2.1
  have hsm : smP z := h.2.2.2.2.2.2.2.2
  have t1 := h.2.1.1
  have hhi : hiF z := h.2.2.2.1.1.1
  have h3 : z.1 36 3 = z.1 39 3 := h.2.2.2.1.1.2
  have h39 : 0 ≤ z.1 39 3 ∧ z.1 39 3 ≤ 8 := by rw [← h3]; exact hhi.2
  have hk4 := h.2.2.2.2.1.1
  have hC := lw_C h
  have hop : ∀ hs : 0 ≤ s ∧ s ≤ 1, autC (z.1 (rwC s)) = autR (z.1 40) s := fun hs => (ha s hs).1
  by_cases hs : 0 ≤ s ∧ s ≤ 1
  · have e := hop hs
    simp only [C_L_setInitial, C_X9_setInitial, wrB, if_true, if_false, reduceIte, Int.reduceEq, List.mem_cons, List.not_mem_nil, or_false, true_and, and_true, hf_0_0, hf_01_0, hf_01_1, hf_03_0, hf_03_3, hf_12_1, hf_12_2, hf_012_0, hf_012_1, hf_012_2, hf_2_2, e]
    (repeat' first | with_reducible apply And.intro | with_reducible intro _)
    all_goals first
      | (with_reducible exact rfl)
      | omega
      | assumption
      | contradiction
      | (rename trF _ _ _ => q9; exact absurd q9.1 hs)
      | (with_reducible exact Or.inl trivial)
      | (with_reducible exact Or.inr trivial)
      | (with_reducible exact Or.inr (Or.inl trivial))
      | (with_reducible exact Or.inr (Or.inr trivial))
      | (exact hW _ (by assumption))
      | (exact hW)
      | (exact hsm)
      | (exact hsm _ (by assumption))
      | (exact hC.1)
      | (exact hC.2)
      | (exact hon)
      | (exact (htx _ (by assumption)).1)
      | (exact (htx _ (by assumption)).2)
      | (exact (hty _ (by assumption)).1)
      | (exact (hty _ (by assumption)).2)
      | (exact hqu)
      | (refine H _ _ (fun Q2 f => ?_)
         simp only [C_X10_setInitial, true_and]
         (repeat' first | with_reducible apply And.intro | with_reducible intro _)
         all_goals first
           | (with_reducible exact rfl)
           | omega
           | assumption
           | contradiction
           | (rename trF _ _ _ => q9; exact absurd q9.1 hs)
           | (with_reducible exact Or.inl trivial)
           | (with_reducible exact Or.inr trivial)
           | (with_reducible exact Or.inr (Or.inl trivial))
           | (with_reducible exact Or.inr (Or.inr trivial))
           | (exact hW _ (by assumption))
           | (exact hW)
           | (exact hsm)
           | (exact hsm _ (by assumption))
           | (exact hC.1)
           | (exact hC.2)
           | (exact hon)
           | (exact (htx _ (by assumption)).1)
           | (exact (htx _ (by assumption)).2)
           | (exact (hty _ (by assumption)).1)
           | (exact (hty _ (by assumption)).2)
           | (exact hqu)
           | (exact f _ _ up_p (fun q => absurd q (by decide)) (lwI_u h)))
      | (rename frF [2, 4, 5, 9, 36, 37] [] z _ => fr
         refine H _ _ (fun Q2 f => ?_)
         have e40 := fr.1 40 (by decide)
         have e39 := fr.1 39 (by decide)
         simp only [C_X10_setInitial, e39, e40, true_and]
         (repeat' first | with_reducible apply And.intro | with_reducible intro _)
         all_goals first
           | (with_reducible exact rfl)
           | omega
           | assumption
           | contradiction
           | (rename trF _ _ _ => q9; exact absurd q9.1 hs)
           | (with_reducible exact Or.inl trivial)
           | (with_reducible exact Or.inr trivial)
           | (with_reducible exact Or.inr (Or.inl trivial))
           | (with_reducible exact Or.inr (Or.inr trivial))
           | (exact hW _ (by assumption))
           | (exact hW)
           | (exact hsm)
           | (exact hsm _ (by assumption))
           | (exact hC.1)
           | (exact hC.2)
           | (exact hon)
           | (exact (htx _ (by assumption)).1)
           | (exact (htx _ (by assumption)).2)
           | (exact (hty _ (by assumption)).1)
           | (exact (hty _ (by assumption)).2)
           | (exact hqu)
           | (exact f _ _ up_p (fun q => absurd q (by decide)) (lwI_u (lwI_o h)))
           | (rename frF [39, 40, 42] [] _ _ => fr2
              refine f _ _ (by assumption) (fun _ => ((congrFun (fr2.2.1 58 (by simp)) 0).trans up_q)) ?_
              exact lw_op (s := s) (b := _) (fun A => inA A (msF A.2.1 q on)) h hs fr (by assumption) (by assumption) (by first | assumption | (rw [e]; assumption)) (by assumption) (by assumption) fr2 (by assumption) (by assumption) (by assumption) (by assumption)))
  · simp only [C_L_setInitial, C_X9_setInitial, wrB, if_true, if_false, reduceIte, Int.reduceEq, List.mem_cons, List.not_mem_nil, or_false, true_and, and_true, hf_0_0, hf_01_0, hf_01_1, hf_03_0, hf_03_3, hf_12_1, hf_12_2, hf_012_0, hf_012_1, hf_012_2, hf_2_2]
    (repeat' first | with_reducible apply And.intro | with_reducible intro _)
    all_goals first
      | (with_reducible exact rfl)
      | omega
      | assumption
      | contradiction
      | (rename trF _ _ _ => q9; exact absurd q9.1 hs)
      | (with_reducible exact Or.inl trivial)
      | (with_reducible exact Or.inr trivial)
      | (with_reducible exact Or.inr (Or.inl trivial))
      | (with_reducible exact Or.inr (Or.inr trivial))
      | (exact hW _ (by assumption))
      | (exact hW)
      | (exact hsm)
      | (exact hsm _ (by assumption))
      | (exact hC.1)
      | (exact hC.2)
      | (exact hon)
      | (exact (htx _ (by assumption)).1)
      | (exact (htx _ (by assumption)).2)
      | (exact (hty _ (by assumption)).1)
      | (exact (hty _ (by assumption)).2)
      | (exact hqu)
      | (refine H _ _ (fun Q2 f => ?_)
         simp only [C_X10_setInitial, true_and]
         (repeat' first | with_reducible apply And.intro | with_reducible intro _)
         all_goals first
           | (with_reducible exact rfl)
           | omega
           | assumption
           | contradiction
           | (rename trF _ _ _ => q9; exact absurd q9.1 hs)
           | (with_reducible exact Or.inl trivial)
           | (with_reducible exact Or.inr trivial)
           | (with_reducible exact Or.inr (Or.inl trivial))
           | (with_reducible exact Or.inr (Or.inr trivial))
           | (exact hW _ (by assumption))
           | (exact hW)
           | (exact hsm)
           | (exact hsm _ (by assumption))
           | (exact hC.1)
           | (exact hC.2)
           | (exact hon)
           | (exact (htx _ (by assumption)).1)
           | (exact (htx _ (by assumption)).2)
           | (exact (hty _ (by assumption)).1)
           | (exact (hty _ (by assumption)).2)
           | (exact hqu)
           | (exact f _ _ up_p (fun q => absurd q (by decide)) (lwI_u h)))
set_option maxRecDepth 100000 in
set_option maxHeartbeats 4000000 in
theorem lc_setFinal {z : pvM} {s q on : Int} (h : lwI z) (hon : on = 0 ∨ on = 1) {Q : pvO → pvM → Prop} (H : ∀ (k : Int) (z1 : pvM), (∀ Q2 : pvO → pvM → Prop, (∀ b z2, z2.1 39 8 = k → (k = 0 → z2.2.1 58 0 = if b = 0 then 0 else 1) → lwI z2 → Q2 (.inl (some (vI b))) z2) → C_X10_setFinal [vR 39, vI s, vI q, vI on] z1 Q2) → Q (.inl (some (vI k))) z1) : C_L_setFinal [vR 0, vI s, vI q, vI on, vR 58] z Q := by
  have ha := h.1
  have hW := lw_W h
  have hwc := lw_wc h
  have hwd := lw_wd h
  have h7 : z.1 20 4 = z.1 39 7 := h.2.2.1.2.1
  have hag := lw_ag h
  rw [h7] at hag
  have hn := hwd.1
  have hpz : pzF z := h.2.2.2.2.2.1
  have hqu : ∃ L, quF z L := h.2.2.2.2.2.2.1
  have hem : psS z 13 emA := h.2.2.2.2.2.2.2.1
  have hsm : smP z := h.2.2.2.2.2.2.2.2
  have t1 := h.2.1.1
  have hhi : hiF z := h.2.2.2.1.1.1
  have h3 : z.1 36 3 = z.1 39 3 := h.2.2.2.1.1.2
  have h39 : 0 ≤ z.1 39 3 ∧ z.1 39 3 ≤ 8 := by rw [← h3]; exact hhi.2
  have hk4 := h.2.2.2.2.1.1
  have hC := lw_C h
  have hop : ∀ hs : 0 ≤ s ∧ s ≤ 1, autC (z.1 (rwC s)) = autR (z.1 40) s := fun hs => (ha s hs).1
  by_cases hs : 0 ≤ s ∧ s ≤ 1
  · have e := hop hs
    simp only [C_L_setFinal, C_X9_setFinal, wrB, if_true, if_false, reduceIte, Int.reduceEq, List.mem_cons, List.not_mem_nil, or_false, true_and, and_true, hf_0_0, hf_01_0, hf_01_1, hf_03_0, hf_03_3, hf_12_1, hf_12_2, hf_012_0, hf_012_1, hf_012_2, hf_2_2, e]
    (repeat' first | with_reducible apply And.intro | with_reducible intro _)
    all_goals first
      | (with_reducible exact rfl)
      | omega
      | assumption
      | contradiction
      | (rename trF _ _ _ => q9; exact absurd q9.1 hs)
      | (with_reducible exact Or.inl trivial)
      | (with_reducible exact Or.inr trivial)
      | (with_reducible exact Or.inr (Or.inl trivial))
      | (with_reducible exact Or.inr (Or.inr trivial))
      | (exact hW _ (by assumption))
      | (exact hW)
      | (exact hsm)
      | (exact hsm _ (by assumption))
      | (exact hC.1)
      | (exact hC.2)
      | (exact hon)
      | (exact (htx _ (by assumption)).1)
      | (exact (htx _ (by assumption)).2)
      | (exact (hty _ (by assumption)).1)
      | (exact (hty _ (by assumption)).2)
      | (exact hqu)
      | (refine H _ _ (fun Q2 f => ?_)
         simp only [C_X10_setFinal, true_and]
         (repeat' first | with_reducible apply And.intro | with_reducible intro _)
         all_goals first
           | (with_reducible exact rfl)
           | omega
           | assumption
           | contradiction
           | (rename trF _ _ _ => q9; exact absurd q9.1 hs)
           | (with_reducible exact Or.inl trivial)
           | (with_reducible exact Or.inr trivial)
           | (with_reducible exact Or.inr (Or.inl trivial))
           | (with_reducible exact Or.inr (Or.inr trivial))
           | (exact hW _ (by assumption))
           | (exact hW)
           | (exact hsm)
           | (exact hsm _ (by assumption))
           | (exact hC.1)
           | (exact hC.2)
           | (exact hon)
           | (exact (htx _ (by assumption)).1)
           | (exact (htx _ (by assumption)).2)
           | (exact (hty _ (by assumption)).1)
           | (exact (hty _ (by assumption)).2)
           | (exact hqu)
           | (exact f _ _ up_p (fun q => absurd q (by decide)) (lwI_u h)))
      | (rename frF [2, 4, 5, 9, 36, 37] [] z _ => fr
         refine H _ _ (fun Q2 f => ?_)
         have e40 := fr.1 40 (by decide)
         have e39 := fr.1 39 (by decide)
         simp only [C_X10_setFinal, e39, e40, true_and]
         (repeat' first | with_reducible apply And.intro | with_reducible intro _)
         all_goals first
           | (with_reducible exact rfl)
           | omega
           | assumption
           | contradiction
           | (rename trF _ _ _ => q9; exact absurd q9.1 hs)
           | (with_reducible exact Or.inl trivial)
           | (with_reducible exact Or.inr trivial)
           | (with_reducible exact Or.inr (Or.inl trivial))
           | (with_reducible exact Or.inr (Or.inr trivial))
           | (exact hW _ (by assumption))
           | (exact hW)
           | (exact hsm)
           | (exact hsm _ (by assumption))
           | (exact hC.1)
           | (exact hC.2)
           | (exact hon)
           | (exact (htx _ (by assumption)).1)
           | (exact (htx _ (by assumption)).2)
           | (exact (hty _ (by assumption)).1)
           | (exact (hty _ (by assumption)).2)
           | (exact hqu)
           | (exact f _ _ up_p (fun q => absurd q (by decide)) (lwI_u (lwI_o h)))
           | (rename frF [39, 40, 42] [] _ _ => fr2
              refine f _ _ (by assumption) (fun _ => ((congrFun (fr2.2.1 58 (by simp)) 0).trans up_q)) ?_
              exact lw_op (s := s) (b := _) (fun A => fiA A (msF A.2.2.1 q on)) h hs fr (by assumption) (by assumption) (by first | assumption | (rw [e]; assumption)) (by assumption) (by assumption) fr2 (by assumption) (by assumption) (by assumption) (by assumption)))
  · simp only [C_L_setFinal, C_X9_setFinal, wrB, if_true, if_false, reduceIte, Int.reduceEq, List.mem_cons, List.not_mem_nil, or_false, true_and, and_true, hf_0_0, hf_01_0, hf_01_1, hf_03_0, hf_03_3, hf_12_1, hf_12_2, hf_012_0, hf_012_1, hf_012_2, hf_2_2]
    (repeat' first | with_reducible apply And.intro | with_reducible intro _)
    all_goals first
      | (with_reducible exact rfl)
      | omega
      | assumption
      | contradiction
      | (rename trF _ _ _ => q9; exact absurd q9.1 hs)
      | (with_reducible exact Or.inl trivial)
      | (with_reducible exact Or.inr trivial)
      | (with_reducible exact Or.inr (Or.inl trivial))
      | (with_reducible exact Or.inr (Or.inr trivial))
      | (exact hW _ (by assumption))
      | (exact hW)
      | (exact hsm)
      | (exact hsm _ (by assumption))
      | (exact hC.1)
      | (exact hC.2)
      | (exact hon)
      | (exact (htx _ (by assumption)).1)
      | (exact (htx _ (by assumption)).2)
      | (exact (hty _ (by assumption)).1)
      | (exact (hty _ (by assumption)).2)
      | (exact hqu)
      | (refine H _ _ (fun Q2 f => ?_)
         simp only [C_X10_setFinal, true_and]
         (repeat' first | with_reducible apply And.intro | with_reducible intro _)
         all_goals first
           | (with_reducible exact rfl)
           | omega
           | assumption
           | contradiction
           | (rename trF _ _ _ => q9; exact absurd q9.1 hs)
           | (with_reducible exact Or.inl trivial)
           | (with_reducible exact Or.inr trivial)
           | (with_reducible exact Or.inr (Or.inl trivial))
           | (with_reducible exact Or.inr (Or.inr trivial))
           | (exact hW _ (by assumption))
           | (exact hW)
           | (exact hsm)
           | (exact hsm _ (by assumption))
           | (exact hC.1)
           | (exact hC.2)
           | (exact hon)
           | (exact (htx _ (by assumption)).1)
           | (exact (htx _ (by assumption)).2)
           | (exact (hty _ (by assumption)).1)
           | (exact (hty _ (by assumption)).2)
           | (exact hqu)
           | (exact f _ _ up_p (fun q => absurd q (by decide)) (lwI_u h)))
set_option maxRecDepth 100000 in
set_option maxHeartbeats 4000000 in
theorem lc_clearAutomaton {z : pvM} {s : Int} (h : lwI z) {Q : pvO → pvM → Prop} (H : ∀ (k : Int) (z1 : pvM), (∀ Q2 : pvO → pvM → Prop, (∀ z2, z2.1 39 8 = k → lwI z2 → Q2 (.inl none) z2) → C_X10_clearAutomaton [vR 39, vI s] z1 Q2) → Q (.inl (some (vI k))) z1) : C_L_clearAutomaton [vR 0, vI s] z Q := by
  have ha := h.1
  have hW := lw_W h
  have hwc := lw_wc h
  have hwd := lw_wd h
  have h7 : z.1 20 4 = z.1 39 7 := h.2.2.1.2.1
  have hag := lw_ag h
  rw [h7] at hag
  have hn := hwd.1
  have hpz : pzF z := h.2.2.2.2.2.1
  have hqu : ∃ L, quF z L := h.2.2.2.2.2.2.1
  have hem : psS z 13 emA := h.2.2.2.2.2.2.2.1
  have hsm : smP z := h.2.2.2.2.2.2.2.2
  have t1 := h.2.1.1
  have hhi : hiF z := h.2.2.2.1.1.1
  have h3 : z.1 36 3 = z.1 39 3 := h.2.2.2.1.1.2
  have h39 : 0 ≤ z.1 39 3 ∧ z.1 39 3 ≤ 8 := by rw [← h3]; exact hhi.2
  have hk4 := h.2.2.2.2.1.1
  have hC := lw_C h
  have hop : ∀ hs : 0 ≤ s ∧ s ≤ 1, autC (z.1 (rwC s)) = autR (z.1 40) s := fun hs => (ha s hs).1
  by_cases hs : 0 ≤ s ∧ s ≤ 1
  · have e := hop hs
    simp only [C_L_clearAutomaton, C_X9_clearAutomaton, wrN, if_true, if_false, reduceIte, Int.reduceEq, List.mem_cons, List.not_mem_nil, or_false, true_and, and_true, hf_0_0, hf_01_0, hf_01_1, hf_03_0, hf_03_3, hf_12_1, hf_12_2, hf_012_0, hf_012_1, hf_012_2, hf_2_2, e]
    (repeat' first | with_reducible apply And.intro | with_reducible intro _)
    all_goals first
      | (with_reducible exact rfl)
      | omega
      | assumption
      | contradiction
      | (rename trF _ _ _ => q9; exact absurd q9.1 hs)
      | (with_reducible exact Or.inl trivial)
      | (with_reducible exact Or.inr trivial)
      | (with_reducible exact Or.inr (Or.inl trivial))
      | (with_reducible exact Or.inr (Or.inr trivial))
      | (exact hW _ (by assumption))
      | (exact hW)
      | (exact hsm)
      | (exact hsm _ (by assumption))
      | (exact hC.1)
      | (exact hC.2)
      | (exact hon)
      | (exact (htx _ (by assumption)).1)
      | (exact (htx _ (by assumption)).2)
      | (exact (hty _ (by assumption)).1)
      | (exact (hty _ (by assumption)).2)
      | (exact hqu)
      | (refine H _ _ (fun Q2 f => ?_)
         simp only [C_X10_clearAutomaton, true_and]
         (repeat' first | with_reducible apply And.intro | with_reducible intro _)
         all_goals first
           | (with_reducible exact rfl)
           | omega
           | assumption
           | contradiction
           | (rename trF _ _ _ => q9; exact absurd q9.1 hs)
           | (with_reducible exact Or.inl trivial)
           | (with_reducible exact Or.inr trivial)
           | (with_reducible exact Or.inr (Or.inl trivial))
           | (with_reducible exact Or.inr (Or.inr trivial))
           | (exact hW _ (by assumption))
           | (exact hW)
           | (exact hsm)
           | (exact hsm _ (by assumption))
           | (exact hC.1)
           | (exact hC.2)
           | (exact hon)
           | (exact (htx _ (by assumption)).1)
           | (exact (htx _ (by assumption)).2)
           | (exact (hty _ (by assumption)).1)
           | (exact (hty _ (by assumption)).2)
           | (exact hqu)
           | (exact f _ up_p (lwI_u h)))
      | (rename frF [2, 4, 5, 9, 36, 37] [] z _ => fr
         refine H _ _ (fun Q2 f => ?_)
         have e40 := fr.1 40 (by decide)
         have e39 := fr.1 39 (by decide)
         simp only [C_X10_clearAutomaton, e39, e40, true_and]
         (repeat' first | with_reducible apply And.intro | with_reducible intro _)
         all_goals first
           | (with_reducible exact rfl)
           | omega
           | assumption
           | contradiction
           | (rename trF _ _ _ => q9; exact absurd q9.1 hs)
           | (with_reducible exact Or.inl trivial)
           | (with_reducible exact Or.inr trivial)
           | (with_reducible exact Or.inr (Or.inl trivial))
           | (with_reducible exact Or.inr (Or.inr trivial))
           | (exact hW _ (by assumption))
           | (exact hW)
           | (exact hsm)
           | (exact hsm _ (by assumption))
           | (exact hC.1)
           | (exact hC.2)
           | (exact hon)
           | (exact (htx _ (by assumption)).1)
           | (exact (htx _ (by assumption)).2)
           | (exact (hty _ (by assumption)).1)
           | (exact (hty _ (by assumption)).2)
           | (exact hqu)
           | (exact f _ up_p (lwI_u (lwI_o h)))
           | (rename frF [39, 40, 42] [] _ _ => fr2
              refine f _ (by assumption) ?_
              exact lw_op (s := s) (b := _) (fun _ => clA) h hs fr (by assumption) (by assumption) (by first | assumption | (rw [e]; assumption)) (by assumption) (by assumption) fr2 (by assumption) (by assumption) (by assumption) (by assumption)))
  · simp only [C_L_clearAutomaton, C_X9_clearAutomaton, wrN, if_true, if_false, reduceIte, Int.reduceEq, List.mem_cons, List.not_mem_nil, or_false, true_and, and_true, hf_0_0, hf_01_0, hf_01_1, hf_03_0, hf_03_3, hf_12_1, hf_12_2, hf_012_0, hf_012_1, hf_012_2, hf_2_2]
    (repeat' first | with_reducible apply And.intro | with_reducible intro _)
    all_goals first
      | (with_reducible exact rfl)
      | omega
      | assumption
      | contradiction
      | (rename trF _ _ _ => q9; exact absurd q9.1 hs)
      | (with_reducible exact Or.inl trivial)
      | (with_reducible exact Or.inr trivial)
      | (with_reducible exact Or.inr (Or.inl trivial))
      | (with_reducible exact Or.inr (Or.inr trivial))
      | (exact hW _ (by assumption))
      | (exact hW)
      | (exact hsm)
      | (exact hsm _ (by assumption))
      | (exact hC.1)
      | (exact hC.2)
      | (exact hon)
      | (exact (htx _ (by assumption)).1)
      | (exact (htx _ (by assumption)).2)
      | (exact (hty _ (by assumption)).1)
      | (exact (hty _ (by assumption)).2)
      | (exact hqu)
      | (refine H _ _ (fun Q2 f => ?_)
         simp only [C_X10_clearAutomaton, true_and]
         (repeat' first | with_reducible apply And.intro | with_reducible intro _)
         all_goals first
           | (with_reducible exact rfl)
           | omega
           | assumption
           | contradiction
           | (rename trF _ _ _ => q9; exact absurd q9.1 hs)
           | (with_reducible exact Or.inl trivial)
           | (with_reducible exact Or.inr trivial)
           | (with_reducible exact Or.inr (Or.inl trivial))
           | (with_reducible exact Or.inr (Or.inr trivial))
           | (exact hW _ (by assumption))
           | (exact hW)
           | (exact hsm)
           | (exact hsm _ (by assumption))
           | (exact hC.1)
           | (exact hC.2)
           | (exact hon)
           | (exact (htx _ (by assumption)).1)
           | (exact (htx _ (by assumption)).2)
           | (exact (hty _ (by assumption)).1)
           | (exact (hty _ (by assumption)).2)
           | (exact hqu)
           | (exact f _ up_p (lwI_u h)))
set_option maxRecDepth 100000 in
set_option maxHeartbeats 4000000 in
theorem lc_copyAutomaton {z : pvM} {s : Int} (h : lwI z) {Q : pvO → pvM → Prop} (H : ∀ (k : Int) (z1 : pvM), (∀ Q2 : pvO → pvM → Prop, (∀ z2, z2.1 39 8 = k → lwI z2 → Q2 (.inl none) z2) → C_X10_copyAutomaton [vR 39, vI s] z1 Q2) → Q (.inl (some (vI k))) z1) : C_L_copyAutomaton [vR 0, vI s] z Q := by
  have ha := h.1
  have hW := lw_W h
  have hwc := lw_wc h
  have hwd := lw_wd h
  have h7 : z.1 20 4 = z.1 39 7 := h.2.2.1.2.1
  have hag := lw_ag h
  rw [h7] at hag
  have hn := hwd.1
  have hpz : pzF z := h.2.2.2.2.2.1
  have hqu : ∃ L, quF z L := h.2.2.2.2.2.2.1
  have hem : psS z 13 emA := h.2.2.2.2.2.2.2.1
  have hsm : smP z := h.2.2.2.2.2.2.2.2
  have t1 := h.2.1.1
  have hhi : hiF z := h.2.2.2.1.1.1
  have h3 : z.1 36 3 = z.1 39 3 := h.2.2.2.1.1.2
  have h39 : 0 ≤ z.1 39 3 ∧ z.1 39 3 ≤ 8 := by rw [← h3]; exact hhi.2
  have hk4 := h.2.2.2.2.1.1
  have hC := lw_C h
  have hop : ∀ hs : 0 ≤ s ∧ s ≤ 1, autC (z.1 (rwC s)) = autR (z.1 40) s := fun hs => (ha s hs).1
  by_cases hs : 0 ≤ s ∧ s ≤ 1
  · have e := hop hs
    simp only [C_L_copyAutomaton, C_X9_copyAutomaton, wrN, if_true, if_false, reduceIte, Int.reduceEq, List.mem_cons, List.not_mem_nil, or_false, true_and, and_true, hf_0_0, hf_01_0, hf_01_1, hf_03_0, hf_03_3, hf_12_1, hf_12_2, hf_012_0, hf_012_1, hf_012_2, hf_2_2, e]
    (repeat' first | with_reducible apply And.intro | with_reducible intro _)
    all_goals first
      | (with_reducible exact rfl)
      | omega
      | assumption
      | contradiction
      | (rename trF _ _ _ => q9; exact absurd q9.1 hs)
      | (with_reducible exact Or.inl trivial)
      | (with_reducible exact Or.inr trivial)
      | (with_reducible exact Or.inr (Or.inl trivial))
      | (with_reducible exact Or.inr (Or.inr trivial))
      | (exact hW _ (by assumption))
      | (exact hW)
      | (exact hsm)
      | (exact hsm _ (by assumption))
      | (exact hC.1)
      | (exact hC.2)
      | (exact hon)
      | (exact (htx _ (by assumption)).1)
      | (exact (htx _ (by assumption)).2)
      | (exact (hty _ (by assumption)).1)
      | (exact (hty _ (by assumption)).2)
      | (exact hqu)
      | (refine H _ _ (fun Q2 f => ?_)
         simp only [C_X10_copyAutomaton, true_and]
         (repeat' first | with_reducible apply And.intro | with_reducible intro _)
         all_goals first
           | (with_reducible exact rfl)
           | omega
           | assumption
           | contradiction
           | (rename trF _ _ _ => q9; exact absurd q9.1 hs)
           | (with_reducible exact Or.inl trivial)
           | (with_reducible exact Or.inr trivial)
           | (with_reducible exact Or.inr (Or.inl trivial))
           | (with_reducible exact Or.inr (Or.inr trivial))
           | (exact hW _ (by assumption))
           | (exact hW)
           | (exact hsm)
           | (exact hsm _ (by assumption))
           | (exact hC.1)
           | (exact hC.2)
           | (exact hon)
           | (exact (htx _ (by assumption)).1)
           | (exact (htx _ (by assumption)).2)
           | (exact (hty _ (by assumption)).1)
           | (exact (hty _ (by assumption)).2)
           | (exact hqu)
           | (exact f _ up_p (lwI_u h)))
      | (rename frF [2, 4, 5, 9, 36, 37] [] z _ => fr
         refine H _ _ (fun Q2 f => ?_)
         have e40 := fr.1 40 (by decide)
         have e39 := fr.1 39 (by decide)
         simp only [C_X10_copyAutomaton, e39, e40, true_and]
         (repeat' first | with_reducible apply And.intro | with_reducible intro _)
         all_goals first
           | (with_reducible exact rfl)
           | omega
           | assumption
           | contradiction
           | (rename trF _ _ _ => q9; exact absurd q9.1 hs)
           | (with_reducible exact Or.inl trivial)
           | (with_reducible exact Or.inr trivial)
           | (with_reducible exact Or.inr (Or.inl trivial))
           | (with_reducible exact Or.inr (Or.inr trivial))
           | (exact hW _ (by assumption))
           | (exact hW)
           | (exact hsm)
           | (exact hsm _ (by assumption))
           | (exact hC.1)
           | (exact hC.2)
           | (exact hon)
           | (exact (htx _ (by assumption)).1)
           | (exact (htx _ (by assumption)).2)
           | (exact (hty _ (by assumption)).1)
           | (exact (hty _ (by assumption)).2)
           | (exact hqu)
           | (exact f _ up_p (lwI_u (lwI_o h)))
           | (rename frF [39, 40, 42] [] _ _ => fr2
              refine f _ (by assumption) ?_
              exact lw_cp (s := s) (b := _) h hs fr (by assumption) (by assumption) (by first | assumption | (rw [e]; assumption)) fr2 (by assumption) (by assumption) (by assumption)))
  · simp only [C_L_copyAutomaton, C_X9_copyAutomaton, wrN, if_true, if_false, reduceIte, Int.reduceEq, List.mem_cons, List.not_mem_nil, or_false, true_and, and_true, hf_0_0, hf_01_0, hf_01_1, hf_03_0, hf_03_3, hf_12_1, hf_12_2, hf_012_0, hf_012_1, hf_012_2, hf_2_2]
    (repeat' first | with_reducible apply And.intro | with_reducible intro _)
    all_goals first
      | (with_reducible exact rfl)
      | omega
      | assumption
      | contradiction
      | (rename trF _ _ _ => q9; exact absurd q9.1 hs)
      | (with_reducible exact Or.inl trivial)
      | (with_reducible exact Or.inr trivial)
      | (with_reducible exact Or.inr (Or.inl trivial))
      | (with_reducible exact Or.inr (Or.inr trivial))
      | (exact hW _ (by assumption))
      | (exact hW)
      | (exact hsm)
      | (exact hsm _ (by assumption))
      | (exact hC.1)
      | (exact hC.2)
      | (exact hon)
      | (exact (htx _ (by assumption)).1)
      | (exact (htx _ (by assumption)).2)
      | (exact (hty _ (by assumption)).1)
      | (exact (hty _ (by assumption)).2)
      | (exact hqu)
      | (refine H _ _ (fun Q2 f => ?_)
         simp only [C_X10_copyAutomaton, true_and]
         (repeat' first | with_reducible apply And.intro | with_reducible intro _)
         all_goals first
           | (with_reducible exact rfl)
           | omega
           | assumption
           | contradiction
           | (rename trF _ _ _ => q9; exact absurd q9.1 hs)
           | (with_reducible exact Or.inl trivial)
           | (with_reducible exact Or.inr trivial)
           | (with_reducible exact Or.inr (Or.inl trivial))
           | (with_reducible exact Or.inr (Or.inr trivial))
           | (exact hW _ (by assumption))
           | (exact hW)
           | (exact hsm)
           | (exact hsm _ (by assumption))
           | (exact hC.1)
           | (exact hC.2)
           | (exact hon)
           | (exact (htx _ (by assumption)).1)
           | (exact (htx _ (by assumption)).2)
           | (exact (hty _ (by assumption)).1)
           | (exact (hty _ (by assumption)).2)
           | (exact hqu)
           | (exact f _ up_p (lwI_u h)))
set_option maxRecDepth 100000 in
set_option maxHeartbeats 4000000 in
theorem lc_appendCharacter {z : pvM} {c : Int} (h : lwI z) {Q : pvO → pvM → Prop} (H : ∀ (k : Int) (z1 : pvM), (∀ Q2 : pvO → pvM → Prop, (∀ b z2, z2.1 39 8 = k → (k = 0 → z2.2.1 58 0 = b ∧ pvRL b) → lwI z2 → Q2 (.inl (some (vI b))) z2) → C_X10_appendCharacter [vR 39, vI c] z1 Q2) → Q (.inl (some (vI k))) z1) : C_L_appendCharacter [vR 0, vI c, vR 58] z Q := by
  have ha := h.1
  have hW := lw_W h
  have hwc := lw_wc h
  have hwd := lw_wd h
  have h7 : z.1 20 4 = z.1 39 7 := h.2.2.1.2.1
  have hag := lw_ag h
  rw [h7] at hag
  have hn := hwd.1
  have hpz : pzF z := h.2.2.2.2.2.1
  have hqu : ∃ L, quF z L := h.2.2.2.2.2.2.1
  have hem : psS z 13 emA := h.2.2.2.2.2.2.2.1
  have hsm : smP z := h.2.2.2.2.2.2.2.2
  have t1 := h.2.1.1
  have hhi : hiF z := h.2.2.2.1.1.1
  have h3 : z.1 36 3 = z.1 39 3 := h.2.2.2.1.1.2
  have h39 : 0 ≤ z.1 39 3 ∧ z.1 39 3 ≤ 8 := by rw [← h3]; exact hhi.2
  have hk4 := h.2.2.2.2.1.1
  have hC := lw_C h
  simp only [C_L_appendCharacter, C_X9_appendCharacter, wrI, if_true, if_false, reduceIte, Int.reduceEq, List.mem_cons, List.not_mem_nil, or_false, true_and, and_true, hf_0_0, hf_01_0, hf_01_1, hf_03_0, hf_03_3, hf_12_1, hf_12_2, hf_012_0, hf_012_1, hf_012_2, hf_2_2]
  (repeat' first | with_reducible apply And.intro | with_reducible intro _)
  all_goals first
    | (with_reducible exact rfl)
    | omega
    | assumption
    | contradiction
    | (rename trF _ _ _ => q9; exact absurd q9.1 hs)
    | (with_reducible exact Or.inl trivial)
    | (with_reducible exact Or.inr trivial)
    | (with_reducible exact Or.inr (Or.inl trivial))
    | (with_reducible exact Or.inr (Or.inr trivial))
    | (exact hW _ (by assumption))
    | (exact hW)
    | (exact hsm)
    | (exact hsm _ (by assumption))
    | (exact hC.1)
    | (exact hC.2)
    | (exact hon)
    | (exact (htx _ (by assumption)).1)
    | (exact (htx _ (by assumption)).2)
    | (exact (hty _ (by assumption)).1)
    | (exact (hty _ (by assumption)).2)
    | (exact hqu)
    | (refine H _ _ (fun Q2 f => ?_)
       simp only [C_X10_appendCharacter, true_and, pvUp_nl, pvSt_ne, ne_eq, Nat.reduceEqDiff, not_false_eq_true]
       (repeat' first | with_reducible apply And.intro | with_reducible intro _)
       all_goals first
         | (with_reducible exact rfl)
         | omega
         | assumption
         | contradiction
         | (rename trF _ _ _ => q9; exact absurd q9.1 hs)
         | (with_reducible exact Or.inl trivial)
         | (with_reducible exact Or.inr trivial)
         | (with_reducible exact Or.inr (Or.inl trivial))
         | (with_reducible exact Or.inr (Or.inr trivial))
         | (exact hW _ (by assumption))
         | (exact hW)
         | (exact hsm)
         | (exact hsm _ (by assumption))
         | (exact hC.1)
         | (exact hC.2)
         | (exact hon)
         | (exact (htx _ (by assumption)).1)
         | (exact (htx _ (by assumption)).2)
         | (exact (hty _ (by assumption)).1)
         | (exact (hty _ (by assumption)).2)
         | (exact hqu)
         | (exact f _ _ up_p (fun q => absurd q (by decide)) (lwI_u h))
         | (refine f _ _ (by simp [pvUp]) (fun _ => ⟨up_q.trans (by omega), by omega, by omega⟩) ?_
            refine lwI_x (ids := [17, 18, 39, 45]) (jds := [58]) h ?_ (by simp) ?_ ?_
            · (repeat' first | assumption | exact frF_0 | (refine frF_u ?_ (by decide)) | (refine frF_s ?_ (by decide)) | (refine frF_l ?_ (by decide)))
            · intro j hj
              rcases hj with rfl | rfl | rfl <;> simp [pvUp]
            · refine ti_ap (c := c) h.2.1 (by omega) (by omega) (by simp [pvUp]) (by simp [pvUp]) (fun j => by simp [pvUp]) (fun j => by simp [pvUp]) (by simp [pvUp]) (by simp [pvUp])))
theorem wi_ap {z w : pvM} {d l : Int} (t : wiF z) (hd : 0 ≤ d ∧ d ≤ 4) (hl : 0 ≤ l ∧ l ≤ 2) (hn : z.1 39 7 ≠ 10) (e4 : w.1 20 4 = z.1 20 4 + 1) (e3 : w.1 20 3 = rsF (psF (z.1 20 3) d) l) (e21 : ∀ j, w.1 21 j = if j = (z.1 20 4).toNat then d else z.1 21 j) (e22 : ∀ j, w.1 22 j = if j = (z.1 20 4).toNat then l else z.1 22 j) (e23 : ∀ j, w.1 23 j = if j = (z.1 20 4).toNat then psF (z.1 20 3) d else z.1 23 j)
    (e43 : ∀ j, w.1 43 j = if j = (z.1 39 7).toNat then d else z.1 43 j) (e44 : ∀ j, w.1 44 j = if j = (z.1 39 7).toNat then l else z.1 44 j) (k7 : w.1 39 7 = z.1 39 7 + 1) : wiF w := by
  obtain ⟨⟨⟨⟨w1, w2⟩, w3⟩, w4⟩, t2, t3⟩ := t
  have old : ∀ k : Nat, (k : Int) ≤ z.1 20 4 → vaF (w.1 21) (w.1 22) k = vaF (z.1 21) (z.1 22) k := fun k hk => va_x (n := z.1 20 4) (fun j hj => by
    rw [e21, e22, if_neg (by omega), if_neg (by omega)]
    exact ⟨rfl, rfl⟩) k hk
  refine ⟨⟨⟨⟨by omega, fun k hk => ?_⟩, fun k hk => ?_⟩, ?_⟩, by omega, fun j hj => ?_⟩
  · rw [e21, e22]
    by_cases q : k = (z.1 20 4).toNat
    · rw [if_pos q, if_pos q]
      exact ⟨hd, hl⟩
    · rw [if_neg q, if_neg q]
      exact w2 k (by omega)
  · rw [old k (by omega), e21, e23]
    by_cases q : k = (z.1 20 4).toNat
    · rw [if_pos q, if_pos q, q, ← w4]
    · rw [if_neg q, if_neg q]
      exact w3 k (by omega)
  · have e : (w.1 20 4).toNat = (z.1 20 4).toNat + 1 := by omega
    rw [e3, e]
    simp only [vaF]
    rw [old _ (by omega), e21, e22, if_pos rfl, if_pos rfl, ← w4]
  · rw [e21, e22, e43, e44, ← t2]
    by_cases q : j = (z.1 20 4).toNat
    · rw [if_pos q, if_pos q, if_pos q, if_pos q]
      exact ⟨rfl, rfl⟩
    · rw [if_neg q, if_neg q, if_neg q, if_neg q]
      exact t3 j (by omega)
set_option maxRecDepth 100000 in
set_option maxHeartbeats 4000000 in
theorem lc_appendEvent {z : pvM} {d l : Int} (h : lwI z) {Q : pvO → pvM → Prop} (H : ∀ (k : Int) (z1 : pvM), (∀ Q2 : pvO → pvM → Prop, (∀ b z2, z2.1 39 8 = k → (k = 0 → z2.2.1 58 0 = b ∧ pvRL b) → lwI z2 → Q2 (.inl (some (vI b))) z2) → C_X10_appendEvent [vR 39, vI d, vI l] z1 Q2) → Q (.inl (some (vI k))) z1) : C_L_appendEvent [vR 0, vI d, vI l, vR 58] z Q := by
  have ha := h.1
  have hW := lw_W h
  have hwc := lw_wc h
  have hwd := lw_wd h
  have h7 : z.1 20 4 = z.1 39 7 := h.2.2.1.2.1
  have hag := lw_ag h
  rw [h7] at hag
  have hn := hwd.1
  have hpz : pzF z := h.2.2.2.2.2.1
  have hqu : ∃ L, quF z L := h.2.2.2.2.2.2.1
  have hem : psS z 13 emA := h.2.2.2.2.2.2.2.1
  have hsm : smP z := h.2.2.2.2.2.2.2.2
  have t1 := h.2.1.1
  have hhi : hiF z := h.2.2.2.1.1.1
  have h3 : z.1 36 3 = z.1 39 3 := h.2.2.2.1.1.2
  have h39 : 0 ≤ z.1 39 3 ∧ z.1 39 3 ≤ 8 := by rw [← h3]; exact hhi.2
  have hk4 := h.2.2.2.2.1.1
  have hC := lw_C h
  have hva : 0 ≤ z.1 20 3 ∧ z.1 20 3 < 216 := by
    rw [h.2.2.1.1.2]
    exact vaF_r hwc.1 _ (by omega)
  simp only [C_L_appendEvent, C_X9_appendEvent, wrI, if_true, if_false, reduceIte, Int.reduceEq, List.mem_cons, List.not_mem_nil, or_false, true_and, and_true, hf_0_0, hf_01_0, hf_01_1, hf_03_0, hf_03_3, hf_12_1, hf_12_2, hf_012_0, hf_012_1, hf_012_2, hf_2_2]
  (repeat' first | with_reducible apply And.intro | with_reducible intro _)
  all_goals first
    | (with_reducible exact rfl)
    | omega
    | assumption
    | contradiction
    | (rename trF _ _ _ => q9; exact absurd q9.1 hs)
    | (with_reducible exact Or.inl trivial)
    | (with_reducible exact Or.inr trivial)
    | (with_reducible exact Or.inr (Or.inl trivial))
    | (with_reducible exact Or.inr (Or.inr trivial))
    | (exact hW _ (by assumption))
    | (exact hW)
    | (exact hsm)
    | (exact hsm _ (by assumption))
    | (exact hC.1)
    | (exact hC.2)
    | (exact hon)
    | (exact (htx _ (by assumption)).1)
    | (exact (htx _ (by assumption)).2)
    | (exact (hty _ (by assumption)).1)
    | (exact (hty _ (by assumption)).2)
    | (exact hqu)
    | (refine H _ _ (fun Q2 f => ?_)
       simp only [C_X10_appendEvent, true_and, pvUp_nl, pvSt_ne, ne_eq, Nat.reduceEqDiff, not_false_eq_true]
       (repeat' first | with_reducible apply And.intro | with_reducible intro _)
       all_goals first
         | (with_reducible exact rfl)
         | omega
         | assumption
         | contradiction
         | (rename trF _ _ _ => q9; exact absurd q9.1 hs)
         | (with_reducible exact Or.inl trivial)
         | (with_reducible exact Or.inr trivial)
         | (with_reducible exact Or.inr (Or.inl trivial))
         | (with_reducible exact Or.inr (Or.inr trivial))
         | (exact hW _ (by assumption))
         | (exact hW)
         | (exact hsm)
         | (exact hsm _ (by assumption))
         | (exact hC.1)
         | (exact hC.2)
         | (exact hon)
         | (exact (htx _ (by assumption)).1)
         | (exact (htx _ (by assumption)).2)
         | (exact (hty _ (by assumption)).1)
         | (exact (hty _ (by assumption)).2)
         | (exact hqu)
         | (exact f _ _ up_p (fun q => absurd q (by decide)) (lwI_u h))
         | (refine f _ _ (by simp [pvUp]) (fun _ => ⟨up_q.trans (by omega), by omega, by omega⟩) ?_
            have ff : frF [20, 21, 22, 23, 39, 43, 44] [58] z (pvUp (pvUp (pvUp (pvUp (pvUp (pvUp (pvUp (pvUp (pvUp z.1 21 (z.1 20 4).toNat d) 22 (z.1 20 4).toNat l) 23 (z.1 20 4).toNat (psF (z.1 20 3) d)) 20 3 (rsF (psF (z.1 20 3) d) l)) 20 4 (z.1 20 4 + 1)) 39 8 0) 43 (z.1 39 7).toNat d) 44 (z.1 39 7).toNat l) 39 7 (z.1 39 7 + 1), pvUp z.2.1 58 0 (z.1 20 4 + 1), z.2.2) := by
              (repeat' first | assumption | exact frF_0 | (refine frF_u ?_ (by decide)) | (refine frF_s ?_ (by decide)) | (refine frF_l ?_ (by decide)))
            refine lwI_w (ids := [20, 21, 22, 23, 39, 43, 44]) (jds := [58]) h ff (by simp) ?_ ?_ (pz_m hpz ff (by simp)) ?_
            · intro j hj
              rcases hj with rfl | rfl | rfl | rfl <;> simp [pvUp]
            · exact wi_ap (d := d) (l := l) h.2.2.1 (by omega) (by omega) (by omega) (by simp [pvUp]) (by simp [pvUp]) (fun j => by simp [pvUp]) (fun j => by simp [pvUp]) (fun j => by simp [pvUp]) (fun j => by simp [pvUp]) (fun j => by simp [pvUp]) (by simp [pvUp])
            · obtain ⟨L, hL⟩ := hqu
              exact ⟨L, quF_e hL (ff.1 28 (by decide)) (ff.1 29 (by decide)) (ff.1 30 (by decide))⟩))
set_option maxRecDepth 100000 in
set_option maxHeartbeats 4000000 in
theorem lc_addTransition {z : pvM} {s q a r : Int} (h : lwI z) {Q : pvO → pvM → Prop} (H : ∀ (k : Int) (z1 : pvM), (∀ Q2 : pvO → pvM → Prop, (∀ b z2, z2.1 39 8 = k → (k = 0 → z2.2.1 58 0 = b ∧ pvRL b) → lwI z2 → Q2 (.inl (some (vI b))) z2) → C_X10_addTransition [vR 39, vI s, vI q, vI a, vI r] z1 Q2) → Q (.inl (some (vI k))) z1) : C_L_addTransition [vR 0, vI s, vI q, vI a, vI r, vR 58] z Q := by
  have ha := h.1
  have hW := lw_W h
  have hwc := lw_wc h
  have hwd := lw_wd h
  have h7 : z.1 20 4 = z.1 39 7 := h.2.2.1.2.1
  have hag := lw_ag h
  rw [h7] at hag
  have hn := hwd.1
  have hpz : pzF z := h.2.2.2.2.2.1
  have hqu : ∃ L, quF z L := h.2.2.2.2.2.2.1
  have hem : psS z 13 emA := h.2.2.2.2.2.2.2.1
  have hsm : smP z := h.2.2.2.2.2.2.2.2
  have t1 := h.2.1.1
  have hhi : hiF z := h.2.2.2.1.1.1
  have h3 : z.1 36 3 = z.1 39 3 := h.2.2.2.1.1.2
  have h39 : 0 ≤ z.1 39 3 ∧ z.1 39 3 ≤ 8 := by rw [← h3]; exact hhi.2
  have hk4 := h.2.2.2.2.1.1
  have hC := lw_C h
  have htx : ∀ k : Nat, (k : Int) < z.1 17 1 → 0 ≤ z.1 18 k ∧ z.1 18 k ≤ 126 := fun k hk => by have := h.2.1.2 k hk; omega
  have hty : ∀ k : Nat, (k : Int) < z.1 39 10 → 0 ≤ z.1 45 k ∧ z.1 45 k ≤ 126 := fun k hk => by
    have := h.2.1.2 k (by omega)
    omega
  have er := rt_x h.2.1
  by_cases hs : 0 ≤ s ∧ s ≤ 1
  · have e := (ha s hs).1
    simp only [C_L_addTransition, C_X9_addTransition, wrI, if_true, if_false, reduceIte, Int.reduceEq, List.mem_cons, List.not_mem_nil, or_false, true_and, and_true, hf_0_0, hf_01_0, hf_01_1, hf_03_0, hf_03_3, hf_12_1, hf_12_2, hf_012_0, hf_012_1, hf_012_2, hf_2_2, e, ← er]
    (repeat' first | with_reducible apply And.intro | with_reducible intro _)
    all_goals first
      | (with_reducible exact rfl)
      | omega
      | assumption
      | contradiction
      | (rename trF _ _ _ => q9; exact absurd q9.1 hs)
      | (with_reducible exact Or.inl trivial)
      | (with_reducible exact Or.inr trivial)
      | (with_reducible exact Or.inr (Or.inl trivial))
      | (with_reducible exact Or.inr (Or.inr trivial))
      | (exact hW _ (by assumption))
      | (exact hW)
      | (exact hsm)
      | (exact hsm _ (by assumption))
      | (exact hC.1)
      | (exact hC.2)
      | (exact hon)
      | (exact (htx _ (by assumption)).1)
      | (exact (htx _ (by assumption)).2)
      | (exact (hty _ (by assumption)).1)
      | (exact (hty _ (by assumption)).2)
      | (exact hqu)
      | (refine H _ _ (fun Q2 f => ?_)
         simp only [C_X10_addTransition, true_and]
         (repeat' first | with_reducible apply And.intro | with_reducible intro _)
         all_goals first
           | (with_reducible exact rfl)
           | omega
           | assumption
           | contradiction
           | (rename trF _ _ _ => q9; exact absurd q9.1 hs)
           | (with_reducible exact Or.inl trivial)
           | (with_reducible exact Or.inr trivial)
           | (with_reducible exact Or.inr (Or.inl trivial))
           | (with_reducible exact Or.inr (Or.inr trivial))
           | (exact hW _ (by assumption))
           | (exact hW)
           | (exact hsm)
           | (exact hsm _ (by assumption))
           | (exact hC.1)
           | (exact hC.2)
           | (exact hon)
           | (exact (htx _ (by assumption)).1)
           | (exact (htx _ (by assumption)).2)
           | (exact (hty _ (by assumption)).1)
           | (exact (hty _ (by assumption)).2)
           | (exact hqu)
           | (exact f _ _ up_p (fun q => absurd q (by decide)) (lwI_u h)))
      | (rename frF [17, 19] [] z _ => fr
         refine H _ _ (fun Q2 f => ?_)
         have e40 := fr.1 40 (by decide)
         have e39 := fr.1 39 (by decide)
         have e45 := fr.1 45 (by decide)
         simp only [C_X10_addTransition, e39, e40, e45, true_and]
         (repeat' first | with_reducible apply And.intro | with_reducible intro _)
         all_goals first
           | (with_reducible exact rfl)
           | omega
           | assumption
           | contradiction
           | (rename trF _ _ _ => q9; exact absurd q9.1 hs)
           | (with_reducible exact Or.inl trivial)
           | (with_reducible exact Or.inr trivial)
           | (with_reducible exact Or.inr (Or.inl trivial))
           | (with_reducible exact Or.inr (Or.inr trivial))
           | (exact hW _ (by assumption))
           | (exact hW)
           | (exact hsm)
           | (exact hsm _ (by assumption))
           | (exact hC.1)
           | (exact hC.2)
           | (exact hon)
           | (exact (htx _ (by assumption)).1)
           | (exact (htx _ (by assumption)).2)
           | (exact (hty _ (by assumption)).1)
           | (exact (hty _ (by assumption)).2)
           | (exact hqu)
           | (exact f _ _ up_p (fun q => absurd q (by decide)) (lwI_u (lwI_o h)))
           | (rename frF [39, 46] [] _ _ => fr2
              exact f _ _ (by assumption) (fun q => absurd q (by decide)) (lw_rj (b := _) h fr fr2 (by assumption) (by assumption) (by assumption) (by rw [← er]; assumption) (by assumption) (by assumption))))
      | (rename frF [2, 4, 5, 9, 17, 19, 36, 37] [] z _ => fr
         refine H _ _ (fun Q2 f => ?_)
         have e40 := fr.1 40 (by decide)
         have e39 := fr.1 39 (by decide)
         have e45 := fr.1 45 (by decide)
         simp only [C_X10_addTransition, e39, e40, e45, true_and]
         (repeat' first | with_reducible apply And.intro | with_reducible intro _)
         all_goals first
           | (with_reducible exact rfl)
           | omega
           | assumption
           | contradiction
           | (rename trF _ _ _ => q9; exact absurd q9.1 hs)
           | (with_reducible exact Or.inl trivial)
           | (with_reducible exact Or.inr trivial)
           | (with_reducible exact Or.inr (Or.inl trivial))
           | (with_reducible exact Or.inr (Or.inr trivial))
           | (exact hW _ (by assumption))
           | (exact hW)
           | (exact hsm)
           | (exact hsm _ (by assumption))
           | (exact hC.1)
           | (exact hC.2)
           | (exact hon)
           | (exact (htx _ (by assumption)).1)
           | (exact (htx _ (by assumption)).2)
           | (exact (hty _ (by assumption)).1)
           | (exact (hty _ (by assumption)).2)
           | (exact hqu)
           | (exact f _ _ up_p (fun q => absurd q (by decide)) (lwI_u (lwI_o h)))
           | (rename frF [39, 40, 42, 46] [] _ _ => fr2
              exact f _ _ (by assumption) (fun _ => ⟨((congrFun (fr2.2.1 58 (by simp)) 0).trans up_q), rl_of (by assumption)⟩) (lw_ad (s := s) (b := _) (fun A => adA A q a r (rtF (z.1 45) (z.1 39 10)).2.1 (rtF (z.1 45) (z.1 39 10)).2.2) h hs fr (by assumption) (by assumption) (by first | assumption | (rw [e]; assumption)) (by assumption) (by assumption) fr2 (by assumption) (by assumption) (by assumption) (by assumption) (by assumption) (by rw [← er]; assumption) (by assumption) (by assumption))))
  · simp only [C_L_addTransition, C_X9_addTransition, wrI, if_true, if_false, reduceIte, Int.reduceEq, List.mem_cons, List.not_mem_nil, or_false, true_and, and_true, hf_0_0, hf_01_0, hf_01_1, hf_03_0, hf_03_3, hf_12_1, hf_12_2, hf_012_0, hf_012_1, hf_012_2, hf_2_2]
    (repeat' first | with_reducible apply And.intro | with_reducible intro _)
    all_goals first
      | (with_reducible exact rfl)
      | omega
      | assumption
      | contradiction
      | (rename trF _ _ _ => q9; exact absurd q9.1 hs)
      | (with_reducible exact Or.inl trivial)
      | (with_reducible exact Or.inr trivial)
      | (with_reducible exact Or.inr (Or.inl trivial))
      | (with_reducible exact Or.inr (Or.inr trivial))
      | (exact hW _ (by assumption))
      | (exact hW)
      | (exact hsm)
      | (exact hsm _ (by assumption))
      | (exact hC.1)
      | (exact hC.2)
      | (exact hon)
      | (exact (htx _ (by assumption)).1)
      | (exact (htx _ (by assumption)).2)
      | (exact (hty _ (by assumption)).1)
      | (exact (hty _ (by assumption)).2)
      | (exact hqu)
      | (refine H _ _ (fun Q2 f => ?_)
         simp only [C_X10_addTransition, true_and]
         (repeat' first | with_reducible apply And.intro | with_reducible intro _)
         all_goals first
           | (with_reducible exact rfl)
           | omega
           | assumption
           | contradiction
           | (rename trF _ _ _ => q9; exact absurd q9.1 hs)
           | (with_reducible exact Or.inl trivial)
           | (with_reducible exact Or.inr trivial)
           | (with_reducible exact Or.inr (Or.inl trivial))
           | (with_reducible exact Or.inr (Or.inr trivial))
           | (exact hW _ (by assumption))
           | (exact hW)
           | (exact hsm)
           | (exact hsm _ (by assumption))
           | (exact hC.1)
           | (exact hC.2)
           | (exact hon)
           | (exact (htx _ (by assumption)).1)
           | (exact (htx _ (by assumption)).2)
           | (exact (hty _ (by assumption)).1)
           | (exact (hty _ (by assumption)).2)
           | (exact hqu)
           | (exact f _ _ up_p (fun q => absurd q (by decide)) (lwI_u h)))
set_option maxRecDepth 100000 in
set_option maxHeartbeats 4000000 in
theorem lc_takeWitness {z : pvM} {s : Int} (h : lwI z) {Q : pvO → pvM → Prop} (H : ∀ (k : Int) (z1 : pvM), (∀ Q2 : pvO → pvM → Prop, (∀ b z2, z2.1 39 8 = k → (k = 0 → z2.2.1 58 0 = b ∧ pvRL b) → lwI z2 → Q2 (.inl (some (vI b))) z2) → C_X10_takeWitness [vR 39, vI s] z1 Q2) → Q (.inl (some (vI k))) z1) : C_L_takeWitness [vR 0, vI s, vR 58] z Q := by
  have ha := h.1
  have hW := lw_W h
  have hwc := lw_wc h
  have hwd := lw_wd h
  have h7 : z.1 20 4 = z.1 39 7 := h.2.2.1.2.1
  have hag := lw_ag h
  rw [h7] at hag
  have hn := hwd.1
  have hpz : pzF z := h.2.2.2.2.2.1
  have hqu : ∃ L, quF z L := h.2.2.2.2.2.2.1
  have hem : psS z 13 emA := h.2.2.2.2.2.2.2.1
  have hsm : smP z := h.2.2.2.2.2.2.2.2
  have t1 := h.2.1.1
  have hhi : hiF z := h.2.2.2.1.1.1
  have h3 : z.1 36 3 = z.1 39 3 := h.2.2.2.1.1.2
  have h39 : 0 ≤ z.1 39 3 ∧ z.1 39 3 ≤ 8 := by rw [← h3]; exact hhi.2
  have hk4 := h.2.2.2.2.1.1
  have hC := lw_C h
  by_cases hs : 0 ≤ s ∧ s ≤ 1
  · have e := (ha s hs).1
    have e' := (ha (1 - s) (by omega)).1
    simp only [C_L_takeWitness, C_X9_takeWitness, wrI, if_true, if_false, reduceIte, Int.reduceEq, List.mem_cons, List.not_mem_nil, or_false, true_and, and_true, hf_0_0, hf_01_0, hf_01_1, hf_03_0, hf_03_3, hf_12_1, hf_12_2, hf_012_0, hf_012_1, hf_012_2, hf_2_2, e, e']
    (repeat' first | with_reducible apply And.intro | with_reducible intro _)
    all_goals first
      | (with_reducible exact rfl)
      | omega
      | assumption
      | contradiction
      | (rename trF _ _ _ => q9; exact absurd q9.1 hs)
      | (with_reducible exact Or.inl trivial)
      | (with_reducible exact Or.inr trivial)
      | (with_reducible exact Or.inr (Or.inl trivial))
      | (with_reducible exact Or.inr (Or.inr trivial))
      | (exact hW _ (by assumption))
      | (exact hW)
      | (exact hsm)
      | (exact hsm _ (by assumption))
      | (exact hC.1)
      | (exact hC.2)
      | (exact hon)
      | (exact (htx _ (by assumption)).1)
      | (exact (htx _ (by assumption)).2)
      | (exact (hty _ (by assumption)).1)
      | (exact (hty _ (by assumption)).2)
      | (exact hqu)
      | (refine H _ _ (fun Q2 f => ?_)
         simp only [C_X10_takeWitness, true_and]
         (repeat' first | with_reducible apply And.intro | with_reducible intro _)
         all_goals first
           | (with_reducible exact rfl)
           | omega
           | assumption
           | contradiction
           | (rename trF _ _ _ => q9; exact absurd q9.1 hs)
           | (with_reducible exact Or.inl trivial)
           | (with_reducible exact Or.inr trivial)
           | (with_reducible exact Or.inr (Or.inl trivial))
           | (with_reducible exact Or.inr (Or.inr trivial))
           | (exact hW _ (by assumption))
           | (exact hW)
           | (exact hsm)
           | (exact hsm _ (by assumption))
           | (exact hC.1)
           | (exact hC.2)
           | (exact hon)
           | (exact (htx _ (by assumption)).1)
           | (exact (htx _ (by assumption)).2)
           | (exact (hty _ (by assumption)).1)
           | (exact (hty _ (by assumption)).2)
           | (exact hqu)
           | (exact f _ _ up_p (fun q => absurd q (by decide)) (lwI_u h)))
      | (rename frF [5, 6, 7, 8, 9, 10, 11, 12, 20, 21, 22, 23, 28, 29, 30, 31, 32] [] z _ => fr
         rename fdF _ _ _ => fd
         refine H _ _ (fun Q2 f => ?_)
         have e40 := fr.1 40 (by decide)
         have e39 := fr.1 39 (by decide)
         have e52 := fr.1 52 (by decide)
         simp only [C_X10_takeWitness, smP, e39, e40, e52, true_and]
         (repeat' first | with_reducible apply And.intro | with_reducible intro _)
         all_goals first
           | (with_reducible exact rfl)
           | omega
           | assumption
           | contradiction
           | (rename trF _ _ _ => q9; exact absurd q9.1 hs)
           | (with_reducible exact Or.inl trivial)
           | (with_reducible exact Or.inr trivial)
           | (with_reducible exact Or.inr (Or.inl trivial))
           | (with_reducible exact Or.inr (Or.inr trivial))
           | (exact hW _ (by assumption))
           | (exact hW)
           | (exact hsm)
           | (exact hsm _ (by assumption))
           | (exact hC.1)
           | (exact hC.2)
           | (exact hon)
           | (exact (htx _ (by assumption)).1)
           | (exact (htx _ (by assumption)).2)
           | (exact (hty _ (by assumption)).1)
           | (exact (hty _ (by assumption)).2)
           | (exact hqu)
           | (exact f _ _ up_p (fun q => absurd q (by decide)) (lwI_u (lwI_o h)))
           | (exact False.elim ((by assumption : ¬ ∃ F, F ≤ 10 ∧ fdF (autR (z.1 40) s) (emA) F) ⟨_, by assumption, fd⟩))
           | (rename fdF _ _ _ => fd2
              rename frF [39, 43, 44, 48, 53, 54, 55] [] _ _ => fr2
              rename _ = autR (z.1 40) s => eA
              rename _ = emA => eB
              subst eA
              subst eB
              have eF := fd_un fd fd2
              subst eF
              exact f _ _ (by assumption) (fun _ => ⟨((congrFun (fr2.2.1 58 (by simp)) 0).trans up_q), rl_of (by assumption)⟩) (lw_wit (b := _) h fr (by assumption) (by assumption) (by assumption) ⟨_, by assumption⟩ fr2 (by assumption) (by assumption) (by assumption) (by assumption))))
      | (rename frF [5, 6, 7, 8, 9, 10, 11, 12, 28, 29, 30, 32] [] z _ => fr
         have hI := lwI_c h fr (by simp) (by assumption) ⟨_, by assumption⟩
         refine H _ _ (fun Q2 f => ?_)
         have e40 := fr.1 40 (by decide)
         have e39 := fr.1 39 (by decide)
         have e52 := fr.1 52 (by decide)
         simp only [C_X10_takeWitness, smP, e39, e40, e52, true_and]
         (repeat' first | with_reducible apply And.intro | with_reducible intro _)
         all_goals first
           | (with_reducible exact rfl)
           | omega
           | assumption
           | contradiction
           | (rename trF _ _ _ => q9; exact absurd q9.1 hs)
           | (with_reducible exact Or.inl trivial)
           | (with_reducible exact Or.inr trivial)
           | (with_reducible exact Or.inr (Or.inl trivial))
           | (with_reducible exact Or.inr (Or.inr trivial))
           | (exact hW _ (by assumption))
           | (exact hW)
           | (exact hsm)
           | (exact hsm _ (by assumption))
           | (exact hC.1)
           | (exact hC.2)
           | (exact hon)
           | (exact (htx _ (by assumption)).1)
           | (exact (htx _ (by assumption)).2)
           | (exact (hty _ (by assumption)).1)
           | (exact (hty _ (by assumption)).2)
           | (exact hqu)
           | (exact f _ _ up_p (fun q => absurd q (by decide)) (lwI_u (lwI_o hI)))
           | (rename frF [39, 48, 53, 55] [] _ _ => fr2
              exact f _ _ (by assumption) (fun q => absurd q (by decide)) (lwI_s (z := (_, _)) (lwI_o hI) fr2 (by simp) (by assumption) (by first | assumption | exact Eq.trans (by assumption) (congrFun e39.symm 7))))
           | (rename fdF _ _ _ => fd2
              rename _ = autR (z.1 40) s => eA
              rename _ = emA => eB
              subst eA
              subst eB
              exact False.elim ((by assumption : ¬ ∃ F, F ≤ 10 ∧ fdF (autR (z.1 40) s) (emA) F) ⟨_, by assumption, fd2⟩)))
  · simp only [C_L_takeWitness, C_X9_takeWitness, wrI, if_true, if_false, reduceIte, Int.reduceEq, List.mem_cons, List.not_mem_nil, or_false, true_and, and_true, hf_0_0, hf_01_0, hf_01_1, hf_03_0, hf_03_3, hf_12_1, hf_12_2, hf_012_0, hf_012_1, hf_012_2, hf_2_2]
    (repeat' first | with_reducible apply And.intro | with_reducible intro _)
    all_goals first
      | (with_reducible exact rfl)
      | omega
      | assumption
      | contradiction
      | (rename trF _ _ _ => q9; exact absurd q9.1 hs)
      | (with_reducible exact Or.inl trivial)
      | (with_reducible exact Or.inr trivial)
      | (with_reducible exact Or.inr (Or.inl trivial))
      | (with_reducible exact Or.inr (Or.inr trivial))
      | (exact hW _ (by assumption))
      | (exact hW)
      | (exact hsm)
      | (exact hsm _ (by assumption))
      | (exact hC.1)
      | (exact hC.2)
      | (exact hon)
      | (exact (htx _ (by assumption)).1)
      | (exact (htx _ (by assumption)).2)
      | (exact (hty _ (by assumption)).1)
      | (exact (hty _ (by assumption)).2)
      | (exact hqu)
      | (refine H _ _ (fun Q2 f => ?_)
         simp only [C_X10_takeWitness, true_and]
         (repeat' first | with_reducible apply And.intro | with_reducible intro _)
         all_goals first
           | (with_reducible exact rfl)
           | omega
           | assumption
           | contradiction
           | (rename trF _ _ _ => q9; exact absurd q9.1 hs)
           | (with_reducible exact Or.inl trivial)
           | (with_reducible exact Or.inr trivial)
           | (with_reducible exact Or.inr (Or.inl trivial))
           | (with_reducible exact Or.inr (Or.inr trivial))
           | (exact hW _ (by assumption))
           | (exact hW)
           | (exact hsm)
           | (exact hsm _ (by assumption))
           | (exact hC.1)
           | (exact hC.2)
           | (exact hon)
           | (exact (htx _ (by assumption)).1)
           | (exact (htx _ (by assumption)).2)
           | (exact (hty _ (by assumption)).1)
           | (exact (hty _ (by assumption)).2)
           | (exact hqu)
           | (exact f _ _ up_p (fun q => absurd q (by decide)) (lwI_u h)))
set_option maxRecDepth 100000 in
set_option maxHeartbeats 4000000 in
theorem lc_takeDifference {z : pvM} {s : Int} (h : lwI z) {Q : pvO → pvM → Prop} (H : ∀ (k : Int) (z1 : pvM), (∀ Q2 : pvO → pvM → Prop, (∀ b z2, z2.1 39 8 = k → (k = 0 → z2.2.1 58 0 = b ∧ pvRL b) → lwI z2 → Q2 (.inl (some (vI b))) z2) → C_X10_takeDifference [vR 39, vI s] z1 Q2) → Q (.inl (some (vI k))) z1) : C_L_takeDifference [vR 0, vI s, vR 58] z Q := by
  have ha := h.1
  have hW := lw_W h
  have hwc := lw_wc h
  have hwd := lw_wd h
  have h7 : z.1 20 4 = z.1 39 7 := h.2.2.1.2.1
  have hag := lw_ag h
  rw [h7] at hag
  have hn := hwd.1
  have hpz : pzF z := h.2.2.2.2.2.1
  have hqu : ∃ L, quF z L := h.2.2.2.2.2.2.1
  have hem : psS z 13 emA := h.2.2.2.2.2.2.2.1
  have hsm : smP z := h.2.2.2.2.2.2.2.2
  have t1 := h.2.1.1
  have hhi : hiF z := h.2.2.2.1.1.1
  have h3 : z.1 36 3 = z.1 39 3 := h.2.2.2.1.1.2
  have h39 : 0 ≤ z.1 39 3 ∧ z.1 39 3 ≤ 8 := by rw [← h3]; exact hhi.2
  have hk4 := h.2.2.2.2.1.1
  have hC := lw_C h
  by_cases hs : 0 ≤ s ∧ s ≤ 1
  · have e := (ha s hs).1
    have e' := (ha (1 - s) (by omega)).1
    simp only [C_L_takeDifference, C_X9_takeDifference, wrI, if_true, if_false, reduceIte, Int.reduceEq, List.mem_cons, List.not_mem_nil, or_false, true_and, and_true, hf_0_0, hf_01_0, hf_01_1, hf_03_0, hf_03_3, hf_12_1, hf_12_2, hf_012_0, hf_012_1, hf_012_2, hf_2_2, e, e']
    (repeat' first | with_reducible apply And.intro | with_reducible intro _)
    all_goals first
      | (with_reducible exact rfl)
      | omega
      | assumption
      | contradiction
      | (rename trF _ _ _ => q9; exact absurd q9.1 hs)
      | (with_reducible exact Or.inl trivial)
      | (with_reducible exact Or.inr trivial)
      | (with_reducible exact Or.inr (Or.inl trivial))
      | (with_reducible exact Or.inr (Or.inr trivial))
      | (exact hW _ (by assumption))
      | (exact hW)
      | (exact hsm)
      | (exact hsm _ (by assumption))
      | (exact hC.1)
      | (exact hC.2)
      | (exact hon)
      | (exact (htx _ (by assumption)).1)
      | (exact (htx _ (by assumption)).2)
      | (exact (hty _ (by assumption)).1)
      | (exact (hty _ (by assumption)).2)
      | (exact hqu)
      | (refine H _ _ (fun Q2 f => ?_)
         simp only [C_X10_takeDifference, true_and]
         (repeat' first | with_reducible apply And.intro | with_reducible intro _)
         all_goals first
           | (with_reducible exact rfl)
           | omega
           | assumption
           | contradiction
           | (rename trF _ _ _ => q9; exact absurd q9.1 hs)
           | (with_reducible exact Or.inl trivial)
           | (with_reducible exact Or.inr trivial)
           | (with_reducible exact Or.inr (Or.inl trivial))
           | (with_reducible exact Or.inr (Or.inr trivial))
           | (exact hW _ (by assumption))
           | (exact hW)
           | (exact hsm)
           | (exact hsm _ (by assumption))
           | (exact hC.1)
           | (exact hC.2)
           | (exact hon)
           | (exact (htx _ (by assumption)).1)
           | (exact (htx _ (by assumption)).2)
           | (exact (hty _ (by assumption)).1)
           | (exact (hty _ (by assumption)).2)
           | (exact hqu)
           | (exact f _ _ up_p (fun q => absurd q (by decide)) (lwI_u h)))
      | (rename _ = autR (z.1 40) s => cA
         rename _ = autR (z.1 40) (1 - s) => cB
         subst cA
         subst cB
         rename frF [5, 6, 7, 8, 9, 10, 11, 12, 20, 21, 22, 23, 28, 29, 30, 31, 32] [] z _ => fr
         rename fdF _ _ _ => fd
         refine H _ _ (fun Q2 f => ?_)
         have e40 := fr.1 40 (by decide)
         have e39 := fr.1 39 (by decide)
         have e52 := fr.1 52 (by decide)
         simp only [C_X10_takeDifference, smP, e39, e40, e52, true_and]
         (repeat' first | with_reducible apply And.intro | with_reducible intro _)
         all_goals first
           | (with_reducible exact rfl)
           | omega
           | assumption
           | contradiction
           | (rename trF _ _ _ => q9; exact absurd q9.1 hs)
           | (with_reducible exact Or.inl trivial)
           | (with_reducible exact Or.inr trivial)
           | (with_reducible exact Or.inr (Or.inl trivial))
           | (with_reducible exact Or.inr (Or.inr trivial))
           | (exact hW _ (by assumption))
           | (exact hW)
           | (exact hsm)
           | (exact hsm _ (by assumption))
           | (exact hC.1)
           | (exact hC.2)
           | (exact hon)
           | (exact (htx _ (by assumption)).1)
           | (exact (htx _ (by assumption)).2)
           | (exact (hty _ (by assumption)).1)
           | (exact (hty _ (by assumption)).2)
           | (exact hqu)
           | (exact f _ _ up_p (fun q => absurd q (by decide)) (lwI_u (lwI_o h)))
           | (exact False.elim ((by assumption : ¬ ∃ F, F ≤ 10 ∧ fdF (autR (z.1 40) s) (autR (z.1 40) (1 - s)) F) ⟨_, by assumption, fd⟩))
           | (rename fdF _ _ _ => fd2
              rename frF [39, 43, 44, 48, 53, 54, 55] [] _ _ => fr2
              rename _ = autR (z.1 40) s => eA
              rename _ = autR (z.1 40) (1 - s) => eB
              subst eA
              subst eB
              have eF := fd_un fd fd2
              subst eF
              exact f _ _ (by assumption) (fun _ => ⟨((congrFun (fr2.2.1 58 (by simp)) 0).trans up_q), rl_of (by assumption)⟩) (lw_wit (b := _) h fr (by assumption) (by assumption) (by assumption) ⟨_, by assumption⟩ fr2 (by assumption) (by assumption) (by assumption) (by assumption))))
      | (rename _ = autR (z.1 40) s => cA
         rename _ = autR (z.1 40) (1 - s) => cB
         subst cA
         subst cB
         rename frF [5, 6, 7, 8, 9, 10, 11, 12, 28, 29, 30, 32] [] z _ => fr
         have hI := lwI_c h fr (by simp) (by assumption) ⟨_, by assumption⟩
         refine H _ _ (fun Q2 f => ?_)
         have e40 := fr.1 40 (by decide)
         have e39 := fr.1 39 (by decide)
         have e52 := fr.1 52 (by decide)
         simp only [C_X10_takeDifference, smP, e39, e40, e52, true_and]
         (repeat' first | with_reducible apply And.intro | with_reducible intro _)
         all_goals first
           | (with_reducible exact rfl)
           | omega
           | assumption
           | contradiction
           | (rename trF _ _ _ => q9; exact absurd q9.1 hs)
           | (with_reducible exact Or.inl trivial)
           | (with_reducible exact Or.inr trivial)
           | (with_reducible exact Or.inr (Or.inl trivial))
           | (with_reducible exact Or.inr (Or.inr trivial))
           | (exact hW _ (by assumption))
           | (exact hW)
           | (exact hsm)
           | (exact hsm _ (by assumption))
           | (exact hC.1)
           | (exact hC.2)
           | (exact hon)
           | (exact (htx _ (by assumption)).1)
           | (exact (htx _ (by assumption)).2)
           | (exact (hty _ (by assumption)).1)
           | (exact (hty _ (by assumption)).2)
           | (exact hqu)
           | (exact f _ _ up_p (fun q => absurd q (by decide)) (lwI_u (lwI_o hI)))
           | (rename frF [39, 48, 53, 55] [] _ _ => fr2
              exact f _ _ (by assumption) (fun q => absurd q (by decide)) (lwI_s (z := (_, _)) (lwI_o hI) fr2 (by simp) (by assumption) (by first | assumption | exact Eq.trans (by assumption) (congrFun e39.symm 7))))
           | (rename fdF _ _ _ => fd2
              rename _ = autR (z.1 40) s => eA
              rename _ = autR (z.1 40) (1 - s) => eB
              subst eA
              subst eB
              exact False.elim ((by assumption : ¬ ∃ F, F ≤ 10 ∧ fdF (autR (z.1 40) s) (autR (z.1 40) (1 - s)) F) ⟨_, by assumption, fd2⟩)))
  · simp only [C_L_takeDifference, C_X9_takeDifference, wrI, if_true, if_false, reduceIte, Int.reduceEq, List.mem_cons, List.not_mem_nil, or_false, true_and, and_true, hf_0_0, hf_01_0, hf_01_1, hf_03_0, hf_03_3, hf_12_1, hf_12_2, hf_012_0, hf_012_1, hf_012_2, hf_2_2]
    (repeat' first | with_reducible apply And.intro | with_reducible intro _)
    all_goals first
      | (with_reducible exact rfl)
      | omega
      | assumption
      | contradiction
      | (rename trF _ _ _ => q9; exact absurd q9.1 hs)
      | (with_reducible exact Or.inl trivial)
      | (with_reducible exact Or.inr trivial)
      | (with_reducible exact Or.inr (Or.inl trivial))
      | (with_reducible exact Or.inr (Or.inr trivial))
      | (exact hW _ (by assumption))
      | (exact hW)
      | (exact hsm)
      | (exact hsm _ (by assumption))
      | (exact hC.1)
      | (exact hC.2)
      | (exact hon)
      | (exact (htx _ (by assumption)).1)
      | (exact (htx _ (by assumption)).2)
      | (exact (hty _ (by assumption)).1)
      | (exact (hty _ (by assumption)).2)
      | (exact hqu)
      | (refine H _ _ (fun Q2 f => ?_)
         simp only [C_X10_takeDifference, true_and]
         (repeat' first | with_reducible apply And.intro | with_reducible intro _)
         all_goals first
           | (with_reducible exact rfl)
           | omega
           | assumption
           | contradiction
           | (rename trF _ _ _ => q9; exact absurd q9.1 hs)
           | (with_reducible exact Or.inl trivial)
           | (with_reducible exact Or.inr trivial)
           | (with_reducible exact Or.inr (Or.inl trivial))
           | (with_reducible exact Or.inr (Or.inr trivial))
           | (exact hW _ (by assumption))
           | (exact hW)
           | (exact hsm)
           | (exact hsm _ (by assumption))
           | (exact hC.1)
           | (exact hC.2)
           | (exact hon)
           | (exact (htx _ (by assumption)).1)
           | (exact (htx _ (by assumption)).2)
           | (exact (hty _ (by assumption)).1)
           | (exact (hty _ (by assumption)).2)
           | (exact hqu)
           | (exact f _ _ up_p (fun q => absurd q (by decide)) (lwI_u h)))
set_option maxRecDepth 100000 in
set_option maxHeartbeats 4000000 in
theorem lc_undo {z : pvM} (h : lwI z) {Q : pvO → pvM → Prop} (H : ∀ (k : Int) (z1 : pvM), (∀ Q2 : pvO → pvM → Prop, (∀ b z2, z2.1 39 8 = k → (k = 0 → z2.2.1 58 0 = b ∧ pvRL b) → lwI z2 → Q2 (.inl (some (vI b))) z2) → C_X10_undo [vR 39] z1 Q2) → Q (.inl (some (vI k))) z1) : C_L_undo [vR 0, vR 58] z Q := by
  have ha := h.1
  have hW := lw_W h
  have hwc := lw_wc h
  have hwd := lw_wd h
  have h7 : z.1 20 4 = z.1 39 7 := h.2.2.1.2.1
  have hag := lw_ag h
  rw [h7] at hag
  have hn := hwd.1
  have hpz : pzF z := h.2.2.2.2.2.1
  have hqu : ∃ L, quF z L := h.2.2.2.2.2.2.1
  have hem : psS z 13 emA := h.2.2.2.2.2.2.2.1
  have hsm : smP z := h.2.2.2.2.2.2.2.2
  have t1 := h.2.1.1
  have hhi : hiF z := h.2.2.2.1.1.1
  have h3 : z.1 36 3 = z.1 39 3 := h.2.2.2.1.1.2
  have h39 : 0 ≤ z.1 39 3 ∧ z.1 39 3 ≤ 8 := by rw [← h3]; exact hhi.2
  have hk4 := h.2.2.2.2.1.1
  have hC := lw_C h
  simp only [C_L_undo, C_X9_undo, wrI, if_true, if_false, reduceIte, Int.reduceEq, List.mem_cons, List.not_mem_nil, or_false, true_and, and_true, hf_0_0, hf_01_0, hf_01_1, hf_03_0, hf_03_3, hf_12_1, hf_12_2, hf_012_0, hf_012_1, hf_012_2, hf_2_2]
  (repeat' first | with_reducible apply And.intro | with_reducible intro _)
  all_goals first
    | (with_reducible exact rfl)
    | omega
    | assumption
    | contradiction
    | (rename trF _ _ _ => q9; exact absurd q9.1 hs)
    | (with_reducible exact Or.inl trivial)
    | (with_reducible exact Or.inr trivial)
    | (with_reducible exact Or.inr (Or.inl trivial))
    | (with_reducible exact Or.inr (Or.inr trivial))
    | (exact hW _ (by assumption))
    | (exact hW)
    | (exact hsm)
    | (exact hsm _ (by assumption))
    | (exact hC.1)
    | (exact hC.2)
    | (exact hon)
    | (exact (htx _ (by assumption)).1)
    | (exact (htx _ (by assumption)).2)
    | (exact (hty _ (by assumption)).1)
    | (exact (hty _ (by assumption)).2)
    | (exact hqu)
    | (rename frF [2, 4, 5, 9, 36] [] z _ => fr
       refine H _ _ (fun Q2 f => ?_)
       have e39 := fr.1 39 (by decide)
       have e42 := fr.1 42 (by decide)
       simp only [C_X10_undo, e39, e42, true_and]
       (repeat' first | with_reducible apply And.intro | with_reducible intro _)
       all_goals first
         | (with_reducible exact rfl)
         | omega
         | assumption
         | contradiction
         | (rename trF _ _ _ => q9; exact absurd q9.1 hs)
         | (with_reducible exact Or.inl trivial)
         | (with_reducible exact Or.inr trivial)
         | (with_reducible exact Or.inr (Or.inl trivial))
         | (with_reducible exact Or.inr (Or.inr trivial))
         | (exact hW _ (by assumption))
         | (exact hW)
         | (exact hsm)
         | (exact hsm _ (by assumption))
         | (exact hC.1)
         | (exact hC.2)
         | (exact hon)
         | (exact (htx _ (by assumption)).1)
         | (exact (htx _ (by assumption)).2)
         | (exact (hty _ (by assumption)).1)
         | (exact (hty _ (by assumption)).2)
         | (exact hqu)
         | (rename frF [39, 40] [] _ _ => fr2
            exact f _ _ (by assumption) (fun _ => ⟨((congrFun (fr2.2.1 58 (by simp)) 0).trans up_q).trans (by omega), by omega, by omega⟩) (lw_un (b := _) h (by omega) fr (by assumption) (by assumption) (by assumption) (by assumption) (by assumption) (by assumption) fr2 (by assumption) (by assumption) (by assumption))))
    | (refine H _ _ (fun Q2 f => ?_)
       simp only [C_X10_undo, true_and]
       (repeat' first | with_reducible apply And.intro | with_reducible intro _)
       all_goals first
         | (with_reducible exact rfl)
         | omega
         | assumption
         | contradiction
         | (rename trF _ _ _ => q9; exact absurd q9.1 hs)
         | (with_reducible exact Or.inl trivial)
         | (with_reducible exact Or.inr trivial)
         | (with_reducible exact Or.inr (Or.inl trivial))
         | (with_reducible exact Or.inr (Or.inr trivial))
         | (exact hW _ (by assumption))
         | (exact hW)
         | (exact hsm)
         | (exact hsm _ (by assumption))
         | (exact hC.1)
         | (exact hC.2)
         | (exact hon)
         | (exact (htx _ (by assumption)).1)
         | (exact (htx _ (by assumption)).2)
         | (exact (hty _ (by assumption)).1)
         | (exact (hty _ (by assumption)).2)
         | (exact hqu)
         | (exact f _ _ up_p (fun q => absurd q (by decide)) (lwI_u h)))
set_option maxRecDepth 100000 in
set_option maxHeartbeats 4000000 in
theorem lc_restore {z : pvM} (h : lwI z) {Q : pvO → pvM → Prop} (H : ∀ (k : Int) (z1 : pvM), (∀ Q2 : pvO → pvM → Prop, (∀ z2, z2.1 39 8 = k → lwI z2 → Q2 (.inl none) z2) → C_X10_restore [vR 39] z1 Q2) → Q (.inl (some (vI k))) z1) : C_L_restore [vR 0] z Q := by
  have ha := h.1
  have hW := lw_W h
  have hwc := lw_wc h
  have hwd := lw_wd h
  have h7 : z.1 20 4 = z.1 39 7 := h.2.2.1.2.1
  have hag := lw_ag h
  rw [h7] at hag
  have hn := hwd.1
  have hpz : pzF z := h.2.2.2.2.2.1
  have hqu : ∃ L, quF z L := h.2.2.2.2.2.2.1
  have hem : psS z 13 emA := h.2.2.2.2.2.2.2.1
  have hsm : smP z := h.2.2.2.2.2.2.2.2
  have t1 := h.2.1.1
  have hhi : hiF z := h.2.2.2.1.1.1
  have h3 : z.1 36 3 = z.1 39 3 := h.2.2.2.1.1.2
  have h39 : 0 ≤ z.1 39 3 ∧ z.1 39 3 ≤ 8 := by rw [← h3]; exact hhi.2
  have hk4 := h.2.2.2.2.1.1
  have hC := lw_C h
  simp only [C_L_restore, C_X9_restore, wrN, if_true, if_false, reduceIte, Int.reduceEq, List.mem_cons, List.not_mem_nil, or_false, true_and, and_true, hf_0_0, hf_01_0, hf_01_1, hf_03_0, hf_03_3, hf_12_1, hf_12_2, hf_012_0, hf_012_1, hf_012_2, hf_2_2]
  (repeat' first | with_reducible apply And.intro | with_reducible intro _)
  all_goals first
    | (with_reducible exact rfl)
    | omega
    | assumption
    | contradiction
    | (rename trF _ _ _ => q9; exact absurd q9.1 hs)
    | (with_reducible exact Or.inl trivial)
    | (with_reducible exact Or.inr trivial)
    | (with_reducible exact Or.inr (Or.inl trivial))
    | (with_reducible exact Or.inr (Or.inr trivial))
    | (exact hW _ (by assumption))
    | (exact hW)
    | (exact hsm)
    | (exact hsm _ (by assumption))
    | (exact hC.1)
    | (exact hC.2)
    | (exact hon)
    | (exact (htx _ (by assumption)).1)
    | (exact (htx _ (by assumption)).2)
    | (exact (hty _ (by assumption)).1)
    | (exact (hty _ (by assumption)).2)
    | (exact hqu)
    | (rename frF [2, 4, 5, 9, 36, 37] [] z _ => fr
       refine H _ _ (fun Q2 f => ?_)
       have e39 := fr.1 39 (by decide)
       have e41 := fr.1 41 (by decide)
       simp only [C_X10_restore, e39, e41, true_and]
       (repeat' first | with_reducible apply And.intro | with_reducible intro _)
       all_goals first
         | (with_reducible exact rfl)
         | omega
         | assumption
         | contradiction
         | (rename trF _ _ _ => q9; exact absurd q9.1 hs)
         | (with_reducible exact Or.inl trivial)
         | (with_reducible exact Or.inr trivial)
         | (with_reducible exact Or.inr (Or.inl trivial))
         | (with_reducible exact Or.inr (Or.inr trivial))
         | (exact hW _ (by assumption))
         | (exact hW)
         | (exact hsm)
         | (exact hsm _ (by assumption))
         | (exact hC.1)
         | (exact hC.2)
         | (exact hon)
         | (exact (htx _ (by assumption)).1)
         | (exact (htx _ (by assumption)).2)
         | (exact (hty _ (by assumption)).1)
         | (exact (hty _ (by assumption)).2)
         | (exact hqu)
         | (rename frF [39, 40, 42] [] _ _ => fr2
            exact f _ (by assumption) (lw_rs (b := _) h (by assumption) fr (by assumption) (by assumption) (by assumption) (by assumption) fr2 (by assumption) (by assumption) (by assumption))))
    | (refine H _ _ (fun Q2 f => ?_)
       simp only [C_X10_restore, true_and]
       (repeat' first | with_reducible apply And.intro | with_reducible intro _)
       all_goals first
         | (with_reducible exact rfl)
         | omega
         | assumption
         | contradiction
         | (rename trF _ _ _ => q9; exact absurd q9.1 hs)
         | (with_reducible exact Or.inl trivial)
         | (with_reducible exact Or.inr trivial)
         | (with_reducible exact Or.inr (Or.inl trivial))
         | (with_reducible exact Or.inr (Or.inr trivial))
         | (exact hW _ (by assumption))
         | (exact hW)
         | (exact hsm)
         | (exact hsm _ (by assumption))
         | (exact hC.1)
         | (exact hC.2)
         | (exact hon)
         | (exact (htx _ (by assumption)).1)
         | (exact (htx _ (by assumption)).2)
         | (exact (hty _ (by assumption)).1)
         | (exact (hty _ (by assumption)).2)
         | (exact hqu)
         | (exact f _ up_p (lwI_u h)))
